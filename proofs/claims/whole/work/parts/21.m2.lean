section M2
set_option maxHeartbeats 4000000 in
set_option maxRecDepth 20000 in
theorem tm_begin (l : Launch) (D : va_G) (T : Nat → ClassId) (ad : Nat → Nat) (A : Nat → Prop) (nw : List Cond) (K n : Nat) {ρ : ST_} (hK : K < 4) : cm_ l D T ad K n A nw yn_M_begin (.code yn_M_begin cd_M_begin 2 none) 0 [] ρ (hm_begin K ρ) none := by
  refine go_in (by decide) (Nat.le_of_ble_eq_true rfl) (List.forall_mem_cons.mpr ⟨rfl, fun _ h => nomatch h⟩) ?_
  intro P e s m args below meth c X hr hnm hN
  replace X : Cx_ P l e (rm_d 0) s m args below meth c cd_M_begin 2 rn_M D cl_ (tys_ T) TG_ := X
  refine go_loc (L' := [(0, .ref (ad 0))]) rfl ?_
  first | refine go_aload_n (i := 0) X rfl rfl dc_M_begin_0 ?_ | refine go_aloadN_n (i := 0) X rfl rfl dc_M_begin_0 ?_
  refine go_iconst (v := 0) X (by decide) dc_M_begin_1 ?_
  refine gm_put X 28 2 (by decide) fl_M_102 rfl (tk_M 28 (by decide)) (mF_s2 _ _ _ _ _) dc_M_begin_2 ?_
  refine go_iconst (v := nI 0) X (by decide) dc_M_begin_5 ?_
  refine go_istore_n (i := 1) X rfl (by decide) dc_M_begin_6 ?_
  refine go_loc (L' := [(0, .ref (ad 0)), (1, .int (nI 0))]) rfl ?_
  refine go_eqw (w' := mW_ T ad K n (u1_ (u2_ ρ 0 2 0) 24 (fl_ (ρ 24) (pi_ K) 0))) (congrArg _ (by rw [fl_0]; exact (u1_id (u2_ ρ 0 2 0) 24).symm)) ?_
  refine (lp_up (P := fun j => Go_ P l e (rm_d 0) s m args below meth c D cl_ A 2 0 0 _ (mW_ T ad K n (u1_ (u2_ ρ 0 2 0) 24 (fl_ (ρ 24) (pi_ K) j))) 7 [(0, .ref (ad 0)), (1, .int (nI j))] []) 8 (fun j hj ih => ?_)) 0 (Nat.zero_le _)
  refine go_iload_n (i := 1) X rfl rfl dc_M_begin_7 ?_
  refine go_bipush (v := 8) X (by decide) dc_M_begin_8 ?_
  refine go_icmp_ge (tgt := 39) X dc_M_begin_10 (by decide) (fun h10 => ?_) (fun h10 => ?_)
  · have e8 : j = 8 := by rw [iz_le, iz_8, iz_nI (by omega)] at h10; omega
    subst e8
    refine gm_arr (by decide) (fun i hi => fl_all hi) ?_
    exact go_vret X hr dc_M_begin_39 rfl rfl
  · have hlt : j < 8 := by rw [iz_le, iz_8, iz_nI (by omega)] at h10; omega
    have hx : Ix_ (nI j) 8 j := Ix_n hlt (by decide)
    first | refine go_aload_n (i := 0) X rfl rfl dc_M_begin_13 ?_ | refine go_aloadN_n (i := 0) X rfl rfl dc_M_begin_13 ?_
    refine gm_get X 27 (by decide) fl_M_80 rfl dc_M_begin_14 ?_
    refine go_iload_n (i := 1) X rfl rfl dc_M_begin_17 ?_
    first | refine go_aload_n (i := 0) X rfl rfl dc_M_begin_18 ?_ | refine go_aloadN_n (i := 0) X rfl rfl dc_M_begin_18 ?_
    refine gm_get X 1 (by decide) fl_M_86 rfl dc_M_begin_19 ?_
    refine go_iconst (v := 3) X (by decide) dc_M_begin_22 ?_
    refine go_icmp_ne (tgt := 31) X dc_M_begin_23 (by decide) (fun h23 => ?_) (fun h23 => ?_)
    · have hpi : pi_ K = 0 := by unfold pi_; rw [if_neg (fun q => h23 (by rw [q]; decide))]
      refine go_iconst (v := 0) X (by decide) dc_M_begin_31 ?_
      refine gm_st X (by decide) (by assumption) dc_M_begin_32 ?_
      refine go_iinc (i := 1) (v := nI (j + 1)) X rfl (by rw [lit1]; exact nI_1 j) (by decide) dc_M_begin_33 ?_
      refine go_goto (tgt := 7) X dc_M_begin_36 (by decide) ?_
      refine go_loc (L' := [(0, .ref (ad 0)), (1, .int (nI (j + 1)))]) rfl ?_
      refine go_eqw (w' := mW_ T ad K n (u1_ (u2_ ρ 0 2 0) 24 (fl_ (ρ 24) (pi_ K) (j + 1)))) (congrArg _ (by rw [u12_id]; exact congrArg (u1_ (u2_ ρ 0 2 0) 24) (by rw [← fl_s, hpi]))) ?_
      exact ih (by omega)
    · have hpi : pi_ K = 100 := by unfold pi_; rw [if_pos ((nI_K hK 3 (by decide)).mp h23)]
      refine go_bipush (v := 100) X (by decide) dc_M_begin_26 ?_
      refine go_goto (tgt := 32) X dc_M_begin_28 (by decide) ?_
      refine gm_st X (by decide) (by assumption) dc_M_begin_32 ?_
      refine go_iinc (i := 1) (v := nI (j + 1)) X rfl (by rw [lit1]; exact nI_1 j) (by decide) dc_M_begin_33 ?_
      refine go_goto (tgt := 7) X dc_M_begin_36 (by decide) ?_
      refine go_loc (L' := [(0, .ref (ad 0)), (1, .int (nI (j + 1)))]) rfl ?_
      refine go_eqw (w' := mW_ T ad K n (u1_ (u2_ ρ 0 2 0) 24 (fl_ (ρ 24) (pi_ K) (j + 1)))) (congrArg _ (by rw [u12_id]; exact congrArg (u1_ (u2_ ρ 0 2 0) 24) (by rw [← fl_s, hpi]))) ?_
      exact ih (by omega)
set_option maxHeartbeats 4000000 in
set_option maxRecDepth 20000 in
theorem tm_table (l : Launch) (D : va_G) (T : Nat → ClassId) (ad : Nat → Nat) (A : Nat → Prop) (nw : List Cond) (K n : Nat) {ρ : ST_} {op a b : Int32} : cm_ l D T ad K n A nw yn_M_table (.code yn_M_table cd_M_table 6 (some .int)) 0 [.int op, .int a, .int b] ρ (u2_ (u1_ ρ 24 (pt_ op a b (ρ 24) (ρ 0 2)).1) 0 2 (pt_ op a b (ρ 24) (ρ 0 2)).2.1) (some (.int (pt_ op a b (ρ 24) (ρ 0 2)).2.2)) := by
  refine go_in (by decide) (Nat.le_of_ble_eq_true rfl) (List.forall_mem_cons.mpr ⟨rfl, List.forall_mem_cons.mpr ⟨rfl, List.forall_mem_cons.mpr ⟨rfl, List.forall_mem_cons.mpr ⟨rfl, fun _ h => nomatch h⟩⟩⟩⟩) ?_
  intro P e s m args below meth c X hr hnm hN
  replace X : Cx_ P l e (rm_d 0) s m args below meth c cd_M_table 6 rn_M D cl_ (tys_ T) TG_ := X
  refine go_loc (L' := [(0, .ref (ad 0)), (1, .int op), (2, .int a), (3, .int b)]) rfl ?_
  refine go_iconst (v := 0) X (by decide) dc_M_table_0 ?_
  refine go_istore (i := 4) X (by decide) dc_M_table_1 ?_
  refine go_iconst (v := nI 0) X (by decide) dc_M_table_3 ?_
  refine go_istore (i := 5) X (by decide) dc_M_table_4 ?_
  refine go_loc (L' := [(0, .ref (ad 0)), (1, .int op), (2, .int a), (3, .int b), (4, .int (sm_ (ρ 24) 0)), (5, .int (nI 0))]) rfl ?_
  refine (lp_up (P := fun j => Go_ P l e (rm_d 0) s m args below meth c D cl_ A 6 0 0 _ (mW_ T ad K n (ρ)) 6 [(0, .ref (ad 0)), (1, .int op), (2, .int a), (3, .int b), (4, .int (sm_ (ρ 24) j)), (5, .int (nI j))] []) 8 (fun j hj ih => ?_)) 0 (Nat.zero_le _)
  refine go_iload (i := 5) X rfl dc_M_table_6 ?_
  refine go_bipush (v := 8) X (by decide) dc_M_table_8 ?_
  refine go_icmp_ge (tgt := 31) X dc_M_table_10 (by decide) (fun h10 => ?_) (fun h10 => ?_)
  · have e8 : j = 8 := by rw [iz_le, iz_8, iz_nI (by omega)] at h10; omega
    subst e8
    have h7 := ix_and7 a
    first | refine go_aload_n (i := 0) X rfl rfl dc_M_table_31 ?_ | refine go_aloadN_n (i := 0) X rfl rfl dc_M_table_31 ?_
    refine gm_get X 27 (by decide) fl_M_80 rfl dc_M_table_32 ?_
    refine go_iload_n (i := 2) X rfl rfl dc_M_table_35 ?_
    refine go_bipush (v := 7) X (by decide) dc_M_table_36 ?_
    refine go_iand X dc_M_table_38 ?_
    refine gm_ld (f := ρ 24) X rfl (by decide) (by assumption) dc_M_table_39 ?_
    refine go_istore (i := 5) X (by decide) dc_M_table_40 ?_
    refine go_iload_n (i := 1) X rfl rfl dc_M_table_42 ?_
    refine go_if_ne (tgt := 56) X dc_M_table_43 (by decide) (fun h43 => ?_) (fun h43 => ?_)
    · refine go_iload_n (i := 1) X rfl rfl dc_M_table_56 ?_
      refine go_iconst (v := 2) X (by decide) dc_M_table_57 ?_
      refine go_icmp_ne (tgt := 66) X dc_M_table_58 (by decide) (fun h58 => ?_) (fun h58 => ?_)
      · refine go_iload (i := 5) X rfl dc_M_table_66 ?_
        exact go_iret X hr dc_M_table_68 (congrArg (mW_ T ad K n) (by unfold pt_; (repeat' split) <;> (try dsimp only) <;> first | with_reducible rfl | (simp only [u2_24, u11_24, u1_24, u21_id, u1_id, u2_id]; done) | (exfalso; (try clear ih); (simp only [iz_lt, iz_le, iz_eq, iz_0, iz_1, iz_2, iz_3, iz_4, iz_5, iz_6, iz_7, iz_8, iz_m] at *) <;> omega))) (congrArg some (congrArg Value.int (by unfold pt_; (repeat' split) <;> (try dsimp only) <;> first | with_reducible rfl | (exfalso; (try clear ih); (simp only [iz_lt, iz_le, iz_eq, iz_0, iz_1, iz_2, iz_3, iz_4, iz_5, iz_6, iz_7, iz_8, iz_m] at *) <;> omega))))
      · refine go_iload (i := 4) X rfl dc_M_table_61 ?_
        refine go_goto (tgt := 68) X dc_M_table_63 (by decide) ?_
        exact go_iret X hr dc_M_table_68 (congrArg (mW_ T ad K n) (by unfold pt_; (repeat' split) <;> (try dsimp only) <;> first | with_reducible rfl | (simp only [u2_24, u11_24, u1_24, u21_id, u1_id, u2_id]; done) | (exfalso; (try clear ih); (simp only [iz_lt, iz_le, iz_eq, iz_0, iz_1, iz_2, iz_3, iz_4, iz_5, iz_6, iz_7, iz_8, iz_m] at *) <;> omega))) (congrArg some (congrArg Value.int (by unfold pt_; (repeat' split) <;> (try dsimp only) <;> first | with_reducible rfl | (exfalso; (try clear ih); (simp only [iz_lt, iz_le, iz_eq, iz_0, iz_1, iz_2, iz_3, iz_4, iz_5, iz_6, iz_7, iz_8, iz_m] at *) <;> omega))))
    · first | refine go_aload_n (i := 0) X rfl rfl dc_M_table_46 ?_ | refine go_aloadN_n (i := 0) X rfl rfl dc_M_table_46 ?_
      refine gm_get X 27 (by decide) fl_M_80 rfl dc_M_table_47 ?_
      refine go_iload_n (i := 2) X rfl rfl dc_M_table_50 ?_
      refine go_bipush (v := 7) X (by decide) dc_M_table_51 ?_
      refine go_iand X dc_M_table_53 ?_
      refine go_iload_n (i := 3) X rfl rfl dc_M_table_54 ?_
      refine gm_st X (by decide) (by assumption) dc_M_table_55 ?_
      refine go_iload_n (i := 1) X rfl rfl dc_M_table_56 ?_
      refine go_iconst (v := 2) X (by decide) dc_M_table_57 ?_
      refine go_icmp_ne (tgt := 66) X dc_M_table_58 (by decide) (fun h58 => ?_) (fun h58 => ?_)
      · refine go_iload (i := 5) X rfl dc_M_table_66 ?_
        exact go_iret X hr dc_M_table_68 (congrArg (mW_ T ad K n) (by unfold pt_; (repeat' split) <;> (try dsimp only) <;> first | with_reducible rfl | (simp only [u2_24, u11_24, u1_24, u21_id, u1_id, u2_id]; done) | (exfalso; (try clear ih); (simp only [iz_lt, iz_le, iz_eq, iz_0, iz_1, iz_2, iz_3, iz_4, iz_5, iz_6, iz_7, iz_8, iz_m] at *) <;> omega))) (congrArg some (congrArg Value.int (by unfold pt_; (repeat' split) <;> (try dsimp only) <;> first | with_reducible rfl | (exfalso; (try clear ih); (simp only [iz_lt, iz_le, iz_eq, iz_0, iz_1, iz_2, iz_3, iz_4, iz_5, iz_6, iz_7, iz_8, iz_m] at *) <;> omega))))
      · refine go_iload (i := 4) X rfl dc_M_table_61 ?_
        refine go_goto (tgt := 68) X dc_M_table_63 (by decide) ?_
        exact go_iret X hr dc_M_table_68 (congrArg (mW_ T ad K n) (by unfold pt_; (repeat' split) <;> (try dsimp only) <;> first | with_reducible rfl | (simp only [u2_24, u11_24, u1_24, u21_id, u1_id, u2_id]; done) | (exfalso; (try clear ih); (simp only [iz_lt, iz_le, iz_eq, iz_0, iz_1, iz_2, iz_3, iz_4, iz_5, iz_6, iz_7, iz_8, iz_m] at *) <;> omega))) (congrArg some (congrArg Value.int (by unfold pt_; (repeat' split) <;> (try dsimp only) <;> first | with_reducible rfl | (exfalso; (try clear ih); (simp only [iz_lt, iz_le, iz_eq, iz_0, iz_1, iz_2, iz_3, iz_4, iz_5, iz_6, iz_7, iz_8, iz_m] at *) <;> omega))))
  · have hlt : j < 8 := by rw [iz_le, iz_8, iz_nI (by omega)] at h10; omega
    have hx : Ix_ (nI j) 8 j := Ix_n hlt (by decide)
    refine go_iload (i := 4) X rfl dc_M_table_13 ?_
    first | refine go_aload_n (i := 0) X rfl rfl dc_M_table_15 ?_ | refine go_aloadN_n (i := 0) X rfl rfl dc_M_table_15 ?_
    refine gm_get X 27 (by decide) fl_M_80 rfl dc_M_table_16 ?_
    refine go_iload (i := 5) X rfl dc_M_table_19 ?_
    refine gm_ld (f := ρ 24) X rfl (by decide) (by assumption) dc_M_table_21 ?_
    refine go_iadd X dc_M_table_22 ?_
    refine go_istore (i := 4) X (by decide) dc_M_table_23 ?_
    refine go_iinc (i := 5) (v := nI (j + 1)) X rfl (by rw [lit1]; exact nI_1 j) (by decide) dc_M_table_25 ?_
    refine go_goto (tgt := 6) X dc_M_table_28 (by decide) ?_
    refine go_loc (L' := [(0, .ref (ad 0)), (1, .int op), (2, .int a), (3, .int b), (4, .int (sm_ (ρ 24) (j + 1))), (5, .int (nI (j + 1)))]) rfl ?_
    exact ih (by omega)
set_option maxHeartbeats 4000000 in
set_option maxRecDepth 20000 in
theorem tm_bank (l : Launch) (D : va_G) (T : Nat → ClassId) (ad : Nat → Nat) (A : Nat → Prop) (nw : List Cond) (K n : Nat) {ρ : ST_} {op a b : Int32} : cm_ l D T ad K n A nw yn_M_bank (.code yn_M_bank cd_M_bank 5 (some .int)) 0 [.int op, .int a, .int b] ρ (u2_ (u1_ ρ 24 (pb_ op a b (ρ 24) (ρ 0 2)).1) 0 2 (pb_ op a b (ρ 24) (ρ 0 2)).2.1) (some (.int (pb_ op a b (ρ 24) (ρ 0 2)).2.2)) := by
  have h3 : Ix_ (a &&& 3) 8 (ix_ (a &&& 3)) := Ix_le (ix_and3 a) (by decide)
  have h3b : Ix_ (b &&& 3) 8 (ix_ (b &&& 3)) := Ix_le (ix_and3 b) (by decide)
  refine go_in (by decide) (Nat.le_of_ble_eq_true rfl) (List.forall_mem_cons.mpr ⟨rfl, List.forall_mem_cons.mpr ⟨rfl, List.forall_mem_cons.mpr ⟨rfl, List.forall_mem_cons.mpr ⟨rfl, fun _ h => nomatch h⟩⟩⟩⟩) ?_
  intro P e s m args below meth c X hr hnm hN
  replace X : Cx_ P l e (rm_d 0) s m args below meth c cd_M_bank 5 rn_M D cl_ (tys_ T) TG_ := X
  refine go_loc (L' := [(0, .ref (ad 0)), (1, .int op), (2, .int a), (3, .int b)]) rfl ?_
  refine go_iload_n (i := 2) X rfl rfl dc_M_bank_0 ?_
  refine go_iconst (v := 3) X (by decide) dc_M_bank_1 ?_
  refine go_iand X dc_M_bank_2 ?_
  refine go_istore (i := 4) X (by decide) dc_M_bank_3 ?_
  refine go_iload_n (i := 1) X rfl rfl dc_M_bank_5 ?_
  refine go_if_ne (tgt := 61) X dc_M_bank_6 (by decide) (fun h6 => ?_) (fun h6 => ?_)
  · refine go_iload_n (i := 1) X rfl rfl dc_M_bank_61 ?_
    refine go_iconst (v := 2) X (by decide) dc_M_bank_62 ?_
    refine go_icmp_ne (tgt := 82) X dc_M_bank_63 (by decide) (fun h63 => ?_) (fun h63 => ?_)
    · first | refine go_aload_n (i := 0) X rfl rfl dc_M_bank_82 ?_ | refine go_aloadN_n (i := 0) X rfl rfl dc_M_bank_82 ?_
      refine gm_get X 27 (by decide) fl_M_80 rfl dc_M_bank_83 ?_
      refine go_iload (i := 4) X rfl dc_M_bank_86 ?_
      refine gm_ld (f := ρ 24) X rfl (by decide) (by assumption) dc_M_bank_88 ?_
      exact go_iret X hr dc_M_bank_89 (congrArg (mW_ T ad K n) (by unfold pb_; (repeat' split) <;> (try dsimp only) <;> first | with_reducible rfl | (simp only [u2_24, u11_24, u1_24, u21_id, u1_id, u2_id]; done) | (exfalso; (try clear ih); (simp only [iz_lt, iz_le, iz_eq, iz_0, iz_1, iz_2, iz_3, iz_4, iz_5, iz_6, iz_7, iz_8, iz_m] at *) <;> omega))) (congrArg some (congrArg Value.int (by unfold pb_; (repeat' split) <;> (try dsimp only) <;> first | with_reducible rfl | (exfalso; (try clear ih); (simp only [iz_lt, iz_le, iz_eq, iz_0, iz_1, iz_2, iz_3, iz_4, iz_5, iz_6, iz_7, iz_8, iz_m] at *) <;> omega))))
    · first | refine go_aload_n (i := 0) X rfl rfl dc_M_bank_66 ?_ | refine go_aloadN_n (i := 0) X rfl rfl dc_M_bank_66 ?_
      refine gm_get X 27 (by decide) fl_M_80 rfl dc_M_bank_67 ?_
      refine go_iload (i := 4) X rfl dc_M_bank_70 ?_
      first | refine go_aload_n (i := 0) X rfl rfl dc_M_bank_72 ?_ | refine go_aloadN_n (i := 0) X rfl rfl dc_M_bank_72 ?_
      refine gm_get X 27 (by decide) fl_M_80 rfl dc_M_bank_73 ?_
      refine go_iload (i := 4) X rfl dc_M_bank_76 ?_
      refine gm_ld (f := ρ 24) X rfl (by decide) (by assumption) dc_M_bank_78 ?_
      refine go_iload_n (i := 3) X rfl rfl dc_M_bank_79 ?_
      refine go_iadd X dc_M_bank_80 ?_
      refine gm_st X (by decide) (by assumption) dc_M_bank_81 ?_
      first | refine go_aload_n (i := 0) X rfl rfl dc_M_bank_82 ?_ | refine go_aloadN_n (i := 0) X rfl rfl dc_M_bank_82 ?_
      refine gm_get X 27 (by decide) fl_M_80 rfl dc_M_bank_83 ?_
      refine go_iload (i := 4) X rfl dc_M_bank_86 ?_
      refine gm_ld (f := upd (ρ 24) (ix_ (a &&& 3)) (ρ 24 (ix_ (a &&& 3)) + b)) X rfl (by decide) (by assumption) dc_M_bank_88 ?_
      rw [pk_us]
      exact go_iret X hr dc_M_bank_89 (congrArg (mW_ T ad K n) (by unfold pb_; (repeat' split) <;> (try dsimp only) <;> first | with_reducible rfl | (simp only [u2_24, u11_24, u1_24, u21_id, u1_id, u2_id]; done) | (exfalso; (try clear ih); (simp only [iz_lt, iz_le, iz_eq, iz_0, iz_1, iz_2, iz_3, iz_4, iz_5, iz_6, iz_7, iz_8, iz_m] at *) <;> omega))) (congrArg some (congrArg Value.int (by unfold pb_; (repeat' split) <;> (try dsimp only) <;> first | with_reducible rfl | (exfalso; (try clear ih); (simp only [iz_lt, iz_le, iz_eq, iz_0, iz_1, iz_2, iz_3, iz_4, iz_5, iz_6, iz_7, iz_8, iz_m] at *) <;> omega))))
  · first | refine go_aload_n (i := 0) X rfl rfl dc_M_bank_9 ?_ | refine go_aloadN_n (i := 0) X rfl rfl dc_M_bank_9 ?_
    refine gm_get X 27 (by decide) fl_M_80 rfl dc_M_bank_10 ?_
    refine go_iload (i := 4) X rfl dc_M_bank_13 ?_
    refine gm_ld (f := ρ 24) X rfl (by decide) (by assumption) dc_M_bank_15 ?_
    refine go_bipush (v := 10) X (by decide) dc_M_bank_16 ?_
    refine go_icmp_ge (tgt := 23) X dc_M_bank_18 (by decide) (fun h18 => ?_) (fun h18 => ?_)
    · first | refine go_aload_n (i := 0) X rfl rfl dc_M_bank_23 ?_ | refine go_aloadN_n (i := 0) X rfl rfl dc_M_bank_23 ?_
      refine gm_get X 27 (by decide) fl_M_80 rfl dc_M_bank_24 ?_
      refine go_iload (i := 4) X rfl dc_M_bank_27 ?_
      first | refine go_aload_n (i := 0) X rfl rfl dc_M_bank_29 ?_ | refine go_aloadN_n (i := 0) X rfl rfl dc_M_bank_29 ?_
      refine gm_get X 27 (by decide) fl_M_80 rfl dc_M_bank_30 ?_
      refine go_iload (i := 4) X rfl dc_M_bank_33 ?_
      refine gm_ld (f := ρ 24) X rfl (by decide) (by assumption) dc_M_bank_35 ?_
      refine go_bipush (v := 10) X (by decide) dc_M_bank_36 ?_
      refine go_isub X dc_M_bank_38 ?_
      refine gm_st X (by decide) (by assumption) dc_M_bank_39 ?_
      first | refine go_aload_n (i := 0) X rfl rfl dc_M_bank_40 ?_ | refine go_aloadN_n (i := 0) X rfl rfl dc_M_bank_40 ?_
      refine gm_get X 27 (by decide) fl_M_80 rfl dc_M_bank_41 ?_
      refine go_iload_n (i := 3) X rfl rfl dc_M_bank_44 ?_
      refine go_iconst (v := 3) X (by decide) dc_M_bank_45 ?_
      refine go_iand X dc_M_bank_46 ?_
      first | refine go_aload_n (i := 0) X rfl rfl dc_M_bank_47 ?_ | refine go_aloadN_n (i := 0) X rfl rfl dc_M_bank_47 ?_
      refine gm_get X 27 (by decide) fl_M_80 rfl dc_M_bank_48 ?_
      refine go_iload_n (i := 3) X rfl rfl dc_M_bank_51 ?_
      refine go_iconst (v := 3) X (by decide) dc_M_bank_52 ?_
      refine go_iand X dc_M_bank_53 ?_
      refine gm_ld (f := upd (ρ 24) (ix_ (a &&& 3)) (ρ 24 (ix_ (a &&& 3)) - 10)) X rfl (by decide) (by assumption) dc_M_bank_54 ?_
      refine go_bipush (v := 10) X (by decide) dc_M_bank_55 ?_
      refine go_iadd X dc_M_bank_57 ?_
      refine gm_st X (by decide) (by assumption) dc_M_bank_58 ?_
      refine go_iconst (v := 1) X (by decide) dc_M_bank_59 ?_
      exact go_iret X hr dc_M_bank_60 (congrArg (mW_ T ad K n) (by unfold pb_; (repeat' split) <;> (try dsimp only) <;> first | with_reducible rfl | (simp only [u2_24, u11_24, u1_24, u21_id, u1_id, u2_id]; done) | (exfalso; (try clear ih); (simp only [iz_lt, iz_le, iz_eq, iz_0, iz_1, iz_2, iz_3, iz_4, iz_5, iz_6, iz_7, iz_8, iz_m] at *) <;> omega))) (congrArg some (congrArg Value.int (by unfold pb_; (repeat' split) <;> (try dsimp only) <;> first | with_reducible rfl | (exfalso; (try clear ih); (simp only [iz_lt, iz_le, iz_eq, iz_0, iz_1, iz_2, iz_3, iz_4, iz_5, iz_6, iz_7, iz_8, iz_m] at *) <;> omega))))
    · refine go_iconst (v := 0) X (by decide) dc_M_bank_21 ?_
      exact go_iret X hr dc_M_bank_22 (congrArg (mW_ T ad K n) (by unfold pb_; (repeat' split) <;> (try dsimp only) <;> first | with_reducible rfl | (simp only [u2_24, u11_24, u1_24, u21_id, u1_id, u2_id]; done) | (exfalso; (try clear ih); (simp only [iz_lt, iz_le, iz_eq, iz_0, iz_1, iz_2, iz_3, iz_4, iz_5, iz_6, iz_7, iz_8, iz_m] at *) <;> omega))) (congrArg some (congrArg Value.int (by unfold pb_; (repeat' split) <;> (try dsimp only) <;> first | with_reducible rfl | (exfalso; (try clear ih); (simp only [iz_lt, iz_le, iz_eq, iz_0, iz_1, iz_2, iz_3, iz_4, iz_5, iz_6, iz_7, iz_8, iz_m] at *) <;> omega))))
set_option maxHeartbeats 4000000 in
set_option maxRecDepth 20000 in
theorem tm_queue (l : Launch) (D : va_G) (T : Nat → ClassId) (ad : Nat → Nat) (A : Nat → Prop) (nw : List Cond) (K n : Nat) {ρ : ST_} {op a : Int32} (hK : K < 2) (hz : 0 ≤ (ρ 0 2).toInt ∧ (ρ 0 2).toInt ≤ 8) : cm_ l D T ad K n A nw yn_M_queue (.code yn_M_queue cd_M_queue 5 (some .int)) 0 [.int op, .int a] ρ (u2_ (u1_ ρ 24 (pq_ K op a (ρ 24) (ρ 0 2)).1) 0 2 (pq_ K op a (ρ 24) (ρ 0 2)).2.1) (some (.int (pq_ K op a (ρ 24) (ρ 0 2)).2.2)) := by
  refine go_in (by decide) (Nat.le_of_ble_eq_true rfl) (List.forall_mem_cons.mpr ⟨rfl, List.forall_mem_cons.mpr ⟨rfl, List.forall_mem_cons.mpr ⟨rfl, fun _ h => nomatch h⟩⟩⟩) ?_
  intro P e s m args below meth c X hr hnm hN
  replace X : Cx_ P l e (rm_d 0) s m args below meth c cd_M_queue 5 rn_M D cl_ (tys_ T) TG_ := X
  refine go_loc (L' := [(0, .ref (ad 0)), (1, .int op), (2, .int a)]) rfl ?_
  refine go_iload_n (i := 1) X rfl rfl dc_M_queue_0 ?_
  refine go_iconst (v := 2) X (by decide) dc_M_queue_1 ?_
  refine go_icmp_ne (tgt := 10) X dc_M_queue_2 (by decide) (fun h2 => ?_) (fun h2 => ?_)
  · refine go_iload_n (i := 1) X rfl rfl dc_M_queue_10 ?_
    refine go_if_ne (tgt := 50) X dc_M_queue_11 (by decide) (fun h11 => ?_) (fun h11 => ?_)
    · first | refine go_aload_n (i := 0) X rfl rfl dc_M_queue_50 ?_ | refine go_aloadN_n (i := 0) X rfl rfl dc_M_queue_50 ?_
      refine gm_get (v := .int (ρ 0 2)) X 28 (by decide) fl_M_102 rfl dc_M_queue_51 ?_
      refine go_if_ne (tgt := 59) X dc_M_queue_54 (by decide) (fun h54 => ?_) (fun h54 => ?_)
      · obtain ⟨m9, hm8, ez, ez1⟩ := z_pred hz h54
        have hx1 : Ix_ (ρ 0 2 - 1) 8 (ix_ (ρ 0 2 - 1)) := by rw [ez1]; exact ⟨vp_in_nI (by omega) (by decide), rfl⟩
        have h00 : Ix_ (0 : Int32) 8 0 := ⟨vp_in_iff.mpr (by decide), by decide⟩
        first | refine go_aload_n (i := 0) X rfl rfl dc_M_queue_59 ?_ | refine go_aloadN_n (i := 0) X rfl rfl dc_M_queue_59 ?_
        refine go_dup X rfl dc_M_queue_60 ?_
        refine gm_get (v := .int (ρ 0 2)) X 28 (by decide) fl_M_102 rfl dc_M_queue_61 ?_
        refine go_iconst (v := 1) X (by decide) dc_M_queue_64 ?_
        refine go_isub X dc_M_queue_65 ?_
        refine gm_put X 28 2 (by decide) fl_M_102 rfl (tk_M 28 (by decide)) (mF_s2 _ _ _ _ _) dc_M_queue_66 ?_
        first | refine go_aload_n (i := 0) X rfl rfl dc_M_queue_69 ?_ | refine go_aloadN_n (i := 0) X rfl rfl dc_M_queue_69 ?_
        refine gm_get X 1 (by decide) fl_M_86 rfl dc_M_queue_70 ?_
        refine go_if_ne (tgt := 85) X dc_M_queue_73 (by decide) (fun h73 => ?_) (fun h73 => ?_)
        · first | refine go_aload_n (i := 0) X rfl rfl dc_M_queue_85 ?_ | refine go_aloadN_n (i := 0) X rfl rfl dc_M_queue_85 ?_
          refine gm_get X 27 (by decide) fl_M_80 rfl dc_M_queue_86 ?_
          first | refine go_aload_n (i := 0) X rfl rfl dc_M_queue_89 ?_ | refine go_aloadN_n (i := 0) X rfl rfl dc_M_queue_89 ?_
          refine gm_get (v := .int (ρ 0 2 - 1)) X 28 (by decide) fl_M_102 rfl dc_M_queue_90 ?_
          refine gm_ld (f := ρ 24) X rfl (by decide) (by assumption) dc_M_queue_93 ?_
          refine go_istore_n (i := 3) X rfl (by decide) dc_M_queue_94 ?_
          refine go_iconst (v := nI 0) X (by decide) dc_M_queue_95 ?_
          refine go_istore (i := 4) X (by decide) dc_M_queue_96 ?_
          first | refine go_aload_n (i := 0) X rfl rfl dc_M_queue_98 ?_ | refine go_aloadN_n (i := 0) X rfl rfl dc_M_queue_98 ?_
          refine gm_get X 1 (by decide) fl_M_86 rfl dc_M_queue_99 ?_
          refine go_if_ne (tgt := 136) X dc_M_queue_102 (by decide) (fun h102 => ?_) (fun h102 => ?_)
          · refine go_iload_n (i := 3) X rfl rfl dc_M_queue_136 ?_
            have k0 : ¬ K = 0 := fun q => h73 (by rw [q]; rfl)
            exact go_iret X hr dc_M_queue_137 (congrArg (mW_ T ad K n) (by unfold pq_; rw [if_neg h2, if_neg h11, if_neg h54, if_neg k0, u1_id])) (congrArg some (congrArg Value.int (by unfold pq_; rw [if_neg h2, if_neg h11, if_neg h54, if_neg k0])))
          · exact absurd h102 h73
        · first | refine go_aload_n (i := 0) X rfl rfl dc_M_queue_76 ?_ | refine go_aloadN_n (i := 0) X rfl rfl dc_M_queue_76 ?_
          refine gm_get X 27 (by decide) fl_M_80 rfl dc_M_queue_77 ?_
          refine go_iconst (v := 0) X (by decide) dc_M_queue_80 ?_
          refine gm_ld (f := ρ 24) X rfl (by decide) (by assumption) dc_M_queue_81 ?_
          refine go_goto (tgt := 94) X dc_M_queue_82 (by decide) ?_
          refine go_istore_n (i := 3) X rfl (by decide) dc_M_queue_94 ?_
          refine go_iconst (v := nI 0) X (by decide) dc_M_queue_95 ?_
          refine go_istore (i := 4) X (by decide) dc_M_queue_96 ?_
          refine go_loc (L' := [(0, .ref (ad 0)), (1, .int op), (2, .int a), (3, .int (ρ 24 0)), (4, .int (nI 0))]) rfl ?_
          refine go_eqw (w' := mW_ T ad K n (u1_ (u2_ ρ 0 2 (ρ 0 2 - 1)) 24 (sh_ (ρ 24) 0))) (congrArg _ (by rw [sh_0]; exact (u1_id (u2_ ρ 0 2 (ρ 0 2 - 1)) 24).symm)) ?_
          refine (lp_up (P := fun j => Go_ P l e (rm_d 0) s m args below meth c D cl_ A 5 0 0 _ (mW_ T ad K n (u1_ (u2_ ρ 0 2 (ρ 0 2 - 1)) 24 (sh_ (ρ 24) j))) 98 [(0, .ref (ad 0)), (1, .int op), (2, .int a), (3, .int (ρ 24 0)), (4, .int (nI j))] []) m9 (fun j hj ih => ?_)) 0 (Nat.zero_le _)
          first | refine go_aload_n (i := 0) X rfl rfl dc_M_queue_98 ?_ | refine go_aloadN_n (i := 0) X rfl rfl dc_M_queue_98 ?_
          refine gm_get X 1 (by decide) fl_M_86 rfl dc_M_queue_99 ?_
          refine go_if_ne (tgt := 136) X dc_M_queue_102 (by decide) (fun h102 => ?_) (fun h102 => ?_)
          · exact absurd h73 h102
          · refine go_iload (i := 4) X rfl dc_M_queue_105 ?_
            first | refine go_aload_n (i := 0) X rfl rfl dc_M_queue_107 ?_ | refine go_aloadN_n (i := 0) X rfl rfl dc_M_queue_107 ?_
            refine gm_get (v := .int (ρ 0 2 - 1)) X 28 (by decide) fl_M_102 rfl dc_M_queue_108 ?_
            refine go_icmp_ge (tgt := 136) X dc_M_queue_111 (by decide) (fun h111 => ?_) (fun h111 => ?_)
            · have ej : j = m9 := by rw [ez1, iz_le, iz_nI (by omega), iz_nI (by omega)] at h111; omega
              subst ej
              refine go_iload_n (i := 3) X rfl rfl dc_M_queue_136 ?_
              have ei : ix_ (ρ 0 2 - 1) = j := by rw [ez1]; exact nI_clamp (by omega)
              have k0 : K = 0 := (nI_K (by omega) 0 (by decide)).mp h73
              exact go_iret X hr dc_M_queue_137 (congrArg (mW_ T ad K n) (by unfold pq_; rw [if_neg h2, if_neg h11, if_neg h54, if_pos k0, ei, u12_c])) (congrArg some (congrArg Value.int (by unfold pq_; rw [if_neg h2, if_neg h11, if_neg h54, if_pos k0])))
            · have hlt : j < m9 := by rw [ez1, iz_le, iz_nI (by omega), iz_nI (by omega)] at h111; omega
              have hx : Ix_ (nI j) 8 j := Ix_n (by omega) (by decide)
              have hx2 : Ix_ (nI j + 1) 8 (j + 1) := by rw [nI_1]; exact Ix_n (by omega) (by decide)
              first | refine go_aload_n (i := 0) X rfl rfl dc_M_queue_114 ?_ | refine go_aloadN_n (i := 0) X rfl rfl dc_M_queue_114 ?_
              refine gm_get X 27 (by decide) fl_M_80 rfl dc_M_queue_115 ?_
              refine go_iload (i := 4) X rfl dc_M_queue_118 ?_
              first | refine go_aload_n (i := 0) X rfl rfl dc_M_queue_120 ?_ | refine go_aloadN_n (i := 0) X rfl rfl dc_M_queue_120 ?_
              refine gm_get X 27 (by decide) fl_M_80 rfl dc_M_queue_121 ?_
              refine go_iload (i := 4) X rfl dc_M_queue_124 ?_
              refine go_iconst (v := 1) X (by decide) dc_M_queue_126 ?_
              refine go_iadd X dc_M_queue_127 ?_
              refine gm_ld (f := sh_ (ρ 24) j) X (u1_same _ _ _) (by decide) (by assumption) dc_M_queue_128 ?_
              refine gm_st X (by decide) (by assumption) dc_M_queue_129 ?_
              refine go_iinc (i := 4) (v := nI (j + 1)) X rfl (by rw [lit1]; exact nI_1 j) (by decide) dc_M_queue_130 ?_
              refine go_goto (tgt := 98) X dc_M_queue_133 (by decide) ?_
              refine go_loc (L' := [(0, .ref (ad 0)), (1, .int op), (2, .int a), (3, .int (ρ 24 0)), (4, .int (nI (j + 1)))]) rfl ?_
              refine go_eqw (w' := mW_ T ad K n (u1_ (u2_ ρ 0 2 (ρ 0 2 - 1)) 24 (sh_ (ρ 24) (j + 1)))) (congrArg _ (by rw [u12_id, sh_s])) ?_
              exact ih (by omega)
      · refine go_iconst (v := (-1)) X (by decide) dc_M_queue_57 ?_
        exact go_iret X hr dc_M_queue_58 (congrArg (mW_ T ad K n) (by unfold pq_; (repeat' split) <;> (try dsimp only) <;> first | with_reducible rfl | (simp only [u2_24, u11_24, u1_24, u21_id, u1_id, u2_id]; done) | (exfalso; (try clear ih); (simp only [iz_lt, iz_le, iz_eq, iz_0, iz_1, iz_2, iz_3, iz_4, iz_5, iz_6, iz_7, iz_8, iz_m] at *) <;> omega))) (congrArg some (congrArg Value.int (by unfold pq_; (repeat' split) <;> (try dsimp only) <;> first | with_reducible rfl | (exfalso; (try clear ih); (simp only [iz_lt, iz_le, iz_eq, iz_0, iz_1, iz_2, iz_3, iz_4, iz_5, iz_6, iz_7, iz_8, iz_m] at *) <;> omega))))
    · first | refine go_aload_n (i := 0) X rfl rfl dc_M_queue_14 ?_ | refine go_aloadN_n (i := 0) X rfl rfl dc_M_queue_14 ?_
      refine gm_get (v := .int (ρ 0 2)) X 28 (by decide) fl_M_102 rfl dc_M_queue_15 ?_
      refine go_bipush (v := 8) X (by decide) dc_M_queue_18 ?_
      refine go_icmp_ne (tgt := 25) X dc_M_queue_20 (by decide) (fun h20 => ?_) (fun h20 => ?_)
      · have hx : Ix_ (ρ 0 2) 8 (ix_ (ρ 0 2)) := Ix_r hz.1 (by rw [iz_eq, iz_8] at h20; omega)
        first | refine go_aload_n (i := 0) X rfl rfl dc_M_queue_25 ?_ | refine go_aloadN_n (i := 0) X rfl rfl dc_M_queue_25 ?_
        refine gm_get X 27 (by decide) fl_M_80 rfl dc_M_queue_26 ?_
        first | refine go_aload_n (i := 0) X rfl rfl dc_M_queue_29 ?_ | refine go_aloadN_n (i := 0) X rfl rfl dc_M_queue_29 ?_
        refine gm_get (v := .int (ρ 0 2)) X 28 (by decide) fl_M_102 rfl dc_M_queue_30 ?_
        refine go_iload_n (i := 2) X rfl rfl dc_M_queue_33 ?_
        refine gm_st X (by decide) (by assumption) dc_M_queue_34 ?_
        first | refine go_aload_n (i := 0) X rfl rfl dc_M_queue_35 ?_ | refine go_aloadN_n (i := 0) X rfl rfl dc_M_queue_35 ?_
        refine go_dup X rfl dc_M_queue_36 ?_
        refine gm_get (v := .int (ρ 0 2)) X 28 (by decide) fl_M_102 rfl dc_M_queue_37 ?_
        refine go_iconst (v := 1) X (by decide) dc_M_queue_40 ?_
        refine go_iadd X dc_M_queue_41 ?_
        refine gm_put X 28 2 (by decide) fl_M_102 rfl (tk_M 28 (by decide)) (mF_s2 _ _ _ _ _) dc_M_queue_42 ?_
        first | refine go_aload_n (i := 0) X rfl rfl dc_M_queue_45 ?_ | refine go_aloadN_n (i := 0) X rfl rfl dc_M_queue_45 ?_
        refine gm_get (v := .int (ρ 0 2 + 1)) X 28 (by decide) fl_M_102 rfl dc_M_queue_46 ?_
        exact go_iret X hr dc_M_queue_49 (congrArg (mW_ T ad K n) (by unfold pq_; (repeat' split) <;> (try dsimp only) <;> first | with_reducible rfl | (simp only [u2_24, u11_24, u1_24, u21_id, u1_id, u2_id]; done) | (exfalso; (try clear ih); (simp only [iz_lt, iz_le, iz_eq, iz_0, iz_1, iz_2, iz_3, iz_4, iz_5, iz_6, iz_7, iz_8, iz_m] at *) <;> omega))) (congrArg some (congrArg Value.int (by unfold pq_; (repeat' split) <;> (try dsimp only) <;> first | with_reducible rfl | (exfalso; (try clear ih); (simp only [iz_lt, iz_le, iz_eq, iz_0, iz_1, iz_2, iz_3, iz_4, iz_5, iz_6, iz_7, iz_8, iz_m] at *) <;> omega))))
      · refine go_iconst (v := (-1)) X (by decide) dc_M_queue_23 ?_
        exact go_iret X hr dc_M_queue_24 (congrArg (mW_ T ad K n) (by unfold pq_; (repeat' split) <;> (try dsimp only) <;> first | with_reducible rfl | (simp only [u2_24, u11_24, u1_24, u21_id, u1_id, u2_id]; done) | (exfalso; (try clear ih); (simp only [iz_lt, iz_le, iz_eq, iz_0, iz_1, iz_2, iz_3, iz_4, iz_5, iz_6, iz_7, iz_8, iz_m] at *) <;> omega))) (congrArg some (congrArg Value.int (by unfold pq_; (repeat' split) <;> (try dsimp only) <;> first | with_reducible rfl | (exfalso; (try clear ih); (simp only [iz_lt, iz_le, iz_eq, iz_0, iz_1, iz_2, iz_3, iz_4, iz_5, iz_6, iz_7, iz_8, iz_m] at *) <;> omega))))
  · first | refine go_aload_n (i := 0) X rfl rfl dc_M_queue_5 ?_ | refine go_aloadN_n (i := 0) X rfl rfl dc_M_queue_5 ?_
    refine gm_get (v := .int (ρ 0 2)) X 28 (by decide) fl_M_102 rfl dc_M_queue_6 ?_
    exact go_iret X hr dc_M_queue_9 (congrArg (mW_ T ad K n) (by unfold pq_; (repeat' split) <;> (try dsimp only) <;> first | with_reducible rfl | (simp only [u2_24, u11_24, u1_24, u21_id, u1_id, u2_id]; done) | (exfalso; (try clear ih); (simp only [iz_lt, iz_le, iz_eq, iz_0, iz_1, iz_2, iz_3, iz_4, iz_5, iz_6, iz_7, iz_8, iz_m] at *) <;> omega))) (congrArg some (congrArg Value.int (by unfold pq_; (repeat' split) <;> (try dsimp only) <;> first | with_reducible rfl | (exfalso; (try clear ih); (simp only [iz_lt, iz_le, iz_eq, iz_0, iz_1, iz_2, iz_3, iz_4, iz_5, iz_6, iz_7, iz_8, iz_m] at *) <;> omega))))
end M2

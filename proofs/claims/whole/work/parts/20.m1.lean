section M1
set_option maxHeartbeats 4000000 in
set_option maxRecDepth 20000 in
theorem tm_thrown (l : Launch) (D : va_G) (T : Nat → ClassId) (ad : Nat → Nat) (A : Nat → Prop) (nw : List Cond) (K n : Nat) {ρ : ST_} : cm_ l D T ad K n A nw yn_M_thrown (.code yn_M_thrown cd_M_thrown 1 (some .int)) 0 [] ρ ρ (some (.int (ρ 0 0))) := by
  refine go_in (by decide) (Nat.le_of_ble_eq_true rfl) (List.forall_mem_cons.mpr ⟨rfl, fun _ h => nomatch h⟩) ?_
  intro P e s m args below meth c X hr hnm hN
  replace X : Cx_ P l e (rm_d 0) s m args below meth c cd_M_thrown 1 rn_M D cl_ (tys_ T) TG_ := X
  refine go_loc (L' := [(0, .ref (ad 0))]) rfl ?_
  first | refine go_aload_n (i := 0) X rfl rfl dc_M_thrown_0 ?_ | refine go_aloadN_n (i := 0) X rfl rfl dc_M_thrown_0 ?_
  refine gm_get (v := .int (ρ 0 0)) X 0 (by decide) fl_M_99 rfl dc_M_thrown_1 ?_
  exact go_iret X hr dc_M_thrown_4 rfl rfl
set_option maxHeartbeats 4000000 in
set_option maxRecDepth 20000 in
theorem tm_refused (l : Launch) (D : va_G) (T : Nat → ClassId) (ad : Nat → Nat) (A : Nat → Prop) (nw : List Cond) (K n : Nat) {ρ : ST_} {x : Int32} : cm_ l D T ad K n A nw yn_M_refused (.code yn_M_refused cd_M_refused 2 (some .boolean)) 0 [.int x] ρ (u2_ ρ 0 0 x) (some (.int (if 0 < x then 1 else 0))) := by
  refine go_in (by decide) (Nat.le_of_ble_eq_true rfl) (List.forall_mem_cons.mpr ⟨rfl, List.forall_mem_cons.mpr ⟨rfl, fun _ h => nomatch h⟩⟩) ?_
  intro P e s m args below meth c X hr hnm hN
  replace X : Cx_ P l e (rm_d 0) s m args below meth c cd_M_refused 2 rn_M D cl_ (tys_ T) TG_ := X
  refine go_loc (L' := [(0, .ref (ad 0)), (1, .int x)]) rfl ?_
  first | refine go_aload_n (i := 0) X rfl rfl dc_M_refused_0 ?_ | refine go_aloadN_n (i := 0) X rfl rfl dc_M_refused_0 ?_
  refine go_iload_n (i := 1) X rfl rfl dc_M_refused_1 ?_
  refine gm_put X 0 0 (by decide) fl_M_99 rfl (tk_M 0 (by decide)) (mF_s0 _ _ _ _ _) dc_M_refused_2 ?_
  refine go_iload_n (i := 1) X rfl rfl dc_M_refused_5 ?_
  refine go_if_le (tgt := 13) X dc_M_refused_6 (by decide) (fun h6 => ?_) (fun h6 => ?_)
  · refine go_iconst (v := 0) X (by decide) dc_M_refused_13 ?_
    exact go_zret X hr (by decide) dc_M_refused_14 rfl (congrArg some (congrArg Value.int (by (simp only [iz_lt, iz_le, iz_eq, iz_0, iz_1, iz_2, iz_3, iz_4, iz_5, iz_6, iz_7, iz_8, iz_m] at h6 ⊢; repeat' split) <;> first | with_reducible rfl | decide | (exfalso; omega))))
  · refine go_iconst (v := 1) X (by decide) dc_M_refused_9 ?_
    refine go_goto (tgt := 14) X dc_M_refused_10 (by decide) ?_
    exact go_zret X hr (by decide) dc_M_refused_14 rfl (congrArg some (congrArg Value.int (by (simp only [iz_lt, iz_le, iz_eq, iz_0, iz_1, iz_2, iz_3, iz_4, iz_5, iz_6, iz_7, iz_8, iz_m] at h6 ⊢; repeat' split) <;> first | with_reducible rfl | decide | (exfalso; omega))))
set_option maxHeartbeats 4000000 in
set_option maxRecDepth 20000 in
theorem tm_isProcess (l : Launch) (D : va_G) (T : Nat → ClassId) (ad : Nat → Nat) (A : Nat → Prop) (nw : List Cond) (K n : Nat) {ρ : ST_} {x : Int32} : cm_ l D T ad K n A nw yn_M_isProcess (.code yn_M_isProcess cd_M_isProcess 2 (some .boolean)) 0 [.int x] ρ ρ (some (.int (if 0 ≤ x ∧ x < nI n then 1 else 0))) := by
  refine go_in (by decide) (Nat.le_of_ble_eq_true rfl) (List.forall_mem_cons.mpr ⟨rfl, List.forall_mem_cons.mpr ⟨rfl, fun _ h => nomatch h⟩⟩) ?_
  intro P e s m args below meth c X hr hnm hN
  replace X : Cx_ P l e (rm_d 0) s m args below meth c cd_M_isProcess 2 rn_M D cl_ (tys_ T) TG_ := X
  refine go_loc (L' := [(0, .ref (ad 0)), (1, .int x)]) rfl ?_
  refine go_iload_n (i := 1) X rfl rfl dc_M_isProcess_0 ?_
  refine go_if_lt (tgt := 16) X dc_M_isProcess_1 (by decide) (fun h1 => ?_) (fun h1 => ?_)
  · refine go_iconst (v := 0) X (by decide) dc_M_isProcess_16 ?_
    exact go_zret X hr (by decide) dc_M_isProcess_17 rfl (congrArg some (congrArg Value.int (by (simp only [iz_lt, iz_le, iz_eq, iz_0, iz_1, iz_2, iz_3, iz_4, iz_5, iz_6, iz_7, iz_8, iz_m] at h1 ⊢; repeat' split) <;> first | with_reducible rfl | decide | (exfalso; omega))))
  · refine go_iload_n (i := 1) X rfl rfl dc_M_isProcess_4 ?_
    first | refine go_aload_n (i := 0) X rfl rfl dc_M_isProcess_5 ?_ | refine go_aloadN_n (i := 0) X rfl rfl dc_M_isProcess_5 ?_
    refine gm_get X 2 (by decide) fl_M_90 rfl dc_M_isProcess_6 ?_
    refine go_icmp_ge (tgt := 16) X dc_M_isProcess_9 (by decide) (fun h9 => ?_) (fun h9 => ?_)
    · refine go_iconst (v := 0) X (by decide) dc_M_isProcess_16 ?_
      exact go_zret X hr (by decide) dc_M_isProcess_17 rfl (congrArg some (congrArg Value.int (by (simp only [iz_lt, iz_le, iz_eq, iz_0, iz_1, iz_2, iz_3, iz_4, iz_5, iz_6, iz_7, iz_8, iz_m] at h1 h9 ⊢; repeat' split) <;> first | with_reducible rfl | decide | (exfalso; omega))))
    · refine go_iconst (v := 1) X (by decide) dc_M_isProcess_12 ?_
      refine go_goto (tgt := 17) X dc_M_isProcess_13 (by decide) ?_
      exact go_zret X hr (by decide) dc_M_isProcess_17 rfl (congrArg some (congrArg Value.int (by (simp only [iz_lt, iz_le, iz_eq, iz_0, iz_1, iz_2, iz_3, iz_4, iz_5, iz_6, iz_7, iz_8, iz_m] at h1 h9 ⊢; repeat' split) <;> first | with_reducible rfl | decide | (exfalso; omega))))
set_option maxHeartbeats 4000000 in
set_option maxRecDepth 20000 in
theorem tm_look (l : Launch) (D : va_G) (T : Nat → ClassId) (ad : Nat → Nat) (A : Nat → Prop) (nw : List Cond) (K n : Nat) {ρ : ST_} {p : Nat}(hn : n ≤ 5) (hp : Ix_ (nI p) 5 p) (h11 : Ix_ (ρ 11 p) 5 (ix_ (ρ 11 p))) (h8 : Ix_ (ρ 8 (ix_ (ρ 11 p))) 32 (ix_ (ρ 8 (ix_ (ρ 11 p))))) (h13 : Ix_ (ρ 13 p) 32 (ix_ (ρ 13 p))) : cm_ l D T ad K n A nw yn_M_look (.code yn_M_look cd_M_look 3 none) 0 [.int (nI p)] ρ (hm_look n ρ p) none := by
  refine go_in (by decide) (Nat.le_of_ble_eq_true rfl) (List.forall_mem_cons.mpr ⟨rfl, List.forall_mem_cons.mpr ⟨rfl, fun _ h => nomatch h⟩⟩) ?_
  intro P e s m args below meth c X hr hnm hN
  replace X : Cx_ P l e (rm_d 0) s m args below meth c cd_M_look 3 rn_M D cl_ (tys_ T) TG_ := X
  refine go_loc (L' := [(0, .ref (ad 0)), (1, .int (nI p))]) rfl ?_
  first | refine go_aload_n (i := 0) X rfl rfl dc_M_look_0 ?_ | refine go_aloadN_n (i := 0) X rfl rfl dc_M_look_0 ?_
  refine gm_get X 10 (by decide) fl_M_32 rfl dc_M_look_1 ?_
  first | refine go_aload_n (i := 0) X rfl rfl dc_M_look_4 ?_ | refine go_aloadN_n (i := 0) X rfl rfl dc_M_look_4 ?_
  refine gm_get X 13 (by decide) fl_M_41 rfl dc_M_look_5 ?_
  refine go_iload_n (i := 1) X rfl rfl dc_M_look_8 ?_
  refine gm_ld (f := ρ 11) X rfl (by decide) (by assumption) dc_M_look_9 ?_
  refine gm_ld (f := ρ 8) X rfl (by decide) (by assumption) dc_M_look_10 ?_
  refine go_istore_n (i := 2) X rfl (by decide) dc_M_look_11 ?_
  first | refine go_aload_n (i := 0) X rfl rfl dc_M_look_12 ?_ | refine go_aloadN_n (i := 0) X rfl rfl dc_M_look_12 ?_
  refine gm_get X 15 (by decide) fl_M_47 rfl dc_M_look_13 ?_
  refine go_iload_n (i := 1) X rfl rfl dc_M_look_16 ?_
  first | refine go_aload_n (i := 0) X rfl rfl dc_M_look_17 ?_ | refine go_aloadN_n (i := 0) X rfl rfl dc_M_look_17 ?_
  refine gm_get X 4 (by decide) fl_M_13 rfl dc_M_look_18 ?_
  refine go_iload_n (i := 2) X rfl rfl dc_M_look_21 ?_
  refine gm_ld (f := ρ 2) X rfl (by decide) (by assumption) dc_M_look_22 ?_
  first | refine go_aload_n (i := 0) X rfl rfl dc_M_look_23 ?_ | refine go_aloadN_n (i := 0) X rfl rfl dc_M_look_23 ?_
  refine gm_get X 4 (by decide) fl_M_13 rfl dc_M_look_24 ?_
  first | refine go_aload_n (i := 0) X rfl rfl dc_M_look_27 ?_ | refine go_aloadN_n (i := 0) X rfl rfl dc_M_look_27 ?_
  refine gm_get X 15 (by decide) fl_M_47 rfl dc_M_look_28 ?_
  refine go_iload_n (i := 1) X rfl rfl dc_M_look_31 ?_
  refine gm_ld (f := ρ 13) X rfl (by decide) (by assumption) dc_M_look_32 ?_
  refine gm_ld (f := ρ 2) X rfl (by decide) (by assumption) dc_M_look_33 ?_
  refine go_icmp_le (tgt := 41) X dc_M_look_34 (by decide) (fun h34 => ?_) (fun h34 => ?_)
  · first | refine go_aload_n (i := 0) X rfl rfl dc_M_look_41 ?_ | refine go_aloadN_n (i := 0) X rfl rfl dc_M_look_41 ?_
    refine gm_get X 15 (by decide) fl_M_47 rfl dc_M_look_42 ?_
    refine go_iload_n (i := 1) X rfl rfl dc_M_look_45 ?_
    refine gm_ld (f := ρ 13) X rfl (by decide) (by assumption) dc_M_look_46 ?_
    refine gm_st X (by decide) (by assumption) dc_M_look_47 ?_
    first | refine go_aload_n (i := 0) X rfl rfl dc_M_look_48 ?_ | refine go_aloadN_n (i := 0) X rfl rfl dc_M_look_48 ?_
    refine gm_get X 13 (by decide) fl_M_41 rfl dc_M_look_49 ?_
    refine go_iload_n (i := 1) X rfl rfl dc_M_look_52 ?_
    refine go_dup2 X rfl rfl dc_M_look_53 ?_
    refine gm_ld (f := ρ 11) X rfl (by decide) (by assumption) dc_M_look_54 ?_
    refine go_iconst (v := 1) X (by decide) dc_M_look_55 ?_
    refine go_iadd X dc_M_look_56 ?_
    refine gm_st X (by decide) (by assumption) dc_M_look_57 ?_
    first | refine go_aload_n (i := 0) X rfl rfl dc_M_look_58 ?_ | refine go_aloadN_n (i := 0) X rfl rfl dc_M_look_58 ?_
    refine gm_get X 12 (by decide) fl_M_38 rfl dc_M_look_59 ?_
    refine go_iload_n (i := 1) X rfl rfl dc_M_look_62 ?_
    first | refine go_aload_n (i := 0) X rfl rfl dc_M_look_63 ?_ | refine go_aloadN_n (i := 0) X rfl rfl dc_M_look_63 ?_
    refine gm_get X 13 (by decide) fl_M_41 rfl dc_M_look_64 ?_
    refine go_iload_n (i := 1) X rfl rfl dc_M_look_67 ?_
    refine gm_ld (f := upd (ρ 11) p (ρ 11 p + 1)) X rfl (by decide) (by assumption) dc_M_look_68 ?_
    rw [pk_us]
    first | refine go_aload_n (i := 0) X rfl rfl dc_M_look_69 ?_ | refine go_aloadN_n (i := 0) X rfl rfl dc_M_look_69 ?_
    refine gm_get X 2 (by decide) fl_M_90 rfl dc_M_look_70 ?_
    refine go_icmp_ne (tgt := 80) X dc_M_look_73 (by decide) (fun h73 => ?_) (fun h73 => ?_)
    · refine go_iconst (v := 1) X (by decide) dc_M_look_80 ?_
      refine gm_st X (by decide) (by assumption) dc_M_look_81 ?_
      exact go_vret X hr dc_M_look_82 (congrArg (mW_ T ad K n) (by (unfold hm_look; simp only [iz_lt, iz_le, iz_eq, iz_0, iz_1, iz_2, iz_3, iz_4, iz_5, iz_6, iz_7, iz_8, iz_m] at h34 h73 ⊢; repeat' split) <;> first | with_reducible rfl | (exfalso; omega))) rfl
    · refine go_iconst (v := 2) X (by decide) dc_M_look_76 ?_
      refine go_goto (tgt := 81) X dc_M_look_77 (by decide) ?_
      refine gm_st X (by decide) (by assumption) dc_M_look_81 ?_
      exact go_vret X hr dc_M_look_82 (congrArg (mW_ T ad K n) (by (unfold hm_look; simp only [iz_lt, iz_le, iz_eq, iz_0, iz_1, iz_2, iz_3, iz_4, iz_5, iz_6, iz_7, iz_8, iz_m] at h34 h73 ⊢; repeat' split) <;> first | with_reducible rfl | (exfalso; omega))) rfl
  · refine go_iload_n (i := 2) X rfl rfl dc_M_look_37 ?_
    refine go_goto (tgt := 47) X dc_M_look_38 (by decide) ?_
    refine gm_st X (by decide) (by assumption) dc_M_look_47 ?_
    first | refine go_aload_n (i := 0) X rfl rfl dc_M_look_48 ?_ | refine go_aloadN_n (i := 0) X rfl rfl dc_M_look_48 ?_
    refine gm_get X 13 (by decide) fl_M_41 rfl dc_M_look_49 ?_
    refine go_iload_n (i := 1) X rfl rfl dc_M_look_52 ?_
    refine go_dup2 X rfl rfl dc_M_look_53 ?_
    refine gm_ld (f := ρ 11) X rfl (by decide) (by assumption) dc_M_look_54 ?_
    refine go_iconst (v := 1) X (by decide) dc_M_look_55 ?_
    refine go_iadd X dc_M_look_56 ?_
    refine gm_st X (by decide) (by assumption) dc_M_look_57 ?_
    first | refine go_aload_n (i := 0) X rfl rfl dc_M_look_58 ?_ | refine go_aloadN_n (i := 0) X rfl rfl dc_M_look_58 ?_
    refine gm_get X 12 (by decide) fl_M_38 rfl dc_M_look_59 ?_
    refine go_iload_n (i := 1) X rfl rfl dc_M_look_62 ?_
    first | refine go_aload_n (i := 0) X rfl rfl dc_M_look_63 ?_ | refine go_aloadN_n (i := 0) X rfl rfl dc_M_look_63 ?_
    refine gm_get X 13 (by decide) fl_M_41 rfl dc_M_look_64 ?_
    refine go_iload_n (i := 1) X rfl rfl dc_M_look_67 ?_
    refine gm_ld (f := upd (ρ 11) p (ρ 11 p + 1)) X rfl (by decide) (by assumption) dc_M_look_68 ?_
    rw [pk_us]
    first | refine go_aload_n (i := 0) X rfl rfl dc_M_look_69 ?_ | refine go_aloadN_n (i := 0) X rfl rfl dc_M_look_69 ?_
    refine gm_get X 2 (by decide) fl_M_90 rfl dc_M_look_70 ?_
    refine go_icmp_ne (tgt := 80) X dc_M_look_73 (by decide) (fun h73 => ?_) (fun h73 => ?_)
    · refine go_iconst (v := 1) X (by decide) dc_M_look_80 ?_
      refine gm_st X (by decide) (by assumption) dc_M_look_81 ?_
      exact go_vret X hr dc_M_look_82 (congrArg (mW_ T ad K n) (by (unfold hm_look; simp only [iz_lt, iz_le, iz_eq, iz_0, iz_1, iz_2, iz_3, iz_4, iz_5, iz_6, iz_7, iz_8, iz_m] at h34 h73 ⊢; repeat' split) <;> first | with_reducible rfl | (exfalso; omega))) rfl
    · refine go_iconst (v := 2) X (by decide) dc_M_look_76 ?_
      refine go_goto (tgt := 81) X dc_M_look_77 (by decide) ?_
      refine gm_st X (by decide) (by assumption) dc_M_look_81 ?_
      exact go_vret X hr dc_M_look_82 (congrArg (mW_ T ad K n) (by (unfold hm_look; simp only [iz_lt, iz_le, iz_eq, iz_0, iz_1, iz_2, iz_3, iz_4, iz_5, iz_6, iz_7, iz_8, iz_m] at h34 h73 ⊢; repeat' split) <;> first | with_reducible rfl | (exfalso; omega))) rfl
set_option maxHeartbeats 4000000 in
set_option maxRecDepth 20000 in
theorem tm_choose (l : Launch) (D : va_G) (T : Nat → ClassId) (ad : Nat → Nat) (A : Nat → Prop) (nw : List Cond) (K n : Nat) {ρ : ST_} {p : Nat}(hn : n ≤ 5) (hp : Ix_ (nI p) 5 p)(h13 : Ix_ (ρ 13 p) 32 (ix_ (ρ 13 p))) (hz : ¬ nI n = 0) (hq : Ix_ (hm_q n ρ p) 5 (ix_ (hm_q n ρ p))) (h9 : 0 ≤ ρ 9 (ix_ (hm_q n ρ p)) → Ix_ (ρ 9 (ix_ (hm_q n ρ p))) 32 (ix_ (ρ 9 (ix_ (hm_q n ρ p))))) : cm_ l D T ad K n A nw yn_M_choose (.code yn_M_choose cd_M_choose 3 none) 0 [.int (nI p)] ρ (hm_choose n ρ p) none := by
  refine go_in (by decide) (Nat.le_of_ble_eq_true rfl) (List.forall_mem_cons.mpr ⟨rfl, List.forall_mem_cons.mpr ⟨rfl, fun _ h => nomatch h⟩⟩) ?_
  intro P e s m args below meth c X hr hnm hN
  replace X : Cx_ P l e (rm_d 0) s m args below meth c cd_M_choose 3 rn_M D cl_ (tys_ T) TG_ := X
  refine go_loc (L' := [(0, .ref (ad 0)), (1, .int (nI p))]) rfl ?_
  first | refine go_aload_n (i := 0) X rfl rfl dc_M_choose_0 ?_ | refine go_aloadN_n (i := 0) X rfl rfl dc_M_choose_0 ?_
  refine gm_get X 4 (by decide) fl_M_13 rfl dc_M_choose_1 ?_
  first | refine go_aload_n (i := 0) X rfl rfl dc_M_choose_4 ?_ | refine go_aloadN_n (i := 0) X rfl rfl dc_M_choose_4 ?_
  refine gm_get X 15 (by decide) fl_M_47 rfl dc_M_choose_5 ?_
  refine go_iload_n (i := 1) X rfl rfl dc_M_choose_8 ?_
  refine gm_ld (f := ρ 13) X rfl (by decide) (by assumption) dc_M_choose_9 ?_
  refine gm_ld (f := ρ 2) X rfl (by decide) (by assumption) dc_M_choose_10 ?_
  refine go_iconst (v := 1) X (by decide) dc_M_choose_11 ?_
  refine go_iadd X dc_M_choose_12 ?_
  first | refine go_aload_n (i := 0) X rfl rfl dc_M_choose_13 ?_ | refine go_aloadN_n (i := 0) X rfl rfl dc_M_choose_13 ?_
  refine gm_get X 2 (by decide) fl_M_90 rfl dc_M_choose_14 ?_
  refine go_irem X (by assumption) dc_M_choose_17 ?_
  refine go_istore_n (i := 2) X rfl (by decide) dc_M_choose_18 ?_
  first | refine go_aload_n (i := 0) X rfl rfl dc_M_choose_19 ?_ | refine go_aloadN_n (i := 0) X rfl rfl dc_M_choose_19 ?_
  refine gm_get X 16 (by decide) fl_M_50 rfl dc_M_choose_20 ?_
  refine go_iload_n (i := 1) X rfl rfl dc_M_choose_23 ?_
  first | refine go_aload_n (i := 0) X rfl rfl dc_M_choose_24 ?_ | refine go_aloadN_n (i := 0) X rfl rfl dc_M_choose_24 ?_
  refine gm_get X 11 (by decide) fl_M_35 rfl dc_M_choose_25 ?_
  refine go_iload_n (i := 2) X rfl rfl dc_M_choose_28 ?_
  refine gm_ld (f := ρ 9) X rfl (by decide) (by assumption) dc_M_choose_29 ?_
  refine go_if_lt (tgt := 56) X dc_M_choose_30 (by decide) (fun h30 => ?_) (fun h30 => ?_)
  · first | refine go_aload_n (i := 0) X rfl rfl dc_M_choose_56 ?_ | refine go_aloadN_n (i := 0) X rfl rfl dc_M_choose_56 ?_
    refine gm_get X 14 (by decide) fl_M_44 rfl dc_M_choose_57 ?_
    refine go_iload_n (i := 1) X rfl rfl dc_M_choose_60 ?_
    refine gm_ld (f := ρ 12) X rfl (by decide) (by assumption) dc_M_choose_61 ?_
    refine gm_st X (by decide) (by assumption) dc_M_choose_62 ?_
    first | refine go_aload_n (i := 0) X rfl rfl dc_M_choose_63 ?_ | refine go_aloadN_n (i := 0) X rfl rfl dc_M_choose_63 ?_
    refine gm_get X 12 (by decide) fl_M_38 rfl dc_M_choose_64 ?_
    refine go_iload_n (i := 1) X rfl rfl dc_M_choose_67 ?_
    refine go_iconst (v := 4) X (by decide) dc_M_choose_68 ?_
    refine gm_st X (by decide) (by assumption) dc_M_choose_69 ?_
    exact go_vret X hr dc_M_choose_70 (congrArg (mW_ T ad K n) (by (unfold hm_choose; simp only [iz_lt, iz_le, iz_eq, iz_0, iz_1, iz_2, iz_3, iz_4, iz_5, iz_6, iz_7, iz_8, iz_m] at h30 ⊢; repeat' split) <;> first | with_reducible rfl | (exfalso; omega))) rfl
  · first | refine go_aload_n (i := 0) X rfl rfl dc_M_choose_33 ?_ | refine go_aloadN_n (i := 0) X rfl rfl dc_M_choose_33 ?_
    refine gm_get X 4 (by decide) fl_M_13 rfl dc_M_choose_34 ?_
    first | refine go_aload_n (i := 0) X rfl rfl dc_M_choose_37 ?_ | refine go_aloadN_n (i := 0) X rfl rfl dc_M_choose_37 ?_
    refine gm_get X 11 (by decide) fl_M_35 rfl dc_M_choose_38 ?_
    refine go_iload_n (i := 2) X rfl rfl dc_M_choose_41 ?_
    refine gm_ld (f := ρ 9) X rfl (by decide) (by assumption) dc_M_choose_42 ?_
    refine gm_ld (f := ρ 2) X rfl (by decide) (h9 (by rw [iz_le, iz_0]; rw [iz_lt, iz_0] at h30; omega)) dc_M_choose_43 ?_
    refine go_if_ne (tgt := 56) X dc_M_choose_44 (by decide) (fun h44 => ?_) (fun h44 => ?_)
    · first | refine go_aload_n (i := 0) X rfl rfl dc_M_choose_56 ?_ | refine go_aloadN_n (i := 0) X rfl rfl dc_M_choose_56 ?_
      refine gm_get X 14 (by decide) fl_M_44 rfl dc_M_choose_57 ?_
      refine go_iload_n (i := 1) X rfl rfl dc_M_choose_60 ?_
      refine gm_ld (f := ρ 12) X rfl (by decide) (by assumption) dc_M_choose_61 ?_
      refine gm_st X (by decide) (by assumption) dc_M_choose_62 ?_
      first | refine go_aload_n (i := 0) X rfl rfl dc_M_choose_63 ?_ | refine go_aloadN_n (i := 0) X rfl rfl dc_M_choose_63 ?_
      refine gm_get X 12 (by decide) fl_M_38 rfl dc_M_choose_64 ?_
      refine go_iload_n (i := 1) X rfl rfl dc_M_choose_67 ?_
      refine go_iconst (v := 4) X (by decide) dc_M_choose_68 ?_
      refine gm_st X (by decide) (by assumption) dc_M_choose_69 ?_
      exact go_vret X hr dc_M_choose_70 (congrArg (mW_ T ad K n) (by (unfold hm_choose; simp only [iz_lt, iz_le, iz_eq, iz_0, iz_1, iz_2, iz_3, iz_4, iz_5, iz_6, iz_7, iz_8, iz_m] at h30 h44 ⊢; repeat' split) <;> first | with_reducible rfl | (exfalso; omega))) rfl
    · first | refine go_aload_n (i := 0) X rfl rfl dc_M_choose_47 ?_ | refine go_aloadN_n (i := 0) X rfl rfl dc_M_choose_47 ?_
      refine gm_get X 11 (by decide) fl_M_35 rfl dc_M_choose_48 ?_
      refine go_iload_n (i := 2) X rfl rfl dc_M_choose_51 ?_
      refine gm_ld (f := ρ 9) X rfl (by decide) (by assumption) dc_M_choose_52 ?_
      refine go_goto (tgt := 62) X dc_M_choose_53 (by decide) ?_
      refine gm_st X (by decide) (by assumption) dc_M_choose_62 ?_
      first | refine go_aload_n (i := 0) X rfl rfl dc_M_choose_63 ?_ | refine go_aloadN_n (i := 0) X rfl rfl dc_M_choose_63 ?_
      refine gm_get X 12 (by decide) fl_M_38 rfl dc_M_choose_64 ?_
      refine go_iload_n (i := 1) X rfl rfl dc_M_choose_67 ?_
      refine go_iconst (v := 4) X (by decide) dc_M_choose_68 ?_
      refine gm_st X (by decide) (by assumption) dc_M_choose_69 ?_
      exact go_vret X hr dc_M_choose_70 (congrArg (mW_ T ad K n) (by (unfold hm_choose; simp only [iz_lt, iz_le, iz_eq, iz_0, iz_1, iz_2, iz_3, iz_4, iz_5, iz_6, iz_7, iz_8, iz_m] at h30 h44 ⊢; repeat' split) <;> first | with_reducible rfl | (exfalso; omega))) rfl
set_option maxHeartbeats 4000000 in
set_option maxRecDepth 20000 in
theorem tm_propose (l : Launch) (D : va_G) (T : Nat → ClassId) (ad : Nat → Nat) (A : Nat → Prop) (nw : List Cond) (K n : Nat) {ρ : ST_} {p : Nat}(hn : n ≤ 5) (hp : Ix_ (nI p) 5 p)(h13 : Ix_ (ρ 13 p) 32 (ix_ (ρ 13 p))) : cm_ l D T ad K n A nw yn_M_propose (.code yn_M_propose cd_M_propose 3 none) 0 [.int (nI p)] ρ (hm_prop ρ p) none := by
  refine go_in (by decide) (Nat.le_of_ble_eq_true rfl) (List.forall_mem_cons.mpr ⟨rfl, List.forall_mem_cons.mpr ⟨rfl, fun _ h => nomatch h⟩⟩) ?_
  intro P e s m args below meth c X hr hnm hN
  replace X : Cx_ P l e (rm_d 0) s m args below meth c cd_M_propose 3 rn_M D cl_ (tys_ T) TG_ := X
  refine go_loc (L' := [(0, .ref (ad 0)), (1, .int (nI p))]) rfl ?_
  first | refine go_aload_n (i := 0) X rfl rfl dc_M_propose_0 ?_ | refine go_aloadN_n (i := 0) X rfl rfl dc_M_propose_0 ?_
  refine gm_get X 15 (by decide) fl_M_47 rfl dc_M_propose_1 ?_
  refine go_iload_n (i := 1) X rfl rfl dc_M_propose_4 ?_
  refine gm_ld (f := ρ 13) X rfl (by decide) (by assumption) dc_M_propose_5 ?_
  refine go_istore_n (i := 2) X rfl (by decide) dc_M_propose_6 ?_
  first | refine go_aload_n (i := 0) X rfl rfl dc_M_propose_7 ?_ | refine go_aloadN_n (i := 0) X rfl rfl dc_M_propose_7 ?_
  refine gm_get X 5 (by decide) fl_M_17 rfl dc_M_propose_8 ?_
  refine go_iload_n (i := 2) X rfl rfl dc_M_propose_11 ?_
  first | refine go_aload_n (i := 0) X rfl rfl dc_M_propose_12 ?_ | refine go_aloadN_n (i := 0) X rfl rfl dc_M_propose_12 ?_
  refine gm_get X 5 (by decide) fl_M_17 rfl dc_M_propose_13 ?_
  refine go_iload_n (i := 2) X rfl rfl dc_M_propose_16 ?_
  refine gm_ld (f := ρ 3) X rfl (by decide) (by assumption) dc_M_propose_17 ?_
  refine go_if_ge (tgt := 30) X dc_M_propose_18 (by decide) (fun h18 => ?_) (fun h18 => ?_)
  · first | refine go_aload_n (i := 0) X rfl rfl dc_M_propose_30 ?_ | refine go_aloadN_n (i := 0) X rfl rfl dc_M_propose_30 ?_
    refine gm_get X 5 (by decide) fl_M_17 rfl dc_M_propose_31 ?_
    refine go_iload_n (i := 2) X rfl rfl dc_M_propose_34 ?_
    refine gm_ld (f := ρ 3) X rfl (by decide) (by assumption) dc_M_propose_35 ?_
    refine gm_st X (by decide) (by assumption) dc_M_propose_36 ?_
    first | refine go_aload_n (i := 0) X rfl rfl dc_M_propose_37 ?_ | refine go_aloadN_n (i := 0) X rfl rfl dc_M_propose_37 ?_
    refine gm_get X 16 (by decide) fl_M_50 rfl dc_M_propose_38 ?_
    refine go_iload_n (i := 1) X rfl rfl dc_M_propose_41 ?_
    first | refine go_aload_n (i := 0) X rfl rfl dc_M_propose_42 ?_ | refine go_aloadN_n (i := 0) X rfl rfl dc_M_propose_42 ?_
    refine gm_get X 5 (by decide) fl_M_17 rfl dc_M_propose_43 ?_
    refine go_iload_n (i := 2) X rfl rfl dc_M_propose_46 ?_
    refine gm_ld X rfl (by decide) (by assumption) dc_M_propose_47 ?_
    refine gm_st X (by decide) (by assumption) dc_M_propose_48 ?_
    first | refine go_aload_n (i := 0) X rfl rfl dc_M_propose_49 ?_ | refine go_aloadN_n (i := 0) X rfl rfl dc_M_propose_49 ?_
    refine gm_get X 12 (by decide) fl_M_38 rfl dc_M_propose_50 ?_
    refine go_iload_n (i := 1) X rfl rfl dc_M_propose_53 ?_
    refine go_iconst (v := 5) X (by decide) dc_M_propose_54 ?_
    refine gm_st X (by decide) (by assumption) dc_M_propose_55 ?_
    exact go_vret X hr dc_M_propose_56 (congrArg (mW_ T ad K n) (by (unfold hm_prop hm_prop1; simp only [iz_lt, iz_le, iz_eq, iz_0, iz_1, iz_2, iz_3, iz_4, iz_5, iz_6, iz_7, iz_8, iz_m] at h18 ⊢; repeat' split) <;> first | with_reducible rfl | (exfalso; omega))) rfl
  · first | refine go_aload_n (i := 0) X rfl rfl dc_M_propose_21 ?_ | refine go_aloadN_n (i := 0) X rfl rfl dc_M_propose_21 ?_
    refine gm_get X 16 (by decide) fl_M_50 rfl dc_M_propose_22 ?_
    refine go_iload_n (i := 1) X rfl rfl dc_M_propose_25 ?_
    refine gm_ld (f := ρ 14) X rfl (by decide) (by assumption) dc_M_propose_26 ?_
    refine go_goto (tgt := 36) X dc_M_propose_27 (by decide) ?_
    refine gm_st X (by decide) (by assumption) dc_M_propose_36 ?_
    first | refine go_aload_n (i := 0) X rfl rfl dc_M_propose_37 ?_ | refine go_aloadN_n (i := 0) X rfl rfl dc_M_propose_37 ?_
    refine gm_get X 16 (by decide) fl_M_50 rfl dc_M_propose_38 ?_
    refine go_iload_n (i := 1) X rfl rfl dc_M_propose_41 ?_
    first | refine go_aload_n (i := 0) X rfl rfl dc_M_propose_42 ?_ | refine go_aloadN_n (i := 0) X rfl rfl dc_M_propose_42 ?_
    refine gm_get X 5 (by decide) fl_M_17 rfl dc_M_propose_43 ?_
    refine go_iload_n (i := 2) X rfl rfl dc_M_propose_46 ?_
    refine gm_ld X rfl (by decide) (by assumption) dc_M_propose_47 ?_
    refine gm_st X (by decide) (by assumption) dc_M_propose_48 ?_
    first | refine go_aload_n (i := 0) X rfl rfl dc_M_propose_49 ?_ | refine go_aloadN_n (i := 0) X rfl rfl dc_M_propose_49 ?_
    refine gm_get X 12 (by decide) fl_M_38 rfl dc_M_propose_50 ?_
    refine go_iload_n (i := 1) X rfl rfl dc_M_propose_53 ?_
    refine go_iconst (v := 5) X (by decide) dc_M_propose_54 ?_
    refine gm_st X (by decide) (by assumption) dc_M_propose_55 ?_
    exact go_vret X hr dc_M_propose_56 (congrArg (mW_ T ad K n) (by (unfold hm_prop hm_prop1; simp only [iz_lt, iz_le, iz_eq, iz_0, iz_1, iz_2, iz_3, iz_4, iz_5, iz_6, iz_7, iz_8, iz_m] at h18 ⊢; repeat' split) <;> first | with_reducible rfl | (exfalso; omega))) rfl
set_option maxHeartbeats 4000000 in
set_option maxRecDepth 20000 in
theorem tm_give (l : Launch) (D : va_G) (T : Nat → ClassId) (ad : Nat → Nat) (A : Nat → Prop) (nw : List Cond) (K n : Nat) {ρ : ST_} {p : Nat}(hn : n ≤ 5) (hp : Ix_ (nI p) 5 p)(h13 : Ix_ (ρ 13 p) 32 (ix_ (ρ 13 p))) (h14 : Ix_ (ρ 14 p) 32 (ix_ (ρ 14 p))) (hk : Ix_ (hm_k ρ p) 600 (ix_ (hm_k ρ p))) : cm_ l D T ad K n A nw yn_M_give (.code yn_M_give cd_M_give 4 none) 0 [.int (nI p)] ρ (hm_give ρ p) none := by
  have l21 : lm_ 21 = 600 := by decide
  have l22 : lm_ 22 = 600 := by decide
  have l23 : lm_ 23 = 600 := by decide
  have k21 : Ix_ (hm_k ρ p) (lm_ 21) (ix_ (hm_k ρ p)) := by rw [l21]; exact hk
  have k22 : Ix_ (hm_k ρ p) (lm_ 22) (ix_ (hm_k ρ p)) := by rw [l22]; exact hk
  have k23 : Ix_ (hm_k ρ p) (lm_ 23) (ix_ (hm_k ρ p)) := by rw [l23]; exact hk
  clear hk l21 l22 l23
  refine go_in (by decide) (Nat.le_of_ble_eq_true rfl) (List.forall_mem_cons.mpr ⟨rfl, List.forall_mem_cons.mpr ⟨rfl, fun _ h => nomatch h⟩⟩) ?_
  intro P e s m args below meth c X hr hnm hN
  replace X : Cx_ P l e (rm_d 0) s m args below meth c cd_M_give 4 rn_M D cl_ (tys_ T) TG_ := X
  refine go_loc (L' := [(0, .ref (ad 0)), (1, .int (nI p))]) rfl ?_
  first | refine go_aload_n (i := 0) X rfl rfl dc_M_give_0 ?_ | refine go_aloadN_n (i := 0) X rfl rfl dc_M_give_0 ?_
  refine gm_get X 16 (by decide) fl_M_50 rfl dc_M_give_1 ?_
  refine go_iload_n (i := 1) X rfl rfl dc_M_give_4 ?_
  refine gm_ld (f := ρ 14) X rfl (by decide) (by assumption) dc_M_give_5 ?_
  refine go_istore_n (i := 2) X rfl (by decide) dc_M_give_6 ?_
  first | refine go_aload_n (i := 0) X rfl rfl dc_M_give_7 ?_ | refine go_aloadN_n (i := 0) X rfl rfl dc_M_give_7 ?_
  refine gm_get X 4 (by decide) fl_M_13 rfl dc_M_give_8 ?_
  first | refine go_aload_n (i := 0) X rfl rfl dc_M_give_11 ?_ | refine go_aloadN_n (i := 0) X rfl rfl dc_M_give_11 ?_
  refine gm_get X 15 (by decide) fl_M_47 rfl dc_M_give_12 ?_
  refine go_iload_n (i := 1) X rfl rfl dc_M_give_15 ?_
  refine gm_ld (f := ρ 13) X rfl (by decide) (by assumption) dc_M_give_16 ?_
  refine gm_ld (f := ρ 2) X rfl (by decide) (by assumption) dc_M_give_17 ?_
  refine go_iconst (v := 1) X (by decide) dc_M_give_18 ?_
  refine go_iadd X dc_M_give_19 ?_
  refine go_istore_n (i := 3) X rfl (by decide) dc_M_give_20 ?_
  first | refine go_aload_n (i := 0) X rfl rfl dc_M_give_21 ?_ | refine go_aloadN_n (i := 0) X rfl rfl dc_M_give_21 ?_
  refine gm_get X 4 (by decide) fl_M_13 rfl dc_M_give_22 ?_
  refine go_iload_n (i := 2) X rfl rfl dc_M_give_25 ?_
  refine go_iload_n (i := 3) X rfl rfl dc_M_give_26 ?_
  refine gm_st X (by decide) (by assumption) dc_M_give_27 ?_
  first | refine go_aload_n (i := 0) X rfl rfl dc_M_give_28 ?_ | refine go_aloadN_n (i := 0) X rfl rfl dc_M_give_28 ?_
  refine gm_get X 24 (by decide) fl_M_71 rfl dc_M_give_29 ?_
  refine go_iload_n (i := 3) X rfl rfl dc_M_give_32 ?_
  first | refine go_aload_n (i := 0) X rfl rfl dc_M_give_33 ?_ | refine go_aloadN_n (i := 0) X rfl rfl dc_M_give_33 ?_
  refine gm_get X 7 (by decide) fl_M_23 rfl dc_M_give_34 ?_
  refine go_iload_n (i := 2) X rfl rfl dc_M_give_37 ?_
  refine gm_ld (f := ρ 5) X rfl (by decide) (by assumption) dc_M_give_38 ?_
  refine gm_st X (by decide) (by assumption) dc_M_give_39 ?_
  first | refine go_aload_n (i := 0) X rfl rfl dc_M_give_40 ?_ | refine go_aloadN_n (i := 0) X rfl rfl dc_M_give_40 ?_
  refine gm_get X 25 (by decide) fl_M_74 rfl dc_M_give_41 ?_
  refine go_iload_n (i := 3) X rfl rfl dc_M_give_44 ?_
  first | refine go_aload_n (i := 0) X rfl rfl dc_M_give_45 ?_ | refine go_aloadN_n (i := 0) X rfl rfl dc_M_give_45 ?_
  refine gm_get X 8 (by decide) fl_M_26 rfl dc_M_give_46 ?_
  refine go_iload_n (i := 2) X rfl rfl dc_M_give_49 ?_
  refine gm_ld (f := ρ 6) X rfl (by decide) (by assumption) dc_M_give_50 ?_
  refine gm_st X (by decide) (by assumption) dc_M_give_51 ?_
  first | refine go_aload_n (i := 0) X rfl rfl dc_M_give_52 ?_ | refine go_aloadN_n (i := 0) X rfl rfl dc_M_give_52 ?_
  refine gm_get X 26 (by decide) fl_M_77 rfl dc_M_give_53 ?_
  refine go_iload_n (i := 3) X rfl rfl dc_M_give_56 ?_
  first | refine go_aload_n (i := 0) X rfl rfl dc_M_give_57 ?_ | refine go_aloadN_n (i := 0) X rfl rfl dc_M_give_57 ?_
  refine gm_get X 9 (by decide) fl_M_29 rfl dc_M_give_58 ?_
  refine go_iload_n (i := 2) X rfl rfl dc_M_give_61 ?_
  refine gm_ld (f := ρ 7) X rfl (by decide) (by assumption) dc_M_give_62 ?_
  refine gm_st X (by decide) (by assumption) dc_M_give_63 ?_
  first | refine go_aload_n (i := 0) X rfl rfl dc_M_give_64 ?_ | refine go_aloadN_n (i := 0) X rfl rfl dc_M_give_64 ?_
  refine go_iload_n (i := 3) X rfl rfl dc_M_give_65 ?_
  first | refine go_aload_n (i := 0) X rfl rfl dc_M_give_66 ?_ | refine go_aloadN_n (i := 0) X rfl rfl dc_M_give_66 ?_
  refine gm_get (v := .int (ρ 0 1)) X 23 (by decide) fl_M_93 rfl dc_M_give_67 ?_
  refine go_icmp_le (tgt := 77) X dc_M_give_70 (by decide) (fun h70 => ?_) (fun h70 => ?_)
  · first | refine go_aload_n (i := 0) X rfl rfl dc_M_give_77 ?_ | refine go_aloadN_n (i := 0) X rfl rfl dc_M_give_77 ?_
    refine gm_get (v := .int (ρ 0 1)) X 23 (by decide) fl_M_93 rfl dc_M_give_78 ?_
    refine gm_put X 23 1 (by decide) fl_M_93 rfl (tk_M 23 (by decide)) (mF_s1 _ _ _ _ _) dc_M_give_81 ?_
    first | refine go_aload_n (i := 0) X rfl rfl dc_M_give_84 ?_ | refine go_aloadN_n (i := 0) X rfl rfl dc_M_give_84 ?_
    refine gm_get X 12 (by decide) fl_M_38 rfl dc_M_give_85 ?_
    refine go_iload_n (i := 1) X rfl rfl dc_M_give_88 ?_
    refine go_bipush (v := 6) X (by decide) dc_M_give_89 ?_
    refine gm_st X (by decide) (by assumption) dc_M_give_91 ?_
    exact go_vret X hr dc_M_give_92 (congrArg (mW_ T ad K n) (by (unfold hm_give hm_k; simp only [iz_lt, iz_le, iz_eq, iz_0, iz_1, iz_2, iz_3, iz_4, iz_5, iz_6, iz_7, iz_8, iz_m] at h70 ⊢; repeat' split) <;> first | with_reducible rfl | (exfalso; omega))) rfl
  · refine go_iload_n (i := 3) X rfl rfl dc_M_give_73 ?_
    refine go_goto (tgt := 81) X dc_M_give_74 (by decide) ?_
    refine gm_put X 23 1 (by decide) fl_M_93 rfl (tk_M 23 (by decide)) (mF_s1 _ _ _ _ _) dc_M_give_81 ?_
    first | refine go_aload_n (i := 0) X rfl rfl dc_M_give_84 ?_ | refine go_aloadN_n (i := 0) X rfl rfl dc_M_give_84 ?_
    refine gm_get X 12 (by decide) fl_M_38 rfl dc_M_give_85 ?_
    refine go_iload_n (i := 1) X rfl rfl dc_M_give_88 ?_
    refine go_bipush (v := 6) X (by decide) dc_M_give_89 ?_
    refine gm_st X (by decide) (by assumption) dc_M_give_91 ?_
    exact go_vret X hr dc_M_give_92 (congrArg (mW_ T ad K n) (by (unfold hm_give hm_k; simp only [iz_lt, iz_le, iz_eq, iz_0, iz_1, iz_2, iz_3, iz_4, iz_5, iz_6, iz_7, iz_8, iz_m] at h70 ⊢; repeat' split) <;> first | with_reducible rfl | (exfalso; omega))) rfl
set_option maxHeartbeats 4000000 in
set_option maxRecDepth 20000 in
theorem tm_end (l : Launch) (D : va_G) (T : Nat → ClassId) (ad : Nat → Nat) (A : Nat → Prop) (nw : List Cond) (K n : Nat) {ρ : ST_} : cm_ l D T ad K n A nw yn_M_end (.code yn_M_end cd_M_end 1 (some .int)) 0 [] ρ (u2_ ρ 0 0 0) (some (.int (ρ 0 1))) := by
  refine go_in (by decide) (Nat.le_of_ble_eq_true rfl) (List.forall_mem_cons.mpr ⟨rfl, fun _ h => nomatch h⟩) ?_
  intro P e s m args below meth c X hr hnm hN
  replace X : Cx_ P l e (rm_d 0) s m args below meth c cd_M_end 1 rn_M D cl_ (tys_ T) TG_ := X
  refine go_loc (L' := [(0, .ref (ad 0))]) rfl ?_
  first | refine go_aload_n (i := 0) X rfl rfl dc_M_end_0 ?_ | refine go_aloadN_n (i := 0) X rfl rfl dc_M_end_0 ?_
  refine go_iconst (v := 0) X (by decide) dc_M_end_1 ?_
  refine gm_put X 0 0 (by decide) fl_M_99 rfl (tk_M 0 (by decide)) (mF_s0 _ _ _ _ _) dc_M_end_2 ?_
  first | refine go_aload_n (i := 0) X rfl rfl dc_M_end_5 ?_ | refine go_aloadN_n (i := 0) X rfl rfl dc_M_end_5 ?_
  refine gm_get (v := .int (ρ 0 1)) X 23 (by decide) fl_M_93 rfl dc_M_end_6 ?_
  exact go_iret X hr dc_M_end_9 rfl rfl
end M1

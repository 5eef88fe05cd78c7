section M6
set_option maxHeartbeats 4000000 in
set_option maxRecDepth 20000 in
theorem tm_runX (l : Launch) (D : va_G) (T : Nat → ClassId) (ad : Nat → Nat) (A : Nat → Prop) (nw : List Cond) (K n : Nat) {ρ : ST_} {x y : Int32} (hs : ¬ (1 ≤ y ∧ y ≤ 1000)) : cm_ l D T ad K n A nw yn_M_run (.code yn_M_run cd_M_run 6 (some .int)) 1 [.int x, .int y] ρ (u2_ ρ 0 0 1) (some (.int 0)) := by
  refine go_in (by decide) (Nat.le_of_ble_eq_true rfl) (List.forall_mem_cons.mpr ⟨rfl, List.forall_mem_cons.mpr ⟨rfl, List.forall_mem_cons.mpr ⟨rfl, fun _ h => nomatch h⟩⟩⟩) ?_
  intro P e s m args below meth c X hr hnm hN
  replace X : Cx_ P l e (rm_d 1) s m args below meth c cd_M_run 6 rn_M D cl_ (tys_ T) TG_ := X
  refine go_loc (L' := [(0, .ref (ad 0)), (1, .int x), (2, .int y)]) rfl ?_
  first | refine go_aload_n (i := 0) X rfl rfl dc_M_run_0 ?_ | refine go_aloadN_n (i := 0) X rfl rfl dc_M_run_0 ?_
  refine go_iload_n (i := 2) X rfl rfl dc_M_run_1 ?_
  refine go_iconst (v := 1) X (by decide) dc_M_run_2 ?_
  refine go_icmp_lt (tgt := 13) X dc_M_run_3 (by decide) (fun h3 => ?_) (fun h3 => ?_)
  · refine go_iconst (v := 1) X (by decide) dc_M_run_13 ?_
    refine go_goto (tgt := 18) X dc_M_run_14 (by decide) ?_
    refine go_cV (C := rn_M) (ci := 7) (i := 0) (n := 1) (rest := []) X hN (tm_ref1 (x := 1) (by decide)) ml_M_123 im_M_refused sl_M_Mrefused ik_M co_M_refused ⟨rfl, by decide, by decide, by decide +kernel⟩ ⟨rfl, rfl, by decide, by decide⟩ rfl (wl_at (by decide)) rfl rfl (Nat.le_of_ble_eq_true rfl) dc_M_run_18 ⟨Nat.zero_le _, Nat.zero_le _⟩ ?_
    refine go_if_eq (tgt := 26) X dc_M_run_21 (by decide) (fun h21 => ?_) (fun h21 => ?_)
    · exact absurd h21 (by decide)
    · refine go_iconst (v := 0) X (by decide) dc_M_run_24 ?_
      exact go_iret X hr dc_M_run_25 rfl rfl
  · refine go_iload_n (i := 2) X rfl rfl dc_M_run_6 ?_
    refine go_sipush (v := 1000) X (by decide) dc_M_run_7 ?_
    refine go_icmp_le (tgt := 17) X dc_M_run_10 (by decide) (fun h10 => ?_) (fun h10 => ?_)
    · exact absurd ⟨by rw [iz_le, iz_1]; rw [iz_lt, iz_1] at h3; omega, h10⟩ hs
    · refine go_iconst (v := 1) X (by decide) dc_M_run_13 ?_
      refine go_goto (tgt := 18) X dc_M_run_14 (by decide) ?_
      refine go_cV (C := rn_M) (ci := 7) (i := 0) (n := 1) (rest := []) X hN (tm_ref1 (x := 1) (by decide)) ml_M_123 im_M_refused sl_M_Mrefused ik_M co_M_refused ⟨rfl, by decide, by decide, by decide +kernel⟩ ⟨rfl, rfl, by decide, by decide⟩ rfl (wl_at (by decide)) rfl rfl (Nat.le_of_ble_eq_true rfl) dc_M_run_18 ⟨Nat.zero_le _, Nat.zero_le _⟩ ?_
      refine go_if_eq (tgt := 26) X dc_M_run_21 (by decide) (fun h21 => ?_) (fun h21 => ?_)
      · exact absurd h21 (by decide)
      · refine go_iconst (v := 0) X (by decide) dc_M_run_24 ?_
        exact go_iret X hr dc_M_run_25 rfl rfl
set_option maxHeartbeats 4000000 in
set_option maxRecDepth 20000 in
theorem tm_run (l : Launch) (D : va_G) (T : Nat → ClassId) (ad : Nat → Nat) (A : Nat → Prop) (nw : List Cond) (K n : Nat) {ρ : ST_} {x : Int32} {S : Nat} {I : ST_ → Prop} (hK : K < 4) (hn : n ≤ 5) (h0 : 0 < n) (hz : ¬ nI n = 0) (hs : 1 ≤ S ∧ S ≤ 1000) (hR : Rn_ K n I) (hI0 : I (u2_ ρ 0 0 0)) : cm_ l D T ad K n A nw yn_M_run (.code yn_M_run cd_M_run 6 (some .int)) 5 [.int x, .int (nI S)] ρ (hm_run K n S x 0 (u2_ ρ 0 0 0)).1 (some (.int (hm_run K n S x 0 (u2_ ρ 0 0 0)).2)) := by
  refine go_in (by decide) (Nat.le_of_ble_eq_true rfl) (List.forall_mem_cons.mpr ⟨rfl, List.forall_mem_cons.mpr ⟨rfl, List.forall_mem_cons.mpr ⟨rfl, fun _ h => nomatch h⟩⟩⟩) ?_
  intro P e s m args below meth c X hr hnm hN
  replace X : Cx_ P l e (rm_d 5) s m args below meth c cd_M_run 6 rn_M D cl_ (tys_ T) TG_ := X
  refine go_loc (L' := [(0, .ref (ad 0)), (1, .int x), (2, .int (nI S))]) rfl ?_
  first | refine go_aload_n (i := 0) X rfl rfl dc_M_run_0 ?_ | refine go_aloadN_n (i := 0) X rfl rfl dc_M_run_0 ?_
  refine go_iload_n (i := 2) X rfl rfl dc_M_run_1 ?_
  refine go_iconst (v := 1) X (by decide) dc_M_run_2 ?_
  refine go_icmp_lt (tgt := 13) X dc_M_run_3 (by decide) (fun h3 => ?_) (fun h3 => ?_)
  · exfalso
    rw [iz_lt, iz_1, iz_nI (by omega)] at h3
    omega
  · refine go_iload_n (i := 2) X rfl rfl dc_M_run_6 ?_
    refine go_sipush (v := 1000) X (by decide) dc_M_run_7 ?_
    refine go_icmp_le (tgt := 17) X dc_M_run_10 (by decide) (fun h10 => ?_) (fun h10 => ?_)
    · refine go_iconst (v := 0) X (by decide) dc_M_run_17 ?_
      refine go_cV (C := rn_M) (ci := 7) (i := 0) (n := 1) (rest := []) X hN (tm_ref0) ml_M_123 im_M_refused sl_M_Mrefused ik_M co_M_refused ⟨rfl, by decide, by decide, by decide +kernel⟩ ⟨rfl, rfl, by decide, by decide⟩ rfl (wl_at (by decide)) rfl rfl (Nat.le_of_ble_eq_true rfl) dc_M_run_18 ⟨Nat.zero_le _, Nat.zero_le _⟩ ?_
      refine go_if_eq (tgt := 26) X dc_M_run_21 (by decide) (fun h21 => ?_) (fun h21 => ?_)
      · refine go_iload_n (i := 1) X rfl rfl dc_M_run_26 ?_
        refine go_istore_n (i := 3) X rfl (by decide) dc_M_run_27 ?_
        refine go_iconst (v := 0) X (by decide) dc_M_run_28 ?_
        refine go_istore (i := 4) X (by decide) dc_M_run_29 ?_
        refine go_iconst (v := nI 0) X (by decide) dc_M_run_31 ?_
        refine go_istore (i := 5) X (by decide) dc_M_run_32 ?_
        refine go_loc (L' := [(0, .ref (ad 0)), (1, .int x), (2, .int (nI S)), (3, .int x), (4, .int 0), (5, .int (nI 0))]) rfl ?_
        refine (lp_up (P := fun j => ∀ (x9 r9 : Int32) (ρ9 : ST_), I ρ9 → hm_run K n (S - j) x9 r9 ρ9 = hm_run K n S x 0 (u2_ ρ 0 0 0) → Go_ P l e (rm_d 5) s m args below meth c D cl_ A 6 0 0 _ (mW_ T ad K n ρ9) 34 [(0, .ref (ad 0)), (1, .int x), (2, .int (nI S)), (3, .int x9), (4, .int r9), (5, .int (nI j))] []) S (fun j hj ih x9 r9 ρ9 hI9 hE => ?_)) 0 (Nat.zero_le _) x 0 (u2_ ρ 0 0 0) hI0 rfl
        refine go_iload (i := 5) X rfl dc_M_run_34 ?_
        refine go_iload_n (i := 2) X rfl rfl dc_M_run_36 ?_
        refine go_icmp_ge (tgt := 83) X dc_M_run_37 (by decide) (fun h37 => ?_) (fun h37 => ?_)
        · have ej : j = S := by rw [iz_le, iz_nI (by omega), iz_nI (by omega)] at h37; omega
          subst ej
          rw [Nat.sub_self] at hE
          have hE2 : (ρ9, r9) = hm_run K n j x 0 (u2_ ρ 0 0 0) := hE
          refine go_iload (i := 4) X rfl dc_M_run_83 ?_
          exact go_iret X hr dc_M_run_85 (congrArg (mW_ T ad K n) (by rw [← hE2])) (congrArg some (congrArg Value.int (by rw [← hE2])))
        · have hlt : j < S := by rw [iz_le, iz_nI (by omega), iz_nI (by omega)] at h37; omega
          obtain ⟨q, hq, e1, e2⟩ := rq_lt h0 hn (rx_ x9)
          have hq5 : Ix_ (nI q) 5 q := Ix_n (by omega) (by decide)
          obtain ⟨hO, hI2⟩ := hR ρ9 hI9 q hq
          have hS : hm_run K n (S - j) x9 r9 ρ9 = hm_run K n (S - (j + 1)) (rx_ x9) (if (hm_one K n ρ9 q).2 = 1 then r9 + 1 else r9) (hm_one K n ρ9 q).1 := by
            rw [show S - j = S - (j + 1) + 1 by omega]
            show hm_run K n (S - (j + 1)) (rx_ x9) (if (hm_one K n ρ9 (rq_ n (rx_ x9))).2 = 1 then r9 + 1 else r9) (hm_one K n ρ9 (rq_ n (rx_ x9))).1 = _
            rw [e1]
          rw [hS] at hE
          refine go_iload_n (i := 3) X rfl rfl dc_M_run_40 ?_
          refine go_ldc X kc_M_152 dc_M_run_41 ?_
          refine go_imul X dc_M_run_43 ?_
          refine go_sipush (v := 12345) X (by decide) dc_M_run_44 ?_
          refine go_iadd X dc_M_run_47 ?_
          refine go_istore_n (i := 3) X rfl (by decide) dc_M_run_48 ?_
          first | refine go_aload_n (i := 0) X rfl rfl dc_M_run_49 ?_ | refine go_aloadN_n (i := 0) X rfl rfl dc_M_run_49 ?_
          refine go_iload_n (i := 3) X rfl rfl dc_M_run_50 ?_
          refine go_bipush (v := 16) X (by decide) dc_M_run_51 ?_
          refine go_iushr X dc_M_run_53 ?_
          first | refine go_aload_n (i := 0) X rfl rfl dc_M_run_54 ?_ | refine go_aloadN_n (i := 0) X rfl rfl dc_M_run_54 ?_
          refine gm_get X 2 (by decide) fl_M_90 rfl dc_M_run_55 ?_
          refine go_irem X hz dc_M_run_58 ?_
          refine go_eqs (st' := [.int (nI q), .ref (ad 0)]) (by rw [show (x9 * 1103515245 + 12345) = rx_ x9 from rfl, e2]) ?_
          refine go_cV (C := rn_M) (ci := 7) (i := 0) (n := 1) (rest := []) X hN (tm_one l D T ad A nw K n hn hq5 hK hz hO) ml_M_149 im_M_one sl_M_Mone ik_M co_M_one ⟨rfl, by decide, by decide, by decide +kernel⟩ ⟨rfl, rfl, by decide, by decide⟩ rfl (wl_at (by decide)) rfl rfl (Nat.le_of_ble_eq_true rfl) dc_M_run_59 ⟨Nat.zero_le _, Nat.zero_le _⟩ ?_
          refine go_iconst (v := 1) X (by decide) dc_M_run_62 ?_
          refine go_icmp_ne (tgt := 73) X dc_M_run_63 (by decide) (fun h63 => ?_) (fun h63 => ?_)
          · refine go_iload (i := 4) X rfl dc_M_run_73 ?_
            refine go_istore (i := 4) X (by decide) dc_M_run_75 ?_
            refine go_iinc (i := 5) (v := nI (j + 1)) X rfl (by rw [lit1]; exact nI_1 j) (by decide) dc_M_run_77 ?_
            refine go_goto (tgt := 34) X dc_M_run_80 (by decide) ?_
            first | (rw [if_neg h63] at hE; refine go_loc (L' := [(0, .ref (ad 0)), (1, .int x), (2, .int (nI S)), (3, .int (rx_ x9)), (4, .int r9), (5, .int (nI (j + 1)))]) rfl ?_; exact ih hlt _ _ _ hI2 hE) | (rw [if_pos h63] at hE; refine go_loc (L' := [(0, .ref (ad 0)), (1, .int x), (2, .int (nI S)), (3, .int (rx_ x9)), (4, .int (r9 + 1)), (5, .int (nI (j + 1)))]) rfl ?_; exact ih hlt _ _ _ hI2 hE)
          · refine go_iload (i := 4) X rfl dc_M_run_66 ?_
            refine go_iconst (v := 1) X (by decide) dc_M_run_68 ?_
            refine go_iadd X dc_M_run_69 ?_
            refine go_goto (tgt := 75) X dc_M_run_70 (by decide) ?_
            refine go_istore (i := 4) X (by decide) dc_M_run_75 ?_
            refine go_iinc (i := 5) (v := nI (j + 1)) X rfl (by rw [lit1]; exact nI_1 j) (by decide) dc_M_run_77 ?_
            refine go_goto (tgt := 34) X dc_M_run_80 (by decide) ?_
            first | (rw [if_neg h63] at hE; refine go_loc (L' := [(0, .ref (ad 0)), (1, .int x), (2, .int (nI S)), (3, .int (rx_ x9)), (4, .int r9), (5, .int (nI (j + 1)))]) rfl ?_; exact ih hlt _ _ _ hI2 hE) | (rw [if_pos h63] at hE; refine go_loc (L' := [(0, .ref (ad 0)), (1, .int x), (2, .int (nI S)), (3, .int (rx_ x9)), (4, .int (r9 + 1)), (5, .int (nI (j + 1)))]) rfl ?_; exact ih hlt _ _ _ hI2 hE)
      · exact absurd rfl h21
    · exfalso
      rw [iz_le, iz_1000, iz_nI (by omega)] at h10
      omega
set_option maxHeartbeats 4000000 in
set_option maxRecDepth 20000 in
theorem tm_nodeN (l : Launch) (D : va_G) (T : Nat → ClassId) (ad : Nat → Nat) (A : Nat → Prop) (nw : List Cond) (K n : Nat) {ρ : ST_} {x y : Int32} (hf : hm_findF ρ x 32 = -1) : cm_ l D T ad K n A nw yn_M_node (.code yn_M_node cd_M_node 5 (some .int)) 1 [.int x, .int y] ρ (u2_ ρ 0 0 1) (some (.int 0)) := by
  refine go_in (by decide) (Nat.le_of_ble_eq_true rfl) (List.forall_mem_cons.mpr ⟨rfl, List.forall_mem_cons.mpr ⟨rfl, List.forall_mem_cons.mpr ⟨rfl, fun _ h => nomatch h⟩⟩⟩) ?_
  intro P e s m args below meth c X hr hnm hN
  replace X : Cx_ P l e (rm_d 1) s m args below meth c cd_M_node 5 rn_M D cl_ (tys_ T) TG_ := X
  refine go_loc (L' := [(0, .ref (ad 0)), (1, .int x), (2, .int y)]) rfl ?_
  refine go_iconst (v := (-1)) X (by decide) dc_M_node_0 ?_
  refine go_istore_n (i := 3) X rfl (by decide) dc_M_node_1 ?_
  refine go_iconst (v := nI 0) X (by decide) dc_M_node_2 ?_
  refine go_istore (i := 4) X (by decide) dc_M_node_3 ?_
  refine go_loc (L' := [(0, .ref (ad 0)), (1, .int x), (2, .int y), (3, .int (hm_findF ρ x 0)), (4, .int (nI 0))]) rfl ?_
  refine (lp_up (P := fun j => Go_ P l e (rm_d 1) s m args below meth c D cl_ A 5 0 0 _ (mW_ T ad K n (ρ)) 5 [(0, .ref (ad 0)), (1, .int x), (2, .int y), (3, .int (hm_findF ρ x j)), (4, .int (nI j))] []) 32 (fun j hj ih => ?_)) 0 (Nat.zero_le _)
  refine go_iload (i := 4) X rfl dc_M_node_5 ?_
  refine go_bipush (v := 32) X (by decide) dc_M_node_7 ?_
  refine go_icmp_ge (tgt := 50) X dc_M_node_9 (by decide) (fun h9 => ?_) (fun h9 => ?_)
  · have e32 : j = 32 := by rw [iz_le, iz_32, iz_nI (by omega)] at h9; omega
    subst e32
    first | refine go_aload_n (i := 0) X rfl rfl dc_M_node_50 ?_ | refine go_aloadN_n (i := 0) X rfl rfl dc_M_node_50 ?_
    refine go_iload_n (i := 3) X rfl rfl dc_M_node_51 ?_
    refine go_if_ge (tgt := 59) X dc_M_node_52 (by decide) (fun h52 => ?_) (fun h52 => ?_)
    · exact absurd h52 (by rw [hf]; decide)
    · refine go_iconst (v := 1) X (by decide) dc_M_node_55 ?_
      refine go_goto (tgt := 73) X dc_M_node_56 (by decide) ?_
      refine go_cV (C := rn_M) (ci := 7) (i := 0) (n := 1) (rest := []) X hN (tm_ref1 (x := 1) (by decide)) ml_M_123 im_M_refused sl_M_Mrefused ik_M co_M_refused ⟨rfl, by decide, by decide, by decide +kernel⟩ ⟨rfl, rfl, by decide, by decide⟩ rfl (wl_at (by decide)) rfl rfl (Nat.le_of_ble_eq_true rfl) dc_M_node_73 ⟨Nat.zero_le _, Nat.zero_le _⟩ ?_
      refine go_if_eq (tgt := 81) X dc_M_node_76 (by decide) (fun h76 => ?_) (fun h76 => ?_)
      · exact absurd h76 (by decide)
      · refine go_iconst (v := 0) X (by decide) dc_M_node_79 ?_
        exact go_iret X hr dc_M_node_80 rfl rfl
  · have hlt : j < 32 := by rw [iz_le, iz_32, iz_nI (by omega)] at h9; omega
    have hx : Ix_ (nI j) 32 j := Ix_n hlt (by decide)
    first | refine go_aload_n (i := 0) X rfl rfl dc_M_node_12 ?_ | refine go_aloadN_n (i := 0) X rfl rfl dc_M_node_12 ?_
    refine gm_get X 3 (by decide) fl_M_7 rfl dc_M_node_13 ?_
    refine go_iload (i := 4) X rfl dc_M_node_16 ?_
    refine gm_zld (f := ρ 1) X rfl (by assumption) dc_M_node_18 ?_
    refine go_if_eq (tgt := 42) X dc_M_node_19 (by decide) (fun h19 => ?_) (fun h19 => ?_)
    · refine go_iload_n (i := 3) X rfl rfl dc_M_node_42 ?_
      refine go_istore_n (i := 3) X rfl (by decide) dc_M_node_43 ?_
      refine go_iinc (i := 4) (v := nI (j + 1)) X rfl (by rw [lit1]; exact nI_1 j) (by decide) dc_M_node_44 ?_
      refine go_goto (tgt := 5) X dc_M_node_47 (by decide) ?_
      first | (have hc : hm_findF ρ x (j + 1) = hm_findF ρ x j := (by (rw [hm_find_s]; repeat' split) <;> first | with_reducible rfl | (exfalso; clear ih; (simp only [iz_lt, iz_le, iz_eq, iz_0, iz_1, iz_2, iz_3, iz_4, iz_5, iz_6, iz_7, iz_8, iz_m, decide_eq_true_eq, Bool.not_eq_true, decide_not, Bool.not_eq_eq_eq_not, Bool.not_true, decide_eq_false_iff_not] at *) <;> omega)); have ih2 := ih hlt; rw [hc] at ih2; refine go_loc (L' := [(0, .ref (ad 0)), (1, .int x), (2, .int y), (3, .int (hm_findF ρ x j)), (4, .int (nI (j + 1)))]) rfl ?_; exact ih2) | (have hc : hm_findF ρ x (j + 1) = nI j := (by (rw [hm_find_s]; repeat' split) <;> first | with_reducible rfl | (exfalso; clear ih; (simp only [iz_lt, iz_le, iz_eq, iz_0, iz_1, iz_2, iz_3, iz_4, iz_5, iz_6, iz_7, iz_8, iz_m, decide_eq_true_eq, Bool.not_eq_true, decide_not, Bool.not_eq_eq_eq_not, Bool.not_true, decide_eq_false_iff_not] at *) <;> omega)); have ih2 := ih hlt; rw [hc] at ih2; refine go_loc (L' := [(0, .ref (ad 0)), (1, .int x), (2, .int y), (3, .int (nI j)), (4, .int (nI (j + 1)))]) rfl ?_; exact ih2)
    · refine go_iload_n (i := 1) X rfl rfl dc_M_node_22 ?_
      refine go_if_le (tgt := 42) X dc_M_node_23 (by decide) (fun h23 => ?_) (fun h23 => ?_)
      · refine go_iload_n (i := 3) X rfl rfl dc_M_node_42 ?_
        refine go_istore_n (i := 3) X rfl (by decide) dc_M_node_43 ?_
        refine go_iinc (i := 4) (v := nI (j + 1)) X rfl (by rw [lit1]; exact nI_1 j) (by decide) dc_M_node_44 ?_
        refine go_goto (tgt := 5) X dc_M_node_47 (by decide) ?_
        first | (have hc : hm_findF ρ x (j + 1) = hm_findF ρ x j := (by (rw [hm_find_s]; repeat' split) <;> first | with_reducible rfl | (exfalso; clear ih; (simp only [iz_lt, iz_le, iz_eq, iz_0, iz_1, iz_2, iz_3, iz_4, iz_5, iz_6, iz_7, iz_8, iz_m, decide_eq_true_eq, Bool.not_eq_true, decide_not, Bool.not_eq_eq_eq_not, Bool.not_true, decide_eq_false_iff_not] at *) <;> omega)); have ih2 := ih hlt; rw [hc] at ih2; refine go_loc (L' := [(0, .ref (ad 0)), (1, .int x), (2, .int y), (3, .int (hm_findF ρ x j)), (4, .int (nI (j + 1)))]) rfl ?_; exact ih2) | (have hc : hm_findF ρ x (j + 1) = nI j := (by (rw [hm_find_s]; repeat' split) <;> first | with_reducible rfl | (exfalso; clear ih; (simp only [iz_lt, iz_le, iz_eq, iz_0, iz_1, iz_2, iz_3, iz_4, iz_5, iz_6, iz_7, iz_8, iz_m, decide_eq_true_eq, Bool.not_eq_true, decide_not, Bool.not_eq_eq_eq_not, Bool.not_true, decide_eq_false_iff_not] at *) <;> omega)); have ih2 := ih hlt; rw [hc] at ih2; refine go_loc (L' := [(0, .ref (ad 0)), (1, .int x), (2, .int y), (3, .int (nI j)), (4, .int (nI (j + 1)))]) rfl ?_; exact ih2)
      · first | refine go_aload_n (i := 0) X rfl rfl dc_M_node_26 ?_ | refine go_aloadN_n (i := 0) X rfl rfl dc_M_node_26 ?_
        refine gm_get X 4 (by decide) fl_M_13 rfl dc_M_node_27 ?_
        refine go_iload (i := 4) X rfl dc_M_node_30 ?_
        refine gm_ld (f := ρ 2) X rfl (by decide) (by assumption) dc_M_node_32 ?_
        refine go_iload_n (i := 1) X rfl rfl dc_M_node_33 ?_
        refine go_icmp_ne (tgt := 42) X dc_M_node_34 (by decide) (fun h34 => ?_) (fun h34 => ?_)
        · refine go_iload_n (i := 3) X rfl rfl dc_M_node_42 ?_
          refine go_istore_n (i := 3) X rfl (by decide) dc_M_node_43 ?_
          refine go_iinc (i := 4) (v := nI (j + 1)) X rfl (by rw [lit1]; exact nI_1 j) (by decide) dc_M_node_44 ?_
          refine go_goto (tgt := 5) X dc_M_node_47 (by decide) ?_
          first | (have hc : hm_findF ρ x (j + 1) = hm_findF ρ x j := (by (rw [hm_find_s]; repeat' split) <;> first | with_reducible rfl | (exfalso; clear ih; (simp only [iz_lt, iz_le, iz_eq, iz_0, iz_1, iz_2, iz_3, iz_4, iz_5, iz_6, iz_7, iz_8, iz_m, decide_eq_true_eq, Bool.not_eq_true, decide_not, Bool.not_eq_eq_eq_not, Bool.not_true, decide_eq_false_iff_not] at *) <;> omega)); have ih2 := ih hlt; rw [hc] at ih2; refine go_loc (L' := [(0, .ref (ad 0)), (1, .int x), (2, .int y), (3, .int (hm_findF ρ x j)), (4, .int (nI (j + 1)))]) rfl ?_; exact ih2) | (have hc : hm_findF ρ x (j + 1) = nI j := (by (rw [hm_find_s]; repeat' split) <;> first | with_reducible rfl | (exfalso; clear ih; (simp only [iz_lt, iz_le, iz_eq, iz_0, iz_1, iz_2, iz_3, iz_4, iz_5, iz_6, iz_7, iz_8, iz_m, decide_eq_true_eq, Bool.not_eq_true, decide_not, Bool.not_eq_eq_eq_not, Bool.not_true, decide_eq_false_iff_not] at *) <;> omega)); have ih2 := ih hlt; rw [hc] at ih2; refine go_loc (L' := [(0, .ref (ad 0)), (1, .int x), (2, .int y), (3, .int (nI j)), (4, .int (nI (j + 1)))]) rfl ?_; exact ih2)
        · refine go_iload (i := 4) X rfl dc_M_node_37 ?_
          refine go_goto (tgt := 43) X dc_M_node_39 (by decide) ?_
          refine go_istore_n (i := 3) X rfl (by decide) dc_M_node_43 ?_
          refine go_iinc (i := 4) (v := nI (j + 1)) X rfl (by rw [lit1]; exact nI_1 j) (by decide) dc_M_node_44 ?_
          refine go_goto (tgt := 5) X dc_M_node_47 (by decide) ?_
          first | (have hc : hm_findF ρ x (j + 1) = hm_findF ρ x j := (by (rw [hm_find_s]; repeat' split) <;> first | with_reducible rfl | (exfalso; clear ih; (simp only [iz_lt, iz_le, iz_eq, iz_0, iz_1, iz_2, iz_3, iz_4, iz_5, iz_6, iz_7, iz_8, iz_m, decide_eq_true_eq, Bool.not_eq_true, decide_not, Bool.not_eq_eq_eq_not, Bool.not_true, decide_eq_false_iff_not] at *) <;> omega)); have ih2 := ih hlt; rw [hc] at ih2; refine go_loc (L' := [(0, .ref (ad 0)), (1, .int x), (2, .int y), (3, .int (hm_findF ρ x j)), (4, .int (nI (j + 1)))]) rfl ?_; exact ih2) | (have hc : hm_findF ρ x (j + 1) = nI j := (by (rw [hm_find_s]; repeat' split) <;> first | with_reducible rfl | (exfalso; clear ih; (simp only [iz_lt, iz_le, iz_eq, iz_0, iz_1, iz_2, iz_3, iz_4, iz_5, iz_6, iz_7, iz_8, iz_m, decide_eq_true_eq, Bool.not_eq_true, decide_not, Bool.not_eq_eq_eq_not, Bool.not_true, decide_eq_false_iff_not] at *) <;> omega)); have ih2 := ih hlt; rw [hc] at ih2; refine go_loc (L' := [(0, .ref (ad 0)), (1, .int x), (2, .int y), (3, .int (nI j)), (4, .int (nI (j + 1)))]) rfl ?_; exact ih2)
set_option maxHeartbeats 4000000 in
set_option maxRecDepth 20000 in
theorem tm_nodeW (l : Launch) (D : va_G) (T : Nat → ClassId) (ad : Nat → Nat) (A : Nat → Prop) (nw : List Cond) (K n : Nat) {ρ : ST_} {x y : Int32} {k : Nat} (hf : hm_findF ρ x 32 = nI k) (hk : k < 32) (hy : ¬ (0 ≤ y ∧ y ≤ 3)) : cm_ l D T ad K n A nw yn_M_node (.code yn_M_node cd_M_node 5 (some .int)) 1 [.int x, .int y] ρ (u2_ ρ 0 0 2) (some (.int 0)) := by
  refine go_in (by decide) (Nat.le_of_ble_eq_true rfl) (List.forall_mem_cons.mpr ⟨rfl, List.forall_mem_cons.mpr ⟨rfl, List.forall_mem_cons.mpr ⟨rfl, fun _ h => nomatch h⟩⟩⟩) ?_
  intro P e s m args below meth c X hr hnm hN
  replace X : Cx_ P l e (rm_d 1) s m args below meth c cd_M_node 5 rn_M D cl_ (tys_ T) TG_ := X
  refine go_loc (L' := [(0, .ref (ad 0)), (1, .int x), (2, .int y)]) rfl ?_
  refine go_iconst (v := (-1)) X (by decide) dc_M_node_0 ?_
  refine go_istore_n (i := 3) X rfl (by decide) dc_M_node_1 ?_
  refine go_iconst (v := nI 0) X (by decide) dc_M_node_2 ?_
  refine go_istore (i := 4) X (by decide) dc_M_node_3 ?_
  refine go_loc (L' := [(0, .ref (ad 0)), (1, .int x), (2, .int y), (3, .int (hm_findF ρ x 0)), (4, .int (nI 0))]) rfl ?_
  refine (lp_up (P := fun j => Go_ P l e (rm_d 1) s m args below meth c D cl_ A 5 0 0 _ (mW_ T ad K n (ρ)) 5 [(0, .ref (ad 0)), (1, .int x), (2, .int y), (3, .int (hm_findF ρ x j)), (4, .int (nI j))] []) 32 (fun j hj ih => ?_)) 0 (Nat.zero_le _)
  refine go_iload (i := 4) X rfl dc_M_node_5 ?_
  refine go_bipush (v := 32) X (by decide) dc_M_node_7 ?_
  refine go_icmp_ge (tgt := 50) X dc_M_node_9 (by decide) (fun h9 => ?_) (fun h9 => ?_)
  · have e32 : j = 32 := by rw [iz_le, iz_32, iz_nI (by omega)] at h9; omega
    subst e32
    first | refine go_aload_n (i := 0) X rfl rfl dc_M_node_50 ?_ | refine go_aloadN_n (i := 0) X rfl rfl dc_M_node_50 ?_
    refine go_iload_n (i := 3) X rfl rfl dc_M_node_51 ?_
    refine go_if_ge (tgt := 59) X dc_M_node_52 (by decide) (fun h52 => ?_) (fun h52 => ?_)
    · refine go_iload_n (i := 2) X rfl rfl dc_M_node_59 ?_
      refine go_if_lt (tgt := 68) X dc_M_node_60 (by decide) (fun h60 => ?_) (fun h60 => ?_)
      · refine go_iconst (v := 2) X (by decide) dc_M_node_68 ?_
        refine go_goto (tgt := 73) X dc_M_node_69 (by decide) ?_
        refine go_cV (C := rn_M) (ci := 7) (i := 0) (n := 1) (rest := []) X hN (tm_ref1 (x := 2) (by decide)) ml_M_123 im_M_refused sl_M_Mrefused ik_M co_M_refused ⟨rfl, by decide, by decide, by decide +kernel⟩ ⟨rfl, rfl, by decide, by decide⟩ rfl (wl_at (by decide)) rfl rfl (Nat.le_of_ble_eq_true rfl) dc_M_node_73 ⟨Nat.zero_le _, Nat.zero_le _⟩ ?_
        refine go_if_eq (tgt := 81) X dc_M_node_76 (by decide) (fun h76 => ?_) (fun h76 => ?_)
        · exact absurd h76 (by decide)
        · refine go_iconst (v := 0) X (by decide) dc_M_node_79 ?_
          exact go_iret X hr dc_M_node_80 rfl rfl
      · refine go_iload_n (i := 2) X rfl rfl dc_M_node_63 ?_
        refine go_iconst (v := 3) X (by decide) dc_M_node_64 ?_
        refine go_icmp_le (tgt := 72) X dc_M_node_65 (by decide) (fun h65 => ?_) (fun h65 => ?_)
        · exact absurd ⟨by rw [iz_le, iz_0]; rw [iz_lt, iz_0] at h60; omega, h65⟩ hy
        · refine go_iconst (v := 2) X (by decide) dc_M_node_68 ?_
          refine go_goto (tgt := 73) X dc_M_node_69 (by decide) ?_
          refine go_cV (C := rn_M) (ci := 7) (i := 0) (n := 1) (rest := []) X hN (tm_ref1 (x := 2) (by decide)) ml_M_123 im_M_refused sl_M_Mrefused ik_M co_M_refused ⟨rfl, by decide, by decide, by decide +kernel⟩ ⟨rfl, rfl, by decide, by decide⟩ rfl (wl_at (by decide)) rfl rfl (Nat.le_of_ble_eq_true rfl) dc_M_node_73 ⟨Nat.zero_le _, Nat.zero_le _⟩ ?_
          refine go_if_eq (tgt := 81) X dc_M_node_76 (by decide) (fun h76 => ?_) (fun h76 => ?_)
          · exact absurd h76 (by decide)
          · refine go_iconst (v := 0) X (by decide) dc_M_node_79 ?_
            exact go_iret X hr dc_M_node_80 rfl rfl
    · exact absurd (by rw [hf]; exact nI_pos' (by omega)) h52
  · have hlt : j < 32 := by rw [iz_le, iz_32, iz_nI (by omega)] at h9; omega
    have hx : Ix_ (nI j) 32 j := Ix_n hlt (by decide)
    first | refine go_aload_n (i := 0) X rfl rfl dc_M_node_12 ?_ | refine go_aloadN_n (i := 0) X rfl rfl dc_M_node_12 ?_
    refine gm_get X 3 (by decide) fl_M_7 rfl dc_M_node_13 ?_
    refine go_iload (i := 4) X rfl dc_M_node_16 ?_
    refine gm_zld (f := ρ 1) X rfl (by assumption) dc_M_node_18 ?_
    refine go_if_eq (tgt := 42) X dc_M_node_19 (by decide) (fun h19 => ?_) (fun h19 => ?_)
    · refine go_iload_n (i := 3) X rfl rfl dc_M_node_42 ?_
      refine go_istore_n (i := 3) X rfl (by decide) dc_M_node_43 ?_
      refine go_iinc (i := 4) (v := nI (j + 1)) X rfl (by rw [lit1]; exact nI_1 j) (by decide) dc_M_node_44 ?_
      refine go_goto (tgt := 5) X dc_M_node_47 (by decide) ?_
      first | (have hc : hm_findF ρ x (j + 1) = hm_findF ρ x j := (by (rw [hm_find_s]; repeat' split) <;> first | with_reducible rfl | (exfalso; clear ih; (simp only [iz_lt, iz_le, iz_eq, iz_0, iz_1, iz_2, iz_3, iz_4, iz_5, iz_6, iz_7, iz_8, iz_m, decide_eq_true_eq, Bool.not_eq_true, decide_not, Bool.not_eq_eq_eq_not, Bool.not_true, decide_eq_false_iff_not] at *) <;> omega)); have ih2 := ih hlt; rw [hc] at ih2; refine go_loc (L' := [(0, .ref (ad 0)), (1, .int x), (2, .int y), (3, .int (hm_findF ρ x j)), (4, .int (nI (j + 1)))]) rfl ?_; exact ih2) | (have hc : hm_findF ρ x (j + 1) = nI j := (by (rw [hm_find_s]; repeat' split) <;> first | with_reducible rfl | (exfalso; clear ih; (simp only [iz_lt, iz_le, iz_eq, iz_0, iz_1, iz_2, iz_3, iz_4, iz_5, iz_6, iz_7, iz_8, iz_m, decide_eq_true_eq, Bool.not_eq_true, decide_not, Bool.not_eq_eq_eq_not, Bool.not_true, decide_eq_false_iff_not] at *) <;> omega)); have ih2 := ih hlt; rw [hc] at ih2; refine go_loc (L' := [(0, .ref (ad 0)), (1, .int x), (2, .int y), (3, .int (nI j)), (4, .int (nI (j + 1)))]) rfl ?_; exact ih2)
    · refine go_iload_n (i := 1) X rfl rfl dc_M_node_22 ?_
      refine go_if_le (tgt := 42) X dc_M_node_23 (by decide) (fun h23 => ?_) (fun h23 => ?_)
      · refine go_iload_n (i := 3) X rfl rfl dc_M_node_42 ?_
        refine go_istore_n (i := 3) X rfl (by decide) dc_M_node_43 ?_
        refine go_iinc (i := 4) (v := nI (j + 1)) X rfl (by rw [lit1]; exact nI_1 j) (by decide) dc_M_node_44 ?_
        refine go_goto (tgt := 5) X dc_M_node_47 (by decide) ?_
        first | (have hc : hm_findF ρ x (j + 1) = hm_findF ρ x j := (by (rw [hm_find_s]; repeat' split) <;> first | with_reducible rfl | (exfalso; clear ih; (simp only [iz_lt, iz_le, iz_eq, iz_0, iz_1, iz_2, iz_3, iz_4, iz_5, iz_6, iz_7, iz_8, iz_m, decide_eq_true_eq, Bool.not_eq_true, decide_not, Bool.not_eq_eq_eq_not, Bool.not_true, decide_eq_false_iff_not] at *) <;> omega)); have ih2 := ih hlt; rw [hc] at ih2; refine go_loc (L' := [(0, .ref (ad 0)), (1, .int x), (2, .int y), (3, .int (hm_findF ρ x j)), (4, .int (nI (j + 1)))]) rfl ?_; exact ih2) | (have hc : hm_findF ρ x (j + 1) = nI j := (by (rw [hm_find_s]; repeat' split) <;> first | with_reducible rfl | (exfalso; clear ih; (simp only [iz_lt, iz_le, iz_eq, iz_0, iz_1, iz_2, iz_3, iz_4, iz_5, iz_6, iz_7, iz_8, iz_m, decide_eq_true_eq, Bool.not_eq_true, decide_not, Bool.not_eq_eq_eq_not, Bool.not_true, decide_eq_false_iff_not] at *) <;> omega)); have ih2 := ih hlt; rw [hc] at ih2; refine go_loc (L' := [(0, .ref (ad 0)), (1, .int x), (2, .int y), (3, .int (nI j)), (4, .int (nI (j + 1)))]) rfl ?_; exact ih2)
      · first | refine go_aload_n (i := 0) X rfl rfl dc_M_node_26 ?_ | refine go_aloadN_n (i := 0) X rfl rfl dc_M_node_26 ?_
        refine gm_get X 4 (by decide) fl_M_13 rfl dc_M_node_27 ?_
        refine go_iload (i := 4) X rfl dc_M_node_30 ?_
        refine gm_ld (f := ρ 2) X rfl (by decide) (by assumption) dc_M_node_32 ?_
        refine go_iload_n (i := 1) X rfl rfl dc_M_node_33 ?_
        refine go_icmp_ne (tgt := 42) X dc_M_node_34 (by decide) (fun h34 => ?_) (fun h34 => ?_)
        · refine go_iload_n (i := 3) X rfl rfl dc_M_node_42 ?_
          refine go_istore_n (i := 3) X rfl (by decide) dc_M_node_43 ?_
          refine go_iinc (i := 4) (v := nI (j + 1)) X rfl (by rw [lit1]; exact nI_1 j) (by decide) dc_M_node_44 ?_
          refine go_goto (tgt := 5) X dc_M_node_47 (by decide) ?_
          first | (have hc : hm_findF ρ x (j + 1) = hm_findF ρ x j := (by (rw [hm_find_s]; repeat' split) <;> first | with_reducible rfl | (exfalso; clear ih; (simp only [iz_lt, iz_le, iz_eq, iz_0, iz_1, iz_2, iz_3, iz_4, iz_5, iz_6, iz_7, iz_8, iz_m, decide_eq_true_eq, Bool.not_eq_true, decide_not, Bool.not_eq_eq_eq_not, Bool.not_true, decide_eq_false_iff_not] at *) <;> omega)); have ih2 := ih hlt; rw [hc] at ih2; refine go_loc (L' := [(0, .ref (ad 0)), (1, .int x), (2, .int y), (3, .int (hm_findF ρ x j)), (4, .int (nI (j + 1)))]) rfl ?_; exact ih2) | (have hc : hm_findF ρ x (j + 1) = nI j := (by (rw [hm_find_s]; repeat' split) <;> first | with_reducible rfl | (exfalso; clear ih; (simp only [iz_lt, iz_le, iz_eq, iz_0, iz_1, iz_2, iz_3, iz_4, iz_5, iz_6, iz_7, iz_8, iz_m, decide_eq_true_eq, Bool.not_eq_true, decide_not, Bool.not_eq_eq_eq_not, Bool.not_true, decide_eq_false_iff_not] at *) <;> omega)); have ih2 := ih hlt; rw [hc] at ih2; refine go_loc (L' := [(0, .ref (ad 0)), (1, .int x), (2, .int y), (3, .int (nI j)), (4, .int (nI (j + 1)))]) rfl ?_; exact ih2)
        · refine go_iload (i := 4) X rfl dc_M_node_37 ?_
          refine go_goto (tgt := 43) X dc_M_node_39 (by decide) ?_
          refine go_istore_n (i := 3) X rfl (by decide) dc_M_node_43 ?_
          refine go_iinc (i := 4) (v := nI (j + 1)) X rfl (by rw [lit1]; exact nI_1 j) (by decide) dc_M_node_44 ?_
          refine go_goto (tgt := 5) X dc_M_node_47 (by decide) ?_
          first | (have hc : hm_findF ρ x (j + 1) = hm_findF ρ x j := (by (rw [hm_find_s]; repeat' split) <;> first | with_reducible rfl | (exfalso; clear ih; (simp only [iz_lt, iz_le, iz_eq, iz_0, iz_1, iz_2, iz_3, iz_4, iz_5, iz_6, iz_7, iz_8, iz_m, decide_eq_true_eq, Bool.not_eq_true, decide_not, Bool.not_eq_eq_eq_not, Bool.not_true, decide_eq_false_iff_not] at *) <;> omega)); have ih2 := ih hlt; rw [hc] at ih2; refine go_loc (L' := [(0, .ref (ad 0)), (1, .int x), (2, .int y), (3, .int (hm_findF ρ x j)), (4, .int (nI (j + 1)))]) rfl ?_; exact ih2) | (have hc : hm_findF ρ x (j + 1) = nI j := (by (rw [hm_find_s]; repeat' split) <;> first | with_reducible rfl | (exfalso; clear ih; (simp only [iz_lt, iz_le, iz_eq, iz_0, iz_1, iz_2, iz_3, iz_4, iz_5, iz_6, iz_7, iz_8, iz_m, decide_eq_true_eq, Bool.not_eq_true, decide_not, Bool.not_eq_eq_eq_not, Bool.not_true, decide_eq_false_iff_not] at *) <;> omega)); have ih2 := ih hlt; rw [hc] at ih2; refine go_loc (L' := [(0, .ref (ad 0)), (1, .int x), (2, .int y), (3, .int (nI j)), (4, .int (nI (j + 1)))]) rfl ?_; exact ih2)
set_option maxHeartbeats 4000000 in
set_option maxRecDepth 20000 in
theorem tm_node (l : Launch) (D : va_G) (T : Nat → ClassId) (ad : Nat → Nat) (A : Nat → Prop) (nw : List Cond) (K n : Nat) {ρ : ST_} {x y : Int32} {k : Nat} (hf : hm_findF ρ x 32 = nI k) (hk : k < 32) (hy : 0 ≤ y ∧ y ≤ 3) : cm_ l D T ad K n A nw yn_M_node (.code yn_M_node cd_M_node 5 (some .int)) 1 [.int x, .int y] ρ (u2_ ρ 0 0 0) (some (.int (if x = 1 then -1 else hm_part ρ k y))) := by
  refine go_in (by decide) (Nat.le_of_ble_eq_true rfl) (List.forall_mem_cons.mpr ⟨rfl, List.forall_mem_cons.mpr ⟨rfl, List.forall_mem_cons.mpr ⟨rfl, fun _ h => nomatch h⟩⟩⟩) ?_
  intro P e s m args below meth c X hr hnm hN
  replace X : Cx_ P l e (rm_d 1) s m args below meth c cd_M_node 5 rn_M D cl_ (tys_ T) TG_ := X
  refine go_loc (L' := [(0, .ref (ad 0)), (1, .int x), (2, .int y)]) rfl ?_
  refine go_iconst (v := (-1)) X (by decide) dc_M_node_0 ?_
  refine go_istore_n (i := 3) X rfl (by decide) dc_M_node_1 ?_
  refine go_iconst (v := nI 0) X (by decide) dc_M_node_2 ?_
  refine go_istore (i := 4) X (by decide) dc_M_node_3 ?_
  refine go_loc (L' := [(0, .ref (ad 0)), (1, .int x), (2, .int y), (3, .int (hm_findF ρ x 0)), (4, .int (nI 0))]) rfl ?_
  refine (lp_up (P := fun j => Go_ P l e (rm_d 1) s m args below meth c D cl_ A 5 0 0 _ (mW_ T ad K n (ρ)) 5 [(0, .ref (ad 0)), (1, .int x), (2, .int y), (3, .int (hm_findF ρ x j)), (4, .int (nI j))] []) 32 (fun j hj ih => ?_)) 0 (Nat.zero_le _)
  refine go_iload (i := 4) X rfl dc_M_node_5 ?_
  refine go_bipush (v := 32) X (by decide) dc_M_node_7 ?_
  refine go_icmp_ge (tgt := 50) X dc_M_node_9 (by decide) (fun h9 => ?_) (fun h9 => ?_)
  · have e32 : j = 32 := by rw [iz_le, iz_32, iz_nI (by omega)] at h9; omega
    subst e32
    first | refine go_aload_n (i := 0) X rfl rfl dc_M_node_50 ?_ | refine go_aloadN_n (i := 0) X rfl rfl dc_M_node_50 ?_
    refine go_iload_n (i := 3) X rfl rfl dc_M_node_51 ?_
    refine go_if_ge (tgt := 59) X dc_M_node_52 (by decide) (fun h52 => ?_) (fun h52 => ?_)
    · refine go_iload_n (i := 2) X rfl rfl dc_M_node_59 ?_
      refine go_if_lt (tgt := 68) X dc_M_node_60 (by decide) (fun h60 => ?_) (fun h60 => ?_)
      · exfalso
        have z := hy.1
        rw [iz_le, iz_0] at z
        rw [iz_lt, iz_0] at h60
        omega
      · refine go_iload_n (i := 2) X rfl rfl dc_M_node_63 ?_
        refine go_iconst (v := 3) X (by decide) dc_M_node_64 ?_
        refine go_icmp_le (tgt := 72) X dc_M_node_65 (by decide) (fun h65 => ?_) (fun h65 => ?_)
        · refine go_iconst (v := 0) X (by decide) dc_M_node_72 ?_
          refine go_cV (C := rn_M) (ci := 7) (i := 0) (n := 1) (rest := []) X hN (tm_ref0) ml_M_123 im_M_refused sl_M_Mrefused ik_M co_M_refused ⟨rfl, by decide, by decide, by decide +kernel⟩ ⟨rfl, rfl, by decide, by decide⟩ rfl (wl_at (by decide)) rfl rfl (Nat.le_of_ble_eq_true rfl) dc_M_node_73 ⟨Nat.zero_le _, Nat.zero_le _⟩ ?_
          refine go_if_eq (tgt := 81) X dc_M_node_76 (by decide) (fun h76 => ?_) (fun h76 => ?_)
          · have hkx : Ix_ (hm_findF ρ x 32) 32 k := by rw [hf]; exact Ix_n hk (by decide)
            refine go_iload_n (i := 1) X rfl rfl dc_M_node_81 ?_
            refine go_iconst (v := 1) X (by decide) dc_M_node_82 ?_
            refine go_icmp_ne (tgt := 88) X dc_M_node_83 (by decide) (fun h83 => ?_) (fun h83 => ?_)
            · refine go_iload_n (i := 2) X rfl rfl dc_M_node_88 ?_
              refine go_if_ne (tgt := 101) X dc_M_node_89 (by decide) (fun h89 => ?_) (fun h89 => ?_)
              · refine go_iload_n (i := 2) X rfl rfl dc_M_node_101 ?_
                refine go_iconst (v := 1) X (by decide) dc_M_node_102 ?_
                refine go_icmp_ne (tgt := 115) X dc_M_node_103 (by decide) (fun h103 => ?_) (fun h103 => ?_)
                · refine go_iload_n (i := 2) X rfl rfl dc_M_node_115 ?_
                  refine go_iconst (v := 2) X (by decide) dc_M_node_116 ?_
                  refine go_icmp_ne (tgt := 129) X dc_M_node_117 (by decide) (fun h117 => ?_) (fun h117 => ?_)
                  · first | refine go_aload_n (i := 0) X rfl rfl dc_M_node_129 ?_ | refine go_aloadN_n (i := 0) X rfl rfl dc_M_node_129 ?_
                    refine gm_get X 9 (by decide) fl_M_29 rfl dc_M_node_130 ?_
                    refine go_iload_n (i := 3) X rfl rfl dc_M_node_133 ?_
                    refine gm_ld (f := ρ 7) X rfl (by decide) (by assumption) dc_M_node_134 ?_
                    exact go_iret X hr dc_M_node_135 rfl (congrArg some (congrArg Value.int (by rw [if_neg h83]; unfold hm_part; (repeat' split) <;> first | with_reducible rfl | (exfalso; clear ih; (simp only [iz_lt, iz_le, iz_eq, iz_0, iz_1, iz_2, iz_3, iz_4, iz_5, iz_6, iz_7, iz_8, iz_m] at *) <;> omega))))
                  · first | refine go_aload_n (i := 0) X rfl rfl dc_M_node_120 ?_ | refine go_aloadN_n (i := 0) X rfl rfl dc_M_node_120 ?_
                    refine gm_get X 8 (by decide) fl_M_26 rfl dc_M_node_121 ?_
                    refine go_iload_n (i := 3) X rfl rfl dc_M_node_124 ?_
                    refine gm_ld (f := ρ 6) X rfl (by decide) (by assumption) dc_M_node_125 ?_
                    refine go_goto (tgt := 135) X dc_M_node_126 (by decide) ?_
                    exact go_iret X hr dc_M_node_135 rfl (congrArg some (congrArg Value.int (by rw [if_neg h83]; unfold hm_part; (repeat' split) <;> first | with_reducible rfl | (exfalso; clear ih; (simp only [iz_lt, iz_le, iz_eq, iz_0, iz_1, iz_2, iz_3, iz_4, iz_5, iz_6, iz_7, iz_8, iz_m] at *) <;> omega))))
                · first | refine go_aload_n (i := 0) X rfl rfl dc_M_node_106 ?_ | refine go_aloadN_n (i := 0) X rfl rfl dc_M_node_106 ?_
                  refine gm_get X 7 (by decide) fl_M_23 rfl dc_M_node_107 ?_
                  refine go_iload_n (i := 3) X rfl rfl dc_M_node_110 ?_
                  refine gm_ld (f := ρ 5) X rfl (by decide) (by assumption) dc_M_node_111 ?_
                  refine go_goto (tgt := 135) X dc_M_node_112 (by decide) ?_
                  exact go_iret X hr dc_M_node_135 rfl (congrArg some (congrArg Value.int (by rw [if_neg h83]; unfold hm_part; (repeat' split) <;> first | with_reducible rfl | (exfalso; clear ih; (simp only [iz_lt, iz_le, iz_eq, iz_0, iz_1, iz_2, iz_3, iz_4, iz_5, iz_6, iz_7, iz_8, iz_m] at *) <;> omega))))
              · first | refine go_aload_n (i := 0) X rfl rfl dc_M_node_92 ?_ | refine go_aloadN_n (i := 0) X rfl rfl dc_M_node_92 ?_
                refine gm_get X 6 (by decide) fl_M_20 rfl dc_M_node_93 ?_
                refine go_iload_n (i := 3) X rfl rfl dc_M_node_96 ?_
                refine gm_ld (f := ρ 4) X rfl (by decide) (by assumption) dc_M_node_97 ?_
                refine go_goto (tgt := 135) X dc_M_node_98 (by decide) ?_
                exact go_iret X hr dc_M_node_135 rfl (congrArg some (congrArg Value.int (by rw [if_neg h83]; unfold hm_part; (repeat' split) <;> first | with_reducible rfl | (exfalso; clear ih; (simp only [iz_lt, iz_le, iz_eq, iz_0, iz_1, iz_2, iz_3, iz_4, iz_5, iz_6, iz_7, iz_8, iz_m] at *) <;> omega))))
            · refine go_iconst (v := (-1)) X (by decide) dc_M_node_86 ?_
              exact go_iret X hr dc_M_node_87 rfl (congrArg some (congrArg Value.int (by rw [if_pos h83])))
          · exact absurd rfl h76
        · exact absurd hy.2 h65
    · exact absurd (by rw [hf]; exact nI_pos' (by omega)) h52
  · have hlt : j < 32 := by rw [iz_le, iz_32, iz_nI (by omega)] at h9; omega
    have hx : Ix_ (nI j) 32 j := Ix_n hlt (by decide)
    first | refine go_aload_n (i := 0) X rfl rfl dc_M_node_12 ?_ | refine go_aloadN_n (i := 0) X rfl rfl dc_M_node_12 ?_
    refine gm_get X 3 (by decide) fl_M_7 rfl dc_M_node_13 ?_
    refine go_iload (i := 4) X rfl dc_M_node_16 ?_
    refine gm_zld (f := ρ 1) X rfl (by assumption) dc_M_node_18 ?_
    refine go_if_eq (tgt := 42) X dc_M_node_19 (by decide) (fun h19 => ?_) (fun h19 => ?_)
    · refine go_iload_n (i := 3) X rfl rfl dc_M_node_42 ?_
      refine go_istore_n (i := 3) X rfl (by decide) dc_M_node_43 ?_
      refine go_iinc (i := 4) (v := nI (j + 1)) X rfl (by rw [lit1]; exact nI_1 j) (by decide) dc_M_node_44 ?_
      refine go_goto (tgt := 5) X dc_M_node_47 (by decide) ?_
      first | (have hc : hm_findF ρ x (j + 1) = hm_findF ρ x j := (by (rw [hm_find_s]; repeat' split) <;> first | with_reducible rfl | (exfalso; clear ih; (simp only [iz_lt, iz_le, iz_eq, iz_0, iz_1, iz_2, iz_3, iz_4, iz_5, iz_6, iz_7, iz_8, iz_m, decide_eq_true_eq, Bool.not_eq_true, decide_not, Bool.not_eq_eq_eq_not, Bool.not_true, decide_eq_false_iff_not] at *) <;> omega)); have ih2 := ih hlt; rw [hc] at ih2; refine go_loc (L' := [(0, .ref (ad 0)), (1, .int x), (2, .int y), (3, .int (hm_findF ρ x j)), (4, .int (nI (j + 1)))]) rfl ?_; exact ih2) | (have hc : hm_findF ρ x (j + 1) = nI j := (by (rw [hm_find_s]; repeat' split) <;> first | with_reducible rfl | (exfalso; clear ih; (simp only [iz_lt, iz_le, iz_eq, iz_0, iz_1, iz_2, iz_3, iz_4, iz_5, iz_6, iz_7, iz_8, iz_m, decide_eq_true_eq, Bool.not_eq_true, decide_not, Bool.not_eq_eq_eq_not, Bool.not_true, decide_eq_false_iff_not] at *) <;> omega)); have ih2 := ih hlt; rw [hc] at ih2; refine go_loc (L' := [(0, .ref (ad 0)), (1, .int x), (2, .int y), (3, .int (nI j)), (4, .int (nI (j + 1)))]) rfl ?_; exact ih2)
    · refine go_iload_n (i := 1) X rfl rfl dc_M_node_22 ?_
      refine go_if_le (tgt := 42) X dc_M_node_23 (by decide) (fun h23 => ?_) (fun h23 => ?_)
      · refine go_iload_n (i := 3) X rfl rfl dc_M_node_42 ?_
        refine go_istore_n (i := 3) X rfl (by decide) dc_M_node_43 ?_
        refine go_iinc (i := 4) (v := nI (j + 1)) X rfl (by rw [lit1]; exact nI_1 j) (by decide) dc_M_node_44 ?_
        refine go_goto (tgt := 5) X dc_M_node_47 (by decide) ?_
        first | (have hc : hm_findF ρ x (j + 1) = hm_findF ρ x j := (by (rw [hm_find_s]; repeat' split) <;> first | with_reducible rfl | (exfalso; clear ih; (simp only [iz_lt, iz_le, iz_eq, iz_0, iz_1, iz_2, iz_3, iz_4, iz_5, iz_6, iz_7, iz_8, iz_m, decide_eq_true_eq, Bool.not_eq_true, decide_not, Bool.not_eq_eq_eq_not, Bool.not_true, decide_eq_false_iff_not] at *) <;> omega)); have ih2 := ih hlt; rw [hc] at ih2; refine go_loc (L' := [(0, .ref (ad 0)), (1, .int x), (2, .int y), (3, .int (hm_findF ρ x j)), (4, .int (nI (j + 1)))]) rfl ?_; exact ih2) | (have hc : hm_findF ρ x (j + 1) = nI j := (by (rw [hm_find_s]; repeat' split) <;> first | with_reducible rfl | (exfalso; clear ih; (simp only [iz_lt, iz_le, iz_eq, iz_0, iz_1, iz_2, iz_3, iz_4, iz_5, iz_6, iz_7, iz_8, iz_m, decide_eq_true_eq, Bool.not_eq_true, decide_not, Bool.not_eq_eq_eq_not, Bool.not_true, decide_eq_false_iff_not] at *) <;> omega)); have ih2 := ih hlt; rw [hc] at ih2; refine go_loc (L' := [(0, .ref (ad 0)), (1, .int x), (2, .int y), (3, .int (nI j)), (4, .int (nI (j + 1)))]) rfl ?_; exact ih2)
      · first | refine go_aload_n (i := 0) X rfl rfl dc_M_node_26 ?_ | refine go_aloadN_n (i := 0) X rfl rfl dc_M_node_26 ?_
        refine gm_get X 4 (by decide) fl_M_13 rfl dc_M_node_27 ?_
        refine go_iload (i := 4) X rfl dc_M_node_30 ?_
        refine gm_ld (f := ρ 2) X rfl (by decide) (by assumption) dc_M_node_32 ?_
        refine go_iload_n (i := 1) X rfl rfl dc_M_node_33 ?_
        refine go_icmp_ne (tgt := 42) X dc_M_node_34 (by decide) (fun h34 => ?_) (fun h34 => ?_)
        · refine go_iload_n (i := 3) X rfl rfl dc_M_node_42 ?_
          refine go_istore_n (i := 3) X rfl (by decide) dc_M_node_43 ?_
          refine go_iinc (i := 4) (v := nI (j + 1)) X rfl (by rw [lit1]; exact nI_1 j) (by decide) dc_M_node_44 ?_
          refine go_goto (tgt := 5) X dc_M_node_47 (by decide) ?_
          first | (have hc : hm_findF ρ x (j + 1) = hm_findF ρ x j := (by (rw [hm_find_s]; repeat' split) <;> first | with_reducible rfl | (exfalso; clear ih; (simp only [iz_lt, iz_le, iz_eq, iz_0, iz_1, iz_2, iz_3, iz_4, iz_5, iz_6, iz_7, iz_8, iz_m, decide_eq_true_eq, Bool.not_eq_true, decide_not, Bool.not_eq_eq_eq_not, Bool.not_true, decide_eq_false_iff_not] at *) <;> omega)); have ih2 := ih hlt; rw [hc] at ih2; refine go_loc (L' := [(0, .ref (ad 0)), (1, .int x), (2, .int y), (3, .int (hm_findF ρ x j)), (4, .int (nI (j + 1)))]) rfl ?_; exact ih2) | (have hc : hm_findF ρ x (j + 1) = nI j := (by (rw [hm_find_s]; repeat' split) <;> first | with_reducible rfl | (exfalso; clear ih; (simp only [iz_lt, iz_le, iz_eq, iz_0, iz_1, iz_2, iz_3, iz_4, iz_5, iz_6, iz_7, iz_8, iz_m, decide_eq_true_eq, Bool.not_eq_true, decide_not, Bool.not_eq_eq_eq_not, Bool.not_true, decide_eq_false_iff_not] at *) <;> omega)); have ih2 := ih hlt; rw [hc] at ih2; refine go_loc (L' := [(0, .ref (ad 0)), (1, .int x), (2, .int y), (3, .int (nI j)), (4, .int (nI (j + 1)))]) rfl ?_; exact ih2)
        · refine go_iload (i := 4) X rfl dc_M_node_37 ?_
          refine go_goto (tgt := 43) X dc_M_node_39 (by decide) ?_
          refine go_istore_n (i := 3) X rfl (by decide) dc_M_node_43 ?_
          refine go_iinc (i := 4) (v := nI (j + 1)) X rfl (by rw [lit1]; exact nI_1 j) (by decide) dc_M_node_44 ?_
          refine go_goto (tgt := 5) X dc_M_node_47 (by decide) ?_
          first | (have hc : hm_findF ρ x (j + 1) = hm_findF ρ x j := (by (rw [hm_find_s]; repeat' split) <;> first | with_reducible rfl | (exfalso; clear ih; (simp only [iz_lt, iz_le, iz_eq, iz_0, iz_1, iz_2, iz_3, iz_4, iz_5, iz_6, iz_7, iz_8, iz_m, decide_eq_true_eq, Bool.not_eq_true, decide_not, Bool.not_eq_eq_eq_not, Bool.not_true, decide_eq_false_iff_not] at *) <;> omega)); have ih2 := ih hlt; rw [hc] at ih2; refine go_loc (L' := [(0, .ref (ad 0)), (1, .int x), (2, .int y), (3, .int (hm_findF ρ x j)), (4, .int (nI (j + 1)))]) rfl ?_; exact ih2) | (have hc : hm_findF ρ x (j + 1) = nI j := (by (rw [hm_find_s]; repeat' split) <;> first | with_reducible rfl | (exfalso; clear ih; (simp only [iz_lt, iz_le, iz_eq, iz_0, iz_1, iz_2, iz_3, iz_4, iz_5, iz_6, iz_7, iz_8, iz_m, decide_eq_true_eq, Bool.not_eq_true, decide_not, Bool.not_eq_eq_eq_not, Bool.not_true, decide_eq_false_iff_not] at *) <;> omega)); have ih2 := ih hlt; rw [hc] at ih2; refine go_loc (L' := [(0, .ref (ad 0)), (1, .int x), (2, .int y), (3, .int (nI j)), (4, .int (nI (j + 1)))]) rfl ?_; exact ih2)
end M6

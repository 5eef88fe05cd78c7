section C5
set_option maxHeartbeats 4000000 in
set_option maxRecDepth 20000 in
theorem tc_look (l : Launch) (D : va_G) (T : Nat → ClassId) (ad : Nat → Nat) (A : Nat → Prop) (nw : List Cond) (K n : Nat) {σ : ST_} {p : Nat} (hp : p < n) (hn : n ≤ 5) (h11 : 0 ≤ (σ 11 p).toInt) (hh : ∀ q, q < n → Ix_ (σ 8 q) 32 (ix_ (σ 8 q))) (h13x : Ix_ (σ 13 p) 32 (ix_ (σ 13 p)))  : cc_ l D T ad K n A nw yn_H_look (.code yn_H_look cd_H_look 3 none) 0 [.ref (ad 0), .ref (ad (p + 41))] σ (hc_look n σ p) none := by
  refine go_in (by decide) (Nat.le_of_ble_eq_true rfl) (List.forall_mem_cons.mpr ⟨rfl, List.forall_mem_cons.mpr ⟨rfl, fun _ h => nomatch h⟩⟩) ?_
  intro P e s m args below meth c X hr hnm hN
  replace X : Cx_ P l e (rm_d 0) s m args below meth c cd_H_look 3 rn_H D cl_ (tys_ T) TG_ := X
  refine go_loc (L' := [(0, .ref (ad 0)), (1, .ref (ad (p + 41)))]) rfl ?_
  refine go_aload_n (i := 1) X rfl rfl dc_H_look_0 ?_
  refine gc_get (v := .int (σ 11 (p))) X (by first | assumption | exact Ix_lt (by assumption)) 5 (by decide) fl_H_210 rfl dc_H_look_1 ?_
  refine go_aload_n (i := 0) X rfl rfl dc_H_look_4 ?_
  refine gh_get X 0 (by decide) fl_H_49 rfl dc_H_look_5 ?_
  refine gx_lc X dc_H_look_8 ?_
  refine go_icmp_ge (tgt := 44) X dc_H_look_9 (by decide) (fun h9 => ?_) (fun h9 => ?_)
  · refine go_aload_n (i := 1) X rfl rfl dc_H_look_44 ?_
    refine go_dup X rfl dc_H_look_45 ?_
    refine gc_get (v := .int (σ 11 (p))) X (by first | assumption | exact Ix_lt (by assumption)) 5 (by decide) fl_H_210 rfl dc_H_look_46 ?_
    refine go_iconst (v := 1) X (by decide) dc_H_look_49 ?_
    refine go_iadd X dc_H_look_50 ?_
    refine gc_put X 5 11 (by first | assumption | exact Ix_lt (by assumption)) (by decide) fl_H_210 rfl (tk_C 5 (by decide)) rfl rfl (cu_11 _ _) dc_H_look_51 ?_
    refine go_aload_n (i := 1) X rfl rfl dc_H_look_54 ?_
    refine gc_get (v := .int (σ 11 p + 1)) X (by first | assumption | exact Ix_lt (by assumption)) 5 (by decide) fl_H_210 (congrArg some (congrArg Value.int pk_us)) dc_H_look_55 ?_
    refine go_aload_n (i := 0) X rfl rfl dc_H_look_58 ?_
    refine gh_get X 0 (by decide) fl_H_49 rfl dc_H_look_59 ?_
    refine gx_lc X dc_H_look_62 ?_
    refine go_icmp_lt (tgt := 71) X dc_H_look_63 (by decide) (fun h63 => ?_) (fun h63 => ?_)
    · exact go_vret X hr dc_H_look_71 (congrArg (cW_ T ad K n) (by (unfold hc_look hc_look1; simp only [iz_lt, iz_le, iz_eq, iz_0, iz_1, iz_2, iz_3, iz_4, iz_5, iz_6, iz_7, iz_8, iz_m] at h9 h63 ⊢; repeat' split) <;> first | with_reducible rfl | (exfalso; omega))) rfl
    · refine go_aload_n (i := 1) X rfl rfl dc_H_look_66 ?_
      refine go_iconst (v := 2) X (by decide) dc_H_look_67 ?_
      refine gc_put X 1 10 (by first | assumption | exact Ix_lt (by assumption)) (by decide) fl_H_63 rfl (tk_C 1 (by decide)) rfl rfl (cu_10 _ _) dc_H_look_68 ?_
      exact go_vret X hr dc_H_look_71 (congrArg (cW_ T ad K n) (by (unfold hc_look hc_look1; simp only [iz_lt, iz_le, iz_eq, iz_0, iz_1, iz_2, iz_3, iz_4, iz_5, iz_6, iz_7, iz_8, iz_m] at h9 h63 ⊢; repeat' split) <;> first | with_reducible rfl | (exfalso; omega))) rfl
  · have hxl : Ix_ (σ 11 p) n (ix_ (σ 11 p)) := Ix_r h11 (by rw [iz_le, iz_nI (by omega)] at h9; omega)
    have h8q := hh _ (Ix_lt hxl)
    have hql := Ix_lt hxl
    refine go_aload_n (i := 0) X rfl rfl dc_H_look_12 ?_
    refine gh_get X 0 (by decide) fl_H_49 rfl dc_H_look_13 ?_
    refine go_aload_n (i := 1) X rfl rfl dc_H_look_16 ?_
    refine gc_get (v := .int (σ 11 (p))) X (by first | assumption | exact Ix_lt (by assumption)) 5 (by decide) fl_H_210 rfl dc_H_look_17 ?_
    refine gx_cl (k := ix_ (σ 11 p)) X (by assumption) dc_H_look_20 ?_
    refine gc_getR (x := σ 8 (ix_ (σ 11 p))) (j := ix_ (σ 8 (ix_ (σ 11 p)))) X (by first | assumption | exact Ix_lt (by assumption)) 6 (by decide) fl_H_126 rfl (by assumption) dc_H_look_21 ?_
    refine go_astore_n (i := 2) X rfl (by decide) dc_H_look_24 ?_
    refine go_aload_n (i := 2) X rfl rfl dc_H_look_25 ?_
    refine gn_get (v := .int (σ 2 (ix_ (σ 8 (ix_ (σ 11 p)))))) X (by first | assumption | exact Ix_lt (by assumption)) 5 (by decide) fl_H_43 rfl dc_H_look_26 ?_
    refine go_aload_n (i := 1) X rfl rfl dc_H_look_29 ?_
    refine gc_getR (x := σ 13 (p)) (j := ix_ (σ 13 (p))) X (by first | assumption | exact Ix_lt (by assumption)) 9 (by decide) fl_H_207 rfl (by assumption) dc_H_look_30 ?_
    refine gn_get (v := .int (σ 2 (ix_ (σ 13 (p))))) X (by first | assumption | exact Ix_lt (by assumption)) 5 (by decide) fl_H_43 rfl dc_H_look_33 ?_
    refine go_icmp_le (tgt := 44) X dc_H_look_36 (by decide) (fun h36 => ?_) (fun h36 => ?_)
    · refine go_aload_n (i := 1) X rfl rfl dc_H_look_44 ?_
      refine go_dup X rfl dc_H_look_45 ?_
      refine gc_get (v := .int (σ 11 (p))) X (by first | assumption | exact Ix_lt (by assumption)) 5 (by decide) fl_H_210 rfl dc_H_look_46 ?_
      refine go_iconst (v := 1) X (by decide) dc_H_look_49 ?_
      refine go_iadd X dc_H_look_50 ?_
      refine gc_put X 5 11 (by first | assumption | exact Ix_lt (by assumption)) (by decide) fl_H_210 rfl (tk_C 5 (by decide)) rfl rfl (cu_11 _ _) dc_H_look_51 ?_
      refine go_aload_n (i := 1) X rfl rfl dc_H_look_54 ?_
      refine gc_get (v := .int (σ 11 p + 1)) X (by first | assumption | exact Ix_lt (by assumption)) 5 (by decide) fl_H_210 (congrArg some (congrArg Value.int pk_us)) dc_H_look_55 ?_
      refine go_aload_n (i := 0) X rfl rfl dc_H_look_58 ?_
      refine gh_get X 0 (by decide) fl_H_49 rfl dc_H_look_59 ?_
      refine gx_lc X dc_H_look_62 ?_
      refine go_icmp_lt (tgt := 71) X dc_H_look_63 (by decide) (fun h63 => ?_) (fun h63 => ?_)
      · exact go_vret X hr dc_H_look_71 (congrArg (cW_ T ad K n) (by (unfold hc_look hc_look1; simp only [iz_lt, iz_le, iz_eq, iz_0, iz_1, iz_2, iz_3, iz_4, iz_5, iz_6, iz_7, iz_8, iz_m] at h9 h36 h63 ⊢; repeat' split) <;> first | with_reducible rfl | (exfalso; omega))) rfl
      · refine go_aload_n (i := 1) X rfl rfl dc_H_look_66 ?_
        refine go_iconst (v := 2) X (by decide) dc_H_look_67 ?_
        refine gc_put X 1 10 (by first | assumption | exact Ix_lt (by assumption)) (by decide) fl_H_63 rfl (tk_C 1 (by decide)) rfl rfl (cu_10 _ _) dc_H_look_68 ?_
        exact go_vret X hr dc_H_look_71 (congrArg (cW_ T ad K n) (by (unfold hc_look hc_look1; simp only [iz_lt, iz_le, iz_eq, iz_0, iz_1, iz_2, iz_3, iz_4, iz_5, iz_6, iz_7, iz_8, iz_m] at h9 h36 h63 ⊢; repeat' split) <;> first | with_reducible rfl | (exfalso; omega))) rfl
    · refine go_aload_n (i := 1) X rfl rfl dc_H_look_39 ?_
      refine go_aload_n (i := 2) X rfl rfl dc_H_look_40 ?_
      refine gc_putR (x := σ 8 (ix_ (σ 11 p))) X 9 13 (by first | assumption | exact Ix_lt (by assumption)) (by decide) fl_H_207 rfl (tk_C 9 (by decide)) (rf_ix (by assumption)) rfl rfl (cu_13 _ _) dc_H_look_41 ?_
      refine go_aload_n (i := 1) X rfl rfl dc_H_look_44 ?_
      refine go_dup X rfl dc_H_look_45 ?_
      refine gc_get (v := .int (σ 11 (p))) X (by first | assumption | exact Ix_lt (by assumption)) 5 (by decide) fl_H_210 rfl dc_H_look_46 ?_
      refine go_iconst (v := 1) X (by decide) dc_H_look_49 ?_
      refine go_iadd X dc_H_look_50 ?_
      refine gc_put X 5 11 (by first | assumption | exact Ix_lt (by assumption)) (by decide) fl_H_210 rfl (tk_C 5 (by decide)) rfl rfl (cu_11 _ _) dc_H_look_51 ?_
      refine go_aload_n (i := 1) X rfl rfl dc_H_look_54 ?_
      refine gc_get (v := .int (σ 11 p + 1)) X (by first | assumption | exact Ix_lt (by assumption)) 5 (by decide) fl_H_210 (congrArg some (congrArg Value.int pk_us)) dc_H_look_55 ?_
      refine go_aload_n (i := 0) X rfl rfl dc_H_look_58 ?_
      refine gh_get X 0 (by decide) fl_H_49 rfl dc_H_look_59 ?_
      refine gx_lc X dc_H_look_62 ?_
      refine go_icmp_lt (tgt := 71) X dc_H_look_63 (by decide) (fun h63 => ?_) (fun h63 => ?_)
      · exact go_vret X hr dc_H_look_71 (congrArg (cW_ T ad K n) (by (unfold hc_look hc_look1; simp only [iz_lt, iz_le, iz_eq, iz_0, iz_1, iz_2, iz_3, iz_4, iz_5, iz_6, iz_7, iz_8, iz_m] at h9 h36 h63 ⊢; repeat' split) <;> first | with_reducible rfl | (exfalso; omega))) rfl
      · refine go_aload_n (i := 1) X rfl rfl dc_H_look_66 ?_
        refine go_iconst (v := 2) X (by decide) dc_H_look_67 ?_
        refine gc_put X 1 10 (by first | assumption | exact Ix_lt (by assumption)) (by decide) fl_H_63 rfl (tk_C 1 (by decide)) rfl rfl (cu_10 _ _) dc_H_look_68 ?_
        exact go_vret X hr dc_H_look_71 (congrArg (cW_ T ad K n) (by (unfold hc_look hc_look1; simp only [iz_lt, iz_le, iz_eq, iz_0, iz_1, iz_2, iz_3, iz_4, iz_5, iz_6, iz_7, iz_8, iz_m] at h9 h36 h63 ⊢; repeat' split) <;> first | with_reducible rfl | (exfalso; omega))) rfl
set_option maxHeartbeats 4000000 in
set_option maxRecDepth 20000 in
theorem tc_choose (l : Launch) (D : va_G) (T : Nat → ClassId) (ad : Nat → Nat) (A : Nat → Prop) (nw : List Cond) (K n : Nat) {σ : ST_} {p : Nat} (hp : p < n) (hn : n ≤ 5) (h0 : 0 < n) (hk : 0 ≤ (σ 2 (ix_ (σ 13 p)) + 1).toInt ∧ (σ 2 (ix_ (σ 13 p)) + 1).toInt < 1000000) (h9 : ∀ q, q < n → 0 ≤ σ 9 q → Ix_ (σ 9 q) 32 (ix_ (σ 9 q))) (h12x : Ix_ (σ 12 p) 32 (ix_ (σ 12 p))) (h13x : Ix_ (σ 13 p) 32 (ix_ (σ 13 p)))  : cc_ l D T ad K n A nw yn_H_choose (.code yn_H_choose cd_H_choose 4 none) 1 [.ref (ad 0), .ref (ad (p + 41))] σ (hc_choose n σ p) none := by
  refine go_in (by decide) (Nat.le_of_ble_eq_true rfl) (List.forall_mem_cons.mpr ⟨rfl, List.forall_mem_cons.mpr ⟨rfl, fun _ h => nomatch h⟩⟩) ?_
  intro P e s m args below meth c X hr hnm hN
  replace X : Cx_ P l e (rm_d 1) s m args below meth c cd_H_choose 4 rn_H D cl_ (tys_ T) TG_ := X
  refine go_loc (L' := [(0, .ref (ad 0)), (1, .ref (ad (p + 41)))]) rfl ?_
  have hz : 0 < (nI n).toInt := by rw [iz_nI (by omega)]; omega
  have hqb := fmv_bounds (a := σ 2 (ix_ (σ 13 p)) + 1) hz
  rw [iz_nI (by omega)] at hqb
  have hqx : Ix_ (fmv (σ 2 (ix_ (σ 13 p)) + 1) (nI n)) n (ix_ (fmv (σ 2 (ix_ (σ 13 p)) + 1) (nI n))) := Ix_r hqb.1 hqb.2
  have hqn := Ix_lt hqx
  have hzn : ¬ nI n = 0 := by rw [iz_eq, iz_0, iz_nI (by omega)]; omega
  obtain ⟨ea, -⟩ := iz_of hk.1
  have hkx : ix_ (σ 2 (ix_ (σ 13 p)) + 1) < 1000000 := by rw [iz_ix]; omega
  have hfq : (σ 2 (ix_ (σ 13 p)) + 1) - (σ 2 (ix_ (σ 13 p)) + 1) / nI n * nI n = fmv (σ 2 (ix_ (σ 13 p)) + 1) (nI n) := by rw [ea, (fm_q hkx h0 (by omega)).1, (fm_q hkx h0 (by omega)).2]
  by_cases h9n : 0 ≤ hc_helped n σ p
  · have h9x : Ix_ (hc_helped n σ p) 32 (ix_ (hc_helped n σ p)) := h9 _ hqn h9n
    refine go_aload_n (i := 1) X rfl rfl dc_H_choose_0 ?_
    refine gc_getR (x := σ 13 (p)) (j := ix_ (σ 13 (p))) X (by first | assumption | exact Ix_lt (by assumption)) 9 (by decide) fl_H_207 rfl (by assumption) dc_H_choose_1 ?_
    refine gn_get (v := .int (σ 2 (ix_ (σ 13 (p))))) X (by first | assumption | exact Ix_lt (by assumption)) 5 (by decide) fl_H_43 rfl dc_H_choose_4 ?_
    refine go_iconst (v := 1) X (by decide) dc_H_choose_7 ?_
    refine go_iadd X dc_H_choose_8 ?_
    refine go_istore_n (i := 2) X rfl (by decide) dc_H_choose_9 ?_
    refine go_aload_n (i := 0) X rfl rfl dc_H_choose_10 ?_
    refine gh_get X 0 (by decide) fl_H_49 rfl dc_H_choose_11 ?_
    refine go_iload_n (i := 2) X rfl rfl dc_H_choose_14 ?_
    refine go_aload_n (i := 0) X rfl rfl dc_H_choose_15 ?_
    refine gh_get X 0 (by decide) fl_H_49 rfl dc_H_choose_16 ?_
    refine gx_lc X dc_H_choose_19 ?_
    refine go_fm X ml_H_213 hzn (xor_nn hk.1 (by rw [iz_nI (by omega)]; omega)) (by decide) (Nat.le_of_ble_eq_true rfl) ⟨Nat.zero_le _, Nat.zero_le _⟩ dc_H_choose_20 ?_
    rw [hfq]
    refine gx_cl (k := ix_ (fmv (σ 2 (ix_ (σ 13 p)) + 1) (nI n))) X (by assumption) dc_H_choose_23 ?_
    refine gc_getR (x := hc_helped n σ p) (j := ix_ (hc_helped n σ p)) X hqn 7 (by decide) fl_H_204 rfl h9x dc_H_choose_24 ?_
    refine go_astore_n (i := 3) X rfl (by decide) dc_H_choose_27 ?_
    refine go_aload_n (i := 1) X rfl rfl dc_H_choose_28 ?_
    refine go_aload_n (i := 3) X rfl rfl dc_H_choose_29 ?_
    refine go_ifnull X dc_H_choose_30 ?_
    refine go_aload_n (i := 3) X rfl rfl dc_H_choose_33 ?_
    refine gn_get (v := .int (σ 2 (ix_ (hc_helped n σ p)))) X (by first | assumption | exact Ix_lt (by assumption)) 5 (by decide) fl_H_43 rfl dc_H_choose_34 ?_
    refine go_if_ne (tgt := 44) X dc_H_choose_37 (by decide) (fun h37 => ?_) (fun h37 => ?_)
    · have hE : hc_choose n σ p = u2_ (u2_ σ 14 p (σ 12 p)) 10 p 4 := by unfold hc_choose; rw [if_neg (fun q => h37 q.2)]
      refine go_aload_n (i := 1) X rfl rfl dc_H_choose_44 ?_
      refine gc_getR (x := σ 12 (p)) (j := ix_ (σ 12 (p))) X (by first | assumption | exact Ix_lt (by assumption)) 8 (by decide) fl_H_180 rfl (by assumption) dc_H_choose_45 ?_
      refine gc_putR (x := σ 12 (p)) X 10 14 (by first | assumption | exact Ix_lt (by assumption)) (by decide) fl_H_216 rfl (tk_C 10 (by decide)) (rf_ix (by assumption)) rfl rfl (cu_14 _ _) dc_H_choose_48 ?_
      refine go_aload_n (i := 1) X rfl rfl dc_H_choose_51 ?_
      refine go_iconst (v := 4) X (by decide) dc_H_choose_52 ?_
      refine gc_put X 1 10 (by first | assumption | exact Ix_lt (by assumption)) (by decide) fl_H_63 rfl (tk_C 1 (by decide)) rfl rfl (cu_10 _ _) dc_H_choose_53 ?_
      exact go_vret X hr dc_H_choose_56 (congrArg (cW_ T ad K n) hE.symm) rfl
    · have hE : hc_choose n σ p = u2_ (u2_ σ 14 p (hc_helped n σ p)) 10 p 4 := by unfold hc_choose; rw [if_pos ⟨h9n, h37⟩]
      refine go_aload_n (i := 3) X rfl rfl dc_H_choose_40 ?_
      refine go_goto (tgt := 48) X dc_H_choose_41 (by decide) ?_
      refine gc_putR (x := hc_helped n σ p) X 10 14 (by first | assumption | exact Ix_lt (by assumption)) (by decide) fl_H_216 rfl (tk_C 10 (by decide)) (rf_ix (by assumption)) rfl rfl (cu_14 _ _) dc_H_choose_48 ?_
      refine go_aload_n (i := 1) X rfl rfl dc_H_choose_51 ?_
      refine go_iconst (v := 4) X (by decide) dc_H_choose_52 ?_
      refine gc_put X 1 10 (by first | assumption | exact Ix_lt (by assumption)) (by decide) fl_H_63 rfl (tk_C 1 (by decide)) rfl rfl (cu_10 _ _) dc_H_choose_53 ?_
      exact go_vret X hr dc_H_choose_56 (congrArg (cW_ T ad K n) hE.symm) rfl
  · have hneg : hc_helped n σ p < 0 := by rw [iz_lt, iz_0]; rw [iz_le, iz_0] at h9n; omega
    have hE : hc_choose n σ p = u2_ (u2_ σ 14 p (σ 12 p)) 10 p 4 := by unfold hc_choose; rw [if_neg (fun q => h9n q.1)]
    refine go_aload_n (i := 1) X rfl rfl dc_H_choose_0 ?_
    refine gc_getR (x := σ 13 (p)) (j := ix_ (σ 13 (p))) X (by first | assumption | exact Ix_lt (by assumption)) 9 (by decide) fl_H_207 rfl (by assumption) dc_H_choose_1 ?_
    refine gn_get (v := .int (σ 2 (ix_ (σ 13 (p))))) X (by first | assumption | exact Ix_lt (by assumption)) 5 (by decide) fl_H_43 rfl dc_H_choose_4 ?_
    refine go_iconst (v := 1) X (by decide) dc_H_choose_7 ?_
    refine go_iadd X dc_H_choose_8 ?_
    refine go_istore_n (i := 2) X rfl (by decide) dc_H_choose_9 ?_
    refine go_aload_n (i := 0) X rfl rfl dc_H_choose_10 ?_
    refine gh_get X 0 (by decide) fl_H_49 rfl dc_H_choose_11 ?_
    refine go_iload_n (i := 2) X rfl rfl dc_H_choose_14 ?_
    refine go_aload_n (i := 0) X rfl rfl dc_H_choose_15 ?_
    refine gh_get X 0 (by decide) fl_H_49 rfl dc_H_choose_16 ?_
    refine gx_lc X dc_H_choose_19 ?_
    refine go_fm X ml_H_213 hzn (xor_nn hk.1 (by rw [iz_nI (by omega)]; omega)) (by decide) (Nat.le_of_ble_eq_true rfl) ⟨Nat.zero_le _, Nat.zero_le _⟩ dc_H_choose_20 ?_
    rw [hfq]
    refine gx_cl (k := ix_ (fmv (σ 2 (ix_ (σ 13 p)) + 1) (nI n))) X (by assumption) dc_H_choose_23 ?_
    refine gc_get (v := .null) X hqn 7 (by decide) fl_H_204 (congrArg some (rf_neg hneg)) dc_H_choose_24 ?_
    refine go_astoreN_n (i := 3) X rfl (by decide) dc_H_choose_27 ?_
    refine go_aload_n (i := 1) X rfl rfl dc_H_choose_28 ?_
    refine go_aloadN_n (i := 3) X rfl rfl dc_H_choose_29 ?_
    refine go_ifnullN (tgt := 44) X dc_H_choose_30 (by decide) ?_
    refine go_aload_n (i := 1) X rfl rfl dc_H_choose_44 ?_
    refine gc_getR (x := σ 12 (p)) (j := ix_ (σ 12 (p))) X (by first | assumption | exact Ix_lt (by assumption)) 8 (by decide) fl_H_180 rfl (by assumption) dc_H_choose_45 ?_
    refine gc_putR (x := σ 12 (p)) X 10 14 (by first | assumption | exact Ix_lt (by assumption)) (by decide) fl_H_216 rfl (tk_C 10 (by decide)) (rf_ix (by assumption)) rfl rfl (cu_14 _ _) dc_H_choose_48 ?_
    refine go_aload_n (i := 1) X rfl rfl dc_H_choose_51 ?_
    refine go_iconst (v := 4) X (by decide) dc_H_choose_52 ?_
    refine gc_put X 1 10 (by first | assumption | exact Ix_lt (by assumption)) (by decide) fl_H_63 rfl (tk_C 1 (by decide)) rfl rfl (cu_10 _ _) dc_H_choose_53 ?_
    exact go_vret X hr dc_H_choose_56 (congrArg (cW_ T ad K n) hE.symm) rfl
set_option maxHeartbeats 4000000 in
set_option maxRecDepth 20000 in
theorem tc_propose (l : Launch) (D : va_G) (T : Nat → ClassId) (ad : Nat → Nat) (A : Nat → Prop) (nw : List Cond) (K n : Nat) {σ : ST_} {p : Nat} (hp : p < n) (h3 : 0 ≤ σ 3 (ix_ (σ 13 p)) → Ix_ (σ 3 (ix_ (σ 13 p))) 32 (ix_ (σ 3 (ix_ (σ 13 p))))) (h13x : Ix_ (σ 13 p) 32 (ix_ (σ 13 p))) (h14x : Ix_ (σ 14 p) 32 (ix_ (σ 14 p)))  : cc_ l D T ad K n A nw yn_H_propose (.code yn_H_propose cd_H_propose 2 none) 0 [.ref (ad 0), .ref (ad (p + 41))] σ (hc_prop σ p) none := by
  refine go_in (by decide) (Nat.le_of_ble_eq_true rfl) (List.forall_mem_cons.mpr ⟨rfl, List.forall_mem_cons.mpr ⟨rfl, fun _ h => nomatch h⟩⟩) ?_
  intro P e s m args below meth c X hr hnm hN
  replace X : Cx_ P l e (rm_d 0) s m args below meth c cd_H_propose 2 rn_H D cl_ (tys_ T) TG_ := X
  refine go_loc (L' := [(0, .ref (ad 0)), (1, .ref (ad (p + 41)))]) rfl ?_
  by_cases hc : σ 3 (ix_ (σ 13 p)) < 0
  · refine go_aload_n (i := 1) X rfl rfl dc_H_propose_0 ?_
    refine gc_getR (x := σ 13 (p)) (j := ix_ (σ 13 (p))) X (by first | assumption | exact Ix_lt (by assumption)) 9 (by decide) fl_H_207 rfl (by assumption) dc_H_propose_1 ?_
    refine gn_get (v := .null) X (by first | assumption | exact Ix_lt (by assumption)) 7 (by decide) fl_H_219 (congrArg some (rf_neg hc)) dc_H_propose_4 ?_
    refine go_ifnonnullN X dc_H_propose_7 ?_
    refine go_aload_n (i := 1) X rfl rfl dc_H_propose_10 ?_
    refine gc_getR (x := σ 13 (p)) (j := ix_ (σ 13 (p))) X (by first | assumption | exact Ix_lt (by assumption)) 9 (by decide) fl_H_207 rfl (by assumption) dc_H_propose_11 ?_
    refine go_aload_n (i := 1) X rfl rfl dc_H_propose_14 ?_
    refine gc_getR (x := σ 14 (p)) (j := ix_ (σ 14 (p))) X (by first | assumption | exact Ix_lt (by assumption)) 10 (by decide) fl_H_216 rfl (by assumption) dc_H_propose_15 ?_
    refine gn_putR (x := σ 14 (p)) X 7 3 (by first | assumption | exact Ix_lt (by assumption)) (by decide) fl_H_219 rfl (tk_N 7 (by decide)) (rf_ix (by assumption)) rfl rfl (nu_3 (by first | assumption | exact Ix_lt (by assumption)) _) dc_H_propose_18 ?_
    refine go_aload_n (i := 1) X rfl rfl dc_H_propose_21 ?_
    refine go_aload_n (i := 1) X rfl rfl dc_H_propose_22 ?_
    refine gc_getR (x := σ 13 (p)) (j := ix_ (σ 13 (p))) X (by first | assumption | exact Ix_lt (by assumption)) 9 (by decide) fl_H_207 rfl (by assumption) dc_H_propose_23 ?_
    refine gn_getR (x := σ 14 p) (j := ix_ (σ 14 p)) X (by first | assumption | exact Ix_lt (by assumption)) 7 (by decide) fl_H_219 (congrArg some (congrArg (rf_ ad) pk_us)) (by assumption) dc_H_propose_26 ?_
    refine gc_putR (x := σ 14 p) X 10 14 (by first | assumption | exact Ix_lt (by assumption)) (by decide) fl_H_216 rfl (tk_C 10 (by decide)) (rf_ix (by assumption)) rfl rfl (cu_14 _ _) dc_H_propose_29 ?_
    refine go_aload_n (i := 1) X rfl rfl dc_H_propose_32 ?_
    refine go_iconst (v := 5) X (by decide) dc_H_propose_33 ?_
    refine gc_put X 1 10 (by first | assumption | exact Ix_lt (by assumption)) (by decide) fl_H_63 rfl (tk_C 1 (by decide)) rfl rfl (cu_10 _ _) dc_H_propose_34 ?_
    exact go_vret X hr dc_H_propose_37 (congrArg (cW_ T ad K n) (pr_n hc).symm) rfl
  · have hcx := h3 (ge_0 hc)
    refine go_aload_n (i := 1) X rfl rfl dc_H_propose_0 ?_
    refine gc_getR (x := σ 13 (p)) (j := ix_ (σ 13 (p))) X (by first | assumption | exact Ix_lt (by assumption)) 9 (by decide) fl_H_207 rfl (by assumption) dc_H_propose_1 ?_
    refine gn_getR (x := σ 3 (ix_ (σ 13 (p)))) (j := ix_ (σ 3 (ix_ (σ 13 (p))))) X (by first | assumption | exact Ix_lt (by assumption)) 7 (by decide) fl_H_219 rfl (by assumption) dc_H_propose_4 ?_
    refine go_ifnonnull (tgt := 21) X dc_H_propose_7 (by decide) ?_
    refine go_aload_n (i := 1) X rfl rfl dc_H_propose_21 ?_
    refine go_aload_n (i := 1) X rfl rfl dc_H_propose_22 ?_
    refine gc_getR (x := σ 13 (p)) (j := ix_ (σ 13 (p))) X (by first | assumption | exact Ix_lt (by assumption)) 9 (by decide) fl_H_207 rfl (by assumption) dc_H_propose_23 ?_
    refine gn_getR (x := σ 3 (ix_ (σ 13 (p)))) (j := ix_ (σ 3 (ix_ (σ 13 (p))))) X (by first | assumption | exact Ix_lt (by assumption)) 7 (by decide) fl_H_219 rfl (by assumption) dc_H_propose_26 ?_
    refine gc_putR (x := σ 3 (ix_ (σ 13 (p)))) X 10 14 (by first | assumption | exact Ix_lt (by assumption)) (by decide) fl_H_216 rfl (tk_C 10 (by decide)) (rf_ix (by assumption)) rfl rfl (cu_14 _ _) dc_H_propose_29 ?_
    refine go_aload_n (i := 1) X rfl rfl dc_H_propose_32 ?_
    refine go_iconst (v := 5) X (by decide) dc_H_propose_33 ?_
    refine gc_put X 1 10 (by first | assumption | exact Ix_lt (by assumption)) (by decide) fl_H_63 rfl (tk_C 1 (by decide)) rfl rfl (cu_10 _ _) dc_H_propose_34 ?_
    exact go_vret X hr dc_H_propose_37 (congrArg (cW_ T ad K n) (pr_p hc).symm) rfl
set_option maxHeartbeats 4000000 in
set_option maxRecDepth 20000 in
theorem tc_giveNumber (l : Launch) (D : va_G) (T : Nat → ClassId) (ad : Nat → Nat) (A : Nat → Prop) (nw : List Cond) (K n : Nat) {σ : ST_} {p : Nat} (hp : p < n) (hK : K < 4) (hnw : ∀ w ∈ nwc_, w ∈ nw) (hz0 : 0 ≤ (σ 33 0).toInt ∧ (σ 33 0).toInt ≤ 8) (hop : σ 2 (ix_ (σ 14 p)) = 0 → σ 5 (ix_ (σ 14 p)) = 0 ∨ σ 5 (ix_ (σ 14 p)) = 1 ∨ σ 5 (ix_ (σ 14 p)) = 2) (h13x : Ix_ (σ 13 p) 32 (ix_ (σ 13 p))) (h14x : Ix_ (σ 14 p) 32 (ix_ (σ 14 p)))  : cc_ l D T ad K n A nw yn_H_giveNumber (.code yn_H_giveNumber cd_H_giveNumber 3 none) 2 [.ref (ad 0), .ref (ad (p + 41))] σ (hc_give K σ p) none := by
  refine go_in (by decide) (Nat.le_of_ble_eq_true rfl) (List.forall_mem_cons.mpr ⟨rfl, List.forall_mem_cons.mpr ⟨rfl, fun _ h => nomatch h⟩⟩) ?_
  intro P e s m args below meth c X hr hnm hN
  replace X : Cx_ P l e (rm_d 2) s m args below meth c cd_H_giveNumber 3 rn_H D cl_ (tys_ T) TG_ := X
  refine go_loc (L' := [(0, .ref (ad 0)), (1, .ref (ad (p + 41)))]) rfl ?_
  refine go_aload_n (i := 1) X rfl rfl dc_H_giveNumber_0 ?_
  refine gc_getR (x := σ 14 (p)) (j := ix_ (σ 14 (p))) X (by first | assumption | exact Ix_lt (by assumption)) 10 (by decide) fl_H_216 rfl (by assumption) dc_H_giveNumber_1 ?_
  refine go_astore_n (i := 2) X rfl (by decide) dc_H_giveNumber_4 ?_
  refine go_aload_n (i := 2) X rfl rfl dc_H_giveNumber_5 ?_
  refine gn_get (v := .int (σ 2 (ix_ (σ 14 (p))))) X (by first | assumption | exact Ix_lt (by assumption)) 5 (by decide) fl_H_43 rfl dc_H_giveNumber_6 ?_
  refine go_if_ne (tgt := 35) X dc_H_giveNumber_9 (by decide) (fun h9 => ?_) (fun h9 => ?_)
  · refine go_aload_n (i := 2) X rfl rfl dc_H_giveNumber_35 ?_
    refine go_aload_n (i := 1) X rfl rfl dc_H_giveNumber_36 ?_
    refine gc_getR (x := σ 13 (p)) (j := ix_ (σ 13 (p))) X (by first | assumption | exact Ix_lt (by assumption)) 9 (by decide) fl_H_207 rfl (by assumption) dc_H_giveNumber_37 ?_
    refine gn_get (v := .int (σ 2 (ix_ (σ 13 (p))))) X (by first | assumption | exact Ix_lt (by assumption)) 5 (by decide) fl_H_43 rfl dc_H_giveNumber_40 ?_
    refine go_iconst (v := 1) X (by decide) dc_H_giveNumber_43 ?_
    refine go_iadd X dc_H_giveNumber_44 ?_
    refine gn_put X 5 2 (by first | assumption | exact Ix_lt (by assumption)) (by decide) fl_H_43 rfl (tk_N 5 (by decide)) rfl rfl (nu_2 (by first | assumption | exact Ix_lt (by assumption)) _) dc_H_giveNumber_45 ?_
    refine go_aload_n (i := 1) X rfl rfl dc_H_giveNumber_48 ?_
    refine go_bipush (v := 6) X (by decide) dc_H_giveNumber_49 ?_
    refine gc_put X 1 10 (by first | assumption | exact Ix_lt (by assumption)) (by decide) fl_H_63 rfl (tk_C 1 (by decide)) rfl rfl (cu_10 _ _) dc_H_giveNumber_51 ?_
    exact go_vret X hr dc_H_giveNumber_54 (congrArg (cW_ T ad K n) (by (unfold hc_give hc_give1; simp only [iz_lt, iz_le, iz_eq, iz_0, iz_1, iz_2, iz_3, iz_4, iz_5, iz_6, iz_7, iz_8, iz_m] at h9 ⊢; repeat' split) <;> first | with_reducible rfl | (exfalso; omega))) rfl
  · have hop2 := hop h9
    refine go_aload_n (i := 2) X rfl rfl dc_H_giveNumber_12 ?_
    refine go_aload_n (i := 0) X rfl rfl dc_H_giveNumber_13 ?_
    refine gh_get X 2 (by decide) fl_H_22 rfl dc_H_giveNumber_14 ?_
    refine go_aload_n (i := 2) X rfl rfl dc_H_giveNumber_17 ?_
    refine gn_get (v := .int (σ 5 (ix_ (σ 14 (p))))) X (by first | assumption | exact Ix_lt (by assumption)) 2 (by decide) fl_H_222 rfl dc_H_giveNumber_18 ?_
    refine go_aload_n (i := 2) X rfl rfl dc_H_giveNumber_21 ?_
    refine gn_get (v := .int (σ 6 (ix_ (σ 14 (p))))) X (by first | assumption | exact Ix_lt (by assumption)) 3 (by decide) fl_H_223 rfl dc_H_giveNumber_22 ?_
    refine go_aload_n (i := 2) X rfl rfl dc_H_giveNumber_25 ?_
    refine gn_get (v := .int (σ 7 (ix_ (σ 14 (p))))) X (by first | assumption | exact Ix_lt (by assumption)) 4 (by decide) fl_H_224 rfl dc_H_giveNumber_26 ?_
    refine go_perf (q := 0) X hN ml_H_150 hnw hK (by decide) hz0 hop2 (by decide) (by decide) (Nat.le_of_ble_eq_true rfl) dc_H_giveNumber_29 ⟨Nat.zero_le _, Nat.zero_le _⟩ ?_
    refine gn_put X 6 26 (by first | assumption | exact Ix_lt (by assumption)) (by decide) fl_H_225 rfl (tk_N 6 (by decide)) rfl rfl (nu_26 (by first | assumption | exact Ix_lt (by assumption)) _) dc_H_giveNumber_32 ?_
    refine go_aload_n (i := 2) X rfl rfl dc_H_giveNumber_35 ?_
    refine go_aload_n (i := 1) X rfl rfl dc_H_giveNumber_36 ?_
    refine gc_getR (x := σ 13 (p)) (j := ix_ (σ 13 (p))) X (by first | assumption | exact Ix_lt (by assumption)) 9 (by decide) fl_H_207 rfl (by assumption) dc_H_giveNumber_37 ?_
    refine gn_get (v := .int (σ 2 (ix_ (σ 13 (p))))) X (by first | assumption | exact Ix_lt (by assumption)) 5 (by decide) fl_H_43 rfl dc_H_giveNumber_40 ?_
    refine go_iconst (v := 1) X (by decide) dc_H_giveNumber_43 ?_
    refine go_iadd X dc_H_giveNumber_44 ?_
    refine gn_put X 5 2 (by first | assumption | exact Ix_lt (by assumption)) (by decide) fl_H_43 rfl (tk_N 5 (by decide)) rfl rfl (nu_2 (by first | assumption | exact Ix_lt (by assumption)) _) dc_H_giveNumber_45 ?_
    refine go_aload_n (i := 1) X rfl rfl dc_H_giveNumber_48 ?_
    refine go_bipush (v := 6) X (by decide) dc_H_giveNumber_49 ?_
    refine gc_put X 1 10 (by first | assumption | exact Ix_lt (by assumption)) (by decide) fl_H_63 rfl (tk_C 1 (by decide)) rfl rfl (cu_10 _ _) dc_H_giveNumber_51 ?_
    exact go_vret X hr dc_H_giveNumber_54 (congrArg (cW_ T ad K n) (by (unfold hc_give hc_give1; simp only [iz_lt, iz_le, iz_eq, iz_0, iz_1, iz_2, iz_3, iz_4, iz_5, iz_6, iz_7, iz_8, iz_m] at h9 ⊢; repeat' split) <;> first | with_reducible rfl | (exfalso; omega))) rfl
set_option maxHeartbeats 4000000 in
set_option maxRecDepth 20000 in
theorem tc_move (l : Launch) (D : va_G) (T : Nat → ClassId) (ad : Nat → Nat) (A : Nat → Prop) (nw : List Cond) (K n : Nat) {σ : ST_} {p : Nat} (hp : p < n) (h14x : Ix_ (σ 14 p) 32 (ix_ (σ 14 p)))  : cc_ l D T ad K n A nw yn_H_move (.code yn_H_move cd_H_move 1 none) 0 [.ref (ad (p + 41))] σ (hc_move σ p) none := by
  refine go_in (by decide) (Nat.le_of_ble_eq_true rfl) (List.forall_mem_cons.mpr ⟨rfl, fun _ h => nomatch h⟩) ?_
  intro P e s m args below meth c X hr hnm hN
  replace X : Cx_ P l e (rm_d 0) s m args below meth c cd_H_move 1 rn_H D cl_ (tys_ T) TG_ := X
  refine go_loc (L' := [(0, .ref (ad (p + 41)))]) rfl ?_
  refine go_aload_n (i := 0) X rfl rfl dc_H_move_0 ?_
  refine go_aload_n (i := 0) X rfl rfl dc_H_move_1 ?_
  refine gc_getR (x := σ 14 (p)) (j := ix_ (σ 14 (p))) X (by first | assumption | exact Ix_lt (by assumption)) 10 (by decide) fl_H_216 rfl (by assumption) dc_H_move_2 ?_
  refine gc_putR (x := σ 14 (p)) X 6 8 (by first | assumption | exact Ix_lt (by assumption)) (by decide) fl_H_126 rfl (tk_C 6 (by decide)) (rf_ix (by assumption)) rfl rfl (cu_8 _ _) dc_H_move_5 ?_
  refine go_aload_n (i := 0) X rfl rfl dc_H_move_8 ?_
  refine go_aload_n (i := 0) X rfl rfl dc_H_move_9 ?_
  refine gc_getR (x := σ 14 (p)) (j := ix_ (σ 14 (p))) X (by first | assumption | exact Ix_lt (by assumption)) 10 (by decide) fl_H_216 rfl (by assumption) dc_H_move_10 ?_
  refine gc_putR (x := σ 14 (p)) X 9 13 (by first | assumption | exact Ix_lt (by assumption)) (by decide) fl_H_207 rfl (tk_C 9 (by decide)) (rf_ix (by assumption)) rfl rfl (cu_13 _ _) dc_H_move_13 ?_
  refine go_aload_n (i := 0) X rfl rfl dc_H_move_16 ?_
  refine go_iconst (v := 2) X (by decide) dc_H_move_17 ?_
  refine gc_put X 1 10 (by first | assumption | exact Ix_lt (by assumption)) (by decide) fl_H_63 rfl (tk_C 1 (by decide)) rfl rfl (cu_10 _ _) dc_H_move_18 ?_
  exact go_vret X hr dc_H_move_21 rfl rfl
set_option maxHeartbeats 4000000 in
set_option maxRecDepth 20000 in
theorem tc_finish (l : Launch) (D : va_G) (T : Nat → ClassId) (ad : Nat → Nat) (A : Nat → Prop) (nw : List Cond) (K n : Nat) {σ : ST_} {p : Nat} (hp : p < n) (h12x : Ix_ (σ 12 p) 32 (ix_ (σ 12 p)))  : cc_ l D T ad K n A nw yn_H_finish (.code yn_H_finish cd_H_finish 1 none) 0 [.ref (ad (p + 41))] σ (hc_fin σ p) none := by
  refine go_in (by decide) (Nat.le_of_ble_eq_true rfl) (List.forall_mem_cons.mpr ⟨rfl, fun _ h => nomatch h⟩) ?_
  intro P e s m args below meth c X hr hnm hN
  replace X : Cx_ P l e (rm_d 0) s m args below meth c cd_H_finish 1 rn_H D cl_ (tys_ T) TG_ := X
  refine go_loc (L' := [(0, .ref (ad (p + 41)))]) rfl ?_
  refine go_aload_n (i := 0) X rfl rfl dc_H_finish_0 ?_
  refine go_aload_n (i := 0) X rfl rfl dc_H_finish_1 ?_
  refine gc_getR (x := σ 12 (p)) (j := ix_ (σ 12 (p))) X (by first | assumption | exact Ix_lt (by assumption)) 8 (by decide) fl_H_180 rfl (by assumption) dc_H_finish_2 ?_
  refine gc_putR (x := σ 12 (p)) X 6 8 (by first | assumption | exact Ix_lt (by assumption)) (by decide) fl_H_126 rfl (tk_C 6 (by decide)) (rf_ix (by assumption)) rfl rfl (cu_8 _ _) dc_H_finish_5 ?_
  refine go_aload_n (i := 0) X rfl rfl dc_H_finish_8 ?_
  refine go_null X dc_H_finish_9 ?_
  refine gc_putR (x := -1) X 7 9 (by first | assumption | exact Ix_lt (by assumption)) (by decide) fl_H_204 rfl (tk_C 7 (by decide)) (rf_m _) rfl rfl (cu_9 _ _) dc_H_finish_10 ?_
  refine go_aload_n (i := 0) X rfl rfl dc_H_finish_13 ?_
  refine go_dup X rfl dc_H_finish_14 ?_
  refine gc_get (v := .int (σ 18 (p))) X (by first | assumption | exact Ix_lt (by assumption)) 11 (by decide) fl_H_92 rfl dc_H_finish_15 ?_
  refine go_iconst (v := 1) X (by decide) dc_H_finish_18 ?_
  refine go_iadd X dc_H_finish_19 ?_
  refine gc_put X 11 18 (by first | assumption | exact Ix_lt (by assumption)) (by decide) fl_H_92 rfl (tk_C 11 (by decide)) rfl rfl (cu_18 _ _) dc_H_finish_20 ?_
  refine go_aload_n (i := 0) X rfl rfl dc_H_finish_23 ?_
  refine go_aload_n (i := 0) X rfl rfl dc_H_finish_24 ?_
  refine gc_getR (x := σ 12 (p)) (j := ix_ (σ 12 (p))) X (by first | assumption | exact Ix_lt (by assumption)) 8 (by decide) fl_H_180 rfl (by assumption) dc_H_finish_25 ?_
  refine gn_get (v := .int (σ 26 (ix_ (σ 12 (p))))) X (by first | assumption | exact Ix_lt (by assumption)) 6 (by decide) fl_H_225 rfl dc_H_finish_28 ?_
  refine gc_put X 12 19 (by first | assumption | exact Ix_lt (by assumption)) (by decide) fl_H_97 rfl (tk_C 12 (by decide)) rfl rfl (cu_19 _ _) dc_H_finish_31 ?_
  refine go_aload_n (i := 0) X rfl rfl dc_H_finish_34 ?_
  refine go_aload_n (i := 0) X rfl rfl dc_H_finish_35 ?_
  refine gc_getR (x := σ 12 (p)) (j := ix_ (σ 12 (p))) X (by first | assumption | exact Ix_lt (by assumption)) 8 (by decide) fl_H_180 rfl (by assumption) dc_H_finish_36 ?_
  refine gn_get (v := .int (σ 2 (ix_ (σ 12 (p))))) X (by first | assumption | exact Ix_lt (by assumption)) 5 (by decide) fl_H_43 rfl dc_H_finish_39 ?_
  refine gc_put X 13 20 (by first | assumption | exact Ix_lt (by assumption)) (by decide) fl_H_100 rfl (tk_C 13 (by decide)) rfl rfl (cu_20 _ _) dc_H_finish_42 ?_
  refine go_aload_n (i := 0) X rfl rfl dc_H_finish_45 ?_
  refine go_iconst (v := (-1)) X (by decide) dc_H_finish_46 ?_
  refine gc_put X 1 10 (by first | assumption | exact Ix_lt (by assumption)) (by decide) fl_H_63 rfl (tk_C 1 (by decide)) rfl rfl (cu_10 _ _) dc_H_finish_47 ?_
  exact go_vret X hr dc_H_finish_50 rfl rfl
set_option maxHeartbeats 4000000 in
set_option maxRecDepth 20000 in
theorem tc_announce (l : Launch) (D : va_G) (T : Nat → ClassId) (ad : Nat → Nat) (A : Nat → Prop) (nw : List Cond) (K n : Nat) {σ : ST_} {p : Nat} (hp : p < n) (h8x : Ix_ (σ 8 p) 32 (ix_ (σ 8 p)))  : cc_ l D T ad K n A nw yn_H_announce (.code yn_H_announce cd_H_announce 3 (some .int)) 1 [.ref (ad 0), .ref (ad (p + 41))] σ (hc_ann σ p).1 (some (.int (hc_ann σ p).2)) := by
  refine go_in (by decide) (Nat.le_of_ble_eq_true rfl) (List.forall_mem_cons.mpr ⟨rfl, List.forall_mem_cons.mpr ⟨rfl, fun _ h => nomatch h⟩⟩) ?_
  intro P e s m args below meth c X hr hnm hN
  replace X : Cx_ P l e (rm_d 1) s m args below meth c cd_H_announce 3 rn_H D cl_ (tys_ T) TG_ := X
  refine go_loc (L' := [(0, .ref (ad 0)), (1, .ref (ad (p + 41)))]) rfl ?_
  cases hf : hc_free σ with
  | none =>
    have hM := tc_findFree l D T ad A nw K n (σ := σ)
    rw [hf] at hM
    refine go_aload_n (i := 0) X rfl rfl dc_H_announce_0 ?_
    refine go_cV (v := .null) (C := rn_H) (ci := 0) (i := 0) (n := 0) (rest := []) X hN (hM) ml_H_198 im_H_findFree sl_H_HfindFree ik_H co_H_findFree ⟨rfl, by decide, by decide, by decide +kernel⟩ ⟨rfl, rfl, by decide, by decide⟩ rfl (cw_h) rfl rfl (Nat.le_of_ble_eq_true rfl) dc_H_announce_1 ⟨Nat.zero_le _, Nat.zero_le _⟩ ?_
    refine go_astoreN_n (i := 2) X rfl (by decide) dc_H_announce_4 ?_
    refine go_aloadN_n (i := 2) X rfl rfl dc_H_announce_5 ?_
    refine go_ifnonnullN X dc_H_announce_6 ?_
    refine go_iconst (v := 3) X (by decide) dc_H_announce_9 ?_
    exact go_iret X hr dc_H_announce_10 (congrArg (cW_ T ad K n) (by unfold hc_ann; rw [hf])) (congrArg some (congrArg Value.int (by unfold hc_ann; rw [hf])))
  | some k =>
    have hM := tc_findFree l D T ad A nw K n (σ := σ)
    rw [hf] at hM
    have hk : k < 32 := by
      have := (ff_some hf).2.1
      omega
    refine go_aload_n (i := 0) X rfl rfl dc_H_announce_0 ?_
    refine go_cV (v := .ref (ad (k + 8))) (C := rn_H) (ci := 0) (i := 0) (n := 0) (rest := []) X hN (hM) ml_H_198 im_H_findFree sl_H_HfindFree ik_H co_H_findFree ⟨rfl, by decide, by decide, by decide +kernel⟩ ⟨rfl, rfl, by decide, by decide⟩ rfl (cw_h) rfl rfl (Nat.le_of_ble_eq_true rfl) dc_H_announce_1 ⟨Nat.zero_le _, Nat.zero_le _⟩ ?_
    refine go_astore_n (i := 2) X rfl (by decide) dc_H_announce_4 ?_
    refine go_aload_n (i := 2) X rfl rfl dc_H_announce_5 ?_
    refine go_ifnonnull (tgt := 11) X dc_H_announce_6 (by decide) ?_
    refine go_aload_n (i := 2) X rfl rfl dc_H_announce_11 ?_
    refine go_aload_n (i := 1) X rfl rfl dc_H_announce_12 ?_
    refine go_cVv (C := rn_N) (ci := 1) (i := k + 8) (n := 1) (rest := []) X hN (tc_take l D T ad A nw K n (σ := σ) (k := k) (p := p) hk hp) ml_H_201 im_N_take sl_N_Ntake ik_N co_N_take ⟨rfl, by decide, by decide, by decide +kernel⟩ ⟨rfl, rfl, by decide, by decide⟩ rfl (cw_n hk) rfl rfl (Nat.le_of_ble_eq_true rfl) dc_H_announce_13 ⟨Nat.zero_le _, Nat.zero_le _⟩ ?_
    refine go_aload_n (i := 1) X rfl rfl dc_H_announce_16 ?_
    refine go_aload_n (i := 2) X rfl rfl dc_H_announce_17 ?_
    refine gc_putR (x := nI (k)) X 8 12 (by first | assumption | exact Ix_lt (by assumption)) (by decide) fl_H_180 rfl (tk_C 8 (by decide)) (rf_n (by first | assumption | exact Ix_lt (by assumption))) rfl rfl (cu_12 _ _) dc_H_announce_18 ?_
    refine go_aload_n (i := 1) X rfl rfl dc_H_announce_21 ?_
    refine go_aload_n (i := 2) X rfl rfl dc_H_announce_22 ?_
    refine gc_putR (x := nI (k)) X 7 9 (by first | assumption | exact Ix_lt (by assumption)) (by decide) fl_H_204 rfl (tk_C 7 (by decide)) (rf_n (by first | assumption | exact Ix_lt (by assumption))) rfl rfl (cu_9 _ _) dc_H_announce_23 ?_
    refine go_aload_n (i := 1) X rfl rfl dc_H_announce_26 ?_
    refine go_aload_n (i := 1) X rfl rfl dc_H_announce_27 ?_
    refine gc_getR (x := σ 8 (p)) (j := ix_ (σ 8 (p))) X (by first | assumption | exact Ix_lt (by assumption)) 6 (by decide) fl_H_126 rfl (by assumption) dc_H_announce_28 ?_
    refine gc_putR (x := σ 8 (p)) X 9 13 (by first | assumption | exact Ix_lt (by assumption)) (by decide) fl_H_207 rfl (tk_C 9 (by decide)) (rf_ix (by assumption)) rfl rfl (cu_13 _ _) dc_H_announce_31 ?_
    refine go_aload_n (i := 1) X rfl rfl dc_H_announce_34 ?_
    refine go_iconst (v := 0) X (by decide) dc_H_announce_35 ?_
    refine gc_put X 5 11 (by first | assumption | exact Ix_lt (by assumption)) (by decide) fl_H_210 rfl (tk_C 5 (by decide)) rfl rfl (cu_11 _ _) dc_H_announce_36 ?_
    refine go_aload_n (i := 1) X rfl rfl dc_H_announce_39 ?_
    refine go_iconst (v := 1) X (by decide) dc_H_announce_40 ?_
    refine gc_put X 1 10 (by first | assumption | exact Ix_lt (by assumption)) (by decide) fl_H_63 rfl (tk_C 1 (by decide)) rfl rfl (cu_10 _ _) dc_H_announce_41 ?_
    refine go_iconst (v := 0) X (by decide) dc_H_announce_44 ?_
    exact go_iret X hr dc_H_announce_45 (congrArg (cW_ T ad K n) (by unfold hc_ann; rw [hf]; rfl)) (congrArg some (congrArg Value.int (by unfold hc_ann; rw [hf])))
set_option maxHeartbeats 4000000 in
set_option maxRecDepth 20000 in
theorem tc_advance (l : Launch) (D : va_G) (T : Nat → ClassId) (ad : Nat → Nat) (A : Nat → Prop) (nw : List Cond) (K n : Nat) {σ : ST_} {p : Nat} (hp : p < n) (hK : K < 4) (hn : n ≤ 5) (h0 : 0 < n) (hnw : ∀ w ∈ nwc_, w ∈ nw) (hO : Oc_ n σ p)  : cc_ l D T ad K n A nw yn_H_advance (.code yn_H_advance cd_H_advance 2 (some .int)) 3 [.ref (ad 0), .ref (ad (p + 41))] σ (hc_one K n σ p).1 (some (.int (hc_one K n σ p).2)) := by
  obtain ⟨hst, hh, h12, h13, h14, h11, h9, h2, h3, h5, hz0⟩ := hO
  have h8 := hh p hp
  refine go_in (by decide) (Nat.le_of_ble_eq_true rfl) (List.forall_mem_cons.mpr ⟨rfl, List.forall_mem_cons.mpr ⟨rfl, fun _ h => nomatch h⟩⟩) ?_
  intro P e s m args below meth c X hr hnm hN
  replace X : Cx_ P l e (rm_d 3) s m args below meth c cd_H_advance 2 rn_H D cl_ (tys_ T) TG_ := X
  refine go_loc (L' := [(0, .ref (ad 0)), (1, .ref (ad (p + 41)))]) rfl ?_
  refine go_aload_n (i := 1) X rfl rfl dc_H_advance_0 ?_
  refine gc_get (v := .int (σ 10 (p))) X (by first | assumption | exact Ix_lt (by assumption)) 1 (by decide) fl_H_63 rfl dc_H_advance_1 ?_
  rcases st_cases hst with h | h | h | h | h | h | h | h | h
  · refine go_tableOut (tgt := 120) X dc_H_advance_4 (by rw [h]; decide) (by decide) ?_
    refine go_iconst (v := 2) X (by decide) dc_H_advance_120 ?_
    exact go_iret X hr dc_H_advance_121 (congrArg (cW_ T ad K n) (by rw [hc_one_m K n h])) (congrArg some (congrArg Value.int (by rw [hc_one_m K n h])))
  · refine go_tableIn (off := 48) (tgt := 52) X dc_H_advance_4 (by rw [h]; decide) (by rw [h]; decide) (by rw [h]; decide) (by decide) ?_
    refine go_aload_n (i := 0) X rfl rfl dc_H_advance_52 ?_
    refine go_aload_n (i := 1) X rfl rfl dc_H_advance_53 ?_
    refine go_cV (C := rn_H) (ci := 0) (i := 0) (n := 1) (rest := []) X hN (tc_announce l D T ad A nw K n (σ := σ) hp h8) ml_H_173 im_H_announce sl_H_Hannounce ik_H co_H_announce ⟨rfl, by decide, by decide, by decide +kernel⟩ ⟨rfl, rfl, by decide, by decide⟩ rfl (cw_h) rfl rfl (Nat.le_of_ble_eq_true rfl) dc_H_advance_54 ⟨Nat.zero_le _, Nat.zero_le _⟩ ?_
    exact go_iret X hr dc_H_advance_57 (congrArg (cW_ T ad K n) (by rw [hc_one_0 K n h])) (congrArg some (congrArg Value.int (by rw [hc_one_0 K n h])))
  · refine go_tableIn (off := 54) (tgt := 58) X dc_H_advance_4 (by rw [h]; decide) (by rw [h]; decide) (by rw [h]; decide) (by decide) ?_
    refine go_aload_n (i := 0) X rfl rfl dc_H_advance_58 ?_
    refine go_aload_n (i := 1) X rfl rfl dc_H_advance_59 ?_
    refine go_cVv (C := rn_H) (ci := 0) (i := 0) (n := 1) (rest := []) X hN (tc_look l D T ad A nw K n (σ := σ) hp hn h11 hh h13) ml_H_176 im_H_look sl_H_Hlook ik_H co_H_look ⟨rfl, by decide, by decide, by decide +kernel⟩ ⟨rfl, rfl, by decide, by decide⟩ rfl (cw_h) rfl rfl (Nat.le_of_ble_eq_true rfl) dc_H_advance_60 ⟨Nat.zero_le _, Nat.zero_le _⟩ ?_
    refine go_iconst (v := 0) X (by decide) dc_H_advance_63 ?_
    exact go_iret X hr dc_H_advance_64 (congrArg (cW_ T ad K n) (by rw [hc_one_1 K n h])) (congrArg some (congrArg Value.int (by rw [hc_one_1 K n h])))
  · refine go_tableIn (off := 61) (tgt := 65) X dc_H_advance_4 (by rw [h]; decide) (by rw [h]; decide) (by rw [h]; decide) (by decide) ?_
    refine go_aload_n (i := 1) X rfl rfl dc_H_advance_65 ?_
    refine go_aload_n (i := 1) X rfl rfl dc_H_advance_66 ?_
    refine gc_getR (x := σ 12 (p)) (j := ix_ (σ 12 (p))) X (by first | assumption | exact Ix_lt (by assumption)) 8 (by decide) fl_H_180 rfl (by assumption) dc_H_advance_67 ?_
    refine gn_get (v := .int (σ 2 (ix_ (σ 12 (p))))) X (by first | assumption | exact Ix_lt (by assumption)) 5 (by decide) fl_H_43 rfl dc_H_advance_70 ?_
    refine go_if_le (tgt := 81) X dc_H_advance_73 (by decide) (fun h73 => ?_) (fun h73 => ?_)
    · refine go_iconst (v := 3) X (by decide) dc_H_advance_81 ?_
      refine gc_put X 1 10 (by first | assumption | exact Ix_lt (by assumption)) (by decide) fl_H_63 rfl (tk_C 1 (by decide)) rfl rfl (cu_10 _ _) dc_H_advance_82 ?_
      refine go_iconst (v := 0) X (by decide) dc_H_advance_85 ?_
      exact go_iret X hr dc_H_advance_86 (congrArg (cW_ T ad K n) (by rw [hc_one_2 K n h]; unfold hc_ask; simp only [iz_lt, iz_le, iz_eq, iz_0, iz_1, iz_2, iz_3, iz_4, iz_5, iz_6, iz_7, iz_8, iz_m] at h73 ⊢; (repeat' split) <;> first | with_reducible rfl | (exfalso; omega))) (congrArg some (congrArg Value.int (by rw [hc_one_2 K n h])))
    · refine go_bipush (v := 7) X (by decide) dc_H_advance_76 ?_
      refine go_goto (tgt := 82) X dc_H_advance_78 (by decide) ?_
      refine gc_put X 1 10 (by first | assumption | exact Ix_lt (by assumption)) (by decide) fl_H_63 rfl (tk_C 1 (by decide)) rfl rfl (cu_10 _ _) dc_H_advance_82 ?_
      refine go_iconst (v := 0) X (by decide) dc_H_advance_85 ?_
      exact go_iret X hr dc_H_advance_86 (congrArg (cW_ T ad K n) (by rw [hc_one_2 K n h]; unfold hc_ask; simp only [iz_lt, iz_le, iz_eq, iz_0, iz_1, iz_2, iz_3, iz_4, iz_5, iz_6, iz_7, iz_8, iz_m] at h73 ⊢; (repeat' split) <;> first | with_reducible rfl | (exfalso; omega))) (congrArg some (congrArg Value.int (by rw [hc_one_2 K n h])))
  · refine go_tableIn (off := 83) (tgt := 87) X dc_H_advance_4 (by rw [h]; decide) (by rw [h]; decide) (by rw [h]; decide) (by decide) ?_
    refine go_aload_n (i := 0) X rfl rfl dc_H_advance_87 ?_
    refine go_aload_n (i := 1) X rfl rfl dc_H_advance_88 ?_
    refine go_cVv (C := rn_H) (ci := 0) (i := 0) (n := 1) (rest := []) X hN (tc_choose l D T ad A nw K n (σ := σ) hp hn h0 (h2 h) h9 h12 h13) ml_H_183 im_H_choose sl_H_Hchoose ik_H co_H_choose ⟨rfl, by decide, by decide, by decide +kernel⟩ ⟨rfl, rfl, by decide, by decide⟩ rfl (cw_h) rfl rfl (Nat.le_of_ble_eq_true rfl) dc_H_advance_89 ⟨Nat.zero_le _, Nat.zero_le _⟩ ?_
    refine go_iconst (v := 0) X (by decide) dc_H_advance_92 ?_
    exact go_iret X hr dc_H_advance_93 (congrArg (cW_ T ad K n) (by rw [hc_one_3 K n h])) (congrArg some (congrArg Value.int (by rw [hc_one_3 K n h])))
  · refine go_tableIn (off := 90) (tgt := 94) X dc_H_advance_4 (by rw [h]; decide) (by rw [h]; decide) (by rw [h]; decide) (by decide) ?_
    refine go_aload_n (i := 0) X rfl rfl dc_H_advance_94 ?_
    refine go_aload_n (i := 1) X rfl rfl dc_H_advance_95 ?_
    refine go_cVv (C := rn_H) (ci := 0) (i := 0) (n := 1) (rest := []) X hN (tc_propose l D T ad A nw K n (σ := σ) hp h3 h13 h14) ml_H_186 im_H_propose sl_H_Hpropose ik_H co_H_propose ⟨rfl, by decide, by decide, by decide +kernel⟩ ⟨rfl, rfl, by decide, by decide⟩ rfl (cw_h) rfl rfl (Nat.le_of_ble_eq_true rfl) dc_H_advance_96 ⟨Nat.zero_le _, Nat.zero_le _⟩ ?_
    refine go_iconst (v := 0) X (by decide) dc_H_advance_99 ?_
    exact go_iret X hr dc_H_advance_100 (congrArg (cW_ T ad K n) (by rw [hc_one_4 K n h])) (congrArg some (congrArg Value.int (by rw [hc_one_4 K n h])))
  · refine go_tableIn (off := 97) (tgt := 101) X dc_H_advance_4 (by rw [h]; decide) (by rw [h]; decide) (by rw [h]; decide) (by decide) ?_
    refine go_aload_n (i := 0) X rfl rfl dc_H_advance_101 ?_
    refine go_aload_n (i := 1) X rfl rfl dc_H_advance_102 ?_
    refine go_cVv (C := rn_H) (ci := 0) (i := 0) (n := 1) (rest := []) X hN (tc_giveNumber l D T ad A nw K n (σ := σ) hp hK hnw hz0 (h5 h) h13 h14) ml_H_189 im_H_giveNumber sl_H_HgiveNumber ik_H co_H_giveNumber ⟨rfl, by decide, by decide, by decide +kernel⟩ ⟨rfl, rfl, by decide, by decide⟩ rfl (cw_h) rfl rfl (Nat.le_of_ble_eq_true rfl) dc_H_advance_103 ⟨Nat.zero_le _, Nat.zero_le _⟩ ?_
    refine go_iconst (v := 0) X (by decide) dc_H_advance_106 ?_
    exact go_iret X hr dc_H_advance_107 (congrArg (cW_ T ad K n) (by rw [hc_one_5 K n h])) (congrArg some (congrArg Value.int (by rw [hc_one_5 K n h])))
  · refine go_tableIn (off := 104) (tgt := 108) X dc_H_advance_4 (by rw [h]; decide) (by rw [h]; decide) (by rw [h]; decide) (by decide) ?_
    refine go_aload_n (i := 1) X rfl rfl dc_H_advance_108 ?_
    refine go_callT (n := 1) (rest := []) X hN (tc_move l D T ad A nw K n (σ := σ) hp h14) ml_H_192 sm_H_move ik_H co_H_move ⟨by decide, by decide, by decide +kernel⟩ ⟨rfl, rfl, by decide, by decide⟩ rfl rfl (Nat.le_of_ble_eq_true rfl) dc_H_advance_109 ⟨Nat.zero_le _, Nat.zero_le _⟩ ?_
    refine go_iconst (v := 0) X (by decide) dc_H_advance_112 ?_
    exact go_iret X hr dc_H_advance_113 (congrArg (cW_ T ad K n) (by rw [hc_one_6 K n h])) (congrArg some (congrArg Value.int (by rw [hc_one_6 K n h])))
  · refine go_tableIn (off := 110) (tgt := 114) X dc_H_advance_4 (by rw [h]; decide) (by rw [h]; decide) (by rw [h]; decide) (by decide) ?_
    refine go_aload_n (i := 1) X rfl rfl dc_H_advance_114 ?_
    refine go_callT (n := 1) (rest := []) X hN (tc_finish l D T ad A nw K n (σ := σ) hp h12) ml_H_195 sm_H_finish ik_H co_H_finish ⟨by decide, by decide, by decide +kernel⟩ ⟨rfl, rfl, by decide, by decide⟩ rfl rfl (Nat.le_of_ble_eq_true rfl) dc_H_advance_115 ⟨Nat.zero_le _, Nat.zero_le _⟩ ?_
    refine go_iconst (v := 1) X (by decide) dc_H_advance_118 ?_
    exact go_iret X hr dc_H_advance_119 (congrArg (cW_ T ad K n) (by rw [hc_one_7 K n h])) (congrArg some (congrArg Value.int (by rw [hc_one_7 K n h])))
end C5

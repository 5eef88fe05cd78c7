section C1
set_option maxHeartbeats 4000000 in
set_option maxRecDepth 20000 in
theorem tc_isOnLog (l : Launch) (D : va_G) (T : Nat → ClassId) (ad : Nat → Nat) (A : Nat → Prop) (nw : List Cond) (K n : Nat) {σ : ST_} {k : Nat} (hk : k < 32) : cc_ l D T ad K n A nw yn_N_isOnLog (.code yn_N_isOnLog cd_N_isOnLog 1 (some .boolean)) 0 [.ref (ad (k + 8))] σ σ (some (.int (cond (on_ σ k) 1 0))) := by
  refine go_in (by decide) (Nat.le_of_ble_eq_true rfl) (List.forall_mem_cons.mpr ⟨rfl, fun _ h => nomatch h⟩) ?_
  intro P e s m args below meth c X hr hnm hN
  replace X : Cx_ P l e (rm_d 0) s m args below meth c cd_N_isOnLog 1 rn_N D cl_ (tys_ T) TG_ := X
  refine go_loc (L' := [(0, .ref (ad (k + 8)))]) rfl ?_
  refine go_aload_n (i := 0) X rfl rfl dc_N_isOnLog_0 ?_
  refine gn_get (v := .int (σ 1 (k))) X (by first | assumption | exact Ix_lt (by assumption)) 0 (by decide) fl_N_24 rfl dc_N_isOnLog_1 ?_
  refine go_if_eq (tgt := 18) X dc_N_isOnLog_4 (by decide) (fun h4 => ?_) (fun h4 => ?_)
  · refine go_iconst (v := 0) X (by decide) dc_N_isOnLog_18 ?_
    exact go_zret X hr (by decide) dc_N_isOnLog_19 rfl (congrArg some (congrArg Value.int (by first | exact on_v1 h4 h11 | exact on_v0 (Or.inl h4) | exact on_v0 (Or.inr h11))))
  · refine go_aload_n (i := 0) X rfl rfl dc_N_isOnLog_7 ?_
    refine gn_get (v := .int (σ 2 (k))) X (by first | assumption | exact Ix_lt (by assumption)) 5 (by decide) fl_N_28 rfl dc_N_isOnLog_8 ?_
    refine go_if_le (tgt := 18) X dc_N_isOnLog_11 (by decide) (fun h11 => ?_) (fun h11 => ?_)
    · refine go_iconst (v := 0) X (by decide) dc_N_isOnLog_18 ?_
      exact go_zret X hr (by decide) dc_N_isOnLog_19 rfl (congrArg some (congrArg Value.int (by first | exact on_v1 h4 h11 | exact on_v0 (Or.inl h4) | exact on_v0 (Or.inr h11))))
    · refine go_iconst (v := 1) X (by decide) dc_N_isOnLog_14 ?_
      refine go_goto (tgt := 19) X dc_N_isOnLog_15 (by decide) ?_
      exact go_zret X hr (by decide) dc_N_isOnLog_19 rfl (congrArg some (congrArg Value.int (by first | exact on_v1 h4 h11 | exact on_v0 (Or.inl h4) | exact on_v0 (Or.inr h11))))
set_option maxHeartbeats 4000000 in
set_option maxRecDepth 20000 in
theorem tc_take (l : Launch) (D : va_G) (T : Nat → ClassId) (ad : Nat → Nat) (A : Nat → Prop) (nw : List Cond) (K n : Nat) {σ : ST_} {k p : Nat} (hk : k < 32) (hp : p < n) : cc_ l D T ad K n A nw yn_N_take (.code yn_N_take cd_N_take 2 none) 0 [.ref (ad (k + 8)), .ref (ad (p + 41))] σ (hc_take σ k p) none := by
  refine go_in (by decide) (Nat.le_of_ble_eq_true rfl) (List.forall_mem_cons.mpr ⟨rfl, List.forall_mem_cons.mpr ⟨rfl, fun _ h => nomatch h⟩⟩) ?_
  intro P e s m args below meth c X hr hnm hN
  replace X : Cx_ P l e (rm_d 0) s m args below meth c cd_N_take 2 rn_N D cl_ (tys_ T) TG_ := X
  refine go_loc (L' := [(0, .ref (ad (k + 8))), (1, .ref (ad (p + 41)))]) rfl ?_
  refine go_aload_n (i := 0) X rfl rfl dc_N_take_0 ?_
  refine go_iconst (v := 1) X (by decide) dc_N_take_1 ?_
  refine gn_put X 0 1 (by first | assumption | exact Ix_lt (by assumption)) (by decide) fl_N_24 rfl (tk_N 0 (by decide)) rfl rfl (nu_1 (by first | assumption | exact Ix_lt (by assumption)) _) dc_N_take_2 ?_
  refine go_aload_n (i := 0) X rfl rfl dc_N_take_5 ?_
  refine go_aload_n (i := 1) X rfl rfl dc_N_take_6 ?_
  refine gc_get (v := .int (nI (p))) X (by first | assumption | exact Ix_lt (by assumption)) 0 (by decide) fl_N_31 rfl dc_N_take_7 ?_
  refine gn_put X 1 4 (by first | assumption | exact Ix_lt (by assumption)) (by decide) fl_N_9 rfl (tk_N 1 (by decide)) rfl rfl (nu_4 (by first | assumption | exact Ix_lt (by assumption)) _) dc_N_take_10 ?_
  refine go_aload_n (i := 0) X rfl rfl dc_N_take_13 ?_
  refine go_aload_n (i := 1) X rfl rfl dc_N_take_14 ?_
  refine gc_get (v := .int (σ 15 (p))) X (by first | assumption | exact Ix_lt (by assumption)) 2 (by decide) fl_N_34 rfl dc_N_take_15 ?_
  refine gn_put X 2 5 (by first | assumption | exact Ix_lt (by assumption)) (by decide) fl_N_15 rfl (tk_N 2 (by decide)) rfl rfl (nu_5 (by first | assumption | exact Ix_lt (by assumption)) _) dc_N_take_18 ?_
  refine go_aload_n (i := 0) X rfl rfl dc_N_take_21 ?_
  refine go_aload_n (i := 1) X rfl rfl dc_N_take_22 ?_
  refine gc_get (v := .int (σ 16 (p))) X (by first | assumption | exact Ix_lt (by assumption)) 3 (by decide) fl_N_35 rfl dc_N_take_23 ?_
  refine gn_put X 3 6 (by first | assumption | exact Ix_lt (by assumption)) (by decide) fl_N_18 rfl (tk_N 3 (by decide)) rfl rfl (nu_6 (by first | assumption | exact Ix_lt (by assumption)) _) dc_N_take_26 ?_
  refine go_aload_n (i := 0) X rfl rfl dc_N_take_29 ?_
  refine go_aload_n (i := 1) X rfl rfl dc_N_take_30 ?_
  refine gc_get (v := .int (σ 17 (p))) X (by first | assumption | exact Ix_lt (by assumption)) 4 (by decide) fl_N_36 rfl dc_N_take_31 ?_
  refine gn_put X 4 7 (by first | assumption | exact Ix_lt (by assumption)) (by decide) fl_N_21 rfl (tk_N 4 (by decide)) rfl rfl (nu_7 (by first | assumption | exact Ix_lt (by assumption)) _) dc_N_take_34 ?_
  refine go_aload_n (i := 0) X rfl rfl dc_N_take_37 ?_
  refine go_iconst (v := 0) X (by decide) dc_N_take_38 ?_
  refine gn_put X 5 2 (by first | assumption | exact Ix_lt (by assumption)) (by decide) fl_N_28 rfl (tk_N 5 (by decide)) rfl rfl (nu_2 (by first | assumption | exact Ix_lt (by assumption)) _) dc_N_take_39 ?_
  refine go_aload_n (i := 0) X rfl rfl dc_N_take_42 ?_
  refine go_null X dc_N_take_43 ?_
  refine gn_putR (x := -1) X 7 3 (by first | assumption | exact Ix_lt (by assumption)) (by decide) fl_N_37 rfl (tk_N 7 (by decide)) (rf_m _) rfl rfl (nu_3 (by first | assumption | exact Ix_lt (by assumption)) _) dc_N_take_44 ?_
  exact go_vret X hr dc_N_take_47 rfl rfl
set_option maxHeartbeats 4000000 in
set_option maxRecDepth 20000 in
theorem tc_part (l : Launch) (D : va_G) (T : Nat → ClassId) (ad : Nat → Nat) (A : Nat → Prop) (nw : List Cond) (K n : Nat) {σ : ST_} {k : Nat} {x : Int32} (hk : k < 32) (hx : 0 ≤ x.toInt ∧ x.toInt ≤ 3) : cc_ l D T ad K n A nw yn_N_part (.code yn_N_part cd_N_part 2 (some .int)) 0 [.ref (ad (k + 8)), .int x] σ σ (some (.int (hc_part σ k x))) := by
  refine go_in (by decide) (Nat.le_of_ble_eq_true rfl) (List.forall_mem_cons.mpr ⟨rfl, List.forall_mem_cons.mpr ⟨rfl, fun _ h => nomatch h⟩⟩) ?_
  intro P e s m args below meth c X hr hnm hN
  replace X : Cx_ P l e (rm_d 0) s m args below meth c cd_N_part 2 rn_N D cl_ (tys_ T) TG_ := X
  refine go_loc (L' := [(0, .ref (ad (k + 8))), (1, .int x)]) rfl ?_
  have hx4 : x = 0 ∨ x = 1 ∨ x = 2 ∨ x = 3 := by simp only [iz_eq, iz_0, iz_1, iz_2, iz_3]; omega
  rcases hx4 with rfl | rfl | rfl | rfl
  · refine go_iload_n (i := 1) X rfl rfl dc_N_part_0 ?_
    refine go_tableIn (off := 27) (tgt := 28) X dc_N_part_1 (by decide) (by decide) (by decide) (by decide) ?_
    refine go_aload_n (i := 0) X rfl rfl dc_N_part_28 ?_
    refine gn_get (v := .int (σ 4 (k))) X (by first | assumption | exact Ix_lt (by assumption)) 1 (by decide) fl_N_9 rfl dc_N_part_29 ?_
    exact go_iret X hr dc_N_part_32 rfl rfl
  · refine go_iload_n (i := 1) X rfl rfl dc_N_part_0 ?_
    refine go_tableIn (off := 32) (tgt := 33) X dc_N_part_1 (by decide) (by decide) (by decide) (by decide) ?_
    refine go_aload_n (i := 0) X rfl rfl dc_N_part_33 ?_
    refine gn_get (v := .int (σ 5 (k))) X (by first | assumption | exact Ix_lt (by assumption)) 2 (by decide) fl_N_15 rfl dc_N_part_34 ?_
    exact go_iret X hr dc_N_part_37 rfl rfl
  · refine go_iload_n (i := 1) X rfl rfl dc_N_part_0 ?_
    refine go_tableIn (off := 37) (tgt := 38) X dc_N_part_1 (by decide) (by decide) (by decide) (by decide) ?_
    refine go_aload_n (i := 0) X rfl rfl dc_N_part_38 ?_
    refine gn_get (v := .int (σ 6 (k))) X (by first | assumption | exact Ix_lt (by assumption)) 3 (by decide) fl_N_18 rfl dc_N_part_39 ?_
    exact go_iret X hr dc_N_part_42 rfl rfl
  · refine go_iload_n (i := 1) X rfl rfl dc_N_part_0 ?_
    refine go_tableOut (tgt := 43) X dc_N_part_1 (by decide) (by decide) ?_
    refine go_aload_n (i := 0) X rfl rfl dc_N_part_43 ?_
    refine gn_get (v := .int (σ 7 (k))) X (by first | assumption | exact Ix_lt (by assumption)) 4 (by decide) fl_N_21 rfl dc_N_part_44 ?_
    exact go_iret X hr dc_N_part_47 rfl rfl
set_option maxHeartbeats 4000000 in
set_option maxRecDepth 20000 in
theorem tc_findFree (l : Launch) (D : va_G) (T : Nat → ClassId) (ad : Nat → Nat) (A : Nat → Prop) (nw : List Cond) (K n : Nat) {σ : ST_}  : cc_ l D T ad K n A nw yn_H_findFree (.code yn_H_findFree cd_H_findFree 5 (some (.object "HelpedLog$Node"))) 0 [.ref (ad 0)] σ σ (some (rv_ ad (hc_free σ))) := by
  refine go_in (by decide) (Nat.le_of_ble_eq_true rfl) (List.forall_mem_cons.mpr ⟨rfl, fun _ h => nomatch h⟩) ?_
  intro P e s m args below meth c X hr hnm hN
  replace X : Cx_ P l e (rm_d 0) s m args below meth c cd_H_findFree 5 rn_H D cl_ (tys_ T) TG_ := X
  refine go_loc (L' := [(0, .ref (ad 0))]) rfl ?_
  refine go_aload_n (i := 0) X rfl rfl dc_H_findFree_0 ?_
  refine gh_get X 1 (by decide) fl_H_34 rfl dc_H_findFree_1 ?_
  refine go_astore_n (i := 1) X rfl (by decide) dc_H_findFree_4 ?_
  refine go_aload_n (i := 1) X rfl rfl dc_H_findFree_5 ?_
  refine gx_ln X dc_H_findFree_6 ?_
  refine go_istore_n (i := 2) X rfl (by decide) dc_H_findFree_7 ?_
  refine go_iconst (v := nI 0) X (by decide) dc_H_findFree_8 ?_
  refine go_istore_n (i := 3) X rfl (by decide) dc_H_findFree_9 ?_
  refine go_loc (L' := [(0, .ref (ad 0)), (1, .ref (ad 7)), (2, .int (nI 32)), (3, .int (nI 0))]) rfl ?_
  refine (lp_up (P := fun j => ff_ (fun k => decide (σ 1 k = 0)) j (32 - j) = hc_free σ → Go_ P l e (rm_d 0) s m args below meth c D cl_ A 5 0 0 _ (cW_ T ad K n (σ)) 10 [(0, .ref (ad 0)), (1, .ref (ad 7)), (2, .int (nI 32)), (3, .int (nI j))] []) 32 (fun j hj ih hinv => ?_)) 0 (Nat.zero_le _) rfl
  refine go_iload_n (i := 3) X rfl rfl dc_H_findFree_10 ?_
  refine go_iload_n (i := 2) X rfl rfl dc_H_findFree_11 ?_
  refine go_icmp_ge (tgt := 37) X dc_H_findFree_12 (by decide) (fun h12 => ?_) (fun h12 => ?_)
  · have e32 : j = 32 := by rw [iz_le, iz_nI (by omega), iz_nI (by omega)] at h12; omega
    subst e32
    refine go_null X dc_H_findFree_37 ?_
    exact go_aret X hr (Or.inl rfl) dc_H_findFree_38 rfl (congrArg some (by rw [← hinv, ff_e]; rfl))
  · have hlt : j < 32 := by rw [iz_le, iz_nI (by omega), iz_nI (by omega)] at h12; omega
    have hx : Ix_ (nI j) 32 j := Ix_n hlt (by omega)
    refine go_aload_n (i := 1) X rfl rfl dc_H_findFree_15 ?_
    refine go_iload_n (i := 3) X rfl rfl dc_H_findFree_16 ?_
    refine gx_nd (k := j) X (by assumption) dc_H_findFree_17 ?_
    refine go_astore (i := 4) X (by decide) dc_H_findFree_18 ?_
    refine go_aload (i := 4) X rfl dc_H_findFree_20 ?_
    refine gn_get (v := .int (σ 1 (j))) X (by first | assumption | exact Ix_lt (by assumption)) 0 (by decide) fl_H_39 rfl dc_H_findFree_22 ?_
    refine go_if_ne (tgt := 31) X dc_H_findFree_25 (by decide) (fun h25 => ?_) (fun h25 => ?_)
    · refine go_iinc (i := 3) (v := nI (j + 1)) X rfl (by rw [lit1]; exact nI_1 j) (by decide) dc_H_findFree_31 ?_
      refine go_goto (tgt := 10) X dc_H_findFree_34 (by decide) ?_
      refine go_loc (L' := [(0, .ref (ad 0)), (1, .ref (ad 7)), (2, .int (nI 32)), (3, .int (nI (j + 1)))]) rfl ?_
      exact ih hlt (by rw [← ff_f hlt (decide_eq_false (by assumption))]; exact hinv)
    · refine go_aload (i := 4) X rfl dc_H_findFree_28 ?_
      exact go_aret X hr (Or.inr ⟨_, rfl⟩) dc_H_findFree_30 rfl (congrArg some (by rw [← hinv, ff_t hlt (decide_eq_true (by assumption))]; rfl))
set_option maxHeartbeats 4000000 in
set_option maxRecDepth 20000 in
theorem tc_findOnLog (l : Launch) (D : va_G) (T : Nat → ClassId) (ad : Nat → Nat) (A : Nat → Prop) (nw : List Cond) (K n : Nat) {σ : ST_} {x : Int32}  : cc_ l D T ad K n A nw yn_H_findOnLog (.code yn_H_findOnLog cd_H_findOnLog 6 (some (.object "HelpedLog$Node"))) 1 [.ref (ad 0), .int x] σ σ (some (rv_ ad (hc_find σ x))) := by
  refine go_in (by decide) (Nat.le_of_ble_eq_true rfl) (List.forall_mem_cons.mpr ⟨rfl, List.forall_mem_cons.mpr ⟨rfl, fun _ h => nomatch h⟩⟩) ?_
  intro P e s m args below meth c X hr hnm hN
  replace X : Cx_ P l e (rm_d 1) s m args below meth c cd_H_findOnLog 6 rn_H D cl_ (tys_ T) TG_ := X
  refine go_loc (L' := [(0, .ref (ad 0)), (1, .int x)]) rfl ?_
  refine go_aload_n (i := 0) X rfl rfl dc_H_findOnLog_0 ?_
  refine gh_get X 1 (by decide) fl_H_34 rfl dc_H_findOnLog_1 ?_
  refine go_astore_n (i := 2) X rfl (by decide) dc_H_findOnLog_4 ?_
  refine go_aload_n (i := 2) X rfl rfl dc_H_findOnLog_5 ?_
  refine gx_ln X dc_H_findOnLog_6 ?_
  refine go_istore_n (i := 3) X rfl (by decide) dc_H_findOnLog_7 ?_
  refine go_iconst (v := nI 0) X (by decide) dc_H_findOnLog_8 ?_
  refine go_istore (i := 4) X (by decide) dc_H_findOnLog_9 ?_
  refine go_loc (L' := [(0, .ref (ad 0)), (1, .int x), (2, .ref (ad 7)), (3, .int (nI 32)), (4, .int (nI 0))]) rfl ?_
  refine (lp_up (P := fun j => ff_ (fun k => on_ σ k && decide (σ 2 k = x)) j (32 - j) = hc_find σ x → Go_ P l e (rm_d 1) s m args below meth c D cl_ A 6 0 0 _ (cW_ T ad K n (σ)) 11 [(0, .ref (ad 0)), (1, .int x), (2, .ref (ad 7)), (3, .int (nI 32)), (4, .int (nI j))] []) 32 (fun j hj ih hinv => ?_)) 0 (Nat.zero_le _) rfl
  refine go_iload (i := 4) X rfl dc_H_findOnLog_11 ?_
  refine go_iload_n (i := 3) X rfl rfl dc_H_findOnLog_13 ?_
  refine go_icmp_ge (tgt := 49) X dc_H_findOnLog_14 (by decide) (fun h14 => ?_) (fun h14 => ?_)
  · have e32 : j = 32 := by rw [iz_le, iz_nI (by omega), iz_nI (by omega)] at h14; omega
    subst e32
    refine go_null X dc_H_findOnLog_49 ?_
    exact go_aret X hr (Or.inl rfl) dc_H_findOnLog_50 rfl (congrArg some (by rw [← hinv, ff_e]; rfl))
  · have hlt : j < 32 := by rw [iz_le, iz_nI (by omega), iz_nI (by omega)] at h14; omega
    have hx : Ix_ (nI j) 32 j := Ix_n hlt (by omega)
    refine go_aload_n (i := 2) X rfl rfl dc_H_findOnLog_17 ?_
    refine go_iload (i := 4) X rfl dc_H_findOnLog_18 ?_
    refine gx_nd (k := j) X (by assumption) dc_H_findOnLog_20 ?_
    refine go_astore (i := 5) X (by decide) dc_H_findOnLog_21 ?_
    refine go_aload (i := 5) X rfl dc_H_findOnLog_23 ?_
    refine go_cV (C := rn_N) (ci := 1) (i := j + 8) (n := 0) (rest := []) X hN (tc_isOnLog l D T ad A nw K n (σ := σ) (k := j) hlt) ml_H_103 im_N_isOnLog sl_N_NisOnLog ik_N co_N_isOnLog ⟨rfl, by decide, by decide, by decide +kernel⟩ ⟨rfl, rfl, by decide, by decide⟩ rfl (cw_n hlt) rfl rfl (Nat.le_of_ble_eq_true rfl) dc_H_findOnLog_25 ⟨Nat.zero_le _, Nat.zero_le _⟩ ?_
    refine go_if_eq (tgt := 43) X dc_H_findOnLog_28 (by decide) (fun h28 => ?_) (fun h28 => ?_)
    · refine go_iinc (i := 4) (v := nI (j + 1)) X rfl (by rw [lit1]; exact nI_1 j) (by decide) dc_H_findOnLog_43 ?_
      refine go_goto (tgt := 11) X dc_H_findOnLog_46 (by decide) ?_
      refine go_loc (L' := [(0, .ref (ad 0)), (1, .int x), (2, .ref (ad 7)), (3, .int (nI 32)), (4, .int (nI (j + 1)))]) rfl ?_
      exact ih hlt (by rw [← ff_f hlt (by first | (rw [cd_f h28]; rfl) | (rw [decide_eq_false h37, Bool.and_false]))]; exact hinv)
    · refine go_aload (i := 5) X rfl dc_H_findOnLog_31 ?_
      refine gn_get (v := .int (σ 2 (j))) X (by first | assumption | exact Ix_lt (by assumption)) 5 (by decide) fl_H_43 rfl dc_H_findOnLog_33 ?_
      refine go_iload_n (i := 1) X rfl rfl dc_H_findOnLog_36 ?_
      refine go_icmp_ne (tgt := 43) X dc_H_findOnLog_37 (by decide) (fun h37 => ?_) (fun h37 => ?_)
      · refine go_iinc (i := 4) (v := nI (j + 1)) X rfl (by rw [lit1]; exact nI_1 j) (by decide) dc_H_findOnLog_43 ?_
        refine go_goto (tgt := 11) X dc_H_findOnLog_46 (by decide) ?_
        refine go_loc (L' := [(0, .ref (ad 0)), (1, .int x), (2, .ref (ad 7)), (3, .int (nI 32)), (4, .int (nI (j + 1)))]) rfl ?_
        exact ih hlt (by rw [← ff_f hlt (by first | (rw [cd_f h28]; rfl) | (rw [decide_eq_false h37, Bool.and_false]))]; exact hinv)
      · refine go_aload (i := 5) X rfl dc_H_findOnLog_40 ?_
        exact go_aret X hr (Or.inr ⟨_, rfl⟩) dc_H_findOnLog_42 rfl (congrArg some (by rw [← hinv, ff_t hlt (by rw [cd_t h28, decide_eq_true h37]; rfl)]; rfl))
set_option maxHeartbeats 4000000 in
set_option maxRecDepth 20000 in
theorem tc_end (l : Launch) (D : va_G) (T : Nat → ClassId) (ad : Nat → Nat) (A : Nat → Prop) (nw : List Cond) (K n : Nat) {σ : ST_}  : cc_ l D T ad K n A nw yn_H_end (.code yn_H_end cd_H_end 6 (some .int)) 1 [.ref (ad 0)] σ σ (some (.int (hc_endF σ 32))) := by
  refine go_in (by decide) (Nat.le_of_ble_eq_true rfl) (List.forall_mem_cons.mpr ⟨rfl, fun _ h => nomatch h⟩) ?_
  intro P e s m args below meth c X hr hnm hN
  replace X : Cx_ P l e (rm_d 1) s m args below meth c cd_H_end 6 rn_H D cl_ (tys_ T) TG_ := X
  refine go_loc (L' := [(0, .ref (ad 0))]) rfl ?_
  refine go_iconst (v := 1) X (by decide) dc_H_end_0 ?_
  refine go_istore_n (i := 1) X rfl (by decide) dc_H_end_1 ?_
  refine go_aload_n (i := 0) X rfl rfl dc_H_end_2 ?_
  refine gh_get X 1 (by decide) fl_H_34 rfl dc_H_end_3 ?_
  refine go_astore_n (i := 2) X rfl (by decide) dc_H_end_6 ?_
  refine go_aload_n (i := 2) X rfl rfl dc_H_end_7 ?_
  refine gx_ln X dc_H_end_8 ?_
  refine go_istore_n (i := 3) X rfl (by decide) dc_H_end_9 ?_
  refine go_iconst (v := nI 0) X (by decide) dc_H_end_10 ?_
  refine go_istore (i := 4) X (by decide) dc_H_end_11 ?_
  refine go_loc (L' := [(0, .ref (ad 0)), (1, .int (hc_endF σ 0)), (2, .ref (ad 7)), (3, .int (nI 32)), (4, .int (nI 0))]) rfl ?_
  refine (lp_up (P := fun j => Go_ P l e (rm_d 1) s m args below meth c D cl_ A 6 0 0 _ (cW_ T ad K n (σ)) 13 [(0, .ref (ad 0)), (1, .int (hc_endF σ j)), (2, .ref (ad 7)), (3, .int (nI 32)), (4, .int (nI j))] []) 32 (fun j hj ih => ?_)) 0 (Nat.zero_le _) 
  refine go_iload (i := 4) X rfl dc_H_end_13 ?_
  refine go_iload_n (i := 3) X rfl rfl dc_H_end_15 ?_
  refine go_icmp_ge (tgt := 49) X dc_H_end_16 (by decide) (fun h16 => ?_) (fun h16 => ?_)
  · have e32 : j = 32 := by rw [iz_le, iz_nI (by omega), iz_nI (by omega)] at h16; omega
    subst e32
    refine go_iload_n (i := 1) X rfl rfl dc_H_end_49 ?_
    exact go_iret X hr dc_H_end_50 rfl rfl
  · have hlt : j < 32 := by rw [iz_le, iz_nI (by omega), iz_nI (by omega)] at h16; omega
    have hx : Ix_ (nI j) 32 j := Ix_n hlt (by omega)
    refine go_aload_n (i := 2) X rfl rfl dc_H_end_19 ?_
    refine go_iload (i := 4) X rfl dc_H_end_20 ?_
    refine gx_nd (k := j) X (by assumption) dc_H_end_22 ?_
    refine go_astore (i := 5) X (by decide) dc_H_end_23 ?_
    refine go_aload (i := 5) X rfl dc_H_end_25 ?_
    refine go_cV (C := rn_N) (ci := 1) (i := j + 8) (n := 0) (rest := []) X hN (tc_isOnLog l D T ad A nw K n (σ := σ) (k := j) hlt) ml_H_103 im_N_isOnLog sl_N_NisOnLog ik_N co_N_isOnLog ⟨rfl, by decide, by decide, by decide +kernel⟩ ⟨rfl, rfl, by decide, by decide⟩ rfl (cw_n hlt) rfl rfl (Nat.le_of_ble_eq_true rfl) dc_H_end_27 ⟨Nat.zero_le _, Nat.zero_le _⟩ ?_
    refine go_if_eq (tgt := 43) X dc_H_end_30 (by decide) (fun h30 => ?_) (fun h30 => ?_)
    · refine go_iinc (i := 4) (v := nI (j + 1)) X rfl (by rw [lit1]; exact nI_1 j) (by decide) dc_H_end_43 ?_
      refine go_goto (tgt := 13) X dc_H_end_46 (by decide) ?_
      have ih2 := ih hlt
      rw [← en_f (cd_f h30)] at ih2
      refine go_loc (L' := [(0, .ref (ad 0)), (1, .int (hc_endF σ j)), (2, .ref (ad 7)), (3, .int (nI 32)), (4, .int (nI (j + 1)))]) rfl ?_
      exact ih2
    · refine go_iload_n (i := 1) X rfl rfl dc_H_end_33 ?_
      refine go_aload (i := 5) X rfl dc_H_end_34 ?_
      refine gn_get (v := .int (σ 2 (j))) X (by first | assumption | exact Ix_lt (by assumption)) 5 (by decide) fl_H_43 rfl dc_H_end_36 ?_
      refine go_max X ml_H_15 (by decide) (Nat.le_of_ble_eq_true rfl) ⟨Nat.zero_le _, Nat.zero_le _⟩ dc_H_end_39 ?_
      refine go_istore_n (i := 1) X rfl (by decide) dc_H_end_42 ?_
      refine go_iinc (i := 4) (v := nI (j + 1)) X rfl (by rw [lit1]; exact nI_1 j) (by decide) dc_H_end_43 ?_
      refine go_goto (tgt := 13) X dc_H_end_46 (by decide) ?_
      have ih2 := ih hlt
      rw [← en_t (cd_t h30)] at ih2
      refine go_loc (L' := [(0, .ref (ad 0)), (1, .int (if hc_endF σ j < σ 2 j then σ 2 j else hc_endF σ j)), (2, .ref (ad 7)), (3, .int (nI 32)), (4, .int (nI (j + 1)))]) rfl ?_
      exact ih2
set_option maxHeartbeats 4000000 in
set_option maxRecDepth 20000 in
theorem tc_oldest (l : Launch) (D : va_G) (T : Nat → ClassId) (ad : Nat → Nat) (A : Nat → Prop) (nw : List Cond) (K n : Nat) {σ : ST_}  : cc_ l D T ad K n A nw yn_H_oldest (.code yn_H_oldest cd_H_oldest 6 (some .int)) 2 [.ref (ad 0)] σ σ (some (.int (hc_oldF σ 32))) := by
  refine go_in (by decide) (Nat.le_of_ble_eq_true rfl) (List.forall_mem_cons.mpr ⟨rfl, fun _ h => nomatch h⟩) ?_
  intro P e s m args below meth c X hr hnm hN
  replace X : Cx_ P l e (rm_d 2) s m args below meth c cd_H_oldest 6 rn_H D cl_ (tys_ T) TG_ := X
  refine go_loc (L' := [(0, .ref (ad 0))]) rfl ?_
  refine go_aload_n (i := 0) X rfl rfl dc_H_oldest_0 ?_
  refine go_cV (C := rn_H) (ci := 0) (i := 0) (n := 0) (rest := []) X hN (tc_end l D T ad A nw K n (σ := σ)) ml_H_107 im_H_end sl_H_Hend ik_H co_H_end ⟨rfl, by decide, by decide, by decide +kernel⟩ ⟨rfl, rfl, by decide, by decide⟩ rfl (cw_h) rfl rfl (Nat.le_of_ble_eq_true rfl) dc_H_oldest_1 ⟨Nat.zero_le _, Nat.zero_le _⟩ ?_
  refine go_istore_n (i := 1) X rfl (by decide) dc_H_oldest_4 ?_
  refine go_aload_n (i := 0) X rfl rfl dc_H_oldest_5 ?_
  refine gh_get X 1 (by decide) fl_H_34 rfl dc_H_oldest_6 ?_
  refine go_astore_n (i := 2) X rfl (by decide) dc_H_oldest_9 ?_
  refine go_aload_n (i := 2) X rfl rfl dc_H_oldest_10 ?_
  refine gx_ln X dc_H_oldest_11 ?_
  refine go_istore_n (i := 3) X rfl (by decide) dc_H_oldest_12 ?_
  refine go_iconst (v := nI 0) X (by decide) dc_H_oldest_13 ?_
  refine go_istore (i := 4) X (by decide) dc_H_oldest_14 ?_
  refine go_loc (L' := [(0, .ref (ad 0)), (1, .int (hc_oldF σ 0)), (2, .ref (ad 7)), (3, .int (nI 32)), (4, .int (nI 0))]) rfl ?_
  refine (lp_up (P := fun j => Go_ P l e (rm_d 2) s m args below meth c D cl_ A 6 0 0 _ (cW_ T ad K n (σ)) 16 [(0, .ref (ad 0)), (1, .int (hc_oldF σ j)), (2, .ref (ad 7)), (3, .int (nI 32)), (4, .int (nI j))] []) 32 (fun j hj ih => ?_)) 0 (Nat.zero_le _) 
  refine go_iload (i := 4) X rfl dc_H_oldest_16 ?_
  refine go_iload_n (i := 3) X rfl rfl dc_H_oldest_18 ?_
  refine go_icmp_ge (tgt := 52) X dc_H_oldest_19 (by decide) (fun h19 => ?_) (fun h19 => ?_)
  · have e32 : j = 32 := by rw [iz_le, iz_nI (by omega), iz_nI (by omega)] at h19; omega
    subst e32
    refine go_iload_n (i := 1) X rfl rfl dc_H_oldest_52 ?_
    exact go_iret X hr dc_H_oldest_53 rfl rfl
  · have hlt : j < 32 := by rw [iz_le, iz_nI (by omega), iz_nI (by omega)] at h19; omega
    have hx : Ix_ (nI j) 32 j := Ix_n hlt (by omega)
    refine go_aload_n (i := 2) X rfl rfl dc_H_oldest_22 ?_
    refine go_iload (i := 4) X rfl dc_H_oldest_23 ?_
    refine gx_nd (k := j) X (by assumption) dc_H_oldest_25 ?_
    refine go_astore (i := 5) X (by decide) dc_H_oldest_26 ?_
    refine go_aload (i := 5) X rfl dc_H_oldest_28 ?_
    refine go_cV (C := rn_N) (ci := 1) (i := j + 8) (n := 0) (rest := []) X hN (tc_isOnLog l D T ad A nw K n (σ := σ) (k := j) hlt) ml_H_103 im_N_isOnLog sl_N_NisOnLog ik_N co_N_isOnLog ⟨rfl, by decide, by decide, by decide +kernel⟩ ⟨rfl, rfl, by decide, by decide⟩ rfl (cw_n hlt) rfl rfl (Nat.le_of_ble_eq_true rfl) dc_H_oldest_30 ⟨Nat.zero_le _, Nat.zero_le _⟩ ?_
    refine go_if_eq (tgt := 46) X dc_H_oldest_33 (by decide) (fun h33 => ?_) (fun h33 => ?_)
    · refine go_iinc (i := 4) (v := nI (j + 1)) X rfl (by rw [lit1]; exact nI_1 j) (by decide) dc_H_oldest_46 ?_
      refine go_goto (tgt := 16) X dc_H_oldest_49 (by decide) ?_
      have ih2 := ih hlt
      rw [← ol_f (cd_f h33)] at ih2
      refine go_loc (L' := [(0, .ref (ad 0)), (1, .int (hc_oldF σ j)), (2, .ref (ad 7)), (3, .int (nI 32)), (4, .int (nI (j + 1)))]) rfl ?_
      exact ih2
    · refine go_iload_n (i := 1) X rfl rfl dc_H_oldest_36 ?_
      refine go_aload (i := 5) X rfl dc_H_oldest_37 ?_
      refine gn_get (v := .int (σ 2 (j))) X (by first | assumption | exact Ix_lt (by assumption)) 5 (by decide) fl_H_43 rfl dc_H_oldest_39 ?_
      refine go_min X ml_H_9 (by decide) (Nat.le_of_ble_eq_true rfl) ⟨Nat.zero_le _, Nat.zero_le _⟩ dc_H_oldest_42 ?_
      refine go_istore_n (i := 1) X rfl (by decide) dc_H_oldest_45 ?_
      refine go_iinc (i := 4) (v := nI (j + 1)) X rfl (by rw [lit1]; exact nI_1 j) (by decide) dc_H_oldest_46 ?_
      refine go_goto (tgt := 16) X dc_H_oldest_49 (by decide) ?_
      have ih2 := ih hlt
      rw [← ol_t (cd_t h33)] at ih2
      refine go_loc (L' := [(0, .ref (ad 0)), (1, .int (if σ 2 j < hc_oldF σ j then σ 2 j else hc_oldF σ j)), (2, .ref (ad 7)), (3, .int (nI 32)), (4, .int (nI (j + 1)))]) rfl ?_
      exact ih2
set_option maxHeartbeats 4000000 in
set_option maxRecDepth 20000 in
theorem tc_used (l : Launch) (D : va_G) (T : Nat → ClassId) (ad : Nat → Nat) (A : Nat → Prop) (nw : List Cond) (K n : Nat) {σ : ST_}  : cc_ l D T ad K n A nw yn_H_used (.code yn_H_used cd_H_used 6 (some .int)) 0 [.ref (ad 0)] σ σ (some (.int (ct_ (fun k => decide (¬ σ 1 k = 0)) 32))) := by
  refine go_in (by decide) (Nat.le_of_ble_eq_true rfl) (List.forall_mem_cons.mpr ⟨rfl, fun _ h => nomatch h⟩) ?_
  intro P e s m args below meth c X hr hnm hN
  replace X : Cx_ P l e (rm_d 0) s m args below meth c cd_H_used 6 rn_H D cl_ (tys_ T) TG_ := X
  refine go_loc (L' := [(0, .ref (ad 0))]) rfl ?_
  refine go_iconst (v := 0) X (by decide) dc_H_used_0 ?_
  refine go_istore_n (i := 1) X rfl (by decide) dc_H_used_1 ?_
  refine go_aload_n (i := 0) X rfl rfl dc_H_used_2 ?_
  refine gh_get X 1 (by decide) fl_H_34 rfl dc_H_used_3 ?_
  refine go_astore_n (i := 2) X rfl (by decide) dc_H_used_6 ?_
  refine go_aload_n (i := 2) X rfl rfl dc_H_used_7 ?_
  refine gx_ln X dc_H_used_8 ?_
  refine go_istore_n (i := 3) X rfl (by decide) dc_H_used_9 ?_
  refine go_iconst (v := nI 0) X (by decide) dc_H_used_10 ?_
  refine go_istore (i := 4) X (by decide) dc_H_used_11 ?_
  refine go_loc (L' := [(0, .ref (ad 0)), (1, .int (ct_ (fun k => decide (¬ σ 1 k = 0)) 0)), (2, .ref (ad 7)), (3, .int (nI 32)), (4, .int (nI 0))]) rfl ?_
  refine (lp_up (P := fun j => Go_ P l e (rm_d 0) s m args below meth c D cl_ A 6 0 0 _ (cW_ T ad K n (σ)) 13 [(0, .ref (ad 0)), (1, .int (ct_ (fun k => decide (¬ σ 1 k = 0)) j)), (2, .ref (ad 7)), (3, .int (nI 32)), (4, .int (nI j))] []) 32 (fun j hj ih => ?_)) 0 (Nat.zero_le _) 
  refine go_iload (i := 4) X rfl dc_H_used_13 ?_
  refine go_iload_n (i := 3) X rfl rfl dc_H_used_15 ?_
  refine go_icmp_ge (tgt := 42) X dc_H_used_16 (by decide) (fun h16 => ?_) (fun h16 => ?_)
  · have e32 : j = 32 := by rw [iz_le, iz_nI (by omega), iz_nI (by omega)] at h16; omega
    subst e32
    refine go_iload_n (i := 1) X rfl rfl dc_H_used_42 ?_
    exact go_iret X hr dc_H_used_43 rfl rfl
  · have hlt : j < 32 := by rw [iz_le, iz_nI (by omega), iz_nI (by omega)] at h16; omega
    have hx : Ix_ (nI j) 32 j := Ix_n hlt (by omega)
    refine go_aload_n (i := 2) X rfl rfl dc_H_used_19 ?_
    refine go_iload (i := 4) X rfl dc_H_used_20 ?_
    refine gx_nd (k := j) X (by assumption) dc_H_used_22 ?_
    refine go_astore (i := 5) X (by decide) dc_H_used_23 ?_
    refine go_aload (i := 5) X rfl dc_H_used_25 ?_
    refine gn_get (v := .int (σ 1 (j))) X (by first | assumption | exact Ix_lt (by assumption)) 0 (by decide) fl_H_39 rfl dc_H_used_27 ?_
    refine go_if_eq (tgt := 36) X dc_H_used_30 (by decide) (fun h30 => ?_) (fun h30 => ?_)
    · refine go_iinc (i := 4) (v := nI (j + 1)) X rfl (by rw [lit1]; exact nI_1 j) (by decide) dc_H_used_36 ?_
      refine go_goto (tgt := 13) X dc_H_used_39 (by decide) ?_
      have ih2 := ih hlt
      rw [← us_f h30] at ih2
      refine go_loc (L' := [(0, .ref (ad 0)), (1, .int (ct_ (fun k => decide (¬ σ 1 k = 0)) j)), (2, .ref (ad 7)), (3, .int (nI 32)), (4, .int (nI (j + 1)))]) rfl ?_
      exact ih2
    · refine go_iinc (i := 1) (v := ct_ (fun k => decide (¬ σ 1 k = 0)) j + 1) X rfl (by rw [lit1]) (by decide) dc_H_used_33 ?_
      refine go_iinc (i := 4) (v := nI (j + 1)) X rfl (by rw [lit1]; exact nI_1 j) (by decide) dc_H_used_36 ?_
      refine go_goto (tgt := 13) X dc_H_used_39 (by decide) ?_
      have ih2 := ih hlt
      rw [← us_t h30] at ih2
      refine go_loc (L' := [(0, .ref (ad 0)), (1, .int (ct_ (fun k => decide (¬ σ 1 k = 0)) j + 1)), (2, .ref (ad 7)), (3, .int (nI 32)), (4, .int (nI (j + 1)))]) rfl ?_
      exact ih2
end C1

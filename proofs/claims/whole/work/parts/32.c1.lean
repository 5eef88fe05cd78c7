section C1
set_option maxHeartbeats 4000000 in
set_option maxRecDepth 20000 in
theorem tc_isOnLog (l : Launch) (D : va_G) (T : Nat → ClassId) (ad : Nat → Nat) (A : Nat → Prop) (nw : List Cond) (K n : Nat) {σ : ST_} {k : Nat} (hk : k < 32) : cc_ l D T ad K n A nw yn_N_isOnLog (.code yn_N_isOnLog cd_N_isOnLog 1 (some .boolean)) 0 [.ref (ad (k + 8))] σ σ (some (.int (cond (on_ σ k) 1 0))) := by
  refine go_in (by decide) (Nat.le_of_ble_eq_true rfl) (List.forall_mem_cons.mpr ⟨rfl, fun _ h => nomatch h⟩) ?_
  intro P e s m args below meth c X hr hnm hN
  replace X : Cx_ P l e (rm_d 0) s m args below meth c cd_N_isOnLog 1 rn_N D cl_ (tys_ T) TG_ := X
  refine go_loc (L' := [(0, .ref (ad (k + 8)))]) rfl ?_
  refine go_aload_n (i := 0) X rfl rfl dc_N_isOnLog_0 ?_
  refine gn_get (v := .int (σ 1 (k))) X (by first | assumption | exact Ix_lt (by assumption)) 0 (by decide) fl_N_24 rfl dc_N_isOnLog_1 ?_
  refine go_if_eq (tgt := 18) X dc_N_isOnLog_4 (by decide) (fun h4 => ?_) (fun h4 => ?_)
  · refine go_iconst (v := 0) X (by decide) dc_N_isOnLog_18 ?_
    exact go_zret X hr (by decide) dc_N_isOnLog_19 rfl (congrArg some (congrArg Value.int (by first | exact on_v1 h4 h11 | exact on_v0 (Or.inl h4) | exact on_v0 (Or.inr h11))))
  · refine go_aload_n (i := 0) X rfl rfl dc_N_isOnLog_7 ?_
    refine gn_get (v := .int (σ 2 (k))) X (by first | assumption | exact Ix_lt (by assumption)) 5 (by decide) fl_N_28 rfl dc_N_isOnLog_8 ?_
    refine go_if_le (tgt := 18) X dc_N_isOnLog_11 (by decide) (fun h11 => ?_) (fun h11 => ?_)
    · refine go_iconst (v := 0) X (by decide) dc_N_isOnLog_18 ?_
      exact go_zret X hr (by decide) dc_N_isOnLog_19 rfl (congrArg some (congrArg Value.int (by first | exact on_v1 h4 h11 | exact on_v0 (Or.inl h4) | exact on_v0 (Or.inr h11))))
    · refine go_iconst (v := 1) X (by decide) dc_N_isOnLog_14 ?_
      refine go_goto (tgt := 19) X dc_N_isOnLog_15 (by decide) ?_
      exact go_zret X hr (by decide) dc_N_isOnLog_19 rfl (congrArg some (congrArg Value.int (by first | exact on_v1 h4 h11 | exact on_v0 (Or.inl h4) | exact on_v0 (Or.inr h11))))
set_option maxHeartbeats 4000000 in
set_option maxRecDepth 20000 in
theorem tc_take (l : Launch) (D : va_G) (T : Nat → ClassId) (ad : Nat → Nat) (A : Nat → Prop) (nw : List Cond) (K n : Nat) {σ : ST_} {k p : Nat} (hk : k < 32) (hp : p < n) : cc_ l D T ad K n A nw yn_N_take (.code yn_N_take cd_N_take 2 none) 0 [.ref (ad (k + 8)), .ref (ad (p + 41))] σ (hc_take σ k p) none := by
  refine go_in (by decide) (Nat.le_of_ble_eq_true rfl) (List.forall_mem_cons.mpr ⟨rfl, List.forall_mem_cons.mpr ⟨rfl, fun _ h => nomatch h⟩⟩) ?_
  intro P e s m args below meth c X hr hnm hN
  replace X : Cx_ P l e (rm_d 0) s m args below meth c cd_N_take 2 rn_N D cl_ (tys_ T) TG_ := X
  refine go_loc (L' := [(0, .ref (ad (k + 8))), (1, .ref (ad (p + 41)))]) rfl ?_
  refine go_aload_n (i := 0) X rfl rfl dc_N_take_0 ?_
  refine go_iconst (v := 1) X (by decide) dc_N_take_1 ?_
  refine gn_put X 0 1 (by first | assumption | exact Ix_lt (by assumption)) (by decide) fl_N_24 rfl (tk_N 0 (by decide)) rfl rfl (nu_1 (by first | assumption | exact Ix_lt (by assumption)) _) dc_N_take_2 ?_
  refine go_aload_n (i := 0) X rfl rfl dc_N_take_5 ?_
  refine go_aload_n (i := 1) X rfl rfl dc_N_take_6 ?_
  refine gc_get (v := .int (nI (p))) X (by first | assumption | exact Ix_lt (by assumption)) 0 (by decide) fl_N_31 rfl dc_N_take_7 ?_
  refine gn_put X 1 4 (by first | assumption | exact Ix_lt (by assumption)) (by decide) fl_N_9 rfl (tk_N 1 (by decide)) rfl rfl (nu_4 (by first | assumption | exact Ix_lt (by assumption)) _) dc_N_take_10 ?_
  refine go_aload_n (i := 0) X rfl rfl dc_N_take_13 ?_
  refine go_aload_n (i := 1) X rfl rfl dc_N_take_14 ?_
  refine gc_get (v := .int (σ 15 (p))) X (by first | assumption | exact Ix_lt (by assumption)) 2 (by decide) fl_N_34 rfl dc_N_take_15 ?_
  refine gn_put X 2 5 (by first | assumption | exact Ix_lt (by assumption)) (by decide) fl_N_15 rfl (tk_N 2 (by decide)) rfl rfl (nu_5 (by first | assumption | exact Ix_lt (by assumption)) _) dc_N_take_18 ?_
  refine go_aload_n (i := 0) X rfl rfl dc_N_take_21 ?_
  refine go_aload_n (i := 1) X rfl rfl dc_N_take_22 ?_
  refine gc_get (v := .int (σ 16 (p))) X (by first | assumption | exact Ix_lt (by assumption)) 3 (by decide) fl_N_35 rfl dc_N_take_23 ?_
  refine gn_put X 3 6 (by first | assumption | exact Ix_lt (by assumption)) (by decide) fl_N_18 rfl (tk_N 3 (by decide)) rfl rfl (nu_6 (by first | assumption | exact Ix_lt (by assumption)) _) dc_N_take_26 ?_
  refine go_aload_n (i := 0) X rfl rfl dc_N_take_29 ?_
  refine go_aload_n (i := 1) X rfl rfl dc_N_take_30 ?_
  refine gc_get (v := .int (σ 17 (p))) X (by first | assumption | exact Ix_lt (by assumption)) 4 (by decide) fl_N_36 rfl dc_N_take_31 ?_
  refine gn_put X 4 7 (by first | assumption | exact Ix_lt (by assumption)) (by decide) fl_N_21 rfl (tk_N 4 (by decide)) rfl rfl (nu_7 (by first | assumption | exact Ix_lt (by assumption)) _) dc_N_take_34 ?_
  refine go_aload_n (i := 0) X rfl rfl dc_N_take_37 ?_
  refine go_iconst (v := 0) X (by decide) dc_N_take_38 ?_
  refine gn_put X 5 2 (by first | assumption | exact Ix_lt (by assumption)) (by decide) fl_N_28 rfl (tk_N 5 (by decide)) rfl rfl (nu_2 (by first | assumption | exact Ix_lt (by assumption)) _) dc_N_take_39 ?_
  refine go_aload_n (i := 0) X rfl rfl dc_N_take_42 ?_
  refine go_null X dc_N_take_43 ?_
  refine gn_putR (x := -1) X 7 3 (by first | assumption | exact Ix_lt (by assumption)) (by decide) fl_N_37 rfl (tk_N 7 (by decide)) (rf_m _) rfl rfl (nu_3 (by first | assumption | exact Ix_lt (by assumption)) _) dc_N_take_44 ?_
  exact go_vret X hr dc_N_take_47 rfl rfl
end C1

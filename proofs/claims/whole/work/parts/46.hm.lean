section HM
/-- the class's world, and the law's array for an answer -/
def oE_ (T : Nat → ClassId) (f : Nat → Int64) : va_E := .inl (T 2, 1, .inr (.inl f))
def hW_ (T : Nat → ClassId) (ad : Nat → Nat) (K n : Nat) (σ : ST_) (o : Nat) (f : Nat → Int64) : va_W := cW_ T ad K n σ ++ [(o, oE_ T f)]
theorem wl_adr (ad : Nat → Nat) (N : Nat) (g : Nat → va_E) : (wl_ ad N g).map (fun q => q.1) = (List.range N).map ad := by
  unfold wl_
  rw [List.map_map]
  rfl
theorem wl_len (ad : Nat → Nat) (N : Nat) (g : Nat → va_E) : (wl_ ad N g).length = N := by unfold wl_; rw [List.length_map, List.length_range]
theorem in_adr {w w' : va_W} (h : w'.map (fun q => q.1) = w.map (fun q => q.1)) (a : Nat) : in_w w' a ↔ in_w w a := by
  have key : ∀ {u v : va_W}, u.map (fun q => q.1) = v.map (fun q => q.1) → in_w u a → in_w v a := by
    intro u v e ⟨q, hq, ha⟩
    have h1 : a ∈ u.map (fun q => q.1) := List.mem_map.mpr ⟨q, hq, ha⟩
    rw [e] at h1
    obtain ⟨q', hq', ha'⟩ := List.mem_map.mp h1
    exact ⟨q', hq', ha'⟩
  exact ⟨key h, key h.symm⟩
theorem vd_app {A : Nat → Prop} {u v : va_W} (h : va_D A (u ++ v)) {q q' : Nat × va_E} (hq : q ∈ u) (hq' : q' ∈ v) : q.1 ≠ q'.1 := by
  intro e
  obtain ⟨i, hi⟩ := List.getElem?_of_mem hq
  obtain ⟨j, hj⟩ := List.getElem?_of_mem hq'
  have hil := (List.getElem?_eq_some_iff.mp hi).1
  have h1 : (u ++ v)[i]? = some q := by rw [List.getElem?_append_left hil]; exact hi
  have h2 : (u ++ v)[u.length + j]? = some q' := by rw [List.getElem?_append_right (by omega), Nat.add_sub_cancel_left]; exact hj
  have := h.1 _ _ _ _ h1 h2 e
  omega
theorem vd_l {A : Nat → Prop} {u v : va_W} (h : va_D A (u ++ v)) : va_D A u := by
  refine ⟨fun i j x y hi hj hxy => ?_, fun k q hk => ?_⟩
  · have h1 := (List.getElem?_eq_some_iff.mp hi).1
    have h2 := (List.getElem?_eq_some_iff.mp hj).1
    exact h.1 i j x y (by rw [List.getElem?_append_left h1]; exact hi) (by rw [List.getElem?_append_left h2]; exact hj) hxy
  · have h1 := (List.getElem?_eq_some_iff.mp hk).1
    exact h.2 k q (by rw [List.getElem?_append_left h1]; exact hk)
theorem vd_self {A : Nat → Prop} {w : va_W} (h : va_D A w) : va_D (in_w w) w := ⟨h.1, fun k q hk => ⟨q, List.mem_of_getElem? hk, rfl⟩⟩
theorem vp_sub {D : va_G} {cl : List vw_C} {w w1 : va_W} {H : Heap} (hP : va_P D cl w H) (hs : ∀ q ∈ w1, q ∈ w) : va_P D cl w1 H := fun i q hi => by
  obtain ⟨j, hj⟩ := List.getElem?_of_mem (hs q (List.mem_of_getElem? hi))
  exact hP j q hj
/-- a part of a world in front -/
theorem fp_res {A : Nat → Prop} {u u' v : va_W} : va_D A (u ++ v) → ∀ q ∈ u' ++ v, q ∈ u' ∨ (q ∈ u ++ v ∧ ¬ in_w u q.1) := by
  intro h q hq
  rcases List.mem_append.mp hq with h1 | h1
  · exact Or.inl h1
  · exact Or.inr ⟨List.mem_append_right _ h1, fun ⟨q', hq', e⟩ => vd_app h hq' h1 e⟩
theorem fp_A {A : Nat → Prop} {u v : va_W} (h : va_D A (u ++ v)) : ∀ q, in_w u q → A q := fun a ⟨q, hq, e⟩ => by
  obtain ⟨i, hi⟩ := List.getElem?_of_mem hq
  rw [← e]
  exact (vd_l h).2 i q hi
theorem cw_adr (T : Nat → ClassId) (ad : Nat → Nat) (K n : Nat) (σ σ' : ST_) : (cW_ T ad K n σ').map (fun q => q.1) = (cW_ T ad K n σ).map (fun q => q.1) := by unfold cW_; rw [wl_adr, wl_adr]
theorem hw_adr (T : Nat → ClassId) (ad : Nat → Nat) (K n : Nat) (σ σ' : ST_) (o : Nat) (f f' : Nat → Int64) : (hW_ T ad K n σ' o f').map (fun q => q.1) = (hW_ T ad K n σ o f).map (fun q => q.1) := by unfold hW_; rw [List.map_append, List.map_append, cw_adr T ad K n σ σ']; rfl
theorem hw_o (T : Nat → ClassId) (ad : Nat → Nat) (K n : Nat) (σ : ST_) (o : Nat) (f : Nat → Int64) : (hW_ T ad K n σ o f)[41 + n]? = some (o, oE_ T f) := by
  unfold hW_
  rw [List.getElem?_append_right (by unfold cW_; rw [wl_len]; exact Nat.le_refl _)]
  unfold cW_
  rw [wl_len, Nat.sub_self]
  rfl
theorem hw_set (T : Nat → ClassId) (ad : Nat → Nat) (K n : Nat) (σ : ST_) (o : Nat) (f f' : Nat → Int64) : (hW_ T ad K n σ o f).set (41 + n) (o, oE_ T f') = hW_ T ad K n σ o f' := by
  have h : ∀ (u : List (Nat × va_E)) (x y : Nat × va_E), (u ++ [x]).set u.length y = u ++ [y] := by
    intro u x y
    simp
  have e : 41 + n = (cW_ T ad K n σ).length := by unfold cW_; rw [wl_len]
  rw [e]
  exact h _ _ _
theorem vin0 : vp_in 0 1 := vp_in_iff.mpr (by decide)
def xh_L_step : List (Nat × Nat × Nat × Nat) := [(0, 9, 12, 13)]
theorem cx_L_step : Cond.codeWith yn_L_step cd_L_step 4 (some .int) xh_L_step ∈ TG_ := tg_i 378 (by decide +kernel) (by decide +kernel)
set_option maxHeartbeats 4000000 in
set_option maxRecDepth 20000 in
theorem tl_step (l : Launch) (D : va_G) (T : Nat → ClassId) (ad : Nat → Nat) (A : Nat → Prop) (nw : List Cond) (K n N o : Nat) {f : Nat → Int64} {σ : ST_} {p : Nat} (hp : p < n) (hn : n ≤ 5) (hK : K < 4) (h0 : 0 < n) (hnw : ∀ w ∈ nwc_, w ∈ nw) (hO : Oc_ n σ p)  : Hl_ l D cl_ (tys_ T) A nw N yn_L_step (.codeWith yn_L_step cd_L_step 4 (some .int) xh_L_step :: TG_) [.ref (ad 0), .int (nI p), .ref o] (hW_ T ad K n σ o f) (hW_ T ad K n ((hc_one K n σ p).1) o (vp_updL f 0 ((hc_one K n σ p).2).toInt64)) (some (.int 0)) := by
  refine hl_in (by decide) (Nat.le_of_ble_eq_true rfl) (List.forall_mem_cons.mpr ⟨rfl, List.forall_mem_cons.mpr ⟨rfl, List.forall_mem_cons.mpr ⟨rfl, fun _ h => nomatch h⟩⟩⟩) ?_
  intro P e s m args below meth c X hr hxt hN hTw hNc hP hD
  replace X : Cx_ P l e (rx_d 8) s m args below meth c cd_L_step 4 rn_L D cl_ (tys_ T) TG_ := X
  have hP1 : va_P D cl_ (cW_ T ad K n σ) s.heap := vp_sub hP (fun q hq => List.mem_append_left _ hq)
  refine gr_loc (L' := [(0, .ref (ad 0)), (1, .int (nI p)), (2, .ref o)]) rfl ?_
  refine gr_go hP hD ?_
  refine go_widen (cells' := 1) (slots' := 6) (by decide) (by decide) ?_
  refine go_aload_n (i := 2) X rfl rfl dc_L_step_0 ?_
  refine go_iconst (v := 0) X (by decide) dc_L_step_1 ?_
  refine go_aload_n (i := 0) X rfl rfl dc_L_step_2 ?_
  refine go_iload_n (i := 1) X rfl rfl dc_L_step_3 ?_
  refine go_frV (C := rn_H) (ci := 0) (i := 0) (n := 1) (rest := [.int 0, .ref o]) (w' := hW_ T ad K n ((hc_one K n σ p).1) o f) X hN (tc_step l D T ad (in_w (cW_ T ad K n σ)) nw K n (σ := σ) hp hn hK h0 hnw hO) ml_L_19 im_H_step sl_H_Hstep ik_H co_H_step ⟨rfl, by decide, by decide, by decide +kernel⟩ ⟨rfl, rfl, by decide, by decide⟩ rfl cw_h rfl rfl (Nat.le_of_ble_eq_true rfl) dc_L_step_4 ⟨by decide, by decide⟩ (fun h => vd_self (vd_l h)) (fun q hq => List.mem_append_left _ hq) (fun h => fp_A h) (fun h => fp_res h) (hw_adr _ _ _ _ _ _ _ _ _) ?_
  refine go_i2l X dc_L_step_7 ?_
  refine go_last (i := 41 + n) (t0 := 2) X (hw_o _ _ _ _ _ _ _) rfl vin0 rfl dc_L_step_8 ?_
  refine go_eqw (hw_set _ _ _ _ _ _ _ _) ?_
  refine go_goto (tgt := 15) X dc_L_step_9 (by decide) ?_
  refine go_iconst (v := 0) X (by decide) dc_L_step_15 ?_
  exact go_iret X hr dc_L_step_16 rfl rfl
set_option maxHeartbeats 4000000 in
set_option maxRecDepth 20000 in
theorem tl_stepX (l : Launch) (D : va_G) (T : Nat → ClassId) (ad : Nat → Nat) (A : Nat → Prop) (nw : List Cond) (K n N o : Nat) {f : Nat → Int64} (htr : l.stackTraces = false) {σ : ST_} {x : Int32} (hv : ¬ (0 ≤ x ∧ x < nI n))  : Hl_ l D cl_ (tys_ T) A nw N yn_L_step (.codeWith yn_L_step cd_L_step 4 (some .int) xh_L_step :: TG_) [.ref (ad 0), .int x, .ref o] (hW_ T ad K n σ o f) (hW_ T ad K n σ o f) (some (.int 1)) := by
  refine hl_in (by decide) (Nat.le_of_ble_eq_true rfl) (List.forall_mem_cons.mpr ⟨rfl, List.forall_mem_cons.mpr ⟨rfl, List.forall_mem_cons.mpr ⟨rfl, fun _ h => nomatch h⟩⟩⟩) ?_
  intro P e s m args below meth c X hr hxt hN hTw hNc hP hD
  replace X : Cx_ P l e (rx_d 8) s m args below meth c cd_L_step 4 rn_L D cl_ (tys_ T) TG_ := X
  have hP1 : va_P D cl_ (cW_ T ad K n σ) s.heap := vp_sub hP (fun q hq => List.mem_append_left _ hq)
  refine gr_loc (L' := [(0, .ref (ad 0)), (1, .int x), (2, .ref o)]) rfl ?_
  refine gr_aload_n (i := 2) X rfl rfl dc_L_step_0 ?_
  refine gr_iconst (v := 0) X (by decide) dc_L_step_1 ?_
  refine gr_aload_n (i := 0) X rfl rfl dc_L_step_2 ?_
  refine gr_iload_n (i := 1) X rfl rfl dc_L_step_3 ?_
  refine gr_catch (C := rn_I) (hpc := 12) (rest := [.int 0, .ref o]) hP hD (fun ls hl T0 hT Y => tn_V (K := rn_H) (ci := 0) (i := 0) (n := 1) X hN hTw hP1 (rx_step l D T ad nw K n N htr (σ := σ) (x := x) hv) ml_L_19 im_H_step sl_H_Hstep ik_H co_H_step ⟨rfl, by decide, by decide, by decide +kernel⟩ ⟨rfl, rfl, by decide, by decide, by decide, by decide⟩ rfl cw_h rfl rfl (Nat.le_of_ble_eq_true rfl) dc_L_step_4 hl hT Y) (fun hpl S g x ce g1 g2 g3 g4 g5 g6 g7 => ft_hit (a := 0) (b := 9) (h := 12) (ct := 13) (own := rn_L) (Y := rn_I) hxt g3 hpl (by rw [g2]; exact X.2.2.2.1) (X.2.2.2.2.1 _ kl_L_13) (by rw [g1]; decide) (by decide) g4 g5 g6 g7) (fun x => ?_)
  refine go_astore_n (i := 3) X rfl (by decide) dc_L_step_12 ?_
  refine go_iconst (v := 1) X (by decide) dc_L_step_13 ?_
  exact go_iret X hr dc_L_step_14 rfl rfl
def xh_L_done : List (Nat × Nat × Nat × Nat) := [(0, 9, 12, 13)]
theorem cx_L_done : Cond.codeWith yn_L_done cd_L_done 4 (some .int) xh_L_done ∈ TG_ := tg_i 469 (by decide +kernel) (by decide +kernel)
set_option maxHeartbeats 4000000 in
set_option maxRecDepth 20000 in
theorem tl_done (l : Launch) (D : va_G) (T : Nat → ClassId) (ad : Nat → Nat) (A : Nat → Prop) (nw : List Cond) (K n N o : Nat) {f : Nat → Int64} {σ : ST_} {p : Nat} (hp : p < n) (hn : n ≤ 5)  : Hl_ l D cl_ (tys_ T) A nw N yn_L_done (.codeWith yn_L_done cd_L_done 4 (some .int) xh_L_done :: TG_) [.ref (ad 0), .int (nI p), .ref o] (hW_ T ad K n σ o f) (hW_ T ad K n (σ) o (vp_updL f 0 (σ 18 p).toInt64)) (some (.int 0)) := by
  refine hl_in (by decide) (Nat.le_of_ble_eq_true rfl) (List.forall_mem_cons.mpr ⟨rfl, List.forall_mem_cons.mpr ⟨rfl, List.forall_mem_cons.mpr ⟨rfl, fun _ h => nomatch h⟩⟩⟩) ?_
  intro P e s m args below meth c X hr hxt hN hTw hNc hP hD
  replace X : Cx_ P l e (rx_d 8) s m args below meth c cd_L_done 4 rn_L D cl_ (tys_ T) TG_ := X
  have hP1 : va_P D cl_ (cW_ T ad K n σ) s.heap := vp_sub hP (fun q hq => List.mem_append_left _ hq)
  refine gr_loc (L' := [(0, .ref (ad 0)), (1, .int (nI p)), (2, .ref o)]) rfl ?_
  refine gr_go hP hD ?_
  refine go_widen (cells' := 1) (slots' := 6) (by decide) (by decide) ?_
  refine go_aload_n (i := 2) X rfl rfl dc_L_done_0 ?_
  refine go_iconst (v := 0) X (by decide) dc_L_done_1 ?_
  refine go_aload_n (i := 0) X rfl rfl dc_L_done_2 ?_
  refine go_iload_n (i := 1) X rfl rfl dc_L_done_3 ?_
  refine go_frV (C := rn_H) (ci := 0) (i := 0) (n := 1) (rest := [.int 0, .ref o]) (w' := hW_ T ad K n (σ) o f) X hN (tc_done l D T ad (in_w (cW_ T ad K n σ)) nw K n (σ := σ) hp hn) ml_L_27 im_H_done sl_H_Hdone ik_H co_H_done ⟨rfl, by decide, by decide, by decide +kernel⟩ ⟨rfl, rfl, by decide, by decide⟩ rfl cw_h rfl rfl (Nat.le_of_ble_eq_true rfl) dc_L_done_4 ⟨by decide, by decide⟩ (fun h => vd_self (vd_l h)) (fun q hq => List.mem_append_left _ hq) (fun h => fp_A h) (fun h => fp_res h) (hw_adr _ _ _ _ _ _ _ _ _) ?_
  refine go_i2l X dc_L_done_7 ?_
  refine go_last (i := 41 + n) (t0 := 2) X (hw_o _ _ _ _ _ _ _) rfl vin0 rfl dc_L_done_8 ?_
  refine go_eqw (hw_set _ _ _ _ _ _ _ _) ?_
  refine go_goto (tgt := 15) X dc_L_done_9 (by decide) ?_
  refine go_iconst (v := 0) X (by decide) dc_L_done_15 ?_
  exact go_iret X hr dc_L_done_16 rfl rfl
set_option maxHeartbeats 4000000 in
set_option maxRecDepth 20000 in
theorem tl_doneX (l : Launch) (D : va_G) (T : Nat → ClassId) (ad : Nat → Nat) (A : Nat → Prop) (nw : List Cond) (K n N o : Nat) {f : Nat → Int64} (htr : l.stackTraces = false) {σ : ST_} {x : Int32} (hv : ¬ (0 ≤ x ∧ x < nI n))  : Hl_ l D cl_ (tys_ T) A nw N yn_L_done (.codeWith yn_L_done cd_L_done 4 (some .int) xh_L_done :: TG_) [.ref (ad 0), .int x, .ref o] (hW_ T ad K n σ o f) (hW_ T ad K n σ o f) (some (.int 1)) := by
  refine hl_in (by decide) (Nat.le_of_ble_eq_true rfl) (List.forall_mem_cons.mpr ⟨rfl, List.forall_mem_cons.mpr ⟨rfl, List.forall_mem_cons.mpr ⟨rfl, fun _ h => nomatch h⟩⟩⟩) ?_
  intro P e s m args below meth c X hr hxt hN hTw hNc hP hD
  replace X : Cx_ P l e (rx_d 8) s m args below meth c cd_L_done 4 rn_L D cl_ (tys_ T) TG_ := X
  have hP1 : va_P D cl_ (cW_ T ad K n σ) s.heap := vp_sub hP (fun q hq => List.mem_append_left _ hq)
  refine gr_loc (L' := [(0, .ref (ad 0)), (1, .int x), (2, .ref o)]) rfl ?_
  refine gr_aload_n (i := 2) X rfl rfl dc_L_done_0 ?_
  refine gr_iconst (v := 0) X (by decide) dc_L_done_1 ?_
  refine gr_aload_n (i := 0) X rfl rfl dc_L_done_2 ?_
  refine gr_iload_n (i := 1) X rfl rfl dc_L_done_3 ?_
  refine gr_catch (C := rn_I) (hpc := 12) (rest := [.int 0, .ref o]) hP hD (fun ls hl T0 hT Y => tn_V (K := rn_H) (ci := 0) (i := 0) (n := 1) X hN hTw hP1 (rx_done l D T ad nw K n N htr (σ := σ) (x := x) hv) ml_L_27 im_H_done sl_H_Hdone ik_H co_H_done ⟨rfl, by decide, by decide, by decide +kernel⟩ ⟨rfl, rfl, by decide, by decide, by decide, by decide⟩ rfl cw_h rfl rfl (Nat.le_of_ble_eq_true rfl) dc_L_done_4 hl hT Y) (fun hpl S g x ce g1 g2 g3 g4 g5 g6 g7 => ft_hit (a := 0) (b := 9) (h := 12) (ct := 13) (own := rn_L) (Y := rn_I) hxt g3 hpl (by rw [g2]; exact X.2.2.2.1) (X.2.2.2.2.1 _ kl_L_13) (by rw [g1]; decide) (by decide) g4 g5 g6 g7) (fun x => ?_)
  refine go_astore_n (i := 3) X rfl (by decide) dc_L_done_12 ?_
  refine go_iconst (v := 1) X (by decide) dc_L_done_13 ?_
  exact go_iret X hr dc_L_done_14 rfl rfl
def xh_L_placeOf : List (Nat × Nat × Nat × Nat) := [(0, 9, 12, 13)]
theorem cx_L_placeOf : Cond.codeWith yn_L_placeOf cd_L_placeOf 4 (some .int) xh_L_placeOf ∈ TG_ := tg_i 484 (by decide +kernel) (by decide +kernel)
set_option maxHeartbeats 4000000 in
set_option maxRecDepth 20000 in
theorem tl_placeOf (l : Launch) (D : va_G) (T : Nat → ClassId) (ad : Nat → Nat) (A : Nat → Prop) (nw : List Cond) (K n N o : Nat) {f : Nat → Int64} {σ : ST_} {p : Nat} (hp : p < n) (hn : n ≤ 5)  : Hl_ l D cl_ (tys_ T) A nw N yn_L_placeOf (.codeWith yn_L_placeOf cd_L_placeOf 4 (some .int) xh_L_placeOf :: TG_) [.ref (ad 0), .int (nI p), .ref o] (hW_ T ad K n σ o f) (hW_ T ad K n (σ) o (vp_updL f 0 (σ 20 p).toInt64)) (some (.int 0)) := by
  refine hl_in (by decide) (Nat.le_of_ble_eq_true rfl) (List.forall_mem_cons.mpr ⟨rfl, List.forall_mem_cons.mpr ⟨rfl, List.forall_mem_cons.mpr ⟨rfl, fun _ h => nomatch h⟩⟩⟩) ?_
  intro P e s m args below meth c X hr hxt hN hTw hNc hP hD
  replace X : Cx_ P l e (rx_d 8) s m args below meth c cd_L_placeOf 4 rn_L D cl_ (tys_ T) TG_ := X
  have hP1 : va_P D cl_ (cW_ T ad K n σ) s.heap := vp_sub hP (fun q hq => List.mem_append_left _ hq)
  refine gr_loc (L' := [(0, .ref (ad 0)), (1, .int (nI p)), (2, .ref o)]) rfl ?_
  refine gr_go hP hD ?_
  refine go_widen (cells' := 1) (slots' := 6) (by decide) (by decide) ?_
  refine go_aload_n (i := 2) X rfl rfl dc_L_placeOf_0 ?_
  refine go_iconst (v := 0) X (by decide) dc_L_placeOf_1 ?_
  refine go_aload_n (i := 0) X rfl rfl dc_L_placeOf_2 ?_
  refine go_iload_n (i := 1) X rfl rfl dc_L_placeOf_3 ?_
  refine go_frV (C := rn_H) (ci := 0) (i := 0) (n := 1) (rest := [.int 0, .ref o]) (w' := hW_ T ad K n (σ) o f) X hN (tc_placeOf l D T ad (in_w (cW_ T ad K n σ)) nw K n (σ := σ) hp hn) ml_L_33 im_H_placeOf sl_H_HplaceOf ik_H co_H_placeOf ⟨rfl, by decide, by decide, by decide +kernel⟩ ⟨rfl, rfl, by decide, by decide⟩ rfl cw_h rfl rfl (Nat.le_of_ble_eq_true rfl) dc_L_placeOf_4 ⟨by decide, by decide⟩ (fun h => vd_self (vd_l h)) (fun q hq => List.mem_append_left _ hq) (fun h => fp_A h) (fun h => fp_res h) (hw_adr _ _ _ _ _ _ _ _ _) ?_
  refine go_i2l X dc_L_placeOf_7 ?_
  refine go_last (i := 41 + n) (t0 := 2) X (hw_o _ _ _ _ _ _ _) rfl vin0 rfl dc_L_placeOf_8 ?_
  refine go_eqw (hw_set _ _ _ _ _ _ _ _) ?_
  refine go_goto (tgt := 15) X dc_L_placeOf_9 (by decide) ?_
  refine go_iconst (v := 0) X (by decide) dc_L_placeOf_15 ?_
  exact go_iret X hr dc_L_placeOf_16 rfl rfl
set_option maxHeartbeats 4000000 in
set_option maxRecDepth 20000 in
theorem tl_placeOfX (l : Launch) (D : va_G) (T : Nat → ClassId) (ad : Nat → Nat) (A : Nat → Prop) (nw : List Cond) (K n N o : Nat) {f : Nat → Int64} (htr : l.stackTraces = false) {σ : ST_} {x : Int32} (hv : ¬ (0 ≤ x ∧ x < nI n))  : Hl_ l D cl_ (tys_ T) A nw N yn_L_placeOf (.codeWith yn_L_placeOf cd_L_placeOf 4 (some .int) xh_L_placeOf :: TG_) [.ref (ad 0), .int x, .ref o] (hW_ T ad K n σ o f) (hW_ T ad K n σ o f) (some (.int 1)) := by
  refine hl_in (by decide) (Nat.le_of_ble_eq_true rfl) (List.forall_mem_cons.mpr ⟨rfl, List.forall_mem_cons.mpr ⟨rfl, List.forall_mem_cons.mpr ⟨rfl, fun _ h => nomatch h⟩⟩⟩) ?_
  intro P e s m args below meth c X hr hxt hN hTw hNc hP hD
  replace X : Cx_ P l e (rx_d 8) s m args below meth c cd_L_placeOf 4 rn_L D cl_ (tys_ T) TG_ := X
  have hP1 : va_P D cl_ (cW_ T ad K n σ) s.heap := vp_sub hP (fun q hq => List.mem_append_left _ hq)
  refine gr_loc (L' := [(0, .ref (ad 0)), (1, .int x), (2, .ref o)]) rfl ?_
  refine gr_aload_n (i := 2) X rfl rfl dc_L_placeOf_0 ?_
  refine gr_iconst (v := 0) X (by decide) dc_L_placeOf_1 ?_
  refine gr_aload_n (i := 0) X rfl rfl dc_L_placeOf_2 ?_
  refine gr_iload_n (i := 1) X rfl rfl dc_L_placeOf_3 ?_
  refine gr_catch (C := rn_I) (hpc := 12) (rest := [.int 0, .ref o]) hP hD (fun ls hl T0 hT Y => tn_V (K := rn_H) (ci := 0) (i := 0) (n := 1) X hN hTw hP1 (rx_placeOf l D T ad nw K n N htr (σ := σ) (x := x) hv) ml_L_33 im_H_placeOf sl_H_HplaceOf ik_H co_H_placeOf ⟨rfl, by decide, by decide, by decide +kernel⟩ ⟨rfl, rfl, by decide, by decide, by decide, by decide⟩ rfl cw_h rfl rfl (Nat.le_of_ble_eq_true rfl) dc_L_placeOf_4 hl hT Y) (fun hpl S g x ce g1 g2 g3 g4 g5 g6 g7 => ft_hit (a := 0) (b := 9) (h := 12) (ct := 13) (own := rn_L) (Y := rn_I) hxt g3 hpl (by rw [g2]; exact X.2.2.2.1) (X.2.2.2.2.1 _ kl_L_13) (by rw [g1]; decide) (by decide) g4 g5 g6 g7) (fun x => ?_)
  refine go_astore_n (i := 3) X rfl (by decide) dc_L_placeOf_12 ?_
  refine go_iconst (v := 1) X (by decide) dc_L_placeOf_13 ?_
  exact go_iret X hr dc_L_placeOf_14 rfl rfl
def xh_L_stage : List (Nat × Nat × Nat × Nat) := [(0, 9, 12, 13)]
theorem cx_L_stage : Cond.codeWith yn_L_stage cd_L_stage 4 (some .int) xh_L_stage ∈ TG_ := tg_i 524 (by decide +kernel) (by decide +kernel)
set_option maxHeartbeats 4000000 in
set_option maxRecDepth 20000 in
theorem tl_stage (l : Launch) (D : va_G) (T : Nat → ClassId) (ad : Nat → Nat) (A : Nat → Prop) (nw : List Cond) (K n N o : Nat) {f : Nat → Int64} {σ : ST_} {p : Nat} (hp : p < n) (hn : n ≤ 5)  : Hl_ l D cl_ (tys_ T) A nw N yn_L_stage (.codeWith yn_L_stage cd_L_stage 4 (some .int) xh_L_stage :: TG_) [.ref (ad 0), .int (nI p), .ref o] (hW_ T ad K n σ o f) (hW_ T ad K n (σ) o (vp_updL f 0 (σ 10 p).toInt64)) (some (.int 0)) := by
  refine hl_in (by decide) (Nat.le_of_ble_eq_true rfl) (List.forall_mem_cons.mpr ⟨rfl, List.forall_mem_cons.mpr ⟨rfl, List.forall_mem_cons.mpr ⟨rfl, fun _ h => nomatch h⟩⟩⟩) ?_
  intro P e s m args below meth c X hr hxt hN hTw hNc hP hD
  replace X : Cx_ P l e (rx_d 8) s m args below meth c cd_L_stage 4 rn_L D cl_ (tys_ T) TG_ := X
  have hP1 : va_P D cl_ (cW_ T ad K n σ) s.heap := vp_sub hP (fun q hq => List.mem_append_left _ hq)
  refine gr_loc (L' := [(0, .ref (ad 0)), (1, .int (nI p)), (2, .ref o)]) rfl ?_
  refine gr_go hP hD ?_
  refine go_widen (cells' := 1) (slots' := 6) (by decide) (by decide) ?_
  refine go_aload_n (i := 2) X rfl rfl dc_L_stage_0 ?_
  refine go_iconst (v := 0) X (by decide) dc_L_stage_1 ?_
  refine go_aload_n (i := 0) X rfl rfl dc_L_stage_2 ?_
  refine go_iload_n (i := 1) X rfl rfl dc_L_stage_3 ?_
  refine go_frV (C := rn_H) (ci := 0) (i := 0) (n := 1) (rest := [.int 0, .ref o]) (w' := hW_ T ad K n (σ) o f) X hN (tc_stage l D T ad (in_w (cW_ T ad K n σ)) nw K n (σ := σ) hp hn) ml_L_41 im_H_stage sl_H_Hstage ik_H co_H_stage ⟨rfl, by decide, by decide, by decide +kernel⟩ ⟨rfl, rfl, by decide, by decide⟩ rfl cw_h rfl rfl (Nat.le_of_ble_eq_true rfl) dc_L_stage_4 ⟨by decide, by decide⟩ (fun h => vd_self (vd_l h)) (fun q hq => List.mem_append_left _ hq) (fun h => fp_A h) (fun h => fp_res h) (hw_adr _ _ _ _ _ _ _ _ _) ?_
  refine go_i2l X dc_L_stage_7 ?_
  refine go_last (i := 41 + n) (t0 := 2) X (hw_o _ _ _ _ _ _ _) rfl vin0 rfl dc_L_stage_8 ?_
  refine go_eqw (hw_set _ _ _ _ _ _ _ _) ?_
  refine go_goto (tgt := 15) X dc_L_stage_9 (by decide) ?_
  refine go_iconst (v := 0) X (by decide) dc_L_stage_15 ?_
  exact go_iret X hr dc_L_stage_16 rfl rfl
set_option maxHeartbeats 4000000 in
set_option maxRecDepth 20000 in
theorem tl_stageX (l : Launch) (D : va_G) (T : Nat → ClassId) (ad : Nat → Nat) (A : Nat → Prop) (nw : List Cond) (K n N o : Nat) {f : Nat → Int64} (htr : l.stackTraces = false) {σ : ST_} {x : Int32} (hv : ¬ (0 ≤ x ∧ x < nI n))  : Hl_ l D cl_ (tys_ T) A nw N yn_L_stage (.codeWith yn_L_stage cd_L_stage 4 (some .int) xh_L_stage :: TG_) [.ref (ad 0), .int x, .ref o] (hW_ T ad K n σ o f) (hW_ T ad K n σ o f) (some (.int 1)) := by
  refine hl_in (by decide) (Nat.le_of_ble_eq_true rfl) (List.forall_mem_cons.mpr ⟨rfl, List.forall_mem_cons.mpr ⟨rfl, List.forall_mem_cons.mpr ⟨rfl, fun _ h => nomatch h⟩⟩⟩) ?_
  intro P e s m args below meth c X hr hxt hN hTw hNc hP hD
  replace X : Cx_ P l e (rx_d 8) s m args below meth c cd_L_stage 4 rn_L D cl_ (tys_ T) TG_ := X
  have hP1 : va_P D cl_ (cW_ T ad K n σ) s.heap := vp_sub hP (fun q hq => List.mem_append_left _ hq)
  refine gr_loc (L' := [(0, .ref (ad 0)), (1, .int x), (2, .ref o)]) rfl ?_
  refine gr_aload_n (i := 2) X rfl rfl dc_L_stage_0 ?_
  refine gr_iconst (v := 0) X (by decide) dc_L_stage_1 ?_
  refine gr_aload_n (i := 0) X rfl rfl dc_L_stage_2 ?_
  refine gr_iload_n (i := 1) X rfl rfl dc_L_stage_3 ?_
  refine gr_catch (C := rn_I) (hpc := 12) (rest := [.int 0, .ref o]) hP hD (fun ls hl T0 hT Y => tn_V (K := rn_H) (ci := 0) (i := 0) (n := 1) X hN hTw hP1 (rx_stage l D T ad nw K n N htr (σ := σ) (x := x) hv) ml_L_41 im_H_stage sl_H_Hstage ik_H co_H_stage ⟨rfl, by decide, by decide, by decide +kernel⟩ ⟨rfl, rfl, by decide, by decide, by decide, by decide⟩ rfl cw_h rfl rfl (Nat.le_of_ble_eq_true rfl) dc_L_stage_4 hl hT Y) (fun hpl S g x ce g1 g2 g3 g4 g5 g6 g7 => ft_hit (a := 0) (b := 9) (h := 12) (ct := 13) (own := rn_L) (Y := rn_I) hxt g3 hpl (by rw [g2]; exact X.2.2.2.1) (X.2.2.2.2.1 _ kl_L_13) (by rw [g1]; decide) (by decide) g4 g5 g6 g7) (fun x => ?_)
  refine go_astore_n (i := 3) X rfl (by decide) dc_L_stage_12 ?_
  refine go_iconst (v := 1) X (by decide) dc_L_stage_13 ?_
  exact go_iret X hr dc_L_stage_14 rfl rfl
def xh_L_head : List (Nat × Nat × Nat × Nat) := [(0, 9, 12, 13)]
theorem cx_L_head : Cond.codeWith yn_L_head cd_L_head 4 (some .int) xh_L_head ∈ TG_ := tg_i 531 (by decide +kernel) (by decide +kernel)
set_option maxHeartbeats 4000000 in
set_option maxRecDepth 20000 in
theorem tl_head (l : Launch) (D : va_G) (T : Nat → ClassId) (ad : Nat → Nat) (A : Nat → Prop) (nw : List Cond) (K n N o : Nat) {f : Nat → Int64} {σ : ST_} {p : Nat} (hp : p < n) (hn : n ≤ 5) (h8 : Ix_ (σ 8 p) 32 (ix_ (σ 8 p)))  : Hl_ l D cl_ (tys_ T) A nw N yn_L_head (.codeWith yn_L_head cd_L_head 4 (some .int) xh_L_head :: TG_) [.ref (ad 0), .int (nI p), .ref o] (hW_ T ad K n σ o f) (hW_ T ad K n (σ) o (vp_updL f 0 (σ 2 (ix_ (σ 8 p))).toInt64)) (some (.int 0)) := by
  refine hl_in (by decide) (Nat.le_of_ble_eq_true rfl) (List.forall_mem_cons.mpr ⟨rfl, List.forall_mem_cons.mpr ⟨rfl, List.forall_mem_cons.mpr ⟨rfl, fun _ h => nomatch h⟩⟩⟩) ?_
  intro P e s m args below meth c X hr hxt hN hTw hNc hP hD
  replace X : Cx_ P l e (rx_d 8) s m args below meth c cd_L_head 4 rn_L D cl_ (tys_ T) TG_ := X
  have hP1 : va_P D cl_ (cW_ T ad K n σ) s.heap := vp_sub hP (fun q hq => List.mem_append_left _ hq)
  refine gr_loc (L' := [(0, .ref (ad 0)), (1, .int (nI p)), (2, .ref o)]) rfl ?_
  refine gr_go hP hD ?_
  refine go_widen (cells' := 1) (slots' := 6) (by decide) (by decide) ?_
  refine go_aload_n (i := 2) X rfl rfl dc_L_head_0 ?_
  refine go_iconst (v := 0) X (by decide) dc_L_head_1 ?_
  refine go_aload_n (i := 0) X rfl rfl dc_L_head_2 ?_
  refine go_iload_n (i := 1) X rfl rfl dc_L_head_3 ?_
  refine go_frV (C := rn_H) (ci := 0) (i := 0) (n := 1) (rest := [.int 0, .ref o]) (w' := hW_ T ad K n (σ) o f) X hN (tc_head l D T ad (in_w (cW_ T ad K n σ)) nw K n (σ := σ) hp hn h8) ml_L_44 im_H_head sl_H_Hhead ik_H co_H_head ⟨rfl, by decide, by decide, by decide +kernel⟩ ⟨rfl, rfl, by decide, by decide⟩ rfl cw_h rfl rfl (Nat.le_of_ble_eq_true rfl) dc_L_head_4 ⟨by decide, by decide⟩ (fun h => vd_self (vd_l h)) (fun q hq => List.mem_append_left _ hq) (fun h => fp_A h) (fun h => fp_res h) (hw_adr _ _ _ _ _ _ _ _ _) ?_
  refine go_i2l X dc_L_head_7 ?_
  refine go_last (i := 41 + n) (t0 := 2) X (hw_o _ _ _ _ _ _ _) rfl vin0 rfl dc_L_head_8 ?_
  refine go_eqw (hw_set _ _ _ _ _ _ _ _) ?_
  refine go_goto (tgt := 15) X dc_L_head_9 (by decide) ?_
  refine go_iconst (v := 0) X (by decide) dc_L_head_15 ?_
  exact go_iret X hr dc_L_head_16 rfl rfl
set_option maxHeartbeats 4000000 in
set_option maxRecDepth 20000 in
theorem tl_headX (l : Launch) (D : va_G) (T : Nat → ClassId) (ad : Nat → Nat) (A : Nat → Prop) (nw : List Cond) (K n N o : Nat) {f : Nat → Int64} (htr : l.stackTraces = false) {σ : ST_} {x : Int32} (hv : ¬ (0 ≤ x ∧ x < nI n))  : Hl_ l D cl_ (tys_ T) A nw N yn_L_head (.codeWith yn_L_head cd_L_head 4 (some .int) xh_L_head :: TG_) [.ref (ad 0), .int x, .ref o] (hW_ T ad K n σ o f) (hW_ T ad K n σ o f) (some (.int 1)) := by
  refine hl_in (by decide) (Nat.le_of_ble_eq_true rfl) (List.forall_mem_cons.mpr ⟨rfl, List.forall_mem_cons.mpr ⟨rfl, List.forall_mem_cons.mpr ⟨rfl, fun _ h => nomatch h⟩⟩⟩) ?_
  intro P e s m args below meth c X hr hxt hN hTw hNc hP hD
  replace X : Cx_ P l e (rx_d 8) s m args below meth c cd_L_head 4 rn_L D cl_ (tys_ T) TG_ := X
  have hP1 : va_P D cl_ (cW_ T ad K n σ) s.heap := vp_sub hP (fun q hq => List.mem_append_left _ hq)
  refine gr_loc (L' := [(0, .ref (ad 0)), (1, .int x), (2, .ref o)]) rfl ?_
  refine gr_aload_n (i := 2) X rfl rfl dc_L_head_0 ?_
  refine gr_iconst (v := 0) X (by decide) dc_L_head_1 ?_
  refine gr_aload_n (i := 0) X rfl rfl dc_L_head_2 ?_
  refine gr_iload_n (i := 1) X rfl rfl dc_L_head_3 ?_
  refine gr_catch (C := rn_I) (hpc := 12) (rest := [.int 0, .ref o]) hP hD (fun ls hl T0 hT Y => tn_V (K := rn_H) (ci := 0) (i := 0) (n := 1) X hN hTw hP1 (rx_head l D T ad nw K n N htr (σ := σ) (x := x) hv) ml_L_44 im_H_head sl_H_Hhead ik_H co_H_head ⟨rfl, by decide, by decide, by decide +kernel⟩ ⟨rfl, rfl, by decide, by decide, by decide, by decide⟩ rfl cw_h rfl rfl (Nat.le_of_ble_eq_true rfl) dc_L_head_4 hl hT Y) (fun hpl S g x ce g1 g2 g3 g4 g5 g6 g7 => ft_hit (a := 0) (b := 9) (h := 12) (ct := 13) (own := rn_L) (Y := rn_I) hxt g3 hpl (by rw [g2]; exact X.2.2.2.1) (X.2.2.2.2.1 _ kl_L_13) (by rw [g1]; decide) (by decide) g4 g5 g6 g7) (fun x => ?_)
  refine go_astore_n (i := 3) X rfl (by decide) dc_L_head_12 ?_
  refine go_iconst (v := 1) X (by decide) dc_L_head_13 ?_
  exact go_iret X hr dc_L_head_14 rfl rfl
def xh_L_answer : List (Nat × Nat × Nat × Nat) := [(0, 9, 12, 13), (0, 9, 15, 17)]
theorem cx_L_answer : Cond.codeWith yn_L_answer cd_L_answer 4 (some .int) xh_L_answer ∈ TG_ := tg_i 476 (by decide +kernel) (by decide +kernel)
set_option maxHeartbeats 4000000 in
set_option maxRecDepth 20000 in
theorem tl_answer (l : Launch) (D : va_G) (T : Nat → ClassId) (ad : Nat → Nat) (A : Nat → Prop) (nw : List Cond) (K n N o : Nat) {f : Nat → Int64} {σ : ST_} {p : Nat} (hp : p < n) (hn : n ≤ 5) (hd : ¬ σ 18 p = 0)  : Hl_ l D cl_ (tys_ T) A nw N yn_L_answer (.codeWith yn_L_answer cd_L_answer 4 (some .int) xh_L_answer :: TG_) [.ref (ad 0), .int (nI p), .ref o] (hW_ T ad K n σ o f) (hW_ T ad K n (σ) o (vp_updL f 0 (σ 19 p).toInt64)) (some (.int 0)) := by
  refine hl_in (by decide) (Nat.le_of_ble_eq_true rfl) (List.forall_mem_cons.mpr ⟨rfl, List.forall_mem_cons.mpr ⟨rfl, List.forall_mem_cons.mpr ⟨rfl, fun _ h => nomatch h⟩⟩⟩) ?_
  intro P e s m args below meth c X hr hxt hN hTw hNc hP hD
  replace X : Cx_ P l e (rx_d 8) s m args below meth c cd_L_answer 4 rn_L D cl_ (tys_ T) TG_ := X
  have hP1 : va_P D cl_ (cW_ T ad K n σ) s.heap := vp_sub hP (fun q hq => List.mem_append_left _ hq)
  refine gr_loc (L' := [(0, .ref (ad 0)), (1, .int (nI p)), (2, .ref o)]) rfl ?_
  refine gr_go hP hD ?_
  refine go_widen (cells' := 1) (slots' := 6) (by decide) (by decide) ?_
  refine go_aload_n (i := 2) X rfl rfl dc_L_answer_0 ?_
  refine go_iconst (v := 0) X (by decide) dc_L_answer_1 ?_
  refine go_aload_n (i := 0) X rfl rfl dc_L_answer_2 ?_
  refine go_iload_n (i := 1) X rfl rfl dc_L_answer_3 ?_
  refine go_frV (C := rn_H) (ci := 0) (i := 0) (n := 1) (rest := [.int 0, .ref o]) (w' := hW_ T ad K n (σ) o f) X hN (tc_answer l D T ad (in_w (cW_ T ad K n σ)) nw K n (σ := σ) hp hn hd) ml_L_30 im_H_answer sl_H_Hanswer ik_H co_H_answer ⟨rfl, by decide, by decide, by decide +kernel⟩ ⟨rfl, rfl, by decide, by decide⟩ rfl cw_h rfl rfl (Nat.le_of_ble_eq_true rfl) dc_L_answer_4 ⟨by decide, by decide⟩ (fun h => vd_self (vd_l h)) (fun q hq => List.mem_append_left _ hq) (fun h => fp_A h) (fun h => fp_res h) (hw_adr _ _ _ _ _ _ _ _ _) ?_
  refine go_i2l X dc_L_answer_7 ?_
  refine go_last (i := 41 + n) (t0 := 2) X (hw_o _ _ _ _ _ _ _) rfl vin0 rfl dc_L_answer_8 ?_
  refine go_eqw (hw_set _ _ _ _ _ _ _ _) ?_
  refine go_goto (tgt := 18) X dc_L_answer_9 (by decide) ?_
  refine go_iconst (v := 0) X (by decide) dc_L_answer_18 ?_
  exact go_iret X hr dc_L_answer_19 rfl rfl
set_option maxHeartbeats 4000000 in
set_option maxRecDepth 20000 in
theorem tl_answerX (l : Launch) (D : va_G) (T : Nat → ClassId) (ad : Nat → Nat) (A : Nat → Prop) (nw : List Cond) (K n N o : Nat) {f : Nat → Int64} (htr : l.stackTraces = false) {σ : ST_} {x : Int32} (hv : ¬ (0 ≤ x ∧ x < nI n))  : Hl_ l D cl_ (tys_ T) A nw N yn_L_answer (.codeWith yn_L_answer cd_L_answer 4 (some .int) xh_L_answer :: TG_) [.ref (ad 0), .int x, .ref o] (hW_ T ad K n σ o f) (hW_ T ad K n σ o f) (some (.int 1)) := by
  refine hl_in (by decide) (Nat.le_of_ble_eq_true rfl) (List.forall_mem_cons.mpr ⟨rfl, List.forall_mem_cons.mpr ⟨rfl, List.forall_mem_cons.mpr ⟨rfl, fun _ h => nomatch h⟩⟩⟩) ?_
  intro P e s m args below meth c X hr hxt hN hTw hNc hP hD
  replace X : Cx_ P l e (rx_d 8) s m args below meth c cd_L_answer 4 rn_L D cl_ (tys_ T) TG_ := X
  have hP1 : va_P D cl_ (cW_ T ad K n σ) s.heap := vp_sub hP (fun q hq => List.mem_append_left _ hq)
  refine gr_loc (L' := [(0, .ref (ad 0)), (1, .int x), (2, .ref o)]) rfl ?_
  refine gr_aload_n (i := 2) X rfl rfl dc_L_answer_0 ?_
  refine gr_iconst (v := 0) X (by decide) dc_L_answer_1 ?_
  refine gr_aload_n (i := 0) X rfl rfl dc_L_answer_2 ?_
  refine gr_iload_n (i := 1) X rfl rfl dc_L_answer_3 ?_
  refine gr_catch (C := rn_I) (hpc := 12) (rest := [.int 0, .ref o]) hP hD (fun ls hl T0 hT Y => tn_V (K := rn_H) (ci := 0) (i := 0) (n := 1) X hN hTw hP1 (rx_answer1 l D T ad nw K n N htr (σ := σ) (x := x) hv) ml_L_30 im_H_answer sl_H_Hanswer ik_H co_H_answer ⟨rfl, by decide, by decide, by decide +kernel⟩ ⟨rfl, rfl, by decide, by decide, by decide, by decide⟩ rfl cw_h rfl rfl (Nat.le_of_ble_eq_true rfl) dc_L_answer_4 hl hT Y) (fun hpl S g x ce g1 g2 g3 g4 g5 g6 g7 => ft_hit (a := 0) (b := 9) (h := 12) (ct := 13) (own := rn_L) (Y := rn_I) hxt g3 hpl (by rw [g2]; exact X.2.2.2.1) (X.2.2.2.2.1 _ kl_L_13) (by rw [g1]; decide) (by decide) g4 g5 g6 g7) (fun x => ?_)
  refine go_astore_n (i := 3) X rfl (by decide) dc_L_answer_12 ?_
  refine go_iconst (v := 1) X (by decide) dc_L_answer_13 ?_
  exact go_iret X hr dc_L_answer_14 rfl rfl
set_option maxHeartbeats 4000000 in
set_option maxRecDepth 20000 in
theorem tl_answerU (l : Launch) (D : va_G) (T : Nat → ClassId) (ad : Nat → Nat) (A : Nat → Prop) (nw : List Cond) (K n N o : Nat) {f : Nat → Int64} (htr : l.stackTraces = false) {σ : ST_} {p : Nat} (hp : p < n) (hn : n ≤ 5) (hd : σ 18 p = 0)  : Hl_ l D cl_ (tys_ T) A nw N yn_L_answer (.codeWith yn_L_answer cd_L_answer 4 (some .int) xh_L_answer :: TG_) [.ref (ad 0), .int (nI p), .ref o] (hW_ T ad K n σ o f) (hW_ T ad K n σ o f) (some (.int 2)) := by
  refine hl_in (by decide) (Nat.le_of_ble_eq_true rfl) (List.forall_mem_cons.mpr ⟨rfl, List.forall_mem_cons.mpr ⟨rfl, List.forall_mem_cons.mpr ⟨rfl, fun _ h => nomatch h⟩⟩⟩) ?_
  intro P e s m args below meth c X hr hxt hN hTw hNc hP hD
  replace X : Cx_ P l e (rx_d 8) s m args below meth c cd_L_answer 4 rn_L D cl_ (tys_ T) TG_ := X
  have hP1 : va_P D cl_ (cW_ T ad K n σ) s.heap := vp_sub hP (fun q hq => List.mem_append_left _ hq)
  refine gr_loc (L' := [(0, .ref (ad 0)), (1, .int (nI p)), (2, .ref o)]) rfl ?_
  refine gr_aload_n (i := 2) X rfl rfl dc_L_answer_0 ?_
  refine gr_iconst (v := 0) X (by decide) dc_L_answer_1 ?_
  refine gr_aload_n (i := 0) X rfl rfl dc_L_answer_2 ?_
  refine gr_iload_n (i := 1) X rfl rfl dc_L_answer_3 ?_
  refine gr_catch (C := rn_U) (hpc := 15) (rest := [.int 0, .ref o]) hP hD (fun ls hl T0 hT Y => tn_V (K := rn_H) (ci := 0) (i := 0) (n := 1) X hN hTw hP1 (rx_answer2 l D T ad nw K n N htr (σ := σ) hp hn hd) ml_L_30 im_H_answer sl_H_Hanswer ik_H co_H_answer ⟨rfl, by decide, by decide, by decide +kernel⟩ ⟨rfl, rfl, by decide, by decide, by decide, by decide⟩ rfl cw_h rfl rfl (Nat.le_of_ble_eq_true rfl) dc_L_answer_4 hl hT Y) (fun hpl S g x ce g1 g2 g3 g4 g5 g6 g7 => ft_miss (a := 0) (b := 9) (h := 12) (ct := 13) (own := rn_L) (Y := rn_I) (C := rn_U) hxt g3 hpl (by rw [g2]; exact X.2.2.2.1) (X.2.2.2.2.1 _ kl_L_13) (by rw [g1]; decide) (by decide) g4 g5 g6 (fun c0 h0 => hNc (rn_U, rn_I) (by decide) _ _ g6 h0) (fun tab0 ht0 vm0 hv0 => ft_hit (a := 0) (b := 9) (h := 15) (ct := 17) (own := rn_L) (Y := rn_U) ht0 hv0 hpl (by rw [g2]; exact X.2.2.2.1) (X.2.2.2.2.1 _ kl_L_17) (by rw [g1]; decide) (by decide) g4 g5 g6 g7)) (fun x => ?_)
  refine go_astore_n (i := 3) X rfl (by decide) dc_L_answer_15 ?_
  refine go_iconst (v := 2) X (by decide) dc_L_answer_16 ?_
  exact go_iret X hr dc_L_answer_17 rfl rfl
def xh_L_call : List (Nat × Nat × Nat × Nat) := [(0, 9, 12, 13), (0, 9, 16, 15), (0, 9, 20, 17)]
theorem cx_L_call : Cond.codeWith yn_L_call cd_L_call 6 (some .int) xh_L_call ∈ TG_ := tg_i 260 (by decide +kernel) (by decide +kernel)
set_option maxHeartbeats 4000000 in
set_option maxRecDepth 20000 in
theorem tl_call (l : Launch) (D : va_G) (T : Nat → ClassId) (ad : Nat → Nat) (A : Nat → Prop) (nw : List Cond) (K n N o : Nat) {f : Nat → Int64} {σ : ST_} {p : Nat} (hp : p < n) (hn : n ≤ 5) {op a b : Int32} (ho : 0 ≤ op ∧ op ≤ 2) (hs : σ 10 p = -1)  : Hl_ l D cl_ (tys_ T) A nw N yn_L_call (.codeWith yn_L_call cd_L_call 6 (some .int) xh_L_call :: TG_) [.ref (ad 0), .int (nI p), .int op, .int a, .int b] (hW_ T ad K n σ o f) (hW_ T ad K n (hc_call σ p op a b) o f) (some (.int 0)) := by
  refine hl_in (by decide) (Nat.le_of_ble_eq_true rfl) (List.forall_mem_cons.mpr ⟨rfl, List.forall_mem_cons.mpr ⟨rfl, List.forall_mem_cons.mpr ⟨rfl, List.forall_mem_cons.mpr ⟨rfl, List.forall_mem_cons.mpr ⟨rfl, fun _ h => nomatch h⟩⟩⟩⟩⟩) ?_
  intro P e s m args below meth c X hr hxt hN hTw hNc hP hD
  replace X : Cx_ P l e (rx_d 8) s m args below meth c cd_L_call 6 rn_L D cl_ (tys_ T) TG_ := X
  have hP1 : va_P D cl_ (cW_ T ad K n σ) s.heap := vp_sub hP (fun q hq => List.mem_append_left _ hq)
  refine gr_loc (L' := [(0, .ref (ad 0)), (1, .int (nI p)), (2, .int op), (3, .int a), (4, .int b)]) rfl ?_
  refine gr_go hP hD ?_
  refine go_widen (cells' := 1) (slots' := 6) (by decide) (by decide) ?_
  refine go_aload_n (i := 0) X rfl rfl dc_L_call_0 ?_
  refine go_iload_n (i := 1) X rfl rfl dc_L_call_1 ?_
  refine go_iload_n (i := 2) X rfl rfl dc_L_call_2 ?_
  refine go_iload_n (i := 3) X rfl rfl dc_L_call_3 ?_
  refine go_iload (i := 4) X rfl dc_L_call_4 ?_
  refine go_frV (C := rn_H) (ci := 0) (i := 0) (n := 4) (rest := []) (w' := hW_ T ad K n (hc_call σ p op a b) o f) X hN (tc_call l D T ad (in_w (cW_ T ad K n σ)) nw K n (σ := σ) hp hn ho hs) ml_L_7 im_H_call sl_H_Hcall ik_H co_H_call ⟨rfl, by decide, by decide, by decide +kernel⟩ ⟨rfl, rfl, by decide, by decide⟩ rfl cw_h rfl rfl (Nat.le_of_ble_eq_true rfl) dc_L_call_6 ⟨by decide, by decide⟩ (fun h => vd_self (vd_l h)) (fun q hq => List.mem_append_left _ hq) (fun h => fp_A h) (fun h => fp_res h) (hw_adr _ _ _ _ _ _ _ _ _) ?_
  refine go_goto (tgt := 24) X dc_L_call_9 (by decide) ?_
  refine go_iconst (v := 0) X (by decide) dc_L_call_24 ?_
  exact go_iret X hr dc_L_call_25 rfl rfl
set_option maxHeartbeats 4000000 in
set_option maxRecDepth 20000 in
theorem tl_callX (l : Launch) (D : va_G) (T : Nat → ClassId) (ad : Nat → Nat) (A : Nat → Prop) (nw : List Cond) (K n N o : Nat) {f : Nat → Int64} (htr : l.stackTraces = false) {σ : ST_} {x : Int32} (hv : ¬ (0 ≤ x ∧ x < nI n)) {op a b : Int32}  : Hl_ l D cl_ (tys_ T) A nw N yn_L_call (.codeWith yn_L_call cd_L_call 6 (some .int) xh_L_call :: TG_) [.ref (ad 0), .int x, .int op, .int a, .int b] (hW_ T ad K n σ o f) (hW_ T ad K n σ o f) (some (.int 1)) := by
  refine hl_in (by decide) (Nat.le_of_ble_eq_true rfl) (List.forall_mem_cons.mpr ⟨rfl, List.forall_mem_cons.mpr ⟨rfl, List.forall_mem_cons.mpr ⟨rfl, List.forall_mem_cons.mpr ⟨rfl, List.forall_mem_cons.mpr ⟨rfl, fun _ h => nomatch h⟩⟩⟩⟩⟩) ?_
  intro P e s m args below meth c X hr hxt hN hTw hNc hP hD
  replace X : Cx_ P l e (rx_d 8) s m args below meth c cd_L_call 6 rn_L D cl_ (tys_ T) TG_ := X
  have hP1 : va_P D cl_ (cW_ T ad K n σ) s.heap := vp_sub hP (fun q hq => List.mem_append_left _ hq)
  refine gr_loc (L' := [(0, .ref (ad 0)), (1, .int x), (2, .int op), (3, .int a), (4, .int b)]) rfl ?_
  refine gr_aload_n (i := 0) X rfl rfl dc_L_call_0 ?_
  refine gr_iload_n (i := 1) X rfl rfl dc_L_call_1 ?_
  refine gr_iload_n (i := 2) X rfl rfl dc_L_call_2 ?_
  refine gr_iload_n (i := 3) X rfl rfl dc_L_call_3 ?_
  refine gr_iload (i := 4) X rfl dc_L_call_4 ?_
  refine gr_catch (C := rn_I) (hpc := 12) (rest := []) hP hD (fun ls hl T0 hT Y => tn_V (K := rn_H) (ci := 0) (i := 0) (n := 4) X hN hTw hP1 (rx_call1 l D T ad nw K n N htr (σ := σ) (x := x) hv) ml_L_7 im_H_call sl_H_Hcall ik_H co_H_call ⟨rfl, by decide, by decide, by decide +kernel⟩ ⟨rfl, rfl, by decide, by decide, by decide, by decide⟩ rfl cw_h rfl rfl (Nat.le_of_ble_eq_true rfl) dc_L_call_6 hl hT Y) (fun hpl S g x ce g1 g2 g3 g4 g5 g6 g7 => ft_hit (a := 0) (b := 9) (h := 12) (ct := 13) (own := rn_L) (Y := rn_I) hxt g3 hpl (by rw [g2]; exact X.2.2.2.1) (X.2.2.2.2.1 _ kl_L_13) (by rw [g1]; decide) (by decide) g4 g5 g6 g7) (fun x => ?_)
  refine go_astore (i := 5) X (by decide) dc_L_call_12 ?_
  refine go_iconst (v := 1) X (by decide) dc_L_call_14 ?_
  exact go_iret X hr dc_L_call_15 rfl rfl
set_option maxHeartbeats 4000000 in
set_option maxRecDepth 20000 in
theorem tl_callO (l : Launch) (D : va_G) (T : Nat → ClassId) (ad : Nat → Nat) (A : Nat → Prop) (nw : List Cond) (K n N o : Nat) {f : Nat → Int64} (htr : l.stackTraces = false) {σ : ST_} {p : Nat} (hp : p < n) (hn : n ≤ 5) {op a b : Int32} (ho : ¬ (0 ≤ op ∧ op ≤ 2))  : Hl_ l D cl_ (tys_ T) A nw N yn_L_call (.codeWith yn_L_call cd_L_call 6 (some .int) xh_L_call :: TG_) [.ref (ad 0), .int (nI p), .int op, .int a, .int b] (hW_ T ad K n σ o f) (hW_ T ad K n σ o f) (some (.int 2)) := by
  refine hl_in (by decide) (Nat.le_of_ble_eq_true rfl) (List.forall_mem_cons.mpr ⟨rfl, List.forall_mem_cons.mpr ⟨rfl, List.forall_mem_cons.mpr ⟨rfl, List.forall_mem_cons.mpr ⟨rfl, List.forall_mem_cons.mpr ⟨rfl, fun _ h => nomatch h⟩⟩⟩⟩⟩) ?_
  intro P e s m args below meth c X hr hxt hN hTw hNc hP hD
  replace X : Cx_ P l e (rx_d 8) s m args below meth c cd_L_call 6 rn_L D cl_ (tys_ T) TG_ := X
  have hP1 : va_P D cl_ (cW_ T ad K n σ) s.heap := vp_sub hP (fun q hq => List.mem_append_left _ hq)
  refine gr_loc (L' := [(0, .ref (ad 0)), (1, .int (nI p)), (2, .int op), (3, .int a), (4, .int b)]) rfl ?_
  refine gr_aload_n (i := 0) X rfl rfl dc_L_call_0 ?_
  refine gr_iload_n (i := 1) X rfl rfl dc_L_call_1 ?_
  refine gr_iload_n (i := 2) X rfl rfl dc_L_call_2 ?_
  refine gr_iload_n (i := 3) X rfl rfl dc_L_call_3 ?_
  refine gr_iload (i := 4) X rfl dc_L_call_4 ?_
  refine gr_catch (C := rn_K) (hpc := 16) (rest := []) hP hD (fun ls hl T0 hT Y => tn_V (K := rn_H) (ci := 0) (i := 0) (n := 4) X hN hTw hP1 (rx_call2 l D T ad nw K n N htr (σ := σ) hp hn ho) ml_L_7 im_H_call sl_H_Hcall ik_H co_H_call ⟨rfl, by decide, by decide, by decide +kernel⟩ ⟨rfl, rfl, by decide, by decide, by decide, by decide⟩ rfl cw_h rfl rfl (Nat.le_of_ble_eq_true rfl) dc_L_call_6 hl hT Y) (fun hpl S g x ce g1 g2 g3 g4 g5 g6 g7 => ft_miss (a := 0) (b := 9) (h := 12) (ct := 13) (own := rn_L) (Y := rn_I) (C := rn_K) hxt g3 hpl (by rw [g2]; exact X.2.2.2.1) (X.2.2.2.2.1 _ kl_L_13) (by rw [g1]; decide) (by decide) g4 g5 g6 (fun c0 h0 => hNc (rn_K, rn_I) (by decide) _ _ g6 h0) (fun tab0 ht0 vm0 hv0 => ft_hit (a := 0) (b := 9) (h := 16) (ct := 15) (own := rn_L) (Y := rn_K) ht0 hv0 hpl (by rw [g2]; exact X.2.2.2.1) (X.2.2.2.2.1 _ kl_L_15) (by rw [g1]; decide) (by decide) g4 g5 g6 g7)) (fun x => ?_)
  refine go_astore (i := 5) X (by decide) dc_L_call_16 ?_
  refine go_iconst (v := 2) X (by decide) dc_L_call_18 ?_
  exact go_iret X hr dc_L_call_19 rfl rfl
set_option maxHeartbeats 4000000 in
set_option maxRecDepth 20000 in
theorem tl_callS (l : Launch) (D : va_G) (T : Nat → ClassId) (ad : Nat → Nat) (A : Nat → Prop) (nw : List Cond) (K n N o : Nat) {f : Nat → Int64} (htr : l.stackTraces = false) {σ : ST_} {p : Nat} (hp : p < n) (hn : n ≤ 5) {op a b : Int32} (ho : 0 ≤ op ∧ op ≤ 2) (hs : ¬ σ 10 p = -1)  : Hl_ l D cl_ (tys_ T) A nw N yn_L_call (.codeWith yn_L_call cd_L_call 6 (some .int) xh_L_call :: TG_) [.ref (ad 0), .int (nI p), .int op, .int a, .int b] (hW_ T ad K n σ o f) (hW_ T ad K n σ o f) (some (.int 3)) := by
  refine hl_in (by decide) (Nat.le_of_ble_eq_true rfl) (List.forall_mem_cons.mpr ⟨rfl, List.forall_mem_cons.mpr ⟨rfl, List.forall_mem_cons.mpr ⟨rfl, List.forall_mem_cons.mpr ⟨rfl, List.forall_mem_cons.mpr ⟨rfl, fun _ h => nomatch h⟩⟩⟩⟩⟩) ?_
  intro P e s m args below meth c X hr hxt hN hTw hNc hP hD
  replace X : Cx_ P l e (rx_d 8) s m args below meth c cd_L_call 6 rn_L D cl_ (tys_ T) TG_ := X
  have hP1 : va_P D cl_ (cW_ T ad K n σ) s.heap := vp_sub hP (fun q hq => List.mem_append_left _ hq)
  refine gr_loc (L' := [(0, .ref (ad 0)), (1, .int (nI p)), (2, .int op), (3, .int a), (4, .int b)]) rfl ?_
  refine gr_aload_n (i := 0) X rfl rfl dc_L_call_0 ?_
  refine gr_iload_n (i := 1) X rfl rfl dc_L_call_1 ?_
  refine gr_iload_n (i := 2) X rfl rfl dc_L_call_2 ?_
  refine gr_iload_n (i := 3) X rfl rfl dc_L_call_3 ?_
  refine gr_iload (i := 4) X rfl dc_L_call_4 ?_
  refine gr_catch (C := rn_U) (hpc := 20) (rest := []) hP hD (fun ls hl T0 hT Y => tn_V (K := rn_H) (ci := 0) (i := 0) (n := 4) X hN hTw hP1 (rx_call3 l D T ad nw K n N htr (σ := σ) hp hn ho hs) ml_L_7 im_H_call sl_H_Hcall ik_H co_H_call ⟨rfl, by decide, by decide, by decide +kernel⟩ ⟨rfl, rfl, by decide, by decide, by decide, by decide⟩ rfl cw_h rfl rfl (Nat.le_of_ble_eq_true rfl) dc_L_call_6 hl hT Y) (fun hpl S g x ce g1 g2 g3 g4 g5 g6 g7 => ft_miss (a := 0) (b := 9) (h := 12) (ct := 13) (own := rn_L) (Y := rn_I) (C := rn_U) hxt g3 hpl (by rw [g2]; exact X.2.2.2.1) (X.2.2.2.2.1 _ kl_L_13) (by rw [g1]; decide) (by decide) g4 g5 g6 (fun c0 h0 => hNc (rn_U, rn_I) (by decide) _ _ g6 h0) (fun tab0 ht0 vm0 hv0 => ft_miss (a := 0) (b := 9) (h := 16) (ct := 15) (own := rn_L) (Y := rn_K) (C := rn_U) ht0 hv0 hpl (by rw [g2]; exact X.2.2.2.1) (X.2.2.2.2.1 _ kl_L_15) (by rw [g1]; decide) (by decide) g4 g5 g6 (fun c0 h0 => hNc (rn_U, rn_K) (by decide) _ _ g6 h0) (fun tab1 ht1 vm1 hv1 => ft_hit (a := 0) (b := 9) (h := 20) (ct := 17) (own := rn_L) (Y := rn_U) ht1 hv1 hpl (by rw [g2]; exact X.2.2.2.1) (X.2.2.2.2.1 _ kl_L_17) (by rw [g1]; decide) (by decide) g4 g5 g6 g7))) (fun x => ?_)
  refine go_astore (i := 5) X (by decide) dc_L_call_20 ?_
  refine go_iconst (v := 3) X (by decide) dc_L_call_22 ?_
  exact go_iret X hr dc_L_call_23 rfl rfl
def xh_L_run : List (Nat × Nat × Nat × Nat) := [(0, 10, 13, 15)]
theorem cx_L_run : Cond.codeWith yn_L_run cd_L_run 5 (some .int) xh_L_run ∈ TG_ := tg_i 460 (by decide +kernel) (by decide +kernel)
set_option maxHeartbeats 4000000 in
set_option maxRecDepth 20000 in
theorem tl_run (l : Launch) (D : va_G) (T : Nat → ClassId) (ad : Nat → Nat) (A : Nat → Prop) (nw : List Cond) (K n N o : Nat) {f : Nat → Int64} {σ : ST_} {x : Int32} {S : Nat} {I : ST_ → Prop} (hK : K < 4) (hn : n ≤ 5) (h0 : 0 < n) (hnw : ∀ w ∈ nwc_, w ∈ nw) (hs : 1 ≤ S ∧ S ≤ 1000) (hR : Rc_ K n I) (hI0 : I σ)  : Hl_ l D cl_ (tys_ T) A nw N yn_L_run (.codeWith yn_L_run cd_L_run 5 (some .int) xh_L_run :: TG_) [.ref (ad 0), .int x, .int (nI S), .ref o] (hW_ T ad K n σ o f) (hW_ T ad K n ((hc_run K n S x 0 σ).1) o (vp_updL f 0 ((hc_run K n S x 0 σ).2).toInt64)) (some (.int 0)) := by
  refine hl_in (by decide) (Nat.le_of_ble_eq_true rfl) (List.forall_mem_cons.mpr ⟨rfl, List.forall_mem_cons.mpr ⟨rfl, List.forall_mem_cons.mpr ⟨rfl, List.forall_mem_cons.mpr ⟨rfl, fun _ h => nomatch h⟩⟩⟩⟩) ?_
  intro P e s m args below meth c X hr hxt hN hTw hNc hP hD
  replace X : Cx_ P l e (rx_d 8) s m args below meth c cd_L_run 5 rn_L D cl_ (tys_ T) TG_ := X
  have hP1 : va_P D cl_ (cW_ T ad K n σ) s.heap := vp_sub hP (fun q hq => List.mem_append_left _ hq)
  refine gr_loc (L' := [(0, .ref (ad 0)), (1, .int x), (2, .int (nI S)), (3, .ref o)]) rfl ?_
  refine gr_go hP hD ?_
  refine go_widen (cells' := 1) (slots' := 6) (by decide) (by decide) ?_
  refine go_aload_n (i := 3) X rfl rfl dc_L_run_0 ?_
  refine go_iconst (v := 0) X (by decide) dc_L_run_1 ?_
  refine go_aload_n (i := 0) X rfl rfl dc_L_run_2 ?_
  refine go_iload_n (i := 1) X rfl rfl dc_L_run_3 ?_
  refine go_iload_n (i := 2) X rfl rfl dc_L_run_4 ?_
  refine go_frV (C := rn_H) (ci := 0) (i := 0) (n := 2) (rest := [.int 0, .ref o]) (w' := hW_ T ad K n ((hc_run K n S x 0 σ).1) o f) X hN (tc_run l D T ad (in_w (cW_ T ad K n σ)) nw K n (σ := σ) hK hn h0 hnw hs hR hI0) ml_L_23 im_H_run sl_H_Hrun ik_H co_H_run ⟨rfl, by decide, by decide, by decide +kernel⟩ ⟨rfl, rfl, by decide, by decide⟩ rfl cw_h rfl rfl (Nat.le_of_ble_eq_true rfl) dc_L_run_5 ⟨by decide, by decide⟩ (fun h => vd_self (vd_l h)) (fun q hq => List.mem_append_left _ hq) (fun h => fp_A h) (fun h => fp_res h) (hw_adr _ _ _ _ _ _ _ _ _) ?_
  refine go_i2l X dc_L_run_8 ?_
  refine go_last (i := 41 + n) (t0 := 2) X (hw_o _ _ _ _ _ _ _) rfl vin0 rfl dc_L_run_9 ?_
  refine go_eqw (hw_set _ _ _ _ _ _ _ _) ?_
  refine go_goto (tgt := 17) X dc_L_run_10 (by decide) ?_
  refine go_iconst (v := 0) X (by decide) dc_L_run_17 ?_
  exact go_iret X hr dc_L_run_18 rfl rfl
set_option maxHeartbeats 4000000 in
set_option maxRecDepth 20000 in
theorem tl_runX (l : Launch) (D : va_G) (T : Nat → ClassId) (ad : Nat → Nat) (A : Nat → Prop) (nw : List Cond) (K n N o : Nat) {f : Nat → Int64} (htr : l.stackTraces = false) {σ : ST_} {x y : Int32} (hs : ¬ (1 ≤ y ∧ y ≤ 1000))  : Hl_ l D cl_ (tys_ T) A nw N yn_L_run (.codeWith yn_L_run cd_L_run 5 (some .int) xh_L_run :: TG_) [.ref (ad 0), .int x, .int y, .ref o] (hW_ T ad K n σ o f) (hW_ T ad K n σ o f) (some (.int 1)) := by
  refine hl_in (by decide) (Nat.le_of_ble_eq_true rfl) (List.forall_mem_cons.mpr ⟨rfl, List.forall_mem_cons.mpr ⟨rfl, List.forall_mem_cons.mpr ⟨rfl, List.forall_mem_cons.mpr ⟨rfl, fun _ h => nomatch h⟩⟩⟩⟩) ?_
  intro P e s m args below meth c X hr hxt hN hTw hNc hP hD
  replace X : Cx_ P l e (rx_d 8) s m args below meth c cd_L_run 5 rn_L D cl_ (tys_ T) TG_ := X
  have hP1 : va_P D cl_ (cW_ T ad K n σ) s.heap := vp_sub hP (fun q hq => List.mem_append_left _ hq)
  refine gr_loc (L' := [(0, .ref (ad 0)), (1, .int x), (2, .int y), (3, .ref o)]) rfl ?_
  refine gr_aload_n (i := 3) X rfl rfl dc_L_run_0 ?_
  refine gr_iconst (v := 0) X (by decide) dc_L_run_1 ?_
  refine gr_aload_n (i := 0) X rfl rfl dc_L_run_2 ?_
  refine gr_iload_n (i := 1) X rfl rfl dc_L_run_3 ?_
  refine gr_iload_n (i := 2) X rfl rfl dc_L_run_4 ?_
  refine gr_catch (C := rn_K) (hpc := 13) (rest := [.int 0, .ref o]) hP hD (fun ls hl T0 hT Y => tn_V (K := rn_H) (ci := 0) (i := 0) (n := 2) X hN hTw hP1 (rx_run l D T ad nw K n N htr (σ := σ) hs) ml_L_23 im_H_run sl_H_Hrun ik_H co_H_run ⟨rfl, by decide, by decide, by decide +kernel⟩ ⟨rfl, rfl, by decide, by decide, by decide, by decide⟩ rfl cw_h rfl rfl (Nat.le_of_ble_eq_true rfl) dc_L_run_5 hl hT Y) (fun hpl S g x ce g1 g2 g3 g4 g5 g6 g7 => ft_hit (a := 0) (b := 10) (h := 13) (ct := 15) (own := rn_L) (Y := rn_K) hxt g3 hpl (by rw [g2]; exact X.2.2.2.1) (X.2.2.2.2.1 _ kl_L_15) (by rw [g1]; decide) (by decide) g4 g5 g6 g7) (fun x => ?_)
  refine go_astore (i := 4) X (by decide) dc_L_run_13 ?_
  refine go_iconst (v := 1) X (by decide) dc_L_run_15 ?_
  exact go_iret X hr dc_L_run_16 rfl rfl
def xh_L_node : List (Nat × Nat × Nat × Nat) := [(0, 10, 13, 39), (0, 10, 17, 15)]
theorem cx_L_node : Cond.codeWith yn_L_node cd_L_node 5 (some .int) xh_L_node ∈ TG_ := tg_i 491 (by decide +kernel) (by decide +kernel)
set_option maxHeartbeats 4000000 in
set_option maxRecDepth 20000 in
theorem tl_node (l : Launch) (D : va_G) (T : Nat → ClassId) (ad : Nat → Nat) (A : Nat → Prop) (nw : List Cond) (K n N o : Nat) {f : Nat → Int64} {σ : ST_} {x y : Int32} {k : Nat} (hf : hc_find σ x = some k) (hk : k < 32) (hy : 0 ≤ y ∧ y ≤ 3)  : Hl_ l D cl_ (tys_ T) A nw N yn_L_node (.codeWith yn_L_node cd_L_node 5 (some .int) xh_L_node :: TG_) [.ref (ad 0), .int x, .int y, .ref o] (hW_ T ad K n σ o f) (hW_ T ad K n (σ) o (vp_updL f 0 (hc_part σ k y).toInt64)) (some (.int 0)) := by
  refine hl_in (by decide) (Nat.le_of_ble_eq_true rfl) (List.forall_mem_cons.mpr ⟨rfl, List.forall_mem_cons.mpr ⟨rfl, List.forall_mem_cons.mpr ⟨rfl, List.forall_mem_cons.mpr ⟨rfl, fun _ h => nomatch h⟩⟩⟩⟩) ?_
  intro P e s m args below meth c X hr hxt hN hTw hNc hP hD
  replace X : Cx_ P l e (rx_d 8) s m args below meth c cd_L_node 5 rn_L D cl_ (tys_ T) TG_ := X
  have hP1 : va_P D cl_ (cW_ T ad K n σ) s.heap := vp_sub hP (fun q hq => List.mem_append_left _ hq)
  refine gr_loc (L' := [(0, .ref (ad 0)), (1, .int x), (2, .int y), (3, .ref o)]) rfl ?_
  refine gr_go hP hD ?_
  refine go_widen (cells' := 1) (slots' := 6) (by decide) (by decide) ?_
  refine go_aload_n (i := 3) X rfl rfl dc_L_node_0 ?_
  refine go_iconst (v := 0) X (by decide) dc_L_node_1 ?_
  refine go_aload_n (i := 0) X rfl rfl dc_L_node_2 ?_
  refine go_iload_n (i := 1) X rfl rfl dc_L_node_3 ?_
  refine go_iload_n (i := 2) X rfl rfl dc_L_node_4 ?_
  refine go_frV (C := rn_H) (ci := 0) (i := 0) (n := 2) (rest := [.int 0, .ref o]) (w' := hW_ T ad K n (σ) o f) X hN (tc_node l D T ad (in_w (cW_ T ad K n σ)) nw K n (σ := σ) hf hk hy) ml_L_36 im_H_node sl_H_Hnode ik_H co_H_node ⟨rfl, by decide, by decide, by decide +kernel⟩ ⟨rfl, rfl, by decide, by decide⟩ rfl cw_h rfl rfl (Nat.le_of_ble_eq_true rfl) dc_L_node_5 ⟨by decide, by decide⟩ (fun h => vd_self (vd_l h)) (fun q hq => List.mem_append_left _ hq) (fun h => fp_A h) (fun h => fp_res h) (hw_adr _ _ _ _ _ _ _ _ _) ?_
  refine go_i2l X dc_L_node_8 ?_
  refine go_last (i := 41 + n) (t0 := 2) X (hw_o _ _ _ _ _ _ _) rfl vin0 rfl dc_L_node_9 ?_
  refine go_eqw (hw_set _ _ _ _ _ _ _ _) ?_
  refine go_goto (tgt := 21) X dc_L_node_10 (by decide) ?_
  refine go_iconst (v := 0) X (by decide) dc_L_node_21 ?_
  exact go_iret X hr dc_L_node_22 rfl rfl
set_option maxHeartbeats 4000000 in
set_option maxRecDepth 20000 in
theorem tl_nodeN (l : Launch) (D : va_G) (T : Nat → ClassId) (ad : Nat → Nat) (A : Nat → Prop) (nw : List Cond) (K n N o : Nat) {f : Nat → Int64} (htr : l.stackTraces = false) {σ : ST_} {x y : Int32} (hf : hc_find σ x = none)  : Hl_ l D cl_ (tys_ T) A nw N yn_L_node (.codeWith yn_L_node cd_L_node 5 (some .int) xh_L_node :: TG_) [.ref (ad 0), .int x, .int y, .ref o] (hW_ T ad K n σ o f) (hW_ T ad K n σ o f) (some (.int 1)) := by
  refine hl_in (by decide) (Nat.le_of_ble_eq_true rfl) (List.forall_mem_cons.mpr ⟨rfl, List.forall_mem_cons.mpr ⟨rfl, List.forall_mem_cons.mpr ⟨rfl, List.forall_mem_cons.mpr ⟨rfl, fun _ h => nomatch h⟩⟩⟩⟩) ?_
  intro P e s m args below meth c X hr hxt hN hTw hNc hP hD
  replace X : Cx_ P l e (rx_d 8) s m args below meth c cd_L_node 5 rn_L D cl_ (tys_ T) TG_ := X
  have hP1 : va_P D cl_ (cW_ T ad K n σ) s.heap := vp_sub hP (fun q hq => List.mem_append_left _ hq)
  refine gr_loc (L' := [(0, .ref (ad 0)), (1, .int x), (2, .int y), (3, .ref o)]) rfl ?_
  refine gr_aload_n (i := 3) X rfl rfl dc_L_node_0 ?_
  refine gr_iconst (v := 0) X (by decide) dc_L_node_1 ?_
  refine gr_aload_n (i := 0) X rfl rfl dc_L_node_2 ?_
  refine gr_iload_n (i := 1) X rfl rfl dc_L_node_3 ?_
  refine gr_iload_n (i := 2) X rfl rfl dc_L_node_4 ?_
  refine gr_catch (C := rn_V) (hpc := 13) (rest := [.int 0, .ref o]) hP hD (fun ls hl T0 hT Y => tn_V (K := rn_H) (ci := 0) (i := 0) (n := 2) X hN hTw hP1 (rx_node1 l D T ad nw K n N htr (σ := σ) hf) ml_L_36 im_H_node sl_H_Hnode ik_H co_H_node ⟨rfl, by decide, by decide, by decide +kernel⟩ ⟨rfl, rfl, by decide, by decide, by decide, by decide⟩ rfl cw_h rfl rfl (Nat.le_of_ble_eq_true rfl) dc_L_node_5 hl hT Y) (fun hpl S g x ce g1 g2 g3 g4 g5 g6 g7 => ft_hit (a := 0) (b := 10) (h := 13) (ct := 39) (own := rn_L) (Y := rn_V) hxt g3 hpl (by rw [g2]; exact X.2.2.2.1) (X.2.2.2.2.1 _ kl_L_39) (by rw [g1]; decide) (by decide) g4 g5 g6 g7) (fun x => ?_)
  refine go_astore (i := 4) X (by decide) dc_L_node_13 ?_
  refine go_iconst (v := 1) X (by decide) dc_L_node_15 ?_
  exact go_iret X hr dc_L_node_16 rfl rfl
set_option maxHeartbeats 4000000 in
set_option maxRecDepth 20000 in
theorem tl_nodeW (l : Launch) (D : va_G) (T : Nat → ClassId) (ad : Nat → Nat) (A : Nat → Prop) (nw : List Cond) (K n N o : Nat) {f : Nat → Int64} (htr : l.stackTraces = false) {σ : ST_} {x y : Int32} {k : Nat} (hf : hc_find σ x = some k) (hy : ¬ (0 ≤ y ∧ y ≤ 3))  : Hl_ l D cl_ (tys_ T) A nw N yn_L_node (.codeWith yn_L_node cd_L_node 5 (some .int) xh_L_node :: TG_) [.ref (ad 0), .int x, .int y, .ref o] (hW_ T ad K n σ o f) (hW_ T ad K n σ o f) (some (.int 2)) := by
  refine hl_in (by decide) (Nat.le_of_ble_eq_true rfl) (List.forall_mem_cons.mpr ⟨rfl, List.forall_mem_cons.mpr ⟨rfl, List.forall_mem_cons.mpr ⟨rfl, List.forall_mem_cons.mpr ⟨rfl, fun _ h => nomatch h⟩⟩⟩⟩) ?_
  intro P e s m args below meth c X hr hxt hN hTw hNc hP hD
  replace X : Cx_ P l e (rx_d 8) s m args below meth c cd_L_node 5 rn_L D cl_ (tys_ T) TG_ := X
  have hP1 : va_P D cl_ (cW_ T ad K n σ) s.heap := vp_sub hP (fun q hq => List.mem_append_left _ hq)
  refine gr_loc (L' := [(0, .ref (ad 0)), (1, .int x), (2, .int y), (3, .ref o)]) rfl ?_
  refine gr_aload_n (i := 3) X rfl rfl dc_L_node_0 ?_
  refine gr_iconst (v := 0) X (by decide) dc_L_node_1 ?_
  refine gr_aload_n (i := 0) X rfl rfl dc_L_node_2 ?_
  refine gr_iload_n (i := 1) X rfl rfl dc_L_node_3 ?_
  refine gr_iload_n (i := 2) X rfl rfl dc_L_node_4 ?_
  refine gr_catch (C := rn_K) (hpc := 17) (rest := [.int 0, .ref o]) hP hD (fun ls hl T0 hT Y => tn_V (K := rn_H) (ci := 0) (i := 0) (n := 2) X hN hTw hP1 (rx_node2 l D T ad nw K n N htr (σ := σ) hf hy) ml_L_36 im_H_node sl_H_Hnode ik_H co_H_node ⟨rfl, by decide, by decide, by decide +kernel⟩ ⟨rfl, rfl, by decide, by decide, by decide, by decide⟩ rfl cw_h rfl rfl (Nat.le_of_ble_eq_true rfl) dc_L_node_5 hl hT Y) (fun hpl S g x ce g1 g2 g3 g4 g5 g6 g7 => ft_miss (a := 0) (b := 10) (h := 13) (ct := 39) (own := rn_L) (Y := rn_V) (C := rn_K) hxt g3 hpl (by rw [g2]; exact X.2.2.2.1) (X.2.2.2.2.1 _ kl_L_39) (by rw [g1]; decide) (by decide) g4 g5 g6 (fun c0 h0 => hNc (rn_K, rn_V) (by decide) _ _ g6 h0) (fun tab0 ht0 vm0 hv0 => ft_hit (a := 0) (b := 10) (h := 17) (ct := 15) (own := rn_L) (Y := rn_K) ht0 hv0 hpl (by rw [g2]; exact X.2.2.2.1) (X.2.2.2.2.1 _ kl_L_15) (by rw [g1]; decide) (by decide) g4 g5 g6 g7)) (fun x => ?_)
  refine go_astore (i := 4) X (by decide) dc_L_node_17 ?_
  refine go_iconst (v := 2) X (by decide) dc_L_node_19 ?_
  exact go_iret X hr dc_L_node_20 rfl rfl
def xh_L_peek : List (Nat × Nat × Nat × Nat) := [(0, 12, 15, 15)]
theorem cx_L_peek : Cond.codeWith yn_L_peek cd_L_peek 6 (some .int) xh_L_peek ∈ TG_ := tg_i 538 (by decide +kernel) (by decide +kernel)
set_option maxHeartbeats 4000000 in
set_option maxRecDepth 20000 in
theorem tl_peek (l : Launch) (D : va_G) (T : Nat → ClassId) (ad : Nat → Nat) (A : Nat → Prop) (nw : List Cond) (K n N o : Nat) {f : Nat → Int64} {σ : ST_} {op a b : Int32} (hK : K < 4) (hnw : ∀ w ∈ nwc_, w ∈ nw) (ho : 0 ≤ op ∧ op ≤ 2) (hz : 0 ≤ (σ 33 0).toInt ∧ (σ 33 0).toInt ≤ 8)  : Hl_ l D cl_ (tys_ T) A nw N yn_L_peek (.codeWith yn_L_peek cd_L_peek 6 (some .int) xh_L_peek :: TG_) [.ref (ad 0), .int op, .int a, .int b, .ref o] (hW_ T ad K n σ o f) (hW_ T ad K n (hc_peek K op a b σ) o (vp_updL f 0 (hc_peekR K op a b σ).toInt64)) (some (.int 0)) := by
  refine hl_in (by decide) (Nat.le_of_ble_eq_true rfl) (List.forall_mem_cons.mpr ⟨rfl, List.forall_mem_cons.mpr ⟨rfl, List.forall_mem_cons.mpr ⟨rfl, List.forall_mem_cons.mpr ⟨rfl, List.forall_mem_cons.mpr ⟨rfl, fun _ h => nomatch h⟩⟩⟩⟩⟩) ?_
  intro P e s m args below meth c X hr hxt hN hTw hNc hP hD
  replace X : Cx_ P l e (rx_d 8) s m args below meth c cd_L_peek 6 rn_L D cl_ (tys_ T) TG_ := X
  have hP1 : va_P D cl_ (cW_ T ad K n σ) s.heap := vp_sub hP (fun q hq => List.mem_append_left _ hq)
  refine gr_loc (L' := [(0, .ref (ad 0)), (1, .int op), (2, .int a), (3, .int b), (4, .ref o)]) rfl ?_
  refine gr_go hP hD ?_
  refine go_widen (cells' := 1) (slots' := 6) (by decide) (by decide) ?_
  refine go_aload (i := 4) X rfl dc_L_peek_0 ?_
  refine go_iconst (v := 0) X (by decide) dc_L_peek_2 ?_
  refine go_aload_n (i := 0) X rfl rfl dc_L_peek_3 ?_
  refine go_iload_n (i := 1) X rfl rfl dc_L_peek_4 ?_
  refine go_iload_n (i := 2) X rfl rfl dc_L_peek_5 ?_
  refine go_iload_n (i := 3) X rfl rfl dc_L_peek_6 ?_
  refine go_frV (C := rn_H) (ci := 0) (i := 0) (n := 3) (rest := [.int 0, .ref o]) (w' := hW_ T ad K n (hc_peek K op a b σ) o f) X hN (tc_peek l D T ad (in_w (cW_ T ad K n σ)) nw K n (σ := σ) hK hnw ho hz) ml_L_47 im_H_peek sl_H_Hpeek ik_H co_H_peek ⟨rfl, by decide, by decide, by decide +kernel⟩ ⟨rfl, rfl, by decide, by decide⟩ rfl cw_h rfl rfl (Nat.le_of_ble_eq_true rfl) dc_L_peek_7 ⟨by decide, by decide⟩ (fun h => vd_self (vd_l h)) (fun q hq => List.mem_append_left _ hq) (fun h => fp_A h) (fun h => fp_res h) (hw_adr _ _ _ _ _ _ _ _ _) ?_
  refine go_i2l X dc_L_peek_10 ?_
  refine go_last (i := 41 + n) (t0 := 2) X (hw_o _ _ _ _ _ _ _) rfl vin0 rfl dc_L_peek_11 ?_
  refine go_eqw (hw_set _ _ _ _ _ _ _ _) ?_
  refine go_goto (tgt := 19) X dc_L_peek_12 (by decide) ?_
  refine go_iconst (v := 0) X (by decide) dc_L_peek_19 ?_
  exact go_iret X hr dc_L_peek_20 rfl rfl
def xh_L_plain : List (Nat × Nat × Nat × Nat) := [(0, 12, 15, 15)]
theorem cx_L_plain : Cond.codeWith yn_L_plain cd_L_plain 6 (some .int) xh_L_plain ∈ TG_ := tg_i 557 (by decide +kernel) (by decide +kernel)
set_option maxHeartbeats 4000000 in
set_option maxRecDepth 20000 in
theorem tl_plain (l : Launch) (D : va_G) (T : Nat → ClassId) (ad : Nat → Nat) (A : Nat → Prop) (nw : List Cond) (K n N o : Nat) {f : Nat → Int64} {σ : ST_} {op a b : Int32} (hK : K < 4) (hnw : ∀ w ∈ nwc_, w ∈ nw) (ho : 0 ≤ op ∧ op ≤ 2) (hz : 0 ≤ (σ 33 2).toInt ∧ (σ 33 2).toInt ≤ 8)  : Hl_ l D cl_ (tys_ T) A nw N yn_L_plain (.codeWith yn_L_plain cd_L_plain 6 (some .int) xh_L_plain :: TG_) [.ref (ad 0), .int op, .int a, .int b, .ref o] (hW_ T ad K n σ o f) (hW_ T ad K n (hc_perf K 2 op a b σ) o (vp_updL f 0 (hc_perfR K 2 op a b σ).toInt64)) (some (.int 0)) := by
  refine hl_in (by decide) (Nat.le_of_ble_eq_true rfl) (List.forall_mem_cons.mpr ⟨rfl, List.forall_mem_cons.mpr ⟨rfl, List.forall_mem_cons.mpr ⟨rfl, List.forall_mem_cons.mpr ⟨rfl, List.forall_mem_cons.mpr ⟨rfl, fun _ h => nomatch h⟩⟩⟩⟩⟩) ?_
  intro P e s m args below meth c X hr hxt hN hTw hNc hP hD
  replace X : Cx_ P l e (rx_d 8) s m args below meth c cd_L_plain 6 rn_L D cl_ (tys_ T) TG_ := X
  have hP1 : va_P D cl_ (cW_ T ad K n σ) s.heap := vp_sub hP (fun q hq => List.mem_append_left _ hq)
  refine gr_loc (L' := [(0, .ref (ad 0)), (1, .int op), (2, .int a), (3, .int b), (4, .ref o)]) rfl ?_
  refine gr_go hP hD ?_
  refine go_widen (cells' := 1) (slots' := 6) (by decide) (by decide) ?_
  refine go_aload (i := 4) X rfl dc_L_plain_0 ?_
  refine go_iconst (v := 0) X (by decide) dc_L_plain_2 ?_
  refine go_aload_n (i := 0) X rfl rfl dc_L_plain_3 ?_
  refine go_iload_n (i := 1) X rfl rfl dc_L_plain_4 ?_
  refine go_iload_n (i := 2) X rfl rfl dc_L_plain_5 ?_
  refine go_iload_n (i := 3) X rfl rfl dc_L_plain_6 ?_
  refine go_frV (C := rn_H) (ci := 0) (i := 0) (n := 3) (rest := [.int 0, .ref o]) (w' := hW_ T ad K n (hc_perf K 2 op a b σ) o f) X hN (tc_plain l D T ad (in_w (cW_ T ad K n σ)) nw K n (σ := σ) hK hnw ho hz) ml_L_51 im_H_plain sl_H_Hplain ik_H co_H_plain ⟨rfl, by decide, by decide, by decide +kernel⟩ ⟨rfl, rfl, by decide, by decide⟩ rfl cw_h rfl rfl (Nat.le_of_ble_eq_true rfl) dc_L_plain_7 ⟨by decide, by decide⟩ (fun h => vd_self (vd_l h)) (fun q hq => List.mem_append_left _ hq) (fun h => fp_A h) (fun h => fp_res h) (hw_adr _ _ _ _ _ _ _ _ _) ?_
  refine go_i2l X dc_L_plain_10 ?_
  refine go_last (i := 41 + n) (t0 := 2) X (hw_o _ _ _ _ _ _ _) rfl vin0 rfl dc_L_plain_11 ?_
  refine go_eqw (hw_set _ _ _ _ _ _ _ _) ?_
  refine go_goto (tgt := 19) X dc_L_plain_12 (by decide) ?_
  refine go_iconst (v := 0) X (by decide) dc_L_plain_19 ?_
  exact go_iret X hr dc_L_plain_20 rfl rfl
set_option maxHeartbeats 4000000 in
set_option maxRecDepth 20000 in
theorem tl_peekX (l : Launch) (D : va_G) (T : Nat → ClassId) (ad : Nat → Nat) (A : Nat → Prop) (nw : List Cond) (K n N o : Nat) {f : Nat → Int64} (htr : l.stackTraces = false) {σ : ST_} {op a b : Int32} (ho : ¬ (0 ≤ op ∧ op ≤ 2))  : Hl_ l D cl_ (tys_ T) A nw N yn_L_peek (.codeWith yn_L_peek cd_L_peek 6 (some .int) xh_L_peek :: TG_) [.ref (ad 0), .int op, .int a, .int b, .ref o] (hW_ T ad K n σ o f) (hW_ T ad K n σ o f) (some (.int 1)) := by
  refine hl_in (by decide) (Nat.le_of_ble_eq_true rfl) (List.forall_mem_cons.mpr ⟨rfl, List.forall_mem_cons.mpr ⟨rfl, List.forall_mem_cons.mpr ⟨rfl, List.forall_mem_cons.mpr ⟨rfl, List.forall_mem_cons.mpr ⟨rfl, fun _ h => nomatch h⟩⟩⟩⟩⟩) ?_
  intro P e s m args below meth c X hr hxt hN hTw hNc hP hD
  replace X : Cx_ P l e (rx_d 8) s m args below meth c cd_L_peek 6 rn_L D cl_ (tys_ T) TG_ := X
  have hP1 : va_P D cl_ (cW_ T ad K n σ) s.heap := vp_sub hP (fun q hq => List.mem_append_left _ hq)
  refine gr_loc (L' := [(0, .ref (ad 0)), (1, .int op), (2, .int a), (3, .int b), (4, .ref o)]) rfl ?_
  refine gr_aload (i := 4) X rfl dc_L_peek_0 ?_
  refine gr_iconst (v := 0) X (by decide) dc_L_peek_2 ?_
  refine gr_aload_n (i := 0) X rfl rfl dc_L_peek_3 ?_
  refine gr_iload_n (i := 1) X rfl rfl dc_L_peek_4 ?_
  refine gr_iload_n (i := 2) X rfl rfl dc_L_peek_5 ?_
  refine gr_iload_n (i := 3) X rfl rfl dc_L_peek_6 ?_
  refine gr_catch (C := rn_K) (hpc := 15) (rest := [.int 0, .ref o]) hP hD (fun ls hl T0 hT Y => tn_V (K := rn_H) (ci := 0) (i := 0) (n := 3) X hN hTw hP1 (rx_peek l D T ad nw K n N htr (σ := σ) ho) ml_L_47 im_H_peek sl_H_Hpeek ik_H co_H_peek ⟨rfl, by decide, by decide, by decide +kernel⟩ ⟨rfl, rfl, by decide, by decide, by decide, by decide⟩ rfl cw_h rfl rfl (Nat.le_of_ble_eq_true rfl) dc_L_peek_7 hl hT Y) (fun hpl S g x ce g1 g2 g3 g4 g5 g6 g7 => ft_hit (a := 0) (b := 12) (h := 15) (ct := 15) (own := rn_L) (Y := rn_K) hxt g3 hpl (by rw [g2]; exact X.2.2.2.1) (X.2.2.2.2.1 _ kl_L_15) (by rw [g1]; decide) (by decide) g4 g5 g6 g7) (fun x => ?_)
  refine go_astore (i := 5) X (by decide) dc_L_peek_15 ?_
  refine go_iconst (v := 1) X (by decide) dc_L_peek_17 ?_
  exact go_iret X hr dc_L_peek_18 rfl rfl
set_option maxHeartbeats 4000000 in
set_option maxRecDepth 20000 in
theorem tl_plainX (l : Launch) (D : va_G) (T : Nat → ClassId) (ad : Nat → Nat) (A : Nat → Prop) (nw : List Cond) (K n N o : Nat) {f : Nat → Int64} (htr : l.stackTraces = false) {σ : ST_} {op a b : Int32} (ho : ¬ (0 ≤ op ∧ op ≤ 2))  : Hl_ l D cl_ (tys_ T) A nw N yn_L_plain (.codeWith yn_L_plain cd_L_plain 6 (some .int) xh_L_plain :: TG_) [.ref (ad 0), .int op, .int a, .int b, .ref o] (hW_ T ad K n σ o f) (hW_ T ad K n σ o f) (some (.int 1)) := by
  refine hl_in (by decide) (Nat.le_of_ble_eq_true rfl) (List.forall_mem_cons.mpr ⟨rfl, List.forall_mem_cons.mpr ⟨rfl, List.forall_mem_cons.mpr ⟨rfl, List.forall_mem_cons.mpr ⟨rfl, List.forall_mem_cons.mpr ⟨rfl, fun _ h => nomatch h⟩⟩⟩⟩⟩) ?_
  intro P e s m args below meth c X hr hxt hN hTw hNc hP hD
  replace X : Cx_ P l e (rx_d 8) s m args below meth c cd_L_plain 6 rn_L D cl_ (tys_ T) TG_ := X
  have hP1 : va_P D cl_ (cW_ T ad K n σ) s.heap := vp_sub hP (fun q hq => List.mem_append_left _ hq)
  refine gr_loc (L' := [(0, .ref (ad 0)), (1, .int op), (2, .int a), (3, .int b), (4, .ref o)]) rfl ?_
  refine gr_aload (i := 4) X rfl dc_L_plain_0 ?_
  refine gr_iconst (v := 0) X (by decide) dc_L_plain_2 ?_
  refine gr_aload_n (i := 0) X rfl rfl dc_L_plain_3 ?_
  refine gr_iload_n (i := 1) X rfl rfl dc_L_plain_4 ?_
  refine gr_iload_n (i := 2) X rfl rfl dc_L_plain_5 ?_
  refine gr_iload_n (i := 3) X rfl rfl dc_L_plain_6 ?_
  refine gr_catch (C := rn_K) (hpc := 15) (rest := [.int 0, .ref o]) hP hD (fun ls hl T0 hT Y => tn_V (K := rn_H) (ci := 0) (i := 0) (n := 3) X hN hTw hP1 (rx_plain l D T ad nw K n N htr (σ := σ) ho) ml_L_51 im_H_plain sl_H_Hplain ik_H co_H_plain ⟨rfl, by decide, by decide, by decide +kernel⟩ ⟨rfl, rfl, by decide, by decide, by decide, by decide⟩ rfl cw_h rfl rfl (Nat.le_of_ble_eq_true rfl) dc_L_plain_7 hl hT Y) (fun hpl S g x ce g1 g2 g3 g4 g5 g6 g7 => ft_hit (a := 0) (b := 12) (h := 15) (ct := 15) (own := rn_L) (Y := rn_K) hxt g3 hpl (by rw [g2]; exact X.2.2.2.1) (X.2.2.2.2.1 _ kl_L_15) (by rw [g1]; decide) (by decide) g4 g5 g6 g7) (fun x => ?_)
  refine go_astore (i := 5) X (by decide) dc_L_plain_15 ?_
  refine go_iconst (v := 1) X (by decide) dc_L_plain_17 ?_
  exact go_iret X hr dc_L_plain_18 rfl rfl
end HM

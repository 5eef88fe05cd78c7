section CR
set_option maxHeartbeats 4000000 in
set_option maxRecDepth 20000 in
theorem ru_checkProcess (l : Launch) (D : va_G) (T : Nat → ClassId) (ad : Nat → Nat) (nw : List Cond) (K n : Nat) {σ : ST_} {p : Nat} (hp : p < n) (hn : n ≤ 5)  : Ru_ l D cl_ (tys_ T) nw yn_H_checkProcess (.code yn_H_checkProcess cd_H_checkProcess 2 none :: TG_) (rm_d 0) [.ref (ad 0), .int (nI p)] (cW_ T ad K n σ) none := by
  refine ru_in (by decide) (Nat.le_of_ble_eq_true rfl) (List.forall_mem_cons.mpr ⟨rfl, List.forall_mem_cons.mpr ⟨rfl, fun _ h => nomatch h⟩⟩) ?_
  intro P e s m args below meth c X hr hN hP
  replace X : Cx_ P l e (rm_d 0) s m args below meth c cd_H_checkProcess 2 rn_H D cl_ (tys_ T) TG_ := X
  refine gr_loc (L' := [(0, .ref (ad 0)), (1, .int (nI p))]) rfl ?_
  refine gr_iload_n (i := 1) X rfl rfl dc_H_checkProcess_0 ?_
  refine gr_if_lt (tgt := 13) X dc_H_checkProcess_1 (by decide) (fun h1 => ?_) (fun h1 => ?_)
  · exfalso
    rw [iz_lt, iz_0, iz_nI (by omega)] at h1
    omega
  · refine gr_iload_n (i := 1) X rfl rfl dc_H_checkProcess_4 ?_
    refine gr_aload_n (i := 0) X rfl rfl dc_H_checkProcess_5 ?_
    refine grh_get X hP 0 (by decide) fl_H_49 rfl dc_H_checkProcess_6 ?_
    refine grx_lc X hP dc_H_checkProcess_9 ?_
    refine gr_icmp_lt (tgt := 23) X dc_H_checkProcess_10 (by decide) (fun h10 => ?_) (fun h10 => ?_)
    · exact gr_vret X hr dc_H_checkProcess_23 rfl
    · exfalso
      rw [iz_lt, iz_nI (by omega), iz_nI (by omega)] at h10
      omega
set_option maxHeartbeats 4000000 in
set_option maxRecDepth 20000 in
theorem ru_checkOperation (l : Launch) (D : va_G) (T : Nat → ClassId) (ad : Nat → Nat) (nw : List Cond) (K n : Nat) {σ : ST_} {op : Int32} (ho : 0 ≤ op ∧ op ≤ 2)  : Ru_ l D cl_ (tys_ T) nw yn_H_checkOperation (.code yn_H_checkOperation cd_H_checkOperation 1 none :: TG_) (rm_d 0) [.int op] (cW_ T ad K n σ) none := by
  refine ru_in (by decide) (Nat.le_of_ble_eq_true rfl) (List.forall_mem_cons.mpr ⟨rfl, fun _ h => nomatch h⟩) ?_
  intro P e s m args below meth c X hr hN hP
  replace X : Cx_ P l e (rm_d 0) s m args below meth c cd_H_checkOperation 1 rn_H D cl_ (tys_ T) TG_ := X
  refine gr_loc (L' := [(0, .int op)]) rfl ?_
  refine gr_iload_n (i := 0) X rfl rfl dc_H_checkOperation_0 ?_
  refine gr_if_lt (tgt := 9) X dc_H_checkOperation_1 (by decide) (fun h1 => ?_) (fun h1 => ?_)
  · exfalso
    have z := ho.1
    rw [iz_le, iz_0] at z
    rw [iz_lt, iz_0] at h1
    omega
  · refine gr_iload_n (i := 0) X rfl rfl dc_H_checkOperation_4 ?_
    refine gr_iconst (v := 2) X (by decide) dc_H_checkOperation_5 ?_
    refine gr_icmp_le (tgt := 19) X dc_H_checkOperation_6 (by decide) (fun h6 => ?_) (fun h6 => ?_)
    · exact gr_vret X hr dc_H_checkOperation_19 rfl
    · exact absurd ho.2 h6
set_option maxHeartbeats 4000000 in
set_option maxRecDepth 20000 in
theorem ru_isOnLog (l : Launch) (D : va_G) (T : Nat → ClassId) (ad : Nat → Nat) (nw : List Cond) (K n : Nat) {σ : ST_} {k : Nat} (hk : k < 32) : Ru_ l D cl_ (tys_ T) nw yn_N_isOnLog (.code yn_N_isOnLog cd_N_isOnLog 1 (some .boolean) :: TG_) (rm_d 0) [.ref (ad (k + 8))] (cW_ T ad K n σ) (some (.int (cond (on_ σ k) 1 0))) := by
  refine ru_in (by decide) (Nat.le_of_ble_eq_true rfl) (List.forall_mem_cons.mpr ⟨rfl, fun _ h => nomatch h⟩) ?_
  intro P e s m args below meth c X hr hN hP
  replace X : Cx_ P l e (rm_d 0) s m args below meth c cd_N_isOnLog 1 rn_N D cl_ (tys_ T) TG_ := X
  refine gr_loc (L' := [(0, .ref (ad (k + 8)))]) rfl ?_
  refine gr_aload_n (i := 0) X rfl rfl dc_N_isOnLog_0 ?_
  refine grn_get (v := .int (σ 1 (k))) X hP (by first | assumption | exact Ix_lt (by assumption)) 0 (by decide) fl_N_24 rfl dc_N_isOnLog_1 ?_
  refine gr_if_eq (tgt := 18) X dc_N_isOnLog_4 (by decide) (fun h4 => ?_) (fun h4 => ?_)
  · refine gr_iconst (v := 0) X (by decide) dc_N_isOnLog_18 ?_
    exact gr_zret X hr (by decide) dc_N_isOnLog_19 (congrArg some (congrArg Value.int (by first | exact on_v1 h4 h11 | exact on_v0 (Or.inl h4) | exact on_v0 (Or.inr h11))))
  · refine gr_aload_n (i := 0) X rfl rfl dc_N_isOnLog_7 ?_
    refine grn_get (v := .int (σ 2 (k))) X hP (by first | assumption | exact Ix_lt (by assumption)) 5 (by decide) fl_N_28 rfl dc_N_isOnLog_8 ?_
    refine gr_if_le (tgt := 18) X dc_N_isOnLog_11 (by decide) (fun h11 => ?_) (fun h11 => ?_)
    · refine gr_iconst (v := 0) X (by decide) dc_N_isOnLog_18 ?_
      exact gr_zret X hr (by decide) dc_N_isOnLog_19 (congrArg some (congrArg Value.int (by first | exact on_v1 h4 h11 | exact on_v0 (Or.inl h4) | exact on_v0 (Or.inr h11))))
    · refine gr_iconst (v := 1) X (by decide) dc_N_isOnLog_14 ?_
      refine gr_goto (tgt := 19) X dc_N_isOnLog_15 (by decide) ?_
      exact gr_zret X hr (by decide) dc_N_isOnLog_19 (congrArg some (congrArg Value.int (by first | exact on_v1 h4 h11 | exact on_v0 (Or.inl h4) | exact on_v0 (Or.inr h11))))
set_option maxHeartbeats 4000000 in
set_option maxRecDepth 20000 in
theorem ru_findOnLog (l : Launch) (D : va_G) (T : Nat → ClassId) (ad : Nat → Nat) (nw : List Cond) (K n : Nat) {σ : ST_} {x : Int32}  : Ru_ l D cl_ (tys_ T) nw yn_H_findOnLog (.code yn_H_findOnLog cd_H_findOnLog 6 (some (.object "HelpedLog$Node")) :: TG_) (rm_d 1) [.ref (ad 0), .int x] (cW_ T ad K n σ) (some (rv_ ad (hc_find σ x))) := by
  refine ru_in (by decide) (Nat.le_of_ble_eq_true rfl) (List.forall_mem_cons.mpr ⟨rfl, List.forall_mem_cons.mpr ⟨rfl, fun _ h => nomatch h⟩⟩) ?_
  intro P e s m args below meth c X hr hN hP
  replace X : Cx_ P l e (rm_d 1) s m args below meth c cd_H_findOnLog 6 rn_H D cl_ (tys_ T) TG_ := X
  refine gr_loc (L' := [(0, .ref (ad 0)), (1, .int x)]) rfl ?_
  refine gr_aload_n (i := 0) X rfl rfl dc_H_findOnLog_0 ?_
  refine grh_get X hP 1 (by decide) fl_H_34 rfl dc_H_findOnLog_1 ?_
  refine gr_astore_n (i := 2) X rfl (by decide) dc_H_findOnLog_4 ?_
  refine gr_aload_n (i := 2) X rfl rfl dc_H_findOnLog_5 ?_
  refine grx_ln X hP dc_H_findOnLog_6 ?_
  refine gr_istore_n (i := 3) X rfl (by decide) dc_H_findOnLog_7 ?_
  refine gr_iconst (v := nI 0) X (by decide) dc_H_findOnLog_8 ?_
  refine gr_istore (i := 4) X (by decide) dc_H_findOnLog_9 ?_
  refine gr_loc (L' := [(0, .ref (ad 0)), (1, .int x), (2, .ref (ad 7)), (3, .int (nI 32)), (4, .int (nI 0))]) rfl ?_
  refine (lp_up (P := fun j => ff_ (fun k => on_ σ k && decide (σ 2 k = x)) j (32 - j) = hc_find σ x → Gr_ P l e (rm_d 1) s m args below meth c 6 _ 11 [(0, .ref (ad 0)), (1, .int x), (2, .ref (ad 7)), (3, .int (nI 32)), (4, .int (nI j))] []) 32 (fun j hj ih hinv => ?_)) 0 (Nat.zero_le _) rfl
  refine gr_iload (i := 4) X rfl dc_H_findOnLog_11 ?_
  refine gr_iload_n (i := 3) X rfl rfl dc_H_findOnLog_13 ?_
  refine gr_icmp_ge (tgt := 49) X dc_H_findOnLog_14 (by decide) (fun h14 => ?_) (fun h14 => ?_)
  · have e32 : j = 32 := by rw [iz_le, iz_nI (by omega), iz_nI (by omega)] at h14; omega
    subst e32
    refine gr_null X dc_H_findOnLog_49 ?_
    exact gr_aret X hr (Or.inl rfl) dc_H_findOnLog_50 (congrArg some (by rw [← hinv, ff_e]; rfl))
  · have hlt : j < 32 := by rw [iz_le, iz_nI (by omega), iz_nI (by omega)] at h14; omega
    have hx : Ix_ (nI j) 32 j := Ix_n hlt (by omega)
    refine gr_aload_n (i := 2) X rfl rfl dc_H_findOnLog_17 ?_
    refine gr_iload (i := 4) X rfl dc_H_findOnLog_18 ?_
    refine grx_nd (k := j) X hP (by assumption) dc_H_findOnLog_20 ?_
    refine gr_astore (i := 5) X (by decide) dc_H_findOnLog_21 ?_
    refine gr_aload (i := 5) X rfl dc_H_findOnLog_23 ?_
    refine gr_callV (C := rn_N) (ci := 1) (i := j + 8) (n := 0) (rest := []) X hN hP (ru_isOnLog l D T ad nw K n (σ := σ) (k := j) hlt) ml_H_103 im_N_isOnLog sl_N_NisOnLog ik_N co_N_isOnLog ⟨rfl, by decide, by decide, by decide +kernel⟩ ⟨rfl, rfl, by decide, by decide⟩ rfl (cw_n hlt) rfl rfl (Nat.le_of_ble_eq_true rfl) dc_H_findOnLog_25 ?_
    refine gr_if_eq (tgt := 43) X dc_H_findOnLog_28 (by decide) (fun h28 => ?_) (fun h28 => ?_)
    · refine gr_iinc (i := 4) (v := nI (j + 1)) X rfl (by rw [lit1]; exact nI_1 j) (by decide) dc_H_findOnLog_43 ?_
      refine gr_goto (tgt := 11) X dc_H_findOnLog_46 (by decide) ?_
      refine gr_loc (L' := [(0, .ref (ad 0)), (1, .int x), (2, .ref (ad 7)), (3, .int (nI 32)), (4, .int (nI (j + 1)))]) rfl ?_
      exact ih hlt (by rw [← ff_f hlt (by first | (rw [cd_f h28]; rfl) | (rw [decide_eq_false h37, Bool.and_false]))]; exact hinv)
    · refine gr_aload (i := 5) X rfl dc_H_findOnLog_31 ?_
      refine grn_get (v := .int (σ 2 (j))) X hP (by first | assumption | exact Ix_lt (by assumption)) 5 (by decide) fl_H_43 rfl dc_H_findOnLog_33 ?_
      refine gr_iload_n (i := 1) X rfl rfl dc_H_findOnLog_36 ?_
      refine gr_icmp_ne (tgt := 43) X dc_H_findOnLog_37 (by decide) (fun h37 => ?_) (fun h37 => ?_)
      · refine gr_iinc (i := 4) (v := nI (j + 1)) X rfl (by rw [lit1]; exact nI_1 j) (by decide) dc_H_findOnLog_43 ?_
        refine gr_goto (tgt := 11) X dc_H_findOnLog_46 (by decide) ?_
        refine gr_loc (L' := [(0, .ref (ad 0)), (1, .int x), (2, .ref (ad 7)), (3, .int (nI 32)), (4, .int (nI (j + 1)))]) rfl ?_
        exact ih hlt (by rw [← ff_f hlt (by first | (rw [cd_f h28]; rfl) | (rw [decide_eq_false h37, Bool.and_false]))]; exact hinv)
      · refine gr_aload (i := 5) X rfl dc_H_findOnLog_40 ?_
        exact gr_aret X hr (Or.inr ⟨_, rfl⟩) dc_H_findOnLog_42 (congrArg some (by rw [← hinv, ff_t hlt (by rw [cd_t h28, decide_eq_true h37]; rfl)]; rfl))
set_option maxHeartbeats 4000000 in
set_option maxRecDepth 20000 in
theorem rx_checkProcess (l : Launch) (D : va_G) (T : Nat → ClassId) (ad : Nat → Nat) (nw : List Cond) (K n : Nat) (N : Nat) (htr : l.stackTraces = false) {σ : ST_} {x : Int32} (hv : ¬ (0 ≤ x ∧ x < nI n))  : Rx_ l D cl_ (tys_ T) nw N yn_H_checkProcess (.code yn_H_checkProcess cd_H_checkProcess 2 none :: TG_) (rx_d 6) [.ref (ad 0), .int x] (cW_ T ad K n σ) rn_I := by
  refine rx_in (by decide) (Nat.le_of_ble_eq_true rfl) (List.forall_mem_cons.mpr ⟨rfl, List.forall_mem_cons.mpr ⟨rfl, fun _ h => nomatch h⟩⟩) ?_
  intro P e s m args below meth c X hxt hN hTw hP
  replace X : Cx_ P l e (rx_d 6) s m args below meth c cd_H_checkProcess 2 rn_H D cl_ (tys_ T) TG_ := X
  refine gr_loc (L' := [(0, .ref (ad 0)), (1, .int x)]) rfl ?_
  refine gr_iload_n (i := 1) X rfl rfl dc_H_checkProcess_0 ?_
  refine gr_if_lt (tgt := 13) X dc_H_checkProcess_1 (by decide) (fun h1 => ?_) (fun h1 => ?_)
  · exact gr_throw (C := rn_I) (ic := 170) (text := "there is no such process") X hxt htr hTw xo_I (by decide) kl_H_166 nk_I ik_I (by decide) dc_H_checkProcess_13 dc_H_checkProcess_16 dc_H_checkProcess_17 dc_H_checkProcess_19 dc_H_checkProcess_22 ⟨by decide, by decide, by decide, by decide⟩
  · refine gr_iload_n (i := 1) X rfl rfl dc_H_checkProcess_4 ?_
    refine gr_aload_n (i := 0) X rfl rfl dc_H_checkProcess_5 ?_
    refine grh_get X hP 0 (by decide) fl_H_49 rfl dc_H_checkProcess_6 ?_
    refine grx_lc X hP dc_H_checkProcess_9 ?_
    refine gr_icmp_lt (tgt := 23) X dc_H_checkProcess_10 (by decide) (fun h10 => ?_) (fun h10 => ?_)
    · exact absurd ⟨by rw [iz_le, iz_0]; rw [iz_lt, iz_0] at h1; omega, h10⟩ hv
    · exact gr_throw (C := rn_I) (ic := 170) (text := "there is no such process") X hxt htr hTw xo_I (by decide) kl_H_166 nk_I ik_I (by decide) dc_H_checkProcess_13 dc_H_checkProcess_16 dc_H_checkProcess_17 dc_H_checkProcess_19 dc_H_checkProcess_22 ⟨by decide, by decide, by decide, by decide⟩
set_option maxHeartbeats 4000000 in
set_option maxRecDepth 20000 in
theorem rx_checkOperation (l : Launch) (D : va_G) (T : Nat → ClassId) (ad : Nat → Nat) (nw : List Cond) (K n : Nat) (N : Nat) (htr : l.stackTraces = false) {σ : ST_} {op : Int32} (ho : ¬ (0 ≤ op ∧ op ≤ 2))  : Rx_ l D cl_ (tys_ T) nw N yn_H_checkOperation (.code yn_H_checkOperation cd_H_checkOperation 1 none :: TG_) (rx_d 6) [.int op] (cW_ T ad K n σ) rn_K := by
  refine rx_in (by decide) (Nat.le_of_ble_eq_true rfl) (List.forall_mem_cons.mpr ⟨rfl, fun _ h => nomatch h⟩) ?_
  intro P e s m args below meth c X hxt hN hTw hP
  replace X : Cx_ P l e (rx_d 6) s m args below meth c cd_H_checkOperation 1 rn_H D cl_ (tys_ T) TG_ := X
  refine gr_loc (L' := [(0, .int op)]) rfl ?_
  refine gr_iload_n (i := 0) X rfl rfl dc_H_checkOperation_0 ?_
  refine gr_if_lt (tgt := 9) X dc_H_checkOperation_1 (by decide) (fun h1 => ?_) (fun h1 => ?_)
  · exact gr_throw (C := rn_K) (ic := 90) (text := "operation is not 0 .. 2") X hxt htr hTw xo_K (by decide) kl_H_86 nk_K ik_K (by decide) dc_H_checkOperation_9 dc_H_checkOperation_12 dc_H_checkOperation_13 dc_H_checkOperation_15 dc_H_checkOperation_18 ⟨by decide, by decide, by decide, by decide⟩
  · refine gr_iload_n (i := 0) X rfl rfl dc_H_checkOperation_4 ?_
    refine gr_iconst (v := 2) X (by decide) dc_H_checkOperation_5 ?_
    refine gr_icmp_le (tgt := 19) X dc_H_checkOperation_6 (by decide) (fun h6 => ?_) (fun h6 => ?_)
    · exact absurd ⟨by rw [iz_le, iz_0]; rw [iz_lt, iz_0] at h1; omega, h6⟩ ho
    · exact gr_throw (C := rn_K) (ic := 90) (text := "operation is not 0 .. 2") X hxt htr hTw xo_K (by decide) kl_H_86 nk_K ik_K (by decide) dc_H_checkOperation_9 dc_H_checkOperation_12 dc_H_checkOperation_13 dc_H_checkOperation_15 dc_H_checkOperation_18 ⟨by decide, by decide, by decide, by decide⟩
set_option maxHeartbeats 4000000 in
set_option maxRecDepth 20000 in
theorem rx_step (l : Launch) (D : va_G) (T : Nat → ClassId) (ad : Nat → Nat) (nw : List Cond) (K n : Nat) (N : Nat) (htr : l.stackTraces = false) {σ : ST_} {x : Int32} (hv : ¬ (0 ≤ x ∧ x < nI n))  : Rx_ l D cl_ (tys_ T) nw N yn_H_step (.code yn_H_step cd_H_step 2 (some .int) :: TG_) (rx_d 7) [.ref (ad 0), .int x] (cW_ T ad K n σ) rn_I := by
  refine rx_in (by decide) (Nat.le_of_ble_eq_true rfl) (List.forall_mem_cons.mpr ⟨rfl, List.forall_mem_cons.mpr ⟨rfl, fun _ h => nomatch h⟩⟩) ?_
  intro P e s m args below meth c X hxt hN hTw hP
  replace X : Cx_ P l e (rx_d 7) s m args below meth c cd_H_step 2 rn_H D cl_ (tys_ T) TG_ := X
  refine gr_loc (L' := [(0, .ref (ad 0)), (1, .int x)]) rfl ?_
  refine gr_aload_n (i := 0) X rfl rfl dc_H_step_0 ?_
  refine gr_iload_n (i := 1) X rfl rfl dc_H_step_1 ?_
  exact gr_out (rest := []) X hxt (fun ls hl T0 hT Y => tn_V (K := rn_H) (ci := 0) (i := 0) (n := 1) X hN hTw hP (rx_checkProcess l D T ad nw K n N htr (σ := σ) (x := x) hv) ml_H_56 im_H_checkProcess sl_H_HcheckProcess ik_H co_H_checkProcess ⟨rfl, by decide, by decide, by decide +kernel⟩ ⟨rfl, rfl, by decide, by decide, by decide, by decide⟩ rfl cw_h rfl rfl (Nat.le_of_ble_eq_true rfl) dc_H_step_2 hl hT Y)
set_option maxHeartbeats 4000000 in
set_option maxRecDepth 20000 in
theorem rx_done (l : Launch) (D : va_G) (T : Nat → ClassId) (ad : Nat → Nat) (nw : List Cond) (K n : Nat) (N : Nat) (htr : l.stackTraces = false) {σ : ST_} {x : Int32} (hv : ¬ (0 ≤ x ∧ x < nI n))  : Rx_ l D cl_ (tys_ T) nw N yn_H_done (.code yn_H_done cd_H_done 2 (some .int) :: TG_) (rx_d 7) [.ref (ad 0), .int x] (cW_ T ad K n σ) rn_I := by
  refine rx_in (by decide) (Nat.le_of_ble_eq_true rfl) (List.forall_mem_cons.mpr ⟨rfl, List.forall_mem_cons.mpr ⟨rfl, fun _ h => nomatch h⟩⟩) ?_
  intro P e s m args below meth c X hxt hN hTw hP
  replace X : Cx_ P l e (rx_d 7) s m args below meth c cd_H_done 2 rn_H D cl_ (tys_ T) TG_ := X
  refine gr_loc (L' := [(0, .ref (ad 0)), (1, .int x)]) rfl ?_
  refine gr_aload_n (i := 0) X rfl rfl dc_H_done_0 ?_
  refine gr_iload_n (i := 1) X rfl rfl dc_H_done_1 ?_
  exact gr_out (rest := []) X hxt (fun ls hl T0 hT Y => tn_V (K := rn_H) (ci := 0) (i := 0) (n := 1) X hN hTw hP (rx_checkProcess l D T ad nw K n N htr (σ := σ) (x := x) hv) ml_H_56 im_H_checkProcess sl_H_HcheckProcess ik_H co_H_checkProcess ⟨rfl, by decide, by decide, by decide +kernel⟩ ⟨rfl, rfl, by decide, by decide, by decide, by decide⟩ rfl cw_h rfl rfl (Nat.le_of_ble_eq_true rfl) dc_H_done_2 hl hT Y)
set_option maxHeartbeats 4000000 in
set_option maxRecDepth 20000 in
theorem rx_answer1 (l : Launch) (D : va_G) (T : Nat → ClassId) (ad : Nat → Nat) (nw : List Cond) (K n : Nat) (N : Nat) (htr : l.stackTraces = false) {σ : ST_} {x : Int32} (hv : ¬ (0 ≤ x ∧ x < nI n))  : Rx_ l D cl_ (tys_ T) nw N yn_H_answer (.code yn_H_answer cd_H_answer 2 (some .int) :: TG_) (rx_d 7) [.ref (ad 0), .int x] (cW_ T ad K n σ) rn_I := by
  refine rx_in (by decide) (Nat.le_of_ble_eq_true rfl) (List.forall_mem_cons.mpr ⟨rfl, List.forall_mem_cons.mpr ⟨rfl, fun _ h => nomatch h⟩⟩) ?_
  intro P e s m args below meth c X hxt hN hTw hP
  replace X : Cx_ P l e (rx_d 7) s m args below meth c cd_H_answer 2 rn_H D cl_ (tys_ T) TG_ := X
  refine gr_loc (L' := [(0, .ref (ad 0)), (1, .int x)]) rfl ?_
  refine gr_aload_n (i := 0) X rfl rfl dc_H_answer_0 ?_
  refine gr_iload_n (i := 1) X rfl rfl dc_H_answer_1 ?_
  exact gr_out (rest := []) X hxt (fun ls hl T0 hT Y => tn_V (K := rn_H) (ci := 0) (i := 0) (n := 1) X hN hTw hP (rx_checkProcess l D T ad nw K n N htr (σ := σ) (x := x) hv) ml_H_56 im_H_checkProcess sl_H_HcheckProcess ik_H co_H_checkProcess ⟨rfl, by decide, by decide, by decide +kernel⟩ ⟨rfl, rfl, by decide, by decide, by decide, by decide⟩ rfl cw_h rfl rfl (Nat.le_of_ble_eq_true rfl) dc_H_answer_2 hl hT Y)
set_option maxHeartbeats 4000000 in
set_option maxRecDepth 20000 in
theorem rx_placeOf (l : Launch) (D : va_G) (T : Nat → ClassId) (ad : Nat → Nat) (nw : List Cond) (K n : Nat) (N : Nat) (htr : l.stackTraces = false) {σ : ST_} {x : Int32} (hv : ¬ (0 ≤ x ∧ x < nI n))  : Rx_ l D cl_ (tys_ T) nw N yn_H_placeOf (.code yn_H_placeOf cd_H_placeOf 2 (some .int) :: TG_) (rx_d 7) [.ref (ad 0), .int x] (cW_ T ad K n σ) rn_I := by
  refine rx_in (by decide) (Nat.le_of_ble_eq_true rfl) (List.forall_mem_cons.mpr ⟨rfl, List.forall_mem_cons.mpr ⟨rfl, fun _ h => nomatch h⟩⟩) ?_
  intro P e s m args below meth c X hxt hN hTw hP
  replace X : Cx_ P l e (rx_d 7) s m args below meth c cd_H_placeOf 2 rn_H D cl_ (tys_ T) TG_ := X
  refine gr_loc (L' := [(0, .ref (ad 0)), (1, .int x)]) rfl ?_
  refine gr_aload_n (i := 0) X rfl rfl dc_H_placeOf_0 ?_
  refine gr_iload_n (i := 1) X rfl rfl dc_H_placeOf_1 ?_
  exact gr_out (rest := []) X hxt (fun ls hl T0 hT Y => tn_V (K := rn_H) (ci := 0) (i := 0) (n := 1) X hN hTw hP (rx_checkProcess l D T ad nw K n N htr (σ := σ) (x := x) hv) ml_H_56 im_H_checkProcess sl_H_HcheckProcess ik_H co_H_checkProcess ⟨rfl, by decide, by decide, by decide +kernel⟩ ⟨rfl, rfl, by decide, by decide, by decide, by decide⟩ rfl cw_h rfl rfl (Nat.le_of_ble_eq_true rfl) dc_H_placeOf_2 hl hT Y)
set_option maxHeartbeats 4000000 in
set_option maxRecDepth 20000 in
theorem rx_stage (l : Launch) (D : va_G) (T : Nat → ClassId) (ad : Nat → Nat) (nw : List Cond) (K n : Nat) (N : Nat) (htr : l.stackTraces = false) {σ : ST_} {x : Int32} (hv : ¬ (0 ≤ x ∧ x < nI n))  : Rx_ l D cl_ (tys_ T) nw N yn_H_stage (.code yn_H_stage cd_H_stage 2 (some .int) :: TG_) (rx_d 7) [.ref (ad 0), .int x] (cW_ T ad K n σ) rn_I := by
  refine rx_in (by decide) (Nat.le_of_ble_eq_true rfl) (List.forall_mem_cons.mpr ⟨rfl, List.forall_mem_cons.mpr ⟨rfl, fun _ h => nomatch h⟩⟩) ?_
  intro P e s m args below meth c X hxt hN hTw hP
  replace X : Cx_ P l e (rx_d 7) s m args below meth c cd_H_stage 2 rn_H D cl_ (tys_ T) TG_ := X
  refine gr_loc (L' := [(0, .ref (ad 0)), (1, .int x)]) rfl ?_
  refine gr_aload_n (i := 0) X rfl rfl dc_H_stage_0 ?_
  refine gr_iload_n (i := 1) X rfl rfl dc_H_stage_1 ?_
  exact gr_out (rest := []) X hxt (fun ls hl T0 hT Y => tn_V (K := rn_H) (ci := 0) (i := 0) (n := 1) X hN hTw hP (rx_checkProcess l D T ad nw K n N htr (σ := σ) (x := x) hv) ml_H_56 im_H_checkProcess sl_H_HcheckProcess ik_H co_H_checkProcess ⟨rfl, by decide, by decide, by decide +kernel⟩ ⟨rfl, rfl, by decide, by decide, by decide, by decide⟩ rfl cw_h rfl rfl (Nat.le_of_ble_eq_true rfl) dc_H_stage_2 hl hT Y)
set_option maxHeartbeats 4000000 in
set_option maxRecDepth 20000 in
theorem rx_head (l : Launch) (D : va_G) (T : Nat → ClassId) (ad : Nat → Nat) (nw : List Cond) (K n : Nat) (N : Nat) (htr : l.stackTraces = false) {σ : ST_} {x : Int32} (hv : ¬ (0 ≤ x ∧ x < nI n))  : Rx_ l D cl_ (tys_ T) nw N yn_H_head (.code yn_H_head cd_H_head 2 (some .int) :: TG_) (rx_d 7) [.ref (ad 0), .int x] (cW_ T ad K n σ) rn_I := by
  refine rx_in (by decide) (Nat.le_of_ble_eq_true rfl) (List.forall_mem_cons.mpr ⟨rfl, List.forall_mem_cons.mpr ⟨rfl, fun _ h => nomatch h⟩⟩) ?_
  intro P e s m args below meth c X hxt hN hTw hP
  replace X : Cx_ P l e (rx_d 7) s m args below meth c cd_H_head 2 rn_H D cl_ (tys_ T) TG_ := X
  refine gr_loc (L' := [(0, .ref (ad 0)), (1, .int x)]) rfl ?_
  refine gr_aload_n (i := 0) X rfl rfl dc_H_head_0 ?_
  refine gr_iload_n (i := 1) X rfl rfl dc_H_head_1 ?_
  exact gr_out (rest := []) X hxt (fun ls hl T0 hT Y => tn_V (K := rn_H) (ci := 0) (i := 0) (n := 1) X hN hTw hP (rx_checkProcess l D T ad nw K n N htr (σ := σ) (x := x) hv) ml_H_56 im_H_checkProcess sl_H_HcheckProcess ik_H co_H_checkProcess ⟨rfl, by decide, by decide, by decide +kernel⟩ ⟨rfl, rfl, by decide, by decide, by decide, by decide⟩ rfl cw_h rfl rfl (Nat.le_of_ble_eq_true rfl) dc_H_head_2 hl hT Y)
set_option maxHeartbeats 4000000 in
set_option maxRecDepth 20000 in
theorem rx_call1 (l : Launch) (D : va_G) (T : Nat → ClassId) (ad : Nat → Nat) (nw : List Cond) (K n : Nat) (N : Nat) (htr : l.stackTraces = false) {σ : ST_} {x : Int32} (hv : ¬ (0 ≤ x ∧ x < nI n)) {op a b : Int32}  : Rx_ l D cl_ (tys_ T) nw N yn_H_call (.code yn_H_call cd_H_call 6 none :: TG_) (rx_d 7) [.ref (ad 0), .int x, .int op, .int a, .int b] (cW_ T ad K n σ) rn_I := by
  refine rx_in (by decide) (Nat.le_of_ble_eq_true rfl) (List.forall_mem_cons.mpr ⟨rfl, List.forall_mem_cons.mpr ⟨rfl, List.forall_mem_cons.mpr ⟨rfl, List.forall_mem_cons.mpr ⟨rfl, List.forall_mem_cons.mpr ⟨rfl, fun _ h => nomatch h⟩⟩⟩⟩⟩) ?_
  intro P e s m args below meth c X hxt hN hTw hP
  replace X : Cx_ P l e (rx_d 7) s m args below meth c cd_H_call 6 rn_H D cl_ (tys_ T) TG_ := X
  refine gr_loc (L' := [(0, .ref (ad 0)), (1, .int x), (2, .int op), (3, .int a), (4, .int b)]) rfl ?_
  refine gr_aload_n (i := 0) X rfl rfl dc_H_call_0 ?_
  refine gr_iload_n (i := 1) X rfl rfl dc_H_call_1 ?_
  exact gr_out (rest := []) X hxt (fun ls hl T0 hT Y => tn_V (K := rn_H) (ci := 0) (i := 0) (n := 1) X hN hTw hP (rx_checkProcess l D T ad nw K n N htr (σ := σ) (x := x) hv) ml_H_56 im_H_checkProcess sl_H_HcheckProcess ik_H co_H_checkProcess ⟨rfl, by decide, by decide, by decide +kernel⟩ ⟨rfl, rfl, by decide, by decide, by decide, by decide⟩ rfl cw_h rfl rfl (Nat.le_of_ble_eq_true rfl) dc_H_call_2 hl hT Y)
set_option maxHeartbeats 4000000 in
set_option maxRecDepth 20000 in
theorem rx_call2 (l : Launch) (D : va_G) (T : Nat → ClassId) (ad : Nat → Nat) (nw : List Cond) (K n : Nat) (N : Nat) (htr : l.stackTraces = false) {σ : ST_} {p : Nat} (hp : p < n) (hn : n ≤ 5) {op a b : Int32} (ho : ¬ (0 ≤ op ∧ op ≤ 2))  : Rx_ l D cl_ (tys_ T) nw N yn_H_call (.code yn_H_call cd_H_call 6 none :: TG_) (rx_d 7) [.ref (ad 0), .int (nI p), .int op, .int a, .int b] (cW_ T ad K n σ) rn_K := by
  refine rx_in (by decide) (Nat.le_of_ble_eq_true rfl) (List.forall_mem_cons.mpr ⟨rfl, List.forall_mem_cons.mpr ⟨rfl, List.forall_mem_cons.mpr ⟨rfl, List.forall_mem_cons.mpr ⟨rfl, List.forall_mem_cons.mpr ⟨rfl, fun _ h => nomatch h⟩⟩⟩⟩⟩) ?_
  intro P e s m args below meth c X hxt hN hTw hP
  replace X : Cx_ P l e (rx_d 7) s m args below meth c cd_H_call 6 rn_H D cl_ (tys_ T) TG_ := X
  refine gr_loc (L' := [(0, .ref (ad 0)), (1, .int (nI p)), (2, .int op), (3, .int a), (4, .int b)]) rfl ?_
  refine gr_aload_n (i := 0) X rfl rfl dc_H_call_0 ?_
  refine gr_iload_n (i := 1) X rfl rfl dc_H_call_1 ?_
  refine gr_callV (C := rn_H) (ci := 0) (i := 0) (n := 1) (rest := []) X hN hP (ru_checkProcess l D T ad nw K n (σ := σ) (p := p) hp hn) ml_H_56 im_H_checkProcess sl_H_HcheckProcess ik_H co_H_checkProcess ⟨rfl, by decide, by decide, by decide +kernel⟩ ⟨rfl, rfl, by decide, by decide⟩ rfl (cw_h) rfl rfl (Nat.le_of_ble_eq_true rfl) dc_H_call_2 ?_
  refine gr_iload_n (i := 2) X rfl rfl dc_H_call_5 ?_
  exact gr_out (rest := []) X hxt (fun ls hl T0 hT Y => tn_S (n := 1) X hN hTw hP (rx_checkOperation l D T ad nw K n N htr (σ := σ) (op := op) ho) ml_H_60 sm_H_checkOperation ik_H co_H_checkOperation ⟨by decide, by decide, by decide +kernel⟩ ⟨rfl, rfl, by decide, by decide, by decide, by decide⟩ rfl rfl (Nat.le_of_ble_eq_true rfl) dc_H_call_6 hl hT Y)
set_option maxHeartbeats 4000000 in
set_option maxRecDepth 20000 in
theorem rx_call3 (l : Launch) (D : va_G) (T : Nat → ClassId) (ad : Nat → Nat) (nw : List Cond) (K n : Nat) (N : Nat) (htr : l.stackTraces = false) {σ : ST_} {p : Nat} (hp : p < n) (hn : n ≤ 5) {op a b : Int32} (ho : 0 ≤ op ∧ op ≤ 2) (hs : ¬ σ 10 p = -1)  : Rx_ l D cl_ (tys_ T) nw N yn_H_call (.code yn_H_call cd_H_call 6 none :: TG_) (rx_d 7) [.ref (ad 0), .int (nI p), .int op, .int a, .int b] (cW_ T ad K n σ) rn_U := by
  have hpx : Ix_ (nI p) n p := Ix_n hp (by omega)
  refine rx_in (by decide) (Nat.le_of_ble_eq_true rfl) (List.forall_mem_cons.mpr ⟨rfl, List.forall_mem_cons.mpr ⟨rfl, List.forall_mem_cons.mpr ⟨rfl, List.forall_mem_cons.mpr ⟨rfl, List.forall_mem_cons.mpr ⟨rfl, fun _ h => nomatch h⟩⟩⟩⟩⟩) ?_
  intro P e s m args below meth c X hxt hN hTw hP
  replace X : Cx_ P l e (rx_d 7) s m args below meth c cd_H_call 6 rn_H D cl_ (tys_ T) TG_ := X
  refine gr_loc (L' := [(0, .ref (ad 0)), (1, .int (nI p)), (2, .int op), (3, .int a), (4, .int b)]) rfl ?_
  refine gr_aload_n (i := 0) X rfl rfl dc_H_call_0 ?_
  refine gr_iload_n (i := 1) X rfl rfl dc_H_call_1 ?_
  refine gr_callV (C := rn_H) (ci := 0) (i := 0) (n := 1) (rest := []) X hN hP (ru_checkProcess l D T ad nw K n (σ := σ) (p := p) hp hn) ml_H_56 im_H_checkProcess sl_H_HcheckProcess ik_H co_H_checkProcess ⟨rfl, by decide, by decide, by decide +kernel⟩ ⟨rfl, rfl, by decide, by decide⟩ rfl (cw_h) rfl rfl (Nat.le_of_ble_eq_true rfl) dc_H_call_2 ?_
  refine gr_iload_n (i := 2) X rfl rfl dc_H_call_5 ?_
  refine gr_callT (n := 1) (rest := []) X hN hP (ru_checkOperation l D T ad nw K n (σ := σ) (op := op) ho) ml_H_60 sm_H_checkOperation ik_H co_H_checkOperation ⟨by decide, by decide, by decide +kernel⟩ ⟨rfl, rfl, by decide, by decide⟩ rfl rfl (Nat.le_of_ble_eq_true rfl) dc_H_call_6 ?_
  refine gr_aload_n (i := 0) X rfl rfl dc_H_call_9 ?_
  refine grh_get X hP 0 (by decide) fl_H_49 rfl dc_H_call_10 ?_
  refine gr_iload_n (i := 1) X rfl rfl dc_H_call_13 ?_
  refine grx_cl (k := p) X hP (by assumption) dc_H_call_14 ?_
  refine gr_astore (i := 5) X (by decide) dc_H_call_15 ?_
  refine gr_aload (i := 5) X rfl dc_H_call_17 ?_
  refine grc_get (v := .int (σ 10 (p))) X hP (by first | assumption | exact Ix_lt (by assumption)) 1 (by decide) fl_H_63 rfl dc_H_call_19 ?_
  refine gr_iconst (v := (-1)) X (by decide) dc_H_call_22 ?_
  refine gr_icmp_eq (tgt := 36) X dc_H_call_23 (by decide) (fun h23 => ?_) (fun h23 => ?_)
  · exact absurd h23 hs
  · exact gr_throw (C := rn_U) (ic := 70) (text := "the process has a call under way") X hxt htr hTw xo_U (by decide) kl_H_66 nk_U ik_U (by decide) dc_H_call_26 dc_H_call_29 dc_H_call_30 dc_H_call_32 dc_H_call_35 ⟨by decide, by decide, by decide, by decide⟩
set_option maxHeartbeats 4000000 in
set_option maxRecDepth 20000 in
theorem rx_answer2 (l : Launch) (D : va_G) (T : Nat → ClassId) (ad : Nat → Nat) (nw : List Cond) (K n : Nat) (N : Nat) (htr : l.stackTraces = false) {σ : ST_} {p : Nat} (hp : p < n) (hn : n ≤ 5) (hd : σ 18 p = 0)  : Rx_ l D cl_ (tys_ T) nw N yn_H_answer (.code yn_H_answer cd_H_answer 2 (some .int) :: TG_) (rx_d 7) [.ref (ad 0), .int (nI p)] (cW_ T ad K n σ) rn_U := by
  have hpx : Ix_ (nI p) n p := Ix_n hp (by omega)
  refine rx_in (by decide) (Nat.le_of_ble_eq_true rfl) (List.forall_mem_cons.mpr ⟨rfl, List.forall_mem_cons.mpr ⟨rfl, fun _ h => nomatch h⟩⟩) ?_
  intro P e s m args below meth c X hxt hN hTw hP
  replace X : Cx_ P l e (rx_d 7) s m args below meth c cd_H_answer 2 rn_H D cl_ (tys_ T) TG_ := X
  refine gr_loc (L' := [(0, .ref (ad 0)), (1, .int (nI p))]) rfl ?_
  refine gr_aload_n (i := 0) X rfl rfl dc_H_answer_0 ?_
  refine gr_iload_n (i := 1) X rfl rfl dc_H_answer_1 ?_
  refine gr_callV (C := rn_H) (ci := 0) (i := 0) (n := 1) (rest := []) X hN hP (ru_checkProcess l D T ad nw K n (σ := σ) (p := p) hp hn) ml_H_56 im_H_checkProcess sl_H_HcheckProcess ik_H co_H_checkProcess ⟨rfl, by decide, by decide, by decide +kernel⟩ ⟨rfl, rfl, by decide, by decide⟩ rfl (cw_h) rfl rfl (Nat.le_of_ble_eq_true rfl) dc_H_answer_2 ?_
  refine gr_aload_n (i := 0) X rfl rfl dc_H_answer_5 ?_
  refine grh_get X hP 0 (by decide) fl_H_49 rfl dc_H_answer_6 ?_
  refine gr_iload_n (i := 1) X rfl rfl dc_H_answer_9 ?_
  refine grx_cl (k := p) X hP (by assumption) dc_H_answer_10 ?_
  refine grc_get (v := .int (σ 18 (p))) X hP (by first | assumption | exact Ix_lt (by assumption)) 11 (by decide) fl_H_92 rfl dc_H_answer_11 ?_
  refine gr_if_ne (tgt := 27) X dc_H_answer_14 (by decide) (fun h14 => ?_) (fun h14 => ?_)
  · exact absurd hd h14
  · exact gr_throw (C := rn_U) (ic := 70) (text := "no call of the process was done") X hxt htr hTw xo_U (by decide) kl_H_66 nk_U ik_U (by decide) dc_H_answer_17 dc_H_answer_20 dc_H_answer_21 dc_H_answer_23 dc_H_answer_26 ⟨by decide, by decide, by decide, by decide⟩
set_option maxHeartbeats 4000000 in
set_option maxRecDepth 20000 in
theorem rx_run (l : Launch) (D : va_G) (T : Nat → ClassId) (ad : Nat → Nat) (nw : List Cond) (K n : Nat) (N : Nat) (htr : l.stackTraces = false) {σ : ST_} {x y : Int32} (hs : ¬ (1 ≤ y ∧ y ≤ 1000))  : Rx_ l D cl_ (tys_ T) nw N yn_H_run (.code yn_H_run cd_H_run 6 (some .int) :: TG_) (rx_d 7) [.ref (ad 0), .int x, .int y] (cW_ T ad K n σ) rn_K := by
  refine rx_in (by decide) (Nat.le_of_ble_eq_true rfl) (List.forall_mem_cons.mpr ⟨rfl, List.forall_mem_cons.mpr ⟨rfl, List.forall_mem_cons.mpr ⟨rfl, fun _ h => nomatch h⟩⟩⟩) ?_
  intro P e s m args below meth c X hxt hN hTw hP
  replace X : Cx_ P l e (rx_d 7) s m args below meth c cd_H_run 6 rn_H D cl_ (tys_ T) TG_ := X
  refine gr_loc (L' := [(0, .ref (ad 0)), (1, .int x), (2, .int y)]) rfl ?_
  refine gr_iload_n (i := 2) X rfl rfl dc_H_run_0 ?_
  refine gr_iconst (v := 1) X (by decide) dc_H_run_1 ?_
  refine gr_icmp_lt (tgt := 12) X dc_H_run_2 (by decide) (fun h2 => ?_) (fun h2 => ?_)
  · exact gr_throw (C := rn_K) (ic := 90) (text := "steps is not 1 .. 1000") X hxt htr hTw xo_K (by decide) kl_H_86 nk_K ik_K (by decide) dc_H_run_12 dc_H_run_15 dc_H_run_16 dc_H_run_18 dc_H_run_21 ⟨by decide, by decide, by decide, by decide⟩
  · refine gr_iload_n (i := 2) X rfl rfl dc_H_run_5 ?_
    refine gr_sipush (v := 1000) X (by decide) dc_H_run_6 ?_
    refine gr_icmp_le (tgt := 22) X dc_H_run_9 (by decide) (fun h9 => ?_) (fun h9 => ?_)
    · exact absurd ⟨by rw [iz_le, iz_1]; rw [iz_lt, iz_1] at h2; omega, h9⟩ hs
    · exact gr_throw (C := rn_K) (ic := 90) (text := "steps is not 1 .. 1000") X hxt htr hTw xo_K (by decide) kl_H_86 nk_K ik_K (by decide) dc_H_run_12 dc_H_run_15 dc_H_run_16 dc_H_run_18 dc_H_run_21 ⟨by decide, by decide, by decide, by decide⟩
set_option maxHeartbeats 4000000 in
set_option maxRecDepth 20000 in
theorem rx_peek (l : Launch) (D : va_G) (T : Nat → ClassId) (ad : Nat → Nat) (nw : List Cond) (K n : Nat) (N : Nat) (htr : l.stackTraces = false) {σ : ST_} {op a b : Int32} (ho : ¬ (0 ≤ op ∧ op ≤ 2))  : Rx_ l D cl_ (tys_ T) nw N yn_H_peek (.code yn_H_peek cd_H_peek 4 (some .int) :: TG_) (rx_d 7) [.ref (ad 0), .int op, .int a, .int b] (cW_ T ad K n σ) rn_K := by
  refine rx_in (by decide) (Nat.le_of_ble_eq_true rfl) (List.forall_mem_cons.mpr ⟨rfl, List.forall_mem_cons.mpr ⟨rfl, List.forall_mem_cons.mpr ⟨rfl, List.forall_mem_cons.mpr ⟨rfl, fun _ h => nomatch h⟩⟩⟩⟩) ?_
  intro P e s m args below meth c X hxt hN hTw hP
  replace X : Cx_ P l e (rx_d 7) s m args below meth c cd_H_peek 4 rn_H D cl_ (tys_ T) TG_ := X
  refine gr_loc (L' := [(0, .ref (ad 0)), (1, .int op), (2, .int a), (3, .int b)]) rfl ?_
  refine gr_iload_n (i := 1) X rfl rfl dc_H_peek_0 ?_
  exact gr_out (rest := []) X hxt (fun ls hl T0 hT Y => tn_S (n := 1) X hN hTw hP (rx_checkOperation l D T ad nw K n N htr (σ := σ) (op := op) ho) ml_H_60 sm_H_checkOperation ik_H co_H_checkOperation ⟨by decide, by decide, by decide +kernel⟩ ⟨rfl, rfl, by decide, by decide, by decide, by decide⟩ rfl rfl (Nat.le_of_ble_eq_true rfl) dc_H_peek_1 hl hT Y)
set_option maxHeartbeats 4000000 in
set_option maxRecDepth 20000 in
theorem rx_plain (l : Launch) (D : va_G) (T : Nat → ClassId) (ad : Nat → Nat) (nw : List Cond) (K n : Nat) (N : Nat) (htr : l.stackTraces = false) {σ : ST_} {op a b : Int32} (ho : ¬ (0 ≤ op ∧ op ≤ 2))  : Rx_ l D cl_ (tys_ T) nw N yn_H_plain (.code yn_H_plain cd_H_plain 4 (some .int) :: TG_) (rx_d 7) [.ref (ad 0), .int op, .int a, .int b] (cW_ T ad K n σ) rn_K := by
  refine rx_in (by decide) (Nat.le_of_ble_eq_true rfl) (List.forall_mem_cons.mpr ⟨rfl, List.forall_mem_cons.mpr ⟨rfl, List.forall_mem_cons.mpr ⟨rfl, List.forall_mem_cons.mpr ⟨rfl, fun _ h => nomatch h⟩⟩⟩⟩) ?_
  intro P e s m args below meth c X hxt hN hTw hP
  replace X : Cx_ P l e (rx_d 7) s m args below meth c cd_H_plain 4 rn_H D cl_ (tys_ T) TG_ := X
  refine gr_loc (L' := [(0, .ref (ad 0)), (1, .int op), (2, .int a), (3, .int b)]) rfl ?_
  refine gr_iload_n (i := 1) X rfl rfl dc_H_plain_0 ?_
  exact gr_out (rest := []) X hxt (fun ls hl T0 hT Y => tn_S (n := 1) X hN hTw hP (rx_checkOperation l D T ad nw K n N htr (σ := σ) (op := op) ho) ml_H_60 sm_H_checkOperation ik_H co_H_checkOperation ⟨by decide, by decide, by decide +kernel⟩ ⟨rfl, rfl, by decide, by decide, by decide, by decide⟩ rfl rfl (Nat.le_of_ble_eq_true rfl) dc_H_plain_1 hl hT Y)
set_option maxHeartbeats 4000000 in
set_option maxRecDepth 20000 in
theorem rx_node1 (l : Launch) (D : va_G) (T : Nat → ClassId) (ad : Nat → Nat) (nw : List Cond) (K n : Nat) (N : Nat) (htr : l.stackTraces = false) {σ : ST_} {x y : Int32} (hf : hc_find σ x = none)  : Rx_ l D cl_ (tys_ T) nw N yn_H_node (.code yn_H_node cd_H_node 4 (some .int) :: TG_) (rx_d 7) [.ref (ad 0), .int x, .int y] (cW_ T ad K n σ) rn_V := by
  have hM := ru_findOnLog l D T ad nw K n (σ := σ) (x := x)
  rw [hf] at hM
  refine rx_in (by decide) (Nat.le_of_ble_eq_true rfl) (List.forall_mem_cons.mpr ⟨rfl, List.forall_mem_cons.mpr ⟨rfl, List.forall_mem_cons.mpr ⟨rfl, fun _ h => nomatch h⟩⟩⟩) ?_
  intro P e s m args below meth c X hxt hN hTw hP
  replace X : Cx_ P l e (rx_d 7) s m args below meth c cd_H_node 4 rn_H D cl_ (tys_ T) TG_ := X
  refine gr_loc (L' := [(0, .ref (ad 0)), (1, .int x), (2, .int y)]) rfl ?_
  refine gr_aload_n (i := 0) X rfl rfl dc_H_node_0 ?_
  refine gr_iload_n (i := 1) X rfl rfl dc_H_node_1 ?_
  refine gr_callV (C := rn_H) (r := some .null) (ci := 0) (i := 0) (n := 1) (rest := []) X hN hP (hM) ml_H_111 im_H_findOnLog sl_H_HfindOnLog ik_H co_H_findOnLog ⟨rfl, by decide, by decide, by decide +kernel⟩ ⟨rfl, rfl, by decide, by decide⟩ rfl (cw_h) rfl rfl (Nat.le_of_ble_eq_true rfl) dc_H_node_2 ?_
  refine gr_astoreN_n (i := 3) X rfl (by decide) dc_H_node_5 ?_
  refine gr_aloadN_n (i := 3) X rfl rfl dc_H_node_6 ?_
  refine gr_ifnonnullN X dc_H_node_7 ?_
  exact gr_throwV (text := "no node in use has the number") X hxt htr hTw kl_H_115 (by decide) dc_H_node_10 dc_H_node_13 dc_H_node_14 dc_H_node_16 dc_H_node_19 ⟨by decide, by decide, by decide, by decide⟩
set_option maxHeartbeats 4000000 in
set_option maxRecDepth 20000 in
theorem rx_node2 (l : Launch) (D : va_G) (T : Nat → ClassId) (ad : Nat → Nat) (nw : List Cond) (K n : Nat) (N : Nat) (htr : l.stackTraces = false) {σ : ST_} {x y : Int32} {k : Nat} (hf : hc_find σ x = some k) (hy : ¬ (0 ≤ y ∧ y ≤ 3))  : Rx_ l D cl_ (tys_ T) nw N yn_H_node (.code yn_H_node cd_H_node 4 (some .int) :: TG_) (rx_d 7) [.ref (ad 0), .int x, .int y] (cW_ T ad K n σ) rn_K := by
  have hM := ru_findOnLog l D T ad nw K n (σ := σ) (x := x)
  rw [hf] at hM
  refine rx_in (by decide) (Nat.le_of_ble_eq_true rfl) (List.forall_mem_cons.mpr ⟨rfl, List.forall_mem_cons.mpr ⟨rfl, List.forall_mem_cons.mpr ⟨rfl, fun _ h => nomatch h⟩⟩⟩) ?_
  intro P e s m args below meth c X hxt hN hTw hP
  replace X : Cx_ P l e (rx_d 7) s m args below meth c cd_H_node 4 rn_H D cl_ (tys_ T) TG_ := X
  refine gr_loc (L' := [(0, .ref (ad 0)), (1, .int x), (2, .int y)]) rfl ?_
  refine gr_aload_n (i := 0) X rfl rfl dc_H_node_0 ?_
  refine gr_iload_n (i := 1) X rfl rfl dc_H_node_1 ?_
  refine gr_callV (C := rn_H) (r := some (.ref (ad (k + 8)))) (ci := 0) (i := 0) (n := 1) (rest := []) X hN hP (hM) ml_H_111 im_H_findOnLog sl_H_HfindOnLog ik_H co_H_findOnLog ⟨rfl, by decide, by decide, by decide +kernel⟩ ⟨rfl, rfl, by decide, by decide⟩ rfl (cw_h) rfl rfl (Nat.le_of_ble_eq_true rfl) dc_H_node_2 ?_
  refine gr_astore_n (i := 3) X rfl (by decide) dc_H_node_5 ?_
  refine gr_aload_n (i := 3) X rfl rfl dc_H_node_6 ?_
  refine gr_ifnonnull (tgt := 20) X dc_H_node_7 (by decide) ?_
  refine gr_iload_n (i := 2) X rfl rfl dc_H_node_20 ?_
  refine gr_if_lt (tgt := 29) X dc_H_node_21 (by decide) (fun h21 => ?_) (fun h21 => ?_)
  · exact gr_throw (C := rn_K) (ic := 90) (text := "what is not 0 .. 3") X hxt htr hTw xo_K (by decide) kl_H_86 nk_K ik_K (by decide) dc_H_node_29 dc_H_node_32 dc_H_node_33 dc_H_node_35 dc_H_node_38 ⟨by decide, by decide, by decide, by decide⟩
  · refine gr_iload_n (i := 2) X rfl rfl dc_H_node_24 ?_
    refine gr_iconst (v := 3) X (by decide) dc_H_node_25 ?_
    refine gr_icmp_le (tgt := 39) X dc_H_node_26 (by decide) (fun h26 => ?_) (fun h26 => ?_)
    · exact absurd ⟨by rw [iz_le, iz_0]; rw [iz_lt, iz_0] at h21; omega, h26⟩ hy
    · exact gr_throw (C := rn_K) (ic := 90) (text := "what is not 0 .. 3") X hxt htr hTw xo_K (by decide) kl_H_86 nk_K ik_K (by decide) dc_H_node_29 dc_H_node_32 dc_H_node_33 dc_H_node_35 dc_H_node_38 ⟨by decide, by decide, by decide, by decide⟩
end CR

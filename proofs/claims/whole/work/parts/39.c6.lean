section C6
set_option maxHeartbeats 4000000 in
set_option maxRecDepth 20000 in
theorem tc_checkProcess (l : Launch) (D : va_G) (T : Nat → ClassId) (ad : Nat → Nat) (A : Nat → Prop) (nw : List Cond) (K n : Nat) {σ : ST_} {p : Nat} (hp : p < n) (hn : n ≤ 5)  : cc_ l D T ad K n A nw yn_H_checkProcess (.code yn_H_checkProcess cd_H_checkProcess 2 none) 0 [.ref (ad 0), .int (nI p)] σ σ none := by
  refine go_in (by decide) (Nat.le_of_ble_eq_true rfl) (List.forall_mem_cons.mpr ⟨rfl, List.forall_mem_cons.mpr ⟨rfl, fun _ h => nomatch h⟩⟩) ?_
  intro P e s m args below meth c X hr hnm hN
  replace X : Cx_ P l e (rm_d 0) s m args below meth c cd_H_checkProcess 2 rn_H D cl_ (tys_ T) TG_ := X
  refine go_loc (L' := [(0, .ref (ad 0)), (1, .int (nI p))]) rfl ?_
  refine go_iload_n (i := 1) X rfl rfl dc_H_checkProcess_0 ?_
  refine go_if_lt (tgt := 13) X dc_H_checkProcess_1 (by decide) (fun h1 => ?_) (fun h1 => ?_)
  · exfalso
    rw [iz_lt, iz_0, iz_nI (by omega)] at h1
    omega
  · refine go_iload_n (i := 1) X rfl rfl dc_H_checkProcess_4 ?_
    refine go_aload_n (i := 0) X rfl rfl dc_H_checkProcess_5 ?_
    refine gh_get X 0 (by decide) fl_H_49 rfl dc_H_checkProcess_6 ?_
    refine gx_lc X dc_H_checkProcess_9 ?_
    refine go_icmp_lt (tgt := 23) X dc_H_checkProcess_10 (by decide) (fun h10 => ?_) (fun h10 => ?_)
    · exact go_vret X hr dc_H_checkProcess_23 rfl rfl
    · exfalso
      rw [iz_lt, iz_nI (by omega), iz_nI (by omega)] at h10
      omega
set_option maxHeartbeats 4000000 in
set_option maxRecDepth 20000 in
theorem tc_checkOperation (l : Launch) (D : va_G) (T : Nat → ClassId) (ad : Nat → Nat) (A : Nat → Prop) (nw : List Cond) (K n : Nat) {σ : ST_} {op : Int32} (ho : 0 ≤ op ∧ op ≤ 2)  : cc_ l D T ad K n A nw yn_H_checkOperation (.code yn_H_checkOperation cd_H_checkOperation 1 none) 0 [.int op] σ σ none := by
  refine go_in (by decide) (Nat.le_of_ble_eq_true rfl) (List.forall_mem_cons.mpr ⟨rfl, fun _ h => nomatch h⟩) ?_
  intro P e s m args below meth c X hr hnm hN
  replace X : Cx_ P l e (rm_d 0) s m args below meth c cd_H_checkOperation 1 rn_H D cl_ (tys_ T) TG_ := X
  refine go_loc (L' := [(0, .int op)]) rfl ?_
  refine go_iload_n (i := 0) X rfl rfl dc_H_checkOperation_0 ?_
  refine go_if_lt (tgt := 9) X dc_H_checkOperation_1 (by decide) (fun h1 => ?_) (fun h1 => ?_)
  · exfalso
    have z := ho.1
    rw [iz_le, iz_0] at z
    rw [iz_lt, iz_0] at h1
    omega
  · refine go_iload_n (i := 0) X rfl rfl dc_H_checkOperation_4 ?_
    refine go_iconst (v := 2) X (by decide) dc_H_checkOperation_5 ?_
    refine go_icmp_le (tgt := 19) X dc_H_checkOperation_6 (by decide) (fun h6 => ?_) (fun h6 => ?_)
    · exact go_vret X hr dc_H_checkOperation_19 rfl rfl
    · exact absurd ho.2 h6
set_option maxHeartbeats 4000000 in
set_option maxRecDepth 20000 in
theorem tc_done (l : Launch) (D : va_G) (T : Nat → ClassId) (ad : Nat → Nat) (A : Nat → Prop) (nw : List Cond) (K n : Nat) {σ : ST_} {p : Nat} (hp : p < n) (hn : n ≤ 5)  : cc_ l D T ad K n A nw yn_H_done (.code yn_H_done cd_H_done 2 (some .int)) 1 [.ref (ad 0), .int (nI p)] σ σ (some (.int (σ 18 p))) := by
  have hpx : Ix_ (nI p) n p := Ix_n hp (by omega)
  refine go_in (by decide) (Nat.le_of_ble_eq_true rfl) (List.forall_mem_cons.mpr ⟨rfl, List.forall_mem_cons.mpr ⟨rfl, fun _ h => nomatch h⟩⟩) ?_
  intro P e s m args below meth c X hr hnm hN
  replace X : Cx_ P l e (rm_d 1) s m args below meth c cd_H_done 2 rn_H D cl_ (tys_ T) TG_ := X
  refine go_loc (L' := [(0, .ref (ad 0)), (1, .int (nI p))]) rfl ?_
  refine go_aload_n (i := 0) X rfl rfl dc_H_done_0 ?_
  refine go_iload_n (i := 1) X rfl rfl dc_H_done_1 ?_
  refine go_cVv (C := rn_H) (ci := 0) (i := 0) (n := 1) (rest := []) X hN (tc_checkProcess l D T ad A nw K n (σ := σ) (p := p) hp hn) ml_H_56 im_H_checkProcess sl_H_HcheckProcess ik_H co_H_checkProcess ⟨rfl, by decide, by decide, by decide +kernel⟩ ⟨rfl, rfl, by decide, by decide⟩ rfl (cw_h) rfl rfl (Nat.le_of_ble_eq_true rfl) dc_H_done_2 ⟨Nat.zero_le _, Nat.zero_le _⟩ ?_
  refine go_aload_n (i := 0) X rfl rfl dc_H_done_5 ?_
  refine gh_get X 0 (by decide) fl_H_49 rfl dc_H_done_6 ?_
  refine go_iload_n (i := 1) X rfl rfl dc_H_done_9 ?_
  refine gx_cl (k := p) X (by assumption) dc_H_done_10 ?_
  refine gc_get (v := .int (σ 18 (p))) X (by first | assumption | exact Ix_lt (by assumption)) 11 (by decide) fl_H_92 rfl dc_H_done_11 ?_
  exact go_iret X hr dc_H_done_14 rfl rfl
set_option maxHeartbeats 4000000 in
set_option maxRecDepth 20000 in
theorem tc_placeOf (l : Launch) (D : va_G) (T : Nat → ClassId) (ad : Nat → Nat) (A : Nat → Prop) (nw : List Cond) (K n : Nat) {σ : ST_} {p : Nat} (hp : p < n) (hn : n ≤ 5)  : cc_ l D T ad K n A nw yn_H_placeOf (.code yn_H_placeOf cd_H_placeOf 2 (some .int)) 1 [.ref (ad 0), .int (nI p)] σ σ (some (.int (σ 20 p))) := by
  have hpx : Ix_ (nI p) n p := Ix_n hp (by omega)
  refine go_in (by decide) (Nat.le_of_ble_eq_true rfl) (List.forall_mem_cons.mpr ⟨rfl, List.forall_mem_cons.mpr ⟨rfl, fun _ h => nomatch h⟩⟩) ?_
  intro P e s m args below meth c X hr hnm hN
  replace X : Cx_ P l e (rm_d 1) s m args below meth c cd_H_placeOf 2 rn_H D cl_ (tys_ T) TG_ := X
  refine go_loc (L' := [(0, .ref (ad 0)), (1, .int (nI p))]) rfl ?_
  refine go_aload_n (i := 0) X rfl rfl dc_H_placeOf_0 ?_
  refine go_iload_n (i := 1) X rfl rfl dc_H_placeOf_1 ?_
  refine go_cVv (C := rn_H) (ci := 0) (i := 0) (n := 1) (rest := []) X hN (tc_checkProcess l D T ad A nw K n (σ := σ) (p := p) hp hn) ml_H_56 im_H_checkProcess sl_H_HcheckProcess ik_H co_H_checkProcess ⟨rfl, by decide, by decide, by decide +kernel⟩ ⟨rfl, rfl, by decide, by decide⟩ rfl (cw_h) rfl rfl (Nat.le_of_ble_eq_true rfl) dc_H_placeOf_2 ⟨Nat.zero_le _, Nat.zero_le _⟩ ?_
  refine go_aload_n (i := 0) X rfl rfl dc_H_placeOf_5 ?_
  refine gh_get X 0 (by decide) fl_H_49 rfl dc_H_placeOf_6 ?_
  refine go_iload_n (i := 1) X rfl rfl dc_H_placeOf_9 ?_
  refine gx_cl (k := p) X (by assumption) dc_H_placeOf_10 ?_
  refine gc_get (v := .int (σ 20 (p))) X (by first | assumption | exact Ix_lt (by assumption)) 13 (by decide) fl_H_100 rfl dc_H_placeOf_11 ?_
  exact go_iret X hr dc_H_placeOf_14 rfl rfl
set_option maxHeartbeats 4000000 in
set_option maxRecDepth 20000 in
theorem tc_stage (l : Launch) (D : va_G) (T : Nat → ClassId) (ad : Nat → Nat) (A : Nat → Prop) (nw : List Cond) (K n : Nat) {σ : ST_} {p : Nat} (hp : p < n) (hn : n ≤ 5)  : cc_ l D T ad K n A nw yn_H_stage (.code yn_H_stage cd_H_stage 2 (some .int)) 1 [.ref (ad 0), .int (nI p)] σ σ (some (.int (σ 10 p))) := by
  have hpx : Ix_ (nI p) n p := Ix_n hp (by omega)
  refine go_in (by decide) (Nat.le_of_ble_eq_true rfl) (List.forall_mem_cons.mpr ⟨rfl, List.forall_mem_cons.mpr ⟨rfl, fun _ h => nomatch h⟩⟩) ?_
  intro P e s m args below meth c X hr hnm hN
  replace X : Cx_ P l e (rm_d 1) s m args below meth c cd_H_stage 2 rn_H D cl_ (tys_ T) TG_ := X
  refine go_loc (L' := [(0, .ref (ad 0)), (1, .int (nI p))]) rfl ?_
  refine go_aload_n (i := 0) X rfl rfl dc_H_stage_0 ?_
  refine go_iload_n (i := 1) X rfl rfl dc_H_stage_1 ?_
  refine go_cVv (C := rn_H) (ci := 0) (i := 0) (n := 1) (rest := []) X hN (tc_checkProcess l D T ad A nw K n (σ := σ) (p := p) hp hn) ml_H_56 im_H_checkProcess sl_H_HcheckProcess ik_H co_H_checkProcess ⟨rfl, by decide, by decide, by decide +kernel⟩ ⟨rfl, rfl, by decide, by decide⟩ rfl (cw_h) rfl rfl (Nat.le_of_ble_eq_true rfl) dc_H_stage_2 ⟨Nat.zero_le _, Nat.zero_le _⟩ ?_
  refine go_aload_n (i := 0) X rfl rfl dc_H_stage_5 ?_
  refine gh_get X 0 (by decide) fl_H_49 rfl dc_H_stage_6 ?_
  refine go_iload_n (i := 1) X rfl rfl dc_H_stage_9 ?_
  refine gx_cl (k := p) X (by assumption) dc_H_stage_10 ?_
  refine gc_get (v := .int (σ 10 (p))) X (by first | assumption | exact Ix_lt (by assumption)) 1 (by decide) fl_H_63 rfl dc_H_stage_11 ?_
  exact go_iret X hr dc_H_stage_14 rfl rfl
set_option maxHeartbeats 4000000 in
set_option maxRecDepth 20000 in
theorem tc_head (l : Launch) (D : va_G) (T : Nat → ClassId) (ad : Nat → Nat) (A : Nat → Prop) (nw : List Cond) (K n : Nat) {σ : ST_} {p : Nat} (hp : p < n) (hn : n ≤ 5) (h8 : Ix_ (σ 8 p) 32 (ix_ (σ 8 p)))  : cc_ l D T ad K n A nw yn_H_head (.code yn_H_head cd_H_head 2 (some .int)) 1 [.ref (ad 0), .int (nI p)] σ σ (some (.int (σ 2 (ix_ (σ 8 p))))) := by
  have hpx : Ix_ (nI p) n p := Ix_n hp (by omega)
  refine go_in (by decide) (Nat.le_of_ble_eq_true rfl) (List.forall_mem_cons.mpr ⟨rfl, List.forall_mem_cons.mpr ⟨rfl, fun _ h => nomatch h⟩⟩) ?_
  intro P e s m args below meth c X hr hnm hN
  replace X : Cx_ P l e (rm_d 1) s m args below meth c cd_H_head 2 rn_H D cl_ (tys_ T) TG_ := X
  refine go_loc (L' := [(0, .ref (ad 0)), (1, .int (nI p))]) rfl ?_
  refine go_aload_n (i := 0) X rfl rfl dc_H_head_0 ?_
  refine go_iload_n (i := 1) X rfl rfl dc_H_head_1 ?_
  refine go_cVv (C := rn_H) (ci := 0) (i := 0) (n := 1) (rest := []) X hN (tc_checkProcess l D T ad A nw K n (σ := σ) (p := p) hp hn) ml_H_56 im_H_checkProcess sl_H_HcheckProcess ik_H co_H_checkProcess ⟨rfl, by decide, by decide, by decide +kernel⟩ ⟨rfl, rfl, by decide, by decide⟩ rfl (cw_h) rfl rfl (Nat.le_of_ble_eq_true rfl) dc_H_head_2 ⟨Nat.zero_le _, Nat.zero_le _⟩ ?_
  refine go_aload_n (i := 0) X rfl rfl dc_H_head_5 ?_
  refine gh_get X 0 (by decide) fl_H_49 rfl dc_H_head_6 ?_
  refine go_iload_n (i := 1) X rfl rfl dc_H_head_9 ?_
  refine gx_cl (k := p) X (by assumption) dc_H_head_10 ?_
  refine gc_getR (x := σ 8 (p)) (j := ix_ (σ 8 (p))) X (by first | assumption | exact Ix_lt (by assumption)) 6 (by decide) fl_H_126 rfl (by assumption) dc_H_head_11 ?_
  refine gn_get (v := .int (σ 2 (ix_ (σ 8 (p))))) X (by first | assumption | exact Ix_lt (by assumption)) 5 (by decide) fl_H_43 rfl dc_H_head_14 ?_
  exact go_iret X hr dc_H_head_17 rfl rfl
set_option maxHeartbeats 4000000 in
set_option maxRecDepth 20000 in
theorem tc_answer (l : Launch) (D : va_G) (T : Nat → ClassId) (ad : Nat → Nat) (A : Nat → Prop) (nw : List Cond) (K n : Nat) {σ : ST_} {p : Nat} (hp : p < n) (hn : n ≤ 5) (hd : ¬ σ 18 p = 0)  : cc_ l D T ad K n A nw yn_H_answer (.code yn_H_answer cd_H_answer 2 (some .int)) 1 [.ref (ad 0), .int (nI p)] σ σ (some (.int (σ 19 p))) := by
  have hpx : Ix_ (nI p) n p := Ix_n hp (by omega)
  refine go_in (by decide) (Nat.le_of_ble_eq_true rfl) (List.forall_mem_cons.mpr ⟨rfl, List.forall_mem_cons.mpr ⟨rfl, fun _ h => nomatch h⟩⟩) ?_
  intro P e s m args below meth c X hr hnm hN
  replace X : Cx_ P l e (rm_d 1) s m args below meth c cd_H_answer 2 rn_H D cl_ (tys_ T) TG_ := X
  refine go_loc (L' := [(0, .ref (ad 0)), (1, .int (nI p))]) rfl ?_
  refine go_aload_n (i := 0) X rfl rfl dc_H_answer_0 ?_
  refine go_iload_n (i := 1) X rfl rfl dc_H_answer_1 ?_
  refine go_cVv (C := rn_H) (ci := 0) (i := 0) (n := 1) (rest := []) X hN (tc_checkProcess l D T ad A nw K n (σ := σ) (p := p) hp hn) ml_H_56 im_H_checkProcess sl_H_HcheckProcess ik_H co_H_checkProcess ⟨rfl, by decide, by decide, by decide +kernel⟩ ⟨rfl, rfl, by decide, by decide⟩ rfl (cw_h) rfl rfl (Nat.le_of_ble_eq_true rfl) dc_H_answer_2 ⟨Nat.zero_le _, Nat.zero_le _⟩ ?_
  refine go_aload_n (i := 0) X rfl rfl dc_H_answer_5 ?_
  refine gh_get X 0 (by decide) fl_H_49 rfl dc_H_answer_6 ?_
  refine go_iload_n (i := 1) X rfl rfl dc_H_answer_9 ?_
  refine gx_cl (k := p) X (by assumption) dc_H_answer_10 ?_
  refine gc_get (v := .int (σ 18 (p))) X (by first | assumption | exact Ix_lt (by assumption)) 11 (by decide) fl_H_92 rfl dc_H_answer_11 ?_
  refine go_if_ne (tgt := 27) X dc_H_answer_14 (by decide) (fun h14 => ?_) (fun h14 => ?_)
  · refine go_aload_n (i := 0) X rfl rfl dc_H_answer_27 ?_
    refine gh_get X 0 (by decide) fl_H_49 rfl dc_H_answer_28 ?_
    refine go_iload_n (i := 1) X rfl rfl dc_H_answer_31 ?_
    refine gx_cl (k := p) X (by assumption) dc_H_answer_32 ?_
    refine gc_get (v := .int (σ 19 (p))) X (by first | assumption | exact Ix_lt (by assumption)) 12 (by decide) fl_H_97 rfl dc_H_answer_33 ?_
    exact go_iret X hr dc_H_answer_36 rfl rfl
  · exact absurd h14 hd
set_option maxHeartbeats 4000000 in
set_option maxRecDepth 20000 in
theorem tc_call (l : Launch) (D : va_G) (T : Nat → ClassId) (ad : Nat → Nat) (A : Nat → Prop) (nw : List Cond) (K n : Nat) {σ : ST_} {p : Nat} (hp : p < n) (hn : n ≤ 5) {op a b : Int32} (ho : 0 ≤ op ∧ op ≤ 2) (hs : σ 10 p = -1)  : cc_ l D T ad K n A nw yn_H_call (.code yn_H_call cd_H_call 6 none) 1 [.ref (ad 0), .int (nI p), .int op, .int a, .int b] σ (hc_call σ p op a b) none := by
  have hpx : Ix_ (nI p) n p := Ix_n hp (by omega)
  refine go_in (by decide) (Nat.le_of_ble_eq_true rfl) (List.forall_mem_cons.mpr ⟨rfl, List.forall_mem_cons.mpr ⟨rfl, List.forall_mem_cons.mpr ⟨rfl, List.forall_mem_cons.mpr ⟨rfl, List.forall_mem_cons.mpr ⟨rfl, fun _ h => nomatch h⟩⟩⟩⟩⟩) ?_
  intro P e s m args below meth c X hr hnm hN
  replace X : Cx_ P l e (rm_d 1) s m args below meth c cd_H_call 6 rn_H D cl_ (tys_ T) TG_ := X
  refine go_loc (L' := [(0, .ref (ad 0)), (1, .int (nI p)), (2, .int op), (3, .int a), (4, .int b)]) rfl ?_
  refine go_aload_n (i := 0) X rfl rfl dc_H_call_0 ?_
  refine go_iload_n (i := 1) X rfl rfl dc_H_call_1 ?_
  refine go_cVv (C := rn_H) (ci := 0) (i := 0) (n := 1) (rest := []) X hN (tc_checkProcess l D T ad A nw K n (σ := σ) (p := p) hp hn) ml_H_56 im_H_checkProcess sl_H_HcheckProcess ik_H co_H_checkProcess ⟨rfl, by decide, by decide, by decide +kernel⟩ ⟨rfl, rfl, by decide, by decide⟩ rfl (cw_h) rfl rfl (Nat.le_of_ble_eq_true rfl) dc_H_call_2 ⟨Nat.zero_le _, Nat.zero_le _⟩ ?_
  refine go_iload_n (i := 2) X rfl rfl dc_H_call_5 ?_
  refine go_callT (n := 1) (rest := []) X hN (tc_checkOperation l D T ad A nw K n (σ := σ) (op := op) ho) ml_H_60 sm_H_checkOperation ik_H co_H_checkOperation ⟨by decide, by decide, by decide +kernel⟩ ⟨rfl, rfl, by decide, by decide⟩ rfl rfl (Nat.le_of_ble_eq_true rfl) dc_H_call_6 ⟨Nat.zero_le _, Nat.zero_le _⟩ ?_
  refine go_aload_n (i := 0) X rfl rfl dc_H_call_9 ?_
  refine gh_get X 0 (by decide) fl_H_49 rfl dc_H_call_10 ?_
  refine go_iload_n (i := 1) X rfl rfl dc_H_call_13 ?_
  refine gx_cl (k := p) X (by assumption) dc_H_call_14 ?_
  refine go_astore (i := 5) X (by decide) dc_H_call_15 ?_
  refine go_aload (i := 5) X rfl dc_H_call_17 ?_
  refine gc_get (v := .int (σ 10 (p))) X (by first | assumption | exact Ix_lt (by assumption)) 1 (by decide) fl_H_63 rfl dc_H_call_19 ?_
  refine go_iconst (v := (-1)) X (by decide) dc_H_call_22 ?_
  refine go_icmp_eq (tgt := 36) X dc_H_call_23 (by decide) (fun h23 => ?_) (fun h23 => ?_)
  · refine go_aload (i := 5) X rfl dc_H_call_36 ?_
    refine go_iload_n (i := 2) X rfl rfl dc_H_call_38 ?_
    refine gc_put X 2 15 (by first | assumption | exact Ix_lt (by assumption)) (by decide) fl_H_73 rfl (tk_C 2 (by decide)) rfl rfl (cu_15 _ _) dc_H_call_39 ?_
    refine go_aload (i := 5) X rfl dc_H_call_42 ?_
    refine go_iload_n (i := 3) X rfl rfl dc_H_call_44 ?_
    refine gc_put X 3 16 (by first | assumption | exact Ix_lt (by assumption)) (by decide) fl_H_76 rfl (tk_C 3 (by decide)) rfl rfl (cu_16 _ _) dc_H_call_45 ?_
    refine go_aload (i := 5) X rfl dc_H_call_48 ?_
    refine go_iload (i := 4) X rfl dc_H_call_50 ?_
    refine gc_put X 4 17 (by first | assumption | exact Ix_lt (by assumption)) (by decide) fl_H_79 rfl (tk_C 4 (by decide)) rfl rfl (cu_17 _ _) dc_H_call_52 ?_
    refine go_aload (i := 5) X rfl dc_H_call_55 ?_
    refine go_iconst (v := 0) X (by decide) dc_H_call_57 ?_
    refine gc_put X 1 10 (by first | assumption | exact Ix_lt (by assumption)) (by decide) fl_H_63 rfl (tk_C 1 (by decide)) rfl rfl (cu_10 _ _) dc_H_call_58 ?_
    exact go_vret X hr dc_H_call_61 rfl rfl
  · exact absurd hs h23
set_option maxHeartbeats 4000000 in
set_option maxRecDepth 20000 in
theorem tc_step (l : Launch) (D : va_G) (T : Nat → ClassId) (ad : Nat → Nat) (A : Nat → Prop) (nw : List Cond) (K n : Nat) {σ : ST_} {p : Nat} (hp : p < n) (hn : n ≤ 5) (hK : K < 4) (h0 : 0 < n) (hnw : ∀ w ∈ nwc_, w ∈ nw) (hO : Oc_ n σ p)  : cc_ l D T ad K n A nw yn_H_step (.code yn_H_step cd_H_step 2 (some .int)) 4 [.ref (ad 0), .int (nI p)] σ (hc_one K n σ p).1 (some (.int (hc_one K n σ p).2)) := by
  have hpx : Ix_ (nI p) n p := Ix_n hp (by omega)
  refine go_in (by decide) (Nat.le_of_ble_eq_true rfl) (List.forall_mem_cons.mpr ⟨rfl, List.forall_mem_cons.mpr ⟨rfl, fun _ h => nomatch h⟩⟩) ?_
  intro P e s m args below meth c X hr hnm hN
  replace X : Cx_ P l e (rm_d 4) s m args below meth c cd_H_step 2 rn_H D cl_ (tys_ T) TG_ := X
  refine go_loc (L' := [(0, .ref (ad 0)), (1, .int (nI p))]) rfl ?_
  refine go_aload_n (i := 0) X rfl rfl dc_H_step_0 ?_
  refine go_iload_n (i := 1) X rfl rfl dc_H_step_1 ?_
  refine go_cVv (C := rn_H) (ci := 0) (i := 0) (n := 1) (rest := []) X hN (tc_checkProcess l D T ad A nw K n (σ := σ) (p := p) hp hn) ml_H_56 im_H_checkProcess sl_H_HcheckProcess ik_H co_H_checkProcess ⟨rfl, by decide, by decide, by decide +kernel⟩ ⟨rfl, rfl, by decide, by decide⟩ rfl (cw_h) rfl rfl (Nat.le_of_ble_eq_true rfl) dc_H_step_2 ⟨Nat.zero_le _, Nat.zero_le _⟩ ?_
  refine go_aload_n (i := 0) X rfl rfl dc_H_step_5 ?_
  refine go_aload_n (i := 0) X rfl rfl dc_H_step_6 ?_
  refine gh_get X 0 (by decide) fl_H_49 rfl dc_H_step_7 ?_
  refine go_iload_n (i := 1) X rfl rfl dc_H_step_10 ?_
  refine gx_cl (k := p) X (by assumption) dc_H_step_11 ?_
  refine go_cV (C := rn_H) (ci := 0) (i := 0) (n := 1) (rest := []) X hN (tc_advance l D T ad A nw K n (σ := σ) (p := p) hp hK hn h0 hnw hO) ml_H_82 im_H_advance sl_H_Hadvance ik_H co_H_advance ⟨rfl, by decide, by decide, by decide +kernel⟩ ⟨rfl, rfl, by decide, by decide⟩ rfl (cw_h) rfl rfl (Nat.le_of_ble_eq_true rfl) dc_H_step_12 ⟨Nat.zero_le _, Nat.zero_le _⟩ ?_
  exact go_iret X hr dc_H_step_15 rfl rfl
set_option maxHeartbeats 4000000 in
set_option maxRecDepth 20000 in
theorem tc_plain (l : Launch) (D : va_G) (T : Nat → ClassId) (ad : Nat → Nat) (A : Nat → Prop) (nw : List Cond) (K n : Nat) {σ : ST_} {op a b : Int32} (hK : K < 4) (hnw : ∀ w ∈ nwc_, w ∈ nw) (ho : 0 ≤ op ∧ op ≤ 2) (hz : 0 ≤ (σ 33 2).toInt ∧ (σ 33 2).toInt ≤ 8)  : cc_ l D T ad K n A nw yn_H_plain (.code yn_H_plain cd_H_plain 4 (some .int)) 2 [.ref (ad 0), .int op, .int a, .int b] σ (hc_perf K 2 op a b σ) (some (.int (hc_perfR K 2 op a b σ))) := by
  have hop : op = 0 ∨ op = 1 ∨ op = 2 := by have z1 := ho.1; have z2 := ho.2; rw [iz_le, iz_0] at z1; rw [iz_le, iz_2] at z2; simp only [iz_eq, iz_0, iz_1, iz_2]; omega
  refine go_in (by decide) (Nat.le_of_ble_eq_true rfl) (List.forall_mem_cons.mpr ⟨rfl, List.forall_mem_cons.mpr ⟨rfl, List.forall_mem_cons.mpr ⟨rfl, List.forall_mem_cons.mpr ⟨rfl, fun _ h => nomatch h⟩⟩⟩⟩) ?_
  intro P e s m args below meth c X hr hnm hN
  replace X : Cx_ P l e (rm_d 2) s m args below meth c cd_H_plain 4 rn_H D cl_ (tys_ T) TG_ := X
  refine go_loc (L' := [(0, .ref (ad 0)), (1, .int op), (2, .int a), (3, .int b)]) rfl ?_
  refine go_iload_n (i := 1) X rfl rfl dc_H_plain_0 ?_
  refine go_callT (n := 1) (rest := []) X hN (tc_checkOperation l D T ad A nw K n (σ := σ) (op := op) ho) ml_H_60 sm_H_checkOperation ik_H co_H_checkOperation ⟨by decide, by decide, by decide +kernel⟩ ⟨rfl, rfl, by decide, by decide⟩ rfl rfl (Nat.le_of_ble_eq_true rfl) dc_H_plain_1 ⟨Nat.zero_le _, Nat.zero_le _⟩ ?_
  refine go_aload_n (i := 0) X rfl rfl dc_H_plain_4 ?_
  refine gh_get X 4 (by decide) fl_H_29 rfl dc_H_plain_5 ?_
  refine go_iload_n (i := 1) X rfl rfl dc_H_plain_8 ?_
  refine go_iload_n (i := 2) X rfl rfl dc_H_plain_9 ?_
  refine go_iload_n (i := 3) X rfl rfl dc_H_plain_10 ?_
  refine go_perf (q := 2) (σ := σ) X hN ml_H_150 hnw hK (by decide) hz hop (by decide) (by decide) (Nat.le_of_ble_eq_true rfl) dc_H_plain_11 ⟨Nat.zero_le _, Nat.zero_le _⟩ ?_
  exact go_iret X hr dc_H_plain_14 rfl rfl
set_option maxHeartbeats 4000000 in
set_option maxRecDepth 20000 in
theorem tc_peek (l : Launch) (D : va_G) (T : Nat → ClassId) (ad : Nat → Nat) (A : Nat → Prop) (nw : List Cond) (K n : Nat) {σ : ST_} {op a b : Int32} (hK : K < 4) (hnw : ∀ w ∈ nwc_, w ∈ nw) (ho : 0 ≤ op ∧ op ≤ 2) (hz : 0 ≤ (σ 33 0).toInt ∧ (σ 33 0).toInt ≤ 8)  : cc_ l D T ad K n A nw yn_H_peek (.code yn_H_peek cd_H_peek 4 (some .int)) 2 [.ref (ad 0), .int op, .int a, .int b] σ (hc_peek K op a b σ) (some (.int (hc_peekR K op a b σ))) := by
  have hop : op = 0 ∨ op = 1 ∨ op = 2 := by have z1 := ho.1; have z2 := ho.2; rw [iz_le, iz_0] at z1; rw [iz_le, iz_2] at z2; simp only [iz_eq, iz_0, iz_1, iz_2]; omega
  refine go_in (by decide) (Nat.le_of_ble_eq_true rfl) (List.forall_mem_cons.mpr ⟨rfl, List.forall_mem_cons.mpr ⟨rfl, List.forall_mem_cons.mpr ⟨rfl, List.forall_mem_cons.mpr ⟨rfl, fun _ h => nomatch h⟩⟩⟩⟩) ?_
  intro P e s m args below meth c X hr hnm hN
  replace X : Cx_ P l e (rm_d 2) s m args below meth c cd_H_peek 4 rn_H D cl_ (tys_ T) TG_ := X
  refine go_loc (L' := [(0, .ref (ad 0)), (1, .int op), (2, .int a), (3, .int b)]) rfl ?_
  refine go_iload_n (i := 1) X rfl rfl dc_H_peek_0 ?_
  refine go_callT (n := 1) (rest := []) X hN (tc_checkOperation l D T ad A nw K n (σ := σ) (op := op) ho) ml_H_60 sm_H_checkOperation ik_H co_H_checkOperation ⟨by decide, by decide, by decide +kernel⟩ ⟨rfl, rfl, by decide, by decide⟩ rfl rfl (Nat.le_of_ble_eq_true rfl) dc_H_peek_1 ⟨Nat.zero_le _, Nat.zero_le _⟩ ?_
  refine go_aload_n (i := 0) X rfl rfl dc_H_peek_4 ?_
  refine gh_get X 3 (by decide) fl_H_26 rfl dc_H_peek_5 ?_
  refine go_aload_n (i := 0) X rfl rfl dc_H_peek_8 ?_
  refine gh_get X 2 (by decide) fl_H_22 rfl dc_H_peek_9 ?_
  refine go_copyF X hN ml_H_144 hK (by decide) (by decide) (Nat.le_of_ble_eq_true rfl) dc_H_peek_12 ⟨Nat.zero_le _, Nat.zero_le _⟩ ?_
  refine go_aload_n (i := 0) X rfl rfl dc_H_peek_15 ?_
  refine gh_get X 3 (by decide) fl_H_26 rfl dc_H_peek_16 ?_
  refine go_iload_n (i := 1) X rfl rfl dc_H_peek_19 ?_
  refine go_iload_n (i := 2) X rfl rfl dc_H_peek_20 ?_
  refine go_iload_n (i := 3) X rfl rfl dc_H_peek_21 ?_
  refine go_perf (q := 1) (σ := hc_copy σ) X hN ml_H_150 hnw hK (by decide) hz hop (by decide) (by decide) (Nat.le_of_ble_eq_true rfl) dc_H_peek_22 ⟨Nat.zero_le _, Nat.zero_le _⟩ ?_
  exact go_iret X hr dc_H_peek_25 rfl rfl
set_option maxHeartbeats 4000000 in
set_option maxRecDepth 20000 in
theorem tc_node (l : Launch) (D : va_G) (T : Nat → ClassId) (ad : Nat → Nat) (A : Nat → Prop) (nw : List Cond) (K n : Nat) {σ : ST_} {x y : Int32} {k : Nat} (hf : hc_find σ x = some k) (hk : k < 32) (hy : 0 ≤ y ∧ y ≤ 3)  : cc_ l D T ad K n A nw yn_H_node (.code yn_H_node cd_H_node 4 (some .int)) 2 [.ref (ad 0), .int x, .int y] σ σ (some (.int (hc_part σ k y))) := by
  have hM := tc_findOnLog l D T ad A nw K n (σ := σ) (x := x)
  rw [hf] at hM
  refine go_in (by decide) (Nat.le_of_ble_eq_true rfl) (List.forall_mem_cons.mpr ⟨rfl, List.forall_mem_cons.mpr ⟨rfl, List.forall_mem_cons.mpr ⟨rfl, fun _ h => nomatch h⟩⟩⟩) ?_
  intro P e s m args below meth c X hr hnm hN
  replace X : Cx_ P l e (rm_d 2) s m args below meth c cd_H_node 4 rn_H D cl_ (tys_ T) TG_ := X
  refine go_loc (L' := [(0, .ref (ad 0)), (1, .int x), (2, .int y)]) rfl ?_
  refine go_aload_n (i := 0) X rfl rfl dc_H_node_0 ?_
  refine go_iload_n (i := 1) X rfl rfl dc_H_node_1 ?_
  refine go_cV (v := .ref (ad (k + 8))) (C := rn_H) (ci := 0) (i := 0) (n := 1) (rest := []) X hN (hM) ml_H_111 im_H_findOnLog sl_H_HfindOnLog ik_H co_H_findOnLog ⟨rfl, by decide, by decide, by decide +kernel⟩ ⟨rfl, rfl, by decide, by decide⟩ rfl (cw_h) rfl rfl (Nat.le_of_ble_eq_true rfl) dc_H_node_2 ⟨Nat.zero_le _, Nat.zero_le _⟩ ?_
  refine go_astore_n (i := 3) X rfl (by decide) dc_H_node_5 ?_
  refine go_aload_n (i := 3) X rfl rfl dc_H_node_6 ?_
  refine go_ifnonnull (tgt := 20) X dc_H_node_7 (by decide) ?_
  refine go_iload_n (i := 2) X rfl rfl dc_H_node_20 ?_
  refine go_if_lt (tgt := 29) X dc_H_node_21 (by decide) (fun h21 => ?_) (fun h21 => ?_)
  · exfalso
    have z := hy.1
    rw [iz_le, iz_0] at z
    rw [iz_lt, iz_0] at h21
    omega
  · refine go_iload_n (i := 2) X rfl rfl dc_H_node_24 ?_
    refine go_iconst (v := 3) X (by decide) dc_H_node_25 ?_
    refine go_icmp_le (tgt := 39) X dc_H_node_26 (by decide) (fun h26 => ?_) (fun h26 => ?_)
    · refine go_aload_n (i := 3) X rfl rfl dc_H_node_39 ?_
      refine go_iload_n (i := 2) X rfl rfl dc_H_node_40 ?_
      refine go_cV (C := rn_N) (ci := 1) (i := k + 8) (n := 1) (rest := []) X hN (tc_part l D T ad A nw K n (σ := σ) (k := k) (x := y) hk (by have z1 := hy.1; have z2 := hy.2; rw [iz_le, iz_0] at z1; rw [iz_le, iz_3] at z2; omega)) ml_H_122 im_N_part sl_N_Npart ik_N co_N_part ⟨rfl, by decide, by decide, by decide +kernel⟩ ⟨rfl, rfl, by decide, by decide⟩ rfl (cw_n hk) rfl rfl (Nat.le_of_ble_eq_true rfl) dc_H_node_41 ⟨Nat.zero_le _, Nat.zero_le _⟩ ?_
      exact go_iret X hr dc_H_node_44 rfl rfl
    · exact absurd hy.2 h26
set_option maxHeartbeats 4000000 in
set_option maxRecDepth 20000 in
theorem tc_run (l : Launch) (D : va_G) (T : Nat → ClassId) (ad : Nat → Nat) (A : Nat → Prop) (nw : List Cond) (K n : Nat) {σ : ST_} {x : Int32} {S : Nat} {I : ST_ → Prop} (hK : K < 4) (hn : n ≤ 5) (h0 : 0 < n) (hnw : ∀ w ∈ nwc_, w ∈ nw) (hs : 1 ≤ S ∧ S ≤ 1000) (hR : Rc_ K n I) (hI0 : I σ)  : cc_ l D T ad K n A nw yn_H_run (.code yn_H_run cd_H_run 6 (some .int)) 4 [.ref (ad 0), .int x, .int (nI S)] σ (hc_run K n S x 0 σ).1 (some (.int (hc_run K n S x 0 σ).2)) := by
  have hzn : ¬ nI n = 0 := by rw [iz_eq, iz_0, iz_nI (by omega)]; omega
  refine go_in (by decide) (Nat.le_of_ble_eq_true rfl) (List.forall_mem_cons.mpr ⟨rfl, List.forall_mem_cons.mpr ⟨rfl, List.forall_mem_cons.mpr ⟨rfl, fun _ h => nomatch h⟩⟩⟩) ?_
  intro P e s m args below meth c X hr hnm hN
  replace X : Cx_ P l e (rm_d 4) s m args below meth c cd_H_run 6 rn_H D cl_ (tys_ T) TG_ := X
  refine go_loc (L' := [(0, .ref (ad 0)), (1, .int x), (2, .int (nI S))]) rfl ?_
  refine go_iload_n (i := 2) X rfl rfl dc_H_run_0 ?_
  refine go_iconst (v := 1) X (by decide) dc_H_run_1 ?_
  refine go_icmp_lt (tgt := 12) X dc_H_run_2 (by decide) (fun h2 => ?_) (fun h2 => ?_)
  · exfalso
    rw [iz_lt, iz_1, iz_nI (by omega)] at h2
    omega
  · refine go_iload_n (i := 2) X rfl rfl dc_H_run_5 ?_
    refine go_sipush (v := 1000) X (by decide) dc_H_run_6 ?_
    refine go_icmp_le (tgt := 22) X dc_H_run_9 (by decide) (fun h9 => ?_) (fun h9 => ?_)
    · refine go_iload_n (i := 1) X rfl rfl dc_H_run_22 ?_
      refine go_istore_n (i := 3) X rfl (by decide) dc_H_run_23 ?_
      refine go_iconst (v := 0) X (by decide) dc_H_run_24 ?_
      refine go_istore (i := 4) X (by decide) dc_H_run_25 ?_
      refine go_iconst (v := nI 0) X (by decide) dc_H_run_27 ?_
      refine go_istore (i := 5) X (by decide) dc_H_run_28 ?_
      refine go_loc (L' := [(0, .ref (ad 0)), (1, .int x), (2, .int (nI S)), (3, .int x), (4, .int 0), (5, .int (nI 0))]) rfl ?_
      refine (lp_up (P := fun j => ∀ (x9 r9 : Int32) (σ9 : ST_), I σ9 → hc_run K n (S - j) x9 r9 σ9 = hc_run K n S x 0 σ → Go_ P l e (rm_d 4) s m args below meth c D cl_ A 6 0 0 _ (cW_ T ad K n σ9) 30 [(0, .ref (ad 0)), (1, .int x), (2, .int (nI S)), (3, .int x9), (4, .int r9), (5, .int (nI j))] []) S (fun j hj ih x9 r9 σ9 hI9 hE => ?_)) 0 (Nat.zero_le _) x 0 σ hI0 rfl
      refine go_iload (i := 5) X rfl dc_H_run_30 ?_
      refine go_iload_n (i := 2) X rfl rfl dc_H_run_32 ?_
      refine go_icmp_ge (tgt := 77) X dc_H_run_33 (by decide) (fun h33 => ?_) (fun h33 => ?_)
      · have ej : j = S := by rw [iz_le, iz_nI (by omega), iz_nI (by omega)] at h33; omega
        subst ej
        rw [Nat.sub_self] at hE
        have hE2 : (σ9, r9) = hc_run K n j x 0 σ := hE
        refine go_iload (i := 4) X rfl dc_H_run_77 ?_
        exact go_iret X hr dc_H_run_79 (congrArg (cW_ T ad K n) (by rw [← hE2])) (congrArg some (congrArg Value.int (by rw [← hE2])))
      · have hlt : j < S := by rw [iz_le, iz_nI (by omega), iz_nI (by omega)] at h33; omega
        obtain ⟨q, hq, e1, e2⟩ := rq_lt h0 hn (rx_ x9)
        have hqx : Ix_ (nI q) n q := Ix_n hq (by omega)
        obtain ⟨hO, hI2⟩ := hR σ9 hI9 q hq
        have hS : hc_run K n (S - j) x9 r9 σ9 = hc_run K n (S - (j + 1)) (rx_ x9) (if (hc_one K n σ9 q).2 = 1 then r9 + 1 else r9) (hc_one K n σ9 q).1 := by
          rw [show S - j = S - (j + 1) + 1 by omega]
          show hc_run K n (S - (j + 1)) (rx_ x9) (if (hc_one K n σ9 (rq_ n (rx_ x9))).2 = 1 then r9 + 1 else r9) (hc_one K n σ9 (rq_ n (rx_ x9))).1 = _
          rw [e1]
        rw [hS] at hE
        refine go_iload_n (i := 3) X rfl rfl dc_H_run_36 ?_
        refine go_ldc X kc_H_91 dc_H_run_37 ?_
        refine go_imul X dc_H_run_39 ?_
        refine go_sipush (v := 12345) X (by decide) dc_H_run_40 ?_
        refine go_iadd X dc_H_run_43 ?_
        refine go_istore_n (i := 3) X rfl (by decide) dc_H_run_44 ?_
        refine go_aload_n (i := 0) X rfl rfl dc_H_run_45 ?_
        refine go_aload_n (i := 0) X rfl rfl dc_H_run_46 ?_
        refine gh_get X 0 (by decide) fl_H_49 rfl dc_H_run_47 ?_
        refine go_iload_n (i := 3) X rfl rfl dc_H_run_50 ?_
        refine go_bipush (v := 16) X (by decide) dc_H_run_51 ?_
        refine go_iushr X dc_H_run_53 ?_
        refine go_aload_n (i := 0) X rfl rfl dc_H_run_54 ?_
        refine gh_get X 0 (by decide) fl_H_49 rfl dc_H_run_55 ?_
        refine gx_lc X dc_H_run_58 ?_
        refine go_irem X hzn dc_H_run_59 ?_
        refine go_eqs (st' := [.int (nI q), .ref (ad 40), .ref (ad 0)]) (by rw [show (x9 * 1103515245 + 12345) = rx_ x9 from rfl, e2]) ?_
        refine gx_cl (k := q) X (by assumption) dc_H_run_60 ?_
        refine go_cV (C := rn_H) (ci := 0) (i := 0) (n := 1) (rest := []) X hN (tc_advance l D T ad A nw K n (σ := σ9) (p := q) hq hK hn h0 hnw hO) ml_H_82 im_H_advance sl_H_Hadvance ik_H co_H_advance ⟨rfl, by decide, by decide, by decide +kernel⟩ ⟨rfl, rfl, by decide, by decide⟩ rfl (cw_h) rfl rfl (Nat.le_of_ble_eq_true rfl) dc_H_run_61 ⟨Nat.zero_le _, Nat.zero_le _⟩ ?_
        refine go_iconst (v := 1) X (by decide) dc_H_run_64 ?_
        refine go_icmp_ne (tgt := 71) X dc_H_run_65 (by decide) (fun h65 => ?_) (fun h65 => ?_)
        · rw [if_neg h65] at hE
          refine go_iinc (i := 5) (v := nI (j + 1)) X rfl (by rw [lit1]; exact nI_1 j) (by decide) dc_H_run_71 ?_
          refine go_goto (tgt := 30) X dc_H_run_74 (by decide) ?_
          refine go_loc (L' := [(0, .ref (ad 0)), (1, .int x), (2, .int (nI S)), (3, .int (rx_ x9)), (4, .int r9), (5, .int (nI (j + 1)))]) rfl ?_
          exact ih hlt _ _ _ hI2 hE
        · rw [if_pos h65] at hE
          refine go_iinc (i := 4) (v := r9 + 1) X rfl (by rw [lit1]) (by decide) dc_H_run_68 ?_
          refine go_iinc (i := 5) (v := nI (j + 1)) X rfl (by rw [lit1]; exact nI_1 j) (by decide) dc_H_run_71 ?_
          refine go_goto (tgt := 30) X dc_H_run_74 (by decide) ?_
          refine go_loc (L' := [(0, .ref (ad 0)), (1, .int x), (2, .int (nI S)), (3, .int (rx_ x9)), (4, .int (r9 + 1)), (5, .int (nI (j + 1)))]) rfl ?_
          exact ih hlt _ _ _ hI2 hE
    · exfalso
      rw [iz_le, iz_1000, iz_nI (by omega)] at h9
      omega
end C6

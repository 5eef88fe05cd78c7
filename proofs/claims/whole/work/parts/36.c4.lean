section C4
theorem sm_Y_copy : Cond.static arraycopyName ∈ TG_ := tg_i 553 (by decide +kernel) (by decide +kernel)
theorem nt_Y_copy : Cond.native arraycopyName ∈ TG_ := tg_i 554 (by decide +kernel) (by decide +kernel)
section
variable {p : Program} {l : Launch} {e : Env} {R : Room} {s : State} {m : MethodId} {args : Array Value} {below : List Frame} {meth : Method} {c : Code} {D : va_G} {A : Nat → Prop} {nL cells slots : Nat} {Q : State → Prop}
variable {cc : ByteArray} {own : String} {T : Nat → ClassId} {pc : Nat} {L : List (Nat × Value)} {rest : List Value} {ad : Nat → Nat} {K n : Nat} {σ : ST_} {nw : List Cond}
/-- a plain object's cells matter up to their number -/
theorem gp_arr {j : Nat} {f f' : Nat → Int32} (hj : j < 3) (hf : ∀ i, i < lc_ K → f i = f' i) (kk : Go_ p l e R s m args below meth c D cl_ A nL cells slots Q (cW_ T ad K n (u1_ σ (30 + j) f')) pc L rest) : Go_ p l e R s m args below meth c D cl_ A nL cells slots Q (cW_ T ad K n (u1_ σ (30 + j) f)) pc L rest := by
  have h1 : ∀ f, cW_ T ad K n (u1_ σ (30 + j) f) = wl_ ad (41 + n) (va_up (cE_ T ad K n σ) (2 * j + 2) (.inl (T 0, lc_ K, .inl f))) := fun f => (wl_congr (fun i _ => pu_ce hj f i)).symm
  rw [h1] at kk ⊢
  exact go_arr hf kk
theorem gp_copy (X : Cx_ p l e R s m args below meth c cc nL own D cl_ (tys_ T) TG_) {index : Nat} (h1 : Cond.methodLink own index arraycopyName ∈ TG_) (hK : K < 4) (hf : 1 ≤ R.frames) (hlo : (rest.map fun v => v.category).sum + (nativeFrameWords "java/lang/System" "arraycopy" 5 + 11) ≤ R.locals) (d : decode cc pc = .ok (.invokestatic index, 3))
    (kk : Go_ p l e R s m args below meth c D cl_ A nL cells slots Q (cW_ T ad K n (u1_ σ 31 (σ 30))) (pc + 3) L rest) : Go_ p l e R s m args below meth c D cl_ A nL cells slots Q (cW_ T ad K n σ) pc L (.int (nI (lc_ K)) :: .int 0 :: .ref (ad 4) :: .int 0 :: .ref (ad 2) :: rest) := by
  have hl : lc_ K ≤ 8 := by
    match K, hK with
    | 0, _ => decide
    | 1, _ => decide
    | 2, _ => decide
    | 3, _ => decide
  have e0 : (0 : Int32).toNatClampNeg = 0 := by decide
  have eL : (nI (lc_ K)).toNatClampNeg = lc_ K := nI_clamp (by omega)
  have k2 := gp_arr (j := 1) (σ := σ) (f := va_cpy (σ 30) (σ 31) 0 0 (lc_ K)) (by decide) (fun i hi => by
    show (if 0 ≤ i ∧ i < 0 + lc_ K then σ 30 (0 + (i - 0)) else σ 31 i) = σ 30 i
    rw [if_pos ⟨Nat.zero_le _, by omega⟩, Nat.zero_add, Nat.sub_zero]) kk
  intro H locs ls hP hD hS hl2
  have z0 : ¬ (0 : Int32) < 0 := by decide
  refine va_copyi X.1 X.2.1 (X.2.2.1.trans hl2.1.1.symm) X.2.2.2.1 (X.2.2.2.2.1 _ h1) (X.2.2.2.2.1 _ nt_Y_copy) (X.2.2.2.2.1 _ sm_Y_copy) (X.2.2.2.2.1 _ ik_Y) X.2.2.2.2.2.1 hP hD hS 2 4 0 0 (wl_at (show 2 < 41 + n by omega)) (wl_at (show 4 < 41 + n by omega)) rfl rfl rfl z0 z0 (nI_pos (by omega)) (by rw [e0, eL]; omega) (by rw [e0, eL]; omega) (fun i _ => rfl) hf hlo d (fun H1 locs1 hP1 hD1 hS1 => ?_)
  rw [e0, eL] at hP1 hD1
  have hw : (cW_ T ad K n σ).set 4 (ad 4, .inl (T 0, lc_ K, .inl (va_cpy (σ 30) (σ 31) 0 0 (lc_ K)))) = cW_ T ad K n (u1_ σ (30 + 1) (va_cpy (σ 30) (σ 31) 0 0 (lc_ K))) := by
    unfold cW_
    rw [wl_set, wl_congr (fun i _ => pu_ce (j := 1) (by decide) _ i)]
  rw [hw] at hP1 hD1
  exact k2 H1 locs1 ls hP1 hD1 hS1 hl2
/-- a plain object of any kind does a call -/
theorem go_perf (X : Cx_ p l e R s m args below meth c cc nL own D cl_ (tys_ T) TG_) (hN : NW_ nw s) {index q : Nat} {op a b : Int32} (h1 : Cond.methodLink own index ⟨"HelpedLog$Plain", "perform", "(III)I"⟩ ∈ TG_) (hnw : ∀ w ∈ nwc_, w ∈ nw) (hK : K < 4) (hq : q < 3) (hz : 0 ≤ (σ 33 q).toInt ∧ (σ 33 q).toInt ≤ 8) (hop : op = 0 ∨ op = 1 ∨ op = 2) (hf : 2 ≤ R.frames) (hlo : 60 ≤ R.locals) (hroom : (rest.map fun v => v.category).sum ≤ 8) (d : decode cc pc = .ok (.invokevirtual index, 3)) (hcs : cells ≤ R.cells ∧ slots ≤ R.slots)
    (k : Go_ p l e R s m args below meth c D cl_ A nL cells slots Q (cW_ T ad K n (hc_perf K q op a b σ)) (pc + 3) L (.int (hc_perfR K q op a b σ) :: rest)) : Go_ p l e R s m args below meth c D cl_ A nL cells slots Q (cW_ T ad K n σ) pc L (.int b :: .int a :: .int op :: .ref (ad (2 * q + 1)) :: rest) := by
  match K, hK with
  | 0, _ => exact go_callA (C := rn_Q) (owner := rn_P) (x := ⟨"HelpedLog$Plain", "perform", "(III)I"⟩) (ci := 3) (i := 2 * q + 1) (n := 3) (As := [.int op, .int a, .int b]) (rest := rest) X hN (tc_perfQ l D T ad A nw n hq hz hop hnw) h1 sa_P_perform sl_Q_Pperform im_G_perform ik_G co_G_perform (hnw _ nw_3) ⟨by decide, by decide, by decide +kernel⟩ ⟨rfl, rfl, hf, by show 8 + (4 + 11) + 30 * 1 ≤ R.locals; omega⟩ rfl (cw_p hq) rfl rfl hroom d hcs k
  | 1, _ => exact go_callA (C := rn_S) (owner := rn_P) (x := ⟨"HelpedLog$Plain", "perform", "(III)I"⟩) (ci := 4) (i := 2 * q + 1) (n := 3) (As := [.int op, .int a, .int b]) (rest := rest) X hN (tc_perfS l D T ad A nw n hq hz hop hnw) h1 sa_P_perform sl_S_Pperform im_G_perform ik_G co_G_perform (hnw _ nw_3) ⟨by decide, by decide, by decide +kernel⟩ ⟨rfl, rfl, hf, by show 8 + (4 + 11) + 30 * 1 ≤ R.locals; omega⟩ rfl (cw_p hq) rfl rfl hroom d hcs k
  | 2, _ => exact go_callA (C := rn_T) (owner := rn_P) (x := ⟨"HelpedLog$Plain", "perform", "(III)I"⟩) (ci := 5) (i := 2 * q + 1) (n := 3) (As := [.int op, .int a, .int b]) (rest := rest) X hN (tc_perfT l D T ad A nw n hq hop) h1 sa_P_perform sl_T_Pperform im_T_perform ik_T co_T_perform (hnw _ nw_3) ⟨by decide, by decide, by decide +kernel⟩ ⟨rfl, rfl, hf, by show 8 + (6 + 11) + 30 * 1 ≤ R.locals; omega⟩ rfl (cw_p hq) rfl rfl hroom d hcs k
  | 3, _ => exact go_callA (C := rn_B) (owner := rn_P) (x := ⟨"HelpedLog$Plain", "perform", "(III)I"⟩) (ci := 6) (i := 2 * q + 1) (n := 3) (As := [.int op, .int a, .int b]) (rest := rest) X hN (tc_perfB l D T ad A nw n hq hop) h1 sa_P_perform sl_B_Pperform im_B_perform ik_B co_B_perform (hnw _ nw_3) ⟨by decide, by decide, by decide +kernel⟩ ⟨rfl, rfl, hf, by show 8 + (5 + 11) + 30 * 1 ≤ R.locals; omega⟩ rfl (cw_p hq) rfl rfl hroom d hcs k
end
set_option maxHeartbeats 4000000 in
set_option maxRecDepth 20000 in
theorem tc_copyFrom (l : Launch) (D : va_G) (T : Nat → ClassId) (ad : Nat → Nat) (A : Nat → Prop) (nw : List Cond) (K n : Nat) {σ : ST_} (hK : K < 4)  : cc_ l D T ad K n A nw yn_P_copyFrom (.code yn_P_copyFrom cd_P_copyFrom 2 none) 1 [.ref (ad 3), .ref (ad 1)] σ (hc_copy σ) none := by
  have h0 : 0 < 3 := by decide
  have h1 : 1 < 3 := by decide
  refine go_in (by decide) (Nat.le_of_ble_eq_true rfl) (List.forall_mem_cons.mpr ⟨rfl, List.forall_mem_cons.mpr ⟨rfl, fun _ h => nomatch h⟩⟩) ?_
  intro P e s m args below meth c X hr hnm hN
  replace X : Cx_ P l e (rm_d 1) s m args below meth c cd_P_copyFrom 2 rn_P D cl_ (tys_ T) TG_ := X
  refine go_loc (L' := [(0, .ref (ad 3)), (1, .ref (ad 1))]) rfl ?_
  refine go_aload_n (i := 1) X rfl rfl dc_P_copyFrom_0 ?_
  refine gp_get (j := 0) X (by first | assumption | decide) (by assumption) 0 (by decide) fl_P_7 (fun x h => h) rfl dc_P_copyFrom_1 ?_
  refine go_iconst (v := 0) X (by decide) dc_P_copyFrom_4 ?_
  refine go_aload_n (i := 0) X rfl rfl dc_P_copyFrom_5 ?_
  refine gp_get (j := 1) X (by first | assumption | decide) (by assumption) 0 (by decide) fl_P_7 (fun x h => h) rfl dc_P_copyFrom_6 ?_
  refine go_iconst (v := 0) X (by decide) dc_P_copyFrom_9 ?_
  refine go_aload_n (i := 1) X rfl rfl dc_P_copyFrom_10 ?_
  refine gp_get (j := 0) X (by first | assumption | decide) (by assumption) 0 (by decide) fl_P_7 (fun x h => h) rfl dc_P_copyFrom_11 ?_
  refine gp_len (j := 0) X (by assumption) dc_P_copyFrom_14 ?_
  refine go_aload_n (i := 0) X rfl rfl dc_P_copyFrom_15 ?_
  refine gp_get (j := 1) X (by first | assumption | decide) (by assumption) 0 (by decide) fl_P_7 (fun x h => h) rfl dc_P_copyFrom_16 ?_
  refine gp_len (j := 1) X (by assumption) dc_P_copyFrom_19 ?_
  refine go_min X ml_P_19 (by decide) (Nat.le_of_ble_eq_true rfl) ⟨Nat.zero_le _, Nat.zero_le _⟩ dc_P_copyFrom_20 ?_
  rw [ite_self]
  refine gp_copy X ml_P_25 hK (by decide) (Nat.le_of_ble_eq_true (by decide)) dc_P_copyFrom_23 ?_
  refine go_aload_n (i := 0) X rfl rfl dc_P_copyFrom_26 ?_
  refine go_aload_n (i := 1) X rfl rfl dc_P_copyFrom_27 ?_
  refine gp_get (j := 0) (v := .int (σ 33 0)) X (by first | assumption | decide) (by assumption) 1 (by decide) fl_P_31 (fun x h => h) rfl dc_P_copyFrom_28 ?_
  refine gp_put (j := 1) X (by first | assumption | decide) (by assumption) fl_P_31 (fun x h => h) dc_P_copyFrom_31 ?_
  exact go_vret X hr dc_P_copyFrom_34 rfl rfl
section
variable {p : Program} {l : Launch} {e : Env} {R : Room} {s : State} {m : MethodId} {args : Array Value} {below : List Frame} {meth : Method} {c : Code} {D : va_G} {A : Nat → Prop} {nL cells slots : Nat} {Q : State → Prop}
variable {cc : ByteArray} {own : String} {T : Nat → ClassId} {pc : Nat} {L : List (Nat × Value)} {rest : List Value} {ad : Nat → Nat} {K n : Nat} {σ : ST_} {nw : List Cond}
theorem go_copyF (X : Cx_ p l e R s m args below meth c cc nL own D cl_ (tys_ T) TG_) (hN : NW_ nw s) {index : Nat} (h1 : Cond.methodLink own index yn_P_copyFrom ∈ TG_) (hK : K < 4) (hf : 2 ≤ R.frames) (hlo : 60 ≤ R.locals) (hroom : (rest.map fun v => v.category).sum ≤ 8) (d : decode cc pc = .ok (.invokevirtual index, 3)) (hcs : cells ≤ R.cells ∧ slots ≤ R.slots)
    (k : Go_ p l e R s m args below meth c D cl_ A nL cells slots Q (cW_ T ad K n (hc_copy σ)) (pc + 3) L rest) : Go_ p l e R s m args below meth c D cl_ A nL cells slots Q (cW_ T ad K n σ) pc L (.ref (ad 1) :: .ref (ad 3) :: rest) := by
  match K, hK with
  | 0, _ => exact go_callW (C := rn_Q) (ci := 3) (i := 3) (n := 1) (As := [.ref (ad 1)]) (rest := rest) X hN (tc_copyFrom l D T ad A nw 0 n (by decide)) h1 im_P_copyFrom (X.2.2.2.2.1 _ sl_Q_PcopyFrom) ik_P co_P_copyFrom ⟨by decide, by decide, by decide +kernel⟩ ⟨rfl, rfl, hf, by show 8 + (2 + 11) + 30 * 1 ≤ R.locals; omega⟩ rfl (cw_p (j := 1) (by decide)) rfl rfl hroom d hcs k
  | 1, _ => exact go_callW (C := rn_S) (ci := 4) (i := 3) (n := 1) (As := [.ref (ad 1)]) (rest := rest) X hN (tc_copyFrom l D T ad A nw 1 n (by decide)) h1 im_P_copyFrom (X.2.2.2.2.1 _ sl_S_PcopyFrom) ik_P co_P_copyFrom ⟨by decide, by decide, by decide +kernel⟩ ⟨rfl, rfl, hf, by show 8 + (2 + 11) + 30 * 1 ≤ R.locals; omega⟩ rfl (cw_p (j := 1) (by decide)) rfl rfl hroom d hcs k
  | 2, _ => exact go_callW (C := rn_T) (ci := 5) (i := 3) (n := 1) (As := [.ref (ad 1)]) (rest := rest) X hN (tc_copyFrom l D T ad A nw 2 n (by decide)) h1 im_P_copyFrom (X.2.2.2.2.1 _ sl_T_PcopyFrom) ik_P co_P_copyFrom ⟨by decide, by decide, by decide +kernel⟩ ⟨rfl, rfl, hf, by show 8 + (2 + 11) + 30 * 1 ≤ R.locals; omega⟩ rfl (cw_p (j := 1) (by decide)) rfl rfl hroom d hcs k
  | 3, _ => exact go_callW (C := rn_B) (ci := 6) (i := 3) (n := 1) (As := [.ref (ad 1)]) (rest := rest) X hN (tc_copyFrom l D T ad A nw 3 n (by decide)) h1 im_P_copyFrom (X.2.2.2.2.1 _ sl_B_PcopyFrom) ik_P co_P_copyFrom ⟨by decide, by decide, by decide +kernel⟩ ⟨rfl, rfl, hf, by show 8 + (2 + 11) + 30 * 1 ≤ R.locals; omega⟩ rfl (cw_p (j := 1) (by decide)) rfl rfl hroom d hcs k
end
end C4

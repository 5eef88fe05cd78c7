section CI_A
def n1_ : List Value := [.int 0, .int (-1), .int (-1), .int (-1), .int (-1), .int 0, .int 0, .null]
def n8_ : List Value := [.int 1, .int (-1), .int (-1), .int (-1), .int (-1), .int 1, .int 0, .null]
def c1_ (ad : Nat → Nat) (p : Nat) : List Value := [.int (nI p), .int (-1), .int 0, .int 0, .int 0, .int 0, .ref (ad 8), .null, .ref (ad 8), .ref (ad 8), .ref (ad 8), .int 0, .int 0, .int (-1)]
/-- the first j references of an array, the rest none -/
def pf_ (ad : Nat → Nat) (b j : Nat) : Nat → Option Nat := fun k => cond (Nat.blt k j) (some (ad (k + b))) none
theorem pf_lt {ad : Nat → Nat} {b j k : Nat} (h : k < j) : pf_ ad b j k = some (ad (k + b)) := by
  unfold pf_
  rw [Nat.blt_eq.mpr h]
  rfl
theorem pf_ge {ad : Nat → Nat} {b j k : Nat} (h : ¬ k < j) : pf_ ad b j k = none := by
  unfold pf_
  cases hb : Nat.blt k j with
  | true => exact absurd (Nat.blt_eq.mp hb) h
  | false => rfl
theorem pf_0 (ad : Nat → Nat) (b : Nat) : pf_ ad b 0 = fun _ => none := funext fun k => pf_ge (Nat.not_lt_zero k)
theorem pf_s (ad : Nat → Nat) (b j q : Nat) : va_up (pf_ ad b j) j (some q) = pf_ (va_up ad (b + j) q) b (j + 1) := by
  funext k
  by_cases h : k = j
  · subst h
    rw [va_up_self, pf_lt (by omega), Nat.add_comm k b, va_up_self]
  · rw [va_up_ne _ _ h]
    by_cases g : k < j
    · rw [pf_lt g, pf_lt (by omega), va_up_ne _ _ (by omega)]
    · rw [pf_ge g, pf_ge (by omega)]
theorem pf_k {ad : Nat → Nat} {b j c q : Nat} (h : b + j ≤ c) : pf_ (va_up ad c q) b j = pf_ ad b j := by
  funext k
  by_cases g : k < j
  · rw [pf_lt g, pf_lt g, va_up_ne _ _ (by omega)]
  · rw [pf_ge g, pf_ge g]
def hI_ (T : Nat → ClassId) (ad : Nat → Nat) (K : Nat) (cal : Value) (f7 : Nat → Option Nat) (E : Nat → va_E) : Nat → va_E
  | 0 => .inr (0, [cal, .ref (ad 7), .ref (ad 1), .ref (ad 3), .ref (ad 5)])
  | 1 => .inr (K + 3, [.ref (ad 2), .int 0])
  | 2 => .inl (T 0, lc_ K, .inl (fun _ => pi_ K))
  | 3 => .inr (K + 3, [.ref (ad 4), .int 0])
  | 4 => .inl (T 0, lc_ K, .inl (fun _ => pi_ K))
  | 5 => .inr (K + 3, [.ref (ad 6), .int 0])
  | 6 => .inl (T 0, lc_ K, .inl (fun _ => pi_ K))
  | 7 => .inl (T 3, 32, .inr (.inr (.inr (.inr f7))))
  | k + 8 => E k
def e1_ : Nat → va_E := fun _ => .inr (1, n1_)
def e2_ (T : Nat → ClassId) (ad : Nat → Nat) (n : Nat) (f : Nat → Option Nat) : Nat → va_E := fun k => if k < 32 then .inr (1, if k = 0 then n8_ else n1_) else if k = 32 then .inl (T 4, n, .inr (.inr (.inr (.inr f)))) else .inr (2, c1_ ad (k - 33))
theorem hI_cg {T : Nat → ClassId} {ad ad' : Nat → Nat} {K : Nat} {cal : Value} {f7 : Nat → Option Nat} {E : Nat → va_E} (h : ∀ c, c < 8 → ad' c = ad c) : hI_ T ad' K cal f7 E = hI_ T ad K cal f7 E := by
  funext i
  match i with
  | 0 => unfold hI_; rw [h 7 (by omega), h 1 (by omega), h 3 (by omega), h 5 (by omega)]
  | 1 => unfold hI_; rw [h 2 (by omega)]
  | 2 => rfl
  | 3 => unfold hI_; rw [h 4 (by omega)]
  | 4 => rfl
  | 5 => unfold hI_; rw [h 6 (by omega)]
  | 6 => rfl
  | 7 => rfl
  | k + 8 => rfl
theorem hI_8 {T : Nat → ClassId} {ad : Nat → Nat} {K : Nat} {cal : Value} {f7 : Nat → Option Nat} {E : Nat → va_E} (j : Nat) : hI_ T ad K cal f7 E (8 + j) = E j := by
  rw [Nat.add_comm 8 j]
  rfl
theorem hI_41 {T : Nat → ClassId} {ad : Nat → Nat} {K : Nat} {cal : Value} {f7 : Nat → Option Nat} {E : Nat → va_E} (j : Nat) : hI_ T ad K cal f7 E (41 + j) = E (j + 33) := by
  rw [show 41 + j = (j + 33) + 8 by omega]
  rfl
theorem hI_sA {T : Nat → ClassId} {ad : Nat → Nat} {K j q : Nat} : ∀ i, i < 8 + j + 1 → va_up (va_up (hI_ T ad K .null (pf_ ad 8 j) e1_) (8 + j) (.inr (1, n1_))) 7 (.inl (T 3, 32, .inr (.inr (.inr (.inr (va_up (pf_ ad 8 j) j (some q))))))) i = hI_ T (va_up ad (8 + j) q) K .null (pf_ (va_up ad (8 + j) q) 8 (j + 1)) e1_ i := by
  intro i hi
  rw [hI_cg (ad := ad) (ad' := va_up ad (8 + j) q) (fun c hc => va_up_ne _ _ (by omega)), pf_s]
  by_cases h7 : i = 7
  · subst h7; rw [va_up_self]; rfl
  · rw [va_up_ne _ _ h7]
    by_cases hj : i = 8 + j
    · subst hj
      rw [va_up_self, hI_8]
      rfl
    · rw [va_up_ne _ _ hj]
      match i, h7 with
      | 0, _ => rfl
      | 1, _ => rfl
      | 2, _ => rfl
      | 3, _ => rfl
      | 4, _ => rfl
      | 5, _ => rfl
      | 6, _ => rfl
      | 7, h => exact absurd rfl h
      | k + 8, _ => rfl
theorem e2_n {T : Nat → ClassId} {ad : Nat → Nat} {n k : Nat} {f : Nat → Option Nat} (h : k < 32) : e2_ T ad n f k = .inr (1, if k = 0 then n8_ else n1_) := if_pos h
theorem e2_a {T : Nat → ClassId} {ad : Nat → Nat} {n : Nat} {f : Nat → Option Nat} : e2_ T ad n f 32 = .inl (T 4, n, .inr (.inr (.inr (.inr f)))) := rfl
theorem e2_c {T : Nat → ClassId} {ad : Nat → Nat} {n k : Nat} {f : Nat → Option Nat} : e2_ T ad n f (k + 33) = .inr (2, c1_ ad k) := by
  unfold e2_
  rw [if_neg (by omega), if_neg (by omega), Nat.add_sub_cancel]
theorem hI_sB {T : Nat → ClassId} {ad : Nat → Nat} {K n : Nat} {f7 f : Nat → Option Nat} {x : va_E} : ∀ i, i < 40 → va_up (va_up (hI_ T ad K .null f7 e1_) 8 x) 8 (.inr (1, n8_)) i = hI_ T ad K .null f7 (e2_ T ad n f) i := by
  intro i hi
  by_cases h8 : i = 8
  · subst h8; rw [va_up_self]; rfl
  · rw [va_up_ne _ _ h8, va_up_ne _ _ h8]
    match i, h8, hi with
    | 0, _, _ => rfl
    | 1, _, _ => rfl
    | 2, _, _ => rfl
    | 3, _, _ => rfl
    | 4, _, _ => rfl
    | 5, _, _ => rfl
    | 6, _, _ => rfl
    | 7, _, _ => rfl
    | k + 8, h, hi =>
      show e1_ k = e2_ T ad n f k
      rw [e2_n (by omega), if_neg (by omega)]
      rfl
theorem hI_sC {T : Nat → ClassId} {ad : Nat → Nat} {K n q : Nat} {f : Nat → Option Nat} : ∀ i, i < 41 → va_up (va_up (hI_ T ad K .null (pf_ ad 8 32) (e2_ T ad n f)) 40 (.inl (T 4, n, .inr (.inr (.inr (.inr (fun _ => none))))))) 0 (.inr (0, [.ref q, .ref (ad 7), .ref (ad 1), .ref (ad 3), .ref (ad 5)])) i = hI_ T (va_up ad 40 q) K (.ref (va_up ad 40 q 40)) (pf_ (va_up ad 40 q) 8 32) (e2_ T (va_up ad 40 q) n (pf_ (va_up ad 40 q) 41 0)) i := by
  intro i hi
  rw [hI_cg (ad := ad) (ad' := va_up ad 40 q) (fun c hc => va_up_ne _ _ (by omega)), pf_k (by omega), va_up_self, pf_0]
  by_cases h0 : i = 0
  · subst h0; rw [va_up_self]; rfl
  · rw [va_up_ne _ _ h0]
    by_cases h4 : i = 40
    · subst h4; rw [va_up_self]; rfl
    · rw [va_up_ne _ _ h4]
      match i, h0, h4, hi with
      | 0, h, _, _ => exact absurd rfl h
      | 1, _, _, _ => rfl
      | 2, _, _, _ => rfl
      | 3, _, _, _ => rfl
      | 4, _, _, _ => rfl
      | 5, _, _, _ => rfl
      | 6, _, _, _ => rfl
      | 7, _, _, _ => rfl
      | k + 8, _, h4, hi =>
        show e2_ T ad n f k = e2_ T _ n _ k
        rw [e2_n (by omega), e2_n (by omega)]
theorem hI_sD {T : Nat → ClassId} {ad : Nat → Nat} {K n j q : Nat} : ∀ i, i < 41 + j + 1 → va_up (va_up (hI_ T ad K (.ref (ad 40)) (pf_ ad 8 32) (e2_ T ad n (pf_ ad 41 j))) (41 + j) (.inr (2, c1_ ad j))) 40 (.inl (T 4, n, .inr (.inr (.inr (.inr (va_up (pf_ ad 41 j) j (some q))))))) i = hI_ T (va_up ad (41 + j) q) K (.ref (va_up ad (41 + j) q 40)) (pf_ (va_up ad (41 + j) q) 8 32) (e2_ T (va_up ad (41 + j) q) n (pf_ (va_up ad (41 + j) q) 41 (j + 1))) i := by
  intro i hi
  have hc1 : ∀ p, c1_ (va_up ad (41 + j) q) p = c1_ ad p := fun p => by
    unfold c1_
    rw [va_up_ne _ _ (show 8 ≠ 41 + j by omega)]
  rw [hI_cg (ad := ad) (ad' := va_up ad (41 + j) q) (fun c hc => va_up_ne _ _ (by omega)), pf_k (by omega), pf_s, va_up_ne _ _ (show 40 ≠ 41 + j by omega)]
  by_cases h4 : i = 40
  · subst h4; rw [va_up_self]; rfl
  · rw [va_up_ne _ _ h4]
    by_cases hj : i = 41 + j
    · subst hj
      rw [va_up_self, hI_41, e2_c, hc1]
    · rw [va_up_ne _ _ hj]
      match i, h4 with
      | 0, _ => rfl
      | 1, _ => rfl
      | 2, _ => rfl
      | 3, _ => rfl
      | 4, _ => rfl
      | 5, _ => rfl
      | 6, _ => rfl
      | 7, _ => rfl
      | k + 8, h4 =>
        show e2_ T ad n _ k = e2_ T _ n _ k
        by_cases g : k < 32
        · rw [e2_n g, e2_n g]
        · obtain ⟨p, rfl⟩ : ∃ p, k = p + 33 := ⟨k - 33, by omega⟩
          rw [e2_c, e2_c, hc1]
theorem hI_sE {T : Nat → ClassId} {ad : Nat → Nat} {K n : Nat} : ∀ i, va_up (va_up (hI_ T ad K (.ref (ad 40)) (pf_ ad 8 32) (e2_ T ad n (pf_ ad 41 n))) 7 (.inl (T 3, 32, .inr (.inr (.inr (.inr (fun k => some (ad (k + 8))))))))) 40 (.inl (T 4, n, .inr (.inr (.inr (.inr (fun p => some (ad (p + 41)))))))) i = cE_ T ad K n (hc_init K) i := by
  intro i
  have hr0 : rf_ ad 0 = .ref (ad 8) := rf_n (k := 0) (by omega)
  by_cases h4 : i = 40
  · subst h4; rw [va_up_self]; rfl
  · rw [va_up_ne _ _ h4]
    by_cases h7 : i = 7
    · subst h7; rw [va_up_self]; rfl
    · rw [va_up_ne _ _ h7]
      match i, h7, h4 with
      | 0, _, _ => rfl
      | 1, _, _ => rfl
      | 2, _, _ => rfl
      | 3, _, _ => rfl
      | 4, _, _ => rfl
      | 5, _, _ => rfl
      | 6, _, _ => rfl
      | 7, h, _ => exact absurd rfl h
      | k + 8, _, h4 =>
        show e2_ T ad n _ k = cE2_ T ad n _ k
        by_cases g : k < 32
        · rw [e2_n g]
          unfold cE2_
          rw [if_pos g]
          unfold nF_
          show _ = Sum.inr (1, [.int (if k = 0 then 1 else 0), .int (-1), .int (-1), .int (-1), .int (-1), .int (if k = 0 then 1 else 0), .int 0, rf_ ad (-1)])
          rw [rf_m]
          by_cases h0 : k = 0
          · rw [if_pos h0, if_pos h0]; rfl
          · rw [if_neg h0, if_neg h0]; rfl
        · obtain ⟨p, rfl⟩ : ∃ p, k = p + 33 := ⟨k - 33, by omega⟩
          rw [e2_c]
          unfold cE2_
          rw [if_neg (by omega), if_neg (by omega), Nat.add_sub_cancel]
          unfold cF_
          show _ = Sum.inr (2, [.int (nI p), .int (-1), .int 0, .int 0, .int 0, .int 0, rf_ ad 0, rf_ ad (-1), rf_ ad 0, rf_ ad 0, rf_ ad 0, .int 0, .int 0, .int (-1)])
          rw [rf_m, hr0]
          rfl
theorem lc_le (K : Nat) : lc_ K ≤ 8 := by unfold lc_; cases Nat.beq K 3 <;> decide
def a8_ (a0 a1 b1 a2 b2 a3 b3 q : Nat) : Nat → Nat
  | 0 => a0 | 1 => a1 | 2 => b1 | 3 => a2 | 4 => b2 | 5 => a3 | 6 => b3 | 7 => q | _ => 0
theorem kn_new (l : Launch) (D : va_G) (T : Nat → ClassId) (nw : List Cond) (hnw : ∀ w ∈ nwc_, w ∈ nw) {K : Nat} (hK : K < 4) : Cn_ l D cl_ (tys_ T) nw yn_H_newPlain (.code yn_H_newPlain cd_H_newPlain 1 (some (.object "HelpedLog$Plain")) :: TG_) (rn_d 4 2 (2 + lc_ K)) [.int (nI K)] [] (fun a b => pw1_ T K a b) (fun a _ => some (.ref a)) :=
  match K, hK with
  | 0, _ => kn_new0 l D T nw hnw
  | 1, _ => kn_new1 l D T nw hnw
  | 2, _ => kn_new2 l D T nw hnw
  | 3, _ => kn_new3 l D T nw hnw
end CI_A
section CI_B
set_option maxHeartbeats 4000000 in
set_option maxRecDepth 20000 in
theorem kh_init (l : Launch) (D : va_G) (T : Nat → ClassId) (nw : List Cond) (hnw : ∀ w ∈ nwc_, w ∈ nw) {a0 : Nat} {k n' : Int32} {K n : Nat} (hK4 : K < 4) (hn5 : 1 ≤ n ∧ n ≤ 5)
    (hk : (if (0 : Int32) < (if k < 3 then k else 3) then (if k < 3 then k else 3) else 0) = nI K) (hn : (if (1 : Int32) < (if n' < 5 then n' else 5) then (if n' < 5 then n' else 5) else 1) = nI n) :
    Ca_ l D cl_ (tys_ T) nw yn_H_init (.code yn_H_init cd_H_init 7 none :: TG_) (rn_d 5 45 393) [.ref a0, .int k, .int n'] [(a0, .inr (0, [.null, .null, .null, .null, .null]))] a0 (fun ad => cW_ T ad K n (hc_init K)) := by
  have hlc := lc_le K
  refine ca_in (by decide) (Nat.le_of_ble_eq_true rfl) (List.forall_mem_cons.mpr ⟨rfl, List.forall_mem_cons.mpr ⟨rfl, List.forall_mem_cons.mpr ⟨rfl, fun _ h => nomatch h⟩⟩⟩) ?_
  intro P e s m args below meth c X hr hnm hN hao hA
  replace X : Cx_ P l e (rn_d 5 45 393) s m args below meth c cd_H_init 7 rn_H D cl_ (tys_ T) TG_ := X
  refine go_loc (L' := [(0, .ref a0), (1, .int k), (2, .int n')]) rfl ?_
  refine go_aload_n (i := 0) X rfl rfl dc_H_init_0 ?_
  refine go_objI X ml_H_1 (by decide) (Nat.le_of_ble_eq_true rfl) dc_H_init_1 ?_
  refine go_iconst (v := 0) X (by decide) dc_H_init_4 ?_
  refine go_iconst (v := 3) X (by decide) dc_H_init_5 ?_
  refine go_iload_n (i := 1) X rfl rfl dc_H_init_6 ?_
  refine go_min X ml_H_9 (by decide) (Nat.le_of_ble_eq_true rfl) ⟨Nat.zero_le _, Nat.zero_le _⟩ dc_H_init_7 ?_
  refine go_max X ml_H_15 (by decide) (Nat.le_of_ble_eq_true rfl) ⟨Nat.zero_le _, Nat.zero_le _⟩ dc_H_init_10 ?_
  refine go_eqs (st' := [.int (nI K)]) (congrArg (fun x => [Value.int x]) hk) ?_
  refine go_istore_n (i := 3) X rfl (by decide) dc_H_init_13 ?_
  refine go_iconst (v := 1) X (by decide) dc_H_init_14 ?_
  refine go_iconst (v := 5) X (by decide) dc_H_init_15 ?_
  refine go_iload_n (i := 2) X rfl rfl dc_H_init_16 ?_
  refine go_min X ml_H_9 (by decide) (Nat.le_of_ble_eq_true rfl) ⟨Nat.zero_le _, Nat.zero_le _⟩ dc_H_init_17 ?_
  refine go_max X ml_H_15 (by decide) (Nat.le_of_ble_eq_true rfl) ⟨Nat.zero_le _, Nat.zero_le _⟩ dc_H_init_20 ?_
  refine go_eqs (st' := [.int (nI n)]) (congrArg (fun x => [Value.int x]) hn) ?_
  refine go_istore (i := 4) X (by decide) dc_H_init_23 ?_
  refine go_loc (L' := [(0, .ref a0), (3, .int (nI K)), (4, .int (nI n))]) rfl ?_
  refine go_aload_n (i := 0) X rfl rfl dc_H_init_25 ?_
  refine go_iload_n (i := 3) X rfl rfl dc_H_init_26 ?_
  refine go_eqw (w' := [(a0, .inr (0, [.null, .null, .null, .null, .null]))] ++ []) rfl ?_
  refine go_nS (n := 1) (rest := [.ref a0]) (w2 := [(a0, .inr (0, [.null, .null, .null, .null, .null]))]) (w1 := []) X hN hA (kn_new l D T nw hnw hK4) ml_H_18 sm_H_newPlain ik_H co_H_newPlain ⟨by decide, by decide, by decide +kernel⟩ ⟨Nat.le_of_ble_eq_true rfl, Nat.le_of_ble_eq_true rfl⟩ ⟨by show 0 + 2 ≤ 45; omega, by show 0 + (2 + lc_ K) ≤ 393; omega⟩ rfl rfl (Nat.le_of_ble_eq_true rfl) dc_H_init_27 (fun a1 b1 => ?_)
  refine go_widen (cells' := 2) (slots' := 10) (by show 0 + 2 ≤ 2; omega) (by show 0 + (2 + lc_ K) ≤ 10; omega) ?_
  refine gw_putF (C := rn_H) (T := ft_H) (ci := 0) (i := 0) (k := 2) X in_H rfl ty_H tk_H nm_H rfl (by decide) fl_H_22 (fun x h => h) rfl hnm rfl (tk_H 2 (by decide)) rfl rfl (Nat.le_of_ble_eq_true rfl) dc_H_init_30 ?_
  refine go_aload_n (i := 0) X rfl rfl dc_H_init_33 ?_
  refine go_iload_n (i := 3) X rfl rfl dc_H_init_34 ?_
  refine go_eqw (w' := [(a0, .inr (0, [.null, .null, .ref a1, .null, .null])), (a1, .inr (K + 3, [.ref b1, .int 0])), (b1, .inl (T 0, lc_ K, .inl (fun _ => pi_ K)))] ++ []) rfl ?_
  refine go_nS (n := 1) (rest := [.ref a0]) (w2 := [(a0, .inr (0, [.null, .null, .ref a1, .null, .null])), (a1, .inr (K + 3, [.ref b1, .int 0])), (b1, .inl (T 0, lc_ K, .inl (fun _ => pi_ K)))]) (w1 := []) X hN hA (kn_new l D T nw hnw hK4) ml_H_18 sm_H_newPlain ik_H co_H_newPlain ⟨by decide, by decide, by decide +kernel⟩ ⟨Nat.le_of_ble_eq_true rfl, Nat.le_of_ble_eq_true rfl⟩ ⟨by show 2 + 2 ≤ 45; omega, by show 10 + (2 + lc_ K) ≤ 393; omega⟩ rfl rfl (Nat.le_of_ble_eq_true rfl) dc_H_init_35 (fun a2 b2 => ?_)
  refine go_widen (cells' := 4) (slots' := 20) (by show 2 + 2 ≤ 4; omega) (by show 10 + (2 + lc_ K) ≤ 20; omega) ?_
  refine gw_putF (C := rn_H) (T := ft_H) (ci := 0) (i := 0) (k := 3) X in_H rfl ty_H tk_H nm_H rfl (by decide) fl_H_26 (fun x h => h) rfl hnm rfl (tk_H 3 (by decide)) rfl rfl (Nat.le_of_ble_eq_true rfl) dc_H_init_38 ?_
  refine go_aload_n (i := 0) X rfl rfl dc_H_init_41 ?_
  refine go_iload_n (i := 3) X rfl rfl dc_H_init_42 ?_
  refine go_eqw (w' := [(a0, .inr (0, [.null, .null, .ref a1, .ref a2, .null])), (a1, .inr (K + 3, [.ref b1, .int 0])), (b1, .inl (T 0, lc_ K, .inl (fun _ => pi_ K))), (a2, .inr (K + 3, [.ref b2, .int 0])), (b2, .inl (T 0, lc_ K, .inl (fun _ => pi_ K)))] ++ []) rfl ?_
  refine go_nS (n := 1) (rest := [.ref a0]) (w2 := [(a0, .inr (0, [.null, .null, .ref a1, .ref a2, .null])), (a1, .inr (K + 3, [.ref b1, .int 0])), (b1, .inl (T 0, lc_ K, .inl (fun _ => pi_ K))), (a2, .inr (K + 3, [.ref b2, .int 0])), (b2, .inl (T 0, lc_ K, .inl (fun _ => pi_ K)))]) (w1 := []) X hN hA (kn_new l D T nw hnw hK4) ml_H_18 sm_H_newPlain ik_H co_H_newPlain ⟨by decide, by decide, by decide +kernel⟩ ⟨Nat.le_of_ble_eq_true rfl, Nat.le_of_ble_eq_true rfl⟩ ⟨by show 4 + 2 ≤ 45; omega, by show 20 + (2 + lc_ K) ≤ 393; omega⟩ rfl rfl (Nat.le_of_ble_eq_true rfl) dc_H_init_43 (fun a3 b3 => ?_)
  refine go_widen (cells' := 6) (slots' := 30) (by show 4 + 2 ≤ 6; omega) (by show 20 + (2 + lc_ K) ≤ 30; omega) ?_
  refine gw_putF (C := rn_H) (T := ft_H) (ci := 0) (i := 0) (k := 4) X in_H rfl ty_H tk_H nm_H rfl (by decide) fl_H_29 (fun x h => h) rfl hnm rfl (tk_H 4 (by decide)) rfl rfl (Nat.le_of_ble_eq_true rfl) dc_H_init_46 ?_
  refine go_eqw (w' := [(a0, .inr (0, [.null, .null, .ref a1, .ref a2, .ref a3])), (a1, .inr (K + 3, [.ref b1, .int 0])), (b1, .inl (T 0, lc_ K, .inl (fun _ => pi_ K))), (a2, .inr (K + 3, [.ref b2, .int 0])), (b2, .inl (T 0, lc_ K, .inl (fun _ => pi_ K))), (a3, .inr (K + 3, [.ref b3, .int 0])), (b3, .inl (T 0, lc_ K, .inl (fun _ => pi_ K)))]) rfl ?_
  refine go_aload_n (i := 0) X rfl rfl dc_H_init_49 ?_
  refine go_bipush (v := 32) X (by decide) dc_H_init_50 ?_
  refine go_anewa (C := rn_N) (t0 := 3) (N' := 32) X hA kl_H_32 hao.1 rfl (by decide) (by decide) (by decide) ⟨by decide, by decide⟩ dc_H_init_52 (fun q => ?_)
  refine gw_putF (C := rn_H) (T := ft_H) (ci := 0) (i := 0) (k := 1) X in_H rfl ty_H tk_H nm_H rfl (by decide) fl_H_34 (fun x h => h) rfl hnm rfl (tk_H 1 (by decide)) rfl rfl (Nat.le_of_ble_eq_true rfl) dc_H_init_55 ?_
  refine go_eqw (w' := wl_ (a8_ a0 a1 b1 a2 b2 a3 b3 q) 8 (hI_ T (a8_ a0 a1 b1 a2 b2 a3 b3 q) K .null (pf_ (a8_ a0 a1 b1 a2 b2 a3 b3 q) 8 0) e1_)) (by rw [pf_0]; rfl) ?_
  refine go_iconst (v := nI 0) X (by decide) dc_H_init_58 ?_
  refine go_istore (i := 5) X (by decide) dc_H_init_59 ?_
  refine go_loc (L' := [(0, .ref a0), (4, .int (nI n)), (5, .int (nI 0))]) rfl ?_
  refine go_widen (cells' := 7 + 0) (slots' := 62 + 8 * 0) (by decide) (by decide) ?_
  refine (lp_up (P := fun j => ∀ ad : Nat → Nat, ad 0 = a0 → Go_ P l e (rn_d 5 45 393) s m args below meth c D cl_ _ 7 (7 + j) (62 + 8 * j) _ (wl_ ad (8 + j) (hI_ T ad K .null (pf_ ad 8 j) e1_)) 61 [(0, .ref (ad 0)), (4, .int (nI n)), (5, .int (nI j))] []) 32 (fun j hj ih ad h0 => ?_)) 0 (Nat.zero_le _) (a8_ a0 a1 b1 a2 b2 a3 b3 q) rfl
  refine go_iload (i := 5) X rfl dc_H_init_61 ?_
  refine go_bipush (v := 32) X (by decide) dc_H_init_63 ?_
  refine go_icmp_ge (tgt := 88) X dc_H_init_65 (by decide) (fun h65 => ?_) (fun h65 => ?_)
  · have e32 : (32 : Int32).toInt = 32 := by decide
    have e8 : j = 32 := by rw [iz_le, iz_nI (by omega), e32] at h65; omega
    subst e8
    clear ih h65
    refine go_aload_n (i := 0) X rfl rfl dc_H_init_88 ?_
    refine go_get (C := rn_H) (T := ft_H) (ci := 0) (i := 0) (k := 1) (v := .ref (ad 7)) X in_H rfl (by omega) rfl (by decide) fl_H_34 (fun x h => h) rfl dc_H_init_89 ?_
    refine go_iconst (v := nI 0) X (by decide) dc_H_init_92 ?_
    refine go_aald (i := 7) (t0 := 3) (n := 32) (j' := 0) (a := ad 8) X (by omega) rfl rfl (Ix_n (j := 0) (N := 32) (by omega) (by omega)).1 (Ix_n (j := 0) (N := 32) (by omega) (by omega)).2 rfl dc_H_init_93 ?_
    refine go_astore (i := 5) X (by decide) dc_H_init_94 ?_
    refine go_aload (i := 5) X rfl dc_H_init_96 ?_
    refine go_iconst (v := 1) X (by decide) dc_H_init_98 ?_
    refine go_put (C := rn_N) (T := ft_N) (ci := 1) (i := 8) (k := 0) (fs := n1_) X in_N rfl ty_N tk_N nm_N (by omega) rfl (by decide) fl_H_39 (fun x h => h) rfl (tk_N 0 (by decide)) rfl rfl (Nat.le_of_ble_eq_true rfl) dc_H_init_99 ?_
    refine go_aload (i := 5) X rfl dc_H_init_102 ?_
    refine go_iconst (v := 1) X (by decide) dc_H_init_104 ?_
    refine go_put (C := rn_N) (T := ft_N) (ci := 1) (i := 8) (k := 5) (fs := n1_.set 0 (.int 1)) X in_N rfl ty_N tk_N nm_N (by omega) (va_up_self _ _ _) (by decide) fl_H_43 (fun x h => h) rfl (tk_N 5 (by decide)) rfl rfl (Nat.le_of_ble_eq_true rfl) dc_H_init_105 ?_
    refine go_eqw (w' := wl_ ad 40 (hI_ T ad K .null (pf_ ad 8 32) (e2_ T ad n (fun _ => none)))) (wl_congr (fun i hi => hI_sB i hi)) ?_
    refine go_aload_n (i := 0) X rfl rfl dc_H_init_108 ?_
    refine go_iload (i := 4) X rfl dc_H_init_109 ?_
    refine go_anewa (C := rn_C) (t0 := 4) (N' := n) X hA kl_H_47 hao.2 rfl (nI_pos (by omega)) (nI_clamp (by omega)) (by omega) ⟨by show 7 + 32 + 1 ≤ 45; omega, by show 62 + 8 * 32 + n ≤ 393; omega⟩ dc_H_init_111 (fun q => ?_)
    refine go_eqw (wl_snoc ad 40 _ q _) ?_
    refine gw_putF (C := rn_H) (T := ft_H) (ci := 0) (i := 0) (k := 0) (a := ad 0) (fs := [.null, .ref (ad 7), .ref (ad 1), .ref (ad 3), .ref (ad 5)]) X in_H rfl ty_H tk_H nm_H (by rw [wl_at (by omega), va_up_ne _ _ (by omega), va_up_ne _ _ (by omega)]; rfl) (by decide) fl_H_49 (fun x h => h) rfl hnm rfl (tk_H 0 (by decide)) rfl rfl (Nat.le_of_ble_eq_true rfl) dc_H_init_114 ?_
    have e0 : va_up ad 40 q 0 = ad 0 := va_up_ne _ _ (by omega)
    have e8 : va_up ad 40 q 8 = ad 8 := va_up_ne _ _ (by omega)
    refine go_eqw (w' := wl_ (va_up ad 40 q) 41 (hI_ T (va_up ad 40 q) K (.ref (va_up ad 40 q 40)) (pf_ (va_up ad 40 q) 8 32) (e2_ T (va_up ad 40 q) n (pf_ (va_up ad 40 q) 41 0)))) (by rw [← e0, wl_set]; exact wl_congr (fun i hi => hI_sC i hi)) ?_
    refine go_iconst (v := nI 0) X (by decide) dc_H_init_117 ?_
    refine go_istore (i := 6) X (by decide) dc_H_init_118 ?_
    refine go_loc (L' := [(0, .ref (va_up ad 40 q 0)), (4, .int (nI n)), (5, .ref (va_up ad 40 q 8)), (6, .int (nI 0))]) (by rw [e0, e8]; rfl) ?_
    refine go_widen (cells' := 40 + 0) (slots' := 323 + 14 * 0) (by decide) (by omega) ?_
    refine (lp_up (P := fun j => ∀ ad : Nat → Nat, ad 0 = a0 → Go_ P l e (rn_d 5 45 393) s m args below meth c D cl_ _ 7 (40 + j) (323 + 14 * j) _ (wl_ ad (41 + j) (hI_ T ad K (.ref (ad 40)) (pf_ ad 8 32) (e2_ T ad n (pf_ ad 41 j)))) 120 [(0, .ref (ad 0)), (4, .int (nI n)), (5, .ref (ad 8)), (6, .int (nI j))] []) n (fun j hj ih ad h0 => ?_)) 0 (Nat.zero_le _) (va_up ad 40 q) (e0.trans h0)
    refine go_iload (i := 6) X rfl dc_H_init_120 ?_
    refine go_iload (i := 4) X rfl dc_H_init_122 ?_
    refine go_icmp_ge (tgt := 151) X dc_H_init_124 (by decide) (fun h124 => ?_) (fun h124 => ?_)
    · have e9 : j = n := by rw [iz_le, iz_nI (by omega), iz_nI (by omega)] at h124; omega
      subst e9
      refine gw_arrq (i := 7) (n := 32) (a := ad 7) (f' := fun k => some (ad (k + 8))) (wl_at (by omega)) (fun i hi => pf_lt hi) ?_
      refine go_eqw (wl_set _) ?_
      refine gw_arrq (i := 40) (n := j) (a := ad 40) (f := pf_ ad 41 j) (f' := fun p => some (ad (p + 41))) (by rw [wl_at (by omega), va_up_ne _ _ (by omega)]; rfl) (fun i hi => pf_lt hi) ?_
      refine go_eqw (wl_set _) ?_
      refine go_widen (cells' := 45) (slots' := 393) (by omega) (by omega) ?_
      exact go_avret X ad h0 hr dc_H_init_151 (wl_congr (fun i hi => hI_sE i))
    · have hlt : j < n := by rw [iz_le, iz_nI (by omega), iz_nI (by omega)] at h124; omega
      have hx : Ix_ (nI j) n j := Ix_n hlt (by omega)
      refine go_aload_n (i := 0) X rfl rfl dc_H_init_127 ?_
      refine go_get (C := rn_H) (T := ft_H) (ci := 0) (i := 0) (k := 0) (v := .ref (ad 40)) X in_H rfl (by omega) rfl (by decide) fl_H_49 (fun x h => h) rfl dc_H_init_128 ?_
      refine go_iload (i := 6) X rfl dc_H_init_131 ?_
      refine go_new (C := rn_C) (T := ft_C) (ci := 2) (fs := [.int 0, .int 0, .int 0, .int 0, .int 0, .int 0, .null, .null, .null, .null, .null, .int 0, .int 0, .int 0]) X hA in_C ty_C tk_C kl_H_47 nk_C ik_C rfl (by decide) ⟨by show 40 + j + 1 ≤ 45; omega, by show 323 + 14 * j + 14 ≤ 393; omega⟩ dc_H_init_133 (fun q => ?_)
      refine go_dup X rfl dc_H_init_136 ?_
      refine go_iload (i := 6) X rfl dc_H_init_137 ?_
      refine go_aload (i := 5) X rfl dc_H_init_139 ?_
      refine go_nI (n := 2) (rest := [.ref q, .int (nI j), .ref (ad 40)]) (w2 := wl_ ad (41 + j) (hI_ T ad K (.ref (ad 40)) (pf_ ad 8 32) (e2_ T ad n (pf_ ad 41 j)))) (w1 := [(q, .inr (2, [.int 0, .int 0, .int 0, .int 0, .int 0, .int 0, .null, .null, .null, .null, .null, .int 0, .int 0, .int 0]))]) X hN hA (kn_C l D T nw (a := q) (b := ad 8) (q := nI j)) ml_H_53 im_C_init ik_C co_C_init rfl ⟨by decide, by decide, by decide +kernel⟩ ⟨by decide, by decide⟩ ⟨by show 40 + j + 1 + 0 ≤ 45; omega, by show 323 + 14 * j + 14 + 0 ≤ 393; omega⟩ rfl rfl (Nat.le_of_ble_eq_true rfl) dc_H_init_141 (fun _ _ => ?_)
      refine go_eqw (wl_snoc ad (41 + j) _ q (.inr (2, c1_ ad j))) ?_
      have e0 : va_up ad (41 + j) q 0 = ad 0 := va_up_ne _ _ (by omega)
      have e8 : va_up ad (41 + j) q 8 = ad 8 := va_up_ne _ _ (by omega)
      have e40 : va_up ad (41 + j) q 40 = ad 40 := va_up_ne _ _ (by omega)
      refine go_eqs (st' := [.ref q, .int (nI j), .ref (va_up ad (41 + j) q 40)]) (by rw [e40]; rfl) ?_
      refine gw_aast (i := 40) (t0 := 4) (n := n) (a := va_up ad (41 + j) q 40) (qk := 41 + j) (ci := 2) (r := (rn_C, ft_C, 14)) (vs := c1_ ad j) (f := pf_ ad 41 j) (cA := T 4) X ((wl_at (by omega)).trans (congrArg (fun x => some (va_up ad (41 + j) q 40, x)) (va_up_ne _ _ (by omega)))) rfl (by rw [wl_at (by omega), va_up_self, va_up_self]) rfl hx.1 hx.2 dc_H_init_144 ?_
      refine go_eqw (w' := wl_ (va_up ad (41 + j) q) (41 + (j + 1)) (hI_ T (va_up ad (41 + j) q) K (.ref (va_up ad (41 + j) q 40)) (pf_ (va_up ad (41 + j) q) 8 32) (e2_ T (va_up ad (41 + j) q) n (pf_ (va_up ad (41 + j) q) 41 (j + 1))))) (by rw [wl_set]; exact wl_congr (fun i hi => hI_sD i hi)) ?_
      refine go_iinc (i := 6) (v := nI (j + 1)) X rfl (by rw [lit1]; exact nI_1 j) (by decide) dc_H_init_145 ?_
      refine go_goto (tgt := 120) X dc_H_init_148 (by decide) ?_
      refine go_loc (L' := [(0, .ref (va_up ad (41 + j) q 0)), (4, .int (nI n)), (5, .ref (va_up ad (41 + j) q 8)), (6, .int (nI (j + 1)))]) (by rw [e0, e8]; rfl) ?_
      refine go_widen (cells' := 40 + (j + 1)) (slots' := 323 + 14 * (j + 1)) (by show 40 + j + 1 + 0 ≤ _; omega) (by show 323 + 14 * j + 14 + 0 ≤ _; omega) ?_
      exact ih hlt (va_up ad (41 + j) q) (e0.trans h0)
  · have e32 : (32 : Int32).toInt = 32 := by decide
    have hlt : j < 32 := by rw [iz_le, iz_nI (by omega), e32] at h65; omega
    have hx : Ix_ (nI j) 32 j := Ix_n hlt (by omega)
    refine go_aload_n (i := 0) X rfl rfl dc_H_init_68 ?_
    refine go_get (C := rn_H) (T := ft_H) (ci := 0) (i := 0) (k := 1) (v := .ref (ad 7)) X in_H rfl (by omega) rfl (by decide) fl_H_34 (fun x h => h) rfl dc_H_init_69 ?_
    refine go_iload (i := 5) X rfl dc_H_init_72 ?_
    refine go_new (C := rn_N) (T := ft_N) (ci := 1) (fs := [.int 0, .int 0, .int 0, .int 0, .int 0, .int 0, .int 0, .null]) X hA in_N ty_N tk_N kl_H_32 nk_N ik_N rfl (by decide) ⟨by show 7 + j + 1 ≤ 45; omega, by show 62 + 8 * j + 8 ≤ 393; omega⟩ dc_H_init_74 (fun q => ?_)
    refine go_dup X rfl dc_H_init_77 ?_
    refine go_nN (host := "HelpedLog") (n := 0) (rest := [.ref q, .int (nI j), .ref (ad 7)]) (w2 := wl_ ad (8 + j) (hI_ T ad K .null (pf_ ad 8 j) e1_)) (w1 := [(q, .inr (1, [.int 0, .int 0, .int 0, .int 0, .int 0, .int 0, .int 0, .null]))]) X hN hA (kn_N l D T nw (a := q)) (hnw _ (List.mem_of_getElem? (i := 2) rfl)) im_N_init ik_N co_N_init rfl ⟨by decide, by decide, by decide +kernel⟩ ⟨by decide, by decide⟩ ⟨by show 7 + j + 1 + 0 ≤ 45; omega, by show 62 + 8 * j + 8 + 0 ≤ 393; omega⟩ rfl rfl (Nat.le_of_ble_eq_true rfl) dc_H_init_78 (fun _ _ => ?_)
    refine go_eqw (wl_snoc ad (8 + j) _ q (.inr (1, n1_))) ?_
    have e0 : va_up ad (8 + j) q 0 = ad 0 := va_up_ne _ _ (by omega)
    have e7 : va_up ad (8 + j) q 7 = ad 7 := va_up_ne _ _ (by omega)
    refine gw_aast (i := 7) (t0 := 3) (n := 32) (a := ad 7) (qk := 8 + j) (ci := 1) (r := (rn_N, ft_N, 8)) (vs := n1_) (f := pf_ ad 8 j) (cA := T 3) X (by rw [wl_at (by omega), e7, va_up_ne _ _ (by omega)]; rfl) rfl (by rw [wl_at (by omega), va_up_self, va_up_self]) rfl hx.1 hx.2 dc_H_init_81 ?_
    refine go_eqw (w' := wl_ (va_up ad (8 + j) q) (8 + (j + 1)) (hI_ T (va_up ad (8 + j) q) K .null (pf_ (va_up ad (8 + j) q) 8 (j + 1)) e1_)) (by rw [← e7, wl_set]; exact wl_congr (fun i hi => hI_sA i hi)) ?_
    refine go_iinc (i := 5) (v := nI (j + 1)) X rfl (by rw [lit1]; exact nI_1 j) (by decide) dc_H_init_82 ?_
    refine go_goto (tgt := 61) X dc_H_init_85 (by decide) ?_
    refine go_loc (L' := [(0, .ref (va_up ad (8 + j) q 0)), (4, .int (nI n)), (5, .int (nI (j + 1)))]) (by rw [e0]; rfl) ?_
    refine go_widen (cells' := 7 + (j + 1)) (slots' := 62 + 8 * (j + 1)) (by show 7 + j + 1 + 0 ≤ _; omega) (by show 62 + 8 * j + 8 + 0 ≤ _; omega) ?_
    exact ih hlt (va_up ad (8 + j) q) (e0.trans h0)
end CI_B

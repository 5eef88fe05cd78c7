section CW_A
/-- a reference to a node: below 0 none -/
def rf_ (ad : Nat → Nat) (x : Int32) : Value := if x < 0 then .null else .ref (ad (ix_ x + 8))
theorem rf_ix {ad : Nat → Nat} {x : Int32} {k : Nat} (h : Ix_ x 32 k) : rf_ ad x = .ref (ad (k + 8)) := by
  have h1 := vp_in_iff.mp h.1
  unfold rf_
  rw [if_neg (by rw [iz_lt, iz_0]; omega), h.2]
theorem rf_neg {ad : Nat → Nat} {x : Int32} (h : x < 0) : rf_ ad x = .null := if_pos h
theorem rf_m (ad : Nat → Nat) : rf_ ad (-1) = .null := if_pos (by decide)
theorem rf_n {ad : Nat → Nat} {k : Nat} (h : k < 32) : rf_ ad (nI k) = .ref (ad (k + 8)) := rf_ix (Ix_n h (by decide))
def lc_ (K : Nat) : Nat := cond (Nat.beq K 3) 4 8
def hF_ (ad : Nat → Nat) : List Value := [.ref (ad 40), .ref (ad 7), .ref (ad 1), .ref (ad 3), .ref (ad 5)]
def pF_ (ad : Nat → Nat) (σ : ST_) (j : Nat) : List Value := [.ref (ad (2 * j + 2)), .int (σ 33 j)]
def nF_ (ad : Nat → Nat) (σ : ST_) (k : Nat) : List Value := [.int (σ 1 k), .int (σ 4 k), .int (σ 5 k), .int (σ 6 k), .int (σ 7 k), .int (σ 2 k), .int (σ 26 k), rf_ ad (σ 3 k)]
def cF_ (ad : Nat → Nat) (σ : ST_) (p : Nat) : List Value := [.int (nI p), .int (σ 10 p), .int (σ 15 p), .int (σ 16 p), .int (σ 17 p), .int (σ 11 p), rf_ ad (σ 8 p), rf_ ad (σ 9 p), rf_ ad (σ 12 p), rf_ ad (σ 13 p), rf_ ad (σ 14 p), .int (σ 18 p), .int (σ 19 p), .int (σ 20 p)]
def cE2_ (T : Nat → ClassId) (ad : Nat → Nat) (n : Nat) (σ : ST_) (k : Nat) : va_E :=
  if k < 32 then .inr (1, nF_ ad σ k) else if k = 32 then .inl (T 4, n, .inr (.inr (.inr (.inr (fun p => some (ad (p + 41))))))) else .inr (2, cF_ ad σ (k - 33))
def cE_ (T : Nat → ClassId) (ad : Nat → Nat) (K n : Nat) (σ : ST_) : Nat → va_E
  | 0 => .inr (0, hF_ ad)
  | 1 => .inr (K + 3, pF_ ad σ 0)
  | 2 => .inl (T 0, lc_ K, .inl (σ 30))
  | 3 => .inr (K + 3, pF_ ad σ 1)
  | 4 => .inl (T 0, lc_ K, .inl (σ 31))
  | 5 => .inr (K + 3, pF_ ad σ 2)
  | 6 => .inl (T 0, lc_ K, .inl (σ 32))
  | 7 => .inl (T 3, 32, .inr (.inr (.inr (.inr (fun k => some (ad (k + 8)))))))
  | k + 8 => cE2_ T ad n σ k
def cW_ (T : Nat → ClassId) (ad : Nat → Nat) (K n : Nat) (σ : ST_) : va_W := wl_ ad (41 + n) (cE_ T ad K n σ)
variable (T : Nat → ClassId) (ad : Nat → Nat) (K n : Nat) (σ : ST_)
theorem cE_node {k : Nat} (h : k < 32) : cE_ T ad K n σ (k + 8) = .inr (1, nF_ ad σ k) := if_pos h
theorem cE_cs : cE_ T ad K n σ 40 = .inl (T 4, n, .inr (.inr (.inr (.inr (fun p => some (ad (p + 41))))))) := rfl
theorem cE_call (p : Nat) : cE_ T ad K n σ (p + 41) = .inr (2, cF_ ad σ p) := by
  show cE2_ T ad n σ (p + 33) = _
  unfold cE2_
  rw [if_neg (by omega), if_neg (by omega), Nat.add_sub_cancel]
theorem cE_pl {j : Nat} (h : j < 3) : cE_ T ad K n σ (2 * j + 1) = .inr (K + 3, pF_ ad σ j) := by
  match j, h with
  | 0, _ => rfl
  | 1, _ => rfl
  | 2, _ => rfl
theorem cE_ce {j : Nat} (h : j < 3) : cE_ T ad K n σ (2 * j + 2) = .inl (T 0, lc_ K, .inl (σ (30 + j))) := by
  match j, h with
  | 0, _ => rfl
  | 1, _ => rfl
  | 2, _ => rfl
variable {T ad K n σ}
/-- the same world but for one place -/
theorem cE_up {σ' : ST_} {i0 : Nat} {x : va_E} (hx : x = cE_ T ad K n σ' i0) (hN : ∀ k, k < 32 → k + 8 ≠ i0 → nF_ ad σ k = nF_ ad σ' k) (hC : ∀ p, p + 41 ≠ i0 → cF_ ad σ p = cF_ ad σ' p) (hP : ∀ j, j < 3 → 2 * j + 1 ≠ i0 → σ 33 j = σ' 33 j) (hG : ∀ j, j < 3 → 2 * j + 2 ≠ i0 → σ (30 + j) = σ' (30 + j)) : ∀ i, va_up (cE_ T ad K n σ) i0 x i = cE_ T ad K n σ' i := by
  intro i
  by_cases e : i = i0
  · subst e; rw [va_up_self]; exact hx
  · rw [va_up_ne _ _ e]
    match i, e with
    | 0, _ => rfl
    | 1, e => show Sum.inr _ = Sum.inr _; unfold pF_; rw [hP 0 (by omega) (fun q => e (by omega))]
    | 2, e => show Sum.inl _ = Sum.inl _; rw [show σ 30 = σ' 30 from hG 0 (by omega) (fun q => e (by omega))]
    | 3, e => show Sum.inr _ = Sum.inr _; unfold pF_; rw [hP 1 (by omega) (fun q => e (by omega))]
    | 4, e => show Sum.inl _ = Sum.inl _; rw [show σ 31 = σ' 31 from hG 1 (by omega) (fun q => e (by omega))]
    | 5, e => show Sum.inr _ = Sum.inr _; unfold pF_; rw [hP 2 (by omega) (fun q => e (by omega))]
    | 6, e => show Sum.inl _ = Sum.inl _; rw [show σ 32 = σ' 32 from hG 2 (by omega) (fun q => e (by omega))]
    | 7, _ => rfl
    | k + 8, e =>
      show cE2_ T ad n σ k = cE2_ T ad n σ' k
      unfold cE2_
      by_cases h : k < 32
      · rw [if_pos h, if_pos h, hN k h e]
      · rw [if_neg h, if_neg h]
        by_cases h2 : k = 32
        · rw [if_pos h2, if_pos h2]
        · rw [if_neg h2, if_neg h2, hC (k - 33) (fun q => e (by omega))]
theorem nu_1 {k : Nat} (hk : k < 32) (x : Int32) : ∀ i, va_up (cE_ T ad K n σ) (k + 8) (.inr (1, (nF_ ad σ k).set 0 (.int x))) i = cE_ T ad K n (u2_ σ 1 k x) i := by
  refine cE_up ?_ (fun k' hk' hne => ?_) (fun p _ => rfl) (fun j _ _ => rfl) (fun j hj _ => (u2_ne σ k x (by omega)).symm)
  · rw [cE_node _ _ _ _ _ hk]
    have e : u2_ σ 1 k x 1 k = x := by rw [u2_at]; exact if_pos ⟨rfl, rfl⟩
    show Sum.inr (1, _) = Sum.inr (1, _)
    unfold nF_
    rw [e]
    rfl
  · have e : u2_ σ 1 k x 1 k' = σ 1 k' := by rw [u2_at]; exact if_neg (fun h => hne (by omega))
    show _ = nF_ ad (u2_ σ 1 k x) k'
    unfold nF_
    rw [e]
    rfl
theorem nu_4 {k : Nat} (hk : k < 32) (x : Int32) : ∀ i, va_up (cE_ T ad K n σ) (k + 8) (.inr (1, (nF_ ad σ k).set 1 (.int x))) i = cE_ T ad K n (u2_ σ 4 k x) i := by
  refine cE_up ?_ (fun k' hk' hne => ?_) (fun p _ => rfl) (fun j _ _ => rfl) (fun j hj _ => (u2_ne σ k x (by omega)).symm)
  · rw [cE_node _ _ _ _ _ hk]
    have e : u2_ σ 4 k x 4 k = x := by rw [u2_at]; exact if_pos ⟨rfl, rfl⟩
    show Sum.inr (1, _) = Sum.inr (1, _)
    unfold nF_
    rw [e]
    rfl
  · have e : u2_ σ 4 k x 4 k' = σ 4 k' := by rw [u2_at]; exact if_neg (fun h => hne (by omega))
    show _ = nF_ ad (u2_ σ 4 k x) k'
    unfold nF_
    rw [e]
    rfl
theorem nu_5 {k : Nat} (hk : k < 32) (x : Int32) : ∀ i, va_up (cE_ T ad K n σ) (k + 8) (.inr (1, (nF_ ad σ k).set 2 (.int x))) i = cE_ T ad K n (u2_ σ 5 k x) i := by
  refine cE_up ?_ (fun k' hk' hne => ?_) (fun p _ => rfl) (fun j _ _ => rfl) (fun j hj _ => (u2_ne σ k x (by omega)).symm)
  · rw [cE_node _ _ _ _ _ hk]
    have e : u2_ σ 5 k x 5 k = x := by rw [u2_at]; exact if_pos ⟨rfl, rfl⟩
    show Sum.inr (1, _) = Sum.inr (1, _)
    unfold nF_
    rw [e]
    rfl
  · have e : u2_ σ 5 k x 5 k' = σ 5 k' := by rw [u2_at]; exact if_neg (fun h => hne (by omega))
    show _ = nF_ ad (u2_ σ 5 k x) k'
    unfold nF_
    rw [e]
    rfl
theorem nu_6 {k : Nat} (hk : k < 32) (x : Int32) : ∀ i, va_up (cE_ T ad K n σ) (k + 8) (.inr (1, (nF_ ad σ k).set 3 (.int x))) i = cE_ T ad K n (u2_ σ 6 k x) i := by
  refine cE_up ?_ (fun k' hk' hne => ?_) (fun p _ => rfl) (fun j _ _ => rfl) (fun j hj _ => (u2_ne σ k x (by omega)).symm)
  · rw [cE_node _ _ _ _ _ hk]
    have e : u2_ σ 6 k x 6 k = x := by rw [u2_at]; exact if_pos ⟨rfl, rfl⟩
    show Sum.inr (1, _) = Sum.inr (1, _)
    unfold nF_
    rw [e]
    rfl
  · have e : u2_ σ 6 k x 6 k' = σ 6 k' := by rw [u2_at]; exact if_neg (fun h => hne (by omega))
    show _ = nF_ ad (u2_ σ 6 k x) k'
    unfold nF_
    rw [e]
    rfl
theorem nu_7 {k : Nat} (hk : k < 32) (x : Int32) : ∀ i, va_up (cE_ T ad K n σ) (k + 8) (.inr (1, (nF_ ad σ k).set 4 (.int x))) i = cE_ T ad K n (u2_ σ 7 k x) i := by
  refine cE_up ?_ (fun k' hk' hne => ?_) (fun p _ => rfl) (fun j _ _ => rfl) (fun j hj _ => (u2_ne σ k x (by omega)).symm)
  · rw [cE_node _ _ _ _ _ hk]
    have e : u2_ σ 7 k x 7 k = x := by rw [u2_at]; exact if_pos ⟨rfl, rfl⟩
    show Sum.inr (1, _) = Sum.inr (1, _)
    unfold nF_
    rw [e]
    rfl
  · have e : u2_ σ 7 k x 7 k' = σ 7 k' := by rw [u2_at]; exact if_neg (fun h => hne (by omega))
    show _ = nF_ ad (u2_ σ 7 k x) k'
    unfold nF_
    rw [e]
    rfl
theorem nu_2 {k : Nat} (hk : k < 32) (x : Int32) : ∀ i, va_up (cE_ T ad K n σ) (k + 8) (.inr (1, (nF_ ad σ k).set 5 (.int x))) i = cE_ T ad K n (u2_ σ 2 k x) i := by
  refine cE_up ?_ (fun k' hk' hne => ?_) (fun p _ => rfl) (fun j _ _ => rfl) (fun j hj _ => (u2_ne σ k x (by omega)).symm)
  · rw [cE_node _ _ _ _ _ hk]
    have e : u2_ σ 2 k x 2 k = x := by rw [u2_at]; exact if_pos ⟨rfl, rfl⟩
    show Sum.inr (1, _) = Sum.inr (1, _)
    unfold nF_
    rw [e]
    rfl
  · have e : u2_ σ 2 k x 2 k' = σ 2 k' := by rw [u2_at]; exact if_neg (fun h => hne (by omega))
    show _ = nF_ ad (u2_ σ 2 k x) k'
    unfold nF_
    rw [e]
    rfl
theorem nu_26 {k : Nat} (hk : k < 32) (x : Int32) : ∀ i, va_up (cE_ T ad K n σ) (k + 8) (.inr (1, (nF_ ad σ k).set 6 (.int x))) i = cE_ T ad K n (u2_ σ 26 k x) i := by
  refine cE_up ?_ (fun k' hk' hne => ?_) (fun p _ => rfl) (fun j _ _ => rfl) (fun j hj _ => (u2_ne σ k x (by omega)).symm)
  · rw [cE_node _ _ _ _ _ hk]
    have e : u2_ σ 26 k x 26 k = x := by rw [u2_at]; exact if_pos ⟨rfl, rfl⟩
    show Sum.inr (1, _) = Sum.inr (1, _)
    unfold nF_
    rw [e]
    rfl
  · have e : u2_ σ 26 k x 26 k' = σ 26 k' := by rw [u2_at]; exact if_neg (fun h => hne (by omega))
    show _ = nF_ ad (u2_ σ 26 k x) k'
    unfold nF_
    rw [e]
    rfl
theorem nu_3 {k : Nat} (hk : k < 32) (x : Int32) : ∀ i, va_up (cE_ T ad K n σ) (k + 8) (.inr (1, (nF_ ad σ k).set 7 (rf_ ad x))) i = cE_ T ad K n (u2_ σ 3 k x) i := by
  refine cE_up ?_ (fun k' hk' hne => ?_) (fun p _ => rfl) (fun j _ _ => rfl) (fun j hj _ => (u2_ne σ k x (by omega)).symm)
  · rw [cE_node _ _ _ _ _ hk]
    have e : u2_ σ 3 k x 3 k = x := by rw [u2_at]; exact if_pos ⟨rfl, rfl⟩
    show Sum.inr (1, _) = Sum.inr (1, _)
    unfold nF_
    rw [e]
    rfl
  · have e : u2_ σ 3 k x 3 k' = σ 3 k' := by rw [u2_at]; exact if_neg (fun h => hne (by omega))
    show _ = nF_ ad (u2_ σ 3 k x) k'
    unfold nF_
    rw [e]
    rfl
theorem cu_10 (p : Nat) (x : Int32) : ∀ i, va_up (cE_ T ad K n σ) (p + 41) (.inr (2, (cF_ ad σ p).set 1 (.int x))) i = cE_ T ad K n (u2_ σ 10 p x) i := by
  refine cE_up ?_ (fun k' hk' hne => rfl) (fun p' hne => ?_) (fun j _ _ => rfl) (fun j hj _ => (u2_ne σ p x (by omega)).symm)
  · rw [cE_call]
    have e : u2_ σ 10 p x 10 p = x := by rw [u2_at]; exact if_pos ⟨rfl, rfl⟩
    show Sum.inr (2, _) = Sum.inr (2, _)
    unfold cF_
    rw [e]
    rfl
  · have e : u2_ σ 10 p x 10 p' = σ 10 p' := by rw [u2_at]; exact if_neg (fun h => hne (by omega))
    show _ = cF_ ad (u2_ σ 10 p x) p'
    unfold cF_
    rw [e]
    rfl
theorem cu_15 (p : Nat) (x : Int32) : ∀ i, va_up (cE_ T ad K n σ) (p + 41) (.inr (2, (cF_ ad σ p).set 2 (.int x))) i = cE_ T ad K n (u2_ σ 15 p x) i := by
  refine cE_up ?_ (fun k' hk' hne => rfl) (fun p' hne => ?_) (fun j _ _ => rfl) (fun j hj _ => (u2_ne σ p x (by omega)).symm)
  · rw [cE_call]
    have e : u2_ σ 15 p x 15 p = x := by rw [u2_at]; exact if_pos ⟨rfl, rfl⟩
    show Sum.inr (2, _) = Sum.inr (2, _)
    unfold cF_
    rw [e]
    rfl
  · have e : u2_ σ 15 p x 15 p' = σ 15 p' := by rw [u2_at]; exact if_neg (fun h => hne (by omega))
    show _ = cF_ ad (u2_ σ 15 p x) p'
    unfold cF_
    rw [e]
    rfl
theorem cu_16 (p : Nat) (x : Int32) : ∀ i, va_up (cE_ T ad K n σ) (p + 41) (.inr (2, (cF_ ad σ p).set 3 (.int x))) i = cE_ T ad K n (u2_ σ 16 p x) i := by
  refine cE_up ?_ (fun k' hk' hne => rfl) (fun p' hne => ?_) (fun j _ _ => rfl) (fun j hj _ => (u2_ne σ p x (by omega)).symm)
  · rw [cE_call]
    have e : u2_ σ 16 p x 16 p = x := by rw [u2_at]; exact if_pos ⟨rfl, rfl⟩
    show Sum.inr (2, _) = Sum.inr (2, _)
    unfold cF_
    rw [e]
    rfl
  · have e : u2_ σ 16 p x 16 p' = σ 16 p' := by rw [u2_at]; exact if_neg (fun h => hne (by omega))
    show _ = cF_ ad (u2_ σ 16 p x) p'
    unfold cF_
    rw [e]
    rfl
theorem cu_17 (p : Nat) (x : Int32) : ∀ i, va_up (cE_ T ad K n σ) (p + 41) (.inr (2, (cF_ ad σ p).set 4 (.int x))) i = cE_ T ad K n (u2_ σ 17 p x) i := by
  refine cE_up ?_ (fun k' hk' hne => rfl) (fun p' hne => ?_) (fun j _ _ => rfl) (fun j hj _ => (u2_ne σ p x (by omega)).symm)
  · rw [cE_call]
    have e : u2_ σ 17 p x 17 p = x := by rw [u2_at]; exact if_pos ⟨rfl, rfl⟩
    show Sum.inr (2, _) = Sum.inr (2, _)
    unfold cF_
    rw [e]
    rfl
  · have e : u2_ σ 17 p x 17 p' = σ 17 p' := by rw [u2_at]; exact if_neg (fun h => hne (by omega))
    show _ = cF_ ad (u2_ σ 17 p x) p'
    unfold cF_
    rw [e]
    rfl
theorem cu_11 (p : Nat) (x : Int32) : ∀ i, va_up (cE_ T ad K n σ) (p + 41) (.inr (2, (cF_ ad σ p).set 5 (.int x))) i = cE_ T ad K n (u2_ σ 11 p x) i := by
  refine cE_up ?_ (fun k' hk' hne => rfl) (fun p' hne => ?_) (fun j _ _ => rfl) (fun j hj _ => (u2_ne σ p x (by omega)).symm)
  · rw [cE_call]
    have e : u2_ σ 11 p x 11 p = x := by rw [u2_at]; exact if_pos ⟨rfl, rfl⟩
    show Sum.inr (2, _) = Sum.inr (2, _)
    unfold cF_
    rw [e]
    rfl
  · have e : u2_ σ 11 p x 11 p' = σ 11 p' := by rw [u2_at]; exact if_neg (fun h => hne (by omega))
    show _ = cF_ ad (u2_ σ 11 p x) p'
    unfold cF_
    rw [e]
    rfl
theorem cu_8 (p : Nat) (x : Int32) : ∀ i, va_up (cE_ T ad K n σ) (p + 41) (.inr (2, (cF_ ad σ p).set 6 (rf_ ad x))) i = cE_ T ad K n (u2_ σ 8 p x) i := by
  refine cE_up ?_ (fun k' hk' hne => rfl) (fun p' hne => ?_) (fun j _ _ => rfl) (fun j hj _ => (u2_ne σ p x (by omega)).symm)
  · rw [cE_call]
    have e : u2_ σ 8 p x 8 p = x := by rw [u2_at]; exact if_pos ⟨rfl, rfl⟩
    show Sum.inr (2, _) = Sum.inr (2, _)
    unfold cF_
    rw [e]
    rfl
  · have e : u2_ σ 8 p x 8 p' = σ 8 p' := by rw [u2_at]; exact if_neg (fun h => hne (by omega))
    show _ = cF_ ad (u2_ σ 8 p x) p'
    unfold cF_
    rw [e]
    rfl
theorem cu_9 (p : Nat) (x : Int32) : ∀ i, va_up (cE_ T ad K n σ) (p + 41) (.inr (2, (cF_ ad σ p).set 7 (rf_ ad x))) i = cE_ T ad K n (u2_ σ 9 p x) i := by
  refine cE_up ?_ (fun k' hk' hne => rfl) (fun p' hne => ?_) (fun j _ _ => rfl) (fun j hj _ => (u2_ne σ p x (by omega)).symm)
  · rw [cE_call]
    have e : u2_ σ 9 p x 9 p = x := by rw [u2_at]; exact if_pos ⟨rfl, rfl⟩
    show Sum.inr (2, _) = Sum.inr (2, _)
    unfold cF_
    rw [e]
    rfl
  · have e : u2_ σ 9 p x 9 p' = σ 9 p' := by rw [u2_at]; exact if_neg (fun h => hne (by omega))
    show _ = cF_ ad (u2_ σ 9 p x) p'
    unfold cF_
    rw [e]
    rfl
theorem cu_12 (p : Nat) (x : Int32) : ∀ i, va_up (cE_ T ad K n σ) (p + 41) (.inr (2, (cF_ ad σ p).set 8 (rf_ ad x))) i = cE_ T ad K n (u2_ σ 12 p x) i := by
  refine cE_up ?_ (fun k' hk' hne => rfl) (fun p' hne => ?_) (fun j _ _ => rfl) (fun j hj _ => (u2_ne σ p x (by omega)).symm)
  · rw [cE_call]
    have e : u2_ σ 12 p x 12 p = x := by rw [u2_at]; exact if_pos ⟨rfl, rfl⟩
    show Sum.inr (2, _) = Sum.inr (2, _)
    unfold cF_
    rw [e]
    rfl
  · have e : u2_ σ 12 p x 12 p' = σ 12 p' := by rw [u2_at]; exact if_neg (fun h => hne (by omega))
    show _ = cF_ ad (u2_ σ 12 p x) p'
    unfold cF_
    rw [e]
    rfl
theorem cu_13 (p : Nat) (x : Int32) : ∀ i, va_up (cE_ T ad K n σ) (p + 41) (.inr (2, (cF_ ad σ p).set 9 (rf_ ad x))) i = cE_ T ad K n (u2_ σ 13 p x) i := by
  refine cE_up ?_ (fun k' hk' hne => rfl) (fun p' hne => ?_) (fun j _ _ => rfl) (fun j hj _ => (u2_ne σ p x (by omega)).symm)
  · rw [cE_call]
    have e : u2_ σ 13 p x 13 p = x := by rw [u2_at]; exact if_pos ⟨rfl, rfl⟩
    show Sum.inr (2, _) = Sum.inr (2, _)
    unfold cF_
    rw [e]
    rfl
  · have e : u2_ σ 13 p x 13 p' = σ 13 p' := by rw [u2_at]; exact if_neg (fun h => hne (by omega))
    show _ = cF_ ad (u2_ σ 13 p x) p'
    unfold cF_
    rw [e]
    rfl
theorem cu_14 (p : Nat) (x : Int32) : ∀ i, va_up (cE_ T ad K n σ) (p + 41) (.inr (2, (cF_ ad σ p).set 10 (rf_ ad x))) i = cE_ T ad K n (u2_ σ 14 p x) i := by
  refine cE_up ?_ (fun k' hk' hne => rfl) (fun p' hne => ?_) (fun j _ _ => rfl) (fun j hj _ => (u2_ne σ p x (by omega)).symm)
  · rw [cE_call]
    have e : u2_ σ 14 p x 14 p = x := by rw [u2_at]; exact if_pos ⟨rfl, rfl⟩
    show Sum.inr (2, _) = Sum.inr (2, _)
    unfold cF_
    rw [e]
    rfl
  · have e : u2_ σ 14 p x 14 p' = σ 14 p' := by rw [u2_at]; exact if_neg (fun h => hne (by omega))
    show _ = cF_ ad (u2_ σ 14 p x) p'
    unfold cF_
    rw [e]
    rfl
theorem cu_18 (p : Nat) (x : Int32) : ∀ i, va_up (cE_ T ad K n σ) (p + 41) (.inr (2, (cF_ ad σ p).set 11 (.int x))) i = cE_ T ad K n (u2_ σ 18 p x) i := by
  refine cE_up ?_ (fun k' hk' hne => rfl) (fun p' hne => ?_) (fun j _ _ => rfl) (fun j hj _ => (u2_ne σ p x (by omega)).symm)
  · rw [cE_call]
    have e : u2_ σ 18 p x 18 p = x := by rw [u2_at]; exact if_pos ⟨rfl, rfl⟩
    show Sum.inr (2, _) = Sum.inr (2, _)
    unfold cF_
    rw [e]
    rfl
  · have e : u2_ σ 18 p x 18 p' = σ 18 p' := by rw [u2_at]; exact if_neg (fun h => hne (by omega))
    show _ = cF_ ad (u2_ σ 18 p x) p'
    unfold cF_
    rw [e]
    rfl
theorem cu_19 (p : Nat) (x : Int32) : ∀ i, va_up (cE_ T ad K n σ) (p + 41) (.inr (2, (cF_ ad σ p).set 12 (.int x))) i = cE_ T ad K n (u2_ σ 19 p x) i := by
  refine cE_up ?_ (fun k' hk' hne => rfl) (fun p' hne => ?_) (fun j _ _ => rfl) (fun j hj _ => (u2_ne σ p x (by omega)).symm)
  · rw [cE_call]
    have e : u2_ σ 19 p x 19 p = x := by rw [u2_at]; exact if_pos ⟨rfl, rfl⟩
    show Sum.inr (2, _) = Sum.inr (2, _)
    unfold cF_
    rw [e]
    rfl
  · have e : u2_ σ 19 p x 19 p' = σ 19 p' := by rw [u2_at]; exact if_neg (fun h => hne (by omega))
    show _ = cF_ ad (u2_ σ 19 p x) p'
    unfold cF_
    rw [e]
    rfl
theorem cu_20 (p : Nat) (x : Int32) : ∀ i, va_up (cE_ T ad K n σ) (p + 41) (.inr (2, (cF_ ad σ p).set 13 (.int x))) i = cE_ T ad K n (u2_ σ 20 p x) i := by
  refine cE_up ?_ (fun k' hk' hne => rfl) (fun p' hne => ?_) (fun j _ _ => rfl) (fun j hj _ => (u2_ne σ p x (by omega)).symm)
  · rw [cE_call]
    have e : u2_ σ 20 p x 20 p = x := by rw [u2_at]; exact if_pos ⟨rfl, rfl⟩
    show Sum.inr (2, _) = Sum.inr (2, _)
    unfold cF_
    rw [e]
    rfl
  · have e : u2_ σ 20 p x 20 p' = σ 20 p' := by rw [u2_at]; exact if_neg (fun h => hne (by omega))
    show _ = cF_ ad (u2_ σ 20 p x) p'
    unfold cF_
    rw [e]
    rfl
theorem pu_33 {j : Nat} (hj : j < 3) (x : Int32) : ∀ i, va_up (cE_ T ad K n σ) (2 * j + 1) (.inr (K + 3, (pF_ ad σ j).set 1 (.int x))) i = cE_ T ad K n (u2_ σ 33 j x) i := by
  refine cE_up ?_ (fun k' hk' hne => rfl) (fun p' hne => rfl) (fun j' _ hne => ?_) (fun j' hj' _ => (u2_ne σ j x (by omega)).symm)
  · rw [cE_pl _ _ _ _ _ hj]
    have e : u2_ σ 33 j x 33 j = x := by rw [u2_at]; exact if_pos ⟨rfl, rfl⟩
    show Sum.inr (K + 3, _) = Sum.inr (K + 3, _)
    unfold pF_
    rw [e]
    rfl
  · rw [u2_at]; exact (if_neg (fun h => hne (by omega))).symm
theorem pu_ce {j : Nat} (hj : j < 3) (f : Nat → Int32) : ∀ i, va_up (cE_ T ad K n σ) (2 * j + 2) (.inl (T 0, lc_ K, .inl f)) i = cE_ T ad K n (u1_ σ (30 + j) f) i := by
  refine cE_up ?_ (fun k' hk' hne => ?_) (fun p' hne => ?_) (fun j' _ hne => ?_) (fun j' hj' hne => (u1_ne σ f (by omega)).symm)
  · rw [cE_ce _ _ _ _ _ hj, u1_same]
  · unfold nF_; simp only [u1_ne σ f (show 1 ≠ 30 + j by omega), u1_ne σ f (show 2 ≠ 30 + j by omega), u1_ne σ f (show 3 ≠ 30 + j by omega), u1_ne σ f (show 4 ≠ 30 + j by omega), u1_ne σ f (show 5 ≠ 30 + j by omega), u1_ne σ f (show 6 ≠ 30 + j by omega), u1_ne σ f (show 7 ≠ 30 + j by omega), u1_ne σ f (show 26 ≠ 30 + j by omega)]
  · unfold cF_; simp only [u1_ne σ f (show 10 ≠ 30 + j by omega), u1_ne σ f (show 15 ≠ 30 + j by omega), u1_ne σ f (show 16 ≠ 30 + j by omega), u1_ne σ f (show 17 ≠ 30 + j by omega), u1_ne σ f (show 11 ≠ 30 + j by omega), u1_ne σ f (show 8 ≠ 30 + j by omega), u1_ne σ f (show 9 ≠ 30 + j by omega), u1_ne σ f (show 12 ≠ 30 + j by omega), u1_ne σ f (show 13 ≠ 30 + j by omega), u1_ne σ f (show 14 ≠ 30 + j by omega), u1_ne σ f (show 18 ≠ 30 + j by omega), u1_ne σ f (show 19 ≠ 30 + j by omega), u1_ne σ f (show 20 ≠ 30 + j by omega)]
  · rw [u1_ne σ f (show 33 ≠ 30 + j by omega)]
theorem ft_H1 (k : Nat) : (ft_H k).1 = "HelpedLog" := by
  unfold ft_H
  split <;> rfl
theorem ft_N1 (k : Nat) : (ft_N k).1 = "HelpedLog$Node" := by
  unfold ft_N
  split <;> rfl
theorem ft_C1 (k : Nat) : (ft_C k).1 = "HelpedLog$Caller" := by
  unfold ft_C
  split <;> rfl
theorem ft_Q1 (k : Nat) : (ft_Q k).1 = "HelpedLog$Plain" := by
  unfold ft_Q
  split <;> rfl
theorem ft_S1 (k : Nat) : (ft_S k).1 = "HelpedLog$Plain" := by
  unfold ft_S
  split <;> rfl
theorem ft_T1 (k : Nat) : (ft_T k).1 = "HelpedLog$Plain" := by
  unfold ft_T
  split <;> rfl
theorem ft_B1 (k : Nat) : (ft_B k).1 = "HelpedLog$Plain" := by
  unfold ft_B
  split <;> rfl
end CW_A
section CW_B
variable {p : Program} {l : Launch} {e : Env} {R : Room} {s : State} {m : MethodId} {args : Array Value} {below : List Frame} {meth : Method} {c : Code} {D : va_G} {A : Nat → Prop} {nL cells slots : Nat} {Q : State → Prop}
variable {cc : ByteArray} {own : String} {T : Nat → ClassId} {pc : Nat} {L : List (Nat × Value)} {rest : List Value} {ad : Nat → Nat} {K n : Nat} {σ : ST_}
theorem gh_get (X : Cx_ p l e R s m args below meth c cc nL own D cl_ (tys_ T) TG_) {index : Nat} {v : Value}  (f : Nat) (hf : f < 5) (hl : Cond.fieldLink own index rn_H (ft_H f).2.1 (ft_H f).2.2.1 ∈ TG_) (hv : (hF_ ad)[f]? = some v) (d : decode cc pc = .ok (.getfield index, 3))
    (kk : Go_ p l e R s m args below meth c D cl_ A nL cells slots Q (cW_ T ad K n σ) (pc + 3) L (v :: rest)) : Go_ p l e R s m args below meth c D cl_ A nL cells slots Q (cW_ T ad K n σ) pc L (.ref (ad 0) :: rest) :=
  go_get (ci := 0) (k := f) X in_H rfl (show 0 < 41 + n by omega) (rfl) hf hl (fun x h => by rw [ft_H1] at h; exact h) hv d kk
theorem gn_get (X : Cx_ p l e R s m args below meth c cc nL own D cl_ (tys_ T) TG_) {index : Nat} {v : Value} {k : Nat} (hk : k < 32) (f : Nat) (hf : f < 8) (hl : Cond.fieldLink own index rn_N (ft_N f).2.1 (ft_N f).2.2.1 ∈ TG_) (hv : (nF_ ad σ k)[f]? = some v) (d : decode cc pc = .ok (.getfield index, 3))
    (kk : Go_ p l e R s m args below meth c D cl_ A nL cells slots Q (cW_ T ad K n σ) (pc + 3) L (v :: rest)) : Go_ p l e R s m args below meth c D cl_ A nL cells slots Q (cW_ T ad K n σ) pc L (.ref (ad (k + 8)) :: rest) :=
  go_get (ci := 1) (k := f) X in_N rfl (show k + 8 < 41 + n by omega) (cE_node T ad K n σ hk) hf hl (fun x h => by rw [ft_N1] at h; exact h) hv d kk
theorem gc_get (X : Cx_ p l e R s m args below meth c cc nL own D cl_ (tys_ T) TG_) {index : Nat} {v : Value} {q : Nat} (hq : q < n) (f : Nat) (hf : f < 14) (hl : Cond.fieldLink own index rn_C (ft_C f).2.1 (ft_C f).2.2.1 ∈ TG_) (hv : (cF_ ad σ q)[f]? = some v) (d : decode cc pc = .ok (.getfield index, 3))
    (kk : Go_ p l e R s m args below meth c D cl_ A nL cells slots Q (cW_ T ad K n σ) (pc + 3) L (v :: rest)) : Go_ p l e R s m args below meth c D cl_ A nL cells slots Q (cW_ T ad K n σ) pc L (.ref (ad (q + 41)) :: rest) :=
  go_get (ci := 2) (k := f) X in_C rfl (show q + 41 < 41 + n by omega) (cE_call T ad K n σ q) hf hl (fun x h => by rw [ft_C1] at h; exact h) hv d kk
theorem gn_getR (X : Cx_ p l e R s m args below meth c cc nL own D cl_ (tys_ T) TG_) {index : Nat} {x : Int32} {j k : Nat} (hk : k < 32) (f : Nat) (hf : f < 8) (hl : Cond.fieldLink own index rn_N (ft_N f).2.1 (ft_N f).2.2.1 ∈ TG_) (hv : (nF_ ad σ k)[f]? = some (rf_ ad x)) (hx : Ix_ x 32 j) (d : decode cc pc = .ok (.getfield index, 3))
    (kk : Go_ p l e R s m args below meth c D cl_ A nL cells slots Q (cW_ T ad K n σ) (pc + 3) L (.ref (ad (j + 8)) :: rest)) : Go_ p l e R s m args below meth c D cl_ A nL cells slots Q (cW_ T ad K n σ) pc L (.ref (ad (k + 8)) :: rest) := gn_get X hk f hf hl (by rw [hv, rf_ix hx]) d kk
theorem gc_getR (X : Cx_ p l e R s m args below meth c cc nL own D cl_ (tys_ T) TG_) {index : Nat} {x : Int32} {j q : Nat} (hq : q < n) (f : Nat) (hf : f < 14) (hl : Cond.fieldLink own index rn_C (ft_C f).2.1 (ft_C f).2.2.1 ∈ TG_) (hv : (cF_ ad σ q)[f]? = some (rf_ ad x)) (hx : Ix_ x 32 j) (d : decode cc pc = .ok (.getfield index, 3))
    (kk : Go_ p l e R s m args below meth c D cl_ A nL cells slots Q (cW_ T ad K n σ) (pc + 3) L (.ref (ad (j + 8)) :: rest)) : Go_ p l e R s m args below meth c D cl_ A nL cells slots Q (cW_ T ad K n σ) pc L (.ref (ad (q + 41)) :: rest) := gc_get X hq f hf hl (by rw [hv, rf_ix hx]) d kk
theorem gn_put (X : Cx_ p l e R s m args below meth c cc nL own D cl_ (tys_ T) TG_) {index k : Nat} {v : Value} {x : Int32} {ty : FieldType} (f a : Nat) (hk : k < 32) (hf : f < 8) (hl : Cond.fieldLink own index rn_N (ft_N f).2.1 (ft_N f).2.2.1 ∈ TG_) (hfin : (ft_N f).2.2.2 = false) (hd : parseFieldDescriptor (ft_N f).2.2.1 = some ty) (hn : narrow ty v = v) (hfit : fits ty v = true) (hF : ∀ i, va_up (cE_ T ad K n σ) (k + 8) (.inr (1, (nF_ ad σ k).set f v)) i = cE_ T ad K n (u2_ σ a k x) i) (d : decode cc pc = .ok (.putfield index, 3))
    (kk : Go_ p l e R s m args below meth c D cl_ A nL cells slots Q (cW_ T ad K n (u2_ σ a k x)) (pc + 3) L rest) : Go_ p l e R s m args below meth c D cl_ A nL cells slots Q (cW_ T ad K n σ) pc L (v :: .ref (ad (k + 8)) :: rest) := by
  refine go_put (ci := 1) (k := f) X in_N rfl ty_N tk_N nm_N (show k + 8 < 41 + n by omega) (cE_node T ad K n σ hk) hf hl (fun x h => by rw [ft_N1] at h; exact h) hfin hd hn hfit (show f < 8 from hf) d ?_
  rw [wl_congr (fun i _ => hF i)]
  exact kk
theorem gc_put (X : Cx_ p l e R s m args below meth c cc nL own D cl_ (tys_ T) TG_) {index q : Nat} {v : Value} {x : Int32} {ty : FieldType} (f a : Nat) (hq : q < n) (hf : f < 14) (hl : Cond.fieldLink own index rn_C (ft_C f).2.1 (ft_C f).2.2.1 ∈ TG_) (hfin : (ft_C f).2.2.2 = false) (hd : parseFieldDescriptor (ft_C f).2.2.1 = some ty) (hn : narrow ty v = v) (hfit : fits ty v = true) (hF : ∀ i, va_up (cE_ T ad K n σ) (q + 41) (.inr (2, (cF_ ad σ q).set f v)) i = cE_ T ad K n (u2_ σ a q x) i) (d : decode cc pc = .ok (.putfield index, 3))
    (kk : Go_ p l e R s m args below meth c D cl_ A nL cells slots Q (cW_ T ad K n (u2_ σ a q x)) (pc + 3) L rest) : Go_ p l e R s m args below meth c D cl_ A nL cells slots Q (cW_ T ad K n σ) pc L (v :: .ref (ad (q + 41)) :: rest) := by
  refine go_put (ci := 2) (k := f) X in_C rfl ty_C tk_C nm_C (show q + 41 < 41 + n by omega) (cE_call T ad K n σ q) hf hl (fun x h => by rw [ft_C1] at h; exact h) hfin hd hn hfit (show f < 14 from hf) d ?_
  rw [wl_congr (fun i _ => hF i)]
  exact kk
/-- a reference put: v names x -/
theorem gn_putR (X : Cx_ p l e R s m args below meth c cc nL own D cl_ (tys_ T) TG_) {index k : Nat} {v : Value} {x : Int32} {ty : FieldType} (f a : Nat) (hk : k < 32) (hf : f < 8) (hl : Cond.fieldLink own index rn_N (ft_N f).2.1 (ft_N f).2.2.1 ∈ TG_) (hfin : (ft_N f).2.2.2 = false) (hd : parseFieldDescriptor (ft_N f).2.2.1 = some ty) (hx : rf_ ad x = v) (hn : narrow ty v = v) (hfit : fits ty v = true) (hF : ∀ i, va_up (cE_ T ad K n σ) (k + 8) (.inr (1, (nF_ ad σ k).set f (rf_ ad x))) i = cE_ T ad K n (u2_ σ a k x) i) (d : decode cc pc = .ok (.putfield index, 3))
    (kk : Go_ p l e R s m args below meth c D cl_ A nL cells slots Q (cW_ T ad K n (u2_ σ a k x)) (pc + 3) L rest) : Go_ p l e R s m args below meth c D cl_ A nL cells slots Q (cW_ T ad K n σ) pc L (v :: .ref (ad (k + 8)) :: rest) := gn_put X f a hk hf hl hfin hd hn hfit (by rw [← hx]; exact hF) d kk
theorem gc_putR (X : Cx_ p l e R s m args below meth c cc nL own D cl_ (tys_ T) TG_) {index q : Nat} {v : Value} {x : Int32} {ty : FieldType} (f a : Nat) (hq : q < n) (hf : f < 14) (hl : Cond.fieldLink own index rn_C (ft_C f).2.1 (ft_C f).2.2.1 ∈ TG_) (hfin : (ft_C f).2.2.2 = false) (hd : parseFieldDescriptor (ft_C f).2.2.1 = some ty) (hx : rf_ ad x = v) (hn : narrow ty v = v) (hfit : fits ty v = true) (hF : ∀ i, va_up (cE_ T ad K n σ) (q + 41) (.inr (2, (cF_ ad σ q).set f (rf_ ad x))) i = cE_ T ad K n (u2_ σ a q x) i) (d : decode cc pc = .ok (.putfield index, 3))
    (kk : Go_ p l e R s m args below meth c D cl_ A nL cells slots Q (cW_ T ad K n (u2_ σ a q x)) (pc + 3) L rest) : Go_ p l e R s m args below meth c D cl_ A nL cells slots Q (cW_ T ad K n σ) pc L (v :: .ref (ad (q + 41)) :: rest) := gc_put X f a hq hf hl hfin hd hn hfit (by rw [← hx]; exact hF) d kk
/-- a plain object's fields, of any kind -/
theorem gp_get (X : Cx_ p l e R s m args below meth c cc nL own D cl_ (tys_ T) TG_) {index j : Nat} {ref : String} {v : Value} (hK : K < 4) (hj : j < 3) (f : Nat) (hf : f < 2) (hl : Cond.fieldLink own index ref (ft_Q f).2.1 (ft_Q f).2.2.1 ∈ TG_) (hs : ∀ x, s.fieldFound? rn_P (ft_Q f).2.1 (ft_Q f).2.2.1 = some x → s.fieldFound? ref (ft_Q f).2.1 (ft_Q f).2.2.1 = some x) (hv : (pF_ ad σ j)[f]? = some v) (d : decode cc pc = .ok (.getfield index, 3))
    (kk : Go_ p l e R s m args below meth c D cl_ A nL cells slots Q (cW_ T ad K n σ) (pc + 3) L (v :: rest)) : Go_ p l e R s m args below meth c D cl_ A nL cells slots Q (cW_ T ad K n σ) pc L (.ref (ad (2 * j + 1)) :: rest) := by
  match K, hK with
  | 0, _ => exact go_get (ci := 3) (k := f) X in_Q rfl (show 2 * j + 1 < 41 + n by omega) (cE_pl T ad 0 n σ hj) hf hl (fun x h => by rw [ft_Q1] at h; exact hs x h) hv d kk
  | 1, _ => exact go_get (ci := 4) (k := f) X in_S rfl (show 2 * j + 1 < 41 + n by omega) (cE_pl T ad 1 n σ hj) hf hl (fun x h => by rw [ft_S1] at h; exact hs x h) hv d kk
  | 2, _ => exact go_get (ci := 5) (k := f) X in_T rfl (show 2 * j + 1 < 41 + n by omega) (cE_pl T ad 2 n σ hj) hf hl (fun x h => by rw [ft_T1] at h; exact hs x h) hv d kk
  | 3, _ => exact go_get (ci := 6) (k := f) X in_B rfl (show 2 * j + 1 < 41 + n by omega) (cE_pl T ad 3 n σ hj) hf hl (fun x h => by rw [ft_B1] at h; exact hs x h) hv d kk
theorem gp_put (X : Cx_ p l e R s m args below meth c cc nL own D cl_ (tys_ T) TG_) {index j : Nat} {ref : String} {x : Int32} (hK : K < 4) (hj : j < 3) (hl : Cond.fieldLink own index ref "count" "I" ∈ TG_) (hs : ∀ x, s.fieldFound? rn_P "count" "I" = some x → s.fieldFound? ref "count" "I" = some x) (d : decode cc pc = .ok (.putfield index, 3))
    (kk : Go_ p l e R s m args below meth c D cl_ A nL cells slots Q (cW_ T ad K n (u2_ σ 33 j x)) (pc + 3) L rest) : Go_ p l e R s m args below meth c D cl_ A nL cells slots Q (cW_ T ad K n σ) pc L (.int x :: .ref (ad (2 * j + 1)) :: rest) := by
  have kk2 : Go_ p l e R s m args below meth c D cl_ A nL cells slots Q (wl_ ad (41 + n) (va_up (cE_ T ad K n σ) (2 * j + 1) (.inr (K + 3, (pF_ ad σ j).set 1 (.int x))))) (pc + 3) L rest := by rw [wl_congr (fun i _ => pu_33 hj x i)]; exact kk
  match K, hK with
  | 0, _ => exact go_put (ci := 3) (k := 1) X in_Q rfl ty_Q tk_Q nm_Q (show 2 * j + 1 < 41 + n by omega) (cE_pl T ad 0 n σ hj) (by decide) hl (fun x h => by rw [ft_Q1] at h; exact hs x h) rfl (tk_Q 1 (by decide)) rfl rfl (show 1 < 2 by decide) d kk2
  | 1, _ => exact go_put (ci := 4) (k := 1) X in_S rfl ty_S tk_S nm_S (show 2 * j + 1 < 41 + n by omega) (cE_pl T ad 1 n σ hj) (by decide) hl (fun x h => by rw [ft_S1] at h; exact hs x h) rfl (tk_S 1 (by decide)) rfl rfl (show 1 < 2 by decide) d kk2
  | 2, _ => exact go_put (ci := 5) (k := 1) X in_T rfl ty_T tk_T nm_T (show 2 * j + 1 < 41 + n by omega) (cE_pl T ad 2 n σ hj) (by decide) hl (fun x h => by rw [ft_T1] at h; exact hs x h) rfl (tk_T 1 (by decide)) rfl rfl (show 1 < 2 by decide) d kk2
  | 3, _ => exact go_put (ci := 6) (k := 1) X in_B rfl ty_B tk_B nm_B (show 2 * j + 1 < 41 + n by omega) (cE_pl T ad 3 n σ hj) (by decide) hl (fun x h => by rw [ft_B1] at h; exact hs x h) rfl (tk_B 1 (by decide)) rfl rfl (show 1 < 2 by decide) d kk2
/-- a plain object's cells -/
theorem gp_ld (X : Cx_ p l e R s m args below meth c cc nL own D cl_ (tys_ T) TG_) {i : Int32} {j k : Nat} {f : Nat → Int32} (hj : j < 3) (hf : σ (30 + j) = f) (hi : Ix_ i (lc_ K) k) (d : decode cc pc = .ok (.iaload, 1))
    (kk : Go_ p l e R s m args below meth c D cl_ A nL cells slots Q (cW_ T ad K n σ) (pc + 1) L (.int (f k) :: rest)) : Go_ p l e R s m args below meth c D cl_ A nL cells slots Q (cW_ T ad K n σ) pc L (.int i :: .ref (ad (2 * j + 2)) :: rest) := by
  subst hf
  exact go_iald (t0 := 0) X (show 2 * j + 2 < 41 + n by omega) (cE_ce T ad K n σ hj) rfl hi.1 hi.2 d kk
theorem gp_st (X : Cx_ p l e R s m args below meth c cc nL own D cl_ (tys_ T) TG_) {i x : Int32} {j k : Nat} (hj : j < 3) (hi : Ix_ i (lc_ K) k) (d : decode cc pc = .ok (.iastore, 1))
    (kk : Go_ p l e R s m args below meth c D cl_ A nL cells slots Q (cW_ T ad K n (u2_ σ (30 + j) k x)) (pc + 1) L rest) : Go_ p l e R s m args below meth c D cl_ A nL cells slots Q (cW_ T ad K n σ) pc L (.int x :: .int i :: .ref (ad (2 * j + 2)) :: rest) := by
  refine go_iast (t0 := 0) X (show 2 * j + 2 < 41 + n by omega) (cE_ce T ad K n σ hj) rfl hi.1 hi.2 d ?_
  rw [wl_congr (fun i _ => pu_ce hj (upd (σ (30 + j)) k x) i)]
  exact kk
theorem gp_len (X : Cx_ p l e R s m args below meth c cc nL own D cl_ (tys_ T) TG_) {j : Nat} (hj : j < 3) (d : decode cc pc = .ok (.arraylength, 1))
    (kk : Go_ p l e R s m args below meth c D cl_ A nL cells slots Q (cW_ T ad K n σ) (pc + 1) L (.int (nI (lc_ K)) :: rest)) : Go_ p l e R s m args below meth c D cl_ A nL cells slots Q (cW_ T ad K n σ) pc L (.ref (ad (2 * j + 2)) :: rest) :=
  go_alen (t0 := 0) X (show 2 * j + 2 < 41 + n by omega) (cE_ce T ad K n σ hj) rfl rfl d kk
/-- the rows of nodes and of callers -/
theorem gx_nd (X : Cx_ p l e R s m args below meth c cc nL own D cl_ (tys_ T) TG_) {i : Int32} {k : Nat} (hi : Ix_ i 32 k) (d : decode cc pc = .ok (.aaload, 1))
    (kk : Go_ p l e R s m args below meth c D cl_ A nL cells slots Q (cW_ T ad K n σ) (pc + 1) L (.ref (ad (k + 8)) :: rest)) : Go_ p l e R s m args below meth c D cl_ A nL cells slots Q (cW_ T ad K n σ) pc L (.int i :: .ref (ad 7) :: rest) :=
  go_aald (t0 := 3) X (show 7 < 41 + n by omega) rfl rfl hi.1 hi.2 rfl d kk
theorem gx_cl (X : Cx_ p l e R s m args below meth c cc nL own D cl_ (tys_ T) TG_) {i : Int32} {k : Nat} (hi : Ix_ i n k) (d : decode cc pc = .ok (.aaload, 1))
    (kk : Go_ p l e R s m args below meth c D cl_ A nL cells slots Q (cW_ T ad K n σ) (pc + 1) L (.ref (ad (k + 41)) :: rest)) : Go_ p l e R s m args below meth c D cl_ A nL cells slots Q (cW_ T ad K n σ) pc L (.int i :: .ref (ad 40) :: rest) :=
  go_aald (t0 := 4) X (show 40 < 41 + n by omega) (cE_cs T ad K n σ) rfl hi.1 hi.2 rfl d kk
theorem gx_ln (X : Cx_ p l e R s m args below meth c cc nL own D cl_ (tys_ T) TG_) (d : decode cc pc = .ok (.arraylength, 1))
    (kk : Go_ p l e R s m args below meth c D cl_ A nL cells slots Q (cW_ T ad K n σ) (pc + 1) L (.int (nI 32) :: rest)) : Go_ p l e R s m args below meth c D cl_ A nL cells slots Q (cW_ T ad K n σ) pc L (.ref (ad 7) :: rest) :=
  go_alen (t0 := 3) X (show 7 < 41 + n by omega) rfl rfl rfl d kk
theorem gx_lc (X : Cx_ p l e R s m args below meth c cc nL own D cl_ (tys_ T) TG_) (d : decode cc pc = .ok (.arraylength, 1))
    (kk : Go_ p l e R s m args below meth c D cl_ A nL cells slots Q (cW_ T ad K n σ) (pc + 1) L (.int (nI n) :: rest)) : Go_ p l e R s m args below meth c D cl_ A nL cells slots Q (cW_ T ad K n σ) pc L (.ref (ad 40) :: rest) :=
  go_alen (t0 := 4) X (show 40 < 41 + n by omega) (cE_cs T ad K n σ) rfl rfl d kk
/-- a contract of the class's: any receiver or none -/
def cc_ (l : Launch) (D : va_G) (T : Nat → ClassId) (ad : Nat → Nat) (K n : Nat) (A : Nat → Prop) (nw : List Cond) (y : MethodName) (h : Cond) (d : Nat) (av : List Value) (σ σ' : ST_) (r : Option Value) : Prop :=
  Ct_ l D cl_ (tys_ T) A nw y (h :: TG_) (rm_d d) av (cW_ T ad K n σ) (cW_ T ad K n σ') r
end CW_B

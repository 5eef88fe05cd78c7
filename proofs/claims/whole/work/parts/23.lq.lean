section LQ_A
theorem ct_s (P : Nat → Bool) (k : Nat) : ct_ P (k + 1) = if P k = true then ct_ P k + 1 else ct_ P k := by
  show cond (P k) _ _ = _
  cases P k <;> rfl
theorem on_p {ρ : ST_} {k : Nat} : on_ ρ k = true ↔ ¬ ρ 1 k = 0 ∧ 0 < ρ 2 k := on_iff
theorem hm_old_s (ρ : ST_) (k : Nat) : hm_oldF ρ (k + 1) = if (¬ ρ 1 k = 0 ∧ 0 < ρ 2 k) ∧ (hm_oldF ρ k = 0 ∨ ρ 2 k < hm_oldF ρ k) then ρ 2 k else hm_oldF ρ k := by
  have h : hm_oldF ρ (k + 1) = cond (on_ ρ k && (decide (hm_oldF ρ k = 0) || decide (ρ 2 k < hm_oldF ρ k))) (ρ 2 k) (hm_oldF ρ k) := rfl
  rw [h]
  by_cases g : (¬ ρ 1 k = 0 ∧ 0 < ρ 2 k) ∧ (hm_oldF ρ k = 0 ∨ ρ 2 k < hm_oldF ρ k)
  · rw [if_pos g, on_p.mpr g.1]
    rcases g.2 with g2 | g2
    · rw [decide_eq_true g2]; rfl
    · rw [decide_eq_true g2, Bool.or_true]; rfl
  · rw [if_neg g]
    cases ho : on_ ρ k with
    | false => rfl
    | true =>
      have h1 : ¬ hm_oldF ρ k = 0 := fun q => g ⟨on_p.mp ho, Or.inl q⟩
      have h2 : ¬ ρ 2 k < hm_oldF ρ k := fun q => g ⟨on_p.mp ho, Or.inr q⟩
      rw [decide_eq_false h1, decide_eq_false h2]; rfl
theorem hm_find_s (ρ : ST_) (x : Int32) (k : Nat) : hm_findF ρ x (k + 1) = if ¬ ρ 1 k = 0 ∧ 0 < x ∧ ρ 2 k = x then nI k else hm_findF ρ x k := by
  have h : hm_findF ρ x (k + 1) = cond (decide (¬ ρ 1 k = 0) && decide (0 < x) && decide (ρ 2 k = x)) (nI k) (hm_findF ρ x k) := rfl
  rw [h]
  by_cases g : ¬ ρ 1 k = 0 ∧ 0 < x ∧ ρ 2 k = x
  · rw [if_pos g, decide_eq_true g.1, decide_eq_true g.2.1, decide_eq_true g.2.2]; rfl
  · rw [if_neg g]
    by_cases g1 : ρ 1 k = 0
    · rw [decide_eq_false (fun q => q g1)]; rfl
    · by_cases g2 : 0 < x
      · rw [decide_eq_false (fun q => g ⟨g1, g2, q⟩), Bool.and_false]; rfl
      · rw [decide_eq_false g2, Bool.and_false]; rfl
theorem hm_find_r (ρ : ST_) (x : Int32) : ∀ k, k ≤ 32 → -1 ≤ (hm_findF ρ x k).toInt ∧ (hm_findF ρ x k).toInt < 32 := by
  intro k
  induction k with
  | zero => intro _; show -1 ≤ (-1 : Int32).toInt ∧ (-1 : Int32).toInt < 32; rw [iz_m]; omega
  | succ k ih =>
    intro hk
    rw [hm_find_s]
    split
    · rw [iz_nI (by omega)]; omega
    · exact ih (by omega)
section
variable {l : Launch} {D : va_G} {T : Nat → ClassId} {ad : Nat → Nat} {A : Nat → Prop} {nw : List Cond} {K n : Nat} {ρ : ST_} {x : Int32}
theorem tm_isP1 (hv : 0 ≤ x ∧ x < nI n) : cm_ l D T ad K n A nw yn_M_isProcess (.code yn_M_isProcess cd_M_isProcess 2 (some .boolean)) 0 [.int x] ρ ρ (some (.int 1)) := by
  have h := tm_isProcess l D T ad A nw K n (ρ := ρ) (x := x)
  rw [if_pos hv] at h
  exact h
theorem tm_isP0 (hv : ¬ (0 ≤ x ∧ x < nI n)) : cm_ l D T ad K n A nw yn_M_isProcess (.code yn_M_isProcess cd_M_isProcess 2 (some .boolean)) 0 [.int x] ρ ρ (some (.int 0)) := by
  have h := tm_isProcess l D T ad A nw K n (ρ := ρ) (x := x)
  rw [if_neg hv] at h
  exact h
theorem tm_ref0 : cm_ l D T ad K n A nw yn_M_refused (.code yn_M_refused cd_M_refused 2 (some .boolean)) 0 [.int 0] ρ (u2_ ρ 0 0 0) (some (.int 0)) := by
  have h := tm_refused l D T ad A nw K n (ρ := ρ) (x := 0)
  rw [if_neg (by decide)] at h
  exact h
theorem tm_ref1 (hx : 0 < x) : cm_ l D T ad K n A nw yn_M_refused (.code yn_M_refused cd_M_refused 2 (some .boolean)) 0 [.int x] ρ (u2_ ρ 0 0 x) (some (.int 1)) := by
  have h := tm_refused l D T ad A nw K n (ρ := ρ) (x := x)
  rw [if_pos hx] at h
  exact h
end
theorem pv_n {p n : Nat} (hp : p < n) (hn : n ≤ 5) : 0 ≤ nI p ∧ nI p < nI n := ⟨nI_pos' (by omega), nI_lt hp (by omega)⟩
theorem hm_one_m (K n : Nat) {ρ : ST_} {p : Nat} (h : ρ 10 p = (-1)) : hm_one K n ρ p = (ρ, 2) := by
  unfold hm_one
  rw [if_pos h]
theorem hm_one_0 (K n : Nat) {ρ : ST_} {p : Nat} (h : ρ 10 p = 0) : hm_one K n ρ p = hm_ann ρ p := by
  unfold hm_one
  rw [if_neg (by rw [h]; decide), if_pos h]
theorem hm_one_1 (K n : Nat) {ρ : ST_} {p : Nat} (h : ρ 10 p = 1) : hm_one K n ρ p = (hm_look n ρ p, 0) := by
  unfold hm_one
  rw [if_neg (by rw [h]; decide), if_neg (by rw [h]; decide), if_pos h]
theorem hm_one_2 (K n : Nat) {ρ : ST_} {p : Nat} (h : ρ 10 p = 2) : hm_one K n ρ p = (hm_ask ρ p, 0) := by
  unfold hm_one
  rw [if_neg (by rw [h]; decide), if_neg (by rw [h]; decide), if_neg (by rw [h]; decide), if_pos h]
theorem hm_one_3 (K n : Nat) {ρ : ST_} {p : Nat} (h : ρ 10 p = 3) : hm_one K n ρ p = (hm_choose n ρ p, 0) := by
  unfold hm_one
  rw [if_neg (by rw [h]; decide), if_neg (by rw [h]; decide), if_neg (by rw [h]; decide), if_neg (by rw [h]; decide), if_pos h]
theorem hm_one_4 (K n : Nat) {ρ : ST_} {p : Nat} (h : ρ 10 p = 4) : hm_one K n ρ p = (hm_prop ρ p, 0) := by
  unfold hm_one
  rw [if_neg (by rw [h]; decide), if_neg (by rw [h]; decide), if_neg (by rw [h]; decide), if_neg (by rw [h]; decide), if_neg (by rw [h]; decide), if_pos h]
theorem hm_one_5 (K n : Nat) {ρ : ST_} {p : Nat} (h : ρ 10 p = 5) : hm_one K n ρ p = (hm_give ρ p, 0) := by
  unfold hm_one
  rw [if_neg (by rw [h]; decide), if_neg (by rw [h]; decide), if_neg (by rw [h]; decide), if_neg (by rw [h]; decide), if_neg (by rw [h]; decide), if_neg (by rw [h]; decide), if_pos h]
theorem hm_one_6 (K n : Nat) {ρ : ST_} {p : Nat} (h : ρ 10 p = 6) : hm_one K n ρ p = (hm_move ρ p, 0) := by
  unfold hm_one
  rw [if_neg (by rw [h]; decide), if_neg (by rw [h]; decide), if_neg (by rw [h]; decide), if_neg (by rw [h]; decide), if_neg (by rw [h]; decide), if_neg (by rw [h]; decide), if_neg (by rw [h]; decide), if_pos h]
theorem hm_one_7 (K n : Nat) {ρ : ST_} {p : Nat} (h : ρ 10 p = 7) : hm_one K n ρ p = (hm_fin K ρ p, 1) := by
  unfold hm_one
  rw [if_neg (by rw [h]; decide), if_neg (by rw [h]; decide), if_neg (by rw [h]; decide), if_neg (by rw [h]; decide), if_neg (by rw [h]; decide), if_neg (by rw [h]; decide), if_neg (by rw [h]; decide), if_neg (by rw [h]; decide)]
end LQ_A

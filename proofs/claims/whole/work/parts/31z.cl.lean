section CL_A
theorem on_v1 {σ : ST_} {k : Nat} (h1 : ¬ σ 1 k = 0) (h2 : ¬ σ 2 k ≤ 0) : (1 : Int32) = cond (on_ σ k) 1 0 := by
  rw [on_iff.mpr ⟨h1, by rw [iz_lt, iz_0]; rw [iz_le, iz_0] at h2; omega⟩]; rfl
theorem on_v0 {σ : ST_} {k : Nat} (h : σ 1 k = 0 ∨ σ 2 k ≤ 0) : (0 : Int32) = cond (on_ σ k) 1 0 := by
  have h2 : on_ σ k = false := by
    cases hb : on_ σ k with
    | false => rfl
    | true =>
      obtain ⟨g1, g2⟩ := on_iff.mp hb
      rcases h with h | h
      · exact absurd h g1
      · rw [iz_lt, iz_0] at g2; rw [iz_le, iz_0] at h; omega
  rw [h2]; rfl
theorem cd_f {b : Bool} (h : cond b 1 0 = (0 : Int32)) : b = false := by
  cases b with
  | false => rfl
  | true => exact absurd h (by decide)
theorem cd_t {b : Bool} (h : ¬ cond b 1 0 = (0 : Int32)) : b = true := by
  cases b with
  | true => rfl
  | false => exact absurd rfl h

variable {T : Nat → ClassId} {ad : Nat → Nat} {K n : Nat} {σ : ST_}
theorem cw_h : (cW_ T ad K n σ)[0]? = some (ad 0, .inr (0, hF_ ad)) := wl_at (show 0 < 41 + n by omega)
theorem cw_n {k : Nat} (h : k < 32) : (cW_ T ad K n σ)[k + 8]? = some (ad (k + 8), .inr (1, nF_ ad σ k)) := by
  rw [cW_, wl_at (show k + 8 < 41 + n by omega), cE_node _ _ _ _ _ h]
theorem cw_p {j : Nat} (h : j < 3) : (cW_ T ad K n σ)[2 * j + 1]? = some (ad (2 * j + 1), .inr (K + 3, pF_ ad σ j)) := by
  rw [cW_, wl_at (show 2 * j + 1 < 41 + n by omega), cE_pl _ _ _ _ _ h]
/-- what a search finds, as a reference -/
def rv_ (ad : Nat → Nat) (o : Option Nat) : Value := match o with
  | none => .null
  | some k => .ref (ad (k + 8))
theorem ff_t {P : Nat → Bool} {j N : Nat} (hj : j < N) (h : P j = true) : ff_ P j (N - j) = some j := by
  obtain ⟨m, hm⟩ : ∃ m, N - j = m + 1 := ⟨N - j - 1, by omega⟩
  rw [hm]; unfold ff_; rw [h]; rfl
theorem ff_f {P : Nat → Bool} {j N : Nat} (hj : j < N) (h : P j = false) : ff_ P j (N - j) = ff_ P (j + 1) (N - (j + 1)) := by
  obtain ⟨m, hm⟩ : ∃ m, N - j = m + 1 := ⟨N - j - 1, by omega⟩
  rw [hm, show N - (j + 1) = m by omega]; conv => lhs; unfold ff_
  rw [h]; rfl
theorem ff_e (P : Nat → Bool) (N : Nat) : ff_ P N (N - N) = none := by rw [Nat.sub_self]; rfl
theorem en_t {j : Nat} (h : on_ σ j = true) : (if hc_endF σ j < σ 2 j then σ 2 j else hc_endF σ j) = hc_endF σ (j + 1) := by
  show _ = cond (on_ σ j) (if hc_endF σ j ≤ σ 2 j then σ 2 j else hc_endF σ j) (hc_endF σ j)
  rw [h]
  show _ = if hc_endF σ j ≤ σ 2 j then σ 2 j else hc_endF σ j
  simp only [iz_lt, iz_le, iz_eq]
  split <;> split <;> first | rfl | omega
theorem en_f {j : Nat} (h : on_ σ j = false) : hc_endF σ j = hc_endF σ (j + 1) := by
  show _ = cond (on_ σ j) _ (hc_endF σ j)
  rw [h]; rfl
theorem ol_t {j : Nat} (h : on_ σ j = true) : (if σ 2 j < hc_oldF σ j then σ 2 j else hc_oldF σ j) = hc_oldF σ (j + 1) := by
  show _ = cond (on_ σ j) (if hc_oldF σ j ≤ σ 2 j then hc_oldF σ j else σ 2 j) (hc_oldF σ j)
  rw [h]
  show _ = if hc_oldF σ j ≤ σ 2 j then hc_oldF σ j else σ 2 j
  simp only [iz_lt, iz_le, iz_eq]
  split <;> split <;> first | rfl | omega
theorem ol_f {j : Nat} (h : on_ σ j = false) : hc_oldF σ j = hc_oldF σ (j + 1) := by
  show _ = cond (on_ σ j) _ (hc_oldF σ j)
  rw [h]; rfl
theorem us_t {j : Nat} (h : ¬ σ 1 j = 0) : ct_ (fun k => decide (¬ σ 1 k = 0)) j + 1 = ct_ (fun k => decide (¬ σ 1 k = 0)) (j + 1) := by
  show _ = cond (decide (¬ σ 1 j = 0)) _ _
  rw [decide_eq_true h]; rfl
theorem us_f {j : Nat} (h : σ 1 j = 0) : ct_ (fun k => decide (¬ σ 1 k = 0)) j = ct_ (fun k => decide (¬ σ 1 k = 0)) (j + 1) := by
  show _ = cond (decide (¬ σ 1 j = 0)) _ _
  rw [decide_eq_false (fun q => q h)]; rfl
theorem far_ix (hh : ∀ q, q < n → Ix_ (σ 8 q) 32 (ix_ (σ 8 q))) (h0 : 0 < n) : ∀ j, j ≤ n → Ix_ (hc_farF σ j) 32 (ix_ (hc_farF σ j)) := by
  intro j
  induction j with
  | zero => intro _; exact hh 0 h0
  | succ j ih =>
    intro hj
    unfold hc_farF
    split
    · exact hh j (by omega)
    · exact ih (by omega)
theorem far_t {j : Nat} (h : ¬ σ 2 (ix_ (σ 8 j)) ≤ σ 2 (ix_ (hc_farF σ j))) : σ 8 j = hc_farF σ (j + 1) := by
  show _ = if σ 2 (ix_ (hc_farF σ j)) < σ 2 (ix_ (σ 8 j)) then σ 8 j else hc_farF σ j
  rw [if_pos (by rw [iz_lt]; rw [iz_le] at h; omega)]
theorem far_f {j : Nat} (h : σ 2 (ix_ (σ 8 j)) ≤ σ 2 (ix_ (hc_farF σ j))) : hc_farF σ j = hc_farF σ (j + 1) := by
  show _ = if σ 2 (ix_ (hc_farF σ j)) < σ 2 (ix_ (σ 8 j)) then σ 8 j else hc_farF σ j
  rw [if_neg (by rw [iz_lt]; rw [iz_le] at h; omega)]
theorem bg_t {j : Nat} {h : Int32} (e : hc_bring h j σ 10 j = -1) : u2_ (hc_bring h j σ) 8 j h = hc_bring h (j + 1) σ := (if_pos e).symm
theorem bg_f {j : Nat} {h : Int32} (e : ¬ hc_bring h j σ 10 j = -1) : hc_bring h j σ = hc_bring h (j + 1) σ := (if_neg e).symm
theorem le_s (j : Nat) : (if σ 2 (ix_ (σ 8 j)) < hc_leastF σ j then σ 2 (ix_ (σ 8 j)) else hc_leastF σ j) = hc_leastF σ (j + 1) := by
  show _ = if hc_leastF σ j ≤ σ 2 (ix_ (σ 8 j)) then hc_leastF σ j else σ 2 (ix_ (σ 8 j))
  simp only [iz_lt, iz_le, iz_eq]
  split <;> split <;> first | rfl | omega
theorem re_t {j : Nat} {x : Int32} (h : on_ (hc_relF x j σ).1 j = true) (h2 : ¬ x ≤ (hc_relF x j σ).1 2 j) : (u2_ (hc_relF x j σ).1 1 j 0, (hc_relF x j σ).2 + 1) = hc_relF x (j + 1) σ :=
  (if_pos ⟨h, by rw [iz_lt]; rw [iz_le] at h2; omega⟩).symm
theorem re_f {j : Nat} {x : Int32} (h : ¬ (on_ (hc_relF x j σ).1 j = true ∧ ¬ x ≤ (hc_relF x j σ).1 2 j)) : hc_relF x j σ = hc_relF x (j + 1) σ :=
  (if_neg (fun q => h ⟨q.1, by have := q.2; rw [iz_lt] at this; rw [iz_le]; omega⟩)).symm
end CL_A

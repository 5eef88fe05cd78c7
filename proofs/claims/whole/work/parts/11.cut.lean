section CUT_A
/-- how many of the first k have P, as a number -/
def cn_ (P : Nat → Bool) : Nat → Nat
  | 0 => 0
  | k + 1 => cond (P k) (cn_ P k + 1) (cn_ P k)
theorem ct_cn (P : Nat → Bool) : ∀ k, ct_ P k = nI (cn_ P k) := by
  intro k
  induction k with
  | zero => rfl
  | succ k ih =>
    have h1 : ct_ P (k + 1) = cond (P k) (ct_ P k + 1) (ct_ P k) := rfl
    have h2 : cn_ P (k + 1) = cond (P k) (cn_ P k + 1) (cn_ P k) := rfl
    rw [h1, h2, ih]
    cases P k with
    | true => exact nI_1 _
    | false => rfl
theorem cn_le (P : Nat → Bool) : ∀ k, cn_ P k ≤ k := by
  intro k
  induction k with
  | zero => exact Nat.le_refl _
  | succ k ih =>
    have h2 : cn_ P (k + 1) = cond (P k) (cn_ P k + 1) (cn_ P k) := rfl
    rw [h2]
    cases P k with
    | true => show cn_ P k + 1 ≤ k + 1; omega
    | false => show cn_ P k ≤ k + 1; omega
theorem cn_add {P P' Q : Nat → Bool} : ∀ k, (∀ j, j < k → (P j = (P' j || Q j)) ∧ (P' j && Q j) = false) → cn_ P k = cn_ P' k + cn_ Q k := by
  intro k
  induction k with
  | zero => intro _; rfl
  | succ k ih =>
    intro h
    have h1 : cn_ P (k + 1) = cond (P k) (cn_ P k + 1) (cn_ P k) := rfl
    have h2 : cn_ P' (k + 1) = cond (P' k) (cn_ P' k + 1) (cn_ P' k) := rfl
    have h3 : cn_ Q (k + 1) = cond (Q k) (cn_ Q k + 1) (cn_ Q k) := rfl
    obtain ⟨g1, g2⟩ := h k (by omega)
    rw [h1, h2, h3, g1, ih (fun j hj => h j (by omega))]
    cases hp : P' k <;> cases hq : Q k
    · rfl
    · show cn_ P' k + cn_ Q k + 1 = cn_ P' k + (cn_ Q k + 1); omega
    · show cn_ P' k + cn_ Q k + 1 = cn_ P' k + 1 + cn_ Q k; omega
    · rw [hp, hq] at g2; cases g2
theorem cn_congr {P P' : Nat → Bool} : ∀ k, (∀ j, j < k → P j = P' j) → cn_ P k = cn_ P' k := by
  intro k
  induction k with
  | zero => intro _; rfl
  | succ k ih =>
    intro h
    have h1 : cn_ P (k + 1) = cond (P k) (cn_ P k + 1) (cn_ P k) := rfl
    have h2 : cn_ P' (k + 1) = cond (P' k) (cn_ P' k + 1) (cn_ P' k) := rfl
    rw [h1, h2, ih (fun j hj => h j (by omega)), h k (by omega)]
/-- what a cut releases, of the first k -/
def rl_ (σ : ST_) (x : Int32) (k j : Nat) : Int32 := if j < k ∧ on_ σ j = true ∧ σ 2 j < x then 0 else σ 1 j
theorem u1_id (σ : ST_) (c : Nat) : u1_ σ c (σ c) = σ := by
  funext a
  by_cases h : a = c
  · rw [h, u1_same]
  · rw [u1_ne _ _ h]
theorem u12_id (σ : ST_) (c i : Nat) (f : Nat → Int32) (v : Int32) : u2_ (u1_ σ c f) c i v = u1_ σ c (upd f i v) := by
  funext a
  by_cases h : a = c
  · rw [h, u2_same, u1_same, u1_same]
  · rw [u2_ne _ _ _ h, u1_ne _ _ h, u1_ne _ _ h]
theorem rl_zero (σ : ST_) (x : Int32) : u1_ σ 1 (rl_ σ x 0) = σ := by
  have : rl_ σ x 0 = σ 1 := by
    funext j
    unfold rl_
    rw [if_neg (by omega)]
  rw [this, u1_id]
theorem rl_on (σ : ST_) (x : Int32) (k : Nat) : on_ (u1_ σ 1 (rl_ σ x k)) k = on_ σ k ∧ (u1_ σ 1 (rl_ σ x k)) 2 k = σ 2 k := by
  have h1 : (u1_ σ 1 (rl_ σ x k)) 1 k = σ 1 k := by
    rw [u1_same]
    unfold rl_
    rw [if_neg (by omega)]
  have h2 : (u1_ σ 1 (rl_ σ x k)) 2 = σ 2 := u1_ne _ _ (by omega)
  refine ⟨?_, by rw [h2]⟩
  unfold on_
  rw [h1, h2]
theorem rl_succ_t {σ : ST_} {x : Int32} {k : Nat} (h : on_ σ k = true ∧ σ 2 k < x) : u2_ (u1_ σ 1 (rl_ σ x k)) 1 k 0 = u1_ σ 1 (rl_ σ x (k + 1)) := by
  rw [u12_id]
  congr 1
  funext j
  unfold rl_ upd
  by_cases e : j = k
  · rw [if_pos e, if_pos ⟨by omega, by rw [e]; exact h⟩]
  · rw [if_neg e]
    dsimp only
    by_cases g : j < k ∧ on_ σ j = true ∧ σ 2 j < x
    · rw [if_pos g, if_pos ⟨by omega, g.2⟩]
    · rw [if_neg g, if_neg (fun z => g ⟨by omega, z.2⟩)]
theorem rl_succ_f {σ : ST_} {x : Int32} {k : Nat} (h : ¬ (on_ σ k = true ∧ σ 2 k < x)) : u1_ σ 1 (rl_ σ x k) = u1_ σ 1 (rl_ σ x (k + 1)) := by
  congr 1
  funext j
  unfold rl_
  by_cases g : j < k ∧ on_ σ j = true ∧ σ 2 j < x
  · rw [if_pos g, if_pos ⟨by omega, g.2⟩]
  · rw [if_neg g, if_neg (fun z => g ⟨by
      by_cases e : j = k
      · exact absurd (by rw [← e]; exact z.2) h
      · omega, z.2⟩)]
theorem hc_rel (σ : ST_) (x : Int32) : ∀ k, hc_relF x k σ = (u1_ σ 1 (rl_ σ x k), ct_ (fun j => on_ σ j && decide (σ 2 j < x)) k) := by
  intro k
  induction k with
  | zero => rw [rl_zero]; rfl
  | succ k ih =>
    have h1 : hc_relF x (k + 1) σ = if on_ (hc_relF x k σ).1 k = true ∧ (hc_relF x k σ).1 2 k < x then (u2_ (hc_relF x k σ).1 1 k 0, (hc_relF x k σ).2 + 1) else hc_relF x k σ := rfl
    have h2 : ct_ (fun j => on_ σ j && decide (σ 2 j < x)) (k + 1) = cond (on_ σ k && decide (σ 2 k < x)) (ct_ (fun j => on_ σ j && decide (σ 2 j < x)) k + 1) (ct_ (fun j => on_ σ j && decide (σ 2 j < x)) k) := rfl
    obtain ⟨r1, r2⟩ := rl_on σ x k
    rw [h1, h2, ih]
    simp only [r1, r2]
    by_cases g : on_ σ k = true ∧ σ 2 k < x
    · rw [if_pos g, rl_succ_t g, g.1, decide_eq_true g.2]; rfl
    · rw [if_neg g, rl_succ_f g]
      have : (on_ σ k && decide (σ 2 k < x)) = false := by
        cases ho : on_ σ k with
        | false => rfl
        | true => rw [decide_eq_false (fun z => g ⟨ho, z⟩)]; rfl
      rw [this]; rfl
theorem hm_rel (ρ : ST_) (x : Int32) : ∀ k, hm_relF x k ρ = u1_ ρ 1 (rl_ ρ x k) := by
  intro k
  induction k with
  | zero => rw [rl_zero]; rfl
  | succ k ih =>
    have h1 : hm_relF x (k + 1) ρ = if on_ (hm_relF x k ρ) k = true ∧ hm_relF x k ρ 2 k < x then u2_ (hm_relF x k ρ) 1 k 0 else hm_relF x k ρ := rfl
    obtain ⟨r1, r2⟩ := rl_on ρ x k
    rw [h1, ih]
    simp only [r1, r2]
    by_cases g : on_ ρ k = true ∧ ρ 2 k < x
    · rw [if_pos g, rl_succ_t g]
    · rw [if_neg g, rl_succ_f g]
/-- idle heads of the first p at h -/
def br_ (σ : ST_) (h : Int32) (p q : Nat) : Int32 := if q < p ∧ σ 10 q = -1 then h else σ 8 q
theorem br_zero (σ : ST_) (h : Int32) : u1_ σ 8 (br_ σ h 0) = σ := by
  have : br_ σ h 0 = σ 8 := by
    funext j
    unfold br_
    rw [if_neg (by omega)]
  rw [this, u1_id]
theorem br_succ (σ : ST_) (h : Int32) (p : Nat) : upd (br_ σ h p) p (if σ 10 p = -1 then h else σ 8 p) = br_ σ h (p + 1) := by
  funext q
  unfold br_ upd
  by_cases e : q = p
  · rw [if_pos e, e]
    by_cases g : σ 10 p = -1
    · rw [if_pos g, if_pos ⟨by omega, g⟩]
    · rw [if_neg g, if_neg (fun z => g z.2)]
  · rw [if_neg e]
    dsimp only
    by_cases g : q < p ∧ σ 10 q = -1
    · rw [if_pos g, if_pos ⟨by omega, g.2⟩]
    · rw [if_neg g, if_neg (fun z => g ⟨by omega, z.2⟩)]
theorem hc_br (σ : ST_) (h : Int32) : ∀ p, hc_bring h p σ = u1_ σ 8 (br_ σ h p) := by
  intro p
  induction p with
  | zero => rw [br_zero]; rfl
  | succ p ih =>
    have h1 : hc_bring h (p + 1) σ = if hc_bring h p σ 10 p = -1 then u2_ (hc_bring h p σ) 8 p h else hc_bring h p σ := rfl
    have h10 : (u1_ σ 8 (br_ σ h p)) 10 = σ 10 := u1_ne _ _ (by omega)
    rw [h1, ih, h10, ← br_succ]
    by_cases g : σ 10 p = -1
    · rw [if_pos g, if_pos g, u12_id]
    · rw [if_neg g, if_neg g]
      congr 1
      have : br_ σ h p p = σ 8 p := by unfold br_; rw [if_neg (by omega)]
      rw [← this, upd_id]
/-- the least of l0 and the heads' numbers, of the first p -/
def ml_ (ρ : ST_) (h l0 : Int32) : Nat → Int32
  | 0 => l0
  | p + 1 => if ρ 2 (ix_ (if ρ 10 p = -1 then h else ρ 8 p)) < ml_ ρ h l0 p then ρ 2 (ix_ (if ρ 10 p = -1 then h else ρ 8 p)) else ml_ ρ h l0 p
theorem hm_br (ρ : ST_) (h l0 : Int32) : ∀ p, hm_bring h p (ρ, l0) = (u1_ ρ 8 (br_ ρ h p), ml_ ρ h l0 p) := by
  intro p
  induction p with
  | zero => rw [br_zero]; rfl
  | succ p ih =>
    have h1 : hm_bring h (p + 1) (ρ, l0) = (u2_ (hm_bring h p (ρ, l0)).1 8 p (if (hm_bring h p (ρ, l0)).1 10 p = -1 then h else (hm_bring h p (ρ, l0)).1 8 p),
     if (hm_bring h p (ρ, l0)).1 2 (ix_ (if (hm_bring h p (ρ, l0)).1 10 p = -1 then h else (hm_bring h p (ρ, l0)).1 8 p)) < (hm_bring h p (ρ, l0)).2
     then (hm_bring h p (ρ, l0)).1 2 (ix_ (if (hm_bring h p (ρ, l0)).1 10 p = -1 then h else (hm_bring h p (ρ, l0)).1 8 p)) else (hm_bring h p (ρ, l0)).2) := rfl
    have h10 : (u1_ ρ 8 (br_ ρ h p)) 10 = ρ 10 := u1_ne _ _ (by omega)
    have h2 : (u1_ ρ 8 (br_ ρ h p)) 2 = ρ 2 := u1_ne _ _ (by omega)
    have h8 : (u1_ ρ 8 (br_ ρ h p)) 8 p = ρ 8 p := by
      rw [u1_same]; unfold br_; rw [if_neg (by omega)]
    rw [h1, ih]
    simp only [h10, h2, h8, u12_id, br_succ]
    rfl
/-- the reference's cut -/
def hm_cut (n : Nat) (ρ : ST_) : ST_ × Int32 :=
  (hm_relF (hm_bring (ρ 8 (ix_ (hm_farF ρ (n - 1)))) n (ρ, ρ 2 (ix_ (ρ 8 (ix_ (hm_farF ρ (n - 1))))))).2 32 (hm_bring (ρ 8 (ix_ (hm_farF ρ (n - 1)))) n (ρ, ρ 2 (ix_ (ρ 8 (ix_ (hm_farF ρ (n - 1))))))).1,
   hm_used (hm_bring (ρ 8 (ix_ (hm_farF ρ (n - 1)))) n (ρ, ρ 2 (ix_ (ρ 8 (ix_ (hm_farF ρ (n - 1))))))).1 - hm_used (hm_relF (hm_bring (ρ 8 (ix_ (hm_farF ρ (n - 1)))) n (ρ, ρ 2 (ix_ (ρ 8 (ix_ (hm_farF ρ (n - 1))))))).2 32 (hm_bring (ρ 8 (ix_ (hm_farF ρ (n - 1)))) n (ρ, ρ 2 (ix_ (ρ 8 (ix_ (hm_farF ρ (n - 1))))))).1))
end CUT_A
section CUT_B
variable {K n c p : Nat} {σ ρ : ST_}
theorem far_ok (h : Ea_ σ ρ) : ∀ p, p < 1000 → hc_farF σ (p + 1) = ρ 8 (ix_ (hm_farF ρ p)) ∧ ix_ (hm_farF ρ p) ≤ p ∧ ∀ q, q ≤ p → (ρ 2 (ix_ (ρ 8 q))).toInt ≤ (ρ 2 (ix_ (ρ 8 (ix_ (hm_farF ρ p))))).toInt := by
  have e2 : σ 2 = ρ 2 := h 2 (dm_of (by omega))
  have e8 : σ 8 = ρ 8 := h 8 (dm_of (by omega))
  intro p
  induction p with
  | zero =>
    intro _
    have h1 : hc_farF σ 1 = if σ 2 (ix_ (hc_farF σ 0)) < σ 2 (ix_ (σ 8 0)) then σ 8 0 else hc_farF σ 0 := rfl
    have h2 : hc_farF σ 0 = σ 8 0 := rfl
    have h3 : ix_ (hm_farF ρ 0) = 0 := by show ix_ (0 : Int32) = 0; decide
    rw [h1, h2, h3]
    refine ⟨by rw [e8]; split <;> rfl, Nat.le_refl _, fun q hq => ?_⟩
    rw [show q = 0 by omega]
    exact Int.le_refl _
  | succ p ih =>
    intro hp
    obtain ⟨i1, i2, i3⟩ := ih (by omega)
    have h1 : hc_farF σ (p + 1 + 1) = if σ 2 (ix_ (hc_farF σ (p + 1))) < σ 2 (ix_ (σ 8 (p + 1))) then σ 8 (p + 1) else hc_farF σ (p + 1) := rfl
    have h2 : hm_farF ρ (p + 1) = if ρ 2 (ix_ (ρ 8 (ix_ (hm_farF ρ p)))) < ρ 2 (ix_ (ρ 8 (p + 1))) then nI (p + 1) else hm_farF ρ p := rfl
    rw [h1, h2, i1, e2, e8]
    by_cases g : ρ 2 (ix_ (ρ 8 (ix_ (hm_farF ρ p)))) < ρ 2 (ix_ (ρ 8 (p + 1)))
    · rw [if_pos g, if_pos g, show ix_ (nI (p + 1)) = p + 1 from nI_clamp (by omega)]
      refine ⟨rfl, Nat.le_refl _, fun q hq => ?_⟩
      rw [iz_lt] at g
      by_cases e : q = p + 1
      · rw [e]; exact Int.le_refl _
      · have := i3 q (by omega); omega
    · rw [if_neg g, if_neg g]
      refine ⟨rfl, by omega, fun q hq => ?_⟩
      rw [iz_lt] at g
      by_cases e : q = p + 1
      · rw [e]; omega
      · exact i3 q (by omega)
/-- the heads' numbers behind bringing, and the least of them -/
theorem least_ok (h : Ea_ σ ρ) {hI : Int32} (h0 : 0 < n) (hmax : ∀ q, q < n → (ρ 2 (ix_ (ρ 8 q))).toInt ≤ (ρ 2 (ix_ hI)).toInt) :
    hc_leastF (u1_ σ 8 (br_ σ hI n)) n = ml_ ρ hI (ρ 2 (ix_ hI)) n ∧ ∀ q, q < n → (ml_ ρ hI (ρ 2 (ix_ hI)) n).toInt ≤ (ρ 2 (ix_ (br_ ρ hI n q))).toInt := by
  have e2 : σ 2 = ρ 2 := h 2 (dm_of (by omega))
  have e8 : σ 8 = ρ 8 := h 8 (dm_of (by omega))
  have e10 : σ 10 = ρ 10 := h 10 (dm_of (by omega))
  have eb : br_ σ hI n = br_ ρ hI n := by
    funext q; unfold br_; rw [e8, e10]
  have s2 : (u1_ σ 8 (br_ σ hI n)) 2 = ρ 2 := by rw [u1_ne _ _ (by omega), e2]
  have s8 : (u1_ σ 8 (br_ σ hI n)) 8 = br_ ρ hI n := by rw [u1_same, eb]
  have hb : ∀ q, q < n → br_ ρ hI n q = if ρ 10 q = -1 then hI else ρ 8 q := fun q hq => by
    unfold br_
    by_cases g : ρ 10 q = -1
    · rw [if_pos ⟨hq, g⟩, if_pos g]
    · rw [if_neg (fun z => g z.2), if_neg g]
  have hle : ∀ q, q < n → (ρ 2 (ix_ (br_ ρ hI n q))).toInt ≤ (ρ 2 (ix_ hI)).toInt := fun q hq => by
    rw [hb q hq]
    by_cases g : ρ 10 q = -1
    · rw [if_pos g]; exact Int.le_refl _
    · rw [if_neg g]; exact hmax q hq
  have key : ∀ p, p < n → hc_leastF (u1_ σ 8 (br_ σ hI n)) (p + 1) = ml_ ρ hI (ρ 2 (ix_ hI)) (p + 1) ∧ ∀ q, q ≤ p → (ml_ ρ hI (ρ 2 (ix_ hI)) (p + 1)).toInt ≤ (ρ 2 (ix_ (br_ ρ hI n q))).toInt := by
    intro p
    induction p with
    | zero =>
      intro _
      have h1 : hc_leastF (u1_ σ 8 (br_ σ hI n)) 1 = if hc_leastF (u1_ σ 8 (br_ σ hI n)) 0 ≤ (u1_ σ 8 (br_ σ hI n)) 2 (ix_ ((u1_ σ 8 (br_ σ hI n)) 8 0)) then hc_leastF (u1_ σ 8 (br_ σ hI n)) 0 else (u1_ σ 8 (br_ σ hI n)) 2 (ix_ ((u1_ σ 8 (br_ σ hI n)) 8 0)) := rfl
      have h2 : hc_leastF (u1_ σ 8 (br_ σ hI n)) 0 = (u1_ σ 8 (br_ σ hI n)) 2 (ix_ ((u1_ σ 8 (br_ σ hI n)) 8 0)) := rfl
      have h3 : ml_ ρ hI (ρ 2 (ix_ hI)) 1 = if ρ 2 (ix_ (if ρ 10 0 = -1 then hI else ρ 8 0)) < ρ 2 (ix_ hI) then ρ 2 (ix_ (if ρ 10 0 = -1 then hI else ρ 8 0)) else ρ 2 (ix_ hI) := rfl
      have h4 := hle 0 h0
      rw [h1, h2, s2, s8, h3, ← hb 0 h0]
      have h5 : (if ρ 2 (ix_ (br_ ρ hI n 0)) < ρ 2 (ix_ hI) then ρ 2 (ix_ (br_ ρ hI n 0)) else ρ 2 (ix_ hI)) = ρ 2 (ix_ (br_ ρ hI n 0)) := by
        by_cases g : ρ 2 (ix_ (br_ ρ hI n 0)) < ρ 2 (ix_ hI)
        · rw [if_pos g]
        · rw [if_neg g, iz_eq]
          rw [iz_lt] at g
          omega
      rw [h5]
      refine ⟨by split <;> rfl, fun q hq => ?_⟩
      rw [show q = 0 by omega]
      exact Int.le_refl _
    | succ p ih =>
      intro hp
      obtain ⟨i1, i2⟩ := ih (by omega)
      have h1 : hc_leastF (u1_ σ 8 (br_ σ hI n)) (p + 1 + 1) = if hc_leastF (u1_ σ 8 (br_ σ hI n)) (p + 1) ≤ (u1_ σ 8 (br_ σ hI n)) 2 (ix_ ((u1_ σ 8 (br_ σ hI n)) 8 (p + 1))) then hc_leastF (u1_ σ 8 (br_ σ hI n)) (p + 1) else (u1_ σ 8 (br_ σ hI n)) 2 (ix_ ((u1_ σ 8 (br_ σ hI n)) 8 (p + 1))) := rfl
      have h3 : ml_ ρ hI (ρ 2 (ix_ hI)) (p + 1 + 1) = if ρ 2 (ix_ (if ρ 10 (p + 1) = -1 then hI else ρ 8 (p + 1))) < ml_ ρ hI (ρ 2 (ix_ hI)) (p + 1) then ρ 2 (ix_ (if ρ 10 (p + 1) = -1 then hI else ρ 8 (p + 1))) else ml_ ρ hI (ρ 2 (ix_ hI)) (p + 1) := rfl
      rw [h1, h3, i1, s2, s8, ← hb (p + 1) hp]
      by_cases g : ρ 2 (ix_ (br_ ρ hI n (p + 1))) < ml_ ρ hI (ρ 2 (ix_ hI)) (p + 1)
      · rw [if_pos g, if_neg (by rw [iz_le]; rw [iz_lt] at g; omega)]
        rw [iz_lt] at g
        refine ⟨rfl, fun q hq => ?_⟩
        by_cases e : q = p + 1
        · rw [e]; exact Int.le_refl _
        · have := i2 q (by omega); omega
      · rw [if_neg g, if_pos (by rw [iz_le]; rw [iz_lt] at g; omega)]
        rw [iz_lt] at g
        refine ⟨rfl, fun q hq => ?_⟩
        by_cases e : q = p + 1
        · rw [e]; omega
        · exact i2 q (by omega)
  obtain ⟨m, hm⟩ : ∃ m, n = m + 1 := ⟨n - 1, by omega⟩
  have hk := key m (by omega)
  rw [← hm] at hk
  exact ⟨hk.1, fun q hq => hk.2 q (by omega)⟩
theorem jr_cut (h : Jr_ K n c σ ρ) (hn : n ≤ 5) (h0 : 0 < n) : (hc_cut n σ).2 = (hm_cut n ρ).2 ∧ Jr_ K n c (hc_cut n σ).1 (hm_cut n ρ).1 := by
  have hA := h.2.1
  have e1 : σ 1 = ρ 1 := hA 1 (dm_of (by omega))
  have e2 : σ 2 = ρ 2 := hA 2 (dm_of (by omega))
  have e8 : σ 8 = ρ 8 := hA 8 (dm_of (by omega))
  have e10 : σ 10 = ρ 10 := hA 10 (dm_of (by omega))
  obtain ⟨f1, f2, f3⟩ := far_ok hA (n - 1) (by omega)
  rw [show n - 1 + 1 = n by omega] at f1
  obtain ⟨m, hm⟩ : ∃ m, m = ix_ (hm_farF ρ (n - 1)) := ⟨_, rfl⟩
  rw [← hm] at f1 f2 f3
  obtain ⟨hI, hhI⟩ : ∃ hI, hI = ρ 8 m := ⟨_, rfl⟩
  rw [← hhI] at f1 f3
  obtain ⟨g1, g2⟩ := least_ok (n := n) (hI := hI) hA h0 (fun q hq => f3 q (by omega))
  obtain ⟨x, hx⟩ : ∃ x, x = ml_ ρ hI (ρ 2 (ix_ hI)) n := ⟨_, rfl⟩
  rw [← hx] at g1 g2
  have eb : br_ σ hI n = br_ ρ hI n := by
    funext q; unfold br_; rw [e8, e10]
  obtain ⟨B, hB⟩ : ∃ B, B = br_ ρ hI n := ⟨_, rfl⟩
  rw [← hB] at eb g2
  rw [eb] at g1
  have hC : hc_cut n σ = (u1_ (u1_ σ 8 B) 1 (rl_ (u1_ σ 8 B) x 32), ct_ (fun j => on_ (u1_ σ 8 B) j && decide ((u1_ σ 8 B) 2 j < x)) 32) := by
    unfold hc_cut
    rw [f1, hc_br, eb, g1, hc_rel]
  have hM : hm_cut n ρ = (u1_ (u1_ ρ 8 B) 1 (rl_ (u1_ ρ 8 B) x 32), hm_used (u1_ ρ 8 B) - hm_used (u1_ (u1_ ρ 8 B) 1 (rl_ (u1_ ρ 8 B) x 32))) := by
    unfold hm_cut
    rw [← hm, ← hhI, hm_br, ← hB, ← hx]
    dsimp only
    rw [hm_rel]
  have q1 : (u1_ ρ 8 B) 1 = ρ 1 := u1_ne _ _ (by omega)
  have q2 : (u1_ ρ 8 B) 2 = ρ 2 := u1_ne _ _ (by omega)
  have q1' : (u1_ σ 8 B) 1 = ρ 1 := by rw [u1_ne _ _ (by omega), e1]
  have q2' : (u1_ σ 8 B) 2 = ρ 2 := by rw [u1_ne _ _ (by omega), e2]
  have qo : ∀ j, on_ (u1_ ρ 8 B) j = on_ ρ j := fun j => by unfold on_; rw [q1, q2]
  have qo' : ∀ j, on_ (u1_ σ 8 B) j = on_ ρ j := fun j => by unfold on_; rw [q1', q2']
  have qr : rl_ (u1_ ρ 8 B) x 32 = rl_ ρ x 32 := by funext j; unfold rl_; rw [qo, q1, q2]
  have qr' : rl_ (u1_ σ 8 B) x 32 = rl_ ρ x 32 := by funext j; unfold rl_; rw [qo', q1', q2']
  rw [hC, hM, qr, qr']
  dsimp only
  -- the head that all idle ones go to
  have hm5 : m < n := by omega
  have hPm := h.1.1 m hm5
  unfold Ip_ at hPm
  obtain ⟨c1, -, -, -, -, -, c7, -⟩ := hPm
  obtain ⟨F, hF⟩ : ∃ F, F = ix_ hI := ⟨_, rfl⟩
  have hFz : (tz_ ρ 8 m).toNat = F := by rw [hF, hhI]; rfl
  have hIz : hI.toInt = tz_ ρ 8 m := by rw [hhI]; rfl
  rw [hFz] at c7
  have hxF : x.toInt ≤ tz_ ρ 2 F := by
    have := g2 m hm5
    have hb : (ρ 2 (ix_ (B m))).toInt ≤ (ρ 2 (ix_ hI)).toInt := by
      rw [hB]
      unfold br_
      by_cases z : m < n ∧ ρ 10 m = -1
      · rw [if_pos z]; exact Int.le_refl _
      · rw [if_neg z, ← hhI]; exact Int.le_refl _
    have : (ρ 2 (ix_ hI)).toInt = tz_ ρ 2 F := by rw [hF]; rfl
    omega
  obtain ⟨ρ', hρ⟩ : ∃ ρ', ρ' = u1_ (u1_ ρ 8 B) 1 (rl_ ρ x 32) := ⟨_, rfl⟩
  obtain ⟨σ', hσ⟩ : ∃ σ', σ' = u1_ (u1_ σ 8 B) 1 (rl_ ρ x 32) := ⟨_, rfl⟩
  have rn : ∀ a, a ≠ 1 → a ≠ 8 → ρ' a = ρ a := fun a x1 x8 => by rw [hρ, u1_ne _ _ x1, u1_ne _ _ x8]
  have sn : ∀ a, a ≠ 1 → a ≠ 8 → σ' a = σ a := fun a x1 x8 => by rw [hσ, u1_ne _ _ x1, u1_ne _ _ x8]
  have tn : ∀ a, a ≠ 1 → a ≠ 8 → tz_ ρ' a = tz_ ρ a := fun a x1 x8 => by funext j; unfold tz_; rw [rn a x1 x8]
  have r1 : ρ' 1 = rl_ ρ x 32 := by rw [hρ, u1_same]
  have r8 : ρ' 8 = B := by rw [hρ, u1_ne _ _ (by omega), u1_same]
  have rl1 : ∀ k, k < 32 → (rl_ ρ x 32 k).toInt = if tz_ ρ 1 k = 1 ∧ 1 ≤ tz_ ρ 2 k ∧ tz_ ρ 2 k < x.toInt then 0 else tz_ ρ 1 k := fun k hk => by
    unfold rl_
    have hon := on_tz h.1 hk
    have x2 : (ρ 2 k).toInt = tz_ ρ 2 k := rfl
    by_cases z : tz_ ρ 1 k = 1 ∧ 1 ≤ tz_ ρ 2 k ∧ tz_ ρ 2 k < x.toInt
    · rw [if_pos z, if_pos ⟨hk, hon.mpr ⟨z.1, z.2.1⟩, by rw [iz_lt, x2]; exact z.2.2⟩]; exact iz_0
    · rw [if_neg z, if_neg (fun y => z ⟨(hon.mp y.2.1).1, (hon.mp y.2.1).2, by have := y.2.2; rw [iz_lt, x2] at this; exact this⟩)]; rfl
  refine ⟨?_, ?_⟩
  · have hu : ∀ τ : ST_, hm_used τ = nI (cn_ (fun k => decide (¬ τ 1 k = 0)) 32) := fun τ => ct_cn _ _
    rw [ct_cn, ← hρ, hu, hu]
    have hadd := cn_add (P := fun k => decide (¬ (u1_ ρ 8 B) 1 k = 0)) (P' := fun k => decide (¬ ρ' 1 k = 0)) (Q := fun j => on_ (u1_ σ 8 B) j && decide ((u1_ σ 8 B) 2 j < x)) 32 (fun j hj => by
      rw [qo', q1, q2', r1]
      unfold rl_
      by_cases z : j < 32 ∧ on_ ρ j = true ∧ ρ 2 j < x
      · have z1 := (on_iff.mp z.2.1).1
        rw [if_pos z, z.2.1, decide_eq_true z.2.2, decide_eq_true z1]
        exact ⟨rfl, rfl⟩
      · rw [if_neg z]
        have : (on_ ρ j && decide (ρ 2 j < x)) = false := by
          cases ho : on_ ρ j with
          | false => rfl
          | true => rw [decide_eq_false (fun y => z ⟨hj, ho, y⟩)]; rfl
        rw [this, Bool.or_false, Bool.and_false]
        exact ⟨rfl, rfl⟩)
    have hle := cn_le (fun k => decide (¬ (u1_ ρ 8 B) 1 k = 0)) 32
    rw [pk_sub (by omega)]
    exact congrArg nI (by omega)
  · rw [← hρ, ← hσ]
    refine ⟨iv_cut (F := F) (x := x.toInt) h.1 (by omega) c7.1 c7.2 hxF (fun q hq => ?_) (by rw [tn 0 (by omega) (by omega)]) (fun k hk => ?_) (tn 2 (by omega) (by omega)) (tn 3 (by omega) (by omega)) (tn 4 (by omega) (by omega)) (fun q hq => ?_) (tn 9 (by omega) (by omega)) (tn 10 (by omega) (by omega)) (tn 11 (by omega) (by omega)) (tn 12 (by omega) (by omega)) (tn 13 (by omega) (by omega)) (tn 14 (by omega) (by omega)), ?_, ?_⟩
    · have := g2 q hq
      show x.toInt ≤ (ρ 2 ((ρ' 8 q).toInt.toNat)).toInt
      rw [r8]
      exact this
    · show (ρ' 1 k).toInt = _
      rw [r1]; exact rl1 k hk
    · show (ρ' 8 q).toInt = _
      rw [r8, hB]
      unfold br_
      have x10 : (ρ 10 q).toInt = tz_ ρ 10 q := rfl
      by_cases z : tz_ ρ 10 q = -1
      · rw [if_pos z, if_pos ⟨hq, by rw [iz_eq, iz_m]; exact z⟩, hIz, hF]
        have := iz_ix hI
        omega
      · rw [if_neg z, if_neg (fun y => z (by rw [← x10, y.2]; exact iz_m))]; rfl
    · intro a ha
      rw [hρ, hσ]
      by_cases a1 : a = 1
      · rw [a1, u1_same, u1_same]
      · by_cases a8 : a = 8
        · rw [a8, u1_ne (c := 1) (a := 8) _ _ (by omega), u1_same, u1_ne (c := 1) (a := 8) _ _ (by omega), u1_same]
        · rw [u1_ne _ _ a1, u1_ne _ _ a1, u1_ne _ _ a8, u1_ne _ _ a8, hA a ha]
    · obtain ⟨B1, B2, B3, B4, B5, B6, B7, B8⟩ := h.2.2
      have back : ∀ k, k < 32 → ρ' 1 k = 1 → ρ 1 k = 1 := fun k hk h1 => by
        rw [r1] at h1
        unfold rl_ at h1
        by_cases z : k < 32 ∧ on_ ρ k = true ∧ ρ 2 k < x
        · rw [if_pos z] at h1; exact absurd h1 (by decide)
        · rw [if_neg z] at h1; exact h1
      unfold Eb_
      rw [rn 0 (by omega) (by omega), rn 2 (by omega) (by omega), rn 4 (by omega) (by omega), rn 5 (by omega) (by omega), rn 6 (by omega) (by omega), rn 7 (by omega) (by omega), rn 15 (by omega) (by omega), rn 21 (by omega) (by omega), rn 22 (by omega) (by omega), rn 23 (by omega) (by omega), rn 25 (by omega) (by omega), sn 4 (by omega) (by omega), sn 5 (by omega) (by omega), sn 6 (by omega) (by omega), sn 7 (by omega) (by omega), sn 26 (by omega) (by omega), sn 30 (by omega) (by omega), sn 32 (by omega) (by omega), sn 33 (by omega) (by omega)]
      exact ⟨fun k hk h1 => B1 k hk (back k hk h1), fun k hk h1 => B2 k hk (back k hk h1), B3, fun k hk h1 => B4 k hk (back k hk h1), fun k hk h1 => B5 k hk (back k hk h1), B6, B7, B8⟩
end CUT_B

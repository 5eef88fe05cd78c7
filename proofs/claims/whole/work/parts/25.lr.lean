section LR_A
def cp_ (f g : Nat → Int32) (j : Nat) : Nat → Int32 := fun k => if k < j then g k else f k
theorem cp_0 (f g : Nat → Int32) : cp_ f g 0 = f := by
  funext k; unfold cp_; rw [if_neg (by omega)]
theorem cp_s (f g : Nat → Int32) (j : Nat) : upd (cp_ f g j) j (g j) = cp_ f g (j + 1) := by
  funext k
  unfold cp_ upd
  by_cases e : k = j
  · subst e
    rw [if_pos rfl, if_pos (by omega)]
  · rw [if_neg e]
    dsimp only
    by_cases h : k < j
    · rw [if_pos h, if_pos (by omega)]
    · rw [if_neg h, if_neg (by omega)]
theorem cp_all {f g : Nat → Int32} {N j : Nat} (h : j < N) : cp_ f g N j = g j := by unfold cp_; rw [if_pos h]
theorem far_nI (ρ : ST_) : ∀ j, ∃ q, q ≤ j ∧ hm_farF ρ j = nI q := by
  intro j
  induction j with
  | zero => exact ⟨0, Nat.le_refl _, by show (0 : Int32) = nI 0; decide⟩
  | succ j ih =>
    obtain ⟨q, hq, e⟩ := ih
    have h : hm_farF ρ (j + 1) = if ρ 2 (ix_ (ρ 8 (ix_ (hm_farF ρ j)))) < ρ 2 (ix_ (ρ 8 (j + 1))) then nI (j + 1) else hm_farF ρ j := rfl
    rw [h]
    split
    · exact ⟨j + 1, Nat.le_refl _, rfl⟩
    · exact ⟨q, by omega, e⟩
theorem hm_far_s (ρ : ST_) (j : Nat) : hm_farF ρ (j + 1) = if ρ 2 (ix_ (ρ 8 (ix_ (hm_farF ρ j)))) < ρ 2 (ix_ (ρ 8 (j + 1))) then nI (j + 1) else hm_farF ρ j := rfl
theorem ml_s (ρ : ST_) (h l0 : Int32) (p : Nat) : ml_ ρ h l0 (p + 1) = if ρ 2 (ix_ (if ρ 10 p = -1 then h else ρ 8 p)) < ml_ ρ h l0 p then ρ 2 (ix_ (if ρ 10 p = -1 then h else ρ 8 p)) else ml_ ρ h l0 p := rfl
theorem br_self (ρ : ST_) (h : Int32) (j : Nat) : br_ ρ h j j = ρ 8 j := by unfold br_; rw [if_neg (by omega)]
theorem rl_self (ρ : ST_) (x : Int32) (j : Nat) : rl_ ρ x j j = ρ 1 j := by unfold rl_; rw [if_neg (by omega)]
/-- what a run of steps needs: a set of states that steps don't leave, in which they read within their arrays -/
def Rn_ (K n : Nat) (I : ST_ → Prop) : Prop := ∀ ρ, I ρ → ∀ q, q < n → Om_ n ρ q ∧ I (hm_one K n ρ q).1
theorem iz_1000 : (1000 : Int32).toInt = 1000 := by decide
theorem iz_32 : (32 : Int32).toInt = 32 := by decide
end LR_A

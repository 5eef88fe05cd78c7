section QUERY_A
variable {K n c p : Nat} {σ ρ : ST_}
theorem iz_bv (x : Int32) : ∃ m : Nat, m < 2 ^ 32 ∧ x = nI m := ⟨x.toBitVec.toNat, x.toBitVec.isLt, Int32.toBitVec_inj.mp (by show x.toBitVec = BitVec.ofNat 32 x.toBitVec.toNat; simp)⟩
theorem rq_lt {n : Nat} (h0 : 0 < n) (hn : n ≤ 5) (x : Int32) : ∃ j, j < n ∧ rq_ n x = j ∧ (x.toUInt32 >>> ((16 : Int32).toUInt32 &&& Int32.toUInt32 31)).toInt32 - (x.toUInt32 >>> ((16 : Int32).toUInt32 &&& Int32.toUInt32 31)).toInt32 / nI n * nI n = nI j := by
  obtain ⟨m, hm, e⟩ := iz_bv x
  have e1 : (x.toUInt32 >>> ((16 : Int32).toUInt32 &&& Int32.toUInt32 31)).toInt32 = nI (m / 2 ^ 16) := by
    rw [e]; exact pk_ushrN hm 16 16 (by decide +kernel)
  have hd : m / 2 ^ 16 < 2 ^ 16 := Nat.div_lt_of_lt_mul (by omega)
  have e2 := pk_rem (a := m / 2 ^ 16) (d := n) (by omega) h0 (by omega)
  have hmod := Nat.mod_lt (m / 2 ^ 16) h0
  refine ⟨m / 2 ^ 16 % n, hmod, ?_, ?_⟩
  · unfold rq_
    rw [e1, e2]
    exact nI_clamp (by omega)
  · rw [e1, e2]
theorem jr_run (hn : n ≤ 5) (h0 : 0 < n) (hc : c < 100000) : ∀ (k : Nat) (x r : Int32) {σ ρ : ST_}, Jr_ K n c σ ρ → (hc_run K n k x r σ).2 = (hm_run K n k x r ρ).2 ∧ Jr_ K n c (hc_run K n k x r σ).1 (hm_run K n k x r ρ).1 := by
  intro k
  induction k with
  | zero => intro x r σ ρ h; exact ⟨rfl, h⟩
  | succ k ih =>
    intro x r σ ρ h
    obtain ⟨j, hj, e, -⟩ := rq_lt h0 hn (rx_ x)
    unfold hc_run hm_run
    rw [e]
    obtain ⟨h1, h2⟩ := jr_one h hn hc hj
    rw [h1]
    exact ih _ _ h2
theorem on_eq (h : Ea_ σ ρ) (k : Nat) : on_ σ k = on_ ρ k := by
  unfold on_
  rw [h 1 (dm_of (by omega)), h 2 (dm_of (by omega))]
theorem on_iff {ρ : ST_} {k : Nat} : on_ ρ k = true ↔ ¬ ρ 1 k = 0 ∧ 0 < ρ 2 k := by
  unfold on_
  simp
/-- on the log, in the numbers' words -/
theorem on_tz (h : Iv_ n c (tz_ ρ)) {k : Nat} (hk : k < 32) : on_ ρ k = true ↔ tz_ ρ 1 k = 1 ∧ 1 ≤ tz_ ρ 2 k := by
  have hn := h.2.1 k hk
  unfold In_ at hn
  have x1 : (ρ 1 k).toInt = tz_ ρ 1 k := rfl
  have x2 : (ρ 2 k).toInt = tz_ ρ 2 k := rfl
  rw [on_iff, iz_lt, iz_eq, iz_0, x1, x2]
  omega
theorem jr_end (h : Jr_ K n c σ ρ) : hc_endF σ 32 = ρ 0 1 := by
  have e2 : σ 2 = ρ 2 := h.2.1 2 (dm_of (by omega))
  have hE := h.1.2.2.2.1
  have key : ∀ k, k ≤ 32 → 1 ≤ (hc_endF σ k).toInt ∧ (hc_endF σ k).toInt ≤ tz_ ρ 0 1 ∧ ∀ j, j < k → on_ ρ j = true → tz_ ρ 2 j ≤ (hc_endF σ k).toInt := by
    intro k
    induction k with
    | zero =>
      intro _
      have : (hc_endF σ 0).toInt = 1 := iz_1
      exact ⟨by omega, by omega, fun j hj => by omega⟩
    | succ k ih =>
      intro hk
      obtain ⟨i1, i2, i3⟩ := ih (by omega)
      have hs : hc_endF σ (k + 1) = cond (on_ σ k) (if hc_endF σ k ≤ σ 2 k then σ 2 k else hc_endF σ k) (hc_endF σ k) := rfl
      rw [hs, on_eq h.2.1, e2]
      cases ho : on_ ρ k with
      | false =>
        refine ⟨i1, i2, fun j hj hon => ?_⟩
        by_cases e : j = k
        · rw [e, ho] at hon; cases hon
        · exact i3 j (by omega) hon
      | true =>
        have hb := (on_tz h.1 (show k < 32 by omega)).mp ho
        have hu := (h.1.2.1 k (by omega)).2.2 hb.1
        have hu1 := hu.1
        have hu2 := hu.2.1
        have x2 : (ρ 2 k).toInt = tz_ ρ 2 k := rfl
        show 1 ≤ (if hc_endF σ k ≤ ρ 2 k then ρ 2 k else hc_endF σ k).toInt ∧ _ ∧ ∀ j, j < k + 1 → on_ ρ j = true → tz_ ρ 2 j ≤ (if hc_endF σ k ≤ ρ 2 k then ρ 2 k else hc_endF σ k).toInt
        by_cases g : hc_endF σ k ≤ ρ 2 k
        · rw [if_pos g]
          rw [iz_le, x2] at g
          refine ⟨by omega, by show (ρ 2 k).toInt ≤ _; rw [x2]; exact hu.2.1, fun j hj hon => ?_⟩
          by_cases e : j = k
          · rw [e, x2]; exact Int.le_refl _
          · have := i3 j (by omega) hon; omega
        · rw [if_neg g]
          have g2 := g
          rw [iz_le, x2] at g2
          refine ⟨i1, by show (hc_endF σ k).toInt ≤ _; exact i2, fun j hj hon => ?_⟩
          by_cases e : j = k
          · rw [e]; omega
          · exact i3 j (by omega) hon
  obtain ⟨k, k1, k2, k3⟩ := h.1.2.2.2.2.1
  obtain ⟨j1, j2, j3⟩ := key 32 (by omega)
  have h3 := j3 k k1 ((on_tz h.1 k1).mpr ⟨k2, by omega⟩)
  rw [iz_eq]
  show _ = tz_ ρ 0 1
  omega
theorem jr_old (h : Jr_ K n c σ ρ) : hc_oldF σ 32 = hm_oldF ρ 32 := by
  have e2 : σ 2 = ρ 2 := h.2.1 2 (dm_of (by omega))
  have hE := h.1.2.2.2.1
  have hend := jr_end h
  have xe : (ρ 0 1).toInt = tz_ ρ 0 1 := rfl
  have key : ∀ k, k ≤ 32 → 0 ≤ (hm_oldF ρ k).toInt ∧ (hm_oldF ρ k).toInt ≤ tz_ ρ 0 1 ∧ hc_oldF σ k = (if hm_oldF ρ k = 0 then ρ 0 1 else hm_oldF ρ k) ∧ ((∃ j, j < k ∧ on_ ρ j = true) → ¬ hm_oldF ρ k = 0) := by
    intro k
    induction k with
    | zero =>
      intro _
      have q : hm_oldF ρ 0 = 0 := rfl
      rw [q, iz_0, if_pos rfl]
      exact ⟨by omega, by omega, hend, fun ⟨j, hj, _⟩ => by omega⟩
    | succ k ih =>
      intro hk
      obtain ⟨i1, i2, i3, i4⟩ := ih (by omega)
      have hs : hc_oldF σ (k + 1) = cond (on_ σ k) (if hc_oldF σ k ≤ σ 2 k then hc_oldF σ k else σ 2 k) (hc_oldF σ k) := rfl
      have hs2 : hm_oldF ρ (k + 1) = cond (on_ ρ k && (decide (hm_oldF ρ k = 0) || decide (ρ 2 k < hm_oldF ρ k))) (ρ 2 k) (hm_oldF ρ k) := rfl
      rw [hs, hs2, on_eq h.2.1, e2]
      cases ho : on_ ρ k with
      | false =>
        refine ⟨i1, i2, i3, fun ⟨j, hj, hon⟩ => i4 ⟨j, ?_, hon⟩⟩
        by_cases e : j = k
        · rw [e, ho] at hon; cases hon
        · omega
      | true =>
        have hb := (on_tz h.1 (show k < 32 by omega)).mp ho
        have hu := (h.1.2.1 k (by omega)).2.2 hb.1
        have hu1 := hu.1
        have hu2 := hu.2.1
        have x2 : (ρ 2 k).toInt = tz_ ρ 2 k := rfl
        have hk0 : ¬ ρ 2 k = 0 := by rw [iz_eq, iz_0, x2]; omega
        rw [Bool.true_and]
        by_cases g0 : hm_oldF ρ k = 0
        · rw [g0] at i3
          rw [if_pos rfl] at i3
          rw [i3]
          have q1 : (decide (hm_oldF ρ k = 0) || decide (ρ 2 k < hm_oldF ρ k)) = true := by rw [decide_eq_true g0]; rfl
          rw [q1]
          show 0 ≤ (ρ 2 k).toInt ∧ (ρ 2 k).toInt ≤ _ ∧ (if ρ 0 1 ≤ ρ 2 k then ρ 0 1 else ρ 2 k) = (if ρ 2 k = 0 then ρ 0 1 else ρ 2 k) ∧ (_ → ¬ ρ 2 k = 0)
          rw [if_neg hk0]
          refine ⟨by rw [x2]; omega, by rw [x2]; exact hu.2.1, ?_, fun _ => hk0⟩
          by_cases g : ρ 0 1 ≤ ρ 2 k
          · rw [if_pos g]
            rw [iz_le, xe, x2] at g
            rw [iz_eq, xe, x2]
            have := hu.2.1
            omega
          · rw [if_neg g]
        · rw [if_neg g0] at i3
          rw [i3]
          by_cases g : ρ 2 k < hm_oldF ρ k
          · have q1 : (decide (hm_oldF ρ k = 0) || decide (ρ 2 k < hm_oldF ρ k)) = true := by rw [decide_eq_true g, Bool.or_true]
            rw [q1]
            show 0 ≤ (ρ 2 k).toInt ∧ (ρ 2 k).toInt ≤ _ ∧ (if hm_oldF ρ k ≤ ρ 2 k then hm_oldF ρ k else ρ 2 k) = (if ρ 2 k = 0 then ρ 0 1 else ρ 2 k) ∧ (_ → ¬ ρ 2 k = 0)
            rw [if_neg hk0, if_neg (by rw [iz_le]; rw [iz_lt] at g; omega)]
            exact ⟨by rw [x2]; omega, by rw [x2]; exact hu.2.1, rfl, fun _ => hk0⟩
          · have q1 : (decide (hm_oldF ρ k = 0) || decide (ρ 2 k < hm_oldF ρ k)) = false := by rw [decide_eq_false g0, decide_eq_false g]; rfl
            rw [q1]
            show 0 ≤ (hm_oldF ρ k).toInt ∧ (hm_oldF ρ k).toInt ≤ _ ∧ (if hm_oldF ρ k ≤ ρ 2 k then hm_oldF ρ k else ρ 2 k) = (if hm_oldF ρ k = 0 then ρ 0 1 else hm_oldF ρ k) ∧ (_ → ¬ hm_oldF ρ k = 0)
            rw [if_neg g0, if_pos (by rw [iz_le]; rw [iz_lt] at g; omega)]
            exact ⟨i1, i2, rfl, fun _ => g0⟩
  obtain ⟨k, k1, k2, k3⟩ := h.1.2.2.2.2.1
  obtain ⟨-, -, j3, j4⟩ := key 32 (by omega)
  rw [j3, if_neg (j4 ⟨k, k1, (on_tz h.1 k1).mpr ⟨k2, by omega⟩⟩)]
/-- the node of a number -/
theorem jr_find (h : Jr_ K n c σ ρ) (x : Int32) : (hc_find σ x = none ∧ hm_findF ρ x 32 = -1) ∨ ∃ k, k < 32 ∧ hc_find σ x = some k ∧ hm_findF ρ x 32 = nI k ∧ ρ 1 k = 1 ∧ ρ 2 k = x ∧ 1 ≤ x.toInt := by
  have e1 : σ 1 = ρ 1 := h.2.1 1 (dm_of (by omega))
  have e2 : σ 2 = ρ 2 := h.2.1 2 (dm_of (by omega))
  obtain ⟨P, hP⟩ : ∃ P : Nat → Bool, P = fun k => on_ σ k && decide (σ 2 k = x) := ⟨_, rfl⟩
  have hPe : ∀ k, (decide (¬ ρ 1 k = 0) && decide (0 < x) && decide (ρ 2 k = x)) = P k := fun k => by
    rw [hP]
    show _ = (on_ σ k && decide (σ 2 k = x))
    unfold on_
    rw [e1, e2]
    by_cases g : ρ 2 k = x
    · rw [g]
    · rw [decide_eq_false g, Bool.and_false, Bool.and_false]
  have hPt : ∀ k, k < 32 → P k = true → ρ 1 k = 1 ∧ ρ 2 k = x ∧ 1 ≤ x.toInt := fun k hk hp => by
    rw [hP] at hp
    have hp2 : (on_ σ k && decide (σ 2 k = x)) = true := hp
    rw [Bool.and_eq_true, on_eq h.2.1, e2] at hp2
    have h2 := (on_tz h.1 hk).mp hp2.1
    have h3 : ρ 2 k = x := of_decide_eq_true hp2.2
    refine ⟨by rw [iz_eq, iz_1]; exact h2.1, h3, ?_⟩
    rw [← h3]
    exact h2.2
  have huniq : ∀ j k, j < 32 → k < 32 → P j = true → P k = true → j = k := fun j k hj hk pj pk => by
    obtain ⟨u1, u2, u3⟩ := hPt j hj pj
    obtain ⟨w1, w2, w3⟩ := hPt k hk pk
    refine h.1.2.2.1 j k hj hk ?_ ?_ ?_ ?_
    · show (ρ 1 j).toInt = 1; rw [u1]; exact iz_1
    · show (ρ 1 k).toInt = 1; rw [w1]; exact iz_1
    · show (ρ 2 j).toInt = (ρ 2 k).toInt; rw [u2, w2]
    · show 1 ≤ (ρ 2 j).toInt; rw [u2]; exact u3
  have hm : ∀ k, k ≤ 32 → ((∀ j, j < k → P j = false) → hm_findF ρ x k = -1) ∧ (∀ j, j < k → P j = true → hm_findF ρ x k = nI j) := by
    intro k
    induction k with
    | zero => intro _; exact ⟨fun _ => rfl, fun j hj => by omega⟩
    | succ k ih =>
      intro hk
      obtain ⟨i1, i2⟩ := ih (by omega)
      have hs : hm_findF ρ x (k + 1) = cond (P k) (nI k) (hm_findF ρ x k) := by rw [← hPe]; rfl
      rw [hs]
      refine ⟨fun hall => ?_, fun j hj hpj => ?_⟩
      · rw [hall k (by omega)]
        exact i1 (fun j hj => hall j (by omega))
      · by_cases e : j = k
        · rw [← e, hpj]; rfl
        · cases hpk : P k with
          | true => exact absurd (huniq j k (by omega) (by omega) hpj hpk) e
          | false => exact i2 j (by omega) hpj
  obtain ⟨m1, m2⟩ := hm 32 (Nat.le_refl _)
  unfold hc_find
  rw [← hP]
  cases hf : ff_ P 0 32 with
  | none =>
    left
    exact ⟨rfl, m1 (fun j hj => ff_none hf j (by omega) (by omega))⟩
  | some k =>
    right
    obtain ⟨-, hk, hp, -⟩ := ff_some hf
    have hk32 : k < 32 := by omega
    obtain ⟨u1, u2, u3⟩ := hPt k hk32 hp
    exact ⟨k, hk32, rfl, m2 k hk32 hp, u1, u2, u3⟩
end QUERY_A

section STEP_E
variable {K n c p : Nat} {σ ρ : ST_}
theorem hf_ne (K : Nat) (ρ : ST_) (p : Nat) {a : Nat} (h0 : a ≠ 0) (h8 : a ≠ 8) (h9 : a ≠ 9) (h10 : a ≠ 10) (h18 : a ≠ 18) (h19 : a ≠ 19) (h20 : a ≠ 20) (h24 : a ≠ 24) : hm_fin K ρ p a = ρ a := by
  unfold hm_fin hm_fin1 hm_rep
  rw [u2_ne _ _ _ h10, u2_ne _ _ _ h18, u2_ne _ _ _ h19, u2_ne _ _ _ h0, u1_ne _ _ h24, u2_ne _ _ _ h20, u2_ne _ _ _ h9, u2_ne _ _ _ h8]
theorem hf_0 (K : Nat) (ρ : ST_) (p : Nat) {i : Nat} (h : i ≠ 2) : hm_fin K ρ p 0 i = ρ 0 i := by
  unfold hm_fin hm_fin1 hm_rep
  rw [u2_ne _ _ _ (by omega), u2_ne _ _ _ (by omega), u2_ne _ _ _ (by omega), u2_at, if_neg (fun z => h z.2), u1_ne _ _ (by omega), u2_ne _ _ _ (by omega), u2_ne _ _ _ (by omega), u2_ne _ _ _ (by omega)]
theorem hf_8 (K : Nat) (ρ : ST_) (p q : Nat) : hm_fin K ρ p 8 q = if q = p then ρ 12 p else ρ 8 q := by
  unfold hm_fin hm_fin1 hm_rep
  rw [u2_ne _ _ _ (by omega), u2_ne _ _ _ (by omega), u2_ne _ _ _ (by omega), u2_ne _ _ _ (by omega), u1_ne _ _ (by omega), u2_ne _ _ _ (by omega), u2_ne _ _ _ (by omega), u2_at]
  by_cases e : q = p
  · rw [if_pos ⟨rfl, e⟩, if_pos e]
  · rw [if_neg (fun z => e z.2), if_neg e]
theorem hf_9 (K : Nat) (ρ : ST_) (p q : Nat) : hm_fin K ρ p 9 q = if q = p then -1 else ρ 9 q := by
  unfold hm_fin hm_fin1 hm_rep
  rw [u2_ne _ _ _ (by omega), u2_ne _ _ _ (by omega), u2_ne _ _ _ (by omega), u2_ne _ _ _ (by omega), u1_ne _ _ (by omega), u2_ne _ _ _ (by omega), u2_at, u2_ne _ _ _ (by omega)]
  by_cases e : q = p
  · rw [if_pos ⟨rfl, e⟩, if_pos e]
  · rw [if_neg (fun z => e z.2), if_neg e]
theorem hf_10 (K : Nat) (ρ : ST_) (p q : Nat) : hm_fin K ρ p 10 q = if q = p then -1 else ρ 10 q := by
  unfold hm_fin hm_fin1 hm_rep
  rw [u2_at, u2_ne _ _ _ (by omega), u2_ne _ _ _ (by omega), u2_ne _ _ _ (by omega), u1_ne _ _ (by omega), u2_ne _ _ _ (by omega), u2_ne _ _ _ (by omega), u2_ne _ _ _ (by omega)]
  by_cases e : q = p
  · rw [if_pos ⟨rfl, e⟩, if_pos e]
  · rw [if_neg (fun z => e z.2), if_neg e]
theorem jr_fin (h : Jr_ K n c σ ρ) (hp : p < n) (hs : ρ 10 p = 7) : Jr_ K n c (hc_fin σ p) (hm_fin K ρ p) := by
  have hA := h.2.1
  have hB := h.2.2
  have e2 : σ 2 = ρ 2 := hA 2 (dm_of (by omega))
  have e12 : σ 12 = ρ 12 := hA 12 (dm_of (by omega))
  have e18 : σ 18 = ρ 18 := hA 18 (dm_of (by omega))
  have z10 : tz_ ρ 10 p = 7 := by unfold tz_; rw [hs]; exact iz_7
  have hPp := h.1.1 p hp
  unfold Ip_ at hPp
  obtain ⟨a1, a2, a3, a4, a5, a6, a7, a8, a9, a10, a11, a12, a13, a14, a15⟩ := hPp
  obtain ⟨b1, b2, b3, b4, b5, b6⟩ := a9 (by omega)
  have own1 := a15 z10
  obtain ⟨o, ho⟩ : ∃ o, o = ix_ (ρ 12 p) := ⟨_, rfl⟩
  have hoz : (tz_ ρ 12 p).toNat = o := by rw [ho]; rfl
  rw [hoz] at b2 b3 own1
  have ho32 : o < 32 := by omega
  have hno := (h.1.2.1 o ho32).2.2 b2
  have hno1 := hno.1
  have hno2 := hno.2.1
  have xo : (ρ 2 o).toInt = tz_ ρ 2 o := rfl
  have own2 : 2 ≤ (ρ 2 o).toInt := by
    rw [xo]
    by_cases g : tz_ ρ 2 o = 1
    · have := hno.2.2.2.2.2 g; omega
    · omega
  have hans : σ 26 o = hm_repR K (ix_ (ρ 2 o) - 1) ρ := hB.2.2.2.1 o ho32 (by rw [iz_eq, iz_1]; exact b2) own2
  have rn := fun {a : Nat} => hf_ne K ρ p (a := a)
  have tn : ∀ a, a ≠ 0 → a ≠ 8 → a ≠ 9 → a ≠ 10 → a ≠ 18 → a ≠ 19 → a ≠ 20 → a ≠ 24 → tz_ (hm_fin K ρ p) a = tz_ ρ a := fun a x0 x8 x9 x10 x18 x19 x20 x24 => by
    funext j; unfold tz_; rw [hf_ne K ρ p x0 x8 x9 x10 x18 x19 x20 x24]
  refine ⟨iv_fin h.1 hp z10 ?_ (tn 1 (by omega) (by omega) (by omega) (by omega) (by omega) (by omega) (by omega) (by omega)) (tn 2 (by omega) (by omega) (by omega) (by omega) (by omega) (by omega) (by omega) (by omega)) (tn 3 (by omega) (by omega) (by omega) (by omega) (by omega) (by omega) (by omega) (by omega)) (tn 4 (by omega) (by omega) (by omega) (by omega) (by omega) (by omega) (by omega) (by omega)) (fun q => ?_) (fun q => ?_) (fun q => ?_) (tn 11 (by omega) (by omega) (by omega) (by omega) (by omega) (by omega) (by omega) (by omega)) (tn 12 (by omega) (by omega) (by omega) (by omega) (by omega) (by omega) (by omega) (by omega)) (tn 13 (by omega) (by omega) (by omega) (by omega) (by omega) (by omega) (by omega) (by omega)) (tn 14 (by omega) (by omega) (by omega) (by omega) (by omega) (by omega) (by omega) (by omega)), ?_, ?_⟩
  · show (hm_fin K ρ p 0 1).toInt = _
    rw [hf_0 K ρ p (by omega)]; rfl
  · show (hm_fin K ρ p 8 q).toInt = _
    rw [hf_8]
    by_cases e : q = p
    · rw [if_pos e, if_pos e]; rfl
    · rw [if_neg e, if_neg e]; rfl
  · show (hm_fin K ρ p 9 q).toInt = _
    rw [hf_9]
    by_cases e : q = p
    · rw [if_pos e, if_pos e]; exact iz_m
    · rw [if_neg e, if_neg e]; rfl
  · show (hm_fin K ρ p 10 q).toInt = _
    rw [hf_10]
    by_cases e : q = p
    · rw [if_pos e, if_pos e]; exact iz_m
    · rw [if_neg e, if_neg e]; rfl
  · intro a ha
    funext q
    unfold hc_fin hm_fin hm_fin1 hm_rep
    rw [e2, e12, e18, ← ho, hans]
    have n0 : a ≠ 0 := by unfold dm_ at ha; omega
    have n24 : a ≠ 24 := by unfold dm_ at ha; omega
    have hq := congrFun (hA a ha) q
    rw [u2_at _ 10 p _ a q, u2_at _ 20 p _ a q, u2_at _ 19 p _ a q, u2_at _ 18 p _ a q, u2_at _ 9 p _ a q, u2_at _ 8 p _ a q, hq]
    rw [u2_at _ 10 p _ a q, u2_at _ 18 p _ a q, u2_at _ 19 p _ a q, u2_ne _ _ _ n0, u1_ne _ _ n24, u2_at _ 20 p _ a q, u2_at _ 9 p _ a q, u2_at _ 8 p _ a q]
    by_cases e : q = p
    · by_cases c10 : a = 10
      · subst c10; simp [e]
      · by_cases c20 : a = 20
        · subst c20; simp [e]
        · by_cases c19 : a = 19
          · subst c19; simp [e]
          · simp only [c10, c20, c19, false_and, if_false]
    · simp only [e, and_false, if_false]
  · refine eb_congr hB ?_ ?_ ?_ ?_ ?_ ?_ ?_ ?_ (rn (by omega) (by omega) (by omega) (by omega) (by omega) (by omega) (by omega) (by omega)) (rn (by omega) (by omega) (by omega) (by omega) (by omega) (by omega) (by omega) (by omega)) (rn (by omega) (by omega) (by omega) (by omega) (by omega) (by omega) (by omega) (by omega)) (rn (by omega) (by omega) (by omega) (by omega) (by omega) (by omega) (by omega) (by omega)) (rn (by omega) (by omega) (by omega) (by omega) (by omega) (by omega) (by omega) (by omega)) (rn (by omega) (by omega) (by omega) (by omega) (by omega) (by omega) (by omega) (by omega)) (rn (by omega) (by omega) (by omega) (by omega) (by omega) (by omega) (by omega) (by omega)) (rn (by omega) (by omega) (by omega) (by omega) (by omega) (by omega) (by omega) (by omega)) (rn (by omega) (by omega) (by omega) (by omega) (by omega) (by omega) (by omega) (by omega)) (rn (by omega) (by omega) (by omega) (by omega) (by omega) (by omega) (by omega) (by omega)) (rn (by omega) (by omega) (by omega) (by omega) (by omega) (by omega) (by omega) (by omega)) (hf_0 K ρ p (by omega)) (hf_0 K ρ p (by omega)) <;>
      (unfold hc_fin; rw [u2_ne _ _ _ (by omega), u2_ne _ _ _ (by omega), u2_ne _ _ _ (by omega), u2_ne _ _ _ (by omega), u2_ne _ _ _ (by omega), u2_ne _ _ _ (by omega)])
/-- looked for from the front or from the end, it is the same -/
theorem ff_succ (P : Nat → Bool) : ∀ (n i : Nat), ff_ P i (n + 1) = match ff_ P i n with
    | some k => some k
    | none => cond (P (i + n)) (some (i + n)) none := by
  intro n
  induction n with
  | zero => intro i; rfl
  | succ n ih =>
    intro i
    have h1 : ff_ P i (n + 1 + 1) = cond (P i) (some i) (ff_ P (i + 1) (n + 1)) := rfl
    have h2 : ff_ P i (n + 1) = cond (P i) (some i) (ff_ P (i + 1) n) := rfl
    rw [h1, h2]
    cases hp : P i with
    | true => rfl
    | false =>
      show ff_ P (i + 1) (n + 1) = _
      rw [ih (i + 1), show i + 1 + n = i + (n + 1) by omega]
      rfl
theorem fd_ff (P : Nat → Bool) : ∀ (n : Nat) (r : Int32), fd_ P n r = match ff_ P 0 n with
    | some k => nI k
    | none => r := by
  intro n
  induction n with
  | zero => intro r; rfl
  | succ n ih =>
    intro r
    have h1 : fd_ P (n + 1) r = fd_ P n (cond (P n) (nI n) r) := rfl
    rw [h1, ih, ff_succ, show 0 + n = n by omega]
    cases ff_ P 0 n with
    | some k => rfl
    | none => cases P n <;> rfl
theorem hm_free_eq (h : Ea_ σ ρ) : hm_free ρ = match hc_free σ with
    | some k => nI k
    | none => -1 := by
  have e1 : σ 1 = ρ 1 := h 1 (dm_of (by omega))
  unfold hm_free hc_free
  rw [e1]
  exact fd_ff _ 32 (-1)
theorem jr_annS {k : Nat} (h : Jr_ K n c σ ρ) (hn : n ≤ 5) (hp : p < n) (hs : ρ 10 p = 0) (hk : k < 32) (hf : ρ 1 k = 0) : Jr_ K n c (hc_annS σ k p) (hm_annS ρ (nI k) p) := by
  have hA := h.2.1
  have hB := h.2.2
  have e8 : σ 8 = ρ 8 := hA 8 (dm_of (by omega))
  have e15 : σ 15 = ρ 15 := hA 15 (dm_of (by omega))
  have e16 : σ 16 = ρ 16 := hA 16 (dm_of (by omega))
  have e17 : σ 17 = ρ 17 := hA 17 (dm_of (by omega))
  have z10 : tz_ ρ 10 p = 0 := by unfold tz_; rw [hs]; exact iz_0
  have hik : ix_ (nI k) = k := nI_clamp (by omega)
  have hkz : (nI k).toInt = k := iz_nI (by omega)
  have hpz : (nI p).toInt = p := iz_nI (by omega)
  have R : ∀ a j, hm_annS ρ (nI k) p a j = if a = 10 ∧ j = p then 1 else if a = 11 ∧ j = p then 0 else if a = 13 ∧ j = p then ρ 8 p else if a = 9 ∧ j = p then nI k else if a = 12 ∧ j = p then nI k else if a = 7 ∧ j = k then ρ 17 p else if a = 6 ∧ j = k then ρ 16 p else if a = 5 ∧ j = k then ρ 15 p else if a = 4 ∧ j = k then nI p else if a = 3 ∧ j = k then -1 else if a = 2 ∧ j = k then 0 else if a = 1 ∧ j = k then 1 else ρ a j := fun a j => by
    unfold hm_annS
    rw [hik, u2_at, u2_at, u2_at, u2_at, u2_at, u2_at, u2_at, u2_at, u2_at, u2_at, u2_at, u2_at]
  have S : ∀ a j, hc_annS σ k p a j = if a = 10 ∧ j = p then 1 else if a = 11 ∧ j = p then 0 else if a = 13 ∧ j = p then ρ 8 p else if a = 9 ∧ j = p then nI k else if a = 12 ∧ j = p then nI k else if a = 3 ∧ j = k then -1 else if a = 2 ∧ j = k then 0 else if a = 7 ∧ j = k then ρ 17 p else if a = 6 ∧ j = k then ρ 16 p else if a = 5 ∧ j = k then ρ 15 p else if a = 4 ∧ j = k then nI p else if a = 1 ∧ j = k then 1 else σ a j := fun a j => by
    unfold hc_annS hc_take
    rw [e8, e15, e16, e17, u2_at, u2_at, u2_at, u2_at, u2_at, u2_at, u2_at, u2_at, u2_at, u2_at, u2_at, u2_at]
  obtain ⟨ρ', hρ⟩ : ∃ ρ', ρ' = hm_annS ρ (nI k) p := ⟨_, rfl⟩
  obtain ⟨σ', hσ⟩ : ∃ σ', σ' = hc_annS σ k p := ⟨_, rfl⟩
  rw [← hρ] at R ⊢
  rw [← hσ] at S ⊢
  have T : ∀ a j, tz_ ρ' a j = (ρ' a j).toInt := fun _ _ => rfl
  have rn : ∀ a, (a = 0 ∨ a = 8 ∨ 14 ≤ a) → ρ' a = ρ a := fun a ha => by
    funext j
    rw [R]
    simp only [show ¬ a = 10 by omega, show ¬ a = 11 by omega, show ¬ a = 13 by omega, show ¬ a = 9 by omega, show ¬ a = 12 by omega, show ¬ a = 7 by omega, show ¬ a = 6 by omega, show ¬ a = 5 by omega, show ¬ a = 4 by omega, show ¬ a = 3 by omega, show ¬ a = 2 by omega, show ¬ a = 1 by omega, false_and, if_false]
  have sn : ∀ a, (a = 0 ∨ a = 8 ∨ 14 ≤ a) → σ' a = σ a := fun a ha => by
    funext j
    rw [S]
    simp only [show ¬ a = 10 by omega, show ¬ a = 11 by omega, show ¬ a = 13 by omega, show ¬ a = 9 by omega, show ¬ a = 12 by omega, show ¬ a = 7 by omega, show ¬ a = 6 by omega, show ¬ a = 5 by omega, show ¬ a = 4 by omega, show ¬ a = 3 by omega, show ¬ a = 2 by omega, show ¬ a = 1 by omega, false_and, if_false]
  have tn : ∀ a, (a = 0 ∨ a = 8 ∨ 14 ≤ a) → tz_ ρ' a = tz_ ρ a := fun a ha => by
    funext j; unfold tz_; rw [rn a ha]
  refine ⟨iv_ann (k0 := k) h.1 hp z10 hk (by show (ρ 1 k).toInt = 0; rw [hf]; exact iz_0) (by rw [tn 0 (by omega)]) (fun j => ?_) (fun j => ?_) (fun j => ?_) (fun j => ?_) (tn 8 (by omega)) (fun q => ?_) (fun q => ?_) (fun q => ?_) (fun q => ?_) (fun q => ?_) (tn 14 (by omega)), ?_, ?_⟩
  · rw [T, R]
    by_cases e : j = k
    · subst e; simp [iz_1]
    · simp [e]; rfl
  · rw [T, R]
    by_cases e : j = k
    · subst e; simp [iz_0]
    · simp [e]; rfl
  · rw [T, R]
    by_cases e : j = k
    · subst e; simp [iz_m]
    · simp [e]; rfl
  · rw [T, R]
    by_cases e : j = k
    · subst e; simp [hpz]
    · simp [e]; rfl
  · rw [T, R]
    by_cases e : q = p
    · subst e; simp [hkz]
    · simp [e]; rfl
  · rw [T, R]
    by_cases e : q = p
    · subst e; simp [iz_1]
    · simp [e]; rfl
  · rw [T, R]
    by_cases e : q = p
    · subst e; simp [iz_0]
    · simp [e]; rfl
  · rw [T, R]
    by_cases e : q = p
    · subst e; simp [hkz]
    · simp [e]; rfl
  · rw [T, R]
    by_cases e : q = p
    · subst e; simp; rfl
    · simp [e]; rfl
  · intro a ha
    funext j
    rw [R, S, hA a ha]
    have n7 : ¬ a = 7 := by unfold dm_ at ha; omega
    have n6 : ¬ a = 6 := by unfold dm_ at ha; omega
    have n5 : ¬ a = 5 := by unfold dm_ at ha; omega
    have n4 : ¬ a = 4 := by unfold dm_ at ha; omega
    simp only [n7, n6, n5, n4, false_and, if_false]
  · obtain ⟨B1, B2, B3, B4, B5, B6, B7, B8⟩ := hB
    have r1 : ∀ j, ρ' 1 j = if j = k then 1 else ρ 1 j := fun j => by rw [R]; by_cases e : j = k <;> simp [e]
    have r2 : ∀ j, ρ' 2 j = if j = k then 0 else ρ 2 j := fun j => by rw [R]; by_cases e : j = k <;> simp [e]
    have r4 : ∀ j, ρ' 4 j = if j = k then nI p else ρ 4 j := fun j => by rw [R]; by_cases e : j = k <;> simp [e]
    have r5 : ∀ j, ρ' 5 j = if j = k then ρ 15 p else ρ 5 j := fun j => by rw [R]; by_cases e : j = k <;> simp [e]
    have r6 : ∀ j, ρ' 6 j = if j = k then ρ 16 p else ρ 6 j := fun j => by rw [R]; by_cases e : j = k <;> simp [e]
    have r7 : ∀ j, ρ' 7 j = if j = k then ρ 17 p else ρ 7 j := fun j => by rw [R]; by_cases e : j = k <;> simp [e]
    have s4 : ∀ j, σ' 4 j = if j = k then nI p else σ 4 j := fun j => by rw [S]; by_cases e : j = k <;> simp [e]
    have s5 : ∀ j, σ' 5 j = if j = k then ρ 15 p else σ 5 j := fun j => by rw [S]; by_cases e : j = k <;> simp [e]
    have s6 : ∀ j, σ' 6 j = if j = k then ρ 16 p else σ 6 j := fun j => by rw [S]; by_cases e : j = k <;> simp [e]
    have s7 : ∀ j, σ' 7 j = if j = k then ρ 17 p else σ 7 j := fun j => by rw [S]; by_cases e : j = k <;> simp [e]
    unfold Eb_
    rw [rn 0 (by omega), rn 15 (by omega), rn 21 (by omega), rn 22 (by omega), rn 23 (by omega), rn 25 (by omega), sn 26 (by omega), sn 30 (by omega), sn 32 (by omega), sn 33 (by omega)]
    refine ⟨fun j hj h1 h2 => ?_, fun j hj h1 h2 => ?_, B3, fun j hj h1 h2 => ?_, fun j hj h1 h2 => ?_, B6, B7, fun j hj => ?_⟩
    · rw [s4, s5, s6, s7, r4, r5, r6, r7]
      by_cases e : j = k
      · simp [e]
      · rw [r1, if_neg e] at h1
        rw [r2, if_neg e] at h2
        simp only [e, if_false]
        exact B1 j hj h1 h2
    · by_cases e : j = k
      · rw [r2, if_pos e] at h2
        exact absurd h2 (by decide)
      · rw [r1, if_neg e] at h1
        rw [r2, if_neg e] at h2
        rw [s4, s5, s6, s7, if_neg e, if_neg e, if_neg e, if_neg e]
        exact B2 j hj h1 h2
    · by_cases e : j = k
      · rw [r2, if_pos e, iz_0] at h2
        omega
      · rw [r1, if_neg e] at h1
        rw [r2, if_neg e] at h2 ⊢
        exact B4 j hj h1 h2
    · by_cases e : j = k
      · rw [r2, if_pos e, iz_0] at h2
        omega
      · rw [r1, if_neg e] at h1
        rw [r2, if_neg e] at h2 ⊢
        rw [r5, r6, r7, if_neg e, if_neg e, if_neg e]
        exact B5 j hj h1 h2
    · rw [r5]
      by_cases e : j = k
      · rw [if_pos e]; exact B7 p hp
      · rw [if_neg e]; exact B8 j hj
theorem jr_ann (h : Jr_ K n c σ ρ) (hn : n ≤ 5) (hp : p < n) (hs : ρ 10 p = 0) : (hc_ann σ p).2 = (hm_ann ρ p).2 ∧ Jr_ K n c (hc_ann σ p).1 (hm_ann ρ p).1 := by
  have e1 : σ 1 = ρ 1 := h.2.1 1 (dm_of (by omega))
  have hfr := hm_free_eq h.2.1
  unfold hc_ann hm_ann
  cases hc : hc_free σ with
  | none =>
    rw [hc] at hfr
    rw [hfr, if_pos (by decide)]
    exact ⟨rfl, h⟩
  | some k =>
    rw [hc] at hfr
    unfold hc_free at hc
    obtain ⟨-, hk, hP, -⟩ := ff_some hc
    have hk32 : k < 32 := by omega
    have hu : ρ 1 k = 0 := by rw [← e1]; exact of_decide_eq_true hP
    rw [hfr, if_neg (nI_pos (by omega))]
    exact ⟨rfl, jr_annS h hn hp hs hk32 hu⟩
theorem jr_call (h : Jr_ K n c σ ρ) (hp : p < n) (hs : ρ 10 p = -1) {op a b : Int32} (ho : 0 ≤ op.toInt ∧ op.toInt ≤ 2) : Jr_ K n (c + 1) (hc_call σ p op a b) (hm_call ρ p op a b) := by
  have hA := h.2.1
  have z10 : tz_ ρ 10 p = -1 := by unfold tz_; rw [hs]; exact iz_m
  have rn : ∀ x, x ≠ 10 → x ≠ 15 → x ≠ 16 → x ≠ 17 → hm_call ρ p op a b x = ρ x := fun x x10 x15 x16 x17 => by
    unfold hm_call; rw [u2_ne _ _ _ x17, u2_ne _ _ _ x16, u2_ne _ _ _ x15, u2_ne _ _ _ x10]
  have sn : ∀ x, x ≠ 10 → x ≠ 15 → x ≠ 16 → x ≠ 17 → hc_call σ p op a b x = σ x := fun x x10 x15 x16 x17 => by
    unfold hc_call; rw [u2_ne _ _ _ x10, u2_ne _ _ _ x17, u2_ne _ _ _ x16, u2_ne _ _ _ x15]
  have tn : ∀ x, x ≠ 10 → x ≠ 15 → x ≠ 16 → x ≠ 17 → tz_ (hm_call ρ p op a b) x = tz_ ρ x := fun x x10 x15 x16 x17 => by
    funext j; unfold tz_; rw [rn x x10 x15 x16 x17]
  refine ⟨iv_call h.1 hp z10 (by rw [tn 0 (by omega) (by omega) (by omega) (by omega)]) (tn 1 (by omega) (by omega) (by omega) (by omega)) (tn 2 (by omega) (by omega) (by omega) (by omega)) (tn 3 (by omega) (by omega) (by omega) (by omega)) (tn 4 (by omega) (by omega) (by omega) (by omega)) (tn 8 (by omega) (by omega) (by omega) (by omega)) (tn 9 (by omega) (by omega) (by omega) (by omega)) (fun q => ?_) (tn 11 (by omega) (by omega) (by omega) (by omega)) (tn 12 (by omega) (by omega) (by omega) (by omega)) (tn 13 (by omega) (by omega) (by omega) (by omega)) (tn 14 (by omega) (by omega) (by omega) (by omega)), ?_, ?_⟩
  · show (hm_call ρ p op a b 10 q).toInt = _
    unfold hm_call
    rw [u2_ne _ _ _ (by omega), u2_ne _ _ _ (by omega), u2_ne _ _ _ (by omega), u2_at]
    by_cases e : q = p
    · rw [if_pos ⟨rfl, e⟩, if_pos e]; exact iz_0
    · rw [if_neg (fun z => e z.2), if_neg e]; rfl
  · intro x hx
    funext q
    unfold hc_call hm_call
    rw [u2_at, u2_at, u2_at, u2_at, u2_at, u2_at, u2_at, u2_at, hA x hx]
    by_cases e : q = p
    · by_cases c10 : x = 10
      · subst c10; simp [e]
      · simp only [c10, false_and, if_false]
    · simp only [e, and_false, if_false]
  · obtain ⟨B1, B2, B3, B4, B5, B6, B7, B8⟩ := h.2.2
    unfold Eb_
    rw [rn 0 (by omega) (by omega) (by omega) (by omega), rn 1 (by omega) (by omega) (by omega) (by omega), rn 2 (by omega) (by omega) (by omega) (by omega), rn 4 (by omega) (by omega) (by omega) (by omega), rn 5 (by omega) (by omega) (by omega) (by omega), rn 6 (by omega) (by omega) (by omega) (by omega), rn 7 (by omega) (by omega) (by omega) (by omega), rn 21 (by omega) (by omega) (by omega) (by omega), rn 22 (by omega) (by omega) (by omega) (by omega), rn 23 (by omega) (by omega) (by omega) (by omega), rn 25 (by omega) (by omega) (by omega) (by omega),
      sn 4 (by omega) (by omega) (by omega) (by omega), sn 5 (by omega) (by omega) (by omega) (by omega), sn 6 (by omega) (by omega) (by omega) (by omega), sn 7 (by omega) (by omega) (by omega) (by omega), sn 26 (by omega) (by omega) (by omega) (by omega), sn 30 (by omega) (by omega) (by omega) (by omega), sn 32 (by omega) (by omega) (by omega) (by omega), sn 33 (by omega) (by omega) (by omega) (by omega)]
    refine ⟨B1, B2, B3, B4, B5, B6, fun q hq => ?_, B8⟩
    have r15 : hm_call ρ p op a b 15 q = if q = p then op else ρ 15 q := by
      unfold hm_call
      rw [u2_ne _ _ _ (by omega), u2_ne _ _ _ (by omega), u2_at, u2_ne _ _ _ (by omega)]
      by_cases e : q = p
      · rw [if_pos ⟨rfl, e⟩, if_pos e]
      · rw [if_neg (fun z => e z.2), if_neg e]
    rw [r15]
    by_cases e : q = p
    · rw [if_pos e]; exact ho
    · rw [if_neg e]; exact B7 q hq
theorem jr_one (h : Jr_ K n c σ ρ) (hn : n ≤ 5) (hc : c < 100000) (hp : p < n) : (hc_one K n σ p).2 = (hm_one K n ρ p).2 ∧ Jr_ K n c (hc_one K n σ p).1 (hm_one K n ρ p).1 := by
  have e10 : σ 10 = ρ 10 := h.2.1 10 (dm_of (by omega))
  have hPp := h.1.1 p hp
  unfold Ip_ at hPp
  have hst := hPp.2.2.2.2.1
  have x10 : (ρ 10 p).toInt = tz_ ρ 10 p := rfl
  unfold hc_one hm_one
  rw [e10]
  by_cases cm : ρ 10 p = -1
  · rw [cm]
    simp only [show ¬ ((-1 : Int32) = 0) by decide, show ¬ ((-1 : Int32) = 1) by decide, show ¬ ((-1 : Int32) = 2) by decide, show ¬ ((-1 : Int32) = 3) by decide, show ¬ ((-1 : Int32) = 4) by decide, show ¬ ((-1 : Int32) = 5) by decide, show ¬ ((-1 : Int32) = 6) by decide, show ¬ ((-1 : Int32) = 7) by decide, if_false, if_true]
    exact ⟨trivial, h⟩
  · rw [if_neg cm]
    by_cases c0 : ρ 10 p = 0
    · rw [if_pos c0, if_pos c0]; exact jr_ann h hn hp c0
    · rw [if_neg c0, if_neg c0]
      by_cases c1 : ρ 10 p = 1
      · rw [if_pos c1, if_pos c1]; exact ⟨rfl, jr_look h hn hp c1⟩
      · rw [if_neg c1, if_neg c1]
        by_cases c2 : ρ 10 p = 2
        · rw [if_pos c2, if_pos c2]; exact ⟨rfl, jr_ask h hp c2⟩
        · rw [if_neg c2, if_neg c2]
          by_cases c3 : ρ 10 p = 3
          · rw [if_pos c3, if_pos c3]; exact ⟨rfl, jr_choose h hn hc hp c3⟩
          · rw [if_neg c3, if_neg c3]
            by_cases c4 : ρ 10 p = 4
            · rw [if_pos c4, if_pos c4]; exact ⟨rfl, jr_prop h hp c4⟩
            · rw [if_neg c4, if_neg c4]
              by_cases c5 : ρ 10 p = 5
              · rw [if_pos c5, if_pos c5]; exact ⟨rfl, jr_give h hc hp c5⟩
              · rw [if_neg c5, if_neg c5]
                by_cases c6 : ρ 10 p = 6
                · rw [if_pos c6, if_pos c6]; exact ⟨rfl, jr_move h hp c6⟩
                · rw [if_neg c6, if_neg c6]
                  have c7 : ρ 10 p = 7 := by
                    rw [iz_eq, iz_m, x10] at cm
                    rw [iz_eq, iz_0, x10] at c0
                    rw [iz_eq, iz_1, x10] at c1
                    rw [iz_eq, iz_2, x10] at c2
                    rw [iz_eq, iz_3, x10] at c3
                    rw [iz_eq, iz_4, x10] at c4
                    rw [iz_eq, iz_5, x10] at c5
                    rw [iz_eq, iz_6, x10] at c6
                    rw [iz_eq, iz_7, x10]
                    omega
                  rw [if_pos c7]
                  exact ⟨rfl, jr_fin h hp c7⟩
end STEP_E

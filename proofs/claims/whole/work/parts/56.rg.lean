section RG_A
variable {K n c p : Nat} {σ ρ : ST_}
/-- the fault is no part of it -/
theorem jr_f (h : Jr_ K n c σ ρ) (x : Int32) : Jr_ K n c σ (u2_ ρ 0 0 x) := by
  have t : ∀ a, a ≠ 0 → tz_ (u2_ ρ 0 0 x) a = tz_ ρ a := fun a ha => by funext j; unfold tz_; rw [u2_ne _ _ _ ha]
  have t0 : ∀ j, j ≠ 0 → u2_ ρ 0 0 x 0 j = ρ 0 j := fun j hj => by rw [u2_at, if_neg (by omega)]
  refine ⟨iv_congr h.1 ?_ (t 1 (by omega)) (t 2 (by omega)) (t 3 (by omega)) (t 4 (by omega)) (t 8 (by omega)) (t 9 (by omega)) (t 10 (by omega)) (t 11 (by omega)) (t 12 (by omega)) (t 13 (by omega)) (t 14 (by omega)), ea_r h.2.1 (by unfold dm_; omega) _ _, ?_⟩
  · unfold tz_; rw [t0 1 (by omega)]
  · exact eb_congr h.2.2 rfl rfl rfl rfl rfl rfl rfl rfl rfl rfl rfl rfl rfl rfl rfl rfl rfl rfl rfl (t0 1 (by omega)) (t0 3 (by omega))
theorem rg_end (h : Jr_ K n c σ ρ) : 1 ≤ (ρ 0 1).toInt ∧ (ρ 0 1).toInt ≤ 1 + c := by
  have h1 := h.1.2.2.2.1
  have h2 := h.1.2.2.2.2.2
  have h3 : 0 ≤ pd_ (tz_ ρ) n := by
    cases n with
    | zero => exact Int.le_refl _
    | succ n => exact (pd_ge (τ := tz_ ρ) (p := 0) (by omega)).2
  have h4 : (ρ 0 1).toInt = tz_ ρ 0 1 := rfl
  omega
theorem rg_J (h : Jr_ K n c σ ρ) (hc : c ≤ 590) : ∃ J, ρ 0 1 = nI (J + 1) ∧ J + 1 < 600 := by
  have h1 := rg_end h
  obtain ⟨e, -⟩ := iz_of (x := ρ 0 1) (by omega)
  have h2 := iz_ix (ρ 0 1)
  obtain ⟨J, hJ⟩ : ∃ J, ix_ (ρ 0 1) = J + 1 := ⟨ix_ (ρ 0 1) - 1, by omega⟩
  rw [hJ] at e
  exact ⟨J, e, by omega⟩
theorem rg_9 (h : Jr_ K n c σ ρ) (hp : p < n) (h0 : 0 ≤ ρ 9 p) : Ix_ (ρ 9 p) 32 (ix_ (ρ 9 p)) := by
  have hI := h.1.1 p hp
  unfold Ip_ at hI
  obtain ⟨a1, a2, a3, a4, a5, a6, a7, a8, a9, -⟩ := hI
  rw [iz_le, iz_0] at h0
  have x9 : (ρ 9 p).toInt = tz_ ρ 9 p := rfl
  have act : 1 ≤ tz_ ρ 10 p := by
    by_cases z : tz_ ρ 10 p < 1
    · have := a8 z; omega
    · omega
  have r1 := (a9 act).1
  exact Ix_r (by omega) (by omega)
theorem rg_8 (h : Jr_ K n c σ ρ) (hp : p < n) : Ix_ (ρ 8 p) 32 (ix_ (ρ 8 p)) := by
  have hI := h.1.1 p hp
  unfold Ip_ at hI
  have x8 : (ρ 8 p).toInt = tz_ ρ 8 p := rfl
  exact Ix_r (by omega) (by omega)
/-- the number of the best one seen -/
theorem rg_b (h : Jr_ K n c σ ρ) (hp : p < n) (h1 : 1 ≤ tz_ ρ 10 p) : tz_ ρ 1 (tz_ ρ 13 p).toNat = 1 ∧ 1 ≤ tz_ ρ 2 (tz_ ρ 13 p).toNat ∧ tz_ ρ 2 (tz_ ρ 13 p).toNat ≤ 1 + c ∧ Iu_ n (tz_ ρ) (tz_ ρ 13 p).toNat := by
  have hI := h.1.1 p hp
  unfold Ip_ at hI
  obtain ⟨a1, a2, a3, a4, a5, a6, a7, a8, a9, -⟩ := hI
  obtain ⟨b1, b2, b3, b4, b5, b6⟩ := a9 h1
  have hb := (h.1.2.1 _ (show (tz_ ρ 13 p).toNat < 32 by omega)).2.2 b4
  have hb' := hb
  unfold Iu_ at hb
  have he := rg_end h
  have h4 : (ρ 0 1).toInt = tz_ ρ 0 1 := rfl
  exact ⟨b4, by omega, by omega, hb'⟩
theorem jr_Om (h : Jr_ K n c σ ρ) (hn : n ≤ 5) (hc : c ≤ 590) (hp : p < n) : Om_ n ρ p := by
  have hI := h.1.1 p hp
  unfold Ip_ at hI
  obtain ⟨a1, a2, a3, a4, a5, a6, a7, a8, a9, a10, a11, a12, a13, a14, a15⟩ := hI
  have t10 : ∀ {x : Int32}, ρ 10 p = x → tz_ ρ 10 p = x.toInt := fun e => by unfold tz_; rw [e]
  have x11 : (ρ 11 p).toInt = tz_ ρ 11 p := rfl
  have i11 : ix_ (ρ 11 p) = (tz_ ρ 11 p).toNat := rfl
  refine ⟨a5, Ix_r a2.1 a2.2, Ix_r a3.1 a3.2, Ix_r a4.1 a4.2, fun g => ?_, fun g => ?_, fun g => ?_, fun g => ?_⟩
  · have := t10 g; rw [iz_1] at this
    have h11 := a10 this
    exact ⟨Ix_r (by omega) (by omega), rg_8 h (by omega)⟩
  · have := t10 g; rw [iz_3] at this
    obtain ⟨b1, b2, b3, -⟩ := rg_b h hp (by omega)
    obtain ⟨kk, hkk⟩ : ∃ kk : Nat, kk = (tz_ ρ 2 (tz_ ρ 13 p).toNat).toNat := ⟨_, rfl⟩
    have hk1 : ρ 2 (ix_ (ρ 13 p)) + 1 = nI (kk + 1) := by
      have q0 : (ρ 2 (ix_ (ρ 13 p))).toInt = tz_ ρ 2 (tz_ ρ 13 p).toNat := rfl
      obtain ⟨e, -⟩ := iz_of (x := ρ 2 (ix_ (ρ 13 p))) (by rw [q0]; omega)
      rw [e, show ix_ (ρ 2 (ix_ (ρ 13 p))) = kk from by rw [iz_ix, q0, hkk], nI_1]
    obtain ⟨f1, f2⟩ := fm_q (a := kk + 1) (d := n) (by omega) (by omega) (by omega)
    have hmod := Nat.mod_lt (kk + 1) (show 0 < n by omega)
    have hmq : hm_q n ρ p = nI ((kk + 1) % n) := by unfold hm_q; rw [hk1, f2]
    have hqi : ix_ (nI ((kk + 1) % n)) = (kk + 1) % n := nI_clamp (by omega)
    rw [hmq, hqi]
    exact ⟨Ix_n (by omega) (by omega), fun g9 => rg_9 h hmod g9⟩
  · have := t10 g; rw [iz_5] at this
    obtain ⟨b1, b2, b3, -⟩ := rg_b h hp (by omega)
    have q0 : (ρ 2 (ix_ (ρ 13 p))).toInt = tz_ ρ 2 (tz_ ρ 13 p).toNat := rfl
    have q1 := iz_add (x := ρ 2 (ix_ (ρ 13 p))) (by omega) (by omega)
    unfold hm_k
    exact Ix_r (by omega) (by omega)
  · have := t10 g; rw [iz_7] at this
    obtain ⟨b1, b2, b3, b4, b5, b6⟩ := a9 (by omega)
    have hb := (h.1.2.1 _ (show (tz_ ρ 12 p).toNat < 32 by omega)).2.2 b2
    unfold Iu_ at hb
    have he := rg_end h
    have h4 : (ρ 0 1).toInt = tz_ ρ 0 1 := rfl
    have q0 : (ρ 2 (ix_ (ρ 12 p))).toInt = tz_ ρ 2 (tz_ ρ 12 p).toNat := rfl
    have h15 := a15 this
    obtain ⟨e, -⟩ := iz_of (x := ρ 2 (ix_ (ρ 12 p))) (by omega)
    have h2 := iz_ix (ρ 2 (ix_ (ρ 12 p)))
    obtain ⟨J, hJ⟩ : ∃ J, ix_ (ρ 2 (ix_ (ρ 12 p))) = J + 1 := ⟨ix_ (ρ 2 (ix_ (ρ 12 p))) - 1, by omega⟩
    rw [hJ] at e
    exact ⟨J, by omega, e⟩
theorem rg_rs (K : Nat) (cd ca cb : Nat → Int32) : ∀ j, 0 ≤ (rs_ K cd ca cb j).2.1.toInt ∧ (rs_ K cd ca cb j).2.1.toInt ≤ 8 := by
  intro j
  induction j with
  | zero => show 0 ≤ (0 : Int32).toInt ∧ (0 : Int32).toInt ≤ 8; rw [iz_0]; omega
  | succ j ih => exact pa_z ih
theorem rg_33 (h : Jr_ K n c σ ρ) : 0 ≤ (σ 33 0).toInt ∧ (σ 33 0).toInt ≤ 8 := by
  rw [h.2.2.2.2.1.2]
  exact rg_rs _ _ _ _ _
theorem rg_op {x : Int32} (h : 0 ≤ x.toInt ∧ x.toInt ≤ 2) : x = 0 ∨ x = 1 ∨ x = 2 := by
  simp only [iz_eq, iz_0, iz_1, iz_2]
  omega
theorem jr_Oc (h : Jr_ K n c σ ρ) (hc : c ≤ 590) (hp : p < n) : Oc_ n σ p := by
  have hA := h.2.1
  have e1 : σ 1 = ρ 1 := hA 1 (dm_of (by omega))
  have e2 : σ 2 = ρ 2 := hA 2 (dm_of (by omega))
  have e3 : σ 3 = ρ 3 := hA 3 (dm_of (by omega))
  have e8 : σ 8 = ρ 8 := hA 8 (dm_of (by omega))
  have e9 : σ 9 = ρ 9 := hA 9 (dm_of (by omega))
  have e10 : σ 10 = ρ 10 := hA 10 (dm_of (by omega))
  have e11 : σ 11 = ρ 11 := hA 11 (dm_of (by omega))
  have e12 : σ 12 = ρ 12 := hA 12 (dm_of (by omega))
  have e13 : σ 13 = ρ 13 := hA 13 (dm_of (by omega))
  have e14 : σ 14 = ρ 14 := hA 14 (dm_of (by omega))
  have hI := h.1.1 p hp
  unfold Ip_ at hI
  obtain ⟨a1, a2, a3, a4, a5, a6, a7, a8, a9, a10, a11, a12, a13, a14, a15⟩ := hI
  have t10 : ∀ {x : Int32}, ρ 10 p = x → tz_ ρ 10 p = x.toInt := fun e => by unfold tz_; rw [e]
  unfold Oc_
  rw [e2, e3, e8, e9, e10, e11, e12, e13, e14]
  refine ⟨a5, fun q hq => rg_8 h hq, Ix_r a2.1 a2.2, Ix_r a3.1 a3.2, Ix_r a4.1 a4.2, a6.1, fun q hq g => rg_9 h hq g, fun g => ?_, fun g => ?_, fun g g2 => ?_, rg_33 h⟩
  · have := t10 g; rw [iz_3] at this
    obtain ⟨b1, b2, b3, -⟩ := rg_b h hp (by omega)
    have q0 : (ρ 2 (ix_ (ρ 13 p))).toInt = tz_ ρ 2 (tz_ ρ 13 p).toNat := rfl
    have q1 := iz_add (x := ρ 2 (ix_ (ρ 13 p))) (by omega) (by omega)
    omega
  · have hb := (h.1.2.1 (ix_ (ρ 13 p)) (show (tz_ ρ 13 p).toNat < 32 by omega)).2.1
    rw [iz_le, iz_0] at g
    exact Ix_r g hb.2
  · have := t10 g; rw [iz_5] at this
    obtain ⟨b1, b2, b3, b4⟩ := rg_b h hp (by omega)
    unfold Iu_ at b4
    obtain ⟨-, -, -, -, u5, -⟩ := b4
    have h14 := a13 (by omega) (by omega)
    have h5 := (u5 b2 (by rw [← h14]; omega)).1
    rw [← h14] at h5
    have q1 : ρ 1 (ix_ (ρ 14 p)) = 1 := by rw [iz_eq, iz_1]; exact h5
    have k32 : ix_ (ρ 14 p) < 32 := show (tz_ ρ 14 p).toNat < 32 by omega
    have hb := h.2.2.1 (ix_ (ρ 14 p)) k32 q1 (by rw [g2]; decide)
    rw [hb.2.1]
    exact rg_op (h.2.2.2.2.2.2.2.2.2 _ k32)
theorem jr_Rn (hn : n ≤ 5) (hc : c ≤ 590) : Rn_ K n (fun ρ => ∃ σ, Jr_ K n c σ ρ) := by
  intro ρ ⟨σ, h⟩ q hq
  exact ⟨jr_Om h hn hc hq, _, (jr_one h hn (by omega) hq).2⟩
theorem jr_Rc (hn : n ≤ 5) (hc : c ≤ 590) : Rc_ K n (fun σ => ∃ ρ, Jr_ K n c σ ρ) := by
  intro σ ⟨ρ, h⟩ q hq
  exact ⟨jr_Oc h hc hq, _, (jr_one h hn (by omega) hq).2⟩
theorem jr_part (h : Jr_ K n c σ ρ) {x y : Int32} {k : Nat} (hk : k < 32) (h1 : ρ 1 k = 1) (h2 : ρ 2 k = x) : hc_part σ k y = if x = 1 then -1 else hm_part ρ k y := by
  unfold hc_part hm_part
  by_cases g : x = 1
  · rw [if_pos g]
    obtain ⟨q1, q2, q3, q4⟩ := h.2.2.2.1 k hk h1 (h2.trans g)
    rw [q1, q2, q3, q4]
    split
    · rfl
    · split
      · rfl
      · split <;> rfl
  · rw [if_neg g]
    obtain ⟨q1, q2, q3, q4⟩ := h.2.2.1 k hk h1 (fun e => g (h2.symm.trans e))
    rw [q1, q2, q3, q4]
/-- a process, or none -/
theorem pr_of {x : Int32} (hn : n ≤ 5) (h : 0 ≤ x ∧ x < nI n) : ∃ p, p < n ∧ x = nI p := by
  rw [iz_le, iz_0, iz_lt, iz_nI (by omega)] at h
  obtain ⟨e, -⟩ := iz_of (x := x) h.1
  have := iz_ix x
  exact ⟨ix_ x, by omega, e⟩
theorem pr_v (hn : n ≤ 5) (hp : p < n) : 0 ≤ nI p ∧ nI p < nI n := by
  rw [iz_le, iz_0, iz_lt, iz_nI (by omega), iz_nI (by omega)]
  omega
theorem st_of {x : Int32} (h : 1 ≤ x ∧ x ≤ 1000) : ∃ S, (1 ≤ S ∧ S ≤ 1000) ∧ x = nI S := by
  rw [iz_le, iz_1, iz_le, iz_1000] at h
  obtain ⟨e, -⟩ := iz_of (x := x) (by omega)
  have := iz_ix x
  exact ⟨ix_ x, by omega, e⟩
theorem op_of {x : Int32} (h : 0 ≤ x ∧ x ≤ 2) : 0 ≤ x.toInt ∧ x.toInt ≤ 2 := by
  rw [iz_le, iz_0, iz_le, iz_2] at h
  exact h
end RG_A

section STEP_D
variable {K n c p : Nat} {σ ρ : ST_}
theorem jr_prop (h : Jr_ K n c σ ρ) (hp : p < n) (hs : ρ 10 p = 4) : Jr_ K n c (hc_prop σ p) (hm_prop ρ p) := by
  have hA := h.2.1
  have e3 : σ 3 = ρ 3 := hA 3 (dm_of (by omega))
  have e13 : σ 13 = ρ 13 := hA 13 (dm_of (by omega))
  have e14 : σ 14 = ρ 14 := hA 14 (dm_of (by omega))
  have z10 : tz_ ρ 10 p = 4 := by unfold tz_; rw [hs]; exact iz_4
  have hPp := h.1.1 p hp
  unfold Ip_ at hPp
  obtain ⟨a1, a2, a3, a4, a5, a6, a7, a8, a9, a10, a11, a12, a13, a14, a15⟩ := hPp
  obtain ⟨b1, b2, b3, b4, b5, b6⟩ := a9 (by omega)
  obtain ⟨b, hb⟩ : ∃ b, b = ix_ (ρ 13 p) := ⟨_, rfl⟩
  have hbz : (tz_ ρ 13 p).toNat = b := by rw [hb]; rfl
  have hnb := h.1.2.1 b (by omega)
  unfold In_ at hnb
  have x3 : (ρ 3 b).toInt = tz_ ρ 3 b := rfl
  by_cases g : ρ 3 b < 0
  · have hE : hm_prop ρ p = u2_ (u2_ ρ 3 b (ρ 14 p)) 10 p 5 := by
      unfold hm_prop hm_prop1
      rw [← hb, if_pos g]
      congr 1
      have q1 : u2_ ρ 3 b (ρ 14 p) 3 b = (u2_ ρ 3 b (ρ 14 p)) 14 p := by rw [u2_at, if_pos ⟨rfl, rfl⟩, u2_ne _ _ _ (by omega)]
      rw [q1, u2_id]
    have hE2 : hc_prop σ p = u2_ (u2_ σ 3 b (ρ 14 p)) 10 p 5 := by
      unfold hc_prop hc_prop1
      rw [e3, e13, e14, ← hb, if_pos g]
      congr 1
      have q1 : u2_ σ 3 b (ρ 14 p) 3 b = (u2_ σ 3 b (ρ 14 p)) 14 p := by rw [u2_at, if_pos ⟨rfl, rfl⟩, u2_ne _ _ _ (by omega), e14]
      rw [q1, u2_id]
    rw [hE, hE2]
    have tn : ∀ a, a ≠ 3 → a ≠ 10 → tz_ (u2_ (u2_ ρ 3 b (ρ 14 p)) 10 p 5) a = tz_ ρ a := fun a x3 x10 => by
      funext j; rw [tz_u2, if_neg (fun z => x10 z.1), tz_u2, if_neg (fun z => x3 z.1)]
    refine ⟨iv_prop h.1 hp z10 ?_ (by rw [tn 0 (by omega) (by omega)]) (tn 1 (by omega) (by omega)) (tn 2 (by omega) (by omega)) (fun k => ?_) (tn 4 (by omega) (by omega)) (tn 8 (by omega) (by omega)) (tn 9 (by omega) (by omega)) (fun q => ?_) (tn 11 (by omega) (by omega)) (tn 12 (by omega) (by omega)) (tn 13 (by omega) (by omega)) (tn 14 (by omega) (by omega)), ea_u2 (ea_u2 hA _ _ _) _ _ _, ?_⟩
    · rw [hbz, ← x3]
      rw [iz_lt, iz_0] at g
      exact g
    · rw [hbz, tz_u2, if_neg (by omega), tz_u2]
      by_cases e : k = b
      · rw [if_pos ⟨rfl, e⟩, if_pos e]; rfl
      · rw [if_neg (fun z => e z.2), if_neg e]
    · rw [tz_u2]
      by_cases e : q = p
      · rw [if_pos ⟨rfl, e⟩, if_pos e]; exact iz_5
      · rw [if_neg (fun z => e z.2), if_neg e, tz_u2, if_neg (by omega)]
    · refine eb_congr h.2.2 ?_ ?_ ?_ ?_ ?_ ?_ ?_ ?_ ?_ ?_ ?_ ?_ ?_ ?_ ?_ ?_ ?_ ?_ ?_ ?_ ?_ <;> rw [u2_ne _ _ _ (by omega), u2_ne _ _ _ (by omega)]
  · have hE : hm_prop ρ p = u2_ (u2_ ρ 14 p (ρ 3 b)) 10 p 5 := by
      unfold hm_prop hm_prop1
      rw [← hb, if_neg g, u2_id]
    have hE2 : hc_prop σ p = u2_ (u2_ σ 14 p (ρ 3 b)) 10 p 5 := by
      unfold hc_prop hc_prop1
      rw [e3, e13, e14, ← hb, if_neg g, e3]
    rw [iz_lt, iz_0] at g
    rw [hE, hE2]
    obtain ⟨ρ', hρ⟩ : ∃ ρ', ρ' = u2_ (u2_ ρ 14 p (ρ 3 b)) 10 p 5 := ⟨_, rfl⟩
    have t14 : tz_ ρ' 14 p = tz_ ρ 3 b := by rw [hρ, tz_u2, if_neg (by omega), tz_u2, if_pos ⟨rfl, rfl⟩]; rfl
    have t10 : tz_ ρ' 10 p = 5 := by rw [hρ, tz_u2, if_pos ⟨rfl, rfl⟩]; exact iz_5
    have rn : ∀ a, a ≠ 10 → a ≠ 14 → ρ' a = ρ a := fun a x10 x14 => by rw [hρ, u2_ne _ _ _ x10, u2_ne _ _ _ x14]
    have tn : ∀ a, a ≠ 10 → a ≠ 14 → tz_ ρ' a = tz_ ρ a := fun a x10 x14 => by funext j; unfold tz_; rw [rn a x10 x14]
    rw [← hρ]
    refine jr_proc (p := p) h (fun a _ x10 _ _ x14 => rn a x10 x14) (fun a q e => ?_) (fun a _ x10 _ _ x14 => ?_) ?_ (by omega) (by rw [t10]; omega) ?_
    · rw [hρ, u2_at, if_neg (fun z => e z.2), u2_at, if_neg (fun z => e z.2)]
    · rw [u2_ne _ _ _ x10, u2_ne _ _ _ x14]
    · rw [hρ]; exact ea_u2 (ea_u2 hA _ _ _) _ _ _
    · unfold Ip_
      rw [t14, t10, tn 1 (by omega) (by omega), tn 2 (by omega) (by omega), tn 3 (by omega) (by omega), tn 4 (by omega) (by omega), tn 8 (by omega) (by omega), tn 9 (by omega) (by omega), tn 11 (by omega) (by omega), tn 12 (by omega) (by omega), tn 13 (by omega) (by omega)]
      exact ⟨a1, a2, a3, by omega, by omega, a6, a7, by omega, fun _ => ⟨b1, b2, b3, b4, b5, b6⟩, by omega, fun _ _ => a11 (by omega) (by omega), by omega, fun _ _ => by rw [hbz], by omega, by omega⟩
theorem rs_congr {K : Nat} {cd ca cb cd' ca' cb' : Nat → Int32} : ∀ {j : Nat}, (∀ i, i ≤ j + 1 → cd' i = cd i ∧ ca' i = ca i ∧ cb' i = cb i) → rs_ K cd' ca' cb' j = rs_ K cd ca cb j := by
  intro j
  induction j with
  | zero => intro _; rfl
  | succ j ih =>
    intro h
    unfold rs_
    rw [ih (fun i hi => h i (by omega)), (h (j + 2) (by omega)).1, (h (j + 2) (by omega)).2.1, (h (j + 2) (by omega)).2.2]
theorem jr_give (h : Jr_ K n c σ ρ) (hc : c < 100000) (hp : p < n) (hs : ρ 10 p = 5) : Jr_ K n c (hc_give K σ p) (hm_give ρ p) := by
  have hA := h.2.1
  have hB := h.2.2
  have e2 : σ 2 = ρ 2 := hA 2 (dm_of (by omega))
  have e13 : σ 13 = ρ 13 := hA 13 (dm_of (by omega))
  have e14 : σ 14 = ρ 14 := hA 14 (dm_of (by omega))
  have z10 : tz_ ρ 10 p = 5 := by unfold tz_; rw [hs]; exact iz_5
  have hPp := h.1.1 p hp
  unfold Ip_ at hPp
  obtain ⟨a1, a2, a3, a4, a5, a6, a7, a8, a9, a10, a11, a12, a13, a14, a15⟩ := hPp
  obtain ⟨b1, b2, b3, b4, b5, b6⟩ := a9 (by omega)
  have hcell := a13 (by omega) (by omega)
  obtain ⟨b, hb⟩ : ∃ b, b = ix_ (ρ 13 p) := ⟨_, rfl⟩
  have hbz : (tz_ ρ 13 p).toNat = b := by rw [hb]; rfl
  obtain ⟨y, hy⟩ : ∃ y, y = ix_ (ρ 14 p) := ⟨_, rfl⟩
  have hyz : (tz_ ρ 14 p).toNat = y := by rw [hy]; rfl
  rw [hbz] at b4 b5 hcell
  have hb32 : b < 32 := by omega
  have hy32 : y < 32 := by omega
  have hnb := (h.1.2.1 b hb32).2.2 b4
  have hnb1 := hnb.1
  have hnb2 := hnb.2.1
  obtain ⟨y1, y2⟩ := hnb.2.2.2.2.1 (by omega) (by omega)
  rw [← hcell, hyz] at y1 y2
  have hny := (h.1.2.1 y hy32).2.2 y1
  have hny1 := hny.1
  have hny2 := hny.2.1
  have hpd := (pd_ge (τ := tz_ ρ) hp).2
  have hend := h.1.2.2.2.2.2
  have hE1 := h.1.2.2.2.1
  have xb : (ρ 2 b).toInt = tz_ ρ 2 b := rfl
  have xy : (ρ 2 y).toInt = tz_ ρ 2 y := rfl
  have xe : (ρ 0 1).toInt = tz_ ρ 0 1 := rfl
  have hk1 : (ρ 2 b + 1).toInt = tz_ ρ 2 b + 1 := iz_add (by rw [xb]; omega) (by rw [xb]; omega)
  have hu : ρ 1 y = 1 := by rw [iz_eq, iz_1]; exact y1
  by_cases g : tz_ ρ 2 y = 0
  · -- its first number
    have hbe : tz_ ρ 2 b = tz_ ρ 0 1 := by omega
    obtain ⟨kI, hkI⟩ : ∃ kI, kI = ρ 2 b + 1 := ⟨_, rfl⟩
    rw [← hkI] at hk1
    have hmk : hm_k ρ p = kI := by unfold hm_k; rw [← hb, hkI]
    obtain ⟨kN, hkN⟩ : ∃ kN, kN = ix_ kI := ⟨_, rfl⟩
    have hkNz : (kN : Int) = tz_ ρ 0 1 + 1 := by rw [hkN, iz_ix, hk1]; omega
    have hlt : ρ 0 1 < kI := by rw [iz_lt, hk1, xe]; omega
    have hzy : ρ 2 y = 0 := by rw [iz_eq, iz_0]; exact g
    have hz1 : ¬ ρ 2 y = 1 := by rw [iz_eq, iz_1, xy]; omega
    obtain ⟨B1, B2, B3, B4, B5, B6, B7, B8⟩ := hB
    obtain ⟨v4, v5, v6, v7⟩ := B1 y hy32 hu hz1
    have hE : hm_give ρ p = u2_ (u2_ (u2_ (u2_ (u2_ (u2_ ρ 2 y kI) 21 kN (ρ 5 y)) 22 kN (ρ 6 y)) 23 kN (ρ 7 y)) 0 1 kI) 10 p 6 := by
      unfold hm_give
      rw [hmk, ← hy, ← hkN, if_pos hlt]
    obtain ⟨Z, hZ⟩ : ∃ Z, Z = pa_ K (ρ 5 y) (ρ 6 y) (ρ 7 y) (σ 30) (σ 33 0) := ⟨_, rfl⟩
    have hE2 : hc_give K σ p = u2_ (u2_ (u2_ (u2_ (u1_ σ 30 Z.1) 33 0 Z.2.1) 26 y Z.2.2) 2 y kI) 10 p 6 := by
      unfold hc_give hc_give1 hc_perf hc_perfR
      rw [e2, e13, e14, ← hy, ← hb, if_pos hzy, v5, v6, v7, ← hkI, hZ]
    rw [hE, hE2]
    obtain ⟨ρ', hρ⟩ : ∃ ρ', ρ' = u2_ (u2_ (u2_ (u2_ (u2_ (u2_ ρ 2 y kI) 21 kN (ρ 5 y)) 22 kN (ρ 6 y)) 23 kN (ρ 7 y)) 0 1 kI) 10 p 6 := ⟨_, rfl⟩
    obtain ⟨σ', hσ⟩ : ∃ σ', σ' = u2_ (u2_ (u2_ (u2_ (u1_ σ 30 Z.1) 33 0 Z.2.1) 26 y Z.2.2) 2 y kI) 10 p 6 := ⟨_, rfl⟩
    have rn : ∀ a, a ≠ 0 → a ≠ 2 → a ≠ 10 → a ≠ 21 → a ≠ 22 → a ≠ 23 → ρ' a = ρ a := fun a x0 x2 x10 x21 x22 x23 => by
      rw [hρ, u2_ne _ _ _ x10, u2_ne _ _ _ x0, u2_ne _ _ _ x23, u2_ne _ _ _ x22, u2_ne _ _ _ x21, u2_ne _ _ _ x2]
    have sn : ∀ a, a ≠ 2 → a ≠ 10 → a ≠ 26 → a ≠ 30 → a ≠ 33 → σ' a = σ a := fun a x2 x10 x26 x30 x33 => by
      rw [hσ, u2_ne _ _ _ x10, u2_ne _ _ _ x2, u2_ne _ _ _ x26, u2_ne _ _ _ x33, u1_ne _ _ x30]
    have tn : ∀ a, a ≠ 0 → a ≠ 2 → a ≠ 10 → a ≠ 21 → a ≠ 22 → a ≠ 23 → tz_ ρ' a = tz_ ρ a := fun a x0 x2 x10 x21 x22 x23 => by
      funext j; unfold tz_; rw [rn a x0 x2 x10 x21 x22 x23]
    have r2 : ∀ k, ρ' 2 k = if k = y then kI else ρ 2 k := fun k => by
      rw [hρ, u2_ne _ _ _ (by omega), u2_ne _ _ _ (by omega), u2_ne _ _ _ (by omega), u2_ne _ _ _ (by omega), u2_ne _ _ _ (by omega), u2_at]
      by_cases e : k = y
      · rw [if_pos ⟨rfl, e⟩, if_pos e]
      · rw [if_neg (fun z => e z.2), if_neg e]
    have r01 : ρ' 0 1 = kI := by rw [hρ, u2_ne _ _ _ (by omega), u2_at, if_pos ⟨rfl, rfl⟩]
    have r03 : ρ' 0 3 = ρ 0 3 := by
      rw [hρ, u2_ne _ _ _ (by omega), u2_at, if_neg (by omega), u2_ne _ _ _ (by omega), u2_ne _ _ _ (by omega), u2_ne _ _ _ (by omega), u2_ne _ _ _ (by omega)]
    have r21 : ∀ i, ρ' 21 i = if i = kN then ρ 5 y else ρ 21 i := fun i => by
      rw [hρ, u2_ne _ _ _ (by omega), u2_ne _ _ _ (by omega), u2_ne _ _ _ (by omega), u2_ne _ _ _ (by omega), u2_at, u2_ne _ _ _ (by omega)]
      by_cases e : i = kN
      · rw [if_pos ⟨rfl, e⟩, if_pos e]
      · rw [if_neg (fun z => e z.2), if_neg e]
    have r22 : ∀ i, ρ' 22 i = if i = kN then ρ 6 y else ρ 22 i := fun i => by
      rw [hρ, u2_ne _ _ _ (by omega), u2_ne _ _ _ (by omega), u2_ne _ _ _ (by omega), u2_at, u2_ne _ _ _ (by omega), u2_ne _ _ _ (by omega)]
      by_cases e : i = kN
      · rw [if_pos ⟨rfl, e⟩, if_pos e]
      · rw [if_neg (fun z => e z.2), if_neg e]
    have r23 : ∀ i, ρ' 23 i = if i = kN then ρ 7 y else ρ 23 i := fun i => by
      rw [hρ, u2_ne _ _ _ (by omega), u2_ne _ _ _ (by omega), u2_at, u2_ne _ _ _ (by omega), u2_ne _ _ _ (by omega), u2_ne _ _ _ (by omega)]
      by_cases e : i = kN
      · rw [if_pos ⟨rfl, e⟩, if_pos e]
      · rw [if_neg (fun z => e z.2), if_neg e]
    have s26 : ∀ k, σ' 26 k = if k = y then Z.2.2 else σ 26 k := fun k => by
      rw [hσ, u2_ne _ _ _ (by omega), u2_ne _ _ _ (by omega), u2_at, u2_ne _ _ _ (by omega), u1_ne _ _ (by omega)]
      by_cases e : k = y
      · rw [if_pos ⟨rfl, e⟩, if_pos e]
      · rw [if_neg (fun z => e z.2), if_neg e]
    have s30 : σ' 30 = Z.1 := by rw [hσ, u2_ne _ _ _ (by omega), u2_ne _ _ _ (by omega), u2_ne _ _ _ (by omega), u2_ne _ _ _ (by omega), u1_same]
    have s330 : σ' 33 0 = Z.2.1 := by rw [hσ, u2_ne _ _ _ (by omega), u2_ne _ _ _ (by omega), u2_ne _ _ _ (by omega), u2_at, if_pos ⟨rfl, rfl⟩]
    have s332 : σ' 33 2 = σ 33 2 := by rw [hσ, u2_ne _ _ _ (by omega), u2_ne _ _ _ (by omega), u2_ne _ _ _ (by omega), u2_at, if_neg (by omega), u1_ne _ _ (by omega)]
    have hrs : ∀ j, j + 1 < kN → rs_ K (ρ' 21) (ρ' 22) (ρ' 23) j = rs_ K (ρ 21) (ρ 22) (ρ 23) j := fun j hj => rs_congr (fun i hi => by
      rw [r21, r22, r23, if_neg (by omega), if_neg (by omega), if_neg (by omega)]
      exact ⟨rfl, rfl, rfl⟩)
    have hie : ix_ (ρ 0 1) = kN - 1 := by rw [iz_ix, xe]; omega
    rw [hie] at B3
    have hlast : rs_ K (ρ' 21) (ρ' 22) (ρ' 23) (kN - 1) = Z := by
      obtain ⟨j, hj⟩ : ∃ j, kN = j + 2 := ⟨kN - 2, by omega⟩
      rw [hj, show j + 2 - 1 = j + 1 from rfl]
      unfold rs_
      rw [hrs j (by omega), r21, r22, r23, if_pos hj.symm, if_pos hj.symm, if_pos hj.symm, hZ, B3.1, B3.2, hj, show j + 2 - 1 - 1 = j from rfl]
    rw [← hρ, ← hσ]
    refine ⟨iv_give h.1 hp z10 (by rw [hyz]; exact g) ?_ (tn 1 (by omega) (by omega) (by omega) (by omega) (by omega) (by omega)) (fun k => ?_) (tn 3 (by omega) (by omega) (by omega) (by omega) (by omega) (by omega)) (tn 4 (by omega) (by omega) (by omega) (by omega) (by omega) (by omega)) (tn 8 (by omega) (by omega) (by omega) (by omega) (by omega) (by omega)) (tn 9 (by omega) (by omega) (by omega) (by omega) (by omega) (by omega)) (fun q => ?_) (tn 11 (by omega) (by omega) (by omega) (by omega) (by omega) (by omega)) (tn 12 (by omega) (by omega) (by omega) (by omega) (by omega) (by omega)) (tn 13 (by omega) (by omega) (by omega) (by omega) (by omega) (by omega)) (tn 14 (by omega) (by omega) (by omega) (by omega) (by omega) (by omega)), ?_, ?_⟩
    · show (ρ' 0 1).toInt = _
      rw [r01, hk1, hbe]
    · show (ρ' 2 k).toInt = _
      rw [r2 k, hyz]
      by_cases e : k = y
      · rw [if_pos e, if_pos e, hk1, hbe]
      · rw [if_neg e, if_neg e]; rfl
    · show (ρ' 10 q).toInt = _
      rw [hρ, u2_at]
      by_cases e : q = p
      · rw [if_pos ⟨rfl, e⟩, if_pos e]; exact iz_6
      · rw [if_neg (fun z => e z.2), if_neg e, u2_ne _ _ _ (by omega), u2_ne _ _ _ (by omega), u2_ne _ _ _ (by omega), u2_ne _ _ _ (by omega), u2_ne _ _ _ (by omega)]; rfl
    · rw [hρ, hσ]
      have d0 : ¬ dm_ 0 := by unfold dm_; omega
      have d21 : ¬ dm_ 21 := by unfold dm_; omega
      have d22 : ¬ dm_ 22 := by unfold dm_; omega
      have d23 : ¬ dm_ 23 := by unfold dm_; omega
      have d26 : ¬ dm_ 26 := by unfold dm_; omega
      have d30 : ¬ dm_ 30 := by unfold dm_; omega
      have d33 : ¬ dm_ 33 := by unfold dm_; omega
      exact ea_u2 (ea_r (ea_r (ea_r (ea_r (ea_u2 (ea_l (ea_l (ea_l1 hA d30 _) d33 _ _) d26 _ _) _ _ _) d21 _ _) d22 _ _) d23 _ _) d0 _ _) _ _ _
    · have q1 := rn 1 (by omega) (by omega) (by omega) (by omega) (by omega) (by omega)
      have q4 := rn 4 (by omega) (by omega) (by omega) (by omega) (by omega) (by omega)
      have q5 := rn 5 (by omega) (by omega) (by omega) (by omega) (by omega) (by omega)
      have q6 := rn 6 (by omega) (by omega) (by omega) (by omega) (by omega) (by omega)
      have q7 := rn 7 (by omega) (by omega) (by omega) (by omega) (by omega) (by omega)
      have q15 := rn 15 (by omega) (by omega) (by omega) (by omega) (by omega) (by omega)
      have q25 := rn 25 (by omega) (by omega) (by omega) (by omega) (by omega) (by omega)
      have w4 := sn 4 (by omega) (by omega) (by omega) (by omega) (by omega)
      have w5 := sn 5 (by omega) (by omega) (by omega) (by omega) (by omega)
      have w6 := sn 6 (by omega) (by omega) (by omega) (by omega) (by omega)
      have w7 := sn 7 (by omega) (by omega) (by omega) (by omega) (by omega)
      have w32 := sn 32 (by omega) (by omega) (by omega) (by omega) (by omega)
      have hk2 : 2 ≤ kI.toInt := by rw [hk1]; omega
      have hbound : ∀ k, k < 32 → ρ 1 k = 1 → ix_ (ρ 2 k) < kN := fun k hk h1 => by
        have hnk := ((h.1.2.1 k hk).2.2 (by show (ρ 1 k).toInt = 1; rw [h1]; exact iz_1)).2.1
        have x : (ρ 2 k).toInt = tz_ ρ 2 k := rfl
        rw [iz_ix, x]
        omega
      refine ⟨fun k hk h1 h2 => ?_, fun k hk h1 h2 => ?_, ?_, fun k hk h1 h2 => ?_, fun k hk h1 h2 => ?_, ?_, ?_, ?_⟩
      · rw [q1] at h1
        rw [w4, w5, w6, w7, q4, q5, q6, q7]
        by_cases e : k = y
        · rw [e]; exact ⟨v4, v5, v6, v7⟩
        · rw [r2, if_neg e] at h2
          exact B1 k hk h1 h2
      · rw [q1] at h1
        rw [w4, w5, w6, w7]
        by_cases e : k = y
        · rw [r2, if_pos e, iz_eq, iz_1] at h2
          omega
        · rw [r2, if_neg e] at h2
          exact B2 k hk h1 h2
      · rw [r01, ← hkN, hlast, s30, s330]
        exact ⟨rfl, rfl⟩
      · rw [q1] at h1
        by_cases e : k = y
        · rw [s26, if_pos e, r2, if_pos e, ← hkN, hlast]
        · rw [r2, if_neg e] at h2 ⊢
          rw [s26, if_neg e, hrs _ (by have := hbound k hk h1; have := iz_ix (ρ 2 k); omega)]
          exact B4 k hk h1 h2
      · rw [q1] at h1
        rw [q5, q6, q7]
        by_cases e : k = y
        · rw [r2, if_pos e, ← hkN, r21, r22, r23, if_pos rfl, if_pos rfl, if_pos rfl, e]
          exact ⟨rfl, rfl, rfl⟩
        · rw [r2, if_neg e] at h2 ⊢
          have hne : ¬ ix_ (ρ 2 k) = kN := by have := hbound k hk h1; omega
          rw [r21, r22, r23, if_neg hne, if_neg hne, if_neg hne]
          exact B5 k hk h1 h2
      · rw [w32, q25, s332, r03]; exact B6
      · rw [q15]; exact B7
      · rw [q5]; exact B8
  · -- it has its number already
    have g2 : tz_ ρ 2 y = tz_ ρ 2 b + 1 := by omega
    have hk2 : hm_k ρ p = ρ 2 y := by
      unfold hm_k
      rw [← hb, iz_eq, hk1, xy, g2]
    obtain ⟨B1, B2, B3, B4, B5, B6, B7, B8⟩ := id hB
    obtain ⟨v1, v2, v3⟩ := B5 y hy32 hu (by rw [xy]; omega)
    have hnl : ¬ ρ 0 1 < ρ 2 y := by rw [iz_lt, xe, xy]; omega
    have hE : hm_give ρ p = u2_ ρ 10 p 6 := by
      unfold hm_give
      rw [hk2, ← hy, u2_id, ← v1, ← v2, ← v3, u2_id, u2_id, u2_id, if_neg hnl, u2_id]
    have hz : ¬ ρ 2 y = 0 := by rw [iz_eq, iz_0, xy]; exact g
    have hE2 : hc_give K σ p = u2_ σ 10 p 6 := by
      unfold hc_give hc_give1
      rw [e2, e13, e14, ← hy, ← hb, if_neg hz]
      have q : ρ 2 b + 1 = σ 2 y := by rw [e2, iz_eq, hk1, xy, g2]
      rw [q, u2_id]
    rw [hE, hE2]
    have t10 : tz_ (u2_ ρ 10 p 6) 10 p = 6 := by rw [tz_u2, if_pos ⟨rfl, rfl⟩]; exact iz_6
    have tn : ∀ a, a ≠ 10 → tz_ (u2_ ρ 10 p 6) a = tz_ ρ a := fun a ha => by
      funext j; rw [tz_u2, if_neg (fun q => ha q.1)]
    refine jr_proc (p := p) h (fun a _ x _ _ _ => u2_ne _ _ _ x) (fun a q e => ?_) (fun a _ x _ _ _ => u2_ne _ _ _ x) (ea_u2 hA _ _ _) (by omega) (by rw [t10]; omega) ?_
    · rw [u2_at, if_neg (fun z => e z.2)]
    · unfold Ip_
      rw [tn 1 (by omega), tn 2 (by omega), tn 3 (by omega), tn 4 (by omega), tn 8 (by omega), tn 9 (by omega), tn 11 (by omega), tn 12 (by omega), tn 13 (by omega), tn 14 (by omega), t10]
      exact ⟨a1, a2, a3, a4, by omega, a6, a7, by omega, fun _ => a9 (by omega), by omega, fun _ _ => a11 (by omega) (by omega), by omega, fun _ _ => a13 (by omega) (by omega), fun _ => by rw [hyz, hbz]; exact g2, by omega⟩
end STEP_D

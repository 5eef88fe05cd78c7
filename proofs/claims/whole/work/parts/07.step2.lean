section STEP_C
variable {K n c p : Nat} {σ ρ : ST_}
theorem jr_look (h : Jr_ K n c σ ρ) (hn : n ≤ 5) (hp : p < n) (hs : ρ 10 p = 1) : Jr_ K n c (hc_look n σ p) (hm_look n ρ p) := by
  have hA := h.2.1
  have e2 : σ 2 = ρ 2 := hA 2 (dm_of (by omega))
  have e8 : σ 8 = ρ 8 := hA 8 (dm_of (by omega))
  have e10 : σ 10 = ρ 10 := hA 10 (dm_of (by omega))
  have e11 : σ 11 = ρ 11 := hA 11 (dm_of (by omega))
  have e13 : σ 13 = ρ 13 := hA 13 (dm_of (by omega))
  have z10 : tz_ ρ 10 p = 1 := by unfold tz_; rw [hs]; exact iz_1
  have hPp := h.1.1 p hp
  unfold Ip_ at hPp
  obtain ⟨a1, a2, a3, a4, a5, a6, a7, a8, a9, a10, a11, a12, a13, a14, a15⟩ := hPp
  obtain ⟨b1, b2, b3, b4, b5, b6⟩ := a9 (by omega)
  have q11 := a10 z10
  have x11 : (ρ 11 p).toInt = tz_ ρ 11 p := rfl
  have hnI : (nI n).toInt = n := iz_nI (by omega)
  have hadd : (ρ 11 p + 1).toInt = tz_ ρ 11 p + 1 := iz_add (by rw [x11]; omega) (by rw [x11]; omega)
  have hq : (tz_ ρ 11 p).toNat < n := by omega
  have hPq := h.1.1 _ hq
  unfold Ip_ at hPq
  obtain ⟨d1, -, -, -, -, -, d7, -⟩ := hPq
  obtain ⟨w, hw⟩ : ∃ w, w = (if ρ 2 (ix_ (ρ 13 p)) < ρ 2 (ix_ (ρ 8 (ix_ (ρ 11 p)))) then ρ 8 (ix_ (ρ 11 p)) else ρ 13 p) := ⟨_, rfl⟩
  obtain ⟨v, hv⟩ : ∃ v, v = (if ρ 11 p + 1 = nI n then (2 : Int32) else 1) := ⟨_, rfl⟩
  have hE : hm_look n ρ p = u2_ (u2_ (u2_ ρ 13 p w) 11 p (ρ 11 p + 1)) 10 p v := by unfold hm_look; rw [hw, hv]
  have hlt : ρ 11 p < nI n := by rw [iz_lt, hnI, x11]; omega
  have h1 : Ea_ (hc_look1 n σ p) (u2_ ρ 13 p w) := by
    unfold hc_look1
    rw [e2, e8, e11, e13, if_pos hlt, hw]
    by_cases g : ρ 2 (ix_ (ρ 13 p)) < ρ 2 (ix_ (ρ 8 (ix_ (ρ 11 p))))
    · rw [if_pos g, if_pos g]; exact ea_u2 hA _ _ _
    · rw [if_neg g, if_neg g, u2_id]; exact hA
  have hw2 : (w.toInt = tz_ ρ 8 (tz_ ρ 11 p).toNat ∧ tz_ ρ 2 (tz_ ρ 13 p).toNat < tz_ ρ 2 (tz_ ρ 8 (tz_ ρ 11 p).toNat).toNat) ∨ w.toInt = tz_ ρ 13 p := by
    by_cases g : ρ 2 (ix_ (ρ 13 p)) < ρ 2 (ix_ (ρ 8 (ix_ (ρ 11 p))))
    · rw [hw, if_pos g]
      rw [iz_lt] at g
      exact Or.inl ⟨rfl, g⟩
    · rw [hw, if_neg g]; exact Or.inr rfl
  have hv2 : (v.toInt = 2 ∧ tz_ ρ 11 p + 1 = n) ∨ (v.toInt = 1 ∧ tz_ ρ 11 p + 1 < n ∧ v = 1) := by
    by_cases g : ρ 11 p + 1 = nI n
    · rw [hv, if_pos g]
      rw [iz_eq, hadd, hnI] at g
      exact Or.inl ⟨iz_2, g⟩
    · rw [hv, if_neg g]
      rw [iz_eq, hadd, hnI] at g
      exact Or.inr ⟨iz_1, by omega, rfl⟩
  have h2 : Ea_ (hc_look n σ p) (hm_look n ρ p) := by
    rw [hE]
    unfold hc_look
    rw [e11]
    by_cases g : nI n ≤ ρ 11 p + 1
    · rw [if_pos g]
      rw [iz_le, hadd, hnI] at g
      have hv3 : v = 2 := by rw [hv, if_pos (by rw [iz_eq, hadd, hnI]; omega)]
      rw [hv3]
      exact ea_u2 (ea_u2 h1 _ _ _) _ _ _
    · rw [if_neg g]
      rw [iz_le, hadd, hnI] at g
      have hv3 : v = 1 := by rw [hv, if_neg (by rw [iz_eq, hadd, hnI]; omega)]
      have q : (u2_ (u2_ ρ 13 p w) 11 p (ρ 11 p + 1)) 10 p = v := by rw [u2_ne _ _ _ (by omega), u2_ne _ _ _ (by omega), hs, hv3]
      rw [← q, u2_id]
      exact ea_u2 h1 _ _ _
  obtain ⟨ρ', hρ⟩ : ∃ ρ', ρ' = hm_look n ρ p := ⟨_, rfl⟩
  have t13 : tz_ ρ' 13 p = w.toInt := by rw [hρ, hE, tz_u2, if_neg (by omega), tz_u2, if_neg (by omega), tz_u2, if_pos ⟨rfl, rfl⟩]
  have t11 : tz_ ρ' 11 p = tz_ ρ 11 p + 1 := by rw [hρ, hE, tz_u2, if_neg (by omega), tz_u2, if_pos ⟨rfl, rfl⟩, hadd]
  have t10 : tz_ ρ' 10 p = v.toInt := by rw [hρ, hE, tz_u2, if_pos ⟨rfl, rfl⟩]
  have rn : ∀ a, a ≠ 10 → a ≠ 11 → a ≠ 13 → ρ' a = ρ a := fun a x10 x11 x13 => by rw [hρ, hE, u2_ne _ _ _ x10, u2_ne _ _ _ x11, u2_ne _ _ _ x13]
  have tn : ∀ a, a ≠ 10 → a ≠ 11 → a ≠ 13 → tz_ ρ' a = tz_ ρ a := fun a x10 x11 x13 => by funext j; unfold tz_; rw [rn a x10 x11 x13]
  rw [← hρ] at h2 ⊢
  refine jr_proc (p := p) h (fun a _ x10 x11 x13 _ => rn a x10 x11 x13) (fun a q e => ?_) (fun a _ x10 x11 x13 _ => ?_) h2 (by omega) (by rw [t10]; omega) ?_
  · rw [hρ, hE, u2_at, if_neg (fun z => e z.2), u2_at, if_neg (fun z => e z.2), u2_at, if_neg (fun z => e z.2)]
  · have q1 : hc_look1 n σ p a = σ a := by
      unfold hc_look1
      split
      · split
        · exact u2_ne _ _ _ x13
        · rfl
      · rfl
    unfold hc_look
    split
    · rw [u2_ne _ _ _ x10, u2_ne _ _ _ x11, q1]
    · rw [u2_ne _ _ _ x11, q1]
  · unfold Ip_
    rw [t13, t11, t10, tn 1 (by omega) (by omega) (by omega), tn 2 (by omega) (by omega) (by omega), tn 3 (by omega) (by omega) (by omega), tn 4 (by omega) (by omega) (by omega), tn 8 (by omega) (by omega) (by omega), tn 9 (by omega) (by omega) (by omega), tn 12 (by omega) (by omega) (by omega), tn 14 (by omega) (by omega) (by omega)]
    rcases hw2 with ⟨g1, g2⟩ | g1
    · rw [g1]
      exact ⟨a1, a2, d1, a4, by omega, by omega, a7, by omega, fun _ => ⟨b1, b2, b3, d7.1, by omega, b6⟩, by omega, by omega, by omega, by omega, by omega, by omega⟩
    · rw [g1]
      exact ⟨a1, a2, a3, a4, by omega, by omega, a7, by omega, fun _ => ⟨b1, b2, b3, b4, b5, b6⟩, by omega, by omega, by omega, by omega, by omega, by omega⟩
theorem fm_q {a d : Nat} (ha : a < 1000000) (h0 : 0 < d) (hd : d < 1000000) : fmv (nI a) (nI d) = nI (a % d) ∧ nI a - nI a / nI d * nI d = nI (a % d) := by
  have e := pk_rem (a := a) (d := d) (by omega) h0 (by omega)
  refine ⟨?_, e⟩
  unfold fmv fmOf
  rw [e, if_pos (nI_pos' (by have := Nat.mod_lt a h0; omega))]
theorem jr_choose (h : Jr_ K n c σ ρ) (hn : n ≤ 5) (hc : c < 100000) (hp : p < n) (hs : ρ 10 p = 3) : Jr_ K n c (hc_choose n σ p) (hm_choose n ρ p) := by
  have hA := h.2.1
  have e2 : σ 2 = ρ 2 := hA 2 (dm_of (by omega))
  have e9 : σ 9 = ρ 9 := hA 9 (dm_of (by omega))
  have e12 : σ 12 = ρ 12 := hA 12 (dm_of (by omega))
  have e13 : σ 13 = ρ 13 := hA 13 (dm_of (by omega))
  have z10 : tz_ ρ 10 p = 3 := by unfold tz_; rw [hs]; exact iz_3
  have hPp := h.1.1 p hp
  unfold Ip_ at hPp
  obtain ⟨a1, a2, a3, a4, a5, a6, a7, a8, a9, a10, a11, a12, a13, a14, a15⟩ := hPp
  obtain ⟨b1, b2, b3, b4, b5, b6⟩ := a9 (by omega)
  have hpd := (pd_ge (τ := tz_ ρ) hp).2
  have hend := h.1.2.2.2.2.2
  have hb := (h.1.2.1 _ (show (tz_ ρ 13 p).toNat < 32 by omega)).2.2 b4
  unfold Iu_ at hb
  obtain ⟨kk, hkk⟩ : ∃ kk : Nat, kk = (tz_ ρ 2 (tz_ ρ 13 p).toNat).toNat := ⟨_, rfl⟩
  have hk1 : ρ 2 (ix_ (ρ 13 p)) + 1 = nI (kk + 1) := by
    have q0 : (ρ 2 (ix_ (ρ 13 p))).toInt = tz_ ρ 2 (tz_ ρ 13 p).toNat := rfl
    obtain ⟨e, -⟩ := iz_of (x := ρ 2 (ix_ (ρ 13 p))) (by rw [q0]; omega)
    rw [e, show ix_ (ρ 2 (ix_ (ρ 13 p))) = kk from by rw [iz_ix, q0, hkk], nI_1]
  obtain ⟨f1, f2⟩ := fm_q (a := kk + 1) (d := n) (by omega) (by omega) (by omega)
  have hmod := Nat.mod_lt (kk + 1) (show 0 < n by omega)
  have hqi : ix_ (nI ((kk + 1) % n)) = (kk + 1) % n := nI_clamp (by omega)
  obtain ⟨q, hq⟩ : ∃ q, q = (kk + 1) % n := ⟨_, rfl⟩
  have hmq : ix_ (hm_q n ρ p) = q := by unfold hm_q; rw [hk1, f2, hqi, hq]
  have hcq : hc_helped n σ p = ρ 9 q := by unfold hc_helped; rw [e2, e9, e13, hk1, f1, hqi, hq]
  have hPq := h.1.1 q (by omega)
  unfold Ip_ at hPq
  obtain ⟨d1, d2, d3, d4, d5, d6, d7, d8, d9, -⟩ := hPq
  obtain ⟨w, hw⟩ : ∃ w, w = (if 0 ≤ ρ 9 q ∧ ρ 2 (ix_ (ρ 9 q)) = 0 then ρ 9 q else ρ 12 p) := ⟨_, rfl⟩
  have hE : hm_choose n ρ p = u2_ (u2_ ρ 14 p w) 10 p 4 := by unfold hm_choose; rw [hmq, hw]
  have hE2 : hc_choose n σ p = u2_ (u2_ σ 14 p w) 10 p 4 := by unfold hc_choose; rw [hcq, e2, e12, hw]
  have hw2 : (0 ≤ w.toInt ∧ w.toInt < 32) ∧ tz_ ρ 1 w.toInt.toNat = 1 ∧ (tz_ ρ 2 w.toInt.toNat = 0 ∨ tz_ ρ 2 (tz_ ρ 13 p).toNat < tz_ ρ 2 w.toInt.toNat) := by
    by_cases g : 0 ≤ ρ 9 q ∧ ρ 2 (ix_ (ρ 9 q)) = 0
    · rw [hw, if_pos g]
      obtain ⟨g1, g2⟩ := g
      rw [iz_le, iz_0] at g1
      rw [iz_eq, iz_0] at g2
      have x9 : (ρ 9 q).toInt = tz_ ρ 9 q := rfl
      have act : 1 ≤ tz_ ρ 10 q := by
        by_cases z : tz_ ρ 10 q < 1
        · have := d8 z; omega
        · omega
      obtain ⟨r1, r2, r3, r4, r5, r6⟩ := d9 act
      rw [x9, r1]
      refine ⟨d2, r2, Or.inl ?_⟩
      rw [← r1]
      exact g2
    · rw [hw, if_neg g]
      exact ⟨a2, b2, a11 (by omega) (by omega)⟩
  obtain ⟨ρ', hρ⟩ : ∃ ρ', ρ' = hm_choose n ρ p := ⟨_, rfl⟩
  have t14 : tz_ ρ' 14 p = w.toInt := by rw [hρ, hE, tz_u2, if_neg (by omega), tz_u2, if_pos ⟨rfl, rfl⟩]
  have t10 : tz_ ρ' 10 p = 4 := by rw [hρ, hE, tz_u2, if_pos ⟨rfl, rfl⟩]; exact iz_4
  have rn : ∀ a, a ≠ 10 → a ≠ 14 → ρ' a = ρ a := fun a x10 x14 => by rw [hρ, hE, u2_ne _ _ _ x10, u2_ne _ _ _ x14]
  have tn : ∀ a, a ≠ 10 → a ≠ 14 → tz_ ρ' a = tz_ ρ a := fun a x10 x14 => by funext j; unfold tz_; rw [rn a x10 x14]
  rw [hE2, ← hρ]
  refine jr_proc (p := p) h (fun a _ x10 _ _ x14 => rn a x10 x14) (fun a q e => ?_) (fun a _ x10 _ _ x14 => ?_) ?_ (by omega) (by rw [t10]; omega) ?_
  · rw [hρ, hE, u2_at, if_neg (fun z => e z.2), u2_at, if_neg (fun z => e z.2)]
  · rw [u2_ne _ _ _ x10, u2_ne _ _ _ x14]
  · rw [hρ, hE]; exact ea_u2 (ea_u2 hA _ _ _) _ _ _
  · unfold Ip_
    rw [t14, t10, tn 1 (by omega) (by omega), tn 2 (by omega) (by omega), tn 3 (by omega) (by omega), tn 4 (by omega) (by omega), tn 8 (by omega) (by omega), tn 9 (by omega) (by omega), tn 11 (by omega) (by omega), tn 12 (by omega) (by omega), tn 13 (by omega) (by omega)]
    exact ⟨a1, a2, a3, hw2.1, by omega, a6, a7, by omega, fun _ => ⟨b1, b2, b3, b4, b5, b6⟩, by omega, fun _ _ => a11 (by omega) (by omega), fun _ => hw2.2, by omega, by omega, by omega⟩
end STEP_C

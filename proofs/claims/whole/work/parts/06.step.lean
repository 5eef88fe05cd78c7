section STEP_A
def tz_ (ρ : ST_) : TZ_ := fun c i => (ρ c i).toInt
theorem iz_lt {x y : Int32} : x < y ↔ x.toInt < y.toInt := Int32.lt_iff_toInt_lt
theorem iz_le {x y : Int32} : x ≤ y ↔ x.toInt ≤ y.toInt := Int32.le_iff_toInt_le
theorem iz_eq {x y : Int32} : x = y ↔ x.toInt = y.toInt := Int32.toInt_inj.symm
theorem iz_0 : (0 : Int32).toInt = 0 := by decide
theorem iz_1 : (1 : Int32).toInt = 1 := by decide
theorem iz_2 : (2 : Int32).toInt = 2 := by decide
theorem iz_3 : (3 : Int32).toInt = 3 := by decide
theorem iz_4 : (4 : Int32).toInt = 4 := by decide
theorem iz_5 : (5 : Int32).toInt = 5 := by decide
theorem iz_6 : (6 : Int32).toInt = 6 := by decide
theorem iz_7 : (7 : Int32).toInt = 7 := by decide
theorem iz_8 : (8 : Int32).toInt = 8 := by decide
theorem iz_m : (-1 : Int32).toInt = -1 := by decide
theorem iz_ix (x : Int32) : ix_ x = x.toInt.toNat := rfl
theorem iz_nI {n : Nat} (h : n < 1000000) : (nI n).toInt = n := nI_toInt (by omega)
theorem iz_of {x : Int32} (h0 : 0 ≤ x.toInt) : x = nI (ix_ x) ∧ ix_ x < 2 ^ 31 := by
  obtain ⟨j, hj, e⟩ := nI_of (x := x) (fun h => by rw [iz_lt, iz_0] at h; omega)
  rw [e, show ix_ (nI j) = j from nI_clamp hj]
  exact ⟨rfl, hj⟩
theorem iz_add {x : Int32} (h0 : 0 ≤ x.toInt) (h : x.toInt < 1000000) : (x + 1).toInt = x.toInt + 1 := by
  obtain ⟨e, hj⟩ := iz_of h0
  have h1 : x.toInt = (ix_ x : Int) := by rw [iz_ix]; omega
  rw [e, nI_1, nI_toInt (by omega), nI_toInt hj]
  omega
theorem upd_id (f : Nat → Int32) (k : Nat) : upd f k (f k) = f := by
  funext j
  by_cases h : j = k
  · rw [h]; simp [upd]
  · simp [upd, h]
theorem u2_id (ρ : ST_) (c i : Nat) : u2_ ρ c i (ρ c i) = ρ := by
  funext a j
  rw [u2_at]
  split
  · next h => rw [h.1, h.2]
  · rfl
theorem tz_u2 (ρ : ST_) (c i : Nat) (v : Int32) (a j : Nat) : tz_ (u2_ ρ c i v) a j = if a = c ∧ j = i then v.toInt else tz_ ρ a j := by
  unfold tz_
  rw [u2_at]
  split <;> rfl
theorem tz_u1 (ρ : ST_) {c a : Nat} (f : Nat → Int32) (h : a ≠ c) : tz_ (u1_ ρ c f) a = tz_ ρ a := by
  funext j
  unfold tz_
  rw [u1_ne _ _ h]
/-- the components that class and reference share whole -/
def dm_ (a : Nat) : Prop := (1 ≤ a ∧ a ≤ 3) ∨ (8 ≤ a ∧ a ≤ 20)
def Ea_ (σ ρ : ST_) : Prop := ∀ a, dm_ a → σ a = ρ a
theorem ea_u2 {σ ρ : ST_} (h : Ea_ σ ρ) (c i : Nat) (v : Int32) : Ea_ (u2_ σ c i v) (u2_ ρ c i v) := by
  intro a ha
  by_cases e : a = c
  · subst e; rw [u2_same, u2_same, h a ha]
  · rw [u2_ne _ _ _ e, u2_ne _ _ _ e, h a ha]
theorem ea_l {σ ρ : ST_} (h : Ea_ σ ρ) {c : Nat} (hc : ¬ dm_ c) (i : Nat) (v : Int32) : Ea_ (u2_ σ c i v) ρ := by
  intro a ha
  have ne : a ≠ c := fun e => hc (by rw [← e]; exact ha)
  rw [u2_ne _ _ _ ne, h a ha]
theorem ea_r {σ ρ : ST_} (h : Ea_ σ ρ) {c : Nat} (hc : ¬ dm_ c) (i : Nat) (v : Int32) : Ea_ σ (u2_ ρ c i v) := by
  intro a ha
  have ne : a ≠ c := fun e => hc (by rw [← e]; exact ha)
  rw [u2_ne _ _ _ ne, h a ha]
theorem ea_l1 {σ ρ : ST_} (h : Ea_ σ ρ) {c : Nat} (hc : ¬ dm_ c) (f : Nat → Int32) : Ea_ (u1_ σ c f) ρ := by
  intro a ha
  have ne : a ≠ c := fun e => hc (by rw [← e]; exact ha)
  rw [u1_ne _ _ ne, h a ha]
theorem ea_r1 {σ ρ : ST_} (h : Ea_ σ ρ) {c : Nat} (hc : ¬ dm_ c) (f : Nat → Int32) : Ea_ σ (u1_ ρ c f) := by
  intro a ha
  have ne : a ≠ c := fun e => hc (by rw [← e]; exact ha)
  rw [u1_ne _ _ ne, h a ha]
/-- the rest: the log's calls, the answers, the objects -/
def Eb_ (K n : Nat) (σ ρ : ST_) : Prop :=
  (∀ k, k < 32 → ρ 1 k = 1 → ¬ ρ 2 k = 1 → σ 4 k = ρ 4 k ∧ σ 5 k = ρ 5 k ∧ σ 6 k = ρ 6 k ∧ σ 7 k = ρ 7 k) ∧
  (∀ k, k < 32 → ρ 1 k = 1 → ρ 2 k = 1 → σ 4 k = -1 ∧ σ 5 k = -1 ∧ σ 6 k = -1 ∧ σ 7 k = -1) ∧
  (σ 30 = (rs_ K (ρ 21) (ρ 22) (ρ 23) (ix_ (ρ 0 1) - 1)).1 ∧ σ 33 0 = (rs_ K (ρ 21) (ρ 22) (ρ 23) (ix_ (ρ 0 1) - 1)).2.1) ∧
  (∀ k, k < 32 → ρ 1 k = 1 → 2 ≤ (ρ 2 k).toInt → σ 26 k = (rs_ K (ρ 21) (ρ 22) (ρ 23) (ix_ (ρ 2 k) - 1)).2.2) ∧
  (∀ k, k < 32 → ρ 1 k = 1 → 2 ≤ (ρ 2 k).toInt → ρ 21 (ix_ (ρ 2 k)) = ρ 5 k ∧ ρ 22 (ix_ (ρ 2 k)) = ρ 6 k ∧ ρ 23 (ix_ (ρ 2 k)) = ρ 7 k) ∧
  (σ 32 = ρ 25 ∧ σ 33 2 = ρ 0 3 ∧ 0 ≤ (ρ 0 3).toInt ∧ (ρ 0 3).toInt ≤ 8) ∧
  (∀ p, p < n → 0 ≤ (ρ 15 p).toInt ∧ (ρ 15 p).toInt ≤ 2) ∧
  (∀ k, k < 32 → 0 ≤ (ρ 5 k).toInt ∧ (ρ 5 k).toInt ≤ 2)
theorem eb_congr {K n : Nat} {σ σ' ρ ρ' : ST_} (h : Eb_ K n σ ρ) (s4 : σ' 4 = σ 4) (s5 : σ' 5 = σ 5) (s6 : σ' 6 = σ 6) (s7 : σ' 7 = σ 7) (s26 : σ' 26 = σ 26) (s30 : σ' 30 = σ 30) (s32 : σ' 32 = σ 32) (s33 : σ' 33 = σ 33)
    (r1 : ρ' 1 = ρ 1) (r2 : ρ' 2 = ρ 2) (r4 : ρ' 4 = ρ 4) (r5 : ρ' 5 = ρ 5) (r6 : ρ' 6 = ρ 6) (r7 : ρ' 7 = ρ 7) (r15 : ρ' 15 = ρ 15) (r21 : ρ' 21 = ρ 21) (r22 : ρ' 22 = ρ 22) (r23 : ρ' 23 = ρ 23) (r25 : ρ' 25 = ρ 25) (r01 : ρ' 0 1 = ρ 0 1) (r03 : ρ' 0 3 = ρ 0 3) : Eb_ K n σ' ρ' := by
  unfold Eb_ at h ⊢
  rw [s4, s5, s6, s7, s26, s30, s32, s33, r1, r2, r4, r5, r6, r7, r15, r21, r22, r23, r25, r01, r03]
  exact h
/-- class and reference together, behind c calls -/
def Jr_ (K n c : Nat) (σ ρ : ST_) : Prop := Iv_ n c (tz_ ρ) ∧ Ea_ σ ρ ∧ Eb_ K n σ ρ
end STEP_A
section STEP_B
variable {K n c p : Nat} {σ ρ : ST_}
/-- a step of p that touches its own row alone, on both sides -/
theorem jr_proc (h : Jr_ K n c σ ρ) {σ' ρ' : ST_} (hr : ∀ a, a ≠ 8 → a ≠ 10 → a ≠ 11 → a ≠ 13 → a ≠ 14 → ρ' a = ρ a) (hrq : ∀ a q, q ≠ p → ρ' a q = ρ a q) (hs : ∀ a, a ≠ 8 → a ≠ 10 → a ≠ 11 → a ≠ 13 → a ≠ 14 → σ' a = σ a) (ha : Ea_ σ' ρ') (h1 : 1 ≤ tz_ ρ 10 p) (h2 : 1 ≤ tz_ ρ' 10 p) (hp : Ip_ n (tz_ ρ') p) : Jr_ K n c σ' ρ' := by
  obtain ⟨hI, hA, hB⟩ := h
  have tr : ∀ a, a ≠ 8 → a ≠ 10 → a ≠ 11 → a ≠ 13 → a ≠ 14 → tz_ ρ' a = tz_ ρ a := fun a x1 x2 x3 x4 x5 => by
    funext j; unfold tz_; rw [hr a x1 x2 x3 x4 x5]
  have tq : ∀ a q, q ≠ p → tz_ ρ' a q = tz_ ρ a q := fun a q e => by unfold tz_; rw [hrq a q e]
  refine ⟨iv_proc (p := p) hI (by rw [tr 0 (by omega) (by omega) (by omega) (by omega) (by omega)]) (tr 1 (by omega) (by omega) (by omega) (by omega) (by omega)) (tr 2 (by omega) (by omega) (by omega) (by omega) (by omega)) (tr 3 (by omega) (by omega) (by omega) (by omega) (by omega)) (tr 4 (by omega) (by omega) (by omega) (by omega) (by omega)) (fun q e => ⟨tq _ q e, tq _ q e, tq _ q e, tq _ q e, tq _ q e, tq _ q e, tq _ q e⟩) (by rw [tr 12 (by omega) (by omega) (by omega) (by omega) (by omega)]) h1 h2 hp, ha, ?_⟩
  exact eb_congr hB (hs _ (by omega) (by omega) (by omega) (by omega) (by omega)) (hs _ (by omega) (by omega) (by omega) (by omega) (by omega)) (hs _ (by omega) (by omega) (by omega) (by omega) (by omega)) (hs _ (by omega) (by omega) (by omega) (by omega) (by omega)) (hs _ (by omega) (by omega) (by omega) (by omega) (by omega)) (hs _ (by omega) (by omega) (by omega) (by omega) (by omega)) (hs _ (by omega) (by omega) (by omega) (by omega) (by omega)) (hs _ (by omega) (by omega) (by omega) (by omega) (by omega))
    (hr _ (by omega) (by omega) (by omega) (by omega) (by omega)) (hr _ (by omega) (by omega) (by omega) (by omega) (by omega)) (hr _ (by omega) (by omega) (by omega) (by omega) (by omega)) (hr _ (by omega) (by omega) (by omega) (by omega) (by omega)) (hr _ (by omega) (by omega) (by omega) (by omega) (by omega)) (hr _ (by omega) (by omega) (by omega) (by omega) (by omega)) (hr _ (by omega) (by omega) (by omega) (by omega) (by omega)) (hr _ (by omega) (by omega) (by omega) (by omega) (by omega)) (hr _ (by omega) (by omega) (by omega) (by omega) (by omega)) (hr _ (by omega) (by omega) (by omega) (by omega) (by omega)) (hr _ (by omega) (by omega) (by omega) (by omega) (by omega))
    (by rw [hr 0 (by omega) (by omega) (by omega) (by omega) (by omega)]) (by rw [hr 0 (by omega) (by omega) (by omega) (by omega) (by omega)])
theorem dm_of {a : Nat} (h : a ≤ 3 ∧ 1 ≤ a ∨ 8 ≤ a ∧ a ≤ 20) : dm_ a := by unfold dm_; omega
theorem jr_ask (h : Jr_ K n c σ ρ) (hp : p < n) (hs : ρ 10 p = 2) : Jr_ K n c (hc_ask σ p) (hm_ask ρ p) := by
  have hA := h.2.1
  have e2 : σ 2 = ρ 2 := hA 2 (dm_of (by omega))
  have e12 : σ 12 = ρ 12 := hA 12 (dm_of (by omega))
  have z10 : tz_ ρ 10 p = 2 := by unfold tz_; rw [hs]; exact iz_2
  have hPp := h.1.1 p hp
  unfold Ip_ at hPp
  obtain ⟨a1, a2, a3, a4, a5, a6, a7, a8, a9, a10, a11, a12, a13, a14, a15⟩ := hPp
  obtain ⟨b1, b2, b3, b4, b5, b6⟩ := a9 (by omega)
  have hown := (h.1.2.1 _ (show (tz_ ρ 12 p).toNat < 32 by omega)).2.2 b2
  have q : tz_ ρ 2 (tz_ ρ 12 p).toNat = (ρ 2 (ix_ (ρ 12 p))).toInt := rfl
  obtain ⟨v, hv⟩ : ∃ v, v = (if 0 < ρ 2 (ix_ (ρ 12 p)) then (7 : Int32) else 3) := ⟨_, rfl⟩
  have hv2 : (v.toInt = 7 ∧ 1 ≤ tz_ ρ 2 (tz_ ρ 12 p).toNat) ∨ (v.toInt = 3 ∧ tz_ ρ 2 (tz_ ρ 12 p).toNat = 0) := by
    by_cases g : 0 < ρ 2 (ix_ (ρ 12 p))
    · rw [hv, if_pos g]
      rw [iz_lt, iz_0] at g
      exact Or.inl ⟨iz_7, by omega⟩
    · rw [hv, if_neg g]
      rw [iz_lt, iz_0] at g
      have := hown.1
      exact Or.inr ⟨iz_3, by omega⟩
  have hE : hm_ask ρ p = u2_ ρ 10 p v := by unfold hm_ask; rw [hv]
  have hE2 : hc_ask σ p = u2_ σ 10 p v := by unfold hc_ask; rw [e2, e12, hv]
  rw [hE, hE2]
  have t10 : tz_ (u2_ ρ 10 p v) 10 p = v.toInt := by rw [tz_u2, if_pos ⟨rfl, rfl⟩]
  have tn : ∀ a, a ≠ 10 → tz_ (u2_ ρ 10 p v) a = tz_ ρ a := fun a ha => by
    funext j; rw [tz_u2, if_neg (fun q => ha q.1)]
  refine jr_proc (p := p) h (fun a _ x _ _ _ => u2_ne _ _ _ x) (fun a q e => ?_) (fun a _ x _ _ _ => u2_ne _ _ _ x) (ea_u2 hA _ _ _) (by omega) (by rw [t10]; omega) ?_
  · rw [u2_at, if_neg (fun z => e z.2)]
  · unfold Ip_
    rw [tn 1 (by omega), tn 2 (by omega), tn 3 (by omega), tn 4 (by omega), tn 8 (by omega), tn 9 (by omega), tn 11 (by omega), tn 12 (by omega), tn 13 (by omega), tn 14 (by omega), t10]
    exact ⟨a1, a2, a3, a4, by omega, a6, a7, by omega, fun _ => a9 (by omega), by omega, by omega, by omega, by omega, by omega, by omega⟩
theorem jr_move (h : Jr_ K n c σ ρ) (hp : p < n) (hs : ρ 10 p = 6) : Jr_ K n c (hc_move σ p) (hm_move ρ p) := by
  have hA := h.2.1
  have e14 : σ 14 = ρ 14 := hA 14 (dm_of (by omega))
  have z10 : tz_ ρ 10 p = 6 := by unfold tz_; rw [hs]; exact iz_6
  have hPp := h.1.1 p hp
  unfold Ip_ at hPp
  obtain ⟨a1, a2, a3, a4, a5, a6, a7, a8, a9, a10, a11, a12, a13, a14, a15⟩ := hPp
  obtain ⟨b1, b2, b3, b4, b5, b6⟩ := a9 (by omega)
  have q1 := a13 (by omega) (by omega)
  have q2 := a14 (by omega)
  have q3 := a11 (by omega) (by omega)
  have hb := (h.1.2.1 _ (show (tz_ ρ 13 p).toNat < 32 by omega)).2.2 b4
  unfold Iu_ at hb
  have q4 := (hb.2.2.2.2.1 (by omega) (by omega)).1
  rw [← q1] at q4
  obtain ⟨ρ', hE⟩ : ∃ ρ', ρ' = hm_move ρ p := ⟨_, rfl⟩
  have t8 : tz_ ρ' 8 p = tz_ ρ 14 p := by rw [hE]; unfold hm_move; rw [tz_u2, if_neg (by omega), tz_u2, if_neg (by omega), tz_u2, if_pos ⟨rfl, rfl⟩]; rfl
  have t13 : tz_ ρ' 13 p = tz_ ρ 14 p := by rw [hE]; unfold hm_move; rw [tz_u2, if_neg (by omega), tz_u2, if_pos ⟨rfl, rfl⟩]; rfl
  have t10 : tz_ ρ' 10 p = 2 := by rw [hE]; unfold hm_move; rw [tz_u2, if_pos ⟨rfl, rfl⟩]; exact iz_2
  have rn : ∀ a, a ≠ 8 → a ≠ 10 → a ≠ 13 → ρ' a = ρ a := fun a x8 x10 x13 => by rw [hE]; unfold hm_move; rw [u2_ne _ _ _ x10, u2_ne _ _ _ x13, u2_ne _ _ _ x8]
  have tn : ∀ a, a ≠ 8 → a ≠ 10 → a ≠ 13 → tz_ ρ' a = tz_ ρ a := fun a x8 x10 x13 => by funext j; unfold tz_; rw [rn a x8 x10 x13]
  rw [← hE]
  refine jr_proc (p := p) h (fun a x8 x10 _ x13 _ => rn a x8 x10 x13) (fun a q e => ?_) (fun a x8 x10 _ x13 _ => ?_) ?_ (by omega) (by rw [t10]; omega) ?_
  · rw [hE]; unfold hm_move; rw [u2_at, if_neg (fun z => e z.2), u2_at, if_neg (fun z => e z.2), u2_at, if_neg (fun z => e z.2)]
  · unfold hc_move; rw [u2_ne _ _ _ x10, u2_ne _ _ _ x13, u2_ne _ _ _ x8]
  · rw [hE]; unfold hc_move hm_move; rw [e14]; exact ea_u2 (ea_u2 (ea_u2 hA _ _ _) _ _ _) _ _ _
  · unfold Ip_
    rw [t8, t13, t10, tn 1 (by omega) (by omega) (by omega), tn 2 (by omega) (by omega) (by omega), tn 3 (by omega) (by omega) (by omega), tn 4 (by omega) (by omega) (by omega), tn 9 (by omega) (by omega) (by omega), tn 11 (by omega) (by omega) (by omega), tn 12 (by omega) (by omega) (by omega), tn 14 (by omega) (by omega) (by omega)]
    exact ⟨a4, a2, a4, a4, by omega, a6, ⟨q4, by omega⟩, by omega, fun _ => ⟨b1, b2, b3, q4, Int.le_refl _, by omega⟩, by omega, by omega, by omega, by omega, by omega, by omega⟩
end STEP_B

section CQ_A
theorem xor_nn {x y : Int32} (hx : 0 ≤ x.toInt) (hy : 0 ≤ y.toInt) : 0 ≤ x ^^^ y := by
  rw [iz_le, iz_0]
  have e : ∀ z : Int32, z.toBitVec.msb = decide (z.toInt < 0) := fun z => BitVec.msb_eq_toInt
  have h1 : x.toBitVec.msb = false := by rw [e]; exact decide_eq_false (by omega)
  have h2 : y.toBitVec.msb = false := by rw [e]; exact decide_eq_false (by omega)
  have h3 : (x ^^^ y).toBitVec.msb = false := by
    rw [Int32.toBitVec_xor, BitVec.msb_xor, h1, h2]; rfl
  rw [e] at h3
  have := of_decide_eq_false h3
  omega
theorem pr_n {σ : ST_} {p : Nat} (h : σ 3 (ix_ (σ 13 p)) < 0) : hc_prop σ p = u2_ (u2_ (u2_ σ 3 (ix_ (σ 13 p)) (σ 14 p)) 14 p (σ 14 p)) 10 p 5 := by
  unfold hc_prop
  have h1 : hc_prop1 σ p = u2_ σ 3 (ix_ (σ 13 p)) (σ 14 p) := if_pos h
  rw [h1, u2_same, pk_us]
theorem pr_p {σ : ST_} {p : Nat} (h : ¬ σ 3 (ix_ (σ 13 p)) < 0) : hc_prop σ p = u2_ (u2_ σ 14 p (σ 3 (ix_ (σ 13 p)))) 10 p 5 := by
  unfold hc_prop
  have h1 : hc_prop1 σ p = σ := if_neg h
  rw [h1]
theorem ge_0 {x : Int32} (h : ¬ x < 0) : 0 ≤ x := by rw [iz_le, iz_0]; rw [iz_lt, iz_0] at h; omega
theorem hc_one_m (K n : Nat) {σ : ST_} {p : Nat} (h : σ 10 p = -1) : hc_one K n σ p = (σ, 2) := by
  unfold hc_one
  rw [if_neg (by rw [h]; decide), if_neg (by rw [h]; decide), if_neg (by rw [h]; decide), if_neg (by rw [h]; decide), if_neg (by rw [h]; decide), if_neg (by rw [h]; decide), if_neg (by rw [h]; decide), if_neg (by rw [h]; decide)]
theorem hc_one_0 (K n : Nat) {σ : ST_} {p : Nat} (h : σ 10 p = 0) : hc_one K n σ p = hc_ann σ p := by
  unfold hc_one
  rw [if_pos h]
theorem hc_one_1 (K n : Nat) {σ : ST_} {p : Nat} (h : σ 10 p = 1) : hc_one K n σ p = (hc_look n σ p, 0) := by
  unfold hc_one
  rw [if_neg (by rw [h]; decide), if_pos h]
theorem hc_one_2 (K n : Nat) {σ : ST_} {p : Nat} (h : σ 10 p = 2) : hc_one K n σ p = (hc_ask σ p, 0) := by
  unfold hc_one
  rw [if_neg (by rw [h]; decide), if_neg (by rw [h]; decide), if_pos h]
theorem hc_one_3 (K n : Nat) {σ : ST_} {p : Nat} (h : σ 10 p = 3) : hc_one K n σ p = (hc_choose n σ p, 0) := by
  unfold hc_one
  rw [if_neg (by rw [h]; decide), if_neg (by rw [h]; decide), if_neg (by rw [h]; decide), if_pos h]
theorem hc_one_4 (K n : Nat) {σ : ST_} {p : Nat} (h : σ 10 p = 4) : hc_one K n σ p = (hc_prop σ p, 0) := by
  unfold hc_one
  rw [if_neg (by rw [h]; decide), if_neg (by rw [h]; decide), if_neg (by rw [h]; decide), if_neg (by rw [h]; decide), if_pos h]
theorem hc_one_5 (K n : Nat) {σ : ST_} {p : Nat} (h : σ 10 p = 5) : hc_one K n σ p = (hc_give K σ p, 0) := by
  unfold hc_one
  rw [if_neg (by rw [h]; decide), if_neg (by rw [h]; decide), if_neg (by rw [h]; decide), if_neg (by rw [h]; decide), if_neg (by rw [h]; decide), if_pos h]
theorem hc_one_6 (K n : Nat) {σ : ST_} {p : Nat} (h : σ 10 p = 6) : hc_one K n σ p = (hc_move σ p, 0) := by
  unfold hc_one
  rw [if_neg (by rw [h]; decide), if_neg (by rw [h]; decide), if_neg (by rw [h]; decide), if_neg (by rw [h]; decide), if_neg (by rw [h]; decide), if_neg (by rw [h]; decide), if_pos h]
theorem hc_one_7 (K n : Nat) {σ : ST_} {p : Nat} (h : σ 10 p = 7) : hc_one K n σ p = (hc_fin σ p, 1) := by
  unfold hc_one
  rw [if_neg (by rw [h]; decide), if_neg (by rw [h]; decide), if_neg (by rw [h]; decide), if_neg (by rw [h]; decide), if_neg (by rw [h]; decide), if_neg (by rw [h]; decide), if_neg (by rw [h]; decide), if_pos h]
/-- what a step of p reads lies in its arrays -/
def Oc_ (n : Nat) (σ : ST_) (p : Nat) : Prop :=
  (-1 ≤ (σ 10 p).toInt ∧ (σ 10 p).toInt ≤ 7) ∧ (∀ q, q < n → Ix_ (σ 8 q) 32 (ix_ (σ 8 q))) ∧ Ix_ (σ 12 p) 32 (ix_ (σ 12 p)) ∧ Ix_ (σ 13 p) 32 (ix_ (σ 13 p)) ∧ Ix_ (σ 14 p) 32 (ix_ (σ 14 p)) ∧ 0 ≤ (σ 11 p).toInt ∧
  (∀ q, q < n → 0 ≤ σ 9 q → Ix_ (σ 9 q) 32 (ix_ (σ 9 q))) ∧ (σ 10 p = 3 → 0 ≤ (σ 2 (ix_ (σ 13 p)) + 1).toInt ∧ (σ 2 (ix_ (σ 13 p)) + 1).toInt < 1000000) ∧
  (0 ≤ σ 3 (ix_ (σ 13 p)) → Ix_ (σ 3 (ix_ (σ 13 p))) 32 (ix_ (σ 3 (ix_ (σ 13 p))))) ∧
  (σ 10 p = 5 → σ 2 (ix_ (σ 14 p)) = 0 → σ 5 (ix_ (σ 14 p)) = 0 ∨ σ 5 (ix_ (σ 14 p)) = 1 ∨ σ 5 (ix_ (σ 14 p)) = 2) ∧ (0 ≤ (σ 33 0).toInt ∧ (σ 33 0).toInt ≤ 8)
def Rc_ (K n : Nat) (I : ST_ → Prop) : Prop := ∀ σ, I σ → ∀ q, q < n → Oc_ n σ q ∧ I (hc_one K n σ q).1
end CQ_A

section INV_A
abbrev TZ_ : Type := Nat → Nat → Int
/-- a process whose call has no place yet -/
def in_ (τ : TZ_) (p : Nat) : Int := if τ 10 p = 0 ∨ (1 ≤ τ 10 p ∧ τ 2 (τ 12 p).toNat = 0) then 1 else 0
def pd_ (τ : TZ_) : Nat → Int
  | 0 => 0
  | p + 1 => pd_ τ p + in_ τ p
theorem pd_eq {τ τ' : TZ_} : ∀ {n : Nat}, (∀ q, q < n → in_ τ' q = in_ τ q) → pd_ τ' n = pd_ τ n := by
  intro n
  induction n with
  | zero => intro _; rfl
  | succ n ih => intro h; unfold pd_; rw [ih (fun q hq => h q (by omega)), h n (by omega)]
theorem pd_one {τ τ' : TZ_} {p : Nat} : ∀ {n : Nat}, p < n → (∀ q, q < n → q ≠ p → in_ τ' q = in_ τ q) → pd_ τ' n = pd_ τ n + in_ τ' p - in_ τ p := by
  intro n
  induction n with
  | zero => intro h; omega
  | succ n ih =>
    intro h hq
    unfold pd_
    by_cases hp : p = n
    · subst hp
      rw [pd_eq (fun q h1 => hq q (by omega) (by omega))]
      omega
    · rw [ih (by omega) (fun q h1 h2 => hq q (by omega) h2), hq n (by omega) (fun z => hp z.symm)]
      omega
theorem in_01 (τ : TZ_) (p : Nat) : 0 ≤ in_ τ p ∧ in_ τ p ≤ 1 := by
  unfold in_
  split <;> omega
theorem pd_ge {τ : TZ_} {p : Nat} : ∀ {n : Nat}, p < n → in_ τ p ≤ pd_ τ n ∧ 0 ≤ pd_ τ n := by
  have hz : ∀ n, 0 ≤ pd_ τ n := by
    intro n
    induction n with
    | zero => exact Int.le_refl _
    | succ n ih => unfold pd_; have := in_01 τ n; omega
  intro n
  induction n with
  | zero => intro h; omega
  | succ n ih =>
    intro h
    refine ⟨?_, hz _⟩
    unfold pd_
    by_cases hp : p = n
    · subst hp
      have := hz p
      omega
    · have h1 := (ih (by omega)).1
      have h2 := in_01 τ n
      omega
/-- of a process -/
def Ip_ (n : Nat) (τ : TZ_) (p : Nat) : Prop :=
  (0 ≤ τ 8 p ∧ τ 8 p < 32) ∧ (0 ≤ τ 12 p ∧ τ 12 p < 32) ∧ (0 ≤ τ 13 p ∧ τ 13 p < 32) ∧ (0 ≤ τ 14 p ∧ τ 14 p < 32) ∧
  (-1 ≤ τ 10 p ∧ τ 10 p ≤ 7) ∧ (0 ≤ τ 11 p ∧ τ 11 p ≤ n) ∧
  (τ 1 (τ 8 p).toNat = 1 ∧ 1 ≤ τ 2 (τ 8 p).toNat) ∧
  (τ 10 p < 1 → τ 9 p = -1) ∧
  (1 ≤ τ 10 p → τ 9 p = τ 12 p ∧ τ 1 (τ 12 p).toNat = 1 ∧ τ 4 (τ 12 p).toNat = p ∧ τ 1 (τ 13 p).toNat = 1 ∧ τ 2 (τ 8 p).toNat ≤ τ 2 (τ 13 p).toNat ∧ (τ 2 (τ 12 p).toNat = 0 ∨ τ 2 (τ 8 p).toNat ≤ τ 2 (τ 12 p).toNat)) ∧
  (τ 10 p = 1 → τ 11 p < n) ∧
  (3 ≤ τ 10 p → τ 10 p ≤ 6 → τ 2 (τ 12 p).toNat = 0 ∨ τ 2 (τ 13 p).toNat < τ 2 (τ 12 p).toNat) ∧
  (τ 10 p = 4 → τ 1 (τ 14 p).toNat = 1 ∧ (τ 2 (τ 14 p).toNat = 0 ∨ τ 2 (τ 13 p).toNat < τ 2 (τ 14 p).toNat)) ∧
  (5 ≤ τ 10 p → τ 10 p ≤ 6 → τ 14 p = τ 3 (τ 13 p).toNat) ∧
  (τ 10 p = 6 → τ 2 (τ 14 p).toNat = τ 2 (τ 13 p).toNat + 1) ∧
  (τ 10 p = 7 → 1 ≤ τ 2 (τ 12 p).toNat)
/-- of a node in use -/
def Iu_ (n : Nat) (τ : TZ_) (k : Nat) : Prop :=
  0 ≤ τ 2 k ∧ τ 2 k ≤ τ 0 1 ∧
  (τ 2 k = 0 → τ 3 k = -1 ∧ ∃ p, p < n ∧ 1 ≤ τ 10 p ∧ τ 12 p = k) ∧
  (1 ≤ τ 2 k → τ 3 k = -1 → τ 2 k = τ 0 1) ∧
  (1 ≤ τ 2 k → 0 ≤ τ 3 k → τ 1 (τ 3 k).toNat = 1 ∧ (τ 2 (τ 3 k).toNat = τ 2 k + 1 ∨ (τ 2 (τ 3 k).toNat = 0 ∧ τ 2 k = τ 0 1))) ∧
  (τ 2 k = 1 → τ 4 k = -1)
def In_ (n : Nat) (τ : TZ_) (k : Nat) : Prop :=
  (τ 1 k = 0 ∨ τ 1 k = 1) ∧ (-1 ≤ τ 3 k ∧ τ 3 k < 32) ∧ (τ 1 k = 1 → Iu_ n τ k)
/-- the numbers are apart -/
def Iq_ (τ : TZ_) : Prop := ∀ j k, j < 32 → k < 32 → τ 1 j = 1 → τ 1 k = 1 → τ 2 j = τ 2 k → 1 ≤ τ 2 j → j = k
def Iv_ (n c : Nat) (τ : TZ_) : Prop :=
  (∀ p, p < n → Ip_ n τ p) ∧ (∀ k, k < 32 → In_ n τ k) ∧ Iq_ τ ∧ 1 ≤ τ 0 1 ∧ (∃ k, k < 32 ∧ τ 1 k = 1 ∧ τ 2 k = τ 0 1) ∧ τ 0 1 + pd_ τ n ≤ 1 + c
theorem iv_congr {n c : Nat} {τ τ' : TZ_} (h : Iv_ n c τ) (g0 : τ' 0 1 = τ 0 1) (g1 : τ' 1 = τ 1) (g2 : τ' 2 = τ 2) (g3 : τ' 3 = τ 3) (g4 : τ' 4 = τ 4) (g8 : τ' 8 = τ 8) (g9 : τ' 9 = τ 9) (g10 : τ' 10 = τ 10) (g11 : τ' 11 = τ 11) (g12 : τ' 12 = τ 12) (g13 : τ' 13 = τ 13) (g14 : τ' 14 = τ 14) : Iv_ n c τ' := by
  have hpd : pd_ τ' n = pd_ τ n := pd_eq (fun q _ => by unfold in_; rw [g10, g2, g12])
  unfold Iv_ Iq_
  rw [g0, g1, g2, hpd]
  refine ⟨fun p hp => ?_, fun k hk => ?_, h.2.2⟩
  · have := h.1 p hp
    unfold Ip_ at this ⊢
    rw [g1, g2, g3, g4, g8, g9, g10, g11, g12, g13, g14]
    exact this
  · have := h.2.1 k hk
    unfold In_ Iu_ at this ⊢
    rw [g0, g1, g2, g3, g4, g10, g12]
    exact this
/-- a step of p that touches its own row alone -/
theorem iv_proc {n c p : Nat} {τ τ' : TZ_} (h : Iv_ n c τ) (g0 : τ' 0 1 = τ 0 1) (g1 : τ' 1 = τ 1) (g2 : τ' 2 = τ 2) (g3 : τ' 3 = τ 3) (g4 : τ' 4 = τ 4) (hq : ∀ q, q ≠ p → τ' 8 q = τ 8 q ∧ τ' 9 q = τ 9 q ∧ τ' 10 q = τ 10 q ∧ τ' 11 q = τ 11 q ∧ τ' 12 q = τ 12 q ∧ τ' 13 q = τ 13 q ∧ τ' 14 q = τ 14 q)
    (h12 : τ' 12 p = τ 12 p) (ha : 1 ≤ τ 10 p) (ha' : 1 ≤ τ' 10 p) (hp : Ip_ n τ' p) : Iv_ n c τ' := by
  have g12 : τ' 12 = τ 12 := by
    funext q
    by_cases e : q = p
    · rw [e]; exact h12
    · exact (hq q e).2.2.2.2.1
  have hact : ∀ q, (1 ≤ τ' 10 q ↔ 1 ≤ τ 10 q) ∧ (τ' 10 q = 0 ↔ τ 10 q = 0) := by
    intro q
    by_cases e : q = p
    · rw [e]; omega
    · rw [(hq q e).2.2.1]; exact ⟨Iff.rfl, Iff.rfl⟩
  have hpd : pd_ τ' n = pd_ τ n := pd_eq (fun q _ => by
    unfold in_
    rw [g2, g12]
    obtain ⟨e1, e2⟩ := hact q
    by_cases a : τ 10 q = 0 ∨ (1 ≤ τ 10 q ∧ τ 2 (τ 12 q).toNat = 0)
    · rw [if_pos a, if_pos (by rcases a with a | a; exact Or.inl (e2.mpr a); exact Or.inr ⟨e1.mpr a.1, a.2⟩)]
    · rw [if_neg a, if_neg (fun b => a (by rcases b with b | b; exact Or.inl (e2.mp b); exact Or.inr ⟨e1.mp b.1, b.2⟩))])
  unfold Iv_ Iq_
  rw [g0, g1, g2, hpd]
  refine ⟨fun q hq1 => ?_, fun k hk => ?_, h.2.2⟩
  · by_cases e : q = p
    · rw [e]; exact hp
    · have := h.1 q hq1
      obtain ⟨a8, a9, a10, a11, a12, a13, a14⟩ := hq q e
      unfold Ip_ at this ⊢
      rw [g1, g2, g3, g4, a8, a9, a10, a11, a12, a13, a14]
      exact this
  · have := h.2.1 k hk
    unfold In_ Iu_ at this ⊢
    rw [g0, g1, g2, g3, g4, g12]
    refine ⟨this.1, this.2.1, fun hu => ?_⟩
    obtain ⟨b1, b2, b3, b4, b5, b6⟩ := this.2.2 hu
    refine ⟨b1, b2, fun hz => ?_, b4, b5, b6⟩
    obtain ⟨d1, o, d2, d3, d4⟩ := b3 hz
    exact ⟨d1, o, d2, (hact o).1.mpr d3, d4⟩
end INV_A
section INV_B
variable {n c p : Nat} {τ τ' : TZ_}
/-- a call is made -/
theorem iv_call (h : Iv_ n c τ) (hp : p < n) (hs : τ 10 p = -1) (g0 : τ' 0 1 = τ 0 1) (g1 : τ' 1 = τ 1) (g2 : τ' 2 = τ 2) (g3 : τ' 3 = τ 3) (g4 : τ' 4 = τ 4) (g8 : τ' 8 = τ 8) (g9 : τ' 9 = τ 9) (g10 : ∀ q, τ' 10 q = if q = p then 0 else τ 10 q) (g11 : τ' 11 = τ 11) (g12 : τ' 12 = τ 12) (g13 : τ' 13 = τ 13) (g14 : τ' 14 = τ 14) : Iv_ n (c + 1) τ' := by
  obtain ⟨hP, hN, hU, hE, hX, hC⟩ := h
  have e10 : τ' 10 p = 0 := by rw [g10, if_pos rfl]
  have n10 : ∀ q, q ≠ p → τ' 10 q = τ 10 q := fun q e => by rw [g10, if_neg e]
  have hpd : pd_ τ' n = pd_ τ n + in_ τ' p - in_ τ p := pd_one hp (fun q _ e => by unfold in_; rw [n10 q e, g2, g12])
  have hi := in_01 τ' p
  have hi2 := in_01 τ p
  unfold Iv_ Iq_
  rw [g0, g1, g2]
  refine ⟨fun q hq => ?_, fun k hk => ?_, hU, hE, hX, by omega⟩
  · have := hP q hq
    unfold Ip_ at this ⊢
    rw [g1, g2, g3, g4, g8, g9, g11, g12, g13, g14]
    by_cases e : q = p
    · subst e
      rw [e10]
      obtain ⟨a1, a2, a3, a4, a5, a6, a7, a8, a9⟩ := this
      exact ⟨a1, a2, a3, a4, by omega, a6, a7, fun _ => a8 (by omega), by omega, by omega, by omega, by omega, by omega, by omega, by omega⟩
    · rw [n10 q e]; exact this
  · have := hN k hk
    unfold In_ Iu_ at this ⊢
    rw [g0, g1, g2, g3, g4, g12]
    refine ⟨this.1, this.2.1, fun hu => ?_⟩
    obtain ⟨b1, b2, b3, b4, b5, b6⟩ := this.2.2 hu
    refine ⟨b1, b2, fun hz => ?_, b4, b5, b6⟩
    obtain ⟨d1, o, d2, d3, d4⟩ := b3 hz
    refine ⟨d1, o, d2, ?_, d4⟩
    rw [n10 o (fun e => by rw [e] at d3; omega)]
    exact d3
/-- a call is done -/
theorem iv_fin (h : Iv_ n c τ) (hp : p < n) (hs : τ 10 p = 7) (g0 : τ' 0 1 = τ 0 1) (g1 : τ' 1 = τ 1) (g2 : τ' 2 = τ 2) (g3 : τ' 3 = τ 3) (g4 : τ' 4 = τ 4) (g8 : ∀ q, τ' 8 q = if q = p then τ 12 p else τ 8 q) (g9 : ∀ q, τ' 9 q = if q = p then -1 else τ 9 q) (g10 : ∀ q, τ' 10 q = if q = p then -1 else τ 10 q) (g11 : τ' 11 = τ 11) (g12 : τ' 12 = τ 12) (g13 : τ' 13 = τ 13) (g14 : τ' 14 = τ 14) : Iv_ n c τ' := by
  obtain ⟨hP, hN, hU, hE, hX, hC⟩ := h
  have e10 : τ' 10 p = -1 := by rw [g10, if_pos rfl]
  have e9 : τ' 9 p = -1 := by rw [g9, if_pos rfl]
  have e8 : τ' 8 p = τ 12 p := by rw [g8, if_pos rfl]
  have n10 : ∀ q, q ≠ p → τ' 10 q = τ 10 q := fun q e => by rw [g10, if_neg e]
  have n9 : ∀ q, q ≠ p → τ' 9 q = τ 9 q := fun q e => by rw [g9, if_neg e]
  have n8 : ∀ q, q ≠ p → τ' 8 q = τ 8 q := fun q e => by rw [g8, if_neg e]
  have hPp := hP p hp
  unfold Ip_ at hPp
  obtain ⟨a1, a2, a3, a4, a5, a6, a7, a8, a9, a10, a11, a12, a13, a14, a15⟩ := hPp
  have own1 := a15 hs
  have hpd : pd_ τ' n = pd_ τ n := by
    rw [pd_one hp (fun q _ e => by unfold in_; rw [n10 q e, g2, g12])]
    unfold in_
    rw [e10, hs, if_neg (by omega), if_neg (by omega)]
    omega
  unfold Iv_ Iq_
  rw [g0, g1, g2, hpd]
  refine ⟨fun q hq => ?_, fun k hk => ?_, hU, hE, hX, hC⟩
  · have := hP q hq
    unfold Ip_ at this ⊢
    rw [g1, g2, g3, g4, g11, g12, g13, g14]
    by_cases e : q = p
    · subst e
      rw [e10, e9, e8]
      exact ⟨a2, a2, a3, a4, by omega, a6, ⟨(a9 (by omega)).2.1, own1⟩, fun _ => rfl, by omega, by omega, by omega, by omega, by omega, by omega, by omega⟩
    · rw [n10 q e, n9 q e, n8 q e]; exact this
  · have := hN k hk
    unfold In_ Iu_ at this ⊢
    rw [g0, g1, g2, g3, g4, g12]
    refine ⟨this.1, this.2.1, fun hu => ?_⟩
    obtain ⟨b1, b2, b3, b4, b5, b6⟩ := this.2.2 hu
    refine ⟨b1, b2, fun hz => ?_, b4, b5, b6⟩
    obtain ⟨d1, o, d2, d3, d4⟩ := b3 hz
    refine ⟨d1, o, d2, ?_, d4⟩
    rw [n10 o (fun e => ?_)]
    · exact d3
    · rw [e] at d4
      have : (τ 12 p).toNat = k := by omega
      rw [this] at own1
      omega
/-- a free node is announced -/
theorem iv_ann {k0 : Nat} (h : Iv_ n c τ) (hp : p < n) (hs : τ 10 p = 0) (hk0 : k0 < 32) (hf : τ 1 k0 = 0) (g0 : τ' 0 1 = τ 0 1) (g1 : ∀ k, τ' 1 k = if k = k0 then 1 else τ 1 k) (g2 : ∀ k, τ' 2 k = if k = k0 then 0 else τ 2 k) (g3 : ∀ k, τ' 3 k = if k = k0 then -1 else τ 3 k) (g4 : ∀ k, τ' 4 k = if k = k0 then (p : Int) else τ 4 k)
    (g8 : τ' 8 = τ 8) (g9 : ∀ q, τ' 9 q = if q = p then (k0 : Int) else τ 9 q) (g10 : ∀ q, τ' 10 q = if q = p then 1 else τ 10 q) (g11 : ∀ q, τ' 11 q = if q = p then 0 else τ 11 q) (g12 : ∀ q, τ' 12 q = if q = p then (k0 : Int) else τ 12 q) (g13 : ∀ q, τ' 13 q = if q = p then τ 8 p else τ 13 q) (g14 : τ' 14 = τ 14) : Iv_ n c τ' := by
  obtain ⟨hP, hN, hU, hE, hX, hC⟩ := h
  -- places in use are not k0
  have nk : ∀ {k : Nat}, τ 1 k = 1 → k ≠ k0 := fun {k} h1 e => by rw [e] at h1; omega
  have u1 : ∀ {k : Nat}, τ 1 k = 1 → τ' 1 k = 1 := fun {k} h1 => by rw [g1, if_neg (nk h1)]; exact h1
  have u2 : ∀ {k : Nat}, τ 1 k = 1 → τ' 2 k = τ 2 k := fun {k} h1 => by rw [g2, if_neg (nk h1)]
  have u3 : ∀ {k : Nat}, τ 1 k = 1 → τ' 3 k = τ 3 k := fun {k} h1 => by rw [g3, if_neg (nk h1)]
  have u4 : ∀ {k : Nat}, τ 1 k = 1 → τ' 4 k = τ 4 k := fun {k} h1 => by rw [g4, if_neg (nk h1)]
  have e9 : τ' 9 p = k0 := by rw [g9, if_pos rfl]
  have e10 : τ' 10 p = 1 := by rw [g10, if_pos rfl]
  have e11 : τ' 11 p = 0 := by rw [g11, if_pos rfl]
  have e12 : τ' 12 p = k0 := by rw [g12, if_pos rfl]
  have e13 : τ' 13 p = τ 8 p := by rw [g13, if_pos rfl]
  have n9 : ∀ q, q ≠ p → τ' 9 q = τ 9 q := fun q e => by rw [g9, if_neg e]
  have n10 : ∀ q, q ≠ p → τ' 10 q = τ 10 q := fun q e => by rw [g10, if_neg e]
  have n11 : ∀ q, q ≠ p → τ' 11 q = τ 11 q := fun q e => by rw [g11, if_neg e]
  have n12 : ∀ q, q ≠ p → τ' 12 q = τ 12 q := fun q e => by rw [g12, if_neg e]
  have n13 : ∀ q, q ≠ p → τ' 13 q = τ 13 q := fun q e => by rw [g13, if_neg e]
  have k1 : τ' 1 k0 = 1 := by rw [g1, if_pos rfl]
  have k2 : τ' 2 k0 = 0 := by rw [g2, if_pos rfl]
  have k3 : τ' 3 k0 = -1 := by rw [g3, if_pos rfl]
  have k4 : τ' 4 k0 = p := by rw [g4, if_pos rfl]
  have hpd : pd_ τ' n = pd_ τ n := by
    rw [pd_one (τ := τ) (τ' := τ') hp (fun q hq e => ?_)]
    · unfold in_
      rw [e10, e12, hs, show ((k0 : Int)).toNat = k0 by omega, k2, if_pos (by omega), if_pos (by omega)]
      omega
    · unfold in_
      rw [n10 q e, n12 q e]
      by_cases a : 1 ≤ τ 10 q
      · have h9 := hP q hq
        unfold Ip_ at h9
        rw [u2 (h9.2.2.2.2.2.2.2.2.1 a).2.1]
      · by_cases b : τ 10 q = 0
        · rw [if_pos (Or.inl b), if_pos (Or.inl b)]
        · rw [if_neg (by omega), if_neg (by omega)]
  refine ⟨fun q hq => ?_, fun k hk => ?_, ?_, by rw [g0]; exact hE, ?_, by rw [g0, hpd]; exact hC⟩
  · have h9 := hP q hq
    unfold Ip_ at h9
    obtain ⟨a1, a2, a3, a4, a5, a6, a7, a8, a9, a10, a11, a12, a13, a14, a15⟩ := h9
    unfold Ip_
    by_cases e : q = p
    · subst e
      rw [e9, e10, e11, e12, e13, g8, g14, show ((k0 : Int)).toNat = k0 by omega, k1, k2, k4, u1 a7.1, u2 a7.1]
      exact ⟨a1, by omega, a1, a4, by omega, by omega, ⟨rfl, a7.2⟩, by omega, fun _ => ⟨rfl, rfl, rfl, rfl, Int.le_refl _, Or.inl rfl⟩, fun _ => by omega, by omega, by omega, by omega, by omega, by omega⟩
    · rw [n9 q e, n10 q e, n11 q e, n12 q e, n13 q e, g8, g14, u1 a7.1, u2 a7.1]
      refine ⟨a1, a2, a3, a4, a5, a6, ⟨rfl, a7.2⟩, a8, fun ha => ?_, a10, fun h3 h6 => ?_, fun h4 => ?_, fun h5 h6 => ?_, fun h6 => ?_, fun h7 => ?_⟩
      · obtain ⟨b1, b2, b3, b4, b5, b6⟩ := a9 ha
        rw [u1 b2, u4 b2, u1 b4, u2 b2, u2 b4]
        exact ⟨b1, rfl, b3, rfl, b5, b6⟩
      · obtain ⟨b1, b2, b3, b4, b5, b6⟩ := a9 (by omega)
        rw [u2 b2, u2 b4]
        exact a11 h3 h6
      · obtain ⟨b1, b2, b3, b4, b5, b6⟩ := a9 (by omega)
        obtain ⟨d1, d2⟩ := a12 h4
        rw [u1 d1, u2 d1, u2 b4]
        exact ⟨rfl, d2⟩
      · obtain ⟨b1, b2, b3, b4, b5, b6⟩ := a9 (by omega)
        rw [u3 b4]
        exact a13 h5 h6
      · obtain ⟨b1, b2, b3, b4, b5, b6⟩ := a9 (by omega)
        have d1 := a13 (by omega) (by omega)
        have hb := hN _ (show (τ 13 q).toNat < 32 by omega)
        unfold In_ Iu_ at hb
        have d2 := ((hb.2.2 b4).2.2.2.2.1 (by omega) (by omega)).1
        rw [← d1] at d2
        rw [u2 d2, u2 b4]
        exact a14 h6
      · obtain ⟨b1, b2, b3, b4, b5, b6⟩ := a9 (by omega)
        rw [u2 b2]
        exact a15 h7
  · have h9 := hN k hk
    unfold In_ Iu_ at h9 ⊢
    by_cases e : k = k0
    · subst e
      rw [k1, k2, k3, k4, g0]
      exact ⟨Or.inr rfl, by omega, fun _ => ⟨by omega, by omega, fun _ => ⟨rfl, p, hp, by rw [e10]; omega, e12⟩, by omega, by omega, by omega⟩⟩
    · rw [g1 k, g2 k, g3 k, g4 k, if_neg e, if_neg e, if_neg e, if_neg e, g0]
      refine ⟨h9.1, h9.2.1, fun hu => ?_⟩
      obtain ⟨b1, b2, b3, b4, b5, b6⟩ := h9.2.2 hu
      refine ⟨b1, b2, fun hz => ?_, b4, fun h1 h2 => ?_, b6⟩
      · obtain ⟨d1, o, d2, d3, d4⟩ := b3 hz
        have ho : o ≠ p := fun q => by rw [q] at d3; omega
        exact ⟨d1, o, d2, by rw [n10 o ho]; exact d3, by rw [n12 o ho]; exact d4⟩
      · obtain ⟨d1, d2⟩ := b5 h1 h2
        rw [u1 d1, u2 d1]
        exact ⟨rfl, d2⟩
  · intro j k hj hk h1 h2 h3 h4
    have e1 : j ≠ k0 := fun q => by rw [q, k2] at h4; omega
    have e2 : k ≠ k0 := fun q => by rw [q, k2] at h3; omega
    rw [g1, if_neg e1] at h1
    rw [g1, if_neg e2] at h2
    rw [g2 j, g2 k, if_neg e1, if_neg e2] at h3
    rw [g2 j, if_neg e1] at h4
    exact hU j k hj hk h1 h2 h3 h4
  · obtain ⟨k, x1, x2, x3⟩ := hX
    exact ⟨k, x1, u1 x2, by rw [u2 x2, g0]; exact x3⟩
/-- a cell is filled -/
theorem iv_prop (h : Iv_ n c τ) (hp : p < n) (hs : τ 10 p = 4) (hc : τ 3 (τ 13 p).toNat < 0) (g0 : τ' 0 1 = τ 0 1) (g1 : τ' 1 = τ 1) (g2 : τ' 2 = τ 2) (g3 : ∀ k, τ' 3 k = if k = (τ 13 p).toNat then τ 14 p else τ 3 k) (g4 : τ' 4 = τ 4) (g8 : τ' 8 = τ 8) (g9 : τ' 9 = τ 9) (g10 : ∀ q, τ' 10 q = if q = p then 5 else τ 10 q) (g11 : τ' 11 = τ 11) (g12 : τ' 12 = τ 12) (g13 : τ' 13 = τ 13) (g14 : τ' 14 = τ 14) : Iv_ n c τ' := by
  have hP := h.1
  have hN := h.2.1
  have hU := h.2.2.1
  have hE := h.2.2.2.1
  have hC := h.2.2.2.2.2
  have e10 : τ' 10 p = 5 := by rw [g10, if_pos rfl]
  have n10 : ∀ q, q ≠ p → τ' 10 q = τ 10 q := fun q e => by rw [g10, if_neg e]
  have hPp := hP p hp
  unfold Ip_ at hPp
  obtain ⟨a1, a2, a3, a4, a5, a6, a7, a8, a9, a10, a11, a12, a13, a14, a15⟩ := hPp
  obtain ⟨b1, b2, b3, b4, b5, b6⟩ := a9 (by omega)
  have hb32 : (τ 13 p).toNat < 32 := by omega
  have hb := hN _ hb32
  have hbr := hb.2.1
  have hbe : τ 2 (τ 13 p).toNat = τ 0 1 := (hb.2.2 b4).2.2.2.1 (by omega) (by omega)
  obtain ⟨d1, d2⟩ := a12 hs
  have hpr32 : (τ 14 p).toNat < 32 := by omega
  have hpr := hN _ hpr32
  have d3 : τ 2 (τ 14 p).toNat = 0 := by
    have := (hpr.2.2 d1).2.1
    omega
  have hpd : pd_ τ' n = pd_ τ n := pd_eq (fun q _ => by
    unfold in_
    rw [g2, g12]
    by_cases e : q = p
    · subst e
      rw [e10, hs]
      by_cases z : τ 2 (τ 12 q).toNat = 0
      · rw [if_pos (by omega), if_pos (by omega)]
      · rw [if_neg (by omega), if_neg (by omega)]
    · rw [n10 q e])
  unfold Iv_ Iq_
  rw [g0, g1, g2, hpd]
  refine ⟨fun q hq => ?_, fun k hk => ?_, hU, hE, h.2.2.2.2.1, hC⟩
  · have h9 := hP q hq
    unfold Ip_ at h9 ⊢
    rw [g1, g2, g4, g8, g9, g11, g12, g13, g14]
    by_cases e : q = p
    · subst e
      rw [e10]
      refine ⟨a1, a2, a3, a4, by omega, a6, a7, by omega, fun _ => a9 (by omega), by omega, fun _ _ => a11 (by omega) (by omega), by omega, fun _ _ => ?_, by omega, by omega⟩
      rw [g3, if_pos rfl]
    · rw [n10 q e]
      obtain ⟨f1, f2, f3, f4, f5, f6, f7, f8, f9, f10, f11, f12, f13, f14, f15⟩ := h9
      refine ⟨f1, f2, f3, f4, f5, f6, f7, f8, f9, f10, f11, f12, fun h5 h6 => ?_, f14, f15⟩
      have r1 := f13 h5 h6
      rw [g3, if_neg]
      · exact r1
      · intro r2
        rw [r2] at r1
        omega
  · have h9 := hN k hk
    unfold In_ Iu_ at h9 ⊢
    rw [g0, g1, g2, g4, g12]
    by_cases e : k = (τ 13 p).toNat
    · subst e
      have e3 : τ' 3 (τ 13 p).toNat = τ 14 p := by rw [g3, if_pos rfl]
      rw [e3]
      refine ⟨h9.1, by omega, fun hu => ⟨by omega, by omega, by omega, by omega, fun _ _ => ⟨d1, Or.inr ⟨d3, hbe⟩⟩, (h9.2.2 hu).2.2.2.2.2⟩⟩
    · have e3 : τ' 3 k = τ 3 k := by rw [g3, if_neg e]
      rw [e3]
      refine ⟨h9.1, h9.2.1, fun hu => ?_⟩
      obtain ⟨t1, t2, t3, t4, t5, t6⟩ := h9.2.2 hu
      refine ⟨t1, t2, fun hz => ?_, t4, t5, t6⟩
      obtain ⟨r1, o, r2, r3, r4⟩ := t3 hz
      refine ⟨r1, o, r2, ?_, r4⟩
      by_cases eo : o = p
      · rw [eo, e10]; omega
      · rw [n10 o eo]; exact r3
/-- a node gets its place -/
theorem iv_give (h : Iv_ n c τ) (hp : p < n) (hs : τ 10 p = 5) (hz : τ 2 (τ 14 p).toNat = 0) (g0 : τ' 0 1 = τ 0 1 + 1) (g1 : τ' 1 = τ 1) (g2 : ∀ k, τ' 2 k = if k = (τ 14 p).toNat then τ 0 1 + 1 else τ 2 k) (g3 : τ' 3 = τ 3) (g4 : τ' 4 = τ 4) (g8 : τ' 8 = τ 8) (g9 : τ' 9 = τ 9) (g10 : ∀ q, τ' 10 q = if q = p then 6 else τ 10 q) (g11 : τ' 11 = τ 11) (g12 : τ' 12 = τ 12) (g13 : τ' 13 = τ 13) (g14 : τ' 14 = τ 14) : Iv_ n c τ' := by
  have hP := h.1
  have hN := h.2.1
  have hU := h.2.2.1
  have hE := h.2.2.2.1
  have hC := h.2.2.2.2.2
  have e10 : τ' 10 p = 6 := by rw [g10, if_pos rfl]
  have n10 : ∀ q, q ≠ p → τ' 10 q = τ 10 q := fun q e => by rw [g10, if_neg e]
  have act : ∀ q, 1 ≤ τ 10 q → 1 ≤ τ' 10 q := fun q h1 => by
    by_cases e : q = p
    · rw [e, e10]; omega
    · rw [n10 q e]; exact h1
  have hPp := hP p hp
  unfold Ip_ at hPp
  obtain ⟨a1, a2, a3, a4, a5, a6, a7, a8, a9, a10, a11, a12, a13, a14, a15⟩ := hPp
  obtain ⟨b1, b2, b3, b4, b5, b6⟩ := a9 (by omega)
  have hb32 : (τ 13 p).toNat < 32 := by omega
  have hy32 : (τ 14 p).toNat < 32 := by omega
  have hcell : τ 14 p = τ 3 (τ 13 p).toNat := a13 (by omega) (by omega)
  have hb := hN _ hb32
  obtain ⟨y1, y2⟩ := (hb.2.2 b4).2.2.2.2.1 (by omega) (by omega)
  rw [← hcell] at y1 y2
  have hbe : τ 2 (τ 13 p).toNat = τ 0 1 := by omega
  obtain ⟨y, hy⟩ : ∃ y, y = (τ 14 p).toNat := ⟨_, rfl⟩
  rw [← hy] at g2 hz y1 y2 hy32
  have hyn := hN y hy32
  obtain ⟨z1, o, z2, z3, z4⟩ := (hyn.2.2 y1).2.2.1 hz
  have k2 : τ' 2 y = τ 0 1 + 1 := by rw [g2, if_pos rfl]
  have n2 : ∀ {k : Nat}, 1 ≤ τ 2 k → τ' 2 k = τ 2 k := fun {k} h1 => by
    rw [g2, if_neg (fun q => by rw [q] at h1; omega)]
  have ge2 : ∀ k, τ' 2 k = τ 2 k ∨ (k = y ∧ τ' 2 k = τ 0 1 + 1) := fun k => by
    by_cases e : k = y
    · rw [e, k2]; exact Or.inr ⟨rfl, rfl⟩
    · rw [g2, if_neg e]; exact Or.inl rfl
  have le2 : ∀ {k : Nat}, k < 32 → τ 1 k = 1 → τ 2 k ≤ τ 0 1 := fun {k} hk h1 => by
    exact ((hN k hk).2.2 h1).2.1
  have hpd : pd_ τ' n = pd_ τ n - 1 := by
    rw [pd_one (τ := τ) (τ' := τ') (p := o) z2 (fun q hq e => ?_)]
    · have hoy : (τ 12 o).toNat = y := by omega
      have e1 : in_ τ o = 1 := by
        unfold in_
        rw [if_pos (Or.inr ⟨z3, by rw [hoy]; exact hz⟩)]
      have e2 : in_ τ' o = 0 := by
        unfold in_
        rw [g12, hoy, k2, if_neg (by have := act o z3; omega)]
      rw [e1, e2]
      omega
    · have hq9 := hP q hq
      have ho9 := hP o z2
      clear a8 a9 a10 a11 a12 a13 a14 a15
      have e10' : (1 ≤ τ' 10 q ↔ 1 ≤ τ 10 q) ∧ (τ' 10 q = 0 ↔ τ 10 q = 0) := by
        by_cases ep : q = p
        · rw [ep, e10]; omega
        · rw [n10 q ep]; exact ⟨Iff.rfl, Iff.rfl⟩
      unfold in_
      rw [g12]
      by_cases a : 1 ≤ τ 10 q
      · have hne : (τ 12 q).toNat ≠ y := by
          intro eqy
          have w1 := (hq9.2.2.2.2.2.2.2.2.1 a).2.2.1
          have w2 := (ho9.2.2.2.2.2.2.2.2.1 z3).2.2.1
          rw [eqy] at w1
          rw [show (τ 12 o).toNat = y by omega] at w2
          omega
        rw [g2, if_neg hne]
        by_cases zz : τ 2 (τ 12 q).toNat = 0
        · rw [if_pos (by omega), if_pos (by omega)]
        · rw [if_neg (by omega), if_neg (by omega)]
      · by_cases b : τ 10 q = 0
        · rw [if_pos (Or.inl (e10'.2.mpr b)), if_pos (Or.inl b)]
        · rw [if_neg (by omega), if_neg (by omega)]
  refine ⟨fun q hq => ?_, fun k hk => ?_, ?_, by rw [g0]; omega, ⟨y, hy32, by rw [g1]; exact y1, by rw [k2, g0]⟩, by rw [g0, hpd]; omega⟩
  · have h9 := hP q hq
    unfold Ip_ at h9
    obtain ⟨f1, f2, f3, f4, f5, f6, f7, f8, f9, f10, f11, f12, f13, f14, f15⟩ := h9
    have w8 : τ' 2 (τ 8 q).toNat = τ 2 (τ 8 q).toNat := n2 f7.2
    unfold Ip_
    rw [g1, g3, g4, g8, g9, g11, g12, g13, g14, w8]
    have w13 : 1 ≤ τ 10 q → τ' 2 (τ 13 q).toNat = τ 2 (τ 13 q).toNat := fun ha => n2 (by have := (f9 ha).2.2.2.2.1; omega)
    have l13 : 1 ≤ τ 10 q → τ 2 (τ 13 q).toNat ≤ τ 0 1 := fun ha => le2 (by omega) (f9 ha).2.2.2.1
    have l8 : τ 2 (τ 8 q).toNat ≤ τ 0 1 := le2 (by omega) f7.1
    have w12 := ge2 (τ 12 q).toNat
    have w14 := ge2 (τ 14 q).toNat
    by_cases e : q = p
    · subst e
      rw [e10]
      have v13 := w13 (by omega)
      refine ⟨f1, f2, f3, f4, by omega, f6, f7, by omega, fun _ => ?_, by omega, fun _ _ => ?_, by omega, fun _ _ => f13 (by omega) (by omega), fun _ => ?_, by omega⟩
      · obtain ⟨s1, s2, s3, s4, s5, s6⟩ := f9 (by omega)
        refine ⟨s1, s2, s3, s4, by omega, by omega⟩
      · have := f11 (by omega) (by omega)
        have := l13 (by omega)
        omega
      · rw [← hy, k2, v13, hbe]
    · rw [n10 q e]
      refine ⟨f1, f2, f3, f4, f5, f6, f7, f8, fun ha => ?_, f10, fun h3 h6 => ?_, fun h4 => ?_, f13, fun h6 => ?_, fun h7 => ?_⟩
      · obtain ⟨s1, s2, s3, s4, s5, s6⟩ := f9 ha
        have := w13 ha
        refine ⟨s1, s2, s3, s4, by omega, by omega⟩
      · have := f11 h3 h6
        have := w13 (by omega)
        have := l13 (by omega)
        omega
      · obtain ⟨s1, s2⟩ := f12 h4
        have := w13 (by omega)
        have := l13 (by omega)
        exact ⟨s1, by omega⟩
      · have s1 := f14 h6
        have s2 := f9 (by omega)
        rw [w13 (by omega), n2 (by omega)]
        exact s1
      · have := f15 h7
        omega
  · have h9 := hN k hk
    unfold In_ Iu_ at h9 ⊢
    rw [g0, g1, g3, g4, g12]
    refine ⟨h9.1, h9.2.1, fun hu => ?_⟩
    obtain ⟨t1, t2, t3, t4, t5, t6⟩ := h9.2.2 hu
    by_cases e : k = y
    · subst e
      rw [k2, z1]
      exact ⟨by omega, by omega, by omega, fun _ _ => rfl, by omega, by omega⟩
    · have e2 : τ' 2 k = τ 2 k := by rw [g2, if_neg e]
      rw [e2]
      refine ⟨t1, by omega, fun hz2 => ?_, fun s1 s2 => ?_, fun s1 s2 => ?_, t6⟩
      · obtain ⟨r1, o2, r2, r3, r4⟩ := t3 hz2
        exact ⟨r1, o2, r2, act o2 r3, r4⟩
      · have s3 := t4 s1 s2
        have s4 := hU k _ hk hb32 hu b4 (by omega) s1
        rw [s4] at s2
        omega
      · obtain ⟨s3, s4⟩ := t5 s1 s2
        refine ⟨s3, ?_⟩
        by_cases e3 : (τ 3 k).toNat = y
        · rw [e3, k2]
          rw [e3] at s4
          omega
        · rw [g2, if_neg e3]
          rcases s4 with s4 | ⟨s4, s5⟩
          · exact Or.inl s4
          · have s6 := hU k _ hk hb32 hu b4 (by omega) s1
            rw [s6, ← hcell, ← hy] at e3
            exact absurd rfl e3
  · intro j k hj hk h1 h2 h3 h4
    rw [g1] at h1 h2
    have l1 := le2 hj h1
    have l2 := le2 hk h2
    rcases ge2 j with q1 | ⟨q1, q1'⟩ <;> rcases ge2 k with q2 | ⟨q2, q2'⟩
    · exact hU j k hj hk h1 h2 (by omega) (by omega)
    · omega
    · omega
    · rw [q1, q2]
/-- idle heads go to F, nodes below x go out of use -/
theorem iv_cut {F : Nat} {x : Int} (h : Iv_ n c τ) (hF32 : F < 32) (hF1 : τ 1 F = 1) (hF2 : 1 ≤ τ 2 F) (hxF : x ≤ τ 2 F) (hx : ∀ q, q < n → x ≤ τ 2 (τ' 8 q).toNat) (g0 : τ' 0 1 = τ 0 1) (g1 : ∀ k, k < 32 → τ' 1 k = if τ 1 k = 1 ∧ 1 ≤ τ 2 k ∧ τ 2 k < x then 0 else τ 1 k) (g2 : τ' 2 = τ 2) (g3 : τ' 3 = τ 3) (g4 : τ' 4 = τ 4) (g8 : ∀ q, q < n → τ' 8 q = if τ 10 q = -1 then (F : Int) else τ 8 q) (g9 : τ' 9 = τ 9) (g10 : τ' 10 = τ 10) (g11 : τ' 11 = τ 11) (g12 : τ' 12 = τ 12) (g13 : τ' 13 = τ 13) (g14 : τ' 14 = τ 14) : Iv_ n c τ' := by
  obtain ⟨hP, hN, hU, hE, hX, hC⟩ := h
  have keep : ∀ {k : Nat}, k < 32 → τ 1 k = 1 → (τ 2 k = 0 ∨ x ≤ τ 2 k) → τ' 1 k = 1 := fun {k} hk h1 h2 => by
    rw [g1 k hk, if_neg (by omega)]; exact h1
  have back : ∀ {k : Nat}, k < 32 → τ' 1 k = 1 → τ 1 k = 1 ∧ (τ 2 k < 1 ∨ x ≤ τ 2 k) := fun {k} hk h1 => by
    rw [g1 k hk] at h1
    by_cases a : τ 1 k = 1 ∧ 1 ≤ τ 2 k ∧ τ 2 k < x
    · rw [if_pos a] at h1; omega
    · rw [if_neg a] at h1
      exact ⟨h1, by omega⟩
  have hpd : pd_ τ' n = pd_ τ n := pd_eq (fun q _ => by unfold in_; rw [g10, g2, g12])
  have hFe : τ 2 F ≤ τ 0 1 := by
    have := hN F hF32
    unfold In_ Iu_ at this
    exact (this.2.2 hF1).2.1
  refine ⟨fun q hq => ?_, fun k hk => ?_, ?_, by rw [g0]; exact hE, ?_, by rw [g0, hpd]; exact hC⟩
  · have h9 := hP q hq
    have hxq := hx q hq
    unfold Ip_ at h9
    obtain ⟨f1, f2, f3, f4, f5, f6, f7, f8, f9, f10, f11, f12, f13, f14, f15⟩ := h9
    unfold Ip_
    rw [g2, g3, g4, g9, g10, g11, g12, g13, g14]
    by_cases e : τ 10 q = -1
    · have e8 : τ' 8 q = (F : Int) := by rw [g8 q hq, if_pos e]
      rw [e8, show ((F : Int)).toNat = F by omega]
      exact ⟨by omega, f2, f3, f4, f5, f6, ⟨keep hF32 hF1 (Or.inr hxF), hF2⟩, f8, by omega, by omega, by omega, by omega, by omega, by omega, by omega⟩
    · have e8 : τ' 8 q = τ 8 q := by rw [g8 q hq, if_neg e]
      rw [e8] at hxq ⊢
      refine ⟨f1, f2, f3, f4, f5, f6, ⟨keep (by omega) f7.1 (Or.inr hxq), f7.2⟩, f8, fun ha => ?_, f10, f11, fun h4 => ?_, f13, f14, f15⟩
      · obtain ⟨b1, b2, b3, b4, b5, b6⟩ := f9 ha
        exact ⟨b1, keep (by omega) b2 (by omega), b3, keep (by omega) b4 (by omega), b5, b6⟩
      · obtain ⟨b1, b2, b3, b4, b5, b6⟩ := f9 (by omega)
        obtain ⟨d1, d2⟩ := f12 h4
        exact ⟨keep (by omega) d1 (by omega), d2⟩
  · have h9 := hN k hk
    unfold In_ Iu_ at h9 ⊢
    rw [g0, g2, g3, g4, g10, g12]
    refine ⟨?_, h9.2.1, fun hu => ?_⟩
    · rw [g1 k hk]
      by_cases a : τ 1 k = 1 ∧ 1 ≤ τ 2 k ∧ τ 2 k < x
      · rw [if_pos a]; exact Or.inl rfl
      · rw [if_neg a]; exact h9.1
    · obtain ⟨r1, r2⟩ := back hk hu
      obtain ⟨t1, t2, t3, t4, t5, t6⟩ := h9.2.2 r1
      refine ⟨t1, t2, t3, t4, fun s1 s2 => ?_, t6⟩
      obtain ⟨d1, d2⟩ := t5 s1 s2
      exact ⟨keep (by omega) d1 (by omega), d2⟩
  · intro j k hj hk h1 h2 h3 h4
    rw [g2] at h3 h4
    exact hU j k hj hk (back hj h1).1 (back hk h2).1 h3 h4
  · obtain ⟨k, x1, x2, x3⟩ := hX
    exact ⟨k, x1, keep x1 x2 (by omega), by rw [g2, g0]; exact x3⟩
end INV_B

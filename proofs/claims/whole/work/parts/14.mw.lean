section MW_A
/-- the array classes that both sides use -/
abbrev tys_ (T : Nat → ClassId) : List (ClassId × FieldType) := [(T 0, .int), (T 1, .boolean), (T 2, .long), (T 3, .object "HelpedLog$Node"), (T 4, .object "HelpedLog$Caller")]
/-- an index in range, and the place it names -/
def Ix_ (i : Int32) (N j : Nat) : Prop := vp_in i N ∧ ix_ i = j
theorem Ix_n {j N : Nat} (h : j < N) (hN : N < 2 ^ 31) : Ix_ (nI j) N j := ⟨vp_in_nI h hN, nI_clamp (by omega)⟩
theorem Ix_r {i : Int32} {N : Nat} (h0 : 0 ≤ i.toInt) (h : i.toInt < N) : Ix_ i N (ix_ i) := ⟨vp_in_iff.mpr ⟨h0, h⟩, rfl⟩
theorem Ix_lt {i : Int32} {N j : Nat} (h : Ix_ i N j) : j < N := by
  obtain ⟨h1, h2⟩ := h
  have h3 := vp_in_iff.mp h1
  rw [← h2, iz_ix]
  omega
/-- the length of the reference's array c -/
def lm_ (c : Nat) : Nat := cond (Nat.blt c 8) 32 (cond (Nat.blt c 21) 5 (cond (Nat.blt c 24) 600 8))
def mF_ (ad : Nat → Nat) (K n : Nat) (ρ : ST_) : List Value := [.int (ρ 0 0), .int (nI K), .int (nI n), .ref (ad 1), .ref (ad 2), .ref (ad 3), .ref (ad 4), .ref (ad 5), .ref (ad 6), .ref (ad 7), .ref (ad 8), .ref (ad 9), .ref (ad 10), .ref (ad 11), .ref (ad 12), .ref (ad 13), .ref (ad 14), .ref (ad 15), .ref (ad 16), .ref (ad 17), .ref (ad 18), .ref (ad 19), .ref (ad 20), .int (ρ 0 1), .ref (ad 21), .ref (ad 22), .ref (ad 23), .ref (ad 24), .int (ρ 0 2), .ref (ad 25), .int (ρ 0 3)]
def mE_ (T : Nat → ClassId) (ad : Nat → Nat) (K n : Nat) (ρ : ST_) : Nat → va_E
  | 0 => .inr (7, mF_ ad K n ρ)
  | c + 1 => .inl (T (cond (Nat.beq c 0) 1 0), lm_ (c + 1), .inl (ρ (c + 1)))
def mW_ (T : Nat → ClassId) (ad : Nat → Nat) (K n : Nat) (ρ : ST_) : va_W := wl_ ad 26 (mE_ T ad K n ρ)
theorem mE_arr (T : Nat → ClassId) (ad : Nat → Nat) (K n : Nat) (ρ : ST_) {c : Nat} (h : 2 ≤ c) : mE_ T ad K n ρ c = .inl (T 0, lm_ c, .inl (ρ c)) := by
  obtain ⟨d, rfl⟩ : ∃ d, c = d + 2 := ⟨c - 2, by omega⟩
  rfl
theorem mE_bool (T : Nat → ClassId) (ad : Nat → Nat) (K n : Nat) (ρ : ST_) : mE_ T ad K n ρ 1 = .inl (T 1, lm_ 1, .inl (ρ 1)) := rfl
theorem mE_u1 (T : Nat → ClassId) (ad : Nat → Nat) (K n : Nat) (ρ : ST_) {c : Nat} (hc : 1 ≤ c) (f : Nat → Int32) {cA : ClassId} (hA : mE_ T ad K n ρ c = .inl (cA, lm_ c, .inl (ρ c))) : ∀ i, va_up (mE_ T ad K n ρ) c (.inl (cA, lm_ c, .inl f)) i = mE_ T ad K n (u1_ ρ c f) i := by
  intro i
  match i with
  | 0 =>
    rw [va_up_ne _ _ (by omega)]
    unfold mE_ mF_
    rw [u1_ne ρ f (show 0 ≠ c by omega)]
  | d + 1 =>
    by_cases e : d + 1 = c
    · subst e
      rw [va_up_self]
      have h1 : mE_ T ad K n ρ (d + 1) = .inl (T (cond (Nat.beq d 0) 1 0), lm_ (d + 1), .inl (ρ (d + 1))) := rfl
      have h2 : mE_ T ad K n (u1_ ρ (d + 1) f) (d + 1) = .inl (T (cond (Nat.beq d 0) 1 0), lm_ (d + 1), .inl (u1_ ρ (d + 1) f (d + 1))) := rfl
      rw [h2, u1_same]
      rw [h1] at hA
      have h3 := Sum.inl.inj hA
      rw [Prod.mk.injEq] at h3
      rw [h3.1]
    · rw [va_up_ne _ _ e]
      show Sum.inl _ = Sum.inl _
      rw [u1_ne ρ f e]
theorem mE_s (T : Nat → ClassId) (ad : Nat → Nat) (K n : Nat) (ρ : ST_) (j k : Nat) (v : Int32) (hF : (mF_ ad K n ρ).set k (.int v) = mF_ ad K n (u2_ ρ 0 j v)) : ∀ i, va_up (mE_ T ad K n ρ) 0 (.inr (7, (mF_ ad K n ρ).set k (.int v))) i = mE_ T ad K n (u2_ ρ 0 j v) i := by
  intro i
  match i with
  | 0 => rw [va_up_self, hF]; rfl
  | d + 1 =>
    rw [va_up_ne _ _ (by omega)]
    show Sum.inl _ = Sum.inl _
    rw [u2_ne ρ j v (show d + 1 ≠ 0 by omega)]
theorem mF_s0 (ad : Nat → Nat) (K n : Nat) (ρ : ST_) (v : Int32) : (mF_ ad K n ρ).set 0 (.int v) = mF_ ad K n (u2_ ρ 0 0 v) := rfl
theorem mF_s1 (ad : Nat → Nat) (K n : Nat) (ρ : ST_) (v : Int32) : (mF_ ad K n ρ).set 23 (.int v) = mF_ ad K n (u2_ ρ 0 1 v) := rfl
theorem mF_s2 (ad : Nat → Nat) (K n : Nat) (ρ : ST_) (v : Int32) : (mF_ ad K n ρ).set 28 (.int v) = mF_ ad K n (u2_ ρ 0 2 v) := rfl
theorem mF_s3 (ad : Nat → Nat) (K n : Nat) (ρ : ST_) (v : Int32) : (mF_ ad K n ρ).set 30 (.int v) = mF_ ad K n (u2_ ρ 0 3 v) := rfl
theorem ft_M1 (k : Nat) : (ft_M k).1 = "HelpedLogModel" := by
  unfold ft_M
  split <;> rfl
end MW_A
section MW_B
variable {p : Program} {l : Launch} {e : Env} {R : Room} {s : State} {m : MethodId} {args : Array Value} {below : List Frame} {meth : Method} {c : Code} {D : va_G} {A : Nat → Prop} {nL cells slots : Nat} {Q : State → Prop}
variable {cc : ByteArray} {T : Nat → ClassId} {pc : Nat} {L : List (Nat × Value)} {rest : List Value} {ad : Nat → Nat} {K n : Nat} {ρ : ST_}
theorem gm_get (X : Cx_ p l e R s m args below meth c cc nL rn_M D cl_ (tys_ T) TG_) {index : Nat} {v : Value} (k : Nat) (hk : k < 31) (hl : Cond.fieldLink rn_M index rn_M (ft_M k).2.1 (ft_M k).2.2.1 ∈ TG_) (hv : (mF_ ad K n ρ)[k]? = some v) (d : decode cc pc = .ok (.getfield index, 3))
    (kk : Go_ p l e R s m args below meth c D cl_ A nL cells slots Q (mW_ T ad K n ρ) (pc + 3) L (v :: rest)) : Go_ p l e R s m args below meth c D cl_ A nL cells slots Q (mW_ T ad K n ρ) pc L (.ref (ad 0) :: rest) :=
  go_get (ci := 7) (k := k) X in_M rfl (show 0 < 26 by omega) rfl hk hl (fun x h => by rw [ft_M1] at h; exact h) hv d kk
theorem gm_put (X : Cx_ p l e R s m args below meth c cc nL rn_M D cl_ (tys_ T) TG_) {index : Nat} {v : Int32} (k j : Nat) (hk : k < 31) (hl : Cond.fieldLink rn_M index rn_M (ft_M k).2.1 (ft_M k).2.2.1 ∈ TG_) (hfin : (ft_M k).2.2.2 = false) (hd : parseFieldDescriptor (ft_M k).2.2.1 = some .int) (hF : (mF_ ad K n ρ).set k (.int v) = mF_ ad K n (u2_ ρ 0 j v)) (d : decode cc pc = .ok (.putfield index, 3))
    (kk : Go_ p l e R s m args below meth c D cl_ A nL cells slots Q (mW_ T ad K n (u2_ ρ 0 j v)) (pc + 3) L rest) : Go_ p l e R s m args below meth c D cl_ A nL cells slots Q (mW_ T ad K n ρ) pc L (.int v :: .ref (ad 0) :: rest) := by
  refine go_put (ci := 7) (k := k) X in_M rfl ty_M tk_M nm_M (show 0 < 26 by omega) rfl hk hl (fun x h => by rw [ft_M1] at h; exact h) hfin hd rfl rfl (show k < 31 from hk) d ?_
  rw [wl_congr (fun i _ => mE_s T ad K n ρ j k v hF i)]
  exact kk
theorem gm_ld (X : Cx_ p l e R s m args below meth c cc nL rn_M D cl_ (tys_ T) TG_) {a j : Nat} {i : Int32} {f : Nat → Int32} (hf : ρ a = f) (ha : 2 ≤ a ∧ a < 26) (hi : Ix_ i (lm_ a) j) (d : decode cc pc = .ok (.iaload, 1))
    (kk : Go_ p l e R s m args below meth c D cl_ A nL cells slots Q (mW_ T ad K n ρ) (pc + 1) L (.int (f j) :: rest)) : Go_ p l e R s m args below meth c D cl_ A nL cells slots Q (mW_ T ad K n ρ) pc L (.int i :: .ref (ad a) :: rest) := by
  subst hf
  exact go_iald (t0 := 0) X ha.2 (mE_arr T ad K n ρ ha.1) rfl hi.1 hi.2 d kk
theorem gm_zld (X : Cx_ p l e R s m args below meth c cc nL rn_M D cl_ (tys_ T) TG_) {j : Nat} {i : Int32} {f : Nat → Int32} (hf : ρ 1 = f) (hi : Ix_ i 32 j) (d : decode cc pc = .ok (.baload, 1))
    (kk : Go_ p l e R s m args below meth c D cl_ A nL cells slots Q (mW_ T ad K n ρ) (pc + 1) L (.int (f j) :: rest)) : Go_ p l e R s m args below meth c D cl_ A nL cells slots Q (mW_ T ad K n ρ) pc L (.int i :: .ref (ad 1) :: rest) := by
  subst hf
  exact go_zald (t0 := 1) X (show 1 < 26 by omega) (mE_bool T ad K n ρ) rfl hi.1 hi.2 d kk
theorem gm_st (X : Cx_ p l e R s m args below meth c cc nL rn_M D cl_ (tys_ T) TG_) {a j : Nat} {i x : Int32} (ha : 2 ≤ a ∧ a < 26) (hi : Ix_ i (lm_ a) j) (d : decode cc pc = .ok (.iastore, 1))
    (kk : Go_ p l e R s m args below meth c D cl_ A nL cells slots Q (mW_ T ad K n (u2_ ρ a j x)) (pc + 1) L rest) : Go_ p l e R s m args below meth c D cl_ A nL cells slots Q (mW_ T ad K n ρ) pc L (.int x :: .int i :: .ref (ad a) :: rest) := by
  refine go_iast (t0 := 0) X ha.2 (mE_arr T ad K n ρ ha.1) rfl hi.1 hi.2 d ?_
  rw [wl_congr (fun i _ => mE_u1 T ad K n ρ (by omega) (upd (ρ a) j x) (mE_arr T ad K n ρ ha.1) i)]
  exact kk
theorem gm_zst (X : Cx_ p l e R s m args below meth c cc nL rn_M D cl_ (tys_ T) TG_) {j : Nat} {i x : Int32} (hi : Ix_ i 32 j) (hx : vp_nar .boolean x = x) (d : decode cc pc = .ok (.bastore, 1))
    (kk : Go_ p l e R s m args below meth c D cl_ A nL cells slots Q (mW_ T ad K n (u2_ ρ 1 j x)) (pc + 1) L rest) : Go_ p l e R s m args below meth c D cl_ A nL cells slots Q (mW_ T ad K n ρ) pc L (.int x :: .int i :: .ref (ad 1) :: rest) := by
  refine go_zast (t0 := 1) X (show 1 < 26 by omega) (mE_bool T ad K n ρ) rfl hi.1 hi.2 hx d ?_
  rw [wl_congr (fun i _ => mE_u1 T ad K n ρ (show 1 ≤ 1 by omega) (upd (ρ 1) j x) (mE_bool T ad K n ρ) i)]
  exact kk
/-- what an array holds matters up to its length -/
theorem gm_arr {a : Nat} {f f' : Nat → Int32} (ha : 2 ≤ a) (hf : ∀ j, j < lm_ a → f j = f' j) (kk : Go_ p l e R s m args below meth c D cl_ A nL cells slots Q (mW_ T ad K n (u1_ ρ a f')) pc L rest) : Go_ p l e R s m args below meth c D cl_ A nL cells slots Q (mW_ T ad K n (u1_ ρ a f)) pc L rest := by
  have h1 : ∀ f, mW_ T ad K n (u1_ ρ a f) = wl_ ad 26 (va_up (mE_ T ad K n ρ) a (.inl (T 0, lm_ a, .inl f))) := fun f => (wl_congr (fun i _ => mE_u1 T ad K n ρ (by omega) f (mE_arr T ad K n ρ ha) i)).symm
  rw [h1] at kk ⊢
  exact go_arr hf kk
/-- a contract of the reference's: its receiver is the object -/
def cm_ (l : Launch) (D : va_G) (T : Nat → ClassId) (ad : Nat → Nat) (K n : Nat) (A : Nat → Prop) (nw : List Cond) (y : MethodName) (h : Cond) (d : Nat) (av : List Value) (ρ ρ' : ST_) (r : Option Value) : Prop :=
  Ct_ l D cl_ (tys_ T) A nw y (h :: TG_) (rm_d d) (.ref (ad 0) :: av) (mW_ T ad K n ρ) (mW_ T ad K n ρ') r
end MW_B

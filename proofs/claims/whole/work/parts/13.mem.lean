section MEM0
theorem arr_same {cA : ClassId} {n : Nat} {f f' : Nat → Int32} (hf : ∀ j, j < n → f j = f' j) : vp_cell cA (n, .inl f) = vp_cell cA (n, .inl f') := by
  rw [vp_cell_i, vp_cell_i]
  unfold arrV
  congr 1
  apply Array.ext
  · simp
  · intro i h1 h2
    simp at h1
    simp [hf i h1]
end MEM0
section MEM
variable {p : Program} {l : Launch} {e : Env} {R : Room} {s : State} {m : MethodId} {args : Array Value} {below : List Frame} {meth : Method} {c : Code} {D : va_G} {cl : List vw_C} {A : Nat → Prop} {nL cells slots : Nat} {Q : State → Prop}
variable {cc : ByteArray} {own : String} {tys : List (ClassId × FieldType)} {TS : List Cond} {pc : Nat} {L : List (Nat × Value)} {rest : List Value}
variable {ad : Nat → Nat} {N : Nat} {g : Nat → va_E}
theorem go_get (X : Cx_ p l e R s m args below meth c cc nL own D cl tys TS) {C ref : String} {T : u_T} {Nf ci i k index : Nat} {fs : List Value} {v : Value} (hin : ∀ w ∈ u_ws C T Nf, w ∈ TS) (hc : cl[ci]? = some (C, T, Nf)) (hi : i < N) (hg : g i = .inr (ci, fs)) (hk : k < Nf) (hl : Cond.fieldLink own index ref (T k).2.1 (T k).2.2.1 ∈ TS) (hsame : ∀ x, s.fieldFound? (T k).1 (T k).2.1 (T k).2.2.1 = some x → s.fieldFound? ref (T k).2.1 (T k).2.2.1 = some x) (hv : fs[k]? = some v) (d : decode cc pc = .ok (.getfield index, 3))
    (kk : Go_ p l e R s m args below meth c D cl A nL cells slots Q (wl_ ad N g) (pc + 3) L (v :: rest)) : Go_ p l e R s m args below meth c D cl A nL cells slots Q (wl_ ad N g) pc L (.ref (ad i) :: rest) := fun H locs ls hP hD hS h =>
  va_get X.1 X.2.1 X.2.2.2.2.1 hin X.2.2.2.1 X.2.2.2.2.2.1 hP i (by rw [wl_at hi, hg]) hc k hk (X.2.2.2.2.1 _ hl) hsame hv d (kk H locs ls hP hD hS h)
theorem go_put (X : Cx_ p l e R s m args below meth c cc nL own D cl tys TS) {C ref : String} {T : u_T} {Nf ci i k index : Nat} {fs : List Value} {v : Value} {ty : FieldType} (hin : ∀ w ∈ u_ws C T Nf, w ∈ TS) (hc : cl[ci]? = some (C, T, Nf)) (ty0 : Nat → FieldType) (hty : ∀ k, k < Nf → parseFieldDescriptor (T k).2.2.1 = some (ty0 k)) (hnm : ∀ a, a < Nf → ∀ b, b < Nf → a ≠ b → (T a).2.1 ≠ (T b).2.1) (hi : i < N) (hg : g i = .inr (ci, fs)) (hk : k < Nf) (hl : Cond.fieldLink own index ref (T k).2.1 (T k).2.2.1 ∈ TS) (hsame : ∀ x, s.fieldFound? (T k).1 (T k).2.1 (T k).2.2.1 = some x → s.fieldFound? ref (T k).2.1 (T k).2.2.1 = some x) (hfin : (T k).2.2.2 = false) (hd : parseFieldDescriptor (T k).2.2.1 = some ty) (hn : narrow ty v = v) (hfit : fits ty v = true) (hlen : k < fs.length) (d : decode cc pc = .ok (.putfield index, 3))
    (kk : Go_ p l e R s m args below meth c D cl A nL cells slots Q (wl_ ad N (va_up g i (.inr (ci, fs.set k v)))) (pc + 3) L rest) : Go_ p l e R s m args below meth c D cl A nL cells slots Q (wl_ ad N g) pc L (v :: .ref (ad i) :: rest) := fun H locs ls hP hD hS h =>
  va_put X.1 X.2.1 X.2.2.2.2.1 hin ty0 hty hnm X.2.2.2.1 X.2.2.2.2.2.1 hP hD hS i (by rw [wl_at hi, hg]) hc k hk (X.2.2.2.2.1 _ hl) hsame hfin hd hn hfit hlen d (fun H1 locs1 hP1 hD1 hS1 => kk H1 locs1 ls (by rw [← wl_set]; exact hP1) (by rw [← wl_set]; exact hD1) hS1 h)
theorem go_iald (X : Cx_ p l e R s m args below meth c cc nL own D cl tys TS) {i t0 n : Nat} {cA : ClassId} {f : Nat → Int32} {j : Int32} {j' : Nat} (hi : i < N) (hg : g i = .inl (cA, n, .inl f)) (ht : tys[t0]? = some (cA, .int)) (hj : vp_in j n) (hj' : j.toNatClampNeg = j') (d : decode cc pc = .ok (.iaload, 1))
    (kk : Go_ p l e R s m args below meth c D cl A nL cells slots Q (wl_ ad N g) (pc + 1) L (.int (f j') :: rest)) : Go_ p l e R s m args below meth c D cl A nL cells slots Q (wl_ ad N g) pc L (.int j :: .ref (ad i) :: rest) := fun H locs ls hP hD hS h => by
  subst hj'
  exact va_iald X.1 X.2.1 X.2.2.2.2.2.1 hP i t0 (by rw [wl_at hi, hg]) ht hj d (kk H locs ls hP hD hS h)
theorem go_zald (X : Cx_ p l e R s m args below meth c cc nL own D cl tys TS) {i t0 n : Nat} {cA : ClassId} {f : Nat → Int32} {j : Int32} {j' : Nat} (hi : i < N) (hg : g i = .inl (cA, n, .inl f)) (ht : tys[t0]? = some (cA, .boolean)) (hj : vp_in j n) (hj' : j.toNatClampNeg = j') (d : decode cc pc = .ok (.baload, 1))
    (kk : Go_ p l e R s m args below meth c D cl A nL cells slots Q (wl_ ad N g) (pc + 1) L (.int (f j') :: rest)) : Go_ p l e R s m args below meth c D cl A nL cells slots Q (wl_ ad N g) pc L (.int j :: .ref (ad i) :: rest) := fun H locs ls hP hD hS h => by
  subst hj'
  exact va_zald X.1 X.2.1 X.2.2.2.2.2.1 hP i t0 (by rw [wl_at hi, hg]) ht hj d (kk H locs ls hP hD hS h)
theorem go_iast (X : Cx_ p l e R s m args below meth c cc nL own D cl tys TS) {i t0 n : Nat} {cA : ClassId} {f : Nat → Int32} {j x : Int32} {j' : Nat} (hi : i < N) (hg : g i = .inl (cA, n, .inl f)) (ht : tys[t0]? = some (cA, .int)) (hj : vp_in j n) (hj' : j.toNatClampNeg = j') (d : decode cc pc = .ok (.iastore, 1))
    (kk : Go_ p l e R s m args below meth c D cl A nL cells slots Q (wl_ ad N (va_up g i (.inl (cA, n, .inl (upd f j' x))))) (pc + 1) L rest) : Go_ p l e R s m args below meth c D cl A nL cells slots Q (wl_ ad N g) pc L (.int x :: .int j :: .ref (ad i) :: rest) := fun H locs ls hP hD hS h => by
  subst hj'
  exact va_iast X.1 X.2.1 X.2.2.2.2.2.1 hP hD hS i t0 (by rw [wl_at hi, hg]) ht hj d (fun H1 locs1 hP1 hD1 hS1 => kk H1 locs1 ls (by rw [← wl_set]; exact hP1) (by rw [← wl_set]; exact hD1) hS1 h)
theorem go_zast (X : Cx_ p l e R s m args below meth c cc nL own D cl tys TS) {i t0 n : Nat} {cA : ClassId} {f : Nat → Int32} {j x : Int32} {j' : Nat} (hi : i < N) (hg : g i = .inl (cA, n, .inl f)) (ht : tys[t0]? = some (cA, .boolean)) (hj : vp_in j n) (hj' : j.toNatClampNeg = j') (hx : vp_nar .boolean x = x) (d : decode cc pc = .ok (.bastore, 1))
    (kk : Go_ p l e R s m args below meth c D cl A nL cells slots Q (wl_ ad N (va_up g i (.inl (cA, n, .inl (upd f j' x))))) (pc + 1) L rest) : Go_ p l e R s m args below meth c D cl A nL cells slots Q (wl_ ad N g) pc L (.int x :: .int j :: .ref (ad i) :: rest) := fun H locs ls hP hD hS h => by
  subst hj'
  refine va_zast X.1 X.2.1 X.2.2.2.2.2.1 hP hD hS i t0 (by rw [wl_at hi, hg]) ht hj d (fun H1 locs1 hP1 hD1 hS1 => kk H1 locs1 ls ?_ ?_ hS1 h)
  · rw [hx] at hP1; rw [← wl_set]; exact hP1
  · rw [hx] at hD1; rw [← wl_set]; exact hD1
theorem go_alen (X : Cx_ p l e R s m args below meth c cc nL own D cl tys TS) {i t0 : Nat} {cA : ClassId} {x : vp_A} {ty : FieldType} {v : Int32} (hi : i < N) (hg : g i = .inl (cA, x)) (ht : tys[t0]? = some (cA, ty)) (hv : Int32.ofNat x.1 = v) (d : decode cc pc = .ok (.arraylength, 1))
    (kk : Go_ p l e R s m args below meth c D cl A nL cells slots Q (wl_ ad N g) (pc + 1) L (.int v :: rest)) : Go_ p l e R s m args below meth c D cl A nL cells slots Q (wl_ ad N g) pc L (.ref (ad i) :: rest) := fun H locs ls hP hD hS h =>
  va_alen X.1 X.2.1 X.2.2.2.2.2.1 hP i t0 (by rw [wl_at hi, hg]) ht hv d (kk H locs ls hP hD hS h)
theorem go_aald (X : Cx_ p l e R s m args below meth c cc nL own D cl tys TS) {i t0 n : Nat} {cA : ClassId} {C : String} {f : Nat → Option Nat} {j : Int32} {j' a : Nat} (hi : i < N) (hg : g i = .inl (cA, n, .inr (.inr (.inr (.inr f))))) (ht : tys[t0]? = some (cA, .object C)) (hj : vp_in j n) (hj' : j.toNatClampNeg = j') (ha : f j' = some a) (d : decode cc pc = .ok (.aaload, 1))
    (kk : Go_ p l e R s m args below meth c D cl A nL cells slots Q (wl_ ad N g) (pc + 1) L (.ref a :: rest)) : Go_ p l e R s m args below meth c D cl A nL cells slots Q (wl_ ad N g) pc L (.int j :: .ref (ad i) :: rest) := fun H locs ls hP hD hS h => by
  subst hj'
  refine va_aldq X.1 X.2.1 X.2.2.2.2.2.1 hP i t0 (by rw [wl_at hi, hg]) ht hj d ?_
  rw [ha]
  exact kk H locs ls hP hD hS h
/-- an array's contents matter up to its length -/
theorem go_arr {i n : Nat} {cA : ClassId} {f f' : Nat → Int32} (hf : ∀ j, j < n → f j = f' j) (kk : Go_ p l e R s m args below meth c D cl A nL cells slots Q (wl_ ad N (va_up g i (.inl (cA, n, .inl f')))) pc L rest) : Go_ p l e R s m args below meth c D cl A nL cells slots Q (wl_ ad N (va_up g i (.inl (cA, n, .inl f)))) pc L rest := fun H locs ls hP hD hS h => by
  refine kk H locs ls (fun k q hk => ?_) ⟨fun a b x y ha hb hxy => ?_, fun k q hk => ?_⟩ hS h
  · by_cases hkN : k < N
    · rw [wl_at hkN] at hk
      by_cases e : k = i
      · subst e
        rw [va_up_self] at hk
        have h1 := hP k _ (wl_at hkN)
        rw [va_up_self] at h1
        cases hk
        have h2 : H[ad k]? = some (vp_cell cA (n, .inl f)) := h1
        show H[ad k]? = some (vp_cell cA (n, .inl f'))
        rw [h2]
        congr 1
        exact arr_same hf
      · rw [va_up_ne _ _ e] at hk
        have h1 := hP k _ (wl_at hkN)
        rw [va_up_ne _ _ e] at h1
        cases hk
        exact h1
    · rw [wl_none (Nat.not_lt.mp hkN)] at hk
      cases hk
  · have key : ∀ {k : Nat} {q : Nat × va_E}, (wl_ ad N (va_up g i (.inl (cA, n, .inl f'))))[k]? = some q → ∃ q' : Nat × va_E, (wl_ ad N (va_up g i (.inl (cA, n, .inl f))))[k]? = some q' ∧ q'.1 = q.1 := fun {k} {q} hk => by
      by_cases hkN : k < N
      · rw [wl_at hkN] at hk ⊢
        cases hk
        exact ⟨_, rfl, rfl⟩
      · rw [wl_none (Nat.not_lt.mp hkN)] at hk
        cases hk
    obtain ⟨x', hx', ex⟩ := key ha
    obtain ⟨y', hy', ey⟩ := key hb
    exact hD.1 a b x' y' hx' hy' (by rw [ex, ey]; exact hxy)
  · by_cases hkN : k < N
    · rw [wl_at hkN] at hk
      cases hk
      exact hD.2 k (ad k, va_up g i (.inl (cA, n, .inl f)) k) (wl_at hkN)
    · rw [wl_none (Nat.not_lt.mp hkN)] at hk
      cases hk
end MEM

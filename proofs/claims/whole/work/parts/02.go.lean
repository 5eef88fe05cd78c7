section GO_A
/-- the value of a local, by its number -/
def lk_ : List (Nat × Value) → Nat → Option Value
  | [], _ => none
  | q :: t, i => bif Nat.beq q.1 i then some q.2 else lk_ t i
def rm_ : List (Nat × Value) → Nat → List (Nat × Value)
  | [], _ => []
  | q :: t, i => bif Nat.beq q.1 i then rm_ t i else q :: rm_ t i
def sv_ (L : List (Nat × Value)) (i : Nat) (v : Value) : List (Nat × Value) := (i, v) :: rm_ L i
/-- the locals: those listed, each of one slot -/
def lh_ (ls : Array Slot) (nL : Nat) (L : List (Nat × Value)) : Prop := lv_has ls nL L ∧ ∀ q ∈ L, q.2.category = 1
theorem lk_mem {L : List (Nat × Value)} {i : Nat} {v : Value} (h : lk_ L i = some v) : (i, v) ∈ L := by
  induction L with
  | nil => cases h
  | cons q t ih =>
    unfold lk_ at h
    cases hb : Nat.beq q.1 i with
    | true =>
      rw [hb] at h
      have h1 : q.2 = v := Option.some.inj h
      have h2 : q.1 = i := Nat.eq_of_beq_eq_true hb
      rw [← h1, ← h2]
      exact List.mem_cons_self
    | false =>
      rw [hb] at h
      exact List.mem_cons_of_mem _ (ih h)
theorem rm_mem {L : List (Nat × Value)} {i : Nat} {q : Nat × Value} (h : q ∈ rm_ L i) : q ∈ L ∧ q.1 ≠ i := by
  induction L with
  | nil => cases h
  | cons x t ih =>
    unfold rm_ at h
    cases hb : Nat.beq x.1 i with
    | true =>
      rw [hb] at h
      obtain ⟨h1, h2⟩ := ih h
      exact ⟨List.mem_cons_of_mem _ h1, h2⟩
    | false =>
      rw [hb] at h
      have h3 : q ∈ x :: rm_ t i := h
      rcases List.mem_cons.mp h3 with rfl | h4
      · exact ⟨List.mem_cons_self, Nat.ne_of_beq_eq_false hb⟩
      · obtain ⟨h1, h2⟩ := ih h4
        exact ⟨List.mem_cons_of_mem _ h1, h2⟩
theorem lh_get {ls : Array Slot} {nL : Nat} {L : List (Nat × Value)} {i : Nat} {v : Value} (h : lh_ ls nL L) (hk : lk_ L i = some v) : ls[i]? = some (.val v) := h.1.2.2 (i, v) (lk_mem hk)
theorem lh_set {ls' : Array Slot} {nL : Nat} {L : List (Nat × Value)} {i : Nat} {v : Value} (hv : v.category = 1) (hL : ∀ q ∈ L, q.2.category = 1) (h : lv_has ls' nL ((i, v) :: L.filter (fun q => !(q.1 == i) && !(q.1 + 1 == i && q.2.category == 2)))) : lh_ ls' nL (sv_ L i v) := by
  refine ⟨⟨h.1, h.2.1, fun q hq => h.2.2 q ?_⟩, fun q hq => ?_⟩
  · rcases List.mem_cons.mp hq with rfl | hq
    · exact List.mem_cons_self
    · obtain ⟨h1, h2⟩ := rm_mem hq
      refine List.mem_cons_of_mem _ (List.mem_filter.mpr ⟨h1, ?_⟩)
      have h3 := hL q h1
      simp [h2, h3]
  · rcases List.mem_cons.mp hq with rfl | hq
    · exact hv
    · exact hL q (rm_mem hq).1
theorem lh_sub {ls : Array Slot} {nL : Nat} {L L' : List (Nat × Value)} (h : lh_ ls nL L) (hs : L'.map (fun q => lk_ L q.1) = L'.map (fun q => some q.2)) : lh_ ls nL L' := by
  have key : ∀ q ∈ L', q ∈ L := by
    intro q hq
    obtain ⟨k, hk⟩ := List.getElem?_of_mem hq
    have h1 : (L'.map (fun q => lk_ L q.1))[k]? = (L'.map (fun q => some q.2))[k]? := by rw [hs]
    rw [List.getElem?_map, List.getElem?_map, hk] at h1
    exact lk_mem (Option.some.inj h1)
  exact ⟨⟨h.1.1, h.1.2.1, fun q hq => h.1.2.2 q (key q hq)⟩, fun q hq => h.2 q (key q hq)⟩
theorem lk_at {L : List (Nat × Value)} {i : Nat} {v : Value} (h : lk_ L i = some v) : ∃ k : Nat, L[k]? = some (i, v) := List.getElem?_of_mem (lk_mem h)
/-- a world of N places: place i lies at ad i and holds g i -/
def wl_ (ad : Nat → Nat) (N : Nat) (g : Nat → va_E) : va_W := (List.range N).map (fun i => (ad i, g i))
theorem wl_at {ad : Nat → Nat} {N : Nat} {g : Nat → va_E} {i : Nat} (h : i < N) : (wl_ ad N g)[i]? = some (ad i, g i) := by
  unfold wl_
  rw [List.getElem?_map, List.getElem?_range h]
  rfl
theorem wl_none {ad : Nat → Nat} {N : Nat} {g : Nat → va_E} {i : Nat} (h : N ≤ i) : (wl_ ad N g)[i]? = none := by
  unfold wl_
  rw [List.getElem?_eq_none]
  rw [List.length_map, List.length_range]
  exact h
theorem wl_set {ad : Nat → Nat} {N : Nat} {g : Nat → va_E} {i : Nat} (x : va_E) : (wl_ ad N g).set i (ad i, x) = wl_ ad N (va_up g i x) := by
  apply List.ext_getElem?
  intro j
  rw [List.getElem?_set]
  by_cases hj : i = j
  · subst hj
    rw [if_pos rfl]
    by_cases h : i < N
    · rw [if_pos (by unfold wl_; rw [List.length_map, List.length_range]; exact h), wl_at h, va_up_self]
    · rw [if_neg (by unfold wl_; rw [List.length_map, List.length_range]; exact h), wl_none (Nat.not_lt.mp h)]
  · rw [if_neg hj]
    by_cases h : j < N
    · rw [wl_at h, wl_at h, va_up_ne _ _ (fun q => hj q.symm)]
    · rw [wl_none (Nat.not_lt.mp h), wl_none (Nat.not_lt.mp h)]
theorem wl_congr {ad : Nat → Nat} {N : Nat} {g g' : Nat → va_E} (h : ∀ i, i < N → g i = g' i) : wl_ ad N g = wl_ ad N g' := by
  apply List.ext_getElem?
  intro j
  by_cases hj : j < N
  · rw [wl_at hj, wl_at hj, h j hj]
  · rw [wl_none (Nat.not_lt.mp hj), wl_none (Nat.not_lt.mp hj)]
end GO_A
section GO_B
/-- what a method's walk knows all along -/
def Cx_ (p : Program) (l : Launch) (e : Env) (R : Room) (s : State) (m : MethodId) (args : Array Value) (below : List Frame) (meth : Method) (c : Code) (cc : ByteArray) (nL : Nat) (own : String) (D : va_G) (cl : List vw_C) (tys : List (ClassId × FieldType)) (TS : List Cond) : Prop :=
  p.tables.exec = Jvm.exec ∧ c.code = cc ∧ c.maxLocals = nL ∧ s.vm.findClass own = some m.cls ∧ (∀ w ∈ TS, w.before args s = true) ∧ va_K D cl tys s ∧ meth.locks = false
/-- the walk at pc, over the world w: from every heap that holds it -/
def Go_ (p : Program) (l : Launch) (e : Env) (R : Room) (s : State) (m : MethodId) (args : Array Value) (below : List Frame) (meth : Method) (c : Code) (D : va_G) (cl : List vw_C) (A : Nat → Prop) (nL cells slots : Nat) (Q : State → Prop) (w : va_W) (pc : Nat) (L : List (Nat × Value)) (st : List Value) : Prop :=
  ∀ (H : Heap) (locs : List Loc) (ls : Array Slot), va_P D cl w H → va_D A w → va_S A s.heap H locs → lh_ ls nL L → W p l e R s m args below meth c H locs cells slots Q (F0 m pc ls st)
variable {p : Program} {l : Launch} {e : Env} {R : Room} {s : State} {m : MethodId} {args : Array Value} {below : List Frame} {meth : Method} {c : Code} {D : va_G} {cl : List vw_C} {A : Nat → Prop} {nL cells slots : Nat} {Q : State → Prop} {w : va_W}
variable {cc : ByteArray} {own : String} {tys : List (ClassId × FieldType)} {TS : List Cond} {pc : Nat} {L : List (Nat × Value)} {rest : List Value}
theorem go_iconst (X : Cx_ p l e R s m args below meth c cc nL own D cl tys TS) {n : Int} {v : Int32} (hv : Int32.ofInt n = v) (d : decode cc pc = .ok (.iconst n, 1)) (k : Go_ p l e R s m args below meth c D cl A nL cells slots Q w (pc + 1) L (.int v :: rest)) : Go_ p l e R s m args below meth c D cl A nL cells slots Q w pc L rest := fun H locs ls hP hD hS hl => lv_iconst X.1 X.2.1 d hv (k H locs ls hP hD hS hl)
theorem go_bipush (X : Cx_ p l e R s m args below meth c cc nL own D cl tys TS) {n : Int} {v : Int32} (hv : (Int8.ofInt n).toInt32 = v) (d : decode cc pc = .ok (.bipush n, 2)) (k : Go_ p l e R s m args below meth c D cl A nL cells slots Q w (pc + 2) L (.int v :: rest)) : Go_ p l e R s m args below meth c D cl A nL cells slots Q w pc L rest := fun H locs ls hP hD hS hl => lv_bipush X.1 X.2.1 d hv (k H locs ls hP hD hS hl)
theorem go_sipush (X : Cx_ p l e R s m args below meth c cc nL own D cl tys TS) {n : Int} {v : Int32} (hv : (Int16.ofInt n).toInt32 = v) (d : decode cc pc = .ok (.sipush n, 3)) (k : Go_ p l e R s m args below meth c D cl A nL cells slots Q w (pc + 3) L (.int v :: rest)) : Go_ p l e R s m args below meth c D cl A nL cells slots Q w pc L rest := fun H locs ls hP hD hS hl => lv_sipush X.1 X.2.1 d hv (k H locs ls hP hD hS hl)
theorem go_ldc (X : Cx_ p l e R s m args below meth c cc nL own D cl tys TS) {index : Nat} {v : Int32} (hc : Cond.constant own index v ∈ TS) (d : decode cc pc = .ok (.ldc index, 2)) (k : Go_ p l e R s m args below meth c D cl A nL cells slots Q w (pc + 2) L (.int v :: rest)) : Go_ p l e R s m args below meth c D cl A nL cells slots Q w pc L rest := fun H locs ls hP hD hS hl => lv_ldc X.1 X.2.1 X.2.2.2.1 (X.2.2.2.2.1 _ hc) d (k H locs ls hP hD hS hl)
theorem go_iload_n (X : Cx_ p l e R s m args below meth c cc nL own D cl tys TS) {j : Fin 4} {i : Nat} {x : Int32} (hi : (j : Nat) = i) (hk : lk_ L i = some (.int x)) (d : decode cc pc = .ok (.iload_n j, 1)) (k : Go_ p l e R s m args below meth c D cl A nL cells slots Q w (pc + 1) L (.int x :: rest)) : Go_ p l e R s m args below meth c D cl A nL cells slots Q w pc L rest := fun H locs ls hP hD hS hl => lv_iload_n X.1 X.2.1 d hi (lh_get hl hk) (k H locs ls hP hD hS hl)
theorem go_iload (X : Cx_ p l e R s m args below meth c cc nL own D cl tys TS) {i : Nat} {x : Int32} (hk : lk_ L i = some (.int x)) (d : decode cc pc = .ok (.iload i, 2)) (k : Go_ p l e R s m args below meth c D cl A nL cells slots Q w (pc + 2) L (.int x :: rest)) : Go_ p l e R s m args below meth c D cl A nL cells slots Q w pc L rest := fun H locs ls hP hD hS hl => lv_iload X.1 X.2.1 d (lh_get hl hk) (k H locs ls hP hD hS hl)
theorem go_aload_n (X : Cx_ p l e R s m args below meth c cc nL own D cl tys TS) {j : Fin 4} {i : Nat} {x : Nat} (hi : (j : Nat) = i) (hk : lk_ L i = some (.ref x)) (d : decode cc pc = .ok (.aload_n j, 1)) (k : Go_ p l e R s m args below meth c D cl A nL cells slots Q w (pc + 1) L (.ref x :: rest)) : Go_ p l e R s m args below meth c D cl A nL cells slots Q w pc L rest := fun H locs ls hP hD hS hl => lv_aload_n X.1 X.2.1 d hi (lh_get hl hk) (k H locs ls hP hD hS hl)
theorem go_aload (X : Cx_ p l e R s m args below meth c cc nL own D cl tys TS) {i : Nat} {x : Nat} (hk : lk_ L i = some (.ref x)) (d : decode cc pc = .ok (.aload i, 2)) (k : Go_ p l e R s m args below meth c D cl A nL cells slots Q w (pc + 2) L (.ref x :: rest)) : Go_ p l e R s m args below meth c D cl A nL cells slots Q w pc L rest := fun H locs ls hP hD hS hl => lv_aload X.1 X.2.1 d (lh_get hl hk) (k H locs ls hP hD hS hl)
theorem go_aloadN_n (X : Cx_ p l e R s m args below meth c cc nL own D cl tys TS) {j : Fin 4} {i : Nat} (hi : (j : Nat) = i) (hk : lk_ L i = some (.null)) (d : decode cc pc = .ok (.aload_n j, 1)) (k : Go_ p l e R s m args below meth c D cl A nL cells slots Q w (pc + 1) L (.null :: rest)) : Go_ p l e R s m args below meth c D cl A nL cells slots Q w pc L rest := fun H locs ls hP hD hS hl => lv_aload_nN X.1 X.2.1 d hi (lh_get hl hk) (k H locs ls hP hD hS hl)
theorem go_aloadN (X : Cx_ p l e R s m args below meth c cc nL own D cl tys TS) {i : Nat} (hk : lk_ L i = some (.null)) (d : decode cc pc = .ok (.aload i, 2)) (k : Go_ p l e R s m args below meth c D cl A nL cells slots Q w (pc + 2) L (.null :: rest)) : Go_ p l e R s m args below meth c D cl A nL cells slots Q w pc L rest := fun H locs ls hP hD hS hl => lv_aloadN X.1 X.2.1 d (lh_get hl hk) (k H locs ls hP hD hS hl)
theorem go_istore_n (X : Cx_ p l e R s m args below meth c cc nL own D cl tys TS) {j : Fin 4} {i : Nat} {x : Int32} (hi : (j : Nat) = i) (hn : i < nL) (d : decode cc pc = .ok (.istore_n j, 1)) (k : Go_ p l e R s m args below meth c D cl A nL cells slots Q w (pc + 1) (sv_ L i (.int x)) rest) : Go_ p l e R s m args below meth c D cl A nL cells slots Q w pc L (.int x :: rest) := fun H locs ls hP hD hS hl => lv_istore_n X.1 X.2.1 d hi hl.1 hn rfl (fun ls' h' => k H locs ls' hP hD hS (lh_set rfl hl.2 h'))
theorem go_istore (X : Cx_ p l e R s m args below meth c cc nL own D cl tys TS) {i : Nat} {x : Int32} (hn : i < nL) (d : decode cc pc = .ok (.istore i, 2)) (k : Go_ p l e R s m args below meth c D cl A nL cells slots Q w (pc + 2) (sv_ L i (.int x)) rest) : Go_ p l e R s m args below meth c D cl A nL cells slots Q w pc L (.int x :: rest) := fun H locs ls hP hD hS hl => lv_istore X.1 X.2.1 d hl.1 hn rfl (fun ls' h' => k H locs ls' hP hD hS (lh_set rfl hl.2 h'))
theorem go_astore_n (X : Cx_ p l e R s m args below meth c cc nL own D cl tys TS) {j : Fin 4} {i : Nat} {x : Nat} (hi : (j : Nat) = i) (hn : i < nL) (d : decode cc pc = .ok (.astore_n j, 1)) (k : Go_ p l e R s m args below meth c D cl A nL cells slots Q w (pc + 1) (sv_ L i (.ref x)) rest) : Go_ p l e R s m args below meth c D cl A nL cells slots Q w pc L (.ref x :: rest) := fun H locs ls hP hD hS hl => lv_astore_n X.1 X.2.1 d hi hl.1 hn rfl (fun ls' h' => k H locs ls' hP hD hS (lh_set rfl hl.2 h'))
theorem go_astore (X : Cx_ p l e R s m args below meth c cc nL own D cl tys TS) {i : Nat} {x : Nat} (hn : i < nL) (d : decode cc pc = .ok (.astore i, 2)) (k : Go_ p l e R s m args below meth c D cl A nL cells slots Q w (pc + 2) (sv_ L i (.ref x)) rest) : Go_ p l e R s m args below meth c D cl A nL cells slots Q w pc L (.ref x :: rest) := fun H locs ls hP hD hS hl => lv_astore X.1 X.2.1 d hl.1 hn rfl (fun ls' h' => k H locs ls' hP hD hS (lh_set rfl hl.2 h'))
theorem go_astoreN_n (X : Cx_ p l e R s m args below meth c cc nL own D cl tys TS) {j : Fin 4} {i : Nat} (hi : (j : Nat) = i) (hn : i < nL) (d : decode cc pc = .ok (.astore_n j, 1)) (k : Go_ p l e R s m args below meth c D cl A nL cells slots Q w (pc + 1) (sv_ L i (.null)) rest) : Go_ p l e R s m args below meth c D cl A nL cells slots Q w pc L (.null :: rest) := fun H locs ls hP hD hS hl => lv_astore_nN X.1 X.2.1 d hi hl.1 hn rfl (fun ls' h' => k H locs ls' hP hD hS (lh_set rfl hl.2 h'))
theorem go_astoreN (X : Cx_ p l e R s m args below meth c cc nL own D cl tys TS) {i : Nat} (hn : i < nL) (d : decode cc pc = .ok (.astore i, 2)) (k : Go_ p l e R s m args below meth c D cl A nL cells slots Q w (pc + 2) (sv_ L i (.null)) rest) : Go_ p l e R s m args below meth c D cl A nL cells slots Q w pc L (.null :: rest) := fun H locs ls hP hD hS hl => lv_astoreN X.1 X.2.1 d hl.1 hn rfl (fun ls' h' => k H locs ls' hP hD hS (lh_set rfl hl.2 h'))
theorem go_iinc (X : Cx_ p l e R s m args below meth c cc nL own D cl tys TS) {i : Nat} {n : Int} {x v : Int32} (hk : lk_ L i = some (.int x)) (hv : x + Int32.ofInt n = v) (hn : i < nL) (d : decode cc pc = .ok (.iinc i n, 3)) (k : Go_ p l e R s m args below meth c D cl A nL cells slots Q w (pc + 3) (sv_ L i (.int v)) rest) : Go_ p l e R s m args below meth c D cl A nL cells slots Q w pc L rest := fun H locs ls hP hD hS hl => by
  obtain ⟨k9, hk9⟩ := lk_at hk
  exact lv_iinc X.1 X.2.1 d hl.1 hk9 hv hn rfl (fun ls' h' => k H locs ls' hP hD hS (lh_set rfl hl.2 h'))
theorem go_iadd (X : Cx_ p l e R s m args below meth c cc nL own D cl tys TS) {x y : Int32} (d : decode cc pc = .ok (.iadd, 1)) (k : Go_ p l e R s m args below meth c D cl A nL cells slots Q w (pc + 1) L (.int (x + y) :: rest)) : Go_ p l e R s m args below meth c D cl A nL cells slots Q w pc L (.int y :: .int x :: rest) := fun H locs ls hP hD hS hl => lv_iadd X.1 X.2.1 d (k H locs ls hP hD hS hl)
theorem go_isub (X : Cx_ p l e R s m args below meth c cc nL own D cl tys TS) {x y : Int32} (d : decode cc pc = .ok (.isub, 1)) (k : Go_ p l e R s m args below meth c D cl A nL cells slots Q w (pc + 1) L (.int (x - y) :: rest)) : Go_ p l e R s m args below meth c D cl A nL cells slots Q w pc L (.int y :: .int x :: rest) := fun H locs ls hP hD hS hl => lv_isub X.1 X.2.1 d (k H locs ls hP hD hS hl)
theorem go_imul (X : Cx_ p l e R s m args below meth c cc nL own D cl tys TS) {x y : Int32} (d : decode cc pc = .ok (.imul, 1)) (k : Go_ p l e R s m args below meth c D cl A nL cells slots Q w (pc + 1) L (.int (x * y) :: rest)) : Go_ p l e R s m args below meth c D cl A nL cells slots Q w pc L (.int y :: .int x :: rest) := fun H locs ls hP hD hS hl => lv_imul X.1 X.2.1 d (k H locs ls hP hD hS hl)
theorem go_iand (X : Cx_ p l e R s m args below meth c cc nL own D cl tys TS) {x y : Int32} (d : decode cc pc = .ok (.iand, 1)) (k : Go_ p l e R s m args below meth c D cl A nL cells slots Q w (pc + 1) L (.int (x &&& y) :: rest)) : Go_ p l e R s m args below meth c D cl A nL cells slots Q w pc L (.int y :: .int x :: rest) := fun H locs ls hP hD hS hl => lv_iand X.1 X.2.1 d (k H locs ls hP hD hS hl)
theorem go_irem (X : Cx_ p l e R s m args below meth c cc nL own D cl tys TS) {x y : Int32} (hne : ¬ y = 0) (d : decode cc pc = .ok (.irem, 1)) (k : Go_ p l e R s m args below meth c D cl A nL cells slots Q w (pc + 1) L (.int (x - x / y * y) :: rest)) : Go_ p l e R s m args below meth c D cl A nL cells slots Q w pc L (.int y :: .int x :: rest) := fun H locs ls hP hD hS hl => lv_irem X.1 X.2.1 d hne (k H locs ls hP hD hS hl)
theorem go_iushr (X : Cx_ p l e R s m args below meth c cc nL own D cl tys TS) {x y : Int32} (d : decode cc pc = .ok (.iushr, 1)) (k : Go_ p l e R s m args below meth c D cl A nL cells slots Q w (pc + 1) L (.int (x.toUInt32 >>> (y.toUInt32 &&& Int32.toUInt32 31)).toInt32 :: rest)) : Go_ p l e R s m args below meth c D cl A nL cells slots Q w pc L (.int y :: .int x :: rest) := fun H locs ls hP hD hS hl => lv_iushr X.1 X.2.1 d rfl (k H locs ls hP hD hS hl)
theorem go_i2l (X : Cx_ p l e R s m args below meth c cc nL own D cl tys TS) {x : Int32} (d : decode cc pc = .ok (.i2l, 1)) (k : Go_ p l e R s m args below meth c D cl A nL cells slots Q w (pc + 1) L (.long x.toInt64 :: rest)) : Go_ p l e R s m args below meth c D cl A nL cells slots Q w pc L (.int x :: rest) := fun H locs ls hP hD hS hl => lv_i2l X.1 X.2.1 d rfl (k H locs ls hP hD hS hl)
theorem go_dup (X : Cx_ p l e R s m args below meth c cc nL own D cl tys TS) {v : Value} (hv : v.category = 1) (d : decode cc pc = .ok (.dup, 1)) (k : Go_ p l e R s m args below meth c D cl A nL cells slots Q w (pc + 1) L (v :: v :: rest)) : Go_ p l e R s m args below meth c D cl A nL cells slots Q w pc L (v :: rest) := fun H locs ls hP hD hS hl => lv_dup X.1 X.2.1 d hv (k H locs ls hP hD hS hl)
theorem go_pop (X : Cx_ p l e R s m args below meth c cc nL own D cl tys TS) {v : Value} (hv : v.category = 1) (d : decode cc pc = .ok (.pop, 1)) (k : Go_ p l e R s m args below meth c D cl A nL cells slots Q w (pc + 1) L rest) : Go_ p l e R s m args below meth c D cl A nL cells slots Q w pc L (v :: rest) := fun H locs ls hP hD hS hl => lv_pop X.1 X.2.1 d hv (k H locs ls hP hD hS hl)
theorem go_dup2 (X : Cx_ p l e R s m args below meth c cc nL own D cl tys TS) {v u : Value} (hv : v.category = 1) (hu : u.category = 1) (d : decode cc pc = .ok (.dup2, 1)) (k : Go_ p l e R s m args below meth c D cl A nL cells slots Q w (pc + 1) L (v :: u :: v :: u :: rest)) : Go_ p l e R s m args below meth c D cl A nL cells slots Q w pc L (v :: u :: rest) := fun H locs ls hP hD hS hl => lv_dup2_11 X.1 X.2.1 d hv hu (k H locs ls hP hD hS hl)
theorem go_if_eq (X : Cx_ p l e R s m args below meth c cc nL own D cl tys TS) {x : Int32} {off : Int} {tgt : Nat} (d : decode cc pc = .ok (.ifCond .eq off, 3)) (ht : (pc : Int) + off = (tgt : Int)) (kt : x = 0 → Go_ p l e R s m args below meth c D cl A nL cells slots Q w tgt L rest) (kf : ¬ (x = 0) → Go_ p l e R s m args below meth c D cl A nL cells slots Q w (pc + 3) L rest) : Go_ p l e R s m args below meth c D cl A nL cells slots Q w pc L (.int x :: rest) := fun H locs ls hP hD hS hl => lv_if_eq X.1 X.2.1 d ht (fun h => kt h H locs ls hP hD hS hl) (fun h => kf h H locs ls hP hD hS hl)
theorem go_if_ne (X : Cx_ p l e R s m args below meth c cc nL own D cl tys TS) {x : Int32} {off : Int} {tgt : Nat} (d : decode cc pc = .ok (.ifCond .ne off, 3)) (ht : (pc : Int) + off = (tgt : Int)) (kt : ¬ x = 0 → Go_ p l e R s m args below meth c D cl A nL cells slots Q w tgt L rest) (kf : x = 0 → Go_ p l e R s m args below meth c D cl A nL cells slots Q w (pc + 3) L rest) : Go_ p l e R s m args below meth c D cl A nL cells slots Q w pc L (.int x :: rest) := fun H locs ls hP hD hS hl => lv_if_ne X.1 X.2.1 d ht (fun h => kt h H locs ls hP hD hS hl) (fun h => kf h H locs ls hP hD hS hl)
theorem go_if_lt (X : Cx_ p l e R s m args below meth c cc nL own D cl tys TS) {x : Int32} {off : Int} {tgt : Nat} (d : decode cc pc = .ok (.ifCond .lt off, 3)) (ht : (pc : Int) + off = (tgt : Int)) (kt : x < 0 → Go_ p l e R s m args below meth c D cl A nL cells slots Q w tgt L rest) (kf : ¬ (x < 0) → Go_ p l e R s m args below meth c D cl A nL cells slots Q w (pc + 3) L rest) : Go_ p l e R s m args below meth c D cl A nL cells slots Q w pc L (.int x :: rest) := fun H locs ls hP hD hS hl => lv_if_lt X.1 X.2.1 d ht (fun h => kt h H locs ls hP hD hS hl) (fun h => kf h H locs ls hP hD hS hl)
theorem go_if_ge (X : Cx_ p l e R s m args below meth c cc nL own D cl tys TS) {x : Int32} {off : Int} {tgt : Nat} (d : decode cc pc = .ok (.ifCond .ge off, 3)) (ht : (pc : Int) + off = (tgt : Int)) (kt : 0 ≤ x → Go_ p l e R s m args below meth c D cl A nL cells slots Q w tgt L rest) (kf : ¬ (0 ≤ x) → Go_ p l e R s m args below meth c D cl A nL cells slots Q w (pc + 3) L rest) : Go_ p l e R s m args below meth c D cl A nL cells slots Q w pc L (.int x :: rest) := fun H locs ls hP hD hS hl => lv_if_ge X.1 X.2.1 d ht (fun h => kt h H locs ls hP hD hS hl) (fun h => kf h H locs ls hP hD hS hl)
theorem go_if_gt (X : Cx_ p l e R s m args below meth c cc nL own D cl tys TS) {x : Int32} {off : Int} {tgt : Nat} (d : decode cc pc = .ok (.ifCond .gt off, 3)) (ht : (pc : Int) + off = (tgt : Int)) (kt : 0 < x → Go_ p l e R s m args below meth c D cl A nL cells slots Q w tgt L rest) (kf : ¬ (0 < x) → Go_ p l e R s m args below meth c D cl A nL cells slots Q w (pc + 3) L rest) : Go_ p l e R s m args below meth c D cl A nL cells slots Q w pc L (.int x :: rest) := fun H locs ls hP hD hS hl => lv_if_gt X.1 X.2.1 d ht (fun h => kt h H locs ls hP hD hS hl) (fun h => kf h H locs ls hP hD hS hl)
theorem go_if_le (X : Cx_ p l e R s m args below meth c cc nL own D cl tys TS) {x : Int32} {off : Int} {tgt : Nat} (d : decode cc pc = .ok (.ifCond .le off, 3)) (ht : (pc : Int) + off = (tgt : Int)) (kt : x ≤ 0 → Go_ p l e R s m args below meth c D cl A nL cells slots Q w tgt L rest) (kf : ¬ (x ≤ 0) → Go_ p l e R s m args below meth c D cl A nL cells slots Q w (pc + 3) L rest) : Go_ p l e R s m args below meth c D cl A nL cells slots Q w pc L (.int x :: rest) := fun H locs ls hP hD hS hl => lv_if_le X.1 X.2.1 d ht (fun h => kt h H locs ls hP hD hS hl) (fun h => kf h H locs ls hP hD hS hl)
theorem go_icmp_eq (X : Cx_ p l e R s m args below meth c cc nL own D cl tys TS) {x y : Int32} {off : Int} {tgt : Nat} (d : decode cc pc = .ok (.if_icmp .eq off, 3)) (ht : (pc : Int) + off = (tgt : Int)) (kt : x = y → Go_ p l e R s m args below meth c D cl A nL cells slots Q w tgt L rest) (kf : ¬ (x = y) → Go_ p l e R s m args below meth c D cl A nL cells slots Q w (pc + 3) L rest) : Go_ p l e R s m args below meth c D cl A nL cells slots Q w pc L (.int y :: .int x :: rest) := fun H locs ls hP hD hS hl => lv_icmp_eq X.1 X.2.1 d ht (fun h => kt h H locs ls hP hD hS hl) (fun h => kf h H locs ls hP hD hS hl)
theorem go_icmp_ne (X : Cx_ p l e R s m args below meth c cc nL own D cl tys TS) {x y : Int32} {off : Int} {tgt : Nat} (d : decode cc pc = .ok (.if_icmp .ne off, 3)) (ht : (pc : Int) + off = (tgt : Int)) (kt : ¬ x = y → Go_ p l e R s m args below meth c D cl A nL cells slots Q w tgt L rest) (kf : x = y → Go_ p l e R s m args below meth c D cl A nL cells slots Q w (pc + 3) L rest) : Go_ p l e R s m args below meth c D cl A nL cells slots Q w pc L (.int y :: .int x :: rest) := fun H locs ls hP hD hS hl => lv_icmp_ne X.1 X.2.1 d ht (fun h => kt h H locs ls hP hD hS hl) (fun h => kf h H locs ls hP hD hS hl)
theorem go_icmp_lt (X : Cx_ p l e R s m args below meth c cc nL own D cl tys TS) {x y : Int32} {off : Int} {tgt : Nat} (d : decode cc pc = .ok (.if_icmp .lt off, 3)) (ht : (pc : Int) + off = (tgt : Int)) (kt : x < y → Go_ p l e R s m args below meth c D cl A nL cells slots Q w tgt L rest) (kf : ¬ (x < y) → Go_ p l e R s m args below meth c D cl A nL cells slots Q w (pc + 3) L rest) : Go_ p l e R s m args below meth c D cl A nL cells slots Q w pc L (.int y :: .int x :: rest) := fun H locs ls hP hD hS hl => lv_icmp_lt X.1 X.2.1 d ht (fun h => kt h H locs ls hP hD hS hl) (fun h => kf h H locs ls hP hD hS hl)
theorem go_icmp_ge (X : Cx_ p l e R s m args below meth c cc nL own D cl tys TS) {x y : Int32} {off : Int} {tgt : Nat} (d : decode cc pc = .ok (.if_icmp .ge off, 3)) (ht : (pc : Int) + off = (tgt : Int)) (kt : y ≤ x → Go_ p l e R s m args below meth c D cl A nL cells slots Q w tgt L rest) (kf : ¬ (y ≤ x) → Go_ p l e R s m args below meth c D cl A nL cells slots Q w (pc + 3) L rest) : Go_ p l e R s m args below meth c D cl A nL cells slots Q w pc L (.int y :: .int x :: rest) := fun H locs ls hP hD hS hl => lv_icmp_ge X.1 X.2.1 d ht (fun h => kt h H locs ls hP hD hS hl) (fun h => kf h H locs ls hP hD hS hl)
theorem go_icmp_gt (X : Cx_ p l e R s m args below meth c cc nL own D cl tys TS) {x y : Int32} {off : Int} {tgt : Nat} (d : decode cc pc = .ok (.if_icmp .gt off, 3)) (ht : (pc : Int) + off = (tgt : Int)) (kt : y < x → Go_ p l e R s m args below meth c D cl A nL cells slots Q w tgt L rest) (kf : ¬ (y < x) → Go_ p l e R s m args below meth c D cl A nL cells slots Q w (pc + 3) L rest) : Go_ p l e R s m args below meth c D cl A nL cells slots Q w pc L (.int y :: .int x :: rest) := fun H locs ls hP hD hS hl => lv_icmp_gt X.1 X.2.1 d ht (fun h => kt h H locs ls hP hD hS hl) (fun h => kf h H locs ls hP hD hS hl)
theorem go_icmp_le (X : Cx_ p l e R s m args below meth c cc nL own D cl tys TS) {x y : Int32} {off : Int} {tgt : Nat} (d : decode cc pc = .ok (.if_icmp .le off, 3)) (ht : (pc : Int) + off = (tgt : Int)) (kt : x ≤ y → Go_ p l e R s m args below meth c D cl A nL cells slots Q w tgt L rest) (kf : ¬ (x ≤ y) → Go_ p l e R s m args below meth c D cl A nL cells slots Q w (pc + 3) L rest) : Go_ p l e R s m args below meth c D cl A nL cells slots Q w pc L (.int y :: .int x :: rest) := fun H locs ls hP hD hS hl => lv_icmp_le X.1 X.2.1 d ht (fun h => kt h H locs ls hP hD hS hl) (fun h => kf h H locs ls hP hD hS hl)
theorem go_goto (X : Cx_ p l e R s m args below meth c cc nL own D cl tys TS) {off : Int} {tgt : Nat} (d : decode cc pc = .ok (.goto off, 3)) (ht : (pc : Int) + off = (tgt : Int)) (k : Go_ p l e R s m args below meth c D cl A nL cells slots Q w tgt L rest) : Go_ p l e R s m args below meth c D cl A nL cells slots Q w pc L rest := fun H locs ls hP hD hS hl => lv_goto X.1 X.2.1 d ht (k H locs ls hP hD hS hl)
theorem go_ifnonnull (X : Cx_ p l e R s m args below meth c cc nL own D cl tys TS) {x : Nat} {off : Int} {tgt : Nat} (d : decode cc pc = .ok (.ifnonnull off, 3)) (ht : (pc : Int) + off = (tgt : Int)) (k : Go_ p l e R s m args below meth c D cl A nL cells slots Q w tgt L rest) : Go_ p l e R s m args below meth c D cl A nL cells slots Q w pc L (.ref x :: rest) := fun H locs ls hP hD hS hl => lv_ifnonnull X.1 X.2.1 d ht (k H locs ls hP hD hS hl)
theorem go_ifnonnullN (X : Cx_ p l e R s m args below meth c cc nL own D cl tys TS) {off : Int} (d : decode cc pc = .ok (.ifnonnull off, 3)) (k : Go_ p l e R s m args below meth c D cl A nL cells slots Q w (pc + 3) L rest) : Go_ p l e R s m args below meth c D cl A nL cells slots Q w pc L (.null :: rest) := fun H locs ls hP hD hS hl => lv_ifnonnullN X.1 X.2.1 d (k H locs ls hP hD hS hl)
theorem go_ifnull (X : Cx_ p l e R s m args below meth c cc nL own D cl tys TS) {x : Nat} {off : Int} (d : decode cc pc = .ok (.ifnull off, 3)) (k : Go_ p l e R s m args below meth c D cl A nL cells slots Q w (pc + 3) L rest) : Go_ p l e R s m args below meth c D cl A nL cells slots Q w pc L (.ref x :: rest) := fun H locs ls hP hD hS hl => lv_ifnull X.1 X.2.1 d (k H locs ls hP hD hS hl)
theorem go_ifnullN (X : Cx_ p l e R s m args below meth c cc nL own D cl tys TS) {off : Int} {tgt : Nat} (d : decode cc pc = .ok (.ifnull off, 3)) (ht : (pc : Int) + off = (tgt : Int)) (k : Go_ p l e R s m args below meth c D cl A nL cells slots Q w tgt L rest) : Go_ p l e R s m args below meth c D cl A nL cells slots Q w pc L (.null :: rest) := fun H locs ls hP hD hS hl => lv_ifnullN X.1 X.2.1 d ht (k H locs ls hP hD hS hl)
theorem go_tableOut (X : Cx_ p l e R s m args below meth c cc nL own D cl tys TS) {dflt lo hi : Int} {offs : Array Int} {len : Nat} {x : Int32} {tgt : Nat} (d : decode cc pc = .ok (.tableswitch dflt lo hi offs, len)) (h : x.toInt < lo ∨ hi < x.toInt) (ht : (pc : Int) + dflt = (tgt : Int)) (k : Go_ p l e R s m args below meth c D cl A nL cells slots Q w tgt L rest) : Go_ p l e R s m args below meth c D cl A nL cells slots Q w pc L (.int x :: rest) := fun H locs ls hP hD hS hl => lv_tableOut X.1 X.2.1 d h ht (k H locs ls hP hD hS hl)
theorem go_tableIn (X : Cx_ p l e R s m args below meth c cc nL own D cl tys TS) {dflt lo hi : Int} {offs : Array Int} {len : Nat} {x : Int32} {off : Int} {tgt : Nat} (d : decode cc pc = .ok (.tableswitch dflt lo hi offs, len)) (h1 : ¬ x.toInt < lo) (h2 : ¬ hi < x.toInt) (ho : offs[(x.toInt - lo).toNat]? = some off) (ht : (pc : Int) + off = (tgt : Int)) (k : Go_ p l e R s m args below meth c D cl A nL cells slots Q w tgt L rest) : Go_ p l e R s m args below meth c D cl A nL cells slots Q w pc L (.int x :: rest) := fun H locs ls hP hD hS hl => lv_tableIn X.1 X.2.1 d h1 h2 ho ht (k H locs ls hP hD hS hl)
theorem go_lookup (X : Cx_ p l e R s m args below meth c cc nL own D cl tys TS) {dflt : Int} {ps : Array (Int × Int)} {len : Nat} {x : Int32} {off : Int} {tgt : Nat} (d : decode cc pc = .ok (.lookupswitch dflt ps, len)) (hp : (ps.toList.zip (ps.toList.drop 1)).all (fun (a, next) => a.1 < next.1) = true) (ho : Op.lookupswitch.offset ps.toList dflt x.toInt = off) (ht : (pc : Int) + off = (tgt : Int)) (k : Go_ p l e R s m args below meth c D cl A nL cells slots Q w tgt L rest) : Go_ p l e R s m args below meth c D cl A nL cells slots Q w pc L (.int x :: rest) := fun H locs ls hP hD hS hl => lv_lookup X.1 X.2.1 d hp ho ht (k H locs ls hP hD hS hl)
/-- fewer locals -/
theorem go_loc {L' : List (Nat × Value)} (hs : L'.map (fun q => lk_ L q.1) = L'.map (fun q => some q.2)) (k : Go_ p l e R s m args below meth c D cl A nL cells slots Q w pc L' rest) : Go_ p l e R s m args below meth c D cl A nL cells slots Q w pc L rest := fun H locs ls hP hD hS hl => k H locs ls hP hD hS (lh_sub hl hs)
theorem go_eqw {w' : va_W} (h : w = w') (k : Go_ p l e R s m args below meth c D cl A nL cells slots Q w' pc L rest) : Go_ p l e R s m args below meth c D cl A nL cells slots Q w pc L rest := by rw [h]; exact k
theorem go_eqs {st' : List Value} (h : rest = st') (k : Go_ p l e R s m args below meth c D cl A nL cells slots Q w pc L st') : Go_ p l e R s m args below meth c D cl A nL cells slots Q w pc L rest := by rw [h]; exact k
end GO_B

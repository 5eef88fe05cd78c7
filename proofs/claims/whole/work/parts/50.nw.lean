section NW_A
/-- a world's addresses, and all that come from h on -/
def Af_ (w : va_W) (h : Nat) : Nat → Prop := fun q => in_w w q ∨ h ≤ q
def Qn_ (D : va_G) (cl : List vw_C) (A : Nat → Prop) (B : Nat → Nat → va_W) (rv : Nat → Nat → Option Value) : Array Value → State → Outcome → State → Prop := fun _ st oc t => ∃ b1 b2 : Nat, oc = .returned (rv b1 b2) ∧ va_P D cl (B b1 b2) t.heap ∧ va_D A (B b1 b2) ∧ va_F A st t
def Pn_ (D : va_G) (cl : List vw_C) (tys : List (ClassId × FieldType)) (nw : List Cond) (w : va_W) (h : Nat) (U : State) : Prop := va_P D cl w U.heap ∧ va_D (Af_ w h) w ∧ va_K D cl tys U ∧ NW_ nw U ∧ U.heap.size = h
/-- the contract of a method that makes cells: the world w becomes B b1 b2 -/
def Cn_ (l : Launch) (D : va_G) (cl : List vw_C) (tys : List (ClassId × FieldType)) (nw : List Cond) (y : MethodName) (ws : List Cond) (rm : Room) (av : List Value) (w : va_W) (B : Nat → Nat → va_W) (rv : Nat → Nat → Option Value) : Prop :=
  ∀ h : Nat, Met l y ws rm (va_Pc av (Pn_ D cl tys nw w h)) (Qn_ D cl (Af_ w h) B rv) rm.cells rm.slots (Af_ w h)
/-- a room of d frames, k cells, n slots -/
def rn_d (d k n : Nat) : Room := { frames := d, cells := k, slots := n, locals := 30 * d }
variable {p : Program} {l : Launch} {e : Env} {R : Room} {s : State} {m : MethodId} {args : Array Value} {below : List Frame} {meth : Method} {c : Code} {D : va_G} {cl : List vw_C} {A : Nat → Prop} {nL cells slots : Nat} {Q : State → Prop} {w w1 w2 : va_W}
variable {cc : ByteArray} {own : String} {tys : List (ClassId × FieldType)} {TS : List Cond} {pc : Nat} {L : List (Nat × Value)} {rest : List Value} {nw : List Cond}
theorem Pn_blind {av : List Value} {h : Nat} : FrameBlind (va_Pc av (Pn_ D cl tys nw w h)) :=
  fun a U g mk x => ⟨x.1, x.2.1, x.2.2.1, va_K.moved (u := U) (U := U.calling g mk a) (Vm.Alike.refl U.vm) x.2.2.2.1, NW_warm (U := U.calling g mk a) (State.WarmedH.refl U) x.2.2.2.2.1, x.2.2.2.2.2⟩
theorem vd_swap {u v : va_W} (h : va_D A (u ++ v)) : va_D A (v ++ u) := by
  have hi : ∀ {i : Nat} {q : Nat × va_E}, (v ++ u)[i]? = some q → (u ++ v)[if i < v.length then u.length + i else i - v.length]? = some q := by
    intro i q hq
    by_cases g : i < v.length
    · rw [List.getElem?_append_left g] at hq
      rw [if_pos g, List.getElem?_append_right (by omega), Nat.add_sub_cancel_left]
      exact hq
    · rw [List.getElem?_append_right (by omega)] at hq
      have h1 := (List.getElem?_eq_some_iff.mp hq).1
      rw [if_neg g, List.getElem?_append_left h1]
      exact hq
  refine ⟨fun i j x y hx hy e => ?_, fun k q hk => h.2 _ q (hi hk)⟩
  have h1 := h.1 _ _ _ _ (hi hx) (hi hy) e
  have hxl := (List.getElem?_eq_some_iff.mp hx).1
  have hyl := (List.getElem?_eq_some_iff.mp hy).1
  rw [List.length_append] at hxl hyl
  split at h1 <;> split at h1 <;> omega
theorem vd_mk {u v : va_W} {A1 : Nat → Prop} (hu : va_D A1 u) (hv : va_D A v) (hA : ∀ q, A1 q → A q) (hne : ∀ q ∈ u, ∀ q' ∈ v, q.1 ≠ q'.1) : va_D A (u ++ v) := by
  have cs : ∀ {i : Nat} {q : Nat × va_E}, (u ++ v)[i]? = some q → (i < u.length ∧ u[i]? = some q) ∨ (u.length ≤ i ∧ v[i - u.length]? = some q) := by
    intro i q hq
    by_cases g : i < u.length
    · rw [List.getElem?_append_left g] at hq; exact Or.inl ⟨g, hq⟩
    · rw [List.getElem?_append_right (by omega)] at hq; exact Or.inr ⟨by omega, hq⟩
  refine ⟨fun i j x y hx hy e => ?_, fun k q hk => ?_⟩
  · rcases cs hx with ⟨a1, a2⟩ | ⟨a1, a2⟩ <;> rcases cs hy with ⟨b1, b2⟩ | ⟨b1, b2⟩
    · exact hu.1 _ _ _ _ a2 b2 e
    · exact absurd e (hne _ (List.mem_of_getElem? a2) _ (List.mem_of_getElem? b2))
    · exact absurd e.symm (hne _ (List.mem_of_getElem? b2) _ (List.mem_of_getElem? a2))
    · have := hv.1 _ _ _ _ a2 b2 e
      omega
  · rcases cs hk with ⟨a1, a2⟩ | ⟨a1, a2⟩
    · exact hA _ (hu.2 _ _ a2)
    · exact hv.2 _ _ a2
/-- a call of a method that makes cells, on a part of our world -/
theorem go_runG {B w' : Nat → Nat → va_W} {rv : Nat → Nat → Option Value} {mc ms : Nat} {st0 : List Value} {a : Array Value}
    (hr : ∀ (H : Heap) (locs : List Loc) (ls : Array Slot), va_P D cl w1 H → va_D (Af_ w1 H.size) w1 → lh_ ls nL L → va_Run p l e R s m args below meth c H locs cells slots mc ms (F0 m pc ls st0) rest (Qn_ D cl (Af_ w1 H.size) B rv a) (Af_ w1 H.size))
    (hw : va_D A w → va_D A (w1 ++ w2)) (hsub : ∀ q ∈ w1 ++ w2, q ∈ w) (hA : ∀ q, s.heap.size ≤ q → A q) (hmem : ∀ b1 b2, ∀ q ∈ w' b1 b2, q ∈ B b1 b2 ∨ q ∈ w2) (hDw : ∀ b1 b2, va_D A (B b1 b2 ++ w2) → va_D A (w' b1 b2))
    (k : ∀ b1 b2, Go_ p l e R s m args below meth c D cl A nL (cells + mc) (slots + ms) Q (w' b1 b2) (pc + 3) L ((rv b1 b2).toList ++ rest)) : Go_ p l e R s m args below meth c D cl A nL cells slots Q w pc L st0 := by
  intro H locs ls hP hD hS hl T hT X
  have hD2 := hw hD
  have hPs : va_P D cl (w1 ++ w2) H := vp_sub hP hsub
  have hP1 : va_P D cl w1 H := vp_sub hPs (fun q hq => List.mem_append_left _ hq)
  have hP2 : va_P D cl w2 H := vp_sub hPs (fun q hq => List.mem_append_right _ hq)
  have hD1 : va_D (Af_ w1 H.size) w1 := ⟨(vd_l hD2).1, fun i q hi => Or.inl ⟨q, List.mem_of_getElem? hi, rfl⟩⟩
  obtain ⟨v, st₀, t, T', L', h0, X', hL, e1, e2, ⟨b1, b2, hoc, hP', hD', hF⟩, st⟩ := hr H locs ls hP1 hD1 hl T hT X
  cases hoc
  obtain ⟨hz, hk⟩ := hF
  rw [h0] at hz hk
  have hA' : ∀ q, Af_ w1 H.size q → A q := by
    intro q hq
    rcases hq with hq | hq
    · exact fp_A hD2 q hq
    · exact hA q (Nat.le_trans hS.1 hq)
  have hlt2 : ∀ q ∈ w2, q.1 < H.size := fun q hq => by
    obtain ⟨i, hi⟩ := List.getElem?_of_mem hq
    exact (hP2 i q hi).lt
  have hn2 : ∀ q ∈ w2, ¬ Af_ w1 H.size q.1 := fun q hq h => by
    rcases h with ⟨q', hq', e⟩ | h
    · exact vd_app hD2 hq' hq e
    · have := hlt2 q hq
      omega
  have hS' : va_S A s.heap T'.heap (locs ++ L') := by
    refine ⟨Nat.le_trans hS.1 (by rw [e1]; exact hz), fun q g1 g2 => ?_, fun q hq => ?_⟩
    · rw [e1, hk q (Nat.lt_of_lt_of_le g1 hS.1) (fun g => g2 (hA' q g))]
      exact hS.2.1 q g1 g2
    · rcases List.mem_append.mp hq with h | h
      · exact hS.2.2 q h
      · exact hA' _ (hL q h)
  have hP2' : va_P D cl w2 T'.heap := fun i q hi => by
    have h1 := hP2 i q hi
    exact h1.kept (by rw [e1]; exact hk q.1 h1.lt (hn2 q (List.mem_of_getElem? hi)))
  have hPw : va_P D cl (w' b1 b2) T'.heap := fun i q hi => by
    rcases hmem b1 b2 q (List.mem_of_getElem? hi) with h | h
    · obtain ⟨j, hj⟩ := List.getElem?_of_mem h
      rw [e1]
      exact hP' j q hj
    · obtain ⟨j, hj⟩ := List.getElem?_of_mem h
      exact hP2' j q hj
  have hDw2 : va_D A w2 := by
    have := vd_swap hD2
    exact vd_l this
  have hDB : va_D A (B b1 b2 ++ w2) := vd_mk hD' hDw2 hA' (fun q hq q' hq' e => by
    obtain ⟨i, hi⟩ := List.getElem?_of_mem hq
    have h1 := hD'.2 i q hi
    rw [e] at h1
    exact hn2 q' hq' h1)
  obtain ⟨t2, a1, c1⟩ := k b1 b2 T'.heap (locs ++ L') ls hPw (hDw b1 b2 hDB) hS' hl T' rfl X'
  exact ⟨t2, st t2 a1, c1⟩
theorem cn_in {y : MethodName} {rm : Room} {av : List Value} {maxL : Nat} {ret : Option FieldType} {B : Nat → Nat → va_W} {rv : Nat → Nat → Option Value} (hy : plainName y.cls = true) (hav : (lg_sl av).length ≤ maxL) (hcat : ∀ q ∈ lv_args 0 av, q.2.category = 1)
    (body : ∀ p e s m args below meth c, Cx_ p l e rm s m args below meth c cc maxL y.cls D cl tys TG_ → meth.sig.returnType = ret → meth.name = y.name → NW_ nw s → (∀ q, s.heap.size ≤ q → Af_ w s.heap.size q) →
      Go_ p l e rm s m args below meth c D cl (Af_ w s.heap.size) maxL 0 0 (MQ below (Qn_ D cl (Af_ w s.heap.size) B rv) args s rm.cells rm.slots (Af_ w s.heap.size)) w 0 (lv_args 0 av) []) : Cn_ l D cl tys nw y (.code y cc maxL ret :: TG_) rm av w B rv := by
  intro h
  refine Met.ofW (cc := cc) (maxL := maxL) (ret := ret) hy rfl ?_
  intro p e s m args below meth c s₁ B' hml hv
  obtain ⟨hargs, hP, hD, hK, hN, hh⟩ := hv
  have hl := lv_entry av (n := maxL) hav
  rw [hargs, lg_entry_eq]
  have hts := atoms_spec (ws := .code y cc maxL ret :: TG_) B'.pre
  have X : Cx_ p l e rm s m args below meth c cc maxL y.cls D cl tys TG_ := ⟨B'.exec, B'.bytes, hml, findClass_of_methodNamed B'.named, fun w hw => hts w (List.mem_cons_of_mem _ hw), hK, B'.notSynchronized⟩
  subst hh
  have k := body p e s m args below meth c X B'.returns (name_of_methodNamed B'.named B'.method).1 hN (fun q hq => Or.inr hq) s.heap [] _ hP hD va_S.rf ⟨hl, hcat⟩
  rw [hargs] at k
  exact k
theorem go_nvret (X : Cx_ p l e R s m args below meth c cc nL own D cl tys TS) {B : Nat → Nat → va_W} {rv : Nat → Nat → Option Value} (b1 b2 : Nat) (hr : meth.sig.returnType = none) (d : decode cc pc = .ok (.return_, 1)) (hw : w = B b1 b2) (hv : none = rv b1 b2) : Go_ p l e R s m args below meth c D cl A nL cells slots (MQ below (Qn_ D cl A B rv) args s cells slots A) w pc L [] := by
  subst hw
  intro H locs ls hP hD hS hl
  exact W.vret X.1 X.2.1 hr (fun t ht hW => ⟨b1, b2, by rw [hv], by rw [ht]; exact hP, hD, hS.F ht⟩) hS.2.2 d X.2.2.2.2.2.2
theorem go_naret (X : Cx_ p l e R s m args below meth c cc nL own D cl tys TS) {B : Nat → Nat → va_W} {rv : Nat → Nat → Option Value} (b1 b2 : Nat) {v : Value} {n : String} (hr : meth.sig.returnType = some (.object n)) (hv0 : v = .null ∨ ∃ a, v = .ref a) (d : decode cc pc = .ok (.areturn, 1)) (hw : w = B b1 b2) (hv : some v = rv b1 b2) : Go_ p l e R s m args below meth c D cl A nL cells slots (MQ below (Qn_ D cl A B rv) args s cells slots A) w pc L [v] := by
  subst hw
  intro H locs ls hP hD hS hl
  exact W.aret X.1 X.2.1 hr (Or.inl ⟨n, rfl⟩) hv0 (fun t ht hW => ⟨b1, b2, by rw [hv], by rw [ht]; exact hP, hD, hS.F ht⟩) hS.2.2 d X.2.2.2.2.2.2
/-- cells made -/
theorem go_new (X : Cx_ p l e R s m args below meth c cc nL own D cl tys TG_) (hA : ∀ q, s.heap.size ≤ q → A q) {C : String} {T : u_T} {Nf ci index : Nat} {fs : List Value} (hin : ∀ w ∈ u_ws C T Nf, w ∈ TG_) (ty : Nat → FieldType) (hty : ∀ k, k < Nf → parseFieldDescriptor (T k).2.2.1 = some (ty k)) (h1 : Cond.classLink own index C ∈ TG_) (h2 : Cond.instantiable C Nf ∈ TG_) (h3 : Cond.initialized C ∈ TG_) (hc : cl[ci]? = some (C, T, Nf)) (hfs : ∀ j, j < Nf → defaultValue (ty j) = vp_V fs j) (hcs : cells + 1 ≤ R.cells ∧ slots + Nf ≤ R.slots) (d : decode cc pc = .ok (.new index, 3))
    (kk : ∀ q, Go_ p l e R s m args below meth c D cl A nL (cells + 1) (slots + Nf) Q (w ++ [(q, .inr (ci, fs))]) (pc + 3) L (.ref q :: rest)) : Go_ p l e R s m args below meth c D cl A nL cells slots Q w pc L rest := fun H locs ls hP hD hS hl =>
  va_new X.1 X.2.1 X.2.2.2.2.1 hin ty hty X.2.2.2.1 (X.2.2.2.2.1 _ h1) (X.2.2.2.2.1 _ h2) (X.2.2.2.2.1 _ h3) X.2.2.2.2.2.1 hP hD hS hA hc hfs hcs.1 hcs.2 d (fun q H1 hP1 hD1 hS1 => kk q H1 locs ls hP1 hD1 hS1 hl)
theorem go_newa (X : Cx_ p l e R s m args below meth c cc nL own D cl tys TG_) (hA : ∀ q, s.heap.size ≤ q → A q) {atype : ArrayType} {ty : FieldType} {n : Int32} {N' t0 : Nat} {a0 : vp_A} {cT : ClassId} (h1 : Cond.arrayClass (newarray.typeOf atype) ∈ TG_) (hty : newarray.typeOf atype = ty) (ht : tys[t0]? = some (cT, ty)) (hprim : ∀ u : State, ∀ cA, va_RA u cA ty → u.vm.findClass ("[" ++ ty.toString) = some cA)
    (ha : ∀ cA : ClassId, vp_cell cA a0 = arrV cA N' (fun _ => defaultValue ty)) (hn : ¬ n < 0) (hN : n.toNatClampNeg = N') (hbytes : N' * componentBytes ty ≤ 536870912) (hcs : cells + 1 ≤ R.cells ∧ slots + N' ≤ R.slots) (d : decode cc pc = .ok (.newarray atype, 2))
    (kk : ∀ q, Go_ p l e R s m args below meth c D cl A nL (cells + 1) (slots + N') Q (w ++ [(q, .inl (cT, a0))]) (pc + 2) L (.ref q :: rest)) : Go_ p l e R s m args below meth c D cl A nL cells slots Q w pc L (.int n :: rest) := fun H locs ls hP hD hS hl =>
  va_newa X.1 X.2.1 (X.2.2.2.2.1 _ h1) hty X.2.2.2.2.2.1 hP hD hS hA ha hn hN hbytes hcs.1 hcs.2 d (fun q cA H1 hK1 hP1 hD1 hS1 => by
    have e1 := hprim s cA (hK1.2 tys.length (cA, ty) (by rw [List.getElem?_append_right (Nat.le_refl _), Nat.sub_self]; rfl)).2
    have e2 := hprim s cT (X.2.2.2.2.2.1.2 t0 _ ht).2
    cases e1.symm.trans e2
    exact kk q H1 locs ls hP1 hD1 hS1 hl)
theorem go_anewa (X : Cx_ p l e R s m args below meth c cc nL own D cl tys TG_) (hA : ∀ q, s.heap.size ≤ q → A q) {C : String} {index t0 : Nat} {n : Int32} {N' : Nat} {cT : ClassId} (h1 : Cond.classLink own index C ∈ TG_) (hover : va_AO C s) (ht : tys[t0]? = some (cT, .object C)) (hn : ¬ n < 0) (hN : n.toNatClampNeg = N') (hbytes : N' * 4 ≤ 536870912) (hcs : cells + 1 ≤ R.cells ∧ slots + N' ≤ R.slots) (d : decode cc pc = .ok (.anewarray index, 3))
    (kk : ∀ q, Go_ p l e R s m args below meth c D cl A nL (cells + 1) (slots + N') Q (w ++ [(q, .inl (cT, N', .inr (.inr (.inr (.inr (fun _ => none))))))]) (pc + 3) L (.ref q :: rest)) : Go_ p l e R s m args below meth c D cl A nL cells slots Q w pc L (.int n :: rest) := fun H locs ls hP hD hS hl =>
  va_newq X.1 X.2.1 X.2.2.2.1 (X.2.2.2.2.1 _ h1) hover X.2.2.2.2.2.1 hP hD hS hA hn hN hbytes hcs.1 hcs.2 d (fun q cA H1 hK1 hP1 hD1 hS1 => by
    obtain ⟨-, -, -, -, -, e1⟩ := (hK1.2 tys.length (cA, .object C) (by rw [List.getElem?_append_right (Nat.le_refl _), Nat.sub_self]; rfl)).2
    obtain ⟨-, -, -, -, -, e2⟩ := (X.2.2.2.2.2.1.2 t0 _ ht).2
    cases e1.symm.trans e2
    exact kk q H1 locs ls hP1 hD1 hS1 hl)
theorem go_objI (X : Cx_ p l e R s m args below meth c cc nL own D cl tys TG_) {index a : Nat} (h1 : Cond.methodLink own index Lib.objectInit ∈ TG_) (hf : 1 ≤ R.frames) (hlo : (rest.map fun v => v.category).sum + 12 ≤ R.locals) (d : decode cc pc = .ok (.invokespecial index, 3))
    (kk : Go_ p l e R s m args below meth c D cl A nL cells slots Q w (pc + 3) L rest) : Go_ p l e R s m args below meth c D cl A nL cells slots Q w pc L (.ref a :: rest) := fun H locs ls hP hD hS hl =>
  W.objInit X.1 X.2.1 X.2.2.2.1 (X.2.2.2.2.1 _ h1) (X.2.2.2.2.1 _ im_objectInit) (X.2.2.2.2.1 _ co_objectInit) rfl (by rw [X.2.2.1]; exact hl.1.1) rfl d hf (by show 2 * 0 + _ + 12 ≤ _; omega) (kk H locs ls hP hD hS hl)
/-- rows over a world as a list -/
theorem gw_put (X : Cx_ p l e R s m args below meth c cc nL own D cl tys TS) {C ref : String} {T : u_T} {Nf ci i k index a : Nat} {fs : List Value} {v : Value} {ty : FieldType} (hin : ∀ w ∈ u_ws C T Nf, w ∈ TS) (hc : cl[ci]? = some (C, T, Nf)) (ty0 : Nat → FieldType) (hty : ∀ k, k < Nf → parseFieldDescriptor (T k).2.2.1 = some (ty0 k)) (hnm : ∀ a, a < Nf → ∀ b, b < Nf → a ≠ b → (T a).2.1 ≠ (T b).2.1) (hw : w[i]? = some (a, .inr (ci, fs))) (hk : k < Nf) (hl : Cond.fieldLink own index ref (T k).2.1 (T k).2.2.1 ∈ TS) (hsame : ∀ x, s.fieldFound? (T k).1 (T k).2.1 (T k).2.2.1 = some x → s.fieldFound? ref (T k).2.1 (T k).2.2.1 = some x) (hfin : (T k).2.2.2 = false) (hd : parseFieldDescriptor (T k).2.2.1 = some ty) (hn : narrow ty v = v) (hfit : fits ty v = true) (hlen : k < fs.length) (d : decode cc pc = .ok (.putfield index, 3))
    (kk : Go_ p l e R s m args below meth c D cl A nL cells slots Q (w.set i (a, .inr (ci, fs.set k v))) (pc + 3) L rest) : Go_ p l e R s m args below meth c D cl A nL cells slots Q w pc L (v :: .ref a :: rest) := fun H locs ls hP hD hS h =>
  va_put X.1 X.2.1 X.2.2.2.2.1 hin ty0 hty hnm X.2.2.2.1 X.2.2.2.2.2.1 hP hD hS i hw hc k hk (X.2.2.2.2.1 _ hl) hsame hfin hd hn hfit hlen d (fun H1 locs1 hP1 hD1 hS1 => kk H1 locs1 ls hP1 hD1 hS1 h)
theorem gw_putF (X : Cx_ p l e R s m args below meth c cc nL own D cl tys TS) {C ref : String} {T : u_T} {Nf ci i k index a : Nat} {fs : List Value} {v : Value} {ty : FieldType} (hin : ∀ w ∈ u_ws C T Nf, w ∈ TS) (hc : cl[ci]? = some (C, T, Nf)) (ty0 : Nat → FieldType) (hty : ∀ k, k < Nf → parseFieldDescriptor (T k).2.2.1 = some (ty0 k)) (hnm : ∀ a, a < Nf → ∀ b, b < Nf → a ≠ b → (T a).2.1 ≠ (T b).2.1) (hw : w[i]? = some (a, .inr (ci, fs))) (hk : k < Nf) (hl : Cond.fieldLink own index ref (T k).2.1 (T k).2.2.1 ∈ TS) (hsame : ∀ x, s.fieldFound? (T k).1 (T k).2.1 (T k).2.2.1 = some x → s.fieldFound? ref (T k).2.1 (T k).2.2.1 = some x) (hfin : (T k).2.2.2 = true) (hm : meth.name = "<init>") (hdecl : (T k).1 = own) (hd : parseFieldDescriptor (T k).2.2.1 = some ty) (hn : narrow ty v = v) (hfit : fits ty v = true) (hlen : k < fs.length) (d : decode cc pc = .ok (.putfield index, 3))
    (kk : Go_ p l e R s m args below meth c D cl A nL cells slots Q (w.set i (a, .inr (ci, fs.set k v))) (pc + 3) L rest) : Go_ p l e R s m args below meth c D cl A nL cells slots Q w pc L (v :: .ref a :: rest) := fun H locs ls hP hD hS h =>
  va_putF X.1 X.2.1 X.2.2.2.2.1 hin ty0 hty hnm X.2.2.2.1 X.2.2.2.2.2.1 hP hD hS i hw hc k hk (X.2.2.2.2.1 _ hl) hsame hfin hm hdecl hd hn hfit hlen d (fun H1 locs1 hP1 hD1 hS1 => kk H1 locs1 ls hP1 hD1 hS1 h)
theorem gw_get (X : Cx_ p l e R s m args below meth c cc nL own D cl tys TS) {C ref : String} {T : u_T} {Nf ci i k index a : Nat} {fs : List Value} {v : Value} (hin : ∀ w ∈ u_ws C T Nf, w ∈ TS) (hc : cl[ci]? = some (C, T, Nf)) (hw : w[i]? = some (a, .inr (ci, fs))) (hk : k < Nf) (hl : Cond.fieldLink own index ref (T k).2.1 (T k).2.2.1 ∈ TS) (hsame : ∀ x, s.fieldFound? (T k).1 (T k).2.1 (T k).2.2.1 = some x → s.fieldFound? ref (T k).2.1 (T k).2.2.1 = some x) (hv : fs[k]? = some v) (d : decode cc pc = .ok (.getfield index, 3))
    (kk : Go_ p l e R s m args below meth c D cl A nL cells slots Q w (pc + 3) L (v :: rest)) : Go_ p l e R s m args below meth c D cl A nL cells slots Q w pc L (.ref a :: rest) := fun H locs ls hP hD hS h =>
  va_get X.1 X.2.1 X.2.2.2.2.1 hin X.2.2.2.1 X.2.2.2.2.2.1 hP i hw hc k hk (X.2.2.2.2.1 _ hl) hsame hv d (kk H locs ls hP hD hS h)
theorem gw_iast (X : Cx_ p l e R s m args below meth c cc nL own D cl tys TS) {i t0 n a : Nat} {cA : ClassId} {f : Nat → Int32} {j x : Int32} {j' : Nat} (hw : w[i]? = some (a, .inl (cA, n, .inl f))) (ht : tys[t0]? = some (cA, .int)) (hj : vp_in j n) (hj' : j.toNatClampNeg = j') (d : decode cc pc = .ok (.iastore, 1))
    (kk : Go_ p l e R s m args below meth c D cl A nL cells slots Q (w.set i (a, .inl (cA, n, .inl (upd f j' x)))) (pc + 1) L rest) : Go_ p l e R s m args below meth c D cl A nL cells slots Q w pc L (.int x :: .int j :: .ref a :: rest) := fun H locs ls hP hD hS h => by
  subst hj'
  exact va_iast X.1 X.2.1 X.2.2.2.2.2.1 hP hD hS i t0 hw ht hj d (fun H1 locs1 hP1 hD1 hS1 => kk H1 locs1 ls hP1 hD1 hS1 h)
theorem gw_alen (X : Cx_ p l e R s m args below meth c cc nL own D cl tys TS) {i t0 a : Nat} {cA : ClassId} {x : vp_A} {ty : FieldType} {v : Int32} (hw : w[i]? = some (a, .inl (cA, x))) (ht : tys[t0]? = some (cA, ty)) (hv : Int32.ofNat x.1 = v) (d : decode cc pc = .ok (.arraylength, 1))
    (kk : Go_ p l e R s m args below meth c D cl A nL cells slots Q w (pc + 1) L (.int v :: rest)) : Go_ p l e R s m args below meth c D cl A nL cells slots Q w pc L (.ref a :: rest) := fun H locs ls hP hD hS h =>
  va_alen X.1 X.2.1 X.2.2.2.2.2.1 hP i t0 hw ht hv d (kk H locs ls hP hD hS h)
theorem gw_aast (X : Cx_ p l e R s m args below meth c cc nL own D cl tys TS) {i t0 n a v qk ci : Nat} {cA : ClassId} {r : vw_C} {vs : List Value} {f : Nat → Option Nat} {j : Int32} {j' : Nat} (hw : w[i]? = some (a, .inl (cA, n, .inr (.inr (.inr (.inr f)))))) (ht : tys[t0]? = some (cA, .object r.1)) (hv : w[qk]? = some (v, .inr (ci, vs))) (hc : cl[ci]? = some r) (hj : vp_in j n) (hj' : j.toNatClampNeg = j') (d : decode cc pc = .ok (.aastore, 1))
    (kk : Go_ p l e R s m args below meth c D cl A nL cells slots Q (w.set i (a, .inl (cA, n, .inr (.inr (.inr (.inr (va_up f j' (some v)))))))) (pc + 1) L rest) : Go_ p l e R s m args below meth c D cl A nL cells slots Q w pc L (.ref v :: .int j :: .ref a :: rest) := fun H locs ls hP hD hS h => by
  subst hj'
  exact va_astq X.1 X.2.1 X.2.2.2.2.2.1 hP hD hS i t0 qk ci hw ht hv hc hj d (fun H1 locs1 hP1 hD1 hS1 => kk H1 locs1 ls hP1 hD1 hS1 h)
end NW_A

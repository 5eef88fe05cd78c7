section TX_A
variable {z : Nat} {name desc : String} {s U : State} {args : Array Value}
/-- a static field of Throwable, in the cell z: a reference or null -/
def Sf_ (z : Nat) (name desc : String) (U : State) : Prop := ∃ c k i f cell v, U.vm.findClass Bundle.tN = some c ∧ U.fieldFound? Bundle.tN name desc = some (c, k, i, f) ∧ f.isStatic = true ∧ k.statics = some z ∧ U.heap[z]? = some cell ∧ cell.vm.isStatics = true ∧ cell.cls = c ∧ f.slot < cell.slots.size ∧ k.staticTypes[f.slot]? = some f.type ∧ cell.slots[f.slot]? = some v ∧ v.isRef = true
theorem Sf_lays (h : Sf_ z name desc U) : (Cond.laysStatic Bundle.tN name desc).before args U = true := by
  obtain ⟨c, k, i, f, cell, v, h1, h2, h3, h4, h5, h6, h7, h8, h9, -, -⟩ := h
  exact Cond.laysStatic_of h1 h2 h3 h4 h5 h6 h7 h8 h9
theorem Sf_isRef (h : Sf_ z name desc U) : (Cond.isRef (.static Bundle.tN name desc)).before args U = true := by
  obtain ⟨c, k, i, f, cell, v, h1, h2, h3, h4, h5, h6, h7, h8, h9, h10, h11⟩ := h
  have he : ∀ o, (Term.static Bundle.tN name desc).eval args U o [] U = some v := fun o => by
    simp [Term.eval, State.fieldNamed?, h2, h3, h4, h5, h6, h10]
  simp only [Cond.before, Cond.holds, Cond.value, he]
  cases v <;> simp [Value.isRef] at h11 ⊢
theorem Sf_keep (hW : s.WarmedH U.vm) (hz : U.heap[z]? = s.heap[z]?) (h : Sf_ z name desc s) : Sf_ z name desc U := by
  obtain ⟨c, k, i, f, cell, v, h1, h2, h3, h4, h5, h6, h7, h8, h9, h10, h11⟩ := h
  obtain ⟨k', hi', hek⟩ := State.fieldFound?_setVm hW.alike h2
  exact ⟨c, k', i, f, cell, v, by rw [hW.alike.findClass]; exact h1, hi', h3, by rw [hek]; exact h4, by rw [hz]; exact h5, h6, h7, h8, by rw [hek]; exact h9, h10, h11⟩
theorem Sf_of (hl : (Cond.laysStatic Bundle.tN name desc).before args s = true) (hr : (Cond.isRef (.static Bundle.tN name desc)).before args s = true) : ∃ z, Sf_ z name desc s := by
  obtain ⟨c, k, i, f, a, cell, h1, h2, h3, h4, h5, h6, h7, h8, h9⟩ := Cond.laysStatic_spec hl
  obtain ⟨v, hv⟩ : ∃ v, cell.slots[f.slot]? = some v := ⟨_, Array.getElem?_eq_getElem h8⟩
  have he : ∀ o, (Term.static Bundle.tN name desc).eval args s o [] s = some v := fun o => by
    simp [Term.eval, State.fieldNamed?, h2, h3, h4, h5, h6, hv]
  refine ⟨a, c, k, i, f, cell, v, h1, h2, h3, h4, h5, h6, h7, h8, h9, hv, ?_⟩
  simp only [Cond.before, Cond.holds, Cond.value, he] at hr
  cases v <;> simp [Value.isRef] at hr ⊢
end TX_A
section TX_B
variable {N : Nat} {s U : State} {args : Array Value}
def tw_ : List Cond := [.declares (Bundle.initS rn_R), .declares (Bundle.initS rn_E), .declares (Bundle.initS Bundle.tN), .castable rn_I rn_I, .castable rn_K rn_K, .castable rn_U rn_U, .castable rn_V rn_V]
def ts_ : List (Nat × String) := [(168, "there is no such process"), (171, "operation is not 0 .. 2"), (68, "the process has a call under way"), (88, "steps is not 1 .. 1000"), (95, "no call of the process was done"), (117, "no node in use has the number"), (120, "what is not 0 .. 3")]
/-- what throwing needs beside the tables' good words -/
def Tw_ (N : Nat) (U : State) : Prop := (∃ z, z < N ∧ Sf_ z "UNASSIGNED_STACK" Bundle.steD U) ∧ (∃ z, z < N ∧ Sf_ z "SUPPRESSED_SENTINEL" Bundle.listD U) ∧ (∀ w ∈ tw_, va_Nw w U) ∧ ∀ q ∈ ts_, (Cond.stringRef rn_H q.1 q.2).before #[] U = true
theorem sr_same {q : Nat × String} {a a' : Array Value} (h : s.vm = U.vm) (hs : (Cond.stringRef rn_H q.1 q.2).before a s = true) : (Cond.stringRef rn_H q.1 q.2).before a' U = true := by
  simp only [Cond.before, Cond.holds, Cond.value, State.names, State.resolvedAt?, State.poolOf?, h] at hs ⊢
  exact hs
theorem Tw_keep (hW : s.WarmedH U.vm) (hz : ∀ q, q < N → U.heap[q]? = s.heap[q]?) (h : Tw_ N s) : Tw_ N U := by
  obtain ⟨⟨z1, a1, b1⟩, ⟨z2, a2, b2⟩, h3, h4⟩ := h
  refine ⟨⟨z1, a1, Sf_keep hW (hz z1 a1) b1⟩, ⟨z2, a2, Sf_keep hW (hz z2 a2) b2⟩, fun w hw => ?_, fun q hq => sr_same (s := s.setVm U.vm) rfl (Cond.stringRef_warmed hW (h4 q hq))⟩
  have h5 := h3 w hw
  simp only [tw_, List.mem_cons, List.not_mem_nil, or_false] at hw
  rcases hw with rfl | rfl | rfl | rfl | rfl | rfl | rfl
  · exact va_Nw.warmD hW h5
  · exact va_Nw.warmD hW h5
  · exact va_Nw.warmD hW h5
  · exact va_Nw.warmC hW h5
  · exact va_Nw.warmC hW h5
  · exact va_Nw.warmC hW h5
  · exact va_Nw.warmC hW h5
def sx_ : List Cond := [.laysStatic Bundle.tN "UNASSIGNED_STACK" Bundle.steD, .laysStatic Bundle.tN "SUPPRESSED_SENTINEL" Bundle.listD, .isRef (.static Bundle.tN "UNASSIGNED_STACK" Bundle.steD), .isRef (.static Bundle.tN "SUPPRESSED_SENTINEL" Bundle.listD)]
theorem xo_of {q : Nat × String} (hm : ∀ a ∈ Bundle.ownAtoms rn_H q.1 q.2 [rn_R, rn_E], (a ∈ tables_1 ∧ goodWord a = true) ∨ a ∈ tw_ ∨ a ∈ sx_) (hts : ∀ w ∈ TG_, w.before args s = true) (hT : Tw_ N s) : ∀ a ∈ Bundle.ownAtoms rn_H q.1 q.2 [rn_R, rn_E], a.before args s = true := by
  intro a ha
  rcases hm a ha with ⟨h1, h2⟩ | h | h
  · exact hts a (List.mem_filter.mpr ⟨List.mem_append_right _ h1, h2⟩)
  · have h5 := hT.2.2.1 a h
    simp only [tw_, List.mem_cons, List.not_mem_nil, or_false] at h
    rcases h with rfl | rfl | rfl | rfl | rfl | rfl | rfl <;> exact va_Nw.use rfl h5
  · obtain ⟨⟨z1, -, b1⟩, ⟨z2, -, b2⟩, -, -⟩ := hT
    simp only [sx_, List.mem_cons, List.not_mem_nil, or_false] at h
    rcases h with rfl | rfl | rfl | rfl
    · exact Sf_lays b1
    · exact Sf_lays b2
    · exact Sf_isRef b1
    · exact Sf_isRef b2
theorem xo_I : ∀ a ∈ Bundle.ownAtoms rn_H 170 rn_I [rn_R, rn_E], (a ∈ tables_1 ∧ goodWord a = true) ∨ a ∈ tw_ ∨ a ∈ sx_ := by decide +kernel
theorem xo_K : ∀ a ∈ Bundle.ownAtoms rn_H 90 rn_K [rn_R, rn_E], (a ∈ tables_1 ∧ goodWord a = true) ∨ a ∈ tw_ ∨ a ∈ sx_ := by decide +kernel
theorem xo_U : ∀ a ∈ Bundle.ownAtoms rn_H 70 rn_U [rn_R, rn_E], (a ∈ tables_1 ∧ goodWord a = true) ∨ a ∈ tw_ ∨ a ∈ sx_ := by decide +kernel
end TX_B
section TX_C
/-- a method that throws an object of class C, and leaves all else as it was -/
def Qx_ (C : String) (st : State) (o : Outcome) (t : State) : Prop := ∃ x ce, o = .threw x ∧ st.heap.size ≤ x ∧ t.heap[x]? = some ce ∧ st.vm.findClass C = some ce.cls ∧ ce.vm = .none ∧ st.vm.assignable ce.cls ce.cls = true
def Mx_ (l : Launch) (y : MethodName) (ws : List Cond) (rm : Room) (Pc : Array Value → State → Prop) (C : String) : Prop :=
  MetFree l y (headSpec ws rm) Pc (fun _ _ _ _ _ => True) (fun _ st o t => Qx_ C st o t ∧ st.WarmedH t.vm ∧ st.sameButNew ({ t with vm := st.vm } : State) [] 1 6)
def XQ_ (below : List Frame) (C : String) (s : State) : State → Prop := fun t => ∃ o, t.status = .running ∧ Ended t below o ∧ Qx_ C s o t ∧ s.WarmedH t.vm ∧ s.sameButNew ({ t with vm := s.vm } : State) [] 1 6
theorem admits_traces {l : Launch} {e : Env} (ha : l.admits e) (h : l.stackTraces = false) : e.platform.stackTraces = false := by
  have := ha.2.2.2.2.1
  rw [this]
  exact h
variable {p : Program} {l : Launch} {e : Env} {R : Room} {s : State} {m : MethodId} {args : Array Value} {below : List Frame} {meth : Method} {c : Code}
/-- the exception's constructor and athrow, from a fresh object of class C -/
def Th_ (p : Program) (l : Launch) (e : Env) (R : Room) (s : State) (m : MethodId) (args : Array Value) (below : List Frame) (meth : Method) (c : Code) (C : String) (g : Addr → Value → JFrame) : Prop :=
  ∀ (T2 : State) (a : Addr) (msg : Value) (cC : ClassId) (kC : Class), Stand p l e R s m args below meth c T2 [] 1 6 → s.vm.findClass C = some cC → s.vm.classes[cC]? = some kC → T2.heap[a]? = some (freshCell cC kC) → s.heap.size ≤ a → msg.isRef = true →
    ∃ U : State, Steps p.tables e below (T2.setTop (g a msg)) U ∧ U.status = .running ∧ Ended U below (.threw a) ∧ s.WarmedH U.vm ∧ s.sameButNew ({ U with vm := s.vm } : State) [] 1 6 ∧ ∃ ce, U.heap[a]? = some ce ∧ s.vm.findClass C = some ce.cls ∧ ce.vm = .none ∧ s.vm.assignable ce.cls ce.cls = true
theorem th_S {cc : ByteArray} {own C : String} {ic pc nL : Nat} {names : List String} (hx : p.tables.exec = Jvm.exec) (hb : c.code = cc) (hl : meth.locks = false) (htr : l.stackTraces = false) (hown : s.vm.findClass own = some m.cls) (hml : c.maxLocals = nL) (hxt : c.exceptionTable.isEmpty = true)
    (hat : ∀ a ∈ Bundle.ownAtoms own ic C names, a.before args s = true) (hfit : Bundle.fit C = true) (hfits : ∀ n ∈ names, Bundle.fit n = true) (d6 : decode cc (pc + 6) = .ok (.invokespecial ic, 3)) (d9 : decode cc (pc + 9) = .ok (.athrow, 1))
    (hR : names.length + 3 < R.frames ∧ 1 + (13 * (names.length + 1) + 42) ≤ R.locals) {ls : Array Slot} (hls : ls.size = nL) : Th_ p l e R s m args below meth c C (fun a msg => F0 m (pc + 6) ls [msg, .ref a, .ref a]) := by
  intro T2 a msg cC kC X2 hfc hkC hcell hnew hmsg
  obtain ⟨U, hsteps, hrun, hend, hWm, hsame, ce, hce, hown2⟩ := X2.ctorThrowS hx (admits_traces X2.admits htr) hown hfit hfits hat (fun x hx => nomatch hx) hfc hkC hcell hnew (msg := msg) hmsg (g := F0 m (pc + 6) ls [msg, .ref a, .ref a]) rfl (by rw [hml]; exact hls) rfl rfl (rest := []) rfl (by rw [hb]; exact d6) (by rw [hb]; exact d9) (fun x hx => by
      rw [Array.isEmpty_iff.mp hxt] at hx
      cases hx) hR.1 (by
      show 2 * 0 + ((1 : Nat) + 0) + _ ≤ _
      have := hR.2
      omega) hl
  exact ⟨U, hsteps, hrun, hend, hWm, hsame, ce, hce, hown2.cls, hown2.vm, hown2.self⟩
/-- new, dup, ldc, invokespecial, athrow: out of the method -/
theorem w_throw {cc : ByteArray} {own C text : String} {icl istr pc : Nat} (hx : p.tables.exec = Jvm.exec) (hb : c.code = cc) (hown : s.vm.findClass own = some m.cls)
    (hclink : (Cond.classLink own icl C).before args s = true) (hins : (Cond.instantiable C 6).before args s = true) (hinit : (Cond.initialized C).before args s = true) (hstr : (Cond.stringRef own istr text).before args s = true) {ls : Array Slot}
    (hth : Th_ p l e R s m args below meth c C (fun a msg => F0 m (pc + 6) ls [msg, .ref a, .ref a]))
    (d0 : decode cc pc = .ok (.new icl, 3)) (d3 : decode cc (pc + 3) = .ok (.dup, 1)) (d4 : decode cc (pc + 4) = .ok (.ldc istr, 2)) (hR : 1 ≤ R.cells ∧ 6 ≤ R.slots) :
    W p l e R s m args below meth c s.heap [] 0 0 (XQ_ below C s) (F0 m pc ls []) := by
  intro T hT X
  obtain ⟨vm', cC, kC, hfc, hkC, hkind, hsz, X1, st1⟩ := X.newCold hx hown hclink hins hinit (g := F0 m pc ls []) rfl (by rw [hb]; exact d0) (by omega) (by omega)
  have k1 : W p l e R s m args below meth c ((T.setVm vm').pushCell { cls := cC, slots := kC.instanceTypes.map defaultValue, vm := .none }).heap [] 1 6 (XQ_ below C s) (F0 m (pc + 3) ls [.ref T.heap.size]) := by
    refine lv_dup hx hb d3 rfl ?_
    intro T2 hT2 X2
    obtain ⟨k, cf, i, a, -, -, -, -, -, hev⟩ := Cond.stringRef_spec hown hstr
    have st2 := X2.ldcString hx hown hstr hev (g := F0 m (pc + 4) ls [.ref T.heap.size, .ref T.heap.size]) rfl (by rw [hb]; exact d4)
    have hsz2 : T.heap.size = s.heap.size := by rw [hT]
    have hcell : T2.heap[T.heap.size]? = some (freshCell cC kC) := by
      rw [hT2]
      show (T.heap.push _)[T.heap.size]? = _
      rw [Array.getElem?_push_size]
    obtain ⟨U, hsteps, hrun, hend, hWm, hsame, ce, hce, h1, h2, h3⟩ := hth T2 T.heap.size (.ref a) cC kC X2 hfc hkC hcell (by rw [hsz2]; exact Nat.le_refl _) rfl
    exact ⟨U, st2 U hsteps, .threw T.heap.size, hrun, hend, ⟨T.heap.size, ce, rfl, by rw [hsz2]; exact Nat.le_refl _, hce, h1, h2, h3⟩, hWm, hsame⟩
  obtain ⟨t, a1, b1⟩ := k1 _ rfl X1
  exact ⟨t, st1 t a1, b1⟩
/-- into a method that throws -/
theorem Mx_ofW {y : MethodName} {ws ws' : List Cond} {rm : Room} {Pc : Array Value → State → Prop} {C : String} {cc : ByteArray} {maxL : Nat} {ret : Option FieldType} (hy : plainName y.cls = true) (hw : ws = Cond.code y cc maxL ret :: ws')
    (body : ∀ p e s m args below meth c s₁, BodyLoose p l y (headSpec ws rm) cc maxL ret e s m args below meth c s₁ → c.maxLocals = maxL → c.exceptionTable.isEmpty = true → Pc args s →
      W p l e (headSpec ws rm).room s m args below meth c s.heap [] 0 0 (XQ_ below C s) (entryFrame m args maxL)) : Mx_ l y ws rm Pc C := by
  refine MetFree.of_bodyS (code := cc) (maxLocals := maxL) (ret := ret) hy ?_ ?_
  · intro args s m h hn
    obtain ⟨meth, c, h1, h2, h3, h4, h5, h6, -, -⟩ := Cond.code_spec hn (atoms_spec (ws := ws) h _ (by rw [hw]; exact List.mem_cons_self))
    exact ⟨meth, c, h1, h2, h3, h4, h5, h6⟩
  · intro p e s m args below meth c s₁ B hml hP _
    have hh0 : s₁.heap = s.heap := by rw [B.state]; rfl
    have hxt : c.exceptionTable.isEmpty = true := by
      obtain ⟨meth', c', h1, h2, -, -, -, -, h7, -⟩ := Cond.code_spec B.named (atoms_spec (ws := ws) B.pre _ (by rw [hw]; exact List.mem_cons_self))
      cases h1.symm.trans B.method
      cases h2.symm.trans (Stand.of_body B).code
      exact h7
    obtain ⟨t, a1, o, b1, b2, b3⟩ := body p e s m args below meth c s₁ B hml hxt hP s₁ hh0 (Stand.of_body B)
    exact ⟨t, o, a1, b1, b2, b3⟩
/-- a call whose method throws -/
theorem back_x {y : MethodName} {ws : List Cond} {rm : Room} {Pc : Array Value → State → Prop} {C : String} {bytes : ByteArray} {maxL : Nat} {ret : Option FieldType} (hM : Mx_ l y ws rm Pc C) (hblind : FrameBlind Pc) (hrc : rm.cells = 1) (hrs : rm.slots = 6)
    (hframes : rm.frames + 1 ≤ R.frames) (hlocals : 8 + (maxL + 11) + rm.locals ≤ R.locals) (hws : ∀ w ∈ ws, ∀ (a' : Array Value) (U : State), s.WarmedH U.vm → w.before a' U = true) (hcode : Cond.code y bytes maxL ret ∈ ws) (hinit : (Cond.initialized y.cls).before args s = true)
    {U : State} (X : Stand p l e R s m args below meth c U [] 0 0) {g : JFrame} (hg : g.method = m) (hsize : g.locals.size = c.maxLocals) {ig : Instr} {len : Nat} (hdg : decode c.code g.pc = .ok (ig, len)) (hW : 2 * g.monitorRoom + (g.stack.map fun v => v.category).sum ≤ 8)
    {mk : MethodId} {a : Array Value} (hn : U.methodNamed? y = some mk) (hp : Pc a U) (hcs : 1 ≤ R.cells ∧ 6 ≤ R.slots) :
    ∃ (x : Addr) (ce : Cell) (T' : State), U.heap.size ≤ x ∧ T'.heap[x]? = some ce ∧ U.vm.findClass C = some ce.cls ∧ ce.vm = .none ∧ U.vm.assignable ce.cls ce.cls = true ∧ (∀ q, q < U.heap.size → T'.heap[q]? = U.heap[q]?) ∧ Stand p l e R s m args below meth c T' [] 1 6 ∧
      Steps p.tables e below (doInvoke e (U.setTop g) [] mk a).1 ((T'.setTop g).pushFrame (.throwing x)) := by
  have hcd := hws _ hcode a U X.warmed
  obtain ⟨methY, cY, hmY, hcY, -, hlY, -, -, -, -⟩ := Cond.code_spec hn hcd
  obtain ⟨kY, hkY, -⟩ := className_of_methodNamed hn
  have hinitY : kY.init = .initialized := Cond.initialized_spec (args := a) (findClass_of_methodNamed hn) hkY (word_at X.warmed (Or.inl (by first | rfl | simp [Cond.onTables, Cond.keeps, Cond.steady])) hinit)
  have h : At U g.method c below := by rw [hg]; exact X.here
  have happ : (headSpec ws rm).appliesLoose y e.platform (U.calling g mk a) = true :=
    Spec.appliesLoose_calling (g := g) h hdg hn hkY hinitY (X.room_calling (g := g) (R' := rm) hsize hmY hcY hframes (by rw [hlY]; omega) (by omega) (by omega)) (atoms_intro fun w hw => hws w hw _ _ X.warmed)
  obtain ⟨mid, hmid⟩ := h.above
  have hfr : (U.setTop g).frames = (.java g :: mid) ++ below := by rw [State.frames_setTop' g h.top, hmid]; rfl
  obtain ⟨o, s₂, hsteps, -, hend, ⟨x, ce, rfl, hx1, hx2, hx3, hx4, hx5⟩, hW₂, hsame⟩ := Steps.callFree hM p X.admits X.cas X.clock (acts := []) hfr happ (hblind _ _ g mk hp) trivial
  rw [State.frames_setTop' g h.top] at hend
  obtain ⟨e2, q2, q3, q4, q5, q6⟩ := hsame
  have hW' : U.WarmedH s₂.vm := hW₂
  obtain ⟨g₀, hg0⟩ := Option.isSome_iff_exists.mp h.top
  obtain ⟨r, hr⟩ := State.topJava?_eq_some.mp hg0
  have e3 : s₂ = ({ (U.calling g mk a).setFrames s₂.frames with heap := s₂.heap, slotsUsed := s₂.slotsUsed } : State).setVm s₂.vm := by
    have : s₂ = ({ s₂ with vm := (U.calling g mk a).vm } : State).setVm s₂.vm := rfl
    have e2' : ({ s₂ with vm := (U.calling g mk a).vm } : State) = { (U.calling g mk a).setFrames s₂.frames with heap := s₂.heap, slotsUsed := s₂.slotsUsed } := e2
    rw [e2'] at this
    exact this
  have hr' : (({ U with heap := s₂.heap, slotsUsed := s₂.slotsUsed } : State).setVm s₂.vm).frames = .java g₀ :: r := hr
  have hs₂ : s₂ = ((({ U with heap := s₂.heap, slotsUsed := s₂.slotsUsed } : State).setVm s₂.vm).setTop g).pushFrame (.throwing x) := by
    refine e3.trans ?_
    have hend' : s₂.frames = .throwing x :: .java g :: U.frames.tail := hend
    rw [hend', State.calling_eq h.top, State.setFrames_setFrames, State.pushFrame, State.frames_setTop _ hr', State.setTop_of_frames _ hr', State.setFrames_setFrames, hr]
    rfl
  have hsameU : U.sameButNew ({ U with heap := s₂.heap, slotsUsed := s₂.slotsUsed } : State) [] 1 6 := by
    refine ⟨?_, q2, q3, q4, q5, q6⟩
    obtain ⟨t, ht, -⟩ := State.frames_cons hr
    show ({ U with heap := s₂.heap, slotsUsed := s₂.slotsUsed } : State) = { U.setFrames U.frames with heap := s₂.heap, slotsUsed := s₂.slotsUsed }
    rw [State.setFrames_self ht]
  subst hg
  have Xs := X.same.trans (hsameU.setVm s.vm)
  rw [List.append_nil, Nat.zero_add, Nat.zero_add] at Xs
  refine ⟨x, ce, ({ U with heap := s₂.heap, slotsUsed := s₂.slotsUsed } : State).setVm s₂.vm, hx1, hx2, hx3, hx4, hx5, fun q hq => ?_,
    ⟨X.admits, X.cas, X.clock, X.frames, X.room, X.hears, X.method, X.code, (X.here.setHeapUsed s₂.heap s₂.slotsUsed).setVm hW'.alike, X.tail, State.WarmedH.trans X.warmed hW', X.limits, X.bytes, Xs⟩, ?_⟩
  · have hc1 : U.heap[q]? = some U.heap[q] := Array.getElem?_eq_getElem hq
    obtain ⟨c', h1, h2, h3, h4⟩ := q6 q _ hc1
    have h5 : c'.slots = U.heap[q].slots := by
      apply Array.ext_getElem?
      intro i
      exact h4 i (fun q => nomatch q)
    rw [hc1]
    show s₂.heap[q]? = _
    rw [show s₂.heap[q]? = some c' from h1, h2, h5]
  · rw [← hs₂]
    exact hsteps
end TX_C

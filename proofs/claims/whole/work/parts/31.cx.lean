section CX_A
/-- words beside the good ones that the class needs -/
def nwc_ : List Cond := [.methodLinkNest "HelpedLog" 156 yn_Q_init "HelpedLog", .methodLinkNest "HelpedLog" 159 yn_S_init "HelpedLog", .methodLinkNest "HelpedLog" 38 yn_N_init "HelpedLog", .declares ⟨"HelpedLog$Plain", "perform", "(III)I"⟩, .declares ⟨"HelpedLog$Bag", "takeOut", "()I"⟩, .selects "HelpedLog$Queue" yn_G_putIn yn_G_putIn, .selects "HelpedLog$Stack" yn_G_putIn yn_G_putIn]
theorem nw_ok : ∀ w ∈ nwc_, nk_ w = true := by
  intro w hw
  simp only [nwc_, List.mem_cons, List.not_mem_nil, or_false] at hw
  rcases hw with rfl | rfl | rfl | rfl | rfl | rfl | rfl <;> rfl
theorem nw_3 : Cond.declares ⟨"HelpedLog$Plain", "perform", "(III)I"⟩ ∈ nwc_ := List.mem_of_getElem? (i := 3) rfl
theorem nw_4 : Cond.declares ⟨"HelpedLog$Bag", "takeOut", "()I"⟩ ∈ nwc_ := List.mem_of_getElem? (i := 4) rfl
theorem nw_Q : Cond.selects "HelpedLog$Queue" yn_G_putIn yn_G_putIn ∈ nwc_ := List.mem_of_getElem? (i := 5) rfl
theorem nw_S : Cond.selects "HelpedLog$Stack" yn_G_putIn yn_G_putIn ∈ nwc_ := List.mem_of_getElem? (i := 6) rfl
theorem tg_c {k : Cond} (h : k ∈ TG_) : GoodIn TG_ (k :: TG_) := tg_all (fun w hw => (List.mem_cons.mp hw).elim (fun e => by rw [e]; exact h) id)
theorem tg_wsU {own C owner : String} {index : Nat} {x y : MethodName} {k : Cond} (h1 : Cond.methodLink own index x ∈ TG_) (h2 : Cond.sameMethod x.cls owner x.name x.desc ∈ TG_) (h3 : Cond.selects C x y ∈ TG_) (h4 : Cond.instanceMethod y ∈ TG_) (h5 : Cond.initialized y.cls ∈ TG_) (h6 : k ∈ TG_) : GoodIn TG_ (va_wsU own index C owner x y (k :: TG_)) := tg_all (fun w hw => by
  unfold va_wsU at hw
  simp only [List.cons_append, List.nil_append, List.mem_cons] at hw
  rcases hw with rfl | rfl | rfl | rfl | rfl | rfl | hw
  · exact h1
  · exact h2
  · exact h3
  · exact h4
  · exact h5
  · exact h6
  · exact hw)
/-- a private method of a class above: it selects itself -/
theorem sel_priv {C : String} {x y z : MethodName} {s : State} {args : Array Value} (hy : y.cls ≠ "java/lang/invoke/MethodHandle" ∧ y.cls ≠ "java/lang/invoke/VarHandle") (hz : (Cond.selects C x z).before args s = true) (hzy : z.cls = y.cls) (hpriv : (Cond.privateMethod y).before args s = true) (hinst : (Cond.instanceMethod y).before args s = true) : (Cond.selects C y y).before args s = true := by
  obtain ⟨c, r, mz, hc, -, hnz, -, k, hk, hki⟩ := Cond.selects_spec hz
  obtain ⟨mk, methM, hnamed, hmethM, -, -⟩ := Cond.instanceMethod_spec hinst
  have hfound : s.methodFound? y.cls y.name y.desc = some mk := State.methodFound?_of_named hnamed hy
  have hcls : mz.cls = mk.cls := by
    have h1 := findClass_of_methodNamed hnamed
    have h2 := findClass_of_methodNamed hnz
    rw [hzy] at h2
    exact Option.some.inj (h2.symm.trans h1)
  rw [hcls] at hk
  have hsel : selectMethod {} s.vm c mk = .method mk := selectMethod_private hmethM (Cond.privateMethod_at hpriv mk methM hnamed hmethM)
  simp only [Cond.before, Cond.holds, Cond.value, hc, hfound, hnamed, hsel, hk]
  simp; exact hki
end CX_A
section CX_B
variable {p : Program} {l : Launch} {e : Env} {R : Room} {s : State} {m : MethodId} {args : Array Value} {below : List Frame} {meth : Method} {c : Code} {D : va_G} {cl : List vw_C} {A : Nat → Prop} {nL cells slots : Nat} {Q : State → Prop} {w w' : va_W}
variable {cc : ByteArray} {own : String} {tys : List (ClassId × FieldType)} {pc : Nat} {L : List (Nat × Value)} {rest : List Value} {nw : List Cond} {r : Option Value}
theorem go_null (X : Cx_ p l e R s m args below meth c cc nL own D cl tys TG_) (d : decode cc pc = .ok (.aconst_null, 1)) (k : Go_ p l e R s m args below meth c D cl A nL cells slots Q w (pc + 1) L (.null :: rest)) : Go_ p l e R s m args below meth c D cl A nL cells slots Q w pc L rest := fun H locs ls hP hD hS hl => lv_null X.1 X.2.1 d (k H locs ls hP hD hS hl)
theorem go_ixor (X : Cx_ p l e R s m args below meth c cc nL own D cl tys TG_) {x y : Int32} (d : decode cc pc = .ok (.ixor, 1)) (k : Go_ p l e R s m args below meth c D cl A nL cells slots Q w (pc + 1) L (.int (x ^^^ y) :: rest)) : Go_ p l e R s m args below meth c D cl A nL cells slots Q w pc L (.int y :: .int x :: rest) := fun H locs ls hP hD hS hl => lv_ixor X.1 X.2.1 d (k H locs ls hP hD hS hl)
theorem go_max (X : Cx_ p l e R s m args below meth c cc nL own D cl tys TG_) {index : Nat} {x y : Int32} (h1 : Cond.methodLink own index yn_J_max ∈ TG_) (hf : 1 ≤ R.frames) (hlo : (rest.map fun v => v.category).sum + 13 ≤ R.locals) (hcs : cells ≤ R.cells ∧ slots ≤ R.slots) (d : decode cc pc = .ok (.invokestatic index, 3)) (k : Go_ p l e R s m args below meth c D cl A nL cells slots Q w (pc + 3) L (.int (if x < y then y else x) :: rest)) : Go_ p l e R s m args below meth c D cl A nL cells slots Q w pc L (.int y :: .int x :: rest) := fun H locs ls hP hD hS hl => va_mmax X.1 X.2.1 (X.2.2.1.trans hl.1.1.symm) X.2.2.2.1 (X.2.2.2.2.1 _ h1) (X.2.2.2.2.1 _ sm_J_max) (X.2.2.2.2.1 _ ik_J) (X.2.2.2.2.1 _ co_J_max) hf hlo hcs.1 hcs.2 d (k H locs ls hP hD hS hl)
theorem go_min (X : Cx_ p l e R s m args below meth c cc nL own D cl tys TG_) {index : Nat} {x y : Int32} (h1 : Cond.methodLink own index yn_J_min ∈ TG_) (hf : 1 ≤ R.frames) (hlo : (rest.map fun v => v.category).sum + 13 ≤ R.locals) (hcs : cells ≤ R.cells ∧ slots ≤ R.slots) (d : decode cc pc = .ok (.invokestatic index, 3)) (k : Go_ p l e R s m args below meth c D cl A nL cells slots Q w (pc + 3) L (.int (if y < x then y else x) :: rest)) : Go_ p l e R s m args below meth c D cl A nL cells slots Q w pc L (.int y :: .int x :: rest) := fun H locs ls hP hD hS hl => va_mmin X.1 X.2.1 (X.2.2.1.trans hl.1.1.symm) X.2.2.2.1 (X.2.2.2.2.1 _ h1) (X.2.2.2.2.1 _ sm_J_min) (X.2.2.2.2.1 _ ik_J) (X.2.2.2.2.1 _ co_J_min) hf hlo hcs.1 hcs.2 d (k H locs ls hP hD hS hl)
theorem go_callW (X : Cx_ p l e R s m args below meth c cc nL own D cl tys TG_) (hN : NW_ nw s) {index maxL n : Nat} {y : MethodName} {bytes : ByteArray} {ret : Option FieldType} {rm : Room} {As st0 : List Value} {C : String} {Tf : u_T} {Nf ci i a : Nat} {fs : List Value} (hM : Ct_ l D cl tys A nw y (.code y bytes maxL ret :: TG_) rm (.ref a :: As) w w' r) (h1 : Cond.methodLink own index y ∈ TG_) (h2 : Cond.instanceMethod y ∈ TG_) (h3 : (Cond.selects C y y).before args s = true) (h4 : Cond.initialized y.cls ∈ TG_) (h5 : Cond.code y bytes maxL ret ∈ TG_) (hd : y.cls ≠ "java/lang/invoke/MethodHandle" ∧ y.cls ≠ "java/lang/invoke/VarHandle" ∧ (parseMethodDescriptor y.desc).map (fun d => d.parameters.length) = some n) (hR : rm.cells = 0 ∧ rm.slots = 0 ∧ rm.frames + 1 ≤ R.frames ∧ 8 + (maxL + 11) + rm.locals ≤ R.locals)
    (hc : cl[ci]? = some (C, Tf, Nf)) (hw : w[i]? = some (a, .inr (ci, fs))) (hst : st0 = As.reverse ++ .ref a :: rest) (hn : As.length = n) (hroom : (rest.map fun v => v.category).sum ≤ 8) (d : decode cc pc = .ok (.invokevirtual index, 3)) (hcs : cells ≤ R.cells ∧ slots ≤ R.slots)
    (k : Go_ p l e R s m args below meth c D cl A nL cells slots Q w' (pc + 3) L (r.toList ++ rest)) : Go_ p l e R s m args below meth c D cl A nL cells slots Q w pc L st0 := by
  refine go_run (r := r) (rest := rest) (a := (Value.ref a :: As).toArray) (fun H locs ls hP hD hl => ?_) k
  obtain ⟨hx, hb, hml, hown, hts, hK, -⟩ := X
  exact va_runV (As := As) (rest := rest) (C := C) ⟨hx, hb, hml, hown, hts⟩ hM ⟨callB_of n hts (tg_c h5) rfl hR.1 hR.2.1 (hts _ h4) (hts _ h1) hd hR.2.2, hts _ h2, h3⟩ ⟨Pd_blind, va_recv hK hP hc hw, fun U hU hW => ⟨rfl, by rw [hU]; exact hP, hD, va_K.moved hW.alike hK, NW_warm hW hN⟩⟩ rfl hn hl.1.1 hst (lv_room hroom) d hcs
theorem go_callT (X : Cx_ p l e R s m args below meth c cc nL own D cl tys TG_) (hN : NW_ nw s) {index maxL n : Nat} {y : MethodName} {bytes : ByteArray} {ret : Option FieldType} {rm : Room} {As st0 : List Value} (hM : Ct_ l D cl tys A nw y (.code y bytes maxL ret :: TG_) rm (As) w w' r) (h1 : Cond.methodLink own index y ∈ TG_) (h2 : Cond.static y ∈ TG_) (h4 : Cond.initialized y.cls ∈ TG_) (h5 : Cond.code y bytes maxL ret ∈ TG_) (hd : y.cls ≠ "java/lang/invoke/MethodHandle" ∧ y.cls ≠ "java/lang/invoke/VarHandle" ∧ (parseMethodDescriptor y.desc).map (fun d => d.parameters.length) = some n) (hR : rm.cells = 0 ∧ rm.slots = 0 ∧ rm.frames + 1 ≤ R.frames ∧ 8 + (maxL + 11) + rm.locals ≤ R.locals)
    (hst : st0 = As.reverse ++ rest) (hn : As.length = n) (hroom : (rest.map fun v => v.category).sum ≤ 8) (d : decode cc pc = .ok (.invokestatic index, 3)) (hcs : cells ≤ R.cells ∧ slots ≤ R.slots)
    (k : Go_ p l e R s m args below meth c D cl A nL cells slots Q w' (pc + 3) L (r.toList ++ rest)) : Go_ p l e R s m args below meth c D cl A nL cells slots Q w pc L st0 := by
  refine go_run (r := r) (rest := rest) (a := As.toArray) (fun H locs ls hP hD hl => ?_) k
  obtain ⟨hx, hb, hml, hown, hts, hK, -⟩ := X
  exact va_runS (As := As) (rest := rest) ⟨hx, hb, hml, hown, hts⟩ hM ⟨callB_of n hts (tg_c h5) rfl hR.1 hR.2.1 (hts _ h4) (hts _ h1) hd hR.2.2, hts _ h2⟩ ⟨Pd_blind, fun U hU hW => ⟨rfl, by rw [hU]; exact hP, hD, va_K.moved hW.alike hK, NW_warm hW hN⟩⟩ rfl hn hl.1.1 hst (lv_room hroom) d hcs
theorem go_callA (X : Cx_ p l e R s m args below meth c cc nL own D cl tys TG_) (hN : NW_ nw s) {index maxL n : Nat} {y : MethodName} {bytes : ByteArray} {ret : Option FieldType} {rm : Room} {As st0 : List Value} {C owner : String} {x : MethodName} {Tf : u_T} {Nf ci i a : Nat} {fs : List Value} (hM : Ct_ l D cl tys A nw y (.code y bytes maxL ret :: TG_) rm (.ref a :: As) w w' r) (h1 : Cond.methodLink own index x ∈ TG_) (h2 : Cond.sameMethod x.cls owner x.name x.desc ∈ TG_) (h3 : Cond.selects C x y ∈ TG_) (h4 : Cond.instanceMethod y ∈ TG_) (h5 : Cond.initialized y.cls ∈ TG_) (h6 : Cond.code y bytes maxL ret ∈ TG_) (hz : Cond.declares ⟨owner, x.name, x.desc⟩ ∈ nw) (hd : owner ≠ "java/lang/invoke/MethodHandle" ∧ owner ≠ "java/lang/invoke/VarHandle" ∧ (parseMethodDescriptor x.desc).map (fun d => d.parameters.length) = some n) (hR : rm.cells = 0 ∧ rm.slots = 0 ∧ rm.frames + 1 ≤ R.frames ∧ 8 + (maxL + 11) + rm.locals ≤ R.locals)
    (hc : cl[ci]? = some (C, Tf, Nf)) (hw : w[i]? = some (a, .inr (ci, fs))) (hst : st0 = As.reverse ++ .ref a :: rest) (hn : As.length = n) (hroom : (rest.map fun v => v.category).sum ≤ 8) (d : decode cc pc = .ok (.invokevirtual index, 3)) (hcs : cells ≤ R.cells ∧ slots ≤ R.slots)
    (k : Go_ p l e R s m args below meth c D cl A nL cells slots Q w' (pc + 3) L (r.toList ++ rest)) : Go_ p l e R s m args below meth c D cl A nL cells slots Q w pc L st0 := by
  refine go_run (r := r) (rest := rest) (a := (Value.ref a :: As).toArray) (fun H locs ls hP hD hl => ?_) k
  obtain ⟨hx, hb, hml, hown, hts, hK, -⟩ := X
  exact va_runU (As := As) (rest := rest) ⟨hx, hb, hml, hown, hts⟩ hM (va_cwA n hts (tg_wsU h1 h2 h3 h4 h5 h6) rfl hR.1 hR.2.1 (hN.2 _ hz) hd hR.2.2) ⟨Pd_blind, va_recv hK hP hc hw, fun U hU hW => ⟨rfl, by rw [hU]; exact hP, hD, va_K.moved hW.alike hK, NW_warm hW hN⟩⟩ rfl hn hl.1.1 hst (lv_room hroom) d hcs
end CX_B

section CALLS_A
theorem tg_all {ws : List Cond} (h : ∀ w ∈ ws, w ∈ TG_) : GoodIn TG_ ws := fun w hw => ⟨h w hw, good_of_word (List.mem_filter.mp (h w hw)).2⟩
theorem tg_wsV {own C : String} {index : Nat} {y : MethodName} {k : Cond} (h1 : Cond.methodLink own index y ∈ TG_) (h2 : Cond.instanceMethod y ∈ TG_) (h3 : Cond.selects C y y ∈ TG_) (h4 : Cond.initialized C ∈ TG_) (h5 : k ∈ TG_) : GoodIn TG_ (wsV own index C y (k :: TG_)) := tg_all (fun w hw => by
  unfold wsV at hw
  simp only [List.cons_append, List.nil_append, List.mem_cons] at hw
  rcases hw with rfl | rfl | rfl | rfl | rfl | hw
  · exact h1
  · exact h2
  · exact h3
  · exact h4
  · exact h5
  · exact hw)
theorem tg_wsS {own : String} {index : Nat} {y : MethodName} {k : Cond} (h1 : Cond.methodLink own index y ∈ TG_) (h2 : Cond.static y ∈ TG_) (h4 : Cond.initialized own ∈ TG_) (h5 : k ∈ TG_) : GoodIn TG_ (wsS own index y (k :: TG_)) := tg_all (fun w hw => by
  unfold wsS at hw
  simp only [List.cons_append, List.nil_append, List.mem_cons] at hw
  rcases hw with rfl | rfl | rfl | rfl | hw
  · exact h1
  · exact h2
  · exact h4
  · exact h5
  · exact hw)
end CALLS_A
section CALLS_B
variable {p : Program} {l : Launch} {e : Env} {R : Room} {s : State} {m : MethodId} {args : Array Value} {below : List Frame} {meth : Method} {c : Code} {D : va_G} {cl : List vw_C} {A : Nat → Prop} {nL cells slots : Nat} {Q : State → Prop} {w w' : va_W}
variable {cc : ByteArray} {own : String} {tys : List (ClassId × FieldType)} {pc : Nat} {L : List (Nat × Value)} {rest : List Value} {nw : List Cond} {r : Option Value}
theorem go_callV (X : Cx_ p l e R s m args below meth c cc nL own D cl tys TG_) (hN : NW_ nw s) {C : String} {Tf : u_T} {Nf ci i a index maxL n : Nat} {y : MethodName} {bytes : ByteArray} {ret : Option FieldType} {rm : Room} {As fs st0 : List Value}
    (hM : Ct_ l D cl tys A nw y (.code y bytes maxL ret :: TG_) rm (.ref a :: As) w w' r) (h1 : Cond.methodLink own index y ∈ TG_) (h2 : Cond.instanceMethod y ∈ TG_) (h3 : Cond.selects C y y ∈ TG_) (h4 : Cond.initialized C ∈ TG_) (h5 : Cond.code y bytes maxL ret ∈ TG_)
    (hd : y.cls = C ∧ y.cls ≠ "java/lang/invoke/MethodHandle" ∧ y.cls ≠ "java/lang/invoke/VarHandle" ∧ (parseMethodDescriptor y.desc).map (fun d => d.parameters.length) = some n) (hR : rm.cells = 0 ∧ rm.slots = 0 ∧ rm.frames + 1 ≤ R.frames ∧ 8 + (maxL + 11) + rm.locals ≤ R.locals)
    (hc : cl[ci]? = some (C, Tf, Nf)) (hw : w[i]? = some (a, .inr (ci, fs))) (hst : st0 = As.reverse ++ .ref a :: rest) (hn : As.length = n) (hroom : (rest.map fun v => v.category).sum ≤ 8) (d : decode cc pc = .ok (.invokevirtual index, 3))
    (k : Go_ p l e R s m args below meth c D cl A nL cells slots Q w' (pc + 3) L (r.toList ++ rest)) (hcs : cells ≤ R.cells ∧ slots ≤ R.slots) : Go_ p l e R s m args below meth c D cl A nL cells slots Q w pc L st0 := by
  refine go_run (r := r) (rest := rest) (a := (Value.ref a :: As).toArray) (fun H locs ls hP hD hl => ?_) k
  obtain ⟨hx, hb, hml, hown, hts, hK, -⟩ := X
  exact va_runV (As := As) (rest := rest) ⟨hx, hb, hml, hown, hts⟩ hM (cwV n hts (tg_wsV h1 h2 h3 h4 h5) rfl hR.1 hR.2.1 hd hR.2.2) ⟨Pd_blind, va_recv hK hP hc hw, fun U hU hW => ⟨rfl, by rw [hU]; exact hP, hD, va_K.moved hW.alike hK, NW_warm hW hN⟩⟩ rfl hn hl.1.1 hst (lv_room hroom) d hcs
theorem go_callS (X : Cx_ p l e R s m args below meth c cc nL own D cl tys TG_) (hN : NW_ nw s) {index maxL n : Nat} {y : MethodName} {bytes : ByteArray} {ret : Option FieldType} {rm : Room} {As st0 : List Value}
    (hM : Ct_ l D cl tys A nw y (.code y bytes maxL ret :: TG_) rm As w w' r) (h1 : Cond.methodLink own index y ∈ TG_) (h2 : Cond.static y ∈ TG_) (h4 : Cond.initialized own ∈ TG_) (h5 : Cond.code y bytes maxL ret ∈ TG_)
    (hd : y.cls = own ∧ y.cls ≠ "java/lang/invoke/MethodHandle" ∧ y.cls ≠ "java/lang/invoke/VarHandle" ∧ (parseMethodDescriptor y.desc).map (fun d => d.parameters.length) = some n) (hR : rm.cells = 0 ∧ rm.slots = 0 ∧ rm.frames + 1 ≤ R.frames ∧ 8 + (maxL + 11) + rm.locals ≤ R.locals)
    (hst : st0 = As.reverse ++ rest) (hn : As.length = n) (hroom : (rest.map fun v => v.category).sum ≤ 8) (d : decode cc pc = .ok (.invokestatic index, 3))
    (k : Go_ p l e R s m args below meth c D cl A nL cells slots Q w' (pc + 3) L (r.toList ++ rest)) (hcs : cells ≤ R.cells ∧ slots ≤ R.slots) : Go_ p l e R s m args below meth c D cl A nL cells slots Q w pc L st0 := by
  refine go_run (r := r) (rest := rest) (a := As.toArray) (fun H locs ls hP hD hl => ?_) k
  obtain ⟨hx, hb, hml, hown, hts, hK, -⟩ := X
  exact va_runS (As := As) (rest := rest) ⟨hx, hb, hml, hown, hts⟩ hM (cwS n hts (tg_wsS h1 h2 h4 h5) rfl hR.1 hR.2.1 hd hR.2.2) ⟨Pd_blind, fun U hU hW => ⟨rfl, by rw [hU]; exact hP, hD, va_K.moved hW.alike hK, NW_warm hW hN⟩⟩ rfl hn hl.1.1 hst (lv_room hroom) d hcs
/-- into a method, its words the tables' good ones -/
theorem go_in {y : MethodName} {d : Nat} {av : List Value} {maxL : Nat} {ret : Option FieldType} (hy : plainName y.cls = true) (hav : (lg_sl av).length ≤ maxL) (hcat : ∀ q ∈ lv_args 0 av, q.2.category = 1)
    (body : ∀ p e s m args below meth c, Cx_ p l e (rm_d d) s m args below meth c cc maxL y.cls D cl tys TG_ → meth.sig.returnType = ret → meth.name = y.name → NW_ nw s →
      Go_ p l e (rm_d d) s m args below meth c D cl A maxL 0 0 (MQ below (Qd_ D cl A w' r) args s 0 0 A) w 0 (lv_args 0 av) []) : Ct_ l D cl tys A nw y (.code y cc maxL ret :: TG_) (rm_d d) av w w' r :=
  go_enter (cc := cc) (maxL := maxL) (ret := ret) hy rfl hav hcat (fun p e s m args below meth c X hr hn hN => body p e s m args below meth c ⟨X.1, X.2.1, X.2.2.1, X.2.2.2.1, fun w hw => X.2.2.2.2.1 w (List.mem_cons_of_mem _ hw), X.2.2.2.2.2⟩ hr hn hN)
end CALLS_B

section NI_A
variable {p : Program} {l : Launch} {e : Env} {R : Room} {s : State} {m : MethodId} {args : Array Value} {below : List Frame} {meth : Method} {c : Code} {D : va_G} {cl : List vw_C} {A : Nat → Prop} {nL cells slots : Nat} {Q : State → Prop} {w w1 w2 : va_W}
variable {cc : ByteArray} {own : String} {tys : List (ClassId × FieldType)} {TS : List Cond} {pc : Nat} {L : List (Nat × Value)} {rest : List Value} {nw : List Cond}
theorem mem_sw {α : Type} {u v : List α} : ∀ q ∈ v ++ u, q ∈ u ++ v := fun q hq => by
  rcases List.mem_append.mp hq with h | h
  · exact List.mem_append_right _ h
  · exact List.mem_append_left _ h
theorem mem_or {α : Type} {u v : List α} : ∀ q ∈ u ++ v, q ∈ v ∨ q ∈ u := fun q hq => (List.mem_append.mp hq).symm
/-- a constructor's call; its part of the world lies behind -/
theorem go_nI (X : Cx_ p l e R s m args below meth c cc nL own D cl tys TG_) (hN : NW_ nw s) (hA : ∀ q, s.heap.size ≤ q → A q) {index maxL n b : Nat} {y : MethodName} {bytes : ByteArray} {rm : Room} {As st0 : List Value} {B : Nat → Nat → va_W} {rv : Nat → Nat → Option Value}
    (hM : Cn_ l D cl tys nw y (.code y bytes maxL none :: TG_) rm (.ref b :: As) w1 B rv) (h1 : Cond.methodLink own index y ∈ TG_) (h2 : Cond.instanceMethod y ∈ TG_) (h4 : Cond.initialized y.cls ∈ TG_) (h5 : Cond.code y bytes maxL none ∈ TG_) (hy1 : y.name = "<init>")
    (hd : y.cls ≠ "java/lang/invoke/MethodHandle" ∧ y.cls ≠ "java/lang/invoke/VarHandle" ∧ (parseMethodDescriptor y.desc).map (fun d => d.parameters.length) = some n) (hR : rm.frames + 1 ≤ R.frames ∧ 8 + (maxL + 11) + rm.locals ≤ R.locals) (hcs : cells + rm.cells ≤ R.cells ∧ slots + rm.slots ≤ R.slots)
    (hst : st0 = As.reverse ++ .ref b :: rest) (hn : As.length = n) (hroom : (rest.map fun v => v.category).sum ≤ 8) (d : decode cc pc = .ok (.invokespecial index, 3))
    (k : ∀ b1 b2, Go_ p l e R s m args below meth c D cl A nL (cells + rm.cells) (slots + rm.slots) Q (w2 ++ B b1 b2) (pc + 3) L ((rv b1 b2).toList ++ rest)) : Go_ p l e R s m args below meth c D cl A nL cells slots Q (w2 ++ w1) pc L st0 := by
  refine go_runG (w1 := w1) (w2 := w2) (B := B) (w' := fun b1 b2 => w2 ++ B b1 b2) (rv := rv) (rest := rest) (a := (Value.ref b :: As).toArray) (fun H locs ls hP hD hl => ?_) vd_swap mem_sw hA (fun _ _ => mem_or) (fun _ _ => vd_swap) k
  obtain ⟨hx, hb, hml, hown, hts, hK, -⟩ := X
  exact va_runI (As := As) (rest := rest) ⟨hx, hb, hml, hown, hts⟩ (hM H.size) ⟨callB_of n hts (tg_c h5) rfl rfl rfl (hts _ h4) (hts _ h1) hd hR, hy1, hts _ h2⟩ ⟨Pn_blind, fun U hU hW => ⟨rfl, by rw [hU]; exact hP, hD, va_K.moved hW.alike hK, NW_warm hW hN, by rw [hU]⟩⟩ rfl hn hl.1.1 hst (lv_room hroom) d hcs
theorem go_nN (X : Cx_ p l e R s m args below meth c cc nL own D cl tys TG_) (hN : NW_ nw s) (hA : ∀ q, s.heap.size ≤ q → A q) {host : String} {index maxL n b : Nat} {y : MethodName} {bytes : ByteArray} {rm : Room} {As st0 : List Value} {B : Nat → Nat → va_W} {rv : Nat → Nat → Option Value}
    (hM : Cn_ l D cl tys nw y (.code y bytes maxL none :: TG_) rm (.ref b :: As) w1 B rv) (h1 : Cond.methodLinkNest own index y host ∈ nw) (h2 : Cond.instanceMethod y ∈ TG_) (h4 : Cond.initialized y.cls ∈ TG_) (h5 : Cond.code y bytes maxL none ∈ TG_) (hy1 : y.name = "<init>")
    (hd : y.cls ≠ "java/lang/invoke/MethodHandle" ∧ y.cls ≠ "java/lang/invoke/VarHandle" ∧ (parseMethodDescriptor y.desc).map (fun d => d.parameters.length) = some n) (hR : rm.frames + 1 ≤ R.frames ∧ 8 + (maxL + 11) + rm.locals ≤ R.locals) (hcs : cells + rm.cells ≤ R.cells ∧ slots + rm.slots ≤ R.slots)
    (hst : st0 = As.reverse ++ .ref b :: rest) (hn : As.length = n) (hroom : (rest.map fun v => v.category).sum ≤ 8) (d : decode cc pc = .ok (.invokespecial index, 3))
    (k : ∀ b1 b2, Go_ p l e R s m args below meth c D cl A nL (cells + rm.cells) (slots + rm.slots) Q (w2 ++ B b1 b2) (pc + 3) L ((rv b1 b2).toList ++ rest)) : Go_ p l e R s m args below meth c D cl A nL cells slots Q (w2 ++ w1) pc L st0 := by
  refine go_runG (w1 := w1) (w2 := w2) (B := B) (w' := fun b1 b2 => w2 ++ B b1 b2) (rv := rv) (rest := rest) (a := (Value.ref b :: As).toArray) (fun H locs ls hP hD hl => ?_) vd_swap mem_sw hA (fun _ _ => mem_or) (fun _ _ => vd_swap) k
  obtain ⟨hx, hb, hml, hown, hts, hK, -⟩ := X
  exact va_runIN (As := As) (rest := rest) (host := host) ⟨hx, hb, hml, hown, hts⟩ (hM H.size) ⟨va_cnB n hts (tg_c h5) rfl rfl rfl (hN.2 _ h1) (hts _ h4) hd hR, hy1, hts _ h2⟩ ⟨Pn_blind, fun U hU hW => ⟨rfl, by rw [hU]; exact hP, hD, va_K.moved hW.alike hK, NW_warm hW hN, by rw [hU]⟩⟩ rfl hn hl.1.1 hst (lv_room hroom) d hcs
theorem go_nS (X : Cx_ p l e R s m args below meth c cc nL own D cl tys TG_) (hN : NW_ nw s) (hA : ∀ q, s.heap.size ≤ q → A q) {index maxL n : Nat} {y : MethodName} {bytes : ByteArray} {ret : Option FieldType} {rm : Room} {As st0 : List Value} {B : Nat → Nat → va_W} {rv : Nat → Nat → Option Value}
    (hM : Cn_ l D cl tys nw y (.code y bytes maxL ret :: TG_) rm As w1 B rv) (h1 : Cond.methodLink own index y ∈ TG_) (h2 : Cond.static y ∈ TG_) (h4 : Cond.initialized y.cls ∈ TG_) (h5 : Cond.code y bytes maxL ret ∈ TG_)
    (hd : y.cls ≠ "java/lang/invoke/MethodHandle" ∧ y.cls ≠ "java/lang/invoke/VarHandle" ∧ (parseMethodDescriptor y.desc).map (fun d => d.parameters.length) = some n) (hR : rm.frames + 1 ≤ R.frames ∧ 8 + (maxL + 11) + rm.locals ≤ R.locals) (hcs : cells + rm.cells ≤ R.cells ∧ slots + rm.slots ≤ R.slots)
    (hst : st0 = As.reverse ++ rest) (hn : As.length = n) (hroom : (rest.map fun v => v.category).sum ≤ 8) (d : decode cc pc = .ok (.invokestatic index, 3))
    (k : ∀ b1 b2, Go_ p l e R s m args below meth c D cl A nL (cells + rm.cells) (slots + rm.slots) Q (w2 ++ B b1 b2) (pc + 3) L ((rv b1 b2).toList ++ rest)) : Go_ p l e R s m args below meth c D cl A nL cells slots Q (w2 ++ w1) pc L st0 := by
  refine go_runG (w1 := w1) (w2 := w2) (B := B) (w' := fun b1 b2 => w2 ++ B b1 b2) (rv := rv) (rest := rest) (a := As.toArray) (fun H locs ls hP hD hl => ?_) vd_swap mem_sw hA (fun _ _ => mem_or) (fun _ _ => vd_swap) k
  obtain ⟨hx, hb, hml, hown, hts, hK, -⟩ := X
  exact va_runS (As := As) (rest := rest) ⟨hx, hb, hml, hown, hts⟩ (hM H.size) ⟨callB_of n hts (tg_c h5) rfl rfl rfl (hts _ h4) (hts _ h1) hd hR, hts _ h2⟩ ⟨Pn_blind, fun U hU hW => ⟨rfl, by rw [hU]; exact hP, hD, va_K.moved hW.alike hK, NW_warm hW hN, by rw [hU]⟩⟩ rfl hn hl.1.1 hst (lv_room hroom) d hcs
/-- an array's contents matter up to its length -/
theorem gw_arr {i n a : Nat} {cA : ClassId} {f f' : Nat → Int32} (hw : w[i]? = some (a, .inl (cA, n, .inl f))) (hf : ∀ j, j < n → f j = f' j) (kk : Go_ p l e R s m args below meth c D cl A nL cells slots Q (w.set i (a, .inl (cA, n, .inl f'))) pc L rest) : Go_ p l e R s m args below meth c D cl A nL cells slots Q w pc L rest := fun H locs ls hP hD hS h => by
  have hil := (List.getElem?_eq_some_iff.mp hw).1
  refine kk H locs ls (fun k q hk => ?_) (vd_adr hD ?_) hS h
  · rw [List.getElem?_set] at hk
    by_cases e : i = k
    · rw [if_pos e, if_pos hil] at hk
      cases Option.some.inj hk
      have h1 : H[a]? = some (vp_cell cA (n, .inl f)) := hP i _ hw
      show H[a]? = some (vp_cell cA (n, .inl f'))
      rw [h1, arr_same hf]
    · rw [if_neg e] at hk
      exact hP k q hk
  · apply List.ext_getElem?
    intro k
    rw [List.getElem?_map, List.getElem?_map, List.getElem?_set]
    by_cases e : i = k
    · rw [if_pos e, if_pos hil, ← e, hw]
      rfl
    · rw [if_neg e]
theorem prim_i (u : State) (cA : ClassId) (h : va_RA u cA .int) : u.vm.findClass ("[" ++ FieldType.int.toString) = some cA := h
theorem prim_z (u : State) (cA : ClassId) (h : va_RA u cA .boolean) : u.vm.findClass ("[" ++ FieldType.boolean.toString) = some cA := h
theorem prim_j (u : State) (cA : ClassId) (h : va_RA u cA .long) : u.vm.findClass ("[" ++ FieldType.long.toString) = some cA := h
end NI_A

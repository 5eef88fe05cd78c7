section LWR_A
variable {A : Nat → Prop} {u v w1 w1' : va_W}
theorem vd_r {u v : va_W} (h : va_D A (u ++ v)) : va_D A v := vd_l (vd_swap h)
theorem fm_D (h : va_D A (u ++ (w1 ++ v))) : va_D (in_w w1) w1 := vd_self (vd_l (vd_r h))
theorem fm_sub : ∀ q ∈ w1, q ∈ u ++ (w1 ++ v) := fun _ hq => List.mem_append_right _ (List.mem_append_left _ hq)
theorem fm_A (h : va_D A (u ++ (w1 ++ v))) : ∀ q, in_w w1 q → A q := fp_A (vd_r h)
theorem fm_res (h : va_D A (u ++ (w1 ++ v))) : ∀ q ∈ u ++ (w1' ++ v), q ∈ w1' ∨ (q ∈ u ++ (w1 ++ v) ∧ ¬ in_w w1 q.1) := by
  intro q hq
  rcases List.mem_append.mp hq with h1 | h1
  · refine Or.inr ⟨List.mem_append_left _ h1, fun ⟨q', hq', e⟩ => ?_⟩
    exact vd_app h h1 (List.mem_append_left _ hq') e.symm
  · rcases List.mem_append.mp h1 with h2 | h2
    · exact Or.inl h2
    · exact Or.inr ⟨List.mem_append_right _ (List.mem_append_right _ h2), fun ⟨q', hq', e⟩ => vd_app (vd_r h) hq' h2 e⟩
theorem fm_adr (e : w1'.map (fun q => q.1) = w1.map (fun q => q.1)) : (u ++ (w1' ++ v)).map (fun q => q.1) = (u ++ (w1 ++ v)).map (fun q => q.1) := by
  rw [List.map_append, List.map_append, List.map_append, List.map_append, e]
end LWR_A
section LWR_B
variable {p : Program} {l : Launch} {e : Env} {R : Room} {s : State} {m : MethodId} {args : Array Value} {below : List Frame} {meth : Method} {c : Code} {D : va_G} {cl : List vw_C} {A : Nat → Prop} {nL cells slots : Nat} {Q : State → Prop} {w u v w1 w1' : va_W}
variable {cc : ByteArray} {own : String} {tys : List (ClassId × FieldType)} {TS : List Cond} {pc : Nat} {L : List (Nat × Value)} {rest : List Value} {nw : List Cond} {r : Option Value}
/-- a static method with handlers -/
theorem va_runSW {H : Heap} {locs : List Loc} {y : MethodName} {bytes : ByteArray} {maxL mc ms n index : Nat} {ret : Option FieldType} {hh : List (Nat × Nat × Nat × Nat)} {ws : List Cond} {rm : Room} {Pc : Array Value → State → Prop} {Qc : Array Value → State → Outcome → State → Prop} {free : Addr → Prop} {Ts : List Cond} {As : List Value} {g : JFrame}
    (S : CallFix p m c cc nL s args Ts own) (hM : Met l y ws rm Pc Qc mc ms free) (hrc : rm.cells = mc) (hrs : rm.slots = ms) (hR : rm.frames + 1 ≤ R.frames ∧ 8 + (maxL + 11) + rm.locals ≤ R.locals) (hws : ∀ w ∈ ws, ∀ (a' : Array Value) (U : State), s.WarmedH U.vm → w.before a' U = true) (hcw : Cond.codeWith y bytes maxL ret hh ∈ ws) (hini : (Cond.initialized y.cls).before args s = true) (hst : (Cond.static y).before args s = true) (hlink : (Cond.methodLink own index y).before args s = true)
    (hd : y.cls ≠ "java/lang/invoke/MethodHandle" ∧ y.cls ≠ "java/lang/invoke/VarHandle" ∧ (parseMethodDescriptor y.desc).map (fun d => d.parameters.length) = some n) (hp : PreS s H Pc As)
    (hg : g.method = m) (hn : As.length = n) (hsize : g.locals.size = nL) (hstack : g.stack = As.reverse ++ rest) (hW : 2 * g.monitorRoom + (rest.map fun v => v.category).sum ≤ 8) (hdg : decode cc g.pc = .ok (.invokestatic index, 3)) (hf : cells + mc ≤ R.cells ∧ slots + ms ≤ R.slots) :
    va_Run p l e R s m args below meth c H locs cells slots mc ms g rest (Qc As.toArray) (free) := by
  have hK : Back l R p e below s args y 3 8 (PreOf R mc ms Pc) (PostOf Qc mc ms free) := va_backW (hh := hh) (bytes := bytes) (maxL := maxL) (ret := ret) hM hp.1 hrc hrs hR.1 hR.2 hws hcw (fun a' U hW => word_at hW (Or.inl (by first | rfl | simp [Cond.onTables, Cond.keeps, Cond.steady])) hini)
  obtain ⟨hx, hb, hml, ho, -⟩ := S
  intro T hT X
  have hcode := hws _ hcw args s (State.WarmedH.refl s)
  obtain ⟨mk, methM, cM, hnamed, hmethM, -, -, -, -, -, -, hsigM⟩ := Cond.codeWith_spec hcode
  have hstatic : methM.isStatic = true := Cond.static_spec hnamed hmethM hst
  obtain ⟨kP, hkP, -⟩ := className_of_methodNamed hnamed
  have hinitP : kP.init = .initialized := Cond.initialized_spec (findClass_of_methodNamed hnamed) hkP hini
  have hlen : As.length = methM.sig.parameters.length := by
    have h1 := hd.2.2
    rw [hsigM] at h1
    exact hn.trans (Option.some.inj h1).symm
  obtain ⟨vm₁, X₁, hstep₁⟩ := X.invokestatic hx ho hlink hnamed hmethM hstatic hkP hinitP ⟨hd.1, hd.2.1⟩ (g := g) hg (argsL := As) (rest := rest) hlen hstack (by rw [hb]; exact hdg)
  obtain ⟨v, ⟨U', l2, c2, s2⟩, X', ⟨g', mk', t, L, e1, e2, hq, h1, hL, h2, h3⟩, st⟩ := hK m meth c ⟨T.setVm vm₁, locs, cells, slots⟩ { g with stack := rest } (.invokestatic index) mk As.toArray X₁ hg (hsize.trans hml.symm) (by rw [hb]; exact hdg) hW (X₁.named hnamed) ⟨hf.1, hf.2, hp.2 (T.setVm vm₁) hT X₁.warmed⟩
  dsimp only [Pt.U, Pt.locs, Pt.cells, Pt.slots] at X' e1 e2 h1 h2 h3 st
  subst h1; subst h2; subst h3
  exact ⟨v, (T.setVm vm₁).calling g' mk' As.toArray, t, U', L, hT, X', hL, e1, e2, hq, fun target h => hstep₁ _ fun acts => by rw [doInvoke_state]; exact st.trans h⟩
/-- a call of a method of an object in the midst of our world -/
theorem go_fmV (X : Cx_ p l e R s m args below meth c cc nL own D cl tys TG_) (hN : NW_ nw s) {C : String} {Tf : u_T} {Nf ci i a index maxL n : Nat} {y : MethodName} {bytes : ByteArray} {ret : Option FieldType} {rm : Room} {As fs st0 : List Value}
    (hM : Ct_ l D cl tys (in_w w1) nw y (.code y bytes maxL ret :: TG_) rm (.ref a :: As) w1 w1' r) (h1 : Cond.methodLink own index y ∈ TG_) (h2 : Cond.instanceMethod y ∈ TG_) (h3 : Cond.selects C y y ∈ TG_) (h4 : Cond.initialized C ∈ TG_) (h5 : Cond.code y bytes maxL ret ∈ TG_)
    (hd : y.cls = C ∧ y.cls ≠ "java/lang/invoke/MethodHandle" ∧ y.cls ≠ "java/lang/invoke/VarHandle" ∧ (parseMethodDescriptor y.desc).map (fun d => d.parameters.length) = some n) (hR : rm.cells = 0 ∧ rm.slots = 0 ∧ rm.frames + 1 ≤ R.frames ∧ 8 + (maxL + 11) + rm.locals ≤ R.locals)
    (hc : cl[ci]? = some (C, Tf, Nf)) (hw : w1[i]? = some (a, .inr (ci, fs))) (hst : st0 = As.reverse ++ .ref a :: rest) (hn : As.length = n) (hroom : (rest.map fun v => v.category).sum ≤ 8) (d : decode cc pc = .ok (.invokevirtual index, 3)) (hcs : cells ≤ R.cells ∧ slots ≤ R.slots) (hadr : w1'.map (fun q => q.1) = w1.map (fun q => q.1))
    (k : Go_ p l e R s m args below meth c D cl A nL cells slots Q (u ++ (w1' ++ v)) (pc + 3) L (r.toList ++ rest)) : Go_ p l e R s m args below meth c D cl A nL cells slots Q (u ++ (w1 ++ v)) pc L st0 :=
  go_frV X hN hM h1 h2 h3 h4 h5 hd hR hc hw hst hn hroom d hcs fm_D fm_sub fm_A fm_res (fm_adr hadr) k
/-- a call of a helper -/
theorem go_hlp (X : Cx_ p l e R s m args below meth c cc nL own D cl tys TG_) (hN : NW_ nw s) (hTw : Tw_ s.heap.size s) (hNc : Nc_ s) (hA : ∀ q, A q → s.heap.size ≤ q) {index maxL n : Nat} {y : MethodName} {bytes : ByteArray} {ret : Option FieldType} {hh : List (Nat × Nat × Nat × Nat)} {As st0 : List Value}
    (hM : Hl_ l D cl tys (in_w w1) nw s.heap.size y (.codeWith y bytes maxL ret hh :: TG_) As w1 w1' r) (h1 : Cond.methodLink own index y ∈ TG_) (h2 : Cond.static y ∈ TG_) (h4 : Cond.initialized y.cls ∈ TG_) (h5 : Cond.codeWith y bytes maxL ret hh ∈ TG_)
    (hd : y.cls ≠ "java/lang/invoke/MethodHandle" ∧ y.cls ≠ "java/lang/invoke/VarHandle" ∧ (parseMethodDescriptor y.desc).map (fun d => d.parameters.length) = some n) (hR : 9 ≤ R.frames ∧ 8 + (maxL + 11) + 240 ≤ R.locals)
    (hst : st0 = As.reverse ++ rest) (hn : As.length = n) (hroom : (rest.map fun v => v.category).sum ≤ 8) (d : decode cc pc = .ok (.invokestatic index, 3)) (hcs : cells + 1 ≤ R.cells ∧ slots + 6 ≤ R.slots) (hadr : w1'.map (fun q => q.1) = w1.map (fun q => q.1))
    (k : Go_ p l e R s m args below meth c D cl A nL (cells + 1) (slots + 6) Q (u ++ (w1' ++ v)) (pc + 3) L (r.toList ++ rest)) : Go_ p l e R s m args below meth c D cl A nL cells slots Q (u ++ (w1 ++ v)) pc L st0 := by
  refine go_runF (mc := 1) (ms := 6) (A1 := in_w w1) (w1 := w1) (w1' := w1') (r := r) (rest := rest) (a := As.toArray) (fun H locs ls hP hD hS hl => ?_) fm_sub fm_A fm_res (fm_adr hadr) k
  obtain ⟨hx, hb, hml, hown, hts, hK, -⟩ := X
  refine va_runSW (As := As) (rest := rest) ⟨hx, hb, hml, hown, hts⟩ hM rfl rfl hR (fun w hw a' U hW => ?_) List.mem_cons_self (hts _ h4) (hts _ h2) (hts _ h1) hd ⟨Ph_blind, fun U hU hW => ⟨rfl, by rw [hU]; exact hP, fm_D hD, va_K.moved hW.alike hK, NW_warm hW hN, Tw_keep hW (fun q hq => by rw [hU]; exact hS.2.1 q hq (fun h => absurd (hA q h) (by omega))) hTw, Nc_keep hW hNc⟩⟩ rfl hn hl.1.1 hst (lv_room hroom) d hcs
  have hin : w ∈ TG_ := (List.mem_cons.mp hw).elim (fun e => by rw [e]; exact h5) id
  exact word_at hW (good_of_word (List.mem_filter.mp hin).2) (hts _ hin)
theorem go_sld (X : Cx_ p l e R s m args below meth c cc nL own D cl tys TS) {b Ls : Nat} {xs : Nat → Int32} (hX : va_X b Ls xs s s.heap) (hbl : b < s.heap.size) (hbA : ¬ A b) {i : Int32} {j : Nat} (hi : Ix_ i Ls j) (d : decode cc pc = .ok (.iaload, 1))
    (kk : Go_ p l e R s m args below meth c D cl A nL cells slots Q w (pc + 1) L (.int (xs j) :: rest)) : Go_ p l e R s m args below meth c D cl A nL cells slots Q w pc L (.int i :: .ref b :: rest) := fun H locs ls hP hD hS h => by
  obtain ⟨h1, h2⟩ := hi
  subst h2
  exact va_sld X.1 X.2.1 hX hbl hbA hS h1 d (kk H locs ls hP hD hS h)
theorem go_slen (X : Cx_ p l e R s m args below meth c cc nL own D cl tys TS) {b Ls : Nat} {xs : Nat → Int32} (hX : va_X b Ls xs s s.heap) (hbl : b < s.heap.size) (hbA : ¬ A b) (d : decode cc pc = .ok (.arraylength, 1))
    (kk : Go_ p l e R s m args below meth c D cl A nL cells slots Q w (pc + 1) L (.int (nI Ls) :: rest)) : Go_ p l e R s m args below meth c D cl A nL cells slots Q w pc L (.ref b :: rest) := fun H locs ls hP hD hS h =>
  va_slen X.1 X.2.1 hX hbl hbA hS d (kk H locs ls hP hD hS h)
theorem go_lcmp (X : Cx_ p l e R s m args below meth c cc nL own D cl tys TS) {x y : Int64} (hxy : x = y) (d : decode cc pc = .ok (.lcmp, 1)) (kk : Go_ p l e R s m args below meth c D cl A nL cells slots Q w (pc + 1) L (.int 0 :: rest)) : Go_ p l e R s m args below meth c D cl A nL cells slots Q w pc L (.long y :: .long x :: rest) := fun H locs ls hP hD hS h => by
  subst hxy
  intro T hT Y
  obtain ⟨t, a, b⟩ := kk H locs ls hP hD hS h T hT Y
  refine ⟨t, ?_, b⟩
  jvm_step Y.here [Y.here.top, X.1, X.2.1, d]
  first | exact a | (simp; exact a) | simpa using a
theorem go_swp (k : Go_ p l e R s m args below meth c D cl A nL cells slots Q (v ++ u) pc L rest) : Go_ p l e R s m args below meth c D cl A nL cells slots Q (u ++ v) pc L rest := fun H locs ls hP hD hS hl =>
  k H locs ls (vp_sub hP mem_sw) (vd_swap hD) hS hl
/-- a word of the script -/
theorem go_arg (X : Cx_ p l e R s m args below meth c cc nL own D cl tys TS) {b Ls I c0 : Nat} {cz : Int} {xs : Nat → Int32} (hX : va_X b Ls xs s s.heap) (hbl : b < s.heap.size) (hbA : ¬ A b) (hLs : Ls < 1000000) (hI : I + c0 < Ls) (h0 : lk_ L 0 = some (.ref b)) (h4 : lk_ L 4 = some (.int (nI I))) (hcz : Int32.ofInt cz = nI c0)
    (d1 : decode cc pc = .ok (.aload_n 0, 1)) (d2 : decode cc (pc + 1) = .ok (.iload 4, 2)) (d3 : decode cc (pc + 3) = .ok (.iconst cz, 1)) (d4 : decode cc (pc + 4) = .ok (.iadd, 1)) (d5 : decode cc (pc + 5) = .ok (.iaload, 1))
    (kk : Go_ p l e R s m args below meth c D cl A nL cells slots Q w (pc + 6) L (.int (xs (I + c0)) :: rest)) : Go_ p l e R s m args below meth c D cl A nL cells slots Q w pc L rest := by
  refine go_aload_n (i := 0) X rfl h0 d1 ?_
  refine go_iload (i := 4) X h4 d2 ?_
  refine go_iconst (v := nI c0) X hcz d3 ?_
  refine go_iadd X d4 ?_
  refine go_eqs (st' := .int (nI (I + c0)) :: .ref b :: rest) (by rw [nI_add]) ?_
  exact go_sld X hX hbl hbA (Ix_n hI (by omega)) d5 kk
end LWR_B
section LWR_C
theorem nI_m5 (M : Nat) : nI (M + 5) - 5 = nI M := by
  rw [← nI_add]
  show nI M + 5 - 5 = nI M
  exact Int32.add_sub_cancel _ _
theorem iz_m5 {L : Nat} (h : L < 1000000) : (nI L - 5).toInt = (L : Int) - 5 := by
  by_cases g : 5 ≤ L
  · obtain ⟨M, rfl⟩ : ∃ M, L = M + 5 := ⟨L - 5, by omega⟩
    rw [nI_m5, iz_nI (by omega)]
    omega
  · match L, g with
    | 0, _ => decide
    | 1, _ => decide
    | 2, _ => decide
    | 3, _ => decide
    | 4, _ => decide
    | k + 5, g => exact absurd (by omega) g
theorem and15 (x : Int32) : x &&& 15 = 0 ∨ x &&& 15 = 1 ∨ x &&& 15 = 2 ∨ x &&& 15 = 3 ∨ x &&& 15 = 4 ∨ x &&& 15 = 5 ∨ x &&& 15 = 6 ∨ x &&& 15 = 7 ∨ x &&& 15 = 8 ∨ x &&& 15 = 9 ∨ x &&& 15 = 10 ∨ x &&& 15 = 11 ∨ x &&& 15 = 12 ∨ x &&& 15 = 13 ∨ x &&& 15 = 14 ∨ x &&& 15 = 15 := by
  have h := vp_in_iff.mp (pk_andIn x (m := 15) 4 (by decide) (by decide))
  have e9 : (9 : Int32).toInt = 9 := by decide
  have e10 : (10 : Int32).toInt = 10 := by decide
  have e11 : (11 : Int32).toInt = 11 := by decide
  have e12 : (12 : Int32).toInt = 12 := by decide
  have e13 : (13 : Int32).toInt = 13 := by decide
  have e14 : (14 : Int32).toInt = 14 := by decide
  have e15 : (15 : Int32).toInt = 15 := by decide
  have h2 : 0 ≤ (x &&& 15).toInt ∧ (x &&& 15).toInt < 16 := h
  simp only [iz_eq, iz_0, iz_1, iz_2, iz_3, iz_4, iz_5, iz_6, iz_7, iz_8, e9, e10, e11, e12, e13, e14, e15]
  omega
end LWR_C

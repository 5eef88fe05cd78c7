section HL_A
variable {p : Program} {l : Launch} {e : Env} {R : Room} {s : State} {m : MethodId} {args : Array Value} {below : List Frame} {meth : Method} {c : Code} {D : va_G} {cl : List vw_C} {A A1 : Nat → Prop} {nL cells slots : Nat} {Q : State → Prop} {w w' w1 w1' : va_W}
variable {cc : ByteArray} {own : String} {tys : List (ClassId × FieldType)} {TS : List Cond} {pc : Nat} {L : List (Nat × Value)} {rest : List Value} {nw : List Cond} {r : Option Value}
theorem go_widen {cells' slots' : Nat} (h1 : cells ≤ cells') (h2 : slots ≤ slots') (k : Go_ p l e R s m args below meth c D cl A nL cells' slots' Q w pc L rest) : Go_ p l e R s m args below meth c D cl A nL cells slots Q w pc L rest := fun H locs ls hP hD hS hl => W.widen h1 h2 (k H locs ls hP hD hS hl)
theorem gr_go (hP : va_P D cl w s.heap) (hD : va_D A w) (k : Go_ p l e R s m args below meth c D cl A nL 0 0 Q w pc L rest) : Gr_ p l e R s m args below meth c nL Q pc L rest := fun ls hl => k s.heap [] ls hP hD va_S.rf hl
/-- the addresses of a world -/
def in_w (w : va_W) : Nat → Prop := fun a => ∃ q, q ∈ w ∧ q.1 = a
theorem vd_adr {w w' : va_W} (h : va_D A w) (e : w'.map (fun q => q.1) = w.map (fun q => q.1)) : va_D A w' := by
  have key : ∀ {k : Nat} {q : Nat × va_E}, w'[k]? = some q → ∃ q', w[k]? = some q' ∧ q'.1 = q.1 := by
    intro k q hk
    have h1 : (w'.map (fun q => q.1))[k]? = some q.1 := by rw [List.getElem?_map, hk]; rfl
    rw [e, List.getElem?_map] at h1
    cases hq : w[k]? with
    | none => rw [hq] at h1; cases h1
    | some q' => rw [hq] at h1; exact ⟨q', rfl, Option.some.inj h1⟩
  refine ⟨fun i j x y hi hj hxy => ?_, fun k q hk => ?_⟩
  · obtain ⟨x', hx', ex⟩ := key hi
    obtain ⟨y', hy', ey⟩ := key hj
    exact h.1 i j x' y' hx' hy' (by rw [ex, ey]; exact hxy)
  · obtain ⟨q', hq', eq⟩ := key hk
    rw [← eq]
    exact h.2 k q' hq'
/-- a call of a method whose world is a part of ours -/
theorem go_runF {mc ms : Nat} {st0 : List Value} {a : Array Value}
    (hr : ∀ (H : Heap) (locs : List Loc) (ls : Array Slot), va_P D cl w1 H → va_D A w → va_S A s.heap H locs → lh_ ls nL L → va_Run p l e R s m args below meth c H locs cells slots mc ms (F0 m pc ls st0) rest (Qd_ D cl A1 w1' r a) A1)
    (hsub : ∀ q ∈ w1, q ∈ w) (hA : va_D A w → ∀ q, A1 q → A q) (hres : va_D A w → ∀ q ∈ w', q ∈ w1' ∨ (q ∈ w ∧ ¬ A1 q.1)) (hadr : w'.map (fun q => q.1) = w.map (fun q => q.1))
    (k : Go_ p l e R s m args below meth c D cl A nL (cells + mc) (slots + ms) Q w' (pc + 3) L (r.toList ++ rest)) : Go_ p l e R s m args below meth c D cl A nL cells slots Q w pc L st0 := by
  intro H locs ls hP hD hS hl T hT X
  have hP1 : va_P D cl w1 H := fun i q hi => by
    obtain ⟨j, hj⟩ := List.getElem?_of_mem (hsub q (List.mem_of_getElem? hi))
    exact hP j q hj
  obtain ⟨v, st₀, t, T', L', h0, X', hL, e1, e2, ⟨hoc, hP', hD', hF⟩, st⟩ := hr H locs ls hP1 hD hS hl T hT X
  cases hoc
  obtain ⟨hz, hk⟩ := hF
  rw [h0] at hz hk
  have hA' := hA hD
  have hS' : va_S A s.heap T'.heap (locs ++ L') := by
    refine ⟨Nat.le_trans hS.1 (by rw [e1]; exact hz), fun q g1 g2 => ?_, fun q hq => ?_⟩
    · rw [e1, hk q (Nat.lt_of_lt_of_le g1 hS.1) (fun g => g2 (hA' q g))]
      exact hS.2.1 q g1 g2
    · rcases List.mem_append.mp hq with h | h
      · exact hS.2.2 q h
      · exact hA' _ (hL q h)
  have hPw : va_P D cl w' T'.heap := fun i q hi => by
    rcases hres hD q (List.mem_of_getElem? hi) with h | ⟨h, hn⟩
    · obtain ⟨j, hj⟩ := List.getElem?_of_mem h
      rw [e1]
      exact hP' j q hj
    · obtain ⟨j, hj⟩ := List.getElem?_of_mem h
      have h1 := hP j q hj
      exact h1.kept (by rw [e1]; exact hk q.1 h1.lt hn)
  obtain ⟨t2, a1, b1⟩ := k T'.heap (locs ++ L') ls hPw (vd_adr hD hadr) hS' hl T' rfl X'
  exact ⟨t2, st t2 a1, b1⟩
theorem go_frV (X : Cx_ p l e R s m args below meth c cc nL own D cl tys TG_) (hN : NW_ nw s) {C : String} {Tf : u_T} {Nf ci i a index maxL n : Nat} {y : MethodName} {bytes : ByteArray} {ret : Option FieldType} {rm : Room} {As fs st0 : List Value}
    (hM : Ct_ l D cl tys A1 nw y (.code y bytes maxL ret :: TG_) rm (.ref a :: As) w1 w1' r) (h1 : Cond.methodLink own index y ∈ TG_) (h2 : Cond.instanceMethod y ∈ TG_) (h3 : Cond.selects C y y ∈ TG_) (h4 : Cond.initialized C ∈ TG_) (h5 : Cond.code y bytes maxL ret ∈ TG_)
    (hd : y.cls = C ∧ y.cls ≠ "java/lang/invoke/MethodHandle" ∧ y.cls ≠ "java/lang/invoke/VarHandle" ∧ (parseMethodDescriptor y.desc).map (fun d => d.parameters.length) = some n) (hR : rm.cells = 0 ∧ rm.slots = 0 ∧ rm.frames + 1 ≤ R.frames ∧ 8 + (maxL + 11) + rm.locals ≤ R.locals)
    (hc : cl[ci]? = some (C, Tf, Nf)) (hw : w1[i]? = some (a, .inr (ci, fs))) (hst : st0 = As.reverse ++ .ref a :: rest) (hn : As.length = n) (hroom : (rest.map fun v => v.category).sum ≤ 8) (d : decode cc pc = .ok (.invokevirtual index, 3)) (hcs : cells ≤ R.cells ∧ slots ≤ R.slots)
    (hD1 : va_D A w → va_D A1 w1) (hsub : ∀ q ∈ w1, q ∈ w) (hA : va_D A w → ∀ q, A1 q → A q) (hres : va_D A w → ∀ q ∈ w', q ∈ w1' ∨ (q ∈ w ∧ ¬ A1 q.1)) (hadr : w'.map (fun q => q.1) = w.map (fun q => q.1))
    (k : Go_ p l e R s m args below meth c D cl A nL cells slots Q w' (pc + 3) L (r.toList ++ rest)) : Go_ p l e R s m args below meth c D cl A nL cells slots Q w pc L st0 := by
  refine go_runF (mc := 0) (ms := 0) (r := r) (rest := rest) (a := (Value.ref a :: As).toArray) (fun H locs ls hP hD hS hl => ?_) hsub hA hres hadr k
  obtain ⟨hx, hb, hml, hown, hts, hK, -⟩ := X
  exact va_runV (As := As) (rest := rest) ⟨hx, hb, hml, hown, hts⟩ hM (cwV n hts (tg_wsV h1 h2 h3 h4 h5) rfl hR.1 hR.2.1 hd hR.2.2) ⟨Pd_blind, va_recv hK hP hc hw, fun U hU hW => ⟨rfl, by rw [hU]; exact hP, hD1 hD, va_K.moved hW.alike hK, NW_warm hW hN⟩⟩ rfl hn hl.1.1 hst (lv_room hroom) d hcs
theorem go_last (X : Cx_ p l e R s m args below meth c cc nL own D cl tys TS) {a i t0 n j' : Nat} {cA : ClassId} {f : Nat → Int64} {j : Int32} {x : Int64} (hw : w[i]? = some (a, .inl (cA, n, .inr (.inl f)))) (ht : tys[t0]? = some (cA, .long)) (hj : vp_in j n) (hj' : j.toNatClampNeg = j') (d : decode cc pc = .ok (.lastore, 1))
    (kk : Go_ p l e R s m args below meth c D cl A nL cells slots Q (w.set i (a, .inl (cA, n, .inr (.inl (vp_updL f j' x))))) (pc + 1) L rest) : Go_ p l e R s m args below meth c D cl A nL cells slots Q w pc L (.long x :: .int j :: .ref a :: rest) := fun H locs ls hP hD hS h => by
  subst hj'
  exact va_last X.1 X.2.1 X.2.2.2.2.2.1 hP hD hS i t0 hw ht hj d (fun H1 locs1 hP1 hD1 hS1 => kk H1 locs1 ls hP1 hD1 hS1 h)
theorem go_lald (X : Cx_ p l e R s m args below meth c cc nL own D cl tys TS) {a i t0 n j' : Nat} {cA : ClassId} {f : Nat → Int64} {j : Int32} (hw : w[i]? = some (a, .inl (cA, n, .inr (.inl f)))) (ht : tys[t0]? = some (cA, .long)) (hj : vp_in j n) (hj' : j.toNatClampNeg = j') (d : decode cc pc = .ok (.laload, 1))
    (kk : Go_ p l e R s m args below meth c D cl A nL cells slots Q w (pc + 1) L (.long (f j') :: rest)) : Go_ p l e R s m args below meth c D cl A nL cells slots Q w pc L (.int j :: .ref a :: rest) := fun H locs ls hP hD hS h => by
  subst hj'
  exact va_lald X.1 X.2.1 X.2.2.2.2.2.1 hP i t0 hw ht hj d (kk H locs ls hP hD hS h)
end HL_A
section HL_B
/-- classes that can't be cast -/
def nc_ : List (String × String) := [(rn_K, rn_I), (rn_U, rn_I), (rn_U, rn_K), (rn_K, rn_V)]
def Nc_ (U : State) : Prop := ∀ q ∈ nc_, ∀ cX cY, U.vm.findClass q.1 = some cX → U.vm.findClass q.2 = some cY → U.vm.assignable cX cY = false
theorem Nc_keep {s U : State} (hW : s.WarmedH U.vm) (h : Nc_ s) : Nc_ U := by
  intro q hq cX cY hX hY
  rw [hW.alike.findClass] at hX hY
  rw [hW.alike.assignable]
  exact h q hq cX cY hX hY
theorem nc_of {s : State} {args : Array Value} {X Y : String} (h : (Cond.not (.castable X Y)).before args s = true) : ∀ cX cY, s.vm.findClass X = some cX → s.vm.findClass Y = some cY → s.vm.assignable cX cY = false := by
  intro cX cY hX hY
  simp only [Cond.before, Cond.holds, Cond.value, hX, hY] at h
  simpa using h
def xt_ (h : ExceptionTableEntry) : Nat × Nat × Nat × Nat := (h.startPc, h.endPc, h.handlerPc, h.catchType)
variable {e : Env} {s S : State} {g : JFrame} {x : Addr} {tab : List ExceptionTableEntry} {t' : List (Nat × Nat × Nat × Nat)} {hpc a b h ct : Nat} {args : Array Value} {own Y C : String} {cell : Cell}
theorem ft_hit (ht : tab.map xt_ = (a, b, h, ct) :: t') (hW : s.WarmedH S.vm) (hpl : e.platform.magicAccessors = ({} : Platform).magicAccessors) (hown : s.vm.findClass own = some g.method.cls) (hlink : (Cond.classLink own ct Y).before args s = true) (hcov : a ≤ g.pc ∧ g.pc < b) (h0 : ct ≠ 0)
    (hcell : S.heap[x]? = some cell) (hobj : cell.vm = .none) (hY : s.vm.findClass Y = some cell.cls) (hself : s.vm.assignable cell.cls cell.cls = true) : Fn_ e s S g x tab h := by
  cases tab with
  | nil => cases ht
  | cons en tl =>
    rw [List.map_cons] at ht
    obtain ⟨h1, -⟩ := List.cons.inj ht
    have e1 : en.startPc = a := congrArg (fun q => q.1) h1
    have e2 : en.endPc = b := congrArg (fun q => q.2.1) h1
    have e3 : en.handlerPc = h := congrArg (fun q => q.2.2.1) h1
    have e4 : en.catchType = ct := congrArg (fun q => q.2.2.2) h1
    subst e4; subst e3
    exact fn_hit hW hpl hown hlink (by simp only [covers, e1, e2, Bool.and_eq_true, decide_eq_true_eq]; exact hcov) h0 hcell hobj hY hself
theorem ft_miss (ht : tab.map xt_ = (a, b, h, ct) :: t') (hW : s.WarmedH S.vm) (hpl : e.platform.magicAccessors = ({} : Platform).magicAccessors) (hown : s.vm.findClass own = some g.method.cls) (hlink : (Cond.classLink own ct Y).before args s = true) (hcov : a ≤ g.pc ∧ g.pc < b) (h0 : ct ≠ 0)
    (hcell : S.heap[x]? = some cell) (hobj : cell.vm = .none) (hC : s.vm.findClass C = some cell.cls) (hne : ∀ c, s.vm.findClass Y = some c → s.vm.assignable cell.cls c = false)
    (k : ∀ tab' : List ExceptionTableEntry, tab'.map xt_ = t' → ∀ vm1, s.WarmedH vm1 → Fn_ e s (S.setVm vm1) g x tab' hpc) : Fn_ e s S g x tab hpc := by
  cases tab with
  | nil => cases ht
  | cons en tl =>
    rw [List.map_cons] at ht
    obtain ⟨h1, h2⟩ := List.cons.inj ht
    have e1 : en.startPc = a := congrArg (fun q => q.1) h1
    have e2 : en.endPc = b := congrArg (fun q => q.2.1) h1
    have e4 : en.catchType = ct := congrArg (fun q => q.2.2.2) h1
    subst e4
    exact fn_miss (C := C) (cC := cell.cls) hW hpl hown hlink (by simp only [covers, e1, e2, Bool.and_eq_true, decide_eq_true_eq]; exact hcov) h0 hcell hobj hC hne (fun vm1 hW1 => k tl h2 vm1 hW1)
end HL_B
section HL_C
variable {p : Program} {l : Launch} {e : Env} {R : Room} {s : State} {m : MethodId} {args : Array Value} {below : List Frame} {meth : Method} {c : Code} {D : va_G} {cl : List vw_C} {A : Nat → Prop} {nL : Nat} {Q : State → Prop} {w w' : va_W}
variable {cc : ByteArray} {own : String} {tys : List (ClassId × FieldType)} {TS : List Cond} {pc : Nat} {L : List (Nat × Value)} {rest : List Value} {nw : List Cond} {r : Option Value} {N : Nat} {C : String}
/-- a call that throws, and the handler that takes it -/
theorem gr_catch {st0 : List Value} {hpc : Nat} (hP : va_P D cl w s.heap) (hDw : va_D A w)
    (h : ∀ (ls : Array Slot), lh_ ls nL L → ∀ T : State, T.heap = s.heap → Stand p l e R s m args below meth c T [] 0 0 → Tn_ p l e R s m args below meth c C T (F0 m pc ls st0) (F0 m pc ls rest))
    (hfn : e.platform.magicAccessors = ({} : Platform).magicAccessors → ∀ (S : State) (g : JFrame) (x : Addr) (ce : Cell), g.pc = pc → g.method = m → s.WarmedH S.vm → S.heap[x]? = some ce → ce.vm = .none → s.vm.findClass C = some ce.cls → s.vm.assignable ce.cls ce.cls = true → Fn_ e s S g x c.exceptionTable.toList hpc)
    (k : ∀ x, Go_ p l e R s m args below meth c D cl A nL 1 6 Q w hpc L [.ref x]) : Gr_ p l e R s m args below meth c nL Q pc L st0 := by
  intro ls hl T hT Y
  obtain ⟨x, ce, T', b1, b2, b3, b4, b5, b6, b7, b8⟩ := h ls hl T hT Y
  have hpl : e.platform.magicAccessors = ({} : Platform).magicAccessors := by rw [b7.admits.platform]
  obtain ⟨vm', hW', hQ⟩ := hfn hpl ((T'.setTop (F0 m pc ls rest)).pushFrame (.throwing x)) (F0 m pc ls rest) x ce rfl rfl b7.warmed b2 b4 b3 b5
  have hfind : ∀ (Q : Handler → Pre) (E : CtlPost) (d : Bool) (acts : List Action), wp (findHandler (F0 m pc ls rest) x) Q E e d acts ((T'.setTop (F0 m pc ls rest)).pushFrame (.throwing x)) ↔ Q (.found hpc) d acts (((T'.setTop (F0 m pc ls rest)).pushFrame (.throwing x)).setVm vm') := fun Q E d acts =>
    (Jvm.W.findHandler_eq (meth := meth) (code := c) b7.method' b7.code).trans (hQ Q E d acts)
  have X2 := b7.noted hW'
  have hxs := (Array.getElem?_eq_some_iff.mp b2).1
  obtain ⟨t, a1, c1⟩ := k x T'.heap [] ls (hP.kept (fun i q hi => b6 q.1 (hP i q hi).lt)) hDw ⟨by omega, fun q g1 _ => b6 q g1, fun q hq => nomatch hq⟩ hl (T'.setVm vm') rfl X2
  exact ⟨t, b8 t (st_caught (g := F0 m pc ls rest) b7.here hfind a1), c1⟩
/-- what a helper of the law's is called with -/
def Ph_ (D : va_G) (cl : List vw_C) (tys : List (ClassId × FieldType)) (A : Nat → Prop) (nw : List Cond) (N : Nat) (w : va_W) (U : State) : Prop := va_P D cl w U.heap ∧ va_D A w ∧ va_K D cl tys U ∧ NW_ nw U ∧ Tw_ N U ∧ Nc_ U
theorem Ph_blind {av : List Value} : FrameBlind (va_Pc av (Ph_ D cl tys A nw N w)) :=
  fun a U g mk h => ⟨h.1, h.2.1, h.2.2.1, va_K.moved (u := U) (U := U.calling g mk a) (Vm.Alike.refl U.vm) h.2.2.2.1, NW_warm (U := U.calling g mk a) (State.WarmedH.refl U) h.2.2.2.2.1, Tw_keep (U := U.calling g mk a) (State.WarmedH.refl U) (fun q _ => rfl) h.2.2.2.2.2.1, Nc_keep (U := U.calling g mk a) (State.WarmedH.refl U) h.2.2.2.2.2.2⟩
def Hl_ (l : Launch) (D : va_G) (cl : List vw_C) (tys : List (ClassId × FieldType)) (A : Nat → Prop) (nw : List Cond) (N : Nat) (y : MethodName) (ws : List Cond) (av : List Value) (w w' : va_W) (r : Option Value) : Prop :=
  Met l y ws (rx_d 8) (va_Pc av (Ph_ D cl tys A nw N w)) (Qd_ D cl A w' r) 1 6 A
theorem hl_in {y : MethodName} {av : List Value} {maxL : Nat} {ret : Option FieldType} {hh : List (Nat × Nat × Nat × Nat)} (hy : plainName y.cls = true) (hav : (lg_sl av).length ≤ maxL) (hcat : ∀ q ∈ lv_args 0 av, q.2.category = 1)
    (body : ∀ p e s m args below meth c, Cx_ p l e (rx_d 8) s m args below meth c cc maxL y.cls D cl tys TG_ → meth.sig.returnType = ret → c.exceptionTable.toList.map xt_ = hh → NW_ nw s → Tw_ N s → Nc_ s → va_P D cl w s.heap → va_D A w →
      Gr_ p l e (rx_d 8) s m args below meth c maxL (MQ below (Qd_ D cl A w' r) args s 1 6 A) 0 (lv_args 0 av) []) : Hl_ l D cl tys A nw N y (.codeWith y cc maxL ret hh :: TG_) av w w' r := by
  refine va_MetW (cc := cc) (maxL := maxL) (ret := ret) (hh := hh) hy rfl ?_
  intro p e s m args below meth c s₁ B hml hv
  obtain ⟨hargs, hP, hD, hK, hN, hT, hC⟩ := hv
  have hl := lv_entry av (n := maxL) hav
  rw [hargs, lg_entry_eq]
  have hts := atoms_spec (ws := .codeWith y cc maxL ret hh :: TG_) B.pre
  have hxt : c.exceptionTable.toList.map xt_ = hh := by
    obtain ⟨m9, meth', c', hn9, h1, h2, -, -, h7, -⟩ := Cond.codeWith_spec (hts _ List.mem_cons_self)
    cases hn9.symm.trans B.named
    cases h1.symm.trans B.method
    cases h2.symm.trans (Stand.of_body B).code
    exact h7
  have X : Cx_ p l e (rx_d 8) s m args below meth c cc maxL y.cls D cl tys TG_ := ⟨B.exec, B.bytes, hml, findClass_of_methodNamed B.named, fun w hw => hts w (List.mem_cons_of_mem _ hw), hK, B.notSynchronized⟩
  have k := body p e s m args below meth c X B.returns hxt hN hT hC hP hD _ ⟨hl, hcat⟩
  rw [hargs] at k
  exact k
end HL_C

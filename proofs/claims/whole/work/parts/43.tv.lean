section TV_A
/-- what NoSuchElementException's constructor with a message needs: it passes on by entry 13 -/
def vw_ : List Cond := Bundle.throwableAtoms ++ (Bundle.throwableSAtoms ++ (Bundle.passSAtoms rn_V rn_R 13 prog_22_method_4_code ++ (Bundle.chainSAtoms rn_R [rn_E] ++
  [.methodLink rn_H 119 (Bundle.initS rn_V), .instantiable rn_V 6, .castable rn_V rn_V, .selects rn_V Bundle.tFill0 Bundle.tFill0, .selects rn_V Bundle.tFill Bundle.tFill,
   .lays rn_V Bundle.tN "cause" "Ljava/lang/Throwable;", .lays rn_V Bundle.tN "stackTrace" Bundle.steD, .lays rn_V Bundle.tN "suppressedExceptions" Bundle.listD, .lays rn_V Bundle.tN "detailMessage" "Ljava/lang/String;",
   .isRef (.static Bundle.tN "UNASSIGNED_STACK" Bundle.steD), .isRef (.static Bundle.tN "SUPPRESSED_SENTINEL" Bundle.listD),
   .fieldLink Bundle.tN 198 Bundle.tN "backtrace" "Ljava/lang/Object;", .lays Bundle.tN Bundle.tN "backtrace" "Ljava/lang/Object;", .lays rn_V Bundle.tN "backtrace" "Ljava/lang/Object;"])))
theorem xo_V : ∀ a ∈ vw_, (a ∈ tables_1 ∧ goodWord a = true) ∨ a ∈ tw_ ∨ a ∈ sx_ := by decide +kernel
theorem vd_0 : decode prog_22_method_4_code 0 = .ok (.aload_n 0, 1) := by decide +kernel
theorem vd_1 : decode prog_22_method_4_code 1 = .ok (.aload_n 1, 1) := by decide +kernel
theorem vd_2 : decode prog_22_method_4_code 2 = .ok (.invokespecial 13, 3) := by decide +kernel
theorem vd_5 : decode prog_22_method_4_code 5 = .ok (.return_, 1) := by decide +kernel
theorem xo_all {N : Nat} {s : State} {args : Array Value} {as : List Cond} (hm : ∀ a ∈ as, (a ∈ tables_1 ∧ goodWord a = true) ∨ a ∈ tw_ ∨ a ∈ sx_) (hts : ∀ w ∈ TG_, w.before args s = true) (hT : Tw_ N s) : ∀ a ∈ as, a.before args s = true := by
  intro a ha
  rcases hm a ha with ⟨h1, h2⟩ | h | h
  · exact hts a (List.mem_filter.mpr ⟨List.mem_append_right _ h1, h2⟩)
  · have h5 := hT.2.2.1 a h
    simp only [tw_, List.mem_cons, List.not_mem_nil, or_false] at h
    rcases h with rfl | rfl | rfl | rfl | rfl | rfl | rfl <;> exact va_Nw.use rfl h5
  · obtain ⟨⟨z1, -, b1⟩, ⟨z2, -, b2⟩, -, -⟩ := hT
    simp only [sx_, List.mem_cons, List.not_mem_nil, or_false] at h
    rcases h with rfl | rfl | rfl | rfl
    · exact Sf_lays b1
    · exact Sf_lays b2
    · exact Sf_isRef b1
    · exact Sf_isRef b2
variable {p : Program} {l : Launch} {e : Env} {R : Room} {s : State} {m : MethodId} {args : Array Value} {below : List Frame} {meth : Method} {c : Code}
set_option maxHeartbeats 2000000 in
theorem th_V {cc : ByteArray} {pc nL : Nat} (hx : p.tables.exec = Jvm.exec) (hb : c.code = cc) (hl : meth.locks = false) (htr : l.stackTraces = false) (hown : s.vm.findClass rn_H = some m.cls) (hml : c.maxLocals = nL) (hxt : c.exceptionTable.isEmpty = true)
    (hat : ∀ a ∈ vw_, a.before args s = true) (d6 : decode cc (pc + 6) = .ok (.invokespecial 119, 3)) (d9 : decode cc (pc + 9) = .ok (.athrow, 1))
    (hR : 6 ≤ R.frames ∧ 90 ≤ R.locals) {ls : Array Slot} (hls : ls.size = nL) : Th_ p l e R s m args below meth c rn_V (fun a msg => F0 m (pc + 6) ls [msg, .ref a, .ref a]) := by
  intro W a msg cV kV X hfV hkV hcell hnew hmsg
  have hpl : e.platform.magicAccessors = ({} : Platform).magicAccessors := by rw [X.admits.platform]
  have own' : ∀ x, x ∈ vw_ → x.holds args s none s [] = true := hat
  obtain ⟨T, Z0, L, -, Y⟩ := ThrowableC.of_atoms (args := args) (by rw [X.admits.platform]) (by rw [X.admits.platform]) hpl (fun x hx => hat x (by unfold vw_; exact List.mem_append_left _ hx))
  obtain ⟨Z, M, LZ, LM, hnZ⟩ := Init0T.ofS_atoms (args := args) hpl L Y (fun x hx => hat x (by unfold vw_; exact List.mem_append_right _ (List.mem_append_left _ hx)))
  obtain ⟨P2, Ps, hlen, L2, hL, hP2m, hlink1, hlink⟩ := Bundle.chainS (args := args) hpl hnZ [rn_E] rn_R (by decide) (by decide) (fun x hx => hat x (by unfold vw_; exact List.mem_append_right _ (List.mem_append_right _ (List.mem_append_right _ (List.mem_append_left _ hx)))))
  obtain ⟨P1, L1, hP1m, hP1s⟩ := PassC.ofS_atoms (args := args) (s := s) hpl (X := rn_V) (Y := rn_R) (by decide) (by decide) vd_0 vd_1 vd_2 vd_5 (fun x hx => hat x (by unfold vw_; exact List.mem_append_right _ (List.mem_append_right _ (List.mem_append_left _ hx))))
  have hfound : s.vm.findClass rn_V = some P1.m.cls := findClass_of_methodNamed hP1m
  cases Option.some.inj (hfV.symm.trans hfound)
  obtain ⟨c1, k1, hc1, hk1, hord, -, -, -⟩ := Cond.instantiable_spec (own' (.instantiable rn_V 6) (by simp [vw_]))
  cases Option.some.inj (hc1.symm.trans hfound)
  cases Option.some.inj (hkV.symm.trans hk1)
  have sel : ∀ {x : MethodName} {k : MethodId}, (Cond.selects rn_V x x).holds args s none s [] = true → s.methodNamed? x = some k → (x.cls ≠ "java/lang/invoke/MethodHandle" ∧ x.cls ≠ "java/lang/invoke/VarHandle") → selectMethod e.platform s.vm P1.m.cls k = .method k := by
    intro x k hs hk hne
    obtain ⟨c2, r2, m2, q1, q2, q3, q4, -⟩ := Cond.selects_spec hs
    cases Option.some.inj (q1.symm.trans hfound)
    cases Option.some.inj (q2.symm.trans (State.methodFound?_of_named hk hne))
    cases Option.some.inj (q3.symm.trans hk)
    rw [Launch.admits_selectMethod X.admits]
    exact q4
  have hsel0 := sel (own' (.selects rn_V Bundle.tFill0 Bundle.tFill0) (by simp [vw_])) Y.fill0 (by decide)
  have hselF := sel (own' (.selects rn_V Bundle.tFill Bundle.tFill) (by simp [vw_])) Y.fill (by decide)
  obtain ⟨cellS, hcS, hiss⟩ := Y.statics
  obtain ⟨u0, hu0⟩ := Cond.staticRefV Y.unassigned L.unassignedStatic L.statics hcS hiss (own' (.isRef (.static Bundle.tN "UNASSIGNED_STACK" Bundle.steD)) (by simp [vw_]))
  obtain ⟨sen, hsen⟩ := Cond.staticRefV Y.sentinel L.sentinelStatic L.statics hcS hiss (own' (.isRef (.static Bundle.tN "SUPPRESSED_SENTINEL" Bundle.listD)) (by simp [vw_]))
  obtain ⟨ciB, iB, fB, hkB, hgB, haB, hsB, -, hnB, htB, hffB⟩ := Cond.ownField (t := .object "java/lang/Object") Y.found L.cls (by decide +kernel) (own' (.fieldLink Bundle.tN 198 Bundle.tN "backtrace" "Ljava/lang/Object;") (by simp [vw_])) (own' (.lays Bundle.tN Bundle.tN "backtrace" "Ljava/lang/Object;") (by simp [vw_])) e.platform hpl
  obtain ⟨cell9, h91, h92, h93, h94⟩ := X.same.2.2.2.2.2 T.aS cellS hcS
  have hkn : cell9.vm ≠ .unknown := by
    rw [h92]
    intro hu
    rw [show cellS.vm = .unknown from hu] at hiss
    cases hiss
  have hneS : T.aS ≠ a := Nat.ne_of_lt (Nat.lt_of_lt_of_le (Array.getElem?_eq_some_iff.mp hcS).1 hnew)
  obtain ⟨iM, hffM⟩ := Y.msg
  obtain ⟨tC, dC, eC, nC⟩ := Cond.laysAt hfound hk1 Y.cause (own' (.lays rn_V Bundle.tN "cause" "Ljava/lang/Throwable;") (by simp [vw_]))
  obtain ⟨tS, dS, eS, nS⟩ := Cond.laysAt hfound hk1 Y.stack (own' (.lays rn_V Bundle.tN "stackTrace" Bundle.steD) (by simp [vw_]))
  obtain ⟨tP, dP, eP, nP⟩ := Cond.laysAt hfound hk1 Y.supp (own' (.lays rn_V Bundle.tN "suppressedExceptions" Bundle.listD) (by simp [vw_]))
  obtain ⟨tM, dM, eM, nM⟩ := Cond.laysAt hfound hk1 hffM (own' (.lays rn_V Bundle.tN "detailMessage" "Ljava/lang/String;") (by simp [vw_]))
  obtain ⟨tB, dB, eB, nB⟩ := Cond.laysAt hfound hk1 hffB (own' (.lays rn_V Bundle.tN "backtrace" "Ljava/lang/Object;") (by simp [vw_]))
  have a1 := Cond.laysApart eB eC nB nC (by rw [hnB, Y.causeName]; decide)
  have a2 := Cond.laysApart eB eS nB nS (by rw [hnB, Y.stackName]; decide)
  have a3 := Cond.laysApart eB eP nB nP (by rw [hnB, Y.suppName]; decide)
  have hskip : SkipFacts T e.platform s (fun u => u) u0 ((preparedCellV T.toThrowableT (freshCell P1.m.cls kV) a u0 sen).withEntry W.cur) :=
    ⟨{ ci198 := ciB, i198 := iB, fBack := fB }, ⟨hkB, hgB, haB, hsB⟩, by
      have h7 := fresh_default (c := P1.m.cls) tB
      rw [htB] at h7
      simpa [preparedCellV, Cell.setSlot, Cell.withEntry, Array.getElem?_setIfInBounds, a1, a2, a3, a1.symm, a2.symm, a3.symm, defaultValue] using h7, fun _ _ => rfl⟩
  obtain ⟨tm, methC, cdC, kC, vm1, hnC, -, -, -, -, -, -, -, hW1, st1⟩ := Steps.initColdS (tb := p.tables) (e := e) (below := below) (s := s) (U := W) X.here hx X.warmed hpl hown (t := Bundle.initS rn_V) rfl rfl ⟨by decide, by decide⟩
    (own' (.methodLink rn_H 119 (Bundle.initS rn_V)) (by simp [vw_])) (hat (.instanceMethod (Bundle.initS rn_V)) (by simp [vw_, Bundle.passSAtoms])) (bytes := prog_22_method_4_code) (maxL := 2) (hat (.code (Bundle.initS rn_V) prog_22_method_4_code 2 none) (by simp [vw_, Bundle.passSAtoms]))
    (f := F0 m (pc + 6) ls [msg, .ref a, .ref a]) rfl (a := a) (msg := msg) (rest := [.ref a]) rfl (by rw [hb]; exact d6)
  cases Option.some.inj (hnC.symm.trans hP1m)
  have X1 := X.noted hW1
  have hnil : ∀ i, (⟨T.aS, i⟩ : Loc) ∉ ([] : List Loc) := fun i h => nomatch h
  have hsup : P1.sup = P2.m := Option.some.inj (hP1s.symm.trans hP2m)
  obtain ⟨vm2, X2, st2⟩ := X1.ctorMessageOffV hx (g := F0 m (pc + 6) ls [.ref a]) rfl (by rw [hml]; exact hls) T L Z LZ M LM (P1 :: P2 :: Ps)
    (fun P hP => by
      rcases List.mem_cons.mp hP with rfl | hP
      · exact L1
      · rcases List.mem_cons.mp hP with rfl | hP
        · exact L2
        · exact hL P hP) ⟨hsup, hlink1, hlink⟩ (u0 := u0) (sen := sen) (self := a) hmsg (cell := freshCell P1.m.cls kV) (cellS := cell9)
    hcell (fun _ => by simp) (by simp) rfl rfl hsel0 hselF h91 hneS hkn (by rw [h94 _ (hnil _)]; exact hu0) (by rw [h94 _ (hnil _)]; exact hsen)
    (Takes.of_laid hk1 hord tC (by rw [Y.causeType]; rfl)) (Takes.of_laid hk1 hord tS (by rw [Y.stackType]; exact fits_refV_array _ u0)) (Takes.of_laid hk1 hord tP (by rw [Y.suppType]; exact fits_refV_object _ sen))
    (Takes.of_laid hk1 hord tM (by rw [Y.msgType]; exact fits_refV_object _ ⟨msg, hmsg⟩)) Y.objLocals hskip (admits_traces X.admits htr) [] (by rw [hb]; exact d6)
    (by simp only [List.length_cons, hlen]; show 1 + 1 + 1 + 2 < R.frames; omega) (by simp only [List.length_cons, hlen]; show 2 * 0 + (1 + 0) + (13 * (1 + 1 + 1) + 42) ≤ R.locals; omega)
  obtain ⟨hwalk, hrun, hended, hWU, hsame⟩ := X2.athrowLeaves hx (g := F0 m (pc + 6 + 3) ls [.ref a]) rfl rfl rfl (fun x hx => by
    rw [Array.isEmpty_iff.mp hxt] at hx
    cases hx) (a := a) (rest := []) rfl (by rw [hb]; exact d9) hl
  obtain ⟨c3, c4, hc3, hc4, hasg⟩ := Cond.castable_spec (own' (.castable rn_V rn_V) (by simp [vw_]))
  cases Option.some.inj (hc3.symm.trans hfound)
  cases Option.some.inj (hc4.symm.trans hfound)
  have hlt : a < ((W.setVm vm1).setVm vm2).heap.size := (Array.getElem?_eq_some_iff.mp hcell).1
  have hU := heapAt_setCell_self (s := (W.setVm vm1).setVm vm2) (plainBareV T.toThrowableT (freshCell P1.m.cls kV) a u0 sen msg) hlt
  refine ⟨_, st1 _ (fun acts => ?_), hrun, hended, hWU, hsame.weaken (fun y hy hlt' => ?_) (Nat.le_refl _) (Nat.le_refl _), _, hU, hfound, rfl, hasg⟩
  · rw [doInvoke_state]
    exact st2 _ hwalk
  · exfalso
    have hba : y.base = a := by
      simp only [List.nil_append, List.mem_cons, List.not_mem_nil, or_false] at hy
      rcases hy with rfl | rfl | rfl | rfl | rfl <;> rfl
    rw [hba] at hlt'
    exact Nat.not_lt.mpr hnew hlt'
end TV_A
section TV_B
variable {p : Program} {l : Launch} {e : Env} {R : Room} {s : State} {m : MethodId} {args : Array Value} {below : List Frame} {meth : Method} {c : Code} {D : va_G} {nL : Nat} {cc : ByteArray} {pc : Nat} {L : List (Nat × Value)} {T : Nat → ClassId} {N : Nat}
theorem gr_throwV (X : Cx_ p l e R s m args below meth c cc nL rn_H D cl_ (tys_ T) TG_) (hxt : c.exceptionTable.isEmpty = true) (htr : l.stackTraces = false) (hTw : Tw_ N s) {icl istr : Nat} {text : String}
    (h1 : Cond.classLink rn_H icl rn_V ∈ TG_) (h4 : (istr, text) ∈ ts_) (d0 : decode cc pc = .ok (.new icl, 3)) (d3 : decode cc (pc + 3) = .ok (.dup, 1)) (d4 : decode cc (pc + 4) = .ok (.ldc istr, 2)) (d6 : decode cc (pc + 6) = .ok (.invokespecial 119, 3)) (d9 : decode cc (pc + 9) = .ok (.athrow, 1))
    (hR : 6 ≤ R.frames ∧ 90 ≤ R.locals ∧ 1 ≤ R.cells ∧ 6 ≤ R.slots) : Gr_ p l e R s m args below meth c nL (XQ_ below rn_V s) pc L [] := by
  intro ls hl
  obtain ⟨hx, hb, hml, hown, hts, hK, hlk⟩ := X
  exact w_throw hx hb hown (hts _ h1) (hts _ nk_V) (hts _ ik_V) (sr_same (s := s) (q := (istr, text)) rfl (hTw.2.2.2 _ h4)) (th_V hx hb hlk htr hown hml hxt (xo_all xo_V hts hTw) d6 d9 ⟨hR.1, hR.2.1⟩ hl.1.1) d0 d3 d4 hR.2.2
end TV_B

section FM_A
theorem noRowF0 : (NativeRow.find? natives yn_J_floorMod.cls yn_J_floorMod.name yn_J_floorMod.desc).isNone = true := by decide +kernel
theorem noRowF (p : Program) : NativeRow.find? p.tables.natives yn_J_floorMod.cls yn_J_floorMod.name yn_J_floorMod.desc = none := by
  cases p <;> exact Option.isNone_iff_eq_none.mp noRowF0
/-- Math.floorMod of a0 and m0, whose signs are alike -/
def fmSpec (a0 m0 r : Int32) : Spec where
  pre := .and (.code yn_J_floorMod cd_J_floorMod 3 (some .int)) (.and (.count 2) (.and (.isInt (.arg 0)) (.and (.isInt (.arg 1)) (.and (.eq (.arg 0) (.int a0)) (.eq (.arg 1) (.int m0))))))
  post := .and .returned (.eq .result (.int r))
  changes := some []
theorem fmMeets (l : Launch) {a0 m0 r : Int32} (hm : ¬ m0 = 0) (hx : 0 ≤ a0 ^^^ m0) (hr : r = a0 - a0 / m0 * m0) : Meets l yn_J_floorMod (fmSpec a0 m0 r) := by
  subst hr
  refine Meets.of_body_ov (code := cd_J_floorMod) (maxLocals := 3) (ret := some .int) noRowF ?_ ?_
  · intro args s h
    simp only [fmSpec, Cond.before_and, Bool.and_eq_true] at h
    exact h.1
  · intro p e s m args below meth c s₁ B
    have hpre := B.pre
    simp only [fmSpec, Cond.before_and, Bool.and_eq_true] at hpre
    obtain ⟨a, b, rfl⟩ := Cond.two_ints hpre.2.1 hpre.2.2.1 hpre.2.2.2.1
    have ha : a = a0 := by
      have := hpre.2.2.2.2.1
      simpa [Cond.before, Cond.holds, Cond.value, Term.eval] using this
    have hb : b = m0 := by
      have := hpre.2.2.2.2.2
      simpa [Cond.before, Cond.holds, Cond.value, Term.eval] using this
    subst ha; subst hb
    have hloc : argsToLocals #[.int a, .int b] 3 = #[.val (.int a), .val (.int b), .unset] := rfl
    obtain ⟨fs, hfs⟩ := handOver_isSome (s := s₁) (some (.int (a - a / b * b))) B.hears₁
    refine ⟨s₁.setFrames fs, .returned (some (.int (a - a / b * b))), ?_, B.here.running, B.ended hfs (by intro h; cases h), ?_, State.sameBut_nil.mpr ?_⟩
    · unfold entryFrame; rw [hloc]
      refine Steps.instrAtOv (c := _) (by simpa using B.here) ?_
      simp [jvm, wpRun, exec, B.here.top, B.exec, B.bytes, dc_J_floorMod_0]
      refine Steps.instrAtOv (c := _) (by simpa using B.here) ?_
      simp [jvm, wpRun, exec, B.here.top, B.exec, B.bytes, dc_J_floorMod_1]
      refine Steps.instrAtOv (c := _) (by simpa using B.here) ?_
      simp [jvm, wpRun, exec, B.here.top, B.exec, B.bytes, dc_J_floorMod_2, hm]
      show Steps p.tables e below (s₁.setTop { method := m, pc := 3, locals := #[.val (.int a), .val (.int b), .unset], stack := [.int (a - a / b * b)], locked := none }) _
      generalize a - a / b * b = r at hfs ⊢
      refine Steps.instrAtOv (c := _) (by simpa using B.here) ?_
      simp [jvm, wpRun, exec, B.here.top, B.exec, B.bytes, dc_J_floorMod_3, show storeLocals #[.val (.int a), .val (.int b), .unset] 2 (.int r) = some #[.val (.int a), .val (.int b), .val (.int r)] from rfl]
      refine Steps.instrAtOv (c := _) (by simpa using B.here) ?_
      simp [jvm, wpRun, exec, B.here.top, B.exec, B.bytes, dc_J_floorMod_4]
      refine Steps.instrAtOv (c := _) (by simpa using B.here) ?_
      simp [jvm, wpRun, exec, B.here.top, B.exec, B.bytes, dc_J_floorMod_5]
      refine Steps.instrAtOv (c := _) (by simpa using B.here) ?_
      simp [jvm, wpRun, exec, B.here.top, B.exec, B.bytes, dc_J_floorMod_6]
      refine Steps.instrAtOv (c := _) (by simpa using B.here) ?_
      simp [jvm, wpRun, exec, B.here.top, B.exec, B.bytes, dc_J_floorMod_7, Op.ifCond.holds, hx]
      refine Steps.instrAtOv (c := _) (by simpa using B.here) ?_
      simp [jvm, wpRun, exec, B.here.top, B.exec, B.bytes, dc_J_floorMod_18]
      refine Steps.instrAtOv (c := _) (by simpa using B.here) ?_
      simp [jvm, wpRun, exec, B.here.top, B.exec, B.bytes, dc_J_floorMod_19, B.method₁, B.returns, narrow]
      intro acts
      rw [ret_to B.frames₁ B.method₁ B.notSynchronized rfl rfl hfs]
      exact Steps.refl _
    · simp [fmSpec, Cond.after, Cond.holds, Cond.value, Term.eval]
    · rw [State.frames_setFrames _ B.cur₁, B.back]
end FM_A
section FM_B
variable {p : Program} {l : Launch} {e : Env} {R : Room} {s : State} {m : MethodId} {args : Array Value} {below : List Frame} {meth : Method} {c : Code} {cells slots : Nat} {T : State} {locs : List Loc}
theorem fm_callV (X : Stand p l e R s m args below meth c T locs cells slots) (hexec : p.tables.exec = Jvm.exec) {own : String} {index : Nat} (hown : s.vm.findClass own = some m.cls)
    (hlink : (Cond.methodLink own index yn_J_floorMod).before args s = true) (hstat : (Cond.static yn_J_floorMod).before args s = true) (hinit : (Cond.initialized "java/lang/Math").before args s = true)
    (hcode : (Cond.code yn_J_floorMod cd_J_floorMod 3 (some .int)).before args s = true)
    {g : JFrame} (hg : g.method = m) (hsize : g.locals.size = c.maxLocals) {a b : Int32} (hm : ¬ b = 0) (hx : 0 ≤ a ^^^ b) {rest : List Value} (hstack : g.stack = .int b :: .int a :: rest) (hdg : decode c.code g.pc = .ok (.invokestatic index, 3))
    (hframes : 1 ≤ R.frames) (hlocals : 2 * g.monitorRoom + (rest.map fun v => v.category).sum + 14 ≤ R.locals) (hcells : cells ≤ R.cells) (hslots : slots ≤ R.slots) :
    ∃ vm', Stand p l e R s m args below meth c (T.setVm vm') locs cells slots ∧
      ∀ target, Steps p.tables e below ((T.setVm vm').setTop { g with pc := g.pc + 3, stack := .int (a - a / b * b) :: rest }) target → Steps p.tables e below (T.setTop g) target := by
  obtain ⟨v, T', X', ⟨first, t, hpost⟩, hstep⟩ := X.staticByContractV hexec hown hlink hstat hinit hcode (by decide)
    (Meets.loose_of_no_refs (fmMeets l (a0 := a) (m0 := b) hm hx rfl) fun args' s' h => by
      simp only [fmSpec, Cond.before_and, Bool.and_eq_true] at h
      obtain ⟨x, y, rfl⟩ := Cond.two_ints h.2.1 h.2.2.1 h.2.2.2.1
      intro r hr; simp at hr)
    rfl rfl rfl rfl
    (fun args' first o s₂ h => by
      simp only [fmSpec, Cond.after_and, Bool.and_eq_true] at h
      cases o with
      | returned r => exact ⟨r, rfl⟩
      | threw y => simp [Cond.after, Cond.holds, Cond.value] at h)
    hg hsize (argsL := [.int a, .int b]) (rest := rest)
    (fun sig hs => by
      have h : parseMethodDescriptor "(II)I" = some { parameters := [.int, .int], returnType := some .int } := by decide +kernel
      rw [show yn_J_floorMod.desc = "(II)I" from rfl, h] at hs
      rw [← Option.some.inj hs]; rfl)
    hstack hdg
    (fun vm' hW => by
      simp only [fmSpec, Cond.before_and, Bool.and_eq_true]
      refine ⟨?_, rfl, rfl, rfl, by simp [Cond.before, Cond.holds, Cond.value, Term.eval], by simp [Cond.before, Cond.holds, Cond.value, Term.eval]⟩
      have q := hcode
      rw [← Cond.code_setVm hW.alike] at q
      simp only [Cond.before, Cond.holds, Cond.value, State.methodNamed?, State.vm_setVm] at q ⊢
      exact q)
    (by show 0 + 1 ≤ R.frames; omega) (by show 2 * g.monitorRoom + (rest.map fun v => v.category).sum + (3 + 11) + 0 ≤ R.locals; omega) (by show cells + 0 ≤ R.cells; omega) (by show slots + 0 ≤ R.slots; omega)
  refine ⟨T', X', fun target h => hstep target ?_⟩
  obtain rfl : v = some (.int (a - a / b * b)) := by
    rcases v with _ | w
    · simp [fmSpec, Cond.after, Cond.holds, Cond.value, Term.eval] at hpost
    · cases w <;> simp [fmSpec, Cond.after, Cond.holds, Cond.value, Term.eval] at hpost
      rename_i r
      by_cases hr : r = a - a / b * b <;> simp [hr] at hpost ⊢
  exact h
end FM_B
section FM_C
variable {p : Program} {l : Launch} {e : Env} {R : Room} {s : State} {m : MethodId} {args : Array Value} {below : List Frame} {meth : Method} {c : Code} {D : va_G} {cl : List vw_C} {A : Nat → Prop} {nL cells slots : Nat} {Q : State → Prop} {w : va_W}
variable {cc : ByteArray} {own : String} {tys : List (ClassId × FieldType)} {pc : Nat} {L : List (Nat × Value)} {rest : List Value}
theorem go_fm (X : Cx_ p l e R s m args below meth c cc nL own D cl tys TG_) {index : Nat} {x y : Int32} (h1 : Cond.methodLink own index yn_J_floorMod ∈ TG_) (hm : ¬ y = 0) (hx : 0 ≤ x ^^^ y) (hf : 1 ≤ R.frames) (hlo : (rest.map fun v => v.category).sum + 14 ≤ R.locals) (hcs : cells ≤ R.cells ∧ slots ≤ R.slots) (d : decode cc pc = .ok (.invokestatic index, 3)) (k : Go_ p l e R s m args below meth c D cl A nL cells slots Q w (pc + 3) L (.int (x - x / y * y) :: rest)) : Go_ p l e R s m args below meth c D cl A nL cells slots Q w pc L (.int y :: .int x :: rest) := fun H locs ls hP hD hS hl => by
  intro T hT Y
  obtain ⟨vm', X', st⟩ := fm_callV Y X.1 X.2.2.2.1 (X.2.2.2.2.1 _ h1) (X.2.2.2.2.1 _ sm_J_floorMod) (X.2.2.2.2.1 _ ik_J) (X.2.2.2.2.1 _ co_J_floorMod) (g := F0 m pc ls (.int y :: .int x :: rest)) rfl (by rw [X.2.2.1]; exact hl.1.1) (a := x) (b := y) hm hx (rest := rest) rfl (by rw [X.2.1]; exact d) hf (by show 2 * 0 + _ + 14 ≤ _; omega) hcs.1 hcs.2
  obtain ⟨t, a1, b1⟩ := k H locs ls hP hD hS hl (T.setVm vm') hT X'
  exact ⟨t, st t a1, b1⟩
end FM_C

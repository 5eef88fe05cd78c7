section CALL_A
/-- words that are carried beside the tables' good ones -/
def nk_ : Cond → Bool
  | .methodLinkNest _ _ _ _ => true
  | .fieldLinkNest _ _ _ _ _ _ => true
  | .declares _ => true
  | w => goodWord w
theorem nk_warm {w : Cond} (h : nk_ w = true) {s U : State} (hW : s.WarmedH U.vm) (hZ : va_Nw w s) : va_Nw w U := by
  unfold nk_ at h
  split at h
  · exact va_Nw.warmM hW hZ
  · exact va_Nw.warmF hW hZ
  · exact va_Nw.warmD hW hZ
  · exact word_at hW (good_of_word h) hZ
def NW_ (nw : List Cond) (U : State) : Prop := (∀ w ∈ nw, nk_ w = true) ∧ ∀ w ∈ nw, va_Nw w U
theorem NW_warm {nw : List Cond} {s U : State} (hW : s.WarmedH U.vm) (h : NW_ nw s) : NW_ nw U := ⟨h.1, fun w hw => nk_warm (h.1 w hw) hW (h.2 w hw)⟩
/-- what a method is called with, and what it leaves -/
def Pd_ (D : va_G) (cl : List vw_C) (tys : List (ClassId × FieldType)) (A : Nat → Prop) (nw : List Cond) (w : va_W) (U : State) : Prop := va_P D cl w U.heap ∧ va_D A w ∧ va_K D cl tys U ∧ NW_ nw U
def Qd_ (D : va_G) (cl : List vw_C) (A : Nat → Prop) (w' : va_W) (r : Option Value) : Array Value → State → Outcome → State → Prop := fun _ st oc t => oc = .returned r ∧ va_P D cl w' t.heap ∧ va_D A w' ∧ va_F A st t
/-- the contract: called with av over the world w, it answers r and leaves the world w' -/
def Ct_ (l : Launch) (D : va_G) (cl : List vw_C) (tys : List (ClassId × FieldType)) (A : Nat → Prop) (nw : List Cond) (y : MethodName) (ws : List Cond) (rm : Room) (av : List Value) (w w' : va_W) (r : Option Value) : Prop :=
  Met l y ws rm (va_Pc av (Pd_ D cl tys A nw w)) (Qd_ D cl A w' r) 0 0 A
theorem Pd_blind {D : va_G} {cl : List vw_C} {tys : List (ClassId × FieldType)} {A : Nat → Prop} {nw : List Cond} {av : List Value} {w : va_W} : FrameBlind (va_Pc av (Pd_ D cl tys A nw w)) :=
  fun a U g mk h => ⟨h.1, h.2.1, h.2.2.1, va_K.moved (u := U) (U := U.calling g mk a) (Vm.Alike.refl U.vm) h.2.2.2.1, NW_warm (U := U.calling g mk a) (State.WarmedH.refl U) h.2.2.2.2⟩
/-- a room for d frames -/
def rm_d (d : Nat) : Room := { frames := d, cells := 0, slots := 0, locals := 30 * d }
end CALL_A
section CALL_B
variable {p : Program} {l : Launch} {e : Env} {R : Room} {s : State} {m : MethodId} {args : Array Value} {below : List Frame} {meth : Method} {c : Code} {D : va_G} {cl : List vw_C} {A : Nat → Prop} {nL cells slots : Nat} {Q : State → Prop} {w w' : va_W}
variable {cc : ByteArray} {own : String} {tys : List (ClassId × FieldType)} {TS : List Cond} {pc : Nat} {L : List (Nat × Value)} {rest : List Value} {nw : List Cond} {r : Option Value}
theorem go_run {st0 : List Value} {a : Array Value}
    (hr : ∀ (H : Heap) (locs : List Loc) (ls : Array Slot), va_P D cl w H → va_D A w → lh_ ls nL L → va_Run p l e R s m args below meth c H locs cells slots 0 0 (F0 m pc ls st0) rest (Qd_ D cl A w' r a) A)
    (k : Go_ p l e R s m args below meth c D cl A nL cells slots Q w' (pc + 3) L (r.toList ++ rest)) : Go_ p l e R s m args below meth c D cl A nL cells slots Q w pc L st0 := by
  intro H locs ls hP hD hS hl T hT X
  obtain ⟨v, st₀, t, T', L', h0, X', hL, e1, e2, ⟨hoc, hP', hD', hF⟩, st⟩ := hr H locs ls hP hD hl T hT X
  cases hoc
  obtain ⟨hz, hk⟩ := hF
  rw [h0] at hz hk
  have hS' : va_S A s.heap T'.heap (locs ++ L') := by
    refine ⟨Nat.le_trans hS.1 (by rw [e1]; exact hz), fun q h1 h2 => ?_, fun q hq => ?_⟩
    · rw [e1, hk q (Nat.lt_of_lt_of_le h1 hS.1) h2]
      exact hS.2.1 q h1 h2
    · rcases List.mem_append.mp hq with h | h
      · exact hS.2.2 q h
      · exact hL q h
  obtain ⟨t2, a1, b1⟩ := k T'.heap (locs ++ L') ls (by rw [e1]; exact hP') hD' hS' hl T' rfl X'
  exact ⟨t2, st t2 a1, b1⟩
/-- into a method -/
theorem go_enter {y : MethodName} {ws ws' : List Cond} {rm : Room} {av : List Value} {maxL : Nat} {ret : Option FieldType} (hy : plainName y.cls = true) (hw : ws = Cond.code y cc maxL ret :: ws') (hav : (lg_sl av).length ≤ maxL) (hcat : ∀ q ∈ lv_args 0 av, q.2.category = 1)
    (body : ∀ p e s m args below meth c, Cx_ p l e rm s m args below meth c cc maxL y.cls D cl tys ws → meth.sig.returnType = ret → meth.name = y.name → NW_ nw s →
      Go_ p l e rm s m args below meth c D cl A maxL 0 0 (MQ below (Qd_ D cl A w' r) args s 0 0 A) w 0 (lv_args 0 av) []) : Ct_ l D cl tys A nw y ws rm av w w' r := by
  refine Met.ofW (cc := cc) (maxL := maxL) (ret := ret) hy hw ?_
  intro p e s m args below meth c s₁ B hml hv
  obtain ⟨hargs, hP, hD, hK, hN⟩ := hv
  have hl := lv_entry av (n := maxL) hav
  rw [hargs, lg_entry_eq]
  have X : Cx_ p l e rm s m args below meth c cc maxL y.cls D cl tys ws := ⟨B.exec, B.bytes, hml, findClass_of_methodNamed B.named, atoms_spec (ws := ws) B.pre, hK, B.notSynchronized⟩
  have k := body p e s m args below meth c X B.returns (name_of_methodNamed B.named B.method).1 hN s.heap [] _ hP hD va_S.rf ⟨hl, hcat⟩
  rw [hargs] at k
  exact k
theorem go_iret (X : Cx_ p l e R s m args below meth c cc nL own D cl tys TS) {v : Int32} (hr : meth.sig.returnType = some .int) (d : decode cc pc = .ok (.ireturn, 1)) (hw : w = w') (hv : some (.int v) = r) : Go_ p l e R s m args below meth c D cl A nL cells slots (MQ below (Qd_ D cl A w' r) args s cells slots A) w pc L [.int v] := by
  subst hw; subst hv
  intro H locs ls hP hD hS hl
  exact W.iret X.1 X.2.1 hr (fun t ht hW => ⟨rfl, by rw [ht]; exact hP, hD, hS.F ht⟩) hS.2.2 d X.2.2.2.2.2.2
theorem go_zret (X : Cx_ p l e R s m args below meth c cc nL own D cl tys TS) {v : Int32} (hr : meth.sig.returnType = some .boolean) (hn : narrow .boolean (.int v) = .int v) (d : decode cc pc = .ok (.ireturn, 1)) (hw : w = w') (hv : some (.int v) = r) : Go_ p l e R s m args below meth c D cl A nL cells slots (MQ below (Qd_ D cl A w' r) args s cells slots A) w pc L [.int v] := by
  subst hw; subst hv
  intro H locs ls hP hD hS hl
  exact W.zret X.1 X.2.1 hr hn (fun t ht hW => ⟨rfl, by rw [ht]; exact hP, hD, hS.F ht⟩) hS.2.2 d X.2.2.2.2.2.2
theorem go_vret (X : Cx_ p l e R s m args below meth c cc nL own D cl tys TS) (hr : meth.sig.returnType = none) (d : decode cc pc = .ok (.return_, 1)) (hw : w = w') (hv : none = r) : Go_ p l e R s m args below meth c D cl A nL cells slots (MQ below (Qd_ D cl A w' r) args s cells slots A) w pc L [] := by
  subst hw; subst hv
  intro H locs ls hP hD hS hl
  exact W.vret X.1 X.2.1 hr (fun t ht hW => ⟨rfl, by rw [ht]; exact hP, hD, hS.F ht⟩) hS.2.2 d X.2.2.2.2.2.2
theorem go_aret (X : Cx_ p l e R s m args below meth c cc nL own D cl tys TS) {v : Value} {n : String} (hr : meth.sig.returnType = some (.object n)) (hv0 : v = .null ∨ ∃ a, v = .ref a) (d : decode cc pc = .ok (.areturn, 1)) (hw : w = w') (hv : some v = r) : Go_ p l e R s m args below meth c D cl A nL cells slots (MQ below (Qd_ D cl A w' r) args s cells slots A) w pc L [v] := by
  subst hw; subst hv
  intro H locs ls hP hD hS hl
  exact W.aret X.1 X.2.1 hr (Or.inl ⟨n, rfl⟩) hv0 (fun t ht hW => ⟨rfl, by rw [ht]; exact hP, hD, hS.F ht⟩) hS.2.2 d X.2.2.2.2.2.2
end CALL_B

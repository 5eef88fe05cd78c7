section CA_0
theorem arr_sameq {cA : ClassId} {n : Nat} {f f' : Nat → Option Nat} (hf : ∀ j, j < n → f j = f' j) : vp_cell cA (n, .inr (.inr (.inr (.inr f)))) = vp_cell cA (n, .inr (.inr (.inr (.inr f')))) := by
  rw [vp_cell_q, vp_cell_q]
  unfold arrV
  congr 1
  apply Array.ext
  · simp
  · intro i h1 h2
    simp at h1
    simp [hf i h1]
end CA_0
section CA_A
/-- arrays over the class's own kinds can be made -/
def Ao_ (U : State) : Prop := va_AO "HelpedLog$Node" U ∧ va_AO "HelpedLog$Caller" U
theorem Ao_keep {s U : State} (hW : s.WarmedH U.vm) (h : Ao_ s) : Ao_ U := ⟨h.1.moved hW.alike, h.2.moved hW.alike⟩
def Qa_ (D : va_G) (cl : List vw_C) (A : Nat → Prop) (a0 : Nat) (B : (Nat → Nat) → va_W) : Array Value → State → Outcome → State → Prop := fun _ st oc t => ∃ ad : Nat → Nat, ad 0 = a0 ∧ oc = .returned none ∧ va_P D cl (B ad) t.heap ∧ va_D A (B ad) ∧ va_F A st t
def Pa_ (D : va_G) (cl : List vw_C) (tys : List (ClassId × FieldType)) (nw : List Cond) (w : va_W) (h : Nat) (U : State) : Prop := Pn_ D cl tys nw w h U ∧ Ao_ U
/-- the contract of a constructor that makes a world of its own -/
def Ca_ (l : Launch) (D : va_G) (cl : List vw_C) (tys : List (ClassId × FieldType)) (nw : List Cond) (y : MethodName) (ws : List Cond) (rm : Room) (av : List Value) (w : va_W) (a0 : Nat) (B : (Nat → Nat) → va_W) : Prop :=
  ∀ h : Nat, Met l y ws rm (va_Pc av (Pa_ D cl tys nw w h)) (Qa_ D cl (Af_ w h) a0 B) rm.cells rm.slots (Af_ w h)
variable {p : Program} {l : Launch} {e : Env} {R : Room} {s : State} {m : MethodId} {args : Array Value} {below : List Frame} {meth : Method} {c : Code} {D : va_G} {cl : List vw_C} {A : Nat → Prop} {nL cells slots : Nat} {Q : State → Prop} {w w1 w2 : va_W}
variable {cc : ByteArray} {own : String} {tys : List (ClassId × FieldType)} {TS : List Cond} {pc : Nat} {L : List (Nat × Value)} {rest : List Value} {nw : List Cond} {a0 : Nat} {B : (Nat → Nat) → va_W}
theorem Pa_blind {av : List Value} {h : Nat} : FrameBlind (va_Pc av (Pa_ D cl tys nw w h)) :=
  fun a U g mk x => ⟨x.1, (Pn_blind (av := av) a U g mk ⟨x.1, x.2.1⟩).2, Ao_keep (U := U.calling g mk a) (State.WarmedH.refl U) x.2.2⟩
theorem go_runA {mc ms : Nat} {st0 : List Value} {a : Array Value}
    (hr : ∀ (H : Heap) (locs : List Loc) (ls : Array Slot), va_P D cl w1 H → va_D (Af_ w1 H.size) w1 → lh_ ls nL L → va_Run p l e R s m args below meth c H locs cells slots mc ms (F0 m pc ls st0) rest (Qa_ D cl (Af_ w1 H.size) a0 B a) (Af_ w1 H.size))
    (hA : ∀ q, s.heap.size ≤ q → A q)
    (k : ∀ ad : Nat → Nat, ad 0 = a0 → Go_ p l e R s m args below meth c D cl A nL (cells + mc) (slots + ms) Q (w2 ++ B ad) (pc + 3) L rest) : Go_ p l e R s m args below meth c D cl A nL cells slots Q (w2 ++ w1) pc L st0 := by
  intro H locs ls hP hD hS hl T hT X
  have hD2 := vd_swap hD
  have hPs : va_P D cl (w1 ++ w2) H := vp_sub hP mem_sw
  have hP1 : va_P D cl w1 H := vp_sub hPs (fun q hq => List.mem_append_left _ hq)
  have hP2 : va_P D cl w2 H := vp_sub hPs (fun q hq => List.mem_append_right _ hq)
  have hD1 : va_D (Af_ w1 H.size) w1 := ⟨(vd_l hD2).1, fun i q hi => Or.inl ⟨q, List.mem_of_getElem? hi, rfl⟩⟩
  obtain ⟨v, st₀, t, T', L', h0, X', hL, e1, e2, ⟨ad, h00, hoc, hP', hD', hF⟩, st⟩ := hr H locs ls hP1 hD1 hl T hT X
  cases hoc
  obtain ⟨hz, hk⟩ := hF
  rw [h0] at hz hk
  have hA' : ∀ q, Af_ w1 H.size q → A q := by
    intro q hq
    rcases hq with hq | hq
    · exact fp_A hD2 q hq
    · exact hA q (Nat.le_trans hS.1 hq)
  have hlt2 : ∀ q ∈ w2, q.1 < H.size := fun q hq => by
    obtain ⟨i, hi⟩ := List.getElem?_of_mem hq
    exact (hP2 i q hi).lt
  have hn2 : ∀ q ∈ w2, ¬ Af_ w1 H.size q.1 := fun q hq h => by
    rcases h with ⟨q', hq', e⟩ | h
    · exact vd_app hD2 hq' hq e
    · have := hlt2 q hq
      omega
  have hS' : va_S A s.heap T'.heap (locs ++ L') := by
    refine ⟨Nat.le_trans hS.1 (by rw [e1]; exact hz), fun q g1 g2 => ?_, fun q hq => ?_⟩
    · rw [e1, hk q (Nat.lt_of_lt_of_le g1 hS.1) (fun g => g2 (hA' q g))]
      exact hS.2.1 q g1 g2
    · rcases List.mem_append.mp hq with h | h
      · exact hS.2.2 q h
      · exact hA' _ (hL q h)
  have hP2' : va_P D cl w2 T'.heap := fun i q hi => by
    have h1 := hP2 i q hi
    exact h1.kept (by rw [e1]; exact hk q.1 h1.lt (hn2 q (List.mem_of_getElem? hi)))
  have hPw : va_P D cl (w2 ++ B ad) T'.heap := fun i q hi => by
    rcases mem_or q (List.mem_of_getElem? hi) with h | h
    · obtain ⟨j, hj⟩ := List.getElem?_of_mem h
      rw [e1]
      exact hP' j q hj
    · obtain ⟨j, hj⟩ := List.getElem?_of_mem h
      exact hP2' j q hj
  have hDw2 : va_D A w2 := vd_l (vd_swap hD2)
  have hDB : va_D A (B ad ++ w2) := vd_mk hD' hDw2 hA' (fun q hq q' hq' e => by
    obtain ⟨i, hi⟩ := List.getElem?_of_mem hq
    have h1 := hD'.2 i q hi
    rw [e] at h1
    exact hn2 q' hq' h1)
  obtain ⟨t2, a1, c1⟩ := k ad h00 T'.heap (locs ++ L') ls hPw (vd_swap hDB) hS' hl T' rfl X'
  exact ⟨t2, st t2 a1, c1⟩
theorem ca_in {y : MethodName} {rm : Room} {av : List Value} {maxL : Nat} {ret : Option FieldType} (hy : plainName y.cls = true) (hav : (lg_sl av).length ≤ maxL) (hcat : ∀ q ∈ lv_args 0 av, q.2.category = 1)
    (body : ∀ p e s m args below meth c, Cx_ p l e rm s m args below meth c cc maxL y.cls D cl tys TG_ → meth.sig.returnType = ret → meth.name = y.name → NW_ nw s → Ao_ s → (∀ q, s.heap.size ≤ q → Af_ w s.heap.size q) →
      Go_ p l e rm s m args below meth c D cl (Af_ w s.heap.size) maxL 0 0 (MQ below (Qa_ D cl (Af_ w s.heap.size) a0 B) args s rm.cells rm.slots (Af_ w s.heap.size)) w 0 (lv_args 0 av) []) : Ca_ l D cl tys nw y (.code y cc maxL ret :: TG_) rm av w a0 B := by
  intro h
  refine Met.ofW (cc := cc) (maxL := maxL) (ret := ret) hy rfl ?_
  intro p e s m args below meth c s₁ B' hml hv
  obtain ⟨hargs, ⟨hP, hD, hK, hN, hh⟩, hao⟩ := hv
  have hl := lv_entry av (n := maxL) hav
  rw [hargs, lg_entry_eq]
  have hts := atoms_spec (ws := .code y cc maxL ret :: TG_) B'.pre
  have X : Cx_ p l e rm s m args below meth c cc maxL y.cls D cl tys TG_ := ⟨B'.exec, B'.bytes, hml, findClass_of_methodNamed B'.named, fun w hw => hts w (List.mem_cons_of_mem _ hw), hK, B'.notSynchronized⟩
  subst hh
  have k := body p e s m args below meth c X B'.returns (name_of_methodNamed B'.named B'.method).1 hN hao (fun q hq => Or.inr hq) s.heap [] _ hP hD va_S.rf ⟨hl, hcat⟩
  rw [hargs] at k
  exact k
theorem go_avret (X : Cx_ p l e R s m args below meth c cc nL own D cl tys TS) (ad : Nat → Nat) (h0 : ad 0 = a0) (hr : meth.sig.returnType = none) (d : decode cc pc = .ok (.return_, 1)) (hw : w = B ad) : Go_ p l e R s m args below meth c D cl A nL cells slots (MQ below (Qa_ D cl A a0 B) args s cells slots A) w pc L [] := by
  subst hw
  intro H locs ls hP hD hS hl
  exact W.vret X.1 X.2.1 hr (fun t ht hW => ⟨ad, h0, rfl, by rw [ht]; exact hP, hD, hS.F ht⟩) hS.2.2 d X.2.2.2.2.2.2
theorem go_aI (X : Cx_ p l e R s m args below meth c cc nL own D cl tys TG_) (hN : NW_ nw s) (hao : Ao_ s) (hA : ∀ q, s.heap.size ≤ q → A q) {index maxL n b : Nat} {y : MethodName} {bytes : ByteArray} {rm : Room} {As st0 : List Value}
    (hM : Ca_ l D cl tys nw y (.code y bytes maxL none :: TG_) rm (.ref b :: As) w1 a0 B) (h1 : Cond.methodLink own index y ∈ TG_) (h2 : Cond.instanceMethod y ∈ TG_) (h4 : Cond.initialized y.cls ∈ TG_) (h5 : Cond.code y bytes maxL none ∈ TG_) (hy1 : y.name = "<init>")
    (hd : y.cls ≠ "java/lang/invoke/MethodHandle" ∧ y.cls ≠ "java/lang/invoke/VarHandle" ∧ (parseMethodDescriptor y.desc).map (fun d => d.parameters.length) = some n) (hR : rm.frames + 1 ≤ R.frames ∧ 8 + (maxL + 11) + rm.locals ≤ R.locals) (hcs : cells + rm.cells ≤ R.cells ∧ slots + rm.slots ≤ R.slots)
    (hst : st0 = As.reverse ++ .ref b :: rest) (hn : As.length = n) (hroom : (rest.map fun v => v.category).sum ≤ 8) (d : decode cc pc = .ok (.invokespecial index, 3))
    (k : ∀ ad : Nat → Nat, ad 0 = a0 → Go_ p l e R s m args below meth c D cl A nL (cells + rm.cells) (slots + rm.slots) Q (w2 ++ B ad) (pc + 3) L rest) : Go_ p l e R s m args below meth c D cl A nL cells slots Q (w2 ++ w1) pc L st0 := by
  refine go_runA (w1 := w1) (w2 := w2) (B := B) (rest := rest) (a := (Value.ref b :: As).toArray) (fun H locs ls hP hD hl => ?_) hA k
  obtain ⟨hx, hb, hml, hown, hts, hK, -⟩ := X
  exact va_runI (As := As) (rest := rest) ⟨hx, hb, hml, hown, hts⟩ (hM H.size) ⟨callB_of n hts (tg_c h5) rfl rfl rfl (hts _ h4) (hts _ h1) hd hR, hy1, hts _ h2⟩ ⟨Pa_blind, fun U hU hW => ⟨rfl, ⟨by rw [hU]; exact hP, hD, va_K.moved hW.alike hK, NW_warm hW hN, by rw [hU]⟩, Ao_keep hW hao⟩⟩ rfl hn hl.1.1 hst (lv_room hroom) d hcs
theorem wl_snoc (ad : Nat → Nat) (N : Nat) (g : Nat → va_E) (q : Nat) (x : va_E) : wl_ ad N g ++ [(q, x)] = wl_ (va_up ad N q) (N + 1) (va_up g N x) := by
  unfold wl_
  rw [List.range_succ, List.map_append, List.map_cons, List.map_nil, va_up_self, va_up_self]
  congr 1
  apply List.map_congr_left
  intro i hi
  have h1 := List.mem_range.mp hi
  rw [va_up_ne _ _ (by omega), va_up_ne _ _ (by omega)]
/-- what an array of references holds matters up to its length -/
theorem gw_arrq {i n a : Nat} {cA : ClassId} {f f' : Nat → Option Nat} (hw : w[i]? = some (a, .inl (cA, n, .inr (.inr (.inr (.inr f)))))) (hf : ∀ j, j < n → f j = f' j) (kk : Go_ p l e R s m args below meth c D cl A nL cells slots Q (w.set i (a, .inl (cA, n, .inr (.inr (.inr (.inr f')))))) pc L rest) : Go_ p l e R s m args below meth c D cl A nL cells slots Q w pc L rest := fun H locs ls hP hD hS h => by
  have hil := (List.getElem?_eq_some_iff.mp hw).1
  refine kk H locs ls (fun k q hk => ?_) (vd_adr hD ?_) hS h
  · rw [List.getElem?_set] at hk
    by_cases e : i = k
    · rw [if_pos e, if_pos hil] at hk
      cases Option.some.inj hk
      have h1 : H[a]? = some (vp_cell cA (n, .inr (.inr (.inr (.inr f))))) := hP i _ hw
      show H[a]? = some (vp_cell cA (n, .inr (.inr (.inr (.inr f')))))
      rw [h1, arr_sameq hf]
    · rw [if_neg e] at hk
      exact hP k q hk
  · apply List.ext_getElem?
    intro k
    rw [List.getElem?_map, List.getElem?_map, List.getElem?_set]
    by_cases e : i = k
    · rw [if_pos e, if_pos hil, ← e, hw]
      rfl
    · rw [if_neg e]
end CA_A

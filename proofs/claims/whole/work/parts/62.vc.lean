/-! THE CLAIM OUT OF ONE WALK OF THE LAW'S BODY. Your part is whole_start (and what it stands on); all else here is the same for every law, but numbers. -/
def R_law : String := "HelpedLogLaw"
def lw_P (b : Addr) (xs : List Int32) (args : Array Value) (s : State) : Prop := args = #[.ref b] ∧ s.IntsAt b xs ∧ xs.length ≤ 2562 ∧ (Jvm.Cond.and given_1 narrow_1).before args s = true
def lw_Q (_ : Array Value) (s : State) (o : Outcome) (t : State) : Prop := o = .returned (some (.int 1)) ∧ Framed s o t [] 601024 7293000
def lw_Z (below : List Frame) (a : Array Value) (s : State) : State → Prop := fun t => ∃ o, t.status = .running ∧ Ended t below o ∧ lw_Q a s o t
/-- the law's own end, with 1 on the stack, nothing written that was there before, its room as the claim has it -/
theorem lw_ret {p : Program} {l : Launch} {e : Env} {s : State} {m : MethodId} {below : List Frame} {meth : Method} {c : Code} {b : Nat} (hx : p.tables.exec = Jvm.exec) (hb : c.code = code) (hr : meth.sig.returnType = ret) (hlocks : meth.locks = false) {pc : Nat} {H : Heap} {ls : Array Slot} (hdg : decode code pc = .ok (.ireturn, 1)) : W p l e room_1 s m #[Value.ref b] below meth c H [] 601024 7293000 (lw_Z below #[Value.ref b] s) (F0 m pc ls [.int 1]) := by
  intro T hT X
  obtain ⟨fs, hret, hrun, hended, hW, hframe⟩ := X.leave (v := some (.int 1)) (hlocks := hlocks) (fun h => by rw [hr] at h; cases h)
  have hmeth' : T.vm.method? m = some meth := X.method'
  refine ⟨T.setFrames fs, ?_, .returned (some (.int 1)), hrun, hended, rfl, ⟨_, rfl⟩, hW, hframe⟩
  jvm_step X.here [X.here.top, hx, hb, hdg, hmeth', hr, ret, narrow_b1]
  (try refine ⟨rfl, ?_⟩); (try refine ⟨rfl, ?_⟩)
  first | (intro acts; rw [hret _ acts rfl rfl rfl]) | rw [hret _ _ rfl rfl rfl]
  exact Steps.refl _
/-- what holds at the law's entry: the machine, the code, the tables' words (any of lw_tbl by 'hts w (by decide +kernel)'), the script of L ints xs at the cell b, what the Statement gives of the start (any of its parts by flat_of_before) -/
def lw_At (p : Program) (s : State) (m : MethodId) (meth : Method) (c : Code) (b L : Nat) (xs : Nat → Int32) : Prop :=
  p.tables.exec = Jvm.exec ∧ c.code = code ∧ meth.sig.returnType = ret ∧ c.maxLocals = 7 ∧ s.vm.findClass R_law = some m.cls ∧ (∀ w ∈ lw_tbl, w.before #[Value.ref b] s = true) ∧ va_X b L xs s s.heap ∧ b < s.heap.size ∧ meth.locks = false ∧ (Jvm.Cond.and given_1 narrow_1).before #[Value.ref b] s = true
-- ===== YOUR PART BEGINS =====
set_option maxHeartbeats 4000000 in
set_option maxRecDepth 20000 in
theorem whole_start {p : Program} {e : Env} {s : State} {m : MethodId} {below : List Frame} {meth : Method} {c : Code} (l : Launch) (htr : l.stackTraces = false) {b L : Nat} {xs : Nat → Int32} (hL : L ≤ 2562) (C0 : lw_At p s m meth c b L xs) : W p l e room_1 s m #[Value.ref b] below meth c s.heap [] 0 0 (lw_Z below #[Value.ref b] s) (entryFrame m ([Value.ref b] : List Value).toArray 7) := by
  obtain ⟨hx, hb, hret, hml, hown, hts0, hX, hbl, hlk, hgv⟩ := C0
  have hts : ∀ w ∈ TG_, w.before #[Value.ref b] s = true := fun w hw => hts0 w (List.mem_filter.mp hw).1
  have hao : Ao_ s := st_ao hts0
  obtain ⟨D, T, hK⟩ := st_K hts hao
  have X : Cx_ p l e room_1 s m #[Value.ref b] below meth c cd_L_law 7 rn_L D cl_ (tys_ T) TG_ := ⟨hx, hb, hml, hown, hts, hK, hlk⟩
  have hN : NW_ nwc_ s := st_nw hts0
  have hTw := st_tw hts0 hgv
  have hNc := st_nc hgv
  have hLs : L < 1000000 := by omega
  have hnb : ¬ s.heap.size ≤ b := Nat.not_le.mpr hbl
  obtain ⟨K, hK4, hk⟩ := ck_ex (if 0 < L then xs 0 else 0)
  obtain ⟨n, hn5, hn⟩ := cn_ex (if 1 < L then xs 1 else 0)
  have hl := lv_entry [Value.ref b] (n := 7) (Nat.le_of_ble_eq_true rfl)
  rw [lg_entry_eq]
  have hend : ∀ (am ad : Nat → Nat) (o j : Nat) (σ ρ : ST_) (f : Nat → Int64), j ≤ 512 → Go_ p l e room_1 s m #[Value.ref b] below meth c D cl_ (fun q => s.heap.size ≤ q) 7 (73 + j) (2535 + 6 * j) (lw_Z below #[Value.ref b] s) (lW_ T am ad K n σ ρ o f) 894 (lL_ b ad am o (2 + 5 * j)) [] := by
    intro am ad o j σ ρ f hj
    refine go_iconst (v := 1) X (by decide) dw_894 ?_
    intro H locs ls hP hD hS hl2
    refine W.widen (show 73 + j ≤ 601024 by omega) (show 2535 + 6 * j ≤ 7293000 by omega) ?_
    exact va_forget hS.2.2 (lw_ret hx hb hret hlk dw_895)
  have k : Go_ p l e room_1 s m #[Value.ref b] below meth c D cl_ (fun q => s.heap.size ≤ q) 7 0 0 (lw_Z below #[Value.ref b] s) [] 0 (lv_args 0 [Value.ref b]) [] := by
    refine go_loc (L' := [(0, .ref b)]) rfl ?_
    refine go_new (C := rn_H) (T := ft_H) (ci := 0) (fs := [.null, .null, .null, .null, .null]) X (fun _ h => h) in_H ty_H tk_H kl_L_8 nk_H ik_H rfl (by decide) ⟨by decide, by decide⟩ dw_0 (fun q1 => ?_)
    refine go_dup X rfl dw_3 ?_
    refine go_aload_n (i := 0) X rfl rfl dw_4 ?_
    refine go_iconst (v := nI 0) X (by decide) dw_5 ?_
    refine go_cell X hX hbl hLs hnb (by omega) (Nat.le_of_ble_eq_true rfl) ⟨by decide, by decide⟩ dw_6 ?_
    refine go_aload_n (i := 0) X rfl rfl dw_9 ?_
    refine go_iconst (v := nI 1) X (by decide) dw_10 ?_
    refine go_cell X hX hbl hLs hnb (by omega) (Nat.le_of_ble_eq_true rfl) ⟨by decide, by decide⟩ dw_11 ?_
    refine go_aI (n := 2) (a0 := q1) (B := fun ad => cW_ T ad K n (hc_init K)) (rest := [.ref q1]) (w2 := []) (w1 := [(q1, .inr (0, [.null, .null, .null, .null, .null]))]) X hN hao (fun _ h => h) (kh_init l D T nwc_ (fun _ h => h) hK4 hn5 hk hn) ml_L_60 im_H_init ik_H co_H_init rfl ⟨by decide, by decide, by decide +kernel⟩ ⟨by decide, by decide⟩ ⟨by decide, by decide⟩ rfl rfl (Nat.le_of_ble_eq_true rfl) dw_14 (fun ad h0 => ?_)
    refine go_astore_n (i := 1) X rfl (by decide) dw_17 ?_
    refine go_loc (L' := [(0, .ref b), (1, .ref (ad 0))]) (by rw [h0]; rfl) ?_
    refine go_eqw (w' := cW_ T ad K n (hc_init K)) rfl ?_
    refine go_widen (cells' := 46) (slots' := 398) (by decide) (by decide) ?_
    refine go_new (C := rn_M) (T := ft_M) (ci := 7) (fs := mZ_ (fun _ => 0) 1 0 0) X (fun _ h => h) in_M ty_M tk_M kl_L_63 nk_M ik_M rfl (by decide) ⟨by decide, by decide⟩ dw_18 (fun q2 => ?_)
    refine go_dup X rfl dw_21 ?_
    refine go_aload_n (i := 0) X rfl rfl dw_22 ?_
    refine go_iconst (v := nI 0) X (by decide) dw_23 ?_
    refine go_cell X hX hbl hLs hnb (by omega) (Nat.le_of_ble_eq_true rfl) ⟨by decide, by decide⟩ dw_24 ?_
    refine go_aload_n (i := 0) X rfl rfl dw_27 ?_
    refine go_iconst (v := nI 1) X (by decide) dw_28 ?_
    refine go_cell X hX hbl hLs hnb (by omega) (Nat.le_of_ble_eq_true rfl) ⟨by decide, by decide⟩ dw_29 ?_
    refine go_aI (n := 2) (a0 := q2) (B := fun am => mW_ T am K n (hm_init K)) (rest := [.ref q2]) (w2 := cW_ T ad K n (hc_init K)) (w1 := [(q2, .inr (7, mZ_ (fun _ => 0) 1 0 0))]) X hN hao (fun _ h => h) (km_init l D T nwc_ hK4 hk hn) ml_L_65 im_M_init ik_M co_M_init rfl ⟨by decide, by decide, by decide +kernel⟩ ⟨by decide, by decide⟩ ⟨by decide, by decide⟩ rfl rfl (Nat.le_of_ble_eq_true rfl) dw_32 (fun am h1 => ?_)
    refine go_astore_n (i := 2) X rfl (by decide) dw_35 ?_
    refine go_loc (L' := [(0, .ref b), (1, .ref (ad 0)), (2, .ref (am 0))]) (by rw [h1]; rfl) ?_
    refine go_swp ?_
    refine go_iconst (v := 1) X (by decide) dw_36 ?_
    refine go_newa (atype := .long) (t0 := 2) (ty := .long) (N' := 1) (a0 := (1, .inr (.inl (fun _ => 0)))) X (fun _ h => h) ac_long rfl rfl prim_j (fun cA => vczl cA _) (by decide) (by decide) (by decide) ⟨by decide, by decide⟩ dw_37 (fun o => ?_)
    refine go_astore_n (i := 3) X rfl (by decide) dw_39 ?_
    refine go_iconst (v := nI 2) X (by decide) dw_40 ?_
    refine go_istore (i := 4) X (by decide) dw_41 ?_
    refine go_loc (L' := lL_ b ad am o (2 + 5 * 0)) rfl ?_
    refine go_eqw (w' := lW_ T am ad K n (hc_init K) (hm_init K) o (fun _ => 0)) (List.append_assoc _ _ _) ?_
    refine go_widen (cells' := 73 + 0) (slots' := 2535 + 6 * 0) (by decide) (by decide) ?_
    exact ll_loop X hN hTw hNc hX hbl (by omega) hK4 hn5.2 hn5.1 htr (fun _ h => h) (hend am ad o) 0 (by omega) _ _ _ 0 (Nat.le_refl _) (jr_init K n hn5.2)
  exact k s.heap [] _ vp_nil vd_nil va_S.rf ⟨hl, List.forall_mem_cons.mpr ⟨rfl, fun _ h => nomatch h⟩⟩
-- ===== YOUR PART ENDS =====
set_option maxHeartbeats 4000000 in
theorem lw_walk (l : Launch) (htr : l.stackTraces = false) (b : Addr) (xs : List Int32) : MetFree l x (headSpec (Jvm.Cond.code x code maxLocals ret :: tables_1) room_1) (lw_P b xs) (fun _ _ _ _ _ => True) lw_Q := by
  refine MetFree.of_bodyS (code := code) (maxLocals := maxLocals) (ret := ret) (by decide) ?_ ?_
  · intro args s m h hn
    obtain ⟨meth, c, h1, h2, h3, h4, h5, h6, -, -⟩ := Cond.code_spec hn (atoms_spec (ws := Jvm.Cond.code x code maxLocals ret :: tables_1) h _ List.mem_cons_self)
    exact ⟨meth, c, h1, h2, h3, h4, h5, h6⟩
  · intro p e s m args below meth c s₁ B hml0 hP _
    obtain ⟨rfl, hx, hbd, hgv⟩ := hP
    obtain ⟨scr, harrAt, hlist, hof, hsmall⟩ := hx
    obtain ⟨hcb, hkn, -, -⟩ := State.arrayAt?_spec harrAt
    have hown : s.vm.findClass R_law = some m.cls := findClass_of_methodNamed B.named
    have hts0 : ∀ c ∈ (Jvm.Cond.code x code maxLocals ret :: tables_1), c.before #[Value.ref b] s = true := atoms_spec (ws := Jvm.Cond.code x code maxLocals ret :: tables_1) B.pre
    have hts : ∀ w ∈ lw_tbl, w.before #[Value.ref b] s = true := k2_hts_sels lw_privs (fun w hw => hts0 w (List.mem_cons_of_mem _ hw)) lw_privs_ok
    have hml : c.maxLocals = 7 := B.maxLocals_eq (hts0 _ List.mem_cons_self)
    have X₀ : Stand p l e room_1 s m #[Value.ref b] below meth c s₁ [] 0 0 := Stand.of_body B
    have hh0 : s₁.heap = s.heap := by rw [B.state]; rfl
    have hsz : scr.slots.size = xs.length := by rw [← Array.length_toList, hlist, List.length_map]
    have hval : ∀ j : Nat, j < xs.length → scr.slots[j]? = some (.int (xs.getD j 0)) := fun j hj => by
      rw [← Array.getElem?_toList, hlist]
      simp [hj]
    have hbl : b < s.heap.size := (Array.getElem?_eq_some_iff.mp hcb).1
    have hX : va_X b xs.length (fun j => xs.getD j 0) s s.heap := ⟨scr, hcb, hof, hkn, hsz, hval⟩
    have K : W p l e room_1 s m #[Value.ref b] below meth c s₁.heap [] 0 0 (lw_Z below #[Value.ref b] s) (entryFrame m ([Value.ref b] : List Value).toArray 7) := by
      rw [hh0]
      exact whole_start l htr hbd ⟨B.exec, B.bytes, B.returns, hml, hown, hts, hX, hbl, B.notSynchronized, hgv⟩
    obtain ⟨t, a1, o, b1, b2, b3⟩ := K s₁ rfl X₀
    exact ⟨t, o, a1, b1, b2, b3⟩
theorem lw_pre_spec {args : Array Value} {s : State} (h : (Jvm.Cond.and given_1 narrow_1).before args s = true) (hr : rest_1_c.before args s = true) : ∃ (b : Addr) (xs : List Int32), lw_P b xs args s := by
  have hs := flat_of_before _ h
  have hq := flat_of_before _ hr
  have hc : (Cond.count 1).before args s = true := hs _ (by decide +kernel)
  have harr : (Cond.arrayOf (.arg 0) .int).before args s = true := hs _ (by decide +kernel)
  have hle : (Cond.le (.length (.arg 0)) (.int 2562)).before args s = true := hs _ (by decide +kernel)
  have hlen : (Cond.isInt (.length (.arg 0))).before args s = true := hq _ (by decide +kernel)
  have hall : (Cond.all (.arg 0) (.isInt (.elem (.arg 0) (.index 0)))).before args s = true := hq _ (by decide +kernel)
  obtain ⟨b, xs, hb, hx⟩ := State.ints_of_pre rfl harr hlen hall
  have hsm : xs.length < 2 ^ 31 := hx.choose_spec.2.2.2
  have hev : (Term.length (.arg 0)).eval args s none [] s = some (.int xs.length.toInt32) := hx.length_eval hb
  have hv := Cond.le_ints hev (show (Term.int 2562).eval args s none [] s = some (.int 2562) from rfl)
  have hd : xs.length.toInt32 ≤ 2562 := by
    simpa [Cond.before, Cond.holds, hv] using hle
  have hN : xs.length ≤ 2562 := (Int32.ofNat_le_ofNat hsm (by decide)).mp (show Int32.ofNat xs.length ≤ Int32.ofNat 2562 from hd)
  exact ⟨b, xs, Cond.one_arg hc (show args[0]? = some (.ref b) from hb), hx, hN, h⟩
theorem lw_comes (l : Launch) (htr : l.stackTraces = false) : Comes l x (Jvm.Cond.code x code maxLocals ret :: tables_1) room_1 (fun tb e args s => Calls_1 tb e args s ∧ rest_1 tb e args s ∧ Pre_1 tb e args s)
    (fun _ _ args s o t => lw_Q args s o t) := by
  intro p e ha hc hk s m args below hf hfit hheap happ hpre
  obtain ⟨b, xs, hP⟩ := lw_pre_spec hpre.2.2 hpre.2.1
  obtain ⟨k, o, h1, h2, h3, hQ⟩ := lw_walk l htr b xs p e ha hc hk s m args below hf ((Spec.applies_iff_loose hf).mp happ).1 hP trivial
  exact ⟨k, o, h1, h2, h3, hQ⟩
theorem lw_frame {s t : State} {o : Outcome} {args : Array Value} (h : Framed s o t [] 601024 7293000) :
    Framed s o t (fieldLocs frame_1_writes args s ++ arrayLocs frame_1_arrays args s ++ staticLocs frame_1_statics s) 601024 7293000 := h
theorem lw_limb (L : Cond) (hL : ∀ (args : Array Value) (s t : State), L.after args s (.returned (some (.int 1))) t = true) :
    ArmFor flags0 classFile x code maxLocals ret World_1 tables_1 room_1 Calls_1 rest_1 Pre_1
      (fun tb e a s o t => postC L tb e a s o t ∧ Framed s o t (fieldLocs frame_1_writes a s ++ arrayLocs frame_1_arrays a s ++ staticLocs frame_1_statics s) 601024 7293000) := by
  intro l hfl _ _ p e ha hc hk s m args below hf hfit hheap happ hpre
  have htr : l.stackTraces = false := by unfold Launch.stackTraces; rw [hfl]; decide +kernel
  obtain ⟨k, o, h1, h2, h3, rfl, hF⟩ := lw_comes l htr p e ha hc hk s m args below hf hfit hheap happ hpre
  exact ⟨k, _, h1, h2, h3, hL args s _, lw_frame hF⟩
theorem i_vc : Claimed_1_1 ∧ Claimed_1_2 := ⟨lw_limb limb_1_1 (fun args s t => by simp [limb_1_1, Cond.after, Cond.holds, Cond.value]), lw_limb limb_1_2 (fun args s t => Cond.after_iff.mpr (by
  first | (rw [show limb_1_2 = Cond.eq .result (.int 1) from rfl, Cond.eq_ints (x := 1) (y := 1) rfl rfl]; simp; done) | (simp [limb_1_2, Cond.value, Term.eval]; done)))⟩

section WS_A
theorem vp_nil {D : va_G} {cl : List vw_C} {H : Heap} : va_P D cl [] H := fun k q h => by rw [List.getElem?_nil] at h; cases h
theorem vd_nil {A : Nat → Prop} : va_D A [] := ⟨fun i j x y h _ _ => (by rw [List.getElem?_nil] at h; cases h), fun k q h => (by rw [List.getElem?_nil] at h; cases h)⟩
def Ps_ (D : va_G) (cl : List vw_C) (tys : List (ClassId × FieldType)) (b Ls : Nat) (xs : Nat → Int32) (U : State) : Prop := va_X b Ls xs U U.heap ∧ va_K D cl tys U
theorem Ps_blind {D : va_G} {cl : List vw_C} {tys : List (ClassId × FieldType)} {b Ls : Nat} {xs : Nat → Int32} {av : List Value} : FrameBlind (va_Pc av (Ps_ D cl tys b Ls xs)) :=
  fun a U g mk h => ⟨h.1, va_X.moved (u := U) (U := U.calling g mk a) (Vm.Alike.refl U.vm) h.2.1, va_K.moved (u := U) (U := U.calling g mk a) (Vm.Alike.refl U.vm) h.2.2⟩
theorem kl_cell (l : Launch) (D : va_G) (T : Nat → ClassId) {b Ls kk : Nat} {xs : Nat → Int32} (hLs : Ls < 1000000) (hk : kk < 1000) : Met l yn_L_cell (.code yn_L_cell cd_L_cell 2 (some .int) :: TG_) (rm_d 0) (va_Pc [.ref b, .int (nI kk)] (Ps_ D cl_ (tys_ T) b Ls xs)) (Qd_ D cl_ (fun _ => False) [] (some (.int (if kk < Ls then xs kk else 0)))) 0 0 (fun _ => False) := by
  refine Met.ofW (cc := cd_L_cell) (maxL := 2) (ret := some .int) (by decide) rfl ?_
  intro p e s m args below meth c s₁ B hml hv
  obtain ⟨hargs, hX, hK⟩ := hv
  have hl := lv_entry [.ref b, .int (nI kk)] (n := 2) (Nat.le_of_ble_eq_true rfl)
  rw [hargs, lg_entry_eq]
  have hts := atoms_spec (ws := .code yn_L_cell cd_L_cell 2 (some .int) :: TG_) B.pre
  have X : Cx_ p l e (rm_d 0) s m args below meth c cd_L_cell 2 rn_L D cl_ (tys_ T) TG_ := ⟨B.exec, B.bytes, hml, findClass_of_methodNamed B.named, fun w hw => hts w (List.mem_cons_of_mem _ hw), hK, B.notSynchronized⟩
  have hbl : b < s.heap.size := by
    obtain ⟨scr, h1, -⟩ := hX
    exact (Array.getElem?_eq_some_iff.mp h1).1
  have hr : meth.sig.returnType = some .int := B.returns
  have k : Go_ p l e (rm_d 0) s m args below meth c D cl_ (fun _ => False) 2 0 0 (MQ below (Qd_ D cl_ (fun _ => False) [] (some (.int (if kk < Ls then xs kk else 0)))) args s 0 0 (fun _ => False)) [] 0 (lv_args 0 [.ref b, .int (nI kk)]) [] := by
    refine go_loc (L' := [(0, .ref b), (1, .int (nI kk))]) rfl ?_
    refine go_iload_n (i := 1) X rfl rfl dc_L_cell_0 ?_
    refine go_aload_n (i := 0) X rfl rfl dc_L_cell_1 ?_
    refine go_slen X hX hbl id dc_L_cell_2 ?_
    refine go_icmp_ge (tgt := 12) X dc_L_cell_3 (by decide) (fun h => ?_) (fun h => ?_)
    · rw [iz_le, iz_nI (by omega), iz_nI (by omega)] at h
      refine go_iconst (v := 0) X (by decide) dc_L_cell_12 ?_
      exact go_iret X hr dc_L_cell_13 rfl (by rw [if_neg (by omega)])
    · rw [iz_le, iz_nI (by omega), iz_nI (by omega)] at h
      refine go_aload_n (i := 0) X rfl rfl dc_L_cell_6 ?_
      refine go_iload_n (i := 1) X rfl rfl dc_L_cell_7 ?_
      refine go_sld X hX hbl id (Ix_n (j := kk) (by omega) (by omega)) dc_L_cell_8 ?_
      refine go_goto (tgt := 13) X dc_L_cell_9 (by decide) ?_
      exact go_iret X hr dc_L_cell_13 rfl (by rw [if_pos (by omega)])
  have k2 := k s.heap [] _ vp_nil vd_nil va_S.rf ⟨hl, List.forall_mem_cons.mpr ⟨rfl, List.forall_mem_cons.mpr ⟨rfl, fun _ h => nomatch h⟩⟩⟩
  rw [hargs] at k2
  exact k2
variable {p : Program} {l : Launch} {e : Env} {s : State} {m : MethodId} {args : Array Value} {below : List Frame} {meth : Method} {c : Code} {D : va_G} {A : Nat → Prop} {cells slots : Nat} {Q : State → Prop} {w : va_W} {T : Nat → ClassId} {b Ls : Nat} {xs : Nat → Int32} {pc : Nat} {L : List (Nat × Value)} {rest : List Value}
theorem go_cell (X : Cx_ p l e room_1 s m args below meth c cd_L_law 7 rn_L D cl_ (tys_ T) TG_) (hX : va_X b Ls xs s s.heap) (hbl : b < s.heap.size) (hLs : Ls < 1000000) (hbA : ¬ A b) {kk : Nat} (hk : kk < 1000) (hroom : (rest.map fun v => v.category).sum ≤ 8) (hcs : cells ≤ room_1.cells ∧ slots ≤ room_1.slots) (d : decode cd_L_law pc = .ok (.invokestatic 54, 3))
    (k : Go_ p l e room_1 s m args below meth c D cl_ A 7 cells slots Q w (pc + 3) L (.int (if kk < Ls then xs kk else 0) :: rest)) : Go_ p l e room_1 s m args below meth c D cl_ A 7 cells slots Q w pc L (.int (nI kk) :: .ref b :: rest) := by
  refine go_runF (mc := 0) (ms := 0) (A1 := fun _ => False) (w1 := []) (w1' := []) (w' := w) (r := some (.int (if kk < Ls then xs kk else 0))) (rest := rest) (a := [Value.ref b, .int (nI kk)].toArray) (fun H locs ls hP hD hS hl => ?_) (fun q hq => nomatch hq) (fun _ _ h => h.elim) (fun _ q hq => Or.inr ⟨hq, id⟩) rfl k
  obtain ⟨hx, hb, hml, hown, hts, hK, -⟩ := X
  exact va_runS (As := [.ref b, .int (nI kk)]) (rest := rest) (n := 2) ⟨hx, hb, hml, hown, hts⟩ (kl_cell l D T hLs hk) ⟨callB_of 2 hts (tg_c co_L_cell) rfl rfl rfl (hts _ ik_L) (hts _ ml_L_54) ⟨by decide, by decide, by decide +kernel⟩ ⟨by decide, by decide⟩, hts _ sm_L_cell⟩ ⟨Ps_blind, fun U hU hW => ⟨rfl, (hX.kept (by rw [hU]; exact hS.2.1 b hbl hbA)).moved hW.alike, va_K.moved hW.alike hK⟩⟩ rfl rfl hl.1.1 rfl (lv_room hroom) d hcs
end WS_A
section WS_B
theorem ck_ex (k : Int32) : ∃ K, K < 4 ∧ (if (0 : Int32) < (if k < 3 then k else 3) then (if k < 3 then k else 3) else 0) = nI K := by
  by_cases h3 : k < 3
  · rw [if_pos h3]
    by_cases h0 : 0 < k
    · rw [if_pos h0]
      rw [iz_lt, iz_3] at h3
      rw [iz_lt, iz_0] at h0
      obtain ⟨e, -⟩ := iz_of (x := k) (by omega)
      have := iz_ix k
      exact ⟨ix_ k, by omega, e⟩
    · rw [if_neg h0]
      exact ⟨0, by omega, by decide⟩
  · rw [if_neg h3, if_pos (by decide)]
    exact ⟨3, by omega, by decide⟩
theorem cn_ex (k : Int32) : ∃ n, (1 ≤ n ∧ n ≤ 5) ∧ (if (1 : Int32) < (if k < 5 then k else 5) then (if k < 5 then k else 5) else 1) = nI n := by
  by_cases h3 : k < 5
  · rw [if_pos h3]
    by_cases h0 : 1 < k
    · rw [if_pos h0]
      rw [iz_lt, iz_5] at h3
      rw [iz_lt, iz_1] at h0
      obtain ⟨e, -⟩ := iz_of (x := k) (by omega)
      have := iz_ix k
      exact ⟨ix_ k, by omega, e⟩
    · rw [if_neg h0]
      exact ⟨1, by omega, by decide⟩
  · rw [if_neg h3, if_pos (by decide)]
    exact ⟨5, by omega, by decide⟩
def d1_ (c0 c1 c2 c3 c4 c5 c6 c7 : ClassId) : Nat → ClassId
  | 0 => c0 | 1 => c1 | 2 => c2 | 3 => c3 | 4 => c4 | 5 => c5 | 6 => c6 | _ => c7
def d2_ (i0 i1 i2 i3 i4 i5 i6 i7 : Nat → Nat) : Nat → Nat → Nat
  | 0 => i0 | 1 => i1 | 2 => i2 | 3 => i3 | 4 => i4 | 5 => i5 | 6 => i6 | _ => i7
def t5_ (c0 c1 c2 c3 c4 : ClassId) : Nat → ClassId
  | 0 => c0 | 1 => c1 | 2 => c2 | 3 => c3 | _ => c4
/-- classes and array classes as the tables have them -/
theorem st_K {s : State} {args : Array Value} (hts : ∀ w ∈ TG_, w.before args s = true) (hao : Ao_ s) : ∃ (D : va_G) (T : Nat → ClassId), va_K D cl_ (tys_ T) s := by
  obtain ⟨c0, i0, k0⟩ := u_known hts in_H (hts _ nk_H)
  obtain ⟨c1, i1, k1⟩ := u_known hts in_N (hts _ nk_N)
  obtain ⟨c2, i2, k2⟩ := u_known hts in_C (hts _ nk_C)
  obtain ⟨c3, i3, k3⟩ := u_known hts in_Q (hts _ nk_Q)
  obtain ⟨c4, i4, k4⟩ := u_known hts in_S (hts _ nk_S)
  obtain ⟨c5, i5, k5⟩ := u_known hts in_T (hts _ nk_T)
  obtain ⟨c6, i6, k6⟩ := u_known hts in_B (hts _ nk_B)
  obtain ⟨c7, i7, k7⟩ := u_known hts in_M (hts _ nk_M)
  obtain ⟨a0, b0, p0, f00, f01, f02⟩ := Cond.arrayClass_spec (hts _ ac_int)
  obtain ⟨a1, b1, p1, f10, f11, f12⟩ := Cond.arrayClass_spec (hts _ ac_boolean)
  obtain ⟨a2, b2, p2, f20, f21, f22⟩ := Cond.arrayClass_spec (hts _ ac_long)
  obtain ⟨p3, a3, b3, f30, -, f31, f32, f33⟩ := Cond.arrayOver_spec hao.1
  obtain ⟨p4, a4, b4, f40, -, f41, f42, f43⟩ := Cond.arrayOver_spec hao.2
  refine ⟨(d1_ c0 c1 c2 c3 c4 c5 c6 c7, d2_ i0 i1 i2 i3 i4 i5 i6 i7), t5_ a0 a1 a2 a3 a4, fun c q hq => ?_, fun k q hq => ?_⟩
  · match c, hq with
    | 0, hq => cases Option.some.inj (show some (rn_H, ft_H, 5) = some q from hq); exact k0
    | 1, hq => cases Option.some.inj (show some (rn_N, ft_N, 8) = some q from hq); exact k1
    | 2, hq => cases Option.some.inj (show some (rn_C, ft_C, 14) = some q from hq); exact k2
    | 3, hq => cases Option.some.inj (show some (rn_Q, ft_Q, 2) = some q from hq); exact k3
    | 4, hq => cases Option.some.inj (show some (rn_S, ft_S, 2) = some q from hq); exact k4
    | 5, hq => cases Option.some.inj (show some (rn_T, ft_T, 2) = some q from hq); exact k5
    | 6, hq => cases Option.some.inj (show some (rn_B, ft_B, 2) = some q from hq); exact k6
    | 7, hq => cases Option.some.inj (show some (rn_M, ft_M, 31) = some q from hq); exact k7
    | c + 8, hq => exact absurd (show none = some q from hq) (fun h => nomatch h)
  · match k, hq with
    | 0, hq => cases Option.some.inj (show some (a0, FieldType.int) = some q from hq); exact ⟨fun n z => ⟨fun k h => (by cases h), b0, f01, p0, f02⟩, f00⟩
    | 1, hq => cases Option.some.inj (show some (a1, FieldType.boolean) = some q from hq); exact ⟨fun n z => ⟨fun k h => (by cases h), b1, f11, p1, f12⟩, f10⟩
    | 2, hq => cases Option.some.inj (show some (a2, FieldType.long) = some q from hq); exact ⟨fun n z => ⟨fun k h => (by cases h), b2, f21, p2, f22⟩, f20⟩
    | 3, hq => cases Option.some.inj (show some (a3, FieldType.object "HelpedLog$Node") = some q from hq); exact ⟨fun n z => ⟨fun k h => (by cases h), b3, f31, p3, f32⟩, b3, p3, f31, f32, f30, f33⟩
    | 4, hq => cases Option.some.inj (show some (a4, FieldType.object "HelpedLog$Caller") = some q from hq); exact ⟨fun n z => ⟨fun k h => (by cases h), b4, f41, p4, f42⟩, b4, p4, f41, f42, f40, f43⟩
    | k + 5, hq => exact absurd (show none = some q from hq) (fun h => nomatch h)
theorem st_nw {s : State} {args : Array Value} (hts : ∀ w ∈ lw_tbl, w.before args s = true) : NW_ nwc_ s := by
  have t : ∀ {w : Cond} (i : Nat), tables_1[i]? = some w → w.before args s = true := fun i h => hts _ (List.mem_append_right _ (List.mem_of_getElem? h))
  have g : ∀ {w : Cond}, w ∈ TG_ → w.before args s = true := fun h => hts _ (List.mem_filter.mp h).1
  have hpriv : (Cond.privateMethod yn_G_putIn).before args s = true := t 432 (by decide +kernel)
  refine ⟨nw_ok, fun w hw => ?_⟩
  have m : ∀ {w : Cond}, w ∈ tables_1 → w.before args s = true := fun h => hts _ (List.mem_append_right _ h)
  simp only [nwc_, List.mem_cons, List.not_mem_nil, or_false] at hw
  rcases hw with rfl | rfl | rfl | rfl | rfl | rfl | rfl
  · exact va_Nw.of rfl (m (by decide +kernel))
  · exact va_Nw.of rfl (m (by decide +kernel))
  · exact va_Nw.of rfl (m (by decide +kernel))
  · exact va_Nw.of rfl (m (by decide +kernel))
  · exact va_Nw.of rfl (m (by decide +kernel))
  · exact va_Nw.of rfl (sel_priv ⟨by decide, by decide⟩ (g sl_Q_Pperform) rfl hpriv (g im_G_putIn))
  · exact va_Nw.of rfl (sel_priv ⟨by decide, by decide⟩ (g sl_S_Pperform) rfl hpriv (g im_G_putIn))
theorem Sf_lt {z : Nat} {name desc : String} {s : State} (h : Sf_ z name desc s) : z < s.heap.size := by
  obtain ⟨c, k, i, f, cell, v, h1, h2, h3, h4, h5, -⟩ := h
  exact (Array.getElem?_eq_some_iff.mp h5).1
theorem st_tw {s : State} {args : Array Value} (hts : ∀ w ∈ lw_tbl, w.before args s = true) (hgv : (Jvm.Cond.and given_1 narrow_1).before args s = true) : Tw_ s.heap.size s := by
  have hs := flat_of_before _ hgv
  have m : ∀ {w : Cond}, w ∈ tables_1 → w.before args s = true := fun h => hts _ (List.mem_append_right _ h)
  obtain ⟨z1, h1⟩ := Sf_of (name := "UNASSIGNED_STACK") (desc := Bundle.steD) (m (by decide +kernel)) (hs _ (by decide +kernel))
  obtain ⟨z2, h2⟩ := Sf_of (name := "SUPPRESSED_SENTINEL") (desc := Bundle.listD) (m (by decide +kernel)) (hs _ (by decide +kernel))
  refine ⟨⟨z1, Sf_lt h1, h1⟩, ⟨z2, Sf_lt h2, h2⟩, fun w hw => ?_, fun q hq => ?_⟩
  · simp only [tw_, List.mem_cons, List.not_mem_nil, or_false] at hw
    rcases hw with rfl | rfl | rfl | rfl | rfl | rfl | rfl
    · exact va_Nw.of rfl (m (by decide +kernel))
    · exact va_Nw.of rfl (m (by decide +kernel))
    · exact va_Nw.of rfl (m (by decide +kernel))
    · exact va_Nw.of rfl (m (by decide +kernel))
    · exact va_Nw.of rfl (m (by decide +kernel))
    · exact va_Nw.of rfl (m (by decide +kernel))
    · exact va_Nw.of rfl (m (by decide +kernel))
  · have hall : ∀ q ∈ ts_, Cond.stringRef rn_H q.1 q.2 ∈ tables_1 := by decide +kernel
    exact sr_same rfl (m (hall q hq))
theorem st_nc {s : State} {args : Array Value} (hgv : (Jvm.Cond.and given_1 narrow_1).before args s = true) : Nc_ s := by
  have hs := flat_of_before _ hgv
  intro q hq
  simp only [nc_, List.mem_cons, List.not_mem_nil, or_false] at hq
  rcases hq with rfl | rfl | rfl | rfl
  · exact nc_of (hs _ (by decide +kernel))
  · exact nc_of (hs _ (by decide +kernel))
  · exact nc_of (hs _ (by decide +kernel))
  · exact nc_of (hs _ (by decide +kernel))
theorem st_ao {s : State} {args : Array Value} (hts : ∀ w ∈ lw_tbl, w.before args s = true) : Ao_ s := by
  have t : ∀ {w : Cond} (i : Nat), tables_1[i]? = some w → w.before args s = true := fun i h => hts _ (List.mem_append_right _ (List.mem_of_getElem? h))
  exact ⟨va_AO.of (t 105 (by decide +kernel)), va_AO.of (t 143 (by decide +kernel))⟩
theorem vczl (cA : ClassId) (n : Nat) : vp_cell cA (n, .inr (.inl (fun _ => 0))) = arrV cA n (fun _ => defaultValue .long) := by rw [vp_cell_l]; rfl
end WS_B

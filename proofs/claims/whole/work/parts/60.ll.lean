section LL_A
variable {K n c p : Nat} {σ ρ : ST_}
theorem f_0 {x : Int32} : u2_ ρ 0 0 x 0 0 = x := by rw [u2_at, if_pos ⟨rfl, rfl⟩]
theorem f_u1 {c i : Nat} {f : Nat → Int32} (h : c ≠ 0) : u1_ ρ c f 0 i = ρ 0 i := by rw [u1_ne _ _ (fun g => h g.symm)]
theorem f_u2 {c i : Nat} {v : Int32} (h : ¬ (c = 0 ∧ i = 0)) : u2_ ρ c i v 0 0 = ρ 0 0 := by rw [u2_at, if_neg (fun g => h ⟨g.1.symm, g.2.symm⟩)]
theorem f_rep {j : Nat} : hm_rep K j ρ 0 0 = ρ 0 0 := by
  unfold hm_rep
  rw [f_u2 (by omega), f_u1 (by omega)]
theorem f_act {op a b : Int32} : hm_act K op a b ρ 0 0 = ρ 0 0 := by
  unfold hm_act
  rw [f_u2 (by omega), f_u1 (by omega)]
theorem f_ann : (hm_ann ρ p).1 0 0 = ρ 0 0 := by
  unfold hm_ann
  split
  · rfl
  · show hm_annS ρ (hm_free ρ) p 0 0 = ρ 0 0
    unfold hm_annS
    rw [f_u2 (by omega), f_u2 (by omega), f_u2 (by omega), f_u2 (by omega), f_u2 (by omega), f_u2 (by omega), f_u2 (by omega), f_u2 (by omega), f_u2 (by omega), f_u2 (by omega), f_u2 (by omega), f_u2 (by omega)]
theorem f_one : (hm_one K n ρ p).1 0 0 = ρ 0 0 := by
  unfold hm_one
  split
  · rfl
  split
  · exact f_ann
  split
  · show hm_look n ρ p 0 0 = ρ 0 0
    unfold hm_look
    rw [f_u2 (by omega), f_u2 (by omega), f_u2 (by omega)]
  split
  · show hm_ask ρ p 0 0 = ρ 0 0
    unfold hm_ask
    rw [f_u2 (by omega)]
  split
  · show hm_choose n ρ p 0 0 = ρ 0 0
    unfold hm_choose
    rw [f_u2 (by omega), f_u2 (by omega)]
  split
  · show hm_prop ρ p 0 0 = ρ 0 0
    unfold hm_prop hm_prop1
    rw [f_u2 (by omega), f_u2 (by omega), f_u2 (by omega)]
  split
  · show hm_give ρ p 0 0 = ρ 0 0
    unfold hm_give
    rw [f_u2 (by omega), f_u2 (by omega), f_u2 (by omega), f_u2 (by omega), f_u2 (by omega), f_u2 (by omega)]
  split
  · show hm_move ρ p 0 0 = ρ 0 0
    unfold hm_move
    rw [f_u2 (by omega), f_u2 (by omega), f_u2 (by omega)]
  · show hm_fin K ρ p 0 0 = ρ 0 0
    unfold hm_fin hm_fin1
    rw [f_u2 (by omega), f_u2 (by omega), f_u2 (by omega), f_rep, f_u2 (by omega), f_u2 (by omega), f_u2 (by omega)]
theorem f_run : ∀ (k : Nat) (x r : Int32) (ρ : ST_), (hm_run K n k x r ρ).1 0 0 = ρ 0 0 := by
  intro k
  induction k with
  | zero => intro x r ρ; rfl
  | succ k ih => intro x r ρ; unfold hm_run; rw [ih, f_one]
theorem f_call {op a b : Int32} : hm_call ρ p op a b 0 0 = ρ 0 0 := by
  unfold hm_call
  rw [f_u2 (by omega), f_u2 (by omega), f_u2 (by omega), f_u2 (by omega)]
theorem f_peek {op a b : Int32} : hm_peek K op a b ρ 0 0 = ρ 0 0 := by
  unfold hm_peek
  rw [f_act, f_rep]
theorem f_plain {op a b : Int32} : hm_plain K op a b ρ 0 0 = ρ 0 0 := by
  unfold hm_plain
  rw [f_u1 (by omega), f_u2 (by omega), f_act, f_u1 (by omega), f_u2 (by omega)]
theorem updL0 (f : Nat → Int64) (x : Int64) : vp_updL f 0 x 0 = x := rfl
end LL_A
section LL_B
variable {p : Program} {l : Launch} {e : Env} {s : State} {m : MethodId} {args : Array Value} {below : List Frame} {meth : Method} {c : Code} {D : va_G} {cells slots : Nat} {Q : State → Prop} {T : Nat → ClassId} {am ad : Nat → Nat} {K n : Nat} {σ ρ : ST_} {o b Ls I : Nat} {f : Nat → Int64} {xs : Nat → Int32} {nw : List Cond}
set_option maxHeartbeats 4000000 in
set_option maxRecDepth 20000 in
theorem ll_body (X : Cx_ p l e room_1 s m args below meth c cd_L_law 7 rn_L D cl_ (tys_ T) TG_) (hN : NW_ nw s) (hTw : Tw_ s.heap.size s) (hNc : Nc_ s) (hX : va_X b Ls xs s s.heap) (hbl : b < s.heap.size) (hLs : Ls < 1000000) (hI : I + 4 < Ls) (hK : K < 4) (hn : n ≤ 5) (h0 : 0 < n) (htr : l.stackTraces = false) (hnw : ∀ w ∈ nwc_, w ∈ nw) {ca : Nat} (hca : ca ≤ 580) (h : Jr_ K n ca σ ρ) (hcs : cells + 1 ≤ room_1.cells ∧ slots + 6 ≤ room_1.slots)
    (kk : ∀ (σ' ρ' : ST_) (f' : Nat → Int64) (cb : Nat), cb ≤ ca + 1 → Jr_ K n cb σ' ρ' → Go_ p l e room_1 s m args below meth c D cl_ (fun q => s.heap.size ≤ q) 7 (cells + 1) (slots + 6) Q (lW_ T am ad K n σ' ρ' o f') 888 (lL_ b ad am o I) []) :
    Go_ p l e room_1 s m args below meth c D cl_ (fun q => s.heap.size ≤ q) 7 cells slots Q (lW_ T am ad K n σ ρ o f) 52 (lL_ b ad am o I) [] := by
  have e1 : σ 1 = ρ 1 := h.2.1 1 (dm_of (by omega))
  have e2 : σ 2 = ρ 2 := h.2.1 2 (dm_of (by omega))
  have e8 : σ 8 = ρ 8 := h.2.1 8 (dm_of (by omega))
  have e10 : σ 10 = ρ 10 := h.2.1 10 (dm_of (by omega))
  have e18 : σ 18 = ρ 18 := h.2.1 18 (dm_of (by omega))
  have e19 : σ 19 = ρ 19 := h.2.1 19 (dm_of (by omega))
  have e20 : σ 20 = ρ 20 := h.2.1 20 (dm_of (by omega))
  have hz : ¬ nI n = 0 := by rw [iz_eq, iz_nI (by omega), iz_0]; omega
  have hf0 := jr_f h 0
  refine go_aload_n (i := 0) X rfl rfl dw_52 ?_
  refine go_iload (i := 4) X rfl dw_53 ?_
  refine go_sld X hX hbl (Nat.not_le.mpr hbl) (Ix_n (j := I) (by omega) (by omega)) dw_55 ?_
  refine go_bipush (v := 15) X (by decide) dw_56 ?_
  refine go_iand X dw_58 ?_
  rcases and15 (xs I) with g | g | g | g | g | g | g | g | g | g | g | g | g | g | g | g
  · refine go_tableIn (off := 73) (tgt := 132) X dw_59 (by rw [g]; decide) (by rw [g]; decide) (by rw [g]; decide) (by decide) ?_
    by_cases hv : 0 ≤ xs (I + 1) ∧ xs (I + 1) < nI n
    · obtain ⟨p, hp, ep⟩ := pr_of hn hv
      by_cases ho : 0 ≤ xs (I + 2) ∧ xs (I + 2) ≤ 2
      · by_cases hs : ρ 10 p = -1
        · skip
          have hH := tl_call l D T ad (in_w (hW_ T ad K n σ o f)) nw K n s.heap.size o (f := f) (σ := σ) hp hn (a := xs (I + 3)) (b := xs (I + 4)) ho (by rw [e10]; exact hs)
          have hM := tm_call l D T am (in_w (mW_ T am K n ρ)) nw K n (ρ := ρ) (pr_v hn hp) hn (Ix_n (by omega) (by omega)) (a := xs (I + 3)) (b := xs (I + 4)) ho hs
          rw [← ep] at hH hM
          exact lc_call X hN hTw hNc hX hbl hLs hI 1 (by omega) hH hM (f_call.trans f_0) hcs (kk _ _ _ (ca + 1) (by omega) (jr_call hf0 hp hs (op_of ho)))
        · skip
          have hH := tl_callS l D T ad (in_w (hW_ T ad K n σ o f)) nw K n s.heap.size o (f := f) htr (σ := σ) hp hn (a := xs (I + 3)) (b := xs (I + 4)) ho (by rw [e10]; exact hs)
          have hM := tm_callS l D T am (in_w (mW_ T am K n ρ)) nw K n (ρ := ρ) (pr_v hn hp) hn (Ix_n (by omega) (by omega)) (a := xs (I + 3)) (b := xs (I + 4)) ho hs
          rw [← ep] at hH hM
          exact lc_call X hN hTw hNc hX hbl hLs hI 1 (by omega) hH hM f_0 hcs (kk _ _ _ ca (by omega) (jr_f h 3))
      · skip
        have hH := tl_callO l D T ad (in_w (hW_ T ad K n σ o f)) nw K n s.heap.size o (f := f) htr (σ := σ) hp hn (a := xs (I + 3)) (b := xs (I + 4)) ho
        have hM := tm_callO l D T am (in_w (mW_ T am K n ρ)) nw K n (ρ := ρ) (pr_v hn hp) hn (Ix_n (by omega) (by omega)) (a := xs (I + 3)) (b := xs (I + 4)) ho
        rw [← ep] at hH hM
        exact lc_call X hN hTw hNc hX hbl hLs hI 1 (by omega) hH hM f_0 hcs (kk _ _ _ ca (by omega) (jr_f h 2))
    · skip
      have hH := tl_callX l D T ad (in_w (hW_ T ad K n σ o f)) nw K n s.heap.size o (f := f) htr (σ := σ) hv (op := xs (I + 2)) (a := xs (I + 3)) (b := xs (I + 4))
      have hM := tm_callX l D T am (in_w (mW_ T am K n ρ)) nw K n (ρ := ρ) hv (op := xs (I + 2)) (a := xs (I + 3)) (b := xs (I + 4))
      exact lc_call X hN hTw hNc hX hbl hLs hI 1 (by omega) hH hM f_0 hcs (kk _ _ _ ca (by omega) (jr_f h 1))
  · refine go_tableIn (off := 145) (tgt := 204) X dw_59 (by rw [g]; decide) (by rw [g]; decide) (by rw [g]; decide) (by decide) ?_
    by_cases hv : 0 ≤ xs (I + 1) ∧ xs (I + 1) < nI n
    · obtain ⟨p, hp, ep⟩ := pr_of hn hv
      have hj := jr_one hf0 hn (by omega) hp
      have hH := tl_step l D T ad (in_w (hW_ T ad K n σ o f)) nw K n s.heap.size o (f := f) (σ := σ) hp hn hK h0 hnw (jr_Oc h (by omega) hp)
      have hM := tm_step l D T am (in_w (mW_ T am K n ρ)) nw K n (ρ := ρ) (pr_v hn hp) hn (Ix_n (by omega) (by omega)) hK hz (jr_Om hf0 hn (by omega) hp)
      rw [← ep] at hH hM
      exact lc_step X hN hTw hNc hX hbl hLs hI 5 (by omega) hH hM (f_one.trans f_0) (fun _ => by rw [updL0, hj.1]) hcs (kk _ _ _ ca (by omega) hj.2)
    · skip
      have hH := tl_stepX l D T ad (in_w (hW_ T ad K n σ o f)) nw K n s.heap.size o (f := f) htr (σ := σ) hv
      have hM := tm_stepX l D T am (in_w (mW_ T am K n ρ)) nw K n (ρ := ρ) hv
      exact lc_step X hN hTw hNc hX hbl hLs hI 5 (by omega) hH hM f_0 (fun h9 => absurd h9 (by decide)) hcs (kk _ _ _ ca (by omega) (jr_f h 1))
  · refine go_tableIn (off := 201) (tgt := 260) X dw_59 (by rw [g]; decide) (by rw [g]; decide) (by rw [g]; decide) (by decide) ?_
    by_cases hs : 1 ≤ xs (I + 2) ∧ xs (I + 2) ≤ 1000
    · obtain ⟨S, hS, ep⟩ := st_of hs
      have hj := jr_run (K := K) hn h0 (show ca < 100000 by omega) S (xs (I + 1)) 0 hf0
      have hH := tl_run l D T ad (in_w (hW_ T ad K n σ o f)) nw K n s.heap.size o (f := f) (σ := σ) (x := xs (I + 1)) (I := fun σ => ∃ ρ, Jr_ K n ca σ ρ) hK hn h0 hnw hS (jr_Rc hn (by omega)) ⟨ρ, h⟩
      have hM := tm_run l D T am (in_w (mW_ T am K n ρ)) nw K n (ρ := ρ) (x := xs (I + 1)) (I := fun ρ => ∃ σ, Jr_ K n ca σ ρ) hK hn h0 hz hS (jr_Rn hn (by omega)) ⟨σ, hf0⟩
      rw [← ep] at hH hM
      exact lc_run X hN hTw hNc hX hbl hLs hI 5 (by omega) hH hM ((f_run _ _ _ _).trans f_0) (fun _ => by rw [updL0, hj.1]) hcs (kk _ _ _ ca (by omega) hj.2)
    · skip
      have hH := tl_runX l D T ad (in_w (hW_ T ad K n σ o f)) nw K n s.heap.size o (f := f) htr (σ := σ) (x := xs (I + 1)) hs
      have hM := tm_runX l D T am (in_w (mW_ T am K n ρ)) nw K n (ρ := ρ) (x := xs (I + 1)) hs
      exact lc_run X hN hTw hNc hX hbl hLs hI 1 (by omega) hH hM f_0 (fun h9 => absurd h9 (by decide)) hcs (kk _ _ _ ca (by omega) (jr_f h 1))
  · refine go_tableIn (off := 269) (tgt := 328) X dw_59 (by rw [g]; decide) (by rw [g]; decide) (by rw [g]; decide) (by decide) ?_
    by_cases hv : 0 ≤ xs (I + 1) ∧ xs (I + 1) < nI n
    · obtain ⟨p, hp, ep⟩ := pr_of hn hv
      have hH := tl_done l D T ad (in_w (hW_ T ad K n σ o f)) nw K n s.heap.size o (f := f) (σ := σ) hp hn
      have hM := tm_done l D T am (in_w (mW_ T am K n ρ)) nw K n (ρ := ρ) (pr_v hn hp) hn (Ix_n (by omega) (by omega))
      rw [← ep] at hH hM
      exact lc_done X hN hTw hNc hX hbl hLs hI 1 (by omega) hH hM f_0 (fun _ => by rw [updL0, e18]) hcs (kk _ _ _ ca (by omega) hf0)
    · skip
      have hH := tl_doneX l D T ad (in_w (hW_ T ad K n σ o f)) nw K n s.heap.size o (f := f) htr (σ := σ) hv
      have hM := tm_doneX l D T am (in_w (mW_ T am K n ρ)) nw K n (ρ := ρ) hv
      exact lc_done X hN hTw hNc hX hbl hLs hI 1 (by omega) hH hM f_0 (fun h9 => absurd h9 (by decide)) hcs (kk _ _ _ ca (by omega) (jr_f h 1))
  · refine go_tableIn (off := 325) (tgt := 384) X dw_59 (by rw [g]; decide) (by rw [g]; decide) (by rw [g]; decide) (by decide) ?_
    by_cases hv : 0 ≤ xs (I + 1) ∧ xs (I + 1) < nI n
    · obtain ⟨p, hp, ep⟩ := pr_of hn hv
      by_cases hd : ρ 18 p = 0
      · skip
        have hH := tl_answerU l D T ad (in_w (hW_ T ad K n σ o f)) nw K n s.heap.size o (f := f) htr (σ := σ) hp hn (by rw [e18]; exact hd)
        have hM := tm_answer0 l D T am (in_w (mW_ T am K n ρ)) nw K n (ρ := ρ) (pr_v hn hp) hn (Ix_n (by omega) (by omega)) hd
        rw [← ep] at hH hM
        exact lc_answer X hN hTw hNc hX hbl hLs hI 1 (by omega) hH hM f_0 (fun h9 => absurd h9 (by decide)) hcs (kk _ _ _ ca (by omega) (jr_f h 2))
      · skip
        have hH := tl_answer l D T ad (in_w (hW_ T ad K n σ o f)) nw K n s.heap.size o (f := f) (σ := σ) hp hn (by rw [e18]; exact hd)
        have hM := tm_answer l D T am (in_w (mW_ T am K n ρ)) nw K n (ρ := ρ) (pr_v hn hp) hn (Ix_n (by omega) (by omega)) hd
        rw [← ep] at hH hM
        exact lc_answer X hN hTw hNc hX hbl hLs hI 1 (by omega) hH hM f_0 (fun _ => by rw [updL0, e19]) hcs (kk _ _ _ ca (by omega) hf0)
    · skip
      have hH := tl_answerX l D T ad (in_w (hW_ T ad K n σ o f)) nw K n s.heap.size o (f := f) htr (σ := σ) hv
      have hM := tm_answerX l D T am (in_w (mW_ T am K n ρ)) nw K n (ρ := ρ) hv
      exact lc_answer X hN hTw hNc hX hbl hLs hI 1 (by omega) hH hM f_0 (fun h9 => absurd h9 (by decide)) hcs (kk _ _ _ ca (by omega) (jr_f h 1))
  · refine go_tableIn (off := 381) (tgt := 440) X dw_59 (by rw [g]; decide) (by rw [g]; decide) (by rw [g]; decide) (by decide) ?_
    by_cases hv : 0 ≤ xs (I + 1) ∧ xs (I + 1) < nI n
    · obtain ⟨p, hp, ep⟩ := pr_of hn hv
      have hH := tl_placeOf l D T ad (in_w (hW_ T ad K n σ o f)) nw K n s.heap.size o (f := f) (σ := σ) hp hn
      have hM := tm_placeOf l D T am (in_w (mW_ T am K n ρ)) nw K n (ρ := ρ) (pr_v hn hp) hn (Ix_n (by omega) (by omega))
      rw [← ep] at hH hM
      exact lc_placeOf X hN hTw hNc hX hbl hLs hI 1 (by omega) hH hM f_0 (fun _ => by rw [updL0, e20]) hcs (kk _ _ _ ca (by omega) hf0)
    · skip
      have hH := tl_placeOfX l D T ad (in_w (hW_ T ad K n σ o f)) nw K n s.heap.size o (f := f) htr (σ := σ) hv
      have hM := tm_placeOfX l D T am (in_w (mW_ T am K n ρ)) nw K n (ρ := ρ) hv
      exact lc_placeOf X hN hTw hNc hX hbl hLs hI 1 (by omega) hH hM f_0 (fun h9 => absurd h9 (by decide)) hcs (kk _ _ _ ca (by omega) (jr_f h 1))
  · refine go_tableIn (off := 437) (tgt := 496) X dw_59 (by rw [g]; decide) (by rw [g]; decide) (by rw [g]; decide) (by decide) ?_
    have hH := tc_end l D T ad (in_w (cW_ T ad K n σ)) nw K n (σ := σ)
    have hM := tm_end l D T am (in_w (mW_ T am K n ρ)) nw K n (ρ := ρ)
    exact lc_end X hN hTw hNc hX hbl hLs hI hH hM (jr_end h) hcs (kk _ _ _ ca (by omega) hf0)
  · refine go_tableIn (off := 450) (tgt := 509) X dw_59 (by rw [g]; decide) (by rw [g]; decide) (by rw [g]; decide) (by decide) ?_
    have hH := tc_oldest l D T ad (in_w (cW_ T ad K n σ)) nw K n (σ := σ)
    have hM := tm_oldest l D T am (in_w (mW_ T am K n ρ)) nw K n (ρ := ρ)
    exact lc_oldest X hN hTw hNc hX hbl hLs hI hH hM (jr_old hf0) hcs (kk _ _ _ ca (by omega) hf0)
  · refine go_tableIn (off := 463) (tgt := 522) X dw_59 (by rw [g]; decide) (by rw [g]; decide) (by rw [g]; decide) (by decide) ?_
    rcases jr_find h (xs (I + 1)) with ⟨q1, q2⟩ | ⟨k, hk, q1, q2, q3, q4, q5⟩
    · skip
      have hH := tl_nodeN l D T ad (in_w (hW_ T ad K n σ o f)) nw K n s.heap.size o (f := f) htr (σ := σ) (y := xs (I + 2)) q1
      have hM := tm_nodeN l D T am (in_w (mW_ T am K n ρ)) nw K n (ρ := ρ) (y := xs (I + 2)) q2
      exact lc_node X hN hTw hNc hX hbl hLs hI 1 (by omega) hH hM f_0 (fun h9 => absurd h9 (by decide)) hcs (kk _ _ _ ca (by omega) (jr_f h 1))
    · by_cases hy : 0 ≤ xs (I + 2) ∧ xs (I + 2) ≤ 3
      · skip
        have hH := tl_node l D T ad (in_w (hW_ T ad K n σ o f)) nw K n s.heap.size o (f := f) (σ := σ) q1 hk hy
        have hM := tm_node l D T am (in_w (mW_ T am K n ρ)) nw K n (ρ := ρ) q2 hk hy
        exact lc_node X hN hTw hNc hX hbl hLs hI 1 (by omega) hH hM f_0 (fun _ => by rw [updL0, jr_part h hk q3 q4]) hcs (kk _ _ _ ca (by omega) hf0)
      · skip
        have hH := tl_nodeW l D T ad (in_w (hW_ T ad K n σ o f)) nw K n s.heap.size o (f := f) htr (σ := σ) q1 hy
        have hM := tm_nodeW l D T am (in_w (mW_ T am K n ρ)) nw K n (ρ := ρ) q2 hk hy
        exact lc_node X hN hTw hNc hX hbl hLs hI 1 (by omega) hH hM f_0 (fun h9 => absurd h9 (by decide)) hcs (kk _ _ _ ca (by omega) (jr_f h 2))
  · refine go_tableIn (off := 531) (tgt := 590) X dw_59 (by rw [g]; decide) (by rw [g]; decide) (by rw [g]; decide) (by decide) ?_
    by_cases hv : 0 ≤ xs (I + 1) ∧ xs (I + 1) < nI n
    · obtain ⟨p, hp, ep⟩ := pr_of hn hv
      have hH := tl_stage l D T ad (in_w (hW_ T ad K n σ o f)) nw K n s.heap.size o (f := f) (σ := σ) hp hn
      have hM := tm_stage l D T am (in_w (mW_ T am K n ρ)) nw K n (ρ := ρ) (pr_v hn hp) hn (Ix_n (by omega) (by omega))
      rw [← ep] at hH hM
      exact lc_stage X hN hTw hNc hX hbl hLs hI 1 (by omega) hH hM f_0 (fun _ => by rw [updL0, e10]) hcs (kk _ _ _ ca (by omega) hf0)
    · skip
      have hH := tl_stageX l D T ad (in_w (hW_ T ad K n σ o f)) nw K n s.heap.size o (f := f) htr (σ := σ) hv
      have hM := tm_stageX l D T am (in_w (mW_ T am K n ρ)) nw K n (ρ := ρ) hv
      exact lc_stage X hN hTw hNc hX hbl hLs hI 1 (by omega) hH hM f_0 (fun h9 => absurd h9 (by decide)) hcs (kk _ _ _ ca (by omega) (jr_f h 1))
  · refine go_tableIn (off := 587) (tgt := 646) X dw_59 (by rw [g]; decide) (by rw [g]; decide) (by rw [g]; decide) (by decide) ?_
    by_cases hv : 0 ≤ xs (I + 1) ∧ xs (I + 1) < nI n
    · obtain ⟨p, hp, ep⟩ := pr_of hn hv
      have hH := tl_head l D T ad (in_w (hW_ T ad K n σ o f)) nw K n s.heap.size o (f := f) (σ := σ) hp hn (by rw [e8]; exact rg_8 h hp)
      have hM := tm_head l D T am (in_w (mW_ T am K n ρ)) nw K n (ρ := ρ) (pr_v hn hp) hn (Ix_n (by omega) (by omega)) (rg_8 h hp)
      rw [← ep] at hH hM
      exact lc_head X hN hTw hNc hX hbl hLs hI 1 (by omega) hH hM f_0 (fun _ => by rw [updL0, e2, e8]) hcs (kk _ _ _ ca (by omega) hf0)
    · skip
      have hH := tl_headX l D T ad (in_w (hW_ T ad K n σ o f)) nw K n s.heap.size o (f := f) htr (σ := σ) hv
      have hM := tm_headX l D T am (in_w (mW_ T am K n ρ)) nw K n (ρ := ρ) hv
      exact lc_head X hN hTw hNc hX hbl hLs hI 1 (by omega) hH hM f_0 (fun h9 => absurd h9 (by decide)) hcs (kk _ _ _ ca (by omega) (jr_f h 1))
  · refine go_tableIn (off := 643) (tgt := 702) X dw_59 (by rw [g]; decide) (by rw [g]; decide) (by rw [g]; decide) (by decide) ?_
    have hH := tc_used l D T ad (in_w (cW_ T ad K n σ)) nw K n (σ := σ)
    have hM := tm_used l D T am (in_w (mW_ T am K n ρ)) nw K n (ρ := ρ)
    exact lc_used X hN hTw hNc hX hbl hLs hI hH hM (by rw [e1]; rfl) hcs (kk _ _ _ ca (by omega) hf0)
  · refine go_tableIn (off := 656) (tgt := 715) X dw_59 (by rw [g]; decide) (by rw [g]; decide) (by rw [g]; decide) (by decide) ?_
    have hj := jr_cut hf0 hn h0
    have hH := tc_cut l D T ad (in_w (cW_ T ad K n σ)) nw K n (σ := σ) hn h0 (fun q hq => by rw [e8]; exact rg_8 h hq)
    have hM := tm_cut l D T am (in_w (mW_ T am K n ρ)) nw K n (ρ := ρ) hn h0 (fun q hq => rg_8 h hq)
    exact lc_cut X hN hTw hNc hX hbl hLs hI hH hM hj.1 hcs (kk _ _ _ ca (by omega) hj.2)
  · refine go_tableIn (off := 669) (tgt := 728) X dw_59 (by rw [g]; decide) (by rw [g]; decide) (by rw [g]; decide) (by decide) ?_
    by_cases ho : 0 ≤ xs (I + 1) ∧ xs (I + 1) ≤ 2
    · obtain ⟨J, hJ, hJ6⟩ := rg_J h (by omega)
      have hj := jr_peek hf0 (xs (I + 1)) (xs (I + 2)) (xs (I + 3))
      have hH := tl_peek l D T ad (in_w (hW_ T ad K n σ o f)) nw K n s.heap.size o (f := f) (σ := σ) (a := xs (I + 2)) (b := xs (I + 3)) hK hnw ho (rg_33 h)
      have hM := tm_peek l D T am (in_w (mW_ T am K n ρ)) nw K n (ρ := ρ) (a := xs (I + 2)) (b := xs (I + 3)) hK ho hJ hJ6
      exact lc_peek X hN hTw hNc hX hbl hLs hI 3 (by omega) hH hM (f_peek.trans f_0) (fun _ => by rw [updL0, hj.1]) hcs (kk _ _ _ ca (by omega) hj.2)
    · skip
      have hH := tl_peekX l D T ad (in_w (hW_ T ad K n σ o f)) nw K n s.heap.size o (f := f) htr (σ := σ) (a := xs (I + 2)) (b := xs (I + 3)) ho
      have hM := tm_peekX l D T am (in_w (mW_ T am K n ρ)) nw K n (ρ := ρ) (a := xs (I + 2)) (b := xs (I + 3)) ho
      exact lc_peek X hN hTw hNc hX hbl hLs hI 1 (by omega) hH hM f_0 (fun h9 => absurd h9 (by decide)) hcs (kk _ _ _ ca (by omega) (jr_f h 1))
  · refine go_tableIn (off := 749) (tgt := 808) X dw_59 (by rw [g]; decide) (by rw [g]; decide) (by rw [g]; decide) (by decide) ?_
    by_cases ho : 0 ≤ xs (I + 1) ∧ xs (I + 1) ≤ 2
    · have hj := jr_plain hf0 (xs (I + 1)) (xs (I + 2)) (xs (I + 3))
      have h03 := h.2.2.2.2.2.2.2.1
      have hH := tl_plain l D T ad (in_w (hW_ T ad K n σ o f)) nw K n s.heap.size o (f := f) (σ := σ) (a := xs (I + 2)) (b := xs (I + 3)) hK hnw ho (by rw [h03.2.1]; exact h03.2.2)
      have hM := tm_plain l D T am (in_w (mW_ T am K n ρ)) nw K n (ρ := ρ) (a := xs (I + 2)) (b := xs (I + 3)) hK ho h03.2.2
      exact lc_plain X hN hTw hNc hX hbl hLs hI 2 (by omega) hH hM (f_plain.trans f_0) (fun _ => by rw [updL0, hj.1]) hcs (kk _ _ _ ca (by omega) hj.2)
    · skip
      have hH := tl_plainX l D T ad (in_w (hW_ T ad K n σ o f)) nw K n s.heap.size o (f := f) htr (σ := σ) (a := xs (I + 2)) (b := xs (I + 3)) ho
      have hM := tm_plainX l D T am (in_w (mW_ T am K n ρ)) nw K n (ρ := ρ) (a := xs (I + 2)) (b := xs (I + 3)) ho
      exact lc_plain X hN hTw hNc hX hbl hLs hI 1 (by omega) hH hM f_0 (fun h9 => absurd h9 (by decide)) hcs (kk _ _ _ ca (by omega) (jr_f h 1))
  · refine go_tableOut (tgt := 888) X dw_59 (by rw [g]; decide) (by decide) ?_
    exact go_widen (Nat.le_succ cells) (Nat.le_add_right slots 6) (kk σ ρ f ca (by omega) h)
/-- the loop -/
theorem ll_loop (X : Cx_ p l e room_1 s m args below meth c cd_L_law 7 rn_L D cl_ (tys_ T) TG_) (hN : NW_ nw s) (hTw : Tw_ s.heap.size s) (hNc : Nc_ s) (hX : va_X b Ls xs s s.heap) (hbl : b < s.heap.size) (hLs : Ls ≤ 2562) (hK : K < 4) (hn : n ≤ 5) (h0 : 0 < n) (htr : l.stackTraces = false) (hnw : ∀ w ∈ nwc_, w ∈ nw)
    (hend : ∀ (j : Nat) (σ ρ : ST_) (f : Nat → Int64), j ≤ 512 → Go_ p l e room_1 s m args below meth c D cl_ (fun q => s.heap.size ≤ q) 7 (73 + j) (2535 + 6 * j) Q (lW_ T am ad K n σ ρ o f) 894 (lL_ b ad am o (2 + 5 * j)) []) :
    ∀ j, j ≤ 512 → ∀ (σ ρ : ST_) (f : Nat → Int64) (ca : Nat), ca ≤ j → Jr_ K n ca σ ρ → Go_ p l e room_1 s m args below meth c D cl_ (fun q => s.heap.size ≤ q) 7 (73 + j) (2535 + 6 * j) Q (lW_ T am ad K n σ ρ o f) 43 (lL_ b ad am o (2 + 5 * j)) [] := by
  refine lp_up 512 (fun j hj ih σ ρ f ca hca h => ?_)
  refine go_iload (i := 4) X rfl dw_43 ?_
  refine go_aload_n (i := 0) X rfl rfl dw_45 ?_
  refine go_slen X hX hbl (Nat.not_le.mpr hbl) dw_46 ?_
  refine go_iconst (v := 5) X (by decide) dw_47 ?_
  refine go_isub X dw_48 ?_
  refine go_icmp_gt (tgt := 894) X dw_49 (by decide) (fun g => hend j σ ρ f hj) (fun g => ?_)
  rw [iz_lt, iz_m5 (by omega), iz_nI (by omega)] at g
  refine ll_body X hN hTw hNc hX hbl (by omega) (by omega) hK hn h0 htr hnw (by omega) h ⟨by show 73 + j + 1 ≤ 601024; omega, by show 2535 + 6 * j + 6 ≤ 7293000; omega⟩ (fun σ' ρ' f' cb hcb h' => ?_)
  refine go_iinc (i := 4) (v := nI (2 + 5 * j + 5)) X rfl (by rw [show Int32.ofInt 5 = nI 5 by decide, nI_add]) (by decide) dw_888 ?_
  · refine go_goto (tgt := 43) X dw_891 (by decide) ?_
    refine go_loc (L' := lL_ b ad am o (2 + 5 * (j + 1))) (by rw [show 2 + 5 * (j + 1) = 2 + 5 * j + 5 by omega]; rfl) ?_
    refine go_widen (cells' := 73 + (j + 1)) (slots' := 2535 + 6 * (j + 1)) (by omega) (by omega) ?_
    exact ih (by omega) σ' ρ' f' cb (by omega) h'
end LL_B

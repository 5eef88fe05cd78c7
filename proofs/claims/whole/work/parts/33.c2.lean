section C2
theorem bring_ix {n : Nat} {σ : ST_} (hh : ∀ q, q < n → Ix_ (σ 8 q) 32 (ix_ (σ 8 q))) (h0 : 0 < n) : ∀ q, q < n → Ix_ (hc_bring (hc_farF σ n) n σ 8 q) 32 (ix_ (hc_bring (hc_farF σ n) n σ 8 q)) := by
  intro q hq
  rw [hc_br, u1_same]
  unfold br_
  split
  · exact far_ix hh h0 n (Nat.le_refl _)
  · exact hh q hq
set_option maxHeartbeats 4000000 in
set_option maxRecDepth 20000 in
theorem tc_greatestHead (l : Launch) (D : va_G) (T : Nat → ClassId) (ad : Nat → Nat) (A : Nat → Prop) (nw : List Cond) (K n : Nat) {σ : ST_} (hn : n ≤ 5) (h0 : 0 < n) (hh : ∀ q, q < n → Ix_ (σ 8 q) 32 (ix_ (σ 8 q)))  : cc_ l D T ad K n A nw yn_H_greatestHead (.code yn_H_greatestHead cd_H_greatestHead 6 (some (.object "HelpedLog$Node"))) 0 [.ref (ad 0)] σ σ (some (.ref (ad (ix_ (hc_farF σ n) + 8)))) := by
  refine go_in (by decide) (Nat.le_of_ble_eq_true rfl) (List.forall_mem_cons.mpr ⟨rfl, fun _ h => nomatch h⟩) ?_
  intro P e s m args below meth c X hr hnm hN
  replace X : Cx_ P l e (rm_d 0) s m args below meth c cd_H_greatestHead 6 rn_H D cl_ (tys_ T) TG_ := X
  refine go_loc (L' := [(0, .ref (ad 0))]) rfl ?_
  have hx0 : Ix_ 0 n 0 := Ix_n (j := 0) h0 (by omega)
  have hb0 := hh 0 h0
  refine go_aload_n (i := 0) X rfl rfl dc_H_greatestHead_0 ?_
  refine gh_get X 0 (by decide) fl_H_49 rfl dc_H_greatestHead_1 ?_
  refine go_iconst (v := 0) X (by decide) dc_H_greatestHead_4 ?_
  refine gx_cl (k := 0) X (by assumption) dc_H_greatestHead_5 ?_
  refine gc_getR (x := σ 8 (0)) (j := ix_ (σ 8 (0))) X (by first | assumption | exact Ix_lt (by assumption)) 6 (by decide) fl_H_126 rfl (by assumption) dc_H_greatestHead_6 ?_
  refine go_astore_n (i := 1) X rfl (by decide) dc_H_greatestHead_9 ?_
  refine go_aload_n (i := 0) X rfl rfl dc_H_greatestHead_10 ?_
  refine gh_get X 0 (by decide) fl_H_49 rfl dc_H_greatestHead_11 ?_
  refine go_astore_n (i := 2) X rfl (by decide) dc_H_greatestHead_14 ?_
  refine go_aload_n (i := 2) X rfl rfl dc_H_greatestHead_15 ?_
  refine gx_lc X dc_H_greatestHead_16 ?_
  refine go_istore_n (i := 3) X rfl (by decide) dc_H_greatestHead_17 ?_
  refine go_iconst (v := nI 0) X (by decide) dc_H_greatestHead_18 ?_
  refine go_istore (i := 4) X (by decide) dc_H_greatestHead_19 ?_
  refine go_loc (L' := [(0, .ref (ad 0)), (1, .ref (ad (ix_ (hc_farF σ 0) + 8))), (2, .ref (ad 40)), (3, .int (nI n)), (4, .int (nI 0))]) rfl ?_
  refine (lp_up (P := fun j => Go_ P l e (rm_d 0) s m args below meth c D cl_ A 6 0 0 _ (cW_ T ad K n (σ)) 21 [(0, .ref (ad 0)), (1, .ref (ad (ix_ (hc_farF σ j) + 8))), (2, .ref (ad 40)), (3, .int (nI n)), (4, .int (nI j))] []) n (fun j hj ih => ?_)) 0 (Nat.zero_le _) 
  refine go_iload (i := 4) X rfl dc_H_greatestHead_21 ?_
  refine go_iload_n (i := 3) X rfl rfl dc_H_greatestHead_23 ?_
  refine go_icmp_ge (tgt := 60) X dc_H_greatestHead_24 (by decide) (fun h24 => ?_) (fun h24 => ?_)
  · have e32 : j = n := by rw [iz_le, iz_nI (by omega), iz_nI (by omega)] at h24; omega
    subst e32
    refine go_aload_n (i := 1) X rfl rfl dc_H_greatestHead_60 ?_
    exact go_aret X hr (Or.inr ⟨_, rfl⟩) dc_H_greatestHead_61 rfl rfl
  · have hlt : j < n := by rw [iz_le, iz_nI (by omega), iz_nI (by omega)] at h24; omega
    have hx : Ix_ (nI j) n j := Ix_n hlt (by omega)
    have hbj := hh j hlt
    have hfj := far_ix hh h0 j (by omega)
    refine go_aload_n (i := 2) X rfl rfl dc_H_greatestHead_27 ?_
    refine go_iload (i := 4) X rfl dc_H_greatestHead_28 ?_
    refine gx_cl (k := j) X (by assumption) dc_H_greatestHead_30 ?_
    refine go_astore (i := 5) X (by decide) dc_H_greatestHead_31 ?_
    refine go_aload (i := 5) X rfl dc_H_greatestHead_33 ?_
    refine gc_getR (x := σ 8 (j)) (j := ix_ (σ 8 (j))) X (by first | assumption | exact Ix_lt (by assumption)) 6 (by decide) fl_H_126 rfl (by assumption) dc_H_greatestHead_35 ?_
    refine gn_get (v := .int (σ 2 (ix_ (σ 8 (j))))) X (by first | assumption | exact Ix_lt (by assumption)) 5 (by decide) fl_H_43 rfl dc_H_greatestHead_38 ?_
    refine go_aload_n (i := 1) X rfl rfl dc_H_greatestHead_41 ?_
    refine gn_get (v := .int (σ 2 (ix_ (hc_farF σ j)))) X (by first | assumption | exact Ix_lt (by assumption)) 5 (by decide) fl_H_43 rfl dc_H_greatestHead_42 ?_
    refine go_icmp_le (tgt := 54) X dc_H_greatestHead_45 (by decide) (fun h45 => ?_) (fun h45 => ?_)
    · refine go_iinc (i := 4) (v := nI (j + 1)) X rfl (by rw [lit1]; exact nI_1 j) (by decide) dc_H_greatestHead_54 ?_
      refine go_goto (tgt := 21) X dc_H_greatestHead_57 (by decide) ?_
      have ih2 := ih hlt
      rw [← far_f h45] at ih2
      refine go_loc (L' := [(0, .ref (ad 0)), (1, .ref (ad (ix_ (hc_farF σ j) + 8))), (2, .ref (ad 40)), (3, .int (nI n)), (4, .int (nI (j + 1)))]) rfl ?_
      exact ih2
    · refine go_aload (i := 5) X rfl dc_H_greatestHead_48 ?_
      refine gc_getR (x := σ 8 (j)) (j := ix_ (σ 8 (j))) X (by first | assumption | exact Ix_lt (by assumption)) 6 (by decide) fl_H_126 rfl (by assumption) dc_H_greatestHead_50 ?_
      refine go_astore_n (i := 1) X rfl (by decide) dc_H_greatestHead_53 ?_
      refine go_iinc (i := 4) (v := nI (j + 1)) X rfl (by rw [lit1]; exact nI_1 j) (by decide) dc_H_greatestHead_54 ?_
      refine go_goto (tgt := 21) X dc_H_greatestHead_57 (by decide) ?_
      have ih2 := ih hlt
      rw [← far_t h45] at ih2
      refine go_loc (L' := [(0, .ref (ad 0)), (1, .ref (ad (ix_ (σ 8 j) + 8))), (2, .ref (ad 40)), (3, .int (nI n)), (4, .int (nI (j + 1)))]) rfl ?_
      exact ih2
set_option maxHeartbeats 4000000 in
set_option maxRecDepth 20000 in
theorem tc_bringIdleHeadsTo (l : Launch) (D : va_G) (T : Nat → ClassId) (ad : Nat → Nat) (A : Nat → Prop) (nw : List Cond) (K n : Nat) {σ : ST_} {g : Int32} (hn : n ≤ 5) (hg : Ix_ g 32 (ix_ g)) : cc_ l D T ad K n A nw yn_H_bringIdleHeadsTo (.code yn_H_bringIdleHeadsTo cd_H_bringIdleHeadsTo 6 none) 0 [.ref (ad 0), .ref (ad (ix_ g + 8))] σ (hc_bring g n σ) none := by
  refine go_in (by decide) (Nat.le_of_ble_eq_true rfl) (List.forall_mem_cons.mpr ⟨rfl, List.forall_mem_cons.mpr ⟨rfl, fun _ h => nomatch h⟩⟩) ?_
  intro P e s m args below meth c X hr hnm hN
  replace X : Cx_ P l e (rm_d 0) s m args below meth c cd_H_bringIdleHeadsTo 6 rn_H D cl_ (tys_ T) TG_ := X
  refine go_loc (L' := [(0, .ref (ad 0)), (1, .ref (ad (ix_ g + 8)))]) rfl ?_
  refine go_aload_n (i := 0) X rfl rfl dc_H_bringIdleHeadsTo_0 ?_
  refine gh_get X 0 (by decide) fl_H_49 rfl dc_H_bringIdleHeadsTo_1 ?_
  refine go_astore_n (i := 2) X rfl (by decide) dc_H_bringIdleHeadsTo_4 ?_
  refine go_aload_n (i := 2) X rfl rfl dc_H_bringIdleHeadsTo_5 ?_
  refine gx_lc X dc_H_bringIdleHeadsTo_6 ?_
  refine go_istore_n (i := 3) X rfl (by decide) dc_H_bringIdleHeadsTo_7 ?_
  refine go_iconst (v := nI 0) X (by decide) dc_H_bringIdleHeadsTo_8 ?_
  refine go_istore (i := 4) X (by decide) dc_H_bringIdleHeadsTo_9 ?_
  refine go_loc (L' := [(0, .ref (ad 0)), (1, .ref (ad (ix_ g + 8))), (2, .ref (ad 40)), (3, .int (nI n)), (4, .int (nI 0))]) rfl ?_
  refine go_eqw (w' := cW_ T ad K n (hc_bring g 0 σ)) (rfl) ?_
  refine (lp_up (P := fun j => Go_ P l e (rm_d 0) s m args below meth c D cl_ A 6 0 0 _ (cW_ T ad K n (hc_bring g j σ)) 11 [(0, .ref (ad 0)), (1, .ref (ad (ix_ g + 8))), (2, .ref (ad 40)), (3, .int (nI n)), (4, .int (nI j))] []) n (fun j hj ih => ?_)) 0 (Nat.zero_le _) 
  refine go_iload (i := 4) X rfl dc_H_bringIdleHeadsTo_11 ?_
  refine go_iload_n (i := 3) X rfl rfl dc_H_bringIdleHeadsTo_13 ?_
  refine go_icmp_ge (tgt := 44) X dc_H_bringIdleHeadsTo_14 (by decide) (fun h14 => ?_) (fun h14 => ?_)
  · have e32 : j = n := by rw [iz_le, iz_nI (by omega), iz_nI (by omega)] at h14; omega
    subst e32
    exact go_vret X hr dc_H_bringIdleHeadsTo_44 rfl rfl
  · have hlt : j < n := by rw [iz_le, iz_nI (by omega), iz_nI (by omega)] at h14; omega
    have hx : Ix_ (nI j) n j := Ix_n hlt (by omega)
    refine go_aload_n (i := 2) X rfl rfl dc_H_bringIdleHeadsTo_17 ?_
    refine go_iload (i := 4) X rfl dc_H_bringIdleHeadsTo_18 ?_
    refine gx_cl (k := j) X (by assumption) dc_H_bringIdleHeadsTo_20 ?_
    refine go_astore (i := 5) X (by decide) dc_H_bringIdleHeadsTo_21 ?_
    refine go_aload (i := 5) X rfl dc_H_bringIdleHeadsTo_23 ?_
    refine gc_get (v := .int (hc_bring g j σ 10 (j))) X (by first | assumption | exact Ix_lt (by assumption)) 1 (by decide) fl_H_63 rfl dc_H_bringIdleHeadsTo_25 ?_
    refine go_iconst (v := (-1)) X (by decide) dc_H_bringIdleHeadsTo_28 ?_
    refine go_icmp_ne (tgt := 38) X dc_H_bringIdleHeadsTo_29 (by decide) (fun h29 => ?_) (fun h29 => ?_)
    · refine go_iinc (i := 4) (v := nI (j + 1)) X rfl (by rw [lit1]; exact nI_1 j) (by decide) dc_H_bringIdleHeadsTo_38 ?_
      refine go_goto (tgt := 11) X dc_H_bringIdleHeadsTo_41 (by decide) ?_
      have ih2 := ih hlt
      rw [← bg_f h29] at ih2
      refine go_loc (L' := [(0, .ref (ad 0)), (1, .ref (ad (ix_ g + 8))), (2, .ref (ad 40)), (3, .int (nI n)), (4, .int (nI (j + 1)))]) rfl ?_
      exact ih2
    · refine go_aload (i := 5) X rfl dc_H_bringIdleHeadsTo_32 ?_
      refine go_aload_n (i := 1) X rfl rfl dc_H_bringIdleHeadsTo_34 ?_
      refine gc_putR (x := g) X 6 8 (by first | assumption | exact Ix_lt (by assumption)) (by decide) fl_H_126 rfl (tk_C 6 (by decide)) (rf_ix (by assumption)) rfl rfl (cu_8 _ _) dc_H_bringIdleHeadsTo_35 ?_
      refine go_iinc (i := 4) (v := nI (j + 1)) X rfl (by rw [lit1]; exact nI_1 j) (by decide) dc_H_bringIdleHeadsTo_38 ?_
      refine go_goto (tgt := 11) X dc_H_bringIdleHeadsTo_41 (by decide) ?_
      have ih2 := ih hlt
      rw [← bg_t h29] at ih2
      refine go_loc (L' := [(0, .ref (ad 0)), (1, .ref (ad (ix_ g + 8))), (2, .ref (ad 40)), (3, .int (nI n)), (4, .int (nI (j + 1)))]) rfl ?_
      exact ih2
set_option maxHeartbeats 4000000 in
set_option maxRecDepth 20000 in
theorem tc_leastHeadNumber (l : Launch) (D : va_G) (T : Nat → ClassId) (ad : Nat → Nat) (A : Nat → Prop) (nw : List Cond) (K n : Nat) {σ : ST_} (hn : n ≤ 5) (h0 : 0 < n) (hh : ∀ q, q < n → Ix_ (σ 8 q) 32 (ix_ (σ 8 q)))  : cc_ l D T ad K n A nw yn_H_leastHeadNumber (.code yn_H_leastHeadNumber cd_H_leastHeadNumber 6 (some .int)) 1 [.ref (ad 0)] σ σ (some (.int (hc_leastF σ n))) := by
  refine go_in (by decide) (Nat.le_of_ble_eq_true rfl) (List.forall_mem_cons.mpr ⟨rfl, fun _ h => nomatch h⟩) ?_
  intro P e s m args below meth c X hr hnm hN
  replace X : Cx_ P l e (rm_d 1) s m args below meth c cd_H_leastHeadNumber 6 rn_H D cl_ (tys_ T) TG_ := X
  refine go_loc (L' := [(0, .ref (ad 0))]) rfl ?_
  have hx0 : Ix_ 0 n 0 := Ix_n (j := 0) h0 (by omega)
  have hb0 := hh 0 h0
  refine go_aload_n (i := 0) X rfl rfl dc_H_leastHeadNumber_0 ?_
  refine gh_get X 0 (by decide) fl_H_49 rfl dc_H_leastHeadNumber_1 ?_
  refine go_iconst (v := 0) X (by decide) dc_H_leastHeadNumber_4 ?_
  refine gx_cl (k := 0) X (by assumption) dc_H_leastHeadNumber_5 ?_
  refine gc_getR (x := σ 8 (0)) (j := ix_ (σ 8 (0))) X (by first | assumption | exact Ix_lt (by assumption)) 6 (by decide) fl_H_126 rfl (by assumption) dc_H_leastHeadNumber_6 ?_
  refine gn_get (v := .int (σ 2 (ix_ (σ 8 (0))))) X (by first | assumption | exact Ix_lt (by assumption)) 5 (by decide) fl_H_43 rfl dc_H_leastHeadNumber_9 ?_
  refine go_istore_n (i := 1) X rfl (by decide) dc_H_leastHeadNumber_12 ?_
  refine go_aload_n (i := 0) X rfl rfl dc_H_leastHeadNumber_13 ?_
  refine gh_get X 0 (by decide) fl_H_49 rfl dc_H_leastHeadNumber_14 ?_
  refine go_astore_n (i := 2) X rfl (by decide) dc_H_leastHeadNumber_17 ?_
  refine go_aload_n (i := 2) X rfl rfl dc_H_leastHeadNumber_18 ?_
  refine gx_lc X dc_H_leastHeadNumber_19 ?_
  refine go_istore_n (i := 3) X rfl (by decide) dc_H_leastHeadNumber_20 ?_
  refine go_iconst (v := nI 0) X (by decide) dc_H_leastHeadNumber_21 ?_
  refine go_istore (i := 4) X (by decide) dc_H_leastHeadNumber_22 ?_
  refine go_loc (L' := [(0, .ref (ad 0)), (1, .int (hc_leastF σ 0)), (2, .ref (ad 40)), (3, .int (nI n)), (4, .int (nI 0))]) rfl ?_
  refine (lp_up (P := fun j => Go_ P l e (rm_d 1) s m args below meth c D cl_ A 6 0 0 _ (cW_ T ad K n (σ)) 24 [(0, .ref (ad 0)), (1, .int (hc_leastF σ j)), (2, .ref (ad 40)), (3, .int (nI n)), (4, .int (nI j))] []) n (fun j hj ih => ?_)) 0 (Nat.zero_le _) 
  refine go_iload (i := 4) X rfl dc_H_leastHeadNumber_24 ?_
  refine go_iload_n (i := 3) X rfl rfl dc_H_leastHeadNumber_26 ?_
  refine go_icmp_ge (tgt := 55) X dc_H_leastHeadNumber_27 (by decide) (fun h27 => ?_) (fun h27 => ?_)
  · have e32 : j = n := by rw [iz_le, iz_nI (by omega), iz_nI (by omega)] at h27; omega
    subst e32
    refine go_iload_n (i := 1) X rfl rfl dc_H_leastHeadNumber_55 ?_
    exact go_iret X hr dc_H_leastHeadNumber_56 rfl rfl
  · have hlt : j < n := by rw [iz_le, iz_nI (by omega), iz_nI (by omega)] at h27; omega
    have hx : Ix_ (nI j) n j := Ix_n hlt (by omega)
    have hbj := hh j hlt
    refine go_aload_n (i := 2) X rfl rfl dc_H_leastHeadNumber_30 ?_
    refine go_iload (i := 4) X rfl dc_H_leastHeadNumber_31 ?_
    refine gx_cl (k := j) X (by assumption) dc_H_leastHeadNumber_33 ?_
    refine go_astore (i := 5) X (by decide) dc_H_leastHeadNumber_34 ?_
    refine go_iload_n (i := 1) X rfl rfl dc_H_leastHeadNumber_36 ?_
    refine go_aload (i := 5) X rfl dc_H_leastHeadNumber_37 ?_
    refine gc_getR (x := σ 8 (j)) (j := ix_ (σ 8 (j))) X (by first | assumption | exact Ix_lt (by assumption)) 6 (by decide) fl_H_126 rfl (by assumption) dc_H_leastHeadNumber_39 ?_
    refine gn_get (v := .int (σ 2 (ix_ (σ 8 (j))))) X (by first | assumption | exact Ix_lt (by assumption)) 5 (by decide) fl_H_43 rfl dc_H_leastHeadNumber_42 ?_
    refine go_min X ml_H_9 (by decide) (Nat.le_of_ble_eq_true rfl) ⟨Nat.zero_le _, Nat.zero_le _⟩ dc_H_leastHeadNumber_45 ?_
    refine go_istore_n (i := 1) X rfl (by decide) dc_H_leastHeadNumber_48 ?_
    refine go_iinc (i := 4) (v := nI (j + 1)) X rfl (by rw [lit1]; exact nI_1 j) (by decide) dc_H_leastHeadNumber_49 ?_
    refine go_goto (tgt := 24) X dc_H_leastHeadNumber_52 (by decide) ?_
    have ih2 := ih hlt
    rw [← le_s j] at ih2
    refine go_loc (L' := [(0, .ref (ad 0)), (1, .int (if σ 2 (ix_ (σ 8 j)) < hc_leastF σ j then σ 2 (ix_ (σ 8 j)) else hc_leastF σ j)), (2, .ref (ad 40)), (3, .int (nI n)), (4, .int (nI (j + 1)))]) rfl ?_
    exact ih2
set_option maxHeartbeats 4000000 in
set_option maxRecDepth 20000 in
theorem tc_releaseBelow (l : Launch) (D : va_G) (T : Nat → ClassId) (ad : Nat → Nat) (A : Nat → Prop) (nw : List Cond) (K n : Nat) {σ : ST_} {x : Int32} : cc_ l D T ad K n A nw yn_H_releaseBelow (.code yn_H_releaseBelow cd_H_releaseBelow 7 (some .int)) 1 [.ref (ad 0), .int x] σ (hc_relF x 32 σ).1 (some (.int (hc_relF x 32 σ).2)) := by
  refine go_in (by decide) (Nat.le_of_ble_eq_true rfl) (List.forall_mem_cons.mpr ⟨rfl, List.forall_mem_cons.mpr ⟨rfl, fun _ h => nomatch h⟩⟩) ?_
  intro P e s m args below meth c X hr hnm hN
  replace X : Cx_ P l e (rm_d 1) s m args below meth c cd_H_releaseBelow 7 rn_H D cl_ (tys_ T) TG_ := X
  refine go_loc (L' := [(0, .ref (ad 0)), (1, .int x)]) rfl ?_
  refine go_iconst (v := 0) X (by decide) dc_H_releaseBelow_0 ?_
  refine go_istore_n (i := 2) X rfl (by decide) dc_H_releaseBelow_1 ?_
  refine go_aload_n (i := 0) X rfl rfl dc_H_releaseBelow_2 ?_
  refine gh_get X 1 (by decide) fl_H_34 rfl dc_H_releaseBelow_3 ?_
  refine go_astore_n (i := 3) X rfl (by decide) dc_H_releaseBelow_6 ?_
  refine go_aload_n (i := 3) X rfl rfl dc_H_releaseBelow_7 ?_
  refine gx_ln X dc_H_releaseBelow_8 ?_
  refine go_istore (i := 4) X (by decide) dc_H_releaseBelow_9 ?_
  refine go_iconst (v := nI 0) X (by decide) dc_H_releaseBelow_11 ?_
  refine go_istore (i := 5) X (by decide) dc_H_releaseBelow_12 ?_
  refine go_loc (L' := [(0, .ref (ad 0)), (1, .int x), (2, .int ((hc_relF x 0 σ).2)), (3, .ref (ad 7)), (4, .int (nI 32)), (5, .int (nI 0))]) rfl ?_
  refine go_eqw (w' := cW_ T ad K n ((hc_relF x 0 σ).1)) (rfl) ?_
  refine (lp_up (P := fun j => Go_ P l e (rm_d 1) s m args below meth c D cl_ A 7 0 0 _ (cW_ T ad K n ((hc_relF x j σ).1)) 14 [(0, .ref (ad 0)), (1, .int x), (2, .int ((hc_relF x j σ).2)), (3, .ref (ad 7)), (4, .int (nI 32)), (5, .int (nI j))] []) 32 (fun j hj ih => ?_)) 0 (Nat.zero_le _) 
  refine go_iload (i := 5) X rfl dc_H_releaseBelow_14 ?_
  refine go_iload (i := 4) X rfl dc_H_releaseBelow_16 ?_
  refine go_icmp_ge (tgt := 59) X dc_H_releaseBelow_18 (by decide) (fun h18 => ?_) (fun h18 => ?_)
  · have e32 : j = 32 := by rw [iz_le, iz_nI (by omega), iz_nI (by omega)] at h18; omega
    subst e32
    refine go_iload_n (i := 2) X rfl rfl dc_H_releaseBelow_59 ?_
    exact go_iret X hr dc_H_releaseBelow_60 rfl rfl
  · have hlt : j < 32 := by rw [iz_le, iz_nI (by omega), iz_nI (by omega)] at h18; omega
    have hx : Ix_ (nI j) 32 j := Ix_n hlt (by omega)
    refine go_aload_n (i := 3) X rfl rfl dc_H_releaseBelow_21 ?_
    refine go_iload (i := 5) X rfl dc_H_releaseBelow_22 ?_
    refine gx_nd (k := j) X (by assumption) dc_H_releaseBelow_24 ?_
    refine go_astore (i := 6) X (by decide) dc_H_releaseBelow_25 ?_
    refine go_aload (i := 6) X rfl dc_H_releaseBelow_27 ?_
    refine go_cV (C := rn_N) (ci := 1) (i := j + 8) (n := 0) (rest := []) X hN (tc_isOnLog l D T ad A nw K n (σ := (hc_relF x j σ).1) (k := j) hlt) ml_H_103 im_N_isOnLog sl_N_NisOnLog ik_N co_N_isOnLog ⟨rfl, by decide, by decide, by decide +kernel⟩ ⟨rfl, rfl, by decide, by decide⟩ rfl (cw_n hlt) rfl rfl (Nat.le_of_ble_eq_true rfl) dc_H_releaseBelow_29 ⟨Nat.zero_le _, Nat.zero_le _⟩ ?_
    refine go_if_eq (tgt := 53) X dc_H_releaseBelow_32 (by decide) (fun h32 => ?_) (fun h32 => ?_)
    · refine go_iinc (i := 5) (v := nI (j + 1)) X rfl (by rw [lit1]; exact nI_1 j) (by decide) dc_H_releaseBelow_53 ?_
      refine go_goto (tgt := 14) X dc_H_releaseBelow_56 (by decide) ?_
      have ih2 := ih hlt
      rw [← re_f (j := j) (fun q => by rw [cd_f h32] at q; exact absurd q.1 (by decide))] at ih2
      refine go_loc (L' := [(0, .ref (ad 0)), (1, .int x), (2, .int ((hc_relF x j σ).2)), (3, .ref (ad 7)), (4, .int (nI 32)), (5, .int (nI (j + 1)))]) rfl ?_
      exact ih2
    · refine go_aload (i := 6) X rfl dc_H_releaseBelow_35 ?_
      refine gn_get (v := .int ((hc_relF x j σ).1 2 (j))) X (by first | assumption | exact Ix_lt (by assumption)) 5 (by decide) fl_H_43 rfl dc_H_releaseBelow_37 ?_
      refine go_iload_n (i := 1) X rfl rfl dc_H_releaseBelow_40 ?_
      refine go_icmp_ge (tgt := 53) X dc_H_releaseBelow_41 (by decide) (fun h41 => ?_) (fun h41 => ?_)
      · refine go_iinc (i := 5) (v := nI (j + 1)) X rfl (by rw [lit1]; exact nI_1 j) (by decide) dc_H_releaseBelow_53 ?_
        refine go_goto (tgt := 14) X dc_H_releaseBelow_56 (by decide) ?_
        have ih2 := ih hlt
        rw [← re_f (j := j) (fun q => q.2 h41)] at ih2
        refine go_loc (L' := [(0, .ref (ad 0)), (1, .int x), (2, .int ((hc_relF x j σ).2)), (3, .ref (ad 7)), (4, .int (nI 32)), (5, .int (nI (j + 1)))]) rfl ?_
        exact ih2
      · refine go_aload (i := 6) X rfl dc_H_releaseBelow_44 ?_
        refine go_iconst (v := 0) X (by decide) dc_H_releaseBelow_46 ?_
        refine gn_put X 0 1 (by first | assumption | exact Ix_lt (by assumption)) (by decide) fl_H_39 rfl (tk_N 0 (by decide)) rfl rfl (nu_1 (by first | assumption | exact Ix_lt (by assumption)) _) dc_H_releaseBelow_47 ?_
        refine go_iinc (i := 2) (v := (hc_relF x j σ).2 + 1) X rfl (by rw [lit1]) (by decide) dc_H_releaseBelow_50 ?_
        refine go_iinc (i := 5) (v := nI (j + 1)) X rfl (by rw [lit1]; exact nI_1 j) (by decide) dc_H_releaseBelow_53 ?_
        refine go_goto (tgt := 14) X dc_H_releaseBelow_56 (by decide) ?_
        have ih2 := ih hlt
        rw [← re_t (j := j) (cd_t h32) h41] at ih2
        refine go_loc (L' := [(0, .ref (ad 0)), (1, .int x), (2, .int ((hc_relF x j σ).2 + 1)), (3, .ref (ad 7)), (4, .int (nI 32)), (5, .int (nI (j + 1)))]) rfl ?_
        exact ih2
set_option maxHeartbeats 4000000 in
set_option maxRecDepth 20000 in
theorem tc_cut (l : Launch) (D : va_G) (T : Nat → ClassId) (ad : Nat → Nat) (A : Nat → Prop) (nw : List Cond) (K n : Nat) {σ : ST_} (hn : n ≤ 5) (h0 : 0 < n) (hh : ∀ q, q < n → Ix_ (σ 8 q) 32 (ix_ (σ 8 q)))  : cc_ l D T ad K n A nw yn_H_cut (.code yn_H_cut cd_H_cut 1 (some .int)) 2 [.ref (ad 0)] σ (hc_cut n σ).1 (some (.int (hc_cut n σ).2)) := by
  refine go_in (by decide) (Nat.le_of_ble_eq_true rfl) (List.forall_mem_cons.mpr ⟨rfl, fun _ h => nomatch h⟩) ?_
  intro P e s m args below meth c X hr hnm hN
  replace X : Cx_ P l e (rm_d 2) s m args below meth c cd_H_cut 1 rn_H D cl_ (tys_ T) TG_ := X
  refine go_loc (L' := [(0, .ref (ad 0))]) rfl ?_
  refine go_aload_n (i := 0) X rfl rfl dc_H_cut_0 ?_
  refine go_aload_n (i := 0) X rfl rfl dc_H_cut_1 ?_
  refine go_cV (C := rn_H) (ci := 0) (i := 0) (n := 0) (rest := [.ref (ad 0)]) X hN (tc_greatestHead l D T ad A nw K n (σ := σ) hn h0 hh) ml_H_130 im_H_greatestHead sl_H_HgreatestHead ik_H co_H_greatestHead ⟨rfl, by decide, by decide, by decide +kernel⟩ ⟨rfl, rfl, by decide, by decide⟩ rfl (cw_h) rfl rfl (Nat.le_of_ble_eq_true rfl) dc_H_cut_2 ⟨Nat.zero_le _, Nat.zero_le _⟩ ?_
  refine go_cVv (C := rn_H) (ci := 0) (i := 0) (n := 1) (rest := []) X hN (tc_bringIdleHeadsTo l D T ad A nw K n (σ := σ) (g := hc_farF σ n) hn (far_ix hh h0 n (by omega))) ml_H_134 im_H_bringIdleHeadsTo sl_H_HbringIdleHeadsTo ik_H co_H_bringIdleHeadsTo ⟨rfl, by decide, by decide, by decide +kernel⟩ ⟨rfl, rfl, by decide, by decide⟩ rfl (cw_h) rfl rfl (Nat.le_of_ble_eq_true rfl) dc_H_cut_5 ⟨Nat.zero_le _, Nat.zero_le _⟩ ?_
  refine go_aload_n (i := 0) X rfl rfl dc_H_cut_8 ?_
  refine go_aload_n (i := 0) X rfl rfl dc_H_cut_9 ?_
  refine go_cV (C := rn_H) (ci := 0) (i := 0) (n := 0) (rest := [.ref (ad 0)]) X hN (tc_leastHeadNumber l D T ad A nw K n (σ := (hc_bring (hc_farF σ n) n σ)) hn h0 (bring_ix hh h0)) ml_H_138 im_H_leastHeadNumber sl_H_HleastHeadNumber ik_H co_H_leastHeadNumber ⟨rfl, by decide, by decide, by decide +kernel⟩ ⟨rfl, rfl, by decide, by decide⟩ rfl (cw_h) rfl rfl (Nat.le_of_ble_eq_true rfl) dc_H_cut_10 ⟨Nat.zero_le _, Nat.zero_le _⟩ ?_
  refine go_cV (C := rn_H) (ci := 0) (i := 0) (n := 1) (rest := []) X hN (tc_releaseBelow l D T ad A nw K n (σ := (hc_bring (hc_farF σ n) n σ)) (x := hc_leastF (hc_bring (hc_farF σ n) n σ) n)) ml_H_141 im_H_releaseBelow sl_H_HreleaseBelow ik_H co_H_releaseBelow ⟨rfl, by decide, by decide, by decide +kernel⟩ ⟨rfl, rfl, by decide, by decide⟩ rfl (cw_h) rfl rfl (Nat.le_of_ble_eq_true rfl) dc_H_cut_13 ⟨Nat.zero_le _, Nat.zero_le _⟩ ?_
  exact go_iret X hr dc_H_cut_16 rfl rfl
end C2

section C3
set_option maxHeartbeats 4000000 in
set_option maxRecDepth 20000 in
theorem tc_putIn (l : Launch) (D : va_G) (T : Nat → ClassId) (ad : Nat → Nat) (A : Nat → Prop) (nw : List Cond) (K n : Nat) {σ : ST_} {q : Nat} {a b : Int32} (hK : K < 2) (hq : q < 3) (hz : 0 ≤ (σ 33 q).toInt ∧ (σ 33 q).toInt ≤ 8)  : cc_ l D T ad K n A nw yn_G_putIn (.code yn_G_putIn cd_G_putIn 2 (some .int)) 0 [.ref (ad (2 * q + 1)), .int a] σ (hc_perf K q 0 a b σ) (some (.int (hc_perfR K q 0 a b σ))) := by
  have hK4 : K < 4 := by omega
  have hl : lc_ K = 8 := by
    match K, hK with
    | 0, _ => rfl
    | 1, _ => rfl
  refine go_in (by decide) (Nat.le_of_ble_eq_true rfl) (List.forall_mem_cons.mpr ⟨rfl, List.forall_mem_cons.mpr ⟨rfl, fun _ h => nomatch h⟩⟩) ?_
  intro P e s m args below meth c X hr hnm hN
  replace X : Cx_ P l e (rm_d 0) s m args below meth c cd_G_putIn 2 rn_G D cl_ (tys_ T) TG_ := X
  refine go_loc (L' := [(0, .ref (ad (2 * q + 1))), (1, .int a)]) rfl ?_
  refine go_aload_n (i := 0) X rfl rfl dc_G_putIn_0 ?_
  refine gp_get (j := q) (v := .int (σ 33 q)) X (by first | assumption | decide) (by assumption) 1 (by decide) fl_G_13 (fun x h => u_same (X.2.2.2.2.1 _ sf_G_count) x h) rfl dc_G_putIn_1 ?_
  refine go_aload_n (i := 0) X rfl rfl dc_G_putIn_4 ?_
  refine gp_get (j := q) X (by first | assumption | decide) (by assumption) 0 (by decide) fl_G_21 (fun x h => u_same (X.2.2.2.2.1 _ sf_G_cells) x h) rfl dc_G_putIn_5 ?_
  refine gp_len (j := q) X (by assumption) dc_G_putIn_8 ?_
  rw [hl]
  refine go_icmp_lt (tgt := 14) X dc_G_putIn_9 (by decide) (fun h9 => ?_) (fun h9 => ?_)
  · have n8 : ¬ σ 33 q = 8 := by rw [iz_lt, iz_nI (by decide)] at h9; rw [iz_eq, iz_8]; omega
    obtain ⟨g1, g2⟩ := g0_n (q := q) (a := a) (b := b) hK n8
    have hi : Ix_ (σ 33 q) (lc_ K) (ix_ (σ 33 q)) := by rw [hl]; exact Ix_r hz.1 (by rw [iz_lt, iz_nI (by decide)] at h9; exact h9)
    refine go_aload_n (i := 0) X rfl rfl dc_G_putIn_14 ?_
    refine gp_get (j := q) X (by first | assumption | decide) (by assumption) 0 (by decide) fl_G_21 (fun x h => u_same (X.2.2.2.2.1 _ sf_G_cells) x h) rfl dc_G_putIn_15 ?_
    refine go_aload_n (i := 0) X rfl rfl dc_G_putIn_18 ?_
    refine gp_get (j := q) (v := .int (σ 33 q)) X (by first | assumption | decide) (by assumption) 1 (by decide) fl_G_13 (fun x h => u_same (X.2.2.2.2.1 _ sf_G_count) x h) rfl dc_G_putIn_19 ?_
    refine go_iload_n (i := 1) X rfl rfl dc_G_putIn_22 ?_
    refine gp_st (j := q) X (by assumption) (by assumption) dc_G_putIn_23 ?_
    refine go_aload_n (i := 0) X rfl rfl dc_G_putIn_24 ?_
    refine go_dup X rfl dc_G_putIn_25 ?_
    refine gp_get (j := q) (v := .int (σ 33 q)) X (by first | assumption | decide) (by assumption) 1 (by decide) fl_G_13 (fun x h => u_same (X.2.2.2.2.1 _ sf_G_count) x h) (by rw [pF_c, p33_u2 hq]) dc_G_putIn_26 ?_
    refine go_iconst (v := 1) X (by decide) dc_G_putIn_29 ?_
    refine go_iadd X dc_G_putIn_30 ?_
    refine gp_put (j := q) X (by first | assumption | decide) (by assumption) fl_G_13 (fun x h => u_same (X.2.2.2.2.1 _ sf_G_count) x h) dc_G_putIn_31 ?_
    refine go_aload_n (i := 0) X rfl rfl dc_G_putIn_34 ?_
    refine gp_get (j := q) (v := .int (σ 33 q + 1)) X (by first | assumption | decide) (by assumption) 1 (by decide) fl_G_13 (fun x h => u_same (X.2.2.2.2.1 _ sf_G_count) x h) (by rw [pF_c, u2_same, pk_us]) dc_G_putIn_35 ?_
    exact go_iret X hr dc_G_putIn_38 (congrArg (cW_ T ad K n) g1.symm) (congrArg some (congrArg Value.int g2.symm))
  · have e8 : σ 33 q = 8 := by rw [iz_lt, iz_nI (by decide)] at h9; rw [iz_eq, iz_8]; omega
    obtain ⟨g1, g2⟩ := g0_8 (q := q) (a := a) (b := b) hK e8
    refine go_iconst (v := (-1)) X (by decide) dc_G_putIn_12 ?_
    exact go_iret X hr dc_G_putIn_13 (congrArg (cW_ T ad K n) g1.symm) (congrArg some (congrArg Value.int g2.symm))
set_option maxHeartbeats 4000000 in
set_option maxRecDepth 20000 in
theorem tc_takeS (l : Launch) (D : va_G) (T : Nat → ClassId) (ad : Nat → Nat) (A : Nat → Prop) (nw : List Cond) (n : Nat) {σ : ST_} {q : Nat} {a b : Int32} (hq : q < 3) (hz : 0 ≤ (σ 33 q).toInt ∧ (σ 33 q).toInt ≤ 8) (hnz : ¬ σ 33 q = 0)  : cc_ l D T ad 1 n A nw yn_S_takeOut (.code yn_S_takeOut cd_S_takeOut 1 (some .int)) 0 [.ref (ad (2 * q + 1))] σ (hc_perf 1 q 1 a b σ) (some (.int (hc_perfR 1 q 1 a b σ))) := by
  obtain ⟨g1, g2⟩ := g1_s (a := a) (b := b) hnz
  obtain ⟨J, hJ, eJ, eJ1⟩ := z_pred hz hnz
  have hi : Ix_ (σ 33 q - 1) (lc_ 1) (ix_ (σ 33 q - 1)) := by rw [eJ1]; exact Ix_r (by rw [iz_nI (by omega)]; omega) (by rw [iz_nI (by omega)]; show (J : Int) < 8; omega)
  refine go_in (by decide) (Nat.le_of_ble_eq_true rfl) (List.forall_mem_cons.mpr ⟨rfl, fun _ h => nomatch h⟩) ?_
  intro P e s m args below meth c X hr hnm hN
  replace X : Cx_ P l e (rm_d 0) s m args below meth c cd_S_takeOut 1 rn_S D cl_ (tys_ T) TG_ := X
  refine go_loc (L' := [(0, .ref (ad (2 * q + 1)))]) rfl ?_
  refine go_aload_n (i := 0) X rfl rfl dc_S_takeOut_0 ?_
  refine go_dup X rfl dc_S_takeOut_1 ?_
  refine gp_get (j := q) (v := .int (σ 33 q)) X (by first | assumption | decide) (by assumption) 1 (by decide) fl_S_7 (fun x h => u_same (X.2.2.2.2.1 _ sf_S_count) x h) rfl dc_S_takeOut_2 ?_
  refine go_iconst (v := 1) X (by decide) dc_S_takeOut_5 ?_
  refine go_isub X dc_S_takeOut_6 ?_
  refine gp_put (j := q) X (by first | assumption | decide) (by assumption) fl_S_7 (fun x h => u_same (X.2.2.2.2.1 _ sf_S_count) x h) dc_S_takeOut_7 ?_
  refine go_aload_n (i := 0) X rfl rfl dc_S_takeOut_10 ?_
  refine gp_get (j := q) X (by first | assumption | decide) (by assumption) 0 (by decide) fl_S_13 (fun x h => u_same (X.2.2.2.2.1 _ sf_S_cells) x h) rfl dc_S_takeOut_11 ?_
  refine go_aload_n (i := 0) X rfl rfl dc_S_takeOut_14 ?_
  refine gp_get (j := q) (v := .int (σ 33 q - 1)) X (by decide) (by assumption) 1 (by decide) fl_S_7 (fun x h => u_same (X.2.2.2.2.1 _ sf_S_count) x h) (by rw [pF_c, u2_same, pk_us]) dc_S_takeOut_15 ?_
  refine gp_ld (j := q) (f := σ (30 + q)) X (by assumption) (p30_u2 hq _ _) (by assumption) dc_S_takeOut_18 ?_
  exact go_iret X hr dc_S_takeOut_19 (congrArg (cW_ T ad 1 n) g1.symm) (congrArg some (congrArg Value.int g2.symm))
set_option maxHeartbeats 4000000 in
set_option maxRecDepth 20000 in
theorem tc_takeQ (l : Launch) (D : va_G) (T : Nat → ClassId) (ad : Nat → Nat) (A : Nat → Prop) (nw : List Cond) (n : Nat) {σ : ST_} {q : Nat} {a b : Int32} (hq : q < 3) (hz : 0 ≤ (σ 33 q).toInt ∧ (σ 33 q).toInt ≤ 8) (hnz : ¬ σ 33 q = 0)  : cc_ l D T ad 0 n A nw yn_Q_takeOut (.code yn_Q_takeOut cd_Q_takeOut 3 (some .int)) 0 [.ref (ad (2 * q + 1))] σ (hc_perf 0 q 1 a b σ) (some (.int (hc_perfR 0 q 1 a b σ))) := by
  refine go_in (by decide) (Nat.le_of_ble_eq_true rfl) (List.forall_mem_cons.mpr ⟨rfl, fun _ h => nomatch h⟩) ?_
  intro P e s m args below meth c X hr hnm hN
  replace X : Cx_ P l e (rm_d 0) s m args below meth c cd_Q_takeOut 3 rn_Q D cl_ (tys_ T) TG_ := X
  refine go_loc (L' := [(0, .ref (ad (2 * q + 1)))]) rfl ?_
  obtain ⟨g1, g2⟩ := g1_q (a := a) (b := b) hnz
  obtain ⟨J, hJ, eJ, eJ1⟩ := z_pred hz hnz
  rw [eJ1] at g1
  rw [show ix_ (nI J) = J from nI_clamp (by omega)] at g1
  have hi0 : Ix_ 0 (lc_ 0) 0 := Ix_n (j := 0) (N := 8) (by decide) (by decide)
  refine go_aload_n (i := 0) X rfl rfl dc_Q_takeOut_0 ?_
  refine gp_get (j := q) X (by first | assumption | decide) (by assumption) 0 (by decide) fl_Q_7 (fun x h => u_same (X.2.2.2.2.1 _ sf_Q_cells) x h) rfl dc_Q_takeOut_1 ?_
  refine go_iconst (v := 0) X (by decide) dc_Q_takeOut_4 ?_
  refine gp_ld (j := q) (f := σ (30 + q)) X (by assumption) rfl (by assumption) dc_Q_takeOut_5 ?_
  refine go_istore_n (i := 1) X rfl (by decide) dc_Q_takeOut_6 ?_
  refine go_iconst (v := nI (0 + 1)) X (by decide) dc_Q_takeOut_7 ?_
  refine go_istore_n (i := 2) X rfl (by decide) dc_Q_takeOut_8 ?_
  refine go_loc (L' := [(0, .ref (ad (2 * q + 1))), (1, .int (σ (30 + q) 0)), (2, .int (nI (0 + 1)))]) rfl ?_
  refine go_eqw (w' := cW_ T ad 0 n (u1_ σ (30 + q) (sh_ (σ (30 + q)) 0))) (congrArg (cW_ T ad 0 n) (by rw [sh_0, u1_id])) ?_
  refine (lp_up (P := fun j => Go_ P l e (rm_d 0) s m args below meth c D cl_ A 3 0 0 _ (cW_ T ad 0 n (u1_ σ (30 + q) (sh_ (σ (30 + q)) j))) 9 [(0, .ref (ad (2 * q + 1))), (1, .int (σ (30 + q) 0)), (2, .int (nI (j + 1)))] []) J (fun j hj ih => ?_)) 0 (Nat.zero_le _) 
  refine go_iload_n (i := 2) X rfl rfl dc_Q_takeOut_9 ?_
  refine go_aload_n (i := 0) X rfl rfl dc_Q_takeOut_10 ?_
  refine gp_get (j := q) (v := .int (nI (J + 1))) X (by first | assumption | decide) (by assumption) 1 (by decide) fl_Q_13 (fun x h => u_same (X.2.2.2.2.1 _ sf_Q_count) x h) (by rw [pF_c, p33_u1 hq]; exact congrArg some (congrArg Value.int eJ)) dc_Q_takeOut_11 ?_
  refine go_icmp_ge (tgt := 37) X dc_Q_takeOut_14 (by decide) (fun h14 => ?_) (fun h14 => ?_)
  · have eJj : j = J := by rw [iz_le, iz_nI (by omega), iz_nI (by omega)] at h14; omega
    subst eJj
    refine go_aload_n (i := 0) X rfl rfl dc_Q_takeOut_37 ?_
    refine go_dup X rfl dc_Q_takeOut_38 ?_
    refine gp_get (j := q) (v := .int (nI (j + 1))) X (by first | assumption | decide) (by assumption) 1 (by decide) fl_Q_13 (fun x h => u_same (X.2.2.2.2.1 _ sf_Q_count) x h) (by rw [pF_c, p33_u1 hq]; exact congrArg some (congrArg Value.int eJ)) dc_Q_takeOut_39 ?_
    refine go_iconst (v := 1) X (by decide) dc_Q_takeOut_42 ?_
    refine go_isub X dc_Q_takeOut_43 ?_
    rw [nI_pred]
    refine gp_put (j := q) X (by first | assumption | decide) (by assumption) fl_Q_13 (fun x h => u_same (X.2.2.2.2.1 _ sf_Q_count) x h) dc_Q_takeOut_44 ?_
    refine go_iload_n (i := 1) X rfl rfl dc_Q_takeOut_47 ?_
    exact go_iret X hr dc_Q_takeOut_48 (congrArg (cW_ T ad 0 n) (by rw [g1])) (congrArg some (congrArg Value.int g2.symm))
  · have hlt : j < J := by rw [iz_le, iz_nI (by omega), iz_nI (by omega)] at h14; omega
    have hij : Ix_ (nI (j + 1)) (lc_ 0) (j + 1) := Ix_n (N := 8) (by omega) (by decide)
    have hjj : Ix_ (nI j) (lc_ 0) j := Ix_n (N := 8) (by omega) (by decide)
    refine go_aload_n (i := 0) X rfl rfl dc_Q_takeOut_17 ?_
    refine gp_get (j := q) X (by first | assumption | decide) (by assumption) 0 (by decide) fl_Q_7 (fun x h => u_same (X.2.2.2.2.1 _ sf_Q_cells) x h) rfl dc_Q_takeOut_18 ?_
    refine go_iload_n (i := 2) X rfl rfl dc_Q_takeOut_21 ?_
    refine go_iconst (v := 1) X (by decide) dc_Q_takeOut_22 ?_
    refine go_isub X dc_Q_takeOut_23 ?_
    rw [nI_pred]
    refine go_aload_n (i := 0) X rfl rfl dc_Q_takeOut_24 ?_
    refine gp_get (j := q) X (by first | assumption | decide) (by assumption) 0 (by decide) fl_Q_7 (fun x h => u_same (X.2.2.2.2.1 _ sf_Q_cells) x h) rfl dc_Q_takeOut_25 ?_
    refine go_iload_n (i := 2) X rfl rfl dc_Q_takeOut_28 ?_
    refine gp_ld (j := q) (k := j + 1) (f := sh_ (σ (30 + q)) j) X (by assumption) (u1_same _ _ _) hij dc_Q_takeOut_29 ?_
    refine gp_st (j := q) (k := j) X (by assumption) hjj dc_Q_takeOut_30 ?_
    refine go_iinc (i := 2) (v := nI (j + 1 + 1)) X rfl (by rw [lit1]; exact nI_1 (j + 1)) (by decide) dc_Q_takeOut_31 ?_
    refine go_goto (tgt := 9) X dc_Q_takeOut_34 (by decide) ?_
    refine go_loc (L' := [(0, .ref (ad (2 * q + 1))), (1, .int (σ (30 + q) 0)), (2, .int (nI ((j + 1) + 1)))]) rfl ?_
    refine go_eqw (w' := cW_ T ad 0 n (u1_ σ (30 + q) (sh_ (σ (30 + q)) (j + 1)))) (congrArg (cW_ T ad 0 n) (by rw [u12_id, sh_s])) ?_
    exact ih hlt
set_option maxHeartbeats 4000000 in
set_option maxRecDepth 20000 in
theorem tc_sum (l : Launch) (D : va_G) (T : Nat → ClassId) (ad : Nat → Nat) (A : Nat → Prop) (nw : List Cond) (n : Nat) {σ : ST_} {q : Nat} (hq : q < 3)  : cc_ l D T ad 2 n A nw yn_T_sum (.code yn_T_sum cd_T_sum 6 (some .int)) 0 [.ref (ad (2 * q + 1))] σ σ (some (.int (sm_ (σ (30 + q)) 8))) := by
  refine go_in (by decide) (Nat.le_of_ble_eq_true rfl) (List.forall_mem_cons.mpr ⟨rfl, fun _ h => nomatch h⟩) ?_
  intro P e s m args below meth c X hr hnm hN
  replace X : Cx_ P l e (rm_d 0) s m args below meth c cd_T_sum 6 rn_T D cl_ (tys_ T) TG_ := X
  refine go_loc (L' := [(0, .ref (ad (2 * q + 1)))]) rfl ?_
  refine go_iconst (v := 0) X (by decide) dc_T_sum_0 ?_
  refine go_istore_n (i := 1) X rfl (by decide) dc_T_sum_1 ?_
  refine go_aload_n (i := 0) X rfl rfl dc_T_sum_2 ?_
  refine gp_get (j := q) X (by first | assumption | decide) (by assumption) 0 (by decide) fl_T_7 (fun x h => u_same (X.2.2.2.2.1 _ sf_T_cells) x h) rfl dc_T_sum_3 ?_
  refine go_astore_n (i := 2) X rfl (by decide) dc_T_sum_6 ?_
  refine go_aload_n (i := 2) X rfl rfl dc_T_sum_7 ?_
  refine gp_len (j := q) X (by assumption) dc_T_sum_8 ?_
  refine go_istore_n (i := 3) X rfl (by decide) dc_T_sum_9 ?_
  refine go_iconst (v := nI 0) X (by decide) dc_T_sum_10 ?_
  refine go_istore (i := 4) X (by decide) dc_T_sum_11 ?_
  refine go_loc (L' := [(0, .ref (ad (2 * q + 1))), (1, .int (sm_ (σ (30 + q)) 0)), (2, .ref (ad (2 * q + 2))), (3, .int (nI 8)), (4, .int (nI 0))]) rfl ?_
  refine (lp_up (P := fun j => Go_ P l e (rm_d 0) s m args below meth c D cl_ A 6 0 0 _ (cW_ T ad 2 n (σ)) 13 [(0, .ref (ad (2 * q + 1))), (1, .int (sm_ (σ (30 + q)) j)), (2, .ref (ad (2 * q + 2))), (3, .int (nI 8)), (4, .int (nI j))] []) 8 (fun j hj ih => ?_)) 0 (Nat.zero_le _) 
  refine go_iload (i := 4) X rfl dc_T_sum_13 ?_
  refine go_iload_n (i := 3) X rfl rfl dc_T_sum_15 ?_
  refine go_icmp_ge (tgt := 36) X dc_T_sum_16 (by decide) (fun h16 => ?_) (fun h16 => ?_)
  · have e8 : j = 8 := by rw [iz_le, iz_nI (by omega), iz_nI (by omega)] at h16; omega
    subst e8
    refine go_iload_n (i := 1) X rfl rfl dc_T_sum_36 ?_
    exact go_iret X hr dc_T_sum_37 rfl rfl
  · have hlt : j < 8 := by rw [iz_le, iz_nI (by omega), iz_nI (by omega)] at h16; omega
    have hij : Ix_ (nI j) (lc_ 2) j := Ix_n (N := 8) (by omega) (by decide)
    refine go_aload_n (i := 2) X rfl rfl dc_T_sum_19 ?_
    refine go_iload (i := 4) X rfl dc_T_sum_20 ?_
    refine gp_ld (j := q) (f := σ (30 + q)) X (by assumption) rfl (by assumption) dc_T_sum_22 ?_
    refine go_istore (i := 5) X (by decide) dc_T_sum_23 ?_
    refine go_iload_n (i := 1) X rfl rfl dc_T_sum_25 ?_
    refine go_iload (i := 5) X rfl dc_T_sum_26 ?_
    refine go_iadd X dc_T_sum_28 ?_
    refine go_istore_n (i := 1) X rfl (by decide) dc_T_sum_29 ?_
    refine go_iinc (i := 4) (v := nI (j + 1)) X rfl (by rw [lit1]; exact nI_1 j) (by decide) dc_T_sum_30 ?_
    refine go_goto (tgt := 13) X dc_T_sum_33 (by decide) ?_
    refine go_loc (L' := [(0, .ref (ad (2 * q + 1))), (1, .int (sm_ (σ (30 + q)) (j + 1))), (2, .ref (ad (2 * q + 2))), (3, .int (nI 8)), (4, .int (nI (j + 1)))]) rfl ?_
    exact ih hlt
set_option maxHeartbeats 4000000 in
set_option maxRecDepth 20000 in
theorem tc_transfer (l : Launch) (D : va_G) (T : Nat → ClassId) (ad : Nat → Nat) (A : Nat → Prop) (nw : List Cond) (n : Nat) {σ : ST_} {q : Nat} {a b : Int32} (hq : q < 3)  : cc_ l D T ad 3 n A nw yn_B_transfer (.code yn_B_transfer cd_B_transfer 3 (some .int)) 0 [.ref (ad (2 * q + 1)), .int (a &&& 3), .int (b &&& 3)] σ (hc_perf 3 q 0 a b σ) (some (.int (hc_perfR 3 q 0 a b σ))) := by
  have ha : Ix_ (a &&& 3) (lc_ 3) (ix_ (a &&& 3)) := ix_and3 a
  have hb : Ix_ (b &&& 3) (lc_ 3) (ix_ (b &&& 3)) := ix_and3 b
  refine go_in (by decide) (Nat.le_of_ble_eq_true rfl) (List.forall_mem_cons.mpr ⟨rfl, List.forall_mem_cons.mpr ⟨rfl, List.forall_mem_cons.mpr ⟨rfl, fun _ h => nomatch h⟩⟩⟩) ?_
  intro P e s m args below meth c X hr hnm hN
  replace X : Cx_ P l e (rm_d 0) s m args below meth c cd_B_transfer 3 rn_B D cl_ (tys_ T) TG_ := X
  refine go_loc (L' := [(0, .ref (ad (2 * q + 1))), (1, .int (a &&& 3)), (2, .int (b &&& 3))]) rfl ?_
  refine go_aload_n (i := 0) X rfl rfl dc_B_transfer_0 ?_
  refine gp_get (j := q) X (by first | assumption | decide) (by assumption) 0 (by decide) fl_B_13 (fun x h => u_same (X.2.2.2.2.1 _ sf_B_cells) x h) rfl dc_B_transfer_1 ?_
  refine go_iload_n (i := 1) X rfl rfl dc_B_transfer_4 ?_
  refine gp_ld (j := q) (f := σ (30 + q)) X (by assumption) rfl (by assumption) dc_B_transfer_5 ?_
  refine go_bipush (v := 10) X (by decide) dc_B_transfer_6 ?_
  refine go_icmp_ge (tgt := 13) X dc_B_transfer_8 (by decide) (fun h8 => ?_) (fun h8 => ?_)
  · obtain ⟨g1, g2⟩ := b0_y (σ := σ) (a := a) (b := b) hq (by rw [iz_lt]; rw [iz_le] at h8; omega)
    refine go_aload_n (i := 0) X rfl rfl dc_B_transfer_13 ?_
    refine gp_get (j := q) X (by first | assumption | decide) (by assumption) 0 (by decide) fl_B_13 (fun x h => u_same (X.2.2.2.2.1 _ sf_B_cells) x h) rfl dc_B_transfer_14 ?_
    refine go_iload_n (i := 1) X rfl rfl dc_B_transfer_17 ?_
    refine go_dup2 X rfl rfl dc_B_transfer_18 ?_
    refine gp_ld (j := q) (f := σ (30 + q)) X (by assumption) rfl (by assumption) dc_B_transfer_19 ?_
    refine go_bipush (v := 10) X (by decide) dc_B_transfer_20 ?_
    refine go_isub X dc_B_transfer_22 ?_
    refine gp_st (j := q) X (by assumption) (by assumption) dc_B_transfer_23 ?_
    refine go_aload_n (i := 0) X rfl rfl dc_B_transfer_24 ?_
    refine gp_get (j := q) X (by first | assumption | decide) (by assumption) 0 (by decide) fl_B_13 (fun x h => u_same (X.2.2.2.2.1 _ sf_B_cells) x h) rfl dc_B_transfer_25 ?_
    refine go_iload_n (i := 2) X rfl rfl dc_B_transfer_28 ?_
    refine go_dup2 X rfl rfl dc_B_transfer_29 ?_
    refine gp_ld (j := q) (f := upd (σ (30 + q)) (ix_ (a &&& 3)) (σ (30 + q) (ix_ (a &&& 3)) - 10)) X (by assumption) (u2_same _ _ _ _) (by assumption) dc_B_transfer_30 ?_
    refine go_bipush (v := 10) X (by decide) dc_B_transfer_31 ?_
    refine go_iadd X dc_B_transfer_33 ?_
    refine gp_st (j := q) X (by assumption) (by assumption) dc_B_transfer_34 ?_
    refine go_iconst (v := 1) X (by decide) dc_B_transfer_35 ?_
    exact go_iret X hr dc_B_transfer_36 (congrArg (cW_ T ad 3 n) g1.symm) (congrArg some (congrArg Value.int g2.symm))
  · obtain ⟨g1, g2⟩ := b0_n (σ := σ) (a := a) (b := b) hq (by rw [iz_lt]; rw [iz_le] at h8; omega)
    refine go_iconst (v := 0) X (by decide) dc_B_transfer_11 ?_
    exact go_iret X hr dc_B_transfer_12 (congrArg (cW_ T ad 3 n) g1.symm) (congrArg some (congrArg Value.int g2.symm))
set_option maxHeartbeats 4000000 in
set_option maxRecDepth 20000 in
theorem tc_perfQ (l : Launch) (D : va_G) (T : Nat → ClassId) (ad : Nat → Nat) (A : Nat → Prop) (nw : List Cond) (n : Nat) {σ : ST_} {q : Nat} {op a b : Int32} (hq : q < 3) (hz : 0 ≤ (σ 33 q).toInt ∧ (σ 33 q).toInt ≤ 8) (hop : op = 0 ∨ op = 1 ∨ op = 2) (hnw : ∀ w ∈ nwc_, w ∈ nw)  : cc_ l D T ad 0 n A nw yn_G_perform (.code yn_G_perform cd_G_perform 4 (some .int)) 1 [.ref (ad (2 * q + 1)), .int op, .int a, .int b] σ (hc_perf 0 q op a b σ) (some (.int (hc_perfR 0 q op a b σ))) := by
  refine go_in (by decide) (Nat.le_of_ble_eq_true rfl) (List.forall_mem_cons.mpr ⟨rfl, List.forall_mem_cons.mpr ⟨rfl, List.forall_mem_cons.mpr ⟨rfl, List.forall_mem_cons.mpr ⟨rfl, fun _ h => nomatch h⟩⟩⟩⟩) ?_
  intro P e s m args below meth c X hr hnm hN
  replace X : Cx_ P l e (rm_d 1) s m args below meth c cd_G_perform 4 rn_G D cl_ (tys_ T) TG_ := X
  refine go_loc (L' := [(0, .ref (ad (2 * q + 1))), (1, .int op), (2, .int a), (3, .int b)]) rfl ?_
  rcases hop with rfl | rfl | rfl
  · refine go_iload_n (i := 1) X rfl rfl dc_G_perform_0 ?_
    refine go_lookup (off := 27) (tgt := 28) X dc_G_perform_1 (by decide) (by decide) (by decide) ?_
    refine go_aload_n (i := 0) X rfl rfl dc_G_perform_28 ?_
    refine go_iload_n (i := 2) X rfl rfl dc_G_perform_29 ?_
    refine go_callW (C := rn_Q) (ci := 3) (i := 2 * q + 1) (n := 1) (rest := []) X hN (tc_putIn l D T ad A nw 0 n (σ := σ) (q := q) (a := a) (b := b) (by decide) hq hz) ml_G_7 im_G_putIn (va_Nw.use rfl (hN.2 _ (hnw _ nw_Q))) ik_G co_G_putIn ⟨by decide, by decide, by decide +kernel⟩ ⟨rfl, rfl, by decide, by decide⟩ rfl (cw_p hq) rfl rfl (Nat.le_of_ble_eq_true rfl) dc_G_perform_30 ⟨Nat.zero_le _, Nat.zero_le _⟩ ?_
    exact go_iret X hr dc_G_perform_33 rfl rfl
  · refine go_iload_n (i := 1) X rfl rfl dc_G_perform_0 ?_
    refine go_lookup (off := 33) (tgt := 34) X dc_G_perform_1 (by decide) (by decide) (by decide) ?_
    refine go_aload_n (i := 0) X rfl rfl dc_G_perform_34 ?_
    refine gp_get (j := q) (v := .int (σ 33 q)) X (by first | assumption | decide) (by assumption) 1 (by decide) fl_G_13 (fun x h => u_same (X.2.2.2.2.1 _ sf_G_count) x h) rfl dc_G_perform_35 ?_
    refine go_if_le (tgt := 48) X dc_G_perform_38 (by decide) (fun h38 => ?_) (fun h38 => ?_)
    · have ez : σ 33 q = 0 := by rw [iz_le, iz_0] at h38; rw [iz_eq, iz_0]; omega
      refine go_iconst (v := (-1)) X (by decide) dc_G_perform_48 ?_
      exact go_iret X hr dc_G_perform_49 (congrArg (cW_ T ad 0 n) (g1_0 (σ := σ) (q := q) (a := a) (b := b) (show 0 < 2 by decide) ez).1.symm) (congrArg some (congrArg Value.int (g1_0 (σ := σ) (q := q) (a := a) (b := b) (show 0 < 2 by decide) ez).2.symm))
    · have hnz : ¬ σ 33 q = 0 := by rw [iz_le, iz_0] at h38; rw [iz_eq, iz_0]; omega
      refine go_aload_n (i := 0) X rfl rfl dc_G_perform_41 ?_
      refine go_callA (C := rn_Q) (owner := rn_G) (x := ⟨"HelpedLog$Bag", "takeOut", "()I"⟩) (ci := 3) (i := 2 * q + 1) (n := 0) (rest := []) X hN (tc_takeQ l D T ad A nw n (σ := σ) (q := q) (a := a) (b := b) hq hz hnz) ml_G_17 sa_G_takeOut sl_Q_GtakeOut im_Q_takeOut ik_Q co_Q_takeOut (hnw _ nw_4) ⟨by decide, by decide, by decide +kernel⟩ ⟨rfl, rfl, by decide, by decide⟩ rfl (cw_p hq) rfl rfl (Nat.le_of_ble_eq_true rfl) dc_G_perform_42 ⟨Nat.zero_le _, Nat.zero_le _⟩ ?_
      refine go_goto (tgt := 49) X dc_G_perform_45 (by decide) ?_
      exact go_iret X hr dc_G_perform_49 rfl rfl
  · refine go_iload_n (i := 1) X rfl rfl dc_G_perform_0 ?_
    refine go_lookup (off := 49) (tgt := 50) X dc_G_perform_1 (by decide) (by decide) (by decide) ?_
    refine go_aload_n (i := 0) X rfl rfl dc_G_perform_50 ?_
    refine gp_get (j := q) (v := .int (σ 33 q)) X (by first | assumption | decide) (by assumption) 1 (by decide) fl_G_13 (fun x h => u_same (X.2.2.2.2.1 _ sf_G_count) x h) rfl dc_G_perform_51 ?_
    exact go_iret X hr dc_G_perform_54 (congrArg (cW_ T ad 0 n) (g2 (σ := σ) (q := q) (a := a) (b := b) (show 0 < 2 by decide)).1.symm) (congrArg some (congrArg Value.int (g2 (σ := σ) (q := q) (a := a) (b := b) (show 0 < 2 by decide)).2.symm))
set_option maxHeartbeats 4000000 in
set_option maxRecDepth 20000 in
theorem tc_perfS (l : Launch) (D : va_G) (T : Nat → ClassId) (ad : Nat → Nat) (A : Nat → Prop) (nw : List Cond) (n : Nat) {σ : ST_} {q : Nat} {op a b : Int32} (hq : q < 3) (hz : 0 ≤ (σ 33 q).toInt ∧ (σ 33 q).toInt ≤ 8) (hop : op = 0 ∨ op = 1 ∨ op = 2) (hnw : ∀ w ∈ nwc_, w ∈ nw)  : cc_ l D T ad 1 n A nw yn_G_perform (.code yn_G_perform cd_G_perform 4 (some .int)) 1 [.ref (ad (2 * q + 1)), .int op, .int a, .int b] σ (hc_perf 1 q op a b σ) (some (.int (hc_perfR 1 q op a b σ))) := by
  refine go_in (by decide) (Nat.le_of_ble_eq_true rfl) (List.forall_mem_cons.mpr ⟨rfl, List.forall_mem_cons.mpr ⟨rfl, List.forall_mem_cons.mpr ⟨rfl, List.forall_mem_cons.mpr ⟨rfl, fun _ h => nomatch h⟩⟩⟩⟩) ?_
  intro P e s m args below meth c X hr hnm hN
  replace X : Cx_ P l e (rm_d 1) s m args below meth c cd_G_perform 4 rn_G D cl_ (tys_ T) TG_ := X
  refine go_loc (L' := [(0, .ref (ad (2 * q + 1))), (1, .int op), (2, .int a), (3, .int b)]) rfl ?_
  rcases hop with rfl | rfl | rfl
  · refine go_iload_n (i := 1) X rfl rfl dc_G_perform_0 ?_
    refine go_lookup (off := 27) (tgt := 28) X dc_G_perform_1 (by decide) (by decide) (by decide) ?_
    refine go_aload_n (i := 0) X rfl rfl dc_G_perform_28 ?_
    refine go_iload_n (i := 2) X rfl rfl dc_G_perform_29 ?_
    refine go_callW (C := rn_S) (ci := 4) (i := 2 * q + 1) (n := 1) (rest := []) X hN (tc_putIn l D T ad A nw 1 n (σ := σ) (q := q) (a := a) (b := b) (by decide) hq hz) ml_G_7 im_G_putIn (va_Nw.use rfl (hN.2 _ (hnw _ nw_S))) ik_G co_G_putIn ⟨by decide, by decide, by decide +kernel⟩ ⟨rfl, rfl, by decide, by decide⟩ rfl (cw_p hq) rfl rfl (Nat.le_of_ble_eq_true rfl) dc_G_perform_30 ⟨Nat.zero_le _, Nat.zero_le _⟩ ?_
    exact go_iret X hr dc_G_perform_33 rfl rfl
  · refine go_iload_n (i := 1) X rfl rfl dc_G_perform_0 ?_
    refine go_lookup (off := 33) (tgt := 34) X dc_G_perform_1 (by decide) (by decide) (by decide) ?_
    refine go_aload_n (i := 0) X rfl rfl dc_G_perform_34 ?_
    refine gp_get (j := q) (v := .int (σ 33 q)) X (by first | assumption | decide) (by assumption) 1 (by decide) fl_G_13 (fun x h => u_same (X.2.2.2.2.1 _ sf_G_count) x h) rfl dc_G_perform_35 ?_
    refine go_if_le (tgt := 48) X dc_G_perform_38 (by decide) (fun h38 => ?_) (fun h38 => ?_)
    · have ez : σ 33 q = 0 := by rw [iz_le, iz_0] at h38; rw [iz_eq, iz_0]; omega
      refine go_iconst (v := (-1)) X (by decide) dc_G_perform_48 ?_
      exact go_iret X hr dc_G_perform_49 (congrArg (cW_ T ad 1 n) (g1_0 (σ := σ) (q := q) (a := a) (b := b) (show 1 < 2 by decide) ez).1.symm) (congrArg some (congrArg Value.int (g1_0 (σ := σ) (q := q) (a := a) (b := b) (show 1 < 2 by decide) ez).2.symm))
    · have hnz : ¬ σ 33 q = 0 := by rw [iz_le, iz_0] at h38; rw [iz_eq, iz_0]; omega
      refine go_aload_n (i := 0) X rfl rfl dc_G_perform_41 ?_
      refine go_callA (C := rn_S) (owner := rn_G) (x := ⟨"HelpedLog$Bag", "takeOut", "()I"⟩) (ci := 4) (i := 2 * q + 1) (n := 0) (rest := []) X hN (tc_takeS l D T ad A nw n (σ := σ) (q := q) (a := a) (b := b) hq hz hnz) ml_G_17 sa_G_takeOut sl_S_GtakeOut im_S_takeOut ik_S co_S_takeOut (hnw _ nw_4) ⟨by decide, by decide, by decide +kernel⟩ ⟨rfl, rfl, by decide, by decide⟩ rfl (cw_p hq) rfl rfl (Nat.le_of_ble_eq_true rfl) dc_G_perform_42 ⟨Nat.zero_le _, Nat.zero_le _⟩ ?_
      refine go_goto (tgt := 49) X dc_G_perform_45 (by decide) ?_
      exact go_iret X hr dc_G_perform_49 rfl rfl
  · refine go_iload_n (i := 1) X rfl rfl dc_G_perform_0 ?_
    refine go_lookup (off := 49) (tgt := 50) X dc_G_perform_1 (by decide) (by decide) (by decide) ?_
    refine go_aload_n (i := 0) X rfl rfl dc_G_perform_50 ?_
    refine gp_get (j := q) (v := .int (σ 33 q)) X (by first | assumption | decide) (by assumption) 1 (by decide) fl_G_13 (fun x h => u_same (X.2.2.2.2.1 _ sf_G_count) x h) rfl dc_G_perform_51 ?_
    exact go_iret X hr dc_G_perform_54 (congrArg (cW_ T ad 1 n) (g2 (σ := σ) (q := q) (a := a) (b := b) (show 1 < 2 by decide)).1.symm) (congrArg some (congrArg Value.int (g2 (σ := σ) (q := q) (a := a) (b := b) (show 1 < 2 by decide)).2.symm))
set_option maxHeartbeats 4000000 in
set_option maxRecDepth 20000 in
theorem tc_perfT (l : Launch) (D : va_G) (T : Nat → ClassId) (ad : Nat → Nat) (A : Nat → Prop) (nw : List Cond) (n : Nat) {σ : ST_} {q : Nat} {op a b : Int32} (hq : q < 3) (hop : op = 0 ∨ op = 1 ∨ op = 2)  : cc_ l D T ad 2 n A nw yn_T_perform (.code yn_T_perform cd_T_perform 6 (some .int)) 1 [.ref (ad (2 * q + 1)), .int op, .int a, .int b] σ (hc_perf 2 q op a b σ) (some (.int (hc_perfR 2 q op a b σ))) := by
  refine go_in (by decide) (Nat.le_of_ble_eq_true rfl) (List.forall_mem_cons.mpr ⟨rfl, List.forall_mem_cons.mpr ⟨rfl, List.forall_mem_cons.mpr ⟨rfl, List.forall_mem_cons.mpr ⟨rfl, fun _ h => nomatch h⟩⟩⟩⟩) ?_
  intro P e s m args below meth c X hr hnm hN
  replace X : Cx_ P l e (rm_d 1) s m args below meth c cd_T_perform 6 rn_T D cl_ (tys_ T) TG_ := X
  refine go_loc (L' := [(0, .ref (ad (2 * q + 1))), (1, .int op), (2, .int a), (3, .int b)]) rfl ?_
  have ha : Ix_ (a &&& 7) (lc_ 2) (ix_ (a &&& 7)) := ix_and7 a
  rcases hop with rfl | rfl | rfl
  · refine go_iload_n (i := 2) X rfl rfl dc_T_perform_0 ?_
    refine go_bipush (v := 7) X (by decide) dc_T_perform_1 ?_
    refine go_iand X dc_T_perform_3 ?_
    refine go_istore (i := 4) X (by decide) dc_T_perform_4 ?_
    refine go_iload_n (i := 1) X rfl rfl dc_T_perform_6 ?_
    refine go_lookup (off := 25) (tgt := 32) X dc_T_perform_7 (by decide) (by decide) (by decide) ?_
    refine go_aload_n (i := 0) X rfl rfl dc_T_perform_32 ?_
    refine gp_get (j := q) X (by first | assumption | decide) (by assumption) 0 (by decide) fl_T_7 (fun x h => u_same (X.2.2.2.2.1 _ sf_T_cells) x h) rfl dc_T_perform_33 ?_
    refine go_iload (i := 4) X rfl dc_T_perform_36 ?_
    refine gp_ld (j := q) (f := σ (30 + q)) X (by assumption) rfl (by assumption) dc_T_perform_38 ?_
    refine go_istore (i := 5) X (by decide) dc_T_perform_39 ?_
    refine go_aload_n (i := 0) X rfl rfl dc_T_perform_41 ?_
    refine gp_get (j := q) X (by first | assumption | decide) (by assumption) 0 (by decide) fl_T_7 (fun x h => u_same (X.2.2.2.2.1 _ sf_T_cells) x h) rfl dc_T_perform_42 ?_
    refine go_iload (i := 4) X rfl dc_T_perform_45 ?_
    refine go_iload_n (i := 3) X rfl rfl dc_T_perform_47 ?_
    refine gp_st (j := q) X (by assumption) (by assumption) dc_T_perform_48 ?_
    refine go_iload (i := 5) X rfl dc_T_perform_49 ?_
    exact go_iret X hr dc_T_perform_51 (congrArg (cW_ T ad 2 n) (t0 (σ := σ) (a := a) (b := b) hq).1.symm) (congrArg some (congrArg Value.int (t0 (σ := σ) (a := a) (b := b) hq).2.symm))
  · refine go_iload_n (i := 2) X rfl rfl dc_T_perform_0 ?_
    refine go_bipush (v := 7) X (by decide) dc_T_perform_1 ?_
    refine go_iand X dc_T_perform_3 ?_
    refine go_istore (i := 4) X (by decide) dc_T_perform_4 ?_
    refine go_iload_n (i := 1) X rfl rfl dc_T_perform_6 ?_
    refine go_lookup (off := 45) (tgt := 52) X dc_T_perform_7 (by decide) (by decide) (by decide) ?_
    refine go_aload_n (i := 0) X rfl rfl dc_T_perform_52 ?_
    refine gp_get (j := q) X (by first | assumption | decide) (by assumption) 0 (by decide) fl_T_7 (fun x h => u_same (X.2.2.2.2.1 _ sf_T_cells) x h) rfl dc_T_perform_53 ?_
    refine go_iload (i := 4) X rfl dc_T_perform_56 ?_
    refine gp_ld (j := q) (f := σ (30 + q)) X (by assumption) rfl (by assumption) dc_T_perform_58 ?_
    exact go_iret X hr dc_T_perform_59 (congrArg (cW_ T ad 2 n) (t1 (σ := σ) (a := a) (b := b) hq).1.symm) (congrArg some (congrArg Value.int (t1 (σ := σ) (a := a) (b := b) hq).2.symm))
  · refine go_iload_n (i := 2) X rfl rfl dc_T_perform_0 ?_
    refine go_bipush (v := 7) X (by decide) dc_T_perform_1 ?_
    refine go_iand X dc_T_perform_3 ?_
    refine go_istore (i := 4) X (by decide) dc_T_perform_4 ?_
    refine go_iload_n (i := 1) X rfl rfl dc_T_perform_6 ?_
    refine go_lookup (off := 53) (tgt := 60) X dc_T_perform_7 (by decide) (by decide) (by decide) ?_
    refine go_aload_n (i := 0) X rfl rfl dc_T_perform_60 ?_
    refine go_cV (C := rn_T) (ci := 5) (i := 2 * q + 1) (n := 0) (rest := []) X hN (tc_sum l D T ad A nw n (σ := σ) (q := q) hq) ml_T_13 im_T_sum sl_T_Tsum ik_T co_T_sum ⟨rfl, by decide, by decide, by decide +kernel⟩ ⟨rfl, rfl, by decide, by decide⟩ rfl (cw_p hq) rfl rfl (Nat.le_of_ble_eq_true rfl) dc_T_perform_61 ⟨Nat.zero_le _, Nat.zero_le _⟩ ?_
    exact go_iret X hr dc_T_perform_64 (congrArg (cW_ T ad 2 n) (t2 (σ := σ) (a := a) (b := b) hq).1.symm) (congrArg some (congrArg Value.int (t2 (σ := σ) (a := a) (b := b) hq).2.symm))
set_option maxHeartbeats 4000000 in
set_option maxRecDepth 20000 in
theorem tc_perfB (l : Launch) (D : va_G) (T : Nat → ClassId) (ad : Nat → Nat) (A : Nat → Prop) (nw : List Cond) (n : Nat) {σ : ST_} {q : Nat} {op a b : Int32} (hq : q < 3) (hop : op = 0 ∨ op = 1 ∨ op = 2)  : cc_ l D T ad 3 n A nw yn_B_perform (.code yn_B_perform cd_B_perform 5 (some .int)) 1 [.ref (ad (2 * q + 1)), .int op, .int a, .int b] σ (hc_perf 3 q op a b σ) (some (.int (hc_perfR 3 q op a b σ))) := by
  refine go_in (by decide) (Nat.le_of_ble_eq_true rfl) (List.forall_mem_cons.mpr ⟨rfl, List.forall_mem_cons.mpr ⟨rfl, List.forall_mem_cons.mpr ⟨rfl, List.forall_mem_cons.mpr ⟨rfl, fun _ h => nomatch h⟩⟩⟩⟩) ?_
  intro P e s m args below meth c X hr hnm hN
  replace X : Cx_ P l e (rm_d 1) s m args below meth c cd_B_perform 5 rn_B D cl_ (tys_ T) TG_ := X
  refine go_loc (L' := [(0, .ref (ad (2 * q + 1))), (1, .int op), (2, .int a), (3, .int b)]) rfl ?_
  have ha : Ix_ (a &&& 3) (lc_ 3) (ix_ (a &&& 3)) := ix_and3 a
  rcases hop with rfl | rfl | rfl
  · refine go_iload_n (i := 2) X rfl rfl dc_B_perform_0 ?_
    refine go_iconst (v := 3) X (by decide) dc_B_perform_1 ?_
    refine go_iand X dc_B_perform_2 ?_
    refine go_istore (i := 4) X (by decide) dc_B_perform_3 ?_
    refine go_iload_n (i := 1) X rfl rfl dc_B_perform_5 ?_
    refine go_lookup (off := 26) (tgt := 32) X dc_B_perform_6 (by decide) (by decide) (by decide) ?_
    refine go_aload_n (i := 0) X rfl rfl dc_B_perform_32 ?_
    refine go_iload (i := 4) X rfl dc_B_perform_33 ?_
    refine go_iload_n (i := 3) X rfl rfl dc_B_perform_35 ?_
    refine go_iconst (v := 3) X (by decide) dc_B_perform_36 ?_
    refine go_iand X dc_B_perform_37 ?_
    refine go_cV (C := rn_B) (ci := 6) (i := 2 * q + 1) (n := 2) (rest := []) X hN (tc_transfer l D T ad A nw n (σ := σ) (q := q) (a := a) (b := b) hq) ml_B_7 im_B_transfer sl_B_Btransfer ik_B co_B_transfer ⟨rfl, by decide, by decide, by decide +kernel⟩ ⟨rfl, rfl, by decide, by decide⟩ rfl (cw_p hq) rfl rfl (Nat.le_of_ble_eq_true rfl) dc_B_perform_38 ⟨Nat.zero_le _, Nat.zero_le _⟩ ?_
    exact go_iret X hr dc_B_perform_41 rfl rfl
  · refine go_iload_n (i := 2) X rfl rfl dc_B_perform_0 ?_
    refine go_iconst (v := 3) X (by decide) dc_B_perform_1 ?_
    refine go_iand X dc_B_perform_2 ?_
    refine go_istore (i := 4) X (by decide) dc_B_perform_3 ?_
    refine go_iload_n (i := 1) X rfl rfl dc_B_perform_5 ?_
    refine go_lookup (off := 36) (tgt := 42) X dc_B_perform_6 (by decide) (by decide) (by decide) ?_
    refine go_aload_n (i := 0) X rfl rfl dc_B_perform_42 ?_
    refine gp_get (j := q) X (by first | assumption | decide) (by assumption) 0 (by decide) fl_B_13 (fun x h => u_same (X.2.2.2.2.1 _ sf_B_cells) x h) rfl dc_B_perform_43 ?_
    refine go_iload (i := 4) X rfl dc_B_perform_46 ?_
    refine gp_ld (j := q) (f := σ (30 + q)) X (by assumption) rfl (by assumption) dc_B_perform_48 ?_
    exact go_iret X hr dc_B_perform_49 (congrArg (cW_ T ad 3 n) (b1 (σ := σ) (a := a) (b := b) hq).1.symm) (congrArg some (congrArg Value.int (b1 (σ := σ) (a := a) (b := b) hq).2.symm))
  · refine go_iload_n (i := 2) X rfl rfl dc_B_perform_0 ?_
    refine go_iconst (v := 3) X (by decide) dc_B_perform_1 ?_
    refine go_iand X dc_B_perform_2 ?_
    refine go_istore (i := 4) X (by decide) dc_B_perform_3 ?_
    refine go_iload_n (i := 1) X rfl rfl dc_B_perform_5 ?_
    refine go_lookup (off := 44) (tgt := 50) X dc_B_perform_6 (by decide) (by decide) (by decide) ?_
    refine go_aload_n (i := 0) X rfl rfl dc_B_perform_50 ?_
    refine gp_get (j := q) X (by first | assumption | decide) (by assumption) 0 (by decide) fl_B_13 (fun x h => u_same (X.2.2.2.2.1 _ sf_B_cells) x h) rfl dc_B_perform_51 ?_
    refine go_iload (i := 4) X rfl dc_B_perform_54 ?_
    refine go_dup2 X rfl rfl dc_B_perform_56 ?_
    refine gp_ld (j := q) (f := σ (30 + q)) X (by assumption) rfl (by assumption) dc_B_perform_57 ?_
    refine go_iload_n (i := 3) X rfl rfl dc_B_perform_58 ?_
    refine go_iadd X dc_B_perform_59 ?_
    refine gp_st (j := q) X (by assumption) (by assumption) dc_B_perform_60 ?_
    refine go_aload_n (i := 0) X rfl rfl dc_B_perform_61 ?_
    refine gp_get (j := q) X (by first | assumption | decide) (by assumption) 0 (by decide) fl_B_13 (fun x h => u_same (X.2.2.2.2.1 _ sf_B_cells) x h) rfl dc_B_perform_62 ?_
    refine go_iload (i := 4) X rfl dc_B_perform_65 ?_
    refine gp_ld (j := q) (f := upd (σ (30 + q)) (ix_ (a &&& 3)) (σ (30 + q) (ix_ (a &&& 3)) + b)) X (by assumption) (u2_same _ _ _ _) (by assumption) dc_B_perform_67 ?_
    rw [pk_us]
    exact go_iret X hr dc_B_perform_68 (congrArg (cW_ T ad 3 n) (b2 (σ := σ) (a := a) (b := b) hq).1.symm) (congrArg some (congrArg Value.int (b2 (σ := σ) (a := a) (b := b) hq).2.symm))
end C3

section M3
set_option maxHeartbeats 4000000 in
set_option maxRecDepth 20000 in
theorem tm_act (l : Launch) (D : va_G) (T : Nat → ClassId) (ad : Nat → Nat) (A : Nat → Prop) (nw : List Cond) (K n : Nat) {ρ : ST_} {op a b : Int32} (hK : K < 4) (hz : 0 ≤ (ρ 0 2).toInt ∧ (ρ 0 2).toInt ≤ 8) : cm_ l D T ad K n A nw yn_M_act (.code yn_M_act cd_M_act 4 (some .int)) 1 [.int op, .int a, .int b] ρ (hm_act K op a b ρ) (some (.int (hm_actR K op a b ρ))) := by
  refine go_in (by decide) (Nat.le_of_ble_eq_true rfl) (List.forall_mem_cons.mpr ⟨rfl, List.forall_mem_cons.mpr ⟨rfl, List.forall_mem_cons.mpr ⟨rfl, List.forall_mem_cons.mpr ⟨rfl, fun _ h => nomatch h⟩⟩⟩⟩) ?_
  intro P e s m args below meth c X hr hnm hN
  replace X : Cx_ P l e (rm_d 1) s m args below meth c cd_M_act 4 rn_M D cl_ (tys_ T) TG_ := X
  refine go_loc (L' := [(0, .ref (ad 0)), (1, .int op), (2, .int a), (3, .int b)]) rfl ?_
  first | refine go_aload_n (i := 0) X rfl rfl dc_M_act_0 ?_ | refine go_aloadN_n (i := 0) X rfl rfl dc_M_act_0 ?_
  refine gm_get X 1 (by decide) fl_M_86 rfl dc_M_act_1 ?_
  refine go_iconst (v := 2) X (by decide) dc_M_act_4 ?_
  refine go_icmp_ge (tgt := 17) X dc_M_act_5 (by decide) (fun h5 => ?_) (fun h5 => ?_)
  · have k2 : ¬ K < 2 := by rw [iz_le, iz_2, iz_nI (by omega)] at h5; omega
    first | refine go_aload_n (i := 0) X rfl rfl dc_M_act_17 ?_ | refine go_aloadN_n (i := 0) X rfl rfl dc_M_act_17 ?_
    refine gm_get X 1 (by decide) fl_M_86 rfl dc_M_act_18 ?_
    refine go_iconst (v := 2) X (by decide) dc_M_act_21 ?_
    refine go_icmp_ne (tgt := 35) X dc_M_act_22 (by decide) (fun h22 => ?_) (fun h22 => ?_)
    · have k3 : ¬ K = 2 := fun q => h22 (by rw [q]; rfl)
      have hpa : pa_ K op a b (ρ 24) (ρ 0 2) = pb_ op a b (ρ 24) (ρ 0 2) := by unfold pa_; rw [if_neg k2, if_neg k3]
      first | refine go_aload_n (i := 0) X rfl rfl dc_M_act_35 ?_ | refine go_aloadN_n (i := 0) X rfl rfl dc_M_act_35 ?_
      refine go_iload_n (i := 1) X rfl rfl dc_M_act_36 ?_
      refine go_iload_n (i := 2) X rfl rfl dc_M_act_37 ?_
      refine go_iload_n (i := 3) X rfl rfl dc_M_act_38 ?_
      refine go_cV (C := rn_M) (ci := 7) (i := 0) (n := 3) (rest := []) X hN (tm_bank l D T ad A nw K n) ml_M_113 im_M_bank sl_M_Mbank ik_M co_M_bank ⟨rfl, by decide, by decide, by decide +kernel⟩ ⟨rfl, rfl, by decide, by decide⟩ rfl (wl_at (by decide)) rfl rfl (Nat.le_of_ble_eq_true rfl) dc_M_act_39 ⟨Nat.zero_le _, Nat.zero_le _⟩ ?_
      exact go_iret X hr dc_M_act_42 (congrArg (mW_ T ad K n) (by unfold hm_act; rw [hpa])) (congrArg some (congrArg Value.int (by unfold hm_actR; rw [hpa])))
    · have k3 : K = 2 := (nI_K hK 2 (by decide)).mp h22
      have hpa : pa_ K op a b (ρ 24) (ρ 0 2) = pt_ op a b (ρ 24) (ρ 0 2) := by unfold pa_; rw [if_neg k2, if_pos k3]
      first | refine go_aload_n (i := 0) X rfl rfl dc_M_act_25 ?_ | refine go_aloadN_n (i := 0) X rfl rfl dc_M_act_25 ?_
      refine go_iload_n (i := 1) X rfl rfl dc_M_act_26 ?_
      refine go_iload_n (i := 2) X rfl rfl dc_M_act_27 ?_
      refine go_iload_n (i := 3) X rfl rfl dc_M_act_28 ?_
      refine go_cV (C := rn_M) (ci := 7) (i := 0) (n := 3) (rest := []) X hN (tm_table l D T ad A nw K n) ml_M_109 im_M_table sl_M_Mtable ik_M co_M_table ⟨rfl, by decide, by decide, by decide +kernel⟩ ⟨rfl, rfl, by decide, by decide⟩ rfl (wl_at (by decide)) rfl rfl (Nat.le_of_ble_eq_true rfl) dc_M_act_29 ⟨Nat.zero_le _, Nat.zero_le _⟩ ?_
      refine go_goto (tgt := 42) X dc_M_act_32 (by decide) ?_
      exact go_iret X hr dc_M_act_42 (congrArg (mW_ T ad K n) (by unfold hm_act; rw [hpa])) (congrArg some (congrArg Value.int (by unfold hm_actR; rw [hpa])))
  · have k2 : K < 2 := by rw [iz_le, iz_2, iz_nI (by omega)] at h5; omega
    have hpa : pa_ K op a b (ρ 24) (ρ 0 2) = pq_ K op a (ρ 24) (ρ 0 2) := by unfold pa_; rw [if_pos k2]
    first | refine go_aload_n (i := 0) X rfl rfl dc_M_act_8 ?_ | refine go_aloadN_n (i := 0) X rfl rfl dc_M_act_8 ?_
    refine go_iload_n (i := 1) X rfl rfl dc_M_act_9 ?_
    refine go_iload_n (i := 2) X rfl rfl dc_M_act_10 ?_
    refine go_cV (C := rn_M) (ci := 7) (i := 0) (n := 2) (rest := []) X hN (tm_queue l D T ad A nw K n (by omega) hz) ml_M_105 im_M_queue sl_M_Mqueue ik_M co_M_queue ⟨rfl, by decide, by decide, by decide +kernel⟩ ⟨rfl, rfl, by decide, by decide⟩ rfl (wl_at (by decide)) rfl rfl (Nat.le_of_ble_eq_true rfl) dc_M_act_11 ⟨Nat.zero_le _, Nat.zero_le _⟩ ?_
    refine go_goto (tgt := 42) X dc_M_act_14 (by decide) ?_
    exact go_iret X hr dc_M_act_42 (congrArg (mW_ T ad K n) (by unfold hm_act; rw [hpa])) (congrArg some (congrArg Value.int (by unfold hm_actR; rw [hpa])))
set_option maxHeartbeats 4000000 in
set_option maxRecDepth 20000 in
theorem tm_replay (l : Launch) (D : va_G) (T : Nat → ClassId) (ad : Nat → Nat) (A : Nat → Prop) (nw : List Cond) (K n : Nat) {ρ : ST_} {x : Int32} {J : Nat} (hK : K < 4) (hx : x = nI (J + 1)) (hJ : J + 1 < 600) : cm_ l D T ad K n A nw yn_M_replay (.code yn_M_replay cd_M_replay 4 (some .int)) 2 [.int x] ρ (hm_rep K J ρ) (some (.int (hm_repR K J ρ))) := by
  refine go_in (by decide) (Nat.le_of_ble_eq_true rfl) (List.forall_mem_cons.mpr ⟨rfl, List.forall_mem_cons.mpr ⟨rfl, fun _ h => nomatch h⟩⟩) ?_
  intro P e s m args below meth c X hr hnm hN
  replace X : Cx_ P l e (rm_d 2) s m args below meth c cd_M_replay 4 rn_M D cl_ (tys_ T) TG_ := X
  refine go_loc (L' := [(0, .ref (ad 0)), (1, .int x)]) rfl ?_
  first | refine go_aload_n (i := 0) X rfl rfl dc_M_replay_0 ?_ | refine go_aloadN_n (i := 0) X rfl rfl dc_M_replay_0 ?_
  refine go_cVv (C := rn_M) (ci := 7) (i := 0) (n := 0) (rest := []) X hN (tm_begin l D T ad A nw K n hK) ml_M_96 im_M_begin sl_M_Mbegin ik_M co_M_begin ⟨rfl, by decide, by decide, by decide +kernel⟩ ⟨rfl, rfl, by decide, by decide⟩ rfl (wl_at (by decide)) rfl rfl (Nat.le_of_ble_eq_true rfl) dc_M_replay_1 ⟨Nat.zero_le _, Nat.zero_le _⟩ ?_
  refine go_iconst (v := 0) X (by decide) dc_M_replay_4 ?_
  refine go_istore_n (i := 2) X rfl (by decide) dc_M_replay_5 ?_
  refine go_iconst (v := nI (0 + 2)) X (by decide) dc_M_replay_6 ?_
  refine go_istore_n (i := 3) X rfl (by decide) dc_M_replay_7 ?_
  refine go_loc (L' := [(0, .ref (ad 0)), (1, .int x), (2, .int (rs_ K (ρ 21) (ρ 22) (ρ 23) 0).2.2), (3, .int (nI (0 + 2)))]) rfl ?_
  refine go_eqw (w' := mW_ T ad K n (hm_rep K 0 ρ)) (congrArg _ (hm_rep0 K ρ)) ?_
  refine (lp_up (P := fun j => Go_ P l e (rm_d 2) s m args below meth c D cl_ A 4 0 0 _ (mW_ T ad K n (hm_rep K j ρ)) 8 [(0, .ref (ad 0)), (1, .int x), (2, .int (rs_ K (ρ 21) (ρ 22) (ρ 23) j).2.2), (3, .int (nI (j + 2)))] []) J (fun j hj ih => ?_)) 0 (Nat.zero_le _)
  refine go_iload_n (i := 3) X rfl rfl dc_M_replay_8 ?_
  refine go_iload_n (i := 1) X rfl rfl dc_M_replay_9 ?_
  refine go_icmp_gt (tgt := 42) X dc_M_replay_10 (by decide) (fun h10 => ?_) (fun h10 => ?_)
  · have ej : j = J := by rw [hx, iz_lt, iz_nI (by omega), iz_nI (by omega)] at h10; omega
    subst ej
    refine go_iload_n (i := 2) X rfl rfl dc_M_replay_42 ?_
    exact go_iret X hr dc_M_replay_43 rfl rfl
  · have hlt : j < J := by rw [hx, iz_lt, iz_nI (by omega), iz_nI (by omega)] at h10; omega
    have l21 : lm_ 21 = 600 := by decide
    have l22 : lm_ 22 = 600 := by decide
    have l23 : lm_ 23 = 600 := by decide
    have hx1 : Ix_ (nI (j + 2)) (lm_ 21) (j + 2) := by rw [l21]; exact Ix_n (by omega) (by decide)
    have hx2 : Ix_ (nI (j + 2)) (lm_ 22) (j + 2) := by rw [l22]; exact Ix_n (by omega) (by decide)
    have hx3 : Ix_ (nI (j + 2)) (lm_ 23) (j + 2) := by rw [l23]; exact Ix_n (by omega) (by decide)
    first | refine go_aload_n (i := 0) X rfl rfl dc_M_replay_13 ?_ | refine go_aloadN_n (i := 0) X rfl rfl dc_M_replay_13 ?_
    first | refine go_aload_n (i := 0) X rfl rfl dc_M_replay_14 ?_ | refine go_aloadN_n (i := 0) X rfl rfl dc_M_replay_14 ?_
    refine gm_get X 24 (by decide) fl_M_71 rfl dc_M_replay_15 ?_
    refine go_iload_n (i := 3) X rfl rfl dc_M_replay_18 ?_
    refine gm_ld (f := ρ 21) X rfl (by decide) hx1 dc_M_replay_19 ?_
    first | refine go_aload_n (i := 0) X rfl rfl dc_M_replay_20 ?_ | refine go_aloadN_n (i := 0) X rfl rfl dc_M_replay_20 ?_
    refine gm_get X 25 (by decide) fl_M_74 rfl dc_M_replay_21 ?_
    refine go_iload_n (i := 3) X rfl rfl dc_M_replay_24 ?_
    refine gm_ld (f := ρ 22) X rfl (by decide) hx2 dc_M_replay_25 ?_
    first | refine go_aload_n (i := 0) X rfl rfl dc_M_replay_26 ?_ | refine go_aloadN_n (i := 0) X rfl rfl dc_M_replay_26 ?_
    refine gm_get X 26 (by decide) fl_M_77 rfl dc_M_replay_27 ?_
    refine go_iload_n (i := 3) X rfl rfl dc_M_replay_30 ?_
    refine gm_ld (f := ρ 23) X rfl (by decide) hx3 dc_M_replay_31 ?_
    refine go_cV (C := rn_M) (ci := 7) (i := 0) (n := 3) (rest := []) X hN (tm_act l D T ad A nw K n (ρ := hm_rep K j ρ) hK (rs_z K (ρ 21) (ρ 22) (ρ 23) j)) ml_M_116 im_M_act sl_M_Mact ik_M co_M_act ⟨rfl, by decide, by decide, by decide +kernel⟩ ⟨rfl, rfl, by decide, by decide⟩ rfl (wl_at (by decide)) rfl rfl (Nat.le_of_ble_eq_true rfl) dc_M_replay_32 ⟨Nat.zero_le _, Nat.zero_le _⟩ ?_
    refine go_istore_n (i := 2) X rfl (by decide) dc_M_replay_35 ?_
    refine go_iinc (i := 3) (v := nI (j + 1 + 2)) X rfl (by rw [lit1, nI_1, show j + 2 + 1 = j + 1 + 2 by omega]) (by decide) dc_M_replay_36 ?_
    refine go_goto (tgt := 8) X dc_M_replay_39 (by decide) ?_
    refine go_loc (L' := [(0, .ref (ad 0)), (1, .int x), (2, .int (rs_ K (ρ 21) (ρ 22) (ρ 23) (j + 1)).2.2), (3, .int (nI ((j + 1) + 2)))]) rfl ?_
    refine go_eqw (w' := mW_ T ad K n (hm_rep K (j + 1) ρ)) (congrArg _ (hm_reps K j ρ)) ?_
    exact ih (by omega)
set_option maxHeartbeats 4000000 in
set_option maxRecDepth 20000 in
theorem tm_finish (l : Launch) (D : va_G) (T : Nat → ClassId) (ad : Nat → Nat) (A : Nat → Prop) (nw : List Cond) (K n : Nat) {ρ : ST_} {p : Nat} (hn : n ≤ 5) (hp : Ix_ (nI p) 5 p) {J : Nat} (hK : K < 4) (h12 : Ix_ (ρ 12 p) 32 (ix_ (ρ 12 p))) (hJ : ρ 2 (ix_ (ρ 12 p)) = nI (J + 1)) (hJ6 : J + 1 < 600) : cm_ l D T ad K n A nw yn_M_finish (.code yn_M_finish cd_M_finish 2 (some .int)) 3 [.int (nI p)] ρ (hm_fin K ρ p) (some (.int 1)) := by
  have eJ : ix_ (ρ 2 (ix_ (ρ 12 p))) - 1 = J := by rw [hJ, show ix_ (nI (J + 1)) = J + 1 from nI_clamp (by omega)]; rfl
  refine go_in (by decide) (Nat.le_of_ble_eq_true rfl) (List.forall_mem_cons.mpr ⟨rfl, List.forall_mem_cons.mpr ⟨rfl, fun _ h => nomatch h⟩⟩) ?_
  intro P e s m args below meth c X hr hnm hN
  replace X : Cx_ P l e (rm_d 3) s m args below meth c cd_M_finish 2 rn_M D cl_ (tys_ T) TG_ := X
  refine go_loc (L' := [(0, .ref (ad 0)), (1, .int (nI p))]) rfl ?_
  first | refine go_aload_n (i := 0) X rfl rfl dc_M_finish_0 ?_ | refine go_aloadN_n (i := 0) X rfl rfl dc_M_finish_0 ?_
  refine gm_get X 10 (by decide) fl_M_32 rfl dc_M_finish_1 ?_
  refine go_iload_n (i := 1) X rfl rfl dc_M_finish_4 ?_
  first | refine go_aload_n (i := 0) X rfl rfl dc_M_finish_5 ?_ | refine go_aloadN_n (i := 0) X rfl rfl dc_M_finish_5 ?_
  refine gm_get X 14 (by decide) fl_M_44 rfl dc_M_finish_6 ?_
  refine go_iload_n (i := 1) X rfl rfl dc_M_finish_9 ?_
  refine gm_ld (f := ρ 12) X rfl (by decide) (by assumption) dc_M_finish_10 ?_
  refine gm_st X (by decide) (by assumption) dc_M_finish_11 ?_
  first | refine go_aload_n (i := 0) X rfl rfl dc_M_finish_12 ?_ | refine go_aloadN_n (i := 0) X rfl rfl dc_M_finish_12 ?_
  refine gm_get X 11 (by decide) fl_M_35 rfl dc_M_finish_13 ?_
  refine go_iload_n (i := 1) X rfl rfl dc_M_finish_16 ?_
  refine go_iconst (v := (-1)) X (by decide) dc_M_finish_17 ?_
  refine gm_st X (by decide) (by assumption) dc_M_finish_18 ?_
  first | refine go_aload_n (i := 0) X rfl rfl dc_M_finish_19 ?_ | refine go_aloadN_n (i := 0) X rfl rfl dc_M_finish_19 ?_
  refine gm_get X 22 (by decide) fl_M_68 rfl dc_M_finish_20 ?_
  refine go_iload_n (i := 1) X rfl rfl dc_M_finish_23 ?_
  first | refine go_aload_n (i := 0) X rfl rfl dc_M_finish_24 ?_ | refine go_aloadN_n (i := 0) X rfl rfl dc_M_finish_24 ?_
  refine gm_get X 4 (by decide) fl_M_13 rfl dc_M_finish_25 ?_
  first | refine go_aload_n (i := 0) X rfl rfl dc_M_finish_28 ?_ | refine go_aloadN_n (i := 0) X rfl rfl dc_M_finish_28 ?_
  refine gm_get X 14 (by decide) fl_M_44 rfl dc_M_finish_29 ?_
  refine go_iload_n (i := 1) X rfl rfl dc_M_finish_32 ?_
  refine gm_ld (f := ρ 12) X rfl (by decide) (by assumption) dc_M_finish_33 ?_
  refine gm_ld (f := ρ 2) X rfl (by decide) (by assumption) dc_M_finish_34 ?_
  refine gm_st X (by decide) (by assumption) dc_M_finish_35 ?_
  first | refine go_aload_n (i := 0) X rfl rfl dc_M_finish_36 ?_ | refine go_aloadN_n (i := 0) X rfl rfl dc_M_finish_36 ?_
  refine gm_get X 21 (by decide) fl_M_65 rfl dc_M_finish_37 ?_
  refine go_iload_n (i := 1) X rfl rfl dc_M_finish_40 ?_
  first | refine go_aload_n (i := 0) X rfl rfl dc_M_finish_41 ?_ | refine go_aloadN_n (i := 0) X rfl rfl dc_M_finish_41 ?_
  first | refine go_aload_n (i := 0) X rfl rfl dc_M_finish_42 ?_ | refine go_aloadN_n (i := 0) X rfl rfl dc_M_finish_42 ?_
  refine gm_get X 22 (by decide) fl_M_68 rfl dc_M_finish_43 ?_
  refine go_iload_n (i := 1) X rfl rfl dc_M_finish_46 ?_
  refine gm_ld (f := upd (ρ 20) p (ρ 2 (ix_ (ρ 12 p)))) X rfl (by decide) (by assumption) dc_M_finish_47 ?_
  rw [pk_us]
  refine go_cV (C := rn_M) (ci := 7) (i := 0) (n := 1) (rest := [.int (nI p), .ref (ad 19)]) X hN (tm_replay l D T ad A nw K n (ρ := (u2_ (u2_ (u2_ ρ 8 p (ρ 12 p)) 9 p (-1)) 20 p (ρ 2 (ix_ (ρ 12 p))))) hK hJ hJ6) ml_M_126 im_M_replay sl_M_Mreplay ik_M co_M_replay ⟨rfl, by decide, by decide, by decide +kernel⟩ ⟨rfl, rfl, by decide, by decide⟩ rfl (wl_at (by decide)) rfl rfl (Nat.le_of_ble_eq_true rfl) dc_M_finish_48 ⟨Nat.zero_le _, Nat.zero_le _⟩ ?_
  refine gm_st X (by decide) (by assumption) dc_M_finish_51 ?_
  first | refine go_aload_n (i := 0) X rfl rfl dc_M_finish_52 ?_ | refine go_aloadN_n (i := 0) X rfl rfl dc_M_finish_52 ?_
  refine gm_get X 20 (by decide) fl_M_62 rfl dc_M_finish_53 ?_
  refine go_iload_n (i := 1) X rfl rfl dc_M_finish_56 ?_
  refine go_dup2 X rfl rfl dc_M_finish_57 ?_
  refine gm_ld (f := ρ 18) X rfl (by decide) (by assumption) dc_M_finish_58 ?_
  refine go_iconst (v := 1) X (by decide) dc_M_finish_59 ?_
  refine go_iadd X dc_M_finish_60 ?_
  refine gm_st X (by decide) (by assumption) dc_M_finish_61 ?_
  first | refine go_aload_n (i := 0) X rfl rfl dc_M_finish_62 ?_ | refine go_aloadN_n (i := 0) X rfl rfl dc_M_finish_62 ?_
  refine gm_get X 12 (by decide) fl_M_38 rfl dc_M_finish_63 ?_
  refine go_iload_n (i := 1) X rfl rfl dc_M_finish_66 ?_
  refine go_iconst (v := (-1)) X (by decide) dc_M_finish_67 ?_
  refine gm_st X (by decide) (by assumption) dc_M_finish_68 ?_
  refine go_iconst (v := 1) X (by decide) dc_M_finish_69 ?_
  exact go_iret X hr dc_M_finish_70 (congrArg (mW_ T ad K n) (by unfold hm_fin hm_fin1; rw [eJ]; rfl)) rfl
set_option maxHeartbeats 4000000 in
set_option maxRecDepth 20000 in
theorem tm_announce (l : Launch) (D : va_G) (T : Nat → ClassId) (ad : Nat → Nat) (A : Nat → Prop) (nw : List Cond) (K n : Nat) {ρ : ST_} {p : Nat} (hn : n ≤ 5) (hp : Ix_ (nI p) 5 p)  : cm_ l D T ad K n A nw yn_M_announce (.code yn_M_announce cd_M_announce 4 (some .int)) 0 [.int (nI p)] ρ (hm_ann ρ p).1 (some (.int (hm_ann ρ p).2)) := by
  refine go_in (by decide) (Nat.le_of_ble_eq_true rfl) (List.forall_mem_cons.mpr ⟨rfl, List.forall_mem_cons.mpr ⟨rfl, fun _ h => nomatch h⟩⟩) ?_
  intro P e s m args below meth c X hr hnm hN
  replace X : Cx_ P l e (rm_d 0) s m args below meth c cd_M_announce 4 rn_M D cl_ (tys_ T) TG_ := X
  refine go_loc (L' := [(0, .ref (ad 0)), (1, .int (nI p))]) rfl ?_
  refine go_iconst (v := (-1)) X (by decide) dc_M_announce_0 ?_
  refine go_istore_n (i := 2) X rfl (by decide) dc_M_announce_1 ?_
  refine go_bipush (v := dn_ 32) X (by decide) dc_M_announce_2 ?_
  refine go_istore_n (i := 3) X rfl (by decide) dc_M_announce_4 ?_
  refine go_loc (L' := [(0, .ref (ad 0)), (1, .int (nI p)), (2, .int (-1)), (3, .int (dn_ 32))]) rfl ?_
  refine (lp_dn (P := fun j => j ≤ 32 → ∀ r : Int32, fd_ (fun k => decide (ρ 1 k = 0)) j r = hm_free ρ → Go_ P l e (rm_d 0) s m args below meth c D cl_ A 4 0 0 _ (mW_ T ad K n ρ) 5 [(0, .ref (ad 0)), (1, .int (nI p)), (2, .int r), (3, .int (dn_ j))] []) (fun j ih hj r hr9 => ?_)) 32 (Nat.le_refl _) (-1) rfl
  refine go_iload_n (i := 3) X rfl rfl dc_M_announce_5 ?_
  refine go_if_lt (tgt := 30) X dc_M_announce_6 (by decide) (fun h6 => ?_) (fun h6 => ?_)
  · have j0 : j = 0 := (dn_neg (j := j) (by omega)).mp h6
    subst j0
    have er : r = hm_free ρ := hr9
    subst er
    refine go_iload_n (i := 2) X rfl rfl dc_M_announce_30 ?_
    refine go_if_ge (tgt := 36) X dc_M_announce_31 (by decide) (fun h31 => ?_) (fun h31 => ?_)
    · have hfr := hm_free_r ρ
      have hfx : Ix_ (hm_free ρ) 32 (ix_ (hm_free ρ)) := Ix_r (by rw [iz_le, iz_0] at h31; omega) hfr
      first | refine go_aload_n (i := 0) X rfl rfl dc_M_announce_36 ?_ | refine go_aloadN_n (i := 0) X rfl rfl dc_M_announce_36 ?_
      refine gm_get X 3 (by decide) fl_M_7 rfl dc_M_announce_37 ?_
      refine go_iload_n (i := 2) X rfl rfl dc_M_announce_40 ?_
      refine go_iconst (v := 1) X (by decide) dc_M_announce_41 ?_
      refine gm_zst X (by assumption) (by decide) dc_M_announce_42 ?_
      first | refine go_aload_n (i := 0) X rfl rfl dc_M_announce_43 ?_ | refine go_aloadN_n (i := 0) X rfl rfl dc_M_announce_43 ?_
      refine gm_get X 4 (by decide) fl_M_13 rfl dc_M_announce_44 ?_
      refine go_iload_n (i := 2) X rfl rfl dc_M_announce_47 ?_
      refine go_iconst (v := 0) X (by decide) dc_M_announce_48 ?_
      refine gm_st X (by decide) (by assumption) dc_M_announce_49 ?_
      first | refine go_aload_n (i := 0) X rfl rfl dc_M_announce_50 ?_ | refine go_aloadN_n (i := 0) X rfl rfl dc_M_announce_50 ?_
      refine gm_get X 5 (by decide) fl_M_17 rfl dc_M_announce_51 ?_
      refine go_iload_n (i := 2) X rfl rfl dc_M_announce_54 ?_
      refine go_iconst (v := (-1)) X (by decide) dc_M_announce_55 ?_
      refine gm_st X (by decide) (by assumption) dc_M_announce_56 ?_
      first | refine go_aload_n (i := 0) X rfl rfl dc_M_announce_57 ?_ | refine go_aloadN_n (i := 0) X rfl rfl dc_M_announce_57 ?_
      refine gm_get X 6 (by decide) fl_M_20 rfl dc_M_announce_58 ?_
      refine go_iload_n (i := 2) X rfl rfl dc_M_announce_61 ?_
      refine go_iload_n (i := 1) X rfl rfl dc_M_announce_62 ?_
      refine gm_st X (by decide) (by assumption) dc_M_announce_63 ?_
      first | refine go_aload_n (i := 0) X rfl rfl dc_M_announce_64 ?_ | refine go_aloadN_n (i := 0) X rfl rfl dc_M_announce_64 ?_
      refine gm_get X 7 (by decide) fl_M_23 rfl dc_M_announce_65 ?_
      refine go_iload_n (i := 2) X rfl rfl dc_M_announce_68 ?_
      first | refine go_aload_n (i := 0) X rfl rfl dc_M_announce_69 ?_ | refine go_aloadN_n (i := 0) X rfl rfl dc_M_announce_69 ?_
      refine gm_get X 17 (by decide) fl_M_53 rfl dc_M_announce_70 ?_
      refine go_iload_n (i := 1) X rfl rfl dc_M_announce_73 ?_
      refine gm_ld (f := ρ 15) X rfl (by decide) (by assumption) dc_M_announce_74 ?_
      refine gm_st X (by decide) (by assumption) dc_M_announce_75 ?_
      first | refine go_aload_n (i := 0) X rfl rfl dc_M_announce_76 ?_ | refine go_aloadN_n (i := 0) X rfl rfl dc_M_announce_76 ?_
      refine gm_get X 8 (by decide) fl_M_26 rfl dc_M_announce_77 ?_
      refine go_iload_n (i := 2) X rfl rfl dc_M_announce_80 ?_
      first | refine go_aload_n (i := 0) X rfl rfl dc_M_announce_81 ?_ | refine go_aloadN_n (i := 0) X rfl rfl dc_M_announce_81 ?_
      refine gm_get X 18 (by decide) fl_M_56 rfl dc_M_announce_82 ?_
      refine go_iload_n (i := 1) X rfl rfl dc_M_announce_85 ?_
      refine gm_ld (f := ρ 16) X rfl (by decide) (by assumption) dc_M_announce_86 ?_
      refine gm_st X (by decide) (by assumption) dc_M_announce_87 ?_
      first | refine go_aload_n (i := 0) X rfl rfl dc_M_announce_88 ?_ | refine go_aloadN_n (i := 0) X rfl rfl dc_M_announce_88 ?_
      refine gm_get X 9 (by decide) fl_M_29 rfl dc_M_announce_89 ?_
      refine go_iload_n (i := 2) X rfl rfl dc_M_announce_92 ?_
      first | refine go_aload_n (i := 0) X rfl rfl dc_M_announce_93 ?_ | refine go_aloadN_n (i := 0) X rfl rfl dc_M_announce_93 ?_
      refine gm_get X 19 (by decide) fl_M_59 rfl dc_M_announce_94 ?_
      refine go_iload_n (i := 1) X rfl rfl dc_M_announce_97 ?_
      refine gm_ld (f := ρ 17) X rfl (by decide) (by assumption) dc_M_announce_98 ?_
      refine gm_st X (by decide) (by assumption) dc_M_announce_99 ?_
      first | refine go_aload_n (i := 0) X rfl rfl dc_M_announce_100 ?_ | refine go_aloadN_n (i := 0) X rfl rfl dc_M_announce_100 ?_
      refine gm_get X 14 (by decide) fl_M_44 rfl dc_M_announce_101 ?_
      refine go_iload_n (i := 1) X rfl rfl dc_M_announce_104 ?_
      refine go_iload_n (i := 2) X rfl rfl dc_M_announce_105 ?_
      refine gm_st X (by decide) (by assumption) dc_M_announce_106 ?_
      first | refine go_aload_n (i := 0) X rfl rfl dc_M_announce_107 ?_ | refine go_aloadN_n (i := 0) X rfl rfl dc_M_announce_107 ?_
      refine gm_get X 11 (by decide) fl_M_35 rfl dc_M_announce_108 ?_
      refine go_iload_n (i := 1) X rfl rfl dc_M_announce_111 ?_
      refine go_iload_n (i := 2) X rfl rfl dc_M_announce_112 ?_
      refine gm_st X (by decide) (by assumption) dc_M_announce_113 ?_
      first | refine go_aload_n (i := 0) X rfl rfl dc_M_announce_114 ?_ | refine go_aloadN_n (i := 0) X rfl rfl dc_M_announce_114 ?_
      refine gm_get X 15 (by decide) fl_M_47 rfl dc_M_announce_115 ?_
      refine go_iload_n (i := 1) X rfl rfl dc_M_announce_118 ?_
      first | refine go_aload_n (i := 0) X rfl rfl dc_M_announce_119 ?_ | refine go_aloadN_n (i := 0) X rfl rfl dc_M_announce_119 ?_
      refine gm_get X 10 (by decide) fl_M_32 rfl dc_M_announce_120 ?_
      refine go_iload_n (i := 1) X rfl rfl dc_M_announce_123 ?_
      refine gm_ld (f := ρ 8) X rfl (by decide) (by assumption) dc_M_announce_124 ?_
      refine gm_st X (by decide) (by assumption) dc_M_announce_125 ?_
      first | refine go_aload_n (i := 0) X rfl rfl dc_M_announce_126 ?_ | refine go_aloadN_n (i := 0) X rfl rfl dc_M_announce_126 ?_
      refine gm_get X 13 (by decide) fl_M_41 rfl dc_M_announce_127 ?_
      refine go_iload_n (i := 1) X rfl rfl dc_M_announce_130 ?_
      refine go_iconst (v := 0) X (by decide) dc_M_announce_131 ?_
      refine gm_st X (by decide) (by assumption) dc_M_announce_132 ?_
      first | refine go_aload_n (i := 0) X rfl rfl dc_M_announce_133 ?_ | refine go_aloadN_n (i := 0) X rfl rfl dc_M_announce_133 ?_
      refine gm_get X 12 (by decide) fl_M_38 rfl dc_M_announce_134 ?_
      refine go_iload_n (i := 1) X rfl rfl dc_M_announce_137 ?_
      refine go_iconst (v := 1) X (by decide) dc_M_announce_138 ?_
      refine gm_st X (by decide) (by assumption) dc_M_announce_139 ?_
      refine go_iconst (v := 0) X (by decide) dc_M_announce_140 ?_
      exact go_iret X hr dc_M_announce_141 (congrArg (mW_ T ad K n) (by unfold hm_ann; rw [if_neg (by rw [iz_lt, iz_0]; rw [iz_le, iz_0] at h31; omega)]; rfl)) (congrArg some (congrArg Value.int (by unfold hm_ann; rw [if_neg (by rw [iz_lt, iz_0]; rw [iz_le, iz_0] at h31; omega)])))
    · refine go_iconst (v := 3) X (by decide) dc_M_announce_34 ?_
      exact go_iret X hr dc_M_announce_35 (congrArg (mW_ T ad K n) (by unfold hm_ann; rw [if_pos (by rw [iz_lt, iz_0]; rw [iz_le, iz_0] at h31; omega)])) (congrArg some (congrArg Value.int (by unfold hm_ann; rw [if_pos (by rw [iz_lt, iz_0]; rw [iz_le, iz_0] at h31; omega)])))
  · obtain ⟨i, rfl⟩ : ∃ i, j = i + 1 := ⟨j - 1, by have z : ¬ j = 0 := fun q => h6 ((dn_neg (j := j) (by omega)).mpr q); omega⟩
    have hx : Ix_ (dn_ (i + 1)) 32 i := Ix_n (by omega) (by decide)
    first | refine go_aload_n (i := 0) X rfl rfl dc_M_announce_9 ?_ | refine go_aloadN_n (i := 0) X rfl rfl dc_M_announce_9 ?_
    refine gm_get X 3 (by decide) fl_M_7 rfl dc_M_announce_10 ?_
    refine go_iload_n (i := 3) X rfl rfl dc_M_announce_13 ?_
    refine gm_zld (f := ρ 1) X rfl (by assumption) dc_M_announce_14 ?_
    refine go_if_eq (tgt := 22) X dc_M_announce_15 (by decide) (fun h15 => ?_) (fun h15 => ?_)
    · refine go_iload_n (i := 3) X rfl rfl dc_M_announce_22 ?_
      refine go_istore_n (i := 2) X rfl (by decide) dc_M_announce_23 ?_
      refine go_iinc (i := 3) (v := dn_ i) X rfl (dn_p i) (by decide) dc_M_announce_24 ?_
      refine go_goto (tgt := 5) X dc_M_announce_27 (by decide) ?_
      first | (refine go_loc (L' := [(0, .ref (ad 0)), (1, .int (nI p)), (2, .int (nI i)), (3, .int (dn_ i))]) rfl ?_; exact ih i rfl (by omega) _ (by rw [← hr9]; show _ = fd_ (fun k => decide (ρ 1 k = 0)) i (cond (decide (ρ 1 i = 0)) (nI i) r); rw [decide_eq_true h15]; rfl)) | (refine go_loc (L' := [(0, .ref (ad 0)), (1, .int (nI p)), (2, .int r), (3, .int (dn_ i))]) rfl ?_; exact ih i rfl (by omega) _ (by rw [← hr9]; show _ = fd_ (fun k => decide (ρ 1 k = 0)) i (cond (decide (ρ 1 i = 0)) (nI i) r); rw [decide_eq_false h15]; rfl))
    · refine go_iload_n (i := 2) X rfl rfl dc_M_announce_18 ?_
      refine go_goto (tgt := 23) X dc_M_announce_19 (by decide) ?_
      refine go_istore_n (i := 2) X rfl (by decide) dc_M_announce_23 ?_
      refine go_iinc (i := 3) (v := dn_ i) X rfl (dn_p i) (by decide) dc_M_announce_24 ?_
      refine go_goto (tgt := 5) X dc_M_announce_27 (by decide) ?_
      first | (refine go_loc (L' := [(0, .ref (ad 0)), (1, .int (nI p)), (2, .int (nI i)), (3, .int (dn_ i))]) rfl ?_; exact ih i rfl (by omega) _ (by rw [← hr9]; show _ = fd_ (fun k => decide (ρ 1 k = 0)) i (cond (decide (ρ 1 i = 0)) (nI i) r); rw [decide_eq_true h15]; rfl)) | (refine go_loc (L' := [(0, .ref (ad 0)), (1, .int (nI p)), (2, .int r), (3, .int (dn_ i))]) rfl ?_; exact ih i rfl (by omega) _ (by rw [← hr9]; show _ = fd_ (fun k => decide (ρ 1 k = 0)) i (cond (decide (ρ 1 i = 0)) (nI i) r); rw [decide_eq_false h15]; rfl))
end M3

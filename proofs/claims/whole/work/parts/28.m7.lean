section M7
set_option maxHeartbeats 4000000 in
set_option maxRecDepth 20000 in
theorem tm_peekX (l : Launch) (D : va_G) (T : Nat → ClassId) (ad : Nat → Nat) (A : Nat → Prop) (nw : List Cond) (K n : Nat) {ρ : ST_} {op a b : Int32} (ho : ¬ (0 ≤ op ∧ op ≤ 2)) : cm_ l D T ad K n A nw yn_M_peek (.code yn_M_peek cd_M_peek 4 (some .int)) 1 [.int op, .int a, .int b] ρ (u2_ ρ 0 0 1) (some (.int 0)) := by
  refine go_in (by decide) (Nat.le_of_ble_eq_true rfl) (List.forall_mem_cons.mpr ⟨rfl, List.forall_mem_cons.mpr ⟨rfl, List.forall_mem_cons.mpr ⟨rfl, List.forall_mem_cons.mpr ⟨rfl, fun _ h => nomatch h⟩⟩⟩⟩) ?_
  intro P e s m args below meth c X hr hnm hN
  replace X : Cx_ P l e (rm_d 1) s m args below meth c cd_M_peek 4 rn_M D cl_ (tys_ T) TG_ := X
  refine go_loc (L' := [(0, .ref (ad 0)), (1, .int op), (2, .int a), (3, .int b)]) rfl ?_
  first | refine go_aload_n (i := 0) X rfl rfl dc_M_peek_0 ?_ | refine go_aloadN_n (i := 0) X rfl rfl dc_M_peek_0 ?_
  refine go_iload_n (i := 1) X rfl rfl dc_M_peek_1 ?_
  refine go_if_lt (tgt := 10) X dc_M_peek_2 (by decide) (fun h2 => ?_) (fun h2 => ?_)
  · refine go_iconst (v := 1) X (by decide) dc_M_peek_10 ?_
    refine go_goto (tgt := 15) X dc_M_peek_11 (by decide) ?_
    refine go_cV (C := rn_M) (ci := 7) (i := 0) (n := 1) (rest := []) X hN (tm_ref1 (x := 1) (by decide)) ml_M_123 im_M_refused sl_M_Mrefused ik_M co_M_refused ⟨rfl, by decide, by decide, by decide +kernel⟩ ⟨rfl, rfl, by decide, by decide⟩ rfl (wl_at (by decide)) rfl rfl (Nat.le_of_ble_eq_true rfl) dc_M_peek_15 ⟨Nat.zero_le _, Nat.zero_le _⟩ ?_
    refine go_if_eq (tgt := 23) X dc_M_peek_18 (by decide) (fun h18 => ?_) (fun h18 => ?_)
    · exact absurd h18 (by decide)
    · refine go_iconst (v := 0) X (by decide) dc_M_peek_21 ?_
      exact go_iret X hr dc_M_peek_22 rfl rfl
  · refine go_iload_n (i := 1) X rfl rfl dc_M_peek_5 ?_
    refine go_iconst (v := 2) X (by decide) dc_M_peek_6 ?_
    refine go_icmp_le (tgt := 14) X dc_M_peek_7 (by decide) (fun h7 => ?_) (fun h7 => ?_)
    · exact absurd ⟨by rw [iz_le, iz_0]; rw [iz_lt, iz_0] at h2; omega, h7⟩ ho
    · refine go_iconst (v := 1) X (by decide) dc_M_peek_10 ?_
      refine go_goto (tgt := 15) X dc_M_peek_11 (by decide) ?_
      refine go_cV (C := rn_M) (ci := 7) (i := 0) (n := 1) (rest := []) X hN (tm_ref1 (x := 1) (by decide)) ml_M_123 im_M_refused sl_M_Mrefused ik_M co_M_refused ⟨rfl, by decide, by decide, by decide +kernel⟩ ⟨rfl, rfl, by decide, by decide⟩ rfl (wl_at (by decide)) rfl rfl (Nat.le_of_ble_eq_true rfl) dc_M_peek_15 ⟨Nat.zero_le _, Nat.zero_le _⟩ ?_
      refine go_if_eq (tgt := 23) X dc_M_peek_18 (by decide) (fun h18 => ?_) (fun h18 => ?_)
      · exact absurd h18 (by decide)
      · refine go_iconst (v := 0) X (by decide) dc_M_peek_21 ?_
        exact go_iret X hr dc_M_peek_22 rfl rfl
set_option maxHeartbeats 4000000 in
set_option maxRecDepth 20000 in
theorem tm_plainX (l : Launch) (D : va_G) (T : Nat → ClassId) (ad : Nat → Nat) (A : Nat → Prop) (nw : List Cond) (K n : Nat) {ρ : ST_} {op a b : Int32} (ho : ¬ (0 ≤ op ∧ op ≤ 2)) : cm_ l D T ad K n A nw yn_M_plain (.code yn_M_plain cd_M_plain 6 (some .int)) 1 [.int op, .int a, .int b] ρ (u2_ ρ 0 0 1) (some (.int 0)) := by
  refine go_in (by decide) (Nat.le_of_ble_eq_true rfl) (List.forall_mem_cons.mpr ⟨rfl, List.forall_mem_cons.mpr ⟨rfl, List.forall_mem_cons.mpr ⟨rfl, List.forall_mem_cons.mpr ⟨rfl, fun _ h => nomatch h⟩⟩⟩⟩) ?_
  intro P e s m args below meth c X hr hnm hN
  replace X : Cx_ P l e (rm_d 1) s m args below meth c cd_M_plain 6 rn_M D cl_ (tys_ T) TG_ := X
  refine go_loc (L' := [(0, .ref (ad 0)), (1, .int op), (2, .int a), (3, .int b)]) rfl ?_
  first | refine go_aload_n (i := 0) X rfl rfl dc_M_plain_0 ?_ | refine go_aloadN_n (i := 0) X rfl rfl dc_M_plain_0 ?_
  refine go_iload_n (i := 1) X rfl rfl dc_M_plain_1 ?_
  refine go_if_lt (tgt := 10) X dc_M_plain_2 (by decide) (fun h2 => ?_) (fun h2 => ?_)
  · refine go_iconst (v := 1) X (by decide) dc_M_plain_10 ?_
    refine go_goto (tgt := 15) X dc_M_plain_11 (by decide) ?_
    refine go_cV (C := rn_M) (ci := 7) (i := 0) (n := 1) (rest := []) X hN (tm_ref1 (x := 1) (by decide)) ml_M_123 im_M_refused sl_M_Mrefused ik_M co_M_refused ⟨rfl, by decide, by decide, by decide +kernel⟩ ⟨rfl, rfl, by decide, by decide⟩ rfl (wl_at (by decide)) rfl rfl (Nat.le_of_ble_eq_true rfl) dc_M_plain_15 ⟨Nat.zero_le _, Nat.zero_le _⟩ ?_
    refine go_if_eq (tgt := 23) X dc_M_plain_18 (by decide) (fun h18 => ?_) (fun h18 => ?_)
    · exact absurd h18 (by decide)
    · refine go_iconst (v := 0) X (by decide) dc_M_plain_21 ?_
      exact go_iret X hr dc_M_plain_22 rfl rfl
  · refine go_iload_n (i := 1) X rfl rfl dc_M_plain_5 ?_
    refine go_iconst (v := 2) X (by decide) dc_M_plain_6 ?_
    refine go_icmp_le (tgt := 14) X dc_M_plain_7 (by decide) (fun h7 => ?_) (fun h7 => ?_)
    · exact absurd ⟨by rw [iz_le, iz_0]; rw [iz_lt, iz_0] at h2; omega, h7⟩ ho
    · refine go_iconst (v := 1) X (by decide) dc_M_plain_10 ?_
      refine go_goto (tgt := 15) X dc_M_plain_11 (by decide) ?_
      refine go_cV (C := rn_M) (ci := 7) (i := 0) (n := 1) (rest := []) X hN (tm_ref1 (x := 1) (by decide)) ml_M_123 im_M_refused sl_M_Mrefused ik_M co_M_refused ⟨rfl, by decide, by decide, by decide +kernel⟩ ⟨rfl, rfl, by decide, by decide⟩ rfl (wl_at (by decide)) rfl rfl (Nat.le_of_ble_eq_true rfl) dc_M_plain_15 ⟨Nat.zero_le _, Nat.zero_le _⟩ ?_
      refine go_if_eq (tgt := 23) X dc_M_plain_18 (by decide) (fun h18 => ?_) (fun h18 => ?_)
      · exact absurd h18 (by decide)
      · refine go_iconst (v := 0) X (by decide) dc_M_plain_21 ?_
        exact go_iret X hr dc_M_plain_22 rfl rfl
set_option maxHeartbeats 4000000 in
set_option maxRecDepth 20000 in
theorem tm_peek (l : Launch) (D : va_G) (T : Nat → ClassId) (ad : Nat → Nat) (A : Nat → Prop) (nw : List Cond) (K n : Nat) {ρ : ST_} {op a b : Int32} {J : Nat} (hK : K < 4) (ho : 0 ≤ op ∧ op ≤ 2) (hJ : ρ 0 1 = nI (J + 1)) (hJ6 : J + 1 < 600) : cm_ l D T ad K n A nw yn_M_peek (.code yn_M_peek cd_M_peek 4 (some .int)) 3 [.int op, .int a, .int b] ρ (hm_peek K op a b (u2_ ρ 0 0 0)) (some (.int (hm_peekR K op a b (u2_ ρ 0 0 0)))) := by
  have eJ : ix_ (ρ 0 1) - 1 = J := by rw [hJ, show ix_ (nI (J + 1)) = J + 1 from nI_clamp (by omega)]; rfl
  refine go_in (by decide) (Nat.le_of_ble_eq_true rfl) (List.forall_mem_cons.mpr ⟨rfl, List.forall_mem_cons.mpr ⟨rfl, List.forall_mem_cons.mpr ⟨rfl, List.forall_mem_cons.mpr ⟨rfl, fun _ h => nomatch h⟩⟩⟩⟩) ?_
  intro P e s m args below meth c X hr hnm hN
  replace X : Cx_ P l e (rm_d 3) s m args below meth c cd_M_peek 4 rn_M D cl_ (tys_ T) TG_ := X
  refine go_loc (L' := [(0, .ref (ad 0)), (1, .int op), (2, .int a), (3, .int b)]) rfl ?_
  first | refine go_aload_n (i := 0) X rfl rfl dc_M_peek_0 ?_ | refine go_aloadN_n (i := 0) X rfl rfl dc_M_peek_0 ?_
  refine go_iload_n (i := 1) X rfl rfl dc_M_peek_1 ?_
  refine go_if_lt (tgt := 10) X dc_M_peek_2 (by decide) (fun h2 => ?_) (fun h2 => ?_)
  · exfalso
    have z := ho.1
    rw [iz_le, iz_0] at z
    rw [iz_lt, iz_0] at h2
    omega
  · refine go_iload_n (i := 1) X rfl rfl dc_M_peek_5 ?_
    refine go_iconst (v := 2) X (by decide) dc_M_peek_6 ?_
    refine go_icmp_le (tgt := 14) X dc_M_peek_7 (by decide) (fun h7 => ?_) (fun h7 => ?_)
    · refine go_iconst (v := 0) X (by decide) dc_M_peek_14 ?_
      refine go_cV (C := rn_M) (ci := 7) (i := 0) (n := 1) (rest := []) X hN (tm_ref0) ml_M_123 im_M_refused sl_M_Mrefused ik_M co_M_refused ⟨rfl, by decide, by decide, by decide +kernel⟩ ⟨rfl, rfl, by decide, by decide⟩ rfl (wl_at (by decide)) rfl rfl (Nat.le_of_ble_eq_true rfl) dc_M_peek_15 ⟨Nat.zero_le _, Nat.zero_le _⟩ ?_
      refine go_if_eq (tgt := 23) X dc_M_peek_18 (by decide) (fun h18 => ?_) (fun h18 => ?_)
      · first | refine go_aload_n (i := 0) X rfl rfl dc_M_peek_23 ?_ | refine go_aloadN_n (i := 0) X rfl rfl dc_M_peek_23 ?_
        first | refine go_aload_n (i := 0) X rfl rfl dc_M_peek_24 ?_ | refine go_aloadN_n (i := 0) X rfl rfl dc_M_peek_24 ?_
        refine gm_get (v := .int (ρ 0 1)) X 23 (by decide) fl_M_93 rfl dc_M_peek_25 ?_
        refine go_cV (C := rn_M) (ci := 7) (i := 0) (n := 1) (rest := []) X hN (tm_replay l D T ad A nw K n (ρ := u2_ ρ 0 0 0) hK hJ hJ6) ml_M_126 im_M_replay sl_M_Mreplay ik_M co_M_replay ⟨rfl, by decide, by decide, by decide +kernel⟩ ⟨rfl, rfl, by decide, by decide⟩ rfl (wl_at (by decide)) rfl rfl (Nat.le_of_ble_eq_true rfl) dc_M_peek_28 ⟨Nat.zero_le _, Nat.zero_le _⟩ ?_
        refine go_pop X rfl dc_M_peek_31 ?_
        first | refine go_aload_n (i := 0) X rfl rfl dc_M_peek_32 ?_ | refine go_aloadN_n (i := 0) X rfl rfl dc_M_peek_32 ?_
        refine go_iload_n (i := 1) X rfl rfl dc_M_peek_33 ?_
        refine go_iload_n (i := 2) X rfl rfl dc_M_peek_34 ?_
        refine go_iload_n (i := 3) X rfl rfl dc_M_peek_35 ?_
        refine go_cV (C := rn_M) (ci := 7) (i := 0) (n := 3) (rest := []) X hN (tm_act l D T ad A nw K n (ρ := hm_rep K J (u2_ ρ 0 0 0)) hK (rs_z K (ρ 21) (ρ 22) (ρ 23) J)) ml_M_116 im_M_act sl_M_Mact ik_M co_M_act ⟨rfl, by decide, by decide, by decide +kernel⟩ ⟨rfl, rfl, by decide, by decide⟩ rfl (wl_at (by decide)) rfl rfl (Nat.le_of_ble_eq_true rfl) dc_M_peek_36 ⟨Nat.zero_le _, Nat.zero_le _⟩ ?_
        exact go_iret X hr dc_M_peek_39 (congrArg (mW_ T ad K n) (by unfold hm_peek; rw [show (u2_ ρ 0 0 0) 0 1 = ρ 0 1 from rfl, eJ])) (congrArg some (congrArg Value.int (by unfold hm_peekR; rw [show (u2_ ρ 0 0 0) 0 1 = ρ 0 1 from rfl, eJ])))
      · exact absurd rfl h18
    · exact absurd ho.2 h7
set_option maxHeartbeats 4000000 in
set_option maxRecDepth 20000 in
theorem tm_plain (l : Launch) (D : va_G) (T : Nat → ClassId) (ad : Nat → Nat) (A : Nat → Prop) (nw : List Cond) (K n : Nat) {ρ : ST_} {op a b : Int32} (hK : K < 4) (ho : 0 ≤ op ∧ op ≤ 2) (hz : 0 ≤ (ρ 0 3).toInt ∧ (ρ 0 3).toInt ≤ 8) : cm_ l D T ad K n A nw yn_M_plain (.code yn_M_plain cd_M_plain 6 (some .int)) 2 [.int op, .int a, .int b] ρ (hm_plain K op a b (u2_ ρ 0 0 0)) (some (.int (hm_plainR K op a b (u2_ ρ 0 0 0)))) := by
  refine go_in (by decide) (Nat.le_of_ble_eq_true rfl) (List.forall_mem_cons.mpr ⟨rfl, List.forall_mem_cons.mpr ⟨rfl, List.forall_mem_cons.mpr ⟨rfl, List.forall_mem_cons.mpr ⟨rfl, fun _ h => nomatch h⟩⟩⟩⟩) ?_
  intro P e s m args below meth c X hr hnm hN
  replace X : Cx_ P l e (rm_d 2) s m args below meth c cd_M_plain 6 rn_M D cl_ (tys_ T) TG_ := X
  refine go_loc (L' := [(0, .ref (ad 0)), (1, .int op), (2, .int a), (3, .int b)]) rfl ?_
  first | refine go_aload_n (i := 0) X rfl rfl dc_M_plain_0 ?_ | refine go_aloadN_n (i := 0) X rfl rfl dc_M_plain_0 ?_
  refine go_iload_n (i := 1) X rfl rfl dc_M_plain_1 ?_
  refine go_if_lt (tgt := 10) X dc_M_plain_2 (by decide) (fun h2 => ?_) (fun h2 => ?_)
  · exfalso
    have z := ho.1
    rw [iz_le, iz_0] at z
    rw [iz_lt, iz_0] at h2
    omega
  · refine go_iload_n (i := 1) X rfl rfl dc_M_plain_5 ?_
    refine go_iconst (v := 2) X (by decide) dc_M_plain_6 ?_
    refine go_icmp_le (tgt := 14) X dc_M_plain_7 (by decide) (fun h7 => ?_) (fun h7 => ?_)
    · refine go_iconst (v := 0) X (by decide) dc_M_plain_14 ?_
      refine go_cV (C := rn_M) (ci := 7) (i := 0) (n := 1) (rest := []) X hN (tm_ref0) ml_M_123 im_M_refused sl_M_Mrefused ik_M co_M_refused ⟨rfl, by decide, by decide, by decide +kernel⟩ ⟨rfl, rfl, by decide, by decide⟩ rfl (wl_at (by decide)) rfl rfl (Nat.le_of_ble_eq_true rfl) dc_M_plain_15 ⟨Nat.zero_le _, Nat.zero_le _⟩ ?_
      refine go_if_eq (tgt := 23) X dc_M_plain_18 (by decide) (fun h18 => ?_) (fun h18 => ?_)
      · first | refine go_aload_n (i := 0) X rfl rfl dc_M_plain_23 ?_ | refine go_aloadN_n (i := 0) X rfl rfl dc_M_plain_23 ?_
        first | refine go_aload_n (i := 0) X rfl rfl dc_M_plain_24 ?_ | refine go_aloadN_n (i := 0) X rfl rfl dc_M_plain_24 ?_
        refine gm_get (v := .int (ρ 0 3)) X 30 (by decide) fl_M_160 rfl dc_M_plain_25 ?_
        refine gm_put X 28 2 (by decide) fl_M_102 rfl (tk_M 28 (by decide)) (mF_s2 _ _ _ _ _) dc_M_plain_28 ?_
        refine go_iconst (v := nI 0) X (by decide) dc_M_plain_31 ?_
        refine go_istore (i := 4) X (by decide) dc_M_plain_32 ?_
        refine go_loc (L' := [(0, .ref (ad 0)), (1, .int op), (2, .int a), (3, .int b), (4, .int (nI 0))]) rfl ?_
        refine go_eqw (w' := mW_ T ad K n (u1_ (u2_ (u2_ ρ 0 0 0) 0 2 (ρ 0 3)) 24 (cp_ (ρ 24) (ρ 25) 0))) (congrArg _ (by rw [cp_0]; exact (u1_id (u2_ (u2_ ρ 0 0 0) 0 2 (ρ 0 3)) 24).symm)) ?_
        refine (lp_up (P := fun j => Go_ P l e (rm_d 2) s m args below meth c D cl_ A 6 0 0 _ (mW_ T ad K n (u1_ (u2_ (u2_ ρ 0 0 0) 0 2 (ρ 0 3)) 24 (cp_ (ρ 24) (ρ 25) j))) 34 [(0, .ref (ad 0)), (1, .int op), (2, .int a), (3, .int b), (4, .int (nI j))] []) 8 (fun j hj ih => ?_)) 0 (Nat.zero_le _)
        refine go_iload (i := 4) X rfl dc_M_plain_34 ?_
        refine go_bipush (v := 8) X (by decide) dc_M_plain_36 ?_
        refine go_icmp_ge (tgt := 61) X dc_M_plain_38 (by decide) (fun h38 => ?_) (fun h38 => ?_)
        · have e8 : j = 8 := by rw [iz_le, iz_8, iz_nI (by omega)] at h38; omega
          subst e8
          refine gm_arr (by decide) (fun i hi => cp_all hi) ?_
          first | refine go_aload_n (i := 0) X rfl rfl dc_M_plain_61 ?_ | refine go_aloadN_n (i := 0) X rfl rfl dc_M_plain_61 ?_
          refine go_iload_n (i := 1) X rfl rfl dc_M_plain_62 ?_
          refine go_iload_n (i := 2) X rfl rfl dc_M_plain_63 ?_
          refine go_iload_n (i := 3) X rfl rfl dc_M_plain_64 ?_
          refine go_cV (C := rn_M) (ci := 7) (i := 0) (n := 3) (rest := []) X hN (tm_act l D T ad A nw K n (ρ := u1_ (u2_ (u2_ ρ 0 0 0) 0 2 (ρ 0 3)) 24 (ρ 25)) hK hz) ml_M_116 im_M_act sl_M_Mact ik_M co_M_act ⟨rfl, by decide, by decide, by decide +kernel⟩ ⟨rfl, rfl, by decide, by decide⟩ rfl (wl_at (by decide)) rfl rfl (Nat.le_of_ble_eq_true rfl) dc_M_plain_65 ⟨Nat.zero_le _, Nat.zero_le _⟩ ?_
          refine go_istore (i := 4) X (by decide) dc_M_plain_68 ?_
          first | refine go_aload_n (i := 0) X rfl rfl dc_M_plain_70 ?_ | refine go_aloadN_n (i := 0) X rfl rfl dc_M_plain_70 ?_
          first | refine go_aload_n (i := 0) X rfl rfl dc_M_plain_71 ?_ | refine go_aloadN_n (i := 0) X rfl rfl dc_M_plain_71 ?_
          refine gm_get (v := .int (pa_ K op a b (ρ 25) (ρ 0 3)).2.1) X 28 (by decide) fl_M_102 rfl dc_M_plain_72 ?_
          refine gm_put X 30 3 (by decide) fl_M_160 rfl (tk_M 30 (by decide)) (mF_s3 _ _ _ _ _) dc_M_plain_75 ?_
          refine go_iconst (v := nI 0) X (by decide) dc_M_plain_78 ?_
          refine go_istore (i := 5) X (by decide) dc_M_plain_79 ?_
          refine go_loc (L' := [(0, .ref (ad 0)), (1, .int op), (2, .int a), (3, .int b), (4, .int (pa_ K op a b (ρ 25) (ρ 0 3)).2.2), (5, .int (nI 0))]) rfl ?_
          refine go_eqw (w' := mW_ T ad K n (u1_ (u2_ (hm_act K op a b (u1_ (u2_ (u2_ ρ 0 0 0) 0 2 (ρ 0 3)) 24 (ρ 25))) 0 3 (pa_ K op a b (ρ 25) (ρ 0 3)).2.1) 25 (cp_ (ρ 25) (pa_ K op a b (ρ 25) (ρ 0 3)).1 0))) (congrArg _ (by rw [cp_0]; exact (u1_id (u2_ (hm_act K op a b (u1_ (u2_ (u2_ ρ 0 0 0) 0 2 (ρ 0 3)) 24 (ρ 25))) 0 3 (pa_ K op a b (ρ 25) (ρ 0 3)).2.1) 25).symm)) ?_
          refine (lp_up (P := fun j => Go_ P l e (rm_d 2) s m args below meth c D cl_ A 6 0 0 _ (mW_ T ad K n (u1_ (u2_ (hm_act K op a b (u1_ (u2_ (u2_ ρ 0 0 0) 0 2 (ρ 0 3)) 24 (ρ 25))) 0 3 (pa_ K op a b (ρ 25) (ρ 0 3)).2.1) 25 (cp_ (ρ 25) (pa_ K op a b (ρ 25) (ρ 0 3)).1 j))) 81 [(0, .ref (ad 0)), (1, .int op), (2, .int a), (3, .int b), (4, .int (pa_ K op a b (ρ 25) (ρ 0 3)).2.2), (5, .int (nI j))] []) 8 (fun j hj ih => ?_)) 0 (Nat.zero_le _)
          refine go_iload (i := 5) X rfl dc_M_plain_81 ?_
          refine go_bipush (v := 8) X (by decide) dc_M_plain_83 ?_
          refine go_icmp_ge (tgt := 108) X dc_M_plain_85 (by decide) (fun h85 => ?_) (fun h85 => ?_)
          · have e8 : j = 8 := by rw [iz_le, iz_8, iz_nI (by omega)] at h85; omega
            subst e8
            refine gm_arr (by decide) (fun i hi => cp_all hi) ?_
            refine go_iload (i := 4) X rfl dc_M_plain_108 ?_
            exact go_iret X hr dc_M_plain_110 rfl rfl
          · have hlt : j < 8 := by rw [iz_le, iz_8, iz_nI (by omega)] at h85; omega
            have hx : Ix_ (nI j) 8 j := Ix_n hlt (by decide)
            first | refine go_aload_n (i := 0) X rfl rfl dc_M_plain_88 ?_ | refine go_aloadN_n (i := 0) X rfl rfl dc_M_plain_88 ?_
            refine gm_get X 29 (by decide) fl_M_83 rfl dc_M_plain_89 ?_
            refine go_iload (i := 5) X rfl dc_M_plain_92 ?_
            first | refine go_aload_n (i := 0) X rfl rfl dc_M_plain_94 ?_ | refine go_aloadN_n (i := 0) X rfl rfl dc_M_plain_94 ?_
            refine gm_get X 27 (by decide) fl_M_80 rfl dc_M_plain_95 ?_
            refine go_iload (i := 5) X rfl dc_M_plain_98 ?_
            refine gm_ld (f := (pa_ K op a b (ρ 25) (ρ 0 3)).1) X rfl (by decide) (by assumption) dc_M_plain_100 ?_
            refine gm_st X (by decide) (by assumption) dc_M_plain_101 ?_
            refine go_iinc (i := 5) (v := nI (j + 1)) X rfl (by rw [lit1]; exact nI_1 j) (by decide) dc_M_plain_102 ?_
            refine go_goto (tgt := 81) X dc_M_plain_105 (by decide) ?_
            refine go_loc (L' := [(0, .ref (ad 0)), (1, .int op), (2, .int a), (3, .int b), (4, .int (pa_ K op a b (ρ 25) (ρ 0 3)).2.2), (5, .int (nI (j + 1)))]) rfl ?_
            refine go_eqw (w' := mW_ T ad K n (u1_ (u2_ (hm_act K op a b (u1_ (u2_ (u2_ ρ 0 0 0) 0 2 (ρ 0 3)) 24 (ρ 25))) 0 3 (pa_ K op a b (ρ 25) (ρ 0 3)).2.1) 25 (cp_ (ρ 25) (pa_ K op a b (ρ 25) (ρ 0 3)).1 (j + 1)))) (congrArg _ (by rw [u12_id, cp_s])) ?_
            exact ih (by omega)
        · have hlt : j < 8 := by rw [iz_le, iz_8, iz_nI (by omega)] at h38; omega
          have hx : Ix_ (nI j) 8 j := Ix_n hlt (by decide)
          first | refine go_aload_n (i := 0) X rfl rfl dc_M_plain_41 ?_ | refine go_aloadN_n (i := 0) X rfl rfl dc_M_plain_41 ?_
          refine gm_get X 27 (by decide) fl_M_80 rfl dc_M_plain_42 ?_
          refine go_iload (i := 4) X rfl dc_M_plain_45 ?_
          first | refine go_aload_n (i := 0) X rfl rfl dc_M_plain_47 ?_ | refine go_aloadN_n (i := 0) X rfl rfl dc_M_plain_47 ?_
          refine gm_get X 29 (by decide) fl_M_83 rfl dc_M_plain_48 ?_
          refine go_iload (i := 4) X rfl dc_M_plain_51 ?_
          refine gm_ld (f := ρ 25) X rfl (by decide) (by assumption) dc_M_plain_53 ?_
          refine gm_st X (by decide) (by assumption) dc_M_plain_54 ?_
          refine go_iinc (i := 4) (v := nI (j + 1)) X rfl (by rw [lit1]; exact nI_1 j) (by decide) dc_M_plain_55 ?_
          refine go_goto (tgt := 34) X dc_M_plain_58 (by decide) ?_
          refine go_loc (L' := [(0, .ref (ad 0)), (1, .int op), (2, .int a), (3, .int b), (4, .int (nI (j + 1)))]) rfl ?_
          refine go_eqw (w' := mW_ T ad K n (u1_ (u2_ (u2_ ρ 0 0 0) 0 2 (ρ 0 3)) 24 (cp_ (ρ 24) (ρ 25) (j + 1)))) (congrArg _ (by rw [u12_id, cp_s])) ?_
          exact ih (by omega)
      · exact absurd rfl h18
    · exact absurd ho.2 h7
end M7

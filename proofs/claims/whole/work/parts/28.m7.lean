section M7
set_option maxHeartbeats 4000000 in
set_option maxRecDepth 20000 in
theorem tm_peekX (l : Launch) (D : va_G) (T : Nat → ClassId) (ad : Nat → Nat) (A : Nat → Prop) (nw : List Cond) (K n : Nat) {ρ : ST_} {op a b : Int32} (ho : ¬ (0 ≤ op ∧ op ≤ 2)) : cm_ l D T ad K n A nw yn_M_peek (.code yn_M_peek cd_M_peek 4 (some .int)) 1 [.int op, .int a, .int b] ρ (u2_ ρ 0 0 1) (some (.int 0)) := by
  refine go_in (by decide) (Nat.le_of_ble_eq_true rfl) (List.forall_mem_cons.mpr ⟨rfl, List.forall_mem_cons.mpr ⟨rfl, List.forall_mem_cons.mpr ⟨rfl, List.forall_mem_cons.mpr ⟨rfl, fun _ h => nomatch h⟩⟩⟩⟩) ?_
  intro P e s m args below meth c X hr hnm hN
  replace X : Cx_ P l e (rm_d 1) s m args below meth c cd_M_peek 4 rn_M D cl_ (tys_ T) TG_ := X
  refine go_loc (L' := [(0, .ref (ad 0)), (1, .int op), (2, .int a), (3, .int b)]) rfl ?_
  first | refine go_aload_n (i := 0) X rfl rfl dc_M_peek_0 ?_ | refine go_aloadN_n (i := 0) X rfl rfl dc_M_peek_0 ?_
  refine go_iload_n (i := 1) X rfl rfl dc_M_peek_1 ?_
  refine go_if_lt (tgt := 10) X dc_M_peek_2 (by decide) (fun h2 => ?_) (fun h2 => ?_)
  · refine go_iconst (v := 1) X (by decide) dc_M_peek_10 ?_
    refine go_goto (tgt := 15) X dc_M_peek_11 (by decide) ?_
    refine go_cV (C := rn_M) (ci := 7) (i := 0) (n := 1) (rest := []) X hN (tm_ref1 (x := 1) (by decide)) ml_M_123 im_M_refused sl_M_Mrefused ik_M co_M_refused ⟨rfl, by decide, by decide, by decide +kernel⟩ ⟨rfl, rfl, by decide, by decide⟩ rfl (wl_at (by decide)) rfl rfl (Nat.le_of_ble_eq_true rfl) dc_M_peek_15 ⟨Nat.zero_le _, Nat.zero_le _⟩ ?_
    refine go_if_eq (tgt := 23) X dc_M_peek_18 (by decide) (fun h18 => ?_) (fun h18 => ?_)
    · exact absurd h18 (by decide)
    · refine go_iconst (v := 0) X (by decide) dc_M_peek_21 ?_
      exact go_iret X hr dc_M_peek_22 rfl rfl
  · refine go_iload_n (i := 1) X rfl rfl dc_M_peek_5 ?_
    refine go_iconst (v := 2) X (by decide) dc_M_peek_6 ?_
    refine go_icmp_le (tgt := 14) X dc_M_peek_7 (by decide) (fun h7 => ?_) (fun h7 => ?_)
    · exact absurd ⟨by rw [iz_le, iz_0]; rw [iz_lt, iz_0] at h2; omega, h7⟩ ho
    · refine go_iconst (v := 1) X (by decide) dc_M_peek_10 ?_
      refine go_goto (tgt := 15) X dc_M_peek_11 (by decide) ?_
      refine go_cV (C := rn_M) (ci := 7) (i := 0) (n := 1) (rest := []) X hN (tm_ref1 (x := 1) (by decide)) ml_M_123 im_M_refused sl_M_Mrefused ik_M co_M_refused ⟨rfl, by decide, by decide, by decide +kernel⟩ ⟨rfl, rfl, by decide, by decide⟩ rfl (wl_at (by decide)) rfl rfl (Nat.le_of_ble_eq_true rfl) dc_M_peek_15 ⟨Nat.zero_le _, Nat.zero_le _⟩ ?_
      refine go_if_eq (tgt := 23) X dc_M_peek_18 (by decide) (fun h18 => ?_) (fun h18 => ?_)
      · exact absurd h18 (by decide)
      · refine go_iconst (v := 0) X (by decide) dc_M_peek_21 ?_
        exact go_iret X hr dc_M_peek_22 rfl rfl
set_option maxHeartbeats 4000000 in
set_option maxRecDepth 20000 in
theorem tm_plainX (l : Launch) (D : va_G) (T : Nat → ClassId) (ad : Nat → Nat) (A : Nat → Prop) (nw : List Cond) (K n : Nat) {ρ : ST_} {op a b : Int32} (ho : ¬ (0 ≤ op ∧ op ≤ 2)) : cm_ l D T ad K n A nw yn_M_plain (.code yn_M_plain cd_M_plain 6 (some .int)) 1 [.int op, .int a, .int b] ρ (u2_ ρ 0 0 1) (some (.int 0)) := by
  refine go_in (by decide) (Nat.le_of_ble_eq_true rfl) (List.forall_mem_cons.mpr ⟨rfl, List.forall_mem_cons.mpr ⟨rfl, List.forall_mem_cons.mpr ⟨rfl, List.forall_mem_cons.mpr ⟨rfl, fun _ h => nomatch h⟩⟩⟩⟩) ?_
  intro P e s m args below meth c X hr hnm hN
  replace X : Cx_ P l e (rm_d 1) s m args below meth c cd_M_plain 6 rn_M D cl_ (tys_ T) TG_ := X
  refine go_loc (L' := [(0, .ref (ad 0)), (1, .int op), (2, .int a), (3, .int b)]) rfl ?_
  first | refine go_aload_n (i := 0) X rfl rfl dc_M_plain_0 ?_ | refine go_aloadN_n (i := 0) X rfl rfl dc_M_plain_0 ?_
  refine go_iload_n (i := 1) X rfl rfl dc_M_plain_1 ?_
  refine go_if_lt (tgt := 10) X dc_M_plain_2 (by decide) (fun h2 => ?_) (fun h2 => ?_)
  · refine go_iconst (v := 1) X (by decide) dc_M_plain_10 ?_
    refine go_goto (tgt := 15) X dc_M_plain_11 (by decide) ?_
    refine go_cV (C := rn_M) (ci := 7) (i := 0) (n := 1) (rest := []) X hN (tm_ref1 (x := 1) (by decide)) ml_M_123 im_M_refused sl_M_Mrefused ik_M co_M_refused ⟨rfl, by decide, by decide, by decide +kernel⟩ ⟨rfl, rfl, by decide, by decide⟩ rfl (wl_at (by decide)) rfl rfl (Nat.le_of_ble_eq_true rfl) dc_M_plain_15 ⟨Nat.zero_le _, Nat.zero_le _⟩ ?_
    refine go_if_eq (tgt := 23) X dc_M_plain_18 (by decide) (fun h18 => ?_) (fun h18 => ?_)
    · exact absurd h18 (by decide)
    · refine go_iconst (v := 0) X (by decide) dc_M_plain_21 ?_
      exact go_iret X hr dc_M_plain_22 rfl rfl
  · refine go_iload_n (i := 1) X rfl rfl dc_M_plain_5 ?_
    refine go_iconst (v := 2) X (by decide) dc_M_plain_6 ?_
    refine go_icmp_le (tgt := 14) X dc_M_plain_7 (by decide) (fun h7 => ?_) (fun h7 => ?_)
    · exact absurd ⟨by rw [iz_le, iz_0]; rw [iz_lt, iz_0] at h2; omega, h7⟩ ho
    · refine go_iconst (v := 1) X (by decide) dc_M_plain_10 ?_
      refine go_goto (tgt := 15) X dc_M_plain_11 (by decide) ?_
      refine go_cV (C := rn_M) (ci := 7) (i := 0) (n := 1) (rest := []) X hN (tm_ref1 (x := 1) (by decide)) ml_M_123 im_M_refused sl_M_Mrefused ik_M co_M_refused ⟨rfl, by decide, by decide, by decide +kernel⟩ ⟨rfl, rfl, by decide, by decide⟩ rfl (wl_at (by decide)) rfl rfl (Nat.le_of_ble_eq_true rfl) dc_M_plain_15 ⟨Nat.zero_le _, Nat.zero_le _⟩ ?_
      refine go_if_eq (tgt := 23) X dc_M_plain_18 (by decide) (fun h18 => ?_) (fun h18 => ?_)
      · exact absurd h18 (by decide)
      · refine go_iconst (v := 0) X (by decide) dc_M_plain_21 ?_
        exact go_iret X hr dc_M_plain_22 rfl rfl
set_option maxHeartbeats 4000000 in
set_option maxRecDepth 20000 in
theorem tm_peek (l : Launch) (D : va_G) (T : Nat → ClassId) (ad : Nat → Nat) (A : Nat → Prop) (nw : List Cond) (K n : Nat) {ρ : ST_} {op a b : Int32} {J : Nat} (hK : K < 4) (ho : 0 ≤ op ∧ op ≤ 2) (hJ : ρ 0 1 = nI (J + 1)) (hJ6 : J + 1 < 600) : cm_ l D T ad K n A nw yn_M_peek (.code yn_M_peek cd_M_peek 4 (some .int)) 3 [.int op, .int a, .int b] ρ (hm_peek K op a b (u2_ ρ 0 0 0)) (some (.int (hm_peekR K op a b (u2_ ρ 0 0 0)))) := by
  have eJ : ix_ (ρ 0 1) - 1 = J := by rw [hJ, show ix_ (nI (J + 1)) = J + 1 from nI_clamp (by omega)]; rfl
  refine go_in (by decide) (Nat.le_of_ble_eq_true rfl) (List.forall_mem_cons.mpr ⟨rfl, List.forall_mem_cons.mpr ⟨rfl, List.forall_mem_cons.mpr ⟨rfl, List.forall_mem_cons.mpr ⟨rfl, fun _ h => nomatch h⟩⟩⟩⟩) ?_
  intro P e s m args below meth c X hr hnm hN
  replace X : Cx_ P l e (rm_d 3) s m args below meth c cd_M_peek 4 rn_M D cl_ (tys_ T) TG_ := X
  refine go_loc (L' := [(0, .ref (ad 0)), (1, .int op), (2, .int a), (3, .int b)]) rfl ?_
  first | refine go_aload_n (i := 0) X rfl rfl dc_M_peek_0 ?_ | refine go_aloadN_n (i := 0) X rfl rfl dc_M_peek_0 ?_
  refine go_iload_n (i := 1) X rfl rfl dc_M_peek_1 ?_
  refine go_if_lt (tgt := 10) X dc_M_peek_2 (by decide) (fun h2 => ?_) (fun h2 => ?_)
  · exfalso
    have z := ho.1
    rw [iz_le, iz_0] at z
    rw [iz_lt, iz_0] at h2
    omega
  · refine go_iload_n (i := 1) X rfl rfl dc_M_peek_5 ?_
    refine go_iconst (v := 2) X (by decide) dc_M_peek_6 ?_
    refine go_icmp_le (tgt := 14) X dc_M_peek_7 (by decide) (fun h7 => ?_) (fun h7 => ?_)
    · refine go_iconst (v := 0) X (by decide) dc_M_peek_14 ?_
      refine go_cV (C := rn_M) (ci := 7) (i := 0) (n := 1) (rest := []) X hN (tm_ref0) ml_M_123 im_M_refused sl_M_Mrefused ik_M co_M_refused ⟨rfl, by decide, by decide, by decide +kernel⟩ ⟨rfl, rfl, by decide, by decide⟩ rfl (wl_at (by decide)) rfl rfl (Nat.le_of_ble_eq_true rfl) dc_M_peek_15 ⟨Nat.zero_le _, Nat.zero_le _⟩ ?_
      refine go_if_eq (tgt := 23) X dc_M_peek_18 (by decide) (fun h18 => ?_) (fun h18 => ?_)
      · first | refine go_aload_n (i := 0) X rfl rfl dc_M_peek_23 ?_ | refine go_aloadN_n (i := 0) X rfl rfl dc_M_peek_23 ?_
        first | refine go_aload_n (i := 0) X rfl rfl dc_M_peek_24 ?_ | refine go_aloadN_n (i := 0) X rfl rfl dc_M_peek_24 ?_
        refine gm_get (v := .int (ρ 0 1)) X 23 (by decide) fl_M_93 rfl dc_M_peek_25 ?_
        refine go_cV (C := rn_M) (ci := 7) (i := 0) (n := 1) (rest := []) X hN (tm_replay l D T ad A nw K n (ρ := u2_ ρ 0 0 0) hK hJ hJ6) ml_M_126 im_M_replay sl_M_Mreplay ik_M co_M_replay ⟨rfl, by decide, by decide, by decide +kernel⟩ ⟨rfl, rfl, by decide, by decide⟩ rfl (wl_at (by decide)) rfl rfl (Nat.le_of_ble_eq_true rfl) dc_M_peek_28 ⟨Nat.zero_le _, Nat.zero_le _⟩ ?_
        refine go_pop X rfl dc_M_peek_31 ?_
        first | refine go_aload_n (i := 0) X rfl rfl dc_M_peek_32 ?_ | refine go_aloadN_n (i := 0) X rfl rfl dc_M_peek_32 ?_
        refine go_iload_n (i := 1) X rfl rfl dc_M_peek_33 ?_
        refine go_iload_n (i := 2) X rfl rfl dc_M_peek_34 ?_
        refine go_iload_n (i := 3) X rfl rfl dc_M_peek_35 ?_
        refine go_cV (C := rn_M) (ci := 7) (i := 0) (n := 3) (rest := []) X hN (tm_act l D T ad A nw K n (ρ := hm_rep K J (u2_ ρ 0 0 0)) hK (rs_z K (ρ 21) (ρ 22) (ρ 23) J)) ml_M_116 im_M_act sl_M_Mact ik_M co_M_act ⟨rfl, by decide, by decide, by decide +kernel⟩ ⟨rfl, rfl, by decide, by decide⟩ rfl (wl_at (by decide)) rfl rfl (Nat.le_of_ble_eq_true rfl) dc_M_peek_36 ⟨Nat.zero_le _, Nat.zero_le _⟩ ?_
        exact go_iret X hr dc_M_peek_39 (congrArg (mW_ T ad K n) (by unfold hm_peek; rw [show (u2_ ρ 0 0 0) 0 1 = ρ 0 1 from rfl, eJ])) (congrArg some (congrArg Value.int (by unfold hm_peekR; rw [show (u2_ ρ 0 0 0) 0 1 = ρ 0 1 from rfl, eJ])))
      · exact absurd rfl h18
    · exact absurd ho.2 h7
set_option maxHeartbeats 4000000 in
set_option maxRecDepth 20000 in
theorem tm_plain (l : Launch) (D : va_G) (T : Nat → ClassId) (ad : Nat → Nat) (A : Nat → Prop) (nw : List Cond) (K n : Nat) {ρ : ST_} {op a b : Int32} (hK : K < 4) (ho : 0 ≤ op ∧ op ≤ 2) (hz : 0 ≤ (ρ 0 3).toInt ∧ (ρ 0 3).toInt ≤ 8) : cm_ l D T ad K n A nw yn_M_plain (.code yn_M_plain cd_M_plain 6 (some .int)) 2 [.int op, .int a, .int b] ρ (hm_plain K op a b (u2_ ρ 0 0 0)) (some (.int (hm_plainR K op a b (u2_ ρ 0 0 0)))) := by
  refine go_in (by decide) (Nat.le_of_ble_eq_true rfl) (List.forall_mem_cons.mpr ⟨rfl, List.forall_mem_cons.mpr ⟨rfl, List.forall_mem_cons.mpr ⟨rfl, List.forall_mem_cons.mpr ⟨rfl, fun _ h => nomatch h⟩⟩⟩⟩) ?_
  intro P e s m args below meth c X hr hnm hN
  replace X : Cx_ P l e (rm_d 2) s m args below meth c cd_M_plain 6 rn_M D cl_ (tys_ T) TG_ := X
  refine go_loc (L' := [(0, .ref (ad 0)), (1, .int op), (2, .int a), (3, .int b)]) rfl ?_
  first | refine go_aload_n (i := 0) X rfl rfl dc_M_plain_0 ?_ | refine go_aloadN_n (i := 0) X rfl rfl dc_M_plain_0 ?_
  refine go_iload_n (i := 1) X rfl rfl dc_M_plain_1 ?_
  refine go_if_lt (tgt := 10) X dc_M_plain_2 (by decide) (fun h2 => ?_) (fun h2 => ?_)
  · exfalso
    have z := ho.1
    rw [iz_le, iz_0] at z
    rw [iz_lt, iz_0] at h2
    omega
  · refine go_iload_n (i := 1) X rfl rfl dc_M_plain_5 ?_
    refine go_iconst (v := 2) X (by decide) dc_M_plain_6 ?_
    refine go_icmp_le (tgt := 14) X dc_M_plain_7 (by decide) (fun h7 => ?_) (fun h7 => ?_)
    · refine go_iconst (v := 0) X (by decide) dc_M_plain_14 ?_
      refine go_cV (C := rn_M) (ci := 7) (i := 0) (n := 1) (rest := []) X hN (tm_ref0) ml_M_123 im_M_refused sl_M_Mrefused ik_M co_M_refused ⟨rfl, by decide, by decide, by decide +kernel⟩ ⟨rfl, rfl, by decide, by decide⟩ rfl (wl_at (by decide)) rfl rfl (Nat.le_of_ble_eq_true rfl) dc_M_plain_15 ⟨Nat.zero_le _, Nat.zero_le _⟩ ?_
      refine go_if_eq (tgt := 23) X dc_M_plain_18 (by decide) (fun h18 => ?_) (fun h18 => ?_)
      · first | refine go_aload_n (i := 0) X rfl rfl dc_M_plain_23 ?_ | refine go_aloadN_n (i := 0) X rfl rfl dc_M_plain_23 ?_
        first | refine go_aload_n (i := 0) X rfl rfl dc_M_plain_24 ?_ | refine go_aloadN_n (i := 0) X rfl rfl dc_M_plain_24 ?_
        refine gm_get (v := .int (ρ 0 3)) X 30 (by decide) fl_M_160 rfl dc_M_plain_25 ?_
        refine gm_put X 28 2 (by decide) fl_M_102 rfl (tk_M 28 (by decide)) (mF_s2 _ _ _ _ _) dc_M_plain_28 ?_
        refine go_iconst (v := nI 0) X (by decide) dc_M_plain_31 ?_
        refine go_istore (i := 4) X (by decide) dc_M_plain_32 ?_
        refine go_loc (L' := [(0, .ref (ad 0)), (1, .int op), (2, .int a), (3, .int b), (4, .int (nI 0))]) rfl ?_
        refine go_eqw (w' := mW_ T ad K n (u1_ (u2_ (u2_ ρ 0 0 0) 0 2 (ρ 0 3)) 24 (cp_ (ρ 24) (ρ 25) 0))) (congrArg _ (by rw [cp_0]; exact (u1_id (u2_ (u2_ ρ 0 0 0) 0 2 (ρ 0 3)) 24).symm)) ?_
        refine (lp_up (P := fun j => Go_ P l e (rm_d 2) s m args below meth c D cl_ A 6 0 0 _ (mW_ T ad K n (u1_ (u2_ (u2_ ρ 0 0 0) 0 2 (ρ 0 3)) 24 (cp_ (ρ 24) (ρ 25) j))) 34 [(0, .ref (ad 0)), (1, .int op), (2, .int a), (3, .int b), (4, .int (nI j))] []) 8 (fun j hj ih => ?_)) 0 (Nat.zero_le _)
        refine go_iload (i := 4) X rfl dc_M_plain_34 ?_
        refine go_bipush (v := 8) X (by decide) dc_M_plain_36 ?_
        refine go_icmp_ge (tgt := 61) X dc_M_plain_38 (by decide) (fun h38 => ?_) (fun h38 => ?_)
        · have e8 : j = 8 := by rw [iz_le, iz_8, iz_nI (by omega)] at h38; omega
          subst e8
          refine gm_arr (by decide) (fun i hi => cp_all hi) ?_
          first | refine go_aload_n (i := 0) X rfl rfl dc_M_plain_61 ?_ | refine go_aloadN_n (i := 0) X rfl rfl dc_M_plain_61 ?_
          refine go_iload_n (i := 1) X rfl rfl dc_M_plain_62 ?_
          refine go_iload_n (i := 2) X rfl rfl dc_M_plain_63 ?_
          refine go_iload_n (i := 3) X rfl rfl dc_M_plain_64 ?_
          refine go_cV (C := rn_M) (ci := 7) (i := 0) (n := 3) (rest := []) X hN (tm_act l D T ad A nw K n (ρ := u1_ (u2_ (u2_ ρ 0 0 0) 0 2 (ρ 0 3)) 24 (ρ 25)) hK hz) ml_M_116 im_M_act sl_M_Mact ik_M co_M_act ⟨rfl, by decide, by decide, by decide +kernel⟩ ⟨rfl, rfl, by decide, by decide⟩ rfl (wl_at (by decide)) rfl rfl (Nat.le_of_ble_eq_true rfl) dc_M_plain_65 ⟨Nat.zero_le _, Nat.zero_le _⟩ ?_
          refine go_istore (i := 4) X (by decide) dc_M_plain_68 ?_
          first | refine go_aload_n (i := 0) X rfl rfl dc_M_plain_70 ?_ | refine go_aloadN_n (i := 0) X rfl rfl dc_M_plain_70 ?_
          first | refine go_aload_n (i := 0) X rfl rfl dc_M_plain_71 ?_ | refine go_aloadN_n (i := 0) X rfl rfl dc_M_plain_71 ?_
          refine gm_get (v := .int (pa_ K op a b (ρ 25) (ρ 0 3)).2.1) X 28 (by decide) fl_M_102 rfl dc_M_plain_72 ?_
          refine gm_put X 30 3 (by decide) fl_M_160 rfl (tk_M 30 (by decide)) (mF_s3 _ _ _ _ _) dc_M_plain_75 ?_
          refine go_iconst (v := nI 0) X (by decide) dc_M_plain_78 ?_
          refine go_istore (i := 5) X (by decide) dc_M_plain_79 ?_
          refine go_loc (L' := [(0, .ref (ad 0)), (1, .int op), (2, .int a), (3, .int b), (4, .int (pa_ K op a b (ρ 25) (ρ 0 3)).2.2), (5, .int (nI 0))]) rfl ?_
          refine go_eqw (w' := mW_ T ad K n (u1_ (u2_ (hm_act K op a b (u1_ (u2_ (u2_ ρ 0 0 0) 0 2 (ρ 0 3)) 24 (ρ 25))) 0 3 (pa_ K op a b (ρ 25) (ρ 0 3)).2.1) 25 (cp_ (ρ 25) (pa_ K op a b (ρ 25) (ρ 0 3)).1 0))) (congrArg _ (by rw [cp_0]; exact (u1_id (u2_ (hm_act K op a b (u1_ (u2_ (u2_ ρ 0 0 0) 0 2 (ρ 0 3)) 24 (ρ 25))) 0 3 (pa_ K op a b (ρ 25) (ρ 0 3)).2.1) 25).symm)) ?_
          refine (lp_up (P := fun j => Go_ P l e (rm_d 2) s m args below meth c D cl_ A 6 0 0 _ (mW_ T ad K n (u1_ (u2_ (hm_act K op a b (u1_ (u2_ (u2_ ρ 0 0 0) 0 2 (ρ 0 3)) 24 (ρ 25))) 0 3 (pa_ K op a b (ρ 25) (ρ 0 3)).2.1) 25 (cp_ (ρ 25) (pa_ K op a b (ρ 25) (ρ 0 3)).1 j))) 81 [(0, .ref (ad 0)), (1, .int op), (2, .int a), (3, .int b), (4, .int (pa_ K op a b (ρ 25) (ρ 0 3)).2.2), (5, .int (nI j))] []) 8 (fun j hj ih => ?_)) 0 (Nat.zero_le _)
          refine go_iload (i := 5) X rfl dc_M_plain_81 ?_
          refine go_bipush (v := 8) X (by decide) dc_M_plain_83 ?_
          refine go_icmp_ge (tgt := 108) X dc_M_plain_85 (by decide) (fun h85 => ?_) (fun h85 => ?_)
          · have e8 : j = 8 := by rw [iz_le, iz_8, iz_nI (by omega)] at h85; omega
            subst e8
            refine gm_arr (by decide) (fun i hi => cp_all hi) ?_
            refine go_iload (i := 4) X rfl dc_M_plain_108 ?_
            exact go_iret X hr dc_M_plain_110 rfl rfl
          · have hlt : j < 8 := by rw [iz_le, iz_8, iz_nI (by omega)] at h85; omega
            have hx : Ix_ (nI j) 8 j := Ix_n hlt (by decide)
            first | refine go_aload_n (i := 0) X rfl rfl dc_M_plain_88 ?_ | refine go_aloadN_n (i := 0) X rfl rfl dc_M_plain_88 ?_
            refine gm_get X 29 (by decide) fl_M_83 rfl dc_M_plain_89 ?_
            refine go_iload (i := 5) X rfl dc_M_plain_92 ?_
            first | refine go_aload_n (i := 0) X rfl rfl dc_M_plain_94 ?_ | refine go_aloadN_n (i := 0) X rfl rfl dc_M_plain_94 ?_
            refine gm_get X 27 (by decide) fl_M_80 rfl dc_M_plain_95 ?_
            refine go_iload (i := 5) X rfl dc_M_plain_98 ?_
            refine gm_ld (f := (pa_ K op a b (ρ 25) (ρ 0 3)).1) X rfl (by decide) (by assumption) dc_M_plain_100 ?_
            refine gm_st X (by decide) (by assumption) dc_M_plain_101 ?_
            refine go_iinc (i := 5) (v := nI (j + 1)) X rfl (by rw [lit1]; exact nI_1 j) (by decide) dc_M_plain_102 ?_
            refine go_goto (tgt := 81) X dc_M_plain_105 (by decide) ?_
            refine go_loc (L' := [(0, .ref (ad 0)), (1, .int op), (2, .int a), (3, .int b), (4, .int (pa_ K op a b (ρ 25) (ρ 0 3)).2.2), (5, .int (nI (j + 1)))]) rfl ?_
            refine go_eqw (w' := mW_ T ad K n (u1_ (u2_ (hm_act K op a b (u1_ (u2_ (u2_ ρ 0 0 0) 0 2 (ρ 0 3)) 24 (ρ 25))) 0 3 (pa_ K op a b (ρ 25) (ρ 0 3)).2.1) 25 (cp_ (ρ 25) (pa_ K op a b (ρ 25) (ρ 0 3)).1 (j + 1)))) (congrArg _ (by rw [u12_id, cp_s])) ?_
            exact ih (by omega)
        · have hlt : j < 8 := by rw [iz_le, iz_8, iz_nI (by omega)] at h38; omega
          have hx : Ix_ (nI j) 8 j := Ix_n hlt (by decide)
          first | refine go_aload_n (i := 0) X rfl rfl dc_M_plain_41 ?_ | refine go_aloadN_n (i := 0) X rfl rfl dc_M_plain_41 ?_
          refine gm_get X 27 (by decide) fl_M_80 rfl dc_M_plain_42 ?_
          refine go_iload (i := 4) X rfl dc_M_plain_45 ?_
          first | refine go_aload_n (i := 0) X rfl rfl dc_M_plain_47 ?_ | refine go_aloadN_n (i := 0) X rfl rfl dc_M_plain_47 ?_
          refine gm_get X 29 (by decide) fl_M_83 rfl dc_M_plain_48 ?_
          refine go_iload (i := 4) X rfl dc_M_plain_51 ?_
          refine gm_ld (f := ρ 25) X rfl (by decide) (by assumption) dc_M_plain_53 ?_
          refine gm_st X (by decide) (by assumption) dc_M_plain_54 ?_
          refine go_iinc (i := 4) (v := nI (j + 1)) X rfl (by rw [lit1]; exact nI_1 j) (by decide) dc_M_plain_55 ?_
          refine go_goto (tgt := 34) X dc_M_plain_58 (by decide) ?_
          refine go_loc (L' := [(0, .ref (ad 0)), (1, .int op), (2, .int a), (3, .int b), (4, .int (nI (j + 1)))]) rfl ?_
          refine go_eqw (w' := mW_ T ad K n (u1_ (u2_ (u2_ ρ 0 0 0) 0 2 (ρ 0 3)) 24 (cp_ (ρ 24) (ρ 25) (j + 1)))) (congrArg _ (by rw [u12_id, cp_s])) ?_
          exact ih (by omega)
      · exact absurd rfl h18
    · exact absurd ho.2 h7
set_option maxHeartbeats 4000000 in
set_option maxRecDepth 20000 in
theorem tm_cut (l : Launch) (D : va_G) (T : Nat → ClassId) (ad : Nat → Nat) (A : Nat → Prop) (nw : List Cond) (K n : Nat) {ρ : ST_} (hn : n ≤ 5) (h0 : 0 < n) (h8 : ∀ q, q < n → Ix_ (ρ 8 q) 32 (ix_ (ρ 8 q))) : cm_ l D T ad K n A nw yn_M_cut (.code yn_M_cut cd_M_cut 6 (some .int)) 1 [] ρ (hm_cut n (u2_ ρ 0 0 0)).1 (some (.int (hm_cut n (u2_ ρ 0 0 0)).2)) := by
  refine go_in (by decide) (Nat.le_of_ble_eq_true rfl) (List.forall_mem_cons.mpr ⟨rfl, fun _ h => nomatch h⟩) ?_
  intro P e s m args below meth c X hr hnm hN
  replace X : Cx_ P l e (rm_d 1) s m args below meth c cd_M_cut 6 rn_M D cl_ (tys_ T) TG_ := X
  refine go_loc (L' := [(0, .ref (ad 0))]) rfl ?_
  first | refine go_aload_n (i := 0) X rfl rfl dc_M_cut_0 ?_ | refine go_aloadN_n (i := 0) X rfl rfl dc_M_cut_0 ?_
  refine go_iconst (v := 0) X (by decide) dc_M_cut_1 ?_
  refine gm_put X 0 0 (by decide) fl_M_99 rfl (tk_M 0 (by decide)) (mF_s0 _ _ _ _ _) dc_M_cut_2 ?_
  obtain ⟨τ, hτ⟩ : ∃ τ, τ = u2_ ρ 0 0 0 := ⟨_, rfl⟩
  have h8t : ∀ q, q < n → Ix_ (τ 8 q) 32 (ix_ (τ 8 q)) := by rw [hτ]; exact h8
  rw [← hτ]
  clear hτ h8
  refine go_iconst (v := hm_farF τ 0) X (by show Int32.ofInt 0 = 0; decide) dc_M_cut_5 ?_
  refine go_istore_n (i := 1) X rfl (by decide) dc_M_cut_6 ?_
  refine go_iconst (v := nI (0 + 1)) X (by decide) dc_M_cut_7 ?_
  refine go_istore_n (i := 2) X rfl (by decide) dc_M_cut_8 ?_
  refine go_loc (L' := [(0, .ref (ad 0)), (1, .int (hm_farF τ 0)), (2, .int (nI (0 + 1)))]) rfl ?_
  refine (lp_up (P := fun j => Go_ P l e (rm_d 1) s m args below meth c D cl_ A 6 0 0 _ (mW_ T ad K n (τ)) 9 [(0, .ref (ad 0)), (1, .int (hm_farF τ j)), (2, .int (nI (j + 1)))] []) (n - 1) (fun j hj ih => ?_)) 0 (Nat.zero_le _)
  refine go_iload_n (i := 2) X rfl rfl dc_M_cut_9 ?_
  first | refine go_aload_n (i := 0) X rfl rfl dc_M_cut_10 ?_ | refine go_aloadN_n (i := 0) X rfl rfl dc_M_cut_10 ?_
  refine gm_get X 2 (by decide) fl_M_90 rfl dc_M_cut_11 ?_
  refine go_icmp_ge (tgt := 54) X dc_M_cut_14 (by decide) (fun h14 => ?_) (fun h14 => ?_)
  · have ej : j = n - 1 := by rw [iz_le, iz_nI (by omega), iz_nI (by omega)] at h14; omega
    subst ej
    obtain ⟨q, hq, eq⟩ := far_nI τ (n - 1)
    have hq5 : q < n := by omega
    have hfx : Ix_ (hm_farF τ (n - 1)) 5 (ix_ (hm_farF τ (n - 1))) := by rw [eq]; exact ⟨vp_in_nI (by omega) (by decide), rfl⟩
    have hHI : Ix_ (τ 8 (ix_ (hm_farF τ (n - 1)))) 32 (ix_ (τ 8 (ix_ (hm_farF τ (n - 1))))) := by rw [show ix_ (hm_farF τ (n - 1)) = q by rw [eq]; exact nI_clamp (by omega)]; exact h8t q hq5
    first | refine go_aload_n (i := 0) X rfl rfl dc_M_cut_54 ?_ | refine go_aloadN_n (i := 0) X rfl rfl dc_M_cut_54 ?_
    refine gm_get X 10 (by decide) fl_M_32 rfl dc_M_cut_55 ?_
    refine go_iload_n (i := 1) X rfl rfl dc_M_cut_58 ?_
    refine gm_ld (f := τ 8) X rfl (by decide) (by assumption) dc_M_cut_59 ?_
    refine go_istore_n (i := 2) X rfl (by decide) dc_M_cut_60 ?_
    first | refine go_aload_n (i := 0) X rfl rfl dc_M_cut_61 ?_ | refine go_aloadN_n (i := 0) X rfl rfl dc_M_cut_61 ?_
    refine gm_get X 4 (by decide) fl_M_13 rfl dc_M_cut_62 ?_
    refine go_iload_n (i := 2) X rfl rfl dc_M_cut_65 ?_
    refine gm_ld (f := τ 2) X rfl (by decide) (by assumption) dc_M_cut_66 ?_
    refine go_istore_n (i := 3) X rfl (by decide) dc_M_cut_67 ?_
    refine go_iconst (v := nI 0) X (by decide) dc_M_cut_68 ?_
    refine go_istore (i := 4) X (by decide) dc_M_cut_69 ?_
    refine go_loc (L' := [(0, .ref (ad 0)), (1, .int (hm_farF τ (n - 1))), (2, .int (τ 8 (ix_ (hm_farF τ (n - 1))))), (3, .int (ml_ τ (τ 8 (ix_ (hm_farF τ (n - 1)))) (τ 2 (ix_ (τ 8 (ix_ (hm_farF τ (n - 1)))))) 0)), (4, .int (nI 0))]) rfl ?_
    refine go_eqw (w' := mW_ T ad K n (u1_ τ 8 (br_ τ (τ 8 (ix_ (hm_farF τ (n - 1)))) 0))) (congrArg _ (br_zero τ (τ 8 (ix_ (hm_farF τ (n - 1))))).symm) ?_
    refine (lp_up (P := fun j => Go_ P l e (rm_d 1) s m args below meth c D cl_ A 6 0 0 _ (mW_ T ad K n (u1_ τ 8 (br_ τ (τ 8 (ix_ (hm_farF τ (n - 1)))) j))) 71 [(0, .ref (ad 0)), (1, .int (hm_farF τ (n - 1))), (2, .int (τ 8 (ix_ (hm_farF τ (n - 1))))), (3, .int (ml_ τ (τ 8 (ix_ (hm_farF τ (n - 1)))) (τ 2 (ix_ (τ 8 (ix_ (hm_farF τ (n - 1)))))) j)), (4, .int (nI j))] []) n (fun j hj ih => ?_)) 0 (Nat.zero_le _)
    refine go_iload (i := 4) X rfl dc_M_cut_71 ?_
    first | refine go_aload_n (i := 0) X rfl rfl dc_M_cut_73 ?_ | refine go_aloadN_n (i := 0) X rfl rfl dc_M_cut_73 ?_
    refine gm_get X 2 (by decide) fl_M_90 rfl dc_M_cut_74 ?_
    refine go_icmp_ge (tgt := 148) X dc_M_cut_77 (by decide) (fun h77 => ?_) (fun h77 => ?_)
    · have ej : n = j := by rw [iz_le, iz_nI (by omega), iz_nI (by omega)] at h77; omega
      subst ej
      first | refine go_aload_n (i := 0) X rfl rfl dc_M_cut_148 ?_ | refine go_aloadN_n (i := 0) X rfl rfl dc_M_cut_148 ?_
      refine go_cV (C := rn_M) (ci := 7) (i := 0) (n := 0) (rest := []) X hN (tm_inUseCount l D T ad A nw K n) ml_M_157 im_M_inUseCount sl_M_MinUseCount ik_M co_M_inUseCount ⟨rfl, by decide, by decide, by decide +kernel⟩ ⟨rfl, rfl, by decide, by decide⟩ rfl (wl_at (by decide)) rfl rfl (Nat.le_of_ble_eq_true rfl) dc_M_cut_149 ⟨Nat.zero_le _, Nat.zero_le _⟩ ?_
      refine go_istore (i := 4) X (by decide) dc_M_cut_152 ?_
      refine go_iconst (v := nI 0) X (by decide) dc_M_cut_154 ?_
      refine go_istore (i := 5) X (by decide) dc_M_cut_155 ?_
      refine go_loc (L' := [(0, .ref (ad 0)), (1, .int (hm_farF τ (n - 1))), (2, .int (τ 8 (ix_ (hm_farF τ (n - 1))))), (3, .int (ml_ τ (τ 8 (ix_ (hm_farF τ (n - 1)))) (τ 2 (ix_ (τ 8 (ix_ (hm_farF τ (n - 1)))))) n)), (4, .int (hm_used (u1_ τ 8 (br_ τ (τ 8 (ix_ (hm_farF τ (n - 1)))) n)))), (5, .int (nI 0))]) rfl ?_
      refine go_eqw (w' := mW_ T ad K n (u1_ (u1_ τ 8 (br_ τ (τ 8 (ix_ (hm_farF τ (n - 1)))) n)) 1 (rl_ (u1_ τ 8 (br_ τ (τ 8 (ix_ (hm_farF τ (n - 1)))) n)) (ml_ τ (τ 8 (ix_ (hm_farF τ (n - 1)))) (τ 2 (ix_ (τ 8 (ix_ (hm_farF τ (n - 1)))))) n) 0))) (congrArg _ (rl_zero (u1_ τ 8 (br_ τ (τ 8 (ix_ (hm_farF τ (n - 1)))) n)) (ml_ τ (τ 8 (ix_ (hm_farF τ (n - 1)))) (τ 2 (ix_ (τ 8 (ix_ (hm_farF τ (n - 1)))))) n)).symm) ?_
      refine (lp_up (P := fun j => Go_ P l e (rm_d 1) s m args below meth c D cl_ A 6 0 0 _ (mW_ T ad K n (u1_ (u1_ τ 8 (br_ τ (τ 8 (ix_ (hm_farF τ (n - 1)))) n)) 1 (rl_ (u1_ τ 8 (br_ τ (τ 8 (ix_ (hm_farF τ (n - 1)))) n)) (ml_ τ (τ 8 (ix_ (hm_farF τ (n - 1)))) (τ 2 (ix_ (τ 8 (ix_ (hm_farF τ (n - 1)))))) n) j))) 157 [(0, .ref (ad 0)), (1, .int (hm_farF τ (n - 1))), (2, .int (τ 8 (ix_ (hm_farF τ (n - 1))))), (3, .int (ml_ τ (τ 8 (ix_ (hm_farF τ (n - 1)))) (τ 2 (ix_ (τ 8 (ix_ (hm_farF τ (n - 1)))))) n)), (4, .int (hm_used (u1_ τ 8 (br_ τ (τ 8 (ix_ (hm_farF τ (n - 1)))) n)))), (5, .int (nI j))] []) 32 (fun j hj ih => ?_)) 0 (Nat.zero_le _)
      refine go_iload (i := 5) X rfl dc_M_cut_157 ?_
      refine go_bipush (v := 32) X (by decide) dc_M_cut_159 ?_
      refine go_icmp_ge (tgt := 209) X dc_M_cut_161 (by decide) (fun h161 => ?_) (fun h161 => ?_)
      · have e32 : j = 32 := by rw [iz_le, iz_32, iz_nI (by omega)] at h161; omega
        subst e32
        refine go_iload (i := 4) X rfl dc_M_cut_209 ?_
        first | refine go_aload_n (i := 0) X rfl rfl dc_M_cut_211 ?_ | refine go_aloadN_n (i := 0) X rfl rfl dc_M_cut_211 ?_
        refine go_cV (C := rn_M) (ci := 7) (i := 0) (n := 0) (rest := [.int (hm_used (u1_ τ 8 (br_ τ (τ 8 (ix_ (hm_farF τ (n - 1)))) n)))]) X hN (tm_inUseCount l D T ad A nw K n) ml_M_157 im_M_inUseCount sl_M_MinUseCount ik_M co_M_inUseCount ⟨rfl, by decide, by decide, by decide +kernel⟩ ⟨rfl, rfl, by decide, by decide⟩ rfl (wl_at (by decide)) rfl rfl (Nat.le_of_ble_eq_true rfl) dc_M_cut_212 ⟨Nat.zero_le _, Nat.zero_le _⟩ ?_
        refine go_isub X dc_M_cut_215 ?_
        exact go_iret X hr dc_M_cut_216 (congrArg (mW_ T ad K n) (by unfold hm_cut; rw [hm_br]; dsimp only; rw [hm_rel])) (congrArg some (congrArg Value.int (by unfold hm_cut; rw [hm_br]; dsimp only; rw [hm_rel])))
      · have hlt : j < 32 := by rw [iz_le, iz_32, iz_nI (by omega)] at h161; omega
        have hx : Ix_ (nI j) 32 j := Ix_n hlt (by decide)
        first | refine go_aload_n (i := 0) X rfl rfl dc_M_cut_164 ?_ | refine go_aloadN_n (i := 0) X rfl rfl dc_M_cut_164 ?_
        refine gm_get X 3 (by decide) fl_M_7 rfl dc_M_cut_165 ?_
        refine go_iload (i := 5) X rfl dc_M_cut_168 ?_
        refine gm_zld (f := rl_ (u1_ τ 8 (br_ τ (τ 8 (ix_ (hm_farF τ (n - 1)))) n)) (ml_ τ (τ 8 (ix_ (hm_farF τ (n - 1)))) (τ 2 (ix_ (τ 8 (ix_ (hm_farF τ (n - 1)))))) n) j) X (u1_same _ _ _) (by assumption) dc_M_cut_170 ?_
        rw [rl_self]
        refine go_if_eq (tgt := 203) X dc_M_cut_171 (by decide) (fun h171 => ?_) (fun h171 => ?_)
        · refine go_iinc (i := 5) (v := nI (j + 1)) X rfl (by rw [lit1]; exact nI_1 j) (by decide) dc_M_cut_203 ?_
          refine go_goto (tgt := 157) X dc_M_cut_206 (by decide) ?_
          first | (refine go_loc (L' := [(0, .ref (ad 0)), (1, .int (hm_farF τ (n - 1))), (2, .int (τ 8 (ix_ (hm_farF τ (n - 1))))), (3, .int (ml_ τ (τ 8 (ix_ (hm_farF τ (n - 1)))) (τ 2 (ix_ (τ 8 (ix_ (hm_farF τ (n - 1)))))) n)), (4, .int (hm_used (u1_ τ 8 (br_ τ (τ 8 (ix_ (hm_farF τ (n - 1)))) n)))), (5, .int (nI (j + 1)))]) rfl ?_; refine go_eqw (w' := mW_ T ad K n (u1_ (u1_ τ 8 (br_ τ (τ 8 (ix_ (hm_farF τ (n - 1)))) n)) 1 (rl_ (u1_ τ 8 (br_ τ (τ 8 (ix_ (hm_farF τ (n - 1)))) n)) (ml_ τ (τ 8 (ix_ (hm_farF τ (n - 1)))) (τ 2 (ix_ (τ 8 (ix_ (hm_farF τ (n - 1)))))) n) (j + 1)))) (congrArg _ (rl_succ_t ⟨on_iff.mpr ⟨h171, (by show 0 < τ 2 j; rw [iz_lt, iz_0]; rw [iz_le, iz_0] at h181; omega)⟩, (by show τ 2 j < _; rw [iz_lt]; rw [iz_le] at h192; omega)⟩)) ?_; exact ih hlt) | (refine go_loc (L' := [(0, .ref (ad 0)), (1, .int (hm_farF τ (n - 1))), (2, .int (τ 8 (ix_ (hm_farF τ (n - 1))))), (3, .int (ml_ τ (τ 8 (ix_ (hm_farF τ (n - 1)))) (τ 2 (ix_ (τ 8 (ix_ (hm_farF τ (n - 1)))))) n)), (4, .int (hm_used (u1_ τ 8 (br_ τ (τ 8 (ix_ (hm_farF τ (n - 1)))) n)))), (5, .int (nI (j + 1)))]) rfl ?_; refine go_eqw (w' := mW_ T ad K n (u1_ (u1_ τ 8 (br_ τ (τ 8 (ix_ (hm_farF τ (n - 1)))) n)) 1 (rl_ (u1_ τ 8 (br_ τ (τ 8 (ix_ (hm_farF τ (n - 1)))) n)) (ml_ τ (τ 8 (ix_ (hm_farF τ (n - 1)))) (τ 2 (ix_ (τ 8 (ix_ (hm_farF τ (n - 1)))))) n) (j + 1)))) (congrArg _ (rl_succ_f (fun q => absurd q.2 (by show ¬ τ 2 j < _; rw [iz_lt]; rw [iz_le] at h192; omega)))) ?_; exact ih hlt) | (refine go_loc (L' := [(0, .ref (ad 0)), (1, .int (hm_farF τ (n - 1))), (2, .int (τ 8 (ix_ (hm_farF τ (n - 1))))), (3, .int (ml_ τ (τ 8 (ix_ (hm_farF τ (n - 1)))) (τ 2 (ix_ (τ 8 (ix_ (hm_farF τ (n - 1)))))) n)), (4, .int (hm_used (u1_ τ 8 (br_ τ (τ 8 (ix_ (hm_farF τ (n - 1)))) n)))), (5, .int (nI (j + 1)))]) rfl ?_; refine go_eqw (w' := mW_ T ad K n (u1_ (u1_ τ 8 (br_ τ (τ 8 (ix_ (hm_farF τ (n - 1)))) n)) 1 (rl_ (u1_ τ 8 (br_ τ (τ 8 (ix_ (hm_farF τ (n - 1)))) n)) (ml_ τ (τ 8 (ix_ (hm_farF τ (n - 1)))) (τ 2 (ix_ (τ 8 (ix_ (hm_farF τ (n - 1)))))) n) (j + 1)))) (congrArg _ (rl_succ_f (fun q => absurd (on_iff.mp q.1).2 (by show ¬ 0 < τ 2 j; rw [iz_lt, iz_0]; rw [iz_le, iz_0] at h181; omega)))) ?_; exact ih hlt) | (refine go_loc (L' := [(0, .ref (ad 0)), (1, .int (hm_farF τ (n - 1))), (2, .int (τ 8 (ix_ (hm_farF τ (n - 1))))), (3, .int (ml_ τ (τ 8 (ix_ (hm_farF τ (n - 1)))) (τ 2 (ix_ (τ 8 (ix_ (hm_farF τ (n - 1)))))) n)), (4, .int (hm_used (u1_ τ 8 (br_ τ (τ 8 (ix_ (hm_farF τ (n - 1)))) n)))), (5, .int (nI (j + 1)))]) rfl ?_; refine go_eqw (w' := mW_ T ad K n (u1_ (u1_ τ 8 (br_ τ (τ 8 (ix_ (hm_farF τ (n - 1)))) n)) 1 (rl_ (u1_ τ 8 (br_ τ (τ 8 (ix_ (hm_farF τ (n - 1)))) n)) (ml_ τ (τ 8 (ix_ (hm_farF τ (n - 1)))) (τ 2 (ix_ (τ 8 (ix_ (hm_farF τ (n - 1)))))) n) (j + 1)))) (congrArg _ (rl_succ_f (fun q => absurd h171 (on_iff.mp q.1).1))) ?_; exact ih hlt)
        · first | refine go_aload_n (i := 0) X rfl rfl dc_M_cut_174 ?_ | refine go_aloadN_n (i := 0) X rfl rfl dc_M_cut_174 ?_
          refine gm_get X 4 (by decide) fl_M_13 rfl dc_M_cut_175 ?_
          refine go_iload (i := 5) X rfl dc_M_cut_178 ?_
          refine gm_ld (f := τ 2) X rfl (by decide) (by assumption) dc_M_cut_180 ?_
          refine go_if_le (tgt := 203) X dc_M_cut_181 (by decide) (fun h181 => ?_) (fun h181 => ?_)
          · refine go_iinc (i := 5) (v := nI (j + 1)) X rfl (by rw [lit1]; exact nI_1 j) (by decide) dc_M_cut_203 ?_
            refine go_goto (tgt := 157) X dc_M_cut_206 (by decide) ?_
            first | (refine go_loc (L' := [(0, .ref (ad 0)), (1, .int (hm_farF τ (n - 1))), (2, .int (τ 8 (ix_ (hm_farF τ (n - 1))))), (3, .int (ml_ τ (τ 8 (ix_ (hm_farF τ (n - 1)))) (τ 2 (ix_ (τ 8 (ix_ (hm_farF τ (n - 1)))))) n)), (4, .int (hm_used (u1_ τ 8 (br_ τ (τ 8 (ix_ (hm_farF τ (n - 1)))) n)))), (5, .int (nI (j + 1)))]) rfl ?_; refine go_eqw (w' := mW_ T ad K n (u1_ (u1_ τ 8 (br_ τ (τ 8 (ix_ (hm_farF τ (n - 1)))) n)) 1 (rl_ (u1_ τ 8 (br_ τ (τ 8 (ix_ (hm_farF τ (n - 1)))) n)) (ml_ τ (τ 8 (ix_ (hm_farF τ (n - 1)))) (τ 2 (ix_ (τ 8 (ix_ (hm_farF τ (n - 1)))))) n) (j + 1)))) (congrArg _ (rl_succ_t ⟨on_iff.mpr ⟨h171, (by show 0 < τ 2 j; rw [iz_lt, iz_0]; rw [iz_le, iz_0] at h181; omega)⟩, (by show τ 2 j < _; rw [iz_lt]; rw [iz_le] at h192; omega)⟩)) ?_; exact ih hlt) | (refine go_loc (L' := [(0, .ref (ad 0)), (1, .int (hm_farF τ (n - 1))), (2, .int (τ 8 (ix_ (hm_farF τ (n - 1))))), (3, .int (ml_ τ (τ 8 (ix_ (hm_farF τ (n - 1)))) (τ 2 (ix_ (τ 8 (ix_ (hm_farF τ (n - 1)))))) n)), (4, .int (hm_used (u1_ τ 8 (br_ τ (τ 8 (ix_ (hm_farF τ (n - 1)))) n)))), (5, .int (nI (j + 1)))]) rfl ?_; refine go_eqw (w' := mW_ T ad K n (u1_ (u1_ τ 8 (br_ τ (τ 8 (ix_ (hm_farF τ (n - 1)))) n)) 1 (rl_ (u1_ τ 8 (br_ τ (τ 8 (ix_ (hm_farF τ (n - 1)))) n)) (ml_ τ (τ 8 (ix_ (hm_farF τ (n - 1)))) (τ 2 (ix_ (τ 8 (ix_ (hm_farF τ (n - 1)))))) n) (j + 1)))) (congrArg _ (rl_succ_f (fun q => absurd q.2 (by show ¬ τ 2 j < _; rw [iz_lt]; rw [iz_le] at h192; omega)))) ?_; exact ih hlt) | (refine go_loc (L' := [(0, .ref (ad 0)), (1, .int (hm_farF τ (n - 1))), (2, .int (τ 8 (ix_ (hm_farF τ (n - 1))))), (3, .int (ml_ τ (τ 8 (ix_ (hm_farF τ (n - 1)))) (τ 2 (ix_ (τ 8 (ix_ (hm_farF τ (n - 1)))))) n)), (4, .int (hm_used (u1_ τ 8 (br_ τ (τ 8 (ix_ (hm_farF τ (n - 1)))) n)))), (5, .int (nI (j + 1)))]) rfl ?_; refine go_eqw (w' := mW_ T ad K n (u1_ (u1_ τ 8 (br_ τ (τ 8 (ix_ (hm_farF τ (n - 1)))) n)) 1 (rl_ (u1_ τ 8 (br_ τ (τ 8 (ix_ (hm_farF τ (n - 1)))) n)) (ml_ τ (τ 8 (ix_ (hm_farF τ (n - 1)))) (τ 2 (ix_ (τ 8 (ix_ (hm_farF τ (n - 1)))))) n) (j + 1)))) (congrArg _ (rl_succ_f (fun q => absurd (on_iff.mp q.1).2 (by show ¬ 0 < τ 2 j; rw [iz_lt, iz_0]; rw [iz_le, iz_0] at h181; omega)))) ?_; exact ih hlt) | (refine go_loc (L' := [(0, .ref (ad 0)), (1, .int (hm_farF τ (n - 1))), (2, .int (τ 8 (ix_ (hm_farF τ (n - 1))))), (3, .int (ml_ τ (τ 8 (ix_ (hm_farF τ (n - 1)))) (τ 2 (ix_ (τ 8 (ix_ (hm_farF τ (n - 1)))))) n)), (4, .int (hm_used (u1_ τ 8 (br_ τ (τ 8 (ix_ (hm_farF τ (n - 1)))) n)))), (5, .int (nI (j + 1)))]) rfl ?_; refine go_eqw (w' := mW_ T ad K n (u1_ (u1_ τ 8 (br_ τ (τ 8 (ix_ (hm_farF τ (n - 1)))) n)) 1 (rl_ (u1_ τ 8 (br_ τ (τ 8 (ix_ (hm_farF τ (n - 1)))) n)) (ml_ τ (τ 8 (ix_ (hm_farF τ (n - 1)))) (τ 2 (ix_ (τ 8 (ix_ (hm_farF τ (n - 1)))))) n) (j + 1)))) (congrArg _ (rl_succ_f (fun q => absurd h171 (on_iff.mp q.1).1))) ?_; exact ih hlt)
          · first | refine go_aload_n (i := 0) X rfl rfl dc_M_cut_184 ?_ | refine go_aloadN_n (i := 0) X rfl rfl dc_M_cut_184 ?_
            refine gm_get X 4 (by decide) fl_M_13 rfl dc_M_cut_185 ?_
            refine go_iload (i := 5) X rfl dc_M_cut_188 ?_
            refine gm_ld (f := τ 2) X rfl (by decide) (by assumption) dc_M_cut_190 ?_
            refine go_iload_n (i := 3) X rfl rfl dc_M_cut_191 ?_
            refine go_icmp_ge (tgt := 203) X dc_M_cut_192 (by decide) (fun h192 => ?_) (fun h192 => ?_)
            · refine go_iinc (i := 5) (v := nI (j + 1)) X rfl (by rw [lit1]; exact nI_1 j) (by decide) dc_M_cut_203 ?_
              refine go_goto (tgt := 157) X dc_M_cut_206 (by decide) ?_
              first | (refine go_loc (L' := [(0, .ref (ad 0)), (1, .int (hm_farF τ (n - 1))), (2, .int (τ 8 (ix_ (hm_farF τ (n - 1))))), (3, .int (ml_ τ (τ 8 (ix_ (hm_farF τ (n - 1)))) (τ 2 (ix_ (τ 8 (ix_ (hm_farF τ (n - 1)))))) n)), (4, .int (hm_used (u1_ τ 8 (br_ τ (τ 8 (ix_ (hm_farF τ (n - 1)))) n)))), (5, .int (nI (j + 1)))]) rfl ?_; refine go_eqw (w' := mW_ T ad K n (u1_ (u1_ τ 8 (br_ τ (τ 8 (ix_ (hm_farF τ (n - 1)))) n)) 1 (rl_ (u1_ τ 8 (br_ τ (τ 8 (ix_ (hm_farF τ (n - 1)))) n)) (ml_ τ (τ 8 (ix_ (hm_farF τ (n - 1)))) (τ 2 (ix_ (τ 8 (ix_ (hm_farF τ (n - 1)))))) n) (j + 1)))) (congrArg _ (rl_succ_t ⟨on_iff.mpr ⟨h171, (by show 0 < τ 2 j; rw [iz_lt, iz_0]; rw [iz_le, iz_0] at h181; omega)⟩, (by show τ 2 j < _; rw [iz_lt]; rw [iz_le] at h192; omega)⟩)) ?_; exact ih hlt) | (refine go_loc (L' := [(0, .ref (ad 0)), (1, .int (hm_farF τ (n - 1))), (2, .int (τ 8 (ix_ (hm_farF τ (n - 1))))), (3, .int (ml_ τ (τ 8 (ix_ (hm_farF τ (n - 1)))) (τ 2 (ix_ (τ 8 (ix_ (hm_farF τ (n - 1)))))) n)), (4, .int (hm_used (u1_ τ 8 (br_ τ (τ 8 (ix_ (hm_farF τ (n - 1)))) n)))), (5, .int (nI (j + 1)))]) rfl ?_; refine go_eqw (w' := mW_ T ad K n (u1_ (u1_ τ 8 (br_ τ (τ 8 (ix_ (hm_farF τ (n - 1)))) n)) 1 (rl_ (u1_ τ 8 (br_ τ (τ 8 (ix_ (hm_farF τ (n - 1)))) n)) (ml_ τ (τ 8 (ix_ (hm_farF τ (n - 1)))) (τ 2 (ix_ (τ 8 (ix_ (hm_farF τ (n - 1)))))) n) (j + 1)))) (congrArg _ (rl_succ_f (fun q => absurd q.2 (by show ¬ τ 2 j < _; rw [iz_lt]; rw [iz_le] at h192; omega)))) ?_; exact ih hlt) | (refine go_loc (L' := [(0, .ref (ad 0)), (1, .int (hm_farF τ (n - 1))), (2, .int (τ 8 (ix_ (hm_farF τ (n - 1))))), (3, .int (ml_ τ (τ 8 (ix_ (hm_farF τ (n - 1)))) (τ 2 (ix_ (τ 8 (ix_ (hm_farF τ (n - 1)))))) n)), (4, .int (hm_used (u1_ τ 8 (br_ τ (τ 8 (ix_ (hm_farF τ (n - 1)))) n)))), (5, .int (nI (j + 1)))]) rfl ?_; refine go_eqw (w' := mW_ T ad K n (u1_ (u1_ τ 8 (br_ τ (τ 8 (ix_ (hm_farF τ (n - 1)))) n)) 1 (rl_ (u1_ τ 8 (br_ τ (τ 8 (ix_ (hm_farF τ (n - 1)))) n)) (ml_ τ (τ 8 (ix_ (hm_farF τ (n - 1)))) (τ 2 (ix_ (τ 8 (ix_ (hm_farF τ (n - 1)))))) n) (j + 1)))) (congrArg _ (rl_succ_f (fun q => absurd (on_iff.mp q.1).2 (by show ¬ 0 < τ 2 j; rw [iz_lt, iz_0]; rw [iz_le, iz_0] at h181; omega)))) ?_; exact ih hlt) | (refine go_loc (L' := [(0, .ref (ad 0)), (1, .int (hm_farF τ (n - 1))), (2, .int (τ 8 (ix_ (hm_farF τ (n - 1))))), (3, .int (ml_ τ (τ 8 (ix_ (hm_farF τ (n - 1)))) (τ 2 (ix_ (τ 8 (ix_ (hm_farF τ (n - 1)))))) n)), (4, .int (hm_used (u1_ τ 8 (br_ τ (τ 8 (ix_ (hm_farF τ (n - 1)))) n)))), (5, .int (nI (j + 1)))]) rfl ?_; refine go_eqw (w' := mW_ T ad K n (u1_ (u1_ τ 8 (br_ τ (τ 8 (ix_ (hm_farF τ (n - 1)))) n)) 1 (rl_ (u1_ τ 8 (br_ τ (τ 8 (ix_ (hm_farF τ (n - 1)))) n)) (ml_ τ (τ 8 (ix_ (hm_farF τ (n - 1)))) (τ 2 (ix_ (τ 8 (ix_ (hm_farF τ (n - 1)))))) n) (j + 1)))) (congrArg _ (rl_succ_f (fun q => absurd h171 (on_iff.mp q.1).1))) ?_; exact ih hlt)
            · first | refine go_aload_n (i := 0) X rfl rfl dc_M_cut_195 ?_ | refine go_aloadN_n (i := 0) X rfl rfl dc_M_cut_195 ?_
              refine gm_get X 3 (by decide) fl_M_7 rfl dc_M_cut_196 ?_
              refine go_iload (i := 5) X rfl dc_M_cut_199 ?_
              refine go_iconst (v := 0) X (by decide) dc_M_cut_201 ?_
              refine gm_zst X (by assumption) (by decide) dc_M_cut_202 ?_
              refine go_iinc (i := 5) (v := nI (j + 1)) X rfl (by rw [lit1]; exact nI_1 j) (by decide) dc_M_cut_203 ?_
              refine go_goto (tgt := 157) X dc_M_cut_206 (by decide) ?_
              first | (refine go_loc (L' := [(0, .ref (ad 0)), (1, .int (hm_farF τ (n - 1))), (2, .int (τ 8 (ix_ (hm_farF τ (n - 1))))), (3, .int (ml_ τ (τ 8 (ix_ (hm_farF τ (n - 1)))) (τ 2 (ix_ (τ 8 (ix_ (hm_farF τ (n - 1)))))) n)), (4, .int (hm_used (u1_ τ 8 (br_ τ (τ 8 (ix_ (hm_farF τ (n - 1)))) n)))), (5, .int (nI (j + 1)))]) rfl ?_; refine go_eqw (w' := mW_ T ad K n (u1_ (u1_ τ 8 (br_ τ (τ 8 (ix_ (hm_farF τ (n - 1)))) n)) 1 (rl_ (u1_ τ 8 (br_ τ (τ 8 (ix_ (hm_farF τ (n - 1)))) n)) (ml_ τ (τ 8 (ix_ (hm_farF τ (n - 1)))) (τ 2 (ix_ (τ 8 (ix_ (hm_farF τ (n - 1)))))) n) (j + 1)))) (congrArg _ (rl_succ_t ⟨on_iff.mpr ⟨h171, (by show 0 < τ 2 j; rw [iz_lt, iz_0]; rw [iz_le, iz_0] at h181; omega)⟩, (by show τ 2 j < _; rw [iz_lt]; rw [iz_le] at h192; omega)⟩)) ?_; exact ih hlt) | (refine go_loc (L' := [(0, .ref (ad 0)), (1, .int (hm_farF τ (n - 1))), (2, .int (τ 8 (ix_ (hm_farF τ (n - 1))))), (3, .int (ml_ τ (τ 8 (ix_ (hm_farF τ (n - 1)))) (τ 2 (ix_ (τ 8 (ix_ (hm_farF τ (n - 1)))))) n)), (4, .int (hm_used (u1_ τ 8 (br_ τ (τ 8 (ix_ (hm_farF τ (n - 1)))) n)))), (5, .int (nI (j + 1)))]) rfl ?_; refine go_eqw (w' := mW_ T ad K n (u1_ (u1_ τ 8 (br_ τ (τ 8 (ix_ (hm_farF τ (n - 1)))) n)) 1 (rl_ (u1_ τ 8 (br_ τ (τ 8 (ix_ (hm_farF τ (n - 1)))) n)) (ml_ τ (τ 8 (ix_ (hm_farF τ (n - 1)))) (τ 2 (ix_ (τ 8 (ix_ (hm_farF τ (n - 1)))))) n) (j + 1)))) (congrArg _ (rl_succ_f (fun q => absurd q.2 (by show ¬ τ 2 j < _; rw [iz_lt]; rw [iz_le] at h192; omega)))) ?_; exact ih hlt) | (refine go_loc (L' := [(0, .ref (ad 0)), (1, .int (hm_farF τ (n - 1))), (2, .int (τ 8 (ix_ (hm_farF τ (n - 1))))), (3, .int (ml_ τ (τ 8 (ix_ (hm_farF τ (n - 1)))) (τ 2 (ix_ (τ 8 (ix_ (hm_farF τ (n - 1)))))) n)), (4, .int (hm_used (u1_ τ 8 (br_ τ (τ 8 (ix_ (hm_farF τ (n - 1)))) n)))), (5, .int (nI (j + 1)))]) rfl ?_; refine go_eqw (w' := mW_ T ad K n (u1_ (u1_ τ 8 (br_ τ (τ 8 (ix_ (hm_farF τ (n - 1)))) n)) 1 (rl_ (u1_ τ 8 (br_ τ (τ 8 (ix_ (hm_farF τ (n - 1)))) n)) (ml_ τ (τ 8 (ix_ (hm_farF τ (n - 1)))) (τ 2 (ix_ (τ 8 (ix_ (hm_farF τ (n - 1)))))) n) (j + 1)))) (congrArg _ (rl_succ_f (fun q => absurd (on_iff.mp q.1).2 (by show ¬ 0 < τ 2 j; rw [iz_lt, iz_0]; rw [iz_le, iz_0] at h181; omega)))) ?_; exact ih hlt) | (refine go_loc (L' := [(0, .ref (ad 0)), (1, .int (hm_farF τ (n - 1))), (2, .int (τ 8 (ix_ (hm_farF τ (n - 1))))), (3, .int (ml_ τ (τ 8 (ix_ (hm_farF τ (n - 1)))) (τ 2 (ix_ (τ 8 (ix_ (hm_farF τ (n - 1)))))) n)), (4, .int (hm_used (u1_ τ 8 (br_ τ (τ 8 (ix_ (hm_farF τ (n - 1)))) n)))), (5, .int (nI (j + 1)))]) rfl ?_; refine go_eqw (w' := mW_ T ad K n (u1_ (u1_ τ 8 (br_ τ (τ 8 (ix_ (hm_farF τ (n - 1)))) n)) 1 (rl_ (u1_ τ 8 (br_ τ (τ 8 (ix_ (hm_farF τ (n - 1)))) n)) (ml_ τ (τ 8 (ix_ (hm_farF τ (n - 1)))) (τ 2 (ix_ (τ 8 (ix_ (hm_farF τ (n - 1)))))) n) (j + 1)))) (congrArg _ (rl_succ_f (fun q => absurd h171 (on_iff.mp q.1).1))) ?_; exact ih hlt)
    · have hlt : j < n := by rw [iz_le, iz_nI (by omega), iz_nI (by omega)] at h77; omega
      have hx : Ix_ (nI j) 5 j := Ix_n (by omega) (by decide)
      have h8j := h8t j hlt
      first | refine go_aload_n (i := 0) X rfl rfl dc_M_cut_80 ?_ | refine go_aloadN_n (i := 0) X rfl rfl dc_M_cut_80 ?_
      refine gm_get X 10 (by decide) fl_M_32 rfl dc_M_cut_81 ?_
      refine go_iload (i := 4) X rfl dc_M_cut_84 ?_
      first | refine go_aload_n (i := 0) X rfl rfl dc_M_cut_86 ?_ | refine go_aloadN_n (i := 0) X rfl rfl dc_M_cut_86 ?_
      refine gm_get X 12 (by decide) fl_M_38 rfl dc_M_cut_87 ?_
      refine go_iload (i := 4) X rfl dc_M_cut_90 ?_
      refine gm_ld (f := τ 10) X rfl (by decide) (by assumption) dc_M_cut_92 ?_
      refine go_iconst (v := (-1)) X (by decide) dc_M_cut_93 ?_
      refine go_icmp_ne (tgt := 101) X dc_M_cut_94 (by decide) (fun h94 => ?_) (fun h94 => ?_)
      · first | refine go_aload_n (i := 0) X rfl rfl dc_M_cut_101 ?_ | refine go_aloadN_n (i := 0) X rfl rfl dc_M_cut_101 ?_
        refine gm_get X 10 (by decide) fl_M_32 rfl dc_M_cut_102 ?_
        refine go_iload (i := 4) X rfl dc_M_cut_105 ?_
        refine gm_ld (f := br_ τ (τ 8 (ix_ (hm_farF τ (n - 1)))) j) X (u1_same _ _ _) (by decide) (by assumption) dc_M_cut_107 ?_
        rw [br_self]
        refine gm_st X (by decide) (by assumption) dc_M_cut_108 ?_
        first | refine go_aload_n (i := 0) X rfl rfl dc_M_cut_109 ?_ | refine go_aloadN_n (i := 0) X rfl rfl dc_M_cut_109 ?_
        refine gm_get X 4 (by decide) fl_M_13 rfl dc_M_cut_110 ?_
        first | refine go_aload_n (i := 0) X rfl rfl dc_M_cut_113 ?_ | refine go_aloadN_n (i := 0) X rfl rfl dc_M_cut_113 ?_
        refine gm_get X 10 (by decide) fl_M_32 rfl dc_M_cut_114 ?_
        refine go_iload (i := 4) X rfl dc_M_cut_117 ?_
        refine gm_ld X rfl (by decide) (by assumption) dc_M_cut_119 ?_
        rw [u2_at, if_pos ⟨rfl, rfl⟩]
        refine gm_ld (f := τ 2) X rfl (by decide) (by assumption) dc_M_cut_120 ?_
        refine go_iload_n (i := 3) X rfl rfl dc_M_cut_121 ?_
        refine go_icmp_ge (tgt := 140) X dc_M_cut_122 (by decide) (fun h122 => ?_) (fun h122 => ?_)
        · refine go_iload_n (i := 3) X rfl rfl dc_M_cut_140 ?_
          refine go_istore_n (i := 3) X rfl (by decide) dc_M_cut_141 ?_
          refine go_iinc (i := 4) (v := nI (j + 1)) X rfl (by rw [lit1]; exact nI_1 j) (by decide) dc_M_cut_142 ?_
          refine go_goto (tgt := 71) X dc_M_cut_145 (by decide) ?_
          first | (have hc : (ml_ τ (τ 8 (ix_ (hm_farF τ (n - 1)))) (τ 2 (ix_ (τ 8 (ix_ (hm_farF τ (n - 1)))))) (j + 1)) = (ml_ τ (τ 8 (ix_ (hm_farF τ (n - 1)))) (τ 2 (ix_ (τ 8 (ix_ (hm_farF τ (n - 1)))))) j) := (by rw [ml_s, if_neg h94]; (repeat' split) <;> first | with_reducible rfl | (exfalso; clear ih; (simp only [iz_lt, iz_le, iz_eq, iz_0, iz_1, iz_2, iz_3, iz_4, iz_5, iz_6, iz_7, iz_8, iz_m] at *) <;> omega)); have ih2 := ih hlt; rw [hc] at ih2; refine go_loc (L' := [(0, .ref (ad 0)), (1, .int (hm_farF τ (n - 1))), (2, .int (τ 8 (ix_ (hm_farF τ (n - 1))))), (3, .int ((ml_ τ (τ 8 (ix_ (hm_farF τ (n - 1)))) (τ 2 (ix_ (τ 8 (ix_ (hm_farF τ (n - 1)))))) j))), (4, .int (nI (j + 1)))]) rfl ?_; refine go_eqw (w' := mW_ T ad K n (u1_ τ 8 (br_ τ (τ 8 (ix_ (hm_farF τ (n - 1)))) (j + 1)))) (congrArg _ (by rw [u12_id, ← br_succ, if_neg h94])) ?_; exact ih2) | (have hc : (ml_ τ (τ 8 (ix_ (hm_farF τ (n - 1)))) (τ 2 (ix_ (τ 8 (ix_ (hm_farF τ (n - 1)))))) (j + 1)) = τ 2 (ix_ (τ 8 j)) := (by rw [ml_s, if_neg h94]; (repeat' split) <;> first | with_reducible rfl | (exfalso; clear ih; (simp only [iz_lt, iz_le, iz_eq, iz_0, iz_1, iz_2, iz_3, iz_4, iz_5, iz_6, iz_7, iz_8, iz_m] at *) <;> omega)); have ih2 := ih hlt; rw [hc] at ih2; refine go_loc (L' := [(0, .ref (ad 0)), (1, .int (hm_farF τ (n - 1))), (2, .int (τ 8 (ix_ (hm_farF τ (n - 1))))), (3, .int (τ 2 (ix_ (τ 8 j)))), (4, .int (nI (j + 1)))]) rfl ?_; refine go_eqw (w' := mW_ T ad K n (u1_ τ 8 (br_ τ (τ 8 (ix_ (hm_farF τ (n - 1)))) (j + 1)))) (congrArg _ (by rw [u12_id, ← br_succ, if_neg h94])) ?_; exact ih2) | (have hc : (ml_ τ (τ 8 (ix_ (hm_farF τ (n - 1)))) (τ 2 (ix_ (τ 8 (ix_ (hm_farF τ (n - 1)))))) (j + 1)) = (ml_ τ (τ 8 (ix_ (hm_farF τ (n - 1)))) (τ 2 (ix_ (τ 8 (ix_ (hm_farF τ (n - 1)))))) j) := (by rw [ml_s, if_pos h94]; (repeat' split) <;> first | with_reducible rfl | (exfalso; clear ih; (simp only [iz_lt, iz_le, iz_eq, iz_0, iz_1, iz_2, iz_3, iz_4, iz_5, iz_6, iz_7, iz_8, iz_m] at *) <;> omega)); have ih2 := ih hlt; rw [hc] at ih2; refine go_loc (L' := [(0, .ref (ad 0)), (1, .int (hm_farF τ (n - 1))), (2, .int (τ 8 (ix_ (hm_farF τ (n - 1))))), (3, .int ((ml_ τ (τ 8 (ix_ (hm_farF τ (n - 1)))) (τ 2 (ix_ (τ 8 (ix_ (hm_farF τ (n - 1)))))) j))), (4, .int (nI (j + 1)))]) rfl ?_; refine go_eqw (w' := mW_ T ad K n (u1_ τ 8 (br_ τ (τ 8 (ix_ (hm_farF τ (n - 1)))) (j + 1)))) (congrArg _ (by rw [u12_id, ← br_succ, if_pos h94])) ?_; exact ih2) | (have hc : (ml_ τ (τ 8 (ix_ (hm_farF τ (n - 1)))) (τ 2 (ix_ (τ 8 (ix_ (hm_farF τ (n - 1)))))) (j + 1)) = τ 2 (ix_ (τ 8 (ix_ (hm_farF τ (n - 1))))) := (by rw [ml_s, if_pos h94]; (repeat' split) <;> first | with_reducible rfl | (exfalso; clear ih; (simp only [iz_lt, iz_le, iz_eq, iz_0, iz_1, iz_2, iz_3, iz_4, iz_5, iz_6, iz_7, iz_8, iz_m] at *) <;> omega)); have ih2 := ih hlt; rw [hc] at ih2; refine go_loc (L' := [(0, .ref (ad 0)), (1, .int (hm_farF τ (n - 1))), (2, .int (τ 8 (ix_ (hm_farF τ (n - 1))))), (3, .int (τ 2 (ix_ (τ 8 (ix_ (hm_farF τ (n - 1))))))), (4, .int (nI (j + 1)))]) rfl ?_; refine go_eqw (w' := mW_ T ad K n (u1_ τ 8 (br_ τ (τ 8 (ix_ (hm_farF τ (n - 1)))) (j + 1)))) (congrArg _ (by rw [u12_id, ← br_succ, if_pos h94])) ?_; exact ih2)
        · first | refine go_aload_n (i := 0) X rfl rfl dc_M_cut_125 ?_ | refine go_aloadN_n (i := 0) X rfl rfl dc_M_cut_125 ?_
          refine gm_get X 4 (by decide) fl_M_13 rfl dc_M_cut_126 ?_
          first | refine go_aload_n (i := 0) X rfl rfl dc_M_cut_129 ?_ | refine go_aloadN_n (i := 0) X rfl rfl dc_M_cut_129 ?_
          refine gm_get X 10 (by decide) fl_M_32 rfl dc_M_cut_130 ?_
          refine go_iload (i := 4) X rfl dc_M_cut_133 ?_
          refine gm_ld X rfl (by decide) (by assumption) dc_M_cut_135 ?_
          rw [u2_at, if_pos ⟨rfl, rfl⟩]
          refine gm_ld (f := τ 2) X rfl (by decide) (by assumption) dc_M_cut_136 ?_
          refine go_goto (tgt := 141) X dc_M_cut_137 (by decide) ?_
          refine go_istore_n (i := 3) X rfl (by decide) dc_M_cut_141 ?_
          refine go_iinc (i := 4) (v := nI (j + 1)) X rfl (by rw [lit1]; exact nI_1 j) (by decide) dc_M_cut_142 ?_
          refine go_goto (tgt := 71) X dc_M_cut_145 (by decide) ?_
          first | (have hc : (ml_ τ (τ 8 (ix_ (hm_farF τ (n - 1)))) (τ 2 (ix_ (τ 8 (ix_ (hm_farF τ (n - 1)))))) (j + 1)) = (ml_ τ (τ 8 (ix_ (hm_farF τ (n - 1)))) (τ 2 (ix_ (τ 8 (ix_ (hm_farF τ (n - 1)))))) j) := (by rw [ml_s, if_neg h94]; (repeat' split) <;> first | with_reducible rfl | (exfalso; clear ih; (simp only [iz_lt, iz_le, iz_eq, iz_0, iz_1, iz_2, iz_3, iz_4, iz_5, iz_6, iz_7, iz_8, iz_m] at *) <;> omega)); have ih2 := ih hlt; rw [hc] at ih2; refine go_loc (L' := [(0, .ref (ad 0)), (1, .int (hm_farF τ (n - 1))), (2, .int (τ 8 (ix_ (hm_farF τ (n - 1))))), (3, .int ((ml_ τ (τ 8 (ix_ (hm_farF τ (n - 1)))) (τ 2 (ix_ (τ 8 (ix_ (hm_farF τ (n - 1)))))) j))), (4, .int (nI (j + 1)))]) rfl ?_; refine go_eqw (w' := mW_ T ad K n (u1_ τ 8 (br_ τ (τ 8 (ix_ (hm_farF τ (n - 1)))) (j + 1)))) (congrArg _ (by rw [u12_id, ← br_succ, if_neg h94])) ?_; exact ih2) | (have hc : (ml_ τ (τ 8 (ix_ (hm_farF τ (n - 1)))) (τ 2 (ix_ (τ 8 (ix_ (hm_farF τ (n - 1)))))) (j + 1)) = τ 2 (ix_ (τ 8 j)) := (by rw [ml_s, if_neg h94]; (repeat' split) <;> first | with_reducible rfl | (exfalso; clear ih; (simp only [iz_lt, iz_le, iz_eq, iz_0, iz_1, iz_2, iz_3, iz_4, iz_5, iz_6, iz_7, iz_8, iz_m] at *) <;> omega)); have ih2 := ih hlt; rw [hc] at ih2; refine go_loc (L' := [(0, .ref (ad 0)), (1, .int (hm_farF τ (n - 1))), (2, .int (τ 8 (ix_ (hm_farF τ (n - 1))))), (3, .int (τ 2 (ix_ (τ 8 j)))), (4, .int (nI (j + 1)))]) rfl ?_; refine go_eqw (w' := mW_ T ad K n (u1_ τ 8 (br_ τ (τ 8 (ix_ (hm_farF τ (n - 1)))) (j + 1)))) (congrArg _ (by rw [u12_id, ← br_succ, if_neg h94])) ?_; exact ih2) | (have hc : (ml_ τ (τ 8 (ix_ (hm_farF τ (n - 1)))) (τ 2 (ix_ (τ 8 (ix_ (hm_farF τ (n - 1)))))) (j + 1)) = (ml_ τ (τ 8 (ix_ (hm_farF τ (n - 1)))) (τ 2 (ix_ (τ 8 (ix_ (hm_farF τ (n - 1)))))) j) := (by rw [ml_s, if_pos h94]; (repeat' split) <;> first | with_reducible rfl | (exfalso; clear ih; (simp only [iz_lt, iz_le, iz_eq, iz_0, iz_1, iz_2, iz_3, iz_4, iz_5, iz_6, iz_7, iz_8, iz_m] at *) <;> omega)); have ih2 := ih hlt; rw [hc] at ih2; refine go_loc (L' := [(0, .ref (ad 0)), (1, .int (hm_farF τ (n - 1))), (2, .int (τ 8 (ix_ (hm_farF τ (n - 1))))), (3, .int ((ml_ τ (τ 8 (ix_ (hm_farF τ (n - 1)))) (τ 2 (ix_ (τ 8 (ix_ (hm_farF τ (n - 1)))))) j))), (4, .int (nI (j + 1)))]) rfl ?_; refine go_eqw (w' := mW_ T ad K n (u1_ τ 8 (br_ τ (τ 8 (ix_ (hm_farF τ (n - 1)))) (j + 1)))) (congrArg _ (by rw [u12_id, ← br_succ, if_pos h94])) ?_; exact ih2) | (have hc : (ml_ τ (τ 8 (ix_ (hm_farF τ (n - 1)))) (τ 2 (ix_ (τ 8 (ix_ (hm_farF τ (n - 1)))))) (j + 1)) = τ 2 (ix_ (τ 8 (ix_ (hm_farF τ (n - 1))))) := (by rw [ml_s, if_pos h94]; (repeat' split) <;> first | with_reducible rfl | (exfalso; clear ih; (simp only [iz_lt, iz_le, iz_eq, iz_0, iz_1, iz_2, iz_3, iz_4, iz_5, iz_6, iz_7, iz_8, iz_m] at *) <;> omega)); have ih2 := ih hlt; rw [hc] at ih2; refine go_loc (L' := [(0, .ref (ad 0)), (1, .int (hm_farF τ (n - 1))), (2, .int (τ 8 (ix_ (hm_farF τ (n - 1))))), (3, .int (τ 2 (ix_ (τ 8 (ix_ (hm_farF τ (n - 1))))))), (4, .int (nI (j + 1)))]) rfl ?_; refine go_eqw (w' := mW_ T ad K n (u1_ τ 8 (br_ τ (τ 8 (ix_ (hm_farF τ (n - 1)))) (j + 1)))) (congrArg _ (by rw [u12_id, ← br_succ, if_pos h94])) ?_; exact ih2)
      · refine go_iload_n (i := 2) X rfl rfl dc_M_cut_97 ?_
        refine go_goto (tgt := 108) X dc_M_cut_98 (by decide) ?_
        refine gm_st X (by decide) (by assumption) dc_M_cut_108 ?_
        first | refine go_aload_n (i := 0) X rfl rfl dc_M_cut_109 ?_ | refine go_aloadN_n (i := 0) X rfl rfl dc_M_cut_109 ?_
        refine gm_get X 4 (by decide) fl_M_13 rfl dc_M_cut_110 ?_
        first | refine go_aload_n (i := 0) X rfl rfl dc_M_cut_113 ?_ | refine go_aloadN_n (i := 0) X rfl rfl dc_M_cut_113 ?_
        refine gm_get X 10 (by decide) fl_M_32 rfl dc_M_cut_114 ?_
        refine go_iload (i := 4) X rfl dc_M_cut_117 ?_
        refine gm_ld X rfl (by decide) (by assumption) dc_M_cut_119 ?_
        rw [u2_at, if_pos ⟨rfl, rfl⟩]
        refine gm_ld (f := τ 2) X rfl (by decide) (by assumption) dc_M_cut_120 ?_
        refine go_iload_n (i := 3) X rfl rfl dc_M_cut_121 ?_
        refine go_icmp_ge (tgt := 140) X dc_M_cut_122 (by decide) (fun h122 => ?_) (fun h122 => ?_)
        · refine go_iload_n (i := 3) X rfl rfl dc_M_cut_140 ?_
          refine go_istore_n (i := 3) X rfl (by decide) dc_M_cut_141 ?_
          refine go_iinc (i := 4) (v := nI (j + 1)) X rfl (by rw [lit1]; exact nI_1 j) (by decide) dc_M_cut_142 ?_
          refine go_goto (tgt := 71) X dc_M_cut_145 (by decide) ?_
          first | (have hc : (ml_ τ (τ 8 (ix_ (hm_farF τ (n - 1)))) (τ 2 (ix_ (τ 8 (ix_ (hm_farF τ (n - 1)))))) (j + 1)) = (ml_ τ (τ 8 (ix_ (hm_farF τ (n - 1)))) (τ 2 (ix_ (τ 8 (ix_ (hm_farF τ (n - 1)))))) j) := (by rw [ml_s, if_neg h94]; (repeat' split) <;> first | with_reducible rfl | (exfalso; clear ih; (simp only [iz_lt, iz_le, iz_eq, iz_0, iz_1, iz_2, iz_3, iz_4, iz_5, iz_6, iz_7, iz_8, iz_m] at *) <;> omega)); have ih2 := ih hlt; rw [hc] at ih2; refine go_loc (L' := [(0, .ref (ad 0)), (1, .int (hm_farF τ (n - 1))), (2, .int (τ 8 (ix_ (hm_farF τ (n - 1))))), (3, .int ((ml_ τ (τ 8 (ix_ (hm_farF τ (n - 1)))) (τ 2 (ix_ (τ 8 (ix_ (hm_farF τ (n - 1)))))) j))), (4, .int (nI (j + 1)))]) rfl ?_; refine go_eqw (w' := mW_ T ad K n (u1_ τ 8 (br_ τ (τ 8 (ix_ (hm_farF τ (n - 1)))) (j + 1)))) (congrArg _ (by rw [u12_id, ← br_succ, if_neg h94])) ?_; exact ih2) | (have hc : (ml_ τ (τ 8 (ix_ (hm_farF τ (n - 1)))) (τ 2 (ix_ (τ 8 (ix_ (hm_farF τ (n - 1)))))) (j + 1)) = τ 2 (ix_ (τ 8 j)) := (by rw [ml_s, if_neg h94]; (repeat' split) <;> first | with_reducible rfl | (exfalso; clear ih; (simp only [iz_lt, iz_le, iz_eq, iz_0, iz_1, iz_2, iz_3, iz_4, iz_5, iz_6, iz_7, iz_8, iz_m] at *) <;> omega)); have ih2 := ih hlt; rw [hc] at ih2; refine go_loc (L' := [(0, .ref (ad 0)), (1, .int (hm_farF τ (n - 1))), (2, .int (τ 8 (ix_ (hm_farF τ (n - 1))))), (3, .int (τ 2 (ix_ (τ 8 j)))), (4, .int (nI (j + 1)))]) rfl ?_; refine go_eqw (w' := mW_ T ad K n (u1_ τ 8 (br_ τ (τ 8 (ix_ (hm_farF τ (n - 1)))) (j + 1)))) (congrArg _ (by rw [u12_id, ← br_succ, if_neg h94])) ?_; exact ih2) | (have hc : (ml_ τ (τ 8 (ix_ (hm_farF τ (n - 1)))) (τ 2 (ix_ (τ 8 (ix_ (hm_farF τ (n - 1)))))) (j + 1)) = (ml_ τ (τ 8 (ix_ (hm_farF τ (n - 1)))) (τ 2 (ix_ (τ 8 (ix_ (hm_farF τ (n - 1)))))) j) := (by rw [ml_s, if_pos h94]; (repeat' split) <;> first | with_reducible rfl | (exfalso; clear ih; (simp only [iz_lt, iz_le, iz_eq, iz_0, iz_1, iz_2, iz_3, iz_4, iz_5, iz_6, iz_7, iz_8, iz_m] at *) <;> omega)); have ih2 := ih hlt; rw [hc] at ih2; refine go_loc (L' := [(0, .ref (ad 0)), (1, .int (hm_farF τ (n - 1))), (2, .int (τ 8 (ix_ (hm_farF τ (n - 1))))), (3, .int ((ml_ τ (τ 8 (ix_ (hm_farF τ (n - 1)))) (τ 2 (ix_ (τ 8 (ix_ (hm_farF τ (n - 1)))))) j))), (4, .int (nI (j + 1)))]) rfl ?_; refine go_eqw (w' := mW_ T ad K n (u1_ τ 8 (br_ τ (τ 8 (ix_ (hm_farF τ (n - 1)))) (j + 1)))) (congrArg _ (by rw [u12_id, ← br_succ, if_pos h94])) ?_; exact ih2) | (have hc : (ml_ τ (τ 8 (ix_ (hm_farF τ (n - 1)))) (τ 2 (ix_ (τ 8 (ix_ (hm_farF τ (n - 1)))))) (j + 1)) = τ 2 (ix_ (τ 8 (ix_ (hm_farF τ (n - 1))))) := (by rw [ml_s, if_pos h94]; (repeat' split) <;> first | with_reducible rfl | (exfalso; clear ih; (simp only [iz_lt, iz_le, iz_eq, iz_0, iz_1, iz_2, iz_3, iz_4, iz_5, iz_6, iz_7, iz_8, iz_m] at *) <;> omega)); have ih2 := ih hlt; rw [hc] at ih2; refine go_loc (L' := [(0, .ref (ad 0)), (1, .int (hm_farF τ (n - 1))), (2, .int (τ 8 (ix_ (hm_farF τ (n - 1))))), (3, .int (τ 2 (ix_ (τ 8 (ix_ (hm_farF τ (n - 1))))))), (4, .int (nI (j + 1)))]) rfl ?_; refine go_eqw (w' := mW_ T ad K n (u1_ τ 8 (br_ τ (τ 8 (ix_ (hm_farF τ (n - 1)))) (j + 1)))) (congrArg _ (by rw [u12_id, ← br_succ, if_pos h94])) ?_; exact ih2)
        · first | refine go_aload_n (i := 0) X rfl rfl dc_M_cut_125 ?_ | refine go_aloadN_n (i := 0) X rfl rfl dc_M_cut_125 ?_
          refine gm_get X 4 (by decide) fl_M_13 rfl dc_M_cut_126 ?_
          first | refine go_aload_n (i := 0) X rfl rfl dc_M_cut_129 ?_ | refine go_aloadN_n (i := 0) X rfl rfl dc_M_cut_129 ?_
          refine gm_get X 10 (by decide) fl_M_32 rfl dc_M_cut_130 ?_
          refine go_iload (i := 4) X rfl dc_M_cut_133 ?_
          refine gm_ld X rfl (by decide) (by assumption) dc_M_cut_135 ?_
          rw [u2_at, if_pos ⟨rfl, rfl⟩]
          refine gm_ld (f := τ 2) X rfl (by decide) (by assumption) dc_M_cut_136 ?_
          refine go_goto (tgt := 141) X dc_M_cut_137 (by decide) ?_
          refine go_istore_n (i := 3) X rfl (by decide) dc_M_cut_141 ?_
          refine go_iinc (i := 4) (v := nI (j + 1)) X rfl (by rw [lit1]; exact nI_1 j) (by decide) dc_M_cut_142 ?_
          refine go_goto (tgt := 71) X dc_M_cut_145 (by decide) ?_
          first | (have hc : (ml_ τ (τ 8 (ix_ (hm_farF τ (n - 1)))) (τ 2 (ix_ (τ 8 (ix_ (hm_farF τ (n - 1)))))) (j + 1)) = (ml_ τ (τ 8 (ix_ (hm_farF τ (n - 1)))) (τ 2 (ix_ (τ 8 (ix_ (hm_farF τ (n - 1)))))) j) := (by rw [ml_s, if_neg h94]; (repeat' split) <;> first | with_reducible rfl | (exfalso; clear ih; (simp only [iz_lt, iz_le, iz_eq, iz_0, iz_1, iz_2, iz_3, iz_4, iz_5, iz_6, iz_7, iz_8, iz_m] at *) <;> omega)); have ih2 := ih hlt; rw [hc] at ih2; refine go_loc (L' := [(0, .ref (ad 0)), (1, .int (hm_farF τ (n - 1))), (2, .int (τ 8 (ix_ (hm_farF τ (n - 1))))), (3, .int ((ml_ τ (τ 8 (ix_ (hm_farF τ (n - 1)))) (τ 2 (ix_ (τ 8 (ix_ (hm_farF τ (n - 1)))))) j))), (4, .int (nI (j + 1)))]) rfl ?_; refine go_eqw (w' := mW_ T ad K n (u1_ τ 8 (br_ τ (τ 8 (ix_ (hm_farF τ (n - 1)))) (j + 1)))) (congrArg _ (by rw [u12_id, ← br_succ, if_neg h94])) ?_; exact ih2) | (have hc : (ml_ τ (τ 8 (ix_ (hm_farF τ (n - 1)))) (τ 2 (ix_ (τ 8 (ix_ (hm_farF τ (n - 1)))))) (j + 1)) = τ 2 (ix_ (τ 8 j)) := (by rw [ml_s, if_neg h94]; (repeat' split) <;> first | with_reducible rfl | (exfalso; clear ih; (simp only [iz_lt, iz_le, iz_eq, iz_0, iz_1, iz_2, iz_3, iz_4, iz_5, iz_6, iz_7, iz_8, iz_m] at *) <;> omega)); have ih2 := ih hlt; rw [hc] at ih2; refine go_loc (L' := [(0, .ref (ad 0)), (1, .int (hm_farF τ (n - 1))), (2, .int (τ 8 (ix_ (hm_farF τ (n - 1))))), (3, .int (τ 2 (ix_ (τ 8 j)))), (4, .int (nI (j + 1)))]) rfl ?_; refine go_eqw (w' := mW_ T ad K n (u1_ τ 8 (br_ τ (τ 8 (ix_ (hm_farF τ (n - 1)))) (j + 1)))) (congrArg _ (by rw [u12_id, ← br_succ, if_neg h94])) ?_; exact ih2) | (have hc : (ml_ τ (τ 8 (ix_ (hm_farF τ (n - 1)))) (τ 2 (ix_ (τ 8 (ix_ (hm_farF τ (n - 1)))))) (j + 1)) = (ml_ τ (τ 8 (ix_ (hm_farF τ (n - 1)))) (τ 2 (ix_ (τ 8 (ix_ (hm_farF τ (n - 1)))))) j) := (by rw [ml_s, if_pos h94]; (repeat' split) <;> first | with_reducible rfl | (exfalso; clear ih; (simp only [iz_lt, iz_le, iz_eq, iz_0, iz_1, iz_2, iz_3, iz_4, iz_5, iz_6, iz_7, iz_8, iz_m] at *) <;> omega)); have ih2 := ih hlt; rw [hc] at ih2; refine go_loc (L' := [(0, .ref (ad 0)), (1, .int (hm_farF τ (n - 1))), (2, .int (τ 8 (ix_ (hm_farF τ (n - 1))))), (3, .int ((ml_ τ (τ 8 (ix_ (hm_farF τ (n - 1)))) (τ 2 (ix_ (τ 8 (ix_ (hm_farF τ (n - 1)))))) j))), (4, .int (nI (j + 1)))]) rfl ?_; refine go_eqw (w' := mW_ T ad K n (u1_ τ 8 (br_ τ (τ 8 (ix_ (hm_farF τ (n - 1)))) (j + 1)))) (congrArg _ (by rw [u12_id, ← br_succ, if_pos h94])) ?_; exact ih2) | (have hc : (ml_ τ (τ 8 (ix_ (hm_farF τ (n - 1)))) (τ 2 (ix_ (τ 8 (ix_ (hm_farF τ (n - 1)))))) (j + 1)) = τ 2 (ix_ (τ 8 (ix_ (hm_farF τ (n - 1))))) := (by rw [ml_s, if_pos h94]; (repeat' split) <;> first | with_reducible rfl | (exfalso; clear ih; (simp only [iz_lt, iz_le, iz_eq, iz_0, iz_1, iz_2, iz_3, iz_4, iz_5, iz_6, iz_7, iz_8, iz_m] at *) <;> omega)); have ih2 := ih hlt; rw [hc] at ih2; refine go_loc (L' := [(0, .ref (ad 0)), (1, .int (hm_farF τ (n - 1))), (2, .int (τ 8 (ix_ (hm_farF τ (n - 1))))), (3, .int (τ 2 (ix_ (τ 8 (ix_ (hm_farF τ (n - 1))))))), (4, .int (nI (j + 1)))]) rfl ?_; refine go_eqw (w' := mW_ T ad K n (u1_ τ 8 (br_ τ (τ 8 (ix_ (hm_farF τ (n - 1)))) (j + 1)))) (congrArg _ (by rw [u12_id, ← br_succ, if_pos h94])) ?_; exact ih2)
  · have hlt : j < n - 1 := by rw [iz_le, iz_nI (by omega), iz_nI (by omega)] at h14; omega
    obtain ⟨q, hq, eq⟩ := far_nI τ j
    have hfx : Ix_ (hm_farF τ j) 5 (ix_ (hm_farF τ j)) := by rw [eq]; exact ⟨vp_in_nI (by omega) (by decide), rfl⟩
    have hHJ : Ix_ (τ 8 (ix_ (hm_farF τ j))) 32 (ix_ (τ 8 (ix_ (hm_farF τ j)))) := by rw [show ix_ (hm_farF τ j) = q by rw [eq]; exact nI_clamp (by omega)]; exact h8t q (by omega)
    have hx : Ix_ (nI (j + 1)) 5 (j + 1) := Ix_n (by omega) (by decide)
    have h8j := h8t (j + 1) (by omega)
    first | refine go_aload_n (i := 0) X rfl rfl dc_M_cut_17 ?_ | refine go_aloadN_n (i := 0) X rfl rfl dc_M_cut_17 ?_
    refine gm_get X 4 (by decide) fl_M_13 rfl dc_M_cut_18 ?_
    first | refine go_aload_n (i := 0) X rfl rfl dc_M_cut_21 ?_ | refine go_aloadN_n (i := 0) X rfl rfl dc_M_cut_21 ?_
    refine gm_get X 10 (by decide) fl_M_32 rfl dc_M_cut_22 ?_
    refine go_iload_n (i := 2) X rfl rfl dc_M_cut_25 ?_
    refine gm_ld (f := τ 8) X rfl (by decide) (by assumption) dc_M_cut_26 ?_
    refine gm_ld (f := τ 2) X rfl (by decide) (by assumption) dc_M_cut_27 ?_
    first | refine go_aload_n (i := 0) X rfl rfl dc_M_cut_28 ?_ | refine go_aloadN_n (i := 0) X rfl rfl dc_M_cut_28 ?_
    refine gm_get X 4 (by decide) fl_M_13 rfl dc_M_cut_29 ?_
    first | refine go_aload_n (i := 0) X rfl rfl dc_M_cut_32 ?_ | refine go_aloadN_n (i := 0) X rfl rfl dc_M_cut_32 ?_
    refine gm_get X 10 (by decide) fl_M_32 rfl dc_M_cut_33 ?_
    refine go_iload_n (i := 1) X rfl rfl dc_M_cut_36 ?_
    refine gm_ld (f := τ 8) X rfl (by decide) (by assumption) dc_M_cut_37 ?_
    refine gm_ld (f := τ 2) X rfl (by decide) (by assumption) dc_M_cut_38 ?_
    refine go_icmp_le (tgt := 46) X dc_M_cut_39 (by decide) (fun h39 => ?_) (fun h39 => ?_)
    · refine go_iload_n (i := 1) X rfl rfl dc_M_cut_46 ?_
      refine go_istore_n (i := 1) X rfl (by decide) dc_M_cut_47 ?_
      refine go_iinc (i := 2) (v := nI (j + 1 + 1)) X rfl (by rw [lit1]; exact nI_1 (j + 1)) (by decide) dc_M_cut_48 ?_
      refine go_goto (tgt := 9) X dc_M_cut_51 (by decide) ?_
      first | (have hc : hm_farF τ (j + 1) = hm_farF τ j := (by (rw [hm_far_s]; repeat' split) <;> first | with_reducible rfl | (exfalso; clear ih; (simp only [iz_lt, iz_le, iz_eq, iz_0, iz_1, iz_2, iz_3, iz_4, iz_5, iz_6, iz_7, iz_8, iz_m, decide_eq_true_eq, Bool.not_eq_true, decide_not, Bool.not_eq_eq_eq_not, Bool.not_true, decide_eq_false_iff_not] at *) <;> omega)); have ih2 := ih hlt; rw [hc] at ih2; refine go_loc (L' := [(0, .ref (ad 0)), (1, .int (hm_farF τ j)), (2, .int (nI (j + 1 + 1)))]) rfl ?_; exact ih2) | (have hc : hm_farF τ (j + 1) = nI (j + 1) := (by (rw [hm_far_s]; repeat' split) <;> first | with_reducible rfl | (exfalso; clear ih; (simp only [iz_lt, iz_le, iz_eq, iz_0, iz_1, iz_2, iz_3, iz_4, iz_5, iz_6, iz_7, iz_8, iz_m, decide_eq_true_eq, Bool.not_eq_true, decide_not, Bool.not_eq_eq_eq_not, Bool.not_true, decide_eq_false_iff_not] at *) <;> omega)); have ih2 := ih hlt; rw [hc] at ih2; refine go_loc (L' := [(0, .ref (ad 0)), (1, .int (nI (j + 1))), (2, .int (nI (j + 1 + 1)))]) rfl ?_; exact ih2)
    · refine go_iload_n (i := 2) X rfl rfl dc_M_cut_42 ?_
      refine go_goto (tgt := 47) X dc_M_cut_43 (by decide) ?_
      refine go_istore_n (i := 1) X rfl (by decide) dc_M_cut_47 ?_
      refine go_iinc (i := 2) (v := nI (j + 1 + 1)) X rfl (by rw [lit1]; exact nI_1 (j + 1)) (by decide) dc_M_cut_48 ?_
      refine go_goto (tgt := 9) X dc_M_cut_51 (by decide) ?_
      first | (have hc : hm_farF τ (j + 1) = hm_farF τ j := (by (rw [hm_far_s]; repeat' split) <;> first | with_reducible rfl | (exfalso; clear ih; (simp only [iz_lt, iz_le, iz_eq, iz_0, iz_1, iz_2, iz_3, iz_4, iz_5, iz_6, iz_7, iz_8, iz_m, decide_eq_true_eq, Bool.not_eq_true, decide_not, Bool.not_eq_eq_eq_not, Bool.not_true, decide_eq_false_iff_not] at *) <;> omega)); have ih2 := ih hlt; rw [hc] at ih2; refine go_loc (L' := [(0, .ref (ad 0)), (1, .int (hm_farF τ j)), (2, .int (nI (j + 1 + 1)))]) rfl ?_; exact ih2) | (have hc : hm_farF τ (j + 1) = nI (j + 1) := (by (rw [hm_far_s]; repeat' split) <;> first | with_reducible rfl | (exfalso; clear ih; (simp only [iz_lt, iz_le, iz_eq, iz_0, iz_1, iz_2, iz_3, iz_4, iz_5, iz_6, iz_7, iz_8, iz_m, decide_eq_true_eq, Bool.not_eq_true, decide_not, Bool.not_eq_eq_eq_not, Bool.not_true, decide_eq_false_iff_not] at *) <;> omega)); have ih2 := ih hlt; rw [hc] at ih2; refine go_loc (L' := [(0, .ref (ad 0)), (1, .int (nI (j + 1))), (2, .int (nI (j + 1 + 1)))]) rfl ?_; exact ih2)
end M7

section M5
set_option maxHeartbeats 4000000 in
set_option maxRecDepth 20000 in
theorem tm_callX (l : Launch) (D : va_G) (T : Nat → ClassId) (ad : Nat → Nat) (A : Nat → Prop) (nw : List Cond) (K n : Nat) {ρ : ST_} {x : Int32} {op a b : Int32} (hv : ¬ (0 ≤ x ∧ x < nI n)) : cm_ l D T ad K n A nw yn_M_call (.code yn_M_call cd_M_call 5 none) 1 [.int x, .int op, .int a, .int b] ρ (u2_ ρ 0 0 1) none := by
  refine go_in (by decide) (Nat.le_of_ble_eq_true rfl) (List.forall_mem_cons.mpr ⟨rfl, List.forall_mem_cons.mpr ⟨rfl, List.forall_mem_cons.mpr ⟨rfl, List.forall_mem_cons.mpr ⟨rfl, List.forall_mem_cons.mpr ⟨rfl, fun _ h => nomatch h⟩⟩⟩⟩⟩) ?_
  intro P e s m args below meth c X hr hnm hN
  replace X : Cx_ P l e (rm_d 1) s m args below meth c cd_M_call 5 rn_M D cl_ (tys_ T) TG_ := X
  refine go_loc (L' := [(0, .ref (ad 0)), (1, .int x), (2, .int op), (3, .int a), (4, .int b)]) rfl ?_
  first | refine go_aload_n (i := 0) X rfl rfl dc_M_call_0 ?_ | refine go_aloadN_n (i := 0) X rfl rfl dc_M_call_0 ?_
  first | refine go_aload_n (i := 0) X rfl rfl dc_M_call_1 ?_ | refine go_aloadN_n (i := 0) X rfl rfl dc_M_call_1 ?_
  refine go_iload_n (i := 1) X rfl rfl dc_M_call_2 ?_
  refine go_cV (C := rn_M) (ci := 7) (i := 0) (n := 1) (rest := [.ref (ad 0)]) X hN (tm_isP0 hv) ml_M_119 im_M_isProcess sl_M_MisProcess ik_M co_M_isProcess ⟨rfl, by decide, by decide, by decide +kernel⟩ ⟨rfl, rfl, by decide, by decide⟩ rfl (wl_at (by decide)) rfl rfl (Nat.le_of_ble_eq_true rfl) dc_M_call_3 ⟨Nat.zero_le _, Nat.zero_le _⟩ ?_
  refine go_if_ne (tgt := 13) X dc_M_call_6 (by decide) (fun h6 => ?_) (fun h6 => ?_)
  · exact absurd rfl h6
  · refine go_iconst (v := 1) X (by decide) dc_M_call_9 ?_
    refine go_goto (tgt := 41) X dc_M_call_10 (by decide) ?_
    refine go_cV (C := rn_M) (ci := 7) (i := 0) (n := 1) (rest := []) X hN (tm_ref1 (x := 1) (by decide)) ml_M_123 im_M_refused sl_M_Mrefused ik_M co_M_refused ⟨rfl, by decide, by decide, by decide +kernel⟩ ⟨rfl, rfl, by decide, by decide⟩ rfl (wl_at (by decide)) rfl rfl (Nat.le_of_ble_eq_true rfl) dc_M_call_41 ⟨Nat.zero_le _, Nat.zero_le _⟩ ?_
    refine go_if_eq (tgt := 48) X dc_M_call_44 (by decide) (fun h44 => ?_) (fun h44 => ?_)
    · exact absurd h44 (by decide)
    · exact go_vret X hr dc_M_call_47 rfl rfl
set_option maxHeartbeats 4000000 in
set_option maxRecDepth 20000 in
theorem tm_callO (l : Launch) (D : va_G) (T : Nat → ClassId) (ad : Nat → Nat) (A : Nat → Prop) (nw : List Cond) (K n : Nat) {ρ : ST_} {p : Nat} {op a b : Int32} (hv : 0 ≤ nI p ∧ nI p < nI n) (hn : n ≤ 5) (hp : Ix_ (nI p) 5 p) (ho : ¬ (0 ≤ op ∧ op ≤ 2)) : cm_ l D T ad K n A nw yn_M_call (.code yn_M_call cd_M_call 5 none) 1 [.int (nI p), .int op, .int a, .int b] ρ (u2_ ρ 0 0 2) none := by
  refine go_in (by decide) (Nat.le_of_ble_eq_true rfl) (List.forall_mem_cons.mpr ⟨rfl, List.forall_mem_cons.mpr ⟨rfl, List.forall_mem_cons.mpr ⟨rfl, List.forall_mem_cons.mpr ⟨rfl, List.forall_mem_cons.mpr ⟨rfl, fun _ h => nomatch h⟩⟩⟩⟩⟩) ?_
  intro P e s m args below meth c X hr hnm hN
  replace X : Cx_ P l e (rm_d 1) s m args below meth c cd_M_call 5 rn_M D cl_ (tys_ T) TG_ := X
  refine go_loc (L' := [(0, .ref (ad 0)), (1, .int (nI p)), (2, .int op), (3, .int a), (4, .int b)]) rfl ?_
  first | refine go_aload_n (i := 0) X rfl rfl dc_M_call_0 ?_ | refine go_aloadN_n (i := 0) X rfl rfl dc_M_call_0 ?_
  first | refine go_aload_n (i := 0) X rfl rfl dc_M_call_1 ?_ | refine go_aloadN_n (i := 0) X rfl rfl dc_M_call_1 ?_
  refine go_iload_n (i := 1) X rfl rfl dc_M_call_2 ?_
  refine go_cV (C := rn_M) (ci := 7) (i := 0) (n := 1) (rest := [.ref (ad 0)]) X hN (tm_isP1 hv) ml_M_119 im_M_isProcess sl_M_MisProcess ik_M co_M_isProcess ⟨rfl, by decide, by decide, by decide +kernel⟩ ⟨rfl, rfl, by decide, by decide⟩ rfl (wl_at (by decide)) rfl rfl (Nat.le_of_ble_eq_true rfl) dc_M_call_3 ⟨Nat.zero_le _, Nat.zero_le _⟩ ?_
  refine go_if_ne (tgt := 13) X dc_M_call_6 (by decide) (fun h6 => ?_) (fun h6 => ?_)
  · refine go_iload_n (i := 2) X rfl rfl dc_M_call_13 ?_
    refine go_if_lt (tgt := 22) X dc_M_call_14 (by decide) (fun h14 => ?_) (fun h14 => ?_)
    · refine go_iconst (v := 2) X (by decide) dc_M_call_22 ?_
      refine go_goto (tgt := 41) X dc_M_call_23 (by decide) ?_
      refine go_cV (C := rn_M) (ci := 7) (i := 0) (n := 1) (rest := []) X hN (tm_ref1 (x := 2) (by decide)) ml_M_123 im_M_refused sl_M_Mrefused ik_M co_M_refused ⟨rfl, by decide, by decide, by decide +kernel⟩ ⟨rfl, rfl, by decide, by decide⟩ rfl (wl_at (by decide)) rfl rfl (Nat.le_of_ble_eq_true rfl) dc_M_call_41 ⟨Nat.zero_le _, Nat.zero_le _⟩ ?_
      refine go_if_eq (tgt := 48) X dc_M_call_44 (by decide) (fun h44 => ?_) (fun h44 => ?_)
      · exact absurd h44 (by decide)
      · exact go_vret X hr dc_M_call_47 rfl rfl
    · refine go_iload_n (i := 2) X rfl rfl dc_M_call_17 ?_
      refine go_iconst (v := 2) X (by decide) dc_M_call_18 ?_
      refine go_icmp_le (tgt := 26) X dc_M_call_19 (by decide) (fun h19 => ?_) (fun h19 => ?_)
      · exact absurd ⟨by rw [iz_le, iz_0]; rw [iz_lt, iz_0] at h14; omega, h19⟩ ho
      · refine go_iconst (v := 2) X (by decide) dc_M_call_22 ?_
        refine go_goto (tgt := 41) X dc_M_call_23 (by decide) ?_
        refine go_cV (C := rn_M) (ci := 7) (i := 0) (n := 1) (rest := []) X hN (tm_ref1 (x := 2) (by decide)) ml_M_123 im_M_refused sl_M_Mrefused ik_M co_M_refused ⟨rfl, by decide, by decide, by decide +kernel⟩ ⟨rfl, rfl, by decide, by decide⟩ rfl (wl_at (by decide)) rfl rfl (Nat.le_of_ble_eq_true rfl) dc_M_call_41 ⟨Nat.zero_le _, Nat.zero_le _⟩ ?_
        refine go_if_eq (tgt := 48) X dc_M_call_44 (by decide) (fun h44 => ?_) (fun h44 => ?_)
        · exact absurd h44 (by decide)
        · exact go_vret X hr dc_M_call_47 rfl rfl
  · exact absurd h6 (by decide)
set_option maxHeartbeats 4000000 in
set_option maxRecDepth 20000 in
theorem tm_callS (l : Launch) (D : va_G) (T : Nat → ClassId) (ad : Nat → Nat) (A : Nat → Prop) (nw : List Cond) (K n : Nat) {ρ : ST_} {p : Nat} {op a b : Int32} (hv : 0 ≤ nI p ∧ nI p < nI n) (hn : n ≤ 5) (hp : Ix_ (nI p) 5 p) (ho : 0 ≤ op ∧ op ≤ 2) (hs : ¬ ρ 10 p = -1) : cm_ l D T ad K n A nw yn_M_call (.code yn_M_call cd_M_call 5 none) 1 [.int (nI p), .int op, .int a, .int b] ρ (u2_ ρ 0 0 3) none := by
  refine go_in (by decide) (Nat.le_of_ble_eq_true rfl) (List.forall_mem_cons.mpr ⟨rfl, List.forall_mem_cons.mpr ⟨rfl, List.forall_mem_cons.mpr ⟨rfl, List.forall_mem_cons.mpr ⟨rfl, List.forall_mem_cons.mpr ⟨rfl, fun _ h => nomatch h⟩⟩⟩⟩⟩) ?_
  intro P e s m args below meth c X hr hnm hN
  replace X : Cx_ P l e (rm_d 1) s m args below meth c cd_M_call 5 rn_M D cl_ (tys_ T) TG_ := X
  refine go_loc (L' := [(0, .ref (ad 0)), (1, .int (nI p)), (2, .int op), (3, .int a), (4, .int b)]) rfl ?_
  first | refine go_aload_n (i := 0) X rfl rfl dc_M_call_0 ?_ | refine go_aloadN_n (i := 0) X rfl rfl dc_M_call_0 ?_
  first | refine go_aload_n (i := 0) X rfl rfl dc_M_call_1 ?_ | refine go_aloadN_n (i := 0) X rfl rfl dc_M_call_1 ?_
  refine go_iload_n (i := 1) X rfl rfl dc_M_call_2 ?_
  refine go_cV (C := rn_M) (ci := 7) (i := 0) (n := 1) (rest := [.ref (ad 0)]) X hN (tm_isP1 hv) ml_M_119 im_M_isProcess sl_M_MisProcess ik_M co_M_isProcess ⟨rfl, by decide, by decide, by decide +kernel⟩ ⟨rfl, rfl, by decide, by decide⟩ rfl (wl_at (by decide)) rfl rfl (Nat.le_of_ble_eq_true rfl) dc_M_call_3 ⟨Nat.zero_le _, Nat.zero_le _⟩ ?_
  refine go_if_ne (tgt := 13) X dc_M_call_6 (by decide) (fun h6 => ?_) (fun h6 => ?_)
  · refine go_iload_n (i := 2) X rfl rfl dc_M_call_13 ?_
    refine go_if_lt (tgt := 22) X dc_M_call_14 (by decide) (fun h14 => ?_) (fun h14 => ?_)
    · exfalso
      have z := ho.1
      rw [iz_le, iz_0] at z
      rw [iz_lt, iz_0] at h14
      omega
    · refine go_iload_n (i := 2) X rfl rfl dc_M_call_17 ?_
      refine go_iconst (v := 2) X (by decide) dc_M_call_18 ?_
      refine go_icmp_le (tgt := 26) X dc_M_call_19 (by decide) (fun h19 => ?_) (fun h19 => ?_)
      · first | refine go_aload_n (i := 0) X rfl rfl dc_M_call_26 ?_ | refine go_aloadN_n (i := 0) X rfl rfl dc_M_call_26 ?_
        refine gm_get X 12 (by decide) fl_M_38 rfl dc_M_call_27 ?_
        refine go_iload_n (i := 1) X rfl rfl dc_M_call_30 ?_
        refine gm_ld (f := ρ 10) X rfl (by decide) (by assumption) dc_M_call_31 ?_
        refine go_iconst (v := (-1)) X (by decide) dc_M_call_32 ?_
        refine go_icmp_eq (tgt := 40) X dc_M_call_33 (by decide) (fun h33 => ?_) (fun h33 => ?_)
        · exact absurd h33 hs
        · refine go_iconst (v := 3) X (by decide) dc_M_call_36 ?_
          refine go_goto (tgt := 41) X dc_M_call_37 (by decide) ?_
          refine go_cV (C := rn_M) (ci := 7) (i := 0) (n := 1) (rest := []) X hN (tm_ref1 (x := 3) (by decide)) ml_M_123 im_M_refused sl_M_Mrefused ik_M co_M_refused ⟨rfl, by decide, by decide, by decide +kernel⟩ ⟨rfl, rfl, by decide, by decide⟩ rfl (wl_at (by decide)) rfl rfl (Nat.le_of_ble_eq_true rfl) dc_M_call_41 ⟨Nat.zero_le _, Nat.zero_le _⟩ ?_
          refine go_if_eq (tgt := 48) X dc_M_call_44 (by decide) (fun h44 => ?_) (fun h44 => ?_)
          · exact absurd h44 (by decide)
          · exact go_vret X hr dc_M_call_47 rfl rfl
      · exact absurd ho.2 h19
  · exact absurd h6 (by decide)
set_option maxHeartbeats 4000000 in
set_option maxRecDepth 20000 in
theorem tm_call (l : Launch) (D : va_G) (T : Nat → ClassId) (ad : Nat → Nat) (A : Nat → Prop) (nw : List Cond) (K n : Nat) {ρ : ST_} {p : Nat} {op a b : Int32} (hv : 0 ≤ nI p ∧ nI p < nI n) (hn : n ≤ 5) (hp : Ix_ (nI p) 5 p) (ho : 0 ≤ op ∧ op ≤ 2) (hs : ρ 10 p = -1) : cm_ l D T ad K n A nw yn_M_call (.code yn_M_call cd_M_call 5 none) 1 [.int (nI p), .int op, .int a, .int b] ρ (hm_call (u2_ ρ 0 0 0) p op a b) none := by
  refine go_in (by decide) (Nat.le_of_ble_eq_true rfl) (List.forall_mem_cons.mpr ⟨rfl, List.forall_mem_cons.mpr ⟨rfl, List.forall_mem_cons.mpr ⟨rfl, List.forall_mem_cons.mpr ⟨rfl, List.forall_mem_cons.mpr ⟨rfl, fun _ h => nomatch h⟩⟩⟩⟩⟩) ?_
  intro P e s m args below meth c X hr hnm hN
  replace X : Cx_ P l e (rm_d 1) s m args below meth c cd_M_call 5 rn_M D cl_ (tys_ T) TG_ := X
  refine go_loc (L' := [(0, .ref (ad 0)), (1, .int (nI p)), (2, .int op), (3, .int a), (4, .int b)]) rfl ?_
  first | refine go_aload_n (i := 0) X rfl rfl dc_M_call_0 ?_ | refine go_aloadN_n (i := 0) X rfl rfl dc_M_call_0 ?_
  first | refine go_aload_n (i := 0) X rfl rfl dc_M_call_1 ?_ | refine go_aloadN_n (i := 0) X rfl rfl dc_M_call_1 ?_
  refine go_iload_n (i := 1) X rfl rfl dc_M_call_2 ?_
  refine go_cV (C := rn_M) (ci := 7) (i := 0) (n := 1) (rest := [.ref (ad 0)]) X hN (tm_isP1 hv) ml_M_119 im_M_isProcess sl_M_MisProcess ik_M co_M_isProcess ⟨rfl, by decide, by decide, by decide +kernel⟩ ⟨rfl, rfl, by decide, by decide⟩ rfl (wl_at (by decide)) rfl rfl (Nat.le_of_ble_eq_true rfl) dc_M_call_3 ⟨Nat.zero_le _, Nat.zero_le _⟩ ?_
  refine go_if_ne (tgt := 13) X dc_M_call_6 (by decide) (fun h6 => ?_) (fun h6 => ?_)
  · refine go_iload_n (i := 2) X rfl rfl dc_M_call_13 ?_
    refine go_if_lt (tgt := 22) X dc_M_call_14 (by decide) (fun h14 => ?_) (fun h14 => ?_)
    · exfalso
      have z := ho.1
      rw [iz_le, iz_0] at z
      rw [iz_lt, iz_0] at h14
      omega
    · refine go_iload_n (i := 2) X rfl rfl dc_M_call_17 ?_
      refine go_iconst (v := 2) X (by decide) dc_M_call_18 ?_
      refine go_icmp_le (tgt := 26) X dc_M_call_19 (by decide) (fun h19 => ?_) (fun h19 => ?_)
      · first | refine go_aload_n (i := 0) X rfl rfl dc_M_call_26 ?_ | refine go_aloadN_n (i := 0) X rfl rfl dc_M_call_26 ?_
        refine gm_get X 12 (by decide) fl_M_38 rfl dc_M_call_27 ?_
        refine go_iload_n (i := 1) X rfl rfl dc_M_call_30 ?_
        refine gm_ld (f := ρ 10) X rfl (by decide) (by assumption) dc_M_call_31 ?_
        refine go_iconst (v := (-1)) X (by decide) dc_M_call_32 ?_
        refine go_icmp_eq (tgt := 40) X dc_M_call_33 (by decide) (fun h33 => ?_) (fun h33 => ?_)
        · refine go_iconst (v := 0) X (by decide) dc_M_call_40 ?_
          refine go_cV (C := rn_M) (ci := 7) (i := 0) (n := 1) (rest := []) X hN (tm_ref0) ml_M_123 im_M_refused sl_M_Mrefused ik_M co_M_refused ⟨rfl, by decide, by decide, by decide +kernel⟩ ⟨rfl, rfl, by decide, by decide⟩ rfl (wl_at (by decide)) rfl rfl (Nat.le_of_ble_eq_true rfl) dc_M_call_41 ⟨Nat.zero_le _, Nat.zero_le _⟩ ?_
          refine go_if_eq (tgt := 48) X dc_M_call_44 (by decide) (fun h44 => ?_) (fun h44 => ?_)
          · first | refine go_aload_n (i := 0) X rfl rfl dc_M_call_48 ?_ | refine go_aloadN_n (i := 0) X rfl rfl dc_M_call_48 ?_
            refine gm_get X 12 (by decide) fl_M_38 rfl dc_M_call_49 ?_
            refine go_iload_n (i := 1) X rfl rfl dc_M_call_52 ?_
            refine go_iconst (v := 0) X (by decide) dc_M_call_53 ?_
            refine gm_st X (by decide) (by assumption) dc_M_call_54 ?_
            first | refine go_aload_n (i := 0) X rfl rfl dc_M_call_55 ?_ | refine go_aloadN_n (i := 0) X rfl rfl dc_M_call_55 ?_
            refine gm_get X 17 (by decide) fl_M_53 rfl dc_M_call_56 ?_
            refine go_iload_n (i := 1) X rfl rfl dc_M_call_59 ?_
            refine go_iload_n (i := 2) X rfl rfl dc_M_call_60 ?_
            refine gm_st X (by decide) (by assumption) dc_M_call_61 ?_
            first | refine go_aload_n (i := 0) X rfl rfl dc_M_call_62 ?_ | refine go_aloadN_n (i := 0) X rfl rfl dc_M_call_62 ?_
            refine gm_get X 18 (by decide) fl_M_56 rfl dc_M_call_63 ?_
            refine go_iload_n (i := 1) X rfl rfl dc_M_call_66 ?_
            refine go_iload_n (i := 3) X rfl rfl dc_M_call_67 ?_
            refine gm_st X (by decide) (by assumption) dc_M_call_68 ?_
            first | refine go_aload_n (i := 0) X rfl rfl dc_M_call_69 ?_ | refine go_aloadN_n (i := 0) X rfl rfl dc_M_call_69 ?_
            refine gm_get X 19 (by decide) fl_M_59 rfl dc_M_call_70 ?_
            refine go_iload_n (i := 1) X rfl rfl dc_M_call_73 ?_
            refine go_iload (i := 4) X rfl dc_M_call_74 ?_
            refine gm_st X (by decide) (by assumption) dc_M_call_76 ?_
            exact go_vret X hr dc_M_call_77 rfl rfl
          · exact absurd rfl h44
        · exact absurd hs h33
      · exact absurd ho.2 h19
  · exact absurd h6 (by decide)
set_option maxHeartbeats 4000000 in
set_option maxRecDepth 20000 in
theorem tm_inUseCount (l : Launch) (D : va_G) (T : Nat → ClassId) (ad : Nat → Nat) (A : Nat → Prop) (nw : List Cond) (K n : Nat) {ρ : ST_} : cm_ l D T ad K n A nw yn_M_inUseCount (.code yn_M_inUseCount cd_M_inUseCount 3 (some .int)) 0 [] ρ ρ (some (.int (hm_used ρ))) := by
  refine go_in (by decide) (Nat.le_of_ble_eq_true rfl) (List.forall_mem_cons.mpr ⟨rfl, fun _ h => nomatch h⟩) ?_
  intro P e s m args below meth c X hr hnm hN
  replace X : Cx_ P l e (rm_d 0) s m args below meth c cd_M_inUseCount 3 rn_M D cl_ (tys_ T) TG_ := X
  refine go_loc (L' := [(0, .ref (ad 0))]) rfl ?_
  refine go_iconst (v := 0) X (by decide) dc_M_inUseCount_0 ?_
  refine go_istore_n (i := 1) X rfl (by decide) dc_M_inUseCount_1 ?_
  refine go_iconst (v := nI 0) X (by decide) dc_M_inUseCount_2 ?_
  refine go_istore_n (i := 2) X rfl (by decide) dc_M_inUseCount_3 ?_
  refine go_loc (L' := [(0, .ref (ad 0)), (1, .int (ct_ (fun k => decide (¬ ρ 1 k = 0)) 0)), (2, .int (nI 0))]) rfl ?_
  refine (lp_up (P := fun j => Go_ P l e (rm_d 0) s m args below meth c D cl_ A 3 0 0 _ (mW_ T ad K n (ρ)) 4 [(0, .ref (ad 0)), (1, .int (ct_ (fun k => decide (¬ ρ 1 k = 0)) j)), (2, .int (nI j))] []) 32 (fun j hj ih => ?_)) 0 (Nat.zero_le _)
  refine go_iload_n (i := 2) X rfl rfl dc_M_inUseCount_4 ?_
  refine go_bipush (v := 32) X (by decide) dc_M_inUseCount_5 ?_
  refine go_icmp_ge (tgt := 33) X dc_M_inUseCount_7 (by decide) (fun h7 => ?_) (fun h7 => ?_)
  · have e32 : j = 32 := by rw [iz_le, iz_32, iz_nI (by omega)] at h7; omega
    subst e32
    refine go_iload_n (i := 1) X rfl rfl dc_M_inUseCount_33 ?_
    exact go_iret X hr dc_M_inUseCount_34 rfl rfl
  · have hlt : j < 32 := by rw [iz_le, iz_32, iz_nI (by omega)] at h7; omega
    have hx : Ix_ (nI j) 32 j := Ix_n hlt (by decide)
    first | refine go_aload_n (i := 0) X rfl rfl dc_M_inUseCount_10 ?_ | refine go_aloadN_n (i := 0) X rfl rfl dc_M_inUseCount_10 ?_
    refine gm_get X 3 (by decide) fl_M_7 rfl dc_M_inUseCount_11 ?_
    refine go_iload_n (i := 2) X rfl rfl dc_M_inUseCount_14 ?_
    refine gm_zld (f := ρ 1) X rfl (by assumption) dc_M_inUseCount_15 ?_
    refine go_if_eq (tgt := 25) X dc_M_inUseCount_16 (by decide) (fun h16 => ?_) (fun h16 => ?_)
    · refine go_iload_n (i := 1) X rfl rfl dc_M_inUseCount_25 ?_
      refine go_istore_n (i := 1) X rfl (by decide) dc_M_inUseCount_26 ?_
      refine go_iinc (i := 2) (v := nI (j + 1)) X rfl (by rw [lit1]; exact nI_1 j) (by decide) dc_M_inUseCount_27 ?_
      refine go_goto (tgt := 4) X dc_M_inUseCount_30 (by decide) ?_
      first | (have hc : ct_ (fun k => decide (¬ ρ 1 k = 0)) (j + 1) = ct_ (fun k => decide (¬ ρ 1 k = 0)) j := (by (rw [ct_s]; repeat' split) <;> first | with_reducible rfl | (exfalso; clear ih; (simp only [iz_lt, iz_le, iz_eq, iz_0, iz_1, iz_2, iz_3, iz_4, iz_5, iz_6, iz_7, iz_8, iz_m, decide_eq_true_eq, Bool.not_eq_true, decide_not, Bool.not_eq_eq_eq_not, Bool.not_true, decide_eq_false_iff_not] at *) <;> omega)); have ih2 := ih hlt; rw [hc] at ih2; refine go_loc (L' := [(0, .ref (ad 0)), (1, .int (ct_ (fun k => decide (¬ ρ 1 k = 0)) j)), (2, .int (nI (j + 1)))]) rfl ?_; exact ih2) | (have hc : ct_ (fun k => decide (¬ ρ 1 k = 0)) (j + 1) = ct_ (fun k => decide (¬ ρ 1 k = 0)) j + 1 := (by (rw [ct_s]; repeat' split) <;> first | with_reducible rfl | (exfalso; clear ih; (simp only [iz_lt, iz_le, iz_eq, iz_0, iz_1, iz_2, iz_3, iz_4, iz_5, iz_6, iz_7, iz_8, iz_m, decide_eq_true_eq, Bool.not_eq_true, decide_not, Bool.not_eq_eq_eq_not, Bool.not_true, decide_eq_false_iff_not] at *) <;> omega)); have ih2 := ih hlt; rw [hc] at ih2; refine go_loc (L' := [(0, .ref (ad 0)), (1, .int (ct_ (fun k => decide (¬ ρ 1 k = 0)) j + 1)), (2, .int (nI (j + 1)))]) rfl ?_; exact ih2)
    · refine go_iload_n (i := 1) X rfl rfl dc_M_inUseCount_19 ?_
      refine go_iconst (v := 1) X (by decide) dc_M_inUseCount_20 ?_
      refine go_iadd X dc_M_inUseCount_21 ?_
      refine go_goto (tgt := 26) X dc_M_inUseCount_22 (by decide) ?_
      refine go_istore_n (i := 1) X rfl (by decide) dc_M_inUseCount_26 ?_
      refine go_iinc (i := 2) (v := nI (j + 1)) X rfl (by rw [lit1]; exact nI_1 j) (by decide) dc_M_inUseCount_27 ?_
      refine go_goto (tgt := 4) X dc_M_inUseCount_30 (by decide) ?_
      first | (have hc : ct_ (fun k => decide (¬ ρ 1 k = 0)) (j + 1) = ct_ (fun k => decide (¬ ρ 1 k = 0)) j := (by (rw [ct_s]; repeat' split) <;> first | with_reducible rfl | (exfalso; clear ih; (simp only [iz_lt, iz_le, iz_eq, iz_0, iz_1, iz_2, iz_3, iz_4, iz_5, iz_6, iz_7, iz_8, iz_m, decide_eq_true_eq, Bool.not_eq_true, decide_not, Bool.not_eq_eq_eq_not, Bool.not_true, decide_eq_false_iff_not] at *) <;> omega)); have ih2 := ih hlt; rw [hc] at ih2; refine go_loc (L' := [(0, .ref (ad 0)), (1, .int (ct_ (fun k => decide (¬ ρ 1 k = 0)) j)), (2, .int (nI (j + 1)))]) rfl ?_; exact ih2) | (have hc : ct_ (fun k => decide (¬ ρ 1 k = 0)) (j + 1) = ct_ (fun k => decide (¬ ρ 1 k = 0)) j + 1 := (by (rw [ct_s]; repeat' split) <;> first | with_reducible rfl | (exfalso; clear ih; (simp only [iz_lt, iz_le, iz_eq, iz_0, iz_1, iz_2, iz_3, iz_4, iz_5, iz_6, iz_7, iz_8, iz_m, decide_eq_true_eq, Bool.not_eq_true, decide_not, Bool.not_eq_eq_eq_not, Bool.not_true, decide_eq_false_iff_not] at *) <;> omega)); have ih2 := ih hlt; rw [hc] at ih2; refine go_loc (L' := [(0, .ref (ad 0)), (1, .int (ct_ (fun k => decide (¬ ρ 1 k = 0)) j + 1)), (2, .int (nI (j + 1)))]) rfl ?_; exact ih2)
set_option maxHeartbeats 4000000 in
set_option maxRecDepth 20000 in
theorem tm_used (l : Launch) (D : va_G) (T : Nat → ClassId) (ad : Nat → Nat) (A : Nat → Prop) (nw : List Cond) (K n : Nat) {ρ : ST_} : cm_ l D T ad K n A nw yn_M_used (.code yn_M_used cd_M_used 1 (some .int)) 1 [] ρ (u2_ ρ 0 0 0) (some (.int (hm_used ρ))) := by
  refine go_in (by decide) (Nat.le_of_ble_eq_true rfl) (List.forall_mem_cons.mpr ⟨rfl, fun _ h => nomatch h⟩) ?_
  intro P e s m args below meth c X hr hnm hN
  replace X : Cx_ P l e (rm_d 1) s m args below meth c cd_M_used 1 rn_M D cl_ (tys_ T) TG_ := X
  refine go_loc (L' := [(0, .ref (ad 0))]) rfl ?_
  first | refine go_aload_n (i := 0) X rfl rfl dc_M_used_0 ?_ | refine go_aloadN_n (i := 0) X rfl rfl dc_M_used_0 ?_
  refine go_iconst (v := 0) X (by decide) dc_M_used_1 ?_
  refine gm_put X 0 0 (by decide) fl_M_99 rfl (tk_M 0 (by decide)) (mF_s0 _ _ _ _ _) dc_M_used_2 ?_
  first | refine go_aload_n (i := 0) X rfl rfl dc_M_used_5 ?_ | refine go_aloadN_n (i := 0) X rfl rfl dc_M_used_5 ?_
  refine go_cV (C := rn_M) (ci := 7) (i := 0) (n := 0) (rest := []) X hN (tm_inUseCount l D T ad A nw K n) ml_M_157 im_M_inUseCount sl_M_MinUseCount ik_M co_M_inUseCount ⟨rfl, by decide, by decide, by decide +kernel⟩ ⟨rfl, rfl, by decide, by decide⟩ rfl (wl_at (by decide)) rfl rfl (Nat.le_of_ble_eq_true rfl) dc_M_used_6 ⟨Nat.zero_le _, Nat.zero_le _⟩ ?_
  exact go_iret X hr dc_M_used_9 rfl rfl
set_option maxHeartbeats 4000000 in
set_option maxRecDepth 20000 in
theorem tm_leastInUse (l : Launch) (D : va_G) (T : Nat → ClassId) (ad : Nat → Nat) (A : Nat → Prop) (nw : List Cond) (K n : Nat) {ρ : ST_} : cm_ l D T ad K n A nw yn_M_leastInUse (.code yn_M_leastInUse cd_M_leastInUse 3 (some .int)) 0 [] ρ ρ (some (.int (hm_oldF ρ 32))) := by
  refine go_in (by decide) (Nat.le_of_ble_eq_true rfl) (List.forall_mem_cons.mpr ⟨rfl, fun _ h => nomatch h⟩) ?_
  intro P e s m args below meth c X hr hnm hN
  replace X : Cx_ P l e (rm_d 0) s m args below meth c cd_M_leastInUse 3 rn_M D cl_ (tys_ T) TG_ := X
  refine go_loc (L' := [(0, .ref (ad 0))]) rfl ?_
  refine go_iconst (v := 0) X (by decide) dc_M_leastInUse_0 ?_
  refine go_istore_n (i := 1) X rfl (by decide) dc_M_leastInUse_1 ?_
  refine go_iconst (v := nI 0) X (by decide) dc_M_leastInUse_2 ?_
  refine go_istore_n (i := 2) X rfl (by decide) dc_M_leastInUse_3 ?_
  refine go_loc (L' := [(0, .ref (ad 0)), (1, .int (hm_oldF ρ 0)), (2, .int (nI 0))]) rfl ?_
  refine (lp_up (P := fun j => Go_ P l e (rm_d 0) s m args below meth c D cl_ A 3 0 0 _ (mW_ T ad K n (ρ)) 4 [(0, .ref (ad 0)), (1, .int (hm_oldF ρ j)), (2, .int (nI j))] []) 32 (fun j hj ih => ?_)) 0 (Nat.zero_le _)
  refine go_iload_n (i := 2) X rfl rfl dc_M_leastInUse_4 ?_
  refine go_bipush (v := 32) X (by decide) dc_M_leastInUse_5 ?_
  refine go_icmp_ge (tgt := 59) X dc_M_leastInUse_7 (by decide) (fun h7 => ?_) (fun h7 => ?_)
  · have e32 : j = 32 := by rw [iz_le, iz_32, iz_nI (by omega)] at h7; omega
    subst e32
    refine go_iload_n (i := 1) X rfl rfl dc_M_leastInUse_59 ?_
    exact go_iret X hr dc_M_leastInUse_60 rfl rfl
  · have hlt : j < 32 := by rw [iz_le, iz_32, iz_nI (by omega)] at h7; omega
    have hx : Ix_ (nI j) 32 j := Ix_n hlt (by decide)
    first | refine go_aload_n (i := 0) X rfl rfl dc_M_leastInUse_10 ?_ | refine go_aloadN_n (i := 0) X rfl rfl dc_M_leastInUse_10 ?_
    refine gm_get X 3 (by decide) fl_M_7 rfl dc_M_leastInUse_11 ?_
    refine go_iload_n (i := 2) X rfl rfl dc_M_leastInUse_14 ?_
    refine gm_zld (f := ρ 1) X rfl (by assumption) dc_M_leastInUse_15 ?_
    refine go_if_eq (tgt := 51) X dc_M_leastInUse_16 (by decide) (fun h16 => ?_) (fun h16 => ?_)
    · refine go_iload_n (i := 1) X rfl rfl dc_M_leastInUse_51 ?_
      refine go_istore_n (i := 1) X rfl (by decide) dc_M_leastInUse_52 ?_
      refine go_iinc (i := 2) (v := nI (j + 1)) X rfl (by rw [lit1]; exact nI_1 j) (by decide) dc_M_leastInUse_53 ?_
      refine go_goto (tgt := 4) X dc_M_leastInUse_56 (by decide) ?_
      first | (have hc : hm_oldF ρ (j + 1) = hm_oldF ρ j := (by (rw [hm_old_s]; repeat' split) <;> first | with_reducible rfl | (exfalso; clear ih; (simp only [iz_lt, iz_le, iz_eq, iz_0, iz_1, iz_2, iz_3, iz_4, iz_5, iz_6, iz_7, iz_8, iz_m, decide_eq_true_eq, Bool.not_eq_true, decide_not, Bool.not_eq_eq_eq_not, Bool.not_true, decide_eq_false_iff_not] at *) <;> omega)); have ih2 := ih hlt; rw [hc] at ih2; refine go_loc (L' := [(0, .ref (ad 0)), (1, .int (hm_oldF ρ j)), (2, .int (nI (j + 1)))]) rfl ?_; exact ih2) | (have hc : hm_oldF ρ (j + 1) = ρ 2 j := (by (rw [hm_old_s]; repeat' split) <;> first | with_reducible rfl | (exfalso; clear ih; (simp only [iz_lt, iz_le, iz_eq, iz_0, iz_1, iz_2, iz_3, iz_4, iz_5, iz_6, iz_7, iz_8, iz_m, decide_eq_true_eq, Bool.not_eq_true, decide_not, Bool.not_eq_eq_eq_not, Bool.not_true, decide_eq_false_iff_not] at *) <;> omega)); have ih2 := ih hlt; rw [hc] at ih2; refine go_loc (L' := [(0, .ref (ad 0)), (1, .int (ρ 2 j)), (2, .int (nI (j + 1)))]) rfl ?_; exact ih2)
    · first | refine go_aload_n (i := 0) X rfl rfl dc_M_leastInUse_19 ?_ | refine go_aloadN_n (i := 0) X rfl rfl dc_M_leastInUse_19 ?_
      refine gm_get X 4 (by decide) fl_M_13 rfl dc_M_leastInUse_20 ?_
      refine go_iload_n (i := 2) X rfl rfl dc_M_leastInUse_23 ?_
      refine gm_ld (f := ρ 2) X rfl (by decide) (by assumption) dc_M_leastInUse_24 ?_
      refine go_if_le (tgt := 51) X dc_M_leastInUse_25 (by decide) (fun h25 => ?_) (fun h25 => ?_)
      · refine go_iload_n (i := 1) X rfl rfl dc_M_leastInUse_51 ?_
        refine go_istore_n (i := 1) X rfl (by decide) dc_M_leastInUse_52 ?_
        refine go_iinc (i := 2) (v := nI (j + 1)) X rfl (by rw [lit1]; exact nI_1 j) (by decide) dc_M_leastInUse_53 ?_
        refine go_goto (tgt := 4) X dc_M_leastInUse_56 (by decide) ?_
        first | (have hc : hm_oldF ρ (j + 1) = hm_oldF ρ j := (by (rw [hm_old_s]; repeat' split) <;> first | with_reducible rfl | (exfalso; clear ih; (simp only [iz_lt, iz_le, iz_eq, iz_0, iz_1, iz_2, iz_3, iz_4, iz_5, iz_6, iz_7, iz_8, iz_m, decide_eq_true_eq, Bool.not_eq_true, decide_not, Bool.not_eq_eq_eq_not, Bool.not_true, decide_eq_false_iff_not] at *) <;> omega)); have ih2 := ih hlt; rw [hc] at ih2; refine go_loc (L' := [(0, .ref (ad 0)), (1, .int (hm_oldF ρ j)), (2, .int (nI (j + 1)))]) rfl ?_; exact ih2) | (have hc : hm_oldF ρ (j + 1) = ρ 2 j := (by (rw [hm_old_s]; repeat' split) <;> first | with_reducible rfl | (exfalso; clear ih; (simp only [iz_lt, iz_le, iz_eq, iz_0, iz_1, iz_2, iz_3, iz_4, iz_5, iz_6, iz_7, iz_8, iz_m, decide_eq_true_eq, Bool.not_eq_true, decide_not, Bool.not_eq_eq_eq_not, Bool.not_true, decide_eq_false_iff_not] at *) <;> omega)); have ih2 := ih hlt; rw [hc] at ih2; refine go_loc (L' := [(0, .ref (ad 0)), (1, .int (ρ 2 j)), (2, .int (nI (j + 1)))]) rfl ?_; exact ih2)
      · refine go_iload_n (i := 1) X rfl rfl dc_M_leastInUse_28 ?_
        refine go_if_eq (tgt := 42) X dc_M_leastInUse_29 (by decide) (fun h29 => ?_) (fun h29 => ?_)
        · first | refine go_aload_n (i := 0) X rfl rfl dc_M_leastInUse_42 ?_ | refine go_aloadN_n (i := 0) X rfl rfl dc_M_leastInUse_42 ?_
          refine gm_get X 4 (by decide) fl_M_13 rfl dc_M_leastInUse_43 ?_
          refine go_iload_n (i := 2) X rfl rfl dc_M_leastInUse_46 ?_
          refine gm_ld (f := ρ 2) X rfl (by decide) (by assumption) dc_M_leastInUse_47 ?_
          refine go_goto (tgt := 52) X dc_M_leastInUse_48 (by decide) ?_
          refine go_istore_n (i := 1) X rfl (by decide) dc_M_leastInUse_52 ?_
          refine go_iinc (i := 2) (v := nI (j + 1)) X rfl (by rw [lit1]; exact nI_1 j) (by decide) dc_M_leastInUse_53 ?_
          refine go_goto (tgt := 4) X dc_M_leastInUse_56 (by decide) ?_
          first | (have hc : hm_oldF ρ (j + 1) = hm_oldF ρ j := (by (rw [hm_old_s]; repeat' split) <;> first | with_reducible rfl | (exfalso; clear ih; (simp only [iz_lt, iz_le, iz_eq, iz_0, iz_1, iz_2, iz_3, iz_4, iz_5, iz_6, iz_7, iz_8, iz_m, decide_eq_true_eq, Bool.not_eq_true, decide_not, Bool.not_eq_eq_eq_not, Bool.not_true, decide_eq_false_iff_not] at *) <;> omega)); have ih2 := ih hlt; rw [hc] at ih2; refine go_loc (L' := [(0, .ref (ad 0)), (1, .int (hm_oldF ρ j)), (2, .int (nI (j + 1)))]) rfl ?_; exact ih2) | (have hc : hm_oldF ρ (j + 1) = ρ 2 j := (by (rw [hm_old_s]; repeat' split) <;> first | with_reducible rfl | (exfalso; clear ih; (simp only [iz_lt, iz_le, iz_eq, iz_0, iz_1, iz_2, iz_3, iz_4, iz_5, iz_6, iz_7, iz_8, iz_m, decide_eq_true_eq, Bool.not_eq_true, decide_not, Bool.not_eq_eq_eq_not, Bool.not_true, decide_eq_false_iff_not] at *) <;> omega)); have ih2 := ih hlt; rw [hc] at ih2; refine go_loc (L' := [(0, .ref (ad 0)), (1, .int (ρ 2 j)), (2, .int (nI (j + 1)))]) rfl ?_; exact ih2)
        · first | refine go_aload_n (i := 0) X rfl rfl dc_M_leastInUse_32 ?_ | refine go_aloadN_n (i := 0) X rfl rfl dc_M_leastInUse_32 ?_
          refine gm_get X 4 (by decide) fl_M_13 rfl dc_M_leastInUse_33 ?_
          refine go_iload_n (i := 2) X rfl rfl dc_M_leastInUse_36 ?_
          refine gm_ld (f := ρ 2) X rfl (by decide) (by assumption) dc_M_leastInUse_37 ?_
          refine go_iload_n (i := 1) X rfl rfl dc_M_leastInUse_38 ?_
          refine go_icmp_ge (tgt := 51) X dc_M_leastInUse_39 (by decide) (fun h39 => ?_) (fun h39 => ?_)
          · refine go_iload_n (i := 1) X rfl rfl dc_M_leastInUse_51 ?_
            refine go_istore_n (i := 1) X rfl (by decide) dc_M_leastInUse_52 ?_
            refine go_iinc (i := 2) (v := nI (j + 1)) X rfl (by rw [lit1]; exact nI_1 j) (by decide) dc_M_leastInUse_53 ?_
            refine go_goto (tgt := 4) X dc_M_leastInUse_56 (by decide) ?_
            first | (have hc : hm_oldF ρ (j + 1) = hm_oldF ρ j := (by (rw [hm_old_s]; repeat' split) <;> first | with_reducible rfl | (exfalso; clear ih; (simp only [iz_lt, iz_le, iz_eq, iz_0, iz_1, iz_2, iz_3, iz_4, iz_5, iz_6, iz_7, iz_8, iz_m, decide_eq_true_eq, Bool.not_eq_true, decide_not, Bool.not_eq_eq_eq_not, Bool.not_true, decide_eq_false_iff_not] at *) <;> omega)); have ih2 := ih hlt; rw [hc] at ih2; refine go_loc (L' := [(0, .ref (ad 0)), (1, .int (hm_oldF ρ j)), (2, .int (nI (j + 1)))]) rfl ?_; exact ih2) | (have hc : hm_oldF ρ (j + 1) = ρ 2 j := (by (rw [hm_old_s]; repeat' split) <;> first | with_reducible rfl | (exfalso; clear ih; (simp only [iz_lt, iz_le, iz_eq, iz_0, iz_1, iz_2, iz_3, iz_4, iz_5, iz_6, iz_7, iz_8, iz_m, decide_eq_true_eq, Bool.not_eq_true, decide_not, Bool.not_eq_eq_eq_not, Bool.not_true, decide_eq_false_iff_not] at *) <;> omega)); have ih2 := ih hlt; rw [hc] at ih2; refine go_loc (L' := [(0, .ref (ad 0)), (1, .int (ρ 2 j)), (2, .int (nI (j + 1)))]) rfl ?_; exact ih2)
          · first | refine go_aload_n (i := 0) X rfl rfl dc_M_leastInUse_42 ?_ | refine go_aloadN_n (i := 0) X rfl rfl dc_M_leastInUse_42 ?_
            refine gm_get X 4 (by decide) fl_M_13 rfl dc_M_leastInUse_43 ?_
            refine go_iload_n (i := 2) X rfl rfl dc_M_leastInUse_46 ?_
            refine gm_ld (f := ρ 2) X rfl (by decide) (by assumption) dc_M_leastInUse_47 ?_
            refine go_goto (tgt := 52) X dc_M_leastInUse_48 (by decide) ?_
            refine go_istore_n (i := 1) X rfl (by decide) dc_M_leastInUse_52 ?_
            refine go_iinc (i := 2) (v := nI (j + 1)) X rfl (by rw [lit1]; exact nI_1 j) (by decide) dc_M_leastInUse_53 ?_
            refine go_goto (tgt := 4) X dc_M_leastInUse_56 (by decide) ?_
            first | (have hc : hm_oldF ρ (j + 1) = hm_oldF ρ j := (by (rw [hm_old_s]; repeat' split) <;> first | with_reducible rfl | (exfalso; clear ih; (simp only [iz_lt, iz_le, iz_eq, iz_0, iz_1, iz_2, iz_3, iz_4, iz_5, iz_6, iz_7, iz_8, iz_m, decide_eq_true_eq, Bool.not_eq_true, decide_not, Bool.not_eq_eq_eq_not, Bool.not_true, decide_eq_false_iff_not] at *) <;> omega)); have ih2 := ih hlt; rw [hc] at ih2; refine go_loc (L' := [(0, .ref (ad 0)), (1, .int (hm_oldF ρ j)), (2, .int (nI (j + 1)))]) rfl ?_; exact ih2) | (have hc : hm_oldF ρ (j + 1) = ρ 2 j := (by (rw [hm_old_s]; repeat' split) <;> first | with_reducible rfl | (exfalso; clear ih; (simp only [iz_lt, iz_le, iz_eq, iz_0, iz_1, iz_2, iz_3, iz_4, iz_5, iz_6, iz_7, iz_8, iz_m, decide_eq_true_eq, Bool.not_eq_true, decide_not, Bool.not_eq_eq_eq_not, Bool.not_true, decide_eq_false_iff_not] at *) <;> omega)); have ih2 := ih hlt; rw [hc] at ih2; refine go_loc (L' := [(0, .ref (ad 0)), (1, .int (ρ 2 j)), (2, .int (nI (j + 1)))]) rfl ?_; exact ih2)
set_option maxHeartbeats 4000000 in
set_option maxRecDepth 20000 in
theorem tm_oldest (l : Launch) (D : va_G) (T : Nat → ClassId) (ad : Nat → Nat) (A : Nat → Prop) (nw : List Cond) (K n : Nat) {ρ : ST_} : cm_ l D T ad K n A nw yn_M_oldest (.code yn_M_oldest cd_M_oldest 1 (some .int)) 1 [] ρ (u2_ ρ 0 0 0) (some (.int (hm_oldF (u2_ ρ 0 0 0) 32))) := by
  refine go_in (by decide) (Nat.le_of_ble_eq_true rfl) (List.forall_mem_cons.mpr ⟨rfl, fun _ h => nomatch h⟩) ?_
  intro P e s m args below meth c X hr hnm hN
  replace X : Cx_ P l e (rm_d 1) s m args below meth c cd_M_oldest 1 rn_M D cl_ (tys_ T) TG_ := X
  refine go_loc (L' := [(0, .ref (ad 0))]) rfl ?_
  first | refine go_aload_n (i := 0) X rfl rfl dc_M_oldest_0 ?_ | refine go_aloadN_n (i := 0) X rfl rfl dc_M_oldest_0 ?_
  refine go_iconst (v := 0) X (by decide) dc_M_oldest_1 ?_
  refine gm_put X 0 0 (by decide) fl_M_99 rfl (tk_M 0 (by decide)) (mF_s0 _ _ _ _ _) dc_M_oldest_2 ?_
  first | refine go_aload_n (i := 0) X rfl rfl dc_M_oldest_5 ?_ | refine go_aloadN_n (i := 0) X rfl rfl dc_M_oldest_5 ?_
  refine go_cV (C := rn_M) (ci := 7) (i := 0) (n := 0) (rest := []) X hN (tm_leastInUse l D T ad A nw K n) ml_M_153 im_M_leastInUse sl_M_MleastInUse ik_M co_M_leastInUse ⟨rfl, by decide, by decide, by decide +kernel⟩ ⟨rfl, rfl, by decide, by decide⟩ rfl (wl_at (by decide)) rfl rfl (Nat.le_of_ble_eq_true rfl) dc_M_oldest_6 ⟨Nat.zero_le _, Nat.zero_le _⟩ ?_
  exact go_iret X hr dc_M_oldest_9 rfl rfl
end M5

section M4
set_option maxHeartbeats 4000000 in
set_option maxRecDepth 20000 in
theorem tm_one (l : Launch) (D : va_G) (T : Nat → ClassId) (ad : Nat → Nat) (A : Nat → Prop) (nw : List Cond) (K n : Nat) {ρ : ST_} {p : Nat} (hn : n ≤ 5) (hp : Ix_ (nI p) 5 p) (hK : K < 4) (hz : ¬ nI n = 0) (hO : Om_ n ρ p) : cm_ l D T ad K n A nw yn_M_one (.code yn_M_one cd_M_one 2 (some .int)) 4 [.int (nI p)] ρ (hm_one K n ρ p).1 (some (.int (hm_one K n ρ p).2)) := by
  obtain ⟨hst, h12, h13, h14, o1, o3, o5, o7⟩ := hO
  refine go_in (by decide) (Nat.le_of_ble_eq_true rfl) (List.forall_mem_cons.mpr ⟨rfl, List.forall_mem_cons.mpr ⟨rfl, fun _ h => nomatch h⟩⟩) ?_
  intro P e s m args below meth c X hr hnm hN
  replace X : Cx_ P l e (rm_d 4) s m args below meth c cd_M_one 2 rn_M D cl_ (tys_ T) TG_ := X
  refine go_loc (L' := [(0, .ref (ad 0)), (1, .int (nI p))]) rfl ?_
  first | refine go_aload_n (i := 0) X rfl rfl dc_M_one_0 ?_ | refine go_aloadN_n (i := 0) X rfl rfl dc_M_one_0 ?_
  refine gm_get X 12 (by decide) fl_M_38 rfl dc_M_one_1 ?_
  refine go_iload_n (i := 1) X rfl rfl dc_M_one_4 ?_
  refine gm_ld (f := ρ 10) X rfl (by decide) (by assumption) dc_M_one_5 ?_
  rcases st_cases hst with h | h | h | h | h | h | h | h | h
  · refine go_tableIn (off := 46) (tgt := 52) X dc_M_one_6 (by rw [h]; decide) (by rw [h]; decide) (by rw [h]; decide) (by decide) ?_
    refine go_iconst (v := 2) X (by decide) dc_M_one_52 ?_
    exact go_iret X hr dc_M_one_53 (congrArg (mW_ T ad K n) (by rw [hm_one_m K n h])) (congrArg some (congrArg Value.int (by rw [hm_one_m K n h])))
  · refine go_tableIn (off := 48) (tgt := 54) X dc_M_one_6 (by rw [h]; decide) (by rw [h]; decide) (by rw [h]; decide) (by decide) ?_
    first | refine go_aload_n (i := 0) X rfl rfl dc_M_one_54 ?_ | refine go_aloadN_n (i := 0) X rfl rfl dc_M_one_54 ?_
    refine go_iload_n (i := 1) X rfl rfl dc_M_one_55 ?_
    refine go_cV (C := rn_M) (ci := 7) (i := 0) (n := 1) (rest := []) X hN (tm_announce l D T ad A nw K n hn hp) ml_M_130 im_M_announce sl_M_Mannounce ik_M co_M_announce ⟨rfl, by decide, by decide, by decide +kernel⟩ ⟨rfl, rfl, by decide, by decide⟩ rfl (wl_at (by decide)) rfl rfl (Nat.le_of_ble_eq_true rfl) dc_M_one_56 ⟨Nat.zero_le _, Nat.zero_le _⟩ ?_
    exact go_iret X hr dc_M_one_59 (congrArg (mW_ T ad K n) (by rw [hm_one_0 K n h])) (congrArg some (congrArg Value.int (by rw [hm_one_0 K n h])))
  · refine go_tableIn (off := 54) (tgt := 60) X dc_M_one_6 (by rw [h]; decide) (by rw [h]; decide) (by rw [h]; decide) (by decide) ?_
    first | refine go_aload_n (i := 0) X rfl rfl dc_M_one_60 ?_ | refine go_aloadN_n (i := 0) X rfl rfl dc_M_one_60 ?_
    refine go_iload_n (i := 1) X rfl rfl dc_M_one_61 ?_
    refine go_cVv (C := rn_M) (ci := 7) (i := 0) (n := 1) (rest := []) X hN (tm_look l D T ad A nw K n hn hp (o1 h).1 (o1 h).2 h13) ml_M_133 im_M_look sl_M_Mlook ik_M co_M_look ⟨rfl, by decide, by decide, by decide +kernel⟩ ⟨rfl, rfl, by decide, by decide⟩ rfl (wl_at (by decide)) rfl rfl (Nat.le_of_ble_eq_true rfl) dc_M_one_62 ⟨Nat.zero_le _, Nat.zero_le _⟩ ?_
    refine go_goto (tgt := 161) X dc_M_one_65 (by decide) ?_
    refine go_iconst (v := 0) X (by decide) dc_M_one_161 ?_
    exact go_iret X hr dc_M_one_162 (congrArg (mW_ T ad K n) (by rw [hm_one_1 K n h])) (congrArg some (congrArg Value.int (by rw [hm_one_1 K n h])))
  · refine go_tableIn (off := 62) (tgt := 68) X dc_M_one_6 (by rw [h]; decide) (by rw [h]; decide) (by rw [h]; decide) (by decide) ?_
    first | refine go_aload_n (i := 0) X rfl rfl dc_M_one_68 ?_ | refine go_aloadN_n (i := 0) X rfl rfl dc_M_one_68 ?_
    refine gm_get X 12 (by decide) fl_M_38 rfl dc_M_one_69 ?_
    refine go_iload_n (i := 1) X rfl rfl dc_M_one_72 ?_
    first | refine go_aload_n (i := 0) X rfl rfl dc_M_one_73 ?_ | refine go_aloadN_n (i := 0) X rfl rfl dc_M_one_73 ?_
    refine gm_get X 4 (by decide) fl_M_13 rfl dc_M_one_74 ?_
    first | refine go_aload_n (i := 0) X rfl rfl dc_M_one_77 ?_ | refine go_aloadN_n (i := 0) X rfl rfl dc_M_one_77 ?_
    refine gm_get X 14 (by decide) fl_M_44 rfl dc_M_one_78 ?_
    refine go_iload_n (i := 1) X rfl rfl dc_M_one_81 ?_
    refine gm_ld (f := ρ 12) X rfl (by decide) (by assumption) dc_M_one_82 ?_
    refine gm_ld (f := ρ 2) X rfl (by decide) (by assumption) dc_M_one_83 ?_
    refine go_if_le (tgt := 92) X dc_M_one_84 (by decide) (fun h84 => ?_) (fun h84 => ?_)
    · refine go_iconst (v := 3) X (by decide) dc_M_one_92 ?_
      refine gm_st X (by decide) (by assumption) dc_M_one_93 ?_
      refine go_goto (tgt := 161) X dc_M_one_94 (by decide) ?_
      refine go_iconst (v := 0) X (by decide) dc_M_one_161 ?_
      exact go_iret X hr dc_M_one_162 (congrArg (mW_ T ad K n) (by rw [hm_one_2 K n h]; unfold hm_ask; simp only [iz_lt, iz_le, iz_eq, iz_0, iz_1, iz_2, iz_3, iz_4, iz_5, iz_6, iz_7, iz_8, iz_m] at h84 ⊢; (repeat' split) <;> first | with_reducible rfl | (exfalso; omega))) (congrArg some (congrArg Value.int (by rw [hm_one_2 K n h])))
    · refine go_bipush (v := 7) X (by decide) dc_M_one_87 ?_
      refine go_goto (tgt := 93) X dc_M_one_89 (by decide) ?_
      refine gm_st X (by decide) (by assumption) dc_M_one_93 ?_
      refine go_goto (tgt := 161) X dc_M_one_94 (by decide) ?_
      refine go_iconst (v := 0) X (by decide) dc_M_one_161 ?_
      exact go_iret X hr dc_M_one_162 (congrArg (mW_ T ad K n) (by rw [hm_one_2 K n h]; unfold hm_ask; simp only [iz_lt, iz_le, iz_eq, iz_0, iz_1, iz_2, iz_3, iz_4, iz_5, iz_6, iz_7, iz_8, iz_m] at h84 ⊢; (repeat' split) <;> first | with_reducible rfl | (exfalso; omega))) (congrArg some (congrArg Value.int (by rw [hm_one_2 K n h])))
  · refine go_tableIn (off := 91) (tgt := 97) X dc_M_one_6 (by rw [h]; decide) (by rw [h]; decide) (by rw [h]; decide) (by decide) ?_
    first | refine go_aload_n (i := 0) X rfl rfl dc_M_one_97 ?_ | refine go_aloadN_n (i := 0) X rfl rfl dc_M_one_97 ?_
    refine go_iload_n (i := 1) X rfl rfl dc_M_one_98 ?_
    refine go_cVv (C := rn_M) (ci := 7) (i := 0) (n := 1) (rest := []) X hN (tm_choose l D T ad A nw K n hn hp h13 hz (o3 h).1 (o3 h).2) ml_M_137 im_M_choose sl_M_Mchoose ik_M co_M_choose ⟨rfl, by decide, by decide, by decide +kernel⟩ ⟨rfl, rfl, by decide, by decide⟩ rfl (wl_at (by decide)) rfl rfl (Nat.le_of_ble_eq_true rfl) dc_M_one_99 ⟨Nat.zero_le _, Nat.zero_le _⟩ ?_
    refine go_goto (tgt := 161) X dc_M_one_102 (by decide) ?_
    refine go_iconst (v := 0) X (by decide) dc_M_one_161 ?_
    exact go_iret X hr dc_M_one_162 (congrArg (mW_ T ad K n) (by rw [hm_one_3 K n h])) (congrArg some (congrArg Value.int (by rw [hm_one_3 K n h])))
  · refine go_tableIn (off := 99) (tgt := 105) X dc_M_one_6 (by rw [h]; decide) (by rw [h]; decide) (by rw [h]; decide) (by decide) ?_
    first | refine go_aload_n (i := 0) X rfl rfl dc_M_one_105 ?_ | refine go_aloadN_n (i := 0) X rfl rfl dc_M_one_105 ?_
    refine go_iload_n (i := 1) X rfl rfl dc_M_one_106 ?_
    refine go_cVv (C := rn_M) (ci := 7) (i := 0) (n := 1) (rest := []) X hN (tm_propose l D T ad A nw K n hn hp h13) ml_M_140 im_M_propose sl_M_Mpropose ik_M co_M_propose ⟨rfl, by decide, by decide, by decide +kernel⟩ ⟨rfl, rfl, by decide, by decide⟩ rfl (wl_at (by decide)) rfl rfl (Nat.le_of_ble_eq_true rfl) dc_M_one_107 ⟨Nat.zero_le _, Nat.zero_le _⟩ ?_
    refine go_goto (tgt := 161) X dc_M_one_110 (by decide) ?_
    refine go_iconst (v := 0) X (by decide) dc_M_one_161 ?_
    exact go_iret X hr dc_M_one_162 (congrArg (mW_ T ad K n) (by rw [hm_one_4 K n h])) (congrArg some (congrArg Value.int (by rw [hm_one_4 K n h])))
  · refine go_tableIn (off := 107) (tgt := 113) X dc_M_one_6 (by rw [h]; decide) (by rw [h]; decide) (by rw [h]; decide) (by decide) ?_
    first | refine go_aload_n (i := 0) X rfl rfl dc_M_one_113 ?_ | refine go_aloadN_n (i := 0) X rfl rfl dc_M_one_113 ?_
    refine go_iload_n (i := 1) X rfl rfl dc_M_one_114 ?_
    refine go_cVv (C := rn_M) (ci := 7) (i := 0) (n := 1) (rest := []) X hN (tm_give l D T ad A nw K n hn hp h13 h14 (o5 h)) ml_M_143 im_M_give sl_M_Mgive ik_M co_M_give ⟨rfl, by decide, by decide, by decide +kernel⟩ ⟨rfl, rfl, by decide, by decide⟩ rfl (wl_at (by decide)) rfl rfl (Nat.le_of_ble_eq_true rfl) dc_M_one_115 ⟨Nat.zero_le _, Nat.zero_le _⟩ ?_
    refine go_goto (tgt := 161) X dc_M_one_118 (by decide) ?_
    refine go_iconst (v := 0) X (by decide) dc_M_one_161 ?_
    exact go_iret X hr dc_M_one_162 (congrArg (mW_ T ad K n) (by rw [hm_one_5 K n h])) (congrArg some (congrArg Value.int (by rw [hm_one_5 K n h])))
  · refine go_tableIn (off := 115) (tgt := 121) X dc_M_one_6 (by rw [h]; decide) (by rw [h]; decide) (by rw [h]; decide) (by decide) ?_
    first | refine go_aload_n (i := 0) X rfl rfl dc_M_one_121 ?_ | refine go_aloadN_n (i := 0) X rfl rfl dc_M_one_121 ?_
    refine gm_get X 10 (by decide) fl_M_32 rfl dc_M_one_122 ?_
    refine go_iload_n (i := 1) X rfl rfl dc_M_one_125 ?_
    first | refine go_aload_n (i := 0) X rfl rfl dc_M_one_126 ?_ | refine go_aloadN_n (i := 0) X rfl rfl dc_M_one_126 ?_
    refine gm_get X 16 (by decide) fl_M_50 rfl dc_M_one_127 ?_
    refine go_iload_n (i := 1) X rfl rfl dc_M_one_130 ?_
    refine gm_ld (f := ρ 14) X rfl (by decide) (by assumption) dc_M_one_131 ?_
    refine gm_st X (by decide) (by assumption) dc_M_one_132 ?_
    first | refine go_aload_n (i := 0) X rfl rfl dc_M_one_133 ?_ | refine go_aloadN_n (i := 0) X rfl rfl dc_M_one_133 ?_
    refine gm_get X 15 (by decide) fl_M_47 rfl dc_M_one_134 ?_
    refine go_iload_n (i := 1) X rfl rfl dc_M_one_137 ?_
    first | refine go_aload_n (i := 0) X rfl rfl dc_M_one_138 ?_ | refine go_aloadN_n (i := 0) X rfl rfl dc_M_one_138 ?_
    refine gm_get X 16 (by decide) fl_M_50 rfl dc_M_one_139 ?_
    refine go_iload_n (i := 1) X rfl rfl dc_M_one_142 ?_
    refine gm_ld (f := ρ 14) X rfl (by decide) (by assumption) dc_M_one_143 ?_
    refine gm_st X (by decide) (by assumption) dc_M_one_144 ?_
    first | refine go_aload_n (i := 0) X rfl rfl dc_M_one_145 ?_ | refine go_aloadN_n (i := 0) X rfl rfl dc_M_one_145 ?_
    refine gm_get X 12 (by decide) fl_M_38 rfl dc_M_one_146 ?_
    refine go_iload_n (i := 1) X rfl rfl dc_M_one_149 ?_
    refine go_iconst (v := 2) X (by decide) dc_M_one_150 ?_
    refine gm_st X (by decide) (by assumption) dc_M_one_151 ?_
    refine go_goto (tgt := 161) X dc_M_one_152 (by decide) ?_
    refine go_iconst (v := 0) X (by decide) dc_M_one_161 ?_
    exact go_iret X hr dc_M_one_162 (congrArg (mW_ T ad K n) (by rw [hm_one_6 K n h]; rfl)) (congrArg some (congrArg Value.int (by rw [hm_one_6 K n h])))
  · obtain ⟨J, hJ6, hJ⟩ := o7 h
    refine go_tableOut (tgt := 155) X dc_M_one_6 (by rw [h]; decide) (by decide) ?_
    first | refine go_aload_n (i := 0) X rfl rfl dc_M_one_155 ?_ | refine go_aloadN_n (i := 0) X rfl rfl dc_M_one_155 ?_
    refine go_iload_n (i := 1) X rfl rfl dc_M_one_156 ?_
    refine go_cV (C := rn_M) (ci := 7) (i := 0) (n := 1) (rest := []) X hN (tm_finish l D T ad A nw K n hn hp hK h12 hJ hJ6) ml_M_146 im_M_finish sl_M_Mfinish ik_M co_M_finish ⟨rfl, by decide, by decide, by decide +kernel⟩ ⟨rfl, rfl, by decide, by decide⟩ rfl (wl_at (by decide)) rfl rfl (Nat.le_of_ble_eq_true rfl) dc_M_one_157 ⟨Nat.zero_le _, Nat.zero_le _⟩ ?_
    exact go_iret X hr dc_M_one_160 (congrArg (mW_ T ad K n) (by rw [hm_one_7 K n h])) (congrArg some (congrArg Value.int (by rw [hm_one_7 K n h])))
set_option maxHeartbeats 4000000 in
set_option maxRecDepth 20000 in
theorem tm_stepX (l : Launch) (D : va_G) (T : Nat → ClassId) (ad : Nat → Nat) (A : Nat → Prop) (nw : List Cond) (K n : Nat) {ρ : ST_} {x : Int32} (hv : ¬ (0 ≤ x ∧ x < nI n)) : cm_ l D T ad K n A nw yn_M_step (.code yn_M_step cd_M_step 2 (some .int)) 5 [.int x] ρ (u2_ ρ 0 0 1) (some (.int 0)) := by
  refine go_in (by decide) (Nat.le_of_ble_eq_true rfl) (List.forall_mem_cons.mpr ⟨rfl, List.forall_mem_cons.mpr ⟨rfl, fun _ h => nomatch h⟩⟩) ?_
  intro P e s m args below meth c X hr hnm hN
  replace X : Cx_ P l e (rm_d 5) s m args below meth c cd_M_step 2 rn_M D cl_ (tys_ T) TG_ := X
  refine go_loc (L' := [(0, .ref (ad 0)), (1, .int x)]) rfl ?_
  first | refine go_aload_n (i := 0) X rfl rfl dc_M_step_0 ?_ | refine go_aloadN_n (i := 0) X rfl rfl dc_M_step_0 ?_
  first | refine go_aload_n (i := 0) X rfl rfl dc_M_step_1 ?_ | refine go_aloadN_n (i := 0) X rfl rfl dc_M_step_1 ?_
  refine go_iload_n (i := 1) X rfl rfl dc_M_step_2 ?_
  refine go_cV (C := rn_M) (ci := 7) (i := 0) (n := 1) (rest := [.ref (ad 0)]) X hN (tm_isP0 hv) ml_M_119 im_M_isProcess sl_M_MisProcess ik_M co_M_isProcess ⟨rfl, by decide, by decide, by decide +kernel⟩ ⟨rfl, rfl, by decide, by decide⟩ rfl (wl_at (by decide)) rfl rfl (Nat.le_of_ble_eq_true rfl) dc_M_step_3 ⟨Nat.zero_le _, Nat.zero_le _⟩ ?_
  refine go_if_eq (tgt := 13) X dc_M_step_6 (by decide) (fun h6 => ?_) (fun h6 => ?_)
  · refine go_iconst (v := 1) X (by decide) dc_M_step_13 ?_
    refine go_cV (C := rn_M) (ci := 7) (i := 0) (n := 1) (rest := []) X hN (tm_ref1 (x := 1) (by decide)) ml_M_123 im_M_refused sl_M_Mrefused ik_M co_M_refused ⟨rfl, by decide, by decide, by decide +kernel⟩ ⟨rfl, rfl, by decide, by decide⟩ rfl (wl_at (by decide)) rfl rfl (Nat.le_of_ble_eq_true rfl) dc_M_step_14 ⟨Nat.zero_le _, Nat.zero_le _⟩ ?_
    refine go_if_eq (tgt := 24) X dc_M_step_17 (by decide) (fun h17 => ?_) (fun h17 => ?_)
    · exact absurd h17 (by decide)
    · refine go_iconst (v := 0) X (by decide) dc_M_step_20 ?_
      refine go_goto (tgt := 29) X dc_M_step_21 (by decide) ?_
      exact go_iret X hr dc_M_step_29 rfl rfl
  · exact absurd rfl h6
set_option maxHeartbeats 4000000 in
set_option maxRecDepth 20000 in
theorem tm_step (l : Launch) (D : va_G) (T : Nat → ClassId) (ad : Nat → Nat) (A : Nat → Prop) (nw : List Cond) (K n : Nat) {ρ : ST_} {p : Nat} (hv : 0 ≤ nI p ∧ nI p < nI n) (hn : n ≤ 5) (hp : Ix_ (nI p) 5 p) (hK : K < 4) (hz : ¬ nI n = 0) (hO : Om_ n (u2_ ρ 0 0 0) p) : cm_ l D T ad K n A nw yn_M_step (.code yn_M_step cd_M_step 2 (some .int)) 5 [.int (nI p)] ρ (hm_one K n (u2_ ρ 0 0 0) p).1 (some (.int (hm_one K n (u2_ ρ 0 0 0) p).2)) := by
  refine go_in (by decide) (Nat.le_of_ble_eq_true rfl) (List.forall_mem_cons.mpr ⟨rfl, List.forall_mem_cons.mpr ⟨rfl, fun _ h => nomatch h⟩⟩) ?_
  intro P e s m args below meth c X hr hnm hN
  replace X : Cx_ P l e (rm_d 5) s m args below meth c cd_M_step 2 rn_M D cl_ (tys_ T) TG_ := X
  refine go_loc (L' := [(0, .ref (ad 0)), (1, .int (nI p))]) rfl ?_
  first | refine go_aload_n (i := 0) X rfl rfl dc_M_step_0 ?_ | refine go_aloadN_n (i := 0) X rfl rfl dc_M_step_0 ?_
  first | refine go_aload_n (i := 0) X rfl rfl dc_M_step_1 ?_ | refine go_aloadN_n (i := 0) X rfl rfl dc_M_step_1 ?_
  refine go_iload_n (i := 1) X rfl rfl dc_M_step_2 ?_
  refine go_cV (C := rn_M) (ci := 7) (i := 0) (n := 1) (rest := [.ref (ad 0)]) X hN (tm_isP1 hv) ml_M_119 im_M_isProcess sl_M_MisProcess ik_M co_M_isProcess ⟨rfl, by decide, by decide, by decide +kernel⟩ ⟨rfl, rfl, by decide, by decide⟩ rfl (wl_at (by decide)) rfl rfl (Nat.le_of_ble_eq_true rfl) dc_M_step_3 ⟨Nat.zero_le _, Nat.zero_le _⟩ ?_
  refine go_if_eq (tgt := 13) X dc_M_step_6 (by decide) (fun h6 => ?_) (fun h6 => ?_)
  · exact absurd h6 (by decide)
  · refine go_iconst (v := 0) X (by decide) dc_M_step_9 ?_
    refine go_goto (tgt := 14) X dc_M_step_10 (by decide) ?_
    refine go_cV (C := rn_M) (ci := 7) (i := 0) (n := 1) (rest := []) X hN (tm_ref0) ml_M_123 im_M_refused sl_M_Mrefused ik_M co_M_refused ⟨rfl, by decide, by decide, by decide +kernel⟩ ⟨rfl, rfl, by decide, by decide⟩ rfl (wl_at (by decide)) rfl rfl (Nat.le_of_ble_eq_true rfl) dc_M_step_14 ⟨Nat.zero_le _, Nat.zero_le _⟩ ?_
    refine go_if_eq (tgt := 24) X dc_M_step_17 (by decide) (fun h17 => ?_) (fun h17 => ?_)
    · first | refine go_aload_n (i := 0) X rfl rfl dc_M_step_24 ?_ | refine go_aloadN_n (i := 0) X rfl rfl dc_M_step_24 ?_
      refine go_iload_n (i := 1) X rfl rfl dc_M_step_25 ?_
      refine go_cV (C := rn_M) (ci := 7) (i := 0) (n := 1) (rest := []) X hN (tm_one l D T ad A nw K n (ρ := u2_ ρ 0 0 0) hn hp hK hz hO) ml_M_149 im_M_one sl_M_Mone ik_M co_M_one ⟨rfl, by decide, by decide, by decide +kernel⟩ ⟨rfl, rfl, by decide, by decide⟩ rfl (wl_at (by decide)) rfl rfl (Nat.le_of_ble_eq_true rfl) dc_M_step_26 ⟨Nat.zero_le _, Nat.zero_le _⟩ ?_
      exact go_iret X hr dc_M_step_29 rfl rfl
    · exact absurd rfl h17
set_option maxHeartbeats 4000000 in
set_option maxRecDepth 20000 in
theorem tm_doneX (l : Launch) (D : va_G) (T : Nat → ClassId) (ad : Nat → Nat) (A : Nat → Prop) (nw : List Cond) (K n : Nat) {ρ : ST_} {x : Int32} (hv : ¬ (0 ≤ x ∧ x < nI n)) : cm_ l D T ad K n A nw yn_M_done (.code yn_M_done cd_M_done 2 (some .int)) 1 [.int x] ρ (u2_ ρ 0 0 1) (some (.int 0)) := by
  refine go_in (by decide) (Nat.le_of_ble_eq_true rfl) (List.forall_mem_cons.mpr ⟨rfl, List.forall_mem_cons.mpr ⟨rfl, fun _ h => nomatch h⟩⟩) ?_
  intro P e s m args below meth c X hr hnm hN
  replace X : Cx_ P l e (rm_d 1) s m args below meth c cd_M_done 2 rn_M D cl_ (tys_ T) TG_ := X
  refine go_loc (L' := [(0, .ref (ad 0)), (1, .int x)]) rfl ?_
  first | refine go_aload_n (i := 0) X rfl rfl dc_M_done_0 ?_ | refine go_aloadN_n (i := 0) X rfl rfl dc_M_done_0 ?_
  first | refine go_aload_n (i := 0) X rfl rfl dc_M_done_1 ?_ | refine go_aloadN_n (i := 0) X rfl rfl dc_M_done_1 ?_
  refine go_iload_n (i := 1) X rfl rfl dc_M_done_2 ?_
  refine go_cV (C := rn_M) (ci := 7) (i := 0) (n := 1) (rest := [.ref (ad 0)]) X hN (tm_isP0 hv) ml_M_119 im_M_isProcess sl_M_MisProcess ik_M co_M_isProcess ⟨rfl, by decide, by decide, by decide +kernel⟩ ⟨rfl, rfl, by decide, by decide⟩ rfl (wl_at (by decide)) rfl rfl (Nat.le_of_ble_eq_true rfl) dc_M_done_3 ⟨Nat.zero_le _, Nat.zero_le _⟩ ?_
  refine go_if_eq (tgt := 13) X dc_M_done_6 (by decide) (fun h6 => ?_) (fun h6 => ?_)
  · refine go_iconst (v := 1) X (by decide) dc_M_done_13 ?_
    refine go_cV (C := rn_M) (ci := 7) (i := 0) (n := 1) (rest := []) X hN (tm_ref1 (x := 1) (by decide)) ml_M_123 im_M_refused sl_M_Mrefused ik_M co_M_refused ⟨rfl, by decide, by decide, by decide +kernel⟩ ⟨rfl, rfl, by decide, by decide⟩ rfl (wl_at (by decide)) rfl rfl (Nat.le_of_ble_eq_true rfl) dc_M_done_14 ⟨Nat.zero_le _, Nat.zero_le _⟩ ?_
    refine go_if_eq (tgt := 24) X dc_M_done_17 (by decide) (fun h17 => ?_) (fun h17 => ?_)
    · exact absurd h17 (by decide)
    · refine go_iconst (v := 0) X (by decide) dc_M_done_20 ?_
      refine go_goto (tgt := 30) X dc_M_done_21 (by decide) ?_
      exact go_iret X hr dc_M_done_30 rfl rfl
  · exact absurd rfl h6
set_option maxHeartbeats 4000000 in
set_option maxRecDepth 20000 in
theorem tm_done (l : Launch) (D : va_G) (T : Nat → ClassId) (ad : Nat → Nat) (A : Nat → Prop) (nw : List Cond) (K n : Nat) {ρ : ST_} {p : Nat} (hv : 0 ≤ nI p ∧ nI p < nI n) (hn : n ≤ 5) (hp : Ix_ (nI p) 5 p)  : cm_ l D T ad K n A nw yn_M_done (.code yn_M_done cd_M_done 2 (some .int)) 1 [.int (nI p)] ρ (u2_ ρ 0 0 0) (some (.int (ρ 18 p))) := by
  refine go_in (by decide) (Nat.le_of_ble_eq_true rfl) (List.forall_mem_cons.mpr ⟨rfl, List.forall_mem_cons.mpr ⟨rfl, fun _ h => nomatch h⟩⟩) ?_
  intro P e s m args below meth c X hr hnm hN
  replace X : Cx_ P l e (rm_d 1) s m args below meth c cd_M_done 2 rn_M D cl_ (tys_ T) TG_ := X
  refine go_loc (L' := [(0, .ref (ad 0)), (1, .int (nI p))]) rfl ?_
  first | refine go_aload_n (i := 0) X rfl rfl dc_M_done_0 ?_ | refine go_aloadN_n (i := 0) X rfl rfl dc_M_done_0 ?_
  first | refine go_aload_n (i := 0) X rfl rfl dc_M_done_1 ?_ | refine go_aloadN_n (i := 0) X rfl rfl dc_M_done_1 ?_
  refine go_iload_n (i := 1) X rfl rfl dc_M_done_2 ?_
  refine go_cV (C := rn_M) (ci := 7) (i := 0) (n := 1) (rest := [.ref (ad 0)]) X hN (tm_isP1 hv) ml_M_119 im_M_isProcess sl_M_MisProcess ik_M co_M_isProcess ⟨rfl, by decide, by decide, by decide +kernel⟩ ⟨rfl, rfl, by decide, by decide⟩ rfl (wl_at (by decide)) rfl rfl (Nat.le_of_ble_eq_true rfl) dc_M_done_3 ⟨Nat.zero_le _, Nat.zero_le _⟩ ?_
  refine go_if_eq (tgt := 13) X dc_M_done_6 (by decide) (fun h6 => ?_) (fun h6 => ?_)
  · exact absurd h6 (by decide)
  · refine go_iconst (v := 0) X (by decide) dc_M_done_9 ?_
    refine go_goto (tgt := 14) X dc_M_done_10 (by decide) ?_
    refine go_cV (C := rn_M) (ci := 7) (i := 0) (n := 1) (rest := []) X hN (tm_ref0) ml_M_123 im_M_refused sl_M_Mrefused ik_M co_M_refused ⟨rfl, by decide, by decide, by decide +kernel⟩ ⟨rfl, rfl, by decide, by decide⟩ rfl (wl_at (by decide)) rfl rfl (Nat.le_of_ble_eq_true rfl) dc_M_done_14 ⟨Nat.zero_le _, Nat.zero_le _⟩ ?_
    refine go_if_eq (tgt := 24) X dc_M_done_17 (by decide) (fun h17 => ?_) (fun h17 => ?_)
    · first | refine go_aload_n (i := 0) X rfl rfl dc_M_done_24 ?_ | refine go_aloadN_n (i := 0) X rfl rfl dc_M_done_24 ?_
      refine gm_get X 20 (by decide) fl_M_62 rfl dc_M_done_25 ?_
      refine go_iload_n (i := 1) X rfl rfl dc_M_done_28 ?_
      refine gm_ld (f := ρ 18) X rfl (by decide) (by assumption) dc_M_done_29 ?_
      exact go_iret X hr dc_M_done_30 rfl rfl
    · exact absurd rfl h17
set_option maxHeartbeats 4000000 in
set_option maxRecDepth 20000 in
theorem tm_placeOfX (l : Launch) (D : va_G) (T : Nat → ClassId) (ad : Nat → Nat) (A : Nat → Prop) (nw : List Cond) (K n : Nat) {ρ : ST_} {x : Int32} (hv : ¬ (0 ≤ x ∧ x < nI n)) : cm_ l D T ad K n A nw yn_M_placeOf (.code yn_M_placeOf cd_M_placeOf 2 (some .int)) 1 [.int x] ρ (u2_ ρ 0 0 1) (some (.int 0)) := by
  refine go_in (by decide) (Nat.le_of_ble_eq_true rfl) (List.forall_mem_cons.mpr ⟨rfl, List.forall_mem_cons.mpr ⟨rfl, fun _ h => nomatch h⟩⟩) ?_
  intro P e s m args below meth c X hr hnm hN
  replace X : Cx_ P l e (rm_d 1) s m args below meth c cd_M_placeOf 2 rn_M D cl_ (tys_ T) TG_ := X
  refine go_loc (L' := [(0, .ref (ad 0)), (1, .int x)]) rfl ?_
  first | refine go_aload_n (i := 0) X rfl rfl dc_M_placeOf_0 ?_ | refine go_aloadN_n (i := 0) X rfl rfl dc_M_placeOf_0 ?_
  first | refine go_aload_n (i := 0) X rfl rfl dc_M_placeOf_1 ?_ | refine go_aloadN_n (i := 0) X rfl rfl dc_M_placeOf_1 ?_
  refine go_iload_n (i := 1) X rfl rfl dc_M_placeOf_2 ?_
  refine go_cV (C := rn_M) (ci := 7) (i := 0) (n := 1) (rest := [.ref (ad 0)]) X hN (tm_isP0 hv) ml_M_119 im_M_isProcess sl_M_MisProcess ik_M co_M_isProcess ⟨rfl, by decide, by decide, by decide +kernel⟩ ⟨rfl, rfl, by decide, by decide⟩ rfl (wl_at (by decide)) rfl rfl (Nat.le_of_ble_eq_true rfl) dc_M_placeOf_3 ⟨Nat.zero_le _, Nat.zero_le _⟩ ?_
  refine go_if_eq (tgt := 13) X dc_M_placeOf_6 (by decide) (fun h6 => ?_) (fun h6 => ?_)
  · refine go_iconst (v := 1) X (by decide) dc_M_placeOf_13 ?_
    refine go_cV (C := rn_M) (ci := 7) (i := 0) (n := 1) (rest := []) X hN (tm_ref1 (x := 1) (by decide)) ml_M_123 im_M_refused sl_M_Mrefused ik_M co_M_refused ⟨rfl, by decide, by decide, by decide +kernel⟩ ⟨rfl, rfl, by decide, by decide⟩ rfl (wl_at (by decide)) rfl rfl (Nat.le_of_ble_eq_true rfl) dc_M_placeOf_14 ⟨Nat.zero_le _, Nat.zero_le _⟩ ?_
    refine go_if_eq (tgt := 24) X dc_M_placeOf_17 (by decide) (fun h17 => ?_) (fun h17 => ?_)
    · exact absurd h17 (by decide)
    · refine go_iconst (v := 0) X (by decide) dc_M_placeOf_20 ?_
      refine go_goto (tgt := 30) X dc_M_placeOf_21 (by decide) ?_
      exact go_iret X hr dc_M_placeOf_30 rfl rfl
  · exact absurd rfl h6
set_option maxHeartbeats 4000000 in
set_option maxRecDepth 20000 in
theorem tm_placeOf (l : Launch) (D : va_G) (T : Nat → ClassId) (ad : Nat → Nat) (A : Nat → Prop) (nw : List Cond) (K n : Nat) {ρ : ST_} {p : Nat} (hv : 0 ≤ nI p ∧ nI p < nI n) (hn : n ≤ 5) (hp : Ix_ (nI p) 5 p)  : cm_ l D T ad K n A nw yn_M_placeOf (.code yn_M_placeOf cd_M_placeOf 2 (some .int)) 1 [.int (nI p)] ρ (u2_ ρ 0 0 0) (some (.int (ρ 20 p))) := by
  refine go_in (by decide) (Nat.le_of_ble_eq_true rfl) (List.forall_mem_cons.mpr ⟨rfl, List.forall_mem_cons.mpr ⟨rfl, fun _ h => nomatch h⟩⟩) ?_
  intro P e s m args below meth c X hr hnm hN
  replace X : Cx_ P l e (rm_d 1) s m args below meth c cd_M_placeOf 2 rn_M D cl_ (tys_ T) TG_ := X
  refine go_loc (L' := [(0, .ref (ad 0)), (1, .int (nI p))]) rfl ?_
  first | refine go_aload_n (i := 0) X rfl rfl dc_M_placeOf_0 ?_ | refine go_aloadN_n (i := 0) X rfl rfl dc_M_placeOf_0 ?_
  first | refine go_aload_n (i := 0) X rfl rfl dc_M_placeOf_1 ?_ | refine go_aloadN_n (i := 0) X rfl rfl dc_M_placeOf_1 ?_
  refine go_iload_n (i := 1) X rfl rfl dc_M_placeOf_2 ?_
  refine go_cV (C := rn_M) (ci := 7) (i := 0) (n := 1) (rest := [.ref (ad 0)]) X hN (tm_isP1 hv) ml_M_119 im_M_isProcess sl_M_MisProcess ik_M co_M_isProcess ⟨rfl, by decide, by decide, by decide +kernel⟩ ⟨rfl, rfl, by decide, by decide⟩ rfl (wl_at (by decide)) rfl rfl (Nat.le_of_ble_eq_true rfl) dc_M_placeOf_3 ⟨Nat.zero_le _, Nat.zero_le _⟩ ?_
  refine go_if_eq (tgt := 13) X dc_M_placeOf_6 (by decide) (fun h6 => ?_) (fun h6 => ?_)
  · exact absurd h6 (by decide)
  · refine go_iconst (v := 0) X (by decide) dc_M_placeOf_9 ?_
    refine go_goto (tgt := 14) X dc_M_placeOf_10 (by decide) ?_
    refine go_cV (C := rn_M) (ci := 7) (i := 0) (n := 1) (rest := []) X hN (tm_ref0) ml_M_123 im_M_refused sl_M_Mrefused ik_M co_M_refused ⟨rfl, by decide, by decide, by decide +kernel⟩ ⟨rfl, rfl, by decide, by decide⟩ rfl (wl_at (by decide)) rfl rfl (Nat.le_of_ble_eq_true rfl) dc_M_placeOf_14 ⟨Nat.zero_le _, Nat.zero_le _⟩ ?_
    refine go_if_eq (tgt := 24) X dc_M_placeOf_17 (by decide) (fun h17 => ?_) (fun h17 => ?_)
    · first | refine go_aload_n (i := 0) X rfl rfl dc_M_placeOf_24 ?_ | refine go_aloadN_n (i := 0) X rfl rfl dc_M_placeOf_24 ?_
      refine gm_get X 22 (by decide) fl_M_68 rfl dc_M_placeOf_25 ?_
      refine go_iload_n (i := 1) X rfl rfl dc_M_placeOf_28 ?_
      refine gm_ld (f := ρ 20) X rfl (by decide) (by assumption) dc_M_placeOf_29 ?_
      exact go_iret X hr dc_M_placeOf_30 rfl rfl
    · exact absurd rfl h17
set_option maxHeartbeats 4000000 in
set_option maxRecDepth 20000 in
theorem tm_stageX (l : Launch) (D : va_G) (T : Nat → ClassId) (ad : Nat → Nat) (A : Nat → Prop) (nw : List Cond) (K n : Nat) {ρ : ST_} {x : Int32} (hv : ¬ (0 ≤ x ∧ x < nI n)) : cm_ l D T ad K n A nw yn_M_stage (.code yn_M_stage cd_M_stage 2 (some .int)) 1 [.int x] ρ (u2_ ρ 0 0 1) (some (.int 0)) := by
  refine go_in (by decide) (Nat.le_of_ble_eq_true rfl) (List.forall_mem_cons.mpr ⟨rfl, List.forall_mem_cons.mpr ⟨rfl, fun _ h => nomatch h⟩⟩) ?_
  intro P e s m args below meth c X hr hnm hN
  replace X : Cx_ P l e (rm_d 1) s m args below meth c cd_M_stage 2 rn_M D cl_ (tys_ T) TG_ := X
  refine go_loc (L' := [(0, .ref (ad 0)), (1, .int x)]) rfl ?_
  first | refine go_aload_n (i := 0) X rfl rfl dc_M_stage_0 ?_ | refine go_aloadN_n (i := 0) X rfl rfl dc_M_stage_0 ?_
  first | refine go_aload_n (i := 0) X rfl rfl dc_M_stage_1 ?_ | refine go_aloadN_n (i := 0) X rfl rfl dc_M_stage_1 ?_
  refine go_iload_n (i := 1) X rfl rfl dc_M_stage_2 ?_
  refine go_cV (C := rn_M) (ci := 7) (i := 0) (n := 1) (rest := [.ref (ad 0)]) X hN (tm_isP0 hv) ml_M_119 im_M_isProcess sl_M_MisProcess ik_M co_M_isProcess ⟨rfl, by decide, by decide, by decide +kernel⟩ ⟨rfl, rfl, by decide, by decide⟩ rfl (wl_at (by decide)) rfl rfl (Nat.le_of_ble_eq_true rfl) dc_M_stage_3 ⟨Nat.zero_le _, Nat.zero_le _⟩ ?_
  refine go_if_eq (tgt := 13) X dc_M_stage_6 (by decide) (fun h6 => ?_) (fun h6 => ?_)
  · refine go_iconst (v := 1) X (by decide) dc_M_stage_13 ?_
    refine go_cV (C := rn_M) (ci := 7) (i := 0) (n := 1) (rest := []) X hN (tm_ref1 (x := 1) (by decide)) ml_M_123 im_M_refused sl_M_Mrefused ik_M co_M_refused ⟨rfl, by decide, by decide, by decide +kernel⟩ ⟨rfl, rfl, by decide, by decide⟩ rfl (wl_at (by decide)) rfl rfl (Nat.le_of_ble_eq_true rfl) dc_M_stage_14 ⟨Nat.zero_le _, Nat.zero_le _⟩ ?_
    refine go_if_eq (tgt := 24) X dc_M_stage_17 (by decide) (fun h17 => ?_) (fun h17 => ?_)
    · exact absurd h17 (by decide)
    · refine go_iconst (v := 0) X (by decide) dc_M_stage_20 ?_
      refine go_goto (tgt := 30) X dc_M_stage_21 (by decide) ?_
      exact go_iret X hr dc_M_stage_30 rfl rfl
  · exact absurd rfl h6
set_option maxHeartbeats 4000000 in
set_option maxRecDepth 20000 in
theorem tm_stage (l : Launch) (D : va_G) (T : Nat → ClassId) (ad : Nat → Nat) (A : Nat → Prop) (nw : List Cond) (K n : Nat) {ρ : ST_} {p : Nat} (hv : 0 ≤ nI p ∧ nI p < nI n) (hn : n ≤ 5) (hp : Ix_ (nI p) 5 p)  : cm_ l D T ad K n A nw yn_M_stage (.code yn_M_stage cd_M_stage 2 (some .int)) 1 [.int (nI p)] ρ (u2_ ρ 0 0 0) (some (.int (ρ 10 p))) := by
  refine go_in (by decide) (Nat.le_of_ble_eq_true rfl) (List.forall_mem_cons.mpr ⟨rfl, List.forall_mem_cons.mpr ⟨rfl, fun _ h => nomatch h⟩⟩) ?_
  intro P e s m args below meth c X hr hnm hN
  replace X : Cx_ P l e (rm_d 1) s m args below meth c cd_M_stage 2 rn_M D cl_ (tys_ T) TG_ := X
  refine go_loc (L' := [(0, .ref (ad 0)), (1, .int (nI p))]) rfl ?_
  first | refine go_aload_n (i := 0) X rfl rfl dc_M_stage_0 ?_ | refine go_aloadN_n (i := 0) X rfl rfl dc_M_stage_0 ?_
  first | refine go_aload_n (i := 0) X rfl rfl dc_M_stage_1 ?_ | refine go_aloadN_n (i := 0) X rfl rfl dc_M_stage_1 ?_
  refine go_iload_n (i := 1) X rfl rfl dc_M_stage_2 ?_
  refine go_cV (C := rn_M) (ci := 7) (i := 0) (n := 1) (rest := [.ref (ad 0)]) X hN (tm_isP1 hv) ml_M_119 im_M_isProcess sl_M_MisProcess ik_M co_M_isProcess ⟨rfl, by decide, by decide, by decide +kernel⟩ ⟨rfl, rfl, by decide, by decide⟩ rfl (wl_at (by decide)) rfl rfl (Nat.le_of_ble_eq_true rfl) dc_M_stage_3 ⟨Nat.zero_le _, Nat.zero_le _⟩ ?_
  refine go_if_eq (tgt := 13) X dc_M_stage_6 (by decide) (fun h6 => ?_) (fun h6 => ?_)
  · exact absurd h6 (by decide)
  · refine go_iconst (v := 0) X (by decide) dc_M_stage_9 ?_
    refine go_goto (tgt := 14) X dc_M_stage_10 (by decide) ?_
    refine go_cV (C := rn_M) (ci := 7) (i := 0) (n := 1) (rest := []) X hN (tm_ref0) ml_M_123 im_M_refused sl_M_Mrefused ik_M co_M_refused ⟨rfl, by decide, by decide, by decide +kernel⟩ ⟨rfl, rfl, by decide, by decide⟩ rfl (wl_at (by decide)) rfl rfl (Nat.le_of_ble_eq_true rfl) dc_M_stage_14 ⟨Nat.zero_le _, Nat.zero_le _⟩ ?_
    refine go_if_eq (tgt := 24) X dc_M_stage_17 (by decide) (fun h17 => ?_) (fun h17 => ?_)
    · first | refine go_aload_n (i := 0) X rfl rfl dc_M_stage_24 ?_ | refine go_aloadN_n (i := 0) X rfl rfl dc_M_stage_24 ?_
      refine gm_get X 12 (by decide) fl_M_38 rfl dc_M_stage_25 ?_
      refine go_iload_n (i := 1) X rfl rfl dc_M_stage_28 ?_
      refine gm_ld (f := ρ 10) X rfl (by decide) (by assumption) dc_M_stage_29 ?_
      exact go_iret X hr dc_M_stage_30 rfl rfl
    · exact absurd rfl h17
set_option maxHeartbeats 4000000 in
set_option maxRecDepth 20000 in
theorem tm_headX (l : Launch) (D : va_G) (T : Nat → ClassId) (ad : Nat → Nat) (A : Nat → Prop) (nw : List Cond) (K n : Nat) {ρ : ST_} {x : Int32} (hv : ¬ (0 ≤ x ∧ x < nI n)) : cm_ l D T ad K n A nw yn_M_head (.code yn_M_head cd_M_head 2 (some .int)) 1 [.int x] ρ (u2_ ρ 0 0 1) (some (.int 0)) := by
  refine go_in (by decide) (Nat.le_of_ble_eq_true rfl) (List.forall_mem_cons.mpr ⟨rfl, List.forall_mem_cons.mpr ⟨rfl, fun _ h => nomatch h⟩⟩) ?_
  intro P e s m args below meth c X hr hnm hN
  replace X : Cx_ P l e (rm_d 1) s m args below meth c cd_M_head 2 rn_M D cl_ (tys_ T) TG_ := X
  refine go_loc (L' := [(0, .ref (ad 0)), (1, .int x)]) rfl ?_
  first | refine go_aload_n (i := 0) X rfl rfl dc_M_head_0 ?_ | refine go_aloadN_n (i := 0) X rfl rfl dc_M_head_0 ?_
  first | refine go_aload_n (i := 0) X rfl rfl dc_M_head_1 ?_ | refine go_aloadN_n (i := 0) X rfl rfl dc_M_head_1 ?_
  refine go_iload_n (i := 1) X rfl rfl dc_M_head_2 ?_
  refine go_cV (C := rn_M) (ci := 7) (i := 0) (n := 1) (rest := [.ref (ad 0)]) X hN (tm_isP0 hv) ml_M_119 im_M_isProcess sl_M_MisProcess ik_M co_M_isProcess ⟨rfl, by decide, by decide, by decide +kernel⟩ ⟨rfl, rfl, by decide, by decide⟩ rfl (wl_at (by decide)) rfl rfl (Nat.le_of_ble_eq_true rfl) dc_M_head_3 ⟨Nat.zero_le _, Nat.zero_le _⟩ ?_
  refine go_if_eq (tgt := 13) X dc_M_head_6 (by decide) (fun h6 => ?_) (fun h6 => ?_)
  · refine go_iconst (v := 1) X (by decide) dc_M_head_13 ?_
    refine go_cV (C := rn_M) (ci := 7) (i := 0) (n := 1) (rest := []) X hN (tm_ref1 (x := 1) (by decide)) ml_M_123 im_M_refused sl_M_Mrefused ik_M co_M_refused ⟨rfl, by decide, by decide, by decide +kernel⟩ ⟨rfl, rfl, by decide, by decide⟩ rfl (wl_at (by decide)) rfl rfl (Nat.le_of_ble_eq_true rfl) dc_M_head_14 ⟨Nat.zero_le _, Nat.zero_le _⟩ ?_
    refine go_if_eq (tgt := 24) X dc_M_head_17 (by decide) (fun h17 => ?_) (fun h17 => ?_)
    · exact absurd h17 (by decide)
    · refine go_iconst (v := 0) X (by decide) dc_M_head_20 ?_
      refine go_goto (tgt := 35) X dc_M_head_21 (by decide) ?_
      exact go_iret X hr dc_M_head_35 rfl rfl
  · exact absurd rfl h6
set_option maxHeartbeats 4000000 in
set_option maxRecDepth 20000 in
theorem tm_head (l : Launch) (D : va_G) (T : Nat → ClassId) (ad : Nat → Nat) (A : Nat → Prop) (nw : List Cond) (K n : Nat) {ρ : ST_} {p : Nat} (hv : 0 ≤ nI p ∧ nI p < nI n) (hn : n ≤ 5) (hp : Ix_ (nI p) 5 p) (h8 : Ix_ (ρ 8 p) 32 (ix_ (ρ 8 p))) : cm_ l D T ad K n A nw yn_M_head (.code yn_M_head cd_M_head 2 (some .int)) 1 [.int (nI p)] ρ (u2_ ρ 0 0 0) (some (.int (ρ 2 (ix_ (ρ 8 p))))) := by
  refine go_in (by decide) (Nat.le_of_ble_eq_true rfl) (List.forall_mem_cons.mpr ⟨rfl, List.forall_mem_cons.mpr ⟨rfl, fun _ h => nomatch h⟩⟩) ?_
  intro P e s m args below meth c X hr hnm hN
  replace X : Cx_ P l e (rm_d 1) s m args below meth c cd_M_head 2 rn_M D cl_ (tys_ T) TG_ := X
  refine go_loc (L' := [(0, .ref (ad 0)), (1, .int (nI p))]) rfl ?_
  first | refine go_aload_n (i := 0) X rfl rfl dc_M_head_0 ?_ | refine go_aloadN_n (i := 0) X rfl rfl dc_M_head_0 ?_
  first | refine go_aload_n (i := 0) X rfl rfl dc_M_head_1 ?_ | refine go_aloadN_n (i := 0) X rfl rfl dc_M_head_1 ?_
  refine go_iload_n (i := 1) X rfl rfl dc_M_head_2 ?_
  refine go_cV (C := rn_M) (ci := 7) (i := 0) (n := 1) (rest := [.ref (ad 0)]) X hN (tm_isP1 hv) ml_M_119 im_M_isProcess sl_M_MisProcess ik_M co_M_isProcess ⟨rfl, by decide, by decide, by decide +kernel⟩ ⟨rfl, rfl, by decide, by decide⟩ rfl (wl_at (by decide)) rfl rfl (Nat.le_of_ble_eq_true rfl) dc_M_head_3 ⟨Nat.zero_le _, Nat.zero_le _⟩ ?_
  refine go_if_eq (tgt := 13) X dc_M_head_6 (by decide) (fun h6 => ?_) (fun h6 => ?_)
  · exact absurd h6 (by decide)
  · refine go_iconst (v := 0) X (by decide) dc_M_head_9 ?_
    refine go_goto (tgt := 14) X dc_M_head_10 (by decide) ?_
    refine go_cV (C := rn_M) (ci := 7) (i := 0) (n := 1) (rest := []) X hN (tm_ref0) ml_M_123 im_M_refused sl_M_Mrefused ik_M co_M_refused ⟨rfl, by decide, by decide, by decide +kernel⟩ ⟨rfl, rfl, by decide, by decide⟩ rfl (wl_at (by decide)) rfl rfl (Nat.le_of_ble_eq_true rfl) dc_M_head_14 ⟨Nat.zero_le _, Nat.zero_le _⟩ ?_
    refine go_if_eq (tgt := 24) X dc_M_head_17 (by decide) (fun h17 => ?_) (fun h17 => ?_)
    · first | refine go_aload_n (i := 0) X rfl rfl dc_M_head_24 ?_ | refine go_aloadN_n (i := 0) X rfl rfl dc_M_head_24 ?_
      refine gm_get X 4 (by decide) fl_M_13 rfl dc_M_head_25 ?_
      first | refine go_aload_n (i := 0) X rfl rfl dc_M_head_28 ?_ | refine go_aloadN_n (i := 0) X rfl rfl dc_M_head_28 ?_
      refine gm_get X 10 (by decide) fl_M_32 rfl dc_M_head_29 ?_
      refine go_iload_n (i := 1) X rfl rfl dc_M_head_32 ?_
      refine gm_ld (f := ρ 8) X rfl (by decide) (by assumption) dc_M_head_33 ?_
      refine gm_ld (f := ρ 2) X rfl (by decide) (by assumption) dc_M_head_34 ?_
      exact go_iret X hr dc_M_head_35 rfl rfl
    · exact absurd rfl h17
set_option maxHeartbeats 4000000 in
set_option maxRecDepth 20000 in
theorem tm_answerX (l : Launch) (D : va_G) (T : Nat → ClassId) (ad : Nat → Nat) (A : Nat → Prop) (nw : List Cond) (K n : Nat) {ρ : ST_} {x : Int32} (hv : ¬ (0 ≤ x ∧ x < nI n)) : cm_ l D T ad K n A nw yn_M_answer (.code yn_M_answer cd_M_answer 2 (some .int)) 1 [.int x] ρ (u2_ ρ 0 0 1) (some (.int 0)) := by
  refine go_in (by decide) (Nat.le_of_ble_eq_true rfl) (List.forall_mem_cons.mpr ⟨rfl, List.forall_mem_cons.mpr ⟨rfl, fun _ h => nomatch h⟩⟩) ?_
  intro P e s m args below meth c X hr hnm hN
  replace X : Cx_ P l e (rm_d 1) s m args below meth c cd_M_answer 2 rn_M D cl_ (tys_ T) TG_ := X
  refine go_loc (L' := [(0, .ref (ad 0)), (1, .int x)]) rfl ?_
  first | refine go_aload_n (i := 0) X rfl rfl dc_M_answer_0 ?_ | refine go_aloadN_n (i := 0) X rfl rfl dc_M_answer_0 ?_
  first | refine go_aload_n (i := 0) X rfl rfl dc_M_answer_1 ?_ | refine go_aloadN_n (i := 0) X rfl rfl dc_M_answer_1 ?_
  refine go_iload_n (i := 1) X rfl rfl dc_M_answer_2 ?_
  refine go_cV (C := rn_M) (ci := 7) (i := 0) (n := 1) (rest := [.ref (ad 0)]) X hN (tm_isP0 hv) ml_M_119 im_M_isProcess sl_M_MisProcess ik_M co_M_isProcess ⟨rfl, by decide, by decide, by decide +kernel⟩ ⟨rfl, rfl, by decide, by decide⟩ rfl (wl_at (by decide)) rfl rfl (Nat.le_of_ble_eq_true rfl) dc_M_answer_3 ⟨Nat.zero_le _, Nat.zero_le _⟩ ?_
  refine go_if_ne (tgt := 13) X dc_M_answer_6 (by decide) (fun h6 => ?_) (fun h6 => ?_)
  · exact absurd rfl h6
  · refine go_iconst (v := 1) X (by decide) dc_M_answer_9 ?_
    refine go_goto (tgt := 27) X dc_M_answer_10 (by decide) ?_
    refine go_cV (C := rn_M) (ci := 7) (i := 0) (n := 1) (rest := []) X hN (tm_ref1 (x := 1) (by decide)) ml_M_123 im_M_refused sl_M_Mrefused ik_M co_M_refused ⟨rfl, by decide, by decide, by decide +kernel⟩ ⟨rfl, rfl, by decide, by decide⟩ rfl (wl_at (by decide)) rfl rfl (Nat.le_of_ble_eq_true rfl) dc_M_answer_27 ⟨Nat.zero_le _, Nat.zero_le _⟩ ?_
    refine go_if_eq (tgt := 37) X dc_M_answer_30 (by decide) (fun h30 => ?_) (fun h30 => ?_)
    · exact absurd h30 (by decide)
    · refine go_iconst (v := 0) X (by decide) dc_M_answer_33 ?_
      refine go_goto (tgt := 43) X dc_M_answer_34 (by decide) ?_
      exact go_iret X hr dc_M_answer_43 rfl rfl
set_option maxHeartbeats 4000000 in
set_option maxRecDepth 20000 in
theorem tm_answer (l : Launch) (D : va_G) (T : Nat → ClassId) (ad : Nat → Nat) (A : Nat → Prop) (nw : List Cond) (K n : Nat) {ρ : ST_} {p : Nat} (hv : 0 ≤ nI p ∧ nI p < nI n) (hn : n ≤ 5) (hp : Ix_ (nI p) 5 p) (hd : ¬ ρ 18 p = 0) : cm_ l D T ad K n A nw yn_M_answer (.code yn_M_answer cd_M_answer 2 (some .int)) 1 [.int (nI p)] ρ (u2_ ρ 0 0 0) (some (.int (ρ 19 p))) := by
  refine go_in (by decide) (Nat.le_of_ble_eq_true rfl) (List.forall_mem_cons.mpr ⟨rfl, List.forall_mem_cons.mpr ⟨rfl, fun _ h => nomatch h⟩⟩) ?_
  intro P e s m args below meth c X hr hnm hN
  replace X : Cx_ P l e (rm_d 1) s m args below meth c cd_M_answer 2 rn_M D cl_ (tys_ T) TG_ := X
  refine go_loc (L' := [(0, .ref (ad 0)), (1, .int (nI p))]) rfl ?_
  first | refine go_aload_n (i := 0) X rfl rfl dc_M_answer_0 ?_ | refine go_aloadN_n (i := 0) X rfl rfl dc_M_answer_0 ?_
  first | refine go_aload_n (i := 0) X rfl rfl dc_M_answer_1 ?_ | refine go_aloadN_n (i := 0) X rfl rfl dc_M_answer_1 ?_
  refine go_iload_n (i := 1) X rfl rfl dc_M_answer_2 ?_
  refine go_cV (C := rn_M) (ci := 7) (i := 0) (n := 1) (rest := [.ref (ad 0)]) X hN (tm_isP1 hv) ml_M_119 im_M_isProcess sl_M_MisProcess ik_M co_M_isProcess ⟨rfl, by decide, by decide, by decide +kernel⟩ ⟨rfl, rfl, by decide, by decide⟩ rfl (wl_at (by decide)) rfl rfl (Nat.le_of_ble_eq_true rfl) dc_M_answer_3 ⟨Nat.zero_le _, Nat.zero_le _⟩ ?_
  refine go_if_ne (tgt := 13) X dc_M_answer_6 (by decide) (fun h6 => ?_) (fun h6 => ?_)
  · first | refine go_aload_n (i := 0) X rfl rfl dc_M_answer_13 ?_ | refine go_aloadN_n (i := 0) X rfl rfl dc_M_answer_13 ?_
    refine gm_get X 20 (by decide) fl_M_62 rfl dc_M_answer_14 ?_
    refine go_iload_n (i := 1) X rfl rfl dc_M_answer_17 ?_
    refine gm_ld (f := ρ 18) X rfl (by decide) (by assumption) dc_M_answer_18 ?_
    refine go_if_ne (tgt := 26) X dc_M_answer_19 (by decide) (fun h19 => ?_) (fun h19 => ?_)
    · refine go_iconst (v := 0) X (by decide) dc_M_answer_26 ?_
      refine go_cV (C := rn_M) (ci := 7) (i := 0) (n := 1) (rest := []) X hN (tm_ref0) ml_M_123 im_M_refused sl_M_Mrefused ik_M co_M_refused ⟨rfl, by decide, by decide, by decide +kernel⟩ ⟨rfl, rfl, by decide, by decide⟩ rfl (wl_at (by decide)) rfl rfl (Nat.le_of_ble_eq_true rfl) dc_M_answer_27 ⟨Nat.zero_le _, Nat.zero_le _⟩ ?_
      refine go_if_eq (tgt := 37) X dc_M_answer_30 (by decide) (fun h30 => ?_) (fun h30 => ?_)
      · first | refine go_aload_n (i := 0) X rfl rfl dc_M_answer_37 ?_ | refine go_aloadN_n (i := 0) X rfl rfl dc_M_answer_37 ?_
        refine gm_get X 21 (by decide) fl_M_65 rfl dc_M_answer_38 ?_
        refine go_iload_n (i := 1) X rfl rfl dc_M_answer_41 ?_
        refine gm_ld (f := ρ 19) X rfl (by decide) (by assumption) dc_M_answer_42 ?_
        exact go_iret X hr dc_M_answer_43 rfl rfl
      · exact absurd rfl h30
    · exact absurd h19 hd
  · exact absurd h6 (by decide)
set_option maxHeartbeats 4000000 in
set_option maxRecDepth 20000 in
theorem tm_answer0 (l : Launch) (D : va_G) (T : Nat → ClassId) (ad : Nat → Nat) (A : Nat → Prop) (nw : List Cond) (K n : Nat) {ρ : ST_} {p : Nat} (hv : 0 ≤ nI p ∧ nI p < nI n) (hn : n ≤ 5) (hp : Ix_ (nI p) 5 p) (hd : ρ 18 p = 0) : cm_ l D T ad K n A nw yn_M_answer (.code yn_M_answer cd_M_answer 2 (some .int)) 1 [.int (nI p)] ρ (u2_ ρ 0 0 2) (some (.int 0)) := by
  refine go_in (by decide) (Nat.le_of_ble_eq_true rfl) (List.forall_mem_cons.mpr ⟨rfl, List.forall_mem_cons.mpr ⟨rfl, fun _ h => nomatch h⟩⟩) ?_
  intro P e s m args below meth c X hr hnm hN
  replace X : Cx_ P l e (rm_d 1) s m args below meth c cd_M_answer 2 rn_M D cl_ (tys_ T) TG_ := X
  refine go_loc (L' := [(0, .ref (ad 0)), (1, .int (nI p))]) rfl ?_
  first | refine go_aload_n (i := 0) X rfl rfl dc_M_answer_0 ?_ | refine go_aloadN_n (i := 0) X rfl rfl dc_M_answer_0 ?_
  first | refine go_aload_n (i := 0) X rfl rfl dc_M_answer_1 ?_ | refine go_aloadN_n (i := 0) X rfl rfl dc_M_answer_1 ?_
  refine go_iload_n (i := 1) X rfl rfl dc_M_answer_2 ?_
  refine go_cV (C := rn_M) (ci := 7) (i := 0) (n := 1) (rest := [.ref (ad 0)]) X hN (tm_isP1 hv) ml_M_119 im_M_isProcess sl_M_MisProcess ik_M co_M_isProcess ⟨rfl, by decide, by decide, by decide +kernel⟩ ⟨rfl, rfl, by decide, by decide⟩ rfl (wl_at (by decide)) rfl rfl (Nat.le_of_ble_eq_true rfl) dc_M_answer_3 ⟨Nat.zero_le _, Nat.zero_le _⟩ ?_
  refine go_if_ne (tgt := 13) X dc_M_answer_6 (by decide) (fun h6 => ?_) (fun h6 => ?_)
  · first | refine go_aload_n (i := 0) X rfl rfl dc_M_answer_13 ?_ | refine go_aloadN_n (i := 0) X rfl rfl dc_M_answer_13 ?_
    refine gm_get X 20 (by decide) fl_M_62 rfl dc_M_answer_14 ?_
    refine go_iload_n (i := 1) X rfl rfl dc_M_answer_17 ?_
    refine gm_ld (f := ρ 18) X rfl (by decide) (by assumption) dc_M_answer_18 ?_
    refine go_if_ne (tgt := 26) X dc_M_answer_19 (by decide) (fun h19 => ?_) (fun h19 => ?_)
    · exact absurd hd h19
    · refine go_iconst (v := 2) X (by decide) dc_M_answer_22 ?_
      refine go_goto (tgt := 27) X dc_M_answer_23 (by decide) ?_
      refine go_cV (C := rn_M) (ci := 7) (i := 0) (n := 1) (rest := []) X hN (tm_ref1 (x := 2) (by decide)) ml_M_123 im_M_refused sl_M_Mrefused ik_M co_M_refused ⟨rfl, by decide, by decide, by decide +kernel⟩ ⟨rfl, rfl, by decide, by decide⟩ rfl (wl_at (by decide)) rfl rfl (Nat.le_of_ble_eq_true rfl) dc_M_answer_27 ⟨Nat.zero_le _, Nat.zero_le _⟩ ?_
      refine go_if_eq (tgt := 37) X dc_M_answer_30 (by decide) (fun h30 => ?_) (fun h30 => ?_)
      · exact absurd h30 (by decide)
      · refine go_iconst (v := 0) X (by decide) dc_M_answer_33 ?_
        refine go_goto (tgt := 43) X dc_M_answer_34 (by decide) ?_
        exact go_iret X hr dc_M_answer_43 rfl rfl
  · exact absurd h6 (by decide)
end M4

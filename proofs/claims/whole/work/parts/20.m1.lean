section M1
set_option maxHeartbeats 4000000 in
set_option maxRecDepth 20000 in
theorem tm_look (l : Launch) (D : va_G) (T : Nat → ClassId) (ad : Nat → Nat) (A : Nat → Prop) (nw : List Cond) (K n : Nat) {ρ : ST_} {p : Nat} (hn : n ≤ 5) (hp : Ix_ (nI p) 5 p) (h11 : Ix_ (ρ 11 p) 5 (ix_ (ρ 11 p))) (h8 : Ix_ (ρ 8 (ix_ (ρ 11 p))) 32 (ix_ (ρ 8 (ix_ (ρ 11 p))))) (h13 : Ix_ (ρ 13 p) 32 (ix_ (ρ 13 p))) : cm_ l D T ad K n A nw yn_M_look (.code yn_M_look cd_M_look 3 none) 0 [.int (nI p)] ρ (hm_look n ρ p) none := by
  refine go_in (by decide) (Nat.le_of_ble_eq_true rfl) (List.forall_mem_cons.mpr ⟨rfl, List.forall_mem_cons.mpr ⟨rfl, fun _ h => nomatch h⟩⟩) ?_
  intro P e s m args below meth c X hr hnm hN
  replace X : Cx_ P l e (rm_d 0) s m args below meth c cd_M_look 3 rn_M D cl_ (tys_ T) TG_ := X
  refine go_loc (L' := [(0, .ref (ad 0)), (1, .int (nI p))]) rfl ?_
  first | refine go_aload_n (i := 0) X rfl rfl dc_M_look_0 ?_ | refine go_aloadN_n (i := 0) X rfl rfl dc_M_look_0 ?_
  refine gm_get X 10 (by decide) fl_M_32 rfl dc_M_look_1 ?_
  first | refine go_aload_n (i := 0) X rfl rfl dc_M_look_4 ?_ | refine go_aloadN_n (i := 0) X rfl rfl dc_M_look_4 ?_
  refine gm_get X 13 (by decide) fl_M_41 rfl dc_M_look_5 ?_
  refine go_iload_n (i := 1) X rfl rfl dc_M_look_8 ?_
  refine gm_ld (f := ρ 11) X rfl (by decide) (by assumption) dc_M_look_9 ?_
  refine gm_ld (f := ρ 8) X rfl (by decide) (by assumption) dc_M_look_10 ?_
  refine go_istore_n (i := 2) X rfl (by decide) dc_M_look_11 ?_
  first | refine go_aload_n (i := 0) X rfl rfl dc_M_look_12 ?_ | refine go_aloadN_n (i := 0) X rfl rfl dc_M_look_12 ?_
  refine gm_get X 15 (by decide) fl_M_47 rfl dc_M_look_13 ?_
  refine go_iload_n (i := 1) X rfl rfl dc_M_look_16 ?_
  first | refine go_aload_n (i := 0) X rfl rfl dc_M_look_17 ?_ | refine go_aloadN_n (i := 0) X rfl rfl dc_M_look_17 ?_
  refine gm_get X 4 (by decide) fl_M_13 rfl dc_M_look_18 ?_
  refine go_iload_n (i := 2) X rfl rfl dc_M_look_21 ?_
  refine gm_ld (f := ρ 2) X rfl (by decide) (by assumption) dc_M_look_22 ?_
  first | refine go_aload_n (i := 0) X rfl rfl dc_M_look_23 ?_ | refine go_aloadN_n (i := 0) X rfl rfl dc_M_look_23 ?_
  refine gm_get X 4 (by decide) fl_M_13 rfl dc_M_look_24 ?_
  first | refine go_aload_n (i := 0) X rfl rfl dc_M_look_27 ?_ | refine go_aloadN_n (i := 0) X rfl rfl dc_M_look_27 ?_
  refine gm_get X 15 (by decide) fl_M_47 rfl dc_M_look_28 ?_
  refine go_iload_n (i := 1) X rfl rfl dc_M_look_31 ?_
  refine gm_ld (f := ρ 13) X rfl (by decide) (by assumption) dc_M_look_32 ?_
  refine gm_ld (f := ρ 2) X rfl (by decide) (by assumption) dc_M_look_33 ?_
  refine go_icmp_le (tgt := 41) X dc_M_look_34 (by decide) (fun h34 => ?_) (fun h34 => ?_)
  · first | refine go_aload_n (i := 0) X rfl rfl dc_M_look_41 ?_ | refine go_aloadN_n (i := 0) X rfl rfl dc_M_look_41 ?_
    refine gm_get X 15 (by decide) fl_M_47 rfl dc_M_look_42 ?_
    refine go_iload_n (i := 1) X rfl rfl dc_M_look_45 ?_
    refine gm_ld (f := ρ 13) X rfl (by decide) (by assumption) dc_M_look_46 ?_
    refine gm_st X (by decide) (by assumption) dc_M_look_47 ?_
    first | refine go_aload_n (i := 0) X rfl rfl dc_M_look_48 ?_ | refine go_aloadN_n (i := 0) X rfl rfl dc_M_look_48 ?_
    refine gm_get X 13 (by decide) fl_M_41 rfl dc_M_look_49 ?_
    refine go_iload_n (i := 1) X rfl rfl dc_M_look_52 ?_
    refine go_dup2 X rfl rfl dc_M_look_53 ?_
    refine gm_ld (f := ρ 11) X rfl (by decide) (by assumption) dc_M_look_54 ?_
    refine go_iconst (v := 1) X (by decide) dc_M_look_55 ?_
    refine go_iadd X dc_M_look_56 ?_
    refine gm_st X (by decide) (by assumption) dc_M_look_57 ?_
    first | refine go_aload_n (i := 0) X rfl rfl dc_M_look_58 ?_ | refine go_aloadN_n (i := 0) X rfl rfl dc_M_look_58 ?_
    refine gm_get X 12 (by decide) fl_M_38 rfl dc_M_look_59 ?_
    refine go_iload_n (i := 1) X rfl rfl dc_M_look_62 ?_
    first | refine go_aload_n (i := 0) X rfl rfl dc_M_look_63 ?_ | refine go_aloadN_n (i := 0) X rfl rfl dc_M_look_63 ?_
    refine gm_get X 13 (by decide) fl_M_41 rfl dc_M_look_64 ?_
    refine go_iload_n (i := 1) X rfl rfl dc_M_look_67 ?_
    refine gm_ld (f := upd (ρ 11) p (ρ 11 p + 1)) X rfl (by decide) (by assumption) dc_M_look_68 ?_
    rw [pk_us]
    first | refine go_aload_n (i := 0) X rfl rfl dc_M_look_69 ?_ | refine go_aloadN_n (i := 0) X rfl rfl dc_M_look_69 ?_
    refine gm_get X 2 (by decide) fl_M_90 rfl dc_M_look_70 ?_
    refine go_icmp_ne (tgt := 80) X dc_M_look_73 (by decide) (fun h73 => ?_) (fun h73 => ?_)
    · refine go_iconst (v := 1) X (by decide) dc_M_look_80 ?_
      refine gm_st X (by decide) (by assumption) dc_M_look_81 ?_
      exact go_vret X hr dc_M_look_82 (congrArg (mW_ T ad K n) (by (unfold hm_look; simp only [iz_lt, iz_le, iz_eq, iz_0, iz_1, iz_2, iz_3, iz_4, iz_5, iz_6, iz_7, iz_8, iz_m] at h34 h73 ⊢; repeat' split) <;> first | with_reducible rfl | (exfalso; omega))) rfl
    · refine go_iconst (v := 2) X (by decide) dc_M_look_76 ?_
      refine go_goto (tgt := 81) X dc_M_look_77 (by decide) ?_
      refine gm_st X (by decide) (by assumption) dc_M_look_81 ?_
      exact go_vret X hr dc_M_look_82 (congrArg (mW_ T ad K n) (by (unfold hm_look; simp only [iz_lt, iz_le, iz_eq, iz_0, iz_1, iz_2, iz_3, iz_4, iz_5, iz_6, iz_7, iz_8, iz_m] at h34 h73 ⊢; repeat' split) <;> first | with_reducible rfl | (exfalso; omega))) rfl
  · refine go_iload_n (i := 2) X rfl rfl dc_M_look_37 ?_
    refine go_goto (tgt := 47) X dc_M_look_38 (by decide) ?_
    refine gm_st X (by decide) (by assumption) dc_M_look_47 ?_
    first | refine go_aload_n (i := 0) X rfl rfl dc_M_look_48 ?_ | refine go_aloadN_n (i := 0) X rfl rfl dc_M_look_48 ?_
    refine gm_get X 13 (by decide) fl_M_41 rfl dc_M_look_49 ?_
    refine go_iload_n (i := 1) X rfl rfl dc_M_look_52 ?_
    refine go_dup2 X rfl rfl dc_M_look_53 ?_
    refine gm_ld (f := ρ 11) X rfl (by decide) (by assumption) dc_M_look_54 ?_
    refine go_iconst (v := 1) X (by decide) dc_M_look_55 ?_
    refine go_iadd X dc_M_look_56 ?_
    refine gm_st X (by decide) (by assumption) dc_M_look_57 ?_
    first | refine go_aload_n (i := 0) X rfl rfl dc_M_look_58 ?_ | refine go_aloadN_n (i := 0) X rfl rfl dc_M_look_58 ?_
    refine gm_get X 12 (by decide) fl_M_38 rfl dc_M_look_59 ?_
    refine go_iload_n (i := 1) X rfl rfl dc_M_look_62 ?_
    first | refine go_aload_n (i := 0) X rfl rfl dc_M_look_63 ?_ | refine go_aloadN_n (i := 0) X rfl rfl dc_M_look_63 ?_
    refine gm_get X 13 (by decide) fl_M_41 rfl dc_M_look_64 ?_
    refine go_iload_n (i := 1) X rfl rfl dc_M_look_67 ?_
    refine gm_ld (f := upd (ρ 11) p (ρ 11 p + 1)) X rfl (by decide) (by assumption) dc_M_look_68 ?_
    rw [pk_us]
    first | refine go_aload_n (i := 0) X rfl rfl dc_M_look_69 ?_ | refine go_aloadN_n (i := 0) X rfl rfl dc_M_look_69 ?_
    refine gm_get X 2 (by decide) fl_M_90 rfl dc_M_look_70 ?_
    refine go_icmp_ne (tgt := 80) X dc_M_look_73 (by decide) (fun h73 => ?_) (fun h73 => ?_)
    · refine go_iconst (v := 1) X (by decide) dc_M_look_80 ?_
      refine gm_st X (by decide) (by assumption) dc_M_look_81 ?_
      exact go_vret X hr dc_M_look_82 (congrArg (mW_ T ad K n) (by (unfold hm_look; simp only [iz_lt, iz_le, iz_eq, iz_0, iz_1, iz_2, iz_3, iz_4, iz_5, iz_6, iz_7, iz_8, iz_m] at h34 h73 ⊢; repeat' split) <;> first | with_reducible rfl | (exfalso; omega))) rfl
    · refine go_iconst (v := 2) X (by decide) dc_M_look_76 ?_
      refine go_goto (tgt := 81) X dc_M_look_77 (by decide) ?_
      refine gm_st X (by decide) (by assumption) dc_M_look_81 ?_
      exact go_vret X hr dc_M_look_82 (congrArg (mW_ T ad K n) (by (unfold hm_look; simp only [iz_lt, iz_le, iz_eq, iz_0, iz_1, iz_2, iz_3, iz_4, iz_5, iz_6, iz_7, iz_8, iz_m] at h34 h73 ⊢; repeat' split) <;> first | with_reducible rfl | (exfalso; omega))) rfl
end M1

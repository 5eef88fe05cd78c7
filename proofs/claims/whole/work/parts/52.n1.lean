section N1
set_option maxHeartbeats 4000000 in
set_option maxRecDepth 20000 in
theorem kn_fill (l : Launch) (D : va_G) (T : Nat → ClassId) (nw : List Cond) {b N : Nat} {v : Int32} {f : Nat → Int32} (hN8 : N ≤ 8) : Cn_ l D cl_ (tys_ T) nw yn_A_fill (.code yn_A_fill cd_A_fill 4 none :: TG_) (rn_d 0 0 0) [.ref b, .int v] ([(b, .inl (T 0, N, .inl (f)))]) (fun _ _ => [(b, .inl (T 0, N, .inl (fun _ => v)))]) (fun _ _ => none) := by
  refine cn_in (by decide) (Nat.le_of_ble_eq_true rfl) (List.forall_mem_cons.mpr ⟨rfl, List.forall_mem_cons.mpr ⟨rfl, fun _ h => nomatch h⟩⟩) ?_
  intro P e s m args below meth c X hr hnm hN hA
  replace X : Cx_ P l e (rn_d 0 0 0) s m args below meth c cd_A_fill 4 rn_A D cl_ (tys_ T) TG_ := X
  refine go_loc (L' := [(0, .ref b), (1, .int v)]) rfl ?_
  refine go_iconst (v := nI 0) X (by decide) dc_A_fill_0 ?_
  refine go_istore_n (i := 2) X rfl (by decide) dc_A_fill_1 ?_
  refine go_aload_n (i := 0) X rfl rfl dc_A_fill_2 ?_
  refine gw_alen (i := 0) (t0 := 0) (v := nI N) X rfl rfl rfl dc_A_fill_3 ?_
  refine go_istore_n (i := 3) X rfl (by decide) dc_A_fill_4 ?_
  refine go_loc (L' := [(0, .ref b), (1, .int v), (2, .int (nI 0)), (3, .int (nI N))]) rfl ?_
  refine go_eqw (w' := [(b, .inl (T 0, N, .inl (fl_ f v 0)))]) (by rw [fl_0]) ?_
  refine (lp_up (P := fun j => Go_ P l e (rn_d 0 0 0) s m args below meth c D cl_ _ 4 0 0 _ ([(b, .inl (T 0, N, .inl (fl_ f v j)))]) 5 [(0, .ref b), (1, .int v), (2, .int (nI j)), (3, .int (nI N))] []) N (fun j hj ih => ?_)) 0 (Nat.zero_le _)
  refine go_iload_n (i := 2) X rfl rfl dc_A_fill_5 ?_
  refine go_iload_n (i := 3) X rfl rfl dc_A_fill_6 ?_
  refine go_icmp_ge (tgt := 20) X dc_A_fill_7 (by decide) (fun h7 => ?_) (fun h7 => ?_)
  · have e8 : j = N := by rw [iz_le, iz_nI (by omega), iz_nI (by omega)] at h7; omega
    subst e8
    refine gw_arr (i := 0) (f' := fun _ => v) rfl (fun i hi => fl_all hi) ?_
    exact go_nvret X 0 0 hr dc_A_fill_20 rfl rfl
  · have hlt : j < N := by rw [iz_le, iz_nI (by omega), iz_nI (by omega)] at h7; omega
    have hx : Ix_ (nI j) N j := Ix_n hlt (by omega)
    refine go_aload_n (i := 0) X rfl rfl dc_A_fill_10 ?_
    refine go_iload_n (i := 2) X rfl rfl dc_A_fill_11 ?_
    refine go_iload_n (i := 1) X rfl rfl dc_A_fill_12 ?_
    refine gw_iast (i := 0) (t0 := 0) X rfl rfl hx.1 hx.2 dc_A_fill_13 ?_
    refine go_iinc (i := 2) (v := nI (j + 1)) X rfl (by rw [lit1]; exact nI_1 j) (by decide) dc_A_fill_14 ?_
    refine go_goto (tgt := 5) X dc_A_fill_17 (by decide) ?_
    refine go_loc (L' := [(0, .ref b), (1, .int v), (2, .int (nI (j + 1))), (3, .int (nI N))]) rfl ?_
    refine go_eqw (w' := [(b, .inl (T 0, N, .inl (fl_ f v (j + 1))))]) (by rw [← fl_s]; rfl) ?_
    exact ih hlt
def pw0_ (K a : Nat) : va_W := [(a, .inr (K + 3, [.null, .int 0]))]
def pw1_ (T : Nat → ClassId) (K a b : Nat) : va_W := [(a, .inr (K + 3, [.ref b, .int 0])), (b, .inl (T 0, lc_ K, .inl (fun _ => pi_ K)))]
theorem vcz (cA : ClassId) (n : Nat) : vp_cell cA (n, .inl (fun _ => 0)) = arrV cA n (fun _ => defaultValue .int) := by rw [vp_cell_i]; rfl
theorem vczb (cA : ClassId) (n : Nat) : vp_cell cA (n, .inl (fun _ => 0)) = arrV cA n (fun _ => defaultValue .boolean) := by rw [vp_cell_i]; rfl
set_option maxHeartbeats 4000000 in
set_option maxRecDepth 20000 in
theorem kn_P0 (l : Launch) (D : va_G) (T : Nat → ClassId) (nw : List Cond) {a : Nat} : Cn_ l D cl_ (tys_ T) nw yn_P_init (.code yn_P_init cd_P_init 3 none :: TG_) (rn_d 1 1 8) [.ref a, .int 8, .int 0] (pw0_ 0 a) (fun b _ => pw1_ T 0 a b) (fun _ _ => none) := by
  refine cn_in (by decide) (Nat.le_of_ble_eq_true rfl) (List.forall_mem_cons.mpr ⟨rfl, List.forall_mem_cons.mpr ⟨rfl, List.forall_mem_cons.mpr ⟨rfl, fun _ h => nomatch h⟩⟩⟩) ?_
  intro P e s m args below meth c X hr hnm hN hA
  replace X : Cx_ P l e (rn_d 1 1 8) s m args below meth c cd_P_init 3 rn_P D cl_ (tys_ T) TG_ := X
  refine go_loc (L' := [(0, .ref a), (1, .int 8), (2, .int 0)]) rfl ?_
  refine go_aload_n (i := 0) X rfl rfl dc_P_init_0 ?_
  refine go_objI X ml_P_1 (by decide) (Nat.le_of_ble_eq_true rfl) dc_P_init_1 ?_
  refine go_aload_n (i := 0) X rfl rfl dc_P_init_4 ?_
  refine go_iload_n (i := 1) X rfl rfl dc_P_init_5 ?_
  refine go_newa (atype := .int) (t0 := 0) (ty := .int) (N' := 8) (a0 := (8, .inl (fun _ => 0))) X hA ac_int rfl rfl prim_i (fun cA => vcz cA _) (by decide) (by decide) (by decide) ⟨by decide, by decide⟩ dc_P_init_6 (fun q => ?_)
  refine gw_putF (C := rn_Q) (T := ft_Q) (ci := 3) (i := 0) (k := 0) X in_Q rfl ty_Q tk_Q nm_Q rfl (by decide) fl_P_7 (fun x h => h) rfl hnm rfl (tk_Q 0 (by decide)) rfl rfl (by decide) dc_P_init_8 ?_
  refine go_aload_n (i := 0) X rfl rfl dc_P_init_11 ?_
  refine gw_get (C := rn_Q) (T := ft_Q) (ci := 3) (i := 0) (k := 0) (v := .ref q) X in_Q rfl rfl (by decide) fl_P_7 (fun x h => h) rfl dc_P_init_12 ?_
  refine go_iload_n (i := 2) X rfl rfl dc_P_init_15 ?_
  refine go_nS (n := 2) (rest := []) (w2 := [(a, .inr (3, [.ref q, .int 0]))]) (w1 := [(q, .inl (T 0, 8, .inl (fun _ => 0)))]) X hN hA (kn_fill l D T nw (b := q) (N := 8) (v := 0) (f := fun _ => 0) (by decide)) ml_P_13 sm_A_fill ik_A co_A_fill ⟨by decide, by decide, by decide +kernel⟩ ⟨by decide, by decide⟩ ⟨by decide, by decide⟩ rfl rfl (Nat.le_of_ble_eq_true rfl) dc_P_init_16 (fun _ _ => ?_)
  exact go_nvret X q 0 hr dc_P_init_19 rfl rfl
set_option maxHeartbeats 4000000 in
set_option maxRecDepth 20000 in
theorem kn_P1 (l : Launch) (D : va_G) (T : Nat → ClassId) (nw : List Cond) {a : Nat} : Cn_ l D cl_ (tys_ T) nw yn_P_init (.code yn_P_init cd_P_init 3 none :: TG_) (rn_d 1 1 8) [.ref a, .int 8, .int 0] (pw0_ 1 a) (fun b _ => pw1_ T 1 a b) (fun _ _ => none) := by
  refine cn_in (by decide) (Nat.le_of_ble_eq_true rfl) (List.forall_mem_cons.mpr ⟨rfl, List.forall_mem_cons.mpr ⟨rfl, List.forall_mem_cons.mpr ⟨rfl, fun _ h => nomatch h⟩⟩⟩) ?_
  intro P e s m args below meth c X hr hnm hN hA
  replace X : Cx_ P l e (rn_d 1 1 8) s m args below meth c cd_P_init 3 rn_P D cl_ (tys_ T) TG_ := X
  refine go_loc (L' := [(0, .ref a), (1, .int 8), (2, .int 0)]) rfl ?_
  refine go_aload_n (i := 0) X rfl rfl dc_P_init_0 ?_
  refine go_objI X ml_P_1 (by decide) (Nat.le_of_ble_eq_true rfl) dc_P_init_1 ?_
  refine go_aload_n (i := 0) X rfl rfl dc_P_init_4 ?_
  refine go_iload_n (i := 1) X rfl rfl dc_P_init_5 ?_
  refine go_newa (atype := .int) (t0 := 0) (ty := .int) (N' := 8) (a0 := (8, .inl (fun _ => 0))) X hA ac_int rfl rfl prim_i (fun cA => vcz cA _) (by decide) (by decide) (by decide) ⟨by decide, by decide⟩ dc_P_init_6 (fun q => ?_)
  refine gw_putF (C := rn_S) (T := ft_S) (ci := 4) (i := 0) (k := 0) X in_S rfl ty_S tk_S nm_S rfl (by decide) fl_P_7 (fun x h => h) rfl hnm rfl (tk_S 0 (by decide)) rfl rfl (by decide) dc_P_init_8 ?_
  refine go_aload_n (i := 0) X rfl rfl dc_P_init_11 ?_
  refine gw_get (C := rn_S) (T := ft_S) (ci := 4) (i := 0) (k := 0) (v := .ref q) X in_S rfl rfl (by decide) fl_P_7 (fun x h => h) rfl dc_P_init_12 ?_
  refine go_iload_n (i := 2) X rfl rfl dc_P_init_15 ?_
  refine go_nS (n := 2) (rest := []) (w2 := [(a, .inr (4, [.ref q, .int 0]))]) (w1 := [(q, .inl (T 0, 8, .inl (fun _ => 0)))]) X hN hA (kn_fill l D T nw (b := q) (N := 8) (v := 0) (f := fun _ => 0) (by decide)) ml_P_13 sm_A_fill ik_A co_A_fill ⟨by decide, by decide, by decide +kernel⟩ ⟨by decide, by decide⟩ ⟨by decide, by decide⟩ rfl rfl (Nat.le_of_ble_eq_true rfl) dc_P_init_16 (fun _ _ => ?_)
  exact go_nvret X q 0 hr dc_P_init_19 rfl rfl
set_option maxHeartbeats 4000000 in
set_option maxRecDepth 20000 in
theorem kn_P2 (l : Launch) (D : va_G) (T : Nat → ClassId) (nw : List Cond) {a : Nat} : Cn_ l D cl_ (tys_ T) nw yn_P_init (.code yn_P_init cd_P_init 3 none :: TG_) (rn_d 1 1 8) [.ref a, .int 8, .int 0] (pw0_ 2 a) (fun b _ => pw1_ T 2 a b) (fun _ _ => none) := by
  refine cn_in (by decide) (Nat.le_of_ble_eq_true rfl) (List.forall_mem_cons.mpr ⟨rfl, List.forall_mem_cons.mpr ⟨rfl, List.forall_mem_cons.mpr ⟨rfl, fun _ h => nomatch h⟩⟩⟩) ?_
  intro P e s m args below meth c X hr hnm hN hA
  replace X : Cx_ P l e (rn_d 1 1 8) s m args below meth c cd_P_init 3 rn_P D cl_ (tys_ T) TG_ := X
  refine go_loc (L' := [(0, .ref a), (1, .int 8), (2, .int 0)]) rfl ?_
  refine go_aload_n (i := 0) X rfl rfl dc_P_init_0 ?_
  refine go_objI X ml_P_1 (by decide) (Nat.le_of_ble_eq_true rfl) dc_P_init_1 ?_
  refine go_aload_n (i := 0) X rfl rfl dc_P_init_4 ?_
  refine go_iload_n (i := 1) X rfl rfl dc_P_init_5 ?_
  refine go_newa (atype := .int) (t0 := 0) (ty := .int) (N' := 8) (a0 := (8, .inl (fun _ => 0))) X hA ac_int rfl rfl prim_i (fun cA => vcz cA _) (by decide) (by decide) (by decide) ⟨by decide, by decide⟩ dc_P_init_6 (fun q => ?_)
  refine gw_putF (C := rn_T) (T := ft_T) (ci := 5) (i := 0) (k := 0) X in_T rfl ty_T tk_T nm_T rfl (by decide) fl_P_7 (fun x h => h) rfl hnm rfl (tk_T 0 (by decide)) rfl rfl (by decide) dc_P_init_8 ?_
  refine go_aload_n (i := 0) X rfl rfl dc_P_init_11 ?_
  refine gw_get (C := rn_T) (T := ft_T) (ci := 5) (i := 0) (k := 0) (v := .ref q) X in_T rfl rfl (by decide) fl_P_7 (fun x h => h) rfl dc_P_init_12 ?_
  refine go_iload_n (i := 2) X rfl rfl dc_P_init_15 ?_
  refine go_nS (n := 2) (rest := []) (w2 := [(a, .inr (5, [.ref q, .int 0]))]) (w1 := [(q, .inl (T 0, 8, .inl (fun _ => 0)))]) X hN hA (kn_fill l D T nw (b := q) (N := 8) (v := 0) (f := fun _ => 0) (by decide)) ml_P_13 sm_A_fill ik_A co_A_fill ⟨by decide, by decide, by decide +kernel⟩ ⟨by decide, by decide⟩ ⟨by decide, by decide⟩ rfl rfl (Nat.le_of_ble_eq_true rfl) dc_P_init_16 (fun _ _ => ?_)
  exact go_nvret X q 0 hr dc_P_init_19 rfl rfl
set_option maxHeartbeats 4000000 in
set_option maxRecDepth 20000 in
theorem kn_P3 (l : Launch) (D : va_G) (T : Nat → ClassId) (nw : List Cond) {a : Nat} : Cn_ l D cl_ (tys_ T) nw yn_P_init (.code yn_P_init cd_P_init 3 none :: TG_) (rn_d 1 1 4) [.ref a, .int 4, .int 100] (pw0_ 3 a) (fun b _ => pw1_ T 3 a b) (fun _ _ => none) := by
  refine cn_in (by decide) (Nat.le_of_ble_eq_true rfl) (List.forall_mem_cons.mpr ⟨rfl, List.forall_mem_cons.mpr ⟨rfl, List.forall_mem_cons.mpr ⟨rfl, fun _ h => nomatch h⟩⟩⟩) ?_
  intro P e s m args below meth c X hr hnm hN hA
  replace X : Cx_ P l e (rn_d 1 1 4) s m args below meth c cd_P_init 3 rn_P D cl_ (tys_ T) TG_ := X
  refine go_loc (L' := [(0, .ref a), (1, .int 4), (2, .int 100)]) rfl ?_
  refine go_aload_n (i := 0) X rfl rfl dc_P_init_0 ?_
  refine go_objI X ml_P_1 (by decide) (Nat.le_of_ble_eq_true rfl) dc_P_init_1 ?_
  refine go_aload_n (i := 0) X rfl rfl dc_P_init_4 ?_
  refine go_iload_n (i := 1) X rfl rfl dc_P_init_5 ?_
  refine go_newa (atype := .int) (t0 := 0) (ty := .int) (N' := 4) (a0 := (4, .inl (fun _ => 0))) X hA ac_int rfl rfl prim_i (fun cA => vcz cA _) (by decide) (by decide) (by decide) ⟨by decide, by decide⟩ dc_P_init_6 (fun q => ?_)
  refine gw_putF (C := rn_B) (T := ft_B) (ci := 6) (i := 0) (k := 0) X in_B rfl ty_B tk_B nm_B rfl (by decide) fl_P_7 (fun x h => h) rfl hnm rfl (tk_B 0 (by decide)) rfl rfl (by decide) dc_P_init_8 ?_
  refine go_aload_n (i := 0) X rfl rfl dc_P_init_11 ?_
  refine gw_get (C := rn_B) (T := ft_B) (ci := 6) (i := 0) (k := 0) (v := .ref q) X in_B rfl rfl (by decide) fl_P_7 (fun x h => h) rfl dc_P_init_12 ?_
  refine go_iload_n (i := 2) X rfl rfl dc_P_init_15 ?_
  refine go_nS (n := 2) (rest := []) (w2 := [(a, .inr (6, [.ref q, .int 0]))]) (w1 := [(q, .inl (T 0, 4, .inl (fun _ => 0)))]) X hN hA (kn_fill l D T nw (b := q) (N := 4) (v := 100) (f := fun _ => 0) (by decide)) ml_P_13 sm_A_fill ik_A co_A_fill ⟨by decide, by decide, by decide +kernel⟩ ⟨by decide, by decide⟩ ⟨by decide, by decide⟩ rfl rfl (Nat.le_of_ble_eq_true rfl) dc_P_init_16 (fun _ _ => ?_)
  exact go_nvret X q 0 hr dc_P_init_19 rfl rfl
set_option maxHeartbeats 4000000 in
set_option maxRecDepth 20000 in
theorem kn_G0 (l : Launch) (D : va_G) (T : Nat → ClassId) (nw : List Cond) {a : Nat} : Cn_ l D cl_ (tys_ T) nw yn_G_init (.code yn_G_init cd_G_init 1 none :: TG_) (rn_d 2 1 8) [.ref a] (pw0_ 0 a) (fun b _ => pw1_ T 0 a b) (fun _ _ => none) := by
  refine cn_in (by decide) (Nat.le_of_ble_eq_true rfl) (List.forall_mem_cons.mpr ⟨rfl, fun _ h => nomatch h⟩) ?_
  intro P e s m args below meth c X hr hnm hN hA
  replace X : Cx_ P l e (rn_d 2 1 8) s m args below meth c cd_G_init 1 rn_G D cl_ (tys_ T) TG_ := X
  refine go_loc (L' := [(0, .ref a)]) rfl ?_
  refine go_aload_n (i := 0) X rfl rfl dc_G_init_0 ?_
  refine go_bipush (v := 8) X (by decide) dc_G_init_1 ?_
  refine go_iconst (v := 0) X (by decide) dc_G_init_3 ?_
  refine go_nI (n := 2) (rest := []) (w2 := []) (w1 := pw0_ 0 a) X hN hA (kn_P0 l D T nw (a := a)) ml_G_1 im_P_init ik_P co_P_init rfl ⟨by decide, by decide, by decide +kernel⟩ ⟨by decide, by decide⟩ ⟨by decide, by decide⟩ rfl rfl (Nat.le_of_ble_eq_true rfl) dc_G_init_4 (fun b _ => ?_)
  exact go_nvret X b 0 hr dc_G_init_7 rfl rfl
set_option maxHeartbeats 4000000 in
set_option maxRecDepth 20000 in
theorem kn_G1 (l : Launch) (D : va_G) (T : Nat → ClassId) (nw : List Cond) {a : Nat} : Cn_ l D cl_ (tys_ T) nw yn_G_init (.code yn_G_init cd_G_init 1 none :: TG_) (rn_d 2 1 8) [.ref a] (pw0_ 1 a) (fun b _ => pw1_ T 1 a b) (fun _ _ => none) := by
  refine cn_in (by decide) (Nat.le_of_ble_eq_true rfl) (List.forall_mem_cons.mpr ⟨rfl, fun _ h => nomatch h⟩) ?_
  intro P e s m args below meth c X hr hnm hN hA
  replace X : Cx_ P l e (rn_d 2 1 8) s m args below meth c cd_G_init 1 rn_G D cl_ (tys_ T) TG_ := X
  refine go_loc (L' := [(0, .ref a)]) rfl ?_
  refine go_aload_n (i := 0) X rfl rfl dc_G_init_0 ?_
  refine go_bipush (v := 8) X (by decide) dc_G_init_1 ?_
  refine go_iconst (v := 0) X (by decide) dc_G_init_3 ?_
  refine go_nI (n := 2) (rest := []) (w2 := []) (w1 := pw0_ 1 a) X hN hA (kn_P1 l D T nw (a := a)) ml_G_1 im_P_init ik_P co_P_init rfl ⟨by decide, by decide, by decide +kernel⟩ ⟨by decide, by decide⟩ ⟨by decide, by decide⟩ rfl rfl (Nat.le_of_ble_eq_true rfl) dc_G_init_4 (fun b _ => ?_)
  exact go_nvret X b 0 hr dc_G_init_7 rfl rfl
set_option maxHeartbeats 4000000 in
set_option maxRecDepth 20000 in
theorem kn_Q (l : Launch) (D : va_G) (T : Nat → ClassId) (nw : List Cond) {a : Nat} : Cn_ l D cl_ (tys_ T) nw yn_Q_init (.code yn_Q_init cd_Q_init 1 none :: TG_) (rn_d 3 1 8) [.ref a] (pw0_ 0 a) (fun b _ => pw1_ T 0 a b) (fun _ _ => none) := by
  refine cn_in (by decide) (Nat.le_of_ble_eq_true rfl) (List.forall_mem_cons.mpr ⟨rfl, fun _ h => nomatch h⟩) ?_
  intro P e s m args below meth c X hr hnm hN hA
  replace X : Cx_ P l e (rn_d 3 1 8) s m args below meth c cd_Q_init 1 rn_Q D cl_ (tys_ T) TG_ := X
  refine go_loc (L' := [(0, .ref a)]) rfl ?_
  refine go_aload_n (i := 0) X rfl rfl dc_Q_init_0 ?_
  refine go_nI (n := 0) (rest := []) (w2 := []) (w1 := pw0_ 0 a) X hN hA (kn_G0 l D T nw (a := a)) ml_Q_1 im_G_init ik_G co_G_init rfl ⟨by decide, by decide, by decide +kernel⟩ ⟨by decide, by decide⟩ ⟨by decide, by decide⟩ rfl rfl (Nat.le_of_ble_eq_true rfl) dc_Q_init_1 (fun b _ => ?_)
  exact go_nvret X b 0 hr dc_Q_init_4 rfl rfl
set_option maxHeartbeats 4000000 in
set_option maxRecDepth 20000 in
theorem kn_S (l : Launch) (D : va_G) (T : Nat → ClassId) (nw : List Cond) {a : Nat} : Cn_ l D cl_ (tys_ T) nw yn_S_init (.code yn_S_init cd_S_init 1 none :: TG_) (rn_d 3 1 8) [.ref a] (pw0_ 1 a) (fun b _ => pw1_ T 1 a b) (fun _ _ => none) := by
  refine cn_in (by decide) (Nat.le_of_ble_eq_true rfl) (List.forall_mem_cons.mpr ⟨rfl, fun _ h => nomatch h⟩) ?_
  intro P e s m args below meth c X hr hnm hN hA
  replace X : Cx_ P l e (rn_d 3 1 8) s m args below meth c cd_S_init 1 rn_S D cl_ (tys_ T) TG_ := X
  refine go_loc (L' := [(0, .ref a)]) rfl ?_
  refine go_aload_n (i := 0) X rfl rfl dc_S_init_0 ?_
  refine go_nI (n := 0) (rest := []) (w2 := []) (w1 := pw0_ 1 a) X hN hA (kn_G1 l D T nw (a := a)) ml_S_1 im_G_init ik_G co_G_init rfl ⟨by decide, by decide, by decide +kernel⟩ ⟨by decide, by decide⟩ ⟨by decide, by decide⟩ rfl rfl (Nat.le_of_ble_eq_true rfl) dc_S_init_1 (fun b _ => ?_)
  exact go_nvret X b 0 hr dc_S_init_4 rfl rfl
set_option maxHeartbeats 4000000 in
set_option maxRecDepth 20000 in
theorem kn_T (l : Launch) (D : va_G) (T : Nat → ClassId) (nw : List Cond) {a : Nat} : Cn_ l D cl_ (tys_ T) nw yn_T_init (.code yn_T_init cd_T_init 1 none :: TG_) (rn_d 3 1 8) [.ref a] (pw0_ 2 a) (fun b _ => pw1_ T 2 a b) (fun _ _ => none) := by
  refine cn_in (by decide) (Nat.le_of_ble_eq_true rfl) (List.forall_mem_cons.mpr ⟨rfl, fun _ h => nomatch h⟩) ?_
  intro P e s m args below meth c X hr hnm hN hA
  replace X : Cx_ P l e (rn_d 3 1 8) s m args below meth c cd_T_init 1 rn_T D cl_ (tys_ T) TG_ := X
  refine go_loc (L' := [(0, .ref a)]) rfl ?_
  refine go_aload_n (i := 0) X rfl rfl dc_T_init_0 ?_
  refine go_bipush (v := 8) X (by decide) dc_T_init_1 ?_
  refine go_iconst (v := 0) X (by decide) dc_T_init_3 ?_
  refine go_nI (n := 2) (rest := []) (w2 := []) (w1 := pw0_ 2 a) X hN hA (kn_P2 l D T nw (a := a)) ml_T_1 im_P_init ik_P co_P_init rfl ⟨by decide, by decide, by decide +kernel⟩ ⟨by decide, by decide⟩ ⟨by decide, by decide⟩ rfl rfl (Nat.le_of_ble_eq_true rfl) dc_T_init_4 (fun b _ => ?_)
  exact go_nvret X b 0 hr dc_T_init_7 rfl rfl
set_option maxHeartbeats 4000000 in
set_option maxRecDepth 20000 in
theorem kn_B (l : Launch) (D : va_G) (T : Nat → ClassId) (nw : List Cond) {a : Nat} : Cn_ l D cl_ (tys_ T) nw yn_B_init (.code yn_B_init cd_B_init 1 none :: TG_) (rn_d 3 1 4) [.ref a] (pw0_ 3 a) (fun b _ => pw1_ T 3 a b) (fun _ _ => none) := by
  refine cn_in (by decide) (Nat.le_of_ble_eq_true rfl) (List.forall_mem_cons.mpr ⟨rfl, fun _ h => nomatch h⟩) ?_
  intro P e s m args below meth c X hr hnm hN hA
  replace X : Cx_ P l e (rn_d 3 1 4) s m args below meth c cd_B_init 1 rn_B D cl_ (tys_ T) TG_ := X
  refine go_loc (L' := [(0, .ref a)]) rfl ?_
  refine go_aload_n (i := 0) X rfl rfl dc_B_init_0 ?_
  refine go_iconst (v := 4) X (by decide) dc_B_init_1 ?_
  refine go_bipush (v := 100) X (by decide) dc_B_init_2 ?_
  refine go_nI (n := 2) (rest := []) (w2 := []) (w1 := pw0_ 3 a) X hN hA (kn_P3 l D T nw (a := a)) ml_B_1 im_P_init ik_P co_P_init rfl ⟨by decide, by decide, by decide +kernel⟩ ⟨by decide, by decide⟩ ⟨by decide, by decide⟩ rfl rfl (Nat.le_of_ble_eq_true rfl) dc_B_init_4 (fun b _ => ?_)
  exact go_nvret X b 0 hr dc_B_init_7 rfl rfl
set_option maxHeartbeats 4000000 in
set_option maxRecDepth 20000 in
theorem kn_new0 (l : Launch) (D : va_G) (T : Nat → ClassId) (nw : List Cond) (hnw : ∀ w ∈ nwc_, w ∈ nw) : Cn_ l D cl_ (tys_ T) nw yn_H_newPlain (.code yn_H_newPlain cd_H_newPlain 1 (some (.object "HelpedLog$Plain")) :: TG_) (rn_d 4 2 10) [.int 0] ([]) (fun a b => pw1_ T 0 a b) (fun a _ => some (.ref a)) := by
  refine cn_in (by decide) (Nat.le_of_ble_eq_true rfl) (List.forall_mem_cons.mpr ⟨rfl, fun _ h => nomatch h⟩) ?_
  intro P e s m args below meth c X hr hnm hN hA
  replace X : Cx_ P l e (rn_d 4 2 10) s m args below meth c cd_H_newPlain 1 rn_H D cl_ (tys_ T) TG_ := X
  refine go_loc (L' := [(0, .int 0)]) rfl ?_
  refine go_iload_n (i := 0) X rfl rfl dc_H_newPlain_0 ?_
  refine go_tableIn (off := 27) (tgt := 28) X dc_H_newPlain_1 (by decide) (by decide) (by decide) (by decide) ?_
  refine go_new (C := rn_Q) (T := ft_Q) (ci := 3) (fs := [.null, .int 0]) X hA in_Q ty_Q tk_Q kl_H_154 nk_Q ik_Q rfl (by decide) ⟨by decide, by decide⟩ dc_H_newPlain_28 (fun q => ?_)
  refine go_dup X rfl dc_H_newPlain_31 ?_
  refine go_nN (host := "HelpedLog") (n := 0) (rest := [.ref q]) (w2 := []) (w1 := pw0_ 0 q) X hN hA (kn_Q l D T nw (a := q)) (hnw _ (List.mem_of_getElem? (i := 0) rfl)) im_Q_init ik_Q co_Q_init rfl ⟨by decide, by decide, by decide +kernel⟩ ⟨by decide, by decide⟩ ⟨by decide, by decide⟩ rfl rfl (Nat.le_of_ble_eq_true rfl) dc_H_newPlain_32 (fun b _ => ?_)
  exact go_naret X q b hr (Or.inr ⟨_, rfl⟩) dc_H_newPlain_35 rfl rfl
set_option maxHeartbeats 4000000 in
set_option maxRecDepth 20000 in
theorem kn_new1 (l : Launch) (D : va_G) (T : Nat → ClassId) (nw : List Cond) (hnw : ∀ w ∈ nwc_, w ∈ nw) : Cn_ l D cl_ (tys_ T) nw yn_H_newPlain (.code yn_H_newPlain cd_H_newPlain 1 (some (.object "HelpedLog$Plain")) :: TG_) (rn_d 4 2 10) [.int 1] ([]) (fun a b => pw1_ T 1 a b) (fun a _ => some (.ref a)) := by
  refine cn_in (by decide) (Nat.le_of_ble_eq_true rfl) (List.forall_mem_cons.mpr ⟨rfl, fun _ h => nomatch h⟩) ?_
  intro P e s m args below meth c X hr hnm hN hA
  replace X : Cx_ P l e (rn_d 4 2 10) s m args below meth c cd_H_newPlain 1 rn_H D cl_ (tys_ T) TG_ := X
  refine go_loc (L' := [(0, .int 1)]) rfl ?_
  refine go_iload_n (i := 0) X rfl rfl dc_H_newPlain_0 ?_
  refine go_tableIn (off := 35) (tgt := 36) X dc_H_newPlain_1 (by decide) (by decide) (by decide) (by decide) ?_
  refine go_new (C := rn_S) (T := ft_S) (ci := 4) (fs := [.null, .int 0]) X hA in_S ty_S tk_S kl_H_157 nk_S ik_S rfl (by decide) ⟨by decide, by decide⟩ dc_H_newPlain_36 (fun q => ?_)
  refine go_dup X rfl dc_H_newPlain_39 ?_
  refine go_nN (host := "HelpedLog") (n := 0) (rest := [.ref q]) (w2 := []) (w1 := pw0_ 1 q) X hN hA (kn_S l D T nw (a := q)) (hnw _ (List.mem_of_getElem? (i := 1) rfl)) im_S_init ik_S co_S_init rfl ⟨by decide, by decide, by decide +kernel⟩ ⟨by decide, by decide⟩ ⟨by decide, by decide⟩ rfl rfl (Nat.le_of_ble_eq_true rfl) dc_H_newPlain_40 (fun b _ => ?_)
  exact go_naret X q b hr (Or.inr ⟨_, rfl⟩) dc_H_newPlain_43 rfl rfl
set_option maxHeartbeats 4000000 in
set_option maxRecDepth 20000 in
theorem kn_new2 (l : Launch) (D : va_G) (T : Nat → ClassId) (nw : List Cond) (hnw : ∀ w ∈ nwc_, w ∈ nw) : Cn_ l D cl_ (tys_ T) nw yn_H_newPlain (.code yn_H_newPlain cd_H_newPlain 1 (some (.object "HelpedLog$Plain")) :: TG_) (rn_d 4 2 10) [.int 2] ([]) (fun a b => pw1_ T 2 a b) (fun a _ => some (.ref a)) := by
  refine cn_in (by decide) (Nat.le_of_ble_eq_true rfl) (List.forall_mem_cons.mpr ⟨rfl, fun _ h => nomatch h⟩) ?_
  intro P e s m args below meth c X hr hnm hN hA
  replace X : Cx_ P l e (rn_d 4 2 10) s m args below meth c cd_H_newPlain 1 rn_H D cl_ (tys_ T) TG_ := X
  refine go_loc (L' := [(0, .int 2)]) rfl ?_
  refine go_iload_n (i := 0) X rfl rfl dc_H_newPlain_0 ?_
  refine go_tableIn (off := 43) (tgt := 44) X dc_H_newPlain_1 (by decide) (by decide) (by decide) (by decide) ?_
  refine go_new (C := rn_T) (T := ft_T) (ci := 5) (fs := [.null, .int 0]) X hA in_T ty_T tk_T kl_H_160 nk_T ik_T rfl (by decide) ⟨by decide, by decide⟩ dc_H_newPlain_44 (fun q => ?_)
  refine go_dup X rfl dc_H_newPlain_47 ?_
  refine go_nI (n := 0) (rest := [.ref q]) (w2 := []) (w1 := pw0_ 2 q) X hN hA (kn_T l D T nw (a := q)) ml_H_162 im_T_init ik_T co_T_init rfl ⟨by decide, by decide, by decide +kernel⟩ ⟨by decide, by decide⟩ ⟨by decide, by decide⟩ rfl rfl (Nat.le_of_ble_eq_true rfl) dc_H_newPlain_48 (fun b _ => ?_)
  exact go_naret X q b hr (Or.inr ⟨_, rfl⟩) dc_H_newPlain_51 rfl rfl
set_option maxHeartbeats 4000000 in
set_option maxRecDepth 20000 in
theorem kn_new3 (l : Launch) (D : va_G) (T : Nat → ClassId) (nw : List Cond) (hnw : ∀ w ∈ nwc_, w ∈ nw) : Cn_ l D cl_ (tys_ T) nw yn_H_newPlain (.code yn_H_newPlain cd_H_newPlain 1 (some (.object "HelpedLog$Plain")) :: TG_) (rn_d 4 2 6) [.int 3] ([]) (fun a b => pw1_ T 3 a b) (fun a _ => some (.ref a)) := by
  refine cn_in (by decide) (Nat.le_of_ble_eq_true rfl) (List.forall_mem_cons.mpr ⟨rfl, fun _ h => nomatch h⟩) ?_
  intro P e s m args below meth c X hr hnm hN hA
  replace X : Cx_ P l e (rn_d 4 2 6) s m args below meth c cd_H_newPlain 1 rn_H D cl_ (tys_ T) TG_ := X
  refine go_loc (L' := [(0, .int 3)]) rfl ?_
  refine go_iload_n (i := 0) X rfl rfl dc_H_newPlain_0 ?_
  refine go_tableOut (tgt := 52) X dc_H_newPlain_1 (by decide) (by decide) ?_
  refine go_new (C := rn_B) (T := ft_B) (ci := 6) (fs := [.null, .int 0]) X hA in_B ty_B tk_B kl_H_163 nk_B ik_B rfl (by decide) ⟨by decide, by decide⟩ dc_H_newPlain_52 (fun q => ?_)
  refine go_dup X rfl dc_H_newPlain_55 ?_
  refine go_nI (n := 0) (rest := [.ref q]) (w2 := []) (w1 := pw0_ 3 q) X hN hA (kn_B l D T nw (a := q)) ml_H_165 im_B_init ik_B co_B_init rfl ⟨by decide, by decide, by decide +kernel⟩ ⟨by decide, by decide⟩ ⟨by decide, by decide⟩ rfl rfl (Nat.le_of_ble_eq_true rfl) dc_H_newPlain_56 (fun b _ => ?_)
  exact go_naret X q b hr (Or.inr ⟨_, rfl⟩) dc_H_newPlain_59 rfl rfl
set_option maxHeartbeats 4000000 in
set_option maxRecDepth 20000 in
theorem kn_N (l : Launch) (D : va_G) (T : Nat → ClassId) (nw : List Cond) {a : Nat} : Cn_ l D cl_ (tys_ T) nw yn_N_init (.code yn_N_init cd_N_init 1 none :: TG_) (rn_d 1 0 0) [.ref a] ([(a, .inr (1, [.int 0, .int 0, .int 0, .int 0, .int 0, .int 0, .int 0, .null]))]) (fun _ _ => [(a, .inr (1, [.int 0, .int (-1), .int (-1), .int (-1), .int (-1), .int 0, .int 0, .null]))]) (fun _ _ => none) := by
  refine cn_in (by decide) (Nat.le_of_ble_eq_true rfl) (List.forall_mem_cons.mpr ⟨rfl, fun _ h => nomatch h⟩) ?_
  intro P e s m args below meth c X hr hnm hN hA
  replace X : Cx_ P l e (rn_d 1 0 0) s m args below meth c cd_N_init 1 rn_N D cl_ (tys_ T) TG_ := X
  refine go_loc (L' := [(0, .ref a)]) rfl ?_
  refine go_aload_n (i := 0) X rfl rfl dc_N_init_0 ?_
  refine go_objI X ml_N_3 (by decide) (Nat.le_of_ble_eq_true rfl) dc_N_init_1 ?_
  refine go_aload_n (i := 0) X rfl rfl dc_N_init_4 ?_
  refine go_iconst (v := (-1)) X (by decide) dc_N_init_5 ?_
  refine gw_put (C := rn_N) (T := ft_N) (ci := 1) (i := 0) (k := 1) X in_N rfl ty_N tk_N nm_N rfl (by decide) fl_N_9 (fun x h => h) rfl (tk_N 1 (by decide)) rfl rfl (Nat.le_of_ble_eq_true rfl) dc_N_init_6 ?_
  refine go_aload_n (i := 0) X rfl rfl dc_N_init_9 ?_
  refine go_iconst (v := (-1)) X (by decide) dc_N_init_10 ?_
  refine gw_put (C := rn_N) (T := ft_N) (ci := 1) (i := 0) (k := 2) X in_N rfl ty_N tk_N nm_N rfl (by decide) fl_N_15 (fun x h => h) rfl (tk_N 2 (by decide)) rfl rfl (Nat.le_of_ble_eq_true rfl) dc_N_init_11 ?_
  refine go_aload_n (i := 0) X rfl rfl dc_N_init_14 ?_
  refine go_iconst (v := (-1)) X (by decide) dc_N_init_15 ?_
  refine gw_put (C := rn_N) (T := ft_N) (ci := 1) (i := 0) (k := 3) X in_N rfl ty_N tk_N nm_N rfl (by decide) fl_N_18 (fun x h => h) rfl (tk_N 3 (by decide)) rfl rfl (Nat.le_of_ble_eq_true rfl) dc_N_init_16 ?_
  refine go_aload_n (i := 0) X rfl rfl dc_N_init_19 ?_
  refine go_iconst (v := (-1)) X (by decide) dc_N_init_20 ?_
  refine gw_put (C := rn_N) (T := ft_N) (ci := 1) (i := 0) (k := 4) X in_N rfl ty_N tk_N nm_N rfl (by decide) fl_N_21 (fun x h => h) rfl (tk_N 4 (by decide)) rfl rfl (Nat.le_of_ble_eq_true rfl) dc_N_init_21 ?_
  exact go_nvret X 0 0 hr dc_N_init_24 rfl rfl
set_option maxHeartbeats 4000000 in
set_option maxRecDepth 20000 in
theorem kn_C (l : Launch) (D : va_G) (T : Nat → ClassId) (nw : List Cond) {a b : Nat} {q : Int32} : Cn_ l D cl_ (tys_ T) nw yn_C_init (.code yn_C_init cd_C_init 3 none :: TG_) (rn_d 1 0 0) [.ref a, .int q, .ref b] ([(a, .inr (2, [.int 0, .int 0, .int 0, .int 0, .int 0, .int 0, .null, .null, .null, .null, .null, .int 0, .int 0, .int 0]))]) (fun _ _ => [(a, .inr (2, [.int q, .int (-1), .int 0, .int 0, .int 0, .int 0, .ref b, .null, .ref b, .ref b, .ref b, .int 0, .int 0, .int (-1)]))]) (fun _ _ => none) := by
  refine cn_in (by decide) (Nat.le_of_ble_eq_true rfl) (List.forall_mem_cons.mpr ⟨rfl, List.forall_mem_cons.mpr ⟨rfl, List.forall_mem_cons.mpr ⟨rfl, fun _ h => nomatch h⟩⟩⟩) ?_
  intro P e s m args below meth c X hr hnm hN hA
  replace X : Cx_ P l e (rn_d 1 0 0) s m args below meth c cd_C_init 3 rn_C D cl_ (tys_ T) TG_ := X
  refine go_loc (L' := [(0, .ref a), (1, .int q), (2, .ref b)]) rfl ?_
  refine go_aload_n (i := 0) X rfl rfl dc_C_init_0 ?_
  refine go_objI X ml_C_3 (by decide) (Nat.le_of_ble_eq_true rfl) dc_C_init_1 ?_
  refine go_aload_n (i := 0) X rfl rfl dc_C_init_4 ?_
  refine go_iconst (v := (-1)) X (by decide) dc_C_init_5 ?_
  refine gw_put (C := rn_C) (T := ft_C) (ci := 2) (i := 0) (k := 1) X in_C rfl ty_C tk_C nm_C rfl (by decide) fl_C_9 (fun x h => h) rfl (tk_C 1 (by decide)) rfl rfl (Nat.le_of_ble_eq_true rfl) dc_C_init_6 ?_
  refine go_aload_n (i := 0) X rfl rfl dc_C_init_9 ?_
  refine go_iconst (v := (-1)) X (by decide) dc_C_init_10 ?_
  refine gw_put (C := rn_C) (T := ft_C) (ci := 2) (i := 0) (k := 13) X in_C rfl ty_C tk_C nm_C rfl (by decide) fl_C_15 (fun x h => h) rfl (tk_C 13 (by decide)) rfl rfl (Nat.le_of_ble_eq_true rfl) dc_C_init_11 ?_
  refine go_aload_n (i := 0) X rfl rfl dc_C_init_14 ?_
  refine go_iload_n (i := 1) X rfl rfl dc_C_init_15 ?_
  refine gw_putF (C := rn_C) (T := ft_C) (ci := 2) (i := 0) (k := 0) X in_C rfl ty_C tk_C nm_C rfl (by decide) fl_C_18 (fun x h => h) rfl hnm rfl (tk_C 0 (by decide)) rfl rfl (Nat.le_of_ble_eq_true rfl) dc_C_init_16 ?_
  refine go_aload_n (i := 0) X rfl rfl dc_C_init_19 ?_
  refine go_aload_n (i := 2) X rfl rfl dc_C_init_20 ?_
  refine gw_put (C := rn_C) (T := ft_C) (ci := 2) (i := 0) (k := 6) X in_C rfl ty_C tk_C nm_C rfl (by decide) fl_C_21 (fun x h => h) rfl (tk_C 6 (by decide)) rfl rfl (Nat.le_of_ble_eq_true rfl) dc_C_init_21 ?_
  refine go_aload_n (i := 0) X rfl rfl dc_C_init_24 ?_
  refine go_aload_n (i := 2) X rfl rfl dc_C_init_25 ?_
  refine gw_put (C := rn_C) (T := ft_C) (ci := 2) (i := 0) (k := 8) X in_C rfl ty_C tk_C nm_C rfl (by decide) fl_C_25 (fun x h => h) rfl (tk_C 8 (by decide)) rfl rfl (Nat.le_of_ble_eq_true rfl) dc_C_init_26 ?_
  refine go_aload_n (i := 0) X rfl rfl dc_C_init_29 ?_
  refine go_aload_n (i := 2) X rfl rfl dc_C_init_30 ?_
  refine gw_put (C := rn_C) (T := ft_C) (ci := 2) (i := 0) (k := 9) X in_C rfl ty_C tk_C nm_C rfl (by decide) fl_C_28 (fun x h => h) rfl (tk_C 9 (by decide)) rfl rfl (Nat.le_of_ble_eq_true rfl) dc_C_init_31 ?_
  refine go_aload_n (i := 0) X rfl rfl dc_C_init_34 ?_
  refine go_aload_n (i := 2) X rfl rfl dc_C_init_35 ?_
  refine gw_put (C := rn_C) (T := ft_C) (ci := 2) (i := 0) (k := 10) X in_C rfl ty_C tk_C nm_C rfl (by decide) fl_C_31 (fun x h => h) rfl (tk_C 10 (by decide)) rfl rfl (Nat.le_of_ble_eq_true rfl) dc_C_init_36 ?_
  exact go_nvret X 0 0 hr dc_C_init_39 rfl rfl
end N1

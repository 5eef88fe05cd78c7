section MI_A
def mz_ (ad : Nat → Nat) (j c : Nat) : Value := cond (Nat.blt c j) (.ref (ad c)) .null
def mZ_ (ad : Nat → Nat) (j : Nat) (kd nn : Int32) : List Value := [.int 0, .int kd, .int nn, mz_ ad j 1, mz_ ad j 2, mz_ ad j 3, mz_ ad j 4, mz_ ad j 5, mz_ ad j 6, mz_ ad j 7, mz_ ad j 8, mz_ ad j 9, mz_ ad j 10, mz_ ad j 11, mz_ ad j 12, mz_ ad j 13, mz_ ad j 14, mz_ ad j 15, mz_ ad j 16, mz_ ad j 17, mz_ ad j 18, mz_ ad j 19, mz_ ad j 20, .int 0, mz_ ad j 21, mz_ ad j 22, mz_ ad j 23, mz_ ad j 24, .int 0, mz_ ad j 25, .int 0]
def zE_ (T : Nat → ClassId) (ad : Nat → Nat) (j : Nat) (kd nn : Int32) : Nat → va_E
  | 0 => .inr (7, mZ_ ad j kd nn)
  | c + 1 => .inl (T (cond (Nat.beq c 0) 1 0), lm_ (c + 1), .inl (fun _ => 0))
theorem mz_lt {ad : Nat → Nat} {j c q : Nat} (h : c ≠ j) : mz_ ad j c = mz_ (va_up ad j q) (j + 1) c := by
  unfold mz_
  rw [va_up_ne _ _ h]
  by_cases g : c < j
  · rw [Nat.blt_eq.mpr g, Nat.blt_eq.mpr (show c < j + 1 by omega)]
  · cases h1 : Nat.blt c j with
    | true => exact absurd (Nat.blt_eq.mp h1) g
    | false =>
      cases h2 : Nat.blt c (j + 1) with
      | true => exact absurd (Nat.blt_eq.mp h2) (by omega)
      | false => rfl
theorem mz_eq {ad : Nat → Nat} {j q : Nat} : Value.ref q = mz_ (va_up ad j q) (j + 1) j := by
  unfold mz_
  rw [va_up_self, Nat.blt_eq.mpr (show j < j + 1 by omega)]
  rfl
end MI_A
section MI_B
variable {p : Program} {l : Launch} {e : Env} {R : Room} {s : State} {m : MethodId} {args : Array Value} {below : List Frame} {meth : Method} {c : Code} {D : va_G} {A : Nat → Prop} {nL cells slots : Nat} {Q : State → Prop} {w : va_W}
variable {cc : ByteArray} {T : Nat → ClassId} {pc : Nat} {L : List (Nat × Value)} {rest : List Value} {ad : Nat → Nat} {K n : Nat} {ρ ρ' : ST_}
theorem gm_na (X : Cx_ p l e R s m args below meth c cc nL rn_M D cl_ (tys_ T) TG_) (hA : ∀ q, s.heap.size ≤ q → A q) (hm : meth.name = "<init>") {index a t0 : Nat} {atype : ArrayType} {ty : FieldType} {cT : ClassId} {z : Int32} (j k : Nat) (h0 : ad 0 = a) (hj : 1 ≤ j) (hk : k < 31)
    (h1 : Cond.arrayClass (newarray.typeOf atype) ∈ TG_) (hty : newarray.typeOf atype = ty) (ht : (tys_ T)[t0]? = some (cT, ty)) (hprim : ∀ u : State, ∀ cA, va_RA u cA ty → u.vm.findClass ("[" ++ ty.toString) = some cA) (ha : ∀ (cA : ClassId) (n : Nat), vp_cell cA (n, .inl (fun _ => 0)) = arrV cA n (fun _ => defaultValue ty)) (hE : T (cond (Nat.beq (j - 1) 0) 1 0) = cT)
    (hz : ¬ z < 0) (hN : z.toNatClampNeg = lm_ j) (hbytes : lm_ j * componentBytes ty ≤ 536870912) (hcs : cells + 1 ≤ R.cells ∧ slots + lm_ j ≤ R.slots) (hl : Cond.fieldLink rn_M index rn_M (ft_M k).2.1 (ft_M k).2.2.1 ∈ TG_) (hfin : (ft_M k).2.2.2 = true) (hd : parseFieldDescriptor (ft_M k).2.2.1 = some (.array ty)) (hnar : ∀ q, narrow (.array ty) (.ref q) = .ref q) (hfit : ∀ q, fits (.array ty) (.ref q) = true) (hF : ∀ q, (mZ_ ad j 0 0).set k (.ref q) = mZ_ (va_up ad j q) (j + 1) 0 0)
    (d1 : decode cc pc = .ok (.newarray atype, 2)) (d2 : decode cc (pc + 2) = .ok (.putfield index, 3))
    (kk : ∀ ad', ad' 0 = a → Go_ p l e R s m args below meth c D cl_ A nL (cells + 1) (slots + lm_ j) Q (wl_ ad' (j + 1) (zE_ T ad' (j + 1) 0 0)) (pc + 2 + 3) L rest) : Go_ p l e R s m args below meth c D cl_ A nL cells slots Q (wl_ ad j (zE_ T ad j 0 0)) pc L (.int z :: .ref a :: rest) := by
  subst h0
  refine go_newa (t0 := t0) (N' := lm_ j) (a0 := (lm_ j, .inl (fun _ => 0))) X hA h1 hty ht hprim (fun cA => ha cA _) hz hN hbytes hcs d1 (fun q => ?_)
  refine go_eqw (wl_snoc ad j _ q _) ?_
  have e0 : va_up ad j q 0 = ad 0 := va_up_ne _ _ (by omega)
  refine gw_putF (C := rn_M) (T := ft_M) (ci := 7) (i := 0) (k := k) (a := ad 0) (fs := mZ_ ad j 0 0) X in_M rfl ty_M tk_M nm_M (by rw [wl_at (by omega), e0, va_up_ne _ _ (by omega)]; rfl) hk hl (fun x h => by rw [ft_M1] at h; exact h) hfin hm (ft_M1 k) hd (hnar q) (hfit q) hk d2 ?_
  refine go_eqw ?_ (kk (va_up ad j q) e0)
  rw [← e0, wl_set, hF]
  refine wl_congr (fun i hi => ?_)
  by_cases hi0 : i = 0
  · subst hi0; rw [va_up_self]; rfl
  · rw [va_up_ne _ _ hi0]
    obtain ⟨d, rfl⟩ : ∃ d, i = d + 1 := ⟨i - 1, by omega⟩
    by_cases hij : d + 1 = j
    · subst hij
      rw [va_up_self]
      rw [Nat.add_sub_cancel] at hE
      rw [← hE]
      rfl
    · rw [va_up_ne _ _ hij]
      rfl
theorem gm_same (h0 : mF_ ad K n ρ = mF_ ad K n ρ') (h : ∀ a, 1 ≤ a → a < 26 → ∀ i, i < lm_ a → ρ a i = ρ' a i) (kk : Go_ p l e R s m args below meth c D cl_ A nL cells slots Q (mW_ T ad K n ρ') pc L rest) : Go_ p l e R s m args below meth c D cl_ A nL cells slots Q (mW_ T ad K n ρ) pc L rest := fun H locs ls hP hD hS hl => by
  refine kk H locs ls (fun k q hk => ?_) (vd_adr hD ?_) hS hl
  · by_cases hkN : k < 26
    · have hk' : some (ad k, mE_ T ad K n ρ' k) = some q := (wl_at hkN).symm.trans hk
      cases Option.some.inj hk'
      have h1 := hP k _ (wl_at hkN)
      match k, hkN, h1 with
      | 0, _, h1 =>
        have e1 : mE_ T ad K n ρ 0 = mE_ T ad K n ρ' 0 := by unfold mE_; rw [h0]
        rw [e1] at h1
        exact h1
      | d + 1, hd, h1 =>
        have h2 : H[ad (d + 1)]? = some (vp_cell (T (cond (Nat.beq d 0) 1 0)) (lm_ (d + 1), .inl (ρ (d + 1)))) := h1
        show H[ad (d + 1)]? = some (vp_cell (T (cond (Nat.beq d 0) 1 0)) (lm_ (d + 1), .inl (ρ' (d + 1))))
        rw [h2, arr_same (h (d + 1) (by omega) hd)]
    · have hn0 : (mW_ T ad K n ρ')[k]? = none := wl_none (by omega)
      rw [hn0] at hk
      cases hk
  · unfold mW_ wl_
    rw [List.map_map, List.map_map]
    rfl
theorem cl_k {k : Int32} {K : Nat} (h : (if (0 : Int32) < (if k < 3 then k else 3) then (if k < 3 then k else 3) else 0) = nI K) : (¬ 0 ≤ k → 0 = nI K) ∧ (0 ≤ k → ¬ k ≤ 3 → 3 = nI K) ∧ (0 ≤ k → k ≤ 3 → k = nI K) := by
  rw [← h]
  by_cases h3 : k < 3
  · rw [if_pos h3]
    by_cases h0 : 0 < k
    · rw [if_pos h0]
      refine ⟨fun a => ?_, fun a b => ?_, fun a b => ?_⟩ <;> simp only [iz_eq, iz_lt, iz_le, iz_0, iz_3] at * <;> omega
    · rw [if_neg h0]
      refine ⟨fun a => ?_, fun a b => ?_, fun a b => ?_⟩ <;> simp only [iz_eq, iz_lt, iz_le, iz_0, iz_3] at * <;> omega
  · rw [if_neg h3, if_pos (by decide)]
    refine ⟨fun a => ?_, fun a b => ?_, fun a b => ?_⟩ <;> simp only [iz_eq, iz_lt, iz_le, iz_0, iz_3] at * <;> omega
theorem cl_n {k : Int32} {K : Nat} (h : (if (1 : Int32) < (if k < 5 then k else 5) then (if k < 5 then k else 5) else 1) = nI K) : (¬ 1 ≤ k → 1 = nI K) ∧ (1 ≤ k → ¬ k ≤ 5 → 5 = nI K) ∧ (1 ≤ k → k ≤ 5 → k = nI K) := by
  rw [← h]
  by_cases h3 : k < 5
  · rw [if_pos h3]
    by_cases h0 : 1 < k
    · rw [if_pos h0]
      refine ⟨fun a => ?_, fun a b => ?_, fun a b => ?_⟩ <;> simp only [iz_eq, iz_lt, iz_le, iz_1, iz_5] at * <;> omega
    · rw [if_neg h0]
      refine ⟨fun a => ?_, fun a b => ?_, fun a b => ?_⟩ <;> simp only [iz_eq, iz_lt, iz_le, iz_1, iz_5] at * <;> omega
  · rw [if_neg h3, if_pos (by decide)]
    refine ⟨fun a => ?_, fun a b => ?_, fun a b => ?_⟩ <;> simp only [iz_eq, iz_lt, iz_le, iz_1, iz_5] at * <;> omega
theorem gm_ck (X : Cx_ p l e R s m args below meth c cd_M_init 4 rn_M D cl_ (tys_ T) TG_) {k : Int32} (hL : lk_ L 1 = some (.int k)) (hk : (if (0 : Int32) < (if k < 3 then k else 3) then (if k < 3 then k else 3) else 0) = nI K) (kk : Go_ p l e R s m args below meth c D cl_ A 4 cells slots Q w 213 L (.int (nI K) :: rest)) : Go_ p l e R s m args below meth c D cl_ A 4 cells slots Q w 195 L rest := by
  obtain ⟨c1, c2, c3⟩ := cl_k hk
  refine go_iload_n (i := 1) X rfl hL dc_M_init_195 ?_
  refine go_if_ge (tgt := 203) X dc_M_init_196 (by decide) (fun h => ?_) (fun h => ?_)
  · refine go_iload_n (i := 1) X rfl hL dc_M_init_203 ?_
    refine go_iconst (v := 3) X (by decide) dc_M_init_204 ?_
    refine go_icmp_le (tgt := 212) X dc_M_init_205 (by decide) (fun h2 => ?_) (fun h2 => ?_)
    · refine go_iload_n (i := 1) X rfl hL dc_M_init_212 ?_
      exact go_eqs (congrArg (fun x => Value.int x :: rest) (c3 h h2)) kk
    · refine go_iconst (v := 3) X (by decide) dc_M_init_208 ?_
      refine go_goto (tgt := 213) X dc_M_init_209 (by decide) ?_
      exact go_eqs (congrArg (fun x => Value.int x :: rest) (c2 h h2)) kk
  · refine go_iconst (v := 0) X (by decide) dc_M_init_199 ?_
    refine go_goto (tgt := 213) X dc_M_init_200 (by decide) ?_
    exact go_eqs (congrArg (fun x => Value.int x :: rest) (c1 h)) kk
theorem gm_cn (X : Cx_ p l e R s m args below meth c cd_M_init 4 rn_M D cl_ (tys_ T) TG_) {k : Int32} (hL : lk_ L 2 = some (.int k)) (hk : (if (1 : Int32) < (if k < 5 then k else 5) then (if k < 5 then k else 5) else 1) = nI n) (kk : Go_ p l e R s m args below meth c D cl_ A 4 cells slots Q w 236 L (.int (nI n) :: rest)) : Go_ p l e R s m args below meth c D cl_ A 4 cells slots Q w 217 L rest := by
  obtain ⟨c1, c2, c3⟩ := cl_n hk
  refine go_iload_n (i := 2) X rfl hL dc_M_init_217 ?_
  refine go_iconst (v := 1) X (by decide) dc_M_init_218 ?_
  refine go_icmp_ge (tgt := 226) X dc_M_init_219 (by decide) (fun h => ?_) (fun h => ?_)
  · refine go_iload_n (i := 2) X rfl hL dc_M_init_226 ?_
    refine go_iconst (v := 5) X (by decide) dc_M_init_227 ?_
    refine go_icmp_le (tgt := 235) X dc_M_init_228 (by decide) (fun h2 => ?_) (fun h2 => ?_)
    · refine go_iload_n (i := 2) X rfl hL dc_M_init_235 ?_
      exact go_eqs (congrArg (fun x => Value.int x :: rest) (c3 h h2)) kk
    · refine go_iconst (v := 5) X (by decide) dc_M_init_231 ?_
      refine go_goto (tgt := 236) X dc_M_init_232 (by decide) ?_
      exact go_eqs (congrArg (fun x => Value.int x :: rest) (c2 h h2)) kk
  · refine go_iconst (v := 1) X (by decide) dc_M_init_222 ?_
    refine go_goto (tgt := 236) X dc_M_init_223 (by decide) ?_
    exact go_eqs (congrArg (fun x => Value.int x :: rest) (c1 h)) kk
end MI_B
section MI_C
def mI_ (f24 : Nat → Int32) (K j1 j2 j3 : Nat) : ST_ := fun a i => match a with
  | 0 => if i = 1 then 1 else 0
  | 1 => if i = 0 then 1 else 0
  | 2 => if i = 0 then 1 else 0
  | 3 => fl_ (fun _ => 0) (-1) j1 i
  | 4 => fl_ (fun _ => 0) (-1) j1 i
  | 9 => fl_ (fun _ => 0) (-1) j2 i
  | 10 => fl_ (fun _ => 0) (-1) j2 i
  | 20 => fl_ (fun _ => 0) (-1) j2 i
  | 24 => f24 i
  | 25 => fl_ (fun _ => 0) (pi_ K) j3 i
  | _ => 0
theorem mI_0 (f24 : Nat → Int32) (K : Nat) (h24 : f24 = fun _ => 0) : u2_ (u2_ (u2_ (fun _ _ => 0) 1 0 1) 2 0 1) 0 1 1 = mI_ f24 K 0 0 0 := funext fun a => funext fun i => match a with
  | 0 => rfl
  | 1 => rfl
  | 2 => rfl
  | 3 => by show _ = fl_ (fun _ => 0) _ 0 i; rw [fl_0]; rfl
  | 4 => by show _ = fl_ (fun _ => 0) _ 0 i; rw [fl_0]; rfl
  | 5 => rfl
  | 6 => rfl
  | 7 => rfl
  | 8 => rfl
  | 9 => by show _ = fl_ (fun _ => 0) _ 0 i; rw [fl_0]; rfl
  | 10 => by show _ = fl_ (fun _ => 0) _ 0 i; rw [fl_0]; rfl
  | 11 => rfl
  | 12 => rfl
  | 13 => rfl
  | 14 => rfl
  | 15 => rfl
  | 16 => rfl
  | 17 => rfl
  | 18 => rfl
  | 19 => rfl
  | 20 => by show _ = fl_ (fun _ => 0) _ 0 i; rw [fl_0]; rfl
  | 21 => rfl
  | 22 => rfl
  | 23 => rfl
  | 24 => by show _ = f24 i; rw [h24]; rfl
  | 25 => by show _ = fl_ (fun _ => 0) _ 0 i; rw [fl_0]; rfl
  | a + 26 => by rw [u2_ne _ _ _ (by omega), u2_ne _ _ _ (by omega), u2_ne _ _ _ (by omega)]; rfl
theorem mI_1 (f24 : Nat → Int32) (K j : Nat) : u2_ (u2_ (mI_ f24 K j 0 0) 3 j (-1)) 4 j (-1) = mI_ f24 K (j + 1) 0 0 := funext fun a => funext fun i => match a with
  | 0 => rfl
  | 1 => rfl
  | 2 => rfl
  | 3 => by show upd (fl_ (fun _ => 0) (-1) j) j (-1) i = fl_ (fun _ => 0) (-1) (j + 1) i; rw [fl_s]
  | 4 => by show upd (fl_ (fun _ => 0) (-1) j) j (-1) i = fl_ (fun _ => 0) (-1) (j + 1) i; rw [fl_s]
  | 5 => rfl
  | 6 => rfl
  | 7 => rfl
  | 8 => rfl
  | 9 => rfl
  | 10 => rfl
  | 11 => rfl
  | 12 => rfl
  | 13 => rfl
  | 14 => rfl
  | 15 => rfl
  | 16 => rfl
  | 17 => rfl
  | 18 => rfl
  | 19 => rfl
  | 20 => rfl
  | 21 => rfl
  | 22 => rfl
  | 23 => rfl
  | 24 => rfl
  | 25 => rfl
  | a + 26 => by rw [u2_ne _ _ _ (by omega), u2_ne _ _ _ (by omega)]; rfl
theorem mI_2 (f24 : Nat → Int32) (K j : Nat) : u2_ (u2_ (u2_ (mI_ f24 K 32 j 0) 9 j (-1)) 10 j (-1)) 20 j (-1) = mI_ f24 K 32 (j + 1) 0 := funext fun a => funext fun i => match a with
  | 0 => rfl
  | 1 => rfl
  | 2 => rfl
  | 3 => rfl
  | 4 => rfl
  | 5 => rfl
  | 6 => rfl
  | 7 => rfl
  | 8 => rfl
  | 9 => by show upd (fl_ (fun _ => 0) (-1) j) j (-1) i = fl_ (fun _ => 0) (-1) (j + 1) i; rw [fl_s]
  | 10 => by show upd (fl_ (fun _ => 0) (-1) j) j (-1) i = fl_ (fun _ => 0) (-1) (j + 1) i; rw [fl_s]
  | 11 => rfl
  | 12 => rfl
  | 13 => rfl
  | 14 => rfl
  | 15 => rfl
  | 16 => rfl
  | 17 => rfl
  | 18 => rfl
  | 19 => rfl
  | 20 => by show upd (fl_ (fun _ => 0) (-1) j) j (-1) i = fl_ (fun _ => 0) (-1) (j + 1) i; rw [fl_s]
  | 21 => rfl
  | 22 => rfl
  | 23 => rfl
  | 24 => rfl
  | 25 => rfl
  | a + 26 => by rw [u2_ne _ _ _ (by omega), u2_ne _ _ _ (by omega), u2_ne _ _ _ (by omega)]; rfl
theorem mI_3 (f24 : Nat → Int32) (K : Nat) : hm_begin K (mI_ f24 K 32 5 0) = mI_ (fun _ => pi_ K) K 32 5 0 := funext fun a => funext fun i => match a with
  | 0 => by show (if i = 2 then (0 : Int32) else if i = 1 then 1 else 0) = if i = 1 then 1 else 0; by_cases h : i = 2; { rw [if_pos h, if_neg (by omega)] }; { rw [if_neg h] }
  | 1 => rfl
  | 2 => rfl
  | 3 => rfl
  | 4 => rfl
  | 5 => rfl
  | 6 => rfl
  | 7 => rfl
  | 8 => rfl
  | 9 => rfl
  | 10 => rfl
  | 11 => rfl
  | 12 => rfl
  | 13 => rfl
  | 14 => rfl
  | 15 => rfl
  | 16 => rfl
  | 17 => rfl
  | 18 => rfl
  | 19 => rfl
  | 20 => rfl
  | 21 => rfl
  | 22 => rfl
  | 23 => rfl
  | 24 => rfl
  | 25 => rfl
  | a + 26 => by unfold hm_begin; rw [u1_ne _ _ (by omega), u2_ne _ _ _ (by omega)]; rfl
theorem mI_4 (f24 : Nat → Int32) (K j : Nat) : u2_ (mI_ f24 K 32 5 j) 25 j (pi_ K) = mI_ f24 K 32 5 (j + 1) := funext fun a => funext fun i => match a with
  | 0 => rfl
  | 1 => rfl
  | 2 => rfl
  | 3 => rfl
  | 4 => rfl
  | 5 => rfl
  | 6 => rfl
  | 7 => rfl
  | 8 => rfl
  | 9 => rfl
  | 10 => rfl
  | 11 => rfl
  | 12 => rfl
  | 13 => rfl
  | 14 => rfl
  | 15 => rfl
  | 16 => rfl
  | 17 => rfl
  | 18 => rfl
  | 19 => rfl
  | 20 => rfl
  | 21 => rfl
  | 22 => rfl
  | 23 => rfl
  | 24 => rfl
  | 25 => by show upd (fl_ (fun _ => 0) (pi_ K) j) j (pi_ K) i = fl_ (fun _ => 0) (pi_ K) (j + 1) i; rw [fl_s]
  | a + 26 => by rw [u2_ne _ _ _ (by omega)]; rfl
theorem mI_5 (K : Nat) : ∀ a, 1 ≤ a → a < 26 → ∀ i, i < lm_ a → mI_ (fun _ => pi_ K) K 32 5 8 a i = hm_init K a i := by
  intro a h1 h2 i hi
  match a, h1, h2, hi with
  | 1, _, _, _ => rfl
  | 2, _, _, _ => rfl
  | 3, _, _, hi => show fl_ (fun _ => 0) (-1) 32 i = -1; exact fl_all hi
  | 4, _, _, hi => show fl_ (fun _ => 0) (-1) 32 i = -1; exact fl_all hi
  | 5, _, _, _ => rfl
  | 6, _, _, _ => rfl
  | 7, _, _, _ => rfl
  | 8, _, _, _ => rfl
  | 9, _, _, hi => show fl_ (fun _ => 0) (-1) 5 i = -1; exact fl_all hi
  | 10, _, _, hi => show fl_ (fun _ => 0) (-1) 5 i = -1; exact fl_all hi
  | 11, _, _, _ => rfl
  | 12, _, _, _ => rfl
  | 13, _, _, _ => rfl
  | 14, _, _, _ => rfl
  | 15, _, _, _ => rfl
  | 16, _, _, _ => rfl
  | 17, _, _, _ => rfl
  | 18, _, _, _ => rfl
  | 19, _, _, _ => rfl
  | 20, _, _, hi => show fl_ (fun _ => 0) (-1) 5 i = -1; exact fl_all hi
  | 21, _, _, _ => rfl
  | 22, _, _, _ => rfl
  | 23, _, _, _ => rfl
  | 24, _, _, _ => rfl
  | 25, _, _, hi => show fl_ (fun _ => 0) (pi_ K) 8 i = pi_ K; exact fl_all hi
  | a + 26, _, h, _ => exact absurd h (by omega)
end MI_C
section MI_D
set_option maxHeartbeats 8000000 in
set_option maxRecDepth 20000 in
theorem km_init (l : Launch) (D : va_G) (T : Nat → ClassId) (nw : List Cond) {a0 : Nat} {k n' : Int32} {K n : Nat} (hK4 : K < 4)
    (hk : (if (0 : Int32) < (if k < 3 then k else 3) then (if k < 3 then k else 3) else 0) = nI K) (hn : (if (1 : Int32) < (if n' < 5 then n' else 5) then (if n' < 5 then n' else 5) else 1) = nI n) :
    Ca_ l D cl_ (tys_ T) nw yn_M_init (.code yn_M_init cd_M_init 4 none :: TG_) (rn_d 1 25 2105) [.ref a0, .int k, .int n'] [(a0, .inr (7, mZ_ (fun _ => 0) 1 0 0))] a0 (fun ad => mW_ T ad K n (hm_init K)) := by
  refine ca_in (by decide) (Nat.le_of_ble_eq_true rfl) (List.forall_mem_cons.mpr ⟨rfl, List.forall_mem_cons.mpr ⟨rfl, List.forall_mem_cons.mpr ⟨rfl, fun _ h => nomatch h⟩⟩⟩) ?_
  intro P e s m args below meth c X hr hnm hN hao hA
  replace X : Cx_ P l e (rn_d 1 25 2105) s m args below meth c cd_M_init 4 rn_M D cl_ (tys_ T) TG_ := X
  refine go_loc (L' := [(0, .ref a0), (1, .int k), (2, .int n')]) rfl ?_
  refine go_eqw (w' := wl_ (fun _ => a0) 1 (zE_ T (fun _ => a0) 1 0 0)) rfl ?_
  refine go_aload_n (i := 0) X rfl rfl dc_M_init_0 ?_
  refine go_objI X ml_M_1 (by decide) (Nat.le_of_ble_eq_true rfl) dc_M_init_1 ?_
  refine go_aload_n (i := 0) X rfl rfl dc_M_init_4 ?_
  refine go_bipush (v := 32) X (by decide) dc_M_init_5 ?_
  refine gm_na (atype := .boolean) (ty := .boolean) (t0 := 1) X hA hnm 1 3 rfl (by decide) (by decide) ac_boolean rfl rfl prim_z vczb rfl (by decide) (by decide) (by decide) ⟨by decide, by decide⟩ fl_M_7 rfl (tk_M 3 (by decide)) (fun _ => rfl) (fun _ => rfl) (fun q => rfl) dc_M_init_7 dc_M_init_9 (fun ad1 h1 => ?_)
  refine go_widen (cells' := 1) (slots' := 32) (by decide) (by decide) ?_
  refine go_aload_n (i := 0) X rfl rfl dc_M_init_12 ?_
  refine go_bipush (v := 32) X (by decide) dc_M_init_13 ?_
  refine gm_na (atype := .int) (ty := .int) (t0 := 0) X hA hnm 2 4 h1 (by decide) (by decide) ac_int rfl rfl prim_i vcz rfl (by decide) (by decide) (by decide) ⟨by decide, by decide⟩ fl_M_13 rfl (tk_M 4 (by decide)) (fun _ => rfl) (fun _ => rfl) (fun q => rfl) dc_M_init_15 dc_M_init_17 (fun ad2 h2 => ?_)
  refine go_widen (cells' := 2) (slots' := 64) (by decide) (by decide) ?_
  refine go_aload_n (i := 0) X rfl rfl dc_M_init_20 ?_
  refine go_bipush (v := 32) X (by decide) dc_M_init_21 ?_
  refine gm_na (atype := .int) (ty := .int) (t0 := 0) X hA hnm 3 5 h2 (by decide) (by decide) ac_int rfl rfl prim_i vcz rfl (by decide) (by decide) (by decide) ⟨by decide, by decide⟩ fl_M_17 rfl (tk_M 5 (by decide)) (fun _ => rfl) (fun _ => rfl) (fun q => rfl) dc_M_init_23 dc_M_init_25 (fun ad3 h3 => ?_)
  refine go_widen (cells' := 3) (slots' := 96) (by decide) (by decide) ?_
  refine go_aload_n (i := 0) X rfl rfl dc_M_init_28 ?_
  refine go_bipush (v := 32) X (by decide) dc_M_init_29 ?_
  refine gm_na (atype := .int) (ty := .int) (t0 := 0) X hA hnm 4 6 h3 (by decide) (by decide) ac_int rfl rfl prim_i vcz rfl (by decide) (by decide) (by decide) ⟨by decide, by decide⟩ fl_M_20 rfl (tk_M 6 (by decide)) (fun _ => rfl) (fun _ => rfl) (fun q => rfl) dc_M_init_31 dc_M_init_33 (fun ad4 h4 => ?_)
  refine go_widen (cells' := 4) (slots' := 128) (by decide) (by decide) ?_
  refine go_aload_n (i := 0) X rfl rfl dc_M_init_36 ?_
  refine go_bipush (v := 32) X (by decide) dc_M_init_37 ?_
  refine gm_na (atype := .int) (ty := .int) (t0 := 0) X hA hnm 5 7 h4 (by decide) (by decide) ac_int rfl rfl prim_i vcz rfl (by decide) (by decide) (by decide) ⟨by decide, by decide⟩ fl_M_23 rfl (tk_M 7 (by decide)) (fun _ => rfl) (fun _ => rfl) (fun q => rfl) dc_M_init_39 dc_M_init_41 (fun ad5 h5 => ?_)
  refine go_widen (cells' := 5) (slots' := 160) (by decide) (by decide) ?_
  refine go_aload_n (i := 0) X rfl rfl dc_M_init_44 ?_
  refine go_bipush (v := 32) X (by decide) dc_M_init_45 ?_
  refine gm_na (atype := .int) (ty := .int) (t0 := 0) X hA hnm 6 8 h5 (by decide) (by decide) ac_int rfl rfl prim_i vcz rfl (by decide) (by decide) (by decide) ⟨by decide, by decide⟩ fl_M_26 rfl (tk_M 8 (by decide)) (fun _ => rfl) (fun _ => rfl) (fun q => rfl) dc_M_init_47 dc_M_init_49 (fun ad6 h6 => ?_)
  refine go_widen (cells' := 6) (slots' := 192) (by decide) (by decide) ?_
  refine go_aload_n (i := 0) X rfl rfl dc_M_init_52 ?_
  refine go_bipush (v := 32) X (by decide) dc_M_init_53 ?_
  refine gm_na (atype := .int) (ty := .int) (t0 := 0) X hA hnm 7 9 h6 (by decide) (by decide) ac_int rfl rfl prim_i vcz rfl (by decide) (by decide) (by decide) ⟨by decide, by decide⟩ fl_M_29 rfl (tk_M 9 (by decide)) (fun _ => rfl) (fun _ => rfl) (fun q => rfl) dc_M_init_55 dc_M_init_57 (fun ad7 h7 => ?_)
  refine go_widen (cells' := 7) (slots' := 224) (by decide) (by decide) ?_
  refine go_aload_n (i := 0) X rfl rfl dc_M_init_60 ?_
  refine go_iconst (v := 5) X (by decide) dc_M_init_61 ?_
  refine gm_na (atype := .int) (ty := .int) (t0 := 0) X hA hnm 8 10 h7 (by decide) (by decide) ac_int rfl rfl prim_i vcz rfl (by decide) (by decide) (by decide) ⟨by decide, by decide⟩ fl_M_32 rfl (tk_M 10 (by decide)) (fun _ => rfl) (fun _ => rfl) (fun q => rfl) dc_M_init_62 dc_M_init_64 (fun ad8 h8 => ?_)
  refine go_widen (cells' := 8) (slots' := 229) (by decide) (by decide) ?_
  refine go_aload_n (i := 0) X rfl rfl dc_M_init_67 ?_
  refine go_iconst (v := 5) X (by decide) dc_M_init_68 ?_
  refine gm_na (atype := .int) (ty := .int) (t0 := 0) X hA hnm 9 11 h8 (by decide) (by decide) ac_int rfl rfl prim_i vcz rfl (by decide) (by decide) (by decide) ⟨by decide, by decide⟩ fl_M_35 rfl (tk_M 11 (by decide)) (fun _ => rfl) (fun _ => rfl) (fun q => rfl) dc_M_init_69 dc_M_init_71 (fun ad9 h9 => ?_)
  refine go_widen (cells' := 9) (slots' := 234) (by decide) (by decide) ?_
  refine go_aload_n (i := 0) X rfl rfl dc_M_init_74 ?_
  refine go_iconst (v := 5) X (by decide) dc_M_init_75 ?_
  refine gm_na (atype := .int) (ty := .int) (t0 := 0) X hA hnm 10 12 h9 (by decide) (by decide) ac_int rfl rfl prim_i vcz rfl (by decide) (by decide) (by decide) ⟨by decide, by decide⟩ fl_M_38 rfl (tk_M 12 (by decide)) (fun _ => rfl) (fun _ => rfl) (fun q => rfl) dc_M_init_76 dc_M_init_78 (fun ad10 h10 => ?_)
  refine go_widen (cells' := 10) (slots' := 239) (by decide) (by decide) ?_
  refine go_aload_n (i := 0) X rfl rfl dc_M_init_81 ?_
  refine go_iconst (v := 5) X (by decide) dc_M_init_82 ?_
  refine gm_na (atype := .int) (ty := .int) (t0 := 0) X hA hnm 11 13 h10 (by decide) (by decide) ac_int rfl rfl prim_i vcz rfl (by decide) (by decide) (by decide) ⟨by decide, by decide⟩ fl_M_41 rfl (tk_M 13 (by decide)) (fun _ => rfl) (fun _ => rfl) (fun q => rfl) dc_M_init_83 dc_M_init_85 (fun ad11 h11 => ?_)
  refine go_widen (cells' := 11) (slots' := 244) (by decide) (by decide) ?_
  refine go_aload_n (i := 0) X rfl rfl dc_M_init_88 ?_
  refine go_iconst (v := 5) X (by decide) dc_M_init_89 ?_
  refine gm_na (atype := .int) (ty := .int) (t0 := 0) X hA hnm 12 14 h11 (by decide) (by decide) ac_int rfl rfl prim_i vcz rfl (by decide) (by decide) (by decide) ⟨by decide, by decide⟩ fl_M_44 rfl (tk_M 14 (by decide)) (fun _ => rfl) (fun _ => rfl) (fun q => rfl) dc_M_init_90 dc_M_init_92 (fun ad12 h12 => ?_)
  refine go_widen (cells' := 12) (slots' := 249) (by decide) (by decide) ?_
  refine go_aload_n (i := 0) X rfl rfl dc_M_init_95 ?_
  refine go_iconst (v := 5) X (by decide) dc_M_init_96 ?_
  refine gm_na (atype := .int) (ty := .int) (t0 := 0) X hA hnm 13 15 h12 (by decide) (by decide) ac_int rfl rfl prim_i vcz rfl (by decide) (by decide) (by decide) ⟨by decide, by decide⟩ fl_M_47 rfl (tk_M 15 (by decide)) (fun _ => rfl) (fun _ => rfl) (fun q => rfl) dc_M_init_97 dc_M_init_99 (fun ad13 h13 => ?_)
  refine go_widen (cells' := 13) (slots' := 254) (by decide) (by decide) ?_
  refine go_aload_n (i := 0) X rfl rfl dc_M_init_102 ?_
  refine go_iconst (v := 5) X (by decide) dc_M_init_103 ?_
  refine gm_na (atype := .int) (ty := .int) (t0 := 0) X hA hnm 14 16 h13 (by decide) (by decide) ac_int rfl rfl prim_i vcz rfl (by decide) (by decide) (by decide) ⟨by decide, by decide⟩ fl_M_50 rfl (tk_M 16 (by decide)) (fun _ => rfl) (fun _ => rfl) (fun q => rfl) dc_M_init_104 dc_M_init_106 (fun ad14 h14 => ?_)
  refine go_widen (cells' := 14) (slots' := 259) (by decide) (by decide) ?_
  refine go_aload_n (i := 0) X rfl rfl dc_M_init_109 ?_
  refine go_iconst (v := 5) X (by decide) dc_M_init_110 ?_
  refine gm_na (atype := .int) (ty := .int) (t0 := 0) X hA hnm 15 17 h14 (by decide) (by decide) ac_int rfl rfl prim_i vcz rfl (by decide) (by decide) (by decide) ⟨by decide, by decide⟩ fl_M_53 rfl (tk_M 17 (by decide)) (fun _ => rfl) (fun _ => rfl) (fun q => rfl) dc_M_init_111 dc_M_init_113 (fun ad15 h15 => ?_)
  refine go_widen (cells' := 15) (slots' := 264) (by decide) (by decide) ?_
  refine go_aload_n (i := 0) X rfl rfl dc_M_init_116 ?_
  refine go_iconst (v := 5) X (by decide) dc_M_init_117 ?_
  refine gm_na (atype := .int) (ty := .int) (t0 := 0) X hA hnm 16 18 h15 (by decide) (by decide) ac_int rfl rfl prim_i vcz rfl (by decide) (by decide) (by decide) ⟨by decide, by decide⟩ fl_M_56 rfl (tk_M 18 (by decide)) (fun _ => rfl) (fun _ => rfl) (fun q => rfl) dc_M_init_118 dc_M_init_120 (fun ad16 h16 => ?_)
  refine go_widen (cells' := 16) (slots' := 269) (by decide) (by decide) ?_
  refine go_aload_n (i := 0) X rfl rfl dc_M_init_123 ?_
  refine go_iconst (v := 5) X (by decide) dc_M_init_124 ?_
  refine gm_na (atype := .int) (ty := .int) (t0 := 0) X hA hnm 17 19 h16 (by decide) (by decide) ac_int rfl rfl prim_i vcz rfl (by decide) (by decide) (by decide) ⟨by decide, by decide⟩ fl_M_59 rfl (tk_M 19 (by decide)) (fun _ => rfl) (fun _ => rfl) (fun q => rfl) dc_M_init_125 dc_M_init_127 (fun ad17 h17 => ?_)
  refine go_widen (cells' := 17) (slots' := 274) (by decide) (by decide) ?_
  refine go_aload_n (i := 0) X rfl rfl dc_M_init_130 ?_
  refine go_iconst (v := 5) X (by decide) dc_M_init_131 ?_
  refine gm_na (atype := .int) (ty := .int) (t0 := 0) X hA hnm 18 20 h17 (by decide) (by decide) ac_int rfl rfl prim_i vcz rfl (by decide) (by decide) (by decide) ⟨by decide, by decide⟩ fl_M_62 rfl (tk_M 20 (by decide)) (fun _ => rfl) (fun _ => rfl) (fun q => rfl) dc_M_init_132 dc_M_init_134 (fun ad18 h18 => ?_)
  refine go_widen (cells' := 18) (slots' := 279) (by decide) (by decide) ?_
  refine go_aload_n (i := 0) X rfl rfl dc_M_init_137 ?_
  refine go_iconst (v := 5) X (by decide) dc_M_init_138 ?_
  refine gm_na (atype := .int) (ty := .int) (t0 := 0) X hA hnm 19 21 h18 (by decide) (by decide) ac_int rfl rfl prim_i vcz rfl (by decide) (by decide) (by decide) ⟨by decide, by decide⟩ fl_M_65 rfl (tk_M 21 (by decide)) (fun _ => rfl) (fun _ => rfl) (fun q => rfl) dc_M_init_139 dc_M_init_141 (fun ad19 h19 => ?_)
  refine go_widen (cells' := 19) (slots' := 284) (by decide) (by decide) ?_
  refine go_aload_n (i := 0) X rfl rfl dc_M_init_144 ?_
  refine go_iconst (v := 5) X (by decide) dc_M_init_145 ?_
  refine gm_na (atype := .int) (ty := .int) (t0 := 0) X hA hnm 20 22 h19 (by decide) (by decide) ac_int rfl rfl prim_i vcz rfl (by decide) (by decide) (by decide) ⟨by decide, by decide⟩ fl_M_68 rfl (tk_M 22 (by decide)) (fun _ => rfl) (fun _ => rfl) (fun q => rfl) dc_M_init_146 dc_M_init_148 (fun ad20 h20 => ?_)
  refine go_widen (cells' := 20) (slots' := 289) (by decide) (by decide) ?_
  refine go_aload_n (i := 0) X rfl rfl dc_M_init_151 ?_
  refine go_sipush (v := 600) X (by decide) dc_M_init_152 ?_
  refine gm_na (atype := .int) (ty := .int) (t0 := 0) X hA hnm 21 24 h20 (by decide) (by decide) ac_int rfl rfl prim_i vcz rfl (by decide) (by decide) (by decide) ⟨by decide, by decide⟩ fl_M_71 rfl (tk_M 24 (by decide)) (fun _ => rfl) (fun _ => rfl) (fun q => rfl) dc_M_init_155 dc_M_init_157 (fun ad21 h21 => ?_)
  refine go_widen (cells' := 21) (slots' := 889) (by decide) (by decide) ?_
  refine go_aload_n (i := 0) X rfl rfl dc_M_init_160 ?_
  refine go_sipush (v := 600) X (by decide) dc_M_init_161 ?_
  refine gm_na (atype := .int) (ty := .int) (t0 := 0) X hA hnm 22 25 h21 (by decide) (by decide) ac_int rfl rfl prim_i vcz rfl (by decide) (by decide) (by decide) ⟨by decide, by decide⟩ fl_M_74 rfl (tk_M 25 (by decide)) (fun _ => rfl) (fun _ => rfl) (fun q => rfl) dc_M_init_164 dc_M_init_166 (fun ad22 h22 => ?_)
  refine go_widen (cells' := 22) (slots' := 1489) (by decide) (by decide) ?_
  refine go_aload_n (i := 0) X rfl rfl dc_M_init_169 ?_
  refine go_sipush (v := 600) X (by decide) dc_M_init_170 ?_
  refine gm_na (atype := .int) (ty := .int) (t0 := 0) X hA hnm 23 26 h22 (by decide) (by decide) ac_int rfl rfl prim_i vcz rfl (by decide) (by decide) (by decide) ⟨by decide, by decide⟩ fl_M_77 rfl (tk_M 26 (by decide)) (fun _ => rfl) (fun _ => rfl) (fun q => rfl) dc_M_init_173 dc_M_init_175 (fun ad23 h23 => ?_)
  refine go_widen (cells' := 23) (slots' := 2089) (by decide) (by decide) ?_
  refine go_aload_n (i := 0) X rfl rfl dc_M_init_178 ?_
  refine go_bipush (v := 8) X (by decide) dc_M_init_179 ?_
  refine gm_na (atype := .int) (ty := .int) (t0 := 0) X hA hnm 24 27 h23 (by decide) (by decide) ac_int rfl rfl prim_i vcz rfl (by decide) (by decide) (by decide) ⟨by decide, by decide⟩ fl_M_80 rfl (tk_M 27 (by decide)) (fun _ => rfl) (fun _ => rfl) (fun q => rfl) dc_M_init_181 dc_M_init_183 (fun ad24 h24 => ?_)
  refine go_widen (cells' := 24) (slots' := 2097) (by decide) (by decide) ?_
  refine go_aload_n (i := 0) X rfl rfl dc_M_init_186 ?_
  refine go_bipush (v := 8) X (by decide) dc_M_init_187 ?_
  refine gm_na (atype := .int) (ty := .int) (t0 := 0) X hA hnm 25 29 h24 (by decide) (by decide) ac_int rfl rfl prim_i vcz rfl (by decide) (by decide) (by decide) ⟨by decide, by decide⟩ fl_M_83 rfl (tk_M 29 (by decide)) (fun _ => rfl) (fun _ => rfl) (fun q => rfl) dc_M_init_189 dc_M_init_191 (fun ad h0 => ?_)
  refine go_widen (cells' := 25) (slots' := 2105) (by decide) (by decide) ?_
  refine go_loc (L' := [(0, .ref (ad 0)), (1, .int k), (2, .int n')]) (by rw [h0]; rfl) ?_
  refine go_aload_n (i := 0) X rfl rfl dc_M_init_194 ?_
  refine gm_ck X rfl hk ?_
  refine gw_putF (C := rn_M) (T := ft_M) (ci := 7) (i := 0) (k := 1) (a := ad 0) (fs := mZ_ ad 26 0 0) X in_M rfl ty_M tk_M nm_M (wl_at (by decide)) (by decide) fl_M_86 (fun x h => h) rfl hnm rfl (tk_M 1 (by decide)) rfl rfl (Nat.le_of_ble_eq_true rfl) dc_M_init_213 ?_
  refine go_eqw (wl_set _) ?_
  refine go_aload_n (i := 0) X rfl rfl dc_M_init_216 ?_
  refine gm_cn X rfl hn ?_
  refine gw_putF (C := rn_M) (T := ft_M) (ci := 7) (i := 0) (k := 2) (a := ad 0) (fs := mZ_ ad 26 (nI K) 0) X in_M rfl ty_M tk_M nm_M ((wl_at (by decide)).trans (by rw [va_up_self]; rfl)) (by decide) fl_M_90 (fun x h => h) rfl hnm rfl (tk_M 2 (by decide)) rfl rfl (Nat.le_of_ble_eq_true rfl) dc_M_init_236 ?_
  refine go_eqw (w' := mW_ T ad K n (fun _ _ => 0)) ?_ ?_
  · rw [wl_set]
    refine wl_congr (fun i hi => ?_)
    by_cases hi0 : i = 0
    · subst hi0; rw [va_up_self]; rfl
    · rw [va_up_ne _ _ hi0, va_up_ne _ _ hi0]
      obtain ⟨d, rfl⟩ : ∃ d, i = d + 1 := ⟨i - 1, by omega⟩
      rfl
  have hx0 : Ix_ (nI 0) 32 0 := Ix_n (by omega) (by omega)
  refine go_aload_n (i := 0) X rfl rfl dc_M_init_239 ?_
  refine gm_get X 3 (by decide) fl_M_7 rfl dc_M_init_240 ?_
  refine go_iconst (v := nI 0) X (by decide) dc_M_init_243 ?_
  refine go_iconst (v := 1) X (by decide) dc_M_init_244 ?_
  refine gm_zst X hx0 (by decide) dc_M_init_245 ?_
  refine go_aload_n (i := 0) X rfl rfl dc_M_init_246 ?_
  refine gm_get X 4 (by decide) fl_M_13 rfl dc_M_init_247 ?_
  refine go_iconst (v := nI 0) X (by decide) dc_M_init_250 ?_
  refine go_iconst (v := 1) X (by decide) dc_M_init_251 ?_
  refine gm_st (a := 2) X (by decide) hx0 dc_M_init_252 ?_
  refine go_aload_n (i := 0) X rfl rfl dc_M_init_253 ?_
  refine go_iconst (v := 1) X (by decide) dc_M_init_254 ?_
  refine gm_put X 23 1 (by decide) fl_M_93 rfl (tk_M 23 (by decide)) (mF_s1 _ _ _ _ _) dc_M_init_255 ?_
  refine go_eqw (w' := mW_ T ad K n (mI_ (fun _ => 0) K 0 0 0)) (congrArg (mW_ T ad K n) (mI_0 _ K rfl)) ?_
  refine go_iconst (v := nI 0) X (by decide) dc_M_init_258 ?_
  refine go_istore_n (i := 3) X rfl (by decide) dc_M_init_259 ?_
  refine go_loc (L' := [(0, .ref (ad 0)), (3, .int (nI 0))]) rfl ?_
  have e32 : (32 : Int32).toInt = 32 := by decide
  have e8 : (8 : Int32).toInt = 8 := by decide
  refine (lp_up (P := fun j => Go_ P l e (rn_d 1 25 2105) s m args below meth c D cl_ _ 4 25 2105 _ (mW_ T ad K n (mI_ (fun _ => 0) K j 0 0)) 260 [(0, .ref (ad 0)), (3, .int (nI j))] []) 32 (fun j hj ih => ?_)) 0 (Nat.zero_le _)
  refine go_iload_n (i := 3) X rfl rfl dc_M_init_260 ?_
  refine go_bipush (v := 32) X (by decide) dc_M_init_261 ?_
  refine go_icmp_ge (tgt := 286) X dc_M_init_263 (by decide) (fun h263 => ?_) (fun h263 => ?_)
  · have ej : j = 32 := by rw [iz_le, iz_nI (by omega), e32] at h263; omega
    subst ej
    clear ih
    refine go_iconst (v := nI 0) X (by decide) dc_M_init_286 ?_
    refine go_istore_n (i := 3) X rfl (by decide) dc_M_init_287 ?_
    refine go_loc (L' := [(0, .ref (ad 0)), (3, .int (nI 0))]) rfl ?_
    refine (lp_up (P := fun j => Go_ P l e (rn_d 1 25 2105) s m args below meth c D cl_ _ 4 25 2105 _ (mW_ T ad K n (mI_ (fun _ => 0) K 32 j 0)) 288 [(0, .ref (ad 0)), (3, .int (nI j))] []) 5 (fun j hj ih => ?_)) 0 (Nat.zero_le _)
    refine go_iload_n (i := 3) X rfl rfl dc_M_init_288 ?_
    refine go_iconst (v := 5) X (by decide) dc_M_init_289 ?_
    refine go_icmp_ge (tgt := 320) X dc_M_init_290 (by decide) (fun h290 => ?_) (fun h290 => ?_)
    · have ej : j = 5 := by rw [iz_le, iz_nI (by omega), iz_5] at h290; omega
      subst ej
      clear ih
      refine go_aload_n (i := 0) X rfl rfl dc_M_init_320 ?_
      refine go_cVv (C := rn_M) (ci := 7) (i := 0) (n := 0) (rest := []) X hN (tm_begin l D T ad _ nw K n hK4) ml_M_96 im_M_begin sl_M_Mbegin ik_M co_M_begin ⟨rfl, by decide, by decide, by decide +kernel⟩ ⟨rfl, rfl, by decide, by decide⟩ rfl (wl_at (by decide)) rfl rfl (Nat.le_of_ble_eq_true rfl) dc_M_init_321 ⟨by decide, by decide⟩ ?_
      refine go_eqw (congrArg (mW_ T ad K n) (mI_3 _ K)) ?_
      refine go_iconst (v := nI 0) X (by decide) dc_M_init_324 ?_
      refine go_istore_n (i := 3) X rfl (by decide) dc_M_init_325 ?_
      refine go_loc (L' := [(0, .ref (ad 0)), (3, .int (nI 0))]) rfl ?_
      refine (lp_up (P := fun j => Go_ P l e (rn_d 1 25 2105) s m args below meth c D cl_ _ 4 25 2105 _ (mW_ T ad K n (mI_ (fun _ => pi_ K) K 32 5 j)) 326 [(0, .ref (ad 0)), (3, .int (nI j))] []) 8 (fun j hj ih => ?_)) 0 (Nat.zero_le _)
      refine go_iload_n (i := 3) X rfl rfl dc_M_init_326 ?_
      refine go_bipush (v := 8) X (by decide) dc_M_init_327 ?_
      refine go_icmp_ge (tgt := 350) X dc_M_init_329 (by decide) (fun h329 => ?_) (fun h329 => ?_)
      · have ej : j = 8 := by rw [iz_le, iz_nI (by omega), e8] at h329; omega
        subst ej
        refine gm_same (ρ' := hm_init K) rfl (mI_5 K) ?_
        exact go_avret X ad h0 hr dc_M_init_350 rfl
      · have hlt : j < 8 := by rw [iz_le, iz_nI (by omega), e8] at h329; omega
        have hx : Ix_ (nI j) 8 j := Ix_n hlt (by omega)
        refine go_aload_n (i := 0) X rfl rfl dc_M_init_332 ?_
        refine gm_get X 29 (by decide) fl_M_83 rfl dc_M_init_333 ?_
        refine go_iload_n (i := 3) X rfl rfl dc_M_init_336 ?_
        refine go_aload_n (i := 0) X rfl rfl dc_M_init_337 ?_
        refine gm_get X 27 (by decide) fl_M_80 rfl dc_M_init_338 ?_
        refine go_iload_n (i := 3) X rfl rfl dc_M_init_341 ?_
        refine gm_ld (a := 24) (f := fun _ => pi_ K) X rfl (by decide) hx dc_M_init_342 ?_
        refine gm_st (a := 25) X (by decide) hx dc_M_init_343 ?_
        refine go_eqw (congrArg (mW_ T ad K n) (mI_4 _ K j)) ?_
        refine go_iinc (i := 3) (v := nI (j + 1)) X rfl (by rw [lit1]; exact nI_1 j) (by decide) dc_M_init_344 ?_
        refine go_goto (tgt := 326) X dc_M_init_347 (by decide) ?_
        refine go_loc (L' := [(0, .ref (ad 0)), (3, .int (nI (j + 1)))]) rfl ?_
        exact ih hlt
    · have hlt : j < 5 := by rw [iz_le, iz_nI (by omega), iz_5] at h290; omega
      have hx : Ix_ (nI j) 5 j := Ix_n hlt (by omega)
      refine go_aload_n (i := 0) X rfl rfl dc_M_init_293 ?_
      refine gm_get X 11 (by decide) fl_M_35 rfl dc_M_init_294 ?_
      refine go_iload_n (i := 3) X rfl rfl dc_M_init_297 ?_
      refine go_iconst (v := (-1)) X (by decide) dc_M_init_298 ?_
      refine gm_st (a := 9) X (by decide) hx dc_M_init_299 ?_
      refine go_aload_n (i := 0) X rfl rfl dc_M_init_300 ?_
      refine gm_get X 12 (by decide) fl_M_38 rfl dc_M_init_301 ?_
      refine go_iload_n (i := 3) X rfl rfl dc_M_init_304 ?_
      refine go_iconst (v := (-1)) X (by decide) dc_M_init_305 ?_
      refine gm_st (a := 10) X (by decide) hx dc_M_init_306 ?_
      refine go_aload_n (i := 0) X rfl rfl dc_M_init_307 ?_
      refine gm_get X 22 (by decide) fl_M_68 rfl dc_M_init_308 ?_
      refine go_iload_n (i := 3) X rfl rfl dc_M_init_311 ?_
      refine go_iconst (v := (-1)) X (by decide) dc_M_init_312 ?_
      refine gm_st (a := 20) X (by decide) hx dc_M_init_313 ?_
      refine go_eqw (congrArg (mW_ T ad K n) (mI_2 _ K j)) ?_
      refine go_iinc (i := 3) (v := nI (j + 1)) X rfl (by rw [lit1]; exact nI_1 j) (by decide) dc_M_init_314 ?_
      refine go_goto (tgt := 288) X dc_M_init_317 (by decide) ?_
      refine go_loc (L' := [(0, .ref (ad 0)), (3, .int (nI (j + 1)))]) rfl ?_
      exact ih hlt
  · have hlt : j < 32 := by rw [iz_le, iz_nI (by omega), e32] at h263; omega
    have hx : Ix_ (nI j) 32 j := Ix_n hlt (by omega)
    refine go_aload_n (i := 0) X rfl rfl dc_M_init_266 ?_
    refine gm_get X 5 (by decide) fl_M_17 rfl dc_M_init_267 ?_
    refine go_iload_n (i := 3) X rfl rfl dc_M_init_270 ?_
    refine go_iconst (v := (-1)) X (by decide) dc_M_init_271 ?_
    refine gm_st (a := 3) X (by decide) hx dc_M_init_272 ?_
    refine go_aload_n (i := 0) X rfl rfl dc_M_init_273 ?_
    refine gm_get X 6 (by decide) fl_M_20 rfl dc_M_init_274 ?_
    refine go_iload_n (i := 3) X rfl rfl dc_M_init_277 ?_
    refine go_iconst (v := (-1)) X (by decide) dc_M_init_278 ?_
    refine gm_st (a := 4) X (by decide) hx dc_M_init_279 ?_
    refine go_eqw (congrArg (mW_ T ad K n) (mI_1 _ K j)) ?_
    refine go_iinc (i := 3) (v := nI (j + 1)) X rfl (by rw [lit1]; exact nI_1 j) (by decide) dc_M_init_280 ?_
    refine go_goto (tgt := 260) X dc_M_init_283 (by decide) ?_
    refine go_loc (L' := [(0, .ref (ad 0)), (3, .int (nI (j + 1)))]) rfl ?_
    exact ih hlt
end MI_D

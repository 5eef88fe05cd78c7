section LP_A
/-- a loop that counts up to N -/
theorem lp_up {P : Nat → Prop} (N : Nat) (h : ∀ j, j ≤ N → (j < N → P (j + 1)) → P j) : ∀ j, j ≤ N → P j := by
  have key : ∀ k j, j + k = N → P j := by
    intro k
    induction k with
    | zero => intro j hj; exact h j (by omega) (fun hlt => by omega)
    | succ k ih => intro j hj; exact h j (by omega) (fun _ => ih (j + 1) (by omega))
  exact fun j hj => key (N - j) j (by omega)
/-- a loop that counts down to nothing -/
theorem lp_dn {P : Nat → Prop} (h : ∀ j, (∀ i, j = i + 1 → P i) → P j) : ∀ j, P j := by
  intro j
  induction j with
  | zero => exact h 0 (fun i e => by omega)
  | succ j ih => exact h (j + 1) (fun i e => by rw [show i = j by omega]; exact ih)
def fl_ (f : Nat → Int32) (v : Int32) (j : Nat) : Nat → Int32 := fun k => if k < j then v else f k
theorem fl_0 (f : Nat → Int32) (v : Int32) : fl_ f v 0 = f := by
  funext k; unfold fl_; rw [if_neg (by omega)]
theorem fl_s (f : Nat → Int32) (v : Int32) (j : Nat) : upd (fl_ f v j) j v = fl_ f v (j + 1) := by
  funext k
  unfold fl_ upd
  by_cases e : k = j
  · rw [if_pos e, if_pos (by omega)]
  · rw [if_neg e]
    dsimp only
    by_cases g : k < j
    · rw [if_pos g, if_pos (by omega)]
    · rw [if_neg g, if_neg (by omega)]
theorem fl_all {f : Nat → Int32} {v : Int32} {N j : Nat} (h : j < N) : fl_ f v N j = v := by unfold fl_; rw [if_pos h]
theorem nI_K {K : Nat} (hK : K < 4) (c : Nat) (hc : c < 100) : nI K = nI c ↔ K = c := nI_eq (by omega) (by omega)
theorem u21_id (ρ : ST_) (f : Nat → Int32) : u2_ (u1_ ρ 24 f) 0 2 (ρ 0 2) = u1_ ρ 24 f := by
  have h : (u1_ ρ 24 f) 0 2 = ρ 0 2 := rfl
  rw [← h, u2_id]
section
variable {p : Program} {l : Launch} {e : Env} {R : Room} {s : State} {m : MethodId} {args : Array Value} {below : List Frame} {meth : Method} {c : Code} {D : va_G} {cl : List vw_C} {A : Nat → Prop} {nL cells slots : Nat} {Q : State → Prop} {w w' : va_W}
variable {cc : ByteArray} {own : String} {tys : List (ClassId × FieldType)} {pc : Nat} {L : List (Nat × Value)} {rest : List Value} {nw : List Cond}
/-- a call that answers v, of a method of its own class's object -/
theorem go_cV (X : Cx_ p l e R s m args below meth c cc nL own D cl tys TG_) (hN : NW_ nw s) {C : String} {Tf : u_T} {Nf ci i a index maxL n : Nat} {y : MethodName} {bytes : ByteArray} {ret : Option FieldType} {rm : Room} {As fs st0 : List Value} {v : Value}
    (hM : Ct_ l D cl tys A nw y (.code y bytes maxL ret :: TG_) rm (.ref a :: As) w w' (some v)) (h1 : Cond.methodLink own index y ∈ TG_) (h2 : Cond.instanceMethod y ∈ TG_) (h3 : Cond.selects C y y ∈ TG_) (h4 : Cond.initialized C ∈ TG_) (h5 : Cond.code y bytes maxL ret ∈ TG_)
    (hd : y.cls = C ∧ y.cls ≠ "java/lang/invoke/MethodHandle" ∧ y.cls ≠ "java/lang/invoke/VarHandle" ∧ (parseMethodDescriptor y.desc).map (fun d => d.parameters.length) = some n) (hR : rm.cells = 0 ∧ rm.slots = 0 ∧ rm.frames + 1 ≤ R.frames ∧ 8 + (maxL + 11) + rm.locals ≤ R.locals)
    (hc : cl[ci]? = some (C, Tf, Nf)) (hw : w[i]? = some (a, .inr (ci, fs))) (hst : st0 = As.reverse ++ .ref a :: rest) (hn : As.length = n) (hroom : (rest.map fun v => v.category).sum ≤ 8) (d : decode cc pc = .ok (.invokevirtual index, 3)) (hcs : cells ≤ R.cells ∧ slots ≤ R.slots)
    (k : Go_ p l e R s m args below meth c D cl A nL cells slots Q w' (pc + 3) L (v :: rest)) : Go_ p l e R s m args below meth c D cl A nL cells slots Q w pc L st0 :=
  go_callV X hN hM h1 h2 h3 h4 h5 hd hR hc hw hst hn hroom d k hcs
theorem go_cVv (X : Cx_ p l e R s m args below meth c cc nL own D cl tys TG_) (hN : NW_ nw s) {C : String} {Tf : u_T} {Nf ci i a index maxL n : Nat} {y : MethodName} {bytes : ByteArray} {ret : Option FieldType} {rm : Room} {As fs st0 : List Value}
    (hM : Ct_ l D cl tys A nw y (.code y bytes maxL ret :: TG_) rm (.ref a :: As) w w' none) (h1 : Cond.methodLink own index y ∈ TG_) (h2 : Cond.instanceMethod y ∈ TG_) (h3 : Cond.selects C y y ∈ TG_) (h4 : Cond.initialized C ∈ TG_) (h5 : Cond.code y bytes maxL ret ∈ TG_)
    (hd : y.cls = C ∧ y.cls ≠ "java/lang/invoke/MethodHandle" ∧ y.cls ≠ "java/lang/invoke/VarHandle" ∧ (parseMethodDescriptor y.desc).map (fun d => d.parameters.length) = some n) (hR : rm.cells = 0 ∧ rm.slots = 0 ∧ rm.frames + 1 ≤ R.frames ∧ 8 + (maxL + 11) + rm.locals ≤ R.locals)
    (hc : cl[ci]? = some (C, Tf, Nf)) (hw : w[i]? = some (a, .inr (ci, fs))) (hst : st0 = As.reverse ++ .ref a :: rest) (hn : As.length = n) (hroom : (rest.map fun v => v.category).sum ≤ 8) (d : decode cc pc = .ok (.invokevirtual index, 3)) (hcs : cells ≤ R.cells ∧ slots ≤ R.slots)
    (k : Go_ p l e R s m args below meth c D cl A nL cells slots Q w' (pc + 3) L rest) : Go_ p l e R s m args below meth c D cl A nL cells slots Q w pc L st0 :=
  go_callV X hN hM h1 h2 h3 h4 h5 hd hR hc hw hst hn hroom d k hcs
end
end LP_A
section LP_B
theorem sh_0 (f : Nat → Int32) : sh_ f 0 = f := by
  funext k; unfold sh_; rw [if_neg (by omega)]
theorem sh_s (f : Nat → Int32) (j : Nat) : upd (sh_ f j) j (sh_ f j (j + 1)) = sh_ f (j + 1) := by
  funext k
  unfold sh_ upd
  by_cases e : k = j
  · subst e
    rw [if_pos rfl]
    show (if k + 1 < k then f (k + 1 + 1) else f (k + 1)) = if k < k + 1 then f (k + 1) else f k
    rw [if_neg (by omega), if_pos (by omega)]
  · rw [if_neg e]
    dsimp only
    by_cases g : k < j
    · rw [if_pos g, if_pos (by omega)]
    · rw [if_neg g, if_neg (by omega)]
theorem ix_and7 (a : Int32) : Ix_ (a &&& 7) 8 (ix_ (a &&& 7)) := ⟨pk_andIn a 3 (by decide) (by decide), rfl⟩
theorem ix_and3 (a : Int32) : Ix_ (a &&& 3) 4 (ix_ (a &&& 3)) := ⟨pk_andIn a 2 (by decide) (by decide), rfl⟩
theorem Ix_le {i : Int32} {N M j : Nat} (h : Ix_ i N j) (hNM : N ≤ M) : Ix_ i M j := by
  have h2 := vp_in_iff.mp h.1
  exact ⟨vp_in_iff.mpr ⟨h2.1, by omega⟩, h.2⟩
/-- a count of one to eight -/
theorem z_pred {z : Int32} (h : 0 ≤ z.toInt ∧ z.toInt ≤ 8) (hz : ¬ z = 0) : ∃ j, j < 8 ∧ z = nI (j + 1) ∧ z - 1 = nI j := by
  rw [iz_eq, iz_0] at hz
  obtain ⟨e, -⟩ := iz_of (x := z) h.1
  have hi := iz_ix z
  obtain ⟨j, hj⟩ : ∃ j, ix_ z = j + 1 := ⟨ix_ z - 1, by omega⟩
  rw [hj] at e
  exact ⟨j, by omega, e, by rw [e, nI_pred]⟩
end LP_B
section LP_C
theorem u12_eq (ρ : ST_) (c i : Nat) (v : Int32) : u1_ ρ c (upd (ρ c) i v) = u2_ ρ c i v := rfl
theorem u21_eq (ρ : ST_) (i : Nat) (v z : Int32) : u2_ (u1_ ρ 24 (upd (ρ 24) i v)) 0 2 z = u2_ (u2_ ρ 24 i v) 0 2 z := rfl
end LP_C
section LP_D
theorem u2_24 (ρ : ST_) (i : Nat) (v : Int32) : u2_ ρ 24 i v = u1_ ρ 24 (upd (ρ 24) i v) := rfl
theorem u11_24 (ρ : ST_) (f g : Nat → Int32) : u1_ (u1_ ρ 24 f) 24 g = u1_ ρ 24 g := by
  funext a
  by_cases h : a = 24
  · rw [h, u1_same, u1_same]
  · rw [u1_ne _ _ h, u1_ne _ _ h, u1_ne _ _ h]
theorem u1_24 (ρ : ST_) (f : Nat → Int32) : (u1_ ρ 24 f) 24 = f := u1_same ρ 24 f
end LP_D
section LP_E
theorem u12_c (ρ : ST_) (v : Int32) (f : Nat → Int32) : u1_ (u2_ ρ 0 2 v) 24 f = u2_ (u1_ ρ 24 f) 0 2 v := by
  funext a
  by_cases h : a = 24
  · rw [h, u1_same, u2_ne _ _ _ (by omega), u1_same]
  · rw [u1_ne _ _ h]
    by_cases h0 : a = 0
    · rw [h0, u2_same, u2_same, u1_ne _ _ (by omega)]
    · rw [u2_ne _ _ _ h0, u2_ne _ _ _ h0, u1_ne _ _ h]
theorem u22_c (ρ : ST_) (v v' : Int32) : u2_ (u2_ ρ 0 2 v) 0 2 v' = u2_ ρ 0 2 v' := by
  funext a j
  rw [u2_at, u2_at, u2_at]
  by_cases h : a = 0 ∧ j = 2
  · rw [if_pos h, if_pos h]
  · rw [if_neg h, if_neg h, if_neg h]
theorem hm_rep0 (K : Nat) (ρ : ST_) : hm_begin K ρ = hm_rep K 0 ρ := by
  unfold hm_begin hm_rep
  exact u12_c ρ 0 _
theorem hm_reps (K j : Nat) (ρ : ST_) : hm_act K (ρ 21 (j + 2)) (ρ 22 (j + 2)) (ρ 23 (j + 2)) (hm_rep K j ρ) = hm_rep K (j + 1) ρ := by
  unfold hm_act
  have h1 : hm_rep K j ρ 24 = (rs_ K (ρ 21) (ρ 22) (ρ 23) j).1 := rfl
  have h2 : hm_rep K j ρ 0 2 = (rs_ K (ρ 21) (ρ 22) (ρ 23) j).2.1 := rfl
  have h3 : rs_ K (ρ 21) (ρ 22) (ρ 23) (j + 1) = pa_ K (ρ 21 (j + 2)) (ρ 22 (j + 2)) (ρ 23 (j + 2)) (rs_ K (ρ 21) (ρ 22) (ρ 23) j).1 (rs_ K (ρ 21) (ρ 22) (ρ 23) j).2.1 := rfl
  rw [h1, h2, ← h3]
  unfold hm_rep
  rw [u12_c, u11_24, u22_c]
theorem hm_repsR (K j : Nat) (ρ : ST_) : hm_actR K (ρ 21 (j + 2)) (ρ 22 (j + 2)) (ρ 23 (j + 2)) (hm_rep K j ρ) = (rs_ K (ρ 21) (ρ 22) (ρ 23) (j + 1)).2.2 := rfl
end LP_E
section LP_F
/-- a counter that goes down: behind j it stands at j - 1 -/
def dn_ : Nat → Int32
  | 0 => -1
  | i + 1 => nI i
theorem dn_p (i : Nat) : nI i + Int32.ofInt (-1) = dn_ i := by
  rw [litm1]
  cases i with
  | zero => decide
  | succ i => exact pk_m1 i
theorem dn_neg {j : Nat} (hj : j ≤ 1000) : dn_ j < 0 ↔ j = 0 := by
  cases j with
  | zero => exact ⟨fun _ => rfl, fun _ => by decide⟩
  | succ i => exact ⟨fun h => absurd h (nI_pos (by omega)), fun h => by omega⟩
theorem hm_free_r (ρ : ST_) : (hm_free ρ).toInt < 32 := by
  unfold hm_free
  rw [fd_ff]
  cases h : ff_ (fun k => decide (ρ 1 k = 0)) 0 32 with
  | none => rw [iz_m]; omega
  | some k =>
    obtain ⟨-, hk, -, -⟩ := ff_some h
    show (nI k).toInt < 32
    rw [iz_nI (by omega)]; omega
/-- what a step of p reads lies in its arrays -/
def Om_ (n : Nat) (ρ : ST_) (p : Nat) : Prop :=
  (-1 ≤ (ρ 10 p).toInt ∧ (ρ 10 p).toInt ≤ 7) ∧ Ix_ (ρ 12 p) 32 (ix_ (ρ 12 p)) ∧ Ix_ (ρ 13 p) 32 (ix_ (ρ 13 p)) ∧ Ix_ (ρ 14 p) 32 (ix_ (ρ 14 p)) ∧
  (ρ 10 p = 1 → Ix_ (ρ 11 p) 5 (ix_ (ρ 11 p)) ∧ Ix_ (ρ 8 (ix_ (ρ 11 p))) 32 (ix_ (ρ 8 (ix_ (ρ 11 p))))) ∧
  (ρ 10 p = 3 → Ix_ (hm_q n ρ p) 5 (ix_ (hm_q n ρ p)) ∧ (0 ≤ ρ 9 (ix_ (hm_q n ρ p)) → Ix_ (ρ 9 (ix_ (hm_q n ρ p))) 32 (ix_ (ρ 9 (ix_ (hm_q n ρ p)))))) ∧
  (ρ 10 p = 5 → Ix_ (hm_k ρ p) 600 (ix_ (hm_k ρ p))) ∧
  (ρ 10 p = 7 → ∃ J, J + 1 < 600 ∧ ρ 2 (ix_ (ρ 12 p)) = nI (J + 1))
theorem st_cases {x : Int32} (h : -1 ≤ x.toInt ∧ x.toInt ≤ 7) : x = -1 ∨ x = 0 ∨ x = 1 ∨ x = 2 ∨ x = 3 ∨ x = 4 ∨ x = 5 ∨ x = 6 ∨ x = 7 := by
  simp only [iz_eq, iz_m, iz_0, iz_1, iz_2, iz_3, iz_4, iz_5, iz_6, iz_7]
  omega
end LP_F

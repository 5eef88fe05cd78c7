section GR_A
/-- a walk that has changed nothing so far -/
def Gr_ (p : Program) (l : Launch) (e : Env) (R : Room) (s : State) (m : MethodId) (args : Array Value) (below : List Frame) (meth : Method) (c : Code) (nL : Nat) (Q : State → Prop) (pc : Nat) (L : List (Nat × Value)) (st : List Value) : Prop :=
  ∀ ls : Array Slot, lh_ ls nL L → W p l e R s m args below meth c s.heap [] 0 0 Q (F0 m pc ls st)
variable {p : Program} {l : Launch} {e : Env} {R : Room} {s : State} {m : MethodId} {args : Array Value} {below : List Frame} {meth : Method} {c : Code} {D : va_G} {cl : List vw_C} {nL : Nat} {Q : State → Prop}
variable {cc : ByteArray} {own : String} {tys : List (ClassId × FieldType)} {TS : List Cond} {pc : Nat} {L : List (Nat × Value)} {rest : List Value} {nw : List Cond} {r : Option Value}
theorem gr_iconst (X : Cx_ p l e R s m args below meth c cc nL own D cl tys TS) {n : Int} {v : Int32} (hv : Int32.ofInt n = v) (d : decode cc pc = .ok (.iconst n, 1)) (k : Gr_ p l e R s m args below meth c nL Q (pc + 1) L (.int v :: rest)) : Gr_ p l e R s m args below meth c nL Q pc L rest := fun ls hl => lv_iconst X.1 X.2.1 d hv (k ls hl)
theorem gr_bipush (X : Cx_ p l e R s m args below meth c cc nL own D cl tys TS) {n : Int} {v : Int32} (hv : (Int8.ofInt n).toInt32 = v) (d : decode cc pc = .ok (.bipush n, 2)) (k : Gr_ p l e R s m args below meth c nL Q (pc + 2) L (.int v :: rest)) : Gr_ p l e R s m args below meth c nL Q pc L rest := fun ls hl => lv_bipush X.1 X.2.1 d hv (k ls hl)
theorem gr_sipush (X : Cx_ p l e R s m args below meth c cc nL own D cl tys TS) {n : Int} {v : Int32} (hv : (Int16.ofInt n).toInt32 = v) (d : decode cc pc = .ok (.sipush n, 3)) (k : Gr_ p l e R s m args below meth c nL Q (pc + 3) L (.int v :: rest)) : Gr_ p l e R s m args below meth c nL Q pc L rest := fun ls hl => lv_sipush X.1 X.2.1 d hv (k ls hl)
theorem gr_iload_n (X : Cx_ p l e R s m args below meth c cc nL own D cl tys TS) {j : Fin 4} {i : Nat} {x : Int32} (hi : (j : Nat) = i) (hk : lk_ L i = some (.int x)) (d : decode cc pc = .ok (.iload_n j, 1)) (k : Gr_ p l e R s m args below meth c nL Q (pc + 1) L (.int x :: rest)) : Gr_ p l e R s m args below meth c nL Q pc L rest := fun ls hl => lv_iload_n X.1 X.2.1 d hi (lh_get hl hk) (k ls hl)
theorem gr_iload (X : Cx_ p l e R s m args below meth c cc nL own D cl tys TS) {i : Nat} {x : Int32} (hk : lk_ L i = some (.int x)) (d : decode cc pc = .ok (.iload i, 2)) (k : Gr_ p l e R s m args below meth c nL Q (pc + 2) L (.int x :: rest)) : Gr_ p l e R s m args below meth c nL Q pc L rest := fun ls hl => lv_iload X.1 X.2.1 d (lh_get hl hk) (k ls hl)
theorem gr_aload_n (X : Cx_ p l e R s m args below meth c cc nL own D cl tys TS) {j : Fin 4} {i : Nat} {x : Nat} (hi : (j : Nat) = i) (hk : lk_ L i = some (.ref x)) (d : decode cc pc = .ok (.aload_n j, 1)) (k : Gr_ p l e R s m args below meth c nL Q (pc + 1) L (.ref x :: rest)) : Gr_ p l e R s m args below meth c nL Q pc L rest := fun ls hl => lv_aload_n X.1 X.2.1 d hi (lh_get hl hk) (k ls hl)
theorem gr_aload (X : Cx_ p l e R s m args below meth c cc nL own D cl tys TS) {i : Nat} {x : Nat} (hk : lk_ L i = some (.ref x)) (d : decode cc pc = .ok (.aload i, 2)) (k : Gr_ p l e R s m args below meth c nL Q (pc + 2) L (.ref x :: rest)) : Gr_ p l e R s m args below meth c nL Q pc L rest := fun ls hl => lv_aload X.1 X.2.1 d (lh_get hl hk) (k ls hl)
theorem gr_aloadN_n (X : Cx_ p l e R s m args below meth c cc nL own D cl tys TS) {j : Fin 4} {i : Nat} (hi : (j : Nat) = i) (hk : lk_ L i = some (.null)) (d : decode cc pc = .ok (.aload_n j, 1)) (k : Gr_ p l e R s m args below meth c nL Q (pc + 1) L (.null :: rest)) : Gr_ p l e R s m args below meth c nL Q pc L rest := fun ls hl => lv_aload_nN X.1 X.2.1 d hi (lh_get hl hk) (k ls hl)
theorem gr_aloadN (X : Cx_ p l e R s m args below meth c cc nL own D cl tys TS) {i : Nat} (hk : lk_ L i = some (.null)) (d : decode cc pc = .ok (.aload i, 2)) (k : Gr_ p l e R s m args below meth c nL Q (pc + 2) L (.null :: rest)) : Gr_ p l e R s m args below meth c nL Q pc L rest := fun ls hl => lv_aloadN X.1 X.2.1 d (lh_get hl hk) (k ls hl)
theorem gr_istore_n (X : Cx_ p l e R s m args below meth c cc nL own D cl tys TS) {j : Fin 4} {i : Nat} {x : Int32} (hi : (j : Nat) = i) (hn : i < nL) (d : decode cc pc = .ok (.istore_n j, 1)) (k : Gr_ p l e R s m args below meth c nL Q (pc + 1) (sv_ L i (.int x)) rest) : Gr_ p l e R s m args below meth c nL Q pc L (.int x :: rest) := fun ls hl => lv_istore_n X.1 X.2.1 d hi hl.1 hn rfl (fun ls' h' => k ls' (lh_set rfl hl.2 h'))
theorem gr_istore (X : Cx_ p l e R s m args below meth c cc nL own D cl tys TS) {i : Nat} {x : Int32} (hn : i < nL) (d : decode cc pc = .ok (.istore i, 2)) (k : Gr_ p l e R s m args below meth c nL Q (pc + 2) (sv_ L i (.int x)) rest) : Gr_ p l e R s m args below meth c nL Q pc L (.int x :: rest) := fun ls hl => lv_istore X.1 X.2.1 d hl.1 hn rfl (fun ls' h' => k ls' (lh_set rfl hl.2 h'))
theorem gr_astore_n (X : Cx_ p l e R s m args below meth c cc nL own D cl tys TS) {j : Fin 4} {i : Nat} {x : Nat} (hi : (j : Nat) = i) (hn : i < nL) (d : decode cc pc = .ok (.astore_n j, 1)) (k : Gr_ p l e R s m args below meth c nL Q (pc + 1) (sv_ L i (.ref x)) rest) : Gr_ p l e R s m args below meth c nL Q pc L (.ref x :: rest) := fun ls hl => lv_astore_n X.1 X.2.1 d hi hl.1 hn rfl (fun ls' h' => k ls' (lh_set rfl hl.2 h'))
theorem gr_astore (X : Cx_ p l e R s m args below meth c cc nL own D cl tys TS) {i : Nat} {x : Nat} (hn : i < nL) (d : decode cc pc = .ok (.astore i, 2)) (k : Gr_ p l e R s m args below meth c nL Q (pc + 2) (sv_ L i (.ref x)) rest) : Gr_ p l e R s m args below meth c nL Q pc L (.ref x :: rest) := fun ls hl => lv_astore X.1 X.2.1 d hl.1 hn rfl (fun ls' h' => k ls' (lh_set rfl hl.2 h'))
theorem gr_astoreN_n (X : Cx_ p l e R s m args below meth c cc nL own D cl tys TS) {j : Fin 4} {i : Nat} (hi : (j : Nat) = i) (hn : i < nL) (d : decode cc pc = .ok (.astore_n j, 1)) (k : Gr_ p l e R s m args below meth c nL Q (pc + 1) (sv_ L i (.null)) rest) : Gr_ p l e R s m args below meth c nL Q pc L (.null :: rest) := fun ls hl => lv_astore_nN X.1 X.2.1 d hi hl.1 hn rfl (fun ls' h' => k ls' (lh_set rfl hl.2 h'))
theorem gr_astoreN (X : Cx_ p l e R s m args below meth c cc nL own D cl tys TS) {i : Nat} (hn : i < nL) (d : decode cc pc = .ok (.astore i, 2)) (k : Gr_ p l e R s m args below meth c nL Q (pc + 2) (sv_ L i (.null)) rest) : Gr_ p l e R s m args below meth c nL Q pc L (.null :: rest) := fun ls hl => lv_astoreN X.1 X.2.1 d hl.1 hn rfl (fun ls' h' => k ls' (lh_set rfl hl.2 h'))
theorem gr_iinc (X : Cx_ p l e R s m args below meth c cc nL own D cl tys TS) {i : Nat} {n : Int} {x v : Int32} (hk : lk_ L i = some (.int x)) (hv : x + Int32.ofInt n = v) (hn : i < nL) (d : decode cc pc = .ok (.iinc i n, 3)) (k : Gr_ p l e R s m args below meth c nL Q (pc + 3) (sv_ L i (.int v)) rest) : Gr_ p l e R s m args below meth c nL Q pc L rest := fun ls hl => by
  obtain ⟨k9, hk9⟩ := lk_at hk
  exact lv_iinc X.1 X.2.1 d hl.1 hk9 hv hn rfl (fun ls' h' => k ls' (lh_set rfl hl.2 h'))
theorem gr_if_eq (X : Cx_ p l e R s m args below meth c cc nL own D cl tys TS) {x : Int32} {off : Int} {tgt : Nat} (d : decode cc pc = .ok (.ifCond .eq off, 3)) (ht : (pc : Int) + off = (tgt : Int)) (kt : x = 0 → Gr_ p l e R s m args below meth c nL Q tgt L rest) (kf : ¬ (x = 0) → Gr_ p l e R s m args below meth c nL Q (pc + 3) L rest) : Gr_ p l e R s m args below meth c nL Q pc L (.int x :: rest) := fun ls hl => lv_if_eq X.1 X.2.1 d ht (fun h => kt h ls hl) (fun h => kf h ls hl)
theorem gr_if_ne (X : Cx_ p l e R s m args below meth c cc nL own D cl tys TS) {x : Int32} {off : Int} {tgt : Nat} (d : decode cc pc = .ok (.ifCond .ne off, 3)) (ht : (pc : Int) + off = (tgt : Int)) (kt : ¬ x = 0 → Gr_ p l e R s m args below meth c nL Q tgt L rest) (kf : x = 0 → Gr_ p l e R s m args below meth c nL Q (pc + 3) L rest) : Gr_ p l e R s m args below meth c nL Q pc L (.int x :: rest) := fun ls hl => lv_if_ne X.1 X.2.1 d ht (fun h => kt h ls hl) (fun h => kf h ls hl)
theorem gr_if_lt (X : Cx_ p l e R s m args below meth c cc nL own D cl tys TS) {x : Int32} {off : Int} {tgt : Nat} (d : decode cc pc = .ok (.ifCond .lt off, 3)) (ht : (pc : Int) + off = (tgt : Int)) (kt : x < 0 → Gr_ p l e R s m args below meth c nL Q tgt L rest) (kf : ¬ (x < 0) → Gr_ p l e R s m args below meth c nL Q (pc + 3) L rest) : Gr_ p l e R s m args below meth c nL Q pc L (.int x :: rest) := fun ls hl => lv_if_lt X.1 X.2.1 d ht (fun h => kt h ls hl) (fun h => kf h ls hl)
theorem gr_if_ge (X : Cx_ p l e R s m args below meth c cc nL own D cl tys TS) {x : Int32} {off : Int} {tgt : Nat} (d : decode cc pc = .ok (.ifCond .ge off, 3)) (ht : (pc : Int) + off = (tgt : Int)) (kt : 0 ≤ x → Gr_ p l e R s m args below meth c nL Q tgt L rest) (kf : ¬ (0 ≤ x) → Gr_ p l e R s m args below meth c nL Q (pc + 3) L rest) : Gr_ p l e R s m args below meth c nL Q pc L (.int x :: rest) := fun ls hl => lv_if_ge X.1 X.2.1 d ht (fun h => kt h ls hl) (fun h => kf h ls hl)
theorem gr_if_gt (X : Cx_ p l e R s m args below meth c cc nL own D cl tys TS) {x : Int32} {off : Int} {tgt : Nat} (d : decode cc pc = .ok (.ifCond .gt off, 3)) (ht : (pc : Int) + off = (tgt : Int)) (kt : 0 < x → Gr_ p l e R s m args below meth c nL Q tgt L rest) (kf : ¬ (0 < x) → Gr_ p l e R s m args below meth c nL Q (pc + 3) L rest) : Gr_ p l e R s m args below meth c nL Q pc L (.int x :: rest) := fun ls hl => lv_if_gt X.1 X.2.1 d ht (fun h => kt h ls hl) (fun h => kf h ls hl)
theorem gr_if_le (X : Cx_ p l e R s m args below meth c cc nL own D cl tys TS) {x : Int32} {off : Int} {tgt : Nat} (d : decode cc pc = .ok (.ifCond .le off, 3)) (ht : (pc : Int) + off = (tgt : Int)) (kt : x ≤ 0 → Gr_ p l e R s m args below meth c nL Q tgt L rest) (kf : ¬ (x ≤ 0) → Gr_ p l e R s m args below meth c nL Q (pc + 3) L rest) : Gr_ p l e R s m args below meth c nL Q pc L (.int x :: rest) := fun ls hl => lv_if_le X.1 X.2.1 d ht (fun h => kt h ls hl) (fun h => kf h ls hl)
theorem gr_icmp_eq (X : Cx_ p l e R s m args below meth c cc nL own D cl tys TS) {x y : Int32} {off : Int} {tgt : Nat} (d : decode cc pc = .ok (.if_icmp .eq off, 3)) (ht : (pc : Int) + off = (tgt : Int)) (kt : x = y → Gr_ p l e R s m args below meth c nL Q tgt L rest) (kf : ¬ (x = y) → Gr_ p l e R s m args below meth c nL Q (pc + 3) L rest) : Gr_ p l e R s m args below meth c nL Q pc L (.int y :: .int x :: rest) := fun ls hl => lv_icmp_eq X.1 X.2.1 d ht (fun h => kt h ls hl) (fun h => kf h ls hl)
theorem gr_icmp_ne (X : Cx_ p l e R s m args below meth c cc nL own D cl tys TS) {x y : Int32} {off : Int} {tgt : Nat} (d : decode cc pc = .ok (.if_icmp .ne off, 3)) (ht : (pc : Int) + off = (tgt : Int)) (kt : ¬ x = y → Gr_ p l e R s m args below meth c nL Q tgt L rest) (kf : x = y → Gr_ p l e R s m args below meth c nL Q (pc + 3) L rest) : Gr_ p l e R s m args below meth c nL Q pc L (.int y :: .int x :: rest) := fun ls hl => lv_icmp_ne X.1 X.2.1 d ht (fun h => kt h ls hl) (fun h => kf h ls hl)
theorem gr_icmp_lt (X : Cx_ p l e R s m args below meth c cc nL own D cl tys TS) {x y : Int32} {off : Int} {tgt : Nat} (d : decode cc pc = .ok (.if_icmp .lt off, 3)) (ht : (pc : Int) + off = (tgt : Int)) (kt : x < y → Gr_ p l e R s m args below meth c nL Q tgt L rest) (kf : ¬ (x < y) → Gr_ p l e R s m args below meth c nL Q (pc + 3) L rest) : Gr_ p l e R s m args below meth c nL Q pc L (.int y :: .int x :: rest) := fun ls hl => lv_icmp_lt X.1 X.2.1 d ht (fun h => kt h ls hl) (fun h => kf h ls hl)
theorem gr_icmp_ge (X : Cx_ p l e R s m args below meth c cc nL own D cl tys TS) {x y : Int32} {off : Int} {tgt : Nat} (d : decode cc pc = .ok (.if_icmp .ge off, 3)) (ht : (pc : Int) + off = (tgt : Int)) (kt : y ≤ x → Gr_ p l e R s m args below meth c nL Q tgt L rest) (kf : ¬ (y ≤ x) → Gr_ p l e R s m args below meth c nL Q (pc + 3) L rest) : Gr_ p l e R s m args below meth c nL Q pc L (.int y :: .int x :: rest) := fun ls hl => lv_icmp_ge X.1 X.2.1 d ht (fun h => kt h ls hl) (fun h => kf h ls hl)
theorem gr_icmp_gt (X : Cx_ p l e R s m args below meth c cc nL own D cl tys TS) {x y : Int32} {off : Int} {tgt : Nat} (d : decode cc pc = .ok (.if_icmp .gt off, 3)) (ht : (pc : Int) + off = (tgt : Int)) (kt : y < x → Gr_ p l e R s m args below meth c nL Q tgt L rest) (kf : ¬ (y < x) → Gr_ p l e R s m args below meth c nL Q (pc + 3) L rest) : Gr_ p l e R s m args below meth c nL Q pc L (.int y :: .int x :: rest) := fun ls hl => lv_icmp_gt X.1 X.2.1 d ht (fun h => kt h ls hl) (fun h => kf h ls hl)
theorem gr_icmp_le (X : Cx_ p l e R s m args below meth c cc nL own D cl tys TS) {x y : Int32} {off : Int} {tgt : Nat} (d : decode cc pc = .ok (.if_icmp .le off, 3)) (ht : (pc : Int) + off = (tgt : Int)) (kt : x ≤ y → Gr_ p l e R s m args below meth c nL Q tgt L rest) (kf : ¬ (x ≤ y) → Gr_ p l e R s m args below meth c nL Q (pc + 3) L rest) : Gr_ p l e R s m args below meth c nL Q pc L (.int y :: .int x :: rest) := fun ls hl => lv_icmp_le X.1 X.2.1 d ht (fun h => kt h ls hl) (fun h => kf h ls hl)
theorem gr_goto (X : Cx_ p l e R s m args below meth c cc nL own D cl tys TS) {off : Int} {tgt : Nat} (d : decode cc pc = .ok (.goto off, 3)) (ht : (pc : Int) + off = (tgt : Int)) (k : Gr_ p l e R s m args below meth c nL Q tgt L rest) : Gr_ p l e R s m args below meth c nL Q pc L rest := fun ls hl => lv_goto X.1 X.2.1 d ht (k ls hl)
theorem gr_ifnonnull (X : Cx_ p l e R s m args below meth c cc nL own D cl tys TS) {x : Nat} {off : Int} {tgt : Nat} (d : decode cc pc = .ok (.ifnonnull off, 3)) (ht : (pc : Int) + off = (tgt : Int)) (k : Gr_ p l e R s m args below meth c nL Q tgt L rest) : Gr_ p l e R s m args below meth c nL Q pc L (.ref x :: rest) := fun ls hl => lv_ifnonnull X.1 X.2.1 d ht (k ls hl)
theorem gr_ifnonnullN (X : Cx_ p l e R s m args below meth c cc nL own D cl tys TS) {off : Int} (d : decode cc pc = .ok (.ifnonnull off, 3)) (k : Gr_ p l e R s m args below meth c nL Q (pc + 3) L rest) : Gr_ p l e R s m args below meth c nL Q pc L (.null :: rest) := fun ls hl => lv_ifnonnullN X.1 X.2.1 d (k ls hl)
theorem gr_null (X : Cx_ p l e R s m args below meth c cc nL own D cl tys TS) (d : decode cc pc = .ok (.aconst_null, 1)) (k : Gr_ p l e R s m args below meth c nL Q (pc + 1) L (.null :: rest)) : Gr_ p l e R s m args below meth c nL Q pc L rest := fun ls hl => lv_null X.1 X.2.1 d (k ls hl)
theorem gr_pop (X : Cx_ p l e R s m args below meth c cc nL own D cl tys TS) {v : Value} (hv : v.category = 1) (d : decode cc pc = .ok (.pop, 1)) (k : Gr_ p l e R s m args below meth c nL Q (pc + 1) L rest) : Gr_ p l e R s m args below meth c nL Q pc L (v :: rest) := fun ls hl => lv_pop X.1 X.2.1 d hv (k ls hl)
theorem gr_loc {L' : List (Nat × Value)} (hs : L'.map (fun q => lk_ L q.1) = L'.map (fun q => some q.2)) (k : Gr_ p l e R s m args below meth c nL Q pc L' rest) : Gr_ p l e R s m args below meth c nL Q pc L rest := fun ls hl => k ls (lh_sub hl hs)
variable {ad : Nat → Nat} {N : Nat} {g : Nat → va_E}
theorem gr_get (X : Cx_ p l e R s m args below meth c cc nL own D cl tys TS) (hP : va_P D cl (wl_ ad N g) s.heap) {C ref : String} {T : u_T} {Nf ci i k index : Nat} {fs : List Value} {v : Value} (hin : ∀ w ∈ u_ws C T Nf, w ∈ TS) (hc : cl[ci]? = some (C, T, Nf)) (hi : i < N) (hg : g i = .inr (ci, fs)) (hk : k < Nf) (hl : Cond.fieldLink own index ref (T k).2.1 (T k).2.2.1 ∈ TS) (hsame : ∀ x, s.fieldFound? (T k).1 (T k).2.1 (T k).2.2.1 = some x → s.fieldFound? ref (T k).2.1 (T k).2.2.1 = some x) (hv : fs[k]? = some v) (d : decode cc pc = .ok (.getfield index, 3))
    (kk : Gr_ p l e R s m args below meth c nL Q (pc + 3) L (v :: rest)) : Gr_ p l e R s m args below meth c nL Q pc L (.ref (ad i) :: rest) := fun ls h =>
  va_get X.1 X.2.1 X.2.2.2.2.1 hin X.2.2.2.1 X.2.2.2.2.2.1 hP i (by rw [wl_at hi, hg]) hc k hk (X.2.2.2.2.1 _ hl) hsame hv d (kk ls h)
theorem gr_alen (X : Cx_ p l e R s m args below meth c cc nL own D cl tys TS) (hP : va_P D cl (wl_ ad N g) s.heap) {i t0 : Nat} {cA : ClassId} {x : vp_A} {ty : FieldType} {v : Int32} (hi : i < N) (hg : g i = .inl (cA, x)) (ht : tys[t0]? = some (cA, ty)) (hv : Int32.ofNat x.1 = v) (d : decode cc pc = .ok (.arraylength, 1))
    (kk : Gr_ p l e R s m args below meth c nL Q (pc + 1) L (.int v :: rest)) : Gr_ p l e R s m args below meth c nL Q pc L (.ref (ad i) :: rest) := fun ls h =>
  va_alen X.1 X.2.1 X.2.2.2.2.2.1 hP i t0 (by rw [wl_at hi, hg]) ht hv d (kk ls h)
theorem gr_aald (X : Cx_ p l e R s m args below meth c cc nL own D cl tys TS) (hP : va_P D cl (wl_ ad N g) s.heap) {i t0 n : Nat} {cA : ClassId} {C : String} {f : Nat → Option Nat} {j : Int32} {j' a : Nat} (hi : i < N) (hg : g i = .inl (cA, n, .inr (.inr (.inr (.inr f))))) (ht : tys[t0]? = some (cA, .object C)) (hj : vp_in j n) (hj' : j.toNatClampNeg = j') (ha : f j' = some a) (d : decode cc pc = .ok (.aaload, 1))
    (kk : Gr_ p l e R s m args below meth c nL Q (pc + 1) L (.ref a :: rest)) : Gr_ p l e R s m args below meth c nL Q pc L (.int j :: .ref (ad i) :: rest) := fun ls h => by
  subst hj'
  refine va_aldq X.1 X.2.1 X.2.2.2.2.2.1 hP i t0 (by rw [wl_at hi, hg]) ht hj d ?_
  rw [ha]
  exact kk ls h
end GR_A
section GR_B
/-- a method that changes nothing -/
def Pr_ (D : va_G) (cl : List vw_C) (tys : List (ClassId × FieldType)) (nw : List Cond) (w : va_W) (U : State) : Prop := va_P D cl w U.heap ∧ va_K D cl tys U ∧ NW_ nw U
def Qr_ (r : Option Value) : Array Value → State → Outcome → State → Prop := fun _ st oc t => oc = .returned r ∧ t.heap = st.heap
def Ru_ (l : Launch) (D : va_G) (cl : List vw_C) (tys : List (ClassId × FieldType)) (nw : List Cond) (y : MethodName) (ws : List Cond) (rm : Room) (av : List Value) (w : va_W) (r : Option Value) : Prop :=
  Met l y ws rm (va_Pc av (Pr_ D cl tys nw w)) (Qr_ r) 0 0 (fun _ => False)
/-- a method that throws an object of class C and changes nothing -/
def Px_ (D : va_G) (cl : List vw_C) (tys : List (ClassId × FieldType)) (nw : List Cond) (N : Nat) (w : va_W) (U : State) : Prop := va_P D cl w U.heap ∧ va_K D cl tys U ∧ NW_ nw U ∧ Tw_ N U
def Rx_ (l : Launch) (D : va_G) (cl : List vw_C) (tys : List (ClassId × FieldType)) (nw : List Cond) (N : Nat) (y : MethodName) (ws : List Cond) (rm : Room) (av : List Value) (w : va_W) (C : String) : Prop :=
  Mx_ l y ws rm (va_Pc av (Px_ D cl tys nw N w)) C
def rx_d (d : Nat) : Room := { frames := d, cells := 1, slots := 6, locals := 30 * d }
variable {p : Program} {l : Launch} {e : Env} {R : Room} {s : State} {m : MethodId} {args : Array Value} {below : List Frame} {meth : Method} {c : Code} {D : va_G} {cl : List vw_C} {nL : Nat} {Q : State → Prop}
variable {cc : ByteArray} {own : String} {tys : List (ClassId × FieldType)} {TS : List Cond} {pc : Nat} {L : List (Nat × Value)} {rest : List Value} {nw : List Cond} {r : Option Value}
variable {w : va_W} {N : Nat} {C : String}
theorem Pr_blind {av : List Value} : FrameBlind (va_Pc av (Pr_ D cl tys nw w)) :=
  fun a U g mk h => ⟨h.1, h.2.1, va_K.moved (u := U) (U := U.calling g mk a) (Vm.Alike.refl U.vm) h.2.2.1, NW_warm (U := U.calling g mk a) (State.WarmedH.refl U) h.2.2.2⟩
theorem Px_blind {av : List Value} : FrameBlind (va_Pc av (Px_ D cl tys nw N w)) :=
  fun a U g mk h => ⟨h.1, h.2.1, va_K.moved (u := U) (U := U.calling g mk a) (Vm.Alike.refl U.vm) h.2.2.1, NW_warm (U := U.calling g mk a) (State.WarmedH.refl U) h.2.2.2.1, Tw_keep (U := U.calling g mk a) (State.WarmedH.refl U) (fun q _ => rfl) h.2.2.2.2⟩
theorem ru_in {y : MethodName} {rm : Room} {av : List Value} {maxL : Nat} {ret : Option FieldType} (hy : plainName y.cls = true) (hav : (lg_sl av).length ≤ maxL) (hcat : ∀ q ∈ lv_args 0 av, q.2.category = 1)
    (body : ∀ p e s m args below meth c, Cx_ p l e rm s m args below meth c cc maxL y.cls D cl tys TG_ → meth.sig.returnType = ret → NW_ nw s → va_P D cl w s.heap →
      Gr_ p l e rm s m args below meth c maxL (MQ below (Qr_ r) args s 0 0 (fun _ => False)) 0 (lv_args 0 av) []) : Ru_ l D cl tys nw y (.code y cc maxL ret :: TG_) rm av w r := by
  refine Met.ofW (cc := cc) (maxL := maxL) (ret := ret) hy rfl ?_
  intro p e s m args below meth c s₁ B hml hv
  obtain ⟨hargs, hP, hK, hN⟩ := hv
  have hl := lv_entry av (n := maxL) hav
  rw [hargs, lg_entry_eq]
  have hts := atoms_spec (ws := .code y cc maxL ret :: TG_) B.pre
  have X : Cx_ p l e rm s m args below meth c cc maxL y.cls D cl tys TG_ := ⟨B.exec, B.bytes, hml, findClass_of_methodNamed B.named, fun w hw => hts w (List.mem_cons_of_mem _ hw), hK, B.notSynchronized⟩
  have k := body p e s m args below meth c X B.returns hN hP _ ⟨hl, hcat⟩
  rw [hargs] at k
  exact k
theorem rx_in {y : MethodName} {rm : Room} {av : List Value} {maxL : Nat} {ret : Option FieldType} (hy : plainName y.cls = true) (hav : (lg_sl av).length ≤ maxL) (hcat : ∀ q ∈ lv_args 0 av, q.2.category = 1)
    (body : ∀ p e s m args below meth c, Cx_ p l e rm s m args below meth c cc maxL y.cls D cl tys TG_ → c.exceptionTable.isEmpty = true → NW_ nw s → Tw_ N s → va_P D cl w s.heap →
      Gr_ p l e rm s m args below meth c maxL (XQ_ below C s) 0 (lv_args 0 av) []) : Rx_ l D cl tys nw N y (.code y cc maxL ret :: TG_) rm av w C := by
  refine Mx_ofW (cc := cc) (maxL := maxL) (ret := ret) hy rfl ?_
  intro p e s m args below meth c s₁ B hml hxt hv
  obtain ⟨hargs, hP, hK, hN, hT⟩ := hv
  have hl := lv_entry av (n := maxL) hav
  rw [hargs, lg_entry_eq]
  have hts := atoms_spec (ws := .code y cc maxL ret :: TG_) B.pre
  have X : Cx_ p l e rm s m args below meth c cc maxL y.cls D cl tys TG_ := ⟨B.exec, B.bytes, hml, findClass_of_methodNamed B.named, fun w hw => hts w (List.mem_cons_of_mem _ hw), hK, B.notSynchronized⟩
  have k := body p e s m args below meth c X hxt hN hT hP _ ⟨hl, hcat⟩
  rw [hargs] at k
  exact k
theorem gr_iret (X : Cx_ p l e R s m args below meth c cc nL own D cl tys TS) {v : Int32} (hr : meth.sig.returnType = some .int) (d : decode cc pc = .ok (.ireturn, 1)) (hv : some (.int v) = r) : Gr_ p l e R s m args below meth c nL (MQ below (Qr_ r) args s 0 0 (fun _ => False)) pc L [.int v] := by
  subst hv
  intro ls hl
  exact W.iret X.1 X.2.1 hr (fun t ht hW => ⟨rfl, ht⟩) (fun q hq => nomatch hq) d X.2.2.2.2.2.2
theorem gr_zret (X : Cx_ p l e R s m args below meth c cc nL own D cl tys TS) {v : Int32} (hr : meth.sig.returnType = some .boolean) (hn : narrow .boolean (.int v) = .int v) (d : decode cc pc = .ok (.ireturn, 1)) (hv : some (.int v) = r) : Gr_ p l e R s m args below meth c nL (MQ below (Qr_ r) args s 0 0 (fun _ => False)) pc L [.int v] := by
  subst hv
  intro ls hl
  exact W.zret X.1 X.2.1 hr hn (fun t ht hW => ⟨rfl, ht⟩) (fun q hq => nomatch hq) d X.2.2.2.2.2.2
theorem gr_vret (X : Cx_ p l e R s m args below meth c cc nL own D cl tys TS) (hr : meth.sig.returnType = none) (d : decode cc pc = .ok (.return_, 1)) (hv : none = r) : Gr_ p l e R s m args below meth c nL (MQ below (Qr_ r) args s 0 0 (fun _ => False)) pc L [] := by
  subst hv
  intro ls hl
  exact W.vret X.1 X.2.1 hr (fun t ht hW => ⟨rfl, ht⟩) (fun q hq => nomatch hq) d X.2.2.2.2.2.2
theorem gr_aret (X : Cx_ p l e R s m args below meth c cc nL own D cl tys TS) {v : Value} {n : String} (hr : meth.sig.returnType = some (.object n)) (hv0 : v = .null ∨ ∃ a, v = .ref a) (d : decode cc pc = .ok (.areturn, 1)) (hv : some v = r) : Gr_ p l e R s m args below meth c nL (MQ below (Qr_ r) args s 0 0 (fun _ => False)) pc L [v] := by
  subst hv
  intro ls hl
  exact W.aret X.1 X.2.1 hr (Or.inl ⟨n, rfl⟩) hv0 (fun t ht hW => ⟨rfl, ht⟩) (fun q hq => nomatch hq) d X.2.2.2.2.2.2
/-- a call of a method that changes nothing -/
theorem gr_run {st0 : List Value} {a : Array Value}
    (hr : ∀ (ls : Array Slot), lh_ ls nL L → va_Run p l e R s m args below meth c s.heap [] 0 0 0 0 (F0 m pc ls st0) rest (Qr_ r a) (fun _ => False))
    (k : Gr_ p l e R s m args below meth c nL Q (pc + 3) L (r.toList ++ rest)) : Gr_ p l e R s m args below meth c nL Q pc L st0 := by
  intro ls hl T hT X
  obtain ⟨v, st₀, t, T', L', h0, X', hL, e1, e2, ⟨hoc, hh⟩, st⟩ := hr ls hl T hT X
  cases hoc
  have hL' : L' = [] := by
    cases L' with
    | nil => rfl
    | cons q t => exact absurd (hL q List.mem_cons_self) id
  subst hL'
  obtain ⟨t2, a1, b1⟩ := k ls hl T' (by rw [e1, hh, h0]) X'
  exact ⟨t2, st t2 a1, b1⟩
theorem gr_callV (X : Cx_ p l e R s m args below meth c cc nL own D cl tys TG_) (hN : NW_ nw s) (hP : va_P D cl w s.heap) {Tf : u_T} {Nf ci i a index maxL n : Nat} {y : MethodName} {bytes : ByteArray} {ret : Option FieldType} {rm : Room} {As fs st0 : List Value}
    (hM : Ru_ l D cl tys nw y (.code y bytes maxL ret :: TG_) rm (.ref a :: As) w r) (h1 : Cond.methodLink own index y ∈ TG_) (h2 : Cond.instanceMethod y ∈ TG_) (h3 : Cond.selects C y y ∈ TG_) (h4 : Cond.initialized C ∈ TG_) (h5 : Cond.code y bytes maxL ret ∈ TG_)
    (hd : y.cls = C ∧ y.cls ≠ "java/lang/invoke/MethodHandle" ∧ y.cls ≠ "java/lang/invoke/VarHandle" ∧ (parseMethodDescriptor y.desc).map (fun d => d.parameters.length) = some n) (hR : rm.cells = 0 ∧ rm.slots = 0 ∧ rm.frames + 1 ≤ R.frames ∧ 8 + (maxL + 11) + rm.locals ≤ R.locals)
    (hc : cl[ci]? = some (C, Tf, Nf)) (hw : w[i]? = some (a, .inr (ci, fs))) (hst : st0 = As.reverse ++ .ref a :: rest) (hn : As.length = n) (hroom : (rest.map fun v => v.category).sum ≤ 8) (d : decode cc pc = .ok (.invokevirtual index, 3))
    (k : Gr_ p l e R s m args below meth c nL Q (pc + 3) L (r.toList ++ rest)) : Gr_ p l e R s m args below meth c nL Q pc L st0 := by
  refine gr_run (r := r) (rest := rest) (a := (Value.ref a :: As).toArray) (fun ls hl => ?_) k
  obtain ⟨hx, hb, hml, hown, hts, hK, -⟩ := X
  exact va_runV (As := As) (rest := rest) ⟨hx, hb, hml, hown, hts⟩ hM (cwV n hts (tg_wsV h1 h2 h3 h4 h5) rfl hR.1 hR.2.1 hd hR.2.2) ⟨Pr_blind, va_recv hK hP hc hw, fun U hU hW => ⟨rfl, by rw [hU]; exact hP, va_K.moved hW.alike hK, NW_warm hW hN⟩⟩ rfl hn hl.1.1 hst (lv_room hroom) d ⟨Nat.zero_le _, Nat.zero_le _⟩
theorem gr_callT (X : Cx_ p l e R s m args below meth c cc nL own D cl tys TG_) (hN : NW_ nw s) (hP : va_P D cl w s.heap) {index maxL n : Nat} {y : MethodName} {bytes : ByteArray} {ret : Option FieldType} {rm : Room} {As st0 : List Value}
    (hM : Ru_ l D cl tys nw y (.code y bytes maxL ret :: TG_) rm As w r) (h1 : Cond.methodLink own index y ∈ TG_) (h2 : Cond.static y ∈ TG_) (h4 : Cond.initialized y.cls ∈ TG_) (h5 : Cond.code y bytes maxL ret ∈ TG_)
    (hd : y.cls ≠ "java/lang/invoke/MethodHandle" ∧ y.cls ≠ "java/lang/invoke/VarHandle" ∧ (parseMethodDescriptor y.desc).map (fun d => d.parameters.length) = some n) (hR : rm.cells = 0 ∧ rm.slots = 0 ∧ rm.frames + 1 ≤ R.frames ∧ 8 + (maxL + 11) + rm.locals ≤ R.locals)
    (hst : st0 = As.reverse ++ rest) (hn : As.length = n) (hroom : (rest.map fun v => v.category).sum ≤ 8) (d : decode cc pc = .ok (.invokestatic index, 3))
    (k : Gr_ p l e R s m args below meth c nL Q (pc + 3) L (r.toList ++ rest)) : Gr_ p l e R s m args below meth c nL Q pc L st0 := by
  refine gr_run (r := r) (rest := rest) (a := As.toArray) (fun ls hl => ?_) k
  obtain ⟨hx, hb, hml, hown, hts, hK, -⟩ := X
  exact va_runS (As := As) (rest := rest) ⟨hx, hb, hml, hown, hts⟩ hM ⟨callB_of n hts (tg_c h5) rfl hR.1 hR.2.1 (hts _ h4) (hts _ h1) hd hR.2.2, hts _ h2⟩ ⟨Pr_blind, fun U hU hW => ⟨rfl, by rw [hU]; exact hP, va_K.moved hW.alike hK, NW_warm hW hN⟩⟩ rfl hn hl.1.1 hst (lv_room hroom) d ⟨Nat.zero_le _, Nat.zero_le _⟩
/-- what a call that throws leaves: the object x of class C, all else as it was -/
def Tn_ (p : Program) (l : Launch) (e : Env) (R : Room) (s : State) (m : MethodId) (args : Array Value) (below : List Frame) (meth : Method) (c : Code) (C : String) (T : State) (g g' : JFrame) : Prop :=
  ∃ (x : Addr) (ce : Cell) (T' : State), s.heap.size ≤ x ∧ T'.heap[x]? = some ce ∧ s.vm.findClass C = some ce.cls ∧ ce.vm = .none ∧ s.vm.assignable ce.cls ce.cls = true ∧ (∀ q, q < s.heap.size → T'.heap[q]? = s.heap[q]?) ∧ Stand p l e R s m args below meth c T' [] 1 6 ∧
    ∀ target, Steps p.tables e below ((T'.setTop g').pushFrame (.throwing x)) target → Steps p.tables e below (T.setTop g) target
theorem tn_V (X : Cx_ p l e R s m args below meth c cc nL own D cl tys TG_) (hN : NW_ nw s) (hTw : Tw_ N s) (hP : va_P D cl w s.heap) {K : String} {Tf : u_T} {Nf ci i a index maxL n : Nat} {y : MethodName} {bytes : ByteArray} {ret : Option FieldType} {rm : Room} {As fs st0 : List Value}
    (hM : Rx_ l D cl tys nw N y (.code y bytes maxL ret :: TG_) rm (.ref a :: As) w C) (h1 : Cond.methodLink own index y ∈ TG_) (h2 : Cond.instanceMethod y ∈ TG_) (h3 : Cond.selects K y y ∈ TG_) (h4 : Cond.initialized K ∈ TG_) (h5 : Cond.code y bytes maxL ret ∈ TG_)
    (hd : y.cls = K ∧ y.cls ≠ "java/lang/invoke/MethodHandle" ∧ y.cls ≠ "java/lang/invoke/VarHandle" ∧ (parseMethodDescriptor y.desc).map (fun d => d.parameters.length) = some n) (hR : rm.cells = 1 ∧ rm.slots = 6 ∧ rm.frames + 1 ≤ R.frames ∧ 8 + (maxL + 11) + rm.locals ≤ R.locals ∧ 1 ≤ R.cells ∧ 6 ≤ R.slots)
    (hc : cl[ci]? = some (K, Tf, Nf)) (hw : w[i]? = some (a, .inr (ci, fs))) (hst : st0 = As.reverse ++ .ref a :: rest) (hn : As.length = n) (hroom : (rest.map fun v => v.category).sum ≤ 8) (d : decode cc pc = .ok (.invokevirtual index, 3))
    {ls : Array Slot} (hl : lh_ ls nL L) {T : State} (hT : T.heap = s.heap) (Y : Stand p l e R s m args below meth c T [] 0 0) : Tn_ p l e R s m args below meth c C T (F0 m pc ls st0) (F0 m pc ls rest) := by
  obtain ⟨hx, hb, hml, hown, hts, hK, -⟩ := X
  obtain ⟨hd1, hd2, hd3, hd4⟩ := hd
  obtain ⟨mk, methM, hnamed, hmethM, hstM, habM⟩ := Cond.instanceMethod_spec (hts _ h2)
  obtain ⟨methM', cM, hmethM', -, -, -, -, -, -, hsigM⟩ := Cond.code_spec hnamed (hts _ h5)
  cases hmethM.symm.trans hmethM'
  obtain ⟨c2, r2, m2, q1, q2, q3, q4, kP, hkP, hkPi⟩ := Cond.selects_spec (hts _ h3)
  obtain ⟨cellB, hcB, hoB, hclB⟩ := va_recv hK hP hc hw
  cases hclB.symm.trans q1
  cases (State.methodFound?_of_named hnamed ⟨hd2, hd3⟩).symm.trans q2
  cases hnamed.symm.trans q3
  have hselP : selectMethod e.platform s.vm cellB.cls mk = .method mk := by rw [Launch.admits_selectMethod Y.admits]; exact q4
  have hlen : As.length = methM.sig.parameters.length := by
    rw [hsigM] at hd4
    rw [hn]
    exact (Option.some.inj hd4).symm
  obtain ⟨vm₁, X₁, hstep₁⟩ := Y.invokevirtual hx hown (hts _ h1) hnamed hmethM hstM hkP hkPi ⟨hd2, hd3⟩ (a := a) (cell := cellB) (by rw [hT]; exact hcB)
    (fun z h => by rw [h] at hoB; cases hoB) hselP hmethM habM hkP hkPi (g := F0 m pc ls st0) rfl (argsL := As) (rest := rest) hlen hst (by rw [hb]; exact d)
  have hp : va_Pc (Value.ref a :: As) (Px_ D cl tys nw N w) (Value.ref a :: As).toArray (T.setVm vm₁) := ⟨rfl, by show va_P D cl w T.heap; rw [hT]; exact hP, va_K.moved X₁.warmed.alike hK, NW_warm (U := T.setVm vm₁) X₁.warmed hN, Tw_keep (U := T.setVm vm₁) X₁.warmed (fun q _ => by show T.heap[q]? = _; rw [hT]) hTw⟩
  obtain ⟨x, ce, T', b1, b2, b3, b4, b5, b6, b7, b8⟩ := back_x (R := R) (bytes := bytes) (maxL := maxL) (ret := ret) hM Px_blind hR.1 hR.2.1 hR.2.2.1 hR.2.2.2.1 (pay_in hts (tg_c h5)) List.mem_cons_self (by rw [hd1]; exact hts _ h4) X₁ (g := F0 m pc ls rest) rfl (by rw [hml]; exact hl.1.1) (ig := .invokevirtual index) (len := 3) (by rw [hb]; exact d) (lv_room hroom) (X₁.named hnamed) hp hR.2.2.2.2
  have hs : (T.setVm vm₁).heap = s.heap := hT
  rw [hs] at b1 b6
  refine ⟨x, ce, T', b1, b2, ?_, b4, ?_, b6, b7, fun target h => hstep₁ _ fun acts => ?_⟩
  · rw [← b3]; exact (X₁.warmed.alike.findClass C none).symm
  · rw [← b5]; exact (X₁.warmed.alike.assignable _ _).symm
  · rw [doInvoke_state]; exact b8.trans h
theorem tn_S (X : Cx_ p l e R s m args below meth c cc nL own D cl tys TG_) (hN : NW_ nw s) (hTw : Tw_ N s) (hP : va_P D cl w s.heap) {index maxL n : Nat} {y : MethodName} {bytes : ByteArray} {ret : Option FieldType} {rm : Room} {As st0 : List Value}
    (hM : Rx_ l D cl tys nw N y (.code y bytes maxL ret :: TG_) rm As w C) (h1 : Cond.methodLink own index y ∈ TG_) (h2 : Cond.static y ∈ TG_) (h4 : Cond.initialized y.cls ∈ TG_) (h5 : Cond.code y bytes maxL ret ∈ TG_)
    (hd : y.cls ≠ "java/lang/invoke/MethodHandle" ∧ y.cls ≠ "java/lang/invoke/VarHandle" ∧ (parseMethodDescriptor y.desc).map (fun d => d.parameters.length) = some n) (hR : rm.cells = 1 ∧ rm.slots = 6 ∧ rm.frames + 1 ≤ R.frames ∧ 8 + (maxL + 11) + rm.locals ≤ R.locals ∧ 1 ≤ R.cells ∧ 6 ≤ R.slots)
    (hst : st0 = As.reverse ++ rest) (hn : As.length = n) (hroom : (rest.map fun v => v.category).sum ≤ 8) (d : decode cc pc = .ok (.invokestatic index, 3))
    {ls : Array Slot} (hl : lh_ ls nL L) {T : State} (hT : T.heap = s.heap) (Y : Stand p l e R s m args below meth c T [] 0 0) : Tn_ p l e R s m args below meth c C T (F0 m pc ls st0) (F0 m pc ls rest) := by
  obtain ⟨hx, hb, hml, hown, hts, hK, -⟩ := X
  obtain ⟨hd2, hd3, hd4⟩ := hd
  obtain ⟨mk, hnamed⟩ := Cond.code_named (hts _ h5)
  obtain ⟨methM, cM, hmethM, -, -, -, -, -, -, hsigM⟩ := Cond.code_spec hnamed (hts _ h5)
  have hstatic : methM.isStatic = true := Cond.static_spec hnamed hmethM (hts _ h2)
  obtain ⟨kP, hkP, -⟩ := className_of_methodNamed hnamed
  have hinitP : kP.init = .initialized := Cond.initialized_spec (findClass_of_methodNamed hnamed) hkP (hts _ h4)
  have hlen : As.length = methM.sig.parameters.length := by
    rw [hsigM] at hd4
    rw [hn]
    exact (Option.some.inj hd4).symm
  obtain ⟨vm₁, X₁, hstep₁⟩ := Y.invokestatic hx hown (hts _ h1) hnamed hmethM hstatic hkP hinitP ⟨hd2, hd3⟩ (g := F0 m pc ls st0) rfl (argsL := As) (rest := rest) hlen hst (by rw [hb]; exact d)
  have hp : va_Pc As (Px_ D cl tys nw N w) As.toArray (T.setVm vm₁) := ⟨rfl, by show va_P D cl w T.heap; rw [hT]; exact hP, va_K.moved X₁.warmed.alike hK, NW_warm (U := T.setVm vm₁) X₁.warmed hN, Tw_keep (U := T.setVm vm₁) X₁.warmed (fun q _ => by show T.heap[q]? = _; rw [hT]) hTw⟩
  obtain ⟨x, ce, T', b1, b2, b3, b4, b5, b6, b7, b8⟩ := back_x (R := R) (bytes := bytes) (maxL := maxL) (ret := ret) hM Px_blind hR.1 hR.2.1 hR.2.2.1 hR.2.2.2.1 (pay_in hts (tg_c h5)) List.mem_cons_self (hts _ h4) X₁ (g := F0 m pc ls rest) rfl (by rw [hml]; exact hl.1.1) (ig := .invokestatic index) (len := 3) (by rw [hb]; exact d) (lv_room hroom) (X₁.named hnamed) hp hR.2.2.2.2
  have hs : (T.setVm vm₁).heap = s.heap := hT
  rw [hs] at b1 b6
  refine ⟨x, ce, T', b1, b2, ?_, b4, ?_, b6, b7, fun target h => hstep₁ _ fun acts => ?_⟩
  · rw [← b3]; exact (X₁.warmed.alike.findClass C none).symm
  · rw [← b5]; exact (X₁.warmed.alike.assignable _ _).symm
  · rw [doInvoke_state]; exact b8.trans h
/-- out of the method that made the call -/
theorem gr_out {st0 : List Value} (X : Cx_ p l e R s m args below meth c cc nL own D cl tys TS) (hxt : c.exceptionTable.isEmpty = true)
    (h : ∀ (ls : Array Slot), lh_ ls nL L → ∀ T : State, T.heap = s.heap → Stand p l e R s m args below meth c T [] 0 0 → Tn_ p l e R s m args below meth c C T (F0 m pc ls st0) (F0 m pc ls rest)) : Gr_ p l e R s m args below meth c nL (XQ_ below C s) pc L st0 := by
  intro ls hl T hT Y
  obtain ⟨x, ce, T', b1, b2, b3, b4, b5, b6, b7, b8⟩ := h ls hl T hT Y
  obtain ⟨st, hrun, hend, hW, hsame⟩ := b7.leaveThrown x (g := F0 m pc ls rest) rfl rfl rfl (fun q hq => by
    rw [Array.isEmpty_iff.mp hxt] at hq
    cases hq) X.2.2.2.2.2.2
  exact ⟨_, b8 _ st, .threw x, hrun, hend, ⟨x, ce, rfl, b1, b2, b3, b4, b5⟩, hW, hsame⟩
end GR_B
section GR_C
variable {p : Program} {l : Launch} {e : Env} {R : Room} {s : State} {m : MethodId} {args : Array Value} {below : List Frame} {meth : Method} {c : Code} {D : va_G} {nL : Nat} {Q : State → Prop}
variable {cc : ByteArray} {own : String} {pc : Nat} {L : List (Nat × Value)} {rest : List Value} {nw : List Cond} {r : Option Value}
variable {T : Nat → ClassId} {ad : Nat → Nat} {K n N : Nat} {σ : ST_} {C : String}
theorem grh_get (X : Cx_ p l e R s m args below meth c cc nL own D cl_ (tys_ T) TG_) (hP : va_P D cl_ (cW_ T ad K n σ) s.heap) {index : Nat} {v : Value}  (f : Nat) (hf : f < 5) (hl : Cond.fieldLink own index rn_H (ft_H f).2.1 (ft_H f).2.2.1 ∈ TG_) (hv : (hF_ ad)[f]? = some v) (d : decode cc pc = .ok (.getfield index, 3))
    (kk : Gr_ p l e R s m args below meth c nL Q (pc + 3) L (v :: rest)) : Gr_ p l e R s m args below meth c nL Q pc L (.ref (ad 0) :: rest) :=
  gr_get (ci := 0) (k := f) X hP in_H rfl (show 0 < 41 + n by omega) (rfl) hf hl (fun x h => by rw [ft_H1] at h; exact h) hv d kk
theorem grn_get (X : Cx_ p l e R s m args below meth c cc nL own D cl_ (tys_ T) TG_) (hP : va_P D cl_ (cW_ T ad K n σ) s.heap) {index : Nat} {v : Value} {k : Nat} (hk : k < 32) (f : Nat) (hf : f < 8) (hl : Cond.fieldLink own index rn_N (ft_N f).2.1 (ft_N f).2.2.1 ∈ TG_) (hv : (nF_ ad σ k)[f]? = some v) (d : decode cc pc = .ok (.getfield index, 3))
    (kk : Gr_ p l e R s m args below meth c nL Q (pc + 3) L (v :: rest)) : Gr_ p l e R s m args below meth c nL Q pc L (.ref (ad (k + 8)) :: rest) :=
  gr_get (ci := 1) (k := f) X hP in_N rfl (show k + 8 < 41 + n by omega) (cE_node T ad K n σ hk) hf hl (fun x h => by rw [ft_N1] at h; exact h) hv d kk
theorem grc_get (X : Cx_ p l e R s m args below meth c cc nL own D cl_ (tys_ T) TG_) (hP : va_P D cl_ (cW_ T ad K n σ) s.heap) {index : Nat} {v : Value} {q : Nat} (hq : q < n) (f : Nat) (hf : f < 14) (hl : Cond.fieldLink own index rn_C (ft_C f).2.1 (ft_C f).2.2.1 ∈ TG_) (hv : (cF_ ad σ q)[f]? = some v) (d : decode cc pc = .ok (.getfield index, 3))
    (kk : Gr_ p l e R s m args below meth c nL Q (pc + 3) L (v :: rest)) : Gr_ p l e R s m args below meth c nL Q pc L (.ref (ad (q + 41)) :: rest) :=
  gr_get (ci := 2) (k := f) X hP in_C rfl (show q + 41 < 41 + n by omega) (cE_call T ad K n σ q) hf hl (fun x h => by rw [ft_C1] at h; exact h) hv d kk
theorem grx_nd (X : Cx_ p l e R s m args below meth c cc nL own D cl_ (tys_ T) TG_) (hP : va_P D cl_ (cW_ T ad K n σ) s.heap) {i : Int32} {k : Nat} (hi : Ix_ i 32 k) (d : decode cc pc = .ok (.aaload, 1))
    (kk : Gr_ p l e R s m args below meth c nL Q (pc + 1) L (.ref (ad (k + 8)) :: rest)) : Gr_ p l e R s m args below meth c nL Q pc L (.int i :: .ref (ad 7) :: rest) :=
  gr_aald (t0 := 3) X hP (show 7 < 41 + n by omega) rfl rfl hi.1 hi.2 rfl d kk
theorem grx_cl (X : Cx_ p l e R s m args below meth c cc nL own D cl_ (tys_ T) TG_) (hP : va_P D cl_ (cW_ T ad K n σ) s.heap) {i : Int32} {k : Nat} (hi : Ix_ i n k) (d : decode cc pc = .ok (.aaload, 1))
    (kk : Gr_ p l e R s m args below meth c nL Q (pc + 1) L (.ref (ad (k + 41)) :: rest)) : Gr_ p l e R s m args below meth c nL Q pc L (.int i :: .ref (ad 40) :: rest) :=
  gr_aald (t0 := 4) X hP (show 40 < 41 + n by omega) (cE_cs T ad K n σ) rfl hi.1 hi.2 rfl d kk
theorem grx_ln (X : Cx_ p l e R s m args below meth c cc nL own D cl_ (tys_ T) TG_) (hP : va_P D cl_ (cW_ T ad K n σ) s.heap) (d : decode cc pc = .ok (.arraylength, 1))
    (kk : Gr_ p l e R s m args below meth c nL Q (pc + 1) L (.int (nI 32) :: rest)) : Gr_ p l e R s m args below meth c nL Q pc L (.ref (ad 7) :: rest) :=
  gr_alen (t0 := 3) X hP (show 7 < 41 + n by omega) rfl rfl rfl d kk
theorem grx_lc (X : Cx_ p l e R s m args below meth c cc nL own D cl_ (tys_ T) TG_) (hP : va_P D cl_ (cW_ T ad K n σ) s.heap) (d : decode cc pc = .ok (.arraylength, 1))
    (kk : Gr_ p l e R s m args below meth c nL Q (pc + 1) L (.int (nI n) :: rest)) : Gr_ p l e R s m args below meth c nL Q pc L (.ref (ad 40) :: rest) :=
  gr_alen (t0 := 4) X hP (show 40 < 41 + n by omega) (cE_cs T ad K n σ) rfl rfl d kk
/-- new .. athrow, of the class's own three kinds that pass their message on by entry 7 -/
theorem gr_throw (X : Cx_ p l e R s m args below meth c cc nL rn_H D cl_ (tys_ T) TG_) (hxt : c.exceptionTable.isEmpty = true) (htr : l.stackTraces = false) (hTw : Tw_ N s) {icl istr ic : Nat} {text : String} (hm : ∀ a ∈ Bundle.ownAtoms rn_H ic C [rn_R, rn_E], (a ∈ tables_1 ∧ goodWord a = true) ∨ a ∈ tw_ ∨ a ∈ sx_) (hfit : Bundle.fit C = true)
    (h1 : Cond.classLink rn_H icl C ∈ TG_) (h2 : Cond.instantiable C 6 ∈ TG_) (h3 : Cond.initialized C ∈ TG_) (h4 : (istr, text) ∈ ts_) (d0 : decode cc pc = .ok (.new icl, 3)) (d3 : decode cc (pc + 3) = .ok (.dup, 1)) (d4 : decode cc (pc + 4) = .ok (.ldc istr, 2)) (d6 : decode cc (pc + 6) = .ok (.invokespecial ic, 3)) (d9 : decode cc (pc + 9) = .ok (.athrow, 1))
    (hR : 6 ≤ R.frames ∧ 90 ≤ R.locals ∧ 1 ≤ R.cells ∧ 6 ≤ R.slots) : Gr_ p l e R s m args below meth c nL (XQ_ below C s) pc L [] := by
  intro ls hl
  obtain ⟨hx, hb, hml, hown, hts, hK, hlk⟩ := X
  exact w_throw hx hb hown (hts _ h1) (hts _ h2) (hts _ h3) (sr_same (s := s) (q := (istr, text)) rfl (hTw.2.2.2 _ h4)) (th_S hx hb hlk htr hown hml hxt (xo_of (q := (ic, C)) hm hts hTw) hfit (fun n hn => by
    simp only [List.mem_cons, List.not_mem_nil, or_false] at hn
    rcases hn with rfl | rfl <;> decide) d6 d9 ⟨by show 2 + 3 < R.frames; omega, by show 1 + (13 * (2 + 1) + 42) ≤ R.locals; omega⟩ hl.1.1) d0 d3 d4 hR.2.2
end GR_C

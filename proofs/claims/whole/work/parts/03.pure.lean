section PURE_A
/-- a state: components, each a row of ints -/
abbrev ST_ : Type := Nat → Nat → Int32
def u1_ (σ : ST_) (c : Nat) (f : Nat → Int32) : ST_ := fun a => cond (Nat.beq a c) f (σ a)
def u2_ (σ : ST_) (c i : Nat) (v : Int32) : ST_ := u1_ σ c (upd (σ c) i v)
abbrev ix_ (x : Int32) : Nat := x.toNatClampNeg
theorem u1_same (σ : ST_) (c : Nat) (f : Nat → Int32) : u1_ σ c f c = f := by
  unfold u1_
  cases hb : Nat.beq c c with
  | true => rfl
  | false => exact absurd rfl (Nat.ne_of_beq_eq_false hb)
theorem u1_ne (σ : ST_) {c a : Nat} (f : Nat → Int32) (h : a ≠ c) : u1_ σ c f a = σ a := by
  unfold u1_
  cases hb : Nat.beq a c with
  | true => exact absurd (Nat.eq_of_beq_eq_true hb) h
  | false => rfl
theorem u2_same (σ : ST_) (c i : Nat) (v : Int32) : u2_ σ c i v c = upd (σ c) i v := u1_same σ c _
theorem u2_ne (σ : ST_) {c a : Nat} (i : Nat) (v : Int32) (h : a ≠ c) : u2_ σ c i v a = σ a := u1_ne σ _ h
/-- the value at a place behind an update -/
theorem u2_at (σ : ST_) (c i : Nat) (v : Int32) (a j : Nat) : u2_ σ c i v a j = if a = c ∧ j = i then v else σ a j := by
  by_cases h : a = c
  · subst h
    rw [u2_same]
    by_cases hj : j = i <;> simp [upd, hj]
  · rw [u2_ne _ _ _ h]
    simp [h]
/-- the plain kinds: contents, count, answer -/
def sh_ (f : Nat → Int32) (m : Nat) : Nat → Int32 := fun k => if k < m then f (k + 1) else f k
def sm_ (f : Nat → Int32) : Nat → Int32
  | 0 => 0
  | k + 1 => sm_ f k + f k
def pq_ (K : Nat) (op a : Int32) (f : Nat → Int32) (z : Int32) : (Nat → Int32) × Int32 × Int32 :=
  if op = 2 then (f, z, z)
  else if op = 0 then (if z = 8 then (f, z, -1) else (upd f (ix_ z) a, z + 1, z + 1))
  else if z = 0 then (f, z, -1)
  else if K = 0 then (sh_ f (ix_ (z - 1)), z - 1, f 0) else (f, z - 1, f (ix_ (z - 1)))
def pt_ (op a b : Int32) (f : Nat → Int32) (z : Int32) : (Nat → Int32) × Int32 × Int32 :=
  (if op = 0 then upd f (ix_ (a &&& 7)) b else f, z, if op = 2 then sm_ f 8 else f (ix_ (a &&& 7)))
def pb_ (op a b : Int32) (f : Nat → Int32) (z : Int32) : (Nat → Int32) × Int32 × Int32 :=
  if op = 0 then
    (if f (ix_ (a &&& 3)) < 10 then (f, z, 0)
     else (upd (upd f (ix_ (a &&& 3)) (f (ix_ (a &&& 3)) - 10)) (ix_ (b &&& 3)) (upd f (ix_ (a &&& 3)) (f (ix_ (a &&& 3)) - 10) (ix_ (b &&& 3)) + 10), z, 1))
  else if op = 2 then (upd f (ix_ (a &&& 3)) (f (ix_ (a &&& 3)) + b), z, f (ix_ (a &&& 3)) + b)
  else (f, z, f (ix_ (a &&& 3)))
def pa_ (K : Nat) (op a b : Int32) (f : Nat → Int32) (z : Int32) : (Nat → Int32) × Int32 × Int32 :=
  if K < 2 then pq_ K op a f z else if K = 2 then pt_ op a b f z else pb_ op a b f z
/-- what a new plain object holds -/
def pi_ (K : Nat) : Int32 := if K = 3 then 100 else 0
/-- along the log: behind j calls, from place 2 on -/
def rs_ (K : Nat) (cd ca cb : Nat → Int32) : Nat → (Nat → Int32) × Int32 × Int32
  | 0 => (fun _ => pi_ K, 0, 0)
  | j + 1 => pa_ K (cd (j + 2)) (ca (j + 2)) (cb (j + 2)) (rs_ K cd ca cb j).1 (rs_ K cd ca cb j).2.1
/-- the first place from i on, of n, with P -/
def ff_ (P : Nat → Bool) : Nat → Nat → Option Nat
  | _, 0 => none
  | i, n + 1 => cond (P i) (some i) (ff_ P (i + 1) n)
theorem ff_some {P : Nat → Bool} {n : Nat} : ∀ {i k : Nat}, ff_ P i n = some k → i ≤ k ∧ k < i + n ∧ P k = true ∧ ∀ j, i ≤ j → j < k → P j = false := by
  induction n with
  | zero => intro i k h; cases h
  | succ n ih =>
    intro i k h
    unfold ff_ at h
    cases hp : P i with
    | true =>
      rw [hp] at h
      have h1 : i = k := Option.some.inj h
      subst h1
      exact ⟨Nat.le_refl _, by omega, hp, fun j h1 h2 => by omega⟩
    | false =>
      rw [hp] at h
      obtain ⟨h1, h2, h3, h4⟩ := ih h
      refine ⟨by omega, by omega, h3, fun j h5 h6 => ?_⟩
      by_cases hj : j = i
      · rw [hj]; exact hp
      · exact h4 j (by omega) h6
theorem ff_none {P : Nat → Bool} {n : Nat} : ∀ {i : Nat}, ff_ P i n = none → ∀ j, i ≤ j → j < i + n → P j = false := by
  induction n with
  | zero => intro i _ j h1 h2; omega
  | succ n ih =>
    intro i h j h1 h2
    unfold ff_ at h
    cases hp : P i with
    | true => rw [hp] at h; cases h
    | false =>
      rw [hp] at h
      by_cases hj : j = i
      · rw [hj]; exact hp
      · exact ih h j (by omega) (by omega)
/-- the same, looked for from the end -/
def fd_ (P : Nat → Bool) : Nat → Int32 → Int32
  | 0, r => r
  | k + 1, r => fd_ P k (cond (P k) (nI k) r)
/-- how many of the first k have P -/
def ct_ (P : Nat → Bool) : Nat → Int32
  | 0 => 0
  | k + 1 => cond (P k) (ct_ P k + 1) (ct_ P k)
end PURE_A
section PURE_C
/-! the class: its steps on a state -/
def hc_free (σ : ST_) : Option Nat := ff_ (fun k => decide (σ 1 k = 0)) 0 32
def hc_take (σ : ST_) (k p : Nat) : ST_ := u2_ (u2_ (u2_ (u2_ (u2_ (u2_ (u2_ σ 1 k 1) 4 k (nI p)) 5 k (σ 15 p)) 6 k (σ 16 p)) 7 k (σ 17 p)) 2 k 0) 3 k (-1)
def hc_annS (σ : ST_) (k p : Nat) : ST_ := u2_ (u2_ (u2_ (u2_ (u2_ (hc_take σ k p) 12 p (nI k)) 9 p (nI k)) 13 p (σ 8 p)) 11 p 0) 10 p 1
def hc_ann (σ : ST_) (p : Nat) : ST_ × Int32 := match hc_free σ with
  | none => (σ, 3)
  | some k => (hc_annS σ k p, 0)
def hc_look1 (n : Nat) (σ : ST_) (p : Nat) : ST_ :=
  if σ 11 p < nI n then (if σ 2 (ix_ (σ 13 p)) < σ 2 (ix_ (σ 8 (ix_ (σ 11 p)))) then u2_ σ 13 p (σ 8 (ix_ (σ 11 p))) else σ) else σ
def hc_look (n : Nat) (σ : ST_) (p : Nat) : ST_ :=
  if nI n ≤ σ 11 p + 1 then u2_ (u2_ (hc_look1 n σ p) 11 p (σ 11 p + 1)) 10 p 2 else u2_ (hc_look1 n σ p) 11 p (σ 11 p + 1)
def hc_ask (σ : ST_) (p : Nat) : ST_ := u2_ σ 10 p (if 0 < σ 2 (ix_ (σ 12 p)) then 7 else 3)
def hc_helped (n : Nat) (σ : ST_) (p : Nat) : Int32 := σ 9 (ix_ (fmv (σ 2 (ix_ (σ 13 p)) + 1) (nI n)))
def hc_choose (n : Nat) (σ : ST_) (p : Nat) : ST_ :=
  u2_ (u2_ σ 14 p (if 0 ≤ hc_helped n σ p ∧ σ 2 (ix_ (hc_helped n σ p)) = 0 then hc_helped n σ p else σ 12 p)) 10 p 4
def hc_prop1 (σ : ST_) (p : Nat) : ST_ := if σ 3 (ix_ (σ 13 p)) < 0 then u2_ σ 3 (ix_ (σ 13 p)) (σ 14 p) else σ
def hc_prop (σ : ST_) (p : Nat) : ST_ := u2_ (u2_ (hc_prop1 σ p) 14 p (hc_prop1 σ p 3 (ix_ (σ 13 p)))) 10 p 5
/-- plain object j of the class does a call -/
def hc_perf (K j : Nat) (op a b : Int32) (σ : ST_) : ST_ :=
  u2_ (u1_ σ (30 + j) (pa_ K op a b (σ (30 + j)) (σ 33 j)).1) 33 j (pa_ K op a b (σ (30 + j)) (σ 33 j)).2.1
def hc_perfR (K j : Nat) (op a b : Int32) (σ : ST_) : Int32 := (pa_ K op a b (σ (30 + j)) (σ 33 j)).2.2
def hc_give1 (K : Nat) (σ : ST_) (k : Nat) : ST_ :=
  if σ 2 k = 0 then u2_ (hc_perf K 0 (σ 5 k) (σ 6 k) (σ 7 k) σ) 26 k (hc_perfR K 0 (σ 5 k) (σ 6 k) (σ 7 k) σ) else σ
def hc_give (K : Nat) (σ : ST_) (p : Nat) : ST_ :=
  u2_ (u2_ (hc_give1 K σ (ix_ (σ 14 p))) 2 (ix_ (σ 14 p)) (σ 2 (ix_ (σ 13 p)) + 1)) 10 p 6
def hc_move (σ : ST_) (p : Nat) : ST_ := u2_ (u2_ (u2_ σ 8 p (σ 14 p)) 13 p (σ 14 p)) 10 p 2
def hc_fin (σ : ST_) (p : Nat) : ST_ :=
  u2_ (u2_ (u2_ (u2_ (u2_ (u2_ σ 8 p (σ 12 p)) 9 p (-1)) 18 p (σ 18 p + 1)) 19 p (σ 26 (ix_ (σ 12 p)))) 20 p (σ 2 (ix_ (σ 12 p)))) 10 p (-1)
def hc_one (K n : Nat) (σ : ST_) (p : Nat) : ST_ × Int32 :=
  if σ 10 p = 0 then hc_ann σ p
  else if σ 10 p = 1 then (hc_look n σ p, 0)
  else if σ 10 p = 2 then (hc_ask σ p, 0)
  else if σ 10 p = 3 then (hc_choose n σ p, 0)
  else if σ 10 p = 4 then (hc_prop σ p, 0)
  else if σ 10 p = 5 then (hc_give K σ p, 0)
  else if σ 10 p = 6 then (hc_move σ p, 0)
  else if σ 10 p = 7 then (hc_fin σ p, 1)
  else (σ, 2)
def hc_call (σ : ST_) (p : Nat) (op a b : Int32) : ST_ := u2_ (u2_ (u2_ (u2_ σ 15 p op) 16 p a) 17 p b) 10 p 0
/-- the numbers that run draws -/
def rx_ (x : Int32) : Int32 := x * 1103515245 + 12345
def rq_ (n : Nat) (x : Int32) : Nat := ix_ ((x.toUInt32 >>> ((16 : Int32).toUInt32 &&& Int32.toUInt32 31)).toInt32 - (x.toUInt32 >>> ((16 : Int32).toUInt32 &&& Int32.toUInt32 31)).toInt32 / nI n * nI n)
def hc_run (K n : Nat) : Nat → Int32 → Int32 → ST_ → ST_ × Int32
  | 0, _, r, σ => (σ, r)
  | k + 1, x, r, σ => hc_run K n k (rx_ x) (if (hc_one K n σ (rq_ n (rx_ x))).2 = 1 then r + 1 else r) (hc_one K n σ (rq_ n (rx_ x))).1
/-- on the log -/
def on_ (σ : ST_) (k : Nat) : Bool := decide (¬ σ 1 k = 0) && decide (0 < σ 2 k)
def hc_endF (σ : ST_) : Nat → Int32
  | 0 => 1
  | k + 1 => cond (on_ σ k) (if hc_endF σ k ≤ σ 2 k then σ 2 k else hc_endF σ k) (hc_endF σ k)
def hc_oldF (σ : ST_) : Nat → Int32
  | 0 => hc_endF σ 32
  | k + 1 => cond (on_ σ k) (if hc_oldF σ k ≤ σ 2 k then hc_oldF σ k else σ 2 k) (hc_oldF σ k)
def hc_find (σ : ST_) (x : Int32) : Option Nat := ff_ (fun k => on_ σ k && decide (σ 2 k = x)) 0 32
def hc_part (σ : ST_) (k : Nat) (what : Int32) : Int32 := if what = 0 then σ 4 k else if what = 1 then σ 5 k else if what = 2 then σ 6 k else σ 7 k
/-- cut: the farthest head, idle heads to it, the least, the nodes below -/
def hc_farF (σ : ST_) : Nat → Int32
  | 0 => σ 8 0
  | p + 1 => if σ 2 (ix_ (hc_farF σ p)) < σ 2 (ix_ (σ 8 p)) then σ 8 p else hc_farF σ p
def hc_bring (h : Int32) : Nat → ST_ → ST_
  | 0, σ => σ
  | p + 1, σ => if hc_bring h p σ 10 p = -1 then u2_ (hc_bring h p σ) 8 p h else hc_bring h p σ
def hc_leastF (σ : ST_) : Nat → Int32
  | 0 => σ 2 (ix_ (σ 8 0))
  | p + 1 => if hc_leastF σ p ≤ σ 2 (ix_ (σ 8 p)) then hc_leastF σ p else σ 2 (ix_ (σ 8 p))
def hc_relF (x : Int32) : Nat → ST_ → ST_ × Int32
  | 0, σ => (σ, 0)
  | k + 1, σ => if on_ (hc_relF x k σ).1 k = true ∧ (hc_relF x k σ).1 2 k < x then (u2_ (hc_relF x k σ).1 1 k 0, (hc_relF x k σ).2 + 1) else hc_relF x k σ
def hc_cut (n : Nat) (σ : ST_) : ST_ × Int32 := hc_relF (hc_leastF (hc_bring (hc_farF σ n) n σ) n) 32 (hc_bring (hc_farF σ n) n σ)
/-- spare takes over what logged holds -/
def hc_copy (σ : ST_) : ST_ := u2_ (u1_ σ 31 (σ 30)) 33 1 (σ 33 0)
end PURE_C
section PURE_M
/-! the reference: its steps on a state -/
def hm_begin (K : Nat) (ρ : ST_) : ST_ := u1_ (u2_ ρ 0 2 0) 24 (fun _ => pi_ K)
def hm_act (K : Nat) (op a b : Int32) (ρ : ST_) : ST_ := u2_ (u1_ ρ 24 (pa_ K op a b (ρ 24) (ρ 0 2)).1) 0 2 (pa_ K op a b (ρ 24) (ρ 0 2)).2.1
def hm_actR (K : Nat) (op a b : Int32) (ρ : ST_) : Int32 := (pa_ K op a b (ρ 24) (ρ 0 2)).2.2
/-- replay along j places -/
def hm_rep (K j : Nat) (ρ : ST_) : ST_ := u2_ (u1_ ρ 24 (rs_ K (ρ 21) (ρ 22) (ρ 23) j).1) 0 2 (rs_ K (ρ 21) (ρ 22) (ρ 23) j).2.1
def hm_repR (K j : Nat) (ρ : ST_) : Int32 := (rs_ K (ρ 21) (ρ 22) (ρ 23) j).2.2
def hm_call (ρ : ST_) (p : Nat) (op a b : Int32) : ST_ := u2_ (u2_ (u2_ (u2_ ρ 10 p 0) 15 p op) 16 p a) 17 p b
def hm_free (ρ : ST_) : Int32 := fd_ (fun k => decide (ρ 1 k = 0)) 32 (-1)
def hm_annS (ρ : ST_) (f : Int32) (p : Nat) : ST_ :=
  u2_ (u2_ (u2_ (u2_ (u2_ (u2_ (u2_ (u2_ (u2_ (u2_ (u2_ (u2_ ρ 1 (ix_ f) 1) 2 (ix_ f) 0) 3 (ix_ f) (-1)) 4 (ix_ f) (nI p)) 5 (ix_ f) (ρ 15 p)) 6 (ix_ f) (ρ 16 p)) 7 (ix_ f) (ρ 17 p)) 12 p f) 9 p f) 13 p (ρ 8 p)) 11 p 0) 10 p 1
def hm_ann (ρ : ST_) (p : Nat) : ST_ × Int32 := if hm_free ρ < 0 then (ρ, 3) else (hm_annS ρ (hm_free ρ) p, 0)
def hm_look (n : Nat) (ρ : ST_) (p : Nat) : ST_ :=
  u2_ (u2_ (u2_ ρ 13 p (if ρ 2 (ix_ (ρ 13 p)) < ρ 2 (ix_ (ρ 8 (ix_ (ρ 11 p)))) then ρ 8 (ix_ (ρ 11 p)) else ρ 13 p)) 11 p (ρ 11 p + 1)) 10 p (if ρ 11 p + 1 = nI n then 2 else 1)
def hm_ask (ρ : ST_) (p : Nat) : ST_ := u2_ ρ 10 p (if 0 < ρ 2 (ix_ (ρ 12 p)) then 7 else 3)
def hm_q (n : Nat) (ρ : ST_) (p : Nat) : Int32 := (ρ 2 (ix_ (ρ 13 p)) + 1) - (ρ 2 (ix_ (ρ 13 p)) + 1) / nI n * nI n
def hm_choose (n : Nat) (ρ : ST_) (p : Nat) : ST_ :=
  u2_ (u2_ ρ 14 p (if 0 ≤ ρ 9 (ix_ (hm_q n ρ p)) ∧ ρ 2 (ix_ (ρ 9 (ix_ (hm_q n ρ p)))) = 0 then ρ 9 (ix_ (hm_q n ρ p)) else ρ 12 p)) 10 p 4
def hm_prop1 (ρ : ST_) (p : Nat) : ST_ := u2_ ρ 3 (ix_ (ρ 13 p)) (if ρ 3 (ix_ (ρ 13 p)) < 0 then ρ 14 p else ρ 3 (ix_ (ρ 13 p)))
def hm_prop (ρ : ST_) (p : Nat) : ST_ := u2_ (u2_ (hm_prop1 ρ p) 14 p (hm_prop1 ρ p 3 (ix_ (ρ 13 p)))) 10 p 5
def hm_k (ρ : ST_) (p : Nat) : Int32 := ρ 2 (ix_ (ρ 13 p)) + 1
def hm_give (ρ : ST_) (p : Nat) : ST_ :=
  u2_ (u2_ (u2_ (u2_ (u2_ (u2_ ρ 2 (ix_ (ρ 14 p)) (hm_k ρ p)) 21 (ix_ (hm_k ρ p)) (ρ 5 (ix_ (ρ 14 p)))) 22 (ix_ (hm_k ρ p)) (ρ 6 (ix_ (ρ 14 p)))) 23 (ix_ (hm_k ρ p)) (ρ 7 (ix_ (ρ 14 p)))) 0 1 (if ρ 0 1 < hm_k ρ p then hm_k ρ p else ρ 0 1)) 10 p 6
def hm_move (ρ : ST_) (p : Nat) : ST_ := u2_ (u2_ (u2_ ρ 8 p (ρ 14 p)) 13 p (ρ 14 p)) 10 p 2
def hm_fin1 (K : Nat) (ρ : ST_) (p : Nat) : ST_ := hm_rep K (ix_ (ρ 2 (ix_ (ρ 12 p))) - 1) (u2_ (u2_ (u2_ ρ 8 p (ρ 12 p)) 9 p (-1)) 20 p (ρ 2 (ix_ (ρ 12 p))))
def hm_fin (K : Nat) (ρ : ST_) (p : Nat) : ST_ :=
  u2_ (u2_ (u2_ (hm_fin1 K ρ p) 19 p (hm_repR K (ix_ (ρ 2 (ix_ (ρ 12 p))) - 1) ρ)) 18 p (ρ 18 p + 1)) 10 p (-1)
def hm_one (K n : Nat) (ρ : ST_) (p : Nat) : ST_ × Int32 :=
  if ρ 10 p = -1 then (ρ, 2)
  else if ρ 10 p = 0 then hm_ann ρ p
  else if ρ 10 p = 1 then (hm_look n ρ p, 0)
  else if ρ 10 p = 2 then (hm_ask ρ p, 0)
  else if ρ 10 p = 3 then (hm_choose n ρ p, 0)
  else if ρ 10 p = 4 then (hm_prop ρ p, 0)
  else if ρ 10 p = 5 then (hm_give ρ p, 0)
  else if ρ 10 p = 6 then (hm_move ρ p, 0)
  else (hm_fin K ρ p, 1)
def hm_run (K n : Nat) : Nat → Int32 → Int32 → ST_ → ST_ × Int32
  | 0, _, r, ρ => (ρ, r)
  | k + 1, x, r, ρ => hm_run K n k (rx_ x) (if (hm_one K n ρ (rq_ n (rx_ x))).2 = 1 then r + 1 else r) (hm_one K n ρ (rq_ n (rx_ x))).1
def hm_oldF (ρ : ST_) : Nat → Int32
  | 0 => 0
  | k + 1 => cond (on_ ρ k && (decide (hm_oldF ρ k = 0) || decide (ρ 2 k < hm_oldF ρ k))) (ρ 2 k) (hm_oldF ρ k)
def hm_findF (ρ : ST_) (x : Int32) : Nat → Int32
  | 0 => -1
  | k + 1 => cond (decide (¬ ρ 1 k = 0) && decide (0 < x) && decide (ρ 2 k = x)) (nI k) (hm_findF ρ x k)
def hm_part (ρ : ST_) (k : Nat) (what : Int32) : Int32 := if what = 0 then ρ 4 k else if what = 1 then ρ 5 k else if what = 2 then ρ 6 k else ρ 7 k
def hm_used (ρ : ST_) : Int32 := ct_ (fun k => decide (¬ ρ 1 k = 0)) 32
/-- p from 1 on -/
def hm_farF (ρ : ST_) : Nat → Int32
  | 0 => 0
  | p + 1 => if ρ 2 (ix_ (ρ 8 (ix_ (hm_farF ρ p)))) < ρ 2 (ix_ (ρ 8 (p + 1))) then nI (p + 1) else hm_farF ρ p
def hm_bring (h : Int32) : Nat → ST_ × Int32 → ST_ × Int32
  | 0, x => x
  | p + 1, x =>
    (u2_ (hm_bring h p x).1 8 p (if (hm_bring h p x).1 10 p = -1 then h else (hm_bring h p x).1 8 p),
     if (hm_bring h p x).1 2 (ix_ (if (hm_bring h p x).1 10 p = -1 then h else (hm_bring h p x).1 8 p)) < (hm_bring h p x).2
     then (hm_bring h p x).1 2 (ix_ (if (hm_bring h p x).1 10 p = -1 then h else (hm_bring h p x).1 8 p)) else (hm_bring h p x).2)
def hm_relF (x : Int32) : Nat → ST_ → ST_
  | 0, ρ => ρ
  | k + 1, ρ => if on_ (hm_relF x k ρ) k = true ∧ hm_relF x k ρ 2 k < x then u2_ (hm_relF x k ρ) 1 k 0 else hm_relF x k ρ
end PURE_M

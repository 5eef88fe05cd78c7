section INIT_A
variable {K n c p : Nat} {σ ρ : ST_}
theorem pa_z {K : Nat} {op a b z : Int32} {f : Nat → Int32} (h : 0 ≤ z.toInt ∧ z.toInt ≤ 8) : 0 ≤ (pa_ K op a b f z).2.1.toInt ∧ (pa_ K op a b f z).2.1.toInt ≤ 8 := by
  unfold pa_
  split
  · unfold pq_
    split
    · exact h
    · split
      · split
        · exact h
        · next g =>
          rw [iz_eq, iz_8] at g
          have := iz_add (x := z) h.1 (by omega)
          show 0 ≤ (z + 1).toInt ∧ (z + 1).toInt ≤ 8
          omega
      · split
        · exact h
        · next g =>
          rw [iz_eq, iz_0] at g
          obtain ⟨e, -⟩ := iz_of (x := z) h.1
          obtain ⟨j, hj⟩ : ∃ j, ix_ z = j + 1 := ⟨ix_ z - 1, by have := iz_ix z; omega⟩
          have hj8 : j + 1 ≤ 8 := by have := iz_ix z; omega
          have e2 : z - 1 = nI j := by rw [e, hj, nI_pred]
          have e3 : (nI j).toInt = j := iz_nI (by omega)
          split
          · show 0 ≤ (z - 1).toInt ∧ (z - 1).toInt ≤ 8
            rw [e2, e3]; omega
          · show 0 ≤ (z - 1).toInt ∧ (z - 1).toInt ≤ 8
            rw [e2, e3]; omega
  · split
    · exact h
    · unfold pb_
      split
      · split <;> exact h
      · split <;> exact h
/-- the count behind any stretch of the log -/
theorem rs_z (K : Nat) (cd ca cb : Nat → Int32) : ∀ j, 0 ≤ (rs_ K cd ca cb j).2.1.toInt ∧ (rs_ K cd ca cb j).2.1.toInt ≤ 8 := by
  intro j
  induction j with
  | zero => show 0 ≤ (0 : Int32).toInt ∧ (0 : Int32).toInt ≤ 8; rw [iz_0]; omega
  | succ j ih => unfold rs_; exact pa_z ih
/-- the class's peek: spare takes over logged, and does the call -/
def hc_peek (K : Nat) (op a b : Int32) (σ : ST_) : ST_ := hc_perf K 1 op a b (hc_copy σ)
def hc_peekR (K : Nat) (op a b : Int32) (σ : ST_) : Int32 := hc_perfR K 1 op a b (hc_copy σ)
def hm_peek (K : Nat) (op a b : Int32) (ρ : ST_) : ST_ := hm_act K op a b (hm_rep K (ix_ (ρ 0 1) - 1) ρ)
def hm_peekR (K : Nat) (op a b : Int32) (ρ : ST_) : Int32 := hm_actR K op a b (hm_rep K (ix_ (ρ 0 1) - 1) ρ)
theorem jr_peek (h : Jr_ K n c σ ρ) (op a b : Int32) : hc_peekR K op a b σ = hm_peekR K op a b ρ ∧ Jr_ K n c (hc_peek K op a b σ) (hm_peek K op a b ρ) := by
  obtain ⟨B1, B2, B3, B4, B5, B6, B7, B8⟩ := id h.2.2
  have c31 : hc_copy σ 31 = σ 30 := by unfold hc_copy; rw [u2_ne _ _ _ (by omega), u1_same]
  have c33 : hc_copy σ 33 1 = σ 33 0 := by unfold hc_copy; rw [u2_at, if_pos ⟨rfl, rfl⟩]
  have c330 : hc_copy σ 33 0 = σ 33 0 := by unfold hc_copy; rw [u2_at, if_neg (by omega), u1_ne _ _ (by omega)]
  have c332 : hc_copy σ 33 2 = σ 33 2 := by unfold hc_copy; rw [u2_at, if_neg (by omega), u1_ne _ _ (by omega)]
  have m24 : hm_rep K (ix_ (ρ 0 1) - 1) ρ 24 = (rs_ K (ρ 21) (ρ 22) (ρ 23) (ix_ (ρ 0 1) - 1)).1 := by unfold hm_rep; rw [u2_ne _ _ _ (by omega), u1_same]
  have m02 : hm_rep K (ix_ (ρ 0 1) - 1) ρ 0 2 = (rs_ K (ρ 21) (ρ 22) (ρ 23) (ix_ (ρ 0 1) - 1)).2.1 := by unfold hm_rep; rw [u2_at, if_pos ⟨rfl, rfl⟩]
  have sn : ∀ x, x ≠ 31 → x ≠ 33 → hc_peek K op a b σ x = σ x := fun x x31 x33 => by
    unfold hc_peek hc_perf hc_copy
    rw [u2_ne _ _ _ x33, u1_ne _ _ (show x ≠ 30 + 1 by omega), u2_ne _ _ _ x33, u1_ne _ _ x31]
  have rn : ∀ x, x ≠ 24 → x ≠ 0 → hm_peek K op a b ρ x = ρ x := fun x x24 x0 => by
    unfold hm_peek hm_act hm_rep
    rw [u2_ne _ _ _ x0, u1_ne _ _ x24, u2_ne _ _ _ x0, u1_ne _ _ x24]
  have r0 : ∀ i, i ≠ 2 → hm_peek K op a b ρ 0 i = ρ 0 i := fun i hi => by
    unfold hm_peek hm_act hm_rep
    rw [u2_at, if_neg (fun z => hi z.2), u1_ne _ _ (by omega), u2_at, if_neg (fun z => hi z.2), u1_ne _ _ (by omega)]
  have s330 : hc_peek K op a b σ 33 0 = σ 33 0 := by
    unfold hc_peek hc_perf
    rw [u2_at, if_neg (by omega), u1_ne _ _ (by omega), c330]
  have s332 : hc_peek K op a b σ 33 2 = σ 33 2 := by
    unfold hc_peek hc_perf
    rw [u2_at, if_neg (by omega), u1_ne _ _ (by omega), c332]
  have tn : ∀ x, x ≠ 24 → x ≠ 0 → tz_ (hm_peek K op a b ρ) x = tz_ ρ x := fun x x24 x0 => by funext j; unfold tz_; rw [rn x x24 x0]
  refine ⟨?_, iv_congr h.1 (by show (hm_peek K op a b ρ 0 1).toInt = _; rw [r0 1 (by omega)]; rfl) (tn 1 (by omega) (by omega)) (tn 2 (by omega) (by omega)) (tn 3 (by omega) (by omega)) (tn 4 (by omega) (by omega)) (tn 8 (by omega) (by omega)) (tn 9 (by omega) (by omega)) (tn 10 (by omega) (by omega)) (tn 11 (by omega) (by omega)) (tn 12 (by omega) (by omega)) (tn 13 (by omega) (by omega)) (tn 14 (by omega) (by omega)), fun x hx => ?_, ?_⟩
  · unfold hc_peekR hm_peekR hc_perfR hm_actR
    rw [show 30 + 1 = 31 from rfl, c31, c33, m24, m02, B3.1, B3.2]
  · unfold dm_ at hx
    rw [sn x (by omega) (by omega), rn x (by omega) (by omega)]
    exact h.2.1 x hx
  · unfold Eb_
    rw [rn 1 (by omega) (by omega), rn 2 (by omega) (by omega), rn 4 (by omega) (by omega), rn 5 (by omega) (by omega), rn 6 (by omega) (by omega), rn 7 (by omega) (by omega), rn 15 (by omega) (by omega), rn 21 (by omega) (by omega), rn 22 (by omega) (by omega), rn 23 (by omega) (by omega), rn 25 (by omega) (by omega), sn 4 (by omega) (by omega), sn 5 (by omega) (by omega), sn 6 (by omega) (by omega), sn 7 (by omega) (by omega), sn 26 (by omega) (by omega), sn 30 (by omega) (by omega), sn 32 (by omega) (by omega), s330, s332, r0 1 (by omega), r0 3 (by omega)]
    exact ⟨B1, B2, B3, B4, B5, B6, B7, B8⟩
/-- plain: both keep an object apart -/
def hm_plain (K : Nat) (op a b : Int32) (ρ : ST_) : ST_ :=
  u1_ (u2_ (hm_act K op a b (u1_ (u2_ ρ 0 2 (ρ 0 3)) 24 (ρ 25))) 0 3 (pa_ K op a b (ρ 25) (ρ 0 3)).2.1) 25 (pa_ K op a b (ρ 25) (ρ 0 3)).1
def hm_plainR (K : Nat) (op a b : Int32) (ρ : ST_) : Int32 := (pa_ K op a b (ρ 25) (ρ 0 3)).2.2
theorem jr_plain (h : Jr_ K n c σ ρ) (op a b : Int32) : hc_perfR K 2 op a b σ = hm_plainR K op a b ρ ∧ Jr_ K n c (hc_perf K 2 op a b σ) (hm_plain K op a b ρ) := by
  obtain ⟨B1, B2, B3, B4, B5, B6, B7, B8⟩ := id h.2.2
  have sn : ∀ x, x ≠ 32 → x ≠ 33 → hc_perf K 2 op a b σ x = σ x := fun x x32 x33 => by
    unfold hc_perf
    rw [u2_ne _ _ _ x33, u1_ne _ _ (show x ≠ 30 + 2 by omega)]
  have s32 : hc_perf K 2 op a b σ 32 = (pa_ K op a b (σ 32) (σ 33 2)).1 := by
    unfold hc_perf
    rw [u2_ne _ _ _ (by omega), show 30 + 2 = 32 from rfl, u1_same]
  have s330 : hc_perf K 2 op a b σ 33 0 = σ 33 0 := by
    unfold hc_perf
    rw [u2_at, if_neg (by omega), u1_ne _ _ (by omega)]
  have s332 : hc_perf K 2 op a b σ 33 2 = (pa_ K op a b (σ 32) (σ 33 2)).2.1 := by
    unfold hc_perf
    rw [u2_at, if_pos ⟨rfl, rfl⟩]
  have rn : ∀ x, x ≠ 24 → x ≠ 0 → x ≠ 25 → hm_plain K op a b ρ x = ρ x := fun x x24 x0 x25 => by
    unfold hm_plain hm_act
    rw [u1_ne _ _ x25, u2_ne _ _ _ x0, u2_ne _ _ _ x0, u1_ne _ _ x24, u1_ne _ _ x24, u2_ne _ _ _ x0]
  have r01 : hm_plain K op a b ρ 0 1 = ρ 0 1 := by
    unfold hm_plain hm_act
    rw [u1_ne _ _ (by omega), u2_at, if_neg (by omega), u2_at, if_neg (by omega), u1_ne _ _ (by omega), u1_ne _ _ (by omega), u2_at, if_neg (by omega)]
  have r03 : hm_plain K op a b ρ 0 3 = (pa_ K op a b (ρ 25) (ρ 0 3)).2.1 := by
    unfold hm_plain
    rw [u1_ne _ _ (by omega), u2_at, if_pos ⟨rfl, rfl⟩]
  have r25 : hm_plain K op a b ρ 25 = (pa_ K op a b (ρ 25) (ρ 0 3)).1 := by unfold hm_plain; rw [u1_same]
  have tn : ∀ x, x ≠ 24 → x ≠ 0 → x ≠ 25 → tz_ (hm_plain K op a b ρ) x = tz_ ρ x := fun x x24 x0 x25 => by funext j; unfold tz_; rw [rn x x24 x0 x25]
  refine ⟨?_, iv_congr h.1 (by show (hm_plain K op a b ρ 0 1).toInt = _; rw [r01]; rfl) (tn 1 (by omega) (by omega) (by omega)) (tn 2 (by omega) (by omega) (by omega)) (tn 3 (by omega) (by omega) (by omega)) (tn 4 (by omega) (by omega) (by omega)) (tn 8 (by omega) (by omega) (by omega)) (tn 9 (by omega) (by omega) (by omega)) (tn 10 (by omega) (by omega) (by omega)) (tn 11 (by omega) (by omega) (by omega)) (tn 12 (by omega) (by omega) (by omega)) (tn 13 (by omega) (by omega) (by omega)) (tn 14 (by omega) (by omega) (by omega)), fun x hx => ?_, ?_⟩
  · unfold hc_perfR hm_plainR
    rw [show 30 + 2 = 32 from rfl, B6.1, B6.2.1]
  · unfold dm_ at hx
    rw [sn x (by omega) (by omega), rn x (by omega) (by omega) (by omega)]
    exact h.2.1 x hx
  · unfold Eb_
    rw [rn 1 (by omega) (by omega) (by omega), rn 2 (by omega) (by omega) (by omega), rn 4 (by omega) (by omega) (by omega), rn 5 (by omega) (by omega) (by omega), rn 6 (by omega) (by omega) (by omega), rn 7 (by omega) (by omega) (by omega), rn 15 (by omega) (by omega) (by omega), rn 21 (by omega) (by omega) (by omega), rn 22 (by omega) (by omega) (by omega), rn 23 (by omega) (by omega) (by omega), sn 4 (by omega) (by omega), sn 5 (by omega) (by omega), sn 6 (by omega) (by omega), sn 7 (by omega) (by omega), sn 26 (by omega) (by omega), sn 30 (by omega) (by omega), s32, s330, s332, r01, r03, r25, B6.1, B6.2.1]
    exact ⟨B1, B2, B3, B4, B5, ⟨rfl, rfl, pa_z B6.2.2⟩, B7, B8⟩
/-- the start -/
def hm_init (K : Nat) : ST_ := fun a j => match a with
  | 0 => if j = 1 then 1 else 0
  | 1 => if j = 0 then 1 else 0
  | 2 => if j = 0 then 1 else 0
  | 3 => -1
  | 4 => -1
  | 9 => -1
  | 10 => -1
  | 20 => -1
  | 24 => pi_ K
  | 25 => pi_ K
  | _ => 0
def hc_init (K : Nat) : ST_ := fun a j => match a with
  | 1 => if j = 0 then 1 else 0
  | 2 => if j = 0 then 1 else 0
  | 3 => -1
  | 4 => -1
  | 5 => -1
  | 6 => -1
  | 7 => -1
  | 9 => -1
  | 10 => -1
  | 20 => -1
  | 30 => pi_ K
  | 31 => pi_ K
  | 32 => pi_ K
  | _ => 0
theorem jr_init (K n : Nat) (hn : n ≤ 5) : Jr_ K n 0 (hc_init K) (hm_init K) := by
  have t01 : tz_ (hm_init K) 0 1 = 1 := iz_1
  have t1 : ∀ k, tz_ (hm_init K) 1 k = if k = 0 then 1 else 0 := fun k => by
    show (if k = 0 then (1 : Int32) else 0).toInt = _
    split
    · exact iz_1
    · exact iz_0
  have t2 : ∀ k, tz_ (hm_init K) 2 k = if k = 0 then 1 else 0 := t1
  have t3 : ∀ k, tz_ (hm_init K) 3 k = -1 := fun _ => iz_m
  have t4 : ∀ k, tz_ (hm_init K) 4 k = -1 := fun _ => iz_m
  have t8 : ∀ k, tz_ (hm_init K) 8 k = 0 := fun _ => iz_0
  have t9 : ∀ k, tz_ (hm_init K) 9 k = -1 := fun _ => iz_m
  have t10 : ∀ k, tz_ (hm_init K) 10 k = -1 := fun _ => iz_m
  have t11 : ∀ k, tz_ (hm_init K) 11 k = 0 := fun _ => iz_0
  have t12 : ∀ k, tz_ (hm_init K) 12 k = 0 := fun _ => iz_0
  have t13 : ∀ k, tz_ (hm_init K) 13 k = 0 := fun _ => iz_0
  have t14 : ∀ k, tz_ (hm_init K) 14 k = 0 := fun _ => iz_0
  have hpd : ∀ m, pd_ (tz_ (hm_init K)) m = 0 := by
    intro m
    induction m with
    | zero => rfl
    | succ m ih =>
      unfold pd_ in_
      rw [ih, t10, if_neg (by omega)]
      rfl
  refine ⟨⟨fun p hp => ?_, fun k hk => ?_, fun j k hj hk h1 h2 h3 h4 => ?_, by rw [t01]; omega, ⟨0, by omega, by rw [t1, if_pos rfl], by rw [t2, if_pos rfl, t01]⟩, by rw [t01, hpd]; omega⟩, fun a ha => ?_, ?_⟩
  · unfold Ip_
    rw [t8, t9, t10, t11, t12, t13, t14]
    show _ ∧ _ ∧ _ ∧ _ ∧ _ ∧ _ ∧ (tz_ (hm_init K) 1 0 = 1 ∧ 1 ≤ tz_ (hm_init K) 2 0) ∧ _
    rw [t1, t2, if_pos rfl]
    exact ⟨by omega, by omega, by omega, by omega, by omega, by omega, by omega, fun _ => rfl, by omega, by omega, by omega, by omega, by omega, by omega, by omega⟩
  · unfold In_ Iu_
    rw [t1, t2, t3, t4, t01]
    by_cases e : k = 0
    · rw [if_pos e]
      exact ⟨Or.inr rfl, by omega, fun _ => ⟨by omega, by omega, by omega, by omega, by omega, by omega⟩⟩
    · rw [if_neg e]
      exact ⟨Or.inl rfl, by omega, by omega⟩
  · rw [t1] at h1 h2
    by_cases e : j = 0
    · by_cases e' : k = 0
      · rw [e, e']
      · rw [if_neg e'] at h2; omega
    · rw [if_neg e] at h1; omega
  · unfold dm_ at ha
    have : a = 1 ∨ a = 2 ∨ a = 3 ∨ a = 8 ∨ a = 9 ∨ a = 10 ∨ a = 11 ∨ a = 12 ∨ a = 13 ∨ a = 14 ∨ a = 15 ∨ a = 16 ∨ a = 17 ∨ a = 18 ∨ a = 19 ∨ a = 20 := by omega
    rcases this with rfl | rfl | rfl | rfl | rfl | rfl | rfl | rfl | rfl | rfl | rfl | rfl | rfl | rfl | rfl | rfl <;> rfl
  · have i01 : ix_ (hm_init K 0 1) = 1 := by show ix_ (1 : Int32) = 1; decide
    have m1 : ∀ k, hm_init K 1 k = if k = 0 then 1 else 0 := fun _ => rfl
    have m2 : ∀ k, hm_init K 2 k = if k = 0 then 1 else 0 := fun _ => rfl
    unfold Eb_
    refine ⟨fun k hk h1 h2 => ?_, fun k hk h1 h2 => ⟨rfl, rfl, rfl, rfl⟩, ?_, fun k hk h1 h2 => ?_, fun k hk h1 h2 => ?_, ?_, fun p hp => ?_, fun k hk => ?_⟩
    · rw [m1] at h1
      rw [m2] at h2
      by_cases e : k = 0
      · rw [if_pos e] at h2; exact absurd rfl h2
      · rw [if_neg e] at h1; exact absurd h1 (by decide)
    · rw [i01]; exact ⟨rfl, rfl⟩
    · rw [m2] at h2
      by_cases e : k = 0
      · rw [if_pos e, iz_1] at h2; omega
      · rw [if_neg e, iz_0] at h2; omega
    · rw [m2] at h2
      by_cases e : k = 0
      · rw [if_pos e, iz_1] at h2; omega
      · rw [if_neg e, iz_0] at h2; omega
    · refine ⟨rfl, rfl, ?_⟩
      show 0 ≤ (0 : Int32).toInt ∧ (0 : Int32).toInt ≤ 8
      rw [iz_0]; omega
    · show 0 ≤ (0 : Int32).toInt ∧ (0 : Int32).toInt ≤ 2
      rw [iz_0]; omega
    · show 0 ≤ (0 : Int32).toInt ∧ (0 : Int32).toInt ≤ 2
      rw [iz_0]; omega
end INIT_A

section CP_A
variable {K q : Nat} {σ : ST_} {op a b : Int32}
theorem p33_u2 (hq : q < 3) (k i : Nat) (x : Int32) : u2_ σ (30 + q) k x 33 i = σ 33 i := by rw [u2_ne _ _ _ (show 33 ≠ 30 + q by omega)]
theorem p33_u1 (hq : q < 3) (f : Nat → Int32) (i : Nat) : u1_ σ (30 + q) f 33 i = σ 33 i := by rw [u1_ne _ _ (show 33 ≠ 30 + q by omega)]
theorem p30_u2 (hq : q < 3) (k : Nat) (x : Int32) : u2_ σ 33 k x (30 + q) = σ (30 + q) := by rw [u2_ne _ _ _ (show 30 + q ≠ 33 by omega)]
theorem pF_c (ad : Nat → Nat) : (pF_ ad σ q)[1]? = some (.int (σ 33 q)) := rfl
theorem hp_id (h1 : (pa_ K op a b (σ (30 + q)) (σ 33 q)).1 = σ (30 + q)) (h2 : (pa_ K op a b (σ (30 + q)) (σ 33 q)).2.1 = σ 33 q) : hc_perf K q op a b σ = σ := by
  unfold hc_perf
  rw [h1, h2, u1_id, u2_id]
theorem pa_bag (hK : K < 2) (f : Nat → Int32) (z : Int32) : pa_ K op a b f z = pq_ K op a f z := if_pos hK
theorem g0_8 (hK : K < 2) (hz : σ 33 q = 8) : hc_perf K q 0 a b σ = σ ∧ hc_perfR K q 0 a b σ = -1 := by
  have h : pa_ K 0 a b (σ (30 + q)) (σ 33 q) = (σ (30 + q), σ 33 q, -1) := by
    rw [pa_bag hK]; unfold pq_; rw [if_neg (by decide), if_pos rfl, if_pos hz]
  exact ⟨hp_id (by rw [h]) (by rw [h]), by unfold hc_perfR; rw [h]⟩
theorem g0_n (hK : K < 2) (hz : ¬ σ 33 q = 8) : hc_perf K q 0 a b σ = u2_ (u2_ σ (30 + q) (ix_ (σ 33 q)) a) 33 q (σ 33 q + 1) ∧ hc_perfR K q 0 a b σ = σ 33 q + 1 := by
  have h : pa_ K 0 a b (σ (30 + q)) (σ 33 q) = (upd (σ (30 + q)) (ix_ (σ 33 q)) a, σ 33 q + 1, σ 33 q + 1) := by
    rw [pa_bag hK]; unfold pq_; rw [if_neg (by decide), if_pos rfl, if_neg hz]
  exact ⟨by unfold hc_perf; rw [h]; rfl, by unfold hc_perfR; rw [h]⟩
theorem g1_0 (hK : K < 2) (hz : σ 33 q = 0) : hc_perf K q 1 a b σ = σ ∧ hc_perfR K q 1 a b σ = -1 := by
  have h : pa_ K 1 a b (σ (30 + q)) (σ 33 q) = (σ (30 + q), σ 33 q, -1) := by
    rw [pa_bag hK]; unfold pq_; rw [if_neg (by decide), if_neg (by decide), if_pos hz]
  exact ⟨hp_id (by rw [h]) (by rw [h]), by unfold hc_perfR; rw [h]⟩
theorem g1_q (hz : ¬ σ 33 q = 0) : hc_perf 0 q 1 a b σ = u2_ (u1_ σ (30 + q) (sh_ (σ (30 + q)) (ix_ (σ 33 q - 1)))) 33 q (σ 33 q - 1) ∧ hc_perfR 0 q 1 a b σ = σ (30 + q) 0 := by
  have h : pa_ 0 1 a b (σ (30 + q)) (σ 33 q) = (sh_ (σ (30 + q)) (ix_ (σ 33 q - 1)), σ 33 q - 1, σ (30 + q) 0) := by
    rw [pa_bag (by decide)]; unfold pq_; rw [if_neg (by decide), if_neg (by decide), if_neg hz, if_pos rfl]
  exact ⟨by unfold hc_perf; rw [h], by unfold hc_perfR; rw [h]⟩
theorem g1_s (hz : ¬ σ 33 q = 0) : hc_perf 1 q 1 a b σ = u2_ σ 33 q (σ 33 q - 1) ∧ hc_perfR 1 q 1 a b σ = σ (30 + q) (ix_ (σ 33 q - 1)) := by
  have h : pa_ 1 1 a b (σ (30 + q)) (σ 33 q) = (σ (30 + q), σ 33 q - 1, σ (30 + q) (ix_ (σ 33 q - 1))) := by
    rw [pa_bag (by decide)]; unfold pq_; rw [if_neg (by decide), if_neg (by decide), if_neg hz, if_neg (by decide)]
  exact ⟨by unfold hc_perf; rw [h, u1_id], by unfold hc_perfR; rw [h]⟩
theorem g2 (hK : K < 2) : hc_perf K q 2 a b σ = σ ∧ hc_perfR K q 2 a b σ = σ 33 q := by
  have h : pa_ K 2 a b (σ (30 + q)) (σ 33 q) = (σ (30 + q), σ 33 q, σ 33 q) := by
    rw [pa_bag hK]; unfold pq_; rw [if_pos rfl]
  exact ⟨hp_id (by rw [h]) (by rw [h]), by unfold hc_perfR; rw [h]⟩
theorem pa_2 (f : Nat → Int32) (z : Int32) : pa_ 2 op a b f z = pt_ op a b f z := by unfold pa_; rw [if_neg (by decide), if_pos rfl]
theorem pa_3 (f : Nat → Int32) (z : Int32) : pa_ 3 op a b f z = pb_ op a b f z := by unfold pa_; rw [if_neg (by decide), if_neg (by decide)]
/-- cells change, the count stays -/
theorem hp_c (hq : q < 3) {f : Nat → Int32} {r : Int32} (h : pa_ K op a b (σ (30 + q)) (σ 33 q) = (f, σ 33 q, r)) : hc_perf K q op a b σ = u1_ σ (30 + q) f ∧ hc_perfR K q op a b σ = r := by
  refine ⟨?_, by unfold hc_perfR; rw [h]⟩
  unfold hc_perf; rw [h]
  have h2 : (u1_ σ (30 + q) f) 33 q = σ 33 q := p33_u1 hq f q
  show u2_ (u1_ σ (30 + q) f) 33 q (σ 33 q) = _
  rw [← h2, u2_id]
theorem t0 (hq : q < 3) : hc_perf 2 q 0 a b σ = u2_ σ (30 + q) (ix_ (a &&& 7)) b ∧ hc_perfR 2 q 0 a b σ = σ (30 + q) (ix_ (a &&& 7)) := hp_c hq (by rw [pa_2]; unfold pt_; rw [if_pos rfl, if_neg (by decide)])
theorem t1 (hq : q < 3) : hc_perf 2 q 1 a b σ = σ ∧ hc_perfR 2 q 1 a b σ = σ (30 + q) (ix_ (a &&& 7)) := by
  have h := hp_c (K := 2) (op := 1) (a := a) (b := b) (σ := σ) hq (by rw [pa_2]; unfold pt_; rw [if_neg (by decide), if_neg (by decide)])
  rw [u1_id] at h; exact h
theorem t2 (hq : q < 3) : hc_perf 2 q 2 a b σ = σ ∧ hc_perfR 2 q 2 a b σ = sm_ (σ (30 + q)) 8 := by
  have h := hp_c (K := 2) (op := 2) (a := a) (b := b) (σ := σ) hq (by rw [pa_2]; unfold pt_; rw [if_neg (by decide), if_pos rfl])
  rw [u1_id] at h; exact h
theorem b0_n (hq : q < 3) (h : σ (30 + q) (ix_ (a &&& 3)) < 10) : hc_perf 3 q 0 a b σ = σ ∧ hc_perfR 3 q 0 a b σ = 0 := by
  have h := hp_c (K := 3) (op := 0) (a := a) (b := b) (σ := σ) hq (by rw [pa_3]; unfold pb_; rw [if_pos rfl, if_pos h])
  rw [u1_id] at h; exact h
theorem b0_y (hq : q < 3) (h : ¬ σ (30 + q) (ix_ (a &&& 3)) < 10) : hc_perf 3 q 0 a b σ = u2_ (u2_ σ (30 + q) (ix_ (a &&& 3)) (σ (30 + q) (ix_ (a &&& 3)) - 10)) (30 + q) (ix_ (b &&& 3)) (upd (σ (30 + q)) (ix_ (a &&& 3)) (σ (30 + q) (ix_ (a &&& 3)) - 10) (ix_ (b &&& 3)) + 10) ∧ hc_perfR 3 q 0 a b σ = 1 := by
  have h := hp_c (K := 3) (op := 0) (a := a) (b := b) (σ := σ) hq (by rw [pa_3]; unfold pb_; rw [if_pos rfl, if_neg h])
  rw [← u12_id] at h; exact h
theorem b1 (hq : q < 3) : hc_perf 3 q 1 a b σ = σ ∧ hc_perfR 3 q 1 a b σ = σ (30 + q) (ix_ (a &&& 3)) := by
  have h := hp_c (K := 3) (op := 1) (a := a) (b := b) (σ := σ) hq (by rw [pa_3]; unfold pb_; rw [if_neg (by decide), if_neg (by decide)])
  rw [u1_id] at h; exact h
theorem b2 (hq : q < 3) : hc_perf 3 q 2 a b σ = u2_ σ (30 + q) (ix_ (a &&& 3)) (σ (30 + q) (ix_ (a &&& 3)) + b) ∧ hc_perfR 3 q 2 a b σ = σ (30 + q) (ix_ (a &&& 3)) + b := hp_c hq (by rw [pa_3]; unfold pb_; rw [if_neg (by decide), if_pos rfl])
theorem sm_s (f : Nat → Int32) (j : Nat) : sm_ f j + f j = sm_ f (j + 1) := rfl
theorem u2_u1 (c i : Nat) (f : Nat → Int32) (v : Int32) : (u1_ σ c f) c = f := u1_same σ c f
end CP_A

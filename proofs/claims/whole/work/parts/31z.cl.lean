section CL_A
theorem on_v1 {σ : ST_} {k : Nat} (h1 : ¬ σ 1 k = 0) (h2 : ¬ σ 2 k ≤ 0) : (1 : Int32) = cond (on_ σ k) 1 0 := by
  rw [on_iff.mpr ⟨h1, by rw [iz_lt, iz_0]; rw [iz_le, iz_0] at h2; omega⟩]; rfl
theorem on_v0 {σ : ST_} {k : Nat} (h : σ 1 k = 0 ∨ σ 2 k ≤ 0) : (0 : Int32) = cond (on_ σ k) 1 0 := by
  have h2 : on_ σ k = false := by
    cases hb : on_ σ k with
    | false => rfl
    | true =>
      obtain ⟨g1, g2⟩ := on_iff.mp hb
      rcases h with h | h
      · exact absurd h g1
      · rw [iz_lt, iz_0] at g2; rw [iz_le, iz_0] at h; omega
  rw [h2]; rfl
end CL_A

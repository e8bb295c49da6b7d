/-! the class's memory and the reference's, tied -/
def Ok (f : Nat → Int32) (lim : Int32) : Prop := (∀ k, k < 5 → 0 ≤ (f k).toInt) ∧ (f 0).toInt + (f 1).toInt + (f 2).toInt + (f 3).toInt + (f 4).toInt ≤ lim.toInt ∧ lim.toInt ≤ 200
def Rel (σ μ : St) : Prop :=
  (∀ t, t < 8 → bz (σ 17 t) = bz (μ 1 t) ∧ bz (σ 18 t) = bz (μ 2 t) ∧ σ 19 t = μ 3 t) ∧
  (∀ t, t < 8 → ¬ bz (σ 17 t) = 0 → (∀ k, k < 5 → σ t k = μ 4 (5 * t + k)) ∧ Ok (σ t) (σ 19 t)) ∧
  (∀ k, k < 5 → σ 8 k = μ 4 (40 + k)) ∧
  (σ 20 0 = μ 0 1 ∧ σ 20 1 = μ 0 2 ∧ σ 20 2 = μ 0 3 ∧ σ 20 3 = μ 0 4)

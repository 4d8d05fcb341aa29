/-! 21: the one identity of flips that three letters turned about need, case by case (a program printed the cases) -/
set_option maxHeartbeats 4000000 in
set_option maxRecDepth 100000 in
theorem dy_c1 (v0 v1 v2 v3 u1 u2 u3 d1 d2 d3 : Int) (g0 : u2 + d1 ≤ u1 + d2) (g1 : v0 ≤ v1) (g2 : v2 ≤ v1) (g3 : u3 + d2 ≤ u2 + d3) : ∀ U2 : Int, U2 = max (u1 + d3) ((-v2 + u1 + d3) + (v1 + u1 - u2 - d1 + d2)) - (u1 - u2 + d2) → ∀ D2 : Int, D2 = max (u1 + d3) ((-v2 + u1 + d3) + v3) - u3 → ∀ V2 : Int, V2 = max (U2 + D2) (d3 + u1) - (-v2 + u1 + d3) → ∀ h3 : Int, h3 = max ((u1 - d1 + d2) + d3) (d2 + U2) - (v1 + u1 - u2 - d1 + d2) → ∀ U3 : Int, U3 = max ((u1 - d1 + d2) + d3) (h3 + v0) - d2 → ∀ D3 : Int, D3 = max ((u1 - d1 + d2) + d3) (h3 + V2) - U2 → ∀ V3 : Int, V3 = max (U3 + D3) (d3 + (u1 - d1 + d2)) - h3 → ∀ h4 : Int, h4 = max (u2 + d3) (d2 + u3) - v2 → ∀ U4 : Int, U4 = max (u2 + d3) (h4 + v1) - d2 → ∀ D4 : Int, D4 = max (u2 + d3) (h4 + v3) - u3 → ∀ V4 : Int, V4 = max (U4 + D4) (d3 + u2) - h4 → ∀ h5 : Int, h5 = max (u1 + d3) (d1 + U4) - v1 → ∀ U5 : Int, U5 = max (u1 + d3) (h5 + v0) - d1 → ∀ D5 : Int, D5 = max (u1 + d3) (h5 + V4) - U4 → ∀ V5 : Int, V5 = max (U5 + D5) (d3 + u1) - h5 → ∀ h6 : Int, h6 = max (u1 + D4) (D5 + u2) - V4 → ∀ U6 : Int, U6 = max (u1 + D4) (h6 + V5) - D5 → ∀ D6 : Int, D6 = max (u1 + D4) (h6 + v3) - u2 → ∀ V6 : Int, V6 = max (U6 + D6) (D4 + u1) - h6 → V3 = V5 ∧ U3 = U5 ∧ V2 = V6 ∧ (u1 - d1 + d2) = U6 ∧ D3 = D4 ∧ D2 = D6 := by
  intro U2 e
  have g : (u1 + d3) ≤ ((-v2 + u1 + d3) + (v1 + u1 - u2 - d1 + d2)) := by omega
  rw [Int.max_eq_right g] at e
  obtain rfl : U2 = v1 - v2 + u1 - d1 + d3 := by omega
  clear e g
  intro D2 e
  rcases Int.le_total ((-v2 + u1 + d3) + v3) (u1 + d3) with g | g
  · rw [Int.max_eq_left g] at e
    obtain rfl : D2 = u1 - u3 + d3 := by omega
    clear e
    intro V2 e
    have g : (d3 + u1) ≤ ((v1 - v2 + u1 - d1 + d3) + (u1 - u3 + d3)) := by omega
    rw [Int.max_eq_left g] at e
    obtain rfl : V2 = v1 + u1 - u3 - d1 + d3 := by omega
    clear e g
    intro h3 e
    have g : ((u1 - d1 + d2) + d3) ≤ (d2 + (v1 - v2 + u1 - d1 + d3)) := by omega
    rw [Int.max_eq_right g] at e
    obtain rfl : h3 = -v2 + u2 + d3 := by omega
    clear e g
    intro U3 e
    rcases Int.le_total ((-v2 + u2 + d3) + v0) ((u1 - d1 + d2) + d3) with g | g
    · rw [Int.max_eq_left g] at e
      obtain rfl : U3 = u1 - d1 + d3 := by omega
      clear e
      intro D3 e
      have g : ((u1 - d1 + d2) + d3) ≤ ((-v2 + u2 + d3) + (v1 + u1 - u3 - d1 + d3)) := by omega
      rw [Int.max_eq_right g] at e
      obtain rfl : D3 = u2 - u3 + d3 := by omega
      clear e g
      intro V3 e
      have g : (d3 + (u1 - d1 + d2)) ≤ ((u1 - d1 + d3) + (u2 - u3 + d3)) := by omega
      rw [Int.max_eq_left g] at e
      obtain rfl : V3 = v2 + u1 - u3 - d1 + d3 := by omega
      clear e g
      intro h4 e
      have g : (d2 + u3) ≤ (u2 + d3) := by omega
      rw [Int.max_eq_left g] at e
      obtain rfl : h4 = -v2 + u2 + d3 := by omega
      clear e g
      intro U4 e
      have g : (u2 + d3) ≤ ((-v2 + u2 + d3) + v1) := by omega
      rw [Int.max_eq_right g] at e
      obtain rfl : U4 = v1 - v2 + u2 - d2 + d3 := by omega
      clear e g
      intro D4 e
      have g : ((-v2 + u2 + d3) + v3) ≤ (u2 + d3) := by omega
      rw [Int.max_eq_left g] at e
      obtain rfl : D4 = u2 - u3 + d3 := by omega
      clear e g
      intro V4 e
      have g : (d3 + u2) ≤ ((v1 - v2 + u2 - d2 + d3) + (u2 - u3 + d3)) := by omega
      rw [Int.max_eq_left g] at e
      obtain rfl : V4 = v1 + u2 - u3 - d2 + d3 := by omega
      clear e g
      intro h5 e
      rcases Int.le_total (d1 + (v1 - v2 + u2 - d2 + d3)) (u1 + d3) with g | g
      · rw [Int.max_eq_left g] at e
        obtain rfl : h5 = -v1 + u1 + d3 := by omega
        clear e
        intro U5 e
        have g : ((-v1 + u1 + d3) + v0) ≤ (u1 + d3) := by omega
        rw [Int.max_eq_left g] at e
        obtain rfl : U5 = u1 - d1 + d3 := by omega
        clear e g
        intro D5 e
        have g : (u1 + d3) ≤ ((-v1 + u1 + d3) + (v1 + u2 - u3 - d2 + d3)) := by omega
        rw [Int.max_eq_right g] at e
        obtain rfl : D5 = -v1 + v2 + u1 - u3 + d3 := by omega
        clear e g
        intro V5 e
        have g : (d3 + u1) ≤ ((u1 - d1 + d3) + (-v1 + v2 + u1 - u3 + d3)) := by omega
        rw [Int.max_eq_left g] at e
        obtain rfl : V5 = v2 + u1 - u3 - d1 + d3 := by omega
        clear e g
        intro h6 e
        have g : ((-v1 + v2 + u1 - u3 + d3) + u2) ≤ (u1 + (u2 - u3 + d3)) := by omega
        rw [Int.max_eq_left g] at e
        obtain rfl : h6 = -v1 + u1 + d2 := by omega
        clear e g
        intro U6 e
        have g : (u1 + (u2 - u3 + d3)) ≤ ((-v1 + u1 + d2) + (v2 + u1 - u3 - d1 + d3)) := by omega
        rw [Int.max_eq_right g] at e
        obtain rfl : U6 = u1 - d1 + d2 := by omega
        clear e g
        intro D6 e
        have g : ((-v1 + u1 + d2) + v3) ≤ (u1 + (u2 - u3 + d3)) := by omega
        rw [Int.max_eq_left g] at e
        obtain rfl : D6 = u1 - u3 + d3 := by omega
        clear e g
        intro V6 e
        have g : ((u2 - u3 + d3) + u1) ≤ ((u1 - d1 + d2) + (u1 - u3 + d3)) := by omega
        rw [Int.max_eq_left g] at e
        obtain rfl : V6 = v1 + u1 - u3 - d1 + d3 := by omega
        clear e g
        exact ⟨rfl, rfl, rfl, rfl, rfl, rfl⟩
      · rw [Int.max_eq_right g] at e
        obtain rfl : h5 = -v2 + u2 + d1 - d2 + d3 := by omega
        clear e
        intro U5 e
        have g : ((-v2 + u2 + d1 - d2 + d3) + v0) ≤ (u1 + d3) := by omega
        rw [Int.max_eq_left g] at e
        obtain rfl : U5 = u1 - d1 + d3 := by omega
        clear e g
        intro D5 e
        have g : (u1 + d3) ≤ ((-v2 + u2 + d1 - d2 + d3) + (v1 + u2 - u3 - d2 + d3)) := by omega
        rw [Int.max_eq_right g] at e
        obtain rfl : D5 = u2 - u3 + d1 - d2 + d3 := by omega
        clear e g
        intro V5 e
        have g : (d3 + u1) ≤ ((u1 - d1 + d3) + (u2 - u3 + d1 - d2 + d3)) := by omega
        rw [Int.max_eq_left g] at e
        obtain rfl : V5 = v2 + u1 - u3 - d1 + d3 := by omega
        clear e g
        intro h6 e
        have g : ((u2 - u3 + d1 - d2 + d3) + u2) ≤ (u1 + (u2 - u3 + d3)) := by omega
        rw [Int.max_eq_left g] at e
        obtain rfl : h6 = -v1 + u1 + d2 := by omega
        clear e g
        intro U6 e
        have g : ((-v1 + u1 + d2) + (v2 + u1 - u3 - d1 + d3)) ≤ (u1 + (u2 - u3 + d3)) := by omega
        rw [Int.max_eq_left g] at e
        obtain rfl : U6 = u1 - d1 + d2 := by omega
        clear e g
        intro D6 e
        have g : ((-v1 + u1 + d2) + v3) ≤ (u1 + (u2 - u3 + d3)) := by omega
        rw [Int.max_eq_left g] at e
        obtain rfl : D6 = u1 - u3 + d3 := by omega
        clear e g
        intro V6 e
        have g : ((u2 - u3 + d3) + u1) ≤ ((u1 - d1 + d2) + (u1 - u3 + d3)) := by omega
        rw [Int.max_eq_left g] at e
        obtain rfl : V6 = v1 + u1 - u3 - d1 + d3 := by omega
        clear e g
        exact ⟨rfl, rfl, rfl, rfl, rfl, rfl⟩
    · rw [Int.max_eq_right g] at e
      obtain rfl : U3 = v0 - v2 + u2 - d2 + d3 := by omega
      clear e
      intro D3 e
      have g : ((u1 - d1 + d2) + d3) ≤ ((-v2 + u2 + d3) + (v1 + u1 - u3 - d1 + d3)) := by omega
      rw [Int.max_eq_right g] at e
      obtain rfl : D3 = u2 - u3 + d3 := by omega
      clear e g
      intro V3 e
      have g : (d3 + (u1 - d1 + d2)) ≤ ((v0 - v2 + u2 - d2 + d3) + (u2 - u3 + d3)) := by omega
      rw [Int.max_eq_left g] at e
      obtain rfl : V3 = v0 + u2 - u3 - d2 + d3 := by omega
      clear e g
      intro h4 e
      have g : (d2 + u3) ≤ (u2 + d3) := by omega
      rw [Int.max_eq_left g] at e
      obtain rfl : h4 = -v2 + u2 + d3 := by omega
      clear e g
      intro U4 e
      have g : (u2 + d3) ≤ ((-v2 + u2 + d3) + v1) := by omega
      rw [Int.max_eq_right g] at e
      obtain rfl : U4 = v1 - v2 + u2 - d2 + d3 := by omega
      clear e g
      intro D4 e
      have g : ((-v2 + u2 + d3) + v3) ≤ (u2 + d3) := by omega
      rw [Int.max_eq_left g] at e
      obtain rfl : D4 = u2 - u3 + d3 := by omega
      clear e g
      intro V4 e
      have g : (d3 + u2) ≤ ((v1 - v2 + u2 - d2 + d3) + (u2 - u3 + d3)) := by omega
      rw [Int.max_eq_left g] at e
      obtain rfl : V4 = v1 + u2 - u3 - d2 + d3 := by omega
      clear e g
      intro h5 e
      have g : (u1 + d3) ≤ (d1 + (v1 - v2 + u2 - d2 + d3)) := by omega
      rw [Int.max_eq_right g] at e
      obtain rfl : h5 = -v2 + u2 + d1 - d2 + d3 := by omega
      clear e g
      intro U5 e
      have g : (u1 + d3) ≤ ((-v2 + u2 + d1 - d2 + d3) + v0) := by omega
      rw [Int.max_eq_right g] at e
      obtain rfl : U5 = v0 - v2 + u2 - d2 + d3 := by omega
      clear e g
      intro D5 e
      have g : (u1 + d3) ≤ ((-v2 + u2 + d1 - d2 + d3) + (v1 + u2 - u3 - d2 + d3)) := by omega
      rw [Int.max_eq_right g] at e
      obtain rfl : D5 = u2 - u3 + d1 - d2 + d3 := by omega
      clear e g
      intro V5 e
      have g : (d3 + u1) ≤ ((v0 - v2 + u2 - d2 + d3) + (u2 - u3 + d1 - d2 + d3)) := by omega
      rw [Int.max_eq_left g] at e
      obtain rfl : V5 = v0 + u2 - u3 - d2 + d3 := by omega
      clear e g
      intro h6 e
      have g : ((u2 - u3 + d1 - d2 + d3) + u2) ≤ (u1 + (u2 - u3 + d3)) := by omega
      rw [Int.max_eq_left g] at e
      obtain rfl : h6 = -v1 + u1 + d2 := by omega
      clear e g
      intro U6 e
      have g : ((-v1 + u1 + d2) + (v0 + u2 - u3 - d2 + d3)) ≤ (u1 + (u2 - u3 + d3)) := by omega
      rw [Int.max_eq_left g] at e
      obtain rfl : U6 = u1 - d1 + d2 := by omega
      clear e g
      intro D6 e
      have g : ((-v1 + u1 + d2) + v3) ≤ (u1 + (u2 - u3 + d3)) := by omega
      rw [Int.max_eq_left g] at e
      obtain rfl : D6 = u1 - u3 + d3 := by omega
      clear e g
      intro V6 e
      have g : ((u2 - u3 + d3) + u1) ≤ ((u1 - d1 + d2) + (u1 - u3 + d3)) := by omega
      rw [Int.max_eq_left g] at e
      obtain rfl : V6 = v1 + u1 - u3 - d1 + d3 := by omega
      clear e g
      exact ⟨rfl, rfl, rfl, rfl, rfl, rfl⟩
  · rw [Int.max_eq_right g] at e
    obtain rfl : D2 = -v2 + v3 + u1 - u3 + d3 := by omega
    clear e
    intro V2 e
    have g : (d3 + u1) ≤ ((v1 - v2 + u1 - d1 + d3) + (-v2 + v3 + u1 - u3 + d3)) := by omega
    rw [Int.max_eq_left g] at e
    obtain rfl : V2 = v1 - v2 + v3 + u1 - u3 - d1 + d3 := by omega
    clear e g
    intro h3 e
    have g : ((u1 - d1 + d2) + d3) ≤ (d2 + (v1 - v2 + u1 - d1 + d3)) := by omega
    rw [Int.max_eq_right g] at e
    obtain rfl : h3 = -v2 + u2 + d3 := by omega
    clear e g
    intro U3 e
    rcases Int.le_total ((-v2 + u2 + d3) + v0) ((u1 - d1 + d2) + d3) with g | g
    · rw [Int.max_eq_left g] at e
      obtain rfl : U3 = u1 - d1 + d3 := by omega
      clear e
      intro D3 e
      have g : ((u1 - d1 + d2) + d3) ≤ ((-v2 + u2 + d3) + (v1 - v2 + v3 + u1 - u3 - d1 + d3)) := by omega
      rw [Int.max_eq_right g] at e
      obtain rfl : D3 = -v2 + v3 + u2 - u3 + d3 := by omega
      clear e g
      intro V3 e
      have g : (d3 + (u1 - d1 + d2)) ≤ ((u1 - d1 + d3) + (-v2 + v3 + u2 - u3 + d3)) := by omega
      rw [Int.max_eq_left g] at e
      obtain rfl : V3 = v3 + u1 - u3 - d1 + d3 := by omega
      clear e g
      intro h4 e
      have g : (d2 + u3) ≤ (u2 + d3) := by omega
      rw [Int.max_eq_left g] at e
      obtain rfl : h4 = -v2 + u2 + d3 := by omega
      clear e g
      intro U4 e
      have g : (u2 + d3) ≤ ((-v2 + u2 + d3) + v1) := by omega
      rw [Int.max_eq_right g] at e
      obtain rfl : U4 = v1 - v2 + u2 - d2 + d3 := by omega
      clear e g
      intro D4 e
      have g : (u2 + d3) ≤ ((-v2 + u2 + d3) + v3) := by omega
      rw [Int.max_eq_right g] at e
      obtain rfl : D4 = -v2 + v3 + u2 - u3 + d3 := by omega
      clear e g
      intro V4 e
      have g : (d3 + u2) ≤ ((v1 - v2 + u2 - d2 + d3) + (-v2 + v3 + u2 - u3 + d3)) := by omega
      rw [Int.max_eq_left g] at e
      obtain rfl : V4 = v1 - v2 + v3 + u2 - u3 - d2 + d3 := by omega
      clear e g
      intro h5 e
      rcases Int.le_total (d1 + (v1 - v2 + u2 - d2 + d3)) (u1 + d3) with g | g
      · rw [Int.max_eq_left g] at e
        obtain rfl : h5 = -v1 + u1 + d3 := by omega
        clear e
        intro U5 e
        have g : ((-v1 + u1 + d3) + v0) ≤ (u1 + d3) := by omega
        rw [Int.max_eq_left g] at e
        obtain rfl : U5 = u1 - d1 + d3 := by omega
        clear e g
        intro D5 e
        have g : (u1 + d3) ≤ ((-v1 + u1 + d3) + (v1 - v2 + v3 + u2 - u3 - d2 + d3)) := by omega
        rw [Int.max_eq_right g] at e
        obtain rfl : D5 = -v1 + v3 + u1 - u3 + d3 := by omega
        clear e g
        intro V5 e
        have g : (d3 + u1) ≤ ((u1 - d1 + d3) + (-v1 + v3 + u1 - u3 + d3)) := by omega
        rw [Int.max_eq_left g] at e
        obtain rfl : V5 = v3 + u1 - u3 - d1 + d3 := by omega
        clear e g
        intro h6 e
        have g : ((-v1 + v3 + u1 - u3 + d3) + u2) ≤ (u1 + (-v2 + v3 + u2 - u3 + d3)) := by omega
        rw [Int.max_eq_left g] at e
        obtain rfl : h6 = -v1 + u1 + d2 := by omega
        clear e g
        intro U6 e
        have g : (u1 + (-v2 + v3 + u2 - u3 + d3)) ≤ ((-v1 + u1 + d2) + (v3 + u1 - u3 - d1 + d3)) := by omega
        rw [Int.max_eq_right g] at e
        obtain rfl : U6 = u1 - d1 + d2 := by omega
        clear e g
        intro D6 e
        have g : ((-v1 + u1 + d2) + v3) ≤ (u1 + (-v2 + v3 + u2 - u3 + d3)) := by omega
        rw [Int.max_eq_left g] at e
        obtain rfl : D6 = -v2 + v3 + u1 - u3 + d3 := by omega
        clear e g
        intro V6 e
        have g : ((-v2 + v3 + u2 - u3 + d3) + u1) ≤ ((u1 - d1 + d2) + (-v2 + v3 + u1 - u3 + d3)) := by omega
        rw [Int.max_eq_left g] at e
        obtain rfl : V6 = v1 - v2 + v3 + u1 - u3 - d1 + d3 := by omega
        clear e g
        exact ⟨rfl, rfl, rfl, rfl, rfl, rfl⟩
      · rw [Int.max_eq_right g] at e
        obtain rfl : h5 = -v2 + u2 + d1 - d2 + d3 := by omega
        clear e
        intro U5 e
        have g : ((-v2 + u2 + d1 - d2 + d3) + v0) ≤ (u1 + d3) := by omega
        rw [Int.max_eq_left g] at e
        obtain rfl : U5 = u1 - d1 + d3 := by omega
        clear e g
        intro D5 e
        have g : (u1 + d3) ≤ ((-v2 + u2 + d1 - d2 + d3) + (v1 - v2 + v3 + u2 - u3 - d2 + d3)) := by omega
        rw [Int.max_eq_right g] at e
        obtain rfl : D5 = -v2 + v3 + u2 - u3 + d1 - d2 + d3 := by omega
        clear e g
        intro V5 e
        have g : (d3 + u1) ≤ ((u1 - d1 + d3) + (-v2 + v3 + u2 - u3 + d1 - d2 + d3)) := by omega
        rw [Int.max_eq_left g] at e
        obtain rfl : V5 = v3 + u1 - u3 - d1 + d3 := by omega
        clear e g
        intro h6 e
        have g : ((-v2 + v3 + u2 - u3 + d1 - d2 + d3) + u2) ≤ (u1 + (-v2 + v3 + u2 - u3 + d3)) := by omega
        rw [Int.max_eq_left g] at e
        obtain rfl : h6 = -v1 + u1 + d2 := by omega
        clear e g
        intro U6 e
        have g : ((-v1 + u1 + d2) + (v3 + u1 - u3 - d1 + d3)) ≤ (u1 + (-v2 + v3 + u2 - u3 + d3)) := by omega
        rw [Int.max_eq_left g] at e
        obtain rfl : U6 = u1 - d1 + d2 := by omega
        clear e g
        intro D6 e
        have g : ((-v1 + u1 + d2) + v3) ≤ (u1 + (-v2 + v3 + u2 - u3 + d3)) := by omega
        rw [Int.max_eq_left g] at e
        obtain rfl : D6 = -v2 + v3 + u1 - u3 + d3 := by omega
        clear e g
        intro V6 e
        have g : ((-v2 + v3 + u2 - u3 + d3) + u1) ≤ ((u1 - d1 + d2) + (-v2 + v3 + u1 - u3 + d3)) := by omega
        rw [Int.max_eq_left g] at e
        obtain rfl : V6 = v1 - v2 + v3 + u1 - u3 - d1 + d3 := by omega
        clear e g
        exact ⟨rfl, rfl, rfl, rfl, rfl, rfl⟩
    · rw [Int.max_eq_right g] at e
      obtain rfl : U3 = v0 - v2 + u2 - d2 + d3 := by omega
      clear e
      intro D3 e
      have g : ((u1 - d1 + d2) + d3) ≤ ((-v2 + u2 + d3) + (v1 - v2 + v3 + u1 - u3 - d1 + d3)) := by omega
      rw [Int.max_eq_right g] at e
      obtain rfl : D3 = -v2 + v3 + u2 - u3 + d3 := by omega
      clear e g
      intro V3 e
      have g : (d3 + (u1 - d1 + d2)) ≤ ((v0 - v2 + u2 - d2 + d3) + (-v2 + v3 + u2 - u3 + d3)) := by omega
      rw [Int.max_eq_left g] at e
      obtain rfl : V3 = v0 - v2 + v3 + u2 - u3 - d2 + d3 := by omega
      clear e g
      intro h4 e
      have g : (d2 + u3) ≤ (u2 + d3) := by omega
      rw [Int.max_eq_left g] at e
      obtain rfl : h4 = -v2 + u2 + d3 := by omega
      clear e g
      intro U4 e
      have g : (u2 + d3) ≤ ((-v2 + u2 + d3) + v1) := by omega
      rw [Int.max_eq_right g] at e
      obtain rfl : U4 = v1 - v2 + u2 - d2 + d3 := by omega
      clear e g
      intro D4 e
      have g : (u2 + d3) ≤ ((-v2 + u2 + d3) + v3) := by omega
      rw [Int.max_eq_right g] at e
      obtain rfl : D4 = -v2 + v3 + u2 - u3 + d3 := by omega
      clear e g
      intro V4 e
      have g : (d3 + u2) ≤ ((v1 - v2 + u2 - d2 + d3) + (-v2 + v3 + u2 - u3 + d3)) := by omega
      rw [Int.max_eq_left g] at e
      obtain rfl : V4 = v1 - v2 + v3 + u2 - u3 - d2 + d3 := by omega
      clear e g
      intro h5 e
      have g : (u1 + d3) ≤ (d1 + (v1 - v2 + u2 - d2 + d3)) := by omega
      rw [Int.max_eq_right g] at e
      obtain rfl : h5 = -v2 + u2 + d1 - d2 + d3 := by omega
      clear e g
      intro U5 e
      have g : (u1 + d3) ≤ ((-v2 + u2 + d1 - d2 + d3) + v0) := by omega
      rw [Int.max_eq_right g] at e
      obtain rfl : U5 = v0 - v2 + u2 - d2 + d3 := by omega
      clear e g
      intro D5 e
      have g : (u1 + d3) ≤ ((-v2 + u2 + d1 - d2 + d3) + (v1 - v2 + v3 + u2 - u3 - d2 + d3)) := by omega
      rw [Int.max_eq_right g] at e
      obtain rfl : D5 = -v2 + v3 + u2 - u3 + d1 - d2 + d3 := by omega
      clear e g
      intro V5 e
      have g : (d3 + u1) ≤ ((v0 - v2 + u2 - d2 + d3) + (-v2 + v3 + u2 - u3 + d1 - d2 + d3)) := by omega
      rw [Int.max_eq_left g] at e
      obtain rfl : V5 = v0 - v2 + v3 + u2 - u3 - d2 + d3 := by omega
      clear e g
      intro h6 e
      have g : ((-v2 + v3 + u2 - u3 + d1 - d2 + d3) + u2) ≤ (u1 + (-v2 + v3 + u2 - u3 + d3)) := by omega
      rw [Int.max_eq_left g] at e
      obtain rfl : h6 = -v1 + u1 + d2 := by omega
      clear e g
      intro U6 e
      have g : ((-v1 + u1 + d2) + (v0 - v2 + v3 + u2 - u3 - d2 + d3)) ≤ (u1 + (-v2 + v3 + u2 - u3 + d3)) := by omega
      rw [Int.max_eq_left g] at e
      obtain rfl : U6 = u1 - d1 + d2 := by omega
      clear e g
      intro D6 e
      have g : ((-v1 + u1 + d2) + v3) ≤ (u1 + (-v2 + v3 + u2 - u3 + d3)) := by omega
      rw [Int.max_eq_left g] at e
      obtain rfl : D6 = -v2 + v3 + u1 - u3 + d3 := by omega
      clear e g
      intro V6 e
      have g : ((-v2 + v3 + u2 - u3 + d3) + u1) ≤ ((u1 - d1 + d2) + (-v2 + v3 + u1 - u3 + d3)) := by omega
      rw [Int.max_eq_left g] at e
      obtain rfl : V6 = v1 - v2 + v3 + u1 - u3 - d1 + d3 := by omega
      clear e g
      exact ⟨rfl, rfl, rfl, rfl, rfl, rfl⟩
set_option maxHeartbeats 4000000 in
set_option maxRecDepth 100000 in
theorem dy_c2 (v0 v1 v2 v3 u1 u2 u3 d1 d2 d3 : Int) (g0 : u2 + d1 ≤ u1 + d2) (g1 : v0 ≤ v1) (g2 : v2 ≤ v1) (g3 : u2 + d3 ≤ u3 + d2) (g4 : v3 + u3 + d2 ≤ v2 + u2 + d3) : ∀ V2 : Int, V2 = max ((v1 - v2 + u1 - u2 + u3 - d1 + d2) + (u1 - u3 + d3)) (d3 + u1) - (-v2 + u1 - u2 + u3 + d2) → ∀ h3 : Int, h3 = max ((u1 - d1 + d2) + d3) (d2 + (v1 - v2 + u1 - u2 + u3 - d1 + d2)) - (v1 + u1 - u2 - d1 + d2) → ∀ U3 : Int, U3 = max ((u1 - d1 + d2) + d3) (h3 + v0) - d2 → ∀ D3 : Int, D3 = max ((u1 - d1 + d2) + d3) (h3 + V2) - (v1 - v2 + u1 - u2 + u3 - d1 + d2) → ∀ V3 : Int, V3 = max (U3 + D3) (d3 + (u1 - d1 + d2)) - h3 → ∀ h4 : Int, h4 = max (u2 + d3) (d2 + u3) - v2 → ∀ U4 : Int, U4 = max (u2 + d3) (h4 + v1) - d2 → ∀ D4 : Int, D4 = max (u2 + d3) (h4 + v3) - u3 → ∀ V4 : Int, V4 = max (U4 + D4) (d3 + u2) - h4 → ∀ h5 : Int, h5 = max (u1 + d3) (d1 + U4) - v1 → ∀ U5 : Int, U5 = max (u1 + d3) (h5 + v0) - d1 → ∀ D5 : Int, D5 = max (u1 + d3) (h5 + V4) - U4 → ∀ V5 : Int, V5 = max (U5 + D5) (d3 + u1) - h5 → ∀ h6 : Int, h6 = max (u1 + D4) (D5 + u2) - V4 → ∀ U6 : Int, U6 = max (u1 + D4) (h6 + V5) - D5 → ∀ D6 : Int, D6 = max (u1 + D4) (h6 + v3) - u2 → ∀ V6 : Int, V6 = max (U6 + D6) (D4 + u1) - h6 → V3 = V5 ∧ U3 = U5 ∧ V2 = V6 ∧ (u1 - d1 + d2) = U6 ∧ D3 = D4 ∧ (u1 - u3 + d3) = D6 := by
  intro V2 e
  have g : (d3 + u1) ≤ ((v1 - v2 + u1 - u2 + u3 - d1 + d2) + (u1 - u3 + d3)) := by omega
  rw [Int.max_eq_left g] at e
  obtain rfl : V2 = v1 + u1 - u3 - d1 + d3 := by omega
  clear e g
  intro h3 e
  have g : ((u1 - d1 + d2) + d3) ≤ (d2 + (v1 - v2 + u1 - u2 + u3 - d1 + d2)) := by omega
  rw [Int.max_eq_right g] at e
  obtain rfl : h3 = -v2 + u3 + d2 := by omega
  clear e g
  intro U3 e
  rcases Int.le_total ((-v2 + u3 + d2) + v0) ((u1 - d1 + d2) + d3) with g | g
  · rw [Int.max_eq_left g] at e
    obtain rfl : U3 = u1 - d1 + d3 := by omega
    clear e
    intro D3 e
    have g : ((u1 - d1 + d2) + d3) ≤ ((-v2 + u3 + d2) + (v1 + u1 - u3 - d1 + d3)) := by omega
    rw [Int.max_eq_right g] at e
    obtain rfl : D3 = u2 - u3 + d3 := by omega
    clear e g
    intro V3 e
    have g : ((u1 - d1 + d3) + (u2 - u3 + d3)) ≤ (d3 + (u1 - d1 + d2)) := by omega
    rw [Int.max_eq_right g] at e
    obtain rfl : V3 = v2 + u1 - u3 - d1 + d3 := by omega
    clear e g
    intro h4 e
    have g : (u2 + d3) ≤ (d2 + u3) := by omega
    rw [Int.max_eq_right g] at e
    obtain rfl : h4 = -v2 + u3 + d2 := by omega
    clear e g
    intro U4 e
    have g : (u2 + d3) ≤ ((-v2 + u3 + d2) + v1) := by omega
    rw [Int.max_eq_right g] at e
    obtain rfl : U4 = v1 - v2 + u3 := by omega
    clear e g
    intro D4 e
    have g : ((-v2 + u3 + d2) + v3) ≤ (u2 + d3) := by omega
    rw [Int.max_eq_left g] at e
    obtain rfl : D4 = u2 - u3 + d3 := by omega
    clear e g
    intro V4 e
    have g : (d3 + u2) ≤ ((v1 - v2 + u3) + (u2 - u3 + d3)) := by omega
    rw [Int.max_eq_left g] at e
    obtain rfl : V4 = v1 + u2 - u3 - d2 + d3 := by omega
    clear e g
    intro h5 e
    rcases Int.le_total (d1 + (v1 - v2 + u3)) (u1 + d3) with g | g
    · rw [Int.max_eq_left g] at e
      obtain rfl : h5 = -v1 + u1 + d3 := by omega
      clear e
      intro U5 e
      have g : ((-v1 + u1 + d3) + v0) ≤ (u1 + d3) := by omega
      rw [Int.max_eq_left g] at e
      obtain rfl : U5 = u1 - d1 + d3 := by omega
      clear e g
      intro D5 e
      have g : ((-v1 + u1 + d3) + (v1 + u2 - u3 - d2 + d3)) ≤ (u1 + d3) := by omega
      rw [Int.max_eq_left g] at e
      obtain rfl : D5 = -v1 + v2 + u1 - u3 + d3 := by omega
      clear e g
      intro V5 e
      have g : (d3 + u1) ≤ ((u1 - d1 + d3) + (-v1 + v2 + u1 - u3 + d3)) := by omega
      rw [Int.max_eq_left g] at e
      obtain rfl : V5 = v2 + u1 - u3 - d1 + d3 := by omega
      clear e g
      intro h6 e
      have g : ((-v1 + v2 + u1 - u3 + d3) + u2) ≤ (u1 + (u2 - u3 + d3)) := by omega
      rw [Int.max_eq_left g] at e
      obtain rfl : h6 = -v1 + u1 + d2 := by omega
      clear e g
      intro U6 e
      have g : (u1 + (u2 - u3 + d3)) ≤ ((-v1 + u1 + d2) + (v2 + u1 - u3 - d1 + d3)) := by omega
      rw [Int.max_eq_right g] at e
      obtain rfl : U6 = u1 - d1 + d2 := by omega
      clear e g
      intro D6 e
      have g : ((-v1 + u1 + d2) + v3) ≤ (u1 + (u2 - u3 + d3)) := by omega
      rw [Int.max_eq_left g] at e
      obtain rfl : D6 = u1 - u3 + d3 := by omega
      clear e g
      intro V6 e
      have g : ((u2 - u3 + d3) + u1) ≤ ((u1 - d1 + d2) + (u1 - u3 + d3)) := by omega
      rw [Int.max_eq_left g] at e
      obtain rfl : V6 = v1 + u1 - u3 - d1 + d3 := by omega
      clear e g
      exact ⟨rfl, rfl, rfl, rfl, rfl, rfl⟩
    · rw [Int.max_eq_right g] at e
      obtain rfl : h5 = -v2 + u3 + d1 := by omega
      clear e
      intro U5 e
      have g : ((-v2 + u3 + d1) + v0) ≤ (u1 + d3) := by omega
      rw [Int.max_eq_left g] at e
      obtain rfl : U5 = u1 - d1 + d3 := by omega
      clear e g
      intro D5 e
      rcases Int.le_total ((-v2 + u3 + d1) + (v1 + u2 - u3 - d2 + d3)) (u1 + d3) with g | g
      · rw [Int.max_eq_left g] at e
        obtain rfl : D5 = -v1 + v2 + u1 - u3 + d3 := by omega
        clear e
        intro V5 e
        have g : ((u1 - d1 + d3) + (-v1 + v2 + u1 - u3 + d3)) ≤ (d3 + u1) := by omega
        rw [Int.max_eq_right g] at e
        obtain rfl : V5 = v2 + u1 - u3 - d1 + d3 := by omega
        clear e g
        intro h6 e
        have g : ((-v1 + v2 + u1 - u3 + d3) + u2) ≤ (u1 + (u2 - u3 + d3)) := by omega
        rw [Int.max_eq_left g] at e
        obtain rfl : h6 = -v1 + u1 + d2 := by omega
        clear e g
        intro U6 e
        have g : (u1 + (u2 - u3 + d3)) ≤ ((-v1 + u1 + d2) + (v2 + u1 - u3 - d1 + d3)) := by omega
        rw [Int.max_eq_right g] at e
        obtain rfl : U6 = u1 - d1 + d2 := by omega
        clear e g
        intro D6 e
        have g : ((-v1 + u1 + d2) + v3) ≤ (u1 + (u2 - u3 + d3)) := by omega
        rw [Int.max_eq_left g] at e
        obtain rfl : D6 = u1 - u3 + d3 := by omega
        clear e g
        intro V6 e
        have g : ((u2 - u3 + d3) + u1) ≤ ((u1 - d1 + d2) + (u1 - u3 + d3)) := by omega
        rw [Int.max_eq_left g] at e
        obtain rfl : V6 = v1 + u1 - u3 - d1 + d3 := by omega
        clear e g
        exact ⟨rfl, rfl, rfl, rfl, rfl, rfl⟩
      · rw [Int.max_eq_right g] at e
        obtain rfl : D5 = u2 - u3 + d1 - d2 + d3 := by omega
        clear e
        intro V5 e
        have g : ((u1 - d1 + d3) + (u2 - u3 + d1 - d2 + d3)) ≤ (d3 + u1) := by omega
        rw [Int.max_eq_right g] at e
        obtain rfl : V5 = v2 + u1 - u3 - d1 + d3 := by omega
        clear e g
        intro h6 e
        have g : ((u2 - u3 + d1 - d2 + d3) + u2) ≤ (u1 + (u2 - u3 + d3)) := by omega
        rw [Int.max_eq_left g] at e
        obtain rfl : h6 = -v1 + u1 + d2 := by omega
        clear e g
        intro U6 e
        have g : ((-v1 + u1 + d2) + (v2 + u1 - u3 - d1 + d3)) ≤ (u1 + (u2 - u3 + d3)) := by omega
        rw [Int.max_eq_left g] at e
        obtain rfl : U6 = u1 - d1 + d2 := by omega
        clear e g
        intro D6 e
        have g : ((-v1 + u1 + d2) + v3) ≤ (u1 + (u2 - u3 + d3)) := by omega
        rw [Int.max_eq_left g] at e
        obtain rfl : D6 = u1 - u3 + d3 := by omega
        clear e g
        intro V6 e
        have g : ((u2 - u3 + d3) + u1) ≤ ((u1 - d1 + d2) + (u1 - u3 + d3)) := by omega
        rw [Int.max_eq_left g] at e
        obtain rfl : V6 = v1 + u1 - u3 - d1 + d3 := by omega
        clear e g
        exact ⟨rfl, rfl, rfl, rfl, rfl, rfl⟩
  · rw [Int.max_eq_right g] at e
    obtain rfl : U3 = v0 - v2 + u3 := by omega
    clear e
    intro D3 e
    have g : ((u1 - d1 + d2) + d3) ≤ ((-v2 + u3 + d2) + (v1 + u1 - u3 - d1 + d3)) := by omega
    rw [Int.max_eq_right g] at e
    obtain rfl : D3 = u2 - u3 + d3 := by omega
    clear e g
    intro V3 e
    rcases Int.le_total (d3 + (u1 - d1 + d2)) ((v0 - v2 + u3) + (u2 - u3 + d3)) with g | g
    · rw [Int.max_eq_left g] at e
      obtain rfl : V3 = v0 + u2 - u3 - d2 + d3 := by omega
      clear e
      intro h4 e
      have g : (u2 + d3) ≤ (d2 + u3) := by omega
      rw [Int.max_eq_right g] at e
      obtain rfl : h4 = -v2 + u3 + d2 := by omega
      clear e g
      intro U4 e
      have g : (u2 + d3) ≤ ((-v2 + u3 + d2) + v1) := by omega
      rw [Int.max_eq_right g] at e
      obtain rfl : U4 = v1 - v2 + u3 := by omega
      clear e g
      intro D4 e
      have g : ((-v2 + u3 + d2) + v3) ≤ (u2 + d3) := by omega
      rw [Int.max_eq_left g] at e
      obtain rfl : D4 = u2 - u3 + d3 := by omega
      clear e g
      intro V4 e
      have g : (d3 + u2) ≤ ((v1 - v2 + u3) + (u2 - u3 + d3)) := by omega
      rw [Int.max_eq_left g] at e
      obtain rfl : V4 = v1 + u2 - u3 - d2 + d3 := by omega
      clear e g
      intro h5 e
      have g : (u1 + d3) ≤ (d1 + (v1 - v2 + u3)) := by omega
      rw [Int.max_eq_right g] at e
      obtain rfl : h5 = -v2 + u3 + d1 := by omega
      clear e g
      intro U5 e
      have g : (u1 + d3) ≤ ((-v2 + u3 + d1) + v0) := by omega
      rw [Int.max_eq_right g] at e
      obtain rfl : U5 = v0 - v2 + u3 := by omega
      clear e g
      intro D5 e
      have g : (u1 + d3) ≤ ((-v2 + u3 + d1) + (v1 + u2 - u3 - d2 + d3)) := by omega
      rw [Int.max_eq_right g] at e
      obtain rfl : D5 = u2 - u3 + d1 - d2 + d3 := by omega
      clear e g
      intro V5 e
      have g : (d3 + u1) ≤ ((v0 - v2 + u3) + (u2 - u3 + d1 - d2 + d3)) := by omega
      rw [Int.max_eq_left g] at e
      obtain rfl : V5 = v0 + u2 - u3 - d2 + d3 := by omega
      clear e g
      intro h6 e
      have g : ((u2 - u3 + d1 - d2 + d3) + u2) ≤ (u1 + (u2 - u3 + d3)) := by omega
      rw [Int.max_eq_left g] at e
      obtain rfl : h6 = -v1 + u1 + d2 := by omega
      clear e g
      intro U6 e
      have g : ((-v1 + u1 + d2) + (v0 + u2 - u3 - d2 + d3)) ≤ (u1 + (u2 - u3 + d3)) := by omega
      rw [Int.max_eq_left g] at e
      obtain rfl : U6 = u1 - d1 + d2 := by omega
      clear e g
      intro D6 e
      have g : ((-v1 + u1 + d2) + v3) ≤ (u1 + (u2 - u3 + d3)) := by omega
      rw [Int.max_eq_left g] at e
      obtain rfl : D6 = u1 - u3 + d3 := by omega
      clear e g
      intro V6 e
      have g : ((u2 - u3 + d3) + u1) ≤ ((u1 - d1 + d2) + (u1 - u3 + d3)) := by omega
      rw [Int.max_eq_left g] at e
      obtain rfl : V6 = v1 + u1 - u3 - d1 + d3 := by omega
      clear e g
      exact ⟨rfl, rfl, rfl, rfl, rfl, rfl⟩
    · rw [Int.max_eq_right g] at e
      obtain rfl : V3 = v2 + u1 - u3 - d1 + d3 := by omega
      clear e
      intro h4 e
      have g : (u2 + d3) ≤ (d2 + u3) := by omega
      rw [Int.max_eq_right g] at e
      obtain rfl : h4 = -v2 + u3 + d2 := by omega
      clear e g
      intro U4 e
      have g : (u2 + d3) ≤ ((-v2 + u3 + d2) + v1) := by omega
      rw [Int.max_eq_right g] at e
      obtain rfl : U4 = v1 - v2 + u3 := by omega
      clear e g
      intro D4 e
      have g : ((-v2 + u3 + d2) + v3) ≤ (u2 + d3) := by omega
      rw [Int.max_eq_left g] at e
      obtain rfl : D4 = u2 - u3 + d3 := by omega
      clear e g
      intro V4 e
      have g : (d3 + u2) ≤ ((v1 - v2 + u3) + (u2 - u3 + d3)) := by omega
      rw [Int.max_eq_left g] at e
      obtain rfl : V4 = v1 + u2 - u3 - d2 + d3 := by omega
      clear e g
      intro h5 e
      have g : (u1 + d3) ≤ (d1 + (v1 - v2 + u3)) := by omega
      rw [Int.max_eq_right g] at e
      obtain rfl : h5 = -v2 + u3 + d1 := by omega
      clear e g
      intro U5 e
      have g : (u1 + d3) ≤ ((-v2 + u3 + d1) + v0) := by omega
      rw [Int.max_eq_right g] at e
      obtain rfl : U5 = v0 - v2 + u3 := by omega
      clear e g
      intro D5 e
      rcases Int.le_total ((-v2 + u3 + d1) + (v1 + u2 - u3 - d2 + d3)) (u1 + d3) with g | g
      · rw [Int.max_eq_left g] at e
        obtain rfl : D5 = -v1 + v2 + u1 - u3 + d3 := by omega
        clear e
        intro V5 e
        have g : ((v0 - v2 + u3) + (-v1 + v2 + u1 - u3 + d3)) ≤ (d3 + u1) := by omega
        rw [Int.max_eq_right g] at e
        obtain rfl : V5 = v2 + u1 - u3 - d1 + d3 := by omega
        clear e g
        intro h6 e
        have g : ((-v1 + v2 + u1 - u3 + d3) + u2) ≤ (u1 + (u2 - u3 + d3)) := by omega
        rw [Int.max_eq_left g] at e
        obtain rfl : h6 = -v1 + u1 + d2 := by omega
        clear e g
        intro U6 e
        have g : (u1 + (u2 - u3 + d3)) ≤ ((-v1 + u1 + d2) + (v2 + u1 - u3 - d1 + d3)) := by omega
        rw [Int.max_eq_right g] at e
        obtain rfl : U6 = u1 - d1 + d2 := by omega
        clear e g
        intro D6 e
        have g : ((-v1 + u1 + d2) + v3) ≤ (u1 + (u2 - u3 + d3)) := by omega
        rw [Int.max_eq_left g] at e
        obtain rfl : D6 = u1 - u3 + d3 := by omega
        clear e g
        intro V6 e
        have g : ((u2 - u3 + d3) + u1) ≤ ((u1 - d1 + d2) + (u1 - u3 + d3)) := by omega
        rw [Int.max_eq_left g] at e
        obtain rfl : V6 = v1 + u1 - u3 - d1 + d3 := by omega
        clear e g
        exact ⟨rfl, rfl, rfl, rfl, rfl, rfl⟩
      · rw [Int.max_eq_right g] at e
        obtain rfl : D5 = u2 - u3 + d1 - d2 + d3 := by omega
        clear e
        intro V5 e
        have g : ((v0 - v2 + u3) + (u2 - u3 + d1 - d2 + d3)) ≤ (d3 + u1) := by omega
        rw [Int.max_eq_right g] at e
        obtain rfl : V5 = v2 + u1 - u3 - d1 + d3 := by omega
        clear e g
        intro h6 e
        have g : ((u2 - u3 + d1 - d2 + d3) + u2) ≤ (u1 + (u2 - u3 + d3)) := by omega
        rw [Int.max_eq_left g] at e
        obtain rfl : h6 = -v1 + u1 + d2 := by omega
        clear e g
        intro U6 e
        have g : ((-v1 + u1 + d2) + (v2 + u1 - u3 - d1 + d3)) ≤ (u1 + (u2 - u3 + d3)) := by omega
        rw [Int.max_eq_left g] at e
        obtain rfl : U6 = u1 - d1 + d2 := by omega
        clear e g
        intro D6 e
        have g : ((-v1 + u1 + d2) + v3) ≤ (u1 + (u2 - u3 + d3)) := by omega
        rw [Int.max_eq_left g] at e
        obtain rfl : D6 = u1 - u3 + d3 := by omega
        clear e g
        intro V6 e
        have g : ((u2 - u3 + d3) + u1) ≤ ((u1 - d1 + d2) + (u1 - u3 + d3)) := by omega
        rw [Int.max_eq_left g] at e
        obtain rfl : V6 = v1 + u1 - u3 - d1 + d3 := by omega
        clear e g
        exact ⟨rfl, rfl, rfl, rfl, rfl, rfl⟩
set_option maxHeartbeats 4000000 in
set_option maxRecDepth 100000 in
theorem dy_c3 (v0 v1 v2 v3 u1 u2 u3 d1 d2 d3 : Int) (g0 : u2 + d1 ≤ u1 + d2) (g1 : v0 ≤ v1) (g2 : v2 ≤ v1) (g3 : u2 + d3 ≤ u3 + d2) (g4 : v2 + u2 + d3 ≤ v3 + u3 + d2) : ∀ V2 : Int, V2 = max ((v1 - v2 + u1 - u2 + u3 - d1 + d2) + (-v2 + v3 + u1 - u2 + d2)) (d3 + u1) - (-v2 + u1 - u2 + u3 + d2) → ∀ h3 : Int, h3 = max ((u1 - d1 + d2) + d3) (d2 + (v1 - v2 + u1 - u2 + u3 - d1 + d2)) - (v1 + u1 - u2 - d1 + d2) → ∀ U3 : Int, U3 = max ((u1 - d1 + d2) + d3) (h3 + v0) - d2 → ∀ D3 : Int, D3 = max ((u1 - d1 + d2) + d3) (h3 + V2) - (v1 - v2 + u1 - u2 + u3 - d1 + d2) → ∀ V3 : Int, V3 = max (U3 + D3) (d3 + (u1 - d1 + d2)) - h3 → ∀ h4 : Int, h4 = max (u2 + d3) (d2 + u3) - v2 → ∀ U4 : Int, U4 = max (u2 + d3) (h4 + v1) - d2 → ∀ D4 : Int, D4 = max (u2 + d3) (h4 + v3) - u3 → ∀ V4 : Int, V4 = max (U4 + D4) (d3 + u2) - h4 → ∀ h5 : Int, h5 = max (u1 + d3) (d1 + U4) - v1 → ∀ U5 : Int, U5 = max (u1 + d3) (h5 + v0) - d1 → ∀ D5 : Int, D5 = max (u1 + d3) (h5 + V4) - U4 → ∀ V5 : Int, V5 = max (U5 + D5) (d3 + u1) - h5 → ∀ h6 : Int, h6 = max (u1 + D4) (D5 + u2) - V4 → ∀ U6 : Int, U6 = max (u1 + D4) (h6 + V5) - D5 → ∀ D6 : Int, D6 = max (u1 + D4) (h6 + v3) - u2 → ∀ V6 : Int, V6 = max (U6 + D6) (D4 + u1) - h6 → V3 = V5 ∧ U3 = U5 ∧ V2 = V6 ∧ (u1 - d1 + d2) = U6 ∧ D3 = D4 ∧ (-v2 + v3 + u1 - u2 + d2) = D6 := by
  intro V2 e
  have g : (d3 + u1) ≤ ((v1 - v2 + u1 - u2 + u3 - d1 + d2) + (-v2 + v3 + u1 - u2 + d2)) := by omega
  rw [Int.max_eq_left g] at e
  obtain rfl : V2 = v1 - v2 + v3 + u1 - u2 - d1 + d2 := by omega
  clear e g
  intro h3 e
  have g : ((u1 - d1 + d2) + d3) ≤ (d2 + (v1 - v2 + u1 - u2 + u3 - d1 + d2)) := by omega
  rw [Int.max_eq_right g] at e
  obtain rfl : h3 = -v2 + u3 + d2 := by omega
  clear e g
  intro U3 e
  rcases Int.le_total ((-v2 + u3 + d2) + v0) ((u1 - d1 + d2) + d3) with g | g
  · rw [Int.max_eq_left g] at e
    obtain rfl : U3 = u1 - d1 + d3 := by omega
    clear e
    intro D3 e
    have g : ((u1 - d1 + d2) + d3) ≤ ((-v2 + u3 + d2) + (v1 - v2 + v3 + u1 - u2 - d1 + d2)) := by omega
    rw [Int.max_eq_right g] at e
    obtain rfl : D3 = -v2 + v3 + d2 := by omega
    clear e g
    intro V3 e
    rcases Int.le_total (d3 + (u1 - d1 + d2)) ((u1 - d1 + d3) + (-v2 + v3 + d2)) with g | g
    · rw [Int.max_eq_left g] at e
      obtain rfl : V3 = v3 + u1 - u3 - d1 + d3 := by omega
      clear e
      intro h4 e
      have g : (u2 + d3) ≤ (d2 + u3) := by omega
      rw [Int.max_eq_right g] at e
      obtain rfl : h4 = -v2 + u3 + d2 := by omega
      clear e g
      intro U4 e
      have g : (u2 + d3) ≤ ((-v2 + u3 + d2) + v1) := by omega
      rw [Int.max_eq_right g] at e
      obtain rfl : U4 = v1 - v2 + u3 := by omega
      clear e g
      intro D4 e
      have g : (u2 + d3) ≤ ((-v2 + u3 + d2) + v3) := by omega
      rw [Int.max_eq_right g] at e
      obtain rfl : D4 = -v2 + v3 + d2 := by omega
      clear e g
      intro V4 e
      have g : (d3 + u2) ≤ ((v1 - v2 + u3) + (-v2 + v3 + d2)) := by omega
      rw [Int.max_eq_left g] at e
      obtain rfl : V4 = v1 - v2 + v3 := by omega
      clear e g
      intro h5 e
      rcases Int.le_total (d1 + (v1 - v2 + u3)) (u1 + d3) with g | g
      · rw [Int.max_eq_left g] at e
        obtain rfl : h5 = -v1 + u1 + d3 := by omega
        clear e
        intro U5 e
        have g : ((-v1 + u1 + d3) + v0) ≤ (u1 + d3) := by omega
        rw [Int.max_eq_left g] at e
        obtain rfl : U5 = u1 - d1 + d3 := by omega
        clear e g
        intro D5 e
        have g : (u1 + d3) ≤ ((-v1 + u1 + d3) + (v1 - v2 + v3)) := by omega
        rw [Int.max_eq_right g] at e
        obtain rfl : D5 = -v1 + v3 + u1 - u3 + d3 := by omega
        clear e g
        intro V5 e
        have g : (d3 + u1) ≤ ((u1 - d1 + d3) + (-v1 + v3 + u1 - u3 + d3)) := by omega
        rw [Int.max_eq_left g] at e
        obtain rfl : V5 = v3 + u1 - u3 - d1 + d3 := by omega
        clear e g
        intro h6 e
        have g : ((-v1 + v3 + u1 - u3 + d3) + u2) ≤ (u1 + (-v2 + v3 + d2)) := by omega
        rw [Int.max_eq_left g] at e
        obtain rfl : h6 = -v1 + u1 + d2 := by omega
        clear e g
        intro U6 e
        have g : (u1 + (-v2 + v3 + d2)) ≤ ((-v1 + u1 + d2) + (v3 + u1 - u3 - d1 + d3)) := by omega
        rw [Int.max_eq_right g] at e
        obtain rfl : U6 = u1 - d1 + d2 := by omega
        clear e g
        intro D6 e
        have g : ((-v1 + u1 + d2) + v3) ≤ (u1 + (-v2 + v3 + d2)) := by omega
        rw [Int.max_eq_left g] at e
        obtain rfl : D6 = -v2 + v3 + u1 - u2 + d2 := by omega
        clear e g
        intro V6 e
        have g : ((-v2 + v3 + d2) + u1) ≤ ((u1 - d1 + d2) + (-v2 + v3 + u1 - u2 + d2)) := by omega
        rw [Int.max_eq_left g] at e
        obtain rfl : V6 = v1 - v2 + v3 + u1 - u2 - d1 + d2 := by omega
        clear e g
        exact ⟨rfl, rfl, rfl, rfl, rfl, rfl⟩
      · rw [Int.max_eq_right g] at e
        obtain rfl : h5 = -v2 + u3 + d1 := by omega
        clear e
        intro U5 e
        have g : ((-v2 + u3 + d1) + v0) ≤ (u1 + d3) := by omega
        rw [Int.max_eq_left g] at e
        obtain rfl : U5 = u1 - d1 + d3 := by omega
        clear e g
        intro D5 e
        have g : (u1 + d3) ≤ ((-v2 + u3 + d1) + (v1 - v2 + v3)) := by omega
        rw [Int.max_eq_right g] at e
        obtain rfl : D5 = -v2 + v3 + d1 := by omega
        clear e g
        intro V5 e
        have g : (d3 + u1) ≤ ((u1 - d1 + d3) + (-v2 + v3 + d1)) := by omega
        rw [Int.max_eq_left g] at e
        obtain rfl : V5 = v3 + u1 - u3 - d1 + d3 := by omega
        clear e g
        intro h6 e
        have g : ((-v2 + v3 + d1) + u2) ≤ (u1 + (-v2 + v3 + d2)) := by omega
        rw [Int.max_eq_left g] at e
        obtain rfl : h6 = -v1 + u1 + d2 := by omega
        clear e g
        intro U6 e
        have g : ((-v1 + u1 + d2) + (v3 + u1 - u3 - d1 + d3)) ≤ (u1 + (-v2 + v3 + d2)) := by omega
        rw [Int.max_eq_left g] at e
        obtain rfl : U6 = u1 - d1 + d2 := by omega
        clear e g
        intro D6 e
        have g : ((-v1 + u1 + d2) + v3) ≤ (u1 + (-v2 + v3 + d2)) := by omega
        rw [Int.max_eq_left g] at e
        obtain rfl : D6 = -v2 + v3 + u1 - u2 + d2 := by omega
        clear e g
        intro V6 e
        have g : ((-v2 + v3 + d2) + u1) ≤ ((u1 - d1 + d2) + (-v2 + v3 + u1 - u2 + d2)) := by omega
        rw [Int.max_eq_left g] at e
        obtain rfl : V6 = v1 - v2 + v3 + u1 - u2 - d1 + d2 := by omega
        clear e g
        exact ⟨rfl, rfl, rfl, rfl, rfl, rfl⟩
    · rw [Int.max_eq_right g] at e
      obtain rfl : V3 = v2 + u1 - u3 - d1 + d3 := by omega
      clear e
      intro h4 e
      have g : (u2 + d3) ≤ (d2 + u3) := by omega
      rw [Int.max_eq_right g] at e
      obtain rfl : h4 = -v2 + u3 + d2 := by omega
      clear e g
      intro U4 e
      have g : (u2 + d3) ≤ ((-v2 + u3 + d2) + v1) := by omega
      rw [Int.max_eq_right g] at e
      obtain rfl : U4 = v1 - v2 + u3 := by omega
      clear e g
      intro D4 e
      have g : (u2 + d3) ≤ ((-v2 + u3 + d2) + v3) := by omega
      rw [Int.max_eq_right g] at e
      obtain rfl : D4 = -v2 + v3 + d2 := by omega
      clear e g
      intro V4 e
      have g : (d3 + u2) ≤ ((v1 - v2 + u3) + (-v2 + v3 + d2)) := by omega
      rw [Int.max_eq_left g] at e
      obtain rfl : V4 = v1 - v2 + v3 := by omega
      clear e g
      intro h5 e
      rcases Int.le_total (d1 + (v1 - v2 + u3)) (u1 + d3) with g | g
      · rw [Int.max_eq_left g] at e
        obtain rfl : h5 = -v1 + u1 + d3 := by omega
        clear e
        intro U5 e
        have g : ((-v1 + u1 + d3) + v0) ≤ (u1 + d3) := by omega
        rw [Int.max_eq_left g] at e
        obtain rfl : U5 = u1 - d1 + d3 := by omega
        clear e g
        intro D5 e
        have g : ((-v1 + u1 + d3) + (v1 - v2 + v3)) ≤ (u1 + d3) := by omega
        rw [Int.max_eq_left g] at e
        obtain rfl : D5 = -v1 + v2 + u1 - u3 + d3 := by omega
        clear e g
        intro V5 e
        have g : (d3 + u1) ≤ ((u1 - d1 + d3) + (-v1 + v2 + u1 - u3 + d3)) := by omega
        rw [Int.max_eq_left g] at e
        obtain rfl : V5 = v2 + u1 - u3 - d1 + d3 := by omega
        clear e g
        intro h6 e
        have g : ((-v1 + v2 + u1 - u3 + d3) + u2) ≤ (u1 + (-v2 + v3 + d2)) := by omega
        rw [Int.max_eq_left g] at e
        obtain rfl : h6 = -v1 + u1 + d2 := by omega
        clear e g
        intro U6 e
        have g : (u1 + (-v2 + v3 + d2)) ≤ ((-v1 + u1 + d2) + (v2 + u1 - u3 - d1 + d3)) := by omega
        rw [Int.max_eq_right g] at e
        obtain rfl : U6 = u1 - d1 + d2 := by omega
        clear e g
        intro D6 e
        have g : ((-v1 + u1 + d2) + v3) ≤ (u1 + (-v2 + v3 + d2)) := by omega
        rw [Int.max_eq_left g] at e
        obtain rfl : D6 = -v2 + v3 + u1 - u2 + d2 := by omega
        clear e g
        intro V6 e
        have g : ((-v2 + v3 + d2) + u1) ≤ ((u1 - d1 + d2) + (-v2 + v3 + u1 - u2 + d2)) := by omega
        rw [Int.max_eq_left g] at e
        obtain rfl : V6 = v1 - v2 + v3 + u1 - u2 - d1 + d2 := by omega
        clear e g
        exact ⟨rfl, rfl, rfl, rfl, rfl, rfl⟩
      · rw [Int.max_eq_right g] at e
        obtain rfl : h5 = -v2 + u3 + d1 := by omega
        clear e
        intro U5 e
        have g : ((-v2 + u3 + d1) + v0) ≤ (u1 + d3) := by omega
        rw [Int.max_eq_left g] at e
        obtain rfl : U5 = u1 - d1 + d3 := by omega
        clear e g
        intro D5 e
        rcases Int.le_total ((-v2 + u3 + d1) + (v1 - v2 + v3)) (u1 + d3) with g | g
        · rw [Int.max_eq_left g] at e
          obtain rfl : D5 = -v1 + v2 + u1 - u3 + d3 := by omega
          clear e
          intro V5 e
          have g : ((u1 - d1 + d3) + (-v1 + v2 + u1 - u3 + d3)) ≤ (d3 + u1) := by omega
          rw [Int.max_eq_right g] at e
          obtain rfl : V5 = v2 + u1 - u3 - d1 + d3 := by omega
          clear e g
          intro h6 e
          have g : ((-v1 + v2 + u1 - u3 + d3) + u2) ≤ (u1 + (-v2 + v3 + d2)) := by omega
          rw [Int.max_eq_left g] at e
          obtain rfl : h6 = -v1 + u1 + d2 := by omega
          clear e g
          intro U6 e
          have g : (u1 + (-v2 + v3 + d2)) ≤ ((-v1 + u1 + d2) + (v2 + u1 - u3 - d1 + d3)) := by omega
          rw [Int.max_eq_right g] at e
          obtain rfl : U6 = u1 - d1 + d2 := by omega
          clear e g
          intro D6 e
          have g : ((-v1 + u1 + d2) + v3) ≤ (u1 + (-v2 + v3 + d2)) := by omega
          rw [Int.max_eq_left g] at e
          obtain rfl : D6 = -v2 + v3 + u1 - u2 + d2 := by omega
          clear e g
          intro V6 e
          have g : ((-v2 + v3 + d2) + u1) ≤ ((u1 - d1 + d2) + (-v2 + v3 + u1 - u2 + d2)) := by omega
          rw [Int.max_eq_left g] at e
          obtain rfl : V6 = v1 - v2 + v3 + u1 - u2 - d1 + d2 := by omega
          clear e g
          exact ⟨rfl, rfl, rfl, rfl, rfl, rfl⟩
        · rw [Int.max_eq_right g] at e
          obtain rfl : D5 = -v2 + v3 + d1 := by omega
          clear e
          intro V5 e
          have g : ((u1 - d1 + d3) + (-v2 + v3 + d1)) ≤ (d3 + u1) := by omega
          rw [Int.max_eq_right g] at e
          obtain rfl : V5 = v2 + u1 - u3 - d1 + d3 := by omega
          clear e g
          intro h6 e
          have g : ((-v2 + v3 + d1) + u2) ≤ (u1 + (-v2 + v3 + d2)) := by omega
          rw [Int.max_eq_left g] at e
          obtain rfl : h6 = -v1 + u1 + d2 := by omega
          clear e g
          intro U6 e
          have g : ((-v1 + u1 + d2) + (v2 + u1 - u3 - d1 + d3)) ≤ (u1 + (-v2 + v3 + d2)) := by omega
          rw [Int.max_eq_left g] at e
          obtain rfl : U6 = u1 - d1 + d2 := by omega
          clear e g
          intro D6 e
          have g : ((-v1 + u1 + d2) + v3) ≤ (u1 + (-v2 + v3 + d2)) := by omega
          rw [Int.max_eq_left g] at e
          obtain rfl : D6 = -v2 + v3 + u1 - u2 + d2 := by omega
          clear e g
          intro V6 e
          have g : ((-v2 + v3 + d2) + u1) ≤ ((u1 - d1 + d2) + (-v2 + v3 + u1 - u2 + d2)) := by omega
          rw [Int.max_eq_left g] at e
          obtain rfl : V6 = v1 - v2 + v3 + u1 - u2 - d1 + d2 := by omega
          clear e g
          exact ⟨rfl, rfl, rfl, rfl, rfl, rfl⟩
  · rw [Int.max_eq_right g] at e
    obtain rfl : U3 = v0 - v2 + u3 := by omega
    clear e
    intro D3 e
    have g : ((u1 - d1 + d2) + d3) ≤ ((-v2 + u3 + d2) + (v1 - v2 + v3 + u1 - u2 - d1 + d2)) := by omega
    rw [Int.max_eq_right g] at e
    obtain rfl : D3 = -v2 + v3 + d2 := by omega
    clear e g
    intro V3 e
    rcases Int.le_total (d3 + (u1 - d1 + d2)) ((v0 - v2 + u3) + (-v2 + v3 + d2)) with g | g
    · rw [Int.max_eq_left g] at e
      obtain rfl : V3 = v0 - v2 + v3 := by omega
      clear e
      intro h4 e
      have g : (u2 + d3) ≤ (d2 + u3) := by omega
      rw [Int.max_eq_right g] at e
      obtain rfl : h4 = -v2 + u3 + d2 := by omega
      clear e g
      intro U4 e
      have g : (u2 + d3) ≤ ((-v2 + u3 + d2) + v1) := by omega
      rw [Int.max_eq_right g] at e
      obtain rfl : U4 = v1 - v2 + u3 := by omega
      clear e g
      intro D4 e
      have g : (u2 + d3) ≤ ((-v2 + u3 + d2) + v3) := by omega
      rw [Int.max_eq_right g] at e
      obtain rfl : D4 = -v2 + v3 + d2 := by omega
      clear e g
      intro V4 e
      have g : (d3 + u2) ≤ ((v1 - v2 + u3) + (-v2 + v3 + d2)) := by omega
      rw [Int.max_eq_left g] at e
      obtain rfl : V4 = v1 - v2 + v3 := by omega
      clear e g
      intro h5 e
      have g : (u1 + d3) ≤ (d1 + (v1 - v2 + u3)) := by omega
      rw [Int.max_eq_right g] at e
      obtain rfl : h5 = -v2 + u3 + d1 := by omega
      clear e g
      intro U5 e
      have g : (u1 + d3) ≤ ((-v2 + u3 + d1) + v0) := by omega
      rw [Int.max_eq_right g] at e
      obtain rfl : U5 = v0 - v2 + u3 := by omega
      clear e g
      intro D5 e
      have g : (u1 + d3) ≤ ((-v2 + u3 + d1) + (v1 - v2 + v3)) := by omega
      rw [Int.max_eq_right g] at e
      obtain rfl : D5 = -v2 + v3 + d1 := by omega
      clear e g
      intro V5 e
      have g : (d3 + u1) ≤ ((v0 - v2 + u3) + (-v2 + v3 + d1)) := by omega
      rw [Int.max_eq_left g] at e
      obtain rfl : V5 = v0 - v2 + v3 := by omega
      clear e g
      intro h6 e
      have g : ((-v2 + v3 + d1) + u2) ≤ (u1 + (-v2 + v3 + d2)) := by omega
      rw [Int.max_eq_left g] at e
      obtain rfl : h6 = -v1 + u1 + d2 := by omega
      clear e g
      intro U6 e
      have g : ((-v1 + u1 + d2) + (v0 - v2 + v3)) ≤ (u1 + (-v2 + v3 + d2)) := by omega
      rw [Int.max_eq_left g] at e
      obtain rfl : U6 = u1 - d1 + d2 := by omega
      clear e g
      intro D6 e
      have g : ((-v1 + u1 + d2) + v3) ≤ (u1 + (-v2 + v3 + d2)) := by omega
      rw [Int.max_eq_left g] at e
      obtain rfl : D6 = -v2 + v3 + u1 - u2 + d2 := by omega
      clear e g
      intro V6 e
      have g : ((-v2 + v3 + d2) + u1) ≤ ((u1 - d1 + d2) + (-v2 + v3 + u1 - u2 + d2)) := by omega
      rw [Int.max_eq_left g] at e
      obtain rfl : V6 = v1 - v2 + v3 + u1 - u2 - d1 + d2 := by omega
      clear e g
      exact ⟨rfl, rfl, rfl, rfl, rfl, rfl⟩
    · rw [Int.max_eq_right g] at e
      obtain rfl : V3 = v2 + u1 - u3 - d1 + d3 := by omega
      clear e
      intro h4 e
      have g : (u2 + d3) ≤ (d2 + u3) := by omega
      rw [Int.max_eq_right g] at e
      obtain rfl : h4 = -v2 + u3 + d2 := by omega
      clear e g
      intro U4 e
      have g : (u2 + d3) ≤ ((-v2 + u3 + d2) + v1) := by omega
      rw [Int.max_eq_right g] at e
      obtain rfl : U4 = v1 - v2 + u3 := by omega
      clear e g
      intro D4 e
      have g : (u2 + d3) ≤ ((-v2 + u3 + d2) + v3) := by omega
      rw [Int.max_eq_right g] at e
      obtain rfl : D4 = -v2 + v3 + d2 := by omega
      clear e g
      intro V4 e
      have g : (d3 + u2) ≤ ((v1 - v2 + u3) + (-v2 + v3 + d2)) := by omega
      rw [Int.max_eq_left g] at e
      obtain rfl : V4 = v1 - v2 + v3 := by omega
      clear e g
      intro h5 e
      have g : (u1 + d3) ≤ (d1 + (v1 - v2 + u3)) := by omega
      rw [Int.max_eq_right g] at e
      obtain rfl : h5 = -v2 + u3 + d1 := by omega
      clear e g
      intro U5 e
      have g : (u1 + d3) ≤ ((-v2 + u3 + d1) + v0) := by omega
      rw [Int.max_eq_right g] at e
      obtain rfl : U5 = v0 - v2 + u3 := by omega
      clear e g
      intro D5 e
      rcases Int.le_total ((-v2 + u3 + d1) + (v1 - v2 + v3)) (u1 + d3) with g | g
      · rw [Int.max_eq_left g] at e
        obtain rfl : D5 = -v1 + v2 + u1 - u3 + d3 := by omega
        clear e
        intro V5 e
        have g : ((v0 - v2 + u3) + (-v1 + v2 + u1 - u3 + d3)) ≤ (d3 + u1) := by omega
        rw [Int.max_eq_right g] at e
        obtain rfl : V5 = v2 + u1 - u3 - d1 + d3 := by omega
        clear e g
        intro h6 e
        have g : ((-v1 + v2 + u1 - u3 + d3) + u2) ≤ (u1 + (-v2 + v3 + d2)) := by omega
        rw [Int.max_eq_left g] at e
        obtain rfl : h6 = -v1 + u1 + d2 := by omega
        clear e g
        intro U6 e
        have g : (u1 + (-v2 + v3 + d2)) ≤ ((-v1 + u1 + d2) + (v2 + u1 - u3 - d1 + d3)) := by omega
        rw [Int.max_eq_right g] at e
        obtain rfl : U6 = u1 - d1 + d2 := by omega
        clear e g
        intro D6 e
        have g : ((-v1 + u1 + d2) + v3) ≤ (u1 + (-v2 + v3 + d2)) := by omega
        rw [Int.max_eq_left g] at e
        obtain rfl : D6 = -v2 + v3 + u1 - u2 + d2 := by omega
        clear e g
        intro V6 e
        have g : ((-v2 + v3 + d2) + u1) ≤ ((u1 - d1 + d2) + (-v2 + v3 + u1 - u2 + d2)) := by omega
        rw [Int.max_eq_left g] at e
        obtain rfl : V6 = v1 - v2 + v3 + u1 - u2 - d1 + d2 := by omega
        clear e g
        exact ⟨rfl, rfl, rfl, rfl, rfl, rfl⟩
      · rw [Int.max_eq_right g] at e
        obtain rfl : D5 = -v2 + v3 + d1 := by omega
        clear e
        intro V5 e
        have g : ((v0 - v2 + u3) + (-v2 + v3 + d1)) ≤ (d3 + u1) := by omega
        rw [Int.max_eq_right g] at e
        obtain rfl : V5 = v2 + u1 - u3 - d1 + d3 := by omega
        clear e g
        intro h6 e
        have g : ((-v2 + v3 + d1) + u2) ≤ (u1 + (-v2 + v3 + d2)) := by omega
        rw [Int.max_eq_left g] at e
        obtain rfl : h6 = -v1 + u1 + d2 := by omega
        clear e g
        intro U6 e
        have g : ((-v1 + u1 + d2) + (v2 + u1 - u3 - d1 + d3)) ≤ (u1 + (-v2 + v3 + d2)) := by omega
        rw [Int.max_eq_left g] at e
        obtain rfl : U6 = u1 - d1 + d2 := by omega
        clear e g
        intro D6 e
        have g : ((-v1 + u1 + d2) + v3) ≤ (u1 + (-v2 + v3 + d2)) := by omega
        rw [Int.max_eq_left g] at e
        obtain rfl : D6 = -v2 + v3 + u1 - u2 + d2 := by omega
        clear e g
        intro V6 e
        have g : ((-v2 + v3 + d2) + u1) ≤ ((u1 - d1 + d2) + (-v2 + v3 + u1 - u2 + d2)) := by omega
        rw [Int.max_eq_left g] at e
        obtain rfl : V6 = v1 - v2 + v3 + u1 - u2 - d1 + d2 := by omega
        clear e g
        exact ⟨rfl, rfl, rfl, rfl, rfl, rfl⟩
set_option maxHeartbeats 4000000 in
set_option maxRecDepth 100000 in
theorem dy_c4 (v0 v1 v2 v3 u1 u2 u3 d1 d2 d3 : Int) (g0 : u2 + d1 ≤ u1 + d2) (g1 : v0 ≤ v1) (g2 : v1 ≤ v2) (g3 : v2 + u3 + d2 ≤ v1 + u2 + d3) : ∀ U2 : Int, U2 = max (u1 + d3) ((-v2 + u1 + d3) + (v2 + u1 - u2 - d1 + d2)) - (-v1 + v2 + u1 - u2 + d2) → ∀ D2 : Int, D2 = max (u1 + d3) ((-v2 + u1 + d3) + v3) - u3 → ∀ V2 : Int, V2 = max (U2 + D2) (d3 + u1) - (-v2 + u1 + d3) → ∀ h3 : Int, h3 = max ((u1 - d1 + d2) + d3) (d2 + U2) - (v2 + u1 - u2 - d1 + d2) → ∀ U3 : Int, U3 = max ((u1 - d1 + d2) + d3) (h3 + v0) - d2 → ∀ D3 : Int, D3 = max ((u1 - d1 + d2) + d3) (h3 + V2) - U2 → ∀ V3 : Int, V3 = max (U3 + D3) (d3 + (u1 - d1 + d2)) - h3 → ∀ h4 : Int, h4 = max (u2 + d3) (d2 + u3) - v2 → ∀ U4 : Int, U4 = max (u2 + d3) (h4 + v1) - d2 → ∀ D4 : Int, D4 = max (u2 + d3) (h4 + v3) - u3 → ∀ V4 : Int, V4 = max (U4 + D4) (d3 + u2) - h4 → ∀ h5 : Int, h5 = max (u1 + d3) (d1 + U4) - v1 → ∀ U5 : Int, U5 = max (u1 + d3) (h5 + v0) - d1 → ∀ D5 : Int, D5 = max (u1 + d3) (h5 + V4) - U4 → ∀ V5 : Int, V5 = max (U5 + D5) (d3 + u1) - h5 → ∀ h6 : Int, h6 = max (u1 + D4) (D5 + u2) - V4 → ∀ U6 : Int, U6 = max (u1 + D4) (h6 + V5) - D5 → ∀ D6 : Int, D6 = max (u1 + D4) (h6 + v3) - u2 → ∀ V6 : Int, V6 = max (U6 + D6) (D4 + u1) - h6 → V3 = V5 ∧ U3 = U5 ∧ V2 = V6 ∧ (u1 - d1 + d2) = U6 ∧ D3 = D4 ∧ D2 = D6 := by
  intro U2 e
  have g : (u1 + d3) ≤ ((-v2 + u1 + d3) + (v2 + u1 - u2 - d1 + d2)) := by omega
  rw [Int.max_eq_right g] at e
  obtain rfl : U2 = v1 - v2 + u1 - d1 + d3 := by omega
  clear e g
  intro D2 e
  rcases Int.le_total ((-v2 + u1 + d3) + v3) (u1 + d3) with g | g
  · rw [Int.max_eq_left g] at e
    obtain rfl : D2 = u1 - u3 + d3 := by omega
    clear e
    intro V2 e
    have g : (d3 + u1) ≤ ((v1 - v2 + u1 - d1 + d3) + (u1 - u3 + d3)) := by omega
    rw [Int.max_eq_left g] at e
    obtain rfl : V2 = v1 + u1 - u3 - d1 + d3 := by omega
    clear e g
    intro h3 e
    have g : (d2 + (v1 - v2 + u1 - d1 + d3)) ≤ ((u1 - d1 + d2) + d3) := by omega
    rw [Int.max_eq_left g] at e
    obtain rfl : h3 = -v2 + u2 + d3 := by omega
    clear e g
    intro U3 e
    have g : ((-v2 + u2 + d3) + v0) ≤ ((u1 - d1 + d2) + d3) := by omega
    rw [Int.max_eq_left g] at e
    obtain rfl : U3 = u1 - d1 + d3 := by omega
    clear e g
    intro D3 e
    have g : ((u1 - d1 + d2) + d3) ≤ ((-v2 + u2 + d3) + (v1 + u1 - u3 - d1 + d3)) := by omega
    rw [Int.max_eq_right g] at e
    obtain rfl : D3 = u2 - u3 + d3 := by omega
    clear e g
    intro V3 e
    have g : (d3 + (u1 - d1 + d2)) ≤ ((u1 - d1 + d3) + (u2 - u3 + d3)) := by omega
    rw [Int.max_eq_left g] at e
    obtain rfl : V3 = v2 + u1 - u3 - d1 + d3 := by omega
    clear e g
    intro h4 e
    have g : (d2 + u3) ≤ (u2 + d3) := by omega
    rw [Int.max_eq_left g] at e
    obtain rfl : h4 = -v2 + u2 + d3 := by omega
    clear e g
    intro U4 e
    have g : ((-v2 + u2 + d3) + v1) ≤ (u2 + d3) := by omega
    rw [Int.max_eq_left g] at e
    obtain rfl : U4 = u2 - d2 + d3 := by omega
    clear e g
    intro D4 e
    have g : ((-v2 + u2 + d3) + v3) ≤ (u2 + d3) := by omega
    rw [Int.max_eq_left g] at e
    obtain rfl : D4 = u2 - u3 + d3 := by omega
    clear e g
    intro V4 e
    have g : (d3 + u2) ≤ ((u2 - d2 + d3) + (u2 - u3 + d3)) := by omega
    rw [Int.max_eq_left g] at e
    obtain rfl : V4 = v2 + u2 - u3 - d2 + d3 := by omega
    clear e g
    intro h5 e
    have g : (d1 + (u2 - d2 + d3)) ≤ (u1 + d3) := by omega
    rw [Int.max_eq_left g] at e
    obtain rfl : h5 = -v1 + u1 + d3 := by omega
    clear e g
    intro U5 e
    have g : ((-v1 + u1 + d3) + v0) ≤ (u1 + d3) := by omega
    rw [Int.max_eq_left g] at e
    obtain rfl : U5 = u1 - d1 + d3 := by omega
    clear e g
    intro D5 e
    have g : (u1 + d3) ≤ ((-v1 + u1 + d3) + (v2 + u2 - u3 - d2 + d3)) := by omega
    rw [Int.max_eq_right g] at e
    obtain rfl : D5 = -v1 + v2 + u1 - u3 + d3 := by omega
    clear e g
    intro V5 e
    have g : (d3 + u1) ≤ ((u1 - d1 + d3) + (-v1 + v2 + u1 - u3 + d3)) := by omega
    rw [Int.max_eq_left g] at e
    obtain rfl : V5 = v2 + u1 - u3 - d1 + d3 := by omega
    clear e g
    intro h6 e
    have g : (u1 + (u2 - u3 + d3)) ≤ ((-v1 + v2 + u1 - u3 + d3) + u2) := by omega
    rw [Int.max_eq_right g] at e
    obtain rfl : h6 = -v1 + u1 + d2 := by omega
    clear e g
    intro U6 e
    have g : (u1 + (u2 - u3 + d3)) ≤ ((-v1 + u1 + d2) + (v2 + u1 - u3 - d1 + d3)) := by omega
    rw [Int.max_eq_right g] at e
    obtain rfl : U6 = u1 - d1 + d2 := by omega
    clear e g
    intro D6 e
    have g : ((-v1 + u1 + d2) + v3) ≤ (u1 + (u2 - u3 + d3)) := by omega
    rw [Int.max_eq_left g] at e
    obtain rfl : D6 = u1 - u3 + d3 := by omega
    clear e g
    intro V6 e
    have g : ((u2 - u3 + d3) + u1) ≤ ((u1 - d1 + d2) + (u1 - u3 + d3)) := by omega
    rw [Int.max_eq_left g] at e
    obtain rfl : V6 = v1 + u1 - u3 - d1 + d3 := by omega
    clear e g
    exact ⟨rfl, rfl, rfl, rfl, rfl, rfl⟩
  · rw [Int.max_eq_right g] at e
    obtain rfl : D2 = -v2 + v3 + u1 - u3 + d3 := by omega
    clear e
    intro V2 e
    have g : (d3 + u1) ≤ ((v1 - v2 + u1 - d1 + d3) + (-v2 + v3 + u1 - u3 + d3)) := by omega
    rw [Int.max_eq_left g] at e
    obtain rfl : V2 = v1 - v2 + v3 + u1 - u3 - d1 + d3 := by omega
    clear e g
    intro h3 e
    have g : (d2 + (v1 - v2 + u1 - d1 + d3)) ≤ ((u1 - d1 + d2) + d3) := by omega
    rw [Int.max_eq_left g] at e
    obtain rfl : h3 = -v2 + u2 + d3 := by omega
    clear e g
    intro U3 e
    have g : ((-v2 + u2 + d3) + v0) ≤ ((u1 - d1 + d2) + d3) := by omega
    rw [Int.max_eq_left g] at e
    obtain rfl : U3 = u1 - d1 + d3 := by omega
    clear e g
    intro D3 e
    have g : ((u1 - d1 + d2) + d3) ≤ ((-v2 + u2 + d3) + (v1 - v2 + v3 + u1 - u3 - d1 + d3)) := by omega
    rw [Int.max_eq_right g] at e
    obtain rfl : D3 = -v2 + v3 + u2 - u3 + d3 := by omega
    clear e g
    intro V3 e
    have g : (d3 + (u1 - d1 + d2)) ≤ ((u1 - d1 + d3) + (-v2 + v3 + u2 - u3 + d3)) := by omega
    rw [Int.max_eq_left g] at e
    obtain rfl : V3 = v3 + u1 - u3 - d1 + d3 := by omega
    clear e g
    intro h4 e
    have g : (d2 + u3) ≤ (u2 + d3) := by omega
    rw [Int.max_eq_left g] at e
    obtain rfl : h4 = -v2 + u2 + d3 := by omega
    clear e g
    intro U4 e
    have g : ((-v2 + u2 + d3) + v1) ≤ (u2 + d3) := by omega
    rw [Int.max_eq_left g] at e
    obtain rfl : U4 = u2 - d2 + d3 := by omega
    clear e g
    intro D4 e
    have g : (u2 + d3) ≤ ((-v2 + u2 + d3) + v3) := by omega
    rw [Int.max_eq_right g] at e
    obtain rfl : D4 = -v2 + v3 + u2 - u3 + d3 := by omega
    clear e g
    intro V4 e
    have g : (d3 + u2) ≤ ((u2 - d2 + d3) + (-v2 + v3 + u2 - u3 + d3)) := by omega
    rw [Int.max_eq_left g] at e
    obtain rfl : V4 = v3 + u2 - u3 - d2 + d3 := by omega
    clear e g
    intro h5 e
    have g : (d1 + (u2 - d2 + d3)) ≤ (u1 + d3) := by omega
    rw [Int.max_eq_left g] at e
    obtain rfl : h5 = -v1 + u1 + d3 := by omega
    clear e g
    intro U5 e
    have g : ((-v1 + u1 + d3) + v0) ≤ (u1 + d3) := by omega
    rw [Int.max_eq_left g] at e
    obtain rfl : U5 = u1 - d1 + d3 := by omega
    clear e g
    intro D5 e
    have g : (u1 + d3) ≤ ((-v1 + u1 + d3) + (v3 + u2 - u3 - d2 + d3)) := by omega
    rw [Int.max_eq_right g] at e
    obtain rfl : D5 = -v1 + v3 + u1 - u3 + d3 := by omega
    clear e g
    intro V5 e
    have g : (d3 + u1) ≤ ((u1 - d1 + d3) + (-v1 + v3 + u1 - u3 + d3)) := by omega
    rw [Int.max_eq_left g] at e
    obtain rfl : V5 = v3 + u1 - u3 - d1 + d3 := by omega
    clear e g
    intro h6 e
    have g : (u1 + (-v2 + v3 + u2 - u3 + d3)) ≤ ((-v1 + v3 + u1 - u3 + d3) + u2) := by omega
    rw [Int.max_eq_right g] at e
    obtain rfl : h6 = -v1 + u1 + d2 := by omega
    clear e g
    intro U6 e
    have g : (u1 + (-v2 + v3 + u2 - u3 + d3)) ≤ ((-v1 + u1 + d2) + (v3 + u1 - u3 - d1 + d3)) := by omega
    rw [Int.max_eq_right g] at e
    obtain rfl : U6 = u1 - d1 + d2 := by omega
    clear e g
    intro D6 e
    have g : ((-v1 + u1 + d2) + v3) ≤ (u1 + (-v2 + v3 + u2 - u3 + d3)) := by omega
    rw [Int.max_eq_left g] at e
    obtain rfl : D6 = -v2 + v3 + u1 - u3 + d3 := by omega
    clear e g
    intro V6 e
    have g : ((-v2 + v3 + u2 - u3 + d3) + u1) ≤ ((u1 - d1 + d2) + (-v2 + v3 + u1 - u3 + d3)) := by omega
    rw [Int.max_eq_left g] at e
    obtain rfl : V6 = v1 - v2 + v3 + u1 - u3 - d1 + d3 := by omega
    clear e g
    exact ⟨rfl, rfl, rfl, rfl, rfl, rfl⟩
set_option maxHeartbeats 4000000 in
set_option maxRecDepth 100000 in
theorem dy_c5 (v0 v1 v2 v3 u1 u2 u3 d1 d2 d3 : Int) (g0 : u2 + d1 ≤ u1 + d2) (g1 : v0 ≤ v1) (g2 : v1 ≤ v2) (g3 : v1 + u2 + d3 ≤ v2 + u3 + d2) (g4 : v3 + u3 + d2 ≤ v1 + u2 + d3) : ∀ V2 : Int, V2 = max ((u1 - u2 + u3 - d1 + d2) + (u1 - u3 + d3)) (d3 + u1) - (-v1 + u1 - u2 + u3 + d2) → ∀ h3 : Int, h3 = max ((u1 - d1 + d2) + d3) (d2 + (u1 - u2 + u3 - d1 + d2)) - (v2 + u1 - u2 - d1 + d2) → ∀ U3 : Int, U3 = max ((u1 - d1 + d2) + d3) (h3 + v0) - d2 → ∀ D3 : Int, D3 = max ((u1 - d1 + d2) + d3) (h3 + V2) - (u1 - u2 + u3 - d1 + d2) → ∀ V3 : Int, V3 = max (U3 + D3) (d3 + (u1 - d1 + d2)) - h3 → ∀ h4 : Int, h4 = max (u2 + d3) (d2 + u3) - v2 → ∀ U4 : Int, U4 = max (u2 + d3) (h4 + v1) - d2 → ∀ D4 : Int, D4 = max (u2 + d3) (h4 + v3) - u3 → ∀ V4 : Int, V4 = max (U4 + D4) (d3 + u2) - h4 → ∀ h5 : Int, h5 = max (u1 + d3) (d1 + U4) - v1 → ∀ U5 : Int, U5 = max (u1 + d3) (h5 + v0) - d1 → ∀ D5 : Int, D5 = max (u1 + d3) (h5 + V4) - U4 → ∀ V5 : Int, V5 = max (U5 + D5) (d3 + u1) - h5 → ∀ h6 : Int, h6 = max (u1 + D4) (D5 + u2) - V4 → ∀ U6 : Int, U6 = max (u1 + D4) (h6 + V5) - D5 → ∀ D6 : Int, D6 = max (u1 + D4) (h6 + v3) - u2 → ∀ V6 : Int, V6 = max (U6 + D6) (D4 + u1) - h6 → V3 = V5 ∧ U3 = U5 ∧ V2 = V6 ∧ (u1 - d1 + d2) = U6 ∧ D3 = D4 ∧ (u1 - u3 + d3) = D6 := by
  intro V2 e
  have g : (d3 + u1) ≤ ((u1 - u2 + u3 - d1 + d2) + (u1 - u3 + d3)) := by omega
  rw [Int.max_eq_left g] at e
  obtain rfl : V2 = v1 + u1 - u3 - d1 + d3 := by omega
  clear e g
  intro h3 e
  rcases Int.le_total (d2 + (u1 - u2 + u3 - d1 + d2)) ((u1 - d1 + d2) + d3) with g | g
  · rw [Int.max_eq_left g] at e
    obtain rfl : h3 = -v2 + u2 + d3 := by omega
    clear e
    intro U3 e
    have g : ((-v2 + u2 + d3) + v0) ≤ ((u1 - d1 + d2) + d3) := by omega
    rw [Int.max_eq_left g] at e
    obtain rfl : U3 = u1 - d1 + d3 := by omega
    clear e g
    intro D3 e
    have g : ((-v2 + u2 + d3) + (v1 + u1 - u3 - d1 + d3)) ≤ ((u1 - d1 + d2) + d3) := by omega
    rw [Int.max_eq_left g] at e
    obtain rfl : D3 = u2 - u3 + d3 := by omega
    clear e g
    intro V3 e
    have g : (d3 + (u1 - d1 + d2)) ≤ ((u1 - d1 + d3) + (u2 - u3 + d3)) := by omega
    rw [Int.max_eq_left g] at e
    obtain rfl : V3 = v2 + u1 - u3 - d1 + d3 := by omega
    clear e g
    intro h4 e
    have g : (d2 + u3) ≤ (u2 + d3) := by omega
    rw [Int.max_eq_left g] at e
    obtain rfl : h4 = -v2 + u2 + d3 := by omega
    clear e g
    intro U4 e
    have g : ((-v2 + u2 + d3) + v1) ≤ (u2 + d3) := by omega
    rw [Int.max_eq_left g] at e
    obtain rfl : U4 = u2 - d2 + d3 := by omega
    clear e g
    intro D4 e
    have g : ((-v2 + u2 + d3) + v3) ≤ (u2 + d3) := by omega
    rw [Int.max_eq_left g] at e
    obtain rfl : D4 = u2 - u3 + d3 := by omega
    clear e g
    intro V4 e
    have g : (d3 + u2) ≤ ((u2 - d2 + d3) + (u2 - u3 + d3)) := by omega
    rw [Int.max_eq_left g] at e
    obtain rfl : V4 = v2 + u2 - u3 - d2 + d3 := by omega
    clear e g
    intro h5 e
    have g : (d1 + (u2 - d2 + d3)) ≤ (u1 + d3) := by omega
    rw [Int.max_eq_left g] at e
    obtain rfl : h5 = -v1 + u1 + d3 := by omega
    clear e g
    intro U5 e
    have g : ((-v1 + u1 + d3) + v0) ≤ (u1 + d3) := by omega
    rw [Int.max_eq_left g] at e
    obtain rfl : U5 = u1 - d1 + d3 := by omega
    clear e g
    intro D5 e
    have g : (u1 + d3) ≤ ((-v1 + u1 + d3) + (v2 + u2 - u3 - d2 + d3)) := by omega
    rw [Int.max_eq_right g] at e
    obtain rfl : D5 = -v1 + v2 + u1 - u3 + d3 := by omega
    clear e g
    intro V5 e
    have g : (d3 + u1) ≤ ((u1 - d1 + d3) + (-v1 + v2 + u1 - u3 + d3)) := by omega
    rw [Int.max_eq_left g] at e
    obtain rfl : V5 = v2 + u1 - u3 - d1 + d3 := by omega
    clear e g
    intro h6 e
    have g : (u1 + (u2 - u3 + d3)) ≤ ((-v1 + v2 + u1 - u3 + d3) + u2) := by omega
    rw [Int.max_eq_right g] at e
    obtain rfl : h6 = -v1 + u1 + d2 := by omega
    clear e g
    intro U6 e
    have g : (u1 + (u2 - u3 + d3)) ≤ ((-v1 + u1 + d2) + (v2 + u1 - u3 - d1 + d3)) := by omega
    rw [Int.max_eq_right g] at e
    obtain rfl : U6 = u1 - d1 + d2 := by omega
    clear e g
    intro D6 e
    have g : ((-v1 + u1 + d2) + v3) ≤ (u1 + (u2 - u3 + d3)) := by omega
    rw [Int.max_eq_left g] at e
    obtain rfl : D6 = u1 - u3 + d3 := by omega
    clear e g
    intro V6 e
    have g : ((u2 - u3 + d3) + u1) ≤ ((u1 - d1 + d2) + (u1 - u3 + d3)) := by omega
    rw [Int.max_eq_left g] at e
    obtain rfl : V6 = v1 + u1 - u3 - d1 + d3 := by omega
    clear e g
    exact ⟨rfl, rfl, rfl, rfl, rfl, rfl⟩
  · rw [Int.max_eq_right g] at e
    obtain rfl : h3 = -v2 + u3 + d2 := by omega
    clear e
    intro U3 e
    rcases Int.le_total ((-v2 + u3 + d2) + v0) ((u1 - d1 + d2) + d3) with g | g
    · rw [Int.max_eq_left g] at e
      obtain rfl : U3 = u1 - d1 + d3 := by omega
      clear e
      intro D3 e
      have g : ((-v2 + u3 + d2) + (v1 + u1 - u3 - d1 + d3)) ≤ ((u1 - d1 + d2) + d3) := by omega
      rw [Int.max_eq_left g] at e
      obtain rfl : D3 = u2 - u3 + d3 := by omega
      clear e g
      intro V3 e
      have g : ((u1 - d1 + d3) + (u2 - u3 + d3)) ≤ (d3 + (u1 - d1 + d2)) := by omega
      rw [Int.max_eq_right g] at e
      obtain rfl : V3 = v2 + u1 - u3 - d1 + d3 := by omega
      clear e g
      intro h4 e
      have g : (u2 + d3) ≤ (d2 + u3) := by omega
      rw [Int.max_eq_right g] at e
      obtain rfl : h4 = -v2 + u3 + d2 := by omega
      clear e g
      intro U4 e
      rcases Int.le_total ((-v2 + u3 + d2) + v1) (u2 + d3) with g | g
      · rw [Int.max_eq_left g] at e
        obtain rfl : U4 = u2 - d2 + d3 := by omega
        clear e
        intro D4 e
        have g : ((-v2 + u3 + d2) + v3) ≤ (u2 + d3) := by omega
        rw [Int.max_eq_left g] at e
        obtain rfl : D4 = u2 - u3 + d3 := by omega
        clear e g
        intro V4 e
        have g : ((u2 - d2 + d3) + (u2 - u3 + d3)) ≤ (d3 + u2) := by omega
        rw [Int.max_eq_right g] at e
        obtain rfl : V4 = v2 + u2 - u3 - d2 + d3 := by omega
        clear e g
        intro h5 e
        have g : (d1 + (u2 - d2 + d3)) ≤ (u1 + d3) := by omega
        rw [Int.max_eq_left g] at e
        obtain rfl : h5 = -v1 + u1 + d3 := by omega
        clear e g
        intro U5 e
        have g : ((-v1 + u1 + d3) + v0) ≤ (u1 + d3) := by omega
        rw [Int.max_eq_left g] at e
        obtain rfl : U5 = u1 - d1 + d3 := by omega
        clear e g
        intro D5 e
        have g : (u1 + d3) ≤ ((-v1 + u1 + d3) + (v2 + u2 - u3 - d2 + d3)) := by omega
        rw [Int.max_eq_right g] at e
        obtain rfl : D5 = -v1 + v2 + u1 - u3 + d3 := by omega
        clear e g
        intro V5 e
        have g : (d3 + u1) ≤ ((u1 - d1 + d3) + (-v1 + v2 + u1 - u3 + d3)) := by omega
        rw [Int.max_eq_left g] at e
        obtain rfl : V5 = v2 + u1 - u3 - d1 + d3 := by omega
        clear e g
        intro h6 e
        have g : (u1 + (u2 - u3 + d3)) ≤ ((-v1 + v2 + u1 - u3 + d3) + u2) := by omega
        rw [Int.max_eq_right g] at e
        obtain rfl : h6 = -v1 + u1 + d2 := by omega
        clear e g
        intro U6 e
        have g : (u1 + (u2 - u3 + d3)) ≤ ((-v1 + u1 + d2) + (v2 + u1 - u3 - d1 + d3)) := by omega
        rw [Int.max_eq_right g] at e
        obtain rfl : U6 = u1 - d1 + d2 := by omega
        clear e g
        intro D6 e
        have g : ((-v1 + u1 + d2) + v3) ≤ (u1 + (u2 - u3 + d3)) := by omega
        rw [Int.max_eq_left g] at e
        obtain rfl : D6 = u1 - u3 + d3 := by omega
        clear e g
        intro V6 e
        have g : ((u2 - u3 + d3) + u1) ≤ ((u1 - d1 + d2) + (u1 - u3 + d3)) := by omega
        rw [Int.max_eq_left g] at e
        obtain rfl : V6 = v1 + u1 - u3 - d1 + d3 := by omega
        clear e g
        exact ⟨rfl, rfl, rfl, rfl, rfl, rfl⟩
      · rw [Int.max_eq_right g] at e
        obtain rfl : U4 = v1 - v2 + u3 := by omega
        clear e
        intro D4 e
        have g : ((-v2 + u3 + d2) + v3) ≤ (u2 + d3) := by omega
        rw [Int.max_eq_left g] at e
        obtain rfl : D4 = u2 - u3 + d3 := by omega
        clear e g
        intro V4 e
        have g : ((v1 - v2 + u3) + (u2 - u3 + d3)) ≤ (d3 + u2) := by omega
        rw [Int.max_eq_right g] at e
        obtain rfl : V4 = v2 + u2 - u3 - d2 + d3 := by omega
        clear e g
        intro h5 e
        rcases Int.le_total (d1 + (v1 - v2 + u3)) (u1 + d3) with g | g
        · rw [Int.max_eq_left g] at e
          obtain rfl : h5 = -v1 + u1 + d3 := by omega
          clear e
          intro U5 e
          have g : ((-v1 + u1 + d3) + v0) ≤ (u1 + d3) := by omega
          rw [Int.max_eq_left g] at e
          obtain rfl : U5 = u1 - d1 + d3 := by omega
          clear e g
          intro D5 e
          have g : ((-v1 + u1 + d3) + (v2 + u2 - u3 - d2 + d3)) ≤ (u1 + d3) := by omega
          rw [Int.max_eq_left g] at e
          obtain rfl : D5 = -v1 + v2 + u1 - u3 + d3 := by omega
          clear e g
          intro V5 e
          have g : (d3 + u1) ≤ ((u1 - d1 + d3) + (-v1 + v2 + u1 - u3 + d3)) := by omega
          rw [Int.max_eq_left g] at e
          obtain rfl : V5 = v2 + u1 - u3 - d1 + d3 := by omega
          clear e g
          intro h6 e
          have g : (u1 + (u2 - u3 + d3)) ≤ ((-v1 + v2 + u1 - u3 + d3) + u2) := by omega
          rw [Int.max_eq_right g] at e
          obtain rfl : h6 = -v1 + u1 + d2 := by omega
          clear e g
          intro U6 e
          have g : (u1 + (u2 - u3 + d3)) ≤ ((-v1 + u1 + d2) + (v2 + u1 - u3 - d1 + d3)) := by omega
          rw [Int.max_eq_right g] at e
          obtain rfl : U6 = u1 - d1 + d2 := by omega
          clear e g
          intro D6 e
          have g : ((-v1 + u1 + d2) + v3) ≤ (u1 + (u2 - u3 + d3)) := by omega
          rw [Int.max_eq_left g] at e
          obtain rfl : D6 = u1 - u3 + d3 := by omega
          clear e g
          intro V6 e
          have g : ((u2 - u3 + d3) + u1) ≤ ((u1 - d1 + d2) + (u1 - u3 + d3)) := by omega
          rw [Int.max_eq_left g] at e
          obtain rfl : V6 = v1 + u1 - u3 - d1 + d3 := by omega
          clear e g
          exact ⟨rfl, rfl, rfl, rfl, rfl, rfl⟩
        · rw [Int.max_eq_right g] at e
          obtain rfl : h5 = -v2 + u3 + d1 := by omega
          clear e
          intro U5 e
          have g : ((-v2 + u3 + d1) + v0) ≤ (u1 + d3) := by omega
          rw [Int.max_eq_left g] at e
          obtain rfl : U5 = u1 - d1 + d3 := by omega
          clear e g
          intro D5 e
          have g : ((-v2 + u3 + d1) + (v2 + u2 - u3 - d2 + d3)) ≤ (u1 + d3) := by omega
          rw [Int.max_eq_left g] at e
          obtain rfl : D5 = -v1 + v2 + u1 - u3 + d3 := by omega
          clear e g
          intro V5 e
          have g : ((u1 - d1 + d3) + (-v1 + v2 + u1 - u3 + d3)) ≤ (d3 + u1) := by omega
          rw [Int.max_eq_right g] at e
          obtain rfl : V5 = v2 + u1 - u3 - d1 + d3 := by omega
          clear e g
          intro h6 e
          have g : (u1 + (u2 - u3 + d3)) ≤ ((-v1 + v2 + u1 - u3 + d3) + u2) := by omega
          rw [Int.max_eq_right g] at e
          obtain rfl : h6 = -v1 + u1 + d2 := by omega
          clear e g
          intro U6 e
          have g : (u1 + (u2 - u3 + d3)) ≤ ((-v1 + u1 + d2) + (v2 + u1 - u3 - d1 + d3)) := by omega
          rw [Int.max_eq_right g] at e
          obtain rfl : U6 = u1 - d1 + d2 := by omega
          clear e g
          intro D6 e
          have g : ((-v1 + u1 + d2) + v3) ≤ (u1 + (u2 - u3 + d3)) := by omega
          rw [Int.max_eq_left g] at e
          obtain rfl : D6 = u1 - u3 + d3 := by omega
          clear e g
          intro V6 e
          have g : ((u2 - u3 + d3) + u1) ≤ ((u1 - d1 + d2) + (u1 - u3 + d3)) := by omega
          rw [Int.max_eq_left g] at e
          obtain rfl : V6 = v1 + u1 - u3 - d1 + d3 := by omega
          clear e g
          exact ⟨rfl, rfl, rfl, rfl, rfl, rfl⟩
    · rw [Int.max_eq_right g] at e
      obtain rfl : U3 = v0 - v2 + u3 := by omega
      clear e
      intro D3 e
      have g : ((-v2 + u3 + d2) + (v1 + u1 - u3 - d1 + d3)) ≤ ((u1 - d1 + d2) + d3) := by omega
      rw [Int.max_eq_left g] at e
      obtain rfl : D3 = u2 - u3 + d3 := by omega
      clear e g
      intro V3 e
      have g : ((v0 - v2 + u3) + (u2 - u3 + d3)) ≤ (d3 + (u1 - d1 + d2)) := by omega
      rw [Int.max_eq_right g] at e
      obtain rfl : V3 = v2 + u1 - u3 - d1 + d3 := by omega
      clear e g
      intro h4 e
      have g : (u2 + d3) ≤ (d2 + u3) := by omega
      rw [Int.max_eq_right g] at e
      obtain rfl : h4 = -v2 + u3 + d2 := by omega
      clear e g
      intro U4 e
      have g : (u2 + d3) ≤ ((-v2 + u3 + d2) + v1) := by omega
      rw [Int.max_eq_right g] at e
      obtain rfl : U4 = v1 - v2 + u3 := by omega
      clear e g
      intro D4 e
      have g : ((-v2 + u3 + d2) + v3) ≤ (u2 + d3) := by omega
      rw [Int.max_eq_left g] at e
      obtain rfl : D4 = u2 - u3 + d3 := by omega
      clear e g
      intro V4 e
      have g : ((v1 - v2 + u3) + (u2 - u3 + d3)) ≤ (d3 + u2) := by omega
      rw [Int.max_eq_right g] at e
      obtain rfl : V4 = v2 + u2 - u3 - d2 + d3 := by omega
      clear e g
      intro h5 e
      have g : (u1 + d3) ≤ (d1 + (v1 - v2 + u3)) := by omega
      rw [Int.max_eq_right g] at e
      obtain rfl : h5 = -v2 + u3 + d1 := by omega
      clear e g
      intro U5 e
      have g : (u1 + d3) ≤ ((-v2 + u3 + d1) + v0) := by omega
      rw [Int.max_eq_right g] at e
      obtain rfl : U5 = v0 - v2 + u3 := by omega
      clear e g
      intro D5 e
      have g : ((-v2 + u3 + d1) + (v2 + u2 - u3 - d2 + d3)) ≤ (u1 + d3) := by omega
      rw [Int.max_eq_left g] at e
      obtain rfl : D5 = -v1 + v2 + u1 - u3 + d3 := by omega
      clear e g
      intro V5 e
      have g : ((v0 - v2 + u3) + (-v1 + v2 + u1 - u3 + d3)) ≤ (d3 + u1) := by omega
      rw [Int.max_eq_right g] at e
      obtain rfl : V5 = v2 + u1 - u3 - d1 + d3 := by omega
      clear e g
      intro h6 e
      have g : (u1 + (u2 - u3 + d3)) ≤ ((-v1 + v2 + u1 - u3 + d3) + u2) := by omega
      rw [Int.max_eq_right g] at e
      obtain rfl : h6 = -v1 + u1 + d2 := by omega
      clear e g
      intro U6 e
      have g : (u1 + (u2 - u3 + d3)) ≤ ((-v1 + u1 + d2) + (v2 + u1 - u3 - d1 + d3)) := by omega
      rw [Int.max_eq_right g] at e
      obtain rfl : U6 = u1 - d1 + d2 := by omega
      clear e g
      intro D6 e
      have g : ((-v1 + u1 + d2) + v3) ≤ (u1 + (u2 - u3 + d3)) := by omega
      rw [Int.max_eq_left g] at e
      obtain rfl : D6 = u1 - u3 + d3 := by omega
      clear e g
      intro V6 e
      have g : ((u2 - u3 + d3) + u1) ≤ ((u1 - d1 + d2) + (u1 - u3 + d3)) := by omega
      rw [Int.max_eq_left g] at e
      obtain rfl : V6 = v1 + u1 - u3 - d1 + d3 := by omega
      clear e g
      exact ⟨rfl, rfl, rfl, rfl, rfl, rfl⟩
set_option maxHeartbeats 4000000 in
set_option maxRecDepth 100000 in
theorem dy_c6 (v0 v1 v2 v3 u1 u2 u3 d1 d2 d3 : Int) (g0 : u2 + d1 ≤ u1 + d2) (g1 : v0 ≤ v1) (g2 : v1 ≤ v2) (g3 : v1 + u2 + d3 ≤ v2 + u3 + d2) (g4 : v1 + u2 + d3 ≤ v3 + u3 + d2) (g5 : u3 + d2 ≤ u2 + d3) : ∀ U3 : Int, U3 = max ((u1 - d1 + d2) + d3) ((-v2 + u2 + d3) + v0) - d2 → ∀ D3 : Int, D3 = max ((u1 - d1 + d2) + d3) ((-v2 + u2 + d3) + (v3 + u1 - u2 - d1 + d2)) - (u1 - u2 + u3 - d1 + d2) → ∀ V3 : Int, V3 = max (U3 + D3) (d3 + (u1 - d1 + d2)) - (-v2 + u2 + d3) → ∀ h4 : Int, h4 = max (u2 + d3) (d2 + u3) - v2 → ∀ U4 : Int, U4 = max (u2 + d3) (h4 + v1) - d2 → ∀ D4 : Int, D4 = max (u2 + d3) (h4 + v3) - u3 → ∀ V4 : Int, V4 = max (U4 + D4) (d3 + u2) - h4 → ∀ h5 : Int, h5 = max (u1 + d3) (d1 + U4) - v1 → ∀ U5 : Int, U5 = max (u1 + d3) (h5 + v0) - d1 → ∀ D5 : Int, D5 = max (u1 + d3) (h5 + V4) - U4 → ∀ V5 : Int, V5 = max (U5 + D5) (d3 + u1) - h5 → ∀ h6 : Int, h6 = max (u1 + D4) (D5 + u2) - V4 → ∀ U6 : Int, U6 = max (u1 + D4) (h6 + V5) - D5 → ∀ D6 : Int, D6 = max (u1 + D4) (h6 + v3) - u2 → ∀ V6 : Int, V6 = max (U6 + D6) (D4 + u1) - h6 → V3 = V5 ∧ U3 = U5 ∧ (v3 + u1 - u2 - d1 + d2) = V6 ∧ (u1 - d1 + d2) = U6 ∧ D3 = D4 ∧ (-v1 + v3 + u1 - u2 + d2) = D6 := by
  intro U3 e
  have g : ((-v2 + u2 + d3) + v0) ≤ ((u1 - d1 + d2) + d3) := by omega
  rw [Int.max_eq_left g] at e
  obtain rfl : U3 = u1 - d1 + d3 := by omega
  clear e g
  intro D3 e
  rcases Int.le_total ((-v2 + u2 + d3) + (v3 + u1 - u2 - d1 + d2)) ((u1 - d1 + d2) + d3) with g | g
  · rw [Int.max_eq_left g] at e
    obtain rfl : D3 = u2 - u3 + d3 := by omega
    clear e
    intro V3 e
    have g : (d3 + (u1 - d1 + d2)) ≤ ((u1 - d1 + d3) + (u2 - u3 + d3)) := by omega
    rw [Int.max_eq_left g] at e
    obtain rfl : V3 = v2 + u1 - u3 - d1 + d3 := by omega
    clear e g
    intro h4 e
    have g : (d2 + u3) ≤ (u2 + d3) := by omega
    rw [Int.max_eq_left g] at e
    obtain rfl : h4 = -v2 + u2 + d3 := by omega
    clear e g
    intro U4 e
    have g : ((-v2 + u2 + d3) + v1) ≤ (u2 + d3) := by omega
    rw [Int.max_eq_left g] at e
    obtain rfl : U4 = u2 - d2 + d3 := by omega
    clear e g
    intro D4 e
    have g : ((-v2 + u2 + d3) + v3) ≤ (u2 + d3) := by omega
    rw [Int.max_eq_left g] at e
    obtain rfl : D4 = u2 - u3 + d3 := by omega
    clear e g
    intro V4 e
    have g : (d3 + u2) ≤ ((u2 - d2 + d3) + (u2 - u3 + d3)) := by omega
    rw [Int.max_eq_left g] at e
    obtain rfl : V4 = v2 + u2 - u3 - d2 + d3 := by omega
    clear e g
    intro h5 e
    have g : (d1 + (u2 - d2 + d3)) ≤ (u1 + d3) := by omega
    rw [Int.max_eq_left g] at e
    obtain rfl : h5 = -v1 + u1 + d3 := by omega
    clear e g
    intro U5 e
    have g : ((-v1 + u1 + d3) + v0) ≤ (u1 + d3) := by omega
    rw [Int.max_eq_left g] at e
    obtain rfl : U5 = u1 - d1 + d3 := by omega
    clear e g
    intro D5 e
    have g : (u1 + d3) ≤ ((-v1 + u1 + d3) + (v2 + u2 - u3 - d2 + d3)) := by omega
    rw [Int.max_eq_right g] at e
    obtain rfl : D5 = -v1 + v2 + u1 - u3 + d3 := by omega
    clear e g
    intro V5 e
    have g : (d3 + u1) ≤ ((u1 - d1 + d3) + (-v1 + v2 + u1 - u3 + d3)) := by omega
    rw [Int.max_eq_left g] at e
    obtain rfl : V5 = v2 + u1 - u3 - d1 + d3 := by omega
    clear e g
    intro h6 e
    have g : (u1 + (u2 - u3 + d3)) ≤ ((-v1 + v2 + u1 - u3 + d3) + u2) := by omega
    rw [Int.max_eq_right g] at e
    obtain rfl : h6 = -v1 + u1 + d2 := by omega
    clear e g
    intro U6 e
    have g : (u1 + (u2 - u3 + d3)) ≤ ((-v1 + u1 + d2) + (v2 + u1 - u3 - d1 + d3)) := by omega
    rw [Int.max_eq_right g] at e
    obtain rfl : U6 = u1 - d1 + d2 := by omega
    clear e g
    intro D6 e
    have g : (u1 + (u2 - u3 + d3)) ≤ ((-v1 + u1 + d2) + v3) := by omega
    rw [Int.max_eq_right g] at e
    obtain rfl : D6 = -v1 + v3 + u1 - u2 + d2 := by omega
    clear e g
    intro V6 e
    have g : ((u2 - u3 + d3) + u1) ≤ ((u1 - d1 + d2) + (-v1 + v3 + u1 - u2 + d2)) := by omega
    rw [Int.max_eq_left g] at e
    obtain rfl : V6 = v3 + u1 - u2 - d1 + d2 := by omega
    clear e g
    exact ⟨rfl, rfl, rfl, rfl, rfl, rfl⟩
  · rw [Int.max_eq_right g] at e
    obtain rfl : D3 = -v2 + v3 + u2 - u3 + d3 := by omega
    clear e
    intro V3 e
    have g : (d3 + (u1 - d1 + d2)) ≤ ((u1 - d1 + d3) + (-v2 + v3 + u2 - u3 + d3)) := by omega
    rw [Int.max_eq_left g] at e
    obtain rfl : V3 = v3 + u1 - u3 - d1 + d3 := by omega
    clear e g
    intro h4 e
    have g : (d2 + u3) ≤ (u2 + d3) := by omega
    rw [Int.max_eq_left g] at e
    obtain rfl : h4 = -v2 + u2 + d3 := by omega
    clear e g
    intro U4 e
    have g : ((-v2 + u2 + d3) + v1) ≤ (u2 + d3) := by omega
    rw [Int.max_eq_left g] at e
    obtain rfl : U4 = u2 - d2 + d3 := by omega
    clear e g
    intro D4 e
    have g : (u2 + d3) ≤ ((-v2 + u2 + d3) + v3) := by omega
    rw [Int.max_eq_right g] at e
    obtain rfl : D4 = -v2 + v3 + u2 - u3 + d3 := by omega
    clear e g
    intro V4 e
    have g : (d3 + u2) ≤ ((u2 - d2 + d3) + (-v2 + v3 + u2 - u3 + d3)) := by omega
    rw [Int.max_eq_left g] at e
    obtain rfl : V4 = v3 + u2 - u3 - d2 + d3 := by omega
    clear e g
    intro h5 e
    have g : (d1 + (u2 - d2 + d3)) ≤ (u1 + d3) := by omega
    rw [Int.max_eq_left g] at e
    obtain rfl : h5 = -v1 + u1 + d3 := by omega
    clear e g
    intro U5 e
    have g : ((-v1 + u1 + d3) + v0) ≤ (u1 + d3) := by omega
    rw [Int.max_eq_left g] at e
    obtain rfl : U5 = u1 - d1 + d3 := by omega
    clear e g
    intro D5 e
    have g : (u1 + d3) ≤ ((-v1 + u1 + d3) + (v3 + u2 - u3 - d2 + d3)) := by omega
    rw [Int.max_eq_right g] at e
    obtain rfl : D5 = -v1 + v3 + u1 - u3 + d3 := by omega
    clear e g
    intro V5 e
    have g : (d3 + u1) ≤ ((u1 - d1 + d3) + (-v1 + v3 + u1 - u3 + d3)) := by omega
    rw [Int.max_eq_left g] at e
    obtain rfl : V5 = v3 + u1 - u3 - d1 + d3 := by omega
    clear e g
    intro h6 e
    have g : (u1 + (-v2 + v3 + u2 - u3 + d3)) ≤ ((-v1 + v3 + u1 - u3 + d3) + u2) := by omega
    rw [Int.max_eq_right g] at e
    obtain rfl : h6 = -v1 + u1 + d2 := by omega
    clear e g
    intro U6 e
    have g : (u1 + (-v2 + v3 + u2 - u3 + d3)) ≤ ((-v1 + u1 + d2) + (v3 + u1 - u3 - d1 + d3)) := by omega
    rw [Int.max_eq_right g] at e
    obtain rfl : U6 = u1 - d1 + d2 := by omega
    clear e g
    intro D6 e
    have g : (u1 + (-v2 + v3 + u2 - u3 + d3)) ≤ ((-v1 + u1 + d2) + v3) := by omega
    rw [Int.max_eq_right g] at e
    obtain rfl : D6 = -v1 + v3 + u1 - u2 + d2 := by omega
    clear e g
    intro V6 e
    have g : ((-v2 + v3 + u2 - u3 + d3) + u1) ≤ ((u1 - d1 + d2) + (-v1 + v3 + u1 - u2 + d2)) := by omega
    rw [Int.max_eq_left g] at e
    obtain rfl : V6 = v3 + u1 - u2 - d1 + d2 := by omega
    clear e g
    exact ⟨rfl, rfl, rfl, rfl, rfl, rfl⟩
set_option maxHeartbeats 4000000 in
set_option maxRecDepth 100000 in
theorem dy_c7 (v0 v1 v2 v3 u1 u2 u3 d1 d2 d3 : Int) (g0 : u2 + d1 ≤ u1 + d2) (g1 : v0 ≤ v1) (g2 : v1 ≤ v2) (g3 : v1 + u2 + d3 ≤ v2 + u3 + d2) (g4 : v1 + u2 + d3 ≤ v3 + u3 + d2) (g5 : u2 + d3 ≤ u3 + d2) (g6 : v0 + u3 + d1 ≤ v2 + u1 + d3) : ∀ D3 : Int, D3 = max ((u1 - d1 + d2) + d3) ((-v2 + u3 + d2) + (v3 + u1 - u2 - d1 + d2)) - (u1 - u2 + u3 - d1 + d2) → ∀ V3 : Int, V3 = max ((u1 - d1 + d3) + D3) (d3 + (u1 - d1 + d2)) - (-v2 + u3 + d2) → ∀ h4 : Int, h4 = max (u2 + d3) (d2 + u3) - v2 → ∀ U4 : Int, U4 = max (u2 + d3) (h4 + v1) - d2 → ∀ D4 : Int, D4 = max (u2 + d3) (h4 + v3) - u3 → ∀ V4 : Int, V4 = max (U4 + D4) (d3 + u2) - h4 → ∀ h5 : Int, h5 = max (u1 + d3) (d1 + U4) - v1 → ∀ U5 : Int, U5 = max (u1 + d3) (h5 + v0) - d1 → ∀ D5 : Int, D5 = max (u1 + d3) (h5 + V4) - U4 → ∀ V5 : Int, V5 = max (U5 + D5) (d3 + u1) - h5 → ∀ h6 : Int, h6 = max (u1 + D4) (D5 + u2) - V4 → ∀ U6 : Int, U6 = max (u1 + D4) (h6 + V5) - D5 → ∀ D6 : Int, D6 = max (u1 + D4) (h6 + v3) - u2 → ∀ V6 : Int, V6 = max (U6 + D6) (D4 + u1) - h6 → V3 = V5 ∧ (u1 - d1 + d3) = U5 ∧ (v3 + u1 - u2 - d1 + d2) = V6 ∧ (u1 - d1 + d2) = U6 ∧ D3 = D4 ∧ (-v1 + v3 + u1 - u2 + d2) = D6 := by
  intro D3 e
  rcases Int.le_total ((-v2 + u3 + d2) + (v3 + u1 - u2 - d1 + d2)) ((u1 - d1 + d2) + d3) with g | g
  · rw [Int.max_eq_left g] at e
    obtain rfl : D3 = u2 - u3 + d3 := by omega
    clear e
    intro V3 e
    have g : ((u1 - d1 + d3) + (u2 - u3 + d3)) ≤ (d3 + (u1 - d1 + d2)) := by omega
    rw [Int.max_eq_right g] at e
    obtain rfl : V3 = v2 + u1 - u3 - d1 + d3 := by omega
    clear e g
    intro h4 e
    have g : (u2 + d3) ≤ (d2 + u3) := by omega
    rw [Int.max_eq_right g] at e
    obtain rfl : h4 = -v2 + u3 + d2 := by omega
    clear e g
    intro U4 e
    rcases Int.le_total ((-v2 + u3 + d2) + v1) (u2 + d3) with g | g
    · rw [Int.max_eq_left g] at e
      obtain rfl : U4 = u2 - d2 + d3 := by omega
      clear e
      intro D4 e
      have g : ((-v2 + u3 + d2) + v3) ≤ (u2 + d3) := by omega
      rw [Int.max_eq_left g] at e
      obtain rfl : D4 = u2 - u3 + d3 := by omega
      clear e g
      intro V4 e
      have g : ((u2 - d2 + d3) + (u2 - u3 + d3)) ≤ (d3 + u2) := by omega
      rw [Int.max_eq_right g] at e
      obtain rfl : V4 = v2 + u2 - u3 - d2 + d3 := by omega
      clear e g
      intro h5 e
      have g : (d1 + (u2 - d2 + d3)) ≤ (u1 + d3) := by omega
      rw [Int.max_eq_left g] at e
      obtain rfl : h5 = -v1 + u1 + d3 := by omega
      clear e g
      intro U5 e
      have g : ((-v1 + u1 + d3) + v0) ≤ (u1 + d3) := by omega
      rw [Int.max_eq_left g] at e
      obtain rfl : U5 = u1 - d1 + d3 := by omega
      clear e g
      intro D5 e
      have g : (u1 + d3) ≤ ((-v1 + u1 + d3) + (v2 + u2 - u3 - d2 + d3)) := by omega
      rw [Int.max_eq_right g] at e
      obtain rfl : D5 = -v1 + v2 + u1 - u3 + d3 := by omega
      clear e g
      intro V5 e
      have g : (d3 + u1) ≤ ((u1 - d1 + d3) + (-v1 + v2 + u1 - u3 + d3)) := by omega
      rw [Int.max_eq_left g] at e
      obtain rfl : V5 = v2 + u1 - u3 - d1 + d3 := by omega
      clear e g
      intro h6 e
      have g : (u1 + (u2 - u3 + d3)) ≤ ((-v1 + v2 + u1 - u3 + d3) + u2) := by omega
      rw [Int.max_eq_right g] at e
      obtain rfl : h6 = -v1 + u1 + d2 := by omega
      clear e g
      intro U6 e
      have g : (u1 + (u2 - u3 + d3)) ≤ ((-v1 + u1 + d2) + (v2 + u1 - u3 - d1 + d3)) := by omega
      rw [Int.max_eq_right g] at e
      obtain rfl : U6 = u1 - d1 + d2 := by omega
      clear e g
      intro D6 e
      have g : (u1 + (u2 - u3 + d3)) ≤ ((-v1 + u1 + d2) + v3) := by omega
      rw [Int.max_eq_right g] at e
      obtain rfl : D6 = -v1 + v3 + u1 - u2 + d2 := by omega
      clear e g
      intro V6 e
      have g : ((u2 - u3 + d3) + u1) ≤ ((u1 - d1 + d2) + (-v1 + v3 + u1 - u2 + d2)) := by omega
      rw [Int.max_eq_left g] at e
      obtain rfl : V6 = v3 + u1 - u2 - d1 + d2 := by omega
      clear e g
      exact ⟨rfl, rfl, rfl, rfl, rfl, rfl⟩
    · rw [Int.max_eq_right g] at e
      obtain rfl : U4 = v1 - v2 + u3 := by omega
      clear e
      intro D4 e
      have g : ((-v2 + u3 + d2) + v3) ≤ (u2 + d3) := by omega
      rw [Int.max_eq_left g] at e
      obtain rfl : D4 = u2 - u3 + d3 := by omega
      clear e g
      intro V4 e
      have g : ((v1 - v2 + u3) + (u2 - u3 + d3)) ≤ (d3 + u2) := by omega
      rw [Int.max_eq_right g] at e
      obtain rfl : V4 = v2 + u2 - u3 - d2 + d3 := by omega
      clear e g
      intro h5 e
      rcases Int.le_total (d1 + (v1 - v2 + u3)) (u1 + d3) with g | g
      · rw [Int.max_eq_left g] at e
        obtain rfl : h5 = -v1 + u1 + d3 := by omega
        clear e
        intro U5 e
        have g : ((-v1 + u1 + d3) + v0) ≤ (u1 + d3) := by omega
        rw [Int.max_eq_left g] at e
        obtain rfl : U5 = u1 - d1 + d3 := by omega
        clear e g
        intro D5 e
        have g : ((-v1 + u1 + d3) + (v2 + u2 - u3 - d2 + d3)) ≤ (u1 + d3) := by omega
        rw [Int.max_eq_left g] at e
        obtain rfl : D5 = -v1 + v2 + u1 - u3 + d3 := by omega
        clear e g
        intro V5 e
        have g : (d3 + u1) ≤ ((u1 - d1 + d3) + (-v1 + v2 + u1 - u3 + d3)) := by omega
        rw [Int.max_eq_left g] at e
        obtain rfl : V5 = v2 + u1 - u3 - d1 + d3 := by omega
        clear e g
        intro h6 e
        have g : (u1 + (u2 - u3 + d3)) ≤ ((-v1 + v2 + u1 - u3 + d3) + u2) := by omega
        rw [Int.max_eq_right g] at e
        obtain rfl : h6 = -v1 + u1 + d2 := by omega
        clear e g
        intro U6 e
        have g : (u1 + (u2 - u3 + d3)) ≤ ((-v1 + u1 + d2) + (v2 + u1 - u3 - d1 + d3)) := by omega
        rw [Int.max_eq_right g] at e
        obtain rfl : U6 = u1 - d1 + d2 := by omega
        clear e g
        intro D6 e
        have g : (u1 + (u2 - u3 + d3)) ≤ ((-v1 + u1 + d2) + v3) := by omega
        rw [Int.max_eq_right g] at e
        obtain rfl : D6 = -v1 + v3 + u1 - u2 + d2 := by omega
        clear e g
        intro V6 e
        have g : ((u2 - u3 + d3) + u1) ≤ ((u1 - d1 + d2) + (-v1 + v3 + u1 - u2 + d2)) := by omega
        rw [Int.max_eq_left g] at e
        obtain rfl : V6 = v3 + u1 - u2 - d1 + d2 := by omega
        clear e g
        exact ⟨rfl, rfl, rfl, rfl, rfl, rfl⟩
      · rw [Int.max_eq_right g] at e
        obtain rfl : h5 = -v2 + u3 + d1 := by omega
        clear e
        intro U5 e
        have g : ((-v2 + u3 + d1) + v0) ≤ (u1 + d3) := by omega
        rw [Int.max_eq_left g] at e
        obtain rfl : U5 = u1 - d1 + d3 := by omega
        clear e g
        intro D5 e
        have g : ((-v2 + u3 + d1) + (v2 + u2 - u3 - d2 + d3)) ≤ (u1 + d3) := by omega
        rw [Int.max_eq_left g] at e
        obtain rfl : D5 = -v1 + v2 + u1 - u3 + d3 := by omega
        clear e g
        intro V5 e
        have g : ((u1 - d1 + d3) + (-v1 + v2 + u1 - u3 + d3)) ≤ (d3 + u1) := by omega
        rw [Int.max_eq_right g] at e
        obtain rfl : V5 = v2 + u1 - u3 - d1 + d3 := by omega
        clear e g
        intro h6 e
        have g : (u1 + (u2 - u3 + d3)) ≤ ((-v1 + v2 + u1 - u3 + d3) + u2) := by omega
        rw [Int.max_eq_right g] at e
        obtain rfl : h6 = -v1 + u1 + d2 := by omega
        clear e g
        intro U6 e
        have g : (u1 + (u2 - u3 + d3)) ≤ ((-v1 + u1 + d2) + (v2 + u1 - u3 - d1 + d3)) := by omega
        rw [Int.max_eq_right g] at e
        obtain rfl : U6 = u1 - d1 + d2 := by omega
        clear e g
        intro D6 e
        have g : (u1 + (u2 - u3 + d3)) ≤ ((-v1 + u1 + d2) + v3) := by omega
        rw [Int.max_eq_right g] at e
        obtain rfl : D6 = -v1 + v3 + u1 - u2 + d2 := by omega
        clear e g
        intro V6 e
        have g : ((u2 - u3 + d3) + u1) ≤ ((u1 - d1 + d2) + (-v1 + v3 + u1 - u2 + d2)) := by omega
        rw [Int.max_eq_left g] at e
        obtain rfl : V6 = v3 + u1 - u2 - d1 + d2 := by omega
        clear e g
        exact ⟨rfl, rfl, rfl, rfl, rfl, rfl⟩
  · rw [Int.max_eq_right g] at e
    obtain rfl : D3 = -v2 + v3 + d2 := by omega
    clear e
    intro V3 e
    rcases Int.le_total (d3 + (u1 - d1 + d2)) ((u1 - d1 + d3) + (-v2 + v3 + d2)) with g | g
    · rw [Int.max_eq_left g] at e
      obtain rfl : V3 = v3 + u1 - u3 - d1 + d3 := by omega
      clear e
      intro h4 e
      have g : (u2 + d3) ≤ (d2 + u3) := by omega
      rw [Int.max_eq_right g] at e
      obtain rfl : h4 = -v2 + u3 + d2 := by omega
      clear e g
      intro U4 e
      rcases Int.le_total ((-v2 + u3 + d2) + v1) (u2 + d3) with g | g
      · rw [Int.max_eq_left g] at e
        obtain rfl : U4 = u2 - d2 + d3 := by omega
        clear e
        intro D4 e
        have g : (u2 + d3) ≤ ((-v2 + u3 + d2) + v3) := by omega
        rw [Int.max_eq_right g] at e
        obtain rfl : D4 = -v2 + v3 + d2 := by omega
        clear e g
        intro V4 e
        have g : (d3 + u2) ≤ ((u2 - d2 + d3) + (-v2 + v3 + d2)) := by omega
        rw [Int.max_eq_left g] at e
        obtain rfl : V4 = v3 + u2 - u3 - d2 + d3 := by omega
        clear e g
        intro h5 e
        have g : (d1 + (u2 - d2 + d3)) ≤ (u1 + d3) := by omega
        rw [Int.max_eq_left g] at e
        obtain rfl : h5 = -v1 + u1 + d3 := by omega
        clear e g
        intro U5 e
        have g : ((-v1 + u1 + d3) + v0) ≤ (u1 + d3) := by omega
        rw [Int.max_eq_left g] at e
        obtain rfl : U5 = u1 - d1 + d3 := by omega
        clear e g
        intro D5 e
        have g : (u1 + d3) ≤ ((-v1 + u1 + d3) + (v3 + u2 - u3 - d2 + d3)) := by omega
        rw [Int.max_eq_right g] at e
        obtain rfl : D5 = -v1 + v3 + u1 - u3 + d3 := by omega
        clear e g
        intro V5 e
        have g : (d3 + u1) ≤ ((u1 - d1 + d3) + (-v1 + v3 + u1 - u3 + d3)) := by omega
        rw [Int.max_eq_left g] at e
        obtain rfl : V5 = v3 + u1 - u3 - d1 + d3 := by omega
        clear e g
        intro h6 e
        have g : (u1 + (-v2 + v3 + d2)) ≤ ((-v1 + v3 + u1 - u3 + d3) + u2) := by omega
        rw [Int.max_eq_right g] at e
        obtain rfl : h6 = -v1 + u1 + d2 := by omega
        clear e g
        intro U6 e
        have g : (u1 + (-v2 + v3 + d2)) ≤ ((-v1 + u1 + d2) + (v3 + u1 - u3 - d1 + d3)) := by omega
        rw [Int.max_eq_right g] at e
        obtain rfl : U6 = u1 - d1 + d2 := by omega
        clear e g
        intro D6 e
        have g : (u1 + (-v2 + v3 + d2)) ≤ ((-v1 + u1 + d2) + v3) := by omega
        rw [Int.max_eq_right g] at e
        obtain rfl : D6 = -v1 + v3 + u1 - u2 + d2 := by omega
        clear e g
        intro V6 e
        have g : ((-v2 + v3 + d2) + u1) ≤ ((u1 - d1 + d2) + (-v1 + v3 + u1 - u2 + d2)) := by omega
        rw [Int.max_eq_left g] at e
        obtain rfl : V6 = v3 + u1 - u2 - d1 + d2 := by omega
        clear e g
        exact ⟨rfl, rfl, rfl, rfl, rfl, rfl⟩
      · rw [Int.max_eq_right g] at e
        obtain rfl : U4 = v1 - v2 + u3 := by omega
        clear e
        intro D4 e
        have g : (u2 + d3) ≤ ((-v2 + u3 + d2) + v3) := by omega
        rw [Int.max_eq_right g] at e
        obtain rfl : D4 = -v2 + v3 + d2 := by omega
        clear e g
        intro V4 e
        have g : (d3 + u2) ≤ ((v1 - v2 + u3) + (-v2 + v3 + d2)) := by omega
        rw [Int.max_eq_left g] at e
        obtain rfl : V4 = v1 - v2 + v3 := by omega
        clear e g
        intro h5 e
        rcases Int.le_total (d1 + (v1 - v2 + u3)) (u1 + d3) with g | g
        · rw [Int.max_eq_left g] at e
          obtain rfl : h5 = -v1 + u1 + d3 := by omega
          clear e
          intro U5 e
          have g : ((-v1 + u1 + d3) + v0) ≤ (u1 + d3) := by omega
          rw [Int.max_eq_left g] at e
          obtain rfl : U5 = u1 - d1 + d3 := by omega
          clear e g
          intro D5 e
          have g : (u1 + d3) ≤ ((-v1 + u1 + d3) + (v1 - v2 + v3)) := by omega
          rw [Int.max_eq_right g] at e
          obtain rfl : D5 = -v1 + v3 + u1 - u3 + d3 := by omega
          clear e g
          intro V5 e
          have g : (d3 + u1) ≤ ((u1 - d1 + d3) + (-v1 + v3 + u1 - u3 + d3)) := by omega
          rw [Int.max_eq_left g] at e
          obtain rfl : V5 = v3 + u1 - u3 - d1 + d3 := by omega
          clear e g
          intro h6 e
          have g : ((-v1 + v3 + u1 - u3 + d3) + u2) ≤ (u1 + (-v2 + v3 + d2)) := by omega
          rw [Int.max_eq_left g] at e
          obtain rfl : h6 = -v1 + u1 + d2 := by omega
          clear e g
          intro U6 e
          have g : (u1 + (-v2 + v3 + d2)) ≤ ((-v1 + u1 + d2) + (v3 + u1 - u3 - d1 + d3)) := by omega
          rw [Int.max_eq_right g] at e
          obtain rfl : U6 = u1 - d1 + d2 := by omega
          clear e g
          intro D6 e
          have g : (u1 + (-v2 + v3 + d2)) ≤ ((-v1 + u1 + d2) + v3) := by omega
          rw [Int.max_eq_right g] at e
          obtain rfl : D6 = -v1 + v3 + u1 - u2 + d2 := by omega
          clear e g
          intro V6 e
          have g : ((-v2 + v3 + d2) + u1) ≤ ((u1 - d1 + d2) + (-v1 + v3 + u1 - u2 + d2)) := by omega
          rw [Int.max_eq_left g] at e
          obtain rfl : V6 = v3 + u1 - u2 - d1 + d2 := by omega
          clear e g
          exact ⟨rfl, rfl, rfl, rfl, rfl, rfl⟩
        · rw [Int.max_eq_right g] at e
          obtain rfl : h5 = -v2 + u3 + d1 := by omega
          clear e
          intro U5 e
          have g : ((-v2 + u3 + d1) + v0) ≤ (u1 + d3) := by omega
          rw [Int.max_eq_left g] at e
          obtain rfl : U5 = u1 - d1 + d3 := by omega
          clear e g
          intro D5 e
          have g : (u1 + d3) ≤ ((-v2 + u3 + d1) + (v1 - v2 + v3)) := by omega
          rw [Int.max_eq_right g] at e
          obtain rfl : D5 = -v2 + v3 + d1 := by omega
          clear e g
          intro V5 e
          have g : (d3 + u1) ≤ ((u1 - d1 + d3) + (-v2 + v3 + d1)) := by omega
          rw [Int.max_eq_left g] at e
          obtain rfl : V5 = v3 + u1 - u3 - d1 + d3 := by omega
          clear e g
          intro h6 e
          have g : ((-v2 + v3 + d1) + u2) ≤ (u1 + (-v2 + v3 + d2)) := by omega
          rw [Int.max_eq_left g] at e
          obtain rfl : h6 = -v1 + u1 + d2 := by omega
          clear e g
          intro U6 e
          have g : ((-v1 + u1 + d2) + (v3 + u1 - u3 - d1 + d3)) ≤ (u1 + (-v2 + v3 + d2)) := by omega
          rw [Int.max_eq_left g] at e
          obtain rfl : U6 = u1 - d1 + d2 := by omega
          clear e g
          intro D6 e
          have g : (u1 + (-v2 + v3 + d2)) ≤ ((-v1 + u1 + d2) + v3) := by omega
          rw [Int.max_eq_right g] at e
          obtain rfl : D6 = -v1 + v3 + u1 - u2 + d2 := by omega
          clear e g
          intro V6 e
          have g : ((-v2 + v3 + d2) + u1) ≤ ((u1 - d1 + d2) + (-v1 + v3 + u1 - u2 + d2)) := by omega
          rw [Int.max_eq_left g] at e
          obtain rfl : V6 = v3 + u1 - u2 - d1 + d2 := by omega
          clear e g
          exact ⟨rfl, rfl, rfl, rfl, rfl, rfl⟩
    · rw [Int.max_eq_right g] at e
      obtain rfl : V3 = v2 + u1 - u3 - d1 + d3 := by omega
      clear e
      intro h4 e
      have g : (u2 + d3) ≤ (d2 + u3) := by omega
      rw [Int.max_eq_right g] at e
      obtain rfl : h4 = -v2 + u3 + d2 := by omega
      clear e g
      intro U4 e
      rcases Int.le_total ((-v2 + u3 + d2) + v1) (u2 + d3) with g | g
      · rw [Int.max_eq_left g] at e
        obtain rfl : U4 = u2 - d2 + d3 := by omega
        clear e
        intro D4 e
        have g : (u2 + d3) ≤ ((-v2 + u3 + d2) + v3) := by omega
        rw [Int.max_eq_right g] at e
        obtain rfl : D4 = -v2 + v3 + d2 := by omega
        clear e g
        intro V4 e
        have g : ((u2 - d2 + d3) + (-v2 + v3 + d2)) ≤ (d3 + u2) := by omega
        rw [Int.max_eq_right g] at e
        obtain rfl : V4 = v2 + u2 - u3 - d2 + d3 := by omega
        clear e g
        intro h5 e
        have g : (d1 + (u2 - d2 + d3)) ≤ (u1 + d3) := by omega
        rw [Int.max_eq_left g] at e
        obtain rfl : h5 = -v1 + u1 + d3 := by omega
        clear e g
        intro U5 e
        have g : ((-v1 + u1 + d3) + v0) ≤ (u1 + d3) := by omega
        rw [Int.max_eq_left g] at e
        obtain rfl : U5 = u1 - d1 + d3 := by omega
        clear e g
        intro D5 e
        have g : (u1 + d3) ≤ ((-v1 + u1 + d3) + (v2 + u2 - u3 - d2 + d3)) := by omega
        rw [Int.max_eq_right g] at e
        obtain rfl : D5 = -v1 + v2 + u1 - u3 + d3 := by omega
        clear e g
        intro V5 e
        have g : (d3 + u1) ≤ ((u1 - d1 + d3) + (-v1 + v2 + u1 - u3 + d3)) := by omega
        rw [Int.max_eq_left g] at e
        obtain rfl : V5 = v2 + u1 - u3 - d1 + d3 := by omega
        clear e g
        intro h6 e
        have g : (u1 + (-v2 + v3 + d2)) ≤ ((-v1 + v2 + u1 - u3 + d3) + u2) := by omega
        rw [Int.max_eq_right g] at e
        obtain rfl : h6 = -v1 + u1 + d2 := by omega
        clear e g
        intro U6 e
        have g : (u1 + (-v2 + v3 + d2)) ≤ ((-v1 + u1 + d2) + (v2 + u1 - u3 - d1 + d3)) := by omega
        rw [Int.max_eq_right g] at e
        obtain rfl : U6 = u1 - d1 + d2 := by omega
        clear e g
        intro D6 e
        have g : (u1 + (-v2 + v3 + d2)) ≤ ((-v1 + u1 + d2) + v3) := by omega
        rw [Int.max_eq_right g] at e
        obtain rfl : D6 = -v1 + v3 + u1 - u2 + d2 := by omega
        clear e g
        intro V6 e
        have g : ((-v2 + v3 + d2) + u1) ≤ ((u1 - d1 + d2) + (-v1 + v3 + u1 - u2 + d2)) := by omega
        rw [Int.max_eq_left g] at e
        obtain rfl : V6 = v3 + u1 - u2 - d1 + d2 := by omega
        clear e g
        exact ⟨rfl, rfl, rfl, rfl, rfl, rfl⟩
      · rw [Int.max_eq_right g] at e
        obtain rfl : U4 = v1 - v2 + u3 := by omega
        clear e
        intro D4 e
        have g : (u2 + d3) ≤ ((-v2 + u3 + d2) + v3) := by omega
        rw [Int.max_eq_right g] at e
        obtain rfl : D4 = -v2 + v3 + d2 := by omega
        clear e g
        intro V4 e
        rcases Int.le_total (d3 + u2) ((v1 - v2 + u3) + (-v2 + v3 + d2)) with g | g
        · rw [Int.max_eq_left g] at e
          obtain rfl : V4 = v1 - v2 + v3 := by omega
          clear e
          intro h5 e
          rcases Int.le_total (d1 + (v1 - v2 + u3)) (u1 + d3) with g | g
          · rw [Int.max_eq_left g] at e
            obtain rfl : h5 = -v1 + u1 + d3 := by omega
            clear e
            intro U5 e
            have g : ((-v1 + u1 + d3) + v0) ≤ (u1 + d3) := by omega
            rw [Int.max_eq_left g] at e
            obtain rfl : U5 = u1 - d1 + d3 := by omega
            clear e g
            intro D5 e
            have g : ((-v1 + u1 + d3) + (v1 - v2 + v3)) ≤ (u1 + d3) := by omega
            rw [Int.max_eq_left g] at e
            obtain rfl : D5 = -v1 + v2 + u1 - u3 + d3 := by omega
            clear e g
            intro V5 e
            have g : (d3 + u1) ≤ ((u1 - d1 + d3) + (-v1 + v2 + u1 - u3 + d3)) := by omega
            rw [Int.max_eq_left g] at e
            obtain rfl : V5 = v2 + u1 - u3 - d1 + d3 := by omega
            clear e g
            intro h6 e
            have g : ((-v1 + v2 + u1 - u3 + d3) + u2) ≤ (u1 + (-v2 + v3 + d2)) := by omega
            rw [Int.max_eq_left g] at e
            obtain rfl : h6 = -v1 + u1 + d2 := by omega
            clear e g
            intro U6 e
            have g : (u1 + (-v2 + v3 + d2)) ≤ ((-v1 + u1 + d2) + (v2 + u1 - u3 - d1 + d3)) := by omega
            rw [Int.max_eq_right g] at e
            obtain rfl : U6 = u1 - d1 + d2 := by omega
            clear e g
            intro D6 e
            have g : (u1 + (-v2 + v3 + d2)) ≤ ((-v1 + u1 + d2) + v3) := by omega
            rw [Int.max_eq_right g] at e
            obtain rfl : D6 = -v1 + v3 + u1 - u2 + d2 := by omega
            clear e g
            intro V6 e
            have g : ((-v2 + v3 + d2) + u1) ≤ ((u1 - d1 + d2) + (-v1 + v3 + u1 - u2 + d2)) := by omega
            rw [Int.max_eq_left g] at e
            obtain rfl : V6 = v3 + u1 - u2 - d1 + d2 := by omega
            clear e g
            exact ⟨rfl, rfl, rfl, rfl, rfl, rfl⟩
          · rw [Int.max_eq_right g] at e
            obtain rfl : h5 = -v2 + u3 + d1 := by omega
            clear e
            intro U5 e
            have g : ((-v2 + u3 + d1) + v0) ≤ (u1 + d3) := by omega
            rw [Int.max_eq_left g] at e
            obtain rfl : U5 = u1 - d1 + d3 := by omega
            clear e g
            intro D5 e
            rcases Int.le_total ((-v2 + u3 + d1) + (v1 - v2 + v3)) (u1 + d3) with g | g
            · rw [Int.max_eq_left g] at e
              obtain rfl : D5 = -v1 + v2 + u1 - u3 + d3 := by omega
              clear e
              intro V5 e
              have g : ((u1 - d1 + d3) + (-v1 + v2 + u1 - u3 + d3)) ≤ (d3 + u1) := by omega
              rw [Int.max_eq_right g] at e
              obtain rfl : V5 = v2 + u1 - u3 - d1 + d3 := by omega
              clear e g
              intro h6 e
              have g : ((-v1 + v2 + u1 - u3 + d3) + u2) ≤ (u1 + (-v2 + v3 + d2)) := by omega
              rw [Int.max_eq_left g] at e
              obtain rfl : h6 = -v1 + u1 + d2 := by omega
              clear e g
              intro U6 e
              have g : (u1 + (-v2 + v3 + d2)) ≤ ((-v1 + u1 + d2) + (v2 + u1 - u3 - d1 + d3)) := by omega
              rw [Int.max_eq_right g] at e
              obtain rfl : U6 = u1 - d1 + d2 := by omega
              clear e g
              intro D6 e
              have g : (u1 + (-v2 + v3 + d2)) ≤ ((-v1 + u1 + d2) + v3) := by omega
              rw [Int.max_eq_right g] at e
              obtain rfl : D6 = -v1 + v3 + u1 - u2 + d2 := by omega
              clear e g
              intro V6 e
              have g : ((-v2 + v3 + d2) + u1) ≤ ((u1 - d1 + d2) + (-v1 + v3 + u1 - u2 + d2)) := by omega
              rw [Int.max_eq_left g] at e
              obtain rfl : V6 = v3 + u1 - u2 - d1 + d2 := by omega
              clear e g
              exact ⟨rfl, rfl, rfl, rfl, rfl, rfl⟩
            · rw [Int.max_eq_right g] at e
              obtain rfl : D5 = -v2 + v3 + d1 := by omega
              clear e
              intro V5 e
              have g : ((u1 - d1 + d3) + (-v2 + v3 + d1)) ≤ (d3 + u1) := by omega
              rw [Int.max_eq_right g] at e
              obtain rfl : V5 = v2 + u1 - u3 - d1 + d3 := by omega
              clear e g
              intro h6 e
              have g : ((-v2 + v3 + d1) + u2) ≤ (u1 + (-v2 + v3 + d2)) := by omega
              rw [Int.max_eq_left g] at e
              obtain rfl : h6 = -v1 + u1 + d2 := by omega
              clear e g
              intro U6 e
              have g : ((-v1 + u1 + d2) + (v2 + u1 - u3 - d1 + d3)) ≤ (u1 + (-v2 + v3 + d2)) := by omega
              rw [Int.max_eq_left g] at e
              obtain rfl : U6 = u1 - d1 + d2 := by omega
              clear e g
              intro D6 e
              have g : (u1 + (-v2 + v3 + d2)) ≤ ((-v1 + u1 + d2) + v3) := by omega
              rw [Int.max_eq_right g] at e
              obtain rfl : D6 = -v1 + v3 + u1 - u2 + d2 := by omega
              clear e g
              intro V6 e
              have g : ((-v2 + v3 + d2) + u1) ≤ ((u1 - d1 + d2) + (-v1 + v3 + u1 - u2 + d2)) := by omega
              rw [Int.max_eq_left g] at e
              obtain rfl : V6 = v3 + u1 - u2 - d1 + d2 := by omega
              clear e g
              exact ⟨rfl, rfl, rfl, rfl, rfl, rfl⟩
        · rw [Int.max_eq_right g] at e
          obtain rfl : V4 = v2 + u2 - u3 - d2 + d3 := by omega
          clear e
          intro h5 e
          rcases Int.le_total (d1 + (v1 - v2 + u3)) (u1 + d3) with g | g
          · rw [Int.max_eq_left g] at e
            obtain rfl : h5 = -v1 + u1 + d3 := by omega
            clear e
            intro U5 e
            have g : ((-v1 + u1 + d3) + v0) ≤ (u1 + d3) := by omega
            rw [Int.max_eq_left g] at e
            obtain rfl : U5 = u1 - d1 + d3 := by omega
            clear e g
            intro D5 e
            have g : ((-v1 + u1 + d3) + (v2 + u2 - u3 - d2 + d3)) ≤ (u1 + d3) := by omega
            rw [Int.max_eq_left g] at e
            obtain rfl : D5 = -v1 + v2 + u1 - u3 + d3 := by omega
            clear e g
            intro V5 e
            have g : (d3 + u1) ≤ ((u1 - d1 + d3) + (-v1 + v2 + u1 - u3 + d3)) := by omega
            rw [Int.max_eq_left g] at e
            obtain rfl : V5 = v2 + u1 - u3 - d1 + d3 := by omega
            clear e g
            intro h6 e
            have g : (u1 + (-v2 + v3 + d2)) ≤ ((-v1 + v2 + u1 - u3 + d3) + u2) := by omega
            rw [Int.max_eq_right g] at e
            obtain rfl : h6 = -v1 + u1 + d2 := by omega
            clear e g
            intro U6 e
            have g : (u1 + (-v2 + v3 + d2)) ≤ ((-v1 + u1 + d2) + (v2 + u1 - u3 - d1 + d3)) := by omega
            rw [Int.max_eq_right g] at e
            obtain rfl : U6 = u1 - d1 + d2 := by omega
            clear e g
            intro D6 e
            have g : (u1 + (-v2 + v3 + d2)) ≤ ((-v1 + u1 + d2) + v3) := by omega
            rw [Int.max_eq_right g] at e
            obtain rfl : D6 = -v1 + v3 + u1 - u2 + d2 := by omega
            clear e g
            intro V6 e
            have g : ((-v2 + v3 + d2) + u1) ≤ ((u1 - d1 + d2) + (-v1 + v3 + u1 - u2 + d2)) := by omega
            rw [Int.max_eq_left g] at e
            obtain rfl : V6 = v3 + u1 - u2 - d1 + d2 := by omega
            clear e g
            exact ⟨rfl, rfl, rfl, rfl, rfl, rfl⟩
          · rw [Int.max_eq_right g] at e
            obtain rfl : h5 = -v2 + u3 + d1 := by omega
            clear e
            intro U5 e
            have g : ((-v2 + u3 + d1) + v0) ≤ (u1 + d3) := by omega
            rw [Int.max_eq_left g] at e
            obtain rfl : U5 = u1 - d1 + d3 := by omega
            clear e g
            intro D5 e
            have g : ((-v2 + u3 + d1) + (v2 + u2 - u3 - d2 + d3)) ≤ (u1 + d3) := by omega
            rw [Int.max_eq_left g] at e
            obtain rfl : D5 = -v1 + v2 + u1 - u3 + d3 := by omega
            clear e g
            intro V5 e
            have g : ((u1 - d1 + d3) + (-v1 + v2 + u1 - u3 + d3)) ≤ (d3 + u1) := by omega
            rw [Int.max_eq_right g] at e
            obtain rfl : V5 = v2 + u1 - u3 - d1 + d3 := by omega
            clear e g
            intro h6 e
            have g : (u1 + (-v2 + v3 + d2)) ≤ ((-v1 + v2 + u1 - u3 + d3) + u2) := by omega
            rw [Int.max_eq_right g] at e
            obtain rfl : h6 = -v1 + u1 + d2 := by omega
            clear e g
            intro U6 e
            have g : (u1 + (-v2 + v3 + d2)) ≤ ((-v1 + u1 + d2) + (v2 + u1 - u3 - d1 + d3)) := by omega
            rw [Int.max_eq_right g] at e
            obtain rfl : U6 = u1 - d1 + d2 := by omega
            clear e g
            intro D6 e
            have g : (u1 + (-v2 + v3 + d2)) ≤ ((-v1 + u1 + d2) + v3) := by omega
            rw [Int.max_eq_right g] at e
            obtain rfl : D6 = -v1 + v3 + u1 - u2 + d2 := by omega
            clear e g
            intro V6 e
            have g : ((-v2 + v3 + d2) + u1) ≤ ((u1 - d1 + d2) + (-v1 + v3 + u1 - u2 + d2)) := by omega
            rw [Int.max_eq_left g] at e
            obtain rfl : V6 = v3 + u1 - u2 - d1 + d2 := by omega
            clear e g
            exact ⟨rfl, rfl, rfl, rfl, rfl, rfl⟩
set_option maxHeartbeats 4000000 in
set_option maxRecDepth 100000 in
theorem dy_c8 (v0 v1 v2 v3 u1 u2 u3 d1 d2 d3 : Int) (g0 : u2 + d1 ≤ u1 + d2) (g1 : v0 ≤ v1) (g2 : v1 ≤ v2) (g3 : v1 + u2 + d3 ≤ v2 + u3 + d2) (g4 : v1 + u2 + d3 ≤ v3 + u3 + d2) (g5 : u2 + d3 ≤ u3 + d2) (g6 : v2 + u1 + d3 ≤ v0 + u3 + d1) : ∀ D3 : Int, D3 = max ((u1 - d1 + d2) + d3) ((-v2 + u3 + d2) + (v3 + u1 - u2 - d1 + d2)) - (u1 - u2 + u3 - d1 + d2) → ∀ V3 : Int, V3 = max ((v0 - v2 + u3) + D3) (d3 + (u1 - d1 + d2)) - (-v2 + u3 + d2) → ∀ h4 : Int, h4 = max (u2 + d3) (d2 + u3) - v2 → ∀ U4 : Int, U4 = max (u2 + d3) (h4 + v1) - d2 → ∀ D4 : Int, D4 = max (u2 + d3) (h4 + v3) - u3 → ∀ V4 : Int, V4 = max (U4 + D4) (d3 + u2) - h4 → ∀ h5 : Int, h5 = max (u1 + d3) (d1 + U4) - v1 → ∀ U5 : Int, U5 = max (u1 + d3) (h5 + v0) - d1 → ∀ D5 : Int, D5 = max (u1 + d3) (h5 + V4) - U4 → ∀ V5 : Int, V5 = max (U5 + D5) (d3 + u1) - h5 → ∀ h6 : Int, h6 = max (u1 + D4) (D5 + u2) - V4 → ∀ U6 : Int, U6 = max (u1 + D4) (h6 + V5) - D5 → ∀ D6 : Int, D6 = max (u1 + D4) (h6 + v3) - u2 → ∀ V6 : Int, V6 = max (U6 + D6) (D4 + u1) - h6 → V3 = V5 ∧ (v0 - v2 + u3) = U5 ∧ (v3 + u1 - u2 - d1 + d2) = V6 ∧ (u1 - d1 + d2) = U6 ∧ D3 = D4 ∧ (-v1 + v3 + u1 - u2 + d2) = D6 := by
  intro D3 e
  rcases Int.le_total ((-v2 + u3 + d2) + (v3 + u1 - u2 - d1 + d2)) ((u1 - d1 + d2) + d3) with g | g
  · rw [Int.max_eq_left g] at e
    obtain rfl : D3 = u2 - u3 + d3 := by omega
    clear e
    intro V3 e
    have g : ((v0 - v2 + u3) + (u2 - u3 + d3)) ≤ (d3 + (u1 - d1 + d2)) := by omega
    rw [Int.max_eq_right g] at e
    obtain rfl : V3 = v2 + u1 - u3 - d1 + d3 := by omega
    clear e g
    intro h4 e
    have g : (u2 + d3) ≤ (d2 + u3) := by omega
    rw [Int.max_eq_right g] at e
    obtain rfl : h4 = -v2 + u3 + d2 := by omega
    clear e g
    intro U4 e
    have g : (u2 + d3) ≤ ((-v2 + u3 + d2) + v1) := by omega
    rw [Int.max_eq_right g] at e
    obtain rfl : U4 = v1 - v2 + u3 := by omega
    clear e g
    intro D4 e
    have g : ((-v2 + u3 + d2) + v3) ≤ (u2 + d3) := by omega
    rw [Int.max_eq_left g] at e
    obtain rfl : D4 = u2 - u3 + d3 := by omega
    clear e g
    intro V4 e
    have g : ((v1 - v2 + u3) + (u2 - u3 + d3)) ≤ (d3 + u2) := by omega
    rw [Int.max_eq_right g] at e
    obtain rfl : V4 = v2 + u2 - u3 - d2 + d3 := by omega
    clear e g
    intro h5 e
    have g : (u1 + d3) ≤ (d1 + (v1 - v2 + u3)) := by omega
    rw [Int.max_eq_right g] at e
    obtain rfl : h5 = -v2 + u3 + d1 := by omega
    clear e g
    intro U5 e
    have g : (u1 + d3) ≤ ((-v2 + u3 + d1) + v0) := by omega
    rw [Int.max_eq_right g] at e
    obtain rfl : U5 = v0 - v2 + u3 := by omega
    clear e g
    intro D5 e
    have g : ((-v2 + u3 + d1) + (v2 + u2 - u3 - d2 + d3)) ≤ (u1 + d3) := by omega
    rw [Int.max_eq_left g] at e
    obtain rfl : D5 = -v1 + v2 + u1 - u3 + d3 := by omega
    clear e g
    intro V5 e
    have g : ((v0 - v2 + u3) + (-v1 + v2 + u1 - u3 + d3)) ≤ (d3 + u1) := by omega
    rw [Int.max_eq_right g] at e
    obtain rfl : V5 = v2 + u1 - u3 - d1 + d3 := by omega
    clear e g
    intro h6 e
    have g : (u1 + (u2 - u3 + d3)) ≤ ((-v1 + v2 + u1 - u3 + d3) + u2) := by omega
    rw [Int.max_eq_right g] at e
    obtain rfl : h6 = -v1 + u1 + d2 := by omega
    clear e g
    intro U6 e
    have g : (u1 + (u2 - u3 + d3)) ≤ ((-v1 + u1 + d2) + (v2 + u1 - u3 - d1 + d3)) := by omega
    rw [Int.max_eq_right g] at e
    obtain rfl : U6 = u1 - d1 + d2 := by omega
    clear e g
    intro D6 e
    have g : (u1 + (u2 - u3 + d3)) ≤ ((-v1 + u1 + d2) + v3) := by omega
    rw [Int.max_eq_right g] at e
    obtain rfl : D6 = -v1 + v3 + u1 - u2 + d2 := by omega
    clear e g
    intro V6 e
    have g : ((u2 - u3 + d3) + u1) ≤ ((u1 - d1 + d2) + (-v1 + v3 + u1 - u2 + d2)) := by omega
    rw [Int.max_eq_left g] at e
    obtain rfl : V6 = v3 + u1 - u2 - d1 + d2 := by omega
    clear e g
    exact ⟨rfl, rfl, rfl, rfl, rfl, rfl⟩
  · rw [Int.max_eq_right g] at e
    obtain rfl : D3 = -v2 + v3 + d2 := by omega
    clear e
    intro V3 e
    rcases Int.le_total (d3 + (u1 - d1 + d2)) ((v0 - v2 + u3) + (-v2 + v3 + d2)) with g | g
    · rw [Int.max_eq_left g] at e
      obtain rfl : V3 = v0 - v2 + v3 := by omega
      clear e
      intro h4 e
      have g : (u2 + d3) ≤ (d2 + u3) := by omega
      rw [Int.max_eq_right g] at e
      obtain rfl : h4 = -v2 + u3 + d2 := by omega
      clear e g
      intro U4 e
      have g : (u2 + d3) ≤ ((-v2 + u3 + d2) + v1) := by omega
      rw [Int.max_eq_right g] at e
      obtain rfl : U4 = v1 - v2 + u3 := by omega
      clear e g
      intro D4 e
      have g : (u2 + d3) ≤ ((-v2 + u3 + d2) + v3) := by omega
      rw [Int.max_eq_right g] at e
      obtain rfl : D4 = -v2 + v3 + d2 := by omega
      clear e g
      intro V4 e
      have g : (d3 + u2) ≤ ((v1 - v2 + u3) + (-v2 + v3 + d2)) := by omega
      rw [Int.max_eq_left g] at e
      obtain rfl : V4 = v1 - v2 + v3 := by omega
      clear e g
      intro h5 e
      have g : (u1 + d3) ≤ (d1 + (v1 - v2 + u3)) := by omega
      rw [Int.max_eq_right g] at e
      obtain rfl : h5 = -v2 + u3 + d1 := by omega
      clear e g
      intro U5 e
      have g : (u1 + d3) ≤ ((-v2 + u3 + d1) + v0) := by omega
      rw [Int.max_eq_right g] at e
      obtain rfl : U5 = v0 - v2 + u3 := by omega
      clear e g
      intro D5 e
      have g : (u1 + d3) ≤ ((-v2 + u3 + d1) + (v1 - v2 + v3)) := by omega
      rw [Int.max_eq_right g] at e
      obtain rfl : D5 = -v2 + v3 + d1 := by omega
      clear e g
      intro V5 e
      have g : (d3 + u1) ≤ ((v0 - v2 + u3) + (-v2 + v3 + d1)) := by omega
      rw [Int.max_eq_left g] at e
      obtain rfl : V5 = v0 - v2 + v3 := by omega
      clear e g
      intro h6 e
      have g : ((-v2 + v3 + d1) + u2) ≤ (u1 + (-v2 + v3 + d2)) := by omega
      rw [Int.max_eq_left g] at e
      obtain rfl : h6 = -v1 + u1 + d2 := by omega
      clear e g
      intro U6 e
      have g : ((-v1 + u1 + d2) + (v0 - v2 + v3)) ≤ (u1 + (-v2 + v3 + d2)) := by omega
      rw [Int.max_eq_left g] at e
      obtain rfl : U6 = u1 - d1 + d2 := by omega
      clear e g
      intro D6 e
      have g : (u1 + (-v2 + v3 + d2)) ≤ ((-v1 + u1 + d2) + v3) := by omega
      rw [Int.max_eq_right g] at e
      obtain rfl : D6 = -v1 + v3 + u1 - u2 + d2 := by omega
      clear e g
      intro V6 e
      have g : ((-v2 + v3 + d2) + u1) ≤ ((u1 - d1 + d2) + (-v1 + v3 + u1 - u2 + d2)) := by omega
      rw [Int.max_eq_left g] at e
      obtain rfl : V6 = v3 + u1 - u2 - d1 + d2 := by omega
      clear e g
      exact ⟨rfl, rfl, rfl, rfl, rfl, rfl⟩
    · rw [Int.max_eq_right g] at e
      obtain rfl : V3 = v2 + u1 - u3 - d1 + d3 := by omega
      clear e
      intro h4 e
      have g : (u2 + d3) ≤ (d2 + u3) := by omega
      rw [Int.max_eq_right g] at e
      obtain rfl : h4 = -v2 + u3 + d2 := by omega
      clear e g
      intro U4 e
      have g : (u2 + d3) ≤ ((-v2 + u3 + d2) + v1) := by omega
      rw [Int.max_eq_right g] at e
      obtain rfl : U4 = v1 - v2 + u3 := by omega
      clear e g
      intro D4 e
      have g : (u2 + d3) ≤ ((-v2 + u3 + d2) + v3) := by omega
      rw [Int.max_eq_right g] at e
      obtain rfl : D4 = -v2 + v3 + d2 := by omega
      clear e g
      intro V4 e
      rcases Int.le_total (d3 + u2) ((v1 - v2 + u3) + (-v2 + v3 + d2)) with g | g
      · rw [Int.max_eq_left g] at e
        obtain rfl : V4 = v1 - v2 + v3 := by omega
        clear e
        intro h5 e
        have g : (u1 + d3) ≤ (d1 + (v1 - v2 + u3)) := by omega
        rw [Int.max_eq_right g] at e
        obtain rfl : h5 = -v2 + u3 + d1 := by omega
        clear e g
        intro U5 e
        have g : (u1 + d3) ≤ ((-v2 + u3 + d1) + v0) := by omega
        rw [Int.max_eq_right g] at e
        obtain rfl : U5 = v0 - v2 + u3 := by omega
        clear e g
        intro D5 e
        rcases Int.le_total ((-v2 + u3 + d1) + (v1 - v2 + v3)) (u1 + d3) with g | g
        · rw [Int.max_eq_left g] at e
          obtain rfl : D5 = -v1 + v2 + u1 - u3 + d3 := by omega
          clear e
          intro V5 e
          have g : ((v0 - v2 + u3) + (-v1 + v2 + u1 - u3 + d3)) ≤ (d3 + u1) := by omega
          rw [Int.max_eq_right g] at e
          obtain rfl : V5 = v2 + u1 - u3 - d1 + d3 := by omega
          clear e g
          intro h6 e
          have g : ((-v1 + v2 + u1 - u3 + d3) + u2) ≤ (u1 + (-v2 + v3 + d2)) := by omega
          rw [Int.max_eq_left g] at e
          obtain rfl : h6 = -v1 + u1 + d2 := by omega
          clear e g
          intro U6 e
          have g : (u1 + (-v2 + v3 + d2)) ≤ ((-v1 + u1 + d2) + (v2 + u1 - u3 - d1 + d3)) := by omega
          rw [Int.max_eq_right g] at e
          obtain rfl : U6 = u1 - d1 + d2 := by omega
          clear e g
          intro D6 e
          have g : (u1 + (-v2 + v3 + d2)) ≤ ((-v1 + u1 + d2) + v3) := by omega
          rw [Int.max_eq_right g] at e
          obtain rfl : D6 = -v1 + v3 + u1 - u2 + d2 := by omega
          clear e g
          intro V6 e
          have g : ((-v2 + v3 + d2) + u1) ≤ ((u1 - d1 + d2) + (-v1 + v3 + u1 - u2 + d2)) := by omega
          rw [Int.max_eq_left g] at e
          obtain rfl : V6 = v3 + u1 - u2 - d1 + d2 := by omega
          clear e g
          exact ⟨rfl, rfl, rfl, rfl, rfl, rfl⟩
        · rw [Int.max_eq_right g] at e
          obtain rfl : D5 = -v2 + v3 + d1 := by omega
          clear e
          intro V5 e
          have g : ((v0 - v2 + u3) + (-v2 + v3 + d1)) ≤ (d3 + u1) := by omega
          rw [Int.max_eq_right g] at e
          obtain rfl : V5 = v2 + u1 - u3 - d1 + d3 := by omega
          clear e g
          intro h6 e
          have g : ((-v2 + v3 + d1) + u2) ≤ (u1 + (-v2 + v3 + d2)) := by omega
          rw [Int.max_eq_left g] at e
          obtain rfl : h6 = -v1 + u1 + d2 := by omega
          clear e g
          intro U6 e
          have g : ((-v1 + u1 + d2) + (v2 + u1 - u3 - d1 + d3)) ≤ (u1 + (-v2 + v3 + d2)) := by omega
          rw [Int.max_eq_left g] at e
          obtain rfl : U6 = u1 - d1 + d2 := by omega
          clear e g
          intro D6 e
          have g : (u1 + (-v2 + v3 + d2)) ≤ ((-v1 + u1 + d2) + v3) := by omega
          rw [Int.max_eq_right g] at e
          obtain rfl : D6 = -v1 + v3 + u1 - u2 + d2 := by omega
          clear e g
          intro V6 e
          have g : ((-v2 + v3 + d2) + u1) ≤ ((u1 - d1 + d2) + (-v1 + v3 + u1 - u2 + d2)) := by omega
          rw [Int.max_eq_left g] at e
          obtain rfl : V6 = v3 + u1 - u2 - d1 + d2 := by omega
          clear e g
          exact ⟨rfl, rfl, rfl, rfl, rfl, rfl⟩
      · rw [Int.max_eq_right g] at e
        obtain rfl : V4 = v2 + u2 - u3 - d2 + d3 := by omega
        clear e
        intro h5 e
        have g : (u1 + d3) ≤ (d1 + (v1 - v2 + u3)) := by omega
        rw [Int.max_eq_right g] at e
        obtain rfl : h5 = -v2 + u3 + d1 := by omega
        clear e g
        intro U5 e
        have g : (u1 + d3) ≤ ((-v2 + u3 + d1) + v0) := by omega
        rw [Int.max_eq_right g] at e
        obtain rfl : U5 = v0 - v2 + u3 := by omega
        clear e g
        intro D5 e
        have g : ((-v2 + u3 + d1) + (v2 + u2 - u3 - d2 + d3)) ≤ (u1 + d3) := by omega
        rw [Int.max_eq_left g] at e
        obtain rfl : D5 = -v1 + v2 + u1 - u3 + d3 := by omega
        clear e g
        intro V5 e
        have g : ((v0 - v2 + u3) + (-v1 + v2 + u1 - u3 + d3)) ≤ (d3 + u1) := by omega
        rw [Int.max_eq_right g] at e
        obtain rfl : V5 = v2 + u1 - u3 - d1 + d3 := by omega
        clear e g
        intro h6 e
        have g : (u1 + (-v2 + v3 + d2)) ≤ ((-v1 + v2 + u1 - u3 + d3) + u2) := by omega
        rw [Int.max_eq_right g] at e
        obtain rfl : h6 = -v1 + u1 + d2 := by omega
        clear e g
        intro U6 e
        have g : (u1 + (-v2 + v3 + d2)) ≤ ((-v1 + u1 + d2) + (v2 + u1 - u3 - d1 + d3)) := by omega
        rw [Int.max_eq_right g] at e
        obtain rfl : U6 = u1 - d1 + d2 := by omega
        clear e g
        intro D6 e
        have g : (u1 + (-v2 + v3 + d2)) ≤ ((-v1 + u1 + d2) + v3) := by omega
        rw [Int.max_eq_right g] at e
        obtain rfl : D6 = -v1 + v3 + u1 - u2 + d2 := by omega
        clear e g
        intro V6 e
        have g : ((-v2 + v3 + d2) + u1) ≤ ((u1 - d1 + d2) + (-v1 + v3 + u1 - u2 + d2)) := by omega
        rw [Int.max_eq_left g] at e
        obtain rfl : V6 = v3 + u1 - u2 - d1 + d2 := by omega
        clear e g
        exact ⟨rfl, rfl, rfl, rfl, rfl, rfl⟩
set_option maxHeartbeats 4000000 in
set_option maxRecDepth 100000 in
theorem dy_c9 (v0 v1 v2 v3 u1 u2 u3 d1 d2 d3 : Int) (g0 : u2 + d1 ≤ u1 + d2) (g1 : v1 ≤ v0) (g2 : v2 ≤ v1) : ∀ V1 : Int, V1 = max ((v0 - v1 + u1 - d1 + d2) + (u1 - u2 + d2)) (d2 + u1) - (-v1 + u1 + d2) → ∀ h2 : Int, h2 = max (u1 + d3) ((u1 - u2 + d2) + u3) - v2 → ∀ U2 : Int, U2 = max (u1 + d3) (h2 + V1) - (u1 - u2 + d2) → ∀ D2 : Int, D2 = max (u1 + d3) (h2 + v3) - u3 → ∀ V2 : Int, V2 = max (U2 + D2) (d3 + u1) - h2 → ∀ h3 : Int, h3 = max ((v0 - v1 + u1 - d1 + d2) + d3) (d2 + U2) - V1 → ∀ U3 : Int, U3 = max ((v0 - v1 + u1 - d1 + d2) + d3) (h3 + v0) - d2 → ∀ D3 : Int, D3 = max ((v0 - v1 + u1 - d1 + d2) + d3) (h3 + V2) - U2 → ∀ V3 : Int, V3 = max (U3 + D3) (d3 + (v0 - v1 + u1 - d1 + d2)) - h3 → ∀ h4 : Int, h4 = max (u2 + d3) (d2 + u3) - v2 → ∀ U4 : Int, U4 = max (u2 + d3) (h4 + v1) - d2 → ∀ D4 : Int, D4 = max (u2 + d3) (h4 + v3) - u3 → ∀ V4 : Int, V4 = max (U4 + D4) (d3 + u2) - h4 → ∀ h5 : Int, h5 = max (u1 + d3) (d1 + U4) - v1 → ∀ U5 : Int, U5 = max (u1 + d3) (h5 + v0) - d1 → ∀ D5 : Int, D5 = max (u1 + d3) (h5 + V4) - U4 → ∀ V5 : Int, V5 = max (U5 + D5) (d3 + u1) - h5 → ∀ h6 : Int, h6 = max (u1 + D4) (D5 + u2) - V4 → ∀ U6 : Int, U6 = max (u1 + D4) (h6 + V5) - D5 → ∀ D6 : Int, D6 = max (u1 + D4) (h6 + v3) - u2 → ∀ V6 : Int, V6 = max (U6 + D6) (D4 + u1) - h6 → V3 = V5 ∧ U3 = U5 ∧ V2 = V6 ∧ (v0 - v1 + u1 - d1 + d2) = U6 ∧ D3 = D4 ∧ D2 = D6 := by
  intro V1 e
  have g : (d2 + u1) ≤ ((v0 - v1 + u1 - d1 + d2) + (u1 - u2 + d2)) := by omega
  rw [Int.max_eq_left g] at e
  obtain rfl : V1 = v0 + u1 - u2 - d1 + d2 := by omega
  clear e g
  intro h2 e
  rcases Int.le_total ((u1 - u2 + d2) + u3) (u1 + d3) with g | g
  · rw [Int.max_eq_left g] at e
    obtain rfl : h2 = -v2 + u1 + d3 := by omega
    clear e
    intro U2 e
    have g : (u1 + d3) ≤ ((-v2 + u1 + d3) + (v0 + u1 - u2 - d1 + d2)) := by omega
    rw [Int.max_eq_right g] at e
    obtain rfl : U2 = v0 - v2 + u1 - d1 + d3 := by omega
    clear e g
    intro D2 e
    rcases Int.le_total ((-v2 + u1 + d3) + v3) (u1 + d3) with g | g
    · rw [Int.max_eq_left g] at e
      obtain rfl : D2 = u1 - u3 + d3 := by omega
      clear e
      intro V2 e
      have g : (d3 + u1) ≤ ((v0 - v2 + u1 - d1 + d3) + (u1 - u3 + d3)) := by omega
      rw [Int.max_eq_left g] at e
      obtain rfl : V2 = v0 + u1 - u3 - d1 + d3 := by omega
      clear e g
      intro h3 e
      have g : ((v0 - v1 + u1 - d1 + d2) + d3) ≤ (d2 + (v0 - v2 + u1 - d1 + d3)) := by omega
      rw [Int.max_eq_right g] at e
      obtain rfl : h3 = -v2 + u2 + d3 := by omega
      clear e g
      intro U3 e
      rcases Int.le_total ((-v2 + u2 + d3) + v0) ((v0 - v1 + u1 - d1 + d2) + d3) with g | g
      · rw [Int.max_eq_left g] at e
        obtain rfl : U3 = v0 - v1 + u1 - d1 + d3 := by omega
        clear e
        intro D3 e
        have g : ((v0 - v1 + u1 - d1 + d2) + d3) ≤ ((-v2 + u2 + d3) + (v0 + u1 - u3 - d1 + d3)) := by omega
        rw [Int.max_eq_right g] at e
        obtain rfl : D3 = u2 - u3 + d3 := by omega
        clear e g
        intro V3 e
        have g : (d3 + (v0 - v1 + u1 - d1 + d2)) ≤ ((v0 - v1 + u1 - d1 + d3) + (u2 - u3 + d3)) := by omega
        rw [Int.max_eq_left g] at e
        obtain rfl : V3 = v0 - v1 + v2 + u1 - u3 - d1 + d3 := by omega
        clear e g
        intro h4 e
        have g : (d2 + u3) ≤ (u2 + d3) := by omega
        rw [Int.max_eq_left g] at e
        obtain rfl : h4 = -v2 + u2 + d3 := by omega
        clear e g
        intro U4 e
        have g : (u2 + d3) ≤ ((-v2 + u2 + d3) + v1) := by omega
        rw [Int.max_eq_right g] at e
        obtain rfl : U4 = v1 - v2 + u2 - d2 + d3 := by omega
        clear e g
        intro D4 e
        have g : ((-v2 + u2 + d3) + v3) ≤ (u2 + d3) := by omega
        rw [Int.max_eq_left g] at e
        obtain rfl : D4 = u2 - u3 + d3 := by omega
        clear e g
        intro V4 e
        have g : (d3 + u2) ≤ ((v1 - v2 + u2 - d2 + d3) + (u2 - u3 + d3)) := by omega
        rw [Int.max_eq_left g] at e
        obtain rfl : V4 = v1 + u2 - u3 - d2 + d3 := by omega
        clear e g
        intro h5 e
        have g : (d1 + (v1 - v2 + u2 - d2 + d3)) ≤ (u1 + d3) := by omega
        rw [Int.max_eq_left g] at e
        obtain rfl : h5 = -v1 + u1 + d3 := by omega
        clear e g
        intro U5 e
        have g : (u1 + d3) ≤ ((-v1 + u1 + d3) + v0) := by omega
        rw [Int.max_eq_right g] at e
        obtain rfl : U5 = v0 - v1 + u1 - d1 + d3 := by omega
        clear e g
        intro D5 e
        have g : (u1 + d3) ≤ ((-v1 + u1 + d3) + (v1 + u2 - u3 - d2 + d3)) := by omega
        rw [Int.max_eq_right g] at e
        obtain rfl : D5 = -v1 + v2 + u1 - u3 + d3 := by omega
        clear e g
        intro V5 e
        have g : (d3 + u1) ≤ ((v0 - v1 + u1 - d1 + d3) + (-v1 + v2 + u1 - u3 + d3)) := by omega
        rw [Int.max_eq_left g] at e
        obtain rfl : V5 = v0 - v1 + v2 + u1 - u3 - d1 + d3 := by omega
        clear e g
        intro h6 e
        have g : ((-v1 + v2 + u1 - u3 + d3) + u2) ≤ (u1 + (u2 - u3 + d3)) := by omega
        rw [Int.max_eq_left g] at e
        obtain rfl : h6 = -v1 + u1 + d2 := by omega
        clear e g
        intro U6 e
        have g : (u1 + (u2 - u3 + d3)) ≤ ((-v1 + u1 + d2) + (v0 - v1 + v2 + u1 - u3 - d1 + d3)) := by omega
        rw [Int.max_eq_right g] at e
        obtain rfl : U6 = v0 - v1 + u1 - d1 + d2 := by omega
        clear e g
        intro D6 e
        have g : ((-v1 + u1 + d2) + v3) ≤ (u1 + (u2 - u3 + d3)) := by omega
        rw [Int.max_eq_left g] at e
        obtain rfl : D6 = u1 - u3 + d3 := by omega
        clear e g
        intro V6 e
        have g : ((u2 - u3 + d3) + u1) ≤ ((v0 - v1 + u1 - d1 + d2) + (u1 - u3 + d3)) := by omega
        rw [Int.max_eq_left g] at e
        obtain rfl : V6 = v0 + u1 - u3 - d1 + d3 := by omega
        clear e g
        exact ⟨rfl, rfl, rfl, rfl, rfl, rfl⟩
      · rw [Int.max_eq_right g] at e
        obtain rfl : U3 = v0 - v2 + u2 - d2 + d3 := by omega
        clear e
        intro D3 e
        have g : ((v0 - v1 + u1 - d1 + d2) + d3) ≤ ((-v2 + u2 + d3) + (v0 + u1 - u3 - d1 + d3)) := by omega
        rw [Int.max_eq_right g] at e
        obtain rfl : D3 = u2 - u3 + d3 := by omega
        clear e g
        intro V3 e
        have g : (d3 + (v0 - v1 + u1 - d1 + d2)) ≤ ((v0 - v2 + u2 - d2 + d3) + (u2 - u3 + d3)) := by omega
        rw [Int.max_eq_left g] at e
        obtain rfl : V3 = v0 + u2 - u3 - d2 + d3 := by omega
        clear e g
        intro h4 e
        have g : (d2 + u3) ≤ (u2 + d3) := by omega
        rw [Int.max_eq_left g] at e
        obtain rfl : h4 = -v2 + u2 + d3 := by omega
        clear e g
        intro U4 e
        have g : (u2 + d3) ≤ ((-v2 + u2 + d3) + v1) := by omega
        rw [Int.max_eq_right g] at e
        obtain rfl : U4 = v1 - v2 + u2 - d2 + d3 := by omega
        clear e g
        intro D4 e
        have g : ((-v2 + u2 + d3) + v3) ≤ (u2 + d3) := by omega
        rw [Int.max_eq_left g] at e
        obtain rfl : D4 = u2 - u3 + d3 := by omega
        clear e g
        intro V4 e
        have g : (d3 + u2) ≤ ((v1 - v2 + u2 - d2 + d3) + (u2 - u3 + d3)) := by omega
        rw [Int.max_eq_left g] at e
        obtain rfl : V4 = v1 + u2 - u3 - d2 + d3 := by omega
        clear e g
        intro h5 e
        have g : (u1 + d3) ≤ (d1 + (v1 - v2 + u2 - d2 + d3)) := by omega
        rw [Int.max_eq_right g] at e
        obtain rfl : h5 = -v2 + u2 + d1 - d2 + d3 := by omega
        clear e g
        intro U5 e
        have g : (u1 + d3) ≤ ((-v2 + u2 + d1 - d2 + d3) + v0) := by omega
        rw [Int.max_eq_right g] at e
        obtain rfl : U5 = v0 - v2 + u2 - d2 + d3 := by omega
        clear e g
        intro D5 e
        have g : (u1 + d3) ≤ ((-v2 + u2 + d1 - d2 + d3) + (v1 + u2 - u3 - d2 + d3)) := by omega
        rw [Int.max_eq_right g] at e
        obtain rfl : D5 = u2 - u3 + d1 - d2 + d3 := by omega
        clear e g
        intro V5 e
        have g : (d3 + u1) ≤ ((v0 - v2 + u2 - d2 + d3) + (u2 - u3 + d1 - d2 + d3)) := by omega
        rw [Int.max_eq_left g] at e
        obtain rfl : V5 = v0 + u2 - u3 - d2 + d3 := by omega
        clear e g
        intro h6 e
        have g : ((u2 - u3 + d1 - d2 + d3) + u2) ≤ (u1 + (u2 - u3 + d3)) := by omega
        rw [Int.max_eq_left g] at e
        obtain rfl : h6 = -v1 + u1 + d2 := by omega
        clear e g
        intro U6 e
        have g : (u1 + (u2 - u3 + d3)) ≤ ((-v1 + u1 + d2) + (v0 + u2 - u3 - d2 + d3)) := by omega
        rw [Int.max_eq_right g] at e
        obtain rfl : U6 = v0 - v1 + u1 - d1 + d2 := by omega
        clear e g
        intro D6 e
        have g : ((-v1 + u1 + d2) + v3) ≤ (u1 + (u2 - u3 + d3)) := by omega
        rw [Int.max_eq_left g] at e
        obtain rfl : D6 = u1 - u3 + d3 := by omega
        clear e g
        intro V6 e
        have g : ((u2 - u3 + d3) + u1) ≤ ((v0 - v1 + u1 - d1 + d2) + (u1 - u3 + d3)) := by omega
        rw [Int.max_eq_left g] at e
        obtain rfl : V6 = v0 + u1 - u3 - d1 + d3 := by omega
        clear e g
        exact ⟨rfl, rfl, rfl, rfl, rfl, rfl⟩
    · rw [Int.max_eq_right g] at e
      obtain rfl : D2 = -v2 + v3 + u1 - u3 + d3 := by omega
      clear e
      intro V2 e
      have g : (d3 + u1) ≤ ((v0 - v2 + u1 - d1 + d3) + (-v2 + v3 + u1 - u3 + d3)) := by omega
      rw [Int.max_eq_left g] at e
      obtain rfl : V2 = v0 - v2 + v3 + u1 - u3 - d1 + d3 := by omega
      clear e g
      intro h3 e
      have g : ((v0 - v1 + u1 - d1 + d2) + d3) ≤ (d2 + (v0 - v2 + u1 - d1 + d3)) := by omega
      rw [Int.max_eq_right g] at e
      obtain rfl : h3 = -v2 + u2 + d3 := by omega
      clear e g
      intro U3 e
      rcases Int.le_total ((-v2 + u2 + d3) + v0) ((v0 - v1 + u1 - d1 + d2) + d3) with g | g
      · rw [Int.max_eq_left g] at e
        obtain rfl : U3 = v0 - v1 + u1 - d1 + d3 := by omega
        clear e
        intro D3 e
        have g : ((v0 - v1 + u1 - d1 + d2) + d3) ≤ ((-v2 + u2 + d3) + (v0 - v2 + v3 + u1 - u3 - d1 + d3)) := by omega
        rw [Int.max_eq_right g] at e
        obtain rfl : D3 = -v2 + v3 + u2 - u3 + d3 := by omega
        clear e g
        intro V3 e
        have g : (d3 + (v0 - v1 + u1 - d1 + d2)) ≤ ((v0 - v1 + u1 - d1 + d3) + (-v2 + v3 + u2 - u3 + d3)) := by omega
        rw [Int.max_eq_left g] at e
        obtain rfl : V3 = v0 - v1 + v3 + u1 - u3 - d1 + d3 := by omega
        clear e g
        intro h4 e
        have g : (d2 + u3) ≤ (u2 + d3) := by omega
        rw [Int.max_eq_left g] at e
        obtain rfl : h4 = -v2 + u2 + d3 := by omega
        clear e g
        intro U4 e
        have g : (u2 + d3) ≤ ((-v2 + u2 + d3) + v1) := by omega
        rw [Int.max_eq_right g] at e
        obtain rfl : U4 = v1 - v2 + u2 - d2 + d3 := by omega
        clear e g
        intro D4 e
        have g : (u2 + d3) ≤ ((-v2 + u2 + d3) + v3) := by omega
        rw [Int.max_eq_right g] at e
        obtain rfl : D4 = -v2 + v3 + u2 - u3 + d3 := by omega
        clear e g
        intro V4 e
        have g : (d3 + u2) ≤ ((v1 - v2 + u2 - d2 + d3) + (-v2 + v3 + u2 - u3 + d3)) := by omega
        rw [Int.max_eq_left g] at e
        obtain rfl : V4 = v1 - v2 + v3 + u2 - u3 - d2 + d3 := by omega
        clear e g
        intro h5 e
        have g : (d1 + (v1 - v2 + u2 - d2 + d3)) ≤ (u1 + d3) := by omega
        rw [Int.max_eq_left g] at e
        obtain rfl : h5 = -v1 + u1 + d3 := by omega
        clear e g
        intro U5 e
        have g : (u1 + d3) ≤ ((-v1 + u1 + d3) + v0) := by omega
        rw [Int.max_eq_right g] at e
        obtain rfl : U5 = v0 - v1 + u1 - d1 + d3 := by omega
        clear e g
        intro D5 e
        have g : (u1 + d3) ≤ ((-v1 + u1 + d3) + (v1 - v2 + v3 + u2 - u3 - d2 + d3)) := by omega
        rw [Int.max_eq_right g] at e
        obtain rfl : D5 = -v1 + v3 + u1 - u3 + d3 := by omega
        clear e g
        intro V5 e
        have g : (d3 + u1) ≤ ((v0 - v1 + u1 - d1 + d3) + (-v1 + v3 + u1 - u3 + d3)) := by omega
        rw [Int.max_eq_left g] at e
        obtain rfl : V5 = v0 - v1 + v3 + u1 - u3 - d1 + d3 := by omega
        clear e g
        intro h6 e
        have g : ((-v1 + v3 + u1 - u3 + d3) + u2) ≤ (u1 + (-v2 + v3 + u2 - u3 + d3)) := by omega
        rw [Int.max_eq_left g] at e
        obtain rfl : h6 = -v1 + u1 + d2 := by omega
        clear e g
        intro U6 e
        have g : (u1 + (-v2 + v3 + u2 - u3 + d3)) ≤ ((-v1 + u1 + d2) + (v0 - v1 + v3 + u1 - u3 - d1 + d3)) := by omega
        rw [Int.max_eq_right g] at e
        obtain rfl : U6 = v0 - v1 + u1 - d1 + d2 := by omega
        clear e g
        intro D6 e
        have g : ((-v1 + u1 + d2) + v3) ≤ (u1 + (-v2 + v3 + u2 - u3 + d3)) := by omega
        rw [Int.max_eq_left g] at e
        obtain rfl : D6 = -v2 + v3 + u1 - u3 + d3 := by omega
        clear e g
        intro V6 e
        have g : ((-v2 + v3 + u2 - u3 + d3) + u1) ≤ ((v0 - v1 + u1 - d1 + d2) + (-v2 + v3 + u1 - u3 + d3)) := by omega
        rw [Int.max_eq_left g] at e
        obtain rfl : V6 = v0 - v2 + v3 + u1 - u3 - d1 + d3 := by omega
        clear e g
        exact ⟨rfl, rfl, rfl, rfl, rfl, rfl⟩
      · rw [Int.max_eq_right g] at e
        obtain rfl : U3 = v0 - v2 + u2 - d2 + d3 := by omega
        clear e
        intro D3 e
        have g : ((v0 - v1 + u1 - d1 + d2) + d3) ≤ ((-v2 + u2 + d3) + (v0 - v2 + v3 + u1 - u3 - d1 + d3)) := by omega
        rw [Int.max_eq_right g] at e
        obtain rfl : D3 = -v2 + v3 + u2 - u3 + d3 := by omega
        clear e g
        intro V3 e
        have g : (d3 + (v0 - v1 + u1 - d1 + d2)) ≤ ((v0 - v2 + u2 - d2 + d3) + (-v2 + v3 + u2 - u3 + d3)) := by omega
        rw [Int.max_eq_left g] at e
        obtain rfl : V3 = v0 - v2 + v3 + u2 - u3 - d2 + d3 := by omega
        clear e g
        intro h4 e
        have g : (d2 + u3) ≤ (u2 + d3) := by omega
        rw [Int.max_eq_left g] at e
        obtain rfl : h4 = -v2 + u2 + d3 := by omega
        clear e g
        intro U4 e
        have g : (u2 + d3) ≤ ((-v2 + u2 + d3) + v1) := by omega
        rw [Int.max_eq_right g] at e
        obtain rfl : U4 = v1 - v2 + u2 - d2 + d3 := by omega
        clear e g
        intro D4 e
        have g : (u2 + d3) ≤ ((-v2 + u2 + d3) + v3) := by omega
        rw [Int.max_eq_right g] at e
        obtain rfl : D4 = -v2 + v3 + u2 - u3 + d3 := by omega
        clear e g
        intro V4 e
        have g : (d3 + u2) ≤ ((v1 - v2 + u2 - d2 + d3) + (-v2 + v3 + u2 - u3 + d3)) := by omega
        rw [Int.max_eq_left g] at e
        obtain rfl : V4 = v1 - v2 + v3 + u2 - u3 - d2 + d3 := by omega
        clear e g
        intro h5 e
        have g : (u1 + d3) ≤ (d1 + (v1 - v2 + u2 - d2 + d3)) := by omega
        rw [Int.max_eq_right g] at e
        obtain rfl : h5 = -v2 + u2 + d1 - d2 + d3 := by omega
        clear e g
        intro U5 e
        have g : (u1 + d3) ≤ ((-v2 + u2 + d1 - d2 + d3) + v0) := by omega
        rw [Int.max_eq_right g] at e
        obtain rfl : U5 = v0 - v2 + u2 - d2 + d3 := by omega
        clear e g
        intro D5 e
        have g : (u1 + d3) ≤ ((-v2 + u2 + d1 - d2 + d3) + (v1 - v2 + v3 + u2 - u3 - d2 + d3)) := by omega
        rw [Int.max_eq_right g] at e
        obtain rfl : D5 = -v2 + v3 + u2 - u3 + d1 - d2 + d3 := by omega
        clear e g
        intro V5 e
        have g : (d3 + u1) ≤ ((v0 - v2 + u2 - d2 + d3) + (-v2 + v3 + u2 - u3 + d1 - d2 + d3)) := by omega
        rw [Int.max_eq_left g] at e
        obtain rfl : V5 = v0 - v2 + v3 + u2 - u3 - d2 + d3 := by omega
        clear e g
        intro h6 e
        have g : ((-v2 + v3 + u2 - u3 + d1 - d2 + d3) + u2) ≤ (u1 + (-v2 + v3 + u2 - u3 + d3)) := by omega
        rw [Int.max_eq_left g] at e
        obtain rfl : h6 = -v1 + u1 + d2 := by omega
        clear e g
        intro U6 e
        have g : (u1 + (-v2 + v3 + u2 - u3 + d3)) ≤ ((-v1 + u1 + d2) + (v0 - v2 + v3 + u2 - u3 - d2 + d3)) := by omega
        rw [Int.max_eq_right g] at e
        obtain rfl : U6 = v0 - v1 + u1 - d1 + d2 := by omega
        clear e g
        intro D6 e
        have g : ((-v1 + u1 + d2) + v3) ≤ (u1 + (-v2 + v3 + u2 - u3 + d3)) := by omega
        rw [Int.max_eq_left g] at e
        obtain rfl : D6 = -v2 + v3 + u1 - u3 + d3 := by omega
        clear e g
        intro V6 e
        have g : ((-v2 + v3 + u2 - u3 + d3) + u1) ≤ ((v0 - v1 + u1 - d1 + d2) + (-v2 + v3 + u1 - u3 + d3)) := by omega
        rw [Int.max_eq_left g] at e
        obtain rfl : V6 = v0 - v2 + v3 + u1 - u3 - d1 + d3 := by omega
        clear e g
        exact ⟨rfl, rfl, rfl, rfl, rfl, rfl⟩
  · rw [Int.max_eq_right g] at e
    obtain rfl : h2 = -v2 + u1 - u2 + u3 + d2 := by omega
    clear e
    intro U2 e
    have g : (u1 + d3) ≤ ((-v2 + u1 - u2 + u3 + d2) + (v0 + u1 - u2 - d1 + d2)) := by omega
    rw [Int.max_eq_right g] at e
    obtain rfl : U2 = v0 - v2 + u1 - u2 + u3 - d1 + d2 := by omega
    clear e g
    intro D2 e
    rcases Int.le_total ((-v2 + u1 - u2 + u3 + d2) + v3) (u1 + d3) with g | g
    · rw [Int.max_eq_left g] at e
      obtain rfl : D2 = u1 - u3 + d3 := by omega
      clear e
      intro V2 e
      have g : (d3 + u1) ≤ ((v0 - v2 + u1 - u2 + u3 - d1 + d2) + (u1 - u3 + d3)) := by omega
      rw [Int.max_eq_left g] at e
      obtain rfl : V2 = v0 + u1 - u3 - d1 + d3 := by omega
      clear e g
      intro h3 e
      have g : ((v0 - v1 + u1 - d1 + d2) + d3) ≤ (d2 + (v0 - v2 + u1 - u2 + u3 - d1 + d2)) := by omega
      rw [Int.max_eq_right g] at e
      obtain rfl : h3 = -v2 + u3 + d2 := by omega
      clear e g
      intro U3 e
      rcases Int.le_total ((-v2 + u3 + d2) + v0) ((v0 - v1 + u1 - d1 + d2) + d3) with g | g
      · rw [Int.max_eq_left g] at e
        obtain rfl : U3 = v0 - v1 + u1 - d1 + d3 := by omega
        clear e
        intro D3 e
        have g : ((v0 - v1 + u1 - d1 + d2) + d3) ≤ ((-v2 + u3 + d2) + (v0 + u1 - u3 - d1 + d3)) := by omega
        rw [Int.max_eq_right g] at e
        obtain rfl : D3 = u2 - u3 + d3 := by omega
        clear e g
        intro V3 e
        have g : ((v0 - v1 + u1 - d1 + d3) + (u2 - u3 + d3)) ≤ (d3 + (v0 - v1 + u1 - d1 + d2)) := by omega
        rw [Int.max_eq_right g] at e
        obtain rfl : V3 = v0 - v1 + v2 + u1 - u3 - d1 + d3 := by omega
        clear e g
        intro h4 e
        have g : (u2 + d3) ≤ (d2 + u3) := by omega
        rw [Int.max_eq_right g] at e
        obtain rfl : h4 = -v2 + u3 + d2 := by omega
        clear e g
        intro U4 e
        have g : (u2 + d3) ≤ ((-v2 + u3 + d2) + v1) := by omega
        rw [Int.max_eq_right g] at e
        obtain rfl : U4 = v1 - v2 + u3 := by omega
        clear e g
        intro D4 e
        have g : ((-v2 + u3 + d2) + v3) ≤ (u2 + d3) := by omega
        rw [Int.max_eq_left g] at e
        obtain rfl : D4 = u2 - u3 + d3 := by omega
        clear e g
        intro V4 e
        have g : (d3 + u2) ≤ ((v1 - v2 + u3) + (u2 - u3 + d3)) := by omega
        rw [Int.max_eq_left g] at e
        obtain rfl : V4 = v1 + u2 - u3 - d2 + d3 := by omega
        clear e g
        intro h5 e
        have g : (d1 + (v1 - v2 + u3)) ≤ (u1 + d3) := by omega
        rw [Int.max_eq_left g] at e
        obtain rfl : h5 = -v1 + u1 + d3 := by omega
        clear e g
        intro U5 e
        have g : (u1 + d3) ≤ ((-v1 + u1 + d3) + v0) := by omega
        rw [Int.max_eq_right g] at e
        obtain rfl : U5 = v0 - v1 + u1 - d1 + d3 := by omega
        clear e g
        intro D5 e
        have g : ((-v1 + u1 + d3) + (v1 + u2 - u3 - d2 + d3)) ≤ (u1 + d3) := by omega
        rw [Int.max_eq_left g] at e
        obtain rfl : D5 = -v1 + v2 + u1 - u3 + d3 := by omega
        clear e g
        intro V5 e
        have g : (d3 + u1) ≤ ((v0 - v1 + u1 - d1 + d3) + (-v1 + v2 + u1 - u3 + d3)) := by omega
        rw [Int.max_eq_left g] at e
        obtain rfl : V5 = v0 - v1 + v2 + u1 - u3 - d1 + d3 := by omega
        clear e g
        intro h6 e
        have g : ((-v1 + v2 + u1 - u3 + d3) + u2) ≤ (u1 + (u2 - u3 + d3)) := by omega
        rw [Int.max_eq_left g] at e
        obtain rfl : h6 = -v1 + u1 + d2 := by omega
        clear e g
        intro U6 e
        have g : (u1 + (u2 - u3 + d3)) ≤ ((-v1 + u1 + d2) + (v0 - v1 + v2 + u1 - u3 - d1 + d3)) := by omega
        rw [Int.max_eq_right g] at e
        obtain rfl : U6 = v0 - v1 + u1 - d1 + d2 := by omega
        clear e g
        intro D6 e
        have g : ((-v1 + u1 + d2) + v3) ≤ (u1 + (u2 - u3 + d3)) := by omega
        rw [Int.max_eq_left g] at e
        obtain rfl : D6 = u1 - u3 + d3 := by omega
        clear e g
        intro V6 e
        have g : ((u2 - u3 + d3) + u1) ≤ ((v0 - v1 + u1 - d1 + d2) + (u1 - u3 + d3)) := by omega
        rw [Int.max_eq_left g] at e
        obtain rfl : V6 = v0 + u1 - u3 - d1 + d3 := by omega
        clear e g
        exact ⟨rfl, rfl, rfl, rfl, rfl, rfl⟩
      · rw [Int.max_eq_right g] at e
        obtain rfl : U3 = v0 - v2 + u3 := by omega
        clear e
        intro D3 e
        have g : ((v0 - v1 + u1 - d1 + d2) + d3) ≤ ((-v2 + u3 + d2) + (v0 + u1 - u3 - d1 + d3)) := by omega
        rw [Int.max_eq_right g] at e
        obtain rfl : D3 = u2 - u3 + d3 := by omega
        clear e g
        intro V3 e
        rcases Int.le_total (d3 + (v0 - v1 + u1 - d1 + d2)) ((v0 - v2 + u3) + (u2 - u3 + d3)) with g | g
        · rw [Int.max_eq_left g] at e
          obtain rfl : V3 = v0 + u2 - u3 - d2 + d3 := by omega
          clear e
          intro h4 e
          have g : (u2 + d3) ≤ (d2 + u3) := by omega
          rw [Int.max_eq_right g] at e
          obtain rfl : h4 = -v2 + u3 + d2 := by omega
          clear e g
          intro U4 e
          have g : (u2 + d3) ≤ ((-v2 + u3 + d2) + v1) := by omega
          rw [Int.max_eq_right g] at e
          obtain rfl : U4 = v1 - v2 + u3 := by omega
          clear e g
          intro D4 e
          have g : ((-v2 + u3 + d2) + v3) ≤ (u2 + d3) := by omega
          rw [Int.max_eq_left g] at e
          obtain rfl : D4 = u2 - u3 + d3 := by omega
          clear e g
          intro V4 e
          have g : (d3 + u2) ≤ ((v1 - v2 + u3) + (u2 - u3 + d3)) := by omega
          rw [Int.max_eq_left g] at e
          obtain rfl : V4 = v1 + u2 - u3 - d2 + d3 := by omega
          clear e g
          intro h5 e
          have g : (u1 + d3) ≤ (d1 + (v1 - v2 + u3)) := by omega
          rw [Int.max_eq_right g] at e
          obtain rfl : h5 = -v2 + u3 + d1 := by omega
          clear e g
          intro U5 e
          have g : (u1 + d3) ≤ ((-v2 + u3 + d1) + v0) := by omega
          rw [Int.max_eq_right g] at e
          obtain rfl : U5 = v0 - v2 + u3 := by omega
          clear e g
          intro D5 e
          have g : (u1 + d3) ≤ ((-v2 + u3 + d1) + (v1 + u2 - u3 - d2 + d3)) := by omega
          rw [Int.max_eq_right g] at e
          obtain rfl : D5 = u2 - u3 + d1 - d2 + d3 := by omega
          clear e g
          intro V5 e
          have g : (d3 + u1) ≤ ((v0 - v2 + u3) + (u2 - u3 + d1 - d2 + d3)) := by omega
          rw [Int.max_eq_left g] at e
          obtain rfl : V5 = v0 + u2 - u3 - d2 + d3 := by omega
          clear e g
          intro h6 e
          have g : ((u2 - u3 + d1 - d2 + d3) + u2) ≤ (u1 + (u2 - u3 + d3)) := by omega
          rw [Int.max_eq_left g] at e
          obtain rfl : h6 = -v1 + u1 + d2 := by omega
          clear e g
          intro U6 e
          have g : (u1 + (u2 - u3 + d3)) ≤ ((-v1 + u1 + d2) + (v0 + u2 - u3 - d2 + d3)) := by omega
          rw [Int.max_eq_right g] at e
          obtain rfl : U6 = v0 - v1 + u1 - d1 + d2 := by omega
          clear e g
          intro D6 e
          have g : ((-v1 + u1 + d2) + v3) ≤ (u1 + (u2 - u3 + d3)) := by omega
          rw [Int.max_eq_left g] at e
          obtain rfl : D6 = u1 - u3 + d3 := by omega
          clear e g
          intro V6 e
          have g : ((u2 - u3 + d3) + u1) ≤ ((v0 - v1 + u1 - d1 + d2) + (u1 - u3 + d3)) := by omega
          rw [Int.max_eq_left g] at e
          obtain rfl : V6 = v0 + u1 - u3 - d1 + d3 := by omega
          clear e g
          exact ⟨rfl, rfl, rfl, rfl, rfl, rfl⟩
        · rw [Int.max_eq_right g] at e
          obtain rfl : V3 = v0 - v1 + v2 + u1 - u3 - d1 + d3 := by omega
          clear e
          intro h4 e
          have g : (u2 + d3) ≤ (d2 + u3) := by omega
          rw [Int.max_eq_right g] at e
          obtain rfl : h4 = -v2 + u3 + d2 := by omega
          clear e g
          intro U4 e
          have g : (u2 + d3) ≤ ((-v2 + u3 + d2) + v1) := by omega
          rw [Int.max_eq_right g] at e
          obtain rfl : U4 = v1 - v2 + u3 := by omega
          clear e g
          intro D4 e
          have g : ((-v2 + u3 + d2) + v3) ≤ (u2 + d3) := by omega
          rw [Int.max_eq_left g] at e
          obtain rfl : D4 = u2 - u3 + d3 := by omega
          clear e g
          intro V4 e
          have g : (d3 + u2) ≤ ((v1 - v2 + u3) + (u2 - u3 + d3)) := by omega
          rw [Int.max_eq_left g] at e
          obtain rfl : V4 = v1 + u2 - u3 - d2 + d3 := by omega
          clear e g
          intro h5 e
          have g : (u1 + d3) ≤ (d1 + (v1 - v2 + u3)) := by omega
          rw [Int.max_eq_right g] at e
          obtain rfl : h5 = -v2 + u3 + d1 := by omega
          clear e g
          intro U5 e
          have g : (u1 + d3) ≤ ((-v2 + u3 + d1) + v0) := by omega
          rw [Int.max_eq_right g] at e
          obtain rfl : U5 = v0 - v2 + u3 := by omega
          clear e g
          intro D5 e
          have g : ((-v2 + u3 + d1) + (v1 + u2 - u3 - d2 + d3)) ≤ (u1 + d3) := by omega
          rw [Int.max_eq_left g] at e
          obtain rfl : D5 = -v1 + v2 + u1 - u3 + d3 := by omega
          clear e g
          intro V5 e
          have g : (d3 + u1) ≤ ((v0 - v2 + u3) + (-v1 + v2 + u1 - u3 + d3)) := by omega
          rw [Int.max_eq_left g] at e
          obtain rfl : V5 = v0 - v1 + v2 + u1 - u3 - d1 + d3 := by omega
          clear e g
          intro h6 e
          have g : ((-v1 + v2 + u1 - u3 + d3) + u2) ≤ (u1 + (u2 - u3 + d3)) := by omega
          rw [Int.max_eq_left g] at e
          obtain rfl : h6 = -v1 + u1 + d2 := by omega
          clear e g
          intro U6 e
          have g : (u1 + (u2 - u3 + d3)) ≤ ((-v1 + u1 + d2) + (v0 - v1 + v2 + u1 - u3 - d1 + d3)) := by omega
          rw [Int.max_eq_right g] at e
          obtain rfl : U6 = v0 - v1 + u1 - d1 + d2 := by omega
          clear e g
          intro D6 e
          have g : ((-v1 + u1 + d2) + v3) ≤ (u1 + (u2 - u3 + d3)) := by omega
          rw [Int.max_eq_left g] at e
          obtain rfl : D6 = u1 - u3 + d3 := by omega
          clear e g
          intro V6 e
          have g : ((u2 - u3 + d3) + u1) ≤ ((v0 - v1 + u1 - d1 + d2) + (u1 - u3 + d3)) := by omega
          rw [Int.max_eq_left g] at e
          obtain rfl : V6 = v0 + u1 - u3 - d1 + d3 := by omega
          clear e g
          exact ⟨rfl, rfl, rfl, rfl, rfl, rfl⟩
    · rw [Int.max_eq_right g] at e
      obtain rfl : D2 = -v2 + v3 + u1 - u2 + d2 := by omega
      clear e
      intro V2 e
      have g : (d3 + u1) ≤ ((v0 - v2 + u1 - u2 + u3 - d1 + d2) + (-v2 + v3 + u1 - u2 + d2)) := by omega
      rw [Int.max_eq_left g] at e
      obtain rfl : V2 = v0 - v2 + v3 + u1 - u2 - d1 + d2 := by omega
      clear e g
      intro h3 e
      have g : ((v0 - v1 + u1 - d1 + d2) + d3) ≤ (d2 + (v0 - v2 + u1 - u2 + u3 - d1 + d2)) := by omega
      rw [Int.max_eq_right g] at e
      obtain rfl : h3 = -v2 + u3 + d2 := by omega
      clear e g
      intro U3 e
      rcases Int.le_total ((-v2 + u3 + d2) + v0) ((v0 - v1 + u1 - d1 + d2) + d3) with g | g
      · rw [Int.max_eq_left g] at e
        obtain rfl : U3 = v0 - v1 + u1 - d1 + d3 := by omega
        clear e
        intro D3 e
        have g : ((v0 - v1 + u1 - d1 + d2) + d3) ≤ ((-v2 + u3 + d2) + (v0 - v2 + v3 + u1 - u2 - d1 + d2)) := by omega
        rw [Int.max_eq_right g] at e
        obtain rfl : D3 = -v2 + v3 + d2 := by omega
        clear e g
        intro V3 e
        rcases Int.le_total (d3 + (v0 - v1 + u1 - d1 + d2)) ((v0 - v1 + u1 - d1 + d3) + (-v2 + v3 + d2)) with g | g
        · rw [Int.max_eq_left g] at e
          obtain rfl : V3 = v0 - v1 + v3 + u1 - u3 - d1 + d3 := by omega
          clear e
          intro h4 e
          have g : (u2 + d3) ≤ (d2 + u3) := by omega
          rw [Int.max_eq_right g] at e
          obtain rfl : h4 = -v2 + u3 + d2 := by omega
          clear e g
          intro U4 e
          have g : (u2 + d3) ≤ ((-v2 + u3 + d2) + v1) := by omega
          rw [Int.max_eq_right g] at e
          obtain rfl : U4 = v1 - v2 + u3 := by omega
          clear e g
          intro D4 e
          have g : (u2 + d3) ≤ ((-v2 + u3 + d2) + v3) := by omega
          rw [Int.max_eq_right g] at e
          obtain rfl : D4 = -v2 + v3 + d2 := by omega
          clear e g
          intro V4 e
          have g : (d3 + u2) ≤ ((v1 - v2 + u3) + (-v2 + v3 + d2)) := by omega
          rw [Int.max_eq_left g] at e
          obtain rfl : V4 = v1 - v2 + v3 := by omega
          clear e g
          intro h5 e
          have g : (d1 + (v1 - v2 + u3)) ≤ (u1 + d3) := by omega
          rw [Int.max_eq_left g] at e
          obtain rfl : h5 = -v1 + u1 + d3 := by omega
          clear e g
          intro U5 e
          have g : (u1 + d3) ≤ ((-v1 + u1 + d3) + v0) := by omega
          rw [Int.max_eq_right g] at e
          obtain rfl : U5 = v0 - v1 + u1 - d1 + d3 := by omega
          clear e g
          intro D5 e
          have g : (u1 + d3) ≤ ((-v1 + u1 + d3) + (v1 - v2 + v3)) := by omega
          rw [Int.max_eq_right g] at e
          obtain rfl : D5 = -v1 + v3 + u1 - u3 + d3 := by omega
          clear e g
          intro V5 e
          have g : (d3 + u1) ≤ ((v0 - v1 + u1 - d1 + d3) + (-v1 + v3 + u1 - u3 + d3)) := by omega
          rw [Int.max_eq_left g] at e
          obtain rfl : V5 = v0 - v1 + v3 + u1 - u3 - d1 + d3 := by omega
          clear e g
          intro h6 e
          have g : ((-v1 + v3 + u1 - u3 + d3) + u2) ≤ (u1 + (-v2 + v3 + d2)) := by omega
          rw [Int.max_eq_left g] at e
          obtain rfl : h6 = -v1 + u1 + d2 := by omega
          clear e g
          intro U6 e
          have g : (u1 + (-v2 + v3 + d2)) ≤ ((-v1 + u1 + d2) + (v0 - v1 + v3 + u1 - u3 - d1 + d3)) := by omega
          rw [Int.max_eq_right g] at e
          obtain rfl : U6 = v0 - v1 + u1 - d1 + d2 := by omega
          clear e g
          intro D6 e
          have g : ((-v1 + u1 + d2) + v3) ≤ (u1 + (-v2 + v3 + d2)) := by omega
          rw [Int.max_eq_left g] at e
          obtain rfl : D6 = -v2 + v3 + u1 - u2 + d2 := by omega
          clear e g
          intro V6 e
          have g : ((-v2 + v3 + d2) + u1) ≤ ((v0 - v1 + u1 - d1 + d2) + (-v2 + v3 + u1 - u2 + d2)) := by omega
          rw [Int.max_eq_left g] at e
          obtain rfl : V6 = v0 - v2 + v3 + u1 - u2 - d1 + d2 := by omega
          clear e g
          exact ⟨rfl, rfl, rfl, rfl, rfl, rfl⟩
        · rw [Int.max_eq_right g] at e
          obtain rfl : V3 = v0 - v1 + v2 + u1 - u3 - d1 + d3 := by omega
          clear e
          intro h4 e
          have g : (u2 + d3) ≤ (d2 + u3) := by omega
          rw [Int.max_eq_right g] at e
          obtain rfl : h4 = -v2 + u3 + d2 := by omega
          clear e g
          intro U4 e
          have g : (u2 + d3) ≤ ((-v2 + u3 + d2) + v1) := by omega
          rw [Int.max_eq_right g] at e
          obtain rfl : U4 = v1 - v2 + u3 := by omega
          clear e g
          intro D4 e
          have g : (u2 + d3) ≤ ((-v2 + u3 + d2) + v3) := by omega
          rw [Int.max_eq_right g] at e
          obtain rfl : D4 = -v2 + v3 + d2 := by omega
          clear e g
          intro V4 e
          have g : (d3 + u2) ≤ ((v1 - v2 + u3) + (-v2 + v3 + d2)) := by omega
          rw [Int.max_eq_left g] at e
          obtain rfl : V4 = v1 - v2 + v3 := by omega
          clear e g
          intro h5 e
          have g : (d1 + (v1 - v2 + u3)) ≤ (u1 + d3) := by omega
          rw [Int.max_eq_left g] at e
          obtain rfl : h5 = -v1 + u1 + d3 := by omega
          clear e g
          intro U5 e
          have g : (u1 + d3) ≤ ((-v1 + u1 + d3) + v0) := by omega
          rw [Int.max_eq_right g] at e
          obtain rfl : U5 = v0 - v1 + u1 - d1 + d3 := by omega
          clear e g
          intro D5 e
          have g : ((-v1 + u1 + d3) + (v1 - v2 + v3)) ≤ (u1 + d3) := by omega
          rw [Int.max_eq_left g] at e
          obtain rfl : D5 = -v1 + v2 + u1 - u3 + d3 := by omega
          clear e g
          intro V5 e
          have g : (d3 + u1) ≤ ((v0 - v1 + u1 - d1 + d3) + (-v1 + v2 + u1 - u3 + d3)) := by omega
          rw [Int.max_eq_left g] at e
          obtain rfl : V5 = v0 - v1 + v2 + u1 - u3 - d1 + d3 := by omega
          clear e g
          intro h6 e
          have g : ((-v1 + v2 + u1 - u3 + d3) + u2) ≤ (u1 + (-v2 + v3 + d2)) := by omega
          rw [Int.max_eq_left g] at e
          obtain rfl : h6 = -v1 + u1 + d2 := by omega
          clear e g
          intro U6 e
          have g : (u1 + (-v2 + v3 + d2)) ≤ ((-v1 + u1 + d2) + (v0 - v1 + v2 + u1 - u3 - d1 + d3)) := by omega
          rw [Int.max_eq_right g] at e
          obtain rfl : U6 = v0 - v1 + u1 - d1 + d2 := by omega
          clear e g
          intro D6 e
          have g : ((-v1 + u1 + d2) + v3) ≤ (u1 + (-v2 + v3 + d2)) := by omega
          rw [Int.max_eq_left g] at e
          obtain rfl : D6 = -v2 + v3 + u1 - u2 + d2 := by omega
          clear e g
          intro V6 e
          have g : ((-v2 + v3 + d2) + u1) ≤ ((v0 - v1 + u1 - d1 + d2) + (-v2 + v3 + u1 - u2 + d2)) := by omega
          rw [Int.max_eq_left g] at e
          obtain rfl : V6 = v0 - v2 + v3 + u1 - u2 - d1 + d2 := by omega
          clear e g
          exact ⟨rfl, rfl, rfl, rfl, rfl, rfl⟩
      · rw [Int.max_eq_right g] at e
        obtain rfl : U3 = v0 - v2 + u3 := by omega
        clear e
        intro D3 e
        have g : ((v0 - v1 + u1 - d1 + d2) + d3) ≤ ((-v2 + u3 + d2) + (v0 - v2 + v3 + u1 - u2 - d1 + d2)) := by omega
        rw [Int.max_eq_right g] at e
        obtain rfl : D3 = -v2 + v3 + d2 := by omega
        clear e g
        intro V3 e
        rcases Int.le_total (d3 + (v0 - v1 + u1 - d1 + d2)) ((v0 - v2 + u3) + (-v2 + v3 + d2)) with g | g
        · rw [Int.max_eq_left g] at e
          obtain rfl : V3 = v0 - v2 + v3 := by omega
          clear e
          intro h4 e
          have g : (u2 + d3) ≤ (d2 + u3) := by omega
          rw [Int.max_eq_right g] at e
          obtain rfl : h4 = -v2 + u3 + d2 := by omega
          clear e g
          intro U4 e
          have g : (u2 + d3) ≤ ((-v2 + u3 + d2) + v1) := by omega
          rw [Int.max_eq_right g] at e
          obtain rfl : U4 = v1 - v2 + u3 := by omega
          clear e g
          intro D4 e
          have g : (u2 + d3) ≤ ((-v2 + u3 + d2) + v3) := by omega
          rw [Int.max_eq_right g] at e
          obtain rfl : D4 = -v2 + v3 + d2 := by omega
          clear e g
          intro V4 e
          have g : (d3 + u2) ≤ ((v1 - v2 + u3) + (-v2 + v3 + d2)) := by omega
          rw [Int.max_eq_left g] at e
          obtain rfl : V4 = v1 - v2 + v3 := by omega
          clear e g
          intro h5 e
          have g : (u1 + d3) ≤ (d1 + (v1 - v2 + u3)) := by omega
          rw [Int.max_eq_right g] at e
          obtain rfl : h5 = -v2 + u3 + d1 := by omega
          clear e g
          intro U5 e
          have g : (u1 + d3) ≤ ((-v2 + u3 + d1) + v0) := by omega
          rw [Int.max_eq_right g] at e
          obtain rfl : U5 = v0 - v2 + u3 := by omega
          clear e g
          intro D5 e
          have g : (u1 + d3) ≤ ((-v2 + u3 + d1) + (v1 - v2 + v3)) := by omega
          rw [Int.max_eq_right g] at e
          obtain rfl : D5 = -v2 + v3 + d1 := by omega
          clear e g
          intro V5 e
          have g : (d3 + u1) ≤ ((v0 - v2 + u3) + (-v2 + v3 + d1)) := by omega
          rw [Int.max_eq_left g] at e
          obtain rfl : V5 = v0 - v2 + v3 := by omega
          clear e g
          intro h6 e
          have g : ((-v2 + v3 + d1) + u2) ≤ (u1 + (-v2 + v3 + d2)) := by omega
          rw [Int.max_eq_left g] at e
          obtain rfl : h6 = -v1 + u1 + d2 := by omega
          clear e g
          intro U6 e
          have g : (u1 + (-v2 + v3 + d2)) ≤ ((-v1 + u1 + d2) + (v0 - v2 + v3)) := by omega
          rw [Int.max_eq_right g] at e
          obtain rfl : U6 = v0 - v1 + u1 - d1 + d2 := by omega
          clear e g
          intro D6 e
          have g : ((-v1 + u1 + d2) + v3) ≤ (u1 + (-v2 + v3 + d2)) := by omega
          rw [Int.max_eq_left g] at e
          obtain rfl : D6 = -v2 + v3 + u1 - u2 + d2 := by omega
          clear e g
          intro V6 e
          have g : ((-v2 + v3 + d2) + u1) ≤ ((v0 - v1 + u1 - d1 + d2) + (-v2 + v3 + u1 - u2 + d2)) := by omega
          rw [Int.max_eq_left g] at e
          obtain rfl : V6 = v0 - v2 + v3 + u1 - u2 - d1 + d2 := by omega
          clear e g
          exact ⟨rfl, rfl, rfl, rfl, rfl, rfl⟩
        · rw [Int.max_eq_right g] at e
          obtain rfl : V3 = v0 - v1 + v2 + u1 - u3 - d1 + d3 := by omega
          clear e
          intro h4 e
          have g : (u2 + d3) ≤ (d2 + u3) := by omega
          rw [Int.max_eq_right g] at e
          obtain rfl : h4 = -v2 + u3 + d2 := by omega
          clear e g
          intro U4 e
          have g : (u2 + d3) ≤ ((-v2 + u3 + d2) + v1) := by omega
          rw [Int.max_eq_right g] at e
          obtain rfl : U4 = v1 - v2 + u3 := by omega
          clear e g
          intro D4 e
          have g : (u2 + d3) ≤ ((-v2 + u3 + d2) + v3) := by omega
          rw [Int.max_eq_right g] at e
          obtain rfl : D4 = -v2 + v3 + d2 := by omega
          clear e g
          intro V4 e
          have g : (d3 + u2) ≤ ((v1 - v2 + u3) + (-v2 + v3 + d2)) := by omega
          rw [Int.max_eq_left g] at e
          obtain rfl : V4 = v1 - v2 + v3 := by omega
          clear e g
          intro h5 e
          have g : (u1 + d3) ≤ (d1 + (v1 - v2 + u3)) := by omega
          rw [Int.max_eq_right g] at e
          obtain rfl : h5 = -v2 + u3 + d1 := by omega
          clear e g
          intro U5 e
          have g : (u1 + d3) ≤ ((-v2 + u3 + d1) + v0) := by omega
          rw [Int.max_eq_right g] at e
          obtain rfl : U5 = v0 - v2 + u3 := by omega
          clear e g
          intro D5 e
          have g : ((-v2 + u3 + d1) + (v1 - v2 + v3)) ≤ (u1 + d3) := by omega
          rw [Int.max_eq_left g] at e
          obtain rfl : D5 = -v1 + v2 + u1 - u3 + d3 := by omega
          clear e g
          intro V5 e
          have g : (d3 + u1) ≤ ((v0 - v2 + u3) + (-v1 + v2 + u1 - u3 + d3)) := by omega
          rw [Int.max_eq_left g] at e
          obtain rfl : V5 = v0 - v1 + v2 + u1 - u3 - d1 + d3 := by omega
          clear e g
          intro h6 e
          have g : ((-v1 + v2 + u1 - u3 + d3) + u2) ≤ (u1 + (-v2 + v3 + d2)) := by omega
          rw [Int.max_eq_left g] at e
          obtain rfl : h6 = -v1 + u1 + d2 := by omega
          clear e g
          intro U6 e
          have g : (u1 + (-v2 + v3 + d2)) ≤ ((-v1 + u1 + d2) + (v0 - v1 + v2 + u1 - u3 - d1 + d3)) := by omega
          rw [Int.max_eq_right g] at e
          obtain rfl : U6 = v0 - v1 + u1 - d1 + d2 := by omega
          clear e g
          intro D6 e
          have g : ((-v1 + u1 + d2) + v3) ≤ (u1 + (-v2 + v3 + d2)) := by omega
          rw [Int.max_eq_left g] at e
          obtain rfl : D6 = -v2 + v3 + u1 - u2 + d2 := by omega
          clear e g
          intro V6 e
          have g : ((-v2 + v3 + d2) + u1) ≤ ((v0 - v1 + u1 - d1 + d2) + (-v2 + v3 + u1 - u2 + d2)) := by omega
          rw [Int.max_eq_left g] at e
          obtain rfl : V6 = v0 - v2 + v3 + u1 - u2 - d1 + d2 := by omega
          clear e g
          exact ⟨rfl, rfl, rfl, rfl, rfl, rfl⟩
set_option maxHeartbeats 4000000 in
set_option maxRecDepth 100000 in
theorem dy_c10 (v0 v1 v2 v3 u1 u2 u3 d1 d2 d3 : Int) (g0 : u2 + d1 ≤ u1 + d2) (g1 : v1 ≤ v0) (g2 : v1 ≤ v2) (g3 : v2 + u3 + d2 ≤ v1 + u2 + d3) : ∀ U2 : Int, U2 = max (u1 + d3) ((-v2 + u1 + d3) + (v0 - v1 + v2 + u1 - u2 - d1 + d2)) - (-v1 + v2 + u1 - u2 + d2) → ∀ D2 : Int, D2 = max (u1 + d3) ((-v2 + u1 + d3) + v3) - u3 → ∀ V2 : Int, V2 = max (U2 + D2) (d3 + u1) - (-v2 + u1 + d3) → ∀ h3 : Int, h3 = max ((v0 - v1 + u1 - d1 + d2) + d3) (d2 + U2) - (v0 - v1 + v2 + u1 - u2 - d1 + d2) → ∀ U3 : Int, U3 = max ((v0 - v1 + u1 - d1 + d2) + d3) (h3 + v0) - d2 → ∀ D3 : Int, D3 = max ((v0 - v1 + u1 - d1 + d2) + d3) (h3 + V2) - U2 → ∀ V3 : Int, V3 = max (U3 + D3) (d3 + (v0 - v1 + u1 - d1 + d2)) - h3 → ∀ h4 : Int, h4 = max (u2 + d3) (d2 + u3) - v2 → ∀ U4 : Int, U4 = max (u2 + d3) (h4 + v1) - d2 → ∀ D4 : Int, D4 = max (u2 + d3) (h4 + v3) - u3 → ∀ V4 : Int, V4 = max (U4 + D4) (d3 + u2) - h4 → ∀ h5 : Int, h5 = max (u1 + d3) (d1 + U4) - v1 → ∀ U5 : Int, U5 = max (u1 + d3) (h5 + v0) - d1 → ∀ D5 : Int, D5 = max (u1 + d3) (h5 + V4) - U4 → ∀ V5 : Int, V5 = max (U5 + D5) (d3 + u1) - h5 → ∀ h6 : Int, h6 = max (u1 + D4) (D5 + u2) - V4 → ∀ U6 : Int, U6 = max (u1 + D4) (h6 + V5) - D5 → ∀ D6 : Int, D6 = max (u1 + D4) (h6 + v3) - u2 → ∀ V6 : Int, V6 = max (U6 + D6) (D4 + u1) - h6 → V3 = V5 ∧ U3 = U5 ∧ V2 = V6 ∧ (v0 - v1 + u1 - d1 + d2) = U6 ∧ D3 = D4 ∧ D2 = D6 := by
  intro U2 e
  have g : (u1 + d3) ≤ ((-v2 + u1 + d3) + (v0 - v1 + v2 + u1 - u2 - d1 + d2)) := by omega
  rw [Int.max_eq_right g] at e
  obtain rfl : U2 = v0 - v2 + u1 - d1 + d3 := by omega
  clear e g
  intro D2 e
  rcases Int.le_total ((-v2 + u1 + d3) + v3) (u1 + d3) with g | g
  · rw [Int.max_eq_left g] at e
    obtain rfl : D2 = u1 - u3 + d3 := by omega
    clear e
    intro V2 e
    have g : (d3 + u1) ≤ ((v0 - v2 + u1 - d1 + d3) + (u1 - u3 + d3)) := by omega
    rw [Int.max_eq_left g] at e
    obtain rfl : V2 = v0 + u1 - u3 - d1 + d3 := by omega
    clear e g
    intro h3 e
    have g : (d2 + (v0 - v2 + u1 - d1 + d3)) ≤ ((v0 - v1 + u1 - d1 + d2) + d3) := by omega
    rw [Int.max_eq_left g] at e
    obtain rfl : h3 = -v2 + u2 + d3 := by omega
    clear e g
    intro U3 e
    have g : ((-v2 + u2 + d3) + v0) ≤ ((v0 - v1 + u1 - d1 + d2) + d3) := by omega
    rw [Int.max_eq_left g] at e
    obtain rfl : U3 = v0 - v1 + u1 - d1 + d3 := by omega
    clear e g
    intro D3 e
    have g : ((v0 - v1 + u1 - d1 + d2) + d3) ≤ ((-v2 + u2 + d3) + (v0 + u1 - u3 - d1 + d3)) := by omega
    rw [Int.max_eq_right g] at e
    obtain rfl : D3 = u2 - u3 + d3 := by omega
    clear e g
    intro V3 e
    have g : (d3 + (v0 - v1 + u1 - d1 + d2)) ≤ ((v0 - v1 + u1 - d1 + d3) + (u2 - u3 + d3)) := by omega
    rw [Int.max_eq_left g] at e
    obtain rfl : V3 = v0 - v1 + v2 + u1 - u3 - d1 + d3 := by omega
    clear e g
    intro h4 e
    have g : (d2 + u3) ≤ (u2 + d3) := by omega
    rw [Int.max_eq_left g] at e
    obtain rfl : h4 = -v2 + u2 + d3 := by omega
    clear e g
    intro U4 e
    have g : ((-v2 + u2 + d3) + v1) ≤ (u2 + d3) := by omega
    rw [Int.max_eq_left g] at e
    obtain rfl : U4 = u2 - d2 + d3 := by omega
    clear e g
    intro D4 e
    have g : ((-v2 + u2 + d3) + v3) ≤ (u2 + d3) := by omega
    rw [Int.max_eq_left g] at e
    obtain rfl : D4 = u2 - u3 + d3 := by omega
    clear e g
    intro V4 e
    have g : (d3 + u2) ≤ ((u2 - d2 + d3) + (u2 - u3 + d3)) := by omega
    rw [Int.max_eq_left g] at e
    obtain rfl : V4 = v2 + u2 - u3 - d2 + d3 := by omega
    clear e g
    intro h5 e
    have g : (d1 + (u2 - d2 + d3)) ≤ (u1 + d3) := by omega
    rw [Int.max_eq_left g] at e
    obtain rfl : h5 = -v1 + u1 + d3 := by omega
    clear e g
    intro U5 e
    have g : (u1 + d3) ≤ ((-v1 + u1 + d3) + v0) := by omega
    rw [Int.max_eq_right g] at e
    obtain rfl : U5 = v0 - v1 + u1 - d1 + d3 := by omega
    clear e g
    intro D5 e
    have g : (u1 + d3) ≤ ((-v1 + u1 + d3) + (v2 + u2 - u3 - d2 + d3)) := by omega
    rw [Int.max_eq_right g] at e
    obtain rfl : D5 = -v1 + v2 + u1 - u3 + d3 := by omega
    clear e g
    intro V5 e
    have g : (d3 + u1) ≤ ((v0 - v1 + u1 - d1 + d3) + (-v1 + v2 + u1 - u3 + d3)) := by omega
    rw [Int.max_eq_left g] at e
    obtain rfl : V5 = v0 - v1 + v2 + u1 - u3 - d1 + d3 := by omega
    clear e g
    intro h6 e
    have g : (u1 + (u2 - u3 + d3)) ≤ ((-v1 + v2 + u1 - u3 + d3) + u2) := by omega
    rw [Int.max_eq_right g] at e
    obtain rfl : h6 = -v1 + u1 + d2 := by omega
    clear e g
    intro U6 e
    have g : (u1 + (u2 - u3 + d3)) ≤ ((-v1 + u1 + d2) + (v0 - v1 + v2 + u1 - u3 - d1 + d3)) := by omega
    rw [Int.max_eq_right g] at e
    obtain rfl : U6 = v0 - v1 + u1 - d1 + d2 := by omega
    clear e g
    intro D6 e
    have g : ((-v1 + u1 + d2) + v3) ≤ (u1 + (u2 - u3 + d3)) := by omega
    rw [Int.max_eq_left g] at e
    obtain rfl : D6 = u1 - u3 + d3 := by omega
    clear e g
    intro V6 e
    have g : ((u2 - u3 + d3) + u1) ≤ ((v0 - v1 + u1 - d1 + d2) + (u1 - u3 + d3)) := by omega
    rw [Int.max_eq_left g] at e
    obtain rfl : V6 = v0 + u1 - u3 - d1 + d3 := by omega
    clear e g
    exact ⟨rfl, rfl, rfl, rfl, rfl, rfl⟩
  · rw [Int.max_eq_right g] at e
    obtain rfl : D2 = -v2 + v3 + u1 - u3 + d3 := by omega
    clear e
    intro V2 e
    have g : (d3 + u1) ≤ ((v0 - v2 + u1 - d1 + d3) + (-v2 + v3 + u1 - u3 + d3)) := by omega
    rw [Int.max_eq_left g] at e
    obtain rfl : V2 = v0 - v2 + v3 + u1 - u3 - d1 + d3 := by omega
    clear e g
    intro h3 e
    have g : (d2 + (v0 - v2 + u1 - d1 + d3)) ≤ ((v0 - v1 + u1 - d1 + d2) + d3) := by omega
    rw [Int.max_eq_left g] at e
    obtain rfl : h3 = -v2 + u2 + d3 := by omega
    clear e g
    intro U3 e
    have g : ((-v2 + u2 + d3) + v0) ≤ ((v0 - v1 + u1 - d1 + d2) + d3) := by omega
    rw [Int.max_eq_left g] at e
    obtain rfl : U3 = v0 - v1 + u1 - d1 + d3 := by omega
    clear e g
    intro D3 e
    have g : ((v0 - v1 + u1 - d1 + d2) + d3) ≤ ((-v2 + u2 + d3) + (v0 - v2 + v3 + u1 - u3 - d1 + d3)) := by omega
    rw [Int.max_eq_right g] at e
    obtain rfl : D3 = -v2 + v3 + u2 - u3 + d3 := by omega
    clear e g
    intro V3 e
    have g : (d3 + (v0 - v1 + u1 - d1 + d2)) ≤ ((v0 - v1 + u1 - d1 + d3) + (-v2 + v3 + u2 - u3 + d3)) := by omega
    rw [Int.max_eq_left g] at e
    obtain rfl : V3 = v0 - v1 + v3 + u1 - u3 - d1 + d3 := by omega
    clear e g
    intro h4 e
    have g : (d2 + u3) ≤ (u2 + d3) := by omega
    rw [Int.max_eq_left g] at e
    obtain rfl : h4 = -v2 + u2 + d3 := by omega
    clear e g
    intro U4 e
    have g : ((-v2 + u2 + d3) + v1) ≤ (u2 + d3) := by omega
    rw [Int.max_eq_left g] at e
    obtain rfl : U4 = u2 - d2 + d3 := by omega
    clear e g
    intro D4 e
    have g : (u2 + d3) ≤ ((-v2 + u2 + d3) + v3) := by omega
    rw [Int.max_eq_right g] at e
    obtain rfl : D4 = -v2 + v3 + u2 - u3 + d3 := by omega
    clear e g
    intro V4 e
    have g : (d3 + u2) ≤ ((u2 - d2 + d3) + (-v2 + v3 + u2 - u3 + d3)) := by omega
    rw [Int.max_eq_left g] at e
    obtain rfl : V4 = v3 + u2 - u3 - d2 + d3 := by omega
    clear e g
    intro h5 e
    have g : (d1 + (u2 - d2 + d3)) ≤ (u1 + d3) := by omega
    rw [Int.max_eq_left g] at e
    obtain rfl : h5 = -v1 + u1 + d3 := by omega
    clear e g
    intro U5 e
    have g : (u1 + d3) ≤ ((-v1 + u1 + d3) + v0) := by omega
    rw [Int.max_eq_right g] at e
    obtain rfl : U5 = v0 - v1 + u1 - d1 + d3 := by omega
    clear e g
    intro D5 e
    have g : (u1 + d3) ≤ ((-v1 + u1 + d3) + (v3 + u2 - u3 - d2 + d3)) := by omega
    rw [Int.max_eq_right g] at e
    obtain rfl : D5 = -v1 + v3 + u1 - u3 + d3 := by omega
    clear e g
    intro V5 e
    have g : (d3 + u1) ≤ ((v0 - v1 + u1 - d1 + d3) + (-v1 + v3 + u1 - u3 + d3)) := by omega
    rw [Int.max_eq_left g] at e
    obtain rfl : V5 = v0 - v1 + v3 + u1 - u3 - d1 + d3 := by omega
    clear e g
    intro h6 e
    have g : (u1 + (-v2 + v3 + u2 - u3 + d3)) ≤ ((-v1 + v3 + u1 - u3 + d3) + u2) := by omega
    rw [Int.max_eq_right g] at e
    obtain rfl : h6 = -v1 + u1 + d2 := by omega
    clear e g
    intro U6 e
    have g : (u1 + (-v2 + v3 + u2 - u3 + d3)) ≤ ((-v1 + u1 + d2) + (v0 - v1 + v3 + u1 - u3 - d1 + d3)) := by omega
    rw [Int.max_eq_right g] at e
    obtain rfl : U6 = v0 - v1 + u1 - d1 + d2 := by omega
    clear e g
    intro D6 e
    have g : ((-v1 + u1 + d2) + v3) ≤ (u1 + (-v2 + v3 + u2 - u3 + d3)) := by omega
    rw [Int.max_eq_left g] at e
    obtain rfl : D6 = -v2 + v3 + u1 - u3 + d3 := by omega
    clear e g
    intro V6 e
    have g : ((-v2 + v3 + u2 - u3 + d3) + u1) ≤ ((v0 - v1 + u1 - d1 + d2) + (-v2 + v3 + u1 - u3 + d3)) := by omega
    rw [Int.max_eq_left g] at e
    obtain rfl : V6 = v0 - v2 + v3 + u1 - u3 - d1 + d3 := by omega
    clear e g
    exact ⟨rfl, rfl, rfl, rfl, rfl, rfl⟩
set_option maxHeartbeats 4000000 in
set_option maxRecDepth 100000 in
theorem dy_c11 (v0 v1 v2 v3 u1 u2 u3 d1 d2 d3 : Int) (g0 : u2 + d1 ≤ u1 + d2) (g1 : v1 ≤ v0) (g2 : v1 ≤ v2) (g3 : v1 + u2 + d3 ≤ v2 + u3 + d2) (g4 : v3 + u3 + d2 ≤ v1 + u2 + d3) : ∀ V2 : Int, V2 = max ((v0 - v1 + u1 - u2 + u3 - d1 + d2) + (u1 - u3 + d3)) (d3 + u1) - (-v1 + u1 - u2 + u3 + d2) → ∀ h3 : Int, h3 = max ((v0 - v1 + u1 - d1 + d2) + d3) (d2 + (v0 - v1 + u1 - u2 + u3 - d1 + d2)) - (v0 - v1 + v2 + u1 - u2 - d1 + d2) → ∀ U3 : Int, U3 = max ((v0 - v1 + u1 - d1 + d2) + d3) (h3 + v0) - d2 → ∀ D3 : Int, D3 = max ((v0 - v1 + u1 - d1 + d2) + d3) (h3 + V2) - (v0 - v1 + u1 - u2 + u3 - d1 + d2) → ∀ V3 : Int, V3 = max (U3 + D3) (d3 + (v0 - v1 + u1 - d1 + d2)) - h3 → ∀ h4 : Int, h4 = max (u2 + d3) (d2 + u3) - v2 → ∀ U4 : Int, U4 = max (u2 + d3) (h4 + v1) - d2 → ∀ D4 : Int, D4 = max (u2 + d3) (h4 + v3) - u3 → ∀ V4 : Int, V4 = max (U4 + D4) (d3 + u2) - h4 → ∀ h5 : Int, h5 = max (u1 + d3) (d1 + U4) - v1 → ∀ U5 : Int, U5 = max (u1 + d3) (h5 + v0) - d1 → ∀ D5 : Int, D5 = max (u1 + d3) (h5 + V4) - U4 → ∀ V5 : Int, V5 = max (U5 + D5) (d3 + u1) - h5 → ∀ h6 : Int, h6 = max (u1 + D4) (D5 + u2) - V4 → ∀ U6 : Int, U6 = max (u1 + D4) (h6 + V5) - D5 → ∀ D6 : Int, D6 = max (u1 + D4) (h6 + v3) - u2 → ∀ V6 : Int, V6 = max (U6 + D6) (D4 + u1) - h6 → V3 = V5 ∧ U3 = U5 ∧ V2 = V6 ∧ (v0 - v1 + u1 - d1 + d2) = U6 ∧ D3 = D4 ∧ (u1 - u3 + d3) = D6 := by
  intro V2 e
  have g : (d3 + u1) ≤ ((v0 - v1 + u1 - u2 + u3 - d1 + d2) + (u1 - u3 + d3)) := by omega
  rw [Int.max_eq_left g] at e
  obtain rfl : V2 = v0 + u1 - u3 - d1 + d3 := by omega
  clear e g
  intro h3 e
  rcases Int.le_total (d2 + (v0 - v1 + u1 - u2 + u3 - d1 + d2)) ((v0 - v1 + u1 - d1 + d2) + d3) with g | g
  · rw [Int.max_eq_left g] at e
    obtain rfl : h3 = -v2 + u2 + d3 := by omega
    clear e
    intro U3 e
    have g : ((-v2 + u2 + d3) + v0) ≤ ((v0 - v1 + u1 - d1 + d2) + d3) := by omega
    rw [Int.max_eq_left g] at e
    obtain rfl : U3 = v0 - v1 + u1 - d1 + d3 := by omega
    clear e g
    intro D3 e
    have g : ((-v2 + u2 + d3) + (v0 + u1 - u3 - d1 + d3)) ≤ ((v0 - v1 + u1 - d1 + d2) + d3) := by omega
    rw [Int.max_eq_left g] at e
    obtain rfl : D3 = u2 - u3 + d3 := by omega
    clear e g
    intro V3 e
    have g : (d3 + (v0 - v1 + u1 - d1 + d2)) ≤ ((v0 - v1 + u1 - d1 + d3) + (u2 - u3 + d3)) := by omega
    rw [Int.max_eq_left g] at e
    obtain rfl : V3 = v0 - v1 + v2 + u1 - u3 - d1 + d3 := by omega
    clear e g
    intro h4 e
    have g : (d2 + u3) ≤ (u2 + d3) := by omega
    rw [Int.max_eq_left g] at e
    obtain rfl : h4 = -v2 + u2 + d3 := by omega
    clear e g
    intro U4 e
    have g : ((-v2 + u2 + d3) + v1) ≤ (u2 + d3) := by omega
    rw [Int.max_eq_left g] at e
    obtain rfl : U4 = u2 - d2 + d3 := by omega
    clear e g
    intro D4 e
    have g : ((-v2 + u2 + d3) + v3) ≤ (u2 + d3) := by omega
    rw [Int.max_eq_left g] at e
    obtain rfl : D4 = u2 - u3 + d3 := by omega
    clear e g
    intro V4 e
    have g : (d3 + u2) ≤ ((u2 - d2 + d3) + (u2 - u3 + d3)) := by omega
    rw [Int.max_eq_left g] at e
    obtain rfl : V4 = v2 + u2 - u3 - d2 + d3 := by omega
    clear e g
    intro h5 e
    have g : (d1 + (u2 - d2 + d3)) ≤ (u1 + d3) := by omega
    rw [Int.max_eq_left g] at e
    obtain rfl : h5 = -v1 + u1 + d3 := by omega
    clear e g
    intro U5 e
    have g : (u1 + d3) ≤ ((-v1 + u1 + d3) + v0) := by omega
    rw [Int.max_eq_right g] at e
    obtain rfl : U5 = v0 - v1 + u1 - d1 + d3 := by omega
    clear e g
    intro D5 e
    have g : (u1 + d3) ≤ ((-v1 + u1 + d3) + (v2 + u2 - u3 - d2 + d3)) := by omega
    rw [Int.max_eq_right g] at e
    obtain rfl : D5 = -v1 + v2 + u1 - u3 + d3 := by omega
    clear e g
    intro V5 e
    have g : (d3 + u1) ≤ ((v0 - v1 + u1 - d1 + d3) + (-v1 + v2 + u1 - u3 + d3)) := by omega
    rw [Int.max_eq_left g] at e
    obtain rfl : V5 = v0 - v1 + v2 + u1 - u3 - d1 + d3 := by omega
    clear e g
    intro h6 e
    have g : (u1 + (u2 - u3 + d3)) ≤ ((-v1 + v2 + u1 - u3 + d3) + u2) := by omega
    rw [Int.max_eq_right g] at e
    obtain rfl : h6 = -v1 + u1 + d2 := by omega
    clear e g
    intro U6 e
    have g : (u1 + (u2 - u3 + d3)) ≤ ((-v1 + u1 + d2) + (v0 - v1 + v2 + u1 - u3 - d1 + d3)) := by omega
    rw [Int.max_eq_right g] at e
    obtain rfl : U6 = v0 - v1 + u1 - d1 + d2 := by omega
    clear e g
    intro D6 e
    have g : ((-v1 + u1 + d2) + v3) ≤ (u1 + (u2 - u3 + d3)) := by omega
    rw [Int.max_eq_left g] at e
    obtain rfl : D6 = u1 - u3 + d3 := by omega
    clear e g
    intro V6 e
    have g : ((u2 - u3 + d3) + u1) ≤ ((v0 - v1 + u1 - d1 + d2) + (u1 - u3 + d3)) := by omega
    rw [Int.max_eq_left g] at e
    obtain rfl : V6 = v0 + u1 - u3 - d1 + d3 := by omega
    clear e g
    exact ⟨rfl, rfl, rfl, rfl, rfl, rfl⟩
  · rw [Int.max_eq_right g] at e
    obtain rfl : h3 = -v2 + u3 + d2 := by omega
    clear e
    intro U3 e
    rcases Int.le_total ((-v2 + u3 + d2) + v0) ((v0 - v1 + u1 - d1 + d2) + d3) with g | g
    · rw [Int.max_eq_left g] at e
      obtain rfl : U3 = v0 - v1 + u1 - d1 + d3 := by omega
      clear e
      intro D3 e
      have g : ((-v2 + u3 + d2) + (v0 + u1 - u3 - d1 + d3)) ≤ ((v0 - v1 + u1 - d1 + d2) + d3) := by omega
      rw [Int.max_eq_left g] at e
      obtain rfl : D3 = u2 - u3 + d3 := by omega
      clear e g
      intro V3 e
      have g : ((v0 - v1 + u1 - d1 + d3) + (u2 - u3 + d3)) ≤ (d3 + (v0 - v1 + u1 - d1 + d2)) := by omega
      rw [Int.max_eq_right g] at e
      obtain rfl : V3 = v0 - v1 + v2 + u1 - u3 - d1 + d3 := by omega
      clear e g
      intro h4 e
      have g : (u2 + d3) ≤ (d2 + u3) := by omega
      rw [Int.max_eq_right g] at e
      obtain rfl : h4 = -v2 + u3 + d2 := by omega
      clear e g
      intro U4 e
      rcases Int.le_total ((-v2 + u3 + d2) + v1) (u2 + d3) with g | g
      · rw [Int.max_eq_left g] at e
        obtain rfl : U4 = u2 - d2 + d3 := by omega
        clear e
        intro D4 e
        have g : ((-v2 + u3 + d2) + v3) ≤ (u2 + d3) := by omega
        rw [Int.max_eq_left g] at e
        obtain rfl : D4 = u2 - u3 + d3 := by omega
        clear e g
        intro V4 e
        have g : ((u2 - d2 + d3) + (u2 - u3 + d3)) ≤ (d3 + u2) := by omega
        rw [Int.max_eq_right g] at e
        obtain rfl : V4 = v2 + u2 - u3 - d2 + d3 := by omega
        clear e g
        intro h5 e
        have g : (d1 + (u2 - d2 + d3)) ≤ (u1 + d3) := by omega
        rw [Int.max_eq_left g] at e
        obtain rfl : h5 = -v1 + u1 + d3 := by omega
        clear e g
        intro U5 e
        have g : (u1 + d3) ≤ ((-v1 + u1 + d3) + v0) := by omega
        rw [Int.max_eq_right g] at e
        obtain rfl : U5 = v0 - v1 + u1 - d1 + d3 := by omega
        clear e g
        intro D5 e
        have g : (u1 + d3) ≤ ((-v1 + u1 + d3) + (v2 + u2 - u3 - d2 + d3)) := by omega
        rw [Int.max_eq_right g] at e
        obtain rfl : D5 = -v1 + v2 + u1 - u3 + d3 := by omega
        clear e g
        intro V5 e
        have g : (d3 + u1) ≤ ((v0 - v1 + u1 - d1 + d3) + (-v1 + v2 + u1 - u3 + d3)) := by omega
        rw [Int.max_eq_left g] at e
        obtain rfl : V5 = v0 - v1 + v2 + u1 - u3 - d1 + d3 := by omega
        clear e g
        intro h6 e
        have g : (u1 + (u2 - u3 + d3)) ≤ ((-v1 + v2 + u1 - u3 + d3) + u2) := by omega
        rw [Int.max_eq_right g] at e
        obtain rfl : h6 = -v1 + u1 + d2 := by omega
        clear e g
        intro U6 e
        have g : (u1 + (u2 - u3 + d3)) ≤ ((-v1 + u1 + d2) + (v0 - v1 + v2 + u1 - u3 - d1 + d3)) := by omega
        rw [Int.max_eq_right g] at e
        obtain rfl : U6 = v0 - v1 + u1 - d1 + d2 := by omega
        clear e g
        intro D6 e
        have g : ((-v1 + u1 + d2) + v3) ≤ (u1 + (u2 - u3 + d3)) := by omega
        rw [Int.max_eq_left g] at e
        obtain rfl : D6 = u1 - u3 + d3 := by omega
        clear e g
        intro V6 e
        have g : ((u2 - u3 + d3) + u1) ≤ ((v0 - v1 + u1 - d1 + d2) + (u1 - u3 + d3)) := by omega
        rw [Int.max_eq_left g] at e
        obtain rfl : V6 = v0 + u1 - u3 - d1 + d3 := by omega
        clear e g
        exact ⟨rfl, rfl, rfl, rfl, rfl, rfl⟩
      · rw [Int.max_eq_right g] at e
        obtain rfl : U4 = v1 - v2 + u3 := by omega
        clear e
        intro D4 e
        have g : ((-v2 + u3 + d2) + v3) ≤ (u2 + d3) := by omega
        rw [Int.max_eq_left g] at e
        obtain rfl : D4 = u2 - u3 + d3 := by omega
        clear e g
        intro V4 e
        have g : ((v1 - v2 + u3) + (u2 - u3 + d3)) ≤ (d3 + u2) := by omega
        rw [Int.max_eq_right g] at e
        obtain rfl : V4 = v2 + u2 - u3 - d2 + d3 := by omega
        clear e g
        intro h5 e
        have g : (d1 + (v1 - v2 + u3)) ≤ (u1 + d3) := by omega
        rw [Int.max_eq_left g] at e
        obtain rfl : h5 = -v1 + u1 + d3 := by omega
        clear e g
        intro U5 e
        have g : (u1 + d3) ≤ ((-v1 + u1 + d3) + v0) := by omega
        rw [Int.max_eq_right g] at e
        obtain rfl : U5 = v0 - v1 + u1 - d1 + d3 := by omega
        clear e g
        intro D5 e
        have g : ((-v1 + u1 + d3) + (v2 + u2 - u3 - d2 + d3)) ≤ (u1 + d3) := by omega
        rw [Int.max_eq_left g] at e
        obtain rfl : D5 = -v1 + v2 + u1 - u3 + d3 := by omega
        clear e g
        intro V5 e
        have g : (d3 + u1) ≤ ((v0 - v1 + u1 - d1 + d3) + (-v1 + v2 + u1 - u3 + d3)) := by omega
        rw [Int.max_eq_left g] at e
        obtain rfl : V5 = v0 - v1 + v2 + u1 - u3 - d1 + d3 := by omega
        clear e g
        intro h6 e
        have g : (u1 + (u2 - u3 + d3)) ≤ ((-v1 + v2 + u1 - u3 + d3) + u2) := by omega
        rw [Int.max_eq_right g] at e
        obtain rfl : h6 = -v1 + u1 + d2 := by omega
        clear e g
        intro U6 e
        have g : (u1 + (u2 - u3 + d3)) ≤ ((-v1 + u1 + d2) + (v0 - v1 + v2 + u1 - u3 - d1 + d3)) := by omega
        rw [Int.max_eq_right g] at e
        obtain rfl : U6 = v0 - v1 + u1 - d1 + d2 := by omega
        clear e g
        intro D6 e
        have g : ((-v1 + u1 + d2) + v3) ≤ (u1 + (u2 - u3 + d3)) := by omega
        rw [Int.max_eq_left g] at e
        obtain rfl : D6 = u1 - u3 + d3 := by omega
        clear e g
        intro V6 e
        have g : ((u2 - u3 + d3) + u1) ≤ ((v0 - v1 + u1 - d1 + d2) + (u1 - u3 + d3)) := by omega
        rw [Int.max_eq_left g] at e
        obtain rfl : V6 = v0 + u1 - u3 - d1 + d3 := by omega
        clear e g
        exact ⟨rfl, rfl, rfl, rfl, rfl, rfl⟩
    · rw [Int.max_eq_right g] at e
      obtain rfl : U3 = v0 - v2 + u3 := by omega
      clear e
      intro D3 e
      have g : ((-v2 + u3 + d2) + (v0 + u1 - u3 - d1 + d3)) ≤ ((v0 - v1 + u1 - d1 + d2) + d3) := by omega
      rw [Int.max_eq_left g] at e
      obtain rfl : D3 = u2 - u3 + d3 := by omega
      clear e g
      intro V3 e
      have g : ((v0 - v2 + u3) + (u2 - u3 + d3)) ≤ (d3 + (v0 - v1 + u1 - d1 + d2)) := by omega
      rw [Int.max_eq_right g] at e
      obtain rfl : V3 = v0 - v1 + v2 + u1 - u3 - d1 + d3 := by omega
      clear e g
      intro h4 e
      have g : (u2 + d3) ≤ (d2 + u3) := by omega
      rw [Int.max_eq_right g] at e
      obtain rfl : h4 = -v2 + u3 + d2 := by omega
      clear e g
      intro U4 e
      have g : (u2 + d3) ≤ ((-v2 + u3 + d2) + v1) := by omega
      rw [Int.max_eq_right g] at e
      obtain rfl : U4 = v1 - v2 + u3 := by omega
      clear e g
      intro D4 e
      have g : ((-v2 + u3 + d2) + v3) ≤ (u2 + d3) := by omega
      rw [Int.max_eq_left g] at e
      obtain rfl : D4 = u2 - u3 + d3 := by omega
      clear e g
      intro V4 e
      have g : ((v1 - v2 + u3) + (u2 - u3 + d3)) ≤ (d3 + u2) := by omega
      rw [Int.max_eq_right g] at e
      obtain rfl : V4 = v2 + u2 - u3 - d2 + d3 := by omega
      clear e g
      intro h5 e
      have g : (u1 + d3) ≤ (d1 + (v1 - v2 + u3)) := by omega
      rw [Int.max_eq_right g] at e
      obtain rfl : h5 = -v2 + u3 + d1 := by omega
      clear e g
      intro U5 e
      have g : (u1 + d3) ≤ ((-v2 + u3 + d1) + v0) := by omega
      rw [Int.max_eq_right g] at e
      obtain rfl : U5 = v0 - v2 + u3 := by omega
      clear e g
      intro D5 e
      have g : ((-v2 + u3 + d1) + (v2 + u2 - u3 - d2 + d3)) ≤ (u1 + d3) := by omega
      rw [Int.max_eq_left g] at e
      obtain rfl : D5 = -v1 + v2 + u1 - u3 + d3 := by omega
      clear e g
      intro V5 e
      have g : (d3 + u1) ≤ ((v0 - v2 + u3) + (-v1 + v2 + u1 - u3 + d3)) := by omega
      rw [Int.max_eq_left g] at e
      obtain rfl : V5 = v0 - v1 + v2 + u1 - u3 - d1 + d3 := by omega
      clear e g
      intro h6 e
      have g : (u1 + (u2 - u3 + d3)) ≤ ((-v1 + v2 + u1 - u3 + d3) + u2) := by omega
      rw [Int.max_eq_right g] at e
      obtain rfl : h6 = -v1 + u1 + d2 := by omega
      clear e g
      intro U6 e
      have g : (u1 + (u2 - u3 + d3)) ≤ ((-v1 + u1 + d2) + (v0 - v1 + v2 + u1 - u3 - d1 + d3)) := by omega
      rw [Int.max_eq_right g] at e
      obtain rfl : U6 = v0 - v1 + u1 - d1 + d2 := by omega
      clear e g
      intro D6 e
      have g : ((-v1 + u1 + d2) + v3) ≤ (u1 + (u2 - u3 + d3)) := by omega
      rw [Int.max_eq_left g] at e
      obtain rfl : D6 = u1 - u3 + d3 := by omega
      clear e g
      intro V6 e
      have g : ((u2 - u3 + d3) + u1) ≤ ((v0 - v1 + u1 - d1 + d2) + (u1 - u3 + d3)) := by omega
      rw [Int.max_eq_left g] at e
      obtain rfl : V6 = v0 + u1 - u3 - d1 + d3 := by omega
      clear e g
      exact ⟨rfl, rfl, rfl, rfl, rfl, rfl⟩
set_option maxHeartbeats 4000000 in
set_option maxRecDepth 100000 in
theorem dy_c12 (v0 v1 v2 v3 u1 u2 u3 d1 d2 d3 : Int) (g0 : u2 + d1 ≤ u1 + d2) (g1 : v1 ≤ v0) (g2 : v1 ≤ v2) (g3 : v1 + u2 + d3 ≤ v2 + u3 + d2) (g4 : v1 + u2 + d3 ≤ v3 + u3 + d2) (g5 : u3 + d2 ≤ u2 + d3) : ∀ U3 : Int, U3 = max ((v0 - v1 + u1 - d1 + d2) + d3) ((-v2 + u2 + d3) + v0) - d2 → ∀ D3 : Int, D3 = max ((v0 - v1 + u1 - d1 + d2) + d3) ((-v2 + u2 + d3) + (v0 - v1 + v3 + u1 - u2 - d1 + d2)) - (v0 - v1 + u1 - u2 + u3 - d1 + d2) → ∀ V3 : Int, V3 = max (U3 + D3) (d3 + (v0 - v1 + u1 - d1 + d2)) - (-v2 + u2 + d3) → ∀ h4 : Int, h4 = max (u2 + d3) (d2 + u3) - v2 → ∀ U4 : Int, U4 = max (u2 + d3) (h4 + v1) - d2 → ∀ D4 : Int, D4 = max (u2 + d3) (h4 + v3) - u3 → ∀ V4 : Int, V4 = max (U4 + D4) (d3 + u2) - h4 → ∀ h5 : Int, h5 = max (u1 + d3) (d1 + U4) - v1 → ∀ U5 : Int, U5 = max (u1 + d3) (h5 + v0) - d1 → ∀ D5 : Int, D5 = max (u1 + d3) (h5 + V4) - U4 → ∀ V5 : Int, V5 = max (U5 + D5) (d3 + u1) - h5 → ∀ h6 : Int, h6 = max (u1 + D4) (D5 + u2) - V4 → ∀ U6 : Int, U6 = max (u1 + D4) (h6 + V5) - D5 → ∀ D6 : Int, D6 = max (u1 + D4) (h6 + v3) - u2 → ∀ V6 : Int, V6 = max (U6 + D6) (D4 + u1) - h6 → V3 = V5 ∧ U3 = U5 ∧ (v0 - v1 + v3 + u1 - u2 - d1 + d2) = V6 ∧ (v0 - v1 + u1 - d1 + d2) = U6 ∧ D3 = D4 ∧ (-v1 + v3 + u1 - u2 + d2) = D6 := by
  intro U3 e
  have g : ((-v2 + u2 + d3) + v0) ≤ ((v0 - v1 + u1 - d1 + d2) + d3) := by omega
  rw [Int.max_eq_left g] at e
  obtain rfl : U3 = v0 - v1 + u1 - d1 + d3 := by omega
  clear e g
  intro D3 e
  rcases Int.le_total ((-v2 + u2 + d3) + (v0 - v1 + v3 + u1 - u2 - d1 + d2)) ((v0 - v1 + u1 - d1 + d2) + d3) with g | g
  · rw [Int.max_eq_left g] at e
    obtain rfl : D3 = u2 - u3 + d3 := by omega
    clear e
    intro V3 e
    have g : (d3 + (v0 - v1 + u1 - d1 + d2)) ≤ ((v0 - v1 + u1 - d1 + d3) + (u2 - u3 + d3)) := by omega
    rw [Int.max_eq_left g] at e
    obtain rfl : V3 = v0 - v1 + v2 + u1 - u3 - d1 + d3 := by omega
    clear e g
    intro h4 e
    have g : (d2 + u3) ≤ (u2 + d3) := by omega
    rw [Int.max_eq_left g] at e
    obtain rfl : h4 = -v2 + u2 + d3 := by omega
    clear e g
    intro U4 e
    have g : ((-v2 + u2 + d3) + v1) ≤ (u2 + d3) := by omega
    rw [Int.max_eq_left g] at e
    obtain rfl : U4 = u2 - d2 + d3 := by omega
    clear e g
    intro D4 e
    have g : ((-v2 + u2 + d3) + v3) ≤ (u2 + d3) := by omega
    rw [Int.max_eq_left g] at e
    obtain rfl : D4 = u2 - u3 + d3 := by omega
    clear e g
    intro V4 e
    have g : (d3 + u2) ≤ ((u2 - d2 + d3) + (u2 - u3 + d3)) := by omega
    rw [Int.max_eq_left g] at e
    obtain rfl : V4 = v2 + u2 - u3 - d2 + d3 := by omega
    clear e g
    intro h5 e
    have g : (d1 + (u2 - d2 + d3)) ≤ (u1 + d3) := by omega
    rw [Int.max_eq_left g] at e
    obtain rfl : h5 = -v1 + u1 + d3 := by omega
    clear e g
    intro U5 e
    have g : (u1 + d3) ≤ ((-v1 + u1 + d3) + v0) := by omega
    rw [Int.max_eq_right g] at e
    obtain rfl : U5 = v0 - v1 + u1 - d1 + d3 := by omega
    clear e g
    intro D5 e
    have g : (u1 + d3) ≤ ((-v1 + u1 + d3) + (v2 + u2 - u3 - d2 + d3)) := by omega
    rw [Int.max_eq_right g] at e
    obtain rfl : D5 = -v1 + v2 + u1 - u3 + d3 := by omega
    clear e g
    intro V5 e
    have g : (d3 + u1) ≤ ((v0 - v1 + u1 - d1 + d3) + (-v1 + v2 + u1 - u3 + d3)) := by omega
    rw [Int.max_eq_left g] at e
    obtain rfl : V5 = v0 - v1 + v2 + u1 - u3 - d1 + d3 := by omega
    clear e g
    intro h6 e
    have g : (u1 + (u2 - u3 + d3)) ≤ ((-v1 + v2 + u1 - u3 + d3) + u2) := by omega
    rw [Int.max_eq_right g] at e
    obtain rfl : h6 = -v1 + u1 + d2 := by omega
    clear e g
    intro U6 e
    have g : (u1 + (u2 - u3 + d3)) ≤ ((-v1 + u1 + d2) + (v0 - v1 + v2 + u1 - u3 - d1 + d3)) := by omega
    rw [Int.max_eq_right g] at e
    obtain rfl : U6 = v0 - v1 + u1 - d1 + d2 := by omega
    clear e g
    intro D6 e
    have g : (u1 + (u2 - u3 + d3)) ≤ ((-v1 + u1 + d2) + v3) := by omega
    rw [Int.max_eq_right g] at e
    obtain rfl : D6 = -v1 + v3 + u1 - u2 + d2 := by omega
    clear e g
    intro V6 e
    have g : ((u2 - u3 + d3) + u1) ≤ ((v0 - v1 + u1 - d1 + d2) + (-v1 + v3 + u1 - u2 + d2)) := by omega
    rw [Int.max_eq_left g] at e
    obtain rfl : V6 = v0 - v1 + v3 + u1 - u2 - d1 + d2 := by omega
    clear e g
    exact ⟨rfl, rfl, rfl, rfl, rfl, rfl⟩
  · rw [Int.max_eq_right g] at e
    obtain rfl : D3 = -v2 + v3 + u2 - u3 + d3 := by omega
    clear e
    intro V3 e
    have g : (d3 + (v0 - v1 + u1 - d1 + d2)) ≤ ((v0 - v1 + u1 - d1 + d3) + (-v2 + v3 + u2 - u3 + d3)) := by omega
    rw [Int.max_eq_left g] at e
    obtain rfl : V3 = v0 - v1 + v3 + u1 - u3 - d1 + d3 := by omega
    clear e g
    intro h4 e
    have g : (d2 + u3) ≤ (u2 + d3) := by omega
    rw [Int.max_eq_left g] at e
    obtain rfl : h4 = -v2 + u2 + d3 := by omega
    clear e g
    intro U4 e
    have g : ((-v2 + u2 + d3) + v1) ≤ (u2 + d3) := by omega
    rw [Int.max_eq_left g] at e
    obtain rfl : U4 = u2 - d2 + d3 := by omega
    clear e g
    intro D4 e
    have g : (u2 + d3) ≤ ((-v2 + u2 + d3) + v3) := by omega
    rw [Int.max_eq_right g] at e
    obtain rfl : D4 = -v2 + v3 + u2 - u3 + d3 := by omega
    clear e g
    intro V4 e
    have g : (d3 + u2) ≤ ((u2 - d2 + d3) + (-v2 + v3 + u2 - u3 + d3)) := by omega
    rw [Int.max_eq_left g] at e
    obtain rfl : V4 = v3 + u2 - u3 - d2 + d3 := by omega
    clear e g
    intro h5 e
    have g : (d1 + (u2 - d2 + d3)) ≤ (u1 + d3) := by omega
    rw [Int.max_eq_left g] at e
    obtain rfl : h5 = -v1 + u1 + d3 := by omega
    clear e g
    intro U5 e
    have g : (u1 + d3) ≤ ((-v1 + u1 + d3) + v0) := by omega
    rw [Int.max_eq_right g] at e
    obtain rfl : U5 = v0 - v1 + u1 - d1 + d3 := by omega
    clear e g
    intro D5 e
    have g : (u1 + d3) ≤ ((-v1 + u1 + d3) + (v3 + u2 - u3 - d2 + d3)) := by omega
    rw [Int.max_eq_right g] at e
    obtain rfl : D5 = -v1 + v3 + u1 - u3 + d3 := by omega
    clear e g
    intro V5 e
    have g : (d3 + u1) ≤ ((v0 - v1 + u1 - d1 + d3) + (-v1 + v3 + u1 - u3 + d3)) := by omega
    rw [Int.max_eq_left g] at e
    obtain rfl : V5 = v0 - v1 + v3 + u1 - u3 - d1 + d3 := by omega
    clear e g
    intro h6 e
    have g : (u1 + (-v2 + v3 + u2 - u3 + d3)) ≤ ((-v1 + v3 + u1 - u3 + d3) + u2) := by omega
    rw [Int.max_eq_right g] at e
    obtain rfl : h6 = -v1 + u1 + d2 := by omega
    clear e g
    intro U6 e
    have g : (u1 + (-v2 + v3 + u2 - u3 + d3)) ≤ ((-v1 + u1 + d2) + (v0 - v1 + v3 + u1 - u3 - d1 + d3)) := by omega
    rw [Int.max_eq_right g] at e
    obtain rfl : U6 = v0 - v1 + u1 - d1 + d2 := by omega
    clear e g
    intro D6 e
    have g : (u1 + (-v2 + v3 + u2 - u3 + d3)) ≤ ((-v1 + u1 + d2) + v3) := by omega
    rw [Int.max_eq_right g] at e
    obtain rfl : D6 = -v1 + v3 + u1 - u2 + d2 := by omega
    clear e g
    intro V6 e
    have g : ((-v2 + v3 + u2 - u3 + d3) + u1) ≤ ((v0 - v1 + u1 - d1 + d2) + (-v1 + v3 + u1 - u2 + d2)) := by omega
    rw [Int.max_eq_left g] at e
    obtain rfl : V6 = v0 - v1 + v3 + u1 - u2 - d1 + d2 := by omega
    clear e g
    exact ⟨rfl, rfl, rfl, rfl, rfl, rfl⟩
set_option maxHeartbeats 4000000 in
set_option maxRecDepth 100000 in
theorem dy_c13 (v0 v1 v2 v3 u1 u2 u3 d1 d2 d3 : Int) (g0 : u2 + d1 ≤ u1 + d2) (g1 : v1 ≤ v0) (g2 : v1 ≤ v2) (g3 : v1 + u2 + d3 ≤ v2 + u3 + d2) (g4 : v1 + u2 + d3 ≤ v3 + u3 + d2) (g5 : u2 + d3 ≤ u3 + d2) : ∀ U3 : Int, U3 = max ((v0 - v1 + u1 - d1 + d2) + d3) ((-v2 + u3 + d2) + v0) - d2 → ∀ D3 : Int, D3 = max ((v0 - v1 + u1 - d1 + d2) + d3) ((-v2 + u3 + d2) + (v0 - v1 + v3 + u1 - u2 - d1 + d2)) - (v0 - v1 + u1 - u2 + u3 - d1 + d2) → ∀ V3 : Int, V3 = max (U3 + D3) (d3 + (v0 - v1 + u1 - d1 + d2)) - (-v2 + u3 + d2) → ∀ h4 : Int, h4 = max (u2 + d3) (d2 + u3) - v2 → ∀ U4 : Int, U4 = max (u2 + d3) (h4 + v1) - d2 → ∀ D4 : Int, D4 = max (u2 + d3) (h4 + v3) - u3 → ∀ V4 : Int, V4 = max (U4 + D4) (d3 + u2) - h4 → ∀ h5 : Int, h5 = max (u1 + d3) (d1 + U4) - v1 → ∀ U5 : Int, U5 = max (u1 + d3) (h5 + v0) - d1 → ∀ D5 : Int, D5 = max (u1 + d3) (h5 + V4) - U4 → ∀ V5 : Int, V5 = max (U5 + D5) (d3 + u1) - h5 → ∀ h6 : Int, h6 = max (u1 + D4) (D5 + u2) - V4 → ∀ U6 : Int, U6 = max (u1 + D4) (h6 + V5) - D5 → ∀ D6 : Int, D6 = max (u1 + D4) (h6 + v3) - u2 → ∀ V6 : Int, V6 = max (U6 + D6) (D4 + u1) - h6 → V3 = V5 ∧ U3 = U5 ∧ (v0 - v1 + v3 + u1 - u2 - d1 + d2) = V6 ∧ (v0 - v1 + u1 - d1 + d2) = U6 ∧ D3 = D4 ∧ (-v1 + v3 + u1 - u2 + d2) = D6 := by
  intro U3 e
  rcases Int.le_total ((-v2 + u3 + d2) + v0) ((v0 - v1 + u1 - d1 + d2) + d3) with g | g
  · rw [Int.max_eq_left g] at e
    obtain rfl : U3 = v0 - v1 + u1 - d1 + d3 := by omega
    clear e
    intro D3 e
    rcases Int.le_total ((-v2 + u3 + d2) + (v0 - v1 + v3 + u1 - u2 - d1 + d2)) ((v0 - v1 + u1 - d1 + d2) + d3) with g | g
    · rw [Int.max_eq_left g] at e
      obtain rfl : D3 = u2 - u3 + d3 := by omega
      clear e
      intro V3 e
      have g : ((v0 - v1 + u1 - d1 + d3) + (u2 - u3 + d3)) ≤ (d3 + (v0 - v1 + u1 - d1 + d2)) := by omega
      rw [Int.max_eq_right g] at e
      obtain rfl : V3 = v0 - v1 + v2 + u1 - u3 - d1 + d3 := by omega
      clear e g
      intro h4 e
      have g : (u2 + d3) ≤ (d2 + u3) := by omega
      rw [Int.max_eq_right g] at e
      obtain rfl : h4 = -v2 + u3 + d2 := by omega
      clear e g
      intro U4 e
      rcases Int.le_total ((-v2 + u3 + d2) + v1) (u2 + d3) with g | g
      · rw [Int.max_eq_left g] at e
        obtain rfl : U4 = u2 - d2 + d3 := by omega
        clear e
        intro D4 e
        have g : ((-v2 + u3 + d2) + v3) ≤ (u2 + d3) := by omega
        rw [Int.max_eq_left g] at e
        obtain rfl : D4 = u2 - u3 + d3 := by omega
        clear e g
        intro V4 e
        have g : ((u2 - d2 + d3) + (u2 - u3 + d3)) ≤ (d3 + u2) := by omega
        rw [Int.max_eq_right g] at e
        obtain rfl : V4 = v2 + u2 - u3 - d2 + d3 := by omega
        clear e g
        intro h5 e
        have g : (d1 + (u2 - d2 + d3)) ≤ (u1 + d3) := by omega
        rw [Int.max_eq_left g] at e
        obtain rfl : h5 = -v1 + u1 + d3 := by omega
        clear e g
        intro U5 e
        have g : (u1 + d3) ≤ ((-v1 + u1 + d3) + v0) := by omega
        rw [Int.max_eq_right g] at e
        obtain rfl : U5 = v0 - v1 + u1 - d1 + d3 := by omega
        clear e g
        intro D5 e
        have g : (u1 + d3) ≤ ((-v1 + u1 + d3) + (v2 + u2 - u3 - d2 + d3)) := by omega
        rw [Int.max_eq_right g] at e
        obtain rfl : D5 = -v1 + v2 + u1 - u3 + d3 := by omega
        clear e g
        intro V5 e
        have g : (d3 + u1) ≤ ((v0 - v1 + u1 - d1 + d3) + (-v1 + v2 + u1 - u3 + d3)) := by omega
        rw [Int.max_eq_left g] at e
        obtain rfl : V5 = v0 - v1 + v2 + u1 - u3 - d1 + d3 := by omega
        clear e g
        intro h6 e
        have g : (u1 + (u2 - u3 + d3)) ≤ ((-v1 + v2 + u1 - u3 + d3) + u2) := by omega
        rw [Int.max_eq_right g] at e
        obtain rfl : h6 = -v1 + u1 + d2 := by omega
        clear e g
        intro U6 e
        have g : (u1 + (u2 - u3 + d3)) ≤ ((-v1 + u1 + d2) + (v0 - v1 + v2 + u1 - u3 - d1 + d3)) := by omega
        rw [Int.max_eq_right g] at e
        obtain rfl : U6 = v0 - v1 + u1 - d1 + d2 := by omega
        clear e g
        intro D6 e
        have g : (u1 + (u2 - u3 + d3)) ≤ ((-v1 + u1 + d2) + v3) := by omega
        rw [Int.max_eq_right g] at e
        obtain rfl : D6 = -v1 + v3 + u1 - u2 + d2 := by omega
        clear e g
        intro V6 e
        have g : ((u2 - u3 + d3) + u1) ≤ ((v0 - v1 + u1 - d1 + d2) + (-v1 + v3 + u1 - u2 + d2)) := by omega
        rw [Int.max_eq_left g] at e
        obtain rfl : V6 = v0 - v1 + v3 + u1 - u2 - d1 + d2 := by omega
        clear e g
        exact ⟨rfl, rfl, rfl, rfl, rfl, rfl⟩
      · rw [Int.max_eq_right g] at e
        obtain rfl : U4 = v1 - v2 + u3 := by omega
        clear e
        intro D4 e
        have g : ((-v2 + u3 + d2) + v3) ≤ (u2 + d3) := by omega
        rw [Int.max_eq_left g] at e
        obtain rfl : D4 = u2 - u3 + d3 := by omega
        clear e g
        intro V4 e
        have g : ((v1 - v2 + u3) + (u2 - u3 + d3)) ≤ (d3 + u2) := by omega
        rw [Int.max_eq_right g] at e
        obtain rfl : V4 = v2 + u2 - u3 - d2 + d3 := by omega
        clear e g
        intro h5 e
        have g : (d1 + (v1 - v2 + u3)) ≤ (u1 + d3) := by omega
        rw [Int.max_eq_left g] at e
        obtain rfl : h5 = -v1 + u1 + d3 := by omega
        clear e g
        intro U5 e
        have g : (u1 + d3) ≤ ((-v1 + u1 + d3) + v0) := by omega
        rw [Int.max_eq_right g] at e
        obtain rfl : U5 = v0 - v1 + u1 - d1 + d3 := by omega
        clear e g
        intro D5 e
        have g : ((-v1 + u1 + d3) + (v2 + u2 - u3 - d2 + d3)) ≤ (u1 + d3) := by omega
        rw [Int.max_eq_left g] at e
        obtain rfl : D5 = -v1 + v2 + u1 - u3 + d3 := by omega
        clear e g
        intro V5 e
        have g : (d3 + u1) ≤ ((v0 - v1 + u1 - d1 + d3) + (-v1 + v2 + u1 - u3 + d3)) := by omega
        rw [Int.max_eq_left g] at e
        obtain rfl : V5 = v0 - v1 + v2 + u1 - u3 - d1 + d3 := by omega
        clear e g
        intro h6 e
        have g : (u1 + (u2 - u3 + d3)) ≤ ((-v1 + v2 + u1 - u3 + d3) + u2) := by omega
        rw [Int.max_eq_right g] at e
        obtain rfl : h6 = -v1 + u1 + d2 := by omega
        clear e g
        intro U6 e
        have g : (u1 + (u2 - u3 + d3)) ≤ ((-v1 + u1 + d2) + (v0 - v1 + v2 + u1 - u3 - d1 + d3)) := by omega
        rw [Int.max_eq_right g] at e
        obtain rfl : U6 = v0 - v1 + u1 - d1 + d2 := by omega
        clear e g
        intro D6 e
        have g : (u1 + (u2 - u3 + d3)) ≤ ((-v1 + u1 + d2) + v3) := by omega
        rw [Int.max_eq_right g] at e
        obtain rfl : D6 = -v1 + v3 + u1 - u2 + d2 := by omega
        clear e g
        intro V6 e
        have g : ((u2 - u3 + d3) + u1) ≤ ((v0 - v1 + u1 - d1 + d2) + (-v1 + v3 + u1 - u2 + d2)) := by omega
        rw [Int.max_eq_left g] at e
        obtain rfl : V6 = v0 - v1 + v3 + u1 - u2 - d1 + d2 := by omega
        clear e g
        exact ⟨rfl, rfl, rfl, rfl, rfl, rfl⟩
    · rw [Int.max_eq_right g] at e
      obtain rfl : D3 = -v2 + v3 + d2 := by omega
      clear e
      intro V3 e
      rcases Int.le_total (d3 + (v0 - v1 + u1 - d1 + d2)) ((v0 - v1 + u1 - d1 + d3) + (-v2 + v3 + d2)) with g | g
      · rw [Int.max_eq_left g] at e
        obtain rfl : V3 = v0 - v1 + v3 + u1 - u3 - d1 + d3 := by omega
        clear e
        intro h4 e
        have g : (u2 + d3) ≤ (d2 + u3) := by omega
        rw [Int.max_eq_right g] at e
        obtain rfl : h4 = -v2 + u3 + d2 := by omega
        clear e g
        intro U4 e
        rcases Int.le_total ((-v2 + u3 + d2) + v1) (u2 + d3) with g | g
        · rw [Int.max_eq_left g] at e
          obtain rfl : U4 = u2 - d2 + d3 := by omega
          clear e
          intro D4 e
          have g : (u2 + d3) ≤ ((-v2 + u3 + d2) + v3) := by omega
          rw [Int.max_eq_right g] at e
          obtain rfl : D4 = -v2 + v3 + d2 := by omega
          clear e g
          intro V4 e
          have g : (d3 + u2) ≤ ((u2 - d2 + d3) + (-v2 + v3 + d2)) := by omega
          rw [Int.max_eq_left g] at e
          obtain rfl : V4 = v3 + u2 - u3 - d2 + d3 := by omega
          clear e g
          intro h5 e
          have g : (d1 + (u2 - d2 + d3)) ≤ (u1 + d3) := by omega
          rw [Int.max_eq_left g] at e
          obtain rfl : h5 = -v1 + u1 + d3 := by omega
          clear e g
          intro U5 e
          have g : (u1 + d3) ≤ ((-v1 + u1 + d3) + v0) := by omega
          rw [Int.max_eq_right g] at e
          obtain rfl : U5 = v0 - v1 + u1 - d1 + d3 := by omega
          clear e g
          intro D5 e
          have g : (u1 + d3) ≤ ((-v1 + u1 + d3) + (v3 + u2 - u3 - d2 + d3)) := by omega
          rw [Int.max_eq_right g] at e
          obtain rfl : D5 = -v1 + v3 + u1 - u3 + d3 := by omega
          clear e g
          intro V5 e
          have g : (d3 + u1) ≤ ((v0 - v1 + u1 - d1 + d3) + (-v1 + v3 + u1 - u3 + d3)) := by omega
          rw [Int.max_eq_left g] at e
          obtain rfl : V5 = v0 - v1 + v3 + u1 - u3 - d1 + d3 := by omega
          clear e g
          intro h6 e
          have g : (u1 + (-v2 + v3 + d2)) ≤ ((-v1 + v3 + u1 - u3 + d3) + u2) := by omega
          rw [Int.max_eq_right g] at e
          obtain rfl : h6 = -v1 + u1 + d2 := by omega
          clear e g
          intro U6 e
          have g : (u1 + (-v2 + v3 + d2)) ≤ ((-v1 + u1 + d2) + (v0 - v1 + v3 + u1 - u3 - d1 + d3)) := by omega
          rw [Int.max_eq_right g] at e
          obtain rfl : U6 = v0 - v1 + u1 - d1 + d2 := by omega
          clear e g
          intro D6 e
          have g : (u1 + (-v2 + v3 + d2)) ≤ ((-v1 + u1 + d2) + v3) := by omega
          rw [Int.max_eq_right g] at e
          obtain rfl : D6 = -v1 + v3 + u1 - u2 + d2 := by omega
          clear e g
          intro V6 e
          have g : ((-v2 + v3 + d2) + u1) ≤ ((v0 - v1 + u1 - d1 + d2) + (-v1 + v3 + u1 - u2 + d2)) := by omega
          rw [Int.max_eq_left g] at e
          obtain rfl : V6 = v0 - v1 + v3 + u1 - u2 - d1 + d2 := by omega
          clear e g
          exact ⟨rfl, rfl, rfl, rfl, rfl, rfl⟩
        · rw [Int.max_eq_right g] at e
          obtain rfl : U4 = v1 - v2 + u3 := by omega
          clear e
          intro D4 e
          have g : (u2 + d3) ≤ ((-v2 + u3 + d2) + v3) := by omega
          rw [Int.max_eq_right g] at e
          obtain rfl : D4 = -v2 + v3 + d2 := by omega
          clear e g
          intro V4 e
          have g : (d3 + u2) ≤ ((v1 - v2 + u3) + (-v2 + v3 + d2)) := by omega
          rw [Int.max_eq_left g] at e
          obtain rfl : V4 = v1 - v2 + v3 := by omega
          clear e g
          intro h5 e
          have g : (d1 + (v1 - v2 + u3)) ≤ (u1 + d3) := by omega
          rw [Int.max_eq_left g] at e
          obtain rfl : h5 = -v1 + u1 + d3 := by omega
          clear e g
          intro U5 e
          have g : (u1 + d3) ≤ ((-v1 + u1 + d3) + v0) := by omega
          rw [Int.max_eq_right g] at e
          obtain rfl : U5 = v0 - v1 + u1 - d1 + d3 := by omega
          clear e g
          intro D5 e
          have g : (u1 + d3) ≤ ((-v1 + u1 + d3) + (v1 - v2 + v3)) := by omega
          rw [Int.max_eq_right g] at e
          obtain rfl : D5 = -v1 + v3 + u1 - u3 + d3 := by omega
          clear e g
          intro V5 e
          have g : (d3 + u1) ≤ ((v0 - v1 + u1 - d1 + d3) + (-v1 + v3 + u1 - u3 + d3)) := by omega
          rw [Int.max_eq_left g] at e
          obtain rfl : V5 = v0 - v1 + v3 + u1 - u3 - d1 + d3 := by omega
          clear e g
          intro h6 e
          have g : ((-v1 + v3 + u1 - u3 + d3) + u2) ≤ (u1 + (-v2 + v3 + d2)) := by omega
          rw [Int.max_eq_left g] at e
          obtain rfl : h6 = -v1 + u1 + d2 := by omega
          clear e g
          intro U6 e
          have g : (u1 + (-v2 + v3 + d2)) ≤ ((-v1 + u1 + d2) + (v0 - v1 + v3 + u1 - u3 - d1 + d3)) := by omega
          rw [Int.max_eq_right g] at e
          obtain rfl : U6 = v0 - v1 + u1 - d1 + d2 := by omega
          clear e g
          intro D6 e
          have g : (u1 + (-v2 + v3 + d2)) ≤ ((-v1 + u1 + d2) + v3) := by omega
          rw [Int.max_eq_right g] at e
          obtain rfl : D6 = -v1 + v3 + u1 - u2 + d2 := by omega
          clear e g
          intro V6 e
          have g : ((-v2 + v3 + d2) + u1) ≤ ((v0 - v1 + u1 - d1 + d2) + (-v1 + v3 + u1 - u2 + d2)) := by omega
          rw [Int.max_eq_left g] at e
          obtain rfl : V6 = v0 - v1 + v3 + u1 - u2 - d1 + d2 := by omega
          clear e g
          exact ⟨rfl, rfl, rfl, rfl, rfl, rfl⟩
      · rw [Int.max_eq_right g] at e
        obtain rfl : V3 = v0 - v1 + v2 + u1 - u3 - d1 + d3 := by omega
        clear e
        intro h4 e
        have g : (u2 + d3) ≤ (d2 + u3) := by omega
        rw [Int.max_eq_right g] at e
        obtain rfl : h4 = -v2 + u3 + d2 := by omega
        clear e g
        intro U4 e
        rcases Int.le_total ((-v2 + u3 + d2) + v1) (u2 + d3) with g | g
        · rw [Int.max_eq_left g] at e
          obtain rfl : U4 = u2 - d2 + d3 := by omega
          clear e
          intro D4 e
          have g : (u2 + d3) ≤ ((-v2 + u3 + d2) + v3) := by omega
          rw [Int.max_eq_right g] at e
          obtain rfl : D4 = -v2 + v3 + d2 := by omega
          clear e g
          intro V4 e
          have g : ((u2 - d2 + d3) + (-v2 + v3 + d2)) ≤ (d3 + u2) := by omega
          rw [Int.max_eq_right g] at e
          obtain rfl : V4 = v2 + u2 - u3 - d2 + d3 := by omega
          clear e g
          intro h5 e
          have g : (d1 + (u2 - d2 + d3)) ≤ (u1 + d3) := by omega
          rw [Int.max_eq_left g] at e
          obtain rfl : h5 = -v1 + u1 + d3 := by omega
          clear e g
          intro U5 e
          have g : (u1 + d3) ≤ ((-v1 + u1 + d3) + v0) := by omega
          rw [Int.max_eq_right g] at e
          obtain rfl : U5 = v0 - v1 + u1 - d1 + d3 := by omega
          clear e g
          intro D5 e
          have g : (u1 + d3) ≤ ((-v1 + u1 + d3) + (v2 + u2 - u3 - d2 + d3)) := by omega
          rw [Int.max_eq_right g] at e
          obtain rfl : D5 = -v1 + v2 + u1 - u3 + d3 := by omega
          clear e g
          intro V5 e
          have g : (d3 + u1) ≤ ((v0 - v1 + u1 - d1 + d3) + (-v1 + v2 + u1 - u3 + d3)) := by omega
          rw [Int.max_eq_left g] at e
          obtain rfl : V5 = v0 - v1 + v2 + u1 - u3 - d1 + d3 := by omega
          clear e g
          intro h6 e
          have g : (u1 + (-v2 + v3 + d2)) ≤ ((-v1 + v2 + u1 - u3 + d3) + u2) := by omega
          rw [Int.max_eq_right g] at e
          obtain rfl : h6 = -v1 + u1 + d2 := by omega
          clear e g
          intro U6 e
          have g : (u1 + (-v2 + v3 + d2)) ≤ ((-v1 + u1 + d2) + (v0 - v1 + v2 + u1 - u3 - d1 + d3)) := by omega
          rw [Int.max_eq_right g] at e
          obtain rfl : U6 = v0 - v1 + u1 - d1 + d2 := by omega
          clear e g
          intro D6 e
          have g : (u1 + (-v2 + v3 + d2)) ≤ ((-v1 + u1 + d2) + v3) := by omega
          rw [Int.max_eq_right g] at e
          obtain rfl : D6 = -v1 + v3 + u1 - u2 + d2 := by omega
          clear e g
          intro V6 e
          have g : ((-v2 + v3 + d2) + u1) ≤ ((v0 - v1 + u1 - d1 + d2) + (-v1 + v3 + u1 - u2 + d2)) := by omega
          rw [Int.max_eq_left g] at e
          obtain rfl : V6 = v0 - v1 + v3 + u1 - u2 - d1 + d2 := by omega
          clear e g
          exact ⟨rfl, rfl, rfl, rfl, rfl, rfl⟩
        · rw [Int.max_eq_right g] at e
          obtain rfl : U4 = v1 - v2 + u3 := by omega
          clear e
          intro D4 e
          have g : (u2 + d3) ≤ ((-v2 + u3 + d2) + v3) := by omega
          rw [Int.max_eq_right g] at e
          obtain rfl : D4 = -v2 + v3 + d2 := by omega
          clear e g
          intro V4 e
          rcases Int.le_total (d3 + u2) ((v1 - v2 + u3) + (-v2 + v3 + d2)) with g | g
          · rw [Int.max_eq_left g] at e
            obtain rfl : V4 = v1 - v2 + v3 := by omega
            clear e
            intro h5 e
            have g : (d1 + (v1 - v2 + u3)) ≤ (u1 + d3) := by omega
            rw [Int.max_eq_left g] at e
            obtain rfl : h5 = -v1 + u1 + d3 := by omega
            clear e g
            intro U5 e
            have g : (u1 + d3) ≤ ((-v1 + u1 + d3) + v0) := by omega
            rw [Int.max_eq_right g] at e
            obtain rfl : U5 = v0 - v1 + u1 - d1 + d3 := by omega
            clear e g
            intro D5 e
            have g : ((-v1 + u1 + d3) + (v1 - v2 + v3)) ≤ (u1 + d3) := by omega
            rw [Int.max_eq_left g] at e
            obtain rfl : D5 = -v1 + v2 + u1 - u3 + d3 := by omega
            clear e g
            intro V5 e
            have g : (d3 + u1) ≤ ((v0 - v1 + u1 - d1 + d3) + (-v1 + v2 + u1 - u3 + d3)) := by omega
            rw [Int.max_eq_left g] at e
            obtain rfl : V5 = v0 - v1 + v2 + u1 - u3 - d1 + d3 := by omega
            clear e g
            intro h6 e
            have g : ((-v1 + v2 + u1 - u3 + d3) + u2) ≤ (u1 + (-v2 + v3 + d2)) := by omega
            rw [Int.max_eq_left g] at e
            obtain rfl : h6 = -v1 + u1 + d2 := by omega
            clear e g
            intro U6 e
            have g : (u1 + (-v2 + v3 + d2)) ≤ ((-v1 + u1 + d2) + (v0 - v1 + v2 + u1 - u3 - d1 + d3)) := by omega
            rw [Int.max_eq_right g] at e
            obtain rfl : U6 = v0 - v1 + u1 - d1 + d2 := by omega
            clear e g
            intro D6 e
            have g : (u1 + (-v2 + v3 + d2)) ≤ ((-v1 + u1 + d2) + v3) := by omega
            rw [Int.max_eq_right g] at e
            obtain rfl : D6 = -v1 + v3 + u1 - u2 + d2 := by omega
            clear e g
            intro V6 e
            have g : ((-v2 + v3 + d2) + u1) ≤ ((v0 - v1 + u1 - d1 + d2) + (-v1 + v3 + u1 - u2 + d2)) := by omega
            rw [Int.max_eq_left g] at e
            obtain rfl : V6 = v0 - v1 + v3 + u1 - u2 - d1 + d2 := by omega
            clear e g
            exact ⟨rfl, rfl, rfl, rfl, rfl, rfl⟩
          · rw [Int.max_eq_right g] at e
            obtain rfl : V4 = v2 + u2 - u3 - d2 + d3 := by omega
            clear e
            intro h5 e
            have g : (d1 + (v1 - v2 + u3)) ≤ (u1 + d3) := by omega
            rw [Int.max_eq_left g] at e
            obtain rfl : h5 = -v1 + u1 + d3 := by omega
            clear e g
            intro U5 e
            have g : (u1 + d3) ≤ ((-v1 + u1 + d3) + v0) := by omega
            rw [Int.max_eq_right g] at e
            obtain rfl : U5 = v0 - v1 + u1 - d1 + d3 := by omega
            clear e g
            intro D5 e
            have g : ((-v1 + u1 + d3) + (v2 + u2 - u3 - d2 + d3)) ≤ (u1 + d3) := by omega
            rw [Int.max_eq_left g] at e
            obtain rfl : D5 = -v1 + v2 + u1 - u3 + d3 := by omega
            clear e g
            intro V5 e
            have g : (d3 + u1) ≤ ((v0 - v1 + u1 - d1 + d3) + (-v1 + v2 + u1 - u3 + d3)) := by omega
            rw [Int.max_eq_left g] at e
            obtain rfl : V5 = v0 - v1 + v2 + u1 - u3 - d1 + d3 := by omega
            clear e g
            intro h6 e
            have g : (u1 + (-v2 + v3 + d2)) ≤ ((-v1 + v2 + u1 - u3 + d3) + u2) := by omega
            rw [Int.max_eq_right g] at e
            obtain rfl : h6 = -v1 + u1 + d2 := by omega
            clear e g
            intro U6 e
            have g : (u1 + (-v2 + v3 + d2)) ≤ ((-v1 + u1 + d2) + (v0 - v1 + v2 + u1 - u3 - d1 + d3)) := by omega
            rw [Int.max_eq_right g] at e
            obtain rfl : U6 = v0 - v1 + u1 - d1 + d2 := by omega
            clear e g
            intro D6 e
            have g : (u1 + (-v2 + v3 + d2)) ≤ ((-v1 + u1 + d2) + v3) := by omega
            rw [Int.max_eq_right g] at e
            obtain rfl : D6 = -v1 + v3 + u1 - u2 + d2 := by omega
            clear e g
            intro V6 e
            have g : ((-v2 + v3 + d2) + u1) ≤ ((v0 - v1 + u1 - d1 + d2) + (-v1 + v3 + u1 - u2 + d2)) := by omega
            rw [Int.max_eq_left g] at e
            obtain rfl : V6 = v0 - v1 + v3 + u1 - u2 - d1 + d2 := by omega
            clear e g
            exact ⟨rfl, rfl, rfl, rfl, rfl, rfl⟩
  · rw [Int.max_eq_right g] at e
    obtain rfl : U3 = v0 - v2 + u3 := by omega
    clear e
    intro D3 e
    rcases Int.le_total ((-v2 + u3 + d2) + (v0 - v1 + v3 + u1 - u2 - d1 + d2)) ((v0 - v1 + u1 - d1 + d2) + d3) with g | g
    · rw [Int.max_eq_left g] at e
      obtain rfl : D3 = u2 - u3 + d3 := by omega
      clear e
      intro V3 e
      have g : ((v0 - v2 + u3) + (u2 - u3 + d3)) ≤ (d3 + (v0 - v1 + u1 - d1 + d2)) := by omega
      rw [Int.max_eq_right g] at e
      obtain rfl : V3 = v0 - v1 + v2 + u1 - u3 - d1 + d3 := by omega
      clear e g
      intro h4 e
      have g : (u2 + d3) ≤ (d2 + u3) := by omega
      rw [Int.max_eq_right g] at e
      obtain rfl : h4 = -v2 + u3 + d2 := by omega
      clear e g
      intro U4 e
      have g : (u2 + d3) ≤ ((-v2 + u3 + d2) + v1) := by omega
      rw [Int.max_eq_right g] at e
      obtain rfl : U4 = v1 - v2 + u3 := by omega
      clear e g
      intro D4 e
      have g : ((-v2 + u3 + d2) + v3) ≤ (u2 + d3) := by omega
      rw [Int.max_eq_left g] at e
      obtain rfl : D4 = u2 - u3 + d3 := by omega
      clear e g
      intro V4 e
      have g : ((v1 - v2 + u3) + (u2 - u3 + d3)) ≤ (d3 + u2) := by omega
      rw [Int.max_eq_right g] at e
      obtain rfl : V4 = v2 + u2 - u3 - d2 + d3 := by omega
      clear e g
      intro h5 e
      have g : (u1 + d3) ≤ (d1 + (v1 - v2 + u3)) := by omega
      rw [Int.max_eq_right g] at e
      obtain rfl : h5 = -v2 + u3 + d1 := by omega
      clear e g
      intro U5 e
      have g : (u1 + d3) ≤ ((-v2 + u3 + d1) + v0) := by omega
      rw [Int.max_eq_right g] at e
      obtain rfl : U5 = v0 - v2 + u3 := by omega
      clear e g
      intro D5 e
      have g : ((-v2 + u3 + d1) + (v2 + u2 - u3 - d2 + d3)) ≤ (u1 + d3) := by omega
      rw [Int.max_eq_left g] at e
      obtain rfl : D5 = -v1 + v2 + u1 - u3 + d3 := by omega
      clear e g
      intro V5 e
      have g : (d3 + u1) ≤ ((v0 - v2 + u3) + (-v1 + v2 + u1 - u3 + d3)) := by omega
      rw [Int.max_eq_left g] at e
      obtain rfl : V5 = v0 - v1 + v2 + u1 - u3 - d1 + d3 := by omega
      clear e g
      intro h6 e
      have g : (u1 + (u2 - u3 + d3)) ≤ ((-v1 + v2 + u1 - u3 + d3) + u2) := by omega
      rw [Int.max_eq_right g] at e
      obtain rfl : h6 = -v1 + u1 + d2 := by omega
      clear e g
      intro U6 e
      have g : (u1 + (u2 - u3 + d3)) ≤ ((-v1 + u1 + d2) + (v0 - v1 + v2 + u1 - u3 - d1 + d3)) := by omega
      rw [Int.max_eq_right g] at e
      obtain rfl : U6 = v0 - v1 + u1 - d1 + d2 := by omega
      clear e g
      intro D6 e
      have g : (u1 + (u2 - u3 + d3)) ≤ ((-v1 + u1 + d2) + v3) := by omega
      rw [Int.max_eq_right g] at e
      obtain rfl : D6 = -v1 + v3 + u1 - u2 + d2 := by omega
      clear e g
      intro V6 e
      have g : ((u2 - u3 + d3) + u1) ≤ ((v0 - v1 + u1 - d1 + d2) + (-v1 + v3 + u1 - u2 + d2)) := by omega
      rw [Int.max_eq_left g] at e
      obtain rfl : V6 = v0 - v1 + v3 + u1 - u2 - d1 + d2 := by omega
      clear e g
      exact ⟨rfl, rfl, rfl, rfl, rfl, rfl⟩
    · rw [Int.max_eq_right g] at e
      obtain rfl : D3 = -v2 + v3 + d2 := by omega
      clear e
      intro V3 e
      rcases Int.le_total (d3 + (v0 - v1 + u1 - d1 + d2)) ((v0 - v2 + u3) + (-v2 + v3 + d2)) with g | g
      · rw [Int.max_eq_left g] at e
        obtain rfl : V3 = v0 - v2 + v3 := by omega
        clear e
        intro h4 e
        have g : (u2 + d3) ≤ (d2 + u3) := by omega
        rw [Int.max_eq_right g] at e
        obtain rfl : h4 = -v2 + u3 + d2 := by omega
        clear e g
        intro U4 e
        have g : (u2 + d3) ≤ ((-v2 + u3 + d2) + v1) := by omega
        rw [Int.max_eq_right g] at e
        obtain rfl : U4 = v1 - v2 + u3 := by omega
        clear e g
        intro D4 e
        have g : (u2 + d3) ≤ ((-v2 + u3 + d2) + v3) := by omega
        rw [Int.max_eq_right g] at e
        obtain rfl : D4 = -v2 + v3 + d2 := by omega
        clear e g
        intro V4 e
        have g : (d3 + u2) ≤ ((v1 - v2 + u3) + (-v2 + v3 + d2)) := by omega
        rw [Int.max_eq_left g] at e
        obtain rfl : V4 = v1 - v2 + v3 := by omega
        clear e g
        intro h5 e
        have g : (u1 + d3) ≤ (d1 + (v1 - v2 + u3)) := by omega
        rw [Int.max_eq_right g] at e
        obtain rfl : h5 = -v2 + u3 + d1 := by omega
        clear e g
        intro U5 e
        have g : (u1 + d3) ≤ ((-v2 + u3 + d1) + v0) := by omega
        rw [Int.max_eq_right g] at e
        obtain rfl : U5 = v0 - v2 + u3 := by omega
        clear e g
        intro D5 e
        have g : (u1 + d3) ≤ ((-v2 + u3 + d1) + (v1 - v2 + v3)) := by omega
        rw [Int.max_eq_right g] at e
        obtain rfl : D5 = -v2 + v3 + d1 := by omega
        clear e g
        intro V5 e
        have g : (d3 + u1) ≤ ((v0 - v2 + u3) + (-v2 + v3 + d1)) := by omega
        rw [Int.max_eq_left g] at e
        obtain rfl : V5 = v0 - v2 + v3 := by omega
        clear e g
        intro h6 e
        have g : ((-v2 + v3 + d1) + u2) ≤ (u1 + (-v2 + v3 + d2)) := by omega
        rw [Int.max_eq_left g] at e
        obtain rfl : h6 = -v1 + u1 + d2 := by omega
        clear e g
        intro U6 e
        have g : (u1 + (-v2 + v3 + d2)) ≤ ((-v1 + u1 + d2) + (v0 - v2 + v3)) := by omega
        rw [Int.max_eq_right g] at e
        obtain rfl : U6 = v0 - v1 + u1 - d1 + d2 := by omega
        clear e g
        intro D6 e
        have g : (u1 + (-v2 + v3 + d2)) ≤ ((-v1 + u1 + d2) + v3) := by omega
        rw [Int.max_eq_right g] at e
        obtain rfl : D6 = -v1 + v3 + u1 - u2 + d2 := by omega
        clear e g
        intro V6 e
        have g : ((-v2 + v3 + d2) + u1) ≤ ((v0 - v1 + u1 - d1 + d2) + (-v1 + v3 + u1 - u2 + d2)) := by omega
        rw [Int.max_eq_left g] at e
        obtain rfl : V6 = v0 - v1 + v3 + u1 - u2 - d1 + d2 := by omega
        clear e g
        exact ⟨rfl, rfl, rfl, rfl, rfl, rfl⟩
      · rw [Int.max_eq_right g] at e
        obtain rfl : V3 = v0 - v1 + v2 + u1 - u3 - d1 + d3 := by omega
        clear e
        intro h4 e
        have g : (u2 + d3) ≤ (d2 + u3) := by omega
        rw [Int.max_eq_right g] at e
        obtain rfl : h4 = -v2 + u3 + d2 := by omega
        clear e g
        intro U4 e
        have g : (u2 + d3) ≤ ((-v2 + u3 + d2) + v1) := by omega
        rw [Int.max_eq_right g] at e
        obtain rfl : U4 = v1 - v2 + u3 := by omega
        clear e g
        intro D4 e
        have g : (u2 + d3) ≤ ((-v2 + u3 + d2) + v3) := by omega
        rw [Int.max_eq_right g] at e
        obtain rfl : D4 = -v2 + v3 + d2 := by omega
        clear e g
        intro V4 e
        rcases Int.le_total (d3 + u2) ((v1 - v2 + u3) + (-v2 + v3 + d2)) with g | g
        · rw [Int.max_eq_left g] at e
          obtain rfl : V4 = v1 - v2 + v3 := by omega
          clear e
          intro h5 e
          have g : (u1 + d3) ≤ (d1 + (v1 - v2 + u3)) := by omega
          rw [Int.max_eq_right g] at e
          obtain rfl : h5 = -v2 + u3 + d1 := by omega
          clear e g
          intro U5 e
          have g : (u1 + d3) ≤ ((-v2 + u3 + d1) + v0) := by omega
          rw [Int.max_eq_right g] at e
          obtain rfl : U5 = v0 - v2 + u3 := by omega
          clear e g
          intro D5 e
          have g : ((-v2 + u3 + d1) + (v1 - v2 + v3)) ≤ (u1 + d3) := by omega
          rw [Int.max_eq_left g] at e
          obtain rfl : D5 = -v1 + v2 + u1 - u3 + d3 := by omega
          clear e g
          intro V5 e
          have g : (d3 + u1) ≤ ((v0 - v2 + u3) + (-v1 + v2 + u1 - u3 + d3)) := by omega
          rw [Int.max_eq_left g] at e
          obtain rfl : V5 = v0 - v1 + v2 + u1 - u3 - d1 + d3 := by omega
          clear e g
          intro h6 e
          have g : ((-v1 + v2 + u1 - u3 + d3) + u2) ≤ (u1 + (-v2 + v3 + d2)) := by omega
          rw [Int.max_eq_left g] at e
          obtain rfl : h6 = -v1 + u1 + d2 := by omega
          clear e g
          intro U6 e
          have g : (u1 + (-v2 + v3 + d2)) ≤ ((-v1 + u1 + d2) + (v0 - v1 + v2 + u1 - u3 - d1 + d3)) := by omega
          rw [Int.max_eq_right g] at e
          obtain rfl : U6 = v0 - v1 + u1 - d1 + d2 := by omega
          clear e g
          intro D6 e
          have g : (u1 + (-v2 + v3 + d2)) ≤ ((-v1 + u1 + d2) + v3) := by omega
          rw [Int.max_eq_right g] at e
          obtain rfl : D6 = -v1 + v3 + u1 - u2 + d2 := by omega
          clear e g
          intro V6 e
          have g : ((-v2 + v3 + d2) + u1) ≤ ((v0 - v1 + u1 - d1 + d2) + (-v1 + v3 + u1 - u2 + d2)) := by omega
          rw [Int.max_eq_left g] at e
          obtain rfl : V6 = v0 - v1 + v3 + u1 - u2 - d1 + d2 := by omega
          clear e g
          exact ⟨rfl, rfl, rfl, rfl, rfl, rfl⟩
        · rw [Int.max_eq_right g] at e
          obtain rfl : V4 = v2 + u2 - u3 - d2 + d3 := by omega
          clear e
          intro h5 e
          have g : (u1 + d3) ≤ (d1 + (v1 - v2 + u3)) := by omega
          rw [Int.max_eq_right g] at e
          obtain rfl : h5 = -v2 + u3 + d1 := by omega
          clear e g
          intro U5 e
          have g : (u1 + d3) ≤ ((-v2 + u3 + d1) + v0) := by omega
          rw [Int.max_eq_right g] at e
          obtain rfl : U5 = v0 - v2 + u3 := by omega
          clear e g
          intro D5 e
          have g : ((-v2 + u3 + d1) + (v2 + u2 - u3 - d2 + d3)) ≤ (u1 + d3) := by omega
          rw [Int.max_eq_left g] at e
          obtain rfl : D5 = -v1 + v2 + u1 - u3 + d3 := by omega
          clear e g
          intro V5 e
          have g : (d3 + u1) ≤ ((v0 - v2 + u3) + (-v1 + v2 + u1 - u3 + d3)) := by omega
          rw [Int.max_eq_left g] at e
          obtain rfl : V5 = v0 - v1 + v2 + u1 - u3 - d1 + d3 := by omega
          clear e g
          intro h6 e
          have g : (u1 + (-v2 + v3 + d2)) ≤ ((-v1 + v2 + u1 - u3 + d3) + u2) := by omega
          rw [Int.max_eq_right g] at e
          obtain rfl : h6 = -v1 + u1 + d2 := by omega
          clear e g
          intro U6 e
          have g : (u1 + (-v2 + v3 + d2)) ≤ ((-v1 + u1 + d2) + (v0 - v1 + v2 + u1 - u3 - d1 + d3)) := by omega
          rw [Int.max_eq_right g] at e
          obtain rfl : U6 = v0 - v1 + u1 - d1 + d2 := by omega
          clear e g
          intro D6 e
          have g : (u1 + (-v2 + v3 + d2)) ≤ ((-v1 + u1 + d2) + v3) := by omega
          rw [Int.max_eq_right g] at e
          obtain rfl : D6 = -v1 + v3 + u1 - u2 + d2 := by omega
          clear e g
          intro V6 e
          have g : ((-v2 + v3 + d2) + u1) ≤ ((v0 - v1 + u1 - d1 + d2) + (-v1 + v3 + u1 - u2 + d2)) := by omega
          rw [Int.max_eq_left g] at e
          obtain rfl : V6 = v0 - v1 + v3 + u1 - u2 - d1 + d2 := by omega
          clear e g
          exact ⟨rfl, rfl, rfl, rfl, rfl, rfl⟩
set_option maxHeartbeats 4000000 in
set_option maxRecDepth 100000 in
theorem dy_c14 (v0 v1 v2 v3 u1 u2 u3 d1 d2 d3 : Int) (g0 : u1 + d2 ≤ u2 + d1) (g1 : v0 + u2 + d1 ≤ v1 + u1 + d2) (g2 : v2 + u2 + d1 ≤ v1 + u1 + d2) : ∀ V1 : Int, V1 = max ((u1 - d1 + d2) + (u1 - u2 + d2)) (d2 + u1) - (-v1 + u2 + d1) → ∀ h2 : Int, h2 = max (u1 + d3) ((u1 - u2 + d2) + u3) - v2 → ∀ U2 : Int, U2 = max (u1 + d3) (h2 + V1) - (u1 - u2 + d2) → ∀ D2 : Int, D2 = max (u1 + d3) (h2 + v3) - u3 → ∀ V2 : Int, V2 = max (U2 + D2) (d3 + u1) - h2 → ∀ h3 : Int, h3 = max ((u1 - d1 + d2) + d3) (d2 + U2) - V1 → ∀ U3 : Int, U3 = max ((u1 - d1 + d2) + d3) (h3 + v0) - d2 → ∀ D3 : Int, D3 = max ((u1 - d1 + d2) + d3) (h3 + V2) - U2 → ∀ V3 : Int, V3 = max (U3 + D3) (d3 + (u1 - d1 + d2)) - h3 → ∀ h4 : Int, h4 = max (u2 + d3) (d2 + u3) - v2 → ∀ U4 : Int, U4 = max (u2 + d3) (h4 + v1) - d2 → ∀ D4 : Int, D4 = max (u2 + d3) (h4 + v3) - u3 → ∀ V4 : Int, V4 = max (U4 + D4) (d3 + u2) - h4 → ∀ h5 : Int, h5 = max (u1 + d3) (d1 + U4) - v1 → ∀ U5 : Int, U5 = max (u1 + d3) (h5 + v0) - d1 → ∀ D5 : Int, D5 = max (u1 + d3) (h5 + V4) - U4 → ∀ V5 : Int, V5 = max (U5 + D5) (d3 + u1) - h5 → ∀ h6 : Int, h6 = max (u1 + D4) (D5 + u2) - V4 → ∀ U6 : Int, U6 = max (u1 + D4) (h6 + V5) - D5 → ∀ D6 : Int, D6 = max (u1 + D4) (h6 + v3) - u2 → ∀ V6 : Int, V6 = max (U6 + D6) (D4 + u1) - h6 → V3 = V5 ∧ U3 = U5 ∧ V2 = V6 ∧ (u1 - d1 + d2) = U6 ∧ D3 = D4 ∧ D2 = D6 := by
  intro V1 e
  have g : ((u1 - d1 + d2) + (u1 - u2 + d2)) ≤ (d2 + u1) := by omega
  rw [Int.max_eq_right g] at e
  obtain rfl : V1 = v1 + u1 - u2 - d1 + d2 := by omega
  clear e g
  intro h2 e
  rcases Int.le_total ((u1 - u2 + d2) + u3) (u1 + d3) with g | g
  · rw [Int.max_eq_left g] at e
    obtain rfl : h2 = -v2 + u1 + d3 := by omega
    clear e
    intro U2 e
    have g : (u1 + d3) ≤ ((-v2 + u1 + d3) + (v1 + u1 - u2 - d1 + d2)) := by omega
    rw [Int.max_eq_right g] at e
    obtain rfl : U2 = v1 - v2 + u1 - d1 + d3 := by omega
    clear e g
    intro D2 e
    rcases Int.le_total ((-v2 + u1 + d3) + v3) (u1 + d3) with g | g
    · rw [Int.max_eq_left g] at e
      obtain rfl : D2 = u1 - u3 + d3 := by omega
      clear e
      intro V2 e
      have g : (d3 + u1) ≤ ((v1 - v2 + u1 - d1 + d3) + (u1 - u3 + d3)) := by omega
      rw [Int.max_eq_left g] at e
      obtain rfl : V2 = v1 + u1 - u3 - d1 + d3 := by omega
      clear e g
      intro h3 e
      have g : ((u1 - d1 + d2) + d3) ≤ (d2 + (v1 - v2 + u1 - d1 + d3)) := by omega
      rw [Int.max_eq_right g] at e
      obtain rfl : h3 = -v2 + u2 + d3 := by omega
      clear e g
      intro U3 e
      rcases Int.le_total ((-v2 + u2 + d3) + v0) ((u1 - d1 + d2) + d3) with g | g
      · rw [Int.max_eq_left g] at e
        obtain rfl : U3 = u1 - d1 + d3 := by omega
        clear e
        intro D3 e
        have g : ((u1 - d1 + d2) + d3) ≤ ((-v2 + u2 + d3) + (v1 + u1 - u3 - d1 + d3)) := by omega
        rw [Int.max_eq_right g] at e
        obtain rfl : D3 = u2 - u3 + d3 := by omega
        clear e g
        intro V3 e
        have g : (d3 + (u1 - d1 + d2)) ≤ ((u1 - d1 + d3) + (u2 - u3 + d3)) := by omega
        rw [Int.max_eq_left g] at e
        obtain rfl : V3 = v2 + u1 - u3 - d1 + d3 := by omega
        clear e g
        intro h4 e
        have g : (d2 + u3) ≤ (u2 + d3) := by omega
        rw [Int.max_eq_left g] at e
        obtain rfl : h4 = -v2 + u2 + d3 := by omega
        clear e g
        intro U4 e
        have g : (u2 + d3) ≤ ((-v2 + u2 + d3) + v1) := by omega
        rw [Int.max_eq_right g] at e
        obtain rfl : U4 = v1 - v2 + u2 - d2 + d3 := by omega
        clear e g
        intro D4 e
        have g : ((-v2 + u2 + d3) + v3) ≤ (u2 + d3) := by omega
        rw [Int.max_eq_left g] at e
        obtain rfl : D4 = u2 - u3 + d3 := by omega
        clear e g
        intro V4 e
        have g : (d3 + u2) ≤ ((v1 - v2 + u2 - d2 + d3) + (u2 - u3 + d3)) := by omega
        rw [Int.max_eq_left g] at e
        obtain rfl : V4 = v1 + u2 - u3 - d2 + d3 := by omega
        clear e g
        intro h5 e
        have g : (u1 + d3) ≤ (d1 + (v1 - v2 + u2 - d2 + d3)) := by omega
        rw [Int.max_eq_right g] at e
        obtain rfl : h5 = -v2 + u2 + d1 - d2 + d3 := by omega
        clear e g
        intro U5 e
        have g : ((-v2 + u2 + d1 - d2 + d3) + v0) ≤ (u1 + d3) := by omega
        rw [Int.max_eq_left g] at e
        obtain rfl : U5 = u1 - d1 + d3 := by omega
        clear e g
        intro D5 e
        have g : (u1 + d3) ≤ ((-v2 + u2 + d1 - d2 + d3) + (v1 + u2 - u3 - d2 + d3)) := by omega
        rw [Int.max_eq_right g] at e
        obtain rfl : D5 = u2 - u3 + d1 - d2 + d3 := by omega
        clear e g
        intro V5 e
        have g : (d3 + u1) ≤ ((u1 - d1 + d3) + (u2 - u3 + d1 - d2 + d3)) := by omega
        rw [Int.max_eq_left g] at e
        obtain rfl : V5 = v2 + u1 - u3 - d1 + d3 := by omega
        clear e g
        intro h6 e
        have g : (u1 + (u2 - u3 + d3)) ≤ ((u2 - u3 + d1 - d2 + d3) + u2) := by omega
        rw [Int.max_eq_right g] at e
        obtain rfl : h6 = -v1 + u2 + d1 := by omega
        clear e g
        intro U6 e
        have g : ((-v1 + u2 + d1) + (v2 + u1 - u3 - d1 + d3)) ≤ (u1 + (u2 - u3 + d3)) := by omega
        rw [Int.max_eq_left g] at e
        obtain rfl : U6 = u1 - d1 + d2 := by omega
        clear e g
        intro D6 e
        have g : ((-v1 + u2 + d1) + v3) ≤ (u1 + (u2 - u3 + d3)) := by omega
        rw [Int.max_eq_left g] at e
        obtain rfl : D6 = u1 - u3 + d3 := by omega
        clear e g
        intro V6 e
        have g : ((u1 - d1 + d2) + (u1 - u3 + d3)) ≤ ((u2 - u3 + d3) + u1) := by omega
        rw [Int.max_eq_right g] at e
        obtain rfl : V6 = v1 + u1 - u3 - d1 + d3 := by omega
        clear e g
        exact ⟨rfl, rfl, rfl, rfl, rfl, rfl⟩
      · rw [Int.max_eq_right g] at e
        obtain rfl : U3 = v0 - v2 + u2 - d2 + d3 := by omega
        clear e
        intro D3 e
        have g : ((u1 - d1 + d2) + d3) ≤ ((-v2 + u2 + d3) + (v1 + u1 - u3 - d1 + d3)) := by omega
        rw [Int.max_eq_right g] at e
        obtain rfl : D3 = u2 - u3 + d3 := by omega
        clear e g
        intro V3 e
        have g : (d3 + (u1 - d1 + d2)) ≤ ((v0 - v2 + u2 - d2 + d3) + (u2 - u3 + d3)) := by omega
        rw [Int.max_eq_left g] at e
        obtain rfl : V3 = v0 + u2 - u3 - d2 + d3 := by omega
        clear e g
        intro h4 e
        have g : (d2 + u3) ≤ (u2 + d3) := by omega
        rw [Int.max_eq_left g] at e
        obtain rfl : h4 = -v2 + u2 + d3 := by omega
        clear e g
        intro U4 e
        have g : (u2 + d3) ≤ ((-v2 + u2 + d3) + v1) := by omega
        rw [Int.max_eq_right g] at e
        obtain rfl : U4 = v1 - v2 + u2 - d2 + d3 := by omega
        clear e g
        intro D4 e
        have g : ((-v2 + u2 + d3) + v3) ≤ (u2 + d3) := by omega
        rw [Int.max_eq_left g] at e
        obtain rfl : D4 = u2 - u3 + d3 := by omega
        clear e g
        intro V4 e
        have g : (d3 + u2) ≤ ((v1 - v2 + u2 - d2 + d3) + (u2 - u3 + d3)) := by omega
        rw [Int.max_eq_left g] at e
        obtain rfl : V4 = v1 + u2 - u3 - d2 + d3 := by omega
        clear e g
        intro h5 e
        have g : (u1 + d3) ≤ (d1 + (v1 - v2 + u2 - d2 + d3)) := by omega
        rw [Int.max_eq_right g] at e
        obtain rfl : h5 = -v2 + u2 + d1 - d2 + d3 := by omega
        clear e g
        intro U5 e
        have g : (u1 + d3) ≤ ((-v2 + u2 + d1 - d2 + d3) + v0) := by omega
        rw [Int.max_eq_right g] at e
        obtain rfl : U5 = v0 - v2 + u2 - d2 + d3 := by omega
        clear e g
        intro D5 e
        have g : (u1 + d3) ≤ ((-v2 + u2 + d1 - d2 + d3) + (v1 + u2 - u3 - d2 + d3)) := by omega
        rw [Int.max_eq_right g] at e
        obtain rfl : D5 = u2 - u3 + d1 - d2 + d3 := by omega
        clear e g
        intro V5 e
        have g : (d3 + u1) ≤ ((v0 - v2 + u2 - d2 + d3) + (u2 - u3 + d1 - d2 + d3)) := by omega
        rw [Int.max_eq_left g] at e
        obtain rfl : V5 = v0 + u2 - u3 - d2 + d3 := by omega
        clear e g
        intro h6 e
        have g : (u1 + (u2 - u3 + d3)) ≤ ((u2 - u3 + d1 - d2 + d3) + u2) := by omega
        rw [Int.max_eq_right g] at e
        obtain rfl : h6 = -v1 + u2 + d1 := by omega
        clear e g
        intro U6 e
        have g : ((-v1 + u2 + d1) + (v0 + u2 - u3 - d2 + d3)) ≤ (u1 + (u2 - u3 + d3)) := by omega
        rw [Int.max_eq_left g] at e
        obtain rfl : U6 = u1 - d1 + d2 := by omega
        clear e g
        intro D6 e
        have g : ((-v1 + u2 + d1) + v3) ≤ (u1 + (u2 - u3 + d3)) := by omega
        rw [Int.max_eq_left g] at e
        obtain rfl : D6 = u1 - u3 + d3 := by omega
        clear e g
        intro V6 e
        have g : ((u1 - d1 + d2) + (u1 - u3 + d3)) ≤ ((u2 - u3 + d3) + u1) := by omega
        rw [Int.max_eq_right g] at e
        obtain rfl : V6 = v1 + u1 - u3 - d1 + d3 := by omega
        clear e g
        exact ⟨rfl, rfl, rfl, rfl, rfl, rfl⟩
    · rw [Int.max_eq_right g] at e
      obtain rfl : D2 = -v2 + v3 + u1 - u3 + d3 := by omega
      clear e
      intro V2 e
      have g : (d3 + u1) ≤ ((v1 - v2 + u1 - d1 + d3) + (-v2 + v3 + u1 - u3 + d3)) := by omega
      rw [Int.max_eq_left g] at e
      obtain rfl : V2 = v1 - v2 + v3 + u1 - u3 - d1 + d3 := by omega
      clear e g
      intro h3 e
      have g : ((u1 - d1 + d2) + d3) ≤ (d2 + (v1 - v2 + u1 - d1 + d3)) := by omega
      rw [Int.max_eq_right g] at e
      obtain rfl : h3 = -v2 + u2 + d3 := by omega
      clear e g
      intro U3 e
      rcases Int.le_total ((-v2 + u2 + d3) + v0) ((u1 - d1 + d2) + d3) with g | g
      · rw [Int.max_eq_left g] at e
        obtain rfl : U3 = u1 - d1 + d3 := by omega
        clear e
        intro D3 e
        have g : ((u1 - d1 + d2) + d3) ≤ ((-v2 + u2 + d3) + (v1 - v2 + v3 + u1 - u3 - d1 + d3)) := by omega
        rw [Int.max_eq_right g] at e
        obtain rfl : D3 = -v2 + v3 + u2 - u3 + d3 := by omega
        clear e g
        intro V3 e
        have g : (d3 + (u1 - d1 + d2)) ≤ ((u1 - d1 + d3) + (-v2 + v3 + u2 - u3 + d3)) := by omega
        rw [Int.max_eq_left g] at e
        obtain rfl : V3 = v3 + u1 - u3 - d1 + d3 := by omega
        clear e g
        intro h4 e
        have g : (d2 + u3) ≤ (u2 + d3) := by omega
        rw [Int.max_eq_left g] at e
        obtain rfl : h4 = -v2 + u2 + d3 := by omega
        clear e g
        intro U4 e
        have g : (u2 + d3) ≤ ((-v2 + u2 + d3) + v1) := by omega
        rw [Int.max_eq_right g] at e
        obtain rfl : U4 = v1 - v2 + u2 - d2 + d3 := by omega
        clear e g
        intro D4 e
        have g : (u2 + d3) ≤ ((-v2 + u2 + d3) + v3) := by omega
        rw [Int.max_eq_right g] at e
        obtain rfl : D4 = -v2 + v3 + u2 - u3 + d3 := by omega
        clear e g
        intro V4 e
        have g : (d3 + u2) ≤ ((v1 - v2 + u2 - d2 + d3) + (-v2 + v3 + u2 - u3 + d3)) := by omega
        rw [Int.max_eq_left g] at e
        obtain rfl : V4 = v1 - v2 + v3 + u2 - u3 - d2 + d3 := by omega
        clear e g
        intro h5 e
        have g : (u1 + d3) ≤ (d1 + (v1 - v2 + u2 - d2 + d3)) := by omega
        rw [Int.max_eq_right g] at e
        obtain rfl : h5 = -v2 + u2 + d1 - d2 + d3 := by omega
        clear e g
        intro U5 e
        have g : ((-v2 + u2 + d1 - d2 + d3) + v0) ≤ (u1 + d3) := by omega
        rw [Int.max_eq_left g] at e
        obtain rfl : U5 = u1 - d1 + d3 := by omega
        clear e g
        intro D5 e
        have g : (u1 + d3) ≤ ((-v2 + u2 + d1 - d2 + d3) + (v1 - v2 + v3 + u2 - u3 - d2 + d3)) := by omega
        rw [Int.max_eq_right g] at e
        obtain rfl : D5 = -v2 + v3 + u2 - u3 + d1 - d2 + d3 := by omega
        clear e g
        intro V5 e
        have g : (d3 + u1) ≤ ((u1 - d1 + d3) + (-v2 + v3 + u2 - u3 + d1 - d2 + d3)) := by omega
        rw [Int.max_eq_left g] at e
        obtain rfl : V5 = v3 + u1 - u3 - d1 + d3 := by omega
        clear e g
        intro h6 e
        have g : (u1 + (-v2 + v3 + u2 - u3 + d3)) ≤ ((-v2 + v3 + u2 - u3 + d1 - d2 + d3) + u2) := by omega
        rw [Int.max_eq_right g] at e
        obtain rfl : h6 = -v1 + u2 + d1 := by omega
        clear e g
        intro U6 e
        have g : ((-v1 + u2 + d1) + (v3 + u1 - u3 - d1 + d3)) ≤ (u1 + (-v2 + v3 + u2 - u3 + d3)) := by omega
        rw [Int.max_eq_left g] at e
        obtain rfl : U6 = u1 - d1 + d2 := by omega
        clear e g
        intro D6 e
        have g : ((-v1 + u2 + d1) + v3) ≤ (u1 + (-v2 + v3 + u2 - u3 + d3)) := by omega
        rw [Int.max_eq_left g] at e
        obtain rfl : D6 = -v2 + v3 + u1 - u3 + d3 := by omega
        clear e g
        intro V6 e
        have g : ((u1 - d1 + d2) + (-v2 + v3 + u1 - u3 + d3)) ≤ ((-v2 + v3 + u2 - u3 + d3) + u1) := by omega
        rw [Int.max_eq_right g] at e
        obtain rfl : V6 = v1 - v2 + v3 + u1 - u3 - d1 + d3 := by omega
        clear e g
        exact ⟨rfl, rfl, rfl, rfl, rfl, rfl⟩
      · rw [Int.max_eq_right g] at e
        obtain rfl : U3 = v0 - v2 + u2 - d2 + d3 := by omega
        clear e
        intro D3 e
        have g : ((u1 - d1 + d2) + d3) ≤ ((-v2 + u2 + d3) + (v1 - v2 + v3 + u1 - u3 - d1 + d3)) := by omega
        rw [Int.max_eq_right g] at e
        obtain rfl : D3 = -v2 + v3 + u2 - u3 + d3 := by omega
        clear e g
        intro V3 e
        have g : (d3 + (u1 - d1 + d2)) ≤ ((v0 - v2 + u2 - d2 + d3) + (-v2 + v3 + u2 - u3 + d3)) := by omega
        rw [Int.max_eq_left g] at e
        obtain rfl : V3 = v0 - v2 + v3 + u2 - u3 - d2 + d3 := by omega
        clear e g
        intro h4 e
        have g : (d2 + u3) ≤ (u2 + d3) := by omega
        rw [Int.max_eq_left g] at e
        obtain rfl : h4 = -v2 + u2 + d3 := by omega
        clear e g
        intro U4 e
        have g : (u2 + d3) ≤ ((-v2 + u2 + d3) + v1) := by omega
        rw [Int.max_eq_right g] at e
        obtain rfl : U4 = v1 - v2 + u2 - d2 + d3 := by omega
        clear e g
        intro D4 e
        have g : (u2 + d3) ≤ ((-v2 + u2 + d3) + v3) := by omega
        rw [Int.max_eq_right g] at e
        obtain rfl : D4 = -v2 + v3 + u2 - u3 + d3 := by omega
        clear e g
        intro V4 e
        have g : (d3 + u2) ≤ ((v1 - v2 + u2 - d2 + d3) + (-v2 + v3 + u2 - u3 + d3)) := by omega
        rw [Int.max_eq_left g] at e
        obtain rfl : V4 = v1 - v2 + v3 + u2 - u3 - d2 + d3 := by omega
        clear e g
        intro h5 e
        have g : (u1 + d3) ≤ (d1 + (v1 - v2 + u2 - d2 + d3)) := by omega
        rw [Int.max_eq_right g] at e
        obtain rfl : h5 = -v2 + u2 + d1 - d2 + d3 := by omega
        clear e g
        intro U5 e
        have g : (u1 + d3) ≤ ((-v2 + u2 + d1 - d2 + d3) + v0) := by omega
        rw [Int.max_eq_right g] at e
        obtain rfl : U5 = v0 - v2 + u2 - d2 + d3 := by omega
        clear e g
        intro D5 e
        have g : (u1 + d3) ≤ ((-v2 + u2 + d1 - d2 + d3) + (v1 - v2 + v3 + u2 - u3 - d2 + d3)) := by omega
        rw [Int.max_eq_right g] at e
        obtain rfl : D5 = -v2 + v3 + u2 - u3 + d1 - d2 + d3 := by omega
        clear e g
        intro V5 e
        have g : (d3 + u1) ≤ ((v0 - v2 + u2 - d2 + d3) + (-v2 + v3 + u2 - u3 + d1 - d2 + d3)) := by omega
        rw [Int.max_eq_left g] at e
        obtain rfl : V5 = v0 - v2 + v3 + u2 - u3 - d2 + d3 := by omega
        clear e g
        intro h6 e
        have g : (u1 + (-v2 + v3 + u2 - u3 + d3)) ≤ ((-v2 + v3 + u2 - u3 + d1 - d2 + d3) + u2) := by omega
        rw [Int.max_eq_right g] at e
        obtain rfl : h6 = -v1 + u2 + d1 := by omega
        clear e g
        intro U6 e
        have g : ((-v1 + u2 + d1) + (v0 - v2 + v3 + u2 - u3 - d2 + d3)) ≤ (u1 + (-v2 + v3 + u2 - u3 + d3)) := by omega
        rw [Int.max_eq_left g] at e
        obtain rfl : U6 = u1 - d1 + d2 := by omega
        clear e g
        intro D6 e
        have g : ((-v1 + u2 + d1) + v3) ≤ (u1 + (-v2 + v3 + u2 - u3 + d3)) := by omega
        rw [Int.max_eq_left g] at e
        obtain rfl : D6 = -v2 + v3 + u1 - u3 + d3 := by omega
        clear e g
        intro V6 e
        have g : ((u1 - d1 + d2) + (-v2 + v3 + u1 - u3 + d3)) ≤ ((-v2 + v3 + u2 - u3 + d3) + u1) := by omega
        rw [Int.max_eq_right g] at e
        obtain rfl : V6 = v1 - v2 + v3 + u1 - u3 - d1 + d3 := by omega
        clear e g
        exact ⟨rfl, rfl, rfl, rfl, rfl, rfl⟩
  · rw [Int.max_eq_right g] at e
    obtain rfl : h2 = -v2 + u1 - u2 + u3 + d2 := by omega
    clear e
    intro U2 e
    have g : (u1 + d3) ≤ ((-v2 + u1 - u2 + u3 + d2) + (v1 + u1 - u2 - d1 + d2)) := by omega
    rw [Int.max_eq_right g] at e
    obtain rfl : U2 = v1 - v2 + u1 - u2 + u3 - d1 + d2 := by omega
    clear e g
    intro D2 e
    rcases Int.le_total ((-v2 + u1 - u2 + u3 + d2) + v3) (u1 + d3) with g | g
    · rw [Int.max_eq_left g] at e
      obtain rfl : D2 = u1 - u3 + d3 := by omega
      clear e
      intro V2 e
      have g : (d3 + u1) ≤ ((v1 - v2 + u1 - u2 + u3 - d1 + d2) + (u1 - u3 + d3)) := by omega
      rw [Int.max_eq_left g] at e
      obtain rfl : V2 = v1 + u1 - u3 - d1 + d3 := by omega
      clear e g
      intro h3 e
      have g : ((u1 - d1 + d2) + d3) ≤ (d2 + (v1 - v2 + u1 - u2 + u3 - d1 + d2)) := by omega
      rw [Int.max_eq_right g] at e
      obtain rfl : h3 = -v2 + u3 + d2 := by omega
      clear e g
      intro U3 e
      rcases Int.le_total ((-v2 + u3 + d2) + v0) ((u1 - d1 + d2) + d3) with g | g
      · rw [Int.max_eq_left g] at e
        obtain rfl : U3 = u1 - d1 + d3 := by omega
        clear e
        intro D3 e
        have g : ((u1 - d1 + d2) + d3) ≤ ((-v2 + u3 + d2) + (v1 + u1 - u3 - d1 + d3)) := by omega
        rw [Int.max_eq_right g] at e
        obtain rfl : D3 = u2 - u3 + d3 := by omega
        clear e g
        intro V3 e
        have g : ((u1 - d1 + d3) + (u2 - u3 + d3)) ≤ (d3 + (u1 - d1 + d2)) := by omega
        rw [Int.max_eq_right g] at e
        obtain rfl : V3 = v2 + u1 - u3 - d1 + d3 := by omega
        clear e g
        intro h4 e
        have g : (u2 + d3) ≤ (d2 + u3) := by omega
        rw [Int.max_eq_right g] at e
        obtain rfl : h4 = -v2 + u3 + d2 := by omega
        clear e g
        intro U4 e
        have g : (u2 + d3) ≤ ((-v2 + u3 + d2) + v1) := by omega
        rw [Int.max_eq_right g] at e
        obtain rfl : U4 = v1 - v2 + u3 := by omega
        clear e g
        intro D4 e
        have g : ((-v2 + u3 + d2) + v3) ≤ (u2 + d3) := by omega
        rw [Int.max_eq_left g] at e
        obtain rfl : D4 = u2 - u3 + d3 := by omega
        clear e g
        intro V4 e
        have g : (d3 + u2) ≤ ((v1 - v2 + u3) + (u2 - u3 + d3)) := by omega
        rw [Int.max_eq_left g] at e
        obtain rfl : V4 = v1 + u2 - u3 - d2 + d3 := by omega
        clear e g
        intro h5 e
        have g : (u1 + d3) ≤ (d1 + (v1 - v2 + u3)) := by omega
        rw [Int.max_eq_right g] at e
        obtain rfl : h5 = -v2 + u3 + d1 := by omega
        clear e g
        intro U5 e
        have g : ((-v2 + u3 + d1) + v0) ≤ (u1 + d3) := by omega
        rw [Int.max_eq_left g] at e
        obtain rfl : U5 = u1 - d1 + d3 := by omega
        clear e g
        intro D5 e
        have g : (u1 + d3) ≤ ((-v2 + u3 + d1) + (v1 + u2 - u3 - d2 + d3)) := by omega
        rw [Int.max_eq_right g] at e
        obtain rfl : D5 = u2 - u3 + d1 - d2 + d3 := by omega
        clear e g
        intro V5 e
        have g : ((u1 - d1 + d3) + (u2 - u3 + d1 - d2 + d3)) ≤ (d3 + u1) := by omega
        rw [Int.max_eq_right g] at e
        obtain rfl : V5 = v2 + u1 - u3 - d1 + d3 := by omega
        clear e g
        intro h6 e
        have g : (u1 + (u2 - u3 + d3)) ≤ ((u2 - u3 + d1 - d2 + d3) + u2) := by omega
        rw [Int.max_eq_right g] at e
        obtain rfl : h6 = -v1 + u2 + d1 := by omega
        clear e g
        intro U6 e
        have g : ((-v1 + u2 + d1) + (v2 + u1 - u3 - d1 + d3)) ≤ (u1 + (u2 - u3 + d3)) := by omega
        rw [Int.max_eq_left g] at e
        obtain rfl : U6 = u1 - d1 + d2 := by omega
        clear e g
        intro D6 e
        have g : ((-v1 + u2 + d1) + v3) ≤ (u1 + (u2 - u3 + d3)) := by omega
        rw [Int.max_eq_left g] at e
        obtain rfl : D6 = u1 - u3 + d3 := by omega
        clear e g
        intro V6 e
        have g : ((u1 - d1 + d2) + (u1 - u3 + d3)) ≤ ((u2 - u3 + d3) + u1) := by omega
        rw [Int.max_eq_right g] at e
        obtain rfl : V6 = v1 + u1 - u3 - d1 + d3 := by omega
        clear e g
        exact ⟨rfl, rfl, rfl, rfl, rfl, rfl⟩
      · rw [Int.max_eq_right g] at e
        obtain rfl : U3 = v0 - v2 + u3 := by omega
        clear e
        intro D3 e
        have g : ((u1 - d1 + d2) + d3) ≤ ((-v2 + u3 + d2) + (v1 + u1 - u3 - d1 + d3)) := by omega
        rw [Int.max_eq_right g] at e
        obtain rfl : D3 = u2 - u3 + d3 := by omega
        clear e g
        intro V3 e
        rcases Int.le_total (d3 + (u1 - d1 + d2)) ((v0 - v2 + u3) + (u2 - u3 + d3)) with g | g
        · rw [Int.max_eq_left g] at e
          obtain rfl : V3 = v0 + u2 - u3 - d2 + d3 := by omega
          clear e
          intro h4 e
          have g : (u2 + d3) ≤ (d2 + u3) := by omega
          rw [Int.max_eq_right g] at e
          obtain rfl : h4 = -v2 + u3 + d2 := by omega
          clear e g
          intro U4 e
          have g : (u2 + d3) ≤ ((-v2 + u3 + d2) + v1) := by omega
          rw [Int.max_eq_right g] at e
          obtain rfl : U4 = v1 - v2 + u3 := by omega
          clear e g
          intro D4 e
          have g : ((-v2 + u3 + d2) + v3) ≤ (u2 + d3) := by omega
          rw [Int.max_eq_left g] at e
          obtain rfl : D4 = u2 - u3 + d3 := by omega
          clear e g
          intro V4 e
          have g : (d3 + u2) ≤ ((v1 - v2 + u3) + (u2 - u3 + d3)) := by omega
          rw [Int.max_eq_left g] at e
          obtain rfl : V4 = v1 + u2 - u3 - d2 + d3 := by omega
          clear e g
          intro h5 e
          have g : (u1 + d3) ≤ (d1 + (v1 - v2 + u3)) := by omega
          rw [Int.max_eq_right g] at e
          obtain rfl : h5 = -v2 + u3 + d1 := by omega
          clear e g
          intro U5 e
          have g : (u1 + d3) ≤ ((-v2 + u3 + d1) + v0) := by omega
          rw [Int.max_eq_right g] at e
          obtain rfl : U5 = v0 - v2 + u3 := by omega
          clear e g
          intro D5 e
          have g : (u1 + d3) ≤ ((-v2 + u3 + d1) + (v1 + u2 - u3 - d2 + d3)) := by omega
          rw [Int.max_eq_right g] at e
          obtain rfl : D5 = u2 - u3 + d1 - d2 + d3 := by omega
          clear e g
          intro V5 e
          have g : (d3 + u1) ≤ ((v0 - v2 + u3) + (u2 - u3 + d1 - d2 + d3)) := by omega
          rw [Int.max_eq_left g] at e
          obtain rfl : V5 = v0 + u2 - u3 - d2 + d3 := by omega
          clear e g
          intro h6 e
          have g : (u1 + (u2 - u3 + d3)) ≤ ((u2 - u3 + d1 - d2 + d3) + u2) := by omega
          rw [Int.max_eq_right g] at e
          obtain rfl : h6 = -v1 + u2 + d1 := by omega
          clear e g
          intro U6 e
          have g : ((-v1 + u2 + d1) + (v0 + u2 - u3 - d2 + d3)) ≤ (u1 + (u2 - u3 + d3)) := by omega
          rw [Int.max_eq_left g] at e
          obtain rfl : U6 = u1 - d1 + d2 := by omega
          clear e g
          intro D6 e
          have g : ((-v1 + u2 + d1) + v3) ≤ (u1 + (u2 - u3 + d3)) := by omega
          rw [Int.max_eq_left g] at e
          obtain rfl : D6 = u1 - u3 + d3 := by omega
          clear e g
          intro V6 e
          have g : ((u1 - d1 + d2) + (u1 - u3 + d3)) ≤ ((u2 - u3 + d3) + u1) := by omega
          rw [Int.max_eq_right g] at e
          obtain rfl : V6 = v1 + u1 - u3 - d1 + d3 := by omega
          clear e g
          exact ⟨rfl, rfl, rfl, rfl, rfl, rfl⟩
        · rw [Int.max_eq_right g] at e
          obtain rfl : V3 = v2 + u1 - u3 - d1 + d3 := by omega
          clear e
          intro h4 e
          have g : (u2 + d3) ≤ (d2 + u3) := by omega
          rw [Int.max_eq_right g] at e
          obtain rfl : h4 = -v2 + u3 + d2 := by omega
          clear e g
          intro U4 e
          have g : (u2 + d3) ≤ ((-v2 + u3 + d2) + v1) := by omega
          rw [Int.max_eq_right g] at e
          obtain rfl : U4 = v1 - v2 + u3 := by omega
          clear e g
          intro D4 e
          have g : ((-v2 + u3 + d2) + v3) ≤ (u2 + d3) := by omega
          rw [Int.max_eq_left g] at e
          obtain rfl : D4 = u2 - u3 + d3 := by omega
          clear e g
          intro V4 e
          have g : (d3 + u2) ≤ ((v1 - v2 + u3) + (u2 - u3 + d3)) := by omega
          rw [Int.max_eq_left g] at e
          obtain rfl : V4 = v1 + u2 - u3 - d2 + d3 := by omega
          clear e g
          intro h5 e
          have g : (u1 + d3) ≤ (d1 + (v1 - v2 + u3)) := by omega
          rw [Int.max_eq_right g] at e
          obtain rfl : h5 = -v2 + u3 + d1 := by omega
          clear e g
          intro U5 e
          have g : (u1 + d3) ≤ ((-v2 + u3 + d1) + v0) := by omega
          rw [Int.max_eq_right g] at e
          obtain rfl : U5 = v0 - v2 + u3 := by omega
          clear e g
          intro D5 e
          have g : (u1 + d3) ≤ ((-v2 + u3 + d1) + (v1 + u2 - u3 - d2 + d3)) := by omega
          rw [Int.max_eq_right g] at e
          obtain rfl : D5 = u2 - u3 + d1 - d2 + d3 := by omega
          clear e g
          intro V5 e
          have g : ((v0 - v2 + u3) + (u2 - u3 + d1 - d2 + d3)) ≤ (d3 + u1) := by omega
          rw [Int.max_eq_right g] at e
          obtain rfl : V5 = v2 + u1 - u3 - d1 + d3 := by omega
          clear e g
          intro h6 e
          have g : (u1 + (u2 - u3 + d3)) ≤ ((u2 - u3 + d1 - d2 + d3) + u2) := by omega
          rw [Int.max_eq_right g] at e
          obtain rfl : h6 = -v1 + u2 + d1 := by omega
          clear e g
          intro U6 e
          have g : ((-v1 + u2 + d1) + (v2 + u1 - u3 - d1 + d3)) ≤ (u1 + (u2 - u3 + d3)) := by omega
          rw [Int.max_eq_left g] at e
          obtain rfl : U6 = u1 - d1 + d2 := by omega
          clear e g
          intro D6 e
          have g : ((-v1 + u2 + d1) + v3) ≤ (u1 + (u2 - u3 + d3)) := by omega
          rw [Int.max_eq_left g] at e
          obtain rfl : D6 = u1 - u3 + d3 := by omega
          clear e g
          intro V6 e
          have g : ((u1 - d1 + d2) + (u1 - u3 + d3)) ≤ ((u2 - u3 + d3) + u1) := by omega
          rw [Int.max_eq_right g] at e
          obtain rfl : V6 = v1 + u1 - u3 - d1 + d3 := by omega
          clear e g
          exact ⟨rfl, rfl, rfl, rfl, rfl, rfl⟩
    · rw [Int.max_eq_right g] at e
      obtain rfl : D2 = -v2 + v3 + u1 - u2 + d2 := by omega
      clear e
      intro V2 e
      have g : (d3 + u1) ≤ ((v1 - v2 + u1 - u2 + u3 - d1 + d2) + (-v2 + v3 + u1 - u2 + d2)) := by omega
      rw [Int.max_eq_left g] at e
      obtain rfl : V2 = v1 - v2 + v3 + u1 - u2 - d1 + d2 := by omega
      clear e g
      intro h3 e
      have g : ((u1 - d1 + d2) + d3) ≤ (d2 + (v1 - v2 + u1 - u2 + u3 - d1 + d2)) := by omega
      rw [Int.max_eq_right g] at e
      obtain rfl : h3 = -v2 + u3 + d2 := by omega
      clear e g
      intro U3 e
      rcases Int.le_total ((-v2 + u3 + d2) + v0) ((u1 - d1 + d2) + d3) with g | g
      · rw [Int.max_eq_left g] at e
        obtain rfl : U3 = u1 - d1 + d3 := by omega
        clear e
        intro D3 e
        have g : ((u1 - d1 + d2) + d3) ≤ ((-v2 + u3 + d2) + (v1 - v2 + v3 + u1 - u2 - d1 + d2)) := by omega
        rw [Int.max_eq_right g] at e
        obtain rfl : D3 = -v2 + v3 + d2 := by omega
        clear e g
        intro V3 e
        rcases Int.le_total (d3 + (u1 - d1 + d2)) ((u1 - d1 + d3) + (-v2 + v3 + d2)) with g | g
        · rw [Int.max_eq_left g] at e
          obtain rfl : V3 = v3 + u1 - u3 - d1 + d3 := by omega
          clear e
          intro h4 e
          have g : (u2 + d3) ≤ (d2 + u3) := by omega
          rw [Int.max_eq_right g] at e
          obtain rfl : h4 = -v2 + u3 + d2 := by omega
          clear e g
          intro U4 e
          have g : (u2 + d3) ≤ ((-v2 + u3 + d2) + v1) := by omega
          rw [Int.max_eq_right g] at e
          obtain rfl : U4 = v1 - v2 + u3 := by omega
          clear e g
          intro D4 e
          have g : (u2 + d3) ≤ ((-v2 + u3 + d2) + v3) := by omega
          rw [Int.max_eq_right g] at e
          obtain rfl : D4 = -v2 + v3 + d2 := by omega
          clear e g
          intro V4 e
          have g : (d3 + u2) ≤ ((v1 - v2 + u3) + (-v2 + v3 + d2)) := by omega
          rw [Int.max_eq_left g] at e
          obtain rfl : V4 = v1 - v2 + v3 := by omega
          clear e g
          intro h5 e
          have g : (u1 + d3) ≤ (d1 + (v1 - v2 + u3)) := by omega
          rw [Int.max_eq_right g] at e
          obtain rfl : h5 = -v2 + u3 + d1 := by omega
          clear e g
          intro U5 e
          have g : ((-v2 + u3 + d1) + v0) ≤ (u1 + d3) := by omega
          rw [Int.max_eq_left g] at e
          obtain rfl : U5 = u1 - d1 + d3 := by omega
          clear e g
          intro D5 e
          have g : (u1 + d3) ≤ ((-v2 + u3 + d1) + (v1 - v2 + v3)) := by omega
          rw [Int.max_eq_right g] at e
          obtain rfl : D5 = -v2 + v3 + d1 := by omega
          clear e g
          intro V5 e
          have g : (d3 + u1) ≤ ((u1 - d1 + d3) + (-v2 + v3 + d1)) := by omega
          rw [Int.max_eq_left g] at e
          obtain rfl : V5 = v3 + u1 - u3 - d1 + d3 := by omega
          clear e g
          intro h6 e
          have g : (u1 + (-v2 + v3 + d2)) ≤ ((-v2 + v3 + d1) + u2) := by omega
          rw [Int.max_eq_right g] at e
          obtain rfl : h6 = -v1 + u2 + d1 := by omega
          clear e g
          intro U6 e
          have g : ((-v1 + u2 + d1) + (v3 + u1 - u3 - d1 + d3)) ≤ (u1 + (-v2 + v3 + d2)) := by omega
          rw [Int.max_eq_left g] at e
          obtain rfl : U6 = u1 - d1 + d2 := by omega
          clear e g
          intro D6 e
          have g : ((-v1 + u2 + d1) + v3) ≤ (u1 + (-v2 + v3 + d2)) := by omega
          rw [Int.max_eq_left g] at e
          obtain rfl : D6 = -v2 + v3 + u1 - u2 + d2 := by omega
          clear e g
          intro V6 e
          have g : ((u1 - d1 + d2) + (-v2 + v3 + u1 - u2 + d2)) ≤ ((-v2 + v3 + d2) + u1) := by omega
          rw [Int.max_eq_right g] at e
          obtain rfl : V6 = v1 - v2 + v3 + u1 - u2 - d1 + d2 := by omega
          clear e g
          exact ⟨rfl, rfl, rfl, rfl, rfl, rfl⟩
        · rw [Int.max_eq_right g] at e
          obtain rfl : V3 = v2 + u1 - u3 - d1 + d3 := by omega
          clear e
          intro h4 e
          have g : (u2 + d3) ≤ (d2 + u3) := by omega
          rw [Int.max_eq_right g] at e
          obtain rfl : h4 = -v2 + u3 + d2 := by omega
          clear e g
          intro U4 e
          have g : (u2 + d3) ≤ ((-v2 + u3 + d2) + v1) := by omega
          rw [Int.max_eq_right g] at e
          obtain rfl : U4 = v1 - v2 + u3 := by omega
          clear e g
          intro D4 e
          have g : (u2 + d3) ≤ ((-v2 + u3 + d2) + v3) := by omega
          rw [Int.max_eq_right g] at e
          obtain rfl : D4 = -v2 + v3 + d2 := by omega
          clear e g
          intro V4 e
          have g : (d3 + u2) ≤ ((v1 - v2 + u3) + (-v2 + v3 + d2)) := by omega
          rw [Int.max_eq_left g] at e
          obtain rfl : V4 = v1 - v2 + v3 := by omega
          clear e g
          intro h5 e
          have g : (u1 + d3) ≤ (d1 + (v1 - v2 + u3)) := by omega
          rw [Int.max_eq_right g] at e
          obtain rfl : h5 = -v2 + u3 + d1 := by omega
          clear e g
          intro U5 e
          have g : ((-v2 + u3 + d1) + v0) ≤ (u1 + d3) := by omega
          rw [Int.max_eq_left g] at e
          obtain rfl : U5 = u1 - d1 + d3 := by omega
          clear e g
          intro D5 e
          have g : (u1 + d3) ≤ ((-v2 + u3 + d1) + (v1 - v2 + v3)) := by omega
          rw [Int.max_eq_right g] at e
          obtain rfl : D5 = -v2 + v3 + d1 := by omega
          clear e g
          intro V5 e
          have g : ((u1 - d1 + d3) + (-v2 + v3 + d1)) ≤ (d3 + u1) := by omega
          rw [Int.max_eq_right g] at e
          obtain rfl : V5 = v2 + u1 - u3 - d1 + d3 := by omega
          clear e g
          intro h6 e
          have g : (u1 + (-v2 + v3 + d2)) ≤ ((-v2 + v3 + d1) + u2) := by omega
          rw [Int.max_eq_right g] at e
          obtain rfl : h6 = -v1 + u2 + d1 := by omega
          clear e g
          intro U6 e
          have g : ((-v1 + u2 + d1) + (v2 + u1 - u3 - d1 + d3)) ≤ (u1 + (-v2 + v3 + d2)) := by omega
          rw [Int.max_eq_left g] at e
          obtain rfl : U6 = u1 - d1 + d2 := by omega
          clear e g
          intro D6 e
          have g : ((-v1 + u2 + d1) + v3) ≤ (u1 + (-v2 + v3 + d2)) := by omega
          rw [Int.max_eq_left g] at e
          obtain rfl : D6 = -v2 + v3 + u1 - u2 + d2 := by omega
          clear e g
          intro V6 e
          have g : ((u1 - d1 + d2) + (-v2 + v3 + u1 - u2 + d2)) ≤ ((-v2 + v3 + d2) + u1) := by omega
          rw [Int.max_eq_right g] at e
          obtain rfl : V6 = v1 - v2 + v3 + u1 - u2 - d1 + d2 := by omega
          clear e g
          exact ⟨rfl, rfl, rfl, rfl, rfl, rfl⟩
      · rw [Int.max_eq_right g] at e
        obtain rfl : U3 = v0 - v2 + u3 := by omega
        clear e
        intro D3 e
        have g : ((u1 - d1 + d2) + d3) ≤ ((-v2 + u3 + d2) + (v1 - v2 + v3 + u1 - u2 - d1 + d2)) := by omega
        rw [Int.max_eq_right g] at e
        obtain rfl : D3 = -v2 + v3 + d2 := by omega
        clear e g
        intro V3 e
        rcases Int.le_total (d3 + (u1 - d1 + d2)) ((v0 - v2 + u3) + (-v2 + v3 + d2)) with g | g
        · rw [Int.max_eq_left g] at e
          obtain rfl : V3 = v0 - v2 + v3 := by omega
          clear e
          intro h4 e
          have g : (u2 + d3) ≤ (d2 + u3) := by omega
          rw [Int.max_eq_right g] at e
          obtain rfl : h4 = -v2 + u3 + d2 := by omega
          clear e g
          intro U4 e
          have g : (u2 + d3) ≤ ((-v2 + u3 + d2) + v1) := by omega
          rw [Int.max_eq_right g] at e
          obtain rfl : U4 = v1 - v2 + u3 := by omega
          clear e g
          intro D4 e
          have g : (u2 + d3) ≤ ((-v2 + u3 + d2) + v3) := by omega
          rw [Int.max_eq_right g] at e
          obtain rfl : D4 = -v2 + v3 + d2 := by omega
          clear e g
          intro V4 e
          have g : (d3 + u2) ≤ ((v1 - v2 + u3) + (-v2 + v3 + d2)) := by omega
          rw [Int.max_eq_left g] at e
          obtain rfl : V4 = v1 - v2 + v3 := by omega
          clear e g
          intro h5 e
          have g : (u1 + d3) ≤ (d1 + (v1 - v2 + u3)) := by omega
          rw [Int.max_eq_right g] at e
          obtain rfl : h5 = -v2 + u3 + d1 := by omega
          clear e g
          intro U5 e
          have g : (u1 + d3) ≤ ((-v2 + u3 + d1) + v0) := by omega
          rw [Int.max_eq_right g] at e
          obtain rfl : U5 = v0 - v2 + u3 := by omega
          clear e g
          intro D5 e
          have g : (u1 + d3) ≤ ((-v2 + u3 + d1) + (v1 - v2 + v3)) := by omega
          rw [Int.max_eq_right g] at e
          obtain rfl : D5 = -v2 + v3 + d1 := by omega
          clear e g
          intro V5 e
          have g : (d3 + u1) ≤ ((v0 - v2 + u3) + (-v2 + v3 + d1)) := by omega
          rw [Int.max_eq_left g] at e
          obtain rfl : V5 = v0 - v2 + v3 := by omega
          clear e g
          intro h6 e
          have g : (u1 + (-v2 + v3 + d2)) ≤ ((-v2 + v3 + d1) + u2) := by omega
          rw [Int.max_eq_right g] at e
          obtain rfl : h6 = -v1 + u2 + d1 := by omega
          clear e g
          intro U6 e
          have g : ((-v1 + u2 + d1) + (v0 - v2 + v3)) ≤ (u1 + (-v2 + v3 + d2)) := by omega
          rw [Int.max_eq_left g] at e
          obtain rfl : U6 = u1 - d1 + d2 := by omega
          clear e g
          intro D6 e
          have g : ((-v1 + u2 + d1) + v3) ≤ (u1 + (-v2 + v3 + d2)) := by omega
          rw [Int.max_eq_left g] at e
          obtain rfl : D6 = -v2 + v3 + u1 - u2 + d2 := by omega
          clear e g
          intro V6 e
          have g : ((u1 - d1 + d2) + (-v2 + v3 + u1 - u2 + d2)) ≤ ((-v2 + v3 + d2) + u1) := by omega
          rw [Int.max_eq_right g] at e
          obtain rfl : V6 = v1 - v2 + v3 + u1 - u2 - d1 + d2 := by omega
          clear e g
          exact ⟨rfl, rfl, rfl, rfl, rfl, rfl⟩
        · rw [Int.max_eq_right g] at e
          obtain rfl : V3 = v2 + u1 - u3 - d1 + d3 := by omega
          clear e
          intro h4 e
          have g : (u2 + d3) ≤ (d2 + u3) := by omega
          rw [Int.max_eq_right g] at e
          obtain rfl : h4 = -v2 + u3 + d2 := by omega
          clear e g
          intro U4 e
          have g : (u2 + d3) ≤ ((-v2 + u3 + d2) + v1) := by omega
          rw [Int.max_eq_right g] at e
          obtain rfl : U4 = v1 - v2 + u3 := by omega
          clear e g
          intro D4 e
          have g : (u2 + d3) ≤ ((-v2 + u3 + d2) + v3) := by omega
          rw [Int.max_eq_right g] at e
          obtain rfl : D4 = -v2 + v3 + d2 := by omega
          clear e g
          intro V4 e
          have g : (d3 + u2) ≤ ((v1 - v2 + u3) + (-v2 + v3 + d2)) := by omega
          rw [Int.max_eq_left g] at e
          obtain rfl : V4 = v1 - v2 + v3 := by omega
          clear e g
          intro h5 e
          have g : (u1 + d3) ≤ (d1 + (v1 - v2 + u3)) := by omega
          rw [Int.max_eq_right g] at e
          obtain rfl : h5 = -v2 + u3 + d1 := by omega
          clear e g
          intro U5 e
          have g : (u1 + d3) ≤ ((-v2 + u3 + d1) + v0) := by omega
          rw [Int.max_eq_right g] at e
          obtain rfl : U5 = v0 - v2 + u3 := by omega
          clear e g
          intro D5 e
          have g : (u1 + d3) ≤ ((-v2 + u3 + d1) + (v1 - v2 + v3)) := by omega
          rw [Int.max_eq_right g] at e
          obtain rfl : D5 = -v2 + v3 + d1 := by omega
          clear e g
          intro V5 e
          have g : ((v0 - v2 + u3) + (-v2 + v3 + d1)) ≤ (d3 + u1) := by omega
          rw [Int.max_eq_right g] at e
          obtain rfl : V5 = v2 + u1 - u3 - d1 + d3 := by omega
          clear e g
          intro h6 e
          have g : (u1 + (-v2 + v3 + d2)) ≤ ((-v2 + v3 + d1) + u2) := by omega
          rw [Int.max_eq_right g] at e
          obtain rfl : h6 = -v1 + u2 + d1 := by omega
          clear e g
          intro U6 e
          have g : ((-v1 + u2 + d1) + (v2 + u1 - u3 - d1 + d3)) ≤ (u1 + (-v2 + v3 + d2)) := by omega
          rw [Int.max_eq_left g] at e
          obtain rfl : U6 = u1 - d1 + d2 := by omega
          clear e g
          intro D6 e
          have g : ((-v1 + u2 + d1) + v3) ≤ (u1 + (-v2 + v3 + d2)) := by omega
          rw [Int.max_eq_left g] at e
          obtain rfl : D6 = -v2 + v3 + u1 - u2 + d2 := by omega
          clear e g
          intro V6 e
          have g : ((u1 - d1 + d2) + (-v2 + v3 + u1 - u2 + d2)) ≤ ((-v2 + v3 + d2) + u1) := by omega
          rw [Int.max_eq_right g] at e
          obtain rfl : V6 = v1 - v2 + v3 + u1 - u2 - d1 + d2 := by omega
          clear e g
          exact ⟨rfl, rfl, rfl, rfl, rfl, rfl⟩
set_option maxHeartbeats 4000000 in
set_option maxRecDepth 100000 in
theorem dy_c15 (v0 v1 v2 v3 u1 u2 u3 d1 d2 d3 : Int) (g0 : u1 + d2 ≤ u2 + d1) (g1 : v0 + u2 + d1 ≤ v1 + u1 + d2) (g2 : v1 + u1 + d2 ≤ v2 + u2 + d1) (g3 : v1 ≤ v2) (g4 : v2 + u3 + d1 ≤ v1 + u1 + d3) : ∀ U2 : Int, U2 = max (u1 + d3) ((-v2 + u1 + d3) + (v2 + u1 - u2 - d1 + d2)) - (-v1 + v2 + d1) → ∀ D2 : Int, D2 = max (u1 + d3) ((-v2 + u1 + d3) + v3) - u3 → ∀ V2 : Int, V2 = max (U2 + D2) (d3 + u1) - (-v2 + u1 + d3) → ∀ h3 : Int, h3 = max ((u1 - d1 + d2) + d3) (d2 + U2) - (v2 + u1 - u2 - d1 + d2) → ∀ U3 : Int, U3 = max ((u1 - d1 + d2) + d3) (h3 + v0) - d2 → ∀ D3 : Int, D3 = max ((u1 - d1 + d2) + d3) (h3 + V2) - U2 → ∀ V3 : Int, V3 = max (U3 + D3) (d3 + (u1 - d1 + d2)) - h3 → ∀ h4 : Int, h4 = max (u2 + d3) (d2 + u3) - v2 → ∀ U4 : Int, U4 = max (u2 + d3) (h4 + v1) - d2 → ∀ D4 : Int, D4 = max (u2 + d3) (h4 + v3) - u3 → ∀ V4 : Int, V4 = max (U4 + D4) (d3 + u2) - h4 → ∀ h5 : Int, h5 = max (u1 + d3) (d1 + U4) - v1 → ∀ U5 : Int, U5 = max (u1 + d3) (h5 + v0) - d1 → ∀ D5 : Int, D5 = max (u1 + d3) (h5 + V4) - U4 → ∀ V5 : Int, V5 = max (U5 + D5) (d3 + u1) - h5 → ∀ h6 : Int, h6 = max (u1 + D4) (D5 + u2) - V4 → ∀ U6 : Int, U6 = max (u1 + D4) (h6 + V5) - D5 → ∀ D6 : Int, D6 = max (u1 + D4) (h6 + v3) - u2 → ∀ V6 : Int, V6 = max (U6 + D6) (D4 + u1) - h6 → V3 = V5 ∧ U3 = U5 ∧ V2 = V6 ∧ (u1 - d1 + d2) = U6 ∧ D3 = D4 ∧ D2 = D6 := by
  intro U2 e
  have g : ((-v2 + u1 + d3) + (v2 + u1 - u2 - d1 + d2)) ≤ (u1 + d3) := by omega
  rw [Int.max_eq_left g] at e
  obtain rfl : U2 = v1 - v2 + u1 - d1 + d3 := by omega
  clear e g
  intro D2 e
  rcases Int.le_total ((-v2 + u1 + d3) + v3) (u1 + d3) with g | g
  · rw [Int.max_eq_left g] at e
    obtain rfl : D2 = u1 - u3 + d3 := by omega
    clear e
    intro V2 e
    have g : (d3 + u1) ≤ ((v1 - v2 + u1 - d1 + d3) + (u1 - u3 + d3)) := by omega
    rw [Int.max_eq_left g] at e
    obtain rfl : V2 = v1 + u1 - u3 - d1 + d3 := by omega
    clear e g
    intro h3 e
    have g : (d2 + (v1 - v2 + u1 - d1 + d3)) ≤ ((u1 - d1 + d2) + d3) := by omega
    rw [Int.max_eq_left g] at e
    obtain rfl : h3 = -v2 + u2 + d3 := by omega
    clear e g
    intro U3 e
    have g : ((-v2 + u2 + d3) + v0) ≤ ((u1 - d1 + d2) + d3) := by omega
    rw [Int.max_eq_left g] at e
    obtain rfl : U3 = u1 - d1 + d3 := by omega
    clear e g
    intro D3 e
    have g : ((u1 - d1 + d2) + d3) ≤ ((-v2 + u2 + d3) + (v1 + u1 - u3 - d1 + d3)) := by omega
    rw [Int.max_eq_right g] at e
    obtain rfl : D3 = u2 - u3 + d3 := by omega
    clear e g
    intro V3 e
    have g : (d3 + (u1 - d1 + d2)) ≤ ((u1 - d1 + d3) + (u2 - u3 + d3)) := by omega
    rw [Int.max_eq_left g] at e
    obtain rfl : V3 = v2 + u1 - u3 - d1 + d3 := by omega
    clear e g
    intro h4 e
    have g : (d2 + u3) ≤ (u2 + d3) := by omega
    rw [Int.max_eq_left g] at e
    obtain rfl : h4 = -v2 + u2 + d3 := by omega
    clear e g
    intro U4 e
    have g : ((-v2 + u2 + d3) + v1) ≤ (u2 + d3) := by omega
    rw [Int.max_eq_left g] at e
    obtain rfl : U4 = u2 - d2 + d3 := by omega
    clear e g
    intro D4 e
    have g : ((-v2 + u2 + d3) + v3) ≤ (u2 + d3) := by omega
    rw [Int.max_eq_left g] at e
    obtain rfl : D4 = u2 - u3 + d3 := by omega
    clear e g
    intro V4 e
    have g : (d3 + u2) ≤ ((u2 - d2 + d3) + (u2 - u3 + d3)) := by omega
    rw [Int.max_eq_left g] at e
    obtain rfl : V4 = v2 + u2 - u3 - d2 + d3 := by omega
    clear e g
    intro h5 e
    have g : (u1 + d3) ≤ (d1 + (u2 - d2 + d3)) := by omega
    rw [Int.max_eq_right g] at e
    obtain rfl : h5 = -v1 + u2 + d1 - d2 + d3 := by omega
    clear e g
    intro U5 e
    have g : ((-v1 + u2 + d1 - d2 + d3) + v0) ≤ (u1 + d3) := by omega
    rw [Int.max_eq_left g] at e
    obtain rfl : U5 = u1 - d1 + d3 := by omega
    clear e g
    intro D5 e
    have g : (u1 + d3) ≤ ((-v1 + u2 + d1 - d2 + d3) + (v2 + u2 - u3 - d2 + d3)) := by omega
    rw [Int.max_eq_right g] at e
    obtain rfl : D5 = -v1 + v2 + u2 - u3 + d1 - d2 + d3 := by omega
    clear e g
    intro V5 e
    have g : (d3 + u1) ≤ ((u1 - d1 + d3) + (-v1 + v2 + u2 - u3 + d1 - d2 + d3)) := by omega
    rw [Int.max_eq_left g] at e
    obtain rfl : V5 = v2 + u1 - u3 - d1 + d3 := by omega
    clear e g
    intro h6 e
    have g : (u1 + (u2 - u3 + d3)) ≤ ((-v1 + v2 + u2 - u3 + d1 - d2 + d3) + u2) := by omega
    rw [Int.max_eq_right g] at e
    obtain rfl : h6 = -v1 + u2 + d1 := by omega
    clear e g
    intro U6 e
    have g : (u1 + (u2 - u3 + d3)) ≤ ((-v1 + u2 + d1) + (v2 + u1 - u3 - d1 + d3)) := by omega
    rw [Int.max_eq_right g] at e
    obtain rfl : U6 = u1 - d1 + d2 := by omega
    clear e g
    intro D6 e
    have g : ((-v1 + u2 + d1) + v3) ≤ (u1 + (u2 - u3 + d3)) := by omega
    rw [Int.max_eq_left g] at e
    obtain rfl : D6 = u1 - u3 + d3 := by omega
    clear e g
    intro V6 e
    have g : ((u1 - d1 + d2) + (u1 - u3 + d3)) ≤ ((u2 - u3 + d3) + u1) := by omega
    rw [Int.max_eq_right g] at e
    obtain rfl : V6 = v1 + u1 - u3 - d1 + d3 := by omega
    clear e g
    exact ⟨rfl, rfl, rfl, rfl, rfl, rfl⟩
  · rw [Int.max_eq_right g] at e
    obtain rfl : D2 = -v2 + v3 + u1 - u3 + d3 := by omega
    clear e
    intro V2 e
    have g : (d3 + u1) ≤ ((v1 - v2 + u1 - d1 + d3) + (-v2 + v3 + u1 - u3 + d3)) := by omega
    rw [Int.max_eq_left g] at e
    obtain rfl : V2 = v1 - v2 + v3 + u1 - u3 - d1 + d3 := by omega
    clear e g
    intro h3 e
    have g : (d2 + (v1 - v2 + u1 - d1 + d3)) ≤ ((u1 - d1 + d2) + d3) := by omega
    rw [Int.max_eq_left g] at e
    obtain rfl : h3 = -v2 + u2 + d3 := by omega
    clear e g
    intro U3 e
    have g : ((-v2 + u2 + d3) + v0) ≤ ((u1 - d1 + d2) + d3) := by omega
    rw [Int.max_eq_left g] at e
    obtain rfl : U3 = u1 - d1 + d3 := by omega
    clear e g
    intro D3 e
    have g : ((u1 - d1 + d2) + d3) ≤ ((-v2 + u2 + d3) + (v1 - v2 + v3 + u1 - u3 - d1 + d3)) := by omega
    rw [Int.max_eq_right g] at e
    obtain rfl : D3 = -v2 + v3 + u2 - u3 + d3 := by omega
    clear e g
    intro V3 e
    have g : (d3 + (u1 - d1 + d2)) ≤ ((u1 - d1 + d3) + (-v2 + v3 + u2 - u3 + d3)) := by omega
    rw [Int.max_eq_left g] at e
    obtain rfl : V3 = v3 + u1 - u3 - d1 + d3 := by omega
    clear e g
    intro h4 e
    have g : (d2 + u3) ≤ (u2 + d3) := by omega
    rw [Int.max_eq_left g] at e
    obtain rfl : h4 = -v2 + u2 + d3 := by omega
    clear e g
    intro U4 e
    have g : ((-v2 + u2 + d3) + v1) ≤ (u2 + d3) := by omega
    rw [Int.max_eq_left g] at e
    obtain rfl : U4 = u2 - d2 + d3 := by omega
    clear e g
    intro D4 e
    have g : (u2 + d3) ≤ ((-v2 + u2 + d3) + v3) := by omega
    rw [Int.max_eq_right g] at e
    obtain rfl : D4 = -v2 + v3 + u2 - u3 + d3 := by omega
    clear e g
    intro V4 e
    have g : (d3 + u2) ≤ ((u2 - d2 + d3) + (-v2 + v3 + u2 - u3 + d3)) := by omega
    rw [Int.max_eq_left g] at e
    obtain rfl : V4 = v3 + u2 - u3 - d2 + d3 := by omega
    clear e g
    intro h5 e
    have g : (u1 + d3) ≤ (d1 + (u2 - d2 + d3)) := by omega
    rw [Int.max_eq_right g] at e
    obtain rfl : h5 = -v1 + u2 + d1 - d2 + d3 := by omega
    clear e g
    intro U5 e
    have g : ((-v1 + u2 + d1 - d2 + d3) + v0) ≤ (u1 + d3) := by omega
    rw [Int.max_eq_left g] at e
    obtain rfl : U5 = u1 - d1 + d3 := by omega
    clear e g
    intro D5 e
    have g : (u1 + d3) ≤ ((-v1 + u2 + d1 - d2 + d3) + (v3 + u2 - u3 - d2 + d3)) := by omega
    rw [Int.max_eq_right g] at e
    obtain rfl : D5 = -v1 + v3 + u2 - u3 + d1 - d2 + d3 := by omega
    clear e g
    intro V5 e
    have g : (d3 + u1) ≤ ((u1 - d1 + d3) + (-v1 + v3 + u2 - u3 + d1 - d2 + d3)) := by omega
    rw [Int.max_eq_left g] at e
    obtain rfl : V5 = v3 + u1 - u3 - d1 + d3 := by omega
    clear e g
    intro h6 e
    have g : (u1 + (-v2 + v3 + u2 - u3 + d3)) ≤ ((-v1 + v3 + u2 - u3 + d1 - d2 + d3) + u2) := by omega
    rw [Int.max_eq_right g] at e
    obtain rfl : h6 = -v1 + u2 + d1 := by omega
    clear e g
    intro U6 e
    have g : (u1 + (-v2 + v3 + u2 - u3 + d3)) ≤ ((-v1 + u2 + d1) + (v3 + u1 - u3 - d1 + d3)) := by omega
    rw [Int.max_eq_right g] at e
    obtain rfl : U6 = u1 - d1 + d2 := by omega
    clear e g
    intro D6 e
    have g : ((-v1 + u2 + d1) + v3) ≤ (u1 + (-v2 + v3 + u2 - u3 + d3)) := by omega
    rw [Int.max_eq_left g] at e
    obtain rfl : D6 = -v2 + v3 + u1 - u3 + d3 := by omega
    clear e g
    intro V6 e
    have g : ((u1 - d1 + d2) + (-v2 + v3 + u1 - u3 + d3)) ≤ ((-v2 + v3 + u2 - u3 + d3) + u1) := by omega
    rw [Int.max_eq_right g] at e
    obtain rfl : V6 = v1 - v2 + v3 + u1 - u3 - d1 + d3 := by omega
    clear e g
    exact ⟨rfl, rfl, rfl, rfl, rfl, rfl⟩
set_option maxHeartbeats 4000000 in
set_option maxRecDepth 100000 in
theorem dy_c16 (v0 v1 v2 v3 u1 u2 u3 d1 d2 d3 : Int) (g0 : u1 + d2 ≤ u2 + d1) (g1 : v0 + u2 + d1 ≤ v1 + u1 + d2) (g2 : v1 + u1 + d2 ≤ v2 + u2 + d1) (g3 : v1 ≤ v2) (g4 : v1 + u1 + d3 ≤ v2 + u3 + d1) (g5 : v2 + u3 + d2 ≤ v1 + u2 + d3) : ∀ D2 : Int, D2 = max (u1 + d3) ((-v1 + u3 + d1) + v3) - u3 → ∀ V2 : Int, V2 = max ((v1 - v2 + u1 - d1 + d3) + D2) (d3 + u1) - (-v1 + u3 + d1) → ∀ h3 : Int, h3 = max ((u1 - d1 + d2) + d3) (d2 + (v1 - v2 + u1 - d1 + d3)) - (v2 + u1 - u2 - d1 + d2) → ∀ U3 : Int, U3 = max ((u1 - d1 + d2) + d3) (h3 + v0) - d2 → ∀ D3 : Int, D3 = max ((u1 - d1 + d2) + d3) (h3 + V2) - (v1 - v2 + u1 - d1 + d3) → ∀ V3 : Int, V3 = max (U3 + D3) (d3 + (u1 - d1 + d2)) - h3 → ∀ h4 : Int, h4 = max (u2 + d3) (d2 + u3) - v2 → ∀ U4 : Int, U4 = max (u2 + d3) (h4 + v1) - d2 → ∀ D4 : Int, D4 = max (u2 + d3) (h4 + v3) - u3 → ∀ V4 : Int, V4 = max (U4 + D4) (d3 + u2) - h4 → ∀ h5 : Int, h5 = max (u1 + d3) (d1 + U4) - v1 → ∀ U5 : Int, U5 = max (u1 + d3) (h5 + v0) - d1 → ∀ D5 : Int, D5 = max (u1 + d3) (h5 + V4) - U4 → ∀ V5 : Int, V5 = max (U5 + D5) (d3 + u1) - h5 → ∀ h6 : Int, h6 = max (u1 + D4) (D5 + u2) - V4 → ∀ U6 : Int, U6 = max (u1 + D4) (h6 + V5) - D5 → ∀ D6 : Int, D6 = max (u1 + D4) (h6 + v3) - u2 → ∀ V6 : Int, V6 = max (U6 + D6) (D4 + u1) - h6 → V3 = V5 ∧ U3 = U5 ∧ V2 = V6 ∧ (u1 - d1 + d2) = U6 ∧ D3 = D4 ∧ D2 = D6 := by
  intro D2 e
  rcases Int.le_total ((-v1 + u3 + d1) + v3) (u1 + d3) with g | g
  · rw [Int.max_eq_left g] at e
    obtain rfl : D2 = u1 - u3 + d3 := by omega
    clear e
    intro V2 e
    have g : ((v1 - v2 + u1 - d1 + d3) + (u1 - u3 + d3)) ≤ (d3 + u1) := by omega
    rw [Int.max_eq_right g] at e
    obtain rfl : V2 = v1 + u1 - u3 - d1 + d3 := by omega
    clear e g
    intro h3 e
    have g : (d2 + (v1 - v2 + u1 - d1 + d3)) ≤ ((u1 - d1 + d2) + d3) := by omega
    rw [Int.max_eq_left g] at e
    obtain rfl : h3 = -v2 + u2 + d3 := by omega
    clear e g
    intro U3 e
    have g : ((-v2 + u2 + d3) + v0) ≤ ((u1 - d1 + d2) + d3) := by omega
    rw [Int.max_eq_left g] at e
    obtain rfl : U3 = u1 - d1 + d3 := by omega
    clear e g
    intro D3 e
    have g : ((u1 - d1 + d2) + d3) ≤ ((-v2 + u2 + d3) + (v1 + u1 - u3 - d1 + d3)) := by omega
    rw [Int.max_eq_right g] at e
    obtain rfl : D3 = u2 - u3 + d3 := by omega
    clear e g
    intro V3 e
    have g : (d3 + (u1 - d1 + d2)) ≤ ((u1 - d1 + d3) + (u2 - u3 + d3)) := by omega
    rw [Int.max_eq_left g] at e
    obtain rfl : V3 = v2 + u1 - u3 - d1 + d3 := by omega
    clear e g
    intro h4 e
    have g : (d2 + u3) ≤ (u2 + d3) := by omega
    rw [Int.max_eq_left g] at e
    obtain rfl : h4 = -v2 + u2 + d3 := by omega
    clear e g
    intro U4 e
    have g : ((-v2 + u2 + d3) + v1) ≤ (u2 + d3) := by omega
    rw [Int.max_eq_left g] at e
    obtain rfl : U4 = u2 - d2 + d3 := by omega
    clear e g
    intro D4 e
    have g : ((-v2 + u2 + d3) + v3) ≤ (u2 + d3) := by omega
    rw [Int.max_eq_left g] at e
    obtain rfl : D4 = u2 - u3 + d3 := by omega
    clear e g
    intro V4 e
    have g : (d3 + u2) ≤ ((u2 - d2 + d3) + (u2 - u3 + d3)) := by omega
    rw [Int.max_eq_left g] at e
    obtain rfl : V4 = v2 + u2 - u3 - d2 + d3 := by omega
    clear e g
    intro h5 e
    have g : (u1 + d3) ≤ (d1 + (u2 - d2 + d3)) := by omega
    rw [Int.max_eq_right g] at e
    obtain rfl : h5 = -v1 + u2 + d1 - d2 + d3 := by omega
    clear e g
    intro U5 e
    have g : ((-v1 + u2 + d1 - d2 + d3) + v0) ≤ (u1 + d3) := by omega
    rw [Int.max_eq_left g] at e
    obtain rfl : U5 = u1 - d1 + d3 := by omega
    clear e g
    intro D5 e
    have g : (u1 + d3) ≤ ((-v1 + u2 + d1 - d2 + d3) + (v2 + u2 - u3 - d2 + d3)) := by omega
    rw [Int.max_eq_right g] at e
    obtain rfl : D5 = -v1 + v2 + u2 - u3 + d1 - d2 + d3 := by omega
    clear e g
    intro V5 e
    have g : (d3 + u1) ≤ ((u1 - d1 + d3) + (-v1 + v2 + u2 - u3 + d1 - d2 + d3)) := by omega
    rw [Int.max_eq_left g] at e
    obtain rfl : V5 = v2 + u1 - u3 - d1 + d3 := by omega
    clear e g
    intro h6 e
    have g : (u1 + (u2 - u3 + d3)) ≤ ((-v1 + v2 + u2 - u3 + d1 - d2 + d3) + u2) := by omega
    rw [Int.max_eq_right g] at e
    obtain rfl : h6 = -v1 + u2 + d1 := by omega
    clear e g
    intro U6 e
    have g : (u1 + (u2 - u3 + d3)) ≤ ((-v1 + u2 + d1) + (v2 + u1 - u3 - d1 + d3)) := by omega
    rw [Int.max_eq_right g] at e
    obtain rfl : U6 = u1 - d1 + d2 := by omega
    clear e g
    intro D6 e
    have g : ((-v1 + u2 + d1) + v3) ≤ (u1 + (u2 - u3 + d3)) := by omega
    rw [Int.max_eq_left g] at e
    obtain rfl : D6 = u1 - u3 + d3 := by omega
    clear e g
    intro V6 e
    have g : ((u1 - d1 + d2) + (u1 - u3 + d3)) ≤ ((u2 - u3 + d3) + u1) := by omega
    rw [Int.max_eq_right g] at e
    obtain rfl : V6 = v1 + u1 - u3 - d1 + d3 := by omega
    clear e g
    exact ⟨rfl, rfl, rfl, rfl, rfl, rfl⟩
  · rw [Int.max_eq_right g] at e
    obtain rfl : D2 = -v1 + v3 + d1 := by omega
    clear e
    intro V2 e
    rcases Int.le_total (d3 + u1) ((v1 - v2 + u1 - d1 + d3) + (-v1 + v3 + d1)) with g | g
    · rw [Int.max_eq_left g] at e
      obtain rfl : V2 = v1 - v2 + v3 + u1 - u3 - d1 + d3 := by omega
      clear e
      intro h3 e
      have g : (d2 + (v1 - v2 + u1 - d1 + d3)) ≤ ((u1 - d1 + d2) + d3) := by omega
      rw [Int.max_eq_left g] at e
      obtain rfl : h3 = -v2 + u2 + d3 := by omega
      clear e g
      intro U3 e
      have g : ((-v2 + u2 + d3) + v0) ≤ ((u1 - d1 + d2) + d3) := by omega
      rw [Int.max_eq_left g] at e
      obtain rfl : U3 = u1 - d1 + d3 := by omega
      clear e g
      intro D3 e
      have g : ((u1 - d1 + d2) + d3) ≤ ((-v2 + u2 + d3) + (v1 - v2 + v3 + u1 - u3 - d1 + d3)) := by omega
      rw [Int.max_eq_right g] at e
      obtain rfl : D3 = -v2 + v3 + u2 - u3 + d3 := by omega
      clear e g
      intro V3 e
      have g : (d3 + (u1 - d1 + d2)) ≤ ((u1 - d1 + d3) + (-v2 + v3 + u2 - u3 + d3)) := by omega
      rw [Int.max_eq_left g] at e
      obtain rfl : V3 = v3 + u1 - u3 - d1 + d3 := by omega
      clear e g
      intro h4 e
      have g : (d2 + u3) ≤ (u2 + d3) := by omega
      rw [Int.max_eq_left g] at e
      obtain rfl : h4 = -v2 + u2 + d3 := by omega
      clear e g
      intro U4 e
      have g : ((-v2 + u2 + d3) + v1) ≤ (u2 + d3) := by omega
      rw [Int.max_eq_left g] at e
      obtain rfl : U4 = u2 - d2 + d3 := by omega
      clear e g
      intro D4 e
      have g : (u2 + d3) ≤ ((-v2 + u2 + d3) + v3) := by omega
      rw [Int.max_eq_right g] at e
      obtain rfl : D4 = -v2 + v3 + u2 - u3 + d3 := by omega
      clear e g
      intro V4 e
      have g : (d3 + u2) ≤ ((u2 - d2 + d3) + (-v2 + v3 + u2 - u3 + d3)) := by omega
      rw [Int.max_eq_left g] at e
      obtain rfl : V4 = v3 + u2 - u3 - d2 + d3 := by omega
      clear e g
      intro h5 e
      have g : (u1 + d3) ≤ (d1 + (u2 - d2 + d3)) := by omega
      rw [Int.max_eq_right g] at e
      obtain rfl : h5 = -v1 + u2 + d1 - d2 + d3 := by omega
      clear e g
      intro U5 e
      have g : ((-v1 + u2 + d1 - d2 + d3) + v0) ≤ (u1 + d3) := by omega
      rw [Int.max_eq_left g] at e
      obtain rfl : U5 = u1 - d1 + d3 := by omega
      clear e g
      intro D5 e
      have g : (u1 + d3) ≤ ((-v1 + u2 + d1 - d2 + d3) + (v3 + u2 - u3 - d2 + d3)) := by omega
      rw [Int.max_eq_right g] at e
      obtain rfl : D5 = -v1 + v3 + u2 - u3 + d1 - d2 + d3 := by omega
      clear e g
      intro V5 e
      have g : (d3 + u1) ≤ ((u1 - d1 + d3) + (-v1 + v3 + u2 - u3 + d1 - d2 + d3)) := by omega
      rw [Int.max_eq_left g] at e
      obtain rfl : V5 = v3 + u1 - u3 - d1 + d3 := by omega
      clear e g
      intro h6 e
      have g : (u1 + (-v2 + v3 + u2 - u3 + d3)) ≤ ((-v1 + v3 + u2 - u3 + d1 - d2 + d3) + u2) := by omega
      rw [Int.max_eq_right g] at e
      obtain rfl : h6 = -v1 + u2 + d1 := by omega
      clear e g
      intro U6 e
      have g : (u1 + (-v2 + v3 + u2 - u3 + d3)) ≤ ((-v1 + u2 + d1) + (v3 + u1 - u3 - d1 + d3)) := by omega
      rw [Int.max_eq_right g] at e
      obtain rfl : U6 = u1 - d1 + d2 := by omega
      clear e g
      intro D6 e
      have g : (u1 + (-v2 + v3 + u2 - u3 + d3)) ≤ ((-v1 + u2 + d1) + v3) := by omega
      rw [Int.max_eq_right g] at e
      obtain rfl : D6 = -v1 + v3 + d1 := by omega
      clear e g
      intro V6 e
      have g : ((u1 - d1 + d2) + (-v1 + v3 + d1)) ≤ ((-v2 + v3 + u2 - u3 + d3) + u1) := by omega
      rw [Int.max_eq_right g] at e
      obtain rfl : V6 = v1 - v2 + v3 + u1 - u3 - d1 + d3 := by omega
      clear e g
      exact ⟨rfl, rfl, rfl, rfl, rfl, rfl⟩
    · rw [Int.max_eq_right g] at e
      obtain rfl : V2 = v1 + u1 - u3 - d1 + d3 := by omega
      clear e
      intro h3 e
      have g : (d2 + (v1 - v2 + u1 - d1 + d3)) ≤ ((u1 - d1 + d2) + d3) := by omega
      rw [Int.max_eq_left g] at e
      obtain rfl : h3 = -v2 + u2 + d3 := by omega
      clear e g
      intro U3 e
      have g : ((-v2 + u2 + d3) + v0) ≤ ((u1 - d1 + d2) + d3) := by omega
      rw [Int.max_eq_left g] at e
      obtain rfl : U3 = u1 - d1 + d3 := by omega
      clear e g
      intro D3 e
      have g : ((u1 - d1 + d2) + d3) ≤ ((-v2 + u2 + d3) + (v1 + u1 - u3 - d1 + d3)) := by omega
      rw [Int.max_eq_right g] at e
      obtain rfl : D3 = u2 - u3 + d3 := by omega
      clear e g
      intro V3 e
      have g : (d3 + (u1 - d1 + d2)) ≤ ((u1 - d1 + d3) + (u2 - u3 + d3)) := by omega
      rw [Int.max_eq_left g] at e
      obtain rfl : V3 = v2 + u1 - u3 - d1 + d3 := by omega
      clear e g
      intro h4 e
      have g : (d2 + u3) ≤ (u2 + d3) := by omega
      rw [Int.max_eq_left g] at e
      obtain rfl : h4 = -v2 + u2 + d3 := by omega
      clear e g
      intro U4 e
      have g : ((-v2 + u2 + d3) + v1) ≤ (u2 + d3) := by omega
      rw [Int.max_eq_left g] at e
      obtain rfl : U4 = u2 - d2 + d3 := by omega
      clear e g
      intro D4 e
      have g : ((-v2 + u2 + d3) + v3) ≤ (u2 + d3) := by omega
      rw [Int.max_eq_left g] at e
      obtain rfl : D4 = u2 - u3 + d3 := by omega
      clear e g
      intro V4 e
      have g : (d3 + u2) ≤ ((u2 - d2 + d3) + (u2 - u3 + d3)) := by omega
      rw [Int.max_eq_left g] at e
      obtain rfl : V4 = v2 + u2 - u3 - d2 + d3 := by omega
      clear e g
      intro h5 e
      have g : (u1 + d3) ≤ (d1 + (u2 - d2 + d3)) := by omega
      rw [Int.max_eq_right g] at e
      obtain rfl : h5 = -v1 + u2 + d1 - d2 + d3 := by omega
      clear e g
      intro U5 e
      have g : ((-v1 + u2 + d1 - d2 + d3) + v0) ≤ (u1 + d3) := by omega
      rw [Int.max_eq_left g] at e
      obtain rfl : U5 = u1 - d1 + d3 := by omega
      clear e g
      intro D5 e
      have g : (u1 + d3) ≤ ((-v1 + u2 + d1 - d2 + d3) + (v2 + u2 - u3 - d2 + d3)) := by omega
      rw [Int.max_eq_right g] at e
      obtain rfl : D5 = -v1 + v2 + u2 - u3 + d1 - d2 + d3 := by omega
      clear e g
      intro V5 e
      have g : (d3 + u1) ≤ ((u1 - d1 + d3) + (-v1 + v2 + u2 - u3 + d1 - d2 + d3)) := by omega
      rw [Int.max_eq_left g] at e
      obtain rfl : V5 = v2 + u1 - u3 - d1 + d3 := by omega
      clear e g
      intro h6 e
      have g : (u1 + (u2 - u3 + d3)) ≤ ((-v1 + v2 + u2 - u3 + d1 - d2 + d3) + u2) := by omega
      rw [Int.max_eq_right g] at e
      obtain rfl : h6 = -v1 + u2 + d1 := by omega
      clear e g
      intro U6 e
      have g : (u1 + (u2 - u3 + d3)) ≤ ((-v1 + u2 + d1) + (v2 + u1 - u3 - d1 + d3)) := by omega
      rw [Int.max_eq_right g] at e
      obtain rfl : U6 = u1 - d1 + d2 := by omega
      clear e g
      intro D6 e
      have g : (u1 + (u2 - u3 + d3)) ≤ ((-v1 + u2 + d1) + v3) := by omega
      rw [Int.max_eq_right g] at e
      obtain rfl : D6 = -v1 + v3 + d1 := by omega
      clear e g
      intro V6 e
      have g : ((u1 - d1 + d2) + (-v1 + v3 + d1)) ≤ ((u2 - u3 + d3) + u1) := by omega
      rw [Int.max_eq_right g] at e
      obtain rfl : V6 = v1 + u1 - u3 - d1 + d3 := by omega
      clear e g
      exact ⟨rfl, rfl, rfl, rfl, rfl, rfl⟩
set_option maxHeartbeats 4000000 in
set_option maxRecDepth 100000 in
theorem dy_c17 (v0 v1 v2 v3 u1 u2 u3 d1 d2 d3 : Int) (g0 : u1 + d2 ≤ u2 + d1) (g1 : v0 + u2 + d1 ≤ v1 + u1 + d2) (g2 : v1 + u1 + d2 ≤ v2 + u2 + d1) (g3 : v1 ≤ v2) (g4 : v1 + u1 + d3 ≤ v2 + u3 + d1) (g5 : v1 + u2 + d3 ≤ v2 + u3 + d2) (g6 : v3 + u3 + d1 ≤ v1 + u1 + d3) : ∀ V2 : Int, V2 = max ((u1 - u2 + u3 - d1 + d2) + (u1 - u3 + d3)) (d3 + u1) - (-v1 + u3 + d1) → ∀ h3 : Int, h3 = max ((u1 - d1 + d2) + d3) (d2 + (u1 - u2 + u3 - d1 + d2)) - (v2 + u1 - u2 - d1 + d2) → ∀ U3 : Int, U3 = max ((u1 - d1 + d2) + d3) (h3 + v0) - d2 → ∀ D3 : Int, D3 = max ((u1 - d1 + d2) + d3) (h3 + V2) - (u1 - u2 + u3 - d1 + d2) → ∀ V3 : Int, V3 = max (U3 + D3) (d3 + (u1 - d1 + d2)) - h3 → ∀ h4 : Int, h4 = max (u2 + d3) (d2 + u3) - v2 → ∀ U4 : Int, U4 = max (u2 + d3) (h4 + v1) - d2 → ∀ D4 : Int, D4 = max (u2 + d3) (h4 + v3) - u3 → ∀ V4 : Int, V4 = max (U4 + D4) (d3 + u2) - h4 → ∀ h5 : Int, h5 = max (u1 + d3) (d1 + U4) - v1 → ∀ U5 : Int, U5 = max (u1 + d3) (h5 + v0) - d1 → ∀ D5 : Int, D5 = max (u1 + d3) (h5 + V4) - U4 → ∀ V5 : Int, V5 = max (U5 + D5) (d3 + u1) - h5 → ∀ h6 : Int, h6 = max (u1 + D4) (D5 + u2) - V4 → ∀ U6 : Int, U6 = max (u1 + D4) (h6 + V5) - D5 → ∀ D6 : Int, D6 = max (u1 + D4) (h6 + v3) - u2 → ∀ V6 : Int, V6 = max (U6 + D6) (D4 + u1) - h6 → V3 = V5 ∧ U3 = U5 ∧ V2 = V6 ∧ (u1 - d1 + d2) = U6 ∧ D3 = D4 ∧ (u1 - u3 + d3) = D6 := by
  intro V2 e
  have g : ((u1 - u2 + u3 - d1 + d2) + (u1 - u3 + d3)) ≤ (d3 + u1) := by omega
  rw [Int.max_eq_right g] at e
  obtain rfl : V2 = v1 + u1 - u3 - d1 + d3 := by omega
  clear e g
  intro h3 e
  rcases Int.le_total (d2 + (u1 - u2 + u3 - d1 + d2)) ((u1 - d1 + d2) + d3) with g | g
  · rw [Int.max_eq_left g] at e
    obtain rfl : h3 = -v2 + u2 + d3 := by omega
    clear e
    intro U3 e
    have g : ((-v2 + u2 + d3) + v0) ≤ ((u1 - d1 + d2) + d3) := by omega
    rw [Int.max_eq_left g] at e
    obtain rfl : U3 = u1 - d1 + d3 := by omega
    clear e g
    intro D3 e
    have g : ((-v2 + u2 + d3) + (v1 + u1 - u3 - d1 + d3)) ≤ ((u1 - d1 + d2) + d3) := by omega
    rw [Int.max_eq_left g] at e
    obtain rfl : D3 = u2 - u3 + d3 := by omega
    clear e g
    intro V3 e
    have g : (d3 + (u1 - d1 + d2)) ≤ ((u1 - d1 + d3) + (u2 - u3 + d3)) := by omega
    rw [Int.max_eq_left g] at e
    obtain rfl : V3 = v2 + u1 - u3 - d1 + d3 := by omega
    clear e g
    intro h4 e
    have g : (d2 + u3) ≤ (u2 + d3) := by omega
    rw [Int.max_eq_left g] at e
    obtain rfl : h4 = -v2 + u2 + d3 := by omega
    clear e g
    intro U4 e
    have g : ((-v2 + u2 + d3) + v1) ≤ (u2 + d3) := by omega
    rw [Int.max_eq_left g] at e
    obtain rfl : U4 = u2 - d2 + d3 := by omega
    clear e g
    intro D4 e
    have g : ((-v2 + u2 + d3) + v3) ≤ (u2 + d3) := by omega
    rw [Int.max_eq_left g] at e
    obtain rfl : D4 = u2 - u3 + d3 := by omega
    clear e g
    intro V4 e
    have g : (d3 + u2) ≤ ((u2 - d2 + d3) + (u2 - u3 + d3)) := by omega
    rw [Int.max_eq_left g] at e
    obtain rfl : V4 = v2 + u2 - u3 - d2 + d3 := by omega
    clear e g
    intro h5 e
    have g : (u1 + d3) ≤ (d1 + (u2 - d2 + d3)) := by omega
    rw [Int.max_eq_right g] at e
    obtain rfl : h5 = -v1 + u2 + d1 - d2 + d3 := by omega
    clear e g
    intro U5 e
    have g : ((-v1 + u2 + d1 - d2 + d3) + v0) ≤ (u1 + d3) := by omega
    rw [Int.max_eq_left g] at e
    obtain rfl : U5 = u1 - d1 + d3 := by omega
    clear e g
    intro D5 e
    have g : (u1 + d3) ≤ ((-v1 + u2 + d1 - d2 + d3) + (v2 + u2 - u3 - d2 + d3)) := by omega
    rw [Int.max_eq_right g] at e
    obtain rfl : D5 = -v1 + v2 + u2 - u3 + d1 - d2 + d3 := by omega
    clear e g
    intro V5 e
    have g : (d3 + u1) ≤ ((u1 - d1 + d3) + (-v1 + v2 + u2 - u3 + d1 - d2 + d3)) := by omega
    rw [Int.max_eq_left g] at e
    obtain rfl : V5 = v2 + u1 - u3 - d1 + d3 := by omega
    clear e g
    intro h6 e
    have g : (u1 + (u2 - u3 + d3)) ≤ ((-v1 + v2 + u2 - u3 + d1 - d2 + d3) + u2) := by omega
    rw [Int.max_eq_right g] at e
    obtain rfl : h6 = -v1 + u2 + d1 := by omega
    clear e g
    intro U6 e
    have g : (u1 + (u2 - u3 + d3)) ≤ ((-v1 + u2 + d1) + (v2 + u1 - u3 - d1 + d3)) := by omega
    rw [Int.max_eq_right g] at e
    obtain rfl : U6 = u1 - d1 + d2 := by omega
    clear e g
    intro D6 e
    have g : ((-v1 + u2 + d1) + v3) ≤ (u1 + (u2 - u3 + d3)) := by omega
    rw [Int.max_eq_left g] at e
    obtain rfl : D6 = u1 - u3 + d3 := by omega
    clear e g
    intro V6 e
    have g : ((u1 - d1 + d2) + (u1 - u3 + d3)) ≤ ((u2 - u3 + d3) + u1) := by omega
    rw [Int.max_eq_right g] at e
    obtain rfl : V6 = v1 + u1 - u3 - d1 + d3 := by omega
    clear e g
    exact ⟨rfl, rfl, rfl, rfl, rfl, rfl⟩
  · rw [Int.max_eq_right g] at e
    obtain rfl : h3 = -v2 + u3 + d2 := by omega
    clear e
    intro U3 e
    rcases Int.le_total ((-v2 + u3 + d2) + v0) ((u1 - d1 + d2) + d3) with g | g
    · rw [Int.max_eq_left g] at e
      obtain rfl : U3 = u1 - d1 + d3 := by omega
      clear e
      intro D3 e
      have g : ((-v2 + u3 + d2) + (v1 + u1 - u3 - d1 + d3)) ≤ ((u1 - d1 + d2) + d3) := by omega
      rw [Int.max_eq_left g] at e
      obtain rfl : D3 = u2 - u3 + d3 := by omega
      clear e g
      intro V3 e
      have g : ((u1 - d1 + d3) + (u2 - u3 + d3)) ≤ (d3 + (u1 - d1 + d2)) := by omega
      rw [Int.max_eq_right g] at e
      obtain rfl : V3 = v2 + u1 - u3 - d1 + d3 := by omega
      clear e g
      intro h4 e
      have g : (u2 + d3) ≤ (d2 + u3) := by omega
      rw [Int.max_eq_right g] at e
      obtain rfl : h4 = -v2 + u3 + d2 := by omega
      clear e g
      intro U4 e
      rcases Int.le_total ((-v2 + u3 + d2) + v1) (u2 + d3) with g | g
      · rw [Int.max_eq_left g] at e
        obtain rfl : U4 = u2 - d2 + d3 := by omega
        clear e
        intro D4 e
        have g : ((-v2 + u3 + d2) + v3) ≤ (u2 + d3) := by omega
        rw [Int.max_eq_left g] at e
        obtain rfl : D4 = u2 - u3 + d3 := by omega
        clear e g
        intro V4 e
        have g : ((u2 - d2 + d3) + (u2 - u3 + d3)) ≤ (d3 + u2) := by omega
        rw [Int.max_eq_right g] at e
        obtain rfl : V4 = v2 + u2 - u3 - d2 + d3 := by omega
        clear e g
        intro h5 e
        have g : (u1 + d3) ≤ (d1 + (u2 - d2 + d3)) := by omega
        rw [Int.max_eq_right g] at e
        obtain rfl : h5 = -v1 + u2 + d1 - d2 + d3 := by omega
        clear e g
        intro U5 e
        have g : ((-v1 + u2 + d1 - d2 + d3) + v0) ≤ (u1 + d3) := by omega
        rw [Int.max_eq_left g] at e
        obtain rfl : U5 = u1 - d1 + d3 := by omega
        clear e g
        intro D5 e
        have g : (u1 + d3) ≤ ((-v1 + u2 + d1 - d2 + d3) + (v2 + u2 - u3 - d2 + d3)) := by omega
        rw [Int.max_eq_right g] at e
        obtain rfl : D5 = -v1 + v2 + u2 - u3 + d1 - d2 + d3 := by omega
        clear e g
        intro V5 e
        have g : (d3 + u1) ≤ ((u1 - d1 + d3) + (-v1 + v2 + u2 - u3 + d1 - d2 + d3)) := by omega
        rw [Int.max_eq_left g] at e
        obtain rfl : V5 = v2 + u1 - u3 - d1 + d3 := by omega
        clear e g
        intro h6 e
        have g : (u1 + (u2 - u3 + d3)) ≤ ((-v1 + v2 + u2 - u3 + d1 - d2 + d3) + u2) := by omega
        rw [Int.max_eq_right g] at e
        obtain rfl : h6 = -v1 + u2 + d1 := by omega
        clear e g
        intro U6 e
        have g : (u1 + (u2 - u3 + d3)) ≤ ((-v1 + u2 + d1) + (v2 + u1 - u3 - d1 + d3)) := by omega
        rw [Int.max_eq_right g] at e
        obtain rfl : U6 = u1 - d1 + d2 := by omega
        clear e g
        intro D6 e
        have g : ((-v1 + u2 + d1) + v3) ≤ (u1 + (u2 - u3 + d3)) := by omega
        rw [Int.max_eq_left g] at e
        obtain rfl : D6 = u1 - u3 + d3 := by omega
        clear e g
        intro V6 e
        have g : ((u1 - d1 + d2) + (u1 - u3 + d3)) ≤ ((u2 - u3 + d3) + u1) := by omega
        rw [Int.max_eq_right g] at e
        obtain rfl : V6 = v1 + u1 - u3 - d1 + d3 := by omega
        clear e g
        exact ⟨rfl, rfl, rfl, rfl, rfl, rfl⟩
      · rw [Int.max_eq_right g] at e
        obtain rfl : U4 = v1 - v2 + u3 := by omega
        clear e
        intro D4 e
        have g : ((-v2 + u3 + d2) + v3) ≤ (u2 + d3) := by omega
        rw [Int.max_eq_left g] at e
        obtain rfl : D4 = u2 - u3 + d3 := by omega
        clear e g
        intro V4 e
        have g : ((v1 - v2 + u3) + (u2 - u3 + d3)) ≤ (d3 + u2) := by omega
        rw [Int.max_eq_right g] at e
        obtain rfl : V4 = v2 + u2 - u3 - d2 + d3 := by omega
        clear e g
        intro h5 e
        have g : (u1 + d3) ≤ (d1 + (v1 - v2 + u3)) := by omega
        rw [Int.max_eq_right g] at e
        obtain rfl : h5 = -v2 + u3 + d1 := by omega
        clear e g
        intro U5 e
        have g : ((-v2 + u3 + d1) + v0) ≤ (u1 + d3) := by omega
        rw [Int.max_eq_left g] at e
        obtain rfl : U5 = u1 - d1 + d3 := by omega
        clear e g
        intro D5 e
        have g : (u1 + d3) ≤ ((-v2 + u3 + d1) + (v2 + u2 - u3 - d2 + d3)) := by omega
        rw [Int.max_eq_right g] at e
        obtain rfl : D5 = -v1 + v2 + u2 - u3 + d1 - d2 + d3 := by omega
        clear e g
        intro V5 e
        have g : ((u1 - d1 + d3) + (-v1 + v2 + u2 - u3 + d1 - d2 + d3)) ≤ (d3 + u1) := by omega
        rw [Int.max_eq_right g] at e
        obtain rfl : V5 = v2 + u1 - u3 - d1 + d3 := by omega
        clear e g
        intro h6 e
        have g : (u1 + (u2 - u3 + d3)) ≤ ((-v1 + v2 + u2 - u3 + d1 - d2 + d3) + u2) := by omega
        rw [Int.max_eq_right g] at e
        obtain rfl : h6 = -v1 + u2 + d1 := by omega
        clear e g
        intro U6 e
        have g : (u1 + (u2 - u3 + d3)) ≤ ((-v1 + u2 + d1) + (v2 + u1 - u3 - d1 + d3)) := by omega
        rw [Int.max_eq_right g] at e
        obtain rfl : U6 = u1 - d1 + d2 := by omega
        clear e g
        intro D6 e
        have g : ((-v1 + u2 + d1) + v3) ≤ (u1 + (u2 - u3 + d3)) := by omega
        rw [Int.max_eq_left g] at e
        obtain rfl : D6 = u1 - u3 + d3 := by omega
        clear e g
        intro V6 e
        have g : ((u1 - d1 + d2) + (u1 - u3 + d3)) ≤ ((u2 - u3 + d3) + u1) := by omega
        rw [Int.max_eq_right g] at e
        obtain rfl : V6 = v1 + u1 - u3 - d1 + d3 := by omega
        clear e g
        exact ⟨rfl, rfl, rfl, rfl, rfl, rfl⟩
    · rw [Int.max_eq_right g] at e
      obtain rfl : U3 = v0 - v2 + u3 := by omega
      clear e
      intro D3 e
      have g : ((-v2 + u3 + d2) + (v1 + u1 - u3 - d1 + d3)) ≤ ((u1 - d1 + d2) + d3) := by omega
      rw [Int.max_eq_left g] at e
      obtain rfl : D3 = u2 - u3 + d3 := by omega
      clear e g
      intro V3 e
      have g : ((v0 - v2 + u3) + (u2 - u3 + d3)) ≤ (d3 + (u1 - d1 + d2)) := by omega
      rw [Int.max_eq_right g] at e
      obtain rfl : V3 = v2 + u1 - u3 - d1 + d3 := by omega
      clear e g
      intro h4 e
      have g : (u2 + d3) ≤ (d2 + u3) := by omega
      rw [Int.max_eq_right g] at e
      obtain rfl : h4 = -v2 + u3 + d2 := by omega
      clear e g
      intro U4 e
      have g : (u2 + d3) ≤ ((-v2 + u3 + d2) + v1) := by omega
      rw [Int.max_eq_right g] at e
      obtain rfl : U4 = v1 - v2 + u3 := by omega
      clear e g
      intro D4 e
      have g : ((-v2 + u3 + d2) + v3) ≤ (u2 + d3) := by omega
      rw [Int.max_eq_left g] at e
      obtain rfl : D4 = u2 - u3 + d3 := by omega
      clear e g
      intro V4 e
      have g : ((v1 - v2 + u3) + (u2 - u3 + d3)) ≤ (d3 + u2) := by omega
      rw [Int.max_eq_right g] at e
      obtain rfl : V4 = v2 + u2 - u3 - d2 + d3 := by omega
      clear e g
      intro h5 e
      have g : (u1 + d3) ≤ (d1 + (v1 - v2 + u3)) := by omega
      rw [Int.max_eq_right g] at e
      obtain rfl : h5 = -v2 + u3 + d1 := by omega
      clear e g
      intro U5 e
      have g : (u1 + d3) ≤ ((-v2 + u3 + d1) + v0) := by omega
      rw [Int.max_eq_right g] at e
      obtain rfl : U5 = v0 - v2 + u3 := by omega
      clear e g
      intro D5 e
      have g : (u1 + d3) ≤ ((-v2 + u3 + d1) + (v2 + u2 - u3 - d2 + d3)) := by omega
      rw [Int.max_eq_right g] at e
      obtain rfl : D5 = -v1 + v2 + u2 - u3 + d1 - d2 + d3 := by omega
      clear e g
      intro V5 e
      have g : ((v0 - v2 + u3) + (-v1 + v2 + u2 - u3 + d1 - d2 + d3)) ≤ (d3 + u1) := by omega
      rw [Int.max_eq_right g] at e
      obtain rfl : V5 = v2 + u1 - u3 - d1 + d3 := by omega
      clear e g
      intro h6 e
      have g : (u1 + (u2 - u3 + d3)) ≤ ((-v1 + v2 + u2 - u3 + d1 - d2 + d3) + u2) := by omega
      rw [Int.max_eq_right g] at e
      obtain rfl : h6 = -v1 + u2 + d1 := by omega
      clear e g
      intro U6 e
      have g : (u1 + (u2 - u3 + d3)) ≤ ((-v1 + u2 + d1) + (v2 + u1 - u3 - d1 + d3)) := by omega
      rw [Int.max_eq_right g] at e
      obtain rfl : U6 = u1 - d1 + d2 := by omega
      clear e g
      intro D6 e
      have g : ((-v1 + u2 + d1) + v3) ≤ (u1 + (u2 - u3 + d3)) := by omega
      rw [Int.max_eq_left g] at e
      obtain rfl : D6 = u1 - u3 + d3 := by omega
      clear e g
      intro V6 e
      have g : ((u1 - d1 + d2) + (u1 - u3 + d3)) ≤ ((u2 - u3 + d3) + u1) := by omega
      rw [Int.max_eq_right g] at e
      obtain rfl : V6 = v1 + u1 - u3 - d1 + d3 := by omega
      clear e g
      exact ⟨rfl, rfl, rfl, rfl, rfl, rfl⟩
set_option maxHeartbeats 4000000 in
set_option maxRecDepth 100000 in
theorem dy_c18 (v0 v1 v2 v3 u1 u2 u3 d1 d2 d3 : Int) (g0 : u1 + d2 ≤ u2 + d1) (g1 : v0 + u2 + d1 ≤ v1 + u1 + d2) (g2 : v1 + u1 + d2 ≤ v2 + u2 + d1) (g3 : v1 ≤ v2) (g4 : v1 + u1 + d3 ≤ v2 + u3 + d1) (g5 : v1 + u2 + d3 ≤ v2 + u3 + d2) (g6 : v1 + u1 + d3 ≤ v3 + u3 + d1) (g7 : v1 + u2 + d3 ≤ v3 + u3 + d2) (g8 : u3 + d2 ≤ u2 + d3) : ∀ U3 : Int, U3 = max ((u1 - d1 + d2) + d3) ((-v2 + u2 + d3) + v0) - d2 → ∀ D3 : Int, D3 = max ((u1 - d1 + d2) + d3) ((-v2 + u2 + d3) + (v3 + u1 - u2 - d1 + d2)) - (u1 - u2 + u3 - d1 + d2) → ∀ V3 : Int, V3 = max (U3 + D3) (d3 + (u1 - d1 + d2)) - (-v2 + u2 + d3) → ∀ h4 : Int, h4 = max (u2 + d3) (d2 + u3) - v2 → ∀ U4 : Int, U4 = max (u2 + d3) (h4 + v1) - d2 → ∀ D4 : Int, D4 = max (u2 + d3) (h4 + v3) - u3 → ∀ V4 : Int, V4 = max (U4 + D4) (d3 + u2) - h4 → ∀ h5 : Int, h5 = max (u1 + d3) (d1 + U4) - v1 → ∀ U5 : Int, U5 = max (u1 + d3) (h5 + v0) - d1 → ∀ D5 : Int, D5 = max (u1 + d3) (h5 + V4) - U4 → ∀ V5 : Int, V5 = max (U5 + D5) (d3 + u1) - h5 → ∀ h6 : Int, h6 = max (u1 + D4) (D5 + u2) - V4 → ∀ U6 : Int, U6 = max (u1 + D4) (h6 + V5) - D5 → ∀ D6 : Int, D6 = max (u1 + D4) (h6 + v3) - u2 → ∀ V6 : Int, V6 = max (U6 + D6) (D4 + u1) - h6 → V3 = V5 ∧ U3 = U5 ∧ (v3 + u1 - u2 - d1 + d2) = V6 ∧ (u1 - d1 + d2) = U6 ∧ D3 = D4 ∧ (-v1 + v3 + d1) = D6 := by
  intro U3 e
  have g : ((-v2 + u2 + d3) + v0) ≤ ((u1 - d1 + d2) + d3) := by omega
  rw [Int.max_eq_left g] at e
  obtain rfl : U3 = u1 - d1 + d3 := by omega
  clear e g
  intro D3 e
  rcases Int.le_total ((-v2 + u2 + d3) + (v3 + u1 - u2 - d1 + d2)) ((u1 - d1 + d2) + d3) with g | g
  · rw [Int.max_eq_left g] at e
    obtain rfl : D3 = u2 - u3 + d3 := by omega
    clear e
    intro V3 e
    have g : (d3 + (u1 - d1 + d2)) ≤ ((u1 - d1 + d3) + (u2 - u3 + d3)) := by omega
    rw [Int.max_eq_left g] at e
    obtain rfl : V3 = v2 + u1 - u3 - d1 + d3 := by omega
    clear e g
    intro h4 e
    have g : (d2 + u3) ≤ (u2 + d3) := by omega
    rw [Int.max_eq_left g] at e
    obtain rfl : h4 = -v2 + u2 + d3 := by omega
    clear e g
    intro U4 e
    have g : ((-v2 + u2 + d3) + v1) ≤ (u2 + d3) := by omega
    rw [Int.max_eq_left g] at e
    obtain rfl : U4 = u2 - d2 + d3 := by omega
    clear e g
    intro D4 e
    have g : ((-v2 + u2 + d3) + v3) ≤ (u2 + d3) := by omega
    rw [Int.max_eq_left g] at e
    obtain rfl : D4 = u2 - u3 + d3 := by omega
    clear e g
    intro V4 e
    have g : (d3 + u2) ≤ ((u2 - d2 + d3) + (u2 - u3 + d3)) := by omega
    rw [Int.max_eq_left g] at e
    obtain rfl : V4 = v2 + u2 - u3 - d2 + d3 := by omega
    clear e g
    intro h5 e
    have g : (u1 + d3) ≤ (d1 + (u2 - d2 + d3)) := by omega
    rw [Int.max_eq_right g] at e
    obtain rfl : h5 = -v1 + u2 + d1 - d2 + d3 := by omega
    clear e g
    intro U5 e
    have g : ((-v1 + u2 + d1 - d2 + d3) + v0) ≤ (u1 + d3) := by omega
    rw [Int.max_eq_left g] at e
    obtain rfl : U5 = u1 - d1 + d3 := by omega
    clear e g
    intro D5 e
    have g : (u1 + d3) ≤ ((-v1 + u2 + d1 - d2 + d3) + (v2 + u2 - u3 - d2 + d3)) := by omega
    rw [Int.max_eq_right g] at e
    obtain rfl : D5 = -v1 + v2 + u2 - u3 + d1 - d2 + d3 := by omega
    clear e g
    intro V5 e
    have g : (d3 + u1) ≤ ((u1 - d1 + d3) + (-v1 + v2 + u2 - u3 + d1 - d2 + d3)) := by omega
    rw [Int.max_eq_left g] at e
    obtain rfl : V5 = v2 + u1 - u3 - d1 + d3 := by omega
    clear e g
    intro h6 e
    have g : (u1 + (u2 - u3 + d3)) ≤ ((-v1 + v2 + u2 - u3 + d1 - d2 + d3) + u2) := by omega
    rw [Int.max_eq_right g] at e
    obtain rfl : h6 = -v1 + u2 + d1 := by omega
    clear e g
    intro U6 e
    have g : (u1 + (u2 - u3 + d3)) ≤ ((-v1 + u2 + d1) + (v2 + u1 - u3 - d1 + d3)) := by omega
    rw [Int.max_eq_right g] at e
    obtain rfl : U6 = u1 - d1 + d2 := by omega
    clear e g
    intro D6 e
    have g : (u1 + (u2 - u3 + d3)) ≤ ((-v1 + u2 + d1) + v3) := by omega
    rw [Int.max_eq_right g] at e
    obtain rfl : D6 = -v1 + v3 + d1 := by omega
    clear e g
    intro V6 e
    have g : ((u2 - u3 + d3) + u1) ≤ ((u1 - d1 + d2) + (-v1 + v3 + d1)) := by omega
    rw [Int.max_eq_left g] at e
    obtain rfl : V6 = v3 + u1 - u2 - d1 + d2 := by omega
    clear e g
    exact ⟨rfl, rfl, rfl, rfl, rfl, rfl⟩
  · rw [Int.max_eq_right g] at e
    obtain rfl : D3 = -v2 + v3 + u2 - u3 + d3 := by omega
    clear e
    intro V3 e
    have g : (d3 + (u1 - d1 + d2)) ≤ ((u1 - d1 + d3) + (-v2 + v3 + u2 - u3 + d3)) := by omega
    rw [Int.max_eq_left g] at e
    obtain rfl : V3 = v3 + u1 - u3 - d1 + d3 := by omega
    clear e g
    intro h4 e
    have g : (d2 + u3) ≤ (u2 + d3) := by omega
    rw [Int.max_eq_left g] at e
    obtain rfl : h4 = -v2 + u2 + d3 := by omega
    clear e g
    intro U4 e
    have g : ((-v2 + u2 + d3) + v1) ≤ (u2 + d3) := by omega
    rw [Int.max_eq_left g] at e
    obtain rfl : U4 = u2 - d2 + d3 := by omega
    clear e g
    intro D4 e
    have g : (u2 + d3) ≤ ((-v2 + u2 + d3) + v3) := by omega
    rw [Int.max_eq_right g] at e
    obtain rfl : D4 = -v2 + v3 + u2 - u3 + d3 := by omega
    clear e g
    intro V4 e
    have g : (d3 + u2) ≤ ((u2 - d2 + d3) + (-v2 + v3 + u2 - u3 + d3)) := by omega
    rw [Int.max_eq_left g] at e
    obtain rfl : V4 = v3 + u2 - u3 - d2 + d3 := by omega
    clear e g
    intro h5 e
    have g : (u1 + d3) ≤ (d1 + (u2 - d2 + d3)) := by omega
    rw [Int.max_eq_right g] at e
    obtain rfl : h5 = -v1 + u2 + d1 - d2 + d3 := by omega
    clear e g
    intro U5 e
    have g : ((-v1 + u2 + d1 - d2 + d3) + v0) ≤ (u1 + d3) := by omega
    rw [Int.max_eq_left g] at e
    obtain rfl : U5 = u1 - d1 + d3 := by omega
    clear e g
    intro D5 e
    have g : (u1 + d3) ≤ ((-v1 + u2 + d1 - d2 + d3) + (v3 + u2 - u3 - d2 + d3)) := by omega
    rw [Int.max_eq_right g] at e
    obtain rfl : D5 = -v1 + v3 + u2 - u3 + d1 - d2 + d3 := by omega
    clear e g
    intro V5 e
    have g : (d3 + u1) ≤ ((u1 - d1 + d3) + (-v1 + v3 + u2 - u3 + d1 - d2 + d3)) := by omega
    rw [Int.max_eq_left g] at e
    obtain rfl : V5 = v3 + u1 - u3 - d1 + d3 := by omega
    clear e g
    intro h6 e
    have g : (u1 + (-v2 + v3 + u2 - u3 + d3)) ≤ ((-v1 + v3 + u2 - u3 + d1 - d2 + d3) + u2) := by omega
    rw [Int.max_eq_right g] at e
    obtain rfl : h6 = -v1 + u2 + d1 := by omega
    clear e g
    intro U6 e
    have g : (u1 + (-v2 + v3 + u2 - u3 + d3)) ≤ ((-v1 + u2 + d1) + (v3 + u1 - u3 - d1 + d3)) := by omega
    rw [Int.max_eq_right g] at e
    obtain rfl : U6 = u1 - d1 + d2 := by omega
    clear e g
    intro D6 e
    have g : (u1 + (-v2 + v3 + u2 - u3 + d3)) ≤ ((-v1 + u2 + d1) + v3) := by omega
    rw [Int.max_eq_right g] at e
    obtain rfl : D6 = -v1 + v3 + d1 := by omega
    clear e g
    intro V6 e
    have g : ((-v2 + v3 + u2 - u3 + d3) + u1) ≤ ((u1 - d1 + d2) + (-v1 + v3 + d1)) := by omega
    rw [Int.max_eq_left g] at e
    obtain rfl : V6 = v3 + u1 - u2 - d1 + d2 := by omega
    clear e g
    exact ⟨rfl, rfl, rfl, rfl, rfl, rfl⟩
set_option maxHeartbeats 4000000 in
set_option maxRecDepth 100000 in
theorem dy_c19 (v0 v1 v2 v3 u1 u2 u3 d1 d2 d3 : Int) (g0 : u1 + d2 ≤ u2 + d1) (g1 : v0 + u2 + d1 ≤ v1 + u1 + d2) (g2 : v1 + u1 + d2 ≤ v2 + u2 + d1) (g3 : v1 ≤ v2) (g4 : v1 + u1 + d3 ≤ v2 + u3 + d1) (g5 : v1 + u2 + d3 ≤ v2 + u3 + d2) (g6 : v1 + u1 + d3 ≤ v3 + u3 + d1) (g7 : v1 + u2 + d3 ≤ v3 + u3 + d2) (g8 : u2 + d3 ≤ u3 + d2) : ∀ U3 : Int, U3 = max ((u1 - d1 + d2) + d3) ((-v2 + u3 + d2) + v0) - d2 → ∀ D3 : Int, D3 = max ((u1 - d1 + d2) + d3) ((-v2 + u3 + d2) + (v3 + u1 - u2 - d1 + d2)) - (u1 - u2 + u3 - d1 + d2) → ∀ V3 : Int, V3 = max (U3 + D3) (d3 + (u1 - d1 + d2)) - (-v2 + u3 + d2) → ∀ h4 : Int, h4 = max (u2 + d3) (d2 + u3) - v2 → ∀ U4 : Int, U4 = max (u2 + d3) (h4 + v1) - d2 → ∀ D4 : Int, D4 = max (u2 + d3) (h4 + v3) - u3 → ∀ V4 : Int, V4 = max (U4 + D4) (d3 + u2) - h4 → ∀ h5 : Int, h5 = max (u1 + d3) (d1 + U4) - v1 → ∀ U5 : Int, U5 = max (u1 + d3) (h5 + v0) - d1 → ∀ D5 : Int, D5 = max (u1 + d3) (h5 + V4) - U4 → ∀ V5 : Int, V5 = max (U5 + D5) (d3 + u1) - h5 → ∀ h6 : Int, h6 = max (u1 + D4) (D5 + u2) - V4 → ∀ U6 : Int, U6 = max (u1 + D4) (h6 + V5) - D5 → ∀ D6 : Int, D6 = max (u1 + D4) (h6 + v3) - u2 → ∀ V6 : Int, V6 = max (U6 + D6) (D4 + u1) - h6 → V3 = V5 ∧ U3 = U5 ∧ (v3 + u1 - u2 - d1 + d2) = V6 ∧ (u1 - d1 + d2) = U6 ∧ D3 = D4 ∧ (-v1 + v3 + d1) = D6 := by
  intro U3 e
  rcases Int.le_total ((-v2 + u3 + d2) + v0) ((u1 - d1 + d2) + d3) with g | g
  · rw [Int.max_eq_left g] at e
    obtain rfl : U3 = u1 - d1 + d3 := by omega
    clear e
    intro D3 e
    rcases Int.le_total ((-v2 + u3 + d2) + (v3 + u1 - u2 - d1 + d2)) ((u1 - d1 + d2) + d3) with g | g
    · rw [Int.max_eq_left g] at e
      obtain rfl : D3 = u2 - u3 + d3 := by omega
      clear e
      intro V3 e
      have g : ((u1 - d1 + d3) + (u2 - u3 + d3)) ≤ (d3 + (u1 - d1 + d2)) := by omega
      rw [Int.max_eq_right g] at e
      obtain rfl : V3 = v2 + u1 - u3 - d1 + d3 := by omega
      clear e g
      intro h4 e
      have g : (u2 + d3) ≤ (d2 + u3) := by omega
      rw [Int.max_eq_right g] at e
      obtain rfl : h4 = -v2 + u3 + d2 := by omega
      clear e g
      intro U4 e
      rcases Int.le_total ((-v2 + u3 + d2) + v1) (u2 + d3) with g | g
      · rw [Int.max_eq_left g] at e
        obtain rfl : U4 = u2 - d2 + d3 := by omega
        clear e
        intro D4 e
        have g : ((-v2 + u3 + d2) + v3) ≤ (u2 + d3) := by omega
        rw [Int.max_eq_left g] at e
        obtain rfl : D4 = u2 - u3 + d3 := by omega
        clear e g
        intro V4 e
        have g : ((u2 - d2 + d3) + (u2 - u3 + d3)) ≤ (d3 + u2) := by omega
        rw [Int.max_eq_right g] at e
        obtain rfl : V4 = v2 + u2 - u3 - d2 + d3 := by omega
        clear e g
        intro h5 e
        have g : (u1 + d3) ≤ (d1 + (u2 - d2 + d3)) := by omega
        rw [Int.max_eq_right g] at e
        obtain rfl : h5 = -v1 + u2 + d1 - d2 + d3 := by omega
        clear e g
        intro U5 e
        have g : ((-v1 + u2 + d1 - d2 + d3) + v0) ≤ (u1 + d3) := by omega
        rw [Int.max_eq_left g] at e
        obtain rfl : U5 = u1 - d1 + d3 := by omega
        clear e g
        intro D5 e
        have g : (u1 + d3) ≤ ((-v1 + u2 + d1 - d2 + d3) + (v2 + u2 - u3 - d2 + d3)) := by omega
        rw [Int.max_eq_right g] at e
        obtain rfl : D5 = -v1 + v2 + u2 - u3 + d1 - d2 + d3 := by omega
        clear e g
        intro V5 e
        have g : (d3 + u1) ≤ ((u1 - d1 + d3) + (-v1 + v2 + u2 - u3 + d1 - d2 + d3)) := by omega
        rw [Int.max_eq_left g] at e
        obtain rfl : V5 = v2 + u1 - u3 - d1 + d3 := by omega
        clear e g
        intro h6 e
        have g : (u1 + (u2 - u3 + d3)) ≤ ((-v1 + v2 + u2 - u3 + d1 - d2 + d3) + u2) := by omega
        rw [Int.max_eq_right g] at e
        obtain rfl : h6 = -v1 + u2 + d1 := by omega
        clear e g
        intro U6 e
        have g : (u1 + (u2 - u3 + d3)) ≤ ((-v1 + u2 + d1) + (v2 + u1 - u3 - d1 + d3)) := by omega
        rw [Int.max_eq_right g] at e
        obtain rfl : U6 = u1 - d1 + d2 := by omega
        clear e g
        intro D6 e
        have g : (u1 + (u2 - u3 + d3)) ≤ ((-v1 + u2 + d1) + v3) := by omega
        rw [Int.max_eq_right g] at e
        obtain rfl : D6 = -v1 + v3 + d1 := by omega
        clear e g
        intro V6 e
        have g : ((u2 - u3 + d3) + u1) ≤ ((u1 - d1 + d2) + (-v1 + v3 + d1)) := by omega
        rw [Int.max_eq_left g] at e
        obtain rfl : V6 = v3 + u1 - u2 - d1 + d2 := by omega
        clear e g
        exact ⟨rfl, rfl, rfl, rfl, rfl, rfl⟩
      · rw [Int.max_eq_right g] at e
        obtain rfl : U4 = v1 - v2 + u3 := by omega
        clear e
        intro D4 e
        have g : ((-v2 + u3 + d2) + v3) ≤ (u2 + d3) := by omega
        rw [Int.max_eq_left g] at e
        obtain rfl : D4 = u2 - u3 + d3 := by omega
        clear e g
        intro V4 e
        have g : ((v1 - v2 + u3) + (u2 - u3 + d3)) ≤ (d3 + u2) := by omega
        rw [Int.max_eq_right g] at e
        obtain rfl : V4 = v2 + u2 - u3 - d2 + d3 := by omega
        clear e g
        intro h5 e
        have g : (u1 + d3) ≤ (d1 + (v1 - v2 + u3)) := by omega
        rw [Int.max_eq_right g] at e
        obtain rfl : h5 = -v2 + u3 + d1 := by omega
        clear e g
        intro U5 e
        have g : ((-v2 + u3 + d1) + v0) ≤ (u1 + d3) := by omega
        rw [Int.max_eq_left g] at e
        obtain rfl : U5 = u1 - d1 + d3 := by omega
        clear e g
        intro D5 e
        have g : (u1 + d3) ≤ ((-v2 + u3 + d1) + (v2 + u2 - u3 - d2 + d3)) := by omega
        rw [Int.max_eq_right g] at e
        obtain rfl : D5 = -v1 + v2 + u2 - u3 + d1 - d2 + d3 := by omega
        clear e g
        intro V5 e
        have g : ((u1 - d1 + d3) + (-v1 + v2 + u2 - u3 + d1 - d2 + d3)) ≤ (d3 + u1) := by omega
        rw [Int.max_eq_right g] at e
        obtain rfl : V5 = v2 + u1 - u3 - d1 + d3 := by omega
        clear e g
        intro h6 e
        have g : (u1 + (u2 - u3 + d3)) ≤ ((-v1 + v2 + u2 - u3 + d1 - d2 + d3) + u2) := by omega
        rw [Int.max_eq_right g] at e
        obtain rfl : h6 = -v1 + u2 + d1 := by omega
        clear e g
        intro U6 e
        have g : (u1 + (u2 - u3 + d3)) ≤ ((-v1 + u2 + d1) + (v2 + u1 - u3 - d1 + d3)) := by omega
        rw [Int.max_eq_right g] at e
        obtain rfl : U6 = u1 - d1 + d2 := by omega
        clear e g
        intro D6 e
        have g : (u1 + (u2 - u3 + d3)) ≤ ((-v1 + u2 + d1) + v3) := by omega
        rw [Int.max_eq_right g] at e
        obtain rfl : D6 = -v1 + v3 + d1 := by omega
        clear e g
        intro V6 e
        have g : ((u2 - u3 + d3) + u1) ≤ ((u1 - d1 + d2) + (-v1 + v3 + d1)) := by omega
        rw [Int.max_eq_left g] at e
        obtain rfl : V6 = v3 + u1 - u2 - d1 + d2 := by omega
        clear e g
        exact ⟨rfl, rfl, rfl, rfl, rfl, rfl⟩
    · rw [Int.max_eq_right g] at e
      obtain rfl : D3 = -v2 + v3 + d2 := by omega
      clear e
      intro V3 e
      rcases Int.le_total (d3 + (u1 - d1 + d2)) ((u1 - d1 + d3) + (-v2 + v3 + d2)) with g | g
      · rw [Int.max_eq_left g] at e
        obtain rfl : V3 = v3 + u1 - u3 - d1 + d3 := by omega
        clear e
        intro h4 e
        have g : (u2 + d3) ≤ (d2 + u3) := by omega
        rw [Int.max_eq_right g] at e
        obtain rfl : h4 = -v2 + u3 + d2 := by omega
        clear e g
        intro U4 e
        rcases Int.le_total ((-v2 + u3 + d2) + v1) (u2 + d3) with g | g
        · rw [Int.max_eq_left g] at e
          obtain rfl : U4 = u2 - d2 + d3 := by omega
          clear e
          intro D4 e
          have g : (u2 + d3) ≤ ((-v2 + u3 + d2) + v3) := by omega
          rw [Int.max_eq_right g] at e
          obtain rfl : D4 = -v2 + v3 + d2 := by omega
          clear e g
          intro V4 e
          have g : (d3 + u2) ≤ ((u2 - d2 + d3) + (-v2 + v3 + d2)) := by omega
          rw [Int.max_eq_left g] at e
          obtain rfl : V4 = v3 + u2 - u3 - d2 + d3 := by omega
          clear e g
          intro h5 e
          have g : (u1 + d3) ≤ (d1 + (u2 - d2 + d3)) := by omega
          rw [Int.max_eq_right g] at e
          obtain rfl : h5 = -v1 + u2 + d1 - d2 + d3 := by omega
          clear e g
          intro U5 e
          have g : ((-v1 + u2 + d1 - d2 + d3) + v0) ≤ (u1 + d3) := by omega
          rw [Int.max_eq_left g] at e
          obtain rfl : U5 = u1 - d1 + d3 := by omega
          clear e g
          intro D5 e
          have g : (u1 + d3) ≤ ((-v1 + u2 + d1 - d2 + d3) + (v3 + u2 - u3 - d2 + d3)) := by omega
          rw [Int.max_eq_right g] at e
          obtain rfl : D5 = -v1 + v3 + u2 - u3 + d1 - d2 + d3 := by omega
          clear e g
          intro V5 e
          have g : (d3 + u1) ≤ ((u1 - d1 + d3) + (-v1 + v3 + u2 - u3 + d1 - d2 + d3)) := by omega
          rw [Int.max_eq_left g] at e
          obtain rfl : V5 = v3 + u1 - u3 - d1 + d3 := by omega
          clear e g
          intro h6 e
          have g : (u1 + (-v2 + v3 + d2)) ≤ ((-v1 + v3 + u2 - u3 + d1 - d2 + d3) + u2) := by omega
          rw [Int.max_eq_right g] at e
          obtain rfl : h6 = -v1 + u2 + d1 := by omega
          clear e g
          intro U6 e
          have g : (u1 + (-v2 + v3 + d2)) ≤ ((-v1 + u2 + d1) + (v3 + u1 - u3 - d1 + d3)) := by omega
          rw [Int.max_eq_right g] at e
          obtain rfl : U6 = u1 - d1 + d2 := by omega
          clear e g
          intro D6 e
          have g : (u1 + (-v2 + v3 + d2)) ≤ ((-v1 + u2 + d1) + v3) := by omega
          rw [Int.max_eq_right g] at e
          obtain rfl : D6 = -v1 + v3 + d1 := by omega
          clear e g
          intro V6 e
          have g : ((-v2 + v3 + d2) + u1) ≤ ((u1 - d1 + d2) + (-v1 + v3 + d1)) := by omega
          rw [Int.max_eq_left g] at e
          obtain rfl : V6 = v3 + u1 - u2 - d1 + d2 := by omega
          clear e g
          exact ⟨rfl, rfl, rfl, rfl, rfl, rfl⟩
        · rw [Int.max_eq_right g] at e
          obtain rfl : U4 = v1 - v2 + u3 := by omega
          clear e
          intro D4 e
          have g : (u2 + d3) ≤ ((-v2 + u3 + d2) + v3) := by omega
          rw [Int.max_eq_right g] at e
          obtain rfl : D4 = -v2 + v3 + d2 := by omega
          clear e g
          intro V4 e
          have g : (d3 + u2) ≤ ((v1 - v2 + u3) + (-v2 + v3 + d2)) := by omega
          rw [Int.max_eq_left g] at e
          obtain rfl : V4 = v1 - v2 + v3 := by omega
          clear e g
          intro h5 e
          have g : (u1 + d3) ≤ (d1 + (v1 - v2 + u3)) := by omega
          rw [Int.max_eq_right g] at e
          obtain rfl : h5 = -v2 + u3 + d1 := by omega
          clear e g
          intro U5 e
          have g : ((-v2 + u3 + d1) + v0) ≤ (u1 + d3) := by omega
          rw [Int.max_eq_left g] at e
          obtain rfl : U5 = u1 - d1 + d3 := by omega
          clear e g
          intro D5 e
          have g : (u1 + d3) ≤ ((-v2 + u3 + d1) + (v1 - v2 + v3)) := by omega
          rw [Int.max_eq_right g] at e
          obtain rfl : D5 = -v2 + v3 + d1 := by omega
          clear e g
          intro V5 e
          have g : (d3 + u1) ≤ ((u1 - d1 + d3) + (-v2 + v3 + d1)) := by omega
          rw [Int.max_eq_left g] at e
          obtain rfl : V5 = v3 + u1 - u3 - d1 + d3 := by omega
          clear e g
          intro h6 e
          have g : (u1 + (-v2 + v3 + d2)) ≤ ((-v2 + v3 + d1) + u2) := by omega
          rw [Int.max_eq_right g] at e
          obtain rfl : h6 = -v1 + u2 + d1 := by omega
          clear e g
          intro U6 e
          have g : ((-v1 + u2 + d1) + (v3 + u1 - u3 - d1 + d3)) ≤ (u1 + (-v2 + v3 + d2)) := by omega
          rw [Int.max_eq_left g] at e
          obtain rfl : U6 = u1 - d1 + d2 := by omega
          clear e g
          intro D6 e
          have g : (u1 + (-v2 + v3 + d2)) ≤ ((-v1 + u2 + d1) + v3) := by omega
          rw [Int.max_eq_right g] at e
          obtain rfl : D6 = -v1 + v3 + d1 := by omega
          clear e g
          intro V6 e
          have g : ((-v2 + v3 + d2) + u1) ≤ ((u1 - d1 + d2) + (-v1 + v3 + d1)) := by omega
          rw [Int.max_eq_left g] at e
          obtain rfl : V6 = v3 + u1 - u2 - d1 + d2 := by omega
          clear e g
          exact ⟨rfl, rfl, rfl, rfl, rfl, rfl⟩
      · rw [Int.max_eq_right g] at e
        obtain rfl : V3 = v2 + u1 - u3 - d1 + d3 := by omega
        clear e
        intro h4 e
        have g : (u2 + d3) ≤ (d2 + u3) := by omega
        rw [Int.max_eq_right g] at e
        obtain rfl : h4 = -v2 + u3 + d2 := by omega
        clear e g
        intro U4 e
        rcases Int.le_total ((-v2 + u3 + d2) + v1) (u2 + d3) with g | g
        · rw [Int.max_eq_left g] at e
          obtain rfl : U4 = u2 - d2 + d3 := by omega
          clear e
          intro D4 e
          have g : (u2 + d3) ≤ ((-v2 + u3 + d2) + v3) := by omega
          rw [Int.max_eq_right g] at e
          obtain rfl : D4 = -v2 + v3 + d2 := by omega
          clear e g
          intro V4 e
          have g : ((u2 - d2 + d3) + (-v2 + v3 + d2)) ≤ (d3 + u2) := by omega
          rw [Int.max_eq_right g] at e
          obtain rfl : V4 = v2 + u2 - u3 - d2 + d3 := by omega
          clear e g
          intro h5 e
          have g : (u1 + d3) ≤ (d1 + (u2 - d2 + d3)) := by omega
          rw [Int.max_eq_right g] at e
          obtain rfl : h5 = -v1 + u2 + d1 - d2 + d3 := by omega
          clear e g
          intro U5 e
          have g : ((-v1 + u2 + d1 - d2 + d3) + v0) ≤ (u1 + d3) := by omega
          rw [Int.max_eq_left g] at e
          obtain rfl : U5 = u1 - d1 + d3 := by omega
          clear e g
          intro D5 e
          have g : (u1 + d3) ≤ ((-v1 + u2 + d1 - d2 + d3) + (v2 + u2 - u3 - d2 + d3)) := by omega
          rw [Int.max_eq_right g] at e
          obtain rfl : D5 = -v1 + v2 + u2 - u3 + d1 - d2 + d3 := by omega
          clear e g
          intro V5 e
          have g : (d3 + u1) ≤ ((u1 - d1 + d3) + (-v1 + v2 + u2 - u3 + d1 - d2 + d3)) := by omega
          rw [Int.max_eq_left g] at e
          obtain rfl : V5 = v2 + u1 - u3 - d1 + d3 := by omega
          clear e g
          intro h6 e
          have g : (u1 + (-v2 + v3 + d2)) ≤ ((-v1 + v2 + u2 - u3 + d1 - d2 + d3) + u2) := by omega
          rw [Int.max_eq_right g] at e
          obtain rfl : h6 = -v1 + u2 + d1 := by omega
          clear e g
          intro U6 e
          have g : (u1 + (-v2 + v3 + d2)) ≤ ((-v1 + u2 + d1) + (v2 + u1 - u3 - d1 + d3)) := by omega
          rw [Int.max_eq_right g] at e
          obtain rfl : U6 = u1 - d1 + d2 := by omega
          clear e g
          intro D6 e
          have g : (u1 + (-v2 + v3 + d2)) ≤ ((-v1 + u2 + d1) + v3) := by omega
          rw [Int.max_eq_right g] at e
          obtain rfl : D6 = -v1 + v3 + d1 := by omega
          clear e g
          intro V6 e
          have g : ((-v2 + v3 + d2) + u1) ≤ ((u1 - d1 + d2) + (-v1 + v3 + d1)) := by omega
          rw [Int.max_eq_left g] at e
          obtain rfl : V6 = v3 + u1 - u2 - d1 + d2 := by omega
          clear e g
          exact ⟨rfl, rfl, rfl, rfl, rfl, rfl⟩
        · rw [Int.max_eq_right g] at e
          obtain rfl : U4 = v1 - v2 + u3 := by omega
          clear e
          intro D4 e
          have g : (u2 + d3) ≤ ((-v2 + u3 + d2) + v3) := by omega
          rw [Int.max_eq_right g] at e
          obtain rfl : D4 = -v2 + v3 + d2 := by omega
          clear e g
          intro V4 e
          rcases Int.le_total (d3 + u2) ((v1 - v2 + u3) + (-v2 + v3 + d2)) with g | g
          · rw [Int.max_eq_left g] at e
            obtain rfl : V4 = v1 - v2 + v3 := by omega
            clear e
            intro h5 e
            have g : (u1 + d3) ≤ (d1 + (v1 - v2 + u3)) := by omega
            rw [Int.max_eq_right g] at e
            obtain rfl : h5 = -v2 + u3 + d1 := by omega
            clear e g
            intro U5 e
            have g : ((-v2 + u3 + d1) + v0) ≤ (u1 + d3) := by omega
            rw [Int.max_eq_left g] at e
            obtain rfl : U5 = u1 - d1 + d3 := by omega
            clear e g
            intro D5 e
            have g : (u1 + d3) ≤ ((-v2 + u3 + d1) + (v1 - v2 + v3)) := by omega
            rw [Int.max_eq_right g] at e
            obtain rfl : D5 = -v2 + v3 + d1 := by omega
            clear e g
            intro V5 e
            have g : ((u1 - d1 + d3) + (-v2 + v3 + d1)) ≤ (d3 + u1) := by omega
            rw [Int.max_eq_right g] at e
            obtain rfl : V5 = v2 + u1 - u3 - d1 + d3 := by omega
            clear e g
            intro h6 e
            have g : (u1 + (-v2 + v3 + d2)) ≤ ((-v2 + v3 + d1) + u2) := by omega
            rw [Int.max_eq_right g] at e
            obtain rfl : h6 = -v1 + u2 + d1 := by omega
            clear e g
            intro U6 e
            have g : ((-v1 + u2 + d1) + (v2 + u1 - u3 - d1 + d3)) ≤ (u1 + (-v2 + v3 + d2)) := by omega
            rw [Int.max_eq_left g] at e
            obtain rfl : U6 = u1 - d1 + d2 := by omega
            clear e g
            intro D6 e
            have g : (u1 + (-v2 + v3 + d2)) ≤ ((-v1 + u2 + d1) + v3) := by omega
            rw [Int.max_eq_right g] at e
            obtain rfl : D6 = -v1 + v3 + d1 := by omega
            clear e g
            intro V6 e
            have g : ((-v2 + v3 + d2) + u1) ≤ ((u1 - d1 + d2) + (-v1 + v3 + d1)) := by omega
            rw [Int.max_eq_left g] at e
            obtain rfl : V6 = v3 + u1 - u2 - d1 + d2 := by omega
            clear e g
            exact ⟨rfl, rfl, rfl, rfl, rfl, rfl⟩
          · rw [Int.max_eq_right g] at e
            obtain rfl : V4 = v2 + u2 - u3 - d2 + d3 := by omega
            clear e
            intro h5 e
            have g : (u1 + d3) ≤ (d1 + (v1 - v2 + u3)) := by omega
            rw [Int.max_eq_right g] at e
            obtain rfl : h5 = -v2 + u3 + d1 := by omega
            clear e g
            intro U5 e
            have g : ((-v2 + u3 + d1) + v0) ≤ (u1 + d3) := by omega
            rw [Int.max_eq_left g] at e
            obtain rfl : U5 = u1 - d1 + d3 := by omega
            clear e g
            intro D5 e
            have g : (u1 + d3) ≤ ((-v2 + u3 + d1) + (v2 + u2 - u3 - d2 + d3)) := by omega
            rw [Int.max_eq_right g] at e
            obtain rfl : D5 = -v1 + v2 + u2 - u3 + d1 - d2 + d3 := by omega
            clear e g
            intro V5 e
            have g : ((u1 - d1 + d3) + (-v1 + v2 + u2 - u3 + d1 - d2 + d3)) ≤ (d3 + u1) := by omega
            rw [Int.max_eq_right g] at e
            obtain rfl : V5 = v2 + u1 - u3 - d1 + d3 := by omega
            clear e g
            intro h6 e
            have g : (u1 + (-v2 + v3 + d2)) ≤ ((-v1 + v2 + u2 - u3 + d1 - d2 + d3) + u2) := by omega
            rw [Int.max_eq_right g] at e
            obtain rfl : h6 = -v1 + u2 + d1 := by omega
            clear e g
            intro U6 e
            have g : (u1 + (-v2 + v3 + d2)) ≤ ((-v1 + u2 + d1) + (v2 + u1 - u3 - d1 + d3)) := by omega
            rw [Int.max_eq_right g] at e
            obtain rfl : U6 = u1 - d1 + d2 := by omega
            clear e g
            intro D6 e
            have g : (u1 + (-v2 + v3 + d2)) ≤ ((-v1 + u2 + d1) + v3) := by omega
            rw [Int.max_eq_right g] at e
            obtain rfl : D6 = -v1 + v3 + d1 := by omega
            clear e g
            intro V6 e
            have g : ((-v2 + v3 + d2) + u1) ≤ ((u1 - d1 + d2) + (-v1 + v3 + d1)) := by omega
            rw [Int.max_eq_left g] at e
            obtain rfl : V6 = v3 + u1 - u2 - d1 + d2 := by omega
            clear e g
            exact ⟨rfl, rfl, rfl, rfl, rfl, rfl⟩
  · rw [Int.max_eq_right g] at e
    obtain rfl : U3 = v0 - v2 + u3 := by omega
    clear e
    intro D3 e
    rcases Int.le_total ((-v2 + u3 + d2) + (v3 + u1 - u2 - d1 + d2)) ((u1 - d1 + d2) + d3) with g | g
    · rw [Int.max_eq_left g] at e
      obtain rfl : D3 = u2 - u3 + d3 := by omega
      clear e
      intro V3 e
      have g : ((v0 - v2 + u3) + (u2 - u3 + d3)) ≤ (d3 + (u1 - d1 + d2)) := by omega
      rw [Int.max_eq_right g] at e
      obtain rfl : V3 = v2 + u1 - u3 - d1 + d3 := by omega
      clear e g
      intro h4 e
      have g : (u2 + d3) ≤ (d2 + u3) := by omega
      rw [Int.max_eq_right g] at e
      obtain rfl : h4 = -v2 + u3 + d2 := by omega
      clear e g
      intro U4 e
      have g : (u2 + d3) ≤ ((-v2 + u3 + d2) + v1) := by omega
      rw [Int.max_eq_right g] at e
      obtain rfl : U4 = v1 - v2 + u3 := by omega
      clear e g
      intro D4 e
      have g : ((-v2 + u3 + d2) + v3) ≤ (u2 + d3) := by omega
      rw [Int.max_eq_left g] at e
      obtain rfl : D4 = u2 - u3 + d3 := by omega
      clear e g
      intro V4 e
      have g : ((v1 - v2 + u3) + (u2 - u3 + d3)) ≤ (d3 + u2) := by omega
      rw [Int.max_eq_right g] at e
      obtain rfl : V4 = v2 + u2 - u3 - d2 + d3 := by omega
      clear e g
      intro h5 e
      have g : (u1 + d3) ≤ (d1 + (v1 - v2 + u3)) := by omega
      rw [Int.max_eq_right g] at e
      obtain rfl : h5 = -v2 + u3 + d1 := by omega
      clear e g
      intro U5 e
      have g : (u1 + d3) ≤ ((-v2 + u3 + d1) + v0) := by omega
      rw [Int.max_eq_right g] at e
      obtain rfl : U5 = v0 - v2 + u3 := by omega
      clear e g
      intro D5 e
      have g : (u1 + d3) ≤ ((-v2 + u3 + d1) + (v2 + u2 - u3 - d2 + d3)) := by omega
      rw [Int.max_eq_right g] at e
      obtain rfl : D5 = -v1 + v2 + u2 - u3 + d1 - d2 + d3 := by omega
      clear e g
      intro V5 e
      have g : ((v0 - v2 + u3) + (-v1 + v2 + u2 - u3 + d1 - d2 + d3)) ≤ (d3 + u1) := by omega
      rw [Int.max_eq_right g] at e
      obtain rfl : V5 = v2 + u1 - u3 - d1 + d3 := by omega
      clear e g
      intro h6 e
      have g : (u1 + (u2 - u3 + d3)) ≤ ((-v1 + v2 + u2 - u3 + d1 - d2 + d3) + u2) := by omega
      rw [Int.max_eq_right g] at e
      obtain rfl : h6 = -v1 + u2 + d1 := by omega
      clear e g
      intro U6 e
      have g : (u1 + (u2 - u3 + d3)) ≤ ((-v1 + u2 + d1) + (v2 + u1 - u3 - d1 + d3)) := by omega
      rw [Int.max_eq_right g] at e
      obtain rfl : U6 = u1 - d1 + d2 := by omega
      clear e g
      intro D6 e
      have g : (u1 + (u2 - u3 + d3)) ≤ ((-v1 + u2 + d1) + v3) := by omega
      rw [Int.max_eq_right g] at e
      obtain rfl : D6 = -v1 + v3 + d1 := by omega
      clear e g
      intro V6 e
      have g : ((u2 - u3 + d3) + u1) ≤ ((u1 - d1 + d2) + (-v1 + v3 + d1)) := by omega
      rw [Int.max_eq_left g] at e
      obtain rfl : V6 = v3 + u1 - u2 - d1 + d2 := by omega
      clear e g
      exact ⟨rfl, rfl, rfl, rfl, rfl, rfl⟩
    · rw [Int.max_eq_right g] at e
      obtain rfl : D3 = -v2 + v3 + d2 := by omega
      clear e
      intro V3 e
      rcases Int.le_total (d3 + (u1 - d1 + d2)) ((v0 - v2 + u3) + (-v2 + v3 + d2)) with g | g
      · rw [Int.max_eq_left g] at e
        obtain rfl : V3 = v0 - v2 + v3 := by omega
        clear e
        intro h4 e
        have g : (u2 + d3) ≤ (d2 + u3) := by omega
        rw [Int.max_eq_right g] at e
        obtain rfl : h4 = -v2 + u3 + d2 := by omega
        clear e g
        intro U4 e
        have g : (u2 + d3) ≤ ((-v2 + u3 + d2) + v1) := by omega
        rw [Int.max_eq_right g] at e
        obtain rfl : U4 = v1 - v2 + u3 := by omega
        clear e g
        intro D4 e
        have g : (u2 + d3) ≤ ((-v2 + u3 + d2) + v3) := by omega
        rw [Int.max_eq_right g] at e
        obtain rfl : D4 = -v2 + v3 + d2 := by omega
        clear e g
        intro V4 e
        have g : (d3 + u2) ≤ ((v1 - v2 + u3) + (-v2 + v3 + d2)) := by omega
        rw [Int.max_eq_left g] at e
        obtain rfl : V4 = v1 - v2 + v3 := by omega
        clear e g
        intro h5 e
        have g : (u1 + d3) ≤ (d1 + (v1 - v2 + u3)) := by omega
        rw [Int.max_eq_right g] at e
        obtain rfl : h5 = -v2 + u3 + d1 := by omega
        clear e g
        intro U5 e
        have g : (u1 + d3) ≤ ((-v2 + u3 + d1) + v0) := by omega
        rw [Int.max_eq_right g] at e
        obtain rfl : U5 = v0 - v2 + u3 := by omega
        clear e g
        intro D5 e
        have g : (u1 + d3) ≤ ((-v2 + u3 + d1) + (v1 - v2 + v3)) := by omega
        rw [Int.max_eq_right g] at e
        obtain rfl : D5 = -v2 + v3 + d1 := by omega
        clear e g
        intro V5 e
        have g : (d3 + u1) ≤ ((v0 - v2 + u3) + (-v2 + v3 + d1)) := by omega
        rw [Int.max_eq_left g] at e
        obtain rfl : V5 = v0 - v2 + v3 := by omega
        clear e g
        intro h6 e
        have g : (u1 + (-v2 + v3 + d2)) ≤ ((-v2 + v3 + d1) + u2) := by omega
        rw [Int.max_eq_right g] at e
        obtain rfl : h6 = -v1 + u2 + d1 := by omega
        clear e g
        intro U6 e
        have g : ((-v1 + u2 + d1) + (v0 - v2 + v3)) ≤ (u1 + (-v2 + v3 + d2)) := by omega
        rw [Int.max_eq_left g] at e
        obtain rfl : U6 = u1 - d1 + d2 := by omega
        clear e g
        intro D6 e
        have g : (u1 + (-v2 + v3 + d2)) ≤ ((-v1 + u2 + d1) + v3) := by omega
        rw [Int.max_eq_right g] at e
        obtain rfl : D6 = -v1 + v3 + d1 := by omega
        clear e g
        intro V6 e
        have g : ((-v2 + v3 + d2) + u1) ≤ ((u1 - d1 + d2) + (-v1 + v3 + d1)) := by omega
        rw [Int.max_eq_left g] at e
        obtain rfl : V6 = v3 + u1 - u2 - d1 + d2 := by omega
        clear e g
        exact ⟨rfl, rfl, rfl, rfl, rfl, rfl⟩
      · rw [Int.max_eq_right g] at e
        obtain rfl : V3 = v2 + u1 - u3 - d1 + d3 := by omega
        clear e
        intro h4 e
        have g : (u2 + d3) ≤ (d2 + u3) := by omega
        rw [Int.max_eq_right g] at e
        obtain rfl : h4 = -v2 + u3 + d2 := by omega
        clear e g
        intro U4 e
        have g : (u2 + d3) ≤ ((-v2 + u3 + d2) + v1) := by omega
        rw [Int.max_eq_right g] at e
        obtain rfl : U4 = v1 - v2 + u3 := by omega
        clear e g
        intro D4 e
        have g : (u2 + d3) ≤ ((-v2 + u3 + d2) + v3) := by omega
        rw [Int.max_eq_right g] at e
        obtain rfl : D4 = -v2 + v3 + d2 := by omega
        clear e g
        intro V4 e
        rcases Int.le_total (d3 + u2) ((v1 - v2 + u3) + (-v2 + v3 + d2)) with g | g
        · rw [Int.max_eq_left g] at e
          obtain rfl : V4 = v1 - v2 + v3 := by omega
          clear e
          intro h5 e
          have g : (u1 + d3) ≤ (d1 + (v1 - v2 + u3)) := by omega
          rw [Int.max_eq_right g] at e
          obtain rfl : h5 = -v2 + u3 + d1 := by omega
          clear e g
          intro U5 e
          have g : (u1 + d3) ≤ ((-v2 + u3 + d1) + v0) := by omega
          rw [Int.max_eq_right g] at e
          obtain rfl : U5 = v0 - v2 + u3 := by omega
          clear e g
          intro D5 e
          have g : (u1 + d3) ≤ ((-v2 + u3 + d1) + (v1 - v2 + v3)) := by omega
          rw [Int.max_eq_right g] at e
          obtain rfl : D5 = -v2 + v3 + d1 := by omega
          clear e g
          intro V5 e
          have g : ((v0 - v2 + u3) + (-v2 + v3 + d1)) ≤ (d3 + u1) := by omega
          rw [Int.max_eq_right g] at e
          obtain rfl : V5 = v2 + u1 - u3 - d1 + d3 := by omega
          clear e g
          intro h6 e
          have g : (u1 + (-v2 + v3 + d2)) ≤ ((-v2 + v3 + d1) + u2) := by omega
          rw [Int.max_eq_right g] at e
          obtain rfl : h6 = -v1 + u2 + d1 := by omega
          clear e g
          intro U6 e
          have g : ((-v1 + u2 + d1) + (v2 + u1 - u3 - d1 + d3)) ≤ (u1 + (-v2 + v3 + d2)) := by omega
          rw [Int.max_eq_left g] at e
          obtain rfl : U6 = u1 - d1 + d2 := by omega
          clear e g
          intro D6 e
          have g : (u1 + (-v2 + v3 + d2)) ≤ ((-v1 + u2 + d1) + v3) := by omega
          rw [Int.max_eq_right g] at e
          obtain rfl : D6 = -v1 + v3 + d1 := by omega
          clear e g
          intro V6 e
          have g : ((-v2 + v3 + d2) + u1) ≤ ((u1 - d1 + d2) + (-v1 + v3 + d1)) := by omega
          rw [Int.max_eq_left g] at e
          obtain rfl : V6 = v3 + u1 - u2 - d1 + d2 := by omega
          clear e g
          exact ⟨rfl, rfl, rfl, rfl, rfl, rfl⟩
        · rw [Int.max_eq_right g] at e
          obtain rfl : V4 = v2 + u2 - u3 - d2 + d3 := by omega
          clear e
          intro h5 e
          have g : (u1 + d3) ≤ (d1 + (v1 - v2 + u3)) := by omega
          rw [Int.max_eq_right g] at e
          obtain rfl : h5 = -v2 + u3 + d1 := by omega
          clear e g
          intro U5 e
          have g : (u1 + d3) ≤ ((-v2 + u3 + d1) + v0) := by omega
          rw [Int.max_eq_right g] at e
          obtain rfl : U5 = v0 - v2 + u3 := by omega
          clear e g
          intro D5 e
          have g : (u1 + d3) ≤ ((-v2 + u3 + d1) + (v2 + u2 - u3 - d2 + d3)) := by omega
          rw [Int.max_eq_right g] at e
          obtain rfl : D5 = -v1 + v2 + u2 - u3 + d1 - d2 + d3 := by omega
          clear e g
          intro V5 e
          have g : ((v0 - v2 + u3) + (-v1 + v2 + u2 - u3 + d1 - d2 + d3)) ≤ (d3 + u1) := by omega
          rw [Int.max_eq_right g] at e
          obtain rfl : V5 = v2 + u1 - u3 - d1 + d3 := by omega
          clear e g
          intro h6 e
          have g : (u1 + (-v2 + v3 + d2)) ≤ ((-v1 + v2 + u2 - u3 + d1 - d2 + d3) + u2) := by omega
          rw [Int.max_eq_right g] at e
          obtain rfl : h6 = -v1 + u2 + d1 := by omega
          clear e g
          intro U6 e
          have g : (u1 + (-v2 + v3 + d2)) ≤ ((-v1 + u2 + d1) + (v2 + u1 - u3 - d1 + d3)) := by omega
          rw [Int.max_eq_right g] at e
          obtain rfl : U6 = u1 - d1 + d2 := by omega
          clear e g
          intro D6 e
          have g : (u1 + (-v2 + v3 + d2)) ≤ ((-v1 + u2 + d1) + v3) := by omega
          rw [Int.max_eq_right g] at e
          obtain rfl : D6 = -v1 + v3 + d1 := by omega
          clear e g
          intro V6 e
          have g : ((-v2 + v3 + d2) + u1) ≤ ((u1 - d1 + d2) + (-v1 + v3 + d1)) := by omega
          rw [Int.max_eq_left g] at e
          obtain rfl : V6 = v3 + u1 - u2 - d1 + d2 := by omega
          clear e g
          exact ⟨rfl, rfl, rfl, rfl, rfl, rfl⟩
set_option maxHeartbeats 4000000 in
set_option maxRecDepth 100000 in
theorem dy_c20 (v0 v1 v2 v3 u1 u2 u3 d1 d2 d3 : Int) (g0 : u1 + d2 ≤ u2 + d1) (g1 : v0 + u2 + d1 ≤ v1 + u1 + d2) (g2 : v1 + u1 + d2 ≤ v2 + u2 + d1) (g3 : v1 ≤ v2) (g4 : v1 + u1 + d3 ≤ v2 + u3 + d1) (g5 : v1 + u2 + d3 ≤ v2 + u3 + d2) (g6 : v1 + u1 + d3 ≤ v3 + u3 + d1) (g7 : v3 + u3 + d2 ≤ v1 + u2 + d3) : ∀ h3 : Int, h3 = max ((u1 - d1 + d2) + d3) (d2 + (u1 - u2 + u3 - d1 + d2)) - (v2 + u1 - u2 - d1 + d2) → ∀ U3 : Int, U3 = max ((u1 - d1 + d2) + d3) (h3 + v0) - d2 → ∀ D3 : Int, D3 = max ((u1 - d1 + d2) + d3) (h3 + (v1 + u1 - u3 - d1 + d3)) - (u1 - u2 + u3 - d1 + d2) → ∀ V3 : Int, V3 = max (U3 + D3) (d3 + (u1 - d1 + d2)) - h3 → ∀ h4 : Int, h4 = max (u2 + d3) (d2 + u3) - v2 → ∀ U4 : Int, U4 = max (u2 + d3) (h4 + v1) - d2 → ∀ D4 : Int, D4 = max (u2 + d3) (h4 + v3) - u3 → ∀ V4 : Int, V4 = max (U4 + D4) (d3 + u2) - h4 → ∀ h5 : Int, h5 = max (u1 + d3) (d1 + U4) - v1 → ∀ U5 : Int, U5 = max (u1 + d3) (h5 + v0) - d1 → ∀ D5 : Int, D5 = max (u1 + d3) (h5 + V4) - U4 → ∀ V5 : Int, V5 = max (U5 + D5) (d3 + u1) - h5 → ∀ h6 : Int, h6 = max (u1 + D4) (D5 + u2) - V4 → ∀ U6 : Int, U6 = max (u1 + D4) (h6 + V5) - D5 → ∀ D6 : Int, D6 = max (u1 + D4) (h6 + v3) - u2 → ∀ V6 : Int, V6 = max (U6 + D6) (D4 + u1) - h6 → V3 = V5 ∧ U3 = U5 ∧ (v1 + u1 - u3 - d1 + d3) = V6 ∧ (u1 - d1 + d2) = U6 ∧ D3 = D4 ∧ (-v1 + v3 + d1) = D6 := by
  intro h3 e
  rcases Int.le_total (d2 + (u1 - u2 + u3 - d1 + d2)) ((u1 - d1 + d2) + d3) with g | g
  · rw [Int.max_eq_left g] at e
    obtain rfl : h3 = -v2 + u2 + d3 := by omega
    clear e
    intro U3 e
    have g : ((-v2 + u2 + d3) + v0) ≤ ((u1 - d1 + d2) + d3) := by omega
    rw [Int.max_eq_left g] at e
    obtain rfl : U3 = u1 - d1 + d3 := by omega
    clear e g
    intro D3 e
    have g : ((-v2 + u2 + d3) + (v1 + u1 - u3 - d1 + d3)) ≤ ((u1 - d1 + d2) + d3) := by omega
    rw [Int.max_eq_left g] at e
    obtain rfl : D3 = u2 - u3 + d3 := by omega
    clear e g
    intro V3 e
    have g : (d3 + (u1 - d1 + d2)) ≤ ((u1 - d1 + d3) + (u2 - u3 + d3)) := by omega
    rw [Int.max_eq_left g] at e
    obtain rfl : V3 = v2 + u1 - u3 - d1 + d3 := by omega
    clear e g
    intro h4 e
    have g : (d2 + u3) ≤ (u2 + d3) := by omega
    rw [Int.max_eq_left g] at e
    obtain rfl : h4 = -v2 + u2 + d3 := by omega
    clear e g
    intro U4 e
    have g : ((-v2 + u2 + d3) + v1) ≤ (u2 + d3) := by omega
    rw [Int.max_eq_left g] at e
    obtain rfl : U4 = u2 - d2 + d3 := by omega
    clear e g
    intro D4 e
    have g : ((-v2 + u2 + d3) + v3) ≤ (u2 + d3) := by omega
    rw [Int.max_eq_left g] at e
    obtain rfl : D4 = u2 - u3 + d3 := by omega
    clear e g
    intro V4 e
    have g : (d3 + u2) ≤ ((u2 - d2 + d3) + (u2 - u3 + d3)) := by omega
    rw [Int.max_eq_left g] at e
    obtain rfl : V4 = v2 + u2 - u3 - d2 + d3 := by omega
    clear e g
    intro h5 e
    have g : (u1 + d3) ≤ (d1 + (u2 - d2 + d3)) := by omega
    rw [Int.max_eq_right g] at e
    obtain rfl : h5 = -v1 + u2 + d1 - d2 + d3 := by omega
    clear e g
    intro U5 e
    have g : ((-v1 + u2 + d1 - d2 + d3) + v0) ≤ (u1 + d3) := by omega
    rw [Int.max_eq_left g] at e
    obtain rfl : U5 = u1 - d1 + d3 := by omega
    clear e g
    intro D5 e
    have g : (u1 + d3) ≤ ((-v1 + u2 + d1 - d2 + d3) + (v2 + u2 - u3 - d2 + d3)) := by omega
    rw [Int.max_eq_right g] at e
    obtain rfl : D5 = -v1 + v2 + u2 - u3 + d1 - d2 + d3 := by omega
    clear e g
    intro V5 e
    have g : (d3 + u1) ≤ ((u1 - d1 + d3) + (-v1 + v2 + u2 - u3 + d1 - d2 + d3)) := by omega
    rw [Int.max_eq_left g] at e
    obtain rfl : V5 = v2 + u1 - u3 - d1 + d3 := by omega
    clear e g
    intro h6 e
    have g : (u1 + (u2 - u3 + d3)) ≤ ((-v1 + v2 + u2 - u3 + d1 - d2 + d3) + u2) := by omega
    rw [Int.max_eq_right g] at e
    obtain rfl : h6 = -v1 + u2 + d1 := by omega
    clear e g
    intro U6 e
    have g : (u1 + (u2 - u3 + d3)) ≤ ((-v1 + u2 + d1) + (v2 + u1 - u3 - d1 + d3)) := by omega
    rw [Int.max_eq_right g] at e
    obtain rfl : U6 = u1 - d1 + d2 := by omega
    clear e g
    intro D6 e
    have g : (u1 + (u2 - u3 + d3)) ≤ ((-v1 + u2 + d1) + v3) := by omega
    rw [Int.max_eq_right g] at e
    obtain rfl : D6 = -v1 + v3 + d1 := by omega
    clear e g
    intro V6 e
    have g : ((u1 - d1 + d2) + (-v1 + v3 + d1)) ≤ ((u2 - u3 + d3) + u1) := by omega
    rw [Int.max_eq_right g] at e
    obtain rfl : V6 = v1 + u1 - u3 - d1 + d3 := by omega
    clear e g
    exact ⟨rfl, rfl, rfl, rfl, rfl, rfl⟩
  · rw [Int.max_eq_right g] at e
    obtain rfl : h3 = -v2 + u3 + d2 := by omega
    clear e
    intro U3 e
    rcases Int.le_total ((-v2 + u3 + d2) + v0) ((u1 - d1 + d2) + d3) with g | g
    · rw [Int.max_eq_left g] at e
      obtain rfl : U3 = u1 - d1 + d3 := by omega
      clear e
      intro D3 e
      have g : ((-v2 + u3 + d2) + (v1 + u1 - u3 - d1 + d3)) ≤ ((u1 - d1 + d2) + d3) := by omega
      rw [Int.max_eq_left g] at e
      obtain rfl : D3 = u2 - u3 + d3 := by omega
      clear e g
      intro V3 e
      have g : ((u1 - d1 + d3) + (u2 - u3 + d3)) ≤ (d3 + (u1 - d1 + d2)) := by omega
      rw [Int.max_eq_right g] at e
      obtain rfl : V3 = v2 + u1 - u3 - d1 + d3 := by omega
      clear e g
      intro h4 e
      have g : (u2 + d3) ≤ (d2 + u3) := by omega
      rw [Int.max_eq_right g] at e
      obtain rfl : h4 = -v2 + u3 + d2 := by omega
      clear e g
      intro U4 e
      rcases Int.le_total ((-v2 + u3 + d2) + v1) (u2 + d3) with g | g
      · rw [Int.max_eq_left g] at e
        obtain rfl : U4 = u2 - d2 + d3 := by omega
        clear e
        intro D4 e
        have g : ((-v2 + u3 + d2) + v3) ≤ (u2 + d3) := by omega
        rw [Int.max_eq_left g] at e
        obtain rfl : D4 = u2 - u3 + d3 := by omega
        clear e g
        intro V4 e
        have g : ((u2 - d2 + d3) + (u2 - u3 + d3)) ≤ (d3 + u2) := by omega
        rw [Int.max_eq_right g] at e
        obtain rfl : V4 = v2 + u2 - u3 - d2 + d3 := by omega
        clear e g
        intro h5 e
        have g : (u1 + d3) ≤ (d1 + (u2 - d2 + d3)) := by omega
        rw [Int.max_eq_right g] at e
        obtain rfl : h5 = -v1 + u2 + d1 - d2 + d3 := by omega
        clear e g
        intro U5 e
        have g : ((-v1 + u2 + d1 - d2 + d3) + v0) ≤ (u1 + d3) := by omega
        rw [Int.max_eq_left g] at e
        obtain rfl : U5 = u1 - d1 + d3 := by omega
        clear e g
        intro D5 e
        have g : (u1 + d3) ≤ ((-v1 + u2 + d1 - d2 + d3) + (v2 + u2 - u3 - d2 + d3)) := by omega
        rw [Int.max_eq_right g] at e
        obtain rfl : D5 = -v1 + v2 + u2 - u3 + d1 - d2 + d3 := by omega
        clear e g
        intro V5 e
        have g : (d3 + u1) ≤ ((u1 - d1 + d3) + (-v1 + v2 + u2 - u3 + d1 - d2 + d3)) := by omega
        rw [Int.max_eq_left g] at e
        obtain rfl : V5 = v2 + u1 - u3 - d1 + d3 := by omega
        clear e g
        intro h6 e
        have g : (u1 + (u2 - u3 + d3)) ≤ ((-v1 + v2 + u2 - u3 + d1 - d2 + d3) + u2) := by omega
        rw [Int.max_eq_right g] at e
        obtain rfl : h6 = -v1 + u2 + d1 := by omega
        clear e g
        intro U6 e
        have g : (u1 + (u2 - u3 + d3)) ≤ ((-v1 + u2 + d1) + (v2 + u1 - u3 - d1 + d3)) := by omega
        rw [Int.max_eq_right g] at e
        obtain rfl : U6 = u1 - d1 + d2 := by omega
        clear e g
        intro D6 e
        have g : (u1 + (u2 - u3 + d3)) ≤ ((-v1 + u2 + d1) + v3) := by omega
        rw [Int.max_eq_right g] at e
        obtain rfl : D6 = -v1 + v3 + d1 := by omega
        clear e g
        intro V6 e
        have g : ((u1 - d1 + d2) + (-v1 + v3 + d1)) ≤ ((u2 - u3 + d3) + u1) := by omega
        rw [Int.max_eq_right g] at e
        obtain rfl : V6 = v1 + u1 - u3 - d1 + d3 := by omega
        clear e g
        exact ⟨rfl, rfl, rfl, rfl, rfl, rfl⟩
      · rw [Int.max_eq_right g] at e
        obtain rfl : U4 = v1 - v2 + u3 := by omega
        clear e
        intro D4 e
        have g : ((-v2 + u3 + d2) + v3) ≤ (u2 + d3) := by omega
        rw [Int.max_eq_left g] at e
        obtain rfl : D4 = u2 - u3 + d3 := by omega
        clear e g
        intro V4 e
        have g : ((v1 - v2 + u3) + (u2 - u3 + d3)) ≤ (d3 + u2) := by omega
        rw [Int.max_eq_right g] at e
        obtain rfl : V4 = v2 + u2 - u3 - d2 + d3 := by omega
        clear e g
        intro h5 e
        have g : (u1 + d3) ≤ (d1 + (v1 - v2 + u3)) := by omega
        rw [Int.max_eq_right g] at e
        obtain rfl : h5 = -v2 + u3 + d1 := by omega
        clear e g
        intro U5 e
        have g : ((-v2 + u3 + d1) + v0) ≤ (u1 + d3) := by omega
        rw [Int.max_eq_left g] at e
        obtain rfl : U5 = u1 - d1 + d3 := by omega
        clear e g
        intro D5 e
        have g : (u1 + d3) ≤ ((-v2 + u3 + d1) + (v2 + u2 - u3 - d2 + d3)) := by omega
        rw [Int.max_eq_right g] at e
        obtain rfl : D5 = -v1 + v2 + u2 - u3 + d1 - d2 + d3 := by omega
        clear e g
        intro V5 e
        have g : ((u1 - d1 + d3) + (-v1 + v2 + u2 - u3 + d1 - d2 + d3)) ≤ (d3 + u1) := by omega
        rw [Int.max_eq_right g] at e
        obtain rfl : V5 = v2 + u1 - u3 - d1 + d3 := by omega
        clear e g
        intro h6 e
        have g : (u1 + (u2 - u3 + d3)) ≤ ((-v1 + v2 + u2 - u3 + d1 - d2 + d3) + u2) := by omega
        rw [Int.max_eq_right g] at e
        obtain rfl : h6 = -v1 + u2 + d1 := by omega
        clear e g
        intro U6 e
        have g : (u1 + (u2 - u3 + d3)) ≤ ((-v1 + u2 + d1) + (v2 + u1 - u3 - d1 + d3)) := by omega
        rw [Int.max_eq_right g] at e
        obtain rfl : U6 = u1 - d1 + d2 := by omega
        clear e g
        intro D6 e
        have g : (u1 + (u2 - u3 + d3)) ≤ ((-v1 + u2 + d1) + v3) := by omega
        rw [Int.max_eq_right g] at e
        obtain rfl : D6 = -v1 + v3 + d1 := by omega
        clear e g
        intro V6 e
        have g : ((u1 - d1 + d2) + (-v1 + v3 + d1)) ≤ ((u2 - u3 + d3) + u1) := by omega
        rw [Int.max_eq_right g] at e
        obtain rfl : V6 = v1 + u1 - u3 - d1 + d3 := by omega
        clear e g
        exact ⟨rfl, rfl, rfl, rfl, rfl, rfl⟩
    · rw [Int.max_eq_right g] at e
      obtain rfl : U3 = v0 - v2 + u3 := by omega
      clear e
      intro D3 e
      have g : ((-v2 + u3 + d2) + (v1 + u1 - u3 - d1 + d3)) ≤ ((u1 - d1 + d2) + d3) := by omega
      rw [Int.max_eq_left g] at e
      obtain rfl : D3 = u2 - u3 + d3 := by omega
      clear e g
      intro V3 e
      have g : ((v0 - v2 + u3) + (u2 - u3 + d3)) ≤ (d3 + (u1 - d1 + d2)) := by omega
      rw [Int.max_eq_right g] at e
      obtain rfl : V3 = v2 + u1 - u3 - d1 + d3 := by omega
      clear e g
      intro h4 e
      have g : (u2 + d3) ≤ (d2 + u3) := by omega
      rw [Int.max_eq_right g] at e
      obtain rfl : h4 = -v2 + u3 + d2 := by omega
      clear e g
      intro U4 e
      have g : (u2 + d3) ≤ ((-v2 + u3 + d2) + v1) := by omega
      rw [Int.max_eq_right g] at e
      obtain rfl : U4 = v1 - v2 + u3 := by omega
      clear e g
      intro D4 e
      have g : ((-v2 + u3 + d2) + v3) ≤ (u2 + d3) := by omega
      rw [Int.max_eq_left g] at e
      obtain rfl : D4 = u2 - u3 + d3 := by omega
      clear e g
      intro V4 e
      have g : ((v1 - v2 + u3) + (u2 - u3 + d3)) ≤ (d3 + u2) := by omega
      rw [Int.max_eq_right g] at e
      obtain rfl : V4 = v2 + u2 - u3 - d2 + d3 := by omega
      clear e g
      intro h5 e
      have g : (u1 + d3) ≤ (d1 + (v1 - v2 + u3)) := by omega
      rw [Int.max_eq_right g] at e
      obtain rfl : h5 = -v2 + u3 + d1 := by omega
      clear e g
      intro U5 e
      have g : (u1 + d3) ≤ ((-v2 + u3 + d1) + v0) := by omega
      rw [Int.max_eq_right g] at e
      obtain rfl : U5 = v0 - v2 + u3 := by omega
      clear e g
      intro D5 e
      have g : (u1 + d3) ≤ ((-v2 + u3 + d1) + (v2 + u2 - u3 - d2 + d3)) := by omega
      rw [Int.max_eq_right g] at e
      obtain rfl : D5 = -v1 + v2 + u2 - u3 + d1 - d2 + d3 := by omega
      clear e g
      intro V5 e
      have g : ((v0 - v2 + u3) + (-v1 + v2 + u2 - u3 + d1 - d2 + d3)) ≤ (d3 + u1) := by omega
      rw [Int.max_eq_right g] at e
      obtain rfl : V5 = v2 + u1 - u3 - d1 + d3 := by omega
      clear e g
      intro h6 e
      have g : (u1 + (u2 - u3 + d3)) ≤ ((-v1 + v2 + u2 - u3 + d1 - d2 + d3) + u2) := by omega
      rw [Int.max_eq_right g] at e
      obtain rfl : h6 = -v1 + u2 + d1 := by omega
      clear e g
      intro U6 e
      have g : (u1 + (u2 - u3 + d3)) ≤ ((-v1 + u2 + d1) + (v2 + u1 - u3 - d1 + d3)) := by omega
      rw [Int.max_eq_right g] at e
      obtain rfl : U6 = u1 - d1 + d2 := by omega
      clear e g
      intro D6 e
      have g : (u1 + (u2 - u3 + d3)) ≤ ((-v1 + u2 + d1) + v3) := by omega
      rw [Int.max_eq_right g] at e
      obtain rfl : D6 = -v1 + v3 + d1 := by omega
      clear e g
      intro V6 e
      have g : ((u1 - d1 + d2) + (-v1 + v3 + d1)) ≤ ((u2 - u3 + d3) + u1) := by omega
      rw [Int.max_eq_right g] at e
      obtain rfl : V6 = v1 + u1 - u3 - d1 + d3 := by omega
      clear e g
      exact ⟨rfl, rfl, rfl, rfl, rfl, rfl⟩
set_option maxHeartbeats 4000000 in
set_option maxRecDepth 100000 in
theorem dy_c21 (v0 v1 v2 v3 u1 u2 u3 d1 d2 d3 : Int) (g0 : u1 + d2 ≤ u2 + d1) (g1 : v0 + u2 + d1 ≤ v1 + u1 + d2) (g2 : v1 + u1 + d2 ≤ v2 + u2 + d1) (g3 : v2 ≤ v1) (g4 : v2 + u3 + d1 ≤ v1 + u1 + d3) : ∀ U2 : Int, U2 = max (u1 + d3) ((-v2 + u1 + d3) + (v1 + u1 - u2 - d1 + d2)) - (-v1 + v2 + d1) → ∀ D2 : Int, D2 = max (u1 + d3) ((-v2 + u1 + d3) + v3) - u3 → ∀ V2 : Int, V2 = max (U2 + D2) (d3 + u1) - (-v2 + u1 + d3) → ∀ h3 : Int, h3 = max ((u1 - d1 + d2) + d3) (d2 + U2) - (v1 + u1 - u2 - d1 + d2) → ∀ U3 : Int, U3 = max ((u1 - d1 + d2) + d3) (h3 + v0) - d2 → ∀ D3 : Int, D3 = max ((u1 - d1 + d2) + d3) (h3 + V2) - U2 → ∀ V3 : Int, V3 = max (U3 + D3) (d3 + (u1 - d1 + d2)) - h3 → ∀ h4 : Int, h4 = max (u2 + d3) (d2 + u3) - v2 → ∀ U4 : Int, U4 = max (u2 + d3) (h4 + v1) - d2 → ∀ D4 : Int, D4 = max (u2 + d3) (h4 + v3) - u3 → ∀ V4 : Int, V4 = max (U4 + D4) (d3 + u2) - h4 → ∀ h5 : Int, h5 = max (u1 + d3) (d1 + U4) - v1 → ∀ U5 : Int, U5 = max (u1 + d3) (h5 + v0) - d1 → ∀ D5 : Int, D5 = max (u1 + d3) (h5 + V4) - U4 → ∀ V5 : Int, V5 = max (U5 + D5) (d3 + u1) - h5 → ∀ h6 : Int, h6 = max (u1 + D4) (D5 + u2) - V4 → ∀ U6 : Int, U6 = max (u1 + D4) (h6 + V5) - D5 → ∀ D6 : Int, D6 = max (u1 + D4) (h6 + v3) - u2 → ∀ V6 : Int, V6 = max (U6 + D6) (D4 + u1) - h6 → V3 = V5 ∧ U3 = U5 ∧ V2 = V6 ∧ (u1 - d1 + d2) = U6 ∧ D3 = D4 ∧ D2 = D6 := by
  intro U2 e
  have g : ((-v2 + u1 + d3) + (v1 + u1 - u2 - d1 + d2)) ≤ (u1 + d3) := by omega
  rw [Int.max_eq_left g] at e
  obtain rfl : U2 = v1 - v2 + u1 - d1 + d3 := by omega
  clear e g
  intro D2 e
  rcases Int.le_total ((-v2 + u1 + d3) + v3) (u1 + d3) with g | g
  · rw [Int.max_eq_left g] at e
    obtain rfl : D2 = u1 - u3 + d3 := by omega
    clear e
    intro V2 e
    have g : (d3 + u1) ≤ ((v1 - v2 + u1 - d1 + d3) + (u1 - u3 + d3)) := by omega
    rw [Int.max_eq_left g] at e
    obtain rfl : V2 = v1 + u1 - u3 - d1 + d3 := by omega
    clear e g
    intro h3 e
    have g : ((u1 - d1 + d2) + d3) ≤ (d2 + (v1 - v2 + u1 - d1 + d3)) := by omega
    rw [Int.max_eq_right g] at e
    obtain rfl : h3 = -v2 + u2 + d3 := by omega
    clear e g
    intro U3 e
    rcases Int.le_total ((-v2 + u2 + d3) + v0) ((u1 - d1 + d2) + d3) with g | g
    · rw [Int.max_eq_left g] at e
      obtain rfl : U3 = u1 - d1 + d3 := by omega
      clear e
      intro D3 e
      have g : ((u1 - d1 + d2) + d3) ≤ ((-v2 + u2 + d3) + (v1 + u1 - u3 - d1 + d3)) := by omega
      rw [Int.max_eq_right g] at e
      obtain rfl : D3 = u2 - u3 + d3 := by omega
      clear e g
      intro V3 e
      have g : (d3 + (u1 - d1 + d2)) ≤ ((u1 - d1 + d3) + (u2 - u3 + d3)) := by omega
      rw [Int.max_eq_left g] at e
      obtain rfl : V3 = v2 + u1 - u3 - d1 + d3 := by omega
      clear e g
      intro h4 e
      have g : (d2 + u3) ≤ (u2 + d3) := by omega
      rw [Int.max_eq_left g] at e
      obtain rfl : h4 = -v2 + u2 + d3 := by omega
      clear e g
      intro U4 e
      have g : (u2 + d3) ≤ ((-v2 + u2 + d3) + v1) := by omega
      rw [Int.max_eq_right g] at e
      obtain rfl : U4 = v1 - v2 + u2 - d2 + d3 := by omega
      clear e g
      intro D4 e
      have g : ((-v2 + u2 + d3) + v3) ≤ (u2 + d3) := by omega
      rw [Int.max_eq_left g] at e
      obtain rfl : D4 = u2 - u3 + d3 := by omega
      clear e g
      intro V4 e
      have g : (d3 + u2) ≤ ((v1 - v2 + u2 - d2 + d3) + (u2 - u3 + d3)) := by omega
      rw [Int.max_eq_left g] at e
      obtain rfl : V4 = v1 + u2 - u3 - d2 + d3 := by omega
      clear e g
      intro h5 e
      have g : (u1 + d3) ≤ (d1 + (v1 - v2 + u2 - d2 + d3)) := by omega
      rw [Int.max_eq_right g] at e
      obtain rfl : h5 = -v2 + u2 + d1 - d2 + d3 := by omega
      clear e g
      intro U5 e
      have g : ((-v2 + u2 + d1 - d2 + d3) + v0) ≤ (u1 + d3) := by omega
      rw [Int.max_eq_left g] at e
      obtain rfl : U5 = u1 - d1 + d3 := by omega
      clear e g
      intro D5 e
      have g : (u1 + d3) ≤ ((-v2 + u2 + d1 - d2 + d3) + (v1 + u2 - u3 - d2 + d3)) := by omega
      rw [Int.max_eq_right g] at e
      obtain rfl : D5 = u2 - u3 + d1 - d2 + d3 := by omega
      clear e g
      intro V5 e
      have g : (d3 + u1) ≤ ((u1 - d1 + d3) + (u2 - u3 + d1 - d2 + d3)) := by omega
      rw [Int.max_eq_left g] at e
      obtain rfl : V5 = v2 + u1 - u3 - d1 + d3 := by omega
      clear e g
      intro h6 e
      have g : (u1 + (u2 - u3 + d3)) ≤ ((u2 - u3 + d1 - d2 + d3) + u2) := by omega
      rw [Int.max_eq_right g] at e
      obtain rfl : h6 = -v1 + u2 + d1 := by omega
      clear e g
      intro U6 e
      have g : ((-v1 + u2 + d1) + (v2 + u1 - u3 - d1 + d3)) ≤ (u1 + (u2 - u3 + d3)) := by omega
      rw [Int.max_eq_left g] at e
      obtain rfl : U6 = u1 - d1 + d2 := by omega
      clear e g
      intro D6 e
      have g : ((-v1 + u2 + d1) + v3) ≤ (u1 + (u2 - u3 + d3)) := by omega
      rw [Int.max_eq_left g] at e
      obtain rfl : D6 = u1 - u3 + d3 := by omega
      clear e g
      intro V6 e
      have g : ((u1 - d1 + d2) + (u1 - u3 + d3)) ≤ ((u2 - u3 + d3) + u1) := by omega
      rw [Int.max_eq_right g] at e
      obtain rfl : V6 = v1 + u1 - u3 - d1 + d3 := by omega
      clear e g
      exact ⟨rfl, rfl, rfl, rfl, rfl, rfl⟩
    · rw [Int.max_eq_right g] at e
      obtain rfl : U3 = v0 - v2 + u2 - d2 + d3 := by omega
      clear e
      intro D3 e
      have g : ((u1 - d1 + d2) + d3) ≤ ((-v2 + u2 + d3) + (v1 + u1 - u3 - d1 + d3)) := by omega
      rw [Int.max_eq_right g] at e
      obtain rfl : D3 = u2 - u3 + d3 := by omega
      clear e g
      intro V3 e
      have g : (d3 + (u1 - d1 + d2)) ≤ ((v0 - v2 + u2 - d2 + d3) + (u2 - u3 + d3)) := by omega
      rw [Int.max_eq_left g] at e
      obtain rfl : V3 = v0 + u2 - u3 - d2 + d3 := by omega
      clear e g
      intro h4 e
      have g : (d2 + u3) ≤ (u2 + d3) := by omega
      rw [Int.max_eq_left g] at e
      obtain rfl : h4 = -v2 + u2 + d3 := by omega
      clear e g
      intro U4 e
      have g : (u2 + d3) ≤ ((-v2 + u2 + d3) + v1) := by omega
      rw [Int.max_eq_right g] at e
      obtain rfl : U4 = v1 - v2 + u2 - d2 + d3 := by omega
      clear e g
      intro D4 e
      have g : ((-v2 + u2 + d3) + v3) ≤ (u2 + d3) := by omega
      rw [Int.max_eq_left g] at e
      obtain rfl : D4 = u2 - u3 + d3 := by omega
      clear e g
      intro V4 e
      have g : (d3 + u2) ≤ ((v1 - v2 + u2 - d2 + d3) + (u2 - u3 + d3)) := by omega
      rw [Int.max_eq_left g] at e
      obtain rfl : V4 = v1 + u2 - u3 - d2 + d3 := by omega
      clear e g
      intro h5 e
      have g : (u1 + d3) ≤ (d1 + (v1 - v2 + u2 - d2 + d3)) := by omega
      rw [Int.max_eq_right g] at e
      obtain rfl : h5 = -v2 + u2 + d1 - d2 + d3 := by omega
      clear e g
      intro U5 e
      have g : (u1 + d3) ≤ ((-v2 + u2 + d1 - d2 + d3) + v0) := by omega
      rw [Int.max_eq_right g] at e
      obtain rfl : U5 = v0 - v2 + u2 - d2 + d3 := by omega
      clear e g
      intro D5 e
      have g : (u1 + d3) ≤ ((-v2 + u2 + d1 - d2 + d3) + (v1 + u2 - u3 - d2 + d3)) := by omega
      rw [Int.max_eq_right g] at e
      obtain rfl : D5 = u2 - u3 + d1 - d2 + d3 := by omega
      clear e g
      intro V5 e
      have g : (d3 + u1) ≤ ((v0 - v2 + u2 - d2 + d3) + (u2 - u3 + d1 - d2 + d3)) := by omega
      rw [Int.max_eq_left g] at e
      obtain rfl : V5 = v0 + u2 - u3 - d2 + d3 := by omega
      clear e g
      intro h6 e
      have g : (u1 + (u2 - u3 + d3)) ≤ ((u2 - u3 + d1 - d2 + d3) + u2) := by omega
      rw [Int.max_eq_right g] at e
      obtain rfl : h6 = -v1 + u2 + d1 := by omega
      clear e g
      intro U6 e
      have g : ((-v1 + u2 + d1) + (v0 + u2 - u3 - d2 + d3)) ≤ (u1 + (u2 - u3 + d3)) := by omega
      rw [Int.max_eq_left g] at e
      obtain rfl : U6 = u1 - d1 + d2 := by omega
      clear e g
      intro D6 e
      have g : ((-v1 + u2 + d1) + v3) ≤ (u1 + (u2 - u3 + d3)) := by omega
      rw [Int.max_eq_left g] at e
      obtain rfl : D6 = u1 - u3 + d3 := by omega
      clear e g
      intro V6 e
      have g : ((u1 - d1 + d2) + (u1 - u3 + d3)) ≤ ((u2 - u3 + d3) + u1) := by omega
      rw [Int.max_eq_right g] at e
      obtain rfl : V6 = v1 + u1 - u3 - d1 + d3 := by omega
      clear e g
      exact ⟨rfl, rfl, rfl, rfl, rfl, rfl⟩
  · rw [Int.max_eq_right g] at e
    obtain rfl : D2 = -v2 + v3 + u1 - u3 + d3 := by omega
    clear e
    intro V2 e
    have g : (d3 + u1) ≤ ((v1 - v2 + u1 - d1 + d3) + (-v2 + v3 + u1 - u3 + d3)) := by omega
    rw [Int.max_eq_left g] at e
    obtain rfl : V2 = v1 - v2 + v3 + u1 - u3 - d1 + d3 := by omega
    clear e g
    intro h3 e
    have g : ((u1 - d1 + d2) + d3) ≤ (d2 + (v1 - v2 + u1 - d1 + d3)) := by omega
    rw [Int.max_eq_right g] at e
    obtain rfl : h3 = -v2 + u2 + d3 := by omega
    clear e g
    intro U3 e
    rcases Int.le_total ((-v2 + u2 + d3) + v0) ((u1 - d1 + d2) + d3) with g | g
    · rw [Int.max_eq_left g] at e
      obtain rfl : U3 = u1 - d1 + d3 := by omega
      clear e
      intro D3 e
      have g : ((u1 - d1 + d2) + d3) ≤ ((-v2 + u2 + d3) + (v1 - v2 + v3 + u1 - u3 - d1 + d3)) := by omega
      rw [Int.max_eq_right g] at e
      obtain rfl : D3 = -v2 + v3 + u2 - u3 + d3 := by omega
      clear e g
      intro V3 e
      have g : (d3 + (u1 - d1 + d2)) ≤ ((u1 - d1 + d3) + (-v2 + v3 + u2 - u3 + d3)) := by omega
      rw [Int.max_eq_left g] at e
      obtain rfl : V3 = v3 + u1 - u3 - d1 + d3 := by omega
      clear e g
      intro h4 e
      have g : (d2 + u3) ≤ (u2 + d3) := by omega
      rw [Int.max_eq_left g] at e
      obtain rfl : h4 = -v2 + u2 + d3 := by omega
      clear e g
      intro U4 e
      have g : (u2 + d3) ≤ ((-v2 + u2 + d3) + v1) := by omega
      rw [Int.max_eq_right g] at e
      obtain rfl : U4 = v1 - v2 + u2 - d2 + d3 := by omega
      clear e g
      intro D4 e
      have g : (u2 + d3) ≤ ((-v2 + u2 + d3) + v3) := by omega
      rw [Int.max_eq_right g] at e
      obtain rfl : D4 = -v2 + v3 + u2 - u3 + d3 := by omega
      clear e g
      intro V4 e
      have g : (d3 + u2) ≤ ((v1 - v2 + u2 - d2 + d3) + (-v2 + v3 + u2 - u3 + d3)) := by omega
      rw [Int.max_eq_left g] at e
      obtain rfl : V4 = v1 - v2 + v3 + u2 - u3 - d2 + d3 := by omega
      clear e g
      intro h5 e
      have g : (u1 + d3) ≤ (d1 + (v1 - v2 + u2 - d2 + d3)) := by omega
      rw [Int.max_eq_right g] at e
      obtain rfl : h5 = -v2 + u2 + d1 - d2 + d3 := by omega
      clear e g
      intro U5 e
      have g : ((-v2 + u2 + d1 - d2 + d3) + v0) ≤ (u1 + d3) := by omega
      rw [Int.max_eq_left g] at e
      obtain rfl : U5 = u1 - d1 + d3 := by omega
      clear e g
      intro D5 e
      have g : (u1 + d3) ≤ ((-v2 + u2 + d1 - d2 + d3) + (v1 - v2 + v3 + u2 - u3 - d2 + d3)) := by omega
      rw [Int.max_eq_right g] at e
      obtain rfl : D5 = -v2 + v3 + u2 - u3 + d1 - d2 + d3 := by omega
      clear e g
      intro V5 e
      have g : (d3 + u1) ≤ ((u1 - d1 + d3) + (-v2 + v3 + u2 - u3 + d1 - d2 + d3)) := by omega
      rw [Int.max_eq_left g] at e
      obtain rfl : V5 = v3 + u1 - u3 - d1 + d3 := by omega
      clear e g
      intro h6 e
      have g : (u1 + (-v2 + v3 + u2 - u3 + d3)) ≤ ((-v2 + v3 + u2 - u3 + d1 - d2 + d3) + u2) := by omega
      rw [Int.max_eq_right g] at e
      obtain rfl : h6 = -v1 + u2 + d1 := by omega
      clear e g
      intro U6 e
      have g : ((-v1 + u2 + d1) + (v3 + u1 - u3 - d1 + d3)) ≤ (u1 + (-v2 + v3 + u2 - u3 + d3)) := by omega
      rw [Int.max_eq_left g] at e
      obtain rfl : U6 = u1 - d1 + d2 := by omega
      clear e g
      intro D6 e
      have g : ((-v1 + u2 + d1) + v3) ≤ (u1 + (-v2 + v3 + u2 - u3 + d3)) := by omega
      rw [Int.max_eq_left g] at e
      obtain rfl : D6 = -v2 + v3 + u1 - u3 + d3 := by omega
      clear e g
      intro V6 e
      have g : ((u1 - d1 + d2) + (-v2 + v3 + u1 - u3 + d3)) ≤ ((-v2 + v3 + u2 - u3 + d3) + u1) := by omega
      rw [Int.max_eq_right g] at e
      obtain rfl : V6 = v1 - v2 + v3 + u1 - u3 - d1 + d3 := by omega
      clear e g
      exact ⟨rfl, rfl, rfl, rfl, rfl, rfl⟩
    · rw [Int.max_eq_right g] at e
      obtain rfl : U3 = v0 - v2 + u2 - d2 + d3 := by omega
      clear e
      intro D3 e
      have g : ((u1 - d1 + d2) + d3) ≤ ((-v2 + u2 + d3) + (v1 - v2 + v3 + u1 - u3 - d1 + d3)) := by omega
      rw [Int.max_eq_right g] at e
      obtain rfl : D3 = -v2 + v3 + u2 - u3 + d3 := by omega
      clear e g
      intro V3 e
      have g : (d3 + (u1 - d1 + d2)) ≤ ((v0 - v2 + u2 - d2 + d3) + (-v2 + v3 + u2 - u3 + d3)) := by omega
      rw [Int.max_eq_left g] at e
      obtain rfl : V3 = v0 - v2 + v3 + u2 - u3 - d2 + d3 := by omega
      clear e g
      intro h4 e
      have g : (d2 + u3) ≤ (u2 + d3) := by omega
      rw [Int.max_eq_left g] at e
      obtain rfl : h4 = -v2 + u2 + d3 := by omega
      clear e g
      intro U4 e
      have g : (u2 + d3) ≤ ((-v2 + u2 + d3) + v1) := by omega
      rw [Int.max_eq_right g] at e
      obtain rfl : U4 = v1 - v2 + u2 - d2 + d3 := by omega
      clear e g
      intro D4 e
      have g : (u2 + d3) ≤ ((-v2 + u2 + d3) + v3) := by omega
      rw [Int.max_eq_right g] at e
      obtain rfl : D4 = -v2 + v3 + u2 - u3 + d3 := by omega
      clear e g
      intro V4 e
      have g : (d3 + u2) ≤ ((v1 - v2 + u2 - d2 + d3) + (-v2 + v3 + u2 - u3 + d3)) := by omega
      rw [Int.max_eq_left g] at e
      obtain rfl : V4 = v1 - v2 + v3 + u2 - u3 - d2 + d3 := by omega
      clear e g
      intro h5 e
      have g : (u1 + d3) ≤ (d1 + (v1 - v2 + u2 - d2 + d3)) := by omega
      rw [Int.max_eq_right g] at e
      obtain rfl : h5 = -v2 + u2 + d1 - d2 + d3 := by omega
      clear e g
      intro U5 e
      have g : (u1 + d3) ≤ ((-v2 + u2 + d1 - d2 + d3) + v0) := by omega
      rw [Int.max_eq_right g] at e
      obtain rfl : U5 = v0 - v2 + u2 - d2 + d3 := by omega
      clear e g
      intro D5 e
      have g : (u1 + d3) ≤ ((-v2 + u2 + d1 - d2 + d3) + (v1 - v2 + v3 + u2 - u3 - d2 + d3)) := by omega
      rw [Int.max_eq_right g] at e
      obtain rfl : D5 = -v2 + v3 + u2 - u3 + d1 - d2 + d3 := by omega
      clear e g
      intro V5 e
      have g : (d3 + u1) ≤ ((v0 - v2 + u2 - d2 + d3) + (-v2 + v3 + u2 - u3 + d1 - d2 + d3)) := by omega
      rw [Int.max_eq_left g] at e
      obtain rfl : V5 = v0 - v2 + v3 + u2 - u3 - d2 + d3 := by omega
      clear e g
      intro h6 e
      have g : (u1 + (-v2 + v3 + u2 - u3 + d3)) ≤ ((-v2 + v3 + u2 - u3 + d1 - d2 + d3) + u2) := by omega
      rw [Int.max_eq_right g] at e
      obtain rfl : h6 = -v1 + u2 + d1 := by omega
      clear e g
      intro U6 e
      have g : ((-v1 + u2 + d1) + (v0 - v2 + v3 + u2 - u3 - d2 + d3)) ≤ (u1 + (-v2 + v3 + u2 - u3 + d3)) := by omega
      rw [Int.max_eq_left g] at e
      obtain rfl : U6 = u1 - d1 + d2 := by omega
      clear e g
      intro D6 e
      have g : ((-v1 + u2 + d1) + v3) ≤ (u1 + (-v2 + v3 + u2 - u3 + d3)) := by omega
      rw [Int.max_eq_left g] at e
      obtain rfl : D6 = -v2 + v3 + u1 - u3 + d3 := by omega
      clear e g
      intro V6 e
      have g : ((u1 - d1 + d2) + (-v2 + v3 + u1 - u3 + d3)) ≤ ((-v2 + v3 + u2 - u3 + d3) + u1) := by omega
      rw [Int.max_eq_right g] at e
      obtain rfl : V6 = v1 - v2 + v3 + u1 - u3 - d1 + d3 := by omega
      clear e g
      exact ⟨rfl, rfl, rfl, rfl, rfl, rfl⟩
set_option maxHeartbeats 4000000 in
set_option maxRecDepth 100000 in
theorem dy_c22 (v0 v1 v2 v3 u1 u2 u3 d1 d2 d3 : Int) (g0 : u1 + d2 ≤ u2 + d1) (g1 : v0 + u2 + d1 ≤ v1 + u1 + d2) (g2 : v1 + u1 + d2 ≤ v2 + u2 + d1) (g3 : v2 ≤ v1) (g4 : v1 + u1 + d3 ≤ v2 + u3 + d1) (g5 : u3 + d2 ≤ u2 + d3) : ∀ D2 : Int, D2 = max (u1 + d3) ((-v1 + u3 + d1) + v3) - u3 → ∀ V2 : Int, V2 = max ((v1 - v2 + u1 - d1 + d3) + D2) (d3 + u1) - (-v1 + u3 + d1) → ∀ h3 : Int, h3 = max ((u1 - d1 + d2) + d3) (d2 + (v1 - v2 + u1 - d1 + d3)) - (v1 + u1 - u2 - d1 + d2) → ∀ U3 : Int, U3 = max ((u1 - d1 + d2) + d3) (h3 + v0) - d2 → ∀ D3 : Int, D3 = max ((u1 - d1 + d2) + d3) (h3 + V2) - (v1 - v2 + u1 - d1 + d3) → ∀ V3 : Int, V3 = max (U3 + D3) (d3 + (u1 - d1 + d2)) - h3 → ∀ h4 : Int, h4 = max (u2 + d3) (d2 + u3) - v2 → ∀ U4 : Int, U4 = max (u2 + d3) (h4 + v1) - d2 → ∀ D4 : Int, D4 = max (u2 + d3) (h4 + v3) - u3 → ∀ V4 : Int, V4 = max (U4 + D4) (d3 + u2) - h4 → ∀ h5 : Int, h5 = max (u1 + d3) (d1 + U4) - v1 → ∀ U5 : Int, U5 = max (u1 + d3) (h5 + v0) - d1 → ∀ D5 : Int, D5 = max (u1 + d3) (h5 + V4) - U4 → ∀ V5 : Int, V5 = max (U5 + D5) (d3 + u1) - h5 → ∀ h6 : Int, h6 = max (u1 + D4) (D5 + u2) - V4 → ∀ U6 : Int, U6 = max (u1 + D4) (h6 + V5) - D5 → ∀ D6 : Int, D6 = max (u1 + D4) (h6 + v3) - u2 → ∀ V6 : Int, V6 = max (U6 + D6) (D4 + u1) - h6 → V3 = V5 ∧ U3 = U5 ∧ V2 = V6 ∧ (u1 - d1 + d2) = U6 ∧ D3 = D4 ∧ D2 = D6 := by
  intro D2 e
  rcases Int.le_total ((-v1 + u3 + d1) + v3) (u1 + d3) with g | g
  · rw [Int.max_eq_left g] at e
    obtain rfl : D2 = u1 - u3 + d3 := by omega
    clear e
    intro V2 e
    have g : ((v1 - v2 + u1 - d1 + d3) + (u1 - u3 + d3)) ≤ (d3 + u1) := by omega
    rw [Int.max_eq_right g] at e
    obtain rfl : V2 = v1 + u1 - u3 - d1 + d3 := by omega
    clear e g
    intro h3 e
    have g : ((u1 - d1 + d2) + d3) ≤ (d2 + (v1 - v2 + u1 - d1 + d3)) := by omega
    rw [Int.max_eq_right g] at e
    obtain rfl : h3 = -v2 + u2 + d3 := by omega
    clear e g
    intro U3 e
    rcases Int.le_total ((-v2 + u2 + d3) + v0) ((u1 - d1 + d2) + d3) with g | g
    · rw [Int.max_eq_left g] at e
      obtain rfl : U3 = u1 - d1 + d3 := by omega
      clear e
      intro D3 e
      have g : ((u1 - d1 + d2) + d3) ≤ ((-v2 + u2 + d3) + (v1 + u1 - u3 - d1 + d3)) := by omega
      rw [Int.max_eq_right g] at e
      obtain rfl : D3 = u2 - u3 + d3 := by omega
      clear e g
      intro V3 e
      have g : (d3 + (u1 - d1 + d2)) ≤ ((u1 - d1 + d3) + (u2 - u3 + d3)) := by omega
      rw [Int.max_eq_left g] at e
      obtain rfl : V3 = v2 + u1 - u3 - d1 + d3 := by omega
      clear e g
      intro h4 e
      have g : (d2 + u3) ≤ (u2 + d3) := by omega
      rw [Int.max_eq_left g] at e
      obtain rfl : h4 = -v2 + u2 + d3 := by omega
      clear e g
      intro U4 e
      have g : (u2 + d3) ≤ ((-v2 + u2 + d3) + v1) := by omega
      rw [Int.max_eq_right g] at e
      obtain rfl : U4 = v1 - v2 + u2 - d2 + d3 := by omega
      clear e g
      intro D4 e
      have g : ((-v2 + u2 + d3) + v3) ≤ (u2 + d3) := by omega
      rw [Int.max_eq_left g] at e
      obtain rfl : D4 = u2 - u3 + d3 := by omega
      clear e g
      intro V4 e
      have g : (d3 + u2) ≤ ((v1 - v2 + u2 - d2 + d3) + (u2 - u3 + d3)) := by omega
      rw [Int.max_eq_left g] at e
      obtain rfl : V4 = v1 + u2 - u3 - d2 + d3 := by omega
      clear e g
      intro h5 e
      have g : (u1 + d3) ≤ (d1 + (v1 - v2 + u2 - d2 + d3)) := by omega
      rw [Int.max_eq_right g] at e
      obtain rfl : h5 = -v2 + u2 + d1 - d2 + d3 := by omega
      clear e g
      intro U5 e
      have g : ((-v2 + u2 + d1 - d2 + d3) + v0) ≤ (u1 + d3) := by omega
      rw [Int.max_eq_left g] at e
      obtain rfl : U5 = u1 - d1 + d3 := by omega
      clear e g
      intro D5 e
      have g : (u1 + d3) ≤ ((-v2 + u2 + d1 - d2 + d3) + (v1 + u2 - u3 - d2 + d3)) := by omega
      rw [Int.max_eq_right g] at e
      obtain rfl : D5 = u2 - u3 + d1 - d2 + d3 := by omega
      clear e g
      intro V5 e
      have g : (d3 + u1) ≤ ((u1 - d1 + d3) + (u2 - u3 + d1 - d2 + d3)) := by omega
      rw [Int.max_eq_left g] at e
      obtain rfl : V5 = v2 + u1 - u3 - d1 + d3 := by omega
      clear e g
      intro h6 e
      have g : (u1 + (u2 - u3 + d3)) ≤ ((u2 - u3 + d1 - d2 + d3) + u2) := by omega
      rw [Int.max_eq_right g] at e
      obtain rfl : h6 = -v1 + u2 + d1 := by omega
      clear e g
      intro U6 e
      have g : ((-v1 + u2 + d1) + (v2 + u1 - u3 - d1 + d3)) ≤ (u1 + (u2 - u3 + d3)) := by omega
      rw [Int.max_eq_left g] at e
      obtain rfl : U6 = u1 - d1 + d2 := by omega
      clear e g
      intro D6 e
      have g : ((-v1 + u2 + d1) + v3) ≤ (u1 + (u2 - u3 + d3)) := by omega
      rw [Int.max_eq_left g] at e
      obtain rfl : D6 = u1 - u3 + d3 := by omega
      clear e g
      intro V6 e
      have g : ((u1 - d1 + d2) + (u1 - u3 + d3)) ≤ ((u2 - u3 + d3) + u1) := by omega
      rw [Int.max_eq_right g] at e
      obtain rfl : V6 = v1 + u1 - u3 - d1 + d3 := by omega
      clear e g
      exact ⟨rfl, rfl, rfl, rfl, rfl, rfl⟩
    · rw [Int.max_eq_right g] at e
      obtain rfl : U3 = v0 - v2 + u2 - d2 + d3 := by omega
      clear e
      intro D3 e
      have g : ((u1 - d1 + d2) + d3) ≤ ((-v2 + u2 + d3) + (v1 + u1 - u3 - d1 + d3)) := by omega
      rw [Int.max_eq_right g] at e
      obtain rfl : D3 = u2 - u3 + d3 := by omega
      clear e g
      intro V3 e
      have g : (d3 + (u1 - d1 + d2)) ≤ ((v0 - v2 + u2 - d2 + d3) + (u2 - u3 + d3)) := by omega
      rw [Int.max_eq_left g] at e
      obtain rfl : V3 = v0 + u2 - u3 - d2 + d3 := by omega
      clear e g
      intro h4 e
      have g : (d2 + u3) ≤ (u2 + d3) := by omega
      rw [Int.max_eq_left g] at e
      obtain rfl : h4 = -v2 + u2 + d3 := by omega
      clear e g
      intro U4 e
      have g : (u2 + d3) ≤ ((-v2 + u2 + d3) + v1) := by omega
      rw [Int.max_eq_right g] at e
      obtain rfl : U4 = v1 - v2 + u2 - d2 + d3 := by omega
      clear e g
      intro D4 e
      have g : ((-v2 + u2 + d3) + v3) ≤ (u2 + d3) := by omega
      rw [Int.max_eq_left g] at e
      obtain rfl : D4 = u2 - u3 + d3 := by omega
      clear e g
      intro V4 e
      have g : (d3 + u2) ≤ ((v1 - v2 + u2 - d2 + d3) + (u2 - u3 + d3)) := by omega
      rw [Int.max_eq_left g] at e
      obtain rfl : V4 = v1 + u2 - u3 - d2 + d3 := by omega
      clear e g
      intro h5 e
      have g : (u1 + d3) ≤ (d1 + (v1 - v2 + u2 - d2 + d3)) := by omega
      rw [Int.max_eq_right g] at e
      obtain rfl : h5 = -v2 + u2 + d1 - d2 + d3 := by omega
      clear e g
      intro U5 e
      have g : (u1 + d3) ≤ ((-v2 + u2 + d1 - d2 + d3) + v0) := by omega
      rw [Int.max_eq_right g] at e
      obtain rfl : U5 = v0 - v2 + u2 - d2 + d3 := by omega
      clear e g
      intro D5 e
      have g : (u1 + d3) ≤ ((-v2 + u2 + d1 - d2 + d3) + (v1 + u2 - u3 - d2 + d3)) := by omega
      rw [Int.max_eq_right g] at e
      obtain rfl : D5 = u2 - u3 + d1 - d2 + d3 := by omega
      clear e g
      intro V5 e
      have g : (d3 + u1) ≤ ((v0 - v2 + u2 - d2 + d3) + (u2 - u3 + d1 - d2 + d3)) := by omega
      rw [Int.max_eq_left g] at e
      obtain rfl : V5 = v0 + u2 - u3 - d2 + d3 := by omega
      clear e g
      intro h6 e
      have g : (u1 + (u2 - u3 + d3)) ≤ ((u2 - u3 + d1 - d2 + d3) + u2) := by omega
      rw [Int.max_eq_right g] at e
      obtain rfl : h6 = -v1 + u2 + d1 := by omega
      clear e g
      intro U6 e
      have g : ((-v1 + u2 + d1) + (v0 + u2 - u3 - d2 + d3)) ≤ (u1 + (u2 - u3 + d3)) := by omega
      rw [Int.max_eq_left g] at e
      obtain rfl : U6 = u1 - d1 + d2 := by omega
      clear e g
      intro D6 e
      have g : ((-v1 + u2 + d1) + v3) ≤ (u1 + (u2 - u3 + d3)) := by omega
      rw [Int.max_eq_left g] at e
      obtain rfl : D6 = u1 - u3 + d3 := by omega
      clear e g
      intro V6 e
      have g : ((u1 - d1 + d2) + (u1 - u3 + d3)) ≤ ((u2 - u3 + d3) + u1) := by omega
      rw [Int.max_eq_right g] at e
      obtain rfl : V6 = v1 + u1 - u3 - d1 + d3 := by omega
      clear e g
      exact ⟨rfl, rfl, rfl, rfl, rfl, rfl⟩
  · rw [Int.max_eq_right g] at e
    obtain rfl : D2 = -v1 + v3 + d1 := by omega
    clear e
    intro V2 e
    rcases Int.le_total (d3 + u1) ((v1 - v2 + u1 - d1 + d3) + (-v1 + v3 + d1)) with g | g
    · rw [Int.max_eq_left g] at e
      obtain rfl : V2 = v1 - v2 + v3 + u1 - u3 - d1 + d3 := by omega
      clear e
      intro h3 e
      have g : ((u1 - d1 + d2) + d3) ≤ (d2 + (v1 - v2 + u1 - d1 + d3)) := by omega
      rw [Int.max_eq_right g] at e
      obtain rfl : h3 = -v2 + u2 + d3 := by omega
      clear e g
      intro U3 e
      rcases Int.le_total ((-v2 + u2 + d3) + v0) ((u1 - d1 + d2) + d3) with g | g
      · rw [Int.max_eq_left g] at e
        obtain rfl : U3 = u1 - d1 + d3 := by omega
        clear e
        intro D3 e
        have g : ((u1 - d1 + d2) + d3) ≤ ((-v2 + u2 + d3) + (v1 - v2 + v3 + u1 - u3 - d1 + d3)) := by omega
        rw [Int.max_eq_right g] at e
        obtain rfl : D3 = -v2 + v3 + u2 - u3 + d3 := by omega
        clear e g
        intro V3 e
        have g : (d3 + (u1 - d1 + d2)) ≤ ((u1 - d1 + d3) + (-v2 + v3 + u2 - u3 + d3)) := by omega
        rw [Int.max_eq_left g] at e
        obtain rfl : V3 = v3 + u1 - u3 - d1 + d3 := by omega
        clear e g
        intro h4 e
        have g : (d2 + u3) ≤ (u2 + d3) := by omega
        rw [Int.max_eq_left g] at e
        obtain rfl : h4 = -v2 + u2 + d3 := by omega
        clear e g
        intro U4 e
        have g : (u2 + d3) ≤ ((-v2 + u2 + d3) + v1) := by omega
        rw [Int.max_eq_right g] at e
        obtain rfl : U4 = v1 - v2 + u2 - d2 + d3 := by omega
        clear e g
        intro D4 e
        have g : (u2 + d3) ≤ ((-v2 + u2 + d3) + v3) := by omega
        rw [Int.max_eq_right g] at e
        obtain rfl : D4 = -v2 + v3 + u2 - u3 + d3 := by omega
        clear e g
        intro V4 e
        have g : (d3 + u2) ≤ ((v1 - v2 + u2 - d2 + d3) + (-v2 + v3 + u2 - u3 + d3)) := by omega
        rw [Int.max_eq_left g] at e
        obtain rfl : V4 = v1 - v2 + v3 + u2 - u3 - d2 + d3 := by omega
        clear e g
        intro h5 e
        have g : (u1 + d3) ≤ (d1 + (v1 - v2 + u2 - d2 + d3)) := by omega
        rw [Int.max_eq_right g] at e
        obtain rfl : h5 = -v2 + u2 + d1 - d2 + d3 := by omega
        clear e g
        intro U5 e
        have g : ((-v2 + u2 + d1 - d2 + d3) + v0) ≤ (u1 + d3) := by omega
        rw [Int.max_eq_left g] at e
        obtain rfl : U5 = u1 - d1 + d3 := by omega
        clear e g
        intro D5 e
        have g : (u1 + d3) ≤ ((-v2 + u2 + d1 - d2 + d3) + (v1 - v2 + v3 + u2 - u3 - d2 + d3)) := by omega
        rw [Int.max_eq_right g] at e
        obtain rfl : D5 = -v2 + v3 + u2 - u3 + d1 - d2 + d3 := by omega
        clear e g
        intro V5 e
        have g : (d3 + u1) ≤ ((u1 - d1 + d3) + (-v2 + v3 + u2 - u3 + d1 - d2 + d3)) := by omega
        rw [Int.max_eq_left g] at e
        obtain rfl : V5 = v3 + u1 - u3 - d1 + d3 := by omega
        clear e g
        intro h6 e
        have g : (u1 + (-v2 + v3 + u2 - u3 + d3)) ≤ ((-v2 + v3 + u2 - u3 + d1 - d2 + d3) + u2) := by omega
        rw [Int.max_eq_right g] at e
        obtain rfl : h6 = -v1 + u2 + d1 := by omega
        clear e g
        intro U6 e
        have g : ((-v1 + u2 + d1) + (v3 + u1 - u3 - d1 + d3)) ≤ (u1 + (-v2 + v3 + u2 - u3 + d3)) := by omega
        rw [Int.max_eq_left g] at e
        obtain rfl : U6 = u1 - d1 + d2 := by omega
        clear e g
        intro D6 e
        have g : (u1 + (-v2 + v3 + u2 - u3 + d3)) ≤ ((-v1 + u2 + d1) + v3) := by omega
        rw [Int.max_eq_right g] at e
        obtain rfl : D6 = -v1 + v3 + d1 := by omega
        clear e g
        intro V6 e
        have g : ((u1 - d1 + d2) + (-v1 + v3 + d1)) ≤ ((-v2 + v3 + u2 - u3 + d3) + u1) := by omega
        rw [Int.max_eq_right g] at e
        obtain rfl : V6 = v1 - v2 + v3 + u1 - u3 - d1 + d3 := by omega
        clear e g
        exact ⟨rfl, rfl, rfl, rfl, rfl, rfl⟩
      · rw [Int.max_eq_right g] at e
        obtain rfl : U3 = v0 - v2 + u2 - d2 + d3 := by omega
        clear e
        intro D3 e
        have g : ((u1 - d1 + d2) + d3) ≤ ((-v2 + u2 + d3) + (v1 - v2 + v3 + u1 - u3 - d1 + d3)) := by omega
        rw [Int.max_eq_right g] at e
        obtain rfl : D3 = -v2 + v3 + u2 - u3 + d3 := by omega
        clear e g
        intro V3 e
        have g : (d3 + (u1 - d1 + d2)) ≤ ((v0 - v2 + u2 - d2 + d3) + (-v2 + v3 + u2 - u3 + d3)) := by omega
        rw [Int.max_eq_left g] at e
        obtain rfl : V3 = v0 - v2 + v3 + u2 - u3 - d2 + d3 := by omega
        clear e g
        intro h4 e
        have g : (d2 + u3) ≤ (u2 + d3) := by omega
        rw [Int.max_eq_left g] at e
        obtain rfl : h4 = -v2 + u2 + d3 := by omega
        clear e g
        intro U4 e
        have g : (u2 + d3) ≤ ((-v2 + u2 + d3) + v1) := by omega
        rw [Int.max_eq_right g] at e
        obtain rfl : U4 = v1 - v2 + u2 - d2 + d3 := by omega
        clear e g
        intro D4 e
        have g : (u2 + d3) ≤ ((-v2 + u2 + d3) + v3) := by omega
        rw [Int.max_eq_right g] at e
        obtain rfl : D4 = -v2 + v3 + u2 - u3 + d3 := by omega
        clear e g
        intro V4 e
        have g : (d3 + u2) ≤ ((v1 - v2 + u2 - d2 + d3) + (-v2 + v3 + u2 - u3 + d3)) := by omega
        rw [Int.max_eq_left g] at e
        obtain rfl : V4 = v1 - v2 + v3 + u2 - u3 - d2 + d3 := by omega
        clear e g
        intro h5 e
        have g : (u1 + d3) ≤ (d1 + (v1 - v2 + u2 - d2 + d3)) := by omega
        rw [Int.max_eq_right g] at e
        obtain rfl : h5 = -v2 + u2 + d1 - d2 + d3 := by omega
        clear e g
        intro U5 e
        have g : (u1 + d3) ≤ ((-v2 + u2 + d1 - d2 + d3) + v0) := by omega
        rw [Int.max_eq_right g] at e
        obtain rfl : U5 = v0 - v2 + u2 - d2 + d3 := by omega
        clear e g
        intro D5 e
        have g : (u1 + d3) ≤ ((-v2 + u2 + d1 - d2 + d3) + (v1 - v2 + v3 + u2 - u3 - d2 + d3)) := by omega
        rw [Int.max_eq_right g] at e
        obtain rfl : D5 = -v2 + v3 + u2 - u3 + d1 - d2 + d3 := by omega
        clear e g
        intro V5 e
        have g : (d3 + u1) ≤ ((v0 - v2 + u2 - d2 + d3) + (-v2 + v3 + u2 - u3 + d1 - d2 + d3)) := by omega
        rw [Int.max_eq_left g] at e
        obtain rfl : V5 = v0 - v2 + v3 + u2 - u3 - d2 + d3 := by omega
        clear e g
        intro h6 e
        have g : (u1 + (-v2 + v3 + u2 - u3 + d3)) ≤ ((-v2 + v3 + u2 - u3 + d1 - d2 + d3) + u2) := by omega
        rw [Int.max_eq_right g] at e
        obtain rfl : h6 = -v1 + u2 + d1 := by omega
        clear e g
        intro U6 e
        have g : ((-v1 + u2 + d1) + (v0 - v2 + v3 + u2 - u3 - d2 + d3)) ≤ (u1 + (-v2 + v3 + u2 - u3 + d3)) := by omega
        rw [Int.max_eq_left g] at e
        obtain rfl : U6 = u1 - d1 + d2 := by omega
        clear e g
        intro D6 e
        have g : (u1 + (-v2 + v3 + u2 - u3 + d3)) ≤ ((-v1 + u2 + d1) + v3) := by omega
        rw [Int.max_eq_right g] at e
        obtain rfl : D6 = -v1 + v3 + d1 := by omega
        clear e g
        intro V6 e
        have g : ((u1 - d1 + d2) + (-v1 + v3 + d1)) ≤ ((-v2 + v3 + u2 - u3 + d3) + u1) := by omega
        rw [Int.max_eq_right g] at e
        obtain rfl : V6 = v1 - v2 + v3 + u1 - u3 - d1 + d3 := by omega
        clear e g
        exact ⟨rfl, rfl, rfl, rfl, rfl, rfl⟩
    · rw [Int.max_eq_right g] at e
      obtain rfl : V2 = v1 + u1 - u3 - d1 + d3 := by omega
      clear e
      intro h3 e
      have g : ((u1 - d1 + d2) + d3) ≤ (d2 + (v1 - v2 + u1 - d1 + d3)) := by omega
      rw [Int.max_eq_right g] at e
      obtain rfl : h3 = -v2 + u2 + d3 := by omega
      clear e g
      intro U3 e
      rcases Int.le_total ((-v2 + u2 + d3) + v0) ((u1 - d1 + d2) + d3) with g | g
      · rw [Int.max_eq_left g] at e
        obtain rfl : U3 = u1 - d1 + d3 := by omega
        clear e
        intro D3 e
        have g : ((u1 - d1 + d2) + d3) ≤ ((-v2 + u2 + d3) + (v1 + u1 - u3 - d1 + d3)) := by omega
        rw [Int.max_eq_right g] at e
        obtain rfl : D3 = u2 - u3 + d3 := by omega
        clear e g
        intro V3 e
        have g : (d3 + (u1 - d1 + d2)) ≤ ((u1 - d1 + d3) + (u2 - u3 + d3)) := by omega
        rw [Int.max_eq_left g] at e
        obtain rfl : V3 = v2 + u1 - u3 - d1 + d3 := by omega
        clear e g
        intro h4 e
        have g : (d2 + u3) ≤ (u2 + d3) := by omega
        rw [Int.max_eq_left g] at e
        obtain rfl : h4 = -v2 + u2 + d3 := by omega
        clear e g
        intro U4 e
        have g : (u2 + d3) ≤ ((-v2 + u2 + d3) + v1) := by omega
        rw [Int.max_eq_right g] at e
        obtain rfl : U4 = v1 - v2 + u2 - d2 + d3 := by omega
        clear e g
        intro D4 e
        have g : ((-v2 + u2 + d3) + v3) ≤ (u2 + d3) := by omega
        rw [Int.max_eq_left g] at e
        obtain rfl : D4 = u2 - u3 + d3 := by omega
        clear e g
        intro V4 e
        have g : (d3 + u2) ≤ ((v1 - v2 + u2 - d2 + d3) + (u2 - u3 + d3)) := by omega
        rw [Int.max_eq_left g] at e
        obtain rfl : V4 = v1 + u2 - u3 - d2 + d3 := by omega
        clear e g
        intro h5 e
        have g : (u1 + d3) ≤ (d1 + (v1 - v2 + u2 - d2 + d3)) := by omega
        rw [Int.max_eq_right g] at e
        obtain rfl : h5 = -v2 + u2 + d1 - d2 + d3 := by omega
        clear e g
        intro U5 e
        have g : ((-v2 + u2 + d1 - d2 + d3) + v0) ≤ (u1 + d3) := by omega
        rw [Int.max_eq_left g] at e
        obtain rfl : U5 = u1 - d1 + d3 := by omega
        clear e g
        intro D5 e
        have g : (u1 + d3) ≤ ((-v2 + u2 + d1 - d2 + d3) + (v1 + u2 - u3 - d2 + d3)) := by omega
        rw [Int.max_eq_right g] at e
        obtain rfl : D5 = u2 - u3 + d1 - d2 + d3 := by omega
        clear e g
        intro V5 e
        have g : (d3 + u1) ≤ ((u1 - d1 + d3) + (u2 - u3 + d1 - d2 + d3)) := by omega
        rw [Int.max_eq_left g] at e
        obtain rfl : V5 = v2 + u1 - u3 - d1 + d3 := by omega
        clear e g
        intro h6 e
        have g : (u1 + (u2 - u3 + d3)) ≤ ((u2 - u3 + d1 - d2 + d3) + u2) := by omega
        rw [Int.max_eq_right g] at e
        obtain rfl : h6 = -v1 + u2 + d1 := by omega
        clear e g
        intro U6 e
        have g : ((-v1 + u2 + d1) + (v2 + u1 - u3 - d1 + d3)) ≤ (u1 + (u2 - u3 + d3)) := by omega
        rw [Int.max_eq_left g] at e
        obtain rfl : U6 = u1 - d1 + d2 := by omega
        clear e g
        intro D6 e
        have g : (u1 + (u2 - u3 + d3)) ≤ ((-v1 + u2 + d1) + v3) := by omega
        rw [Int.max_eq_right g] at e
        obtain rfl : D6 = -v1 + v3 + d1 := by omega
        clear e g
        intro V6 e
        have g : ((u1 - d1 + d2) + (-v1 + v3 + d1)) ≤ ((u2 - u3 + d3) + u1) := by omega
        rw [Int.max_eq_right g] at e
        obtain rfl : V6 = v1 + u1 - u3 - d1 + d3 := by omega
        clear e g
        exact ⟨rfl, rfl, rfl, rfl, rfl, rfl⟩
      · rw [Int.max_eq_right g] at e
        obtain rfl : U3 = v0 - v2 + u2 - d2 + d3 := by omega
        clear e
        intro D3 e
        have g : ((u1 - d1 + d2) + d3) ≤ ((-v2 + u2 + d3) + (v1 + u1 - u3 - d1 + d3)) := by omega
        rw [Int.max_eq_right g] at e
        obtain rfl : D3 = u2 - u3 + d3 := by omega
        clear e g
        intro V3 e
        have g : (d3 + (u1 - d1 + d2)) ≤ ((v0 - v2 + u2 - d2 + d3) + (u2 - u3 + d3)) := by omega
        rw [Int.max_eq_left g] at e
        obtain rfl : V3 = v0 + u2 - u3 - d2 + d3 := by omega
        clear e g
        intro h4 e
        have g : (d2 + u3) ≤ (u2 + d3) := by omega
        rw [Int.max_eq_left g] at e
        obtain rfl : h4 = -v2 + u2 + d3 := by omega
        clear e g
        intro U4 e
        have g : (u2 + d3) ≤ ((-v2 + u2 + d3) + v1) := by omega
        rw [Int.max_eq_right g] at e
        obtain rfl : U4 = v1 - v2 + u2 - d2 + d3 := by omega
        clear e g
        intro D4 e
        have g : ((-v2 + u2 + d3) + v3) ≤ (u2 + d3) := by omega
        rw [Int.max_eq_left g] at e
        obtain rfl : D4 = u2 - u3 + d3 := by omega
        clear e g
        intro V4 e
        have g : (d3 + u2) ≤ ((v1 - v2 + u2 - d2 + d3) + (u2 - u3 + d3)) := by omega
        rw [Int.max_eq_left g] at e
        obtain rfl : V4 = v1 + u2 - u3 - d2 + d3 := by omega
        clear e g
        intro h5 e
        have g : (u1 + d3) ≤ (d1 + (v1 - v2 + u2 - d2 + d3)) := by omega
        rw [Int.max_eq_right g] at e
        obtain rfl : h5 = -v2 + u2 + d1 - d2 + d3 := by omega
        clear e g
        intro U5 e
        have g : (u1 + d3) ≤ ((-v2 + u2 + d1 - d2 + d3) + v0) := by omega
        rw [Int.max_eq_right g] at e
        obtain rfl : U5 = v0 - v2 + u2 - d2 + d3 := by omega
        clear e g
        intro D5 e
        have g : (u1 + d3) ≤ ((-v2 + u2 + d1 - d2 + d3) + (v1 + u2 - u3 - d2 + d3)) := by omega
        rw [Int.max_eq_right g] at e
        obtain rfl : D5 = u2 - u3 + d1 - d2 + d3 := by omega
        clear e g
        intro V5 e
        have g : (d3 + u1) ≤ ((v0 - v2 + u2 - d2 + d3) + (u2 - u3 + d1 - d2 + d3)) := by omega
        rw [Int.max_eq_left g] at e
        obtain rfl : V5 = v0 + u2 - u3 - d2 + d3 := by omega
        clear e g
        intro h6 e
        have g : (u1 + (u2 - u3 + d3)) ≤ ((u2 - u3 + d1 - d2 + d3) + u2) := by omega
        rw [Int.max_eq_right g] at e
        obtain rfl : h6 = -v1 + u2 + d1 := by omega
        clear e g
        intro U6 e
        have g : ((-v1 + u2 + d1) + (v0 + u2 - u3 - d2 + d3)) ≤ (u1 + (u2 - u3 + d3)) := by omega
        rw [Int.max_eq_left g] at e
        obtain rfl : U6 = u1 - d1 + d2 := by omega
        clear e g
        intro D6 e
        have g : (u1 + (u2 - u3 + d3)) ≤ ((-v1 + u2 + d1) + v3) := by omega
        rw [Int.max_eq_right g] at e
        obtain rfl : D6 = -v1 + v3 + d1 := by omega
        clear e g
        intro V6 e
        have g : ((u1 - d1 + d2) + (-v1 + v3 + d1)) ≤ ((u2 - u3 + d3) + u1) := by omega
        rw [Int.max_eq_right g] at e
        obtain rfl : V6 = v1 + u1 - u3 - d1 + d3 := by omega
        clear e g
        exact ⟨rfl, rfl, rfl, rfl, rfl, rfl⟩
set_option maxHeartbeats 4000000 in
set_option maxRecDepth 100000 in
theorem dy_c23 (v0 v1 v2 v3 u1 u2 u3 d1 d2 d3 : Int) (g0 : u1 + d2 ≤ u2 + d1) (g1 : v0 + u2 + d1 ≤ v1 + u1 + d2) (g2 : v1 + u1 + d2 ≤ v2 + u2 + d1) (g3 : v2 ≤ v1) (g4 : v1 + u1 + d3 ≤ v2 + u3 + d1) (g5 : u2 + d3 ≤ u3 + d2) : ∀ D2 : Int, D2 = max (u1 + d3) ((-v1 + u3 + d1) + v3) - u3 → ∀ V2 : Int, V2 = max ((v1 - v2 + u1 - u2 + u3 - d1 + d2) + D2) (d3 + u1) - (-v1 + u3 + d1) → ∀ h3 : Int, h3 = max ((u1 - d1 + d2) + d3) (d2 + (v1 - v2 + u1 - u2 + u3 - d1 + d2)) - (v1 + u1 - u2 - d1 + d2) → ∀ U3 : Int, U3 = max ((u1 - d1 + d2) + d3) (h3 + v0) - d2 → ∀ D3 : Int, D3 = max ((u1 - d1 + d2) + d3) (h3 + V2) - (v1 - v2 + u1 - u2 + u3 - d1 + d2) → ∀ V3 : Int, V3 = max (U3 + D3) (d3 + (u1 - d1 + d2)) - h3 → ∀ h4 : Int, h4 = max (u2 + d3) (d2 + u3) - v2 → ∀ U4 : Int, U4 = max (u2 + d3) (h4 + v1) - d2 → ∀ D4 : Int, D4 = max (u2 + d3) (h4 + v3) - u3 → ∀ V4 : Int, V4 = max (U4 + D4) (d3 + u2) - h4 → ∀ h5 : Int, h5 = max (u1 + d3) (d1 + U4) - v1 → ∀ U5 : Int, U5 = max (u1 + d3) (h5 + v0) - d1 → ∀ D5 : Int, D5 = max (u1 + d3) (h5 + V4) - U4 → ∀ V5 : Int, V5 = max (U5 + D5) (d3 + u1) - h5 → ∀ h6 : Int, h6 = max (u1 + D4) (D5 + u2) - V4 → ∀ U6 : Int, U6 = max (u1 + D4) (h6 + V5) - D5 → ∀ D6 : Int, D6 = max (u1 + D4) (h6 + v3) - u2 → ∀ V6 : Int, V6 = max (U6 + D6) (D4 + u1) - h6 → V3 = V5 ∧ U3 = U5 ∧ V2 = V6 ∧ (u1 - d1 + d2) = U6 ∧ D3 = D4 ∧ D2 = D6 := by
  intro D2 e
  rcases Int.le_total ((-v1 + u3 + d1) + v3) (u1 + d3) with g | g
  · rw [Int.max_eq_left g] at e
    obtain rfl : D2 = u1 - u3 + d3 := by omega
    clear e
    intro V2 e
    have g : ((v1 - v2 + u1 - u2 + u3 - d1 + d2) + (u1 - u3 + d3)) ≤ (d3 + u1) := by omega
    rw [Int.max_eq_right g] at e
    obtain rfl : V2 = v1 + u1 - u3 - d1 + d3 := by omega
    clear e g
    intro h3 e
    have g : ((u1 - d1 + d2) + d3) ≤ (d2 + (v1 - v2 + u1 - u2 + u3 - d1 + d2)) := by omega
    rw [Int.max_eq_right g] at e
    obtain rfl : h3 = -v2 + u3 + d2 := by omega
    clear e g
    intro U3 e
    rcases Int.le_total ((-v2 + u3 + d2) + v0) ((u1 - d1 + d2) + d3) with g | g
    · rw [Int.max_eq_left g] at e
      obtain rfl : U3 = u1 - d1 + d3 := by omega
      clear e
      intro D3 e
      have g : ((u1 - d1 + d2) + d3) ≤ ((-v2 + u3 + d2) + (v1 + u1 - u3 - d1 + d3)) := by omega
      rw [Int.max_eq_right g] at e
      obtain rfl : D3 = u2 - u3 + d3 := by omega
      clear e g
      intro V3 e
      have g : ((u1 - d1 + d3) + (u2 - u3 + d3)) ≤ (d3 + (u1 - d1 + d2)) := by omega
      rw [Int.max_eq_right g] at e
      obtain rfl : V3 = v2 + u1 - u3 - d1 + d3 := by omega
      clear e g
      intro h4 e
      have g : (u2 + d3) ≤ (d2 + u3) := by omega
      rw [Int.max_eq_right g] at e
      obtain rfl : h4 = -v2 + u3 + d2 := by omega
      clear e g
      intro U4 e
      have g : (u2 + d3) ≤ ((-v2 + u3 + d2) + v1) := by omega
      rw [Int.max_eq_right g] at e
      obtain rfl : U4 = v1 - v2 + u3 := by omega
      clear e g
      intro D4 e
      have g : ((-v2 + u3 + d2) + v3) ≤ (u2 + d3) := by omega
      rw [Int.max_eq_left g] at e
      obtain rfl : D4 = u2 - u3 + d3 := by omega
      clear e g
      intro V4 e
      have g : (d3 + u2) ≤ ((v1 - v2 + u3) + (u2 - u3 + d3)) := by omega
      rw [Int.max_eq_left g] at e
      obtain rfl : V4 = v1 + u2 - u3 - d2 + d3 := by omega
      clear e g
      intro h5 e
      have g : (u1 + d3) ≤ (d1 + (v1 - v2 + u3)) := by omega
      rw [Int.max_eq_right g] at e
      obtain rfl : h5 = -v2 + u3 + d1 := by omega
      clear e g
      intro U5 e
      have g : ((-v2 + u3 + d1) + v0) ≤ (u1 + d3) := by omega
      rw [Int.max_eq_left g] at e
      obtain rfl : U5 = u1 - d1 + d3 := by omega
      clear e g
      intro D5 e
      have g : (u1 + d3) ≤ ((-v2 + u3 + d1) + (v1 + u2 - u3 - d2 + d3)) := by omega
      rw [Int.max_eq_right g] at e
      obtain rfl : D5 = u2 - u3 + d1 - d2 + d3 := by omega
      clear e g
      intro V5 e
      have g : ((u1 - d1 + d3) + (u2 - u3 + d1 - d2 + d3)) ≤ (d3 + u1) := by omega
      rw [Int.max_eq_right g] at e
      obtain rfl : V5 = v2 + u1 - u3 - d1 + d3 := by omega
      clear e g
      intro h6 e
      have g : (u1 + (u2 - u3 + d3)) ≤ ((u2 - u3 + d1 - d2 + d3) + u2) := by omega
      rw [Int.max_eq_right g] at e
      obtain rfl : h6 = -v1 + u2 + d1 := by omega
      clear e g
      intro U6 e
      have g : ((-v1 + u2 + d1) + (v2 + u1 - u3 - d1 + d3)) ≤ (u1 + (u2 - u3 + d3)) := by omega
      rw [Int.max_eq_left g] at e
      obtain rfl : U6 = u1 - d1 + d2 := by omega
      clear e g
      intro D6 e
      have g : ((-v1 + u2 + d1) + v3) ≤ (u1 + (u2 - u3 + d3)) := by omega
      rw [Int.max_eq_left g] at e
      obtain rfl : D6 = u1 - u3 + d3 := by omega
      clear e g
      intro V6 e
      have g : ((u1 - d1 + d2) + (u1 - u3 + d3)) ≤ ((u2 - u3 + d3) + u1) := by omega
      rw [Int.max_eq_right g] at e
      obtain rfl : V6 = v1 + u1 - u3 - d1 + d3 := by omega
      clear e g
      exact ⟨rfl, rfl, rfl, rfl, rfl, rfl⟩
    · rw [Int.max_eq_right g] at e
      obtain rfl : U3 = v0 - v2 + u3 := by omega
      clear e
      intro D3 e
      have g : ((u1 - d1 + d2) + d3) ≤ ((-v2 + u3 + d2) + (v1 + u1 - u3 - d1 + d3)) := by omega
      rw [Int.max_eq_right g] at e
      obtain rfl : D3 = u2 - u3 + d3 := by omega
      clear e g
      intro V3 e
      rcases Int.le_total (d3 + (u1 - d1 + d2)) ((v0 - v2 + u3) + (u2 - u3 + d3)) with g | g
      · rw [Int.max_eq_left g] at e
        obtain rfl : V3 = v0 + u2 - u3 - d2 + d3 := by omega
        clear e
        intro h4 e
        have g : (u2 + d3) ≤ (d2 + u3) := by omega
        rw [Int.max_eq_right g] at e
        obtain rfl : h4 = -v2 + u3 + d2 := by omega
        clear e g
        intro U4 e
        have g : (u2 + d3) ≤ ((-v2 + u3 + d2) + v1) := by omega
        rw [Int.max_eq_right g] at e
        obtain rfl : U4 = v1 - v2 + u3 := by omega
        clear e g
        intro D4 e
        have g : ((-v2 + u3 + d2) + v3) ≤ (u2 + d3) := by omega
        rw [Int.max_eq_left g] at e
        obtain rfl : D4 = u2 - u3 + d3 := by omega
        clear e g
        intro V4 e
        have g : (d3 + u2) ≤ ((v1 - v2 + u3) + (u2 - u3 + d3)) := by omega
        rw [Int.max_eq_left g] at e
        obtain rfl : V4 = v1 + u2 - u3 - d2 + d3 := by omega
        clear e g
        intro h5 e
        have g : (u1 + d3) ≤ (d1 + (v1 - v2 + u3)) := by omega
        rw [Int.max_eq_right g] at e
        obtain rfl : h5 = -v2 + u3 + d1 := by omega
        clear e g
        intro U5 e
        have g : (u1 + d3) ≤ ((-v2 + u3 + d1) + v0) := by omega
        rw [Int.max_eq_right g] at e
        obtain rfl : U5 = v0 - v2 + u3 := by omega
        clear e g
        intro D5 e
        have g : (u1 + d3) ≤ ((-v2 + u3 + d1) + (v1 + u2 - u3 - d2 + d3)) := by omega
        rw [Int.max_eq_right g] at e
        obtain rfl : D5 = u2 - u3 + d1 - d2 + d3 := by omega
        clear e g
        intro V5 e
        have g : (d3 + u1) ≤ ((v0 - v2 + u3) + (u2 - u3 + d1 - d2 + d3)) := by omega
        rw [Int.max_eq_left g] at e
        obtain rfl : V5 = v0 + u2 - u3 - d2 + d3 := by omega
        clear e g
        intro h6 e
        have g : (u1 + (u2 - u3 + d3)) ≤ ((u2 - u3 + d1 - d2 + d3) + u2) := by omega
        rw [Int.max_eq_right g] at e
        obtain rfl : h6 = -v1 + u2 + d1 := by omega
        clear e g
        intro U6 e
        have g : ((-v1 + u2 + d1) + (v0 + u2 - u3 - d2 + d3)) ≤ (u1 + (u2 - u3 + d3)) := by omega
        rw [Int.max_eq_left g] at e
        obtain rfl : U6 = u1 - d1 + d2 := by omega
        clear e g
        intro D6 e
        have g : ((-v1 + u2 + d1) + v3) ≤ (u1 + (u2 - u3 + d3)) := by omega
        rw [Int.max_eq_left g] at e
        obtain rfl : D6 = u1 - u3 + d3 := by omega
        clear e g
        intro V6 e
        have g : ((u1 - d1 + d2) + (u1 - u3 + d3)) ≤ ((u2 - u3 + d3) + u1) := by omega
        rw [Int.max_eq_right g] at e
        obtain rfl : V6 = v1 + u1 - u3 - d1 + d3 := by omega
        clear e g
        exact ⟨rfl, rfl, rfl, rfl, rfl, rfl⟩
      · rw [Int.max_eq_right g] at e
        obtain rfl : V3 = v2 + u1 - u3 - d1 + d3 := by omega
        clear e
        intro h4 e
        have g : (u2 + d3) ≤ (d2 + u3) := by omega
        rw [Int.max_eq_right g] at e
        obtain rfl : h4 = -v2 + u3 + d2 := by omega
        clear e g
        intro U4 e
        have g : (u2 + d3) ≤ ((-v2 + u3 + d2) + v1) := by omega
        rw [Int.max_eq_right g] at e
        obtain rfl : U4 = v1 - v2 + u3 := by omega
        clear e g
        intro D4 e
        have g : ((-v2 + u3 + d2) + v3) ≤ (u2 + d3) := by omega
        rw [Int.max_eq_left g] at e
        obtain rfl : D4 = u2 - u3 + d3 := by omega
        clear e g
        intro V4 e
        have g : (d3 + u2) ≤ ((v1 - v2 + u3) + (u2 - u3 + d3)) := by omega
        rw [Int.max_eq_left g] at e
        obtain rfl : V4 = v1 + u2 - u3 - d2 + d3 := by omega
        clear e g
        intro h5 e
        have g : (u1 + d3) ≤ (d1 + (v1 - v2 + u3)) := by omega
        rw [Int.max_eq_right g] at e
        obtain rfl : h5 = -v2 + u3 + d1 := by omega
        clear e g
        intro U5 e
        have g : (u1 + d3) ≤ ((-v2 + u3 + d1) + v0) := by omega
        rw [Int.max_eq_right g] at e
        obtain rfl : U5 = v0 - v2 + u3 := by omega
        clear e g
        intro D5 e
        have g : (u1 + d3) ≤ ((-v2 + u3 + d1) + (v1 + u2 - u3 - d2 + d3)) := by omega
        rw [Int.max_eq_right g] at e
        obtain rfl : D5 = u2 - u3 + d1 - d2 + d3 := by omega
        clear e g
        intro V5 e
        have g : ((v0 - v2 + u3) + (u2 - u3 + d1 - d2 + d3)) ≤ (d3 + u1) := by omega
        rw [Int.max_eq_right g] at e
        obtain rfl : V5 = v2 + u1 - u3 - d1 + d3 := by omega
        clear e g
        intro h6 e
        have g : (u1 + (u2 - u3 + d3)) ≤ ((u2 - u3 + d1 - d2 + d3) + u2) := by omega
        rw [Int.max_eq_right g] at e
        obtain rfl : h6 = -v1 + u2 + d1 := by omega
        clear e g
        intro U6 e
        have g : ((-v1 + u2 + d1) + (v2 + u1 - u3 - d1 + d3)) ≤ (u1 + (u2 - u3 + d3)) := by omega
        rw [Int.max_eq_left g] at e
        obtain rfl : U6 = u1 - d1 + d2 := by omega
        clear e g
        intro D6 e
        have g : ((-v1 + u2 + d1) + v3) ≤ (u1 + (u2 - u3 + d3)) := by omega
        rw [Int.max_eq_left g] at e
        obtain rfl : D6 = u1 - u3 + d3 := by omega
        clear e g
        intro V6 e
        have g : ((u1 - d1 + d2) + (u1 - u3 + d3)) ≤ ((u2 - u3 + d3) + u1) := by omega
        rw [Int.max_eq_right g] at e
        obtain rfl : V6 = v1 + u1 - u3 - d1 + d3 := by omega
        clear e g
        exact ⟨rfl, rfl, rfl, rfl, rfl, rfl⟩
  · rw [Int.max_eq_right g] at e
    obtain rfl : D2 = -v1 + v3 + d1 := by omega
    clear e
    intro V2 e
    rcases Int.le_total (d3 + u1) ((v1 - v2 + u1 - u2 + u3 - d1 + d2) + (-v1 + v3 + d1)) with g | g
    · rw [Int.max_eq_left g] at e
      obtain rfl : V2 = v1 - v2 + v3 + u1 - u2 - d1 + d2 := by omega
      clear e
      intro h3 e
      have g : ((u1 - d1 + d2) + d3) ≤ (d2 + (v1 - v2 + u1 - u2 + u3 - d1 + d2)) := by omega
      rw [Int.max_eq_right g] at e
      obtain rfl : h3 = -v2 + u3 + d2 := by omega
      clear e g
      intro U3 e
      rcases Int.le_total ((-v2 + u3 + d2) + v0) ((u1 - d1 + d2) + d3) with g | g
      · rw [Int.max_eq_left g] at e
        obtain rfl : U3 = u1 - d1 + d3 := by omega
        clear e
        intro D3 e
        have g : ((u1 - d1 + d2) + d3) ≤ ((-v2 + u3 + d2) + (v1 - v2 + v3 + u1 - u2 - d1 + d2)) := by omega
        rw [Int.max_eq_right g] at e
        obtain rfl : D3 = -v2 + v3 + d2 := by omega
        clear e g
        intro V3 e
        rcases Int.le_total (d3 + (u1 - d1 + d2)) ((u1 - d1 + d3) + (-v2 + v3 + d2)) with g | g
        · rw [Int.max_eq_left g] at e
          obtain rfl : V3 = v3 + u1 - u3 - d1 + d3 := by omega
          clear e
          intro h4 e
          have g : (u2 + d3) ≤ (d2 + u3) := by omega
          rw [Int.max_eq_right g] at e
          obtain rfl : h4 = -v2 + u3 + d2 := by omega
          clear e g
          intro U4 e
          have g : (u2 + d3) ≤ ((-v2 + u3 + d2) + v1) := by omega
          rw [Int.max_eq_right g] at e
          obtain rfl : U4 = v1 - v2 + u3 := by omega
          clear e g
          intro D4 e
          have g : (u2 + d3) ≤ ((-v2 + u3 + d2) + v3) := by omega
          rw [Int.max_eq_right g] at e
          obtain rfl : D4 = -v2 + v3 + d2 := by omega
          clear e g
          intro V4 e
          have g : (d3 + u2) ≤ ((v1 - v2 + u3) + (-v2 + v3 + d2)) := by omega
          rw [Int.max_eq_left g] at e
          obtain rfl : V4 = v1 - v2 + v3 := by omega
          clear e g
          intro h5 e
          have g : (u1 + d3) ≤ (d1 + (v1 - v2 + u3)) := by omega
          rw [Int.max_eq_right g] at e
          obtain rfl : h5 = -v2 + u3 + d1 := by omega
          clear e g
          intro U5 e
          have g : ((-v2 + u3 + d1) + v0) ≤ (u1 + d3) := by omega
          rw [Int.max_eq_left g] at e
          obtain rfl : U5 = u1 - d1 + d3 := by omega
          clear e g
          intro D5 e
          have g : (u1 + d3) ≤ ((-v2 + u3 + d1) + (v1 - v2 + v3)) := by omega
          rw [Int.max_eq_right g] at e
          obtain rfl : D5 = -v2 + v3 + d1 := by omega
          clear e g
          intro V5 e
          have g : (d3 + u1) ≤ ((u1 - d1 + d3) + (-v2 + v3 + d1)) := by omega
          rw [Int.max_eq_left g] at e
          obtain rfl : V5 = v3 + u1 - u3 - d1 + d3 := by omega
          clear e g
          intro h6 e
          have g : (u1 + (-v2 + v3 + d2)) ≤ ((-v2 + v3 + d1) + u2) := by omega
          rw [Int.max_eq_right g] at e
          obtain rfl : h6 = -v1 + u2 + d1 := by omega
          clear e g
          intro U6 e
          have g : ((-v1 + u2 + d1) + (v3 + u1 - u3 - d1 + d3)) ≤ (u1 + (-v2 + v3 + d2)) := by omega
          rw [Int.max_eq_left g] at e
          obtain rfl : U6 = u1 - d1 + d2 := by omega
          clear e g
          intro D6 e
          have g : (u1 + (-v2 + v3 + d2)) ≤ ((-v1 + u2 + d1) + v3) := by omega
          rw [Int.max_eq_right g] at e
          obtain rfl : D6 = -v1 + v3 + d1 := by omega
          clear e g
          intro V6 e
          have g : ((u1 - d1 + d2) + (-v1 + v3 + d1)) ≤ ((-v2 + v3 + d2) + u1) := by omega
          rw [Int.max_eq_right g] at e
          obtain rfl : V6 = v1 - v2 + v3 + u1 - u2 - d1 + d2 := by omega
          clear e g
          exact ⟨rfl, rfl, rfl, rfl, rfl, rfl⟩
        · rw [Int.max_eq_right g] at e
          obtain rfl : V3 = v2 + u1 - u3 - d1 + d3 := by omega
          clear e
          intro h4 e
          have g : (u2 + d3) ≤ (d2 + u3) := by omega
          rw [Int.max_eq_right g] at e
          obtain rfl : h4 = -v2 + u3 + d2 := by omega
          clear e g
          intro U4 e
          have g : (u2 + d3) ≤ ((-v2 + u3 + d2) + v1) := by omega
          rw [Int.max_eq_right g] at e
          obtain rfl : U4 = v1 - v2 + u3 := by omega
          clear e g
          intro D4 e
          have g : (u2 + d3) ≤ ((-v2 + u3 + d2) + v3) := by omega
          rw [Int.max_eq_right g] at e
          obtain rfl : D4 = -v2 + v3 + d2 := by omega
          clear e g
          intro V4 e
          have g : (d3 + u2) ≤ ((v1 - v2 + u3) + (-v2 + v3 + d2)) := by omega
          rw [Int.max_eq_left g] at e
          obtain rfl : V4 = v1 - v2 + v3 := by omega
          clear e g
          intro h5 e
          have g : (u1 + d3) ≤ (d1 + (v1 - v2 + u3)) := by omega
          rw [Int.max_eq_right g] at e
          obtain rfl : h5 = -v2 + u3 + d1 := by omega
          clear e g
          intro U5 e
          have g : ((-v2 + u3 + d1) + v0) ≤ (u1 + d3) := by omega
          rw [Int.max_eq_left g] at e
          obtain rfl : U5 = u1 - d1 + d3 := by omega
          clear e g
          intro D5 e
          have g : (u1 + d3) ≤ ((-v2 + u3 + d1) + (v1 - v2 + v3)) := by omega
          rw [Int.max_eq_right g] at e
          obtain rfl : D5 = -v2 + v3 + d1 := by omega
          clear e g
          intro V5 e
          have g : ((u1 - d1 + d3) + (-v2 + v3 + d1)) ≤ (d3 + u1) := by omega
          rw [Int.max_eq_right g] at e
          obtain rfl : V5 = v2 + u1 - u3 - d1 + d3 := by omega
          clear e g
          intro h6 e
          have g : (u1 + (-v2 + v3 + d2)) ≤ ((-v2 + v3 + d1) + u2) := by omega
          rw [Int.max_eq_right g] at e
          obtain rfl : h6 = -v1 + u2 + d1 := by omega
          clear e g
          intro U6 e
          have g : ((-v1 + u2 + d1) + (v2 + u1 - u3 - d1 + d3)) ≤ (u1 + (-v2 + v3 + d2)) := by omega
          rw [Int.max_eq_left g] at e
          obtain rfl : U6 = u1 - d1 + d2 := by omega
          clear e g
          intro D6 e
          have g : (u1 + (-v2 + v3 + d2)) ≤ ((-v1 + u2 + d1) + v3) := by omega
          rw [Int.max_eq_right g] at e
          obtain rfl : D6 = -v1 + v3 + d1 := by omega
          clear e g
          intro V6 e
          have g : ((u1 - d1 + d2) + (-v1 + v3 + d1)) ≤ ((-v2 + v3 + d2) + u1) := by omega
          rw [Int.max_eq_right g] at e
          obtain rfl : V6 = v1 - v2 + v3 + u1 - u2 - d1 + d2 := by omega
          clear e g
          exact ⟨rfl, rfl, rfl, rfl, rfl, rfl⟩
      · rw [Int.max_eq_right g] at e
        obtain rfl : U3 = v0 - v2 + u3 := by omega
        clear e
        intro D3 e
        have g : ((u1 - d1 + d2) + d3) ≤ ((-v2 + u3 + d2) + (v1 - v2 + v3 + u1 - u2 - d1 + d2)) := by omega
        rw [Int.max_eq_right g] at e
        obtain rfl : D3 = -v2 + v3 + d2 := by omega
        clear e g
        intro V3 e
        rcases Int.le_total (d3 + (u1 - d1 + d2)) ((v0 - v2 + u3) + (-v2 + v3 + d2)) with g | g
        · rw [Int.max_eq_left g] at e
          obtain rfl : V3 = v0 - v2 + v3 := by omega
          clear e
          intro h4 e
          have g : (u2 + d3) ≤ (d2 + u3) := by omega
          rw [Int.max_eq_right g] at e
          obtain rfl : h4 = -v2 + u3 + d2 := by omega
          clear e g
          intro U4 e
          have g : (u2 + d3) ≤ ((-v2 + u3 + d2) + v1) := by omega
          rw [Int.max_eq_right g] at e
          obtain rfl : U4 = v1 - v2 + u3 := by omega
          clear e g
          intro D4 e
          have g : (u2 + d3) ≤ ((-v2 + u3 + d2) + v3) := by omega
          rw [Int.max_eq_right g] at e
          obtain rfl : D4 = -v2 + v3 + d2 := by omega
          clear e g
          intro V4 e
          have g : (d3 + u2) ≤ ((v1 - v2 + u3) + (-v2 + v3 + d2)) := by omega
          rw [Int.max_eq_left g] at e
          obtain rfl : V4 = v1 - v2 + v3 := by omega
          clear e g
          intro h5 e
          have g : (u1 + d3) ≤ (d1 + (v1 - v2 + u3)) := by omega
          rw [Int.max_eq_right g] at e
          obtain rfl : h5 = -v2 + u3 + d1 := by omega
          clear e g
          intro U5 e
          have g : (u1 + d3) ≤ ((-v2 + u3 + d1) + v0) := by omega
          rw [Int.max_eq_right g] at e
          obtain rfl : U5 = v0 - v2 + u3 := by omega
          clear e g
          intro D5 e
          have g : (u1 + d3) ≤ ((-v2 + u3 + d1) + (v1 - v2 + v3)) := by omega
          rw [Int.max_eq_right g] at e
          obtain rfl : D5 = -v2 + v3 + d1 := by omega
          clear e g
          intro V5 e
          have g : (d3 + u1) ≤ ((v0 - v2 + u3) + (-v2 + v3 + d1)) := by omega
          rw [Int.max_eq_left g] at e
          obtain rfl : V5 = v0 - v2 + v3 := by omega
          clear e g
          intro h6 e
          have g : (u1 + (-v2 + v3 + d2)) ≤ ((-v2 + v3 + d1) + u2) := by omega
          rw [Int.max_eq_right g] at e
          obtain rfl : h6 = -v1 + u2 + d1 := by omega
          clear e g
          intro U6 e
          have g : ((-v1 + u2 + d1) + (v0 - v2 + v3)) ≤ (u1 + (-v2 + v3 + d2)) := by omega
          rw [Int.max_eq_left g] at e
          obtain rfl : U6 = u1 - d1 + d2 := by omega
          clear e g
          intro D6 e
          have g : (u1 + (-v2 + v3 + d2)) ≤ ((-v1 + u2 + d1) + v3) := by omega
          rw [Int.max_eq_right g] at e
          obtain rfl : D6 = -v1 + v3 + d1 := by omega
          clear e g
          intro V6 e
          have g : ((u1 - d1 + d2) + (-v1 + v3 + d1)) ≤ ((-v2 + v3 + d2) + u1) := by omega
          rw [Int.max_eq_right g] at e
          obtain rfl : V6 = v1 - v2 + v3 + u1 - u2 - d1 + d2 := by omega
          clear e g
          exact ⟨rfl, rfl, rfl, rfl, rfl, rfl⟩
        · rw [Int.max_eq_right g] at e
          obtain rfl : V3 = v2 + u1 - u3 - d1 + d3 := by omega
          clear e
          intro h4 e
          have g : (u2 + d3) ≤ (d2 + u3) := by omega
          rw [Int.max_eq_right g] at e
          obtain rfl : h4 = -v2 + u3 + d2 := by omega
          clear e g
          intro U4 e
          have g : (u2 + d3) ≤ ((-v2 + u3 + d2) + v1) := by omega
          rw [Int.max_eq_right g] at e
          obtain rfl : U4 = v1 - v2 + u3 := by omega
          clear e g
          intro D4 e
          have g : (u2 + d3) ≤ ((-v2 + u3 + d2) + v3) := by omega
          rw [Int.max_eq_right g] at e
          obtain rfl : D4 = -v2 + v3 + d2 := by omega
          clear e g
          intro V4 e
          have g : (d3 + u2) ≤ ((v1 - v2 + u3) + (-v2 + v3 + d2)) := by omega
          rw [Int.max_eq_left g] at e
          obtain rfl : V4 = v1 - v2 + v3 := by omega
          clear e g
          intro h5 e
          have g : (u1 + d3) ≤ (d1 + (v1 - v2 + u3)) := by omega
          rw [Int.max_eq_right g] at e
          obtain rfl : h5 = -v2 + u3 + d1 := by omega
          clear e g
          intro U5 e
          have g : (u1 + d3) ≤ ((-v2 + u3 + d1) + v0) := by omega
          rw [Int.max_eq_right g] at e
          obtain rfl : U5 = v0 - v2 + u3 := by omega
          clear e g
          intro D5 e
          have g : (u1 + d3) ≤ ((-v2 + u3 + d1) + (v1 - v2 + v3)) := by omega
          rw [Int.max_eq_right g] at e
          obtain rfl : D5 = -v2 + v3 + d1 := by omega
          clear e g
          intro V5 e
          have g : ((v0 - v2 + u3) + (-v2 + v3 + d1)) ≤ (d3 + u1) := by omega
          rw [Int.max_eq_right g] at e
          obtain rfl : V5 = v2 + u1 - u3 - d1 + d3 := by omega
          clear e g
          intro h6 e
          have g : (u1 + (-v2 + v3 + d2)) ≤ ((-v2 + v3 + d1) + u2) := by omega
          rw [Int.max_eq_right g] at e
          obtain rfl : h6 = -v1 + u2 + d1 := by omega
          clear e g
          intro U6 e
          have g : ((-v1 + u2 + d1) + (v2 + u1 - u3 - d1 + d3)) ≤ (u1 + (-v2 + v3 + d2)) := by omega
          rw [Int.max_eq_left g] at e
          obtain rfl : U6 = u1 - d1 + d2 := by omega
          clear e g
          intro D6 e
          have g : (u1 + (-v2 + v3 + d2)) ≤ ((-v1 + u2 + d1) + v3) := by omega
          rw [Int.max_eq_right g] at e
          obtain rfl : D6 = -v1 + v3 + d1 := by omega
          clear e g
          intro V6 e
          have g : ((u1 - d1 + d2) + (-v1 + v3 + d1)) ≤ ((-v2 + v3 + d2) + u1) := by omega
          rw [Int.max_eq_right g] at e
          obtain rfl : V6 = v1 - v2 + v3 + u1 - u2 - d1 + d2 := by omega
          clear e g
          exact ⟨rfl, rfl, rfl, rfl, rfl, rfl⟩
    · rw [Int.max_eq_right g] at e
      obtain rfl : V2 = v1 + u1 - u3 - d1 + d3 := by omega
      clear e
      intro h3 e
      have g : ((u1 - d1 + d2) + d3) ≤ (d2 + (v1 - v2 + u1 - u2 + u3 - d1 + d2)) := by omega
      rw [Int.max_eq_right g] at e
      obtain rfl : h3 = -v2 + u3 + d2 := by omega
      clear e g
      intro U3 e
      rcases Int.le_total ((-v2 + u3 + d2) + v0) ((u1 - d1 + d2) + d3) with g | g
      · rw [Int.max_eq_left g] at e
        obtain rfl : U3 = u1 - d1 + d3 := by omega
        clear e
        intro D3 e
        have g : ((u1 - d1 + d2) + d3) ≤ ((-v2 + u3 + d2) + (v1 + u1 - u3 - d1 + d3)) := by omega
        rw [Int.max_eq_right g] at e
        obtain rfl : D3 = u2 - u3 + d3 := by omega
        clear e g
        intro V3 e
        have g : ((u1 - d1 + d3) + (u2 - u3 + d3)) ≤ (d3 + (u1 - d1 + d2)) := by omega
        rw [Int.max_eq_right g] at e
        obtain rfl : V3 = v2 + u1 - u3 - d1 + d3 := by omega
        clear e g
        intro h4 e
        have g : (u2 + d3) ≤ (d2 + u3) := by omega
        rw [Int.max_eq_right g] at e
        obtain rfl : h4 = -v2 + u3 + d2 := by omega
        clear e g
        intro U4 e
        have g : (u2 + d3) ≤ ((-v2 + u3 + d2) + v1) := by omega
        rw [Int.max_eq_right g] at e
        obtain rfl : U4 = v1 - v2 + u3 := by omega
        clear e g
        intro D4 e
        have g : ((-v2 + u3 + d2) + v3) ≤ (u2 + d3) := by omega
        rw [Int.max_eq_left g] at e
        obtain rfl : D4 = u2 - u3 + d3 := by omega
        clear e g
        intro V4 e
        have g : (d3 + u2) ≤ ((v1 - v2 + u3) + (u2 - u3 + d3)) := by omega
        rw [Int.max_eq_left g] at e
        obtain rfl : V4 = v1 + u2 - u3 - d2 + d3 := by omega
        clear e g
        intro h5 e
        have g : (u1 + d3) ≤ (d1 + (v1 - v2 + u3)) := by omega
        rw [Int.max_eq_right g] at e
        obtain rfl : h5 = -v2 + u3 + d1 := by omega
        clear e g
        intro U5 e
        have g : ((-v2 + u3 + d1) + v0) ≤ (u1 + d3) := by omega
        rw [Int.max_eq_left g] at e
        obtain rfl : U5 = u1 - d1 + d3 := by omega
        clear e g
        intro D5 e
        have g : (u1 + d3) ≤ ((-v2 + u3 + d1) + (v1 + u2 - u3 - d2 + d3)) := by omega
        rw [Int.max_eq_right g] at e
        obtain rfl : D5 = u2 - u3 + d1 - d2 + d3 := by omega
        clear e g
        intro V5 e
        have g : ((u1 - d1 + d3) + (u2 - u3 + d1 - d2 + d3)) ≤ (d3 + u1) := by omega
        rw [Int.max_eq_right g] at e
        obtain rfl : V5 = v2 + u1 - u3 - d1 + d3 := by omega
        clear e g
        intro h6 e
        have g : (u1 + (u2 - u3 + d3)) ≤ ((u2 - u3 + d1 - d2 + d3) + u2) := by omega
        rw [Int.max_eq_right g] at e
        obtain rfl : h6 = -v1 + u2 + d1 := by omega
        clear e g
        intro U6 e
        have g : ((-v1 + u2 + d1) + (v2 + u1 - u3 - d1 + d3)) ≤ (u1 + (u2 - u3 + d3)) := by omega
        rw [Int.max_eq_left g] at e
        obtain rfl : U6 = u1 - d1 + d2 := by omega
        clear e g
        intro D6 e
        have g : (u1 + (u2 - u3 + d3)) ≤ ((-v1 + u2 + d1) + v3) := by omega
        rw [Int.max_eq_right g] at e
        obtain rfl : D6 = -v1 + v3 + d1 := by omega
        clear e g
        intro V6 e
        have g : ((u1 - d1 + d2) + (-v1 + v3 + d1)) ≤ ((u2 - u3 + d3) + u1) := by omega
        rw [Int.max_eq_right g] at e
        obtain rfl : V6 = v1 + u1 - u3 - d1 + d3 := by omega
        clear e g
        exact ⟨rfl, rfl, rfl, rfl, rfl, rfl⟩
      · rw [Int.max_eq_right g] at e
        obtain rfl : U3 = v0 - v2 + u3 := by omega
        clear e
        intro D3 e
        have g : ((u1 - d1 + d2) + d3) ≤ ((-v2 + u3 + d2) + (v1 + u1 - u3 - d1 + d3)) := by omega
        rw [Int.max_eq_right g] at e
        obtain rfl : D3 = u2 - u3 + d3 := by omega
        clear e g
        intro V3 e
        rcases Int.le_total (d3 + (u1 - d1 + d2)) ((v0 - v2 + u3) + (u2 - u3 + d3)) with g | g
        · rw [Int.max_eq_left g] at e
          obtain rfl : V3 = v0 + u2 - u3 - d2 + d3 := by omega
          clear e
          intro h4 e
          have g : (u2 + d3) ≤ (d2 + u3) := by omega
          rw [Int.max_eq_right g] at e
          obtain rfl : h4 = -v2 + u3 + d2 := by omega
          clear e g
          intro U4 e
          have g : (u2 + d3) ≤ ((-v2 + u3 + d2) + v1) := by omega
          rw [Int.max_eq_right g] at e
          obtain rfl : U4 = v1 - v2 + u3 := by omega
          clear e g
          intro D4 e
          have g : ((-v2 + u3 + d2) + v3) ≤ (u2 + d3) := by omega
          rw [Int.max_eq_left g] at e
          obtain rfl : D4 = u2 - u3 + d3 := by omega
          clear e g
          intro V4 e
          have g : (d3 + u2) ≤ ((v1 - v2 + u3) + (u2 - u3 + d3)) := by omega
          rw [Int.max_eq_left g] at e
          obtain rfl : V4 = v1 + u2 - u3 - d2 + d3 := by omega
          clear e g
          intro h5 e
          have g : (u1 + d3) ≤ (d1 + (v1 - v2 + u3)) := by omega
          rw [Int.max_eq_right g] at e
          obtain rfl : h5 = -v2 + u3 + d1 := by omega
          clear e g
          intro U5 e
          have g : (u1 + d3) ≤ ((-v2 + u3 + d1) + v0) := by omega
          rw [Int.max_eq_right g] at e
          obtain rfl : U5 = v0 - v2 + u3 := by omega
          clear e g
          intro D5 e
          have g : (u1 + d3) ≤ ((-v2 + u3 + d1) + (v1 + u2 - u3 - d2 + d3)) := by omega
          rw [Int.max_eq_right g] at e
          obtain rfl : D5 = u2 - u3 + d1 - d2 + d3 := by omega
          clear e g
          intro V5 e
          have g : (d3 + u1) ≤ ((v0 - v2 + u3) + (u2 - u3 + d1 - d2 + d3)) := by omega
          rw [Int.max_eq_left g] at e
          obtain rfl : V5 = v0 + u2 - u3 - d2 + d3 := by omega
          clear e g
          intro h6 e
          have g : (u1 + (u2 - u3 + d3)) ≤ ((u2 - u3 + d1 - d2 + d3) + u2) := by omega
          rw [Int.max_eq_right g] at e
          obtain rfl : h6 = -v1 + u2 + d1 := by omega
          clear e g
          intro U6 e
          have g : ((-v1 + u2 + d1) + (v0 + u2 - u3 - d2 + d3)) ≤ (u1 + (u2 - u3 + d3)) := by omega
          rw [Int.max_eq_left g] at e
          obtain rfl : U6 = u1 - d1 + d2 := by omega
          clear e g
          intro D6 e
          have g : (u1 + (u2 - u3 + d3)) ≤ ((-v1 + u2 + d1) + v3) := by omega
          rw [Int.max_eq_right g] at e
          obtain rfl : D6 = -v1 + v3 + d1 := by omega
          clear e g
          intro V6 e
          have g : ((u1 - d1 + d2) + (-v1 + v3 + d1)) ≤ ((u2 - u3 + d3) + u1) := by omega
          rw [Int.max_eq_right g] at e
          obtain rfl : V6 = v1 + u1 - u3 - d1 + d3 := by omega
          clear e g
          exact ⟨rfl, rfl, rfl, rfl, rfl, rfl⟩
        · rw [Int.max_eq_right g] at e
          obtain rfl : V3 = v2 + u1 - u3 - d1 + d3 := by omega
          clear e
          intro h4 e
          have g : (u2 + d3) ≤ (d2 + u3) := by omega
          rw [Int.max_eq_right g] at e
          obtain rfl : h4 = -v2 + u3 + d2 := by omega
          clear e g
          intro U4 e
          have g : (u2 + d3) ≤ ((-v2 + u3 + d2) + v1) := by omega
          rw [Int.max_eq_right g] at e
          obtain rfl : U4 = v1 - v2 + u3 := by omega
          clear e g
          intro D4 e
          have g : ((-v2 + u3 + d2) + v3) ≤ (u2 + d3) := by omega
          rw [Int.max_eq_left g] at e
          obtain rfl : D4 = u2 - u3 + d3 := by omega
          clear e g
          intro V4 e
          have g : (d3 + u2) ≤ ((v1 - v2 + u3) + (u2 - u3 + d3)) := by omega
          rw [Int.max_eq_left g] at e
          obtain rfl : V4 = v1 + u2 - u3 - d2 + d3 := by omega
          clear e g
          intro h5 e
          have g : (u1 + d3) ≤ (d1 + (v1 - v2 + u3)) := by omega
          rw [Int.max_eq_right g] at e
          obtain rfl : h5 = -v2 + u3 + d1 := by omega
          clear e g
          intro U5 e
          have g : (u1 + d3) ≤ ((-v2 + u3 + d1) + v0) := by omega
          rw [Int.max_eq_right g] at e
          obtain rfl : U5 = v0 - v2 + u3 := by omega
          clear e g
          intro D5 e
          have g : (u1 + d3) ≤ ((-v2 + u3 + d1) + (v1 + u2 - u3 - d2 + d3)) := by omega
          rw [Int.max_eq_right g] at e
          obtain rfl : D5 = u2 - u3 + d1 - d2 + d3 := by omega
          clear e g
          intro V5 e
          have g : ((v0 - v2 + u3) + (u2 - u3 + d1 - d2 + d3)) ≤ (d3 + u1) := by omega
          rw [Int.max_eq_right g] at e
          obtain rfl : V5 = v2 + u1 - u3 - d1 + d3 := by omega
          clear e g
          intro h6 e
          have g : (u1 + (u2 - u3 + d3)) ≤ ((u2 - u3 + d1 - d2 + d3) + u2) := by omega
          rw [Int.max_eq_right g] at e
          obtain rfl : h6 = -v1 + u2 + d1 := by omega
          clear e g
          intro U6 e
          have g : ((-v1 + u2 + d1) + (v2 + u1 - u3 - d1 + d3)) ≤ (u1 + (u2 - u3 + d3)) := by omega
          rw [Int.max_eq_left g] at e
          obtain rfl : U6 = u1 - d1 + d2 := by omega
          clear e g
          intro D6 e
          have g : (u1 + (u2 - u3 + d3)) ≤ ((-v1 + u2 + d1) + v3) := by omega
          rw [Int.max_eq_right g] at e
          obtain rfl : D6 = -v1 + v3 + d1 := by omega
          clear e g
          intro V6 e
          have g : ((u1 - d1 + d2) + (-v1 + v3 + d1)) ≤ ((u2 - u3 + d3) + u1) := by omega
          rw [Int.max_eq_right g] at e
          obtain rfl : V6 = v1 + u1 - u3 - d1 + d3 := by omega
          clear e g
          exact ⟨rfl, rfl, rfl, rfl, rfl, rfl⟩
set_option maxHeartbeats 4000000 in
set_option maxRecDepth 100000 in
theorem dy_c24 (v0 v1 v2 v3 u1 u2 u3 d1 d2 d3 : Int) (g0 : u1 + d2 ≤ u2 + d1) (g1 : v1 + u1 + d2 ≤ v0 + u2 + d1) (g2 : v2 + u2 + d1 ≤ v1 + u1 + d2) : ∀ V1 : Int, V1 = max ((v0 - v1 + u2) + (u1 - u2 + d2)) (d2 + u1) - (-v1 + u2 + d1) → ∀ h2 : Int, h2 = max (u1 + d3) ((u1 - u2 + d2) + u3) - v2 → ∀ U2 : Int, U2 = max (u1 + d3) (h2 + V1) - (u1 - u2 + d2) → ∀ D2 : Int, D2 = max (u1 + d3) (h2 + v3) - u3 → ∀ V2 : Int, V2 = max (U2 + D2) (d3 + u1) - h2 → ∀ h3 : Int, h3 = max ((v0 - v1 + u2) + d3) (d2 + U2) - V1 → ∀ U3 : Int, U3 = max ((v0 - v1 + u2) + d3) (h3 + v0) - d2 → ∀ D3 : Int, D3 = max ((v0 - v1 + u2) + d3) (h3 + V2) - U2 → ∀ V3 : Int, V3 = max (U3 + D3) (d3 + (v0 - v1 + u2)) - h3 → ∀ h4 : Int, h4 = max (u2 + d3) (d2 + u3) - v2 → ∀ U4 : Int, U4 = max (u2 + d3) (h4 + v1) - d2 → ∀ D4 : Int, D4 = max (u2 + d3) (h4 + v3) - u3 → ∀ V4 : Int, V4 = max (U4 + D4) (d3 + u2) - h4 → ∀ h5 : Int, h5 = max (u1 + d3) (d1 + U4) - v1 → ∀ U5 : Int, U5 = max (u1 + d3) (h5 + v0) - d1 → ∀ D5 : Int, D5 = max (u1 + d3) (h5 + V4) - U4 → ∀ V5 : Int, V5 = max (U5 + D5) (d3 + u1) - h5 → ∀ h6 : Int, h6 = max (u1 + D4) (D5 + u2) - V4 → ∀ U6 : Int, U6 = max (u1 + D4) (h6 + V5) - D5 → ∀ D6 : Int, D6 = max (u1 + D4) (h6 + v3) - u2 → ∀ V6 : Int, V6 = max (U6 + D6) (D4 + u1) - h6 → V3 = V5 ∧ U3 = U5 ∧ V2 = V6 ∧ (v0 - v1 + u2) = U6 ∧ D3 = D4 ∧ D2 = D6 := by
  intro V1 e
  rcases Int.le_total (d2 + u1) ((v0 - v1 + u2) + (u1 - u2 + d2)) with g | g
  · rw [Int.max_eq_left g] at e
    obtain rfl : V1 = v0 + u1 - u2 - d1 + d2 := by omega
    clear e
    intro h2 e
    rcases Int.le_total ((u1 - u2 + d2) + u3) (u1 + d3) with g | g
    · rw [Int.max_eq_left g] at e
      obtain rfl : h2 = -v2 + u1 + d3 := by omega
      clear e
      intro U2 e
      have g : (u1 + d3) ≤ ((-v2 + u1 + d3) + (v0 + u1 - u2 - d1 + d2)) := by omega
      rw [Int.max_eq_right g] at e
      obtain rfl : U2 = v0 - v2 + u1 - d1 + d3 := by omega
      clear e g
      intro D2 e
      rcases Int.le_total ((-v2 + u1 + d3) + v3) (u1 + d3) with g | g
      · rw [Int.max_eq_left g] at e
        obtain rfl : D2 = u1 - u3 + d3 := by omega
        clear e
        intro V2 e
        have g : (d3 + u1) ≤ ((v0 - v2 + u1 - d1 + d3) + (u1 - u3 + d3)) := by omega
        rw [Int.max_eq_left g] at e
        obtain rfl : V2 = v0 + u1 - u3 - d1 + d3 := by omega
        clear e g
        intro h3 e
        have g : ((v0 - v1 + u2) + d3) ≤ (d2 + (v0 - v2 + u1 - d1 + d3)) := by omega
        rw [Int.max_eq_right g] at e
        obtain rfl : h3 = -v2 + u2 + d3 := by omega
        clear e g
        intro U3 e
        have g : ((v0 - v1 + u2) + d3) ≤ ((-v2 + u2 + d3) + v0) := by omega
        rw [Int.max_eq_right g] at e
        obtain rfl : U3 = v0 - v2 + u2 - d2 + d3 := by omega
        clear e g
        intro D3 e
        have g : ((v0 - v1 + u2) + d3) ≤ ((-v2 + u2 + d3) + (v0 + u1 - u3 - d1 + d3)) := by omega
        rw [Int.max_eq_right g] at e
        obtain rfl : D3 = u2 - u3 + d3 := by omega
        clear e g
        intro V3 e
        have g : (d3 + (v0 - v1 + u2)) ≤ ((v0 - v2 + u2 - d2 + d3) + (u2 - u3 + d3)) := by omega
        rw [Int.max_eq_left g] at e
        obtain rfl : V3 = v0 + u2 - u3 - d2 + d3 := by omega
        clear e g
        intro h4 e
        have g : (d2 + u3) ≤ (u2 + d3) := by omega
        rw [Int.max_eq_left g] at e
        obtain rfl : h4 = -v2 + u2 + d3 := by omega
        clear e g
        intro U4 e
        have g : (u2 + d3) ≤ ((-v2 + u2 + d3) + v1) := by omega
        rw [Int.max_eq_right g] at e
        obtain rfl : U4 = v1 - v2 + u2 - d2 + d3 := by omega
        clear e g
        intro D4 e
        have g : ((-v2 + u2 + d3) + v3) ≤ (u2 + d3) := by omega
        rw [Int.max_eq_left g] at e
        obtain rfl : D4 = u2 - u3 + d3 := by omega
        clear e g
        intro V4 e
        have g : (d3 + u2) ≤ ((v1 - v2 + u2 - d2 + d3) + (u2 - u3 + d3)) := by omega
        rw [Int.max_eq_left g] at e
        obtain rfl : V4 = v1 + u2 - u3 - d2 + d3 := by omega
        clear e g
        intro h5 e
        have g : (u1 + d3) ≤ (d1 + (v1 - v2 + u2 - d2 + d3)) := by omega
        rw [Int.max_eq_right g] at e
        obtain rfl : h5 = -v2 + u2 + d1 - d2 + d3 := by omega
        clear e g
        intro U5 e
        have g : (u1 + d3) ≤ ((-v2 + u2 + d1 - d2 + d3) + v0) := by omega
        rw [Int.max_eq_right g] at e
        obtain rfl : U5 = v0 - v2 + u2 - d2 + d3 := by omega
        clear e g
        intro D5 e
        have g : (u1 + d3) ≤ ((-v2 + u2 + d1 - d2 + d3) + (v1 + u2 - u3 - d2 + d3)) := by omega
        rw [Int.max_eq_right g] at e
        obtain rfl : D5 = u2 - u3 + d1 - d2 + d3 := by omega
        clear e g
        intro V5 e
        have g : (d3 + u1) ≤ ((v0 - v2 + u2 - d2 + d3) + (u2 - u3 + d1 - d2 + d3)) := by omega
        rw [Int.max_eq_left g] at e
        obtain rfl : V5 = v0 + u2 - u3 - d2 + d3 := by omega
        clear e g
        intro h6 e
        have g : (u1 + (u2 - u3 + d3)) ≤ ((u2 - u3 + d1 - d2 + d3) + u2) := by omega
        rw [Int.max_eq_right g] at e
        obtain rfl : h6 = -v1 + u2 + d1 := by omega
        clear e g
        intro U6 e
        have g : (u1 + (u2 - u3 + d3)) ≤ ((-v1 + u2 + d1) + (v0 + u2 - u3 - d2 + d3)) := by omega
        rw [Int.max_eq_right g] at e
        obtain rfl : U6 = v0 - v1 + u2 := by omega
        clear e g
        intro D6 e
        have g : ((-v1 + u2 + d1) + v3) ≤ (u1 + (u2 - u3 + d3)) := by omega
        rw [Int.max_eq_left g] at e
        obtain rfl : D6 = u1 - u3 + d3 := by omega
        clear e g
        intro V6 e
        have g : ((u2 - u3 + d3) + u1) ≤ ((v0 - v1 + u2) + (u1 - u3 + d3)) := by omega
        rw [Int.max_eq_left g] at e
        obtain rfl : V6 = v0 + u1 - u3 - d1 + d3 := by omega
        clear e g
        exact ⟨rfl, rfl, rfl, rfl, rfl, rfl⟩
      · rw [Int.max_eq_right g] at e
        obtain rfl : D2 = -v2 + v3 + u1 - u3 + d3 := by omega
        clear e
        intro V2 e
        have g : (d3 + u1) ≤ ((v0 - v2 + u1 - d1 + d3) + (-v2 + v3 + u1 - u3 + d3)) := by omega
        rw [Int.max_eq_left g] at e
        obtain rfl : V2 = v0 - v2 + v3 + u1 - u3 - d1 + d3 := by omega
        clear e g
        intro h3 e
        have g : ((v0 - v1 + u2) + d3) ≤ (d2 + (v0 - v2 + u1 - d1 + d3)) := by omega
        rw [Int.max_eq_right g] at e
        obtain rfl : h3 = -v2 + u2 + d3 := by omega
        clear e g
        intro U3 e
        have g : ((v0 - v1 + u2) + d3) ≤ ((-v2 + u2 + d3) + v0) := by omega
        rw [Int.max_eq_right g] at e
        obtain rfl : U3 = v0 - v2 + u2 - d2 + d3 := by omega
        clear e g
        intro D3 e
        have g : ((v0 - v1 + u2) + d3) ≤ ((-v2 + u2 + d3) + (v0 - v2 + v3 + u1 - u3 - d1 + d3)) := by omega
        rw [Int.max_eq_right g] at e
        obtain rfl : D3 = -v2 + v3 + u2 - u3 + d3 := by omega
        clear e g
        intro V3 e
        have g : (d3 + (v0 - v1 + u2)) ≤ ((v0 - v2 + u2 - d2 + d3) + (-v2 + v3 + u2 - u3 + d3)) := by omega
        rw [Int.max_eq_left g] at e
        obtain rfl : V3 = v0 - v2 + v3 + u2 - u3 - d2 + d3 := by omega
        clear e g
        intro h4 e
        have g : (d2 + u3) ≤ (u2 + d3) := by omega
        rw [Int.max_eq_left g] at e
        obtain rfl : h4 = -v2 + u2 + d3 := by omega
        clear e g
        intro U4 e
        have g : (u2 + d3) ≤ ((-v2 + u2 + d3) + v1) := by omega
        rw [Int.max_eq_right g] at e
        obtain rfl : U4 = v1 - v2 + u2 - d2 + d3 := by omega
        clear e g
        intro D4 e
        have g : (u2 + d3) ≤ ((-v2 + u2 + d3) + v3) := by omega
        rw [Int.max_eq_right g] at e
        obtain rfl : D4 = -v2 + v3 + u2 - u3 + d3 := by omega
        clear e g
        intro V4 e
        have g : (d3 + u2) ≤ ((v1 - v2 + u2 - d2 + d3) + (-v2 + v3 + u2 - u3 + d3)) := by omega
        rw [Int.max_eq_left g] at e
        obtain rfl : V4 = v1 - v2 + v3 + u2 - u3 - d2 + d3 := by omega
        clear e g
        intro h5 e
        have g : (u1 + d3) ≤ (d1 + (v1 - v2 + u2 - d2 + d3)) := by omega
        rw [Int.max_eq_right g] at e
        obtain rfl : h5 = -v2 + u2 + d1 - d2 + d3 := by omega
        clear e g
        intro U5 e
        have g : (u1 + d3) ≤ ((-v2 + u2 + d1 - d2 + d3) + v0) := by omega
        rw [Int.max_eq_right g] at e
        obtain rfl : U5 = v0 - v2 + u2 - d2 + d3 := by omega
        clear e g
        intro D5 e
        have g : (u1 + d3) ≤ ((-v2 + u2 + d1 - d2 + d3) + (v1 - v2 + v3 + u2 - u3 - d2 + d3)) := by omega
        rw [Int.max_eq_right g] at e
        obtain rfl : D5 = -v2 + v3 + u2 - u3 + d1 - d2 + d3 := by omega
        clear e g
        intro V5 e
        have g : (d3 + u1) ≤ ((v0 - v2 + u2 - d2 + d3) + (-v2 + v3 + u2 - u3 + d1 - d2 + d3)) := by omega
        rw [Int.max_eq_left g] at e
        obtain rfl : V5 = v0 - v2 + v3 + u2 - u3 - d2 + d3 := by omega
        clear e g
        intro h6 e
        have g : (u1 + (-v2 + v3 + u2 - u3 + d3)) ≤ ((-v2 + v3 + u2 - u3 + d1 - d2 + d3) + u2) := by omega
        rw [Int.max_eq_right g] at e
        obtain rfl : h6 = -v1 + u2 + d1 := by omega
        clear e g
        intro U6 e
        have g : (u1 + (-v2 + v3 + u2 - u3 + d3)) ≤ ((-v1 + u2 + d1) + (v0 - v2 + v3 + u2 - u3 - d2 + d3)) := by omega
        rw [Int.max_eq_right g] at e
        obtain rfl : U6 = v0 - v1 + u2 := by omega
        clear e g
        intro D6 e
        have g : ((-v1 + u2 + d1) + v3) ≤ (u1 + (-v2 + v3 + u2 - u3 + d3)) := by omega
        rw [Int.max_eq_left g] at e
        obtain rfl : D6 = -v2 + v3 + u1 - u3 + d3 := by omega
        clear e g
        intro V6 e
        have g : ((-v2 + v3 + u2 - u3 + d3) + u1) ≤ ((v0 - v1 + u2) + (-v2 + v3 + u1 - u3 + d3)) := by omega
        rw [Int.max_eq_left g] at e
        obtain rfl : V6 = v0 - v2 + v3 + u1 - u3 - d1 + d3 := by omega
        clear e g
        exact ⟨rfl, rfl, rfl, rfl, rfl, rfl⟩
    · rw [Int.max_eq_right g] at e
      obtain rfl : h2 = -v2 + u1 - u2 + u3 + d2 := by omega
      clear e
      intro U2 e
      have g : (u1 + d3) ≤ ((-v2 + u1 - u2 + u3 + d2) + (v0 + u1 - u2 - d1 + d2)) := by omega
      rw [Int.max_eq_right g] at e
      obtain rfl : U2 = v0 - v2 + u1 - u2 + u3 - d1 + d2 := by omega
      clear e g
      intro D2 e
      rcases Int.le_total ((-v2 + u1 - u2 + u3 + d2) + v3) (u1 + d3) with g | g
      · rw [Int.max_eq_left g] at e
        obtain rfl : D2 = u1 - u3 + d3 := by omega
        clear e
        intro V2 e
        have g : (d3 + u1) ≤ ((v0 - v2 + u1 - u2 + u3 - d1 + d2) + (u1 - u3 + d3)) := by omega
        rw [Int.max_eq_left g] at e
        obtain rfl : V2 = v0 + u1 - u3 - d1 + d3 := by omega
        clear e g
        intro h3 e
        have g : ((v0 - v1 + u2) + d3) ≤ (d2 + (v0 - v2 + u1 - u2 + u3 - d1 + d2)) := by omega
        rw [Int.max_eq_right g] at e
        obtain rfl : h3 = -v2 + u3 + d2 := by omega
        clear e g
        intro U3 e
        have g : ((v0 - v1 + u2) + d3) ≤ ((-v2 + u3 + d2) + v0) := by omega
        rw [Int.max_eq_right g] at e
        obtain rfl : U3 = v0 - v2 + u3 := by omega
        clear e g
        intro D3 e
        have g : ((v0 - v1 + u2) + d3) ≤ ((-v2 + u3 + d2) + (v0 + u1 - u3 - d1 + d3)) := by omega
        rw [Int.max_eq_right g] at e
        obtain rfl : D3 = u2 - u3 + d3 := by omega
        clear e g
        intro V3 e
        have g : (d3 + (v0 - v1 + u2)) ≤ ((v0 - v2 + u3) + (u2 - u3 + d3)) := by omega
        rw [Int.max_eq_left g] at e
        obtain rfl : V3 = v0 + u2 - u3 - d2 + d3 := by omega
        clear e g
        intro h4 e
        have g : (u2 + d3) ≤ (d2 + u3) := by omega
        rw [Int.max_eq_right g] at e
        obtain rfl : h4 = -v2 + u3 + d2 := by omega
        clear e g
        intro U4 e
        have g : (u2 + d3) ≤ ((-v2 + u3 + d2) + v1) := by omega
        rw [Int.max_eq_right g] at e
        obtain rfl : U4 = v1 - v2 + u3 := by omega
        clear e g
        intro D4 e
        have g : ((-v2 + u3 + d2) + v3) ≤ (u2 + d3) := by omega
        rw [Int.max_eq_left g] at e
        obtain rfl : D4 = u2 - u3 + d3 := by omega
        clear e g
        intro V4 e
        have g : (d3 + u2) ≤ ((v1 - v2 + u3) + (u2 - u3 + d3)) := by omega
        rw [Int.max_eq_left g] at e
        obtain rfl : V4 = v1 + u2 - u3 - d2 + d3 := by omega
        clear e g
        intro h5 e
        have g : (u1 + d3) ≤ (d1 + (v1 - v2 + u3)) := by omega
        rw [Int.max_eq_right g] at e
        obtain rfl : h5 = -v2 + u3 + d1 := by omega
        clear e g
        intro U5 e
        have g : (u1 + d3) ≤ ((-v2 + u3 + d1) + v0) := by omega
        rw [Int.max_eq_right g] at e
        obtain rfl : U5 = v0 - v2 + u3 := by omega
        clear e g
        intro D5 e
        have g : (u1 + d3) ≤ ((-v2 + u3 + d1) + (v1 + u2 - u3 - d2 + d3)) := by omega
        rw [Int.max_eq_right g] at e
        obtain rfl : D5 = u2 - u3 + d1 - d2 + d3 := by omega
        clear e g
        intro V5 e
        have g : (d3 + u1) ≤ ((v0 - v2 + u3) + (u2 - u3 + d1 - d2 + d3)) := by omega
        rw [Int.max_eq_left g] at e
        obtain rfl : V5 = v0 + u2 - u3 - d2 + d3 := by omega
        clear e g
        intro h6 e
        have g : (u1 + (u2 - u3 + d3)) ≤ ((u2 - u3 + d1 - d2 + d3) + u2) := by omega
        rw [Int.max_eq_right g] at e
        obtain rfl : h6 = -v1 + u2 + d1 := by omega
        clear e g
        intro U6 e
        have g : (u1 + (u2 - u3 + d3)) ≤ ((-v1 + u2 + d1) + (v0 + u2 - u3 - d2 + d3)) := by omega
        rw [Int.max_eq_right g] at e
        obtain rfl : U6 = v0 - v1 + u2 := by omega
        clear e g
        intro D6 e
        have g : ((-v1 + u2 + d1) + v3) ≤ (u1 + (u2 - u3 + d3)) := by omega
        rw [Int.max_eq_left g] at e
        obtain rfl : D6 = u1 - u3 + d3 := by omega
        clear e g
        intro V6 e
        have g : ((u2 - u3 + d3) + u1) ≤ ((v0 - v1 + u2) + (u1 - u3 + d3)) := by omega
        rw [Int.max_eq_left g] at e
        obtain rfl : V6 = v0 + u1 - u3 - d1 + d3 := by omega
        clear e g
        exact ⟨rfl, rfl, rfl, rfl, rfl, rfl⟩
      · rw [Int.max_eq_right g] at e
        obtain rfl : D2 = -v2 + v3 + u1 - u2 + d2 := by omega
        clear e
        intro V2 e
        have g : (d3 + u1) ≤ ((v0 - v2 + u1 - u2 + u3 - d1 + d2) + (-v2 + v3 + u1 - u2 + d2)) := by omega
        rw [Int.max_eq_left g] at e
        obtain rfl : V2 = v0 - v2 + v3 + u1 - u2 - d1 + d2 := by omega
        clear e g
        intro h3 e
        have g : ((v0 - v1 + u2) + d3) ≤ (d2 + (v0 - v2 + u1 - u2 + u3 - d1 + d2)) := by omega
        rw [Int.max_eq_right g] at e
        obtain rfl : h3 = -v2 + u3 + d2 := by omega
        clear e g
        intro U3 e
        have g : ((v0 - v1 + u2) + d3) ≤ ((-v2 + u3 + d2) + v0) := by omega
        rw [Int.max_eq_right g] at e
        obtain rfl : U3 = v0 - v2 + u3 := by omega
        clear e g
        intro D3 e
        have g : ((v0 - v1 + u2) + d3) ≤ ((-v2 + u3 + d2) + (v0 - v2 + v3 + u1 - u2 - d1 + d2)) := by omega
        rw [Int.max_eq_right g] at e
        obtain rfl : D3 = -v2 + v3 + d2 := by omega
        clear e g
        intro V3 e
        have g : (d3 + (v0 - v1 + u2)) ≤ ((v0 - v2 + u3) + (-v2 + v3 + d2)) := by omega
        rw [Int.max_eq_left g] at e
        obtain rfl : V3 = v0 - v2 + v3 := by omega
        clear e g
        intro h4 e
        have g : (u2 + d3) ≤ (d2 + u3) := by omega
        rw [Int.max_eq_right g] at e
        obtain rfl : h4 = -v2 + u3 + d2 := by omega
        clear e g
        intro U4 e
        have g : (u2 + d3) ≤ ((-v2 + u3 + d2) + v1) := by omega
        rw [Int.max_eq_right g] at e
        obtain rfl : U4 = v1 - v2 + u3 := by omega
        clear e g
        intro D4 e
        have g : (u2 + d3) ≤ ((-v2 + u3 + d2) + v3) := by omega
        rw [Int.max_eq_right g] at e
        obtain rfl : D4 = -v2 + v3 + d2 := by omega
        clear e g
        intro V4 e
        have g : (d3 + u2) ≤ ((v1 - v2 + u3) + (-v2 + v3 + d2)) := by omega
        rw [Int.max_eq_left g] at e
        obtain rfl : V4 = v1 - v2 + v3 := by omega
        clear e g
        intro h5 e
        have g : (u1 + d3) ≤ (d1 + (v1 - v2 + u3)) := by omega
        rw [Int.max_eq_right g] at e
        obtain rfl : h5 = -v2 + u3 + d1 := by omega
        clear e g
        intro U5 e
        have g : (u1 + d3) ≤ ((-v2 + u3 + d1) + v0) := by omega
        rw [Int.max_eq_right g] at e
        obtain rfl : U5 = v0 - v2 + u3 := by omega
        clear e g
        intro D5 e
        have g : (u1 + d3) ≤ ((-v2 + u3 + d1) + (v1 - v2 + v3)) := by omega
        rw [Int.max_eq_right g] at e
        obtain rfl : D5 = -v2 + v3 + d1 := by omega
        clear e g
        intro V5 e
        have g : (d3 + u1) ≤ ((v0 - v2 + u3) + (-v2 + v3 + d1)) := by omega
        rw [Int.max_eq_left g] at e
        obtain rfl : V5 = v0 - v2 + v3 := by omega
        clear e g
        intro h6 e
        have g : (u1 + (-v2 + v3 + d2)) ≤ ((-v2 + v3 + d1) + u2) := by omega
        rw [Int.max_eq_right g] at e
        obtain rfl : h6 = -v1 + u2 + d1 := by omega
        clear e g
        intro U6 e
        have g : (u1 + (-v2 + v3 + d2)) ≤ ((-v1 + u2 + d1) + (v0 - v2 + v3)) := by omega
        rw [Int.max_eq_right g] at e
        obtain rfl : U6 = v0 - v1 + u2 := by omega
        clear e g
        intro D6 e
        have g : ((-v1 + u2 + d1) + v3) ≤ (u1 + (-v2 + v3 + d2)) := by omega
        rw [Int.max_eq_left g] at e
        obtain rfl : D6 = -v2 + v3 + u1 - u2 + d2 := by omega
        clear e g
        intro V6 e
        have g : ((-v2 + v3 + d2) + u1) ≤ ((v0 - v1 + u2) + (-v2 + v3 + u1 - u2 + d2)) := by omega
        rw [Int.max_eq_left g] at e
        obtain rfl : V6 = v0 - v2 + v3 + u1 - u2 - d1 + d2 := by omega
        clear e g
        exact ⟨rfl, rfl, rfl, rfl, rfl, rfl⟩
  · rw [Int.max_eq_right g] at e
    obtain rfl : V1 = v1 + u1 - u2 - d1 + d2 := by omega
    clear e
    intro h2 e
    rcases Int.le_total ((u1 - u2 + d2) + u3) (u1 + d3) with g | g
    · rw [Int.max_eq_left g] at e
      obtain rfl : h2 = -v2 + u1 + d3 := by omega
      clear e
      intro U2 e
      have g : (u1 + d3) ≤ ((-v2 + u1 + d3) + (v1 + u1 - u2 - d1 + d2)) := by omega
      rw [Int.max_eq_right g] at e
      obtain rfl : U2 = v1 - v2 + u1 - d1 + d3 := by omega
      clear e g
      intro D2 e
      rcases Int.le_total ((-v2 + u1 + d3) + v3) (u1 + d3) with g | g
      · rw [Int.max_eq_left g] at e
        obtain rfl : D2 = u1 - u3 + d3 := by omega
        clear e
        intro V2 e
        have g : (d3 + u1) ≤ ((v1 - v2 + u1 - d1 + d3) + (u1 - u3 + d3)) := by omega
        rw [Int.max_eq_left g] at e
        obtain rfl : V2 = v1 + u1 - u3 - d1 + d3 := by omega
        clear e g
        intro h3 e
        have g : ((v0 - v1 + u2) + d3) ≤ (d2 + (v1 - v2 + u1 - d1 + d3)) := by omega
        rw [Int.max_eq_right g] at e
        obtain rfl : h3 = -v2 + u2 + d3 := by omega
        clear e g
        intro U3 e
        have g : ((v0 - v1 + u2) + d3) ≤ ((-v2 + u2 + d3) + v0) := by omega
        rw [Int.max_eq_right g] at e
        obtain rfl : U3 = v0 - v2 + u2 - d2 + d3 := by omega
        clear e g
        intro D3 e
        have g : ((v0 - v1 + u2) + d3) ≤ ((-v2 + u2 + d3) + (v1 + u1 - u3 - d1 + d3)) := by omega
        rw [Int.max_eq_right g] at e
        obtain rfl : D3 = u2 - u3 + d3 := by omega
        clear e g
        intro V3 e
        have g : (d3 + (v0 - v1 + u2)) ≤ ((v0 - v2 + u2 - d2 + d3) + (u2 - u3 + d3)) := by omega
        rw [Int.max_eq_left g] at e
        obtain rfl : V3 = v0 + u2 - u3 - d2 + d3 := by omega
        clear e g
        intro h4 e
        have g : (d2 + u3) ≤ (u2 + d3) := by omega
        rw [Int.max_eq_left g] at e
        obtain rfl : h4 = -v2 + u2 + d3 := by omega
        clear e g
        intro U4 e
        have g : (u2 + d3) ≤ ((-v2 + u2 + d3) + v1) := by omega
        rw [Int.max_eq_right g] at e
        obtain rfl : U4 = v1 - v2 + u2 - d2 + d3 := by omega
        clear e g
        intro D4 e
        have g : ((-v2 + u2 + d3) + v3) ≤ (u2 + d3) := by omega
        rw [Int.max_eq_left g] at e
        obtain rfl : D4 = u2 - u3 + d3 := by omega
        clear e g
        intro V4 e
        have g : (d3 + u2) ≤ ((v1 - v2 + u2 - d2 + d3) + (u2 - u3 + d3)) := by omega
        rw [Int.max_eq_left g] at e
        obtain rfl : V4 = v1 + u2 - u3 - d2 + d3 := by omega
        clear e g
        intro h5 e
        have g : (u1 + d3) ≤ (d1 + (v1 - v2 + u2 - d2 + d3)) := by omega
        rw [Int.max_eq_right g] at e
        obtain rfl : h5 = -v2 + u2 + d1 - d2 + d3 := by omega
        clear e g
        intro U5 e
        have g : (u1 + d3) ≤ ((-v2 + u2 + d1 - d2 + d3) + v0) := by omega
        rw [Int.max_eq_right g] at e
        obtain rfl : U5 = v0 - v2 + u2 - d2 + d3 := by omega
        clear e g
        intro D5 e
        have g : (u1 + d3) ≤ ((-v2 + u2 + d1 - d2 + d3) + (v1 + u2 - u3 - d2 + d3)) := by omega
        rw [Int.max_eq_right g] at e
        obtain rfl : D5 = u2 - u3 + d1 - d2 + d3 := by omega
        clear e g
        intro V5 e
        have g : (d3 + u1) ≤ ((v0 - v2 + u2 - d2 + d3) + (u2 - u3 + d1 - d2 + d3)) := by omega
        rw [Int.max_eq_left g] at e
        obtain rfl : V5 = v0 + u2 - u3 - d2 + d3 := by omega
        clear e g
        intro h6 e
        have g : (u1 + (u2 - u3 + d3)) ≤ ((u2 - u3 + d1 - d2 + d3) + u2) := by omega
        rw [Int.max_eq_right g] at e
        obtain rfl : h6 = -v1 + u2 + d1 := by omega
        clear e g
        intro U6 e
        have g : (u1 + (u2 - u3 + d3)) ≤ ((-v1 + u2 + d1) + (v0 + u2 - u3 - d2 + d3)) := by omega
        rw [Int.max_eq_right g] at e
        obtain rfl : U6 = v0 - v1 + u2 := by omega
        clear e g
        intro D6 e
        have g : ((-v1 + u2 + d1) + v3) ≤ (u1 + (u2 - u3 + d3)) := by omega
        rw [Int.max_eq_left g] at e
        obtain rfl : D6 = u1 - u3 + d3 := by omega
        clear e g
        intro V6 e
        have g : ((v0 - v1 + u2) + (u1 - u3 + d3)) ≤ ((u2 - u3 + d3) + u1) := by omega
        rw [Int.max_eq_right g] at e
        obtain rfl : V6 = v1 + u1 - u3 - d1 + d3 := by omega
        clear e g
        exact ⟨rfl, rfl, rfl, rfl, rfl, rfl⟩
      · rw [Int.max_eq_right g] at e
        obtain rfl : D2 = -v2 + v3 + u1 - u3 + d3 := by omega
        clear e
        intro V2 e
        have g : (d3 + u1) ≤ ((v1 - v2 + u1 - d1 + d3) + (-v2 + v3 + u1 - u3 + d3)) := by omega
        rw [Int.max_eq_left g] at e
        obtain rfl : V2 = v1 - v2 + v3 + u1 - u3 - d1 + d3 := by omega
        clear e g
        intro h3 e
        have g : ((v0 - v1 + u2) + d3) ≤ (d2 + (v1 - v2 + u1 - d1 + d3)) := by omega
        rw [Int.max_eq_right g] at e
        obtain rfl : h3 = -v2 + u2 + d3 := by omega
        clear e g
        intro U3 e
        have g : ((v0 - v1 + u2) + d3) ≤ ((-v2 + u2 + d3) + v0) := by omega
        rw [Int.max_eq_right g] at e
        obtain rfl : U3 = v0 - v2 + u2 - d2 + d3 := by omega
        clear e g
        intro D3 e
        have g : ((v0 - v1 + u2) + d3) ≤ ((-v2 + u2 + d3) + (v1 - v2 + v3 + u1 - u3 - d1 + d3)) := by omega
        rw [Int.max_eq_right g] at e
        obtain rfl : D3 = -v2 + v3 + u2 - u3 + d3 := by omega
        clear e g
        intro V3 e
        have g : (d3 + (v0 - v1 + u2)) ≤ ((v0 - v2 + u2 - d2 + d3) + (-v2 + v3 + u2 - u3 + d3)) := by omega
        rw [Int.max_eq_left g] at e
        obtain rfl : V3 = v0 - v2 + v3 + u2 - u3 - d2 + d3 := by omega
        clear e g
        intro h4 e
        have g : (d2 + u3) ≤ (u2 + d3) := by omega
        rw [Int.max_eq_left g] at e
        obtain rfl : h4 = -v2 + u2 + d3 := by omega
        clear e g
        intro U4 e
        have g : (u2 + d3) ≤ ((-v2 + u2 + d3) + v1) := by omega
        rw [Int.max_eq_right g] at e
        obtain rfl : U4 = v1 - v2 + u2 - d2 + d3 := by omega
        clear e g
        intro D4 e
        have g : (u2 + d3) ≤ ((-v2 + u2 + d3) + v3) := by omega
        rw [Int.max_eq_right g] at e
        obtain rfl : D4 = -v2 + v3 + u2 - u3 + d3 := by omega
        clear e g
        intro V4 e
        have g : (d3 + u2) ≤ ((v1 - v2 + u2 - d2 + d3) + (-v2 + v3 + u2 - u3 + d3)) := by omega
        rw [Int.max_eq_left g] at e
        obtain rfl : V4 = v1 - v2 + v3 + u2 - u3 - d2 + d3 := by omega
        clear e g
        intro h5 e
        have g : (u1 + d3) ≤ (d1 + (v1 - v2 + u2 - d2 + d3)) := by omega
        rw [Int.max_eq_right g] at e
        obtain rfl : h5 = -v2 + u2 + d1 - d2 + d3 := by omega
        clear e g
        intro U5 e
        have g : (u1 + d3) ≤ ((-v2 + u2 + d1 - d2 + d3) + v0) := by omega
        rw [Int.max_eq_right g] at e
        obtain rfl : U5 = v0 - v2 + u2 - d2 + d3 := by omega
        clear e g
        intro D5 e
        have g : (u1 + d3) ≤ ((-v2 + u2 + d1 - d2 + d3) + (v1 - v2 + v3 + u2 - u3 - d2 + d3)) := by omega
        rw [Int.max_eq_right g] at e
        obtain rfl : D5 = -v2 + v3 + u2 - u3 + d1 - d2 + d3 := by omega
        clear e g
        intro V5 e
        have g : (d3 + u1) ≤ ((v0 - v2 + u2 - d2 + d3) + (-v2 + v3 + u2 - u3 + d1 - d2 + d3)) := by omega
        rw [Int.max_eq_left g] at e
        obtain rfl : V5 = v0 - v2 + v3 + u2 - u3 - d2 + d3 := by omega
        clear e g
        intro h6 e
        have g : (u1 + (-v2 + v3 + u2 - u3 + d3)) ≤ ((-v2 + v3 + u2 - u3 + d1 - d2 + d3) + u2) := by omega
        rw [Int.max_eq_right g] at e
        obtain rfl : h6 = -v1 + u2 + d1 := by omega
        clear e g
        intro U6 e
        have g : (u1 + (-v2 + v3 + u2 - u3 + d3)) ≤ ((-v1 + u2 + d1) + (v0 - v2 + v3 + u2 - u3 - d2 + d3)) := by omega
        rw [Int.max_eq_right g] at e
        obtain rfl : U6 = v0 - v1 + u2 := by omega
        clear e g
        intro D6 e
        have g : ((-v1 + u2 + d1) + v3) ≤ (u1 + (-v2 + v3 + u2 - u3 + d3)) := by omega
        rw [Int.max_eq_left g] at e
        obtain rfl : D6 = -v2 + v3 + u1 - u3 + d3 := by omega
        clear e g
        intro V6 e
        have g : ((v0 - v1 + u2) + (-v2 + v3 + u1 - u3 + d3)) ≤ ((-v2 + v3 + u2 - u3 + d3) + u1) := by omega
        rw [Int.max_eq_right g] at e
        obtain rfl : V6 = v1 - v2 + v3 + u1 - u3 - d1 + d3 := by omega
        clear e g
        exact ⟨rfl, rfl, rfl, rfl, rfl, rfl⟩
    · rw [Int.max_eq_right g] at e
      obtain rfl : h2 = -v2 + u1 - u2 + u3 + d2 := by omega
      clear e
      intro U2 e
      have g : (u1 + d3) ≤ ((-v2 + u1 - u2 + u3 + d2) + (v1 + u1 - u2 - d1 + d2)) := by omega
      rw [Int.max_eq_right g] at e
      obtain rfl : U2 = v1 - v2 + u1 - u2 + u3 - d1 + d2 := by omega
      clear e g
      intro D2 e
      rcases Int.le_total ((-v2 + u1 - u2 + u3 + d2) + v3) (u1 + d3) with g | g
      · rw [Int.max_eq_left g] at e
        obtain rfl : D2 = u1 - u3 + d3 := by omega
        clear e
        intro V2 e
        have g : (d3 + u1) ≤ ((v1 - v2 + u1 - u2 + u3 - d1 + d2) + (u1 - u3 + d3)) := by omega
        rw [Int.max_eq_left g] at e
        obtain rfl : V2 = v1 + u1 - u3 - d1 + d3 := by omega
        clear e g
        intro h3 e
        have g : ((v0 - v1 + u2) + d3) ≤ (d2 + (v1 - v2 + u1 - u2 + u3 - d1 + d2)) := by omega
        rw [Int.max_eq_right g] at e
        obtain rfl : h3 = -v2 + u3 + d2 := by omega
        clear e g
        intro U3 e
        have g : ((v0 - v1 + u2) + d3) ≤ ((-v2 + u3 + d2) + v0) := by omega
        rw [Int.max_eq_right g] at e
        obtain rfl : U3 = v0 - v2 + u3 := by omega
        clear e g
        intro D3 e
        have g : ((v0 - v1 + u2) + d3) ≤ ((-v2 + u3 + d2) + (v1 + u1 - u3 - d1 + d3)) := by omega
        rw [Int.max_eq_right g] at e
        obtain rfl : D3 = u2 - u3 + d3 := by omega
        clear e g
        intro V3 e
        have g : (d3 + (v0 - v1 + u2)) ≤ ((v0 - v2 + u3) + (u2 - u3 + d3)) := by omega
        rw [Int.max_eq_left g] at e
        obtain rfl : V3 = v0 + u2 - u3 - d2 + d3 := by omega
        clear e g
        intro h4 e
        have g : (u2 + d3) ≤ (d2 + u3) := by omega
        rw [Int.max_eq_right g] at e
        obtain rfl : h4 = -v2 + u3 + d2 := by omega
        clear e g
        intro U4 e
        have g : (u2 + d3) ≤ ((-v2 + u3 + d2) + v1) := by omega
        rw [Int.max_eq_right g] at e
        obtain rfl : U4 = v1 - v2 + u3 := by omega
        clear e g
        intro D4 e
        have g : ((-v2 + u3 + d2) + v3) ≤ (u2 + d3) := by omega
        rw [Int.max_eq_left g] at e
        obtain rfl : D4 = u2 - u3 + d3 := by omega
        clear e g
        intro V4 e
        have g : (d3 + u2) ≤ ((v1 - v2 + u3) + (u2 - u3 + d3)) := by omega
        rw [Int.max_eq_left g] at e
        obtain rfl : V4 = v1 + u2 - u3 - d2 + d3 := by omega
        clear e g
        intro h5 e
        have g : (u1 + d3) ≤ (d1 + (v1 - v2 + u3)) := by omega
        rw [Int.max_eq_right g] at e
        obtain rfl : h5 = -v2 + u3 + d1 := by omega
        clear e g
        intro U5 e
        have g : (u1 + d3) ≤ ((-v2 + u3 + d1) + v0) := by omega
        rw [Int.max_eq_right g] at e
        obtain rfl : U5 = v0 - v2 + u3 := by omega
        clear e g
        intro D5 e
        have g : (u1 + d3) ≤ ((-v2 + u3 + d1) + (v1 + u2 - u3 - d2 + d3)) := by omega
        rw [Int.max_eq_right g] at e
        obtain rfl : D5 = u2 - u3 + d1 - d2 + d3 := by omega
        clear e g
        intro V5 e
        have g : (d3 + u1) ≤ ((v0 - v2 + u3) + (u2 - u3 + d1 - d2 + d3)) := by omega
        rw [Int.max_eq_left g] at e
        obtain rfl : V5 = v0 + u2 - u3 - d2 + d3 := by omega
        clear e g
        intro h6 e
        have g : (u1 + (u2 - u3 + d3)) ≤ ((u2 - u3 + d1 - d2 + d3) + u2) := by omega
        rw [Int.max_eq_right g] at e
        obtain rfl : h6 = -v1 + u2 + d1 := by omega
        clear e g
        intro U6 e
        have g : (u1 + (u2 - u3 + d3)) ≤ ((-v1 + u2 + d1) + (v0 + u2 - u3 - d2 + d3)) := by omega
        rw [Int.max_eq_right g] at e
        obtain rfl : U6 = v0 - v1 + u2 := by omega
        clear e g
        intro D6 e
        have g : ((-v1 + u2 + d1) + v3) ≤ (u1 + (u2 - u3 + d3)) := by omega
        rw [Int.max_eq_left g] at e
        obtain rfl : D6 = u1 - u3 + d3 := by omega
        clear e g
        intro V6 e
        have g : ((v0 - v1 + u2) + (u1 - u3 + d3)) ≤ ((u2 - u3 + d3) + u1) := by omega
        rw [Int.max_eq_right g] at e
        obtain rfl : V6 = v1 + u1 - u3 - d1 + d3 := by omega
        clear e g
        exact ⟨rfl, rfl, rfl, rfl, rfl, rfl⟩
      · rw [Int.max_eq_right g] at e
        obtain rfl : D2 = -v2 + v3 + u1 - u2 + d2 := by omega
        clear e
        intro V2 e
        have g : (d3 + u1) ≤ ((v1 - v2 + u1 - u2 + u3 - d1 + d2) + (-v2 + v3 + u1 - u2 + d2)) := by omega
        rw [Int.max_eq_left g] at e
        obtain rfl : V2 = v1 - v2 + v3 + u1 - u2 - d1 + d2 := by omega
        clear e g
        intro h3 e
        have g : ((v0 - v1 + u2) + d3) ≤ (d2 + (v1 - v2 + u1 - u2 + u3 - d1 + d2)) := by omega
        rw [Int.max_eq_right g] at e
        obtain rfl : h3 = -v2 + u3 + d2 := by omega
        clear e g
        intro U3 e
        have g : ((v0 - v1 + u2) + d3) ≤ ((-v2 + u3 + d2) + v0) := by omega
        rw [Int.max_eq_right g] at e
        obtain rfl : U3 = v0 - v2 + u3 := by omega
        clear e g
        intro D3 e
        have g : ((v0 - v1 + u2) + d3) ≤ ((-v2 + u3 + d2) + (v1 - v2 + v3 + u1 - u2 - d1 + d2)) := by omega
        rw [Int.max_eq_right g] at e
        obtain rfl : D3 = -v2 + v3 + d2 := by omega
        clear e g
        intro V3 e
        have g : (d3 + (v0 - v1 + u2)) ≤ ((v0 - v2 + u3) + (-v2 + v3 + d2)) := by omega
        rw [Int.max_eq_left g] at e
        obtain rfl : V3 = v0 - v2 + v3 := by omega
        clear e g
        intro h4 e
        have g : (u2 + d3) ≤ (d2 + u3) := by omega
        rw [Int.max_eq_right g] at e
        obtain rfl : h4 = -v2 + u3 + d2 := by omega
        clear e g
        intro U4 e
        have g : (u2 + d3) ≤ ((-v2 + u3 + d2) + v1) := by omega
        rw [Int.max_eq_right g] at e
        obtain rfl : U4 = v1 - v2 + u3 := by omega
        clear e g
        intro D4 e
        have g : (u2 + d3) ≤ ((-v2 + u3 + d2) + v3) := by omega
        rw [Int.max_eq_right g] at e
        obtain rfl : D4 = -v2 + v3 + d2 := by omega
        clear e g
        intro V4 e
        have g : (d3 + u2) ≤ ((v1 - v2 + u3) + (-v2 + v3 + d2)) := by omega
        rw [Int.max_eq_left g] at e
        obtain rfl : V4 = v1 - v2 + v3 := by omega
        clear e g
        intro h5 e
        have g : (u1 + d3) ≤ (d1 + (v1 - v2 + u3)) := by omega
        rw [Int.max_eq_right g] at e
        obtain rfl : h5 = -v2 + u3 + d1 := by omega
        clear e g
        intro U5 e
        have g : (u1 + d3) ≤ ((-v2 + u3 + d1) + v0) := by omega
        rw [Int.max_eq_right g] at e
        obtain rfl : U5 = v0 - v2 + u3 := by omega
        clear e g
        intro D5 e
        have g : (u1 + d3) ≤ ((-v2 + u3 + d1) + (v1 - v2 + v3)) := by omega
        rw [Int.max_eq_right g] at e
        obtain rfl : D5 = -v2 + v3 + d1 := by omega
        clear e g
        intro V5 e
        have g : (d3 + u1) ≤ ((v0 - v2 + u3) + (-v2 + v3 + d1)) := by omega
        rw [Int.max_eq_left g] at e
        obtain rfl : V5 = v0 - v2 + v3 := by omega
        clear e g
        intro h6 e
        have g : (u1 + (-v2 + v3 + d2)) ≤ ((-v2 + v3 + d1) + u2) := by omega
        rw [Int.max_eq_right g] at e
        obtain rfl : h6 = -v1 + u2 + d1 := by omega
        clear e g
        intro U6 e
        have g : (u1 + (-v2 + v3 + d2)) ≤ ((-v1 + u2 + d1) + (v0 - v2 + v3)) := by omega
        rw [Int.max_eq_right g] at e
        obtain rfl : U6 = v0 - v1 + u2 := by omega
        clear e g
        intro D6 e
        have g : ((-v1 + u2 + d1) + v3) ≤ (u1 + (-v2 + v3 + d2)) := by omega
        rw [Int.max_eq_left g] at e
        obtain rfl : D6 = -v2 + v3 + u1 - u2 + d2 := by omega
        clear e g
        intro V6 e
        have g : ((v0 - v1 + u2) + (-v2 + v3 + u1 - u2 + d2)) ≤ ((-v2 + v3 + d2) + u1) := by omega
        rw [Int.max_eq_right g] at e
        obtain rfl : V6 = v1 - v2 + v3 + u1 - u2 - d1 + d2 := by omega
        clear e g
        exact ⟨rfl, rfl, rfl, rfl, rfl, rfl⟩
set_option maxHeartbeats 4000000 in
set_option maxRecDepth 100000 in
theorem dy_c25 (v0 v1 v2 v3 u1 u2 u3 d1 d2 d3 : Int) (g0 : u1 + d2 ≤ u2 + d1) (g1 : v1 + u1 + d2 ≤ v0 + u2 + d1) (g2 : v1 + u1 + d2 ≤ v2 + u2 + d1) (g3 : 2 * v1 + u1 + d2 ≤ v0 + v2 + u2 + d1) (g4 : v2 + u3 + d1 ≤ v1 + u1 + d3) : ∀ U2 : Int, U2 = max (u1 + d3) ((-v2 + u1 + d3) + (v0 - v1 + v2)) - (-v1 + v2 + d1) → ∀ D2 : Int, D2 = max (u1 + d3) ((-v2 + u1 + d3) + v3) - u3 → ∀ V2 : Int, V2 = max (U2 + D2) (d3 + u1) - (-v2 + u1 + d3) → ∀ h3 : Int, h3 = max ((v0 - v1 + u2) + d3) (d2 + U2) - (v0 - v1 + v2) → ∀ U3 : Int, U3 = max ((v0 - v1 + u2) + d3) (h3 + v0) - d2 → ∀ D3 : Int, D3 = max ((v0 - v1 + u2) + d3) (h3 + V2) - U2 → ∀ V3 : Int, V3 = max (U3 + D3) (d3 + (v0 - v1 + u2)) - h3 → ∀ h4 : Int, h4 = max (u2 + d3) (d2 + u3) - v2 → ∀ U4 : Int, U4 = max (u2 + d3) (h4 + v1) - d2 → ∀ D4 : Int, D4 = max (u2 + d3) (h4 + v3) - u3 → ∀ V4 : Int, V4 = max (U4 + D4) (d3 + u2) - h4 → ∀ h5 : Int, h5 = max (u1 + d3) (d1 + U4) - v1 → ∀ U5 : Int, U5 = max (u1 + d3) (h5 + v0) - d1 → ∀ D5 : Int, D5 = max (u1 + d3) (h5 + V4) - U4 → ∀ V5 : Int, V5 = max (U5 + D5) (d3 + u1) - h5 → ∀ h6 : Int, h6 = max (u1 + D4) (D5 + u2) - V4 → ∀ U6 : Int, U6 = max (u1 + D4) (h6 + V5) - D5 → ∀ D6 : Int, D6 = max (u1 + D4) (h6 + v3) - u2 → ∀ V6 : Int, V6 = max (U6 + D6) (D4 + u1) - h6 → V3 = V5 ∧ U3 = U5 ∧ V2 = V6 ∧ (v0 - v1 + u2) = U6 ∧ D3 = D4 ∧ D2 = D6 := by
  intro U2 e
  rcases Int.le_total ((-v2 + u1 + d3) + (v0 - v1 + v2)) (u1 + d3) with g | g
  · rw [Int.max_eq_left g] at e
    obtain rfl : U2 = v1 - v2 + u1 - d1 + d3 := by omega
    clear e
    intro D2 e
    rcases Int.le_total ((-v2 + u1 + d3) + v3) (u1 + d3) with g | g
    · rw [Int.max_eq_left g] at e
      obtain rfl : D2 = u1 - u3 + d3 := by omega
      clear e
      intro V2 e
      have g : (d3 + u1) ≤ ((v1 - v2 + u1 - d1 + d3) + (u1 - u3 + d3)) := by omega
      rw [Int.max_eq_left g] at e
      obtain rfl : V2 = v1 + u1 - u3 - d1 + d3 := by omega
      clear e g
      intro h3 e
      have g : (d2 + (v1 - v2 + u1 - d1 + d3)) ≤ ((v0 - v1 + u2) + d3) := by omega
      rw [Int.max_eq_left g] at e
      obtain rfl : h3 = -v2 + u2 + d3 := by omega
      clear e g
      intro U3 e
      rcases Int.le_total ((-v2 + u2 + d3) + v0) ((v0 - v1 + u2) + d3) with g | g
      · rw [Int.max_eq_left g] at e
        obtain rfl : U3 = v0 - v1 + u2 - d2 + d3 := by omega
        clear e
        intro D3 e
        have g : ((v0 - v1 + u2) + d3) ≤ ((-v2 + u2 + d3) + (v1 + u1 - u3 - d1 + d3)) := by omega
        rw [Int.max_eq_right g] at e
        obtain rfl : D3 = u2 - u3 + d3 := by omega
        clear e g
        intro V3 e
        have g : (d3 + (v0 - v1 + u2)) ≤ ((v0 - v1 + u2 - d2 + d3) + (u2 - u3 + d3)) := by omega
        rw [Int.max_eq_left g] at e
        obtain rfl : V3 = v0 - v1 + v2 + u2 - u3 - d2 + d3 := by omega
        clear e g
        intro h4 e
        have g : (d2 + u3) ≤ (u2 + d3) := by omega
        rw [Int.max_eq_left g] at e
        obtain rfl : h4 = -v2 + u2 + d3 := by omega
        clear e g
        intro U4 e
        have g : ((-v2 + u2 + d3) + v1) ≤ (u2 + d3) := by omega
        rw [Int.max_eq_left g] at e
        obtain rfl : U4 = u2 - d2 + d3 := by omega
        clear e g
        intro D4 e
        have g : ((-v2 + u2 + d3) + v3) ≤ (u2 + d3) := by omega
        rw [Int.max_eq_left g] at e
        obtain rfl : D4 = u2 - u3 + d3 := by omega
        clear e g
        intro V4 e
        have g : (d3 + u2) ≤ ((u2 - d2 + d3) + (u2 - u3 + d3)) := by omega
        rw [Int.max_eq_left g] at e
        obtain rfl : V4 = v2 + u2 - u3 - d2 + d3 := by omega
        clear e g
        intro h5 e
        have g : (u1 + d3) ≤ (d1 + (u2 - d2 + d3)) := by omega
        rw [Int.max_eq_right g] at e
        obtain rfl : h5 = -v1 + u2 + d1 - d2 + d3 := by omega
        clear e g
        intro U5 e
        have g : (u1 + d3) ≤ ((-v1 + u2 + d1 - d2 + d3) + v0) := by omega
        rw [Int.max_eq_right g] at e
        obtain rfl : U5 = v0 - v1 + u2 - d2 + d3 := by omega
        clear e g
        intro D5 e
        have g : (u1 + d3) ≤ ((-v1 + u2 + d1 - d2 + d3) + (v2 + u2 - u3 - d2 + d3)) := by omega
        rw [Int.max_eq_right g] at e
        obtain rfl : D5 = -v1 + v2 + u2 - u3 + d1 - d2 + d3 := by omega
        clear e g
        intro V5 e
        have g : (d3 + u1) ≤ ((v0 - v1 + u2 - d2 + d3) + (-v1 + v2 + u2 - u3 + d1 - d2 + d3)) := by omega
        rw [Int.max_eq_left g] at e
        obtain rfl : V5 = v0 - v1 + v2 + u2 - u3 - d2 + d3 := by omega
        clear e g
        intro h6 e
        have g : (u1 + (u2 - u3 + d3)) ≤ ((-v1 + v2 + u2 - u3 + d1 - d2 + d3) + u2) := by omega
        rw [Int.max_eq_right g] at e
        obtain rfl : h6 = -v1 + u2 + d1 := by omega
        clear e g
        intro U6 e
        have g : (u1 + (u2 - u3 + d3)) ≤ ((-v1 + u2 + d1) + (v0 - v1 + v2 + u2 - u3 - d2 + d3)) := by omega
        rw [Int.max_eq_right g] at e
        obtain rfl : U6 = v0 - v1 + u2 := by omega
        clear e g
        intro D6 e
        have g : ((-v1 + u2 + d1) + v3) ≤ (u1 + (u2 - u3 + d3)) := by omega
        rw [Int.max_eq_left g] at e
        obtain rfl : D6 = u1 - u3 + d3 := by omega
        clear e g
        intro V6 e
        have g : ((v0 - v1 + u2) + (u1 - u3 + d3)) ≤ ((u2 - u3 + d3) + u1) := by omega
        rw [Int.max_eq_right g] at e
        obtain rfl : V6 = v1 + u1 - u3 - d1 + d3 := by omega
        clear e g
        exact ⟨rfl, rfl, rfl, rfl, rfl, rfl⟩
      · rw [Int.max_eq_right g] at e
        obtain rfl : U3 = v0 - v2 + u2 - d2 + d3 := by omega
        clear e
        intro D3 e
        have g : ((v0 - v1 + u2) + d3) ≤ ((-v2 + u2 + d3) + (v1 + u1 - u3 - d1 + d3)) := by omega
        rw [Int.max_eq_right g] at e
        obtain rfl : D3 = u2 - u3 + d3 := by omega
        clear e g
        intro V3 e
        have g : (d3 + (v0 - v1 + u2)) ≤ ((v0 - v2 + u2 - d2 + d3) + (u2 - u3 + d3)) := by omega
        rw [Int.max_eq_left g] at e
        obtain rfl : V3 = v0 + u2 - u3 - d2 + d3 := by omega
        clear e g
        intro h4 e
        have g : (d2 + u3) ≤ (u2 + d3) := by omega
        rw [Int.max_eq_left g] at e
        obtain rfl : h4 = -v2 + u2 + d3 := by omega
        clear e g
        intro U4 e
        have g : (u2 + d3) ≤ ((-v2 + u2 + d3) + v1) := by omega
        rw [Int.max_eq_right g] at e
        obtain rfl : U4 = v1 - v2 + u2 - d2 + d3 := by omega
        clear e g
        intro D4 e
        have g : ((-v2 + u2 + d3) + v3) ≤ (u2 + d3) := by omega
        rw [Int.max_eq_left g] at e
        obtain rfl : D4 = u2 - u3 + d3 := by omega
        clear e g
        intro V4 e
        have g : (d3 + u2) ≤ ((v1 - v2 + u2 - d2 + d3) + (u2 - u3 + d3)) := by omega
        rw [Int.max_eq_left g] at e
        obtain rfl : V4 = v1 + u2 - u3 - d2 + d3 := by omega
        clear e g
        intro h5 e
        have g : (u1 + d3) ≤ (d1 + (v1 - v2 + u2 - d2 + d3)) := by omega
        rw [Int.max_eq_right g] at e
        obtain rfl : h5 = -v2 + u2 + d1 - d2 + d3 := by omega
        clear e g
        intro U5 e
        have g : (u1 + d3) ≤ ((-v2 + u2 + d1 - d2 + d3) + v0) := by omega
        rw [Int.max_eq_right g] at e
        obtain rfl : U5 = v0 - v2 + u2 - d2 + d3 := by omega
        clear e g
        intro D5 e
        have g : (u1 + d3) ≤ ((-v2 + u2 + d1 - d2 + d3) + (v1 + u2 - u3 - d2 + d3)) := by omega
        rw [Int.max_eq_right g] at e
        obtain rfl : D5 = u2 - u3 + d1 - d2 + d3 := by omega
        clear e g
        intro V5 e
        have g : (d3 + u1) ≤ ((v0 - v2 + u2 - d2 + d3) + (u2 - u3 + d1 - d2 + d3)) := by omega
        rw [Int.max_eq_left g] at e
        obtain rfl : V5 = v0 + u2 - u3 - d2 + d3 := by omega
        clear e g
        intro h6 e
        have g : (u1 + (u2 - u3 + d3)) ≤ ((u2 - u3 + d1 - d2 + d3) + u2) := by omega
        rw [Int.max_eq_right g] at e
        obtain rfl : h6 = -v1 + u2 + d1 := by omega
        clear e g
        intro U6 e
        have g : (u1 + (u2 - u3 + d3)) ≤ ((-v1 + u2 + d1) + (v0 + u2 - u3 - d2 + d3)) := by omega
        rw [Int.max_eq_right g] at e
        obtain rfl : U6 = v0 - v1 + u2 := by omega
        clear e g
        intro D6 e
        have g : ((-v1 + u2 + d1) + v3) ≤ (u1 + (u2 - u3 + d3)) := by omega
        rw [Int.max_eq_left g] at e
        obtain rfl : D6 = u1 - u3 + d3 := by omega
        clear e g
        intro V6 e
        have g : ((v0 - v1 + u2) + (u1 - u3 + d3)) ≤ ((u2 - u3 + d3) + u1) := by omega
        rw [Int.max_eq_right g] at e
        obtain rfl : V6 = v1 + u1 - u3 - d1 + d3 := by omega
        clear e g
        exact ⟨rfl, rfl, rfl, rfl, rfl, rfl⟩
    · rw [Int.max_eq_right g] at e
      obtain rfl : D2 = -v2 + v3 + u1 - u3 + d3 := by omega
      clear e
      intro V2 e
      have g : (d3 + u1) ≤ ((v1 - v2 + u1 - d1 + d3) + (-v2 + v3 + u1 - u3 + d3)) := by omega
      rw [Int.max_eq_left g] at e
      obtain rfl : V2 = v1 - v2 + v3 + u1 - u3 - d1 + d3 := by omega
      clear e g
      intro h3 e
      have g : (d2 + (v1 - v2 + u1 - d1 + d3)) ≤ ((v0 - v1 + u2) + d3) := by omega
      rw [Int.max_eq_left g] at e
      obtain rfl : h3 = -v2 + u2 + d3 := by omega
      clear e g
      intro U3 e
      rcases Int.le_total ((-v2 + u2 + d3) + v0) ((v0 - v1 + u2) + d3) with g | g
      · rw [Int.max_eq_left g] at e
        obtain rfl : U3 = v0 - v1 + u2 - d2 + d3 := by omega
        clear e
        intro D3 e
        have g : ((v0 - v1 + u2) + d3) ≤ ((-v2 + u2 + d3) + (v1 - v2 + v3 + u1 - u3 - d1 + d3)) := by omega
        rw [Int.max_eq_right g] at e
        obtain rfl : D3 = -v2 + v3 + u2 - u3 + d3 := by omega
        clear e g
        intro V3 e
        have g : (d3 + (v0 - v1 + u2)) ≤ ((v0 - v1 + u2 - d2 + d3) + (-v2 + v3 + u2 - u3 + d3)) := by omega
        rw [Int.max_eq_left g] at e
        obtain rfl : V3 = v0 - v1 + v3 + u2 - u3 - d2 + d3 := by omega
        clear e g
        intro h4 e
        have g : (d2 + u3) ≤ (u2 + d3) := by omega
        rw [Int.max_eq_left g] at e
        obtain rfl : h4 = -v2 + u2 + d3 := by omega
        clear e g
        intro U4 e
        have g : ((-v2 + u2 + d3) + v1) ≤ (u2 + d3) := by omega
        rw [Int.max_eq_left g] at e
        obtain rfl : U4 = u2 - d2 + d3 := by omega
        clear e g
        intro D4 e
        have g : (u2 + d3) ≤ ((-v2 + u2 + d3) + v3) := by omega
        rw [Int.max_eq_right g] at e
        obtain rfl : D4 = -v2 + v3 + u2 - u3 + d3 := by omega
        clear e g
        intro V4 e
        have g : (d3 + u2) ≤ ((u2 - d2 + d3) + (-v2 + v3 + u2 - u3 + d3)) := by omega
        rw [Int.max_eq_left g] at e
        obtain rfl : V4 = v3 + u2 - u3 - d2 + d3 := by omega
        clear e g
        intro h5 e
        have g : (u1 + d3) ≤ (d1 + (u2 - d2 + d3)) := by omega
        rw [Int.max_eq_right g] at e
        obtain rfl : h5 = -v1 + u2 + d1 - d2 + d3 := by omega
        clear e g
        intro U5 e
        have g : (u1 + d3) ≤ ((-v1 + u2 + d1 - d2 + d3) + v0) := by omega
        rw [Int.max_eq_right g] at e
        obtain rfl : U5 = v0 - v1 + u2 - d2 + d3 := by omega
        clear e g
        intro D5 e
        have g : (u1 + d3) ≤ ((-v1 + u2 + d1 - d2 + d3) + (v3 + u2 - u3 - d2 + d3)) := by omega
        rw [Int.max_eq_right g] at e
        obtain rfl : D5 = -v1 + v3 + u2 - u3 + d1 - d2 + d3 := by omega
        clear e g
        intro V5 e
        have g : (d3 + u1) ≤ ((v0 - v1 + u2 - d2 + d3) + (-v1 + v3 + u2 - u3 + d1 - d2 + d3)) := by omega
        rw [Int.max_eq_left g] at e
        obtain rfl : V5 = v0 - v1 + v3 + u2 - u3 - d2 + d3 := by omega
        clear e g
        intro h6 e
        have g : (u1 + (-v2 + v3 + u2 - u3 + d3)) ≤ ((-v1 + v3 + u2 - u3 + d1 - d2 + d3) + u2) := by omega
        rw [Int.max_eq_right g] at e
        obtain rfl : h6 = -v1 + u2 + d1 := by omega
        clear e g
        intro U6 e
        have g : (u1 + (-v2 + v3 + u2 - u3 + d3)) ≤ ((-v1 + u2 + d1) + (v0 - v1 + v3 + u2 - u3 - d2 + d3)) := by omega
        rw [Int.max_eq_right g] at e
        obtain rfl : U6 = v0 - v1 + u2 := by omega
        clear e g
        intro D6 e
        have g : ((-v1 + u2 + d1) + v3) ≤ (u1 + (-v2 + v3 + u2 - u3 + d3)) := by omega
        rw [Int.max_eq_left g] at e
        obtain rfl : D6 = -v2 + v3 + u1 - u3 + d3 := by omega
        clear e g
        intro V6 e
        have g : ((v0 - v1 + u2) + (-v2 + v3 + u1 - u3 + d3)) ≤ ((-v2 + v3 + u2 - u3 + d3) + u1) := by omega
        rw [Int.max_eq_right g] at e
        obtain rfl : V6 = v1 - v2 + v3 + u1 - u3 - d1 + d3 := by omega
        clear e g
        exact ⟨rfl, rfl, rfl, rfl, rfl, rfl⟩
      · rw [Int.max_eq_right g] at e
        obtain rfl : U3 = v0 - v2 + u2 - d2 + d3 := by omega
        clear e
        intro D3 e
        have g : ((v0 - v1 + u2) + d3) ≤ ((-v2 + u2 + d3) + (v1 - v2 + v3 + u1 - u3 - d1 + d3)) := by omega
        rw [Int.max_eq_right g] at e
        obtain rfl : D3 = -v2 + v3 + u2 - u3 + d3 := by omega
        clear e g
        intro V3 e
        have g : (d3 + (v0 - v1 + u2)) ≤ ((v0 - v2 + u2 - d2 + d3) + (-v2 + v3 + u2 - u3 + d3)) := by omega
        rw [Int.max_eq_left g] at e
        obtain rfl : V3 = v0 - v2 + v3 + u2 - u3 - d2 + d3 := by omega
        clear e g
        intro h4 e
        have g : (d2 + u3) ≤ (u2 + d3) := by omega
        rw [Int.max_eq_left g] at e
        obtain rfl : h4 = -v2 + u2 + d3 := by omega
        clear e g
        intro U4 e
        have g : (u2 + d3) ≤ ((-v2 + u2 + d3) + v1) := by omega
        rw [Int.max_eq_right g] at e
        obtain rfl : U4 = v1 - v2 + u2 - d2 + d3 := by omega
        clear e g
        intro D4 e
        have g : (u2 + d3) ≤ ((-v2 + u2 + d3) + v3) := by omega
        rw [Int.max_eq_right g] at e
        obtain rfl : D4 = -v2 + v3 + u2 - u3 + d3 := by omega
        clear e g
        intro V4 e
        have g : (d3 + u2) ≤ ((v1 - v2 + u2 - d2 + d3) + (-v2 + v3 + u2 - u3 + d3)) := by omega
        rw [Int.max_eq_left g] at e
        obtain rfl : V4 = v1 - v2 + v3 + u2 - u3 - d2 + d3 := by omega
        clear e g
        intro h5 e
        have g : (u1 + d3) ≤ (d1 + (v1 - v2 + u2 - d2 + d3)) := by omega
        rw [Int.max_eq_right g] at e
        obtain rfl : h5 = -v2 + u2 + d1 - d2 + d3 := by omega
        clear e g
        intro U5 e
        have g : (u1 + d3) ≤ ((-v2 + u2 + d1 - d2 + d3) + v0) := by omega
        rw [Int.max_eq_right g] at e
        obtain rfl : U5 = v0 - v2 + u2 - d2 + d3 := by omega
        clear e g
        intro D5 e
        have g : (u1 + d3) ≤ ((-v2 + u2 + d1 - d2 + d3) + (v1 - v2 + v3 + u2 - u3 - d2 + d3)) := by omega
        rw [Int.max_eq_right g] at e
        obtain rfl : D5 = -v2 + v3 + u2 - u3 + d1 - d2 + d3 := by omega
        clear e g
        intro V5 e
        have g : (d3 + u1) ≤ ((v0 - v2 + u2 - d2 + d3) + (-v2 + v3 + u2 - u3 + d1 - d2 + d3)) := by omega
        rw [Int.max_eq_left g] at e
        obtain rfl : V5 = v0 - v2 + v3 + u2 - u3 - d2 + d3 := by omega
        clear e g
        intro h6 e
        have g : (u1 + (-v2 + v3 + u2 - u3 + d3)) ≤ ((-v2 + v3 + u2 - u3 + d1 - d2 + d3) + u2) := by omega
        rw [Int.max_eq_right g] at e
        obtain rfl : h6 = -v1 + u2 + d1 := by omega
        clear e g
        intro U6 e
        have g : (u1 + (-v2 + v3 + u2 - u3 + d3)) ≤ ((-v1 + u2 + d1) + (v0 - v2 + v3 + u2 - u3 - d2 + d3)) := by omega
        rw [Int.max_eq_right g] at e
        obtain rfl : U6 = v0 - v1 + u2 := by omega
        clear e g
        intro D6 e
        have g : ((-v1 + u2 + d1) + v3) ≤ (u1 + (-v2 + v3 + u2 - u3 + d3)) := by omega
        rw [Int.max_eq_left g] at e
        obtain rfl : D6 = -v2 + v3 + u1 - u3 + d3 := by omega
        clear e g
        intro V6 e
        have g : ((v0 - v1 + u2) + (-v2 + v3 + u1 - u3 + d3)) ≤ ((-v2 + v3 + u2 - u3 + d3) + u1) := by omega
        rw [Int.max_eq_right g] at e
        obtain rfl : V6 = v1 - v2 + v3 + u1 - u3 - d1 + d3 := by omega
        clear e g
        exact ⟨rfl, rfl, rfl, rfl, rfl, rfl⟩
  · rw [Int.max_eq_right g] at e
    obtain rfl : U2 = v0 - v2 + u1 - d1 + d3 := by omega
    clear e
    intro D2 e
    rcases Int.le_total ((-v2 + u1 + d3) + v3) (u1 + d3) with g | g
    · rw [Int.max_eq_left g] at e
      obtain rfl : D2 = u1 - u3 + d3 := by omega
      clear e
      intro V2 e
      have g : (d3 + u1) ≤ ((v0 - v2 + u1 - d1 + d3) + (u1 - u3 + d3)) := by omega
      rw [Int.max_eq_left g] at e
      obtain rfl : V2 = v0 + u1 - u3 - d1 + d3 := by omega
      clear e g
      intro h3 e
      have g : (d2 + (v0 - v2 + u1 - d1 + d3)) ≤ ((v0 - v1 + u2) + d3) := by omega
      rw [Int.max_eq_left g] at e
      obtain rfl : h3 = -v2 + u2 + d3 := by omega
      clear e g
      intro U3 e
      rcases Int.le_total ((-v2 + u2 + d3) + v0) ((v0 - v1 + u2) + d3) with g | g
      · rw [Int.max_eq_left g] at e
        obtain rfl : U3 = v0 - v1 + u2 - d2 + d3 := by omega
        clear e
        intro D3 e
        have g : ((v0 - v1 + u2) + d3) ≤ ((-v2 + u2 + d3) + (v0 + u1 - u3 - d1 + d3)) := by omega
        rw [Int.max_eq_right g] at e
        obtain rfl : D3 = u2 - u3 + d3 := by omega
        clear e g
        intro V3 e
        have g : (d3 + (v0 - v1 + u2)) ≤ ((v0 - v1 + u2 - d2 + d3) + (u2 - u3 + d3)) := by omega
        rw [Int.max_eq_left g] at e
        obtain rfl : V3 = v0 - v1 + v2 + u2 - u3 - d2 + d3 := by omega
        clear e g
        intro h4 e
        have g : (d2 + u3) ≤ (u2 + d3) := by omega
        rw [Int.max_eq_left g] at e
        obtain rfl : h4 = -v2 + u2 + d3 := by omega
        clear e g
        intro U4 e
        have g : ((-v2 + u2 + d3) + v1) ≤ (u2 + d3) := by omega
        rw [Int.max_eq_left g] at e
        obtain rfl : U4 = u2 - d2 + d3 := by omega
        clear e g
        intro D4 e
        have g : ((-v2 + u2 + d3) + v3) ≤ (u2 + d3) := by omega
        rw [Int.max_eq_left g] at e
        obtain rfl : D4 = u2 - u3 + d3 := by omega
        clear e g
        intro V4 e
        have g : (d3 + u2) ≤ ((u2 - d2 + d3) + (u2 - u3 + d3)) := by omega
        rw [Int.max_eq_left g] at e
        obtain rfl : V4 = v2 + u2 - u3 - d2 + d3 := by omega
        clear e g
        intro h5 e
        have g : (u1 + d3) ≤ (d1 + (u2 - d2 + d3)) := by omega
        rw [Int.max_eq_right g] at e
        obtain rfl : h5 = -v1 + u2 + d1 - d2 + d3 := by omega
        clear e g
        intro U5 e
        have g : (u1 + d3) ≤ ((-v1 + u2 + d1 - d2 + d3) + v0) := by omega
        rw [Int.max_eq_right g] at e
        obtain rfl : U5 = v0 - v1 + u2 - d2 + d3 := by omega
        clear e g
        intro D5 e
        have g : (u1 + d3) ≤ ((-v1 + u2 + d1 - d2 + d3) + (v2 + u2 - u3 - d2 + d3)) := by omega
        rw [Int.max_eq_right g] at e
        obtain rfl : D5 = -v1 + v2 + u2 - u3 + d1 - d2 + d3 := by omega
        clear e g
        intro V5 e
        have g : (d3 + u1) ≤ ((v0 - v1 + u2 - d2 + d3) + (-v1 + v2 + u2 - u3 + d1 - d2 + d3)) := by omega
        rw [Int.max_eq_left g] at e
        obtain rfl : V5 = v0 - v1 + v2 + u2 - u3 - d2 + d3 := by omega
        clear e g
        intro h6 e
        have g : (u1 + (u2 - u3 + d3)) ≤ ((-v1 + v2 + u2 - u3 + d1 - d2 + d3) + u2) := by omega
        rw [Int.max_eq_right g] at e
        obtain rfl : h6 = -v1 + u2 + d1 := by omega
        clear e g
        intro U6 e
        have g : (u1 + (u2 - u3 + d3)) ≤ ((-v1 + u2 + d1) + (v0 - v1 + v2 + u2 - u3 - d2 + d3)) := by omega
        rw [Int.max_eq_right g] at e
        obtain rfl : U6 = v0 - v1 + u2 := by omega
        clear e g
        intro D6 e
        have g : ((-v1 + u2 + d1) + v3) ≤ (u1 + (u2 - u3 + d3)) := by omega
        rw [Int.max_eq_left g] at e
        obtain rfl : D6 = u1 - u3 + d3 := by omega
        clear e g
        intro V6 e
        have g : ((u2 - u3 + d3) + u1) ≤ ((v0 - v1 + u2) + (u1 - u3 + d3)) := by omega
        rw [Int.max_eq_left g] at e
        obtain rfl : V6 = v0 + u1 - u3 - d1 + d3 := by omega
        clear e g
        exact ⟨rfl, rfl, rfl, rfl, rfl, rfl⟩
      · rw [Int.max_eq_right g] at e
        obtain rfl : U3 = v0 - v2 + u2 - d2 + d3 := by omega
        clear e
        intro D3 e
        have g : ((v0 - v1 + u2) + d3) ≤ ((-v2 + u2 + d3) + (v0 + u1 - u3 - d1 + d3)) := by omega
        rw [Int.max_eq_right g] at e
        obtain rfl : D3 = u2 - u3 + d3 := by omega
        clear e g
        intro V3 e
        have g : (d3 + (v0 - v1 + u2)) ≤ ((v0 - v2 + u2 - d2 + d3) + (u2 - u3 + d3)) := by omega
        rw [Int.max_eq_left g] at e
        obtain rfl : V3 = v0 + u2 - u3 - d2 + d3 := by omega
        clear e g
        intro h4 e
        have g : (d2 + u3) ≤ (u2 + d3) := by omega
        rw [Int.max_eq_left g] at e
        obtain rfl : h4 = -v2 + u2 + d3 := by omega
        clear e g
        intro U4 e
        have g : (u2 + d3) ≤ ((-v2 + u2 + d3) + v1) := by omega
        rw [Int.max_eq_right g] at e
        obtain rfl : U4 = v1 - v2 + u2 - d2 + d3 := by omega
        clear e g
        intro D4 e
        have g : ((-v2 + u2 + d3) + v3) ≤ (u2 + d3) := by omega
        rw [Int.max_eq_left g] at e
        obtain rfl : D4 = u2 - u3 + d3 := by omega
        clear e g
        intro V4 e
        have g : (d3 + u2) ≤ ((v1 - v2 + u2 - d2 + d3) + (u2 - u3 + d3)) := by omega
        rw [Int.max_eq_left g] at e
        obtain rfl : V4 = v1 + u2 - u3 - d2 + d3 := by omega
        clear e g
        intro h5 e
        have g : (u1 + d3) ≤ (d1 + (v1 - v2 + u2 - d2 + d3)) := by omega
        rw [Int.max_eq_right g] at e
        obtain rfl : h5 = -v2 + u2 + d1 - d2 + d3 := by omega
        clear e g
        intro U5 e
        have g : (u1 + d3) ≤ ((-v2 + u2 + d1 - d2 + d3) + v0) := by omega
        rw [Int.max_eq_right g] at e
        obtain rfl : U5 = v0 - v2 + u2 - d2 + d3 := by omega
        clear e g
        intro D5 e
        have g : (u1 + d3) ≤ ((-v2 + u2 + d1 - d2 + d3) + (v1 + u2 - u3 - d2 + d3)) := by omega
        rw [Int.max_eq_right g] at e
        obtain rfl : D5 = u2 - u3 + d1 - d2 + d3 := by omega
        clear e g
        intro V5 e
        have g : (d3 + u1) ≤ ((v0 - v2 + u2 - d2 + d3) + (u2 - u3 + d1 - d2 + d3)) := by omega
        rw [Int.max_eq_left g] at e
        obtain rfl : V5 = v0 + u2 - u3 - d2 + d3 := by omega
        clear e g
        intro h6 e
        have g : (u1 + (u2 - u3 + d3)) ≤ ((u2 - u3 + d1 - d2 + d3) + u2) := by omega
        rw [Int.max_eq_right g] at e
        obtain rfl : h6 = -v1 + u2 + d1 := by omega
        clear e g
        intro U6 e
        have g : (u1 + (u2 - u3 + d3)) ≤ ((-v1 + u2 + d1) + (v0 + u2 - u3 - d2 + d3)) := by omega
        rw [Int.max_eq_right g] at e
        obtain rfl : U6 = v0 - v1 + u2 := by omega
        clear e g
        intro D6 e
        have g : ((-v1 + u2 + d1) + v3) ≤ (u1 + (u2 - u3 + d3)) := by omega
        rw [Int.max_eq_left g] at e
        obtain rfl : D6 = u1 - u3 + d3 := by omega
        clear e g
        intro V6 e
        have g : ((u2 - u3 + d3) + u1) ≤ ((v0 - v1 + u2) + (u1 - u3 + d3)) := by omega
        rw [Int.max_eq_left g] at e
        obtain rfl : V6 = v0 + u1 - u3 - d1 + d3 := by omega
        clear e g
        exact ⟨rfl, rfl, rfl, rfl, rfl, rfl⟩
    · rw [Int.max_eq_right g] at e
      obtain rfl : D2 = -v2 + v3 + u1 - u3 + d3 := by omega
      clear e
      intro V2 e
      have g : (d3 + u1) ≤ ((v0 - v2 + u1 - d1 + d3) + (-v2 + v3 + u1 - u3 + d3)) := by omega
      rw [Int.max_eq_left g] at e
      obtain rfl : V2 = v0 - v2 + v3 + u1 - u3 - d1 + d3 := by omega
      clear e g
      intro h3 e
      have g : (d2 + (v0 - v2 + u1 - d1 + d3)) ≤ ((v0 - v1 + u2) + d3) := by omega
      rw [Int.max_eq_left g] at e
      obtain rfl : h3 = -v2 + u2 + d3 := by omega
      clear e g
      intro U3 e
      rcases Int.le_total ((-v2 + u2 + d3) + v0) ((v0 - v1 + u2) + d3) with g | g
      · rw [Int.max_eq_left g] at e
        obtain rfl : U3 = v0 - v1 + u2 - d2 + d3 := by omega
        clear e
        intro D3 e
        have g : ((v0 - v1 + u2) + d3) ≤ ((-v2 + u2 + d3) + (v0 - v2 + v3 + u1 - u3 - d1 + d3)) := by omega
        rw [Int.max_eq_right g] at e
        obtain rfl : D3 = -v2 + v3 + u2 - u3 + d3 := by omega
        clear e g
        intro V3 e
        have g : (d3 + (v0 - v1 + u2)) ≤ ((v0 - v1 + u2 - d2 + d3) + (-v2 + v3 + u2 - u3 + d3)) := by omega
        rw [Int.max_eq_left g] at e
        obtain rfl : V3 = v0 - v1 + v3 + u2 - u3 - d2 + d3 := by omega
        clear e g
        intro h4 e
        have g : (d2 + u3) ≤ (u2 + d3) := by omega
        rw [Int.max_eq_left g] at e
        obtain rfl : h4 = -v2 + u2 + d3 := by omega
        clear e g
        intro U4 e
        have g : ((-v2 + u2 + d3) + v1) ≤ (u2 + d3) := by omega
        rw [Int.max_eq_left g] at e
        obtain rfl : U4 = u2 - d2 + d3 := by omega
        clear e g
        intro D4 e
        have g : (u2 + d3) ≤ ((-v2 + u2 + d3) + v3) := by omega
        rw [Int.max_eq_right g] at e
        obtain rfl : D4 = -v2 + v3 + u2 - u3 + d3 := by omega
        clear e g
        intro V4 e
        have g : (d3 + u2) ≤ ((u2 - d2 + d3) + (-v2 + v3 + u2 - u3 + d3)) := by omega
        rw [Int.max_eq_left g] at e
        obtain rfl : V4 = v3 + u2 - u3 - d2 + d3 := by omega
        clear e g
        intro h5 e
        have g : (u1 + d3) ≤ (d1 + (u2 - d2 + d3)) := by omega
        rw [Int.max_eq_right g] at e
        obtain rfl : h5 = -v1 + u2 + d1 - d2 + d3 := by omega
        clear e g
        intro U5 e
        have g : (u1 + d3) ≤ ((-v1 + u2 + d1 - d2 + d3) + v0) := by omega
        rw [Int.max_eq_right g] at e
        obtain rfl : U5 = v0 - v1 + u2 - d2 + d3 := by omega
        clear e g
        intro D5 e
        have g : (u1 + d3) ≤ ((-v1 + u2 + d1 - d2 + d3) + (v3 + u2 - u3 - d2 + d3)) := by omega
        rw [Int.max_eq_right g] at e
        obtain rfl : D5 = -v1 + v3 + u2 - u3 + d1 - d2 + d3 := by omega
        clear e g
        intro V5 e
        have g : (d3 + u1) ≤ ((v0 - v1 + u2 - d2 + d3) + (-v1 + v3 + u2 - u3 + d1 - d2 + d3)) := by omega
        rw [Int.max_eq_left g] at e
        obtain rfl : V5 = v0 - v1 + v3 + u2 - u3 - d2 + d3 := by omega
        clear e g
        intro h6 e
        have g : (u1 + (-v2 + v3 + u2 - u3 + d3)) ≤ ((-v1 + v3 + u2 - u3 + d1 - d2 + d3) + u2) := by omega
        rw [Int.max_eq_right g] at e
        obtain rfl : h6 = -v1 + u2 + d1 := by omega
        clear e g
        intro U6 e
        have g : (u1 + (-v2 + v3 + u2 - u3 + d3)) ≤ ((-v1 + u2 + d1) + (v0 - v1 + v3 + u2 - u3 - d2 + d3)) := by omega
        rw [Int.max_eq_right g] at e
        obtain rfl : U6 = v0 - v1 + u2 := by omega
        clear e g
        intro D6 e
        have g : ((-v1 + u2 + d1) + v3) ≤ (u1 + (-v2 + v3 + u2 - u3 + d3)) := by omega
        rw [Int.max_eq_left g] at e
        obtain rfl : D6 = -v2 + v3 + u1 - u3 + d3 := by omega
        clear e g
        intro V6 e
        have g : ((-v2 + v3 + u2 - u3 + d3) + u1) ≤ ((v0 - v1 + u2) + (-v2 + v3 + u1 - u3 + d3)) := by omega
        rw [Int.max_eq_left g] at e
        obtain rfl : V6 = v0 - v2 + v3 + u1 - u3 - d1 + d3 := by omega
        clear e g
        exact ⟨rfl, rfl, rfl, rfl, rfl, rfl⟩
      · rw [Int.max_eq_right g] at e
        obtain rfl : U3 = v0 - v2 + u2 - d2 + d3 := by omega
        clear e
        intro D3 e
        have g : ((v0 - v1 + u2) + d3) ≤ ((-v2 + u2 + d3) + (v0 - v2 + v3 + u1 - u3 - d1 + d3)) := by omega
        rw [Int.max_eq_right g] at e
        obtain rfl : D3 = -v2 + v3 + u2 - u3 + d3 := by omega
        clear e g
        intro V3 e
        have g : (d3 + (v0 - v1 + u2)) ≤ ((v0 - v2 + u2 - d2 + d3) + (-v2 + v3 + u2 - u3 + d3)) := by omega
        rw [Int.max_eq_left g] at e
        obtain rfl : V3 = v0 - v2 + v3 + u2 - u3 - d2 + d3 := by omega
        clear e g
        intro h4 e
        have g : (d2 + u3) ≤ (u2 + d3) := by omega
        rw [Int.max_eq_left g] at e
        obtain rfl : h4 = -v2 + u2 + d3 := by omega
        clear e g
        intro U4 e
        have g : (u2 + d3) ≤ ((-v2 + u2 + d3) + v1) := by omega
        rw [Int.max_eq_right g] at e
        obtain rfl : U4 = v1 - v2 + u2 - d2 + d3 := by omega
        clear e g
        intro D4 e
        have g : (u2 + d3) ≤ ((-v2 + u2 + d3) + v3) := by omega
        rw [Int.max_eq_right g] at e
        obtain rfl : D4 = -v2 + v3 + u2 - u3 + d3 := by omega
        clear e g
        intro V4 e
        have g : (d3 + u2) ≤ ((v1 - v2 + u2 - d2 + d3) + (-v2 + v3 + u2 - u3 + d3)) := by omega
        rw [Int.max_eq_left g] at e
        obtain rfl : V4 = v1 - v2 + v3 + u2 - u3 - d2 + d3 := by omega
        clear e g
        intro h5 e
        have g : (u1 + d3) ≤ (d1 + (v1 - v2 + u2 - d2 + d3)) := by omega
        rw [Int.max_eq_right g] at e
        obtain rfl : h5 = -v2 + u2 + d1 - d2 + d3 := by omega
        clear e g
        intro U5 e
        have g : (u1 + d3) ≤ ((-v2 + u2 + d1 - d2 + d3) + v0) := by omega
        rw [Int.max_eq_right g] at e
        obtain rfl : U5 = v0 - v2 + u2 - d2 + d3 := by omega
        clear e g
        intro D5 e
        have g : (u1 + d3) ≤ ((-v2 + u2 + d1 - d2 + d3) + (v1 - v2 + v3 + u2 - u3 - d2 + d3)) := by omega
        rw [Int.max_eq_right g] at e
        obtain rfl : D5 = -v2 + v3 + u2 - u3 + d1 - d2 + d3 := by omega
        clear e g
        intro V5 e
        have g : (d3 + u1) ≤ ((v0 - v2 + u2 - d2 + d3) + (-v2 + v3 + u2 - u3 + d1 - d2 + d3)) := by omega
        rw [Int.max_eq_left g] at e
        obtain rfl : V5 = v0 - v2 + v3 + u2 - u3 - d2 + d3 := by omega
        clear e g
        intro h6 e
        have g : (u1 + (-v2 + v3 + u2 - u3 + d3)) ≤ ((-v2 + v3 + u2 - u3 + d1 - d2 + d3) + u2) := by omega
        rw [Int.max_eq_right g] at e
        obtain rfl : h6 = -v1 + u2 + d1 := by omega
        clear e g
        intro U6 e
        have g : (u1 + (-v2 + v3 + u2 - u3 + d3)) ≤ ((-v1 + u2 + d1) + (v0 - v2 + v3 + u2 - u3 - d2 + d3)) := by omega
        rw [Int.max_eq_right g] at e
        obtain rfl : U6 = v0 - v1 + u2 := by omega
        clear e g
        intro D6 e
        have g : ((-v1 + u2 + d1) + v3) ≤ (u1 + (-v2 + v3 + u2 - u3 + d3)) := by omega
        rw [Int.max_eq_left g] at e
        obtain rfl : D6 = -v2 + v3 + u1 - u3 + d3 := by omega
        clear e g
        intro V6 e
        have g : ((-v2 + v3 + u2 - u3 + d3) + u1) ≤ ((v0 - v1 + u2) + (-v2 + v3 + u1 - u3 + d3)) := by omega
        rw [Int.max_eq_left g] at e
        obtain rfl : V6 = v0 - v2 + v3 + u1 - u3 - d1 + d3 := by omega
        clear e g
        exact ⟨rfl, rfl, rfl, rfl, rfl, rfl⟩
set_option maxHeartbeats 4000000 in
set_option maxRecDepth 100000 in
theorem dy_c26 (v0 v1 v2 v3 u1 u2 u3 d1 d2 d3 : Int) (g0 : u1 + d2 ≤ u2 + d1) (g1 : v1 + u1 + d2 ≤ v0 + u2 + d1) (g2 : v1 + u1 + d2 ≤ v2 + u2 + d1) (g3 : 2 * v1 + u1 + d2 ≤ v0 + v2 + u2 + d1) (g4 : v1 + u1 + d3 ≤ v2 + u3 + d1) (g5 : v0 + v2 + u3 + d1 ≤ 2 * v1 + u1 + d3) : ∀ D2 : Int, D2 = max (u1 + d3) ((-v1 + u3 + d1) + v3) - u3 → ∀ V2 : Int, V2 = max ((v1 - v2 + u1 - d1 + d3) + D2) (d3 + u1) - (-v1 + u3 + d1) → ∀ h3 : Int, h3 = max ((v0 - v1 + u2) + d3) (d2 + (v1 - v2 + u1 - d1 + d3)) - (v0 - v1 + v2) → ∀ U3 : Int, U3 = max ((v0 - v1 + u2) + d3) (h3 + v0) - d2 → ∀ D3 : Int, D3 = max ((v0 - v1 + u2) + d3) (h3 + V2) - (v1 - v2 + u1 - d1 + d3) → ∀ V3 : Int, V3 = max (U3 + D3) (d3 + (v0 - v1 + u2)) - h3 → ∀ h4 : Int, h4 = max (u2 + d3) (d2 + u3) - v2 → ∀ U4 : Int, U4 = max (u2 + d3) (h4 + v1) - d2 → ∀ D4 : Int, D4 = max (u2 + d3) (h4 + v3) - u3 → ∀ V4 : Int, V4 = max (U4 + D4) (d3 + u2) - h4 → ∀ h5 : Int, h5 = max (u1 + d3) (d1 + U4) - v1 → ∀ U5 : Int, U5 = max (u1 + d3) (h5 + v0) - d1 → ∀ D5 : Int, D5 = max (u1 + d3) (h5 + V4) - U4 → ∀ V5 : Int, V5 = max (U5 + D5) (d3 + u1) - h5 → ∀ h6 : Int, h6 = max (u1 + D4) (D5 + u2) - V4 → ∀ U6 : Int, U6 = max (u1 + D4) (h6 + V5) - D5 → ∀ D6 : Int, D6 = max (u1 + D4) (h6 + v3) - u2 → ∀ V6 : Int, V6 = max (U6 + D6) (D4 + u1) - h6 → V3 = V5 ∧ U3 = U5 ∧ V2 = V6 ∧ (v0 - v1 + u2) = U6 ∧ D3 = D4 ∧ D2 = D6 := by
  intro D2 e
  rcases Int.le_total ((-v1 + u3 + d1) + v3) (u1 + d3) with g | g
  · rw [Int.max_eq_left g] at e
    obtain rfl : D2 = u1 - u3 + d3 := by omega
    clear e
    intro V2 e
    have g : ((v1 - v2 + u1 - d1 + d3) + (u1 - u3 + d3)) ≤ (d3 + u1) := by omega
    rw [Int.max_eq_right g] at e
    obtain rfl : V2 = v1 + u1 - u3 - d1 + d3 := by omega
    clear e g
    intro h3 e
    have g : (d2 + (v1 - v2 + u1 - d1 + d3)) ≤ ((v0 - v1 + u2) + d3) := by omega
    rw [Int.max_eq_left g] at e
    obtain rfl : h3 = -v2 + u2 + d3 := by omega
    clear e g
    intro U3 e
    rcases Int.le_total ((-v2 + u2 + d3) + v0) ((v0 - v1 + u2) + d3) with g | g
    · rw [Int.max_eq_left g] at e
      obtain rfl : U3 = v0 - v1 + u2 - d2 + d3 := by omega
      clear e
      intro D3 e
      have g : ((v0 - v1 + u2) + d3) ≤ ((-v2 + u2 + d3) + (v1 + u1 - u3 - d1 + d3)) := by omega
      rw [Int.max_eq_right g] at e
      obtain rfl : D3 = u2 - u3 + d3 := by omega
      clear e g
      intro V3 e
      have g : (d3 + (v0 - v1 + u2)) ≤ ((v0 - v1 + u2 - d2 + d3) + (u2 - u3 + d3)) := by omega
      rw [Int.max_eq_left g] at e
      obtain rfl : V3 = v0 - v1 + v2 + u2 - u3 - d2 + d3 := by omega
      clear e g
      intro h4 e
      have g : (d2 + u3) ≤ (u2 + d3) := by omega
      rw [Int.max_eq_left g] at e
      obtain rfl : h4 = -v2 + u2 + d3 := by omega
      clear e g
      intro U4 e
      have g : ((-v2 + u2 + d3) + v1) ≤ (u2 + d3) := by omega
      rw [Int.max_eq_left g] at e
      obtain rfl : U4 = u2 - d2 + d3 := by omega
      clear e g
      intro D4 e
      have g : ((-v2 + u2 + d3) + v3) ≤ (u2 + d3) := by omega
      rw [Int.max_eq_left g] at e
      obtain rfl : D4 = u2 - u3 + d3 := by omega
      clear e g
      intro V4 e
      have g : (d3 + u2) ≤ ((u2 - d2 + d3) + (u2 - u3 + d3)) := by omega
      rw [Int.max_eq_left g] at e
      obtain rfl : V4 = v2 + u2 - u3 - d2 + d3 := by omega
      clear e g
      intro h5 e
      have g : (u1 + d3) ≤ (d1 + (u2 - d2 + d3)) := by omega
      rw [Int.max_eq_right g] at e
      obtain rfl : h5 = -v1 + u2 + d1 - d2 + d3 := by omega
      clear e g
      intro U5 e
      have g : (u1 + d3) ≤ ((-v1 + u2 + d1 - d2 + d3) + v0) := by omega
      rw [Int.max_eq_right g] at e
      obtain rfl : U5 = v0 - v1 + u2 - d2 + d3 := by omega
      clear e g
      intro D5 e
      have g : (u1 + d3) ≤ ((-v1 + u2 + d1 - d2 + d3) + (v2 + u2 - u3 - d2 + d3)) := by omega
      rw [Int.max_eq_right g] at e
      obtain rfl : D5 = -v1 + v2 + u2 - u3 + d1 - d2 + d3 := by omega
      clear e g
      intro V5 e
      have g : (d3 + u1) ≤ ((v0 - v1 + u2 - d2 + d3) + (-v1 + v2 + u2 - u3 + d1 - d2 + d3)) := by omega
      rw [Int.max_eq_left g] at e
      obtain rfl : V5 = v0 - v1 + v2 + u2 - u3 - d2 + d3 := by omega
      clear e g
      intro h6 e
      have g : (u1 + (u2 - u3 + d3)) ≤ ((-v1 + v2 + u2 - u3 + d1 - d2 + d3) + u2) := by omega
      rw [Int.max_eq_right g] at e
      obtain rfl : h6 = -v1 + u2 + d1 := by omega
      clear e g
      intro U6 e
      have g : (u1 + (u2 - u3 + d3)) ≤ ((-v1 + u2 + d1) + (v0 - v1 + v2 + u2 - u3 - d2 + d3)) := by omega
      rw [Int.max_eq_right g] at e
      obtain rfl : U6 = v0 - v1 + u2 := by omega
      clear e g
      intro D6 e
      have g : ((-v1 + u2 + d1) + v3) ≤ (u1 + (u2 - u3 + d3)) := by omega
      rw [Int.max_eq_left g] at e
      obtain rfl : D6 = u1 - u3 + d3 := by omega
      clear e g
      intro V6 e
      have g : ((v0 - v1 + u2) + (u1 - u3 + d3)) ≤ ((u2 - u3 + d3) + u1) := by omega
      rw [Int.max_eq_right g] at e
      obtain rfl : V6 = v1 + u1 - u3 - d1 + d3 := by omega
      clear e g
      exact ⟨rfl, rfl, rfl, rfl, rfl, rfl⟩
    · rw [Int.max_eq_right g] at e
      obtain rfl : U3 = v0 - v2 + u2 - d2 + d3 := by omega
      clear e
      intro D3 e
      have g : ((v0 - v1 + u2) + d3) ≤ ((-v2 + u2 + d3) + (v1 + u1 - u3 - d1 + d3)) := by omega
      rw [Int.max_eq_right g] at e
      obtain rfl : D3 = u2 - u3 + d3 := by omega
      clear e g
      intro V3 e
      have g : (d3 + (v0 - v1 + u2)) ≤ ((v0 - v2 + u2 - d2 + d3) + (u2 - u3 + d3)) := by omega
      rw [Int.max_eq_left g] at e
      obtain rfl : V3 = v0 + u2 - u3 - d2 + d3 := by omega
      clear e g
      intro h4 e
      have g : (d2 + u3) ≤ (u2 + d3) := by omega
      rw [Int.max_eq_left g] at e
      obtain rfl : h4 = -v2 + u2 + d3 := by omega
      clear e g
      intro U4 e
      have g : (u2 + d3) ≤ ((-v2 + u2 + d3) + v1) := by omega
      rw [Int.max_eq_right g] at e
      obtain rfl : U4 = v1 - v2 + u2 - d2 + d3 := by omega
      clear e g
      intro D4 e
      have g : ((-v2 + u2 + d3) + v3) ≤ (u2 + d3) := by omega
      rw [Int.max_eq_left g] at e
      obtain rfl : D4 = u2 - u3 + d3 := by omega
      clear e g
      intro V4 e
      have g : (d3 + u2) ≤ ((v1 - v2 + u2 - d2 + d3) + (u2 - u3 + d3)) := by omega
      rw [Int.max_eq_left g] at e
      obtain rfl : V4 = v1 + u2 - u3 - d2 + d3 := by omega
      clear e g
      intro h5 e
      have g : (u1 + d3) ≤ (d1 + (v1 - v2 + u2 - d2 + d3)) := by omega
      rw [Int.max_eq_right g] at e
      obtain rfl : h5 = -v2 + u2 + d1 - d2 + d3 := by omega
      clear e g
      intro U5 e
      have g : (u1 + d3) ≤ ((-v2 + u2 + d1 - d2 + d3) + v0) := by omega
      rw [Int.max_eq_right g] at e
      obtain rfl : U5 = v0 - v2 + u2 - d2 + d3 := by omega
      clear e g
      intro D5 e
      have g : (u1 + d3) ≤ ((-v2 + u2 + d1 - d2 + d3) + (v1 + u2 - u3 - d2 + d3)) := by omega
      rw [Int.max_eq_right g] at e
      obtain rfl : D5 = u2 - u3 + d1 - d2 + d3 := by omega
      clear e g
      intro V5 e
      have g : (d3 + u1) ≤ ((v0 - v2 + u2 - d2 + d3) + (u2 - u3 + d1 - d2 + d3)) := by omega
      rw [Int.max_eq_left g] at e
      obtain rfl : V5 = v0 + u2 - u3 - d2 + d3 := by omega
      clear e g
      intro h6 e
      have g : (u1 + (u2 - u3 + d3)) ≤ ((u2 - u3 + d1 - d2 + d3) + u2) := by omega
      rw [Int.max_eq_right g] at e
      obtain rfl : h6 = -v1 + u2 + d1 := by omega
      clear e g
      intro U6 e
      have g : (u1 + (u2 - u3 + d3)) ≤ ((-v1 + u2 + d1) + (v0 + u2 - u3 - d2 + d3)) := by omega
      rw [Int.max_eq_right g] at e
      obtain rfl : U6 = v0 - v1 + u2 := by omega
      clear e g
      intro D6 e
      have g : ((-v1 + u2 + d1) + v3) ≤ (u1 + (u2 - u3 + d3)) := by omega
      rw [Int.max_eq_left g] at e
      obtain rfl : D6 = u1 - u3 + d3 := by omega
      clear e g
      intro V6 e
      have g : ((v0 - v1 + u2) + (u1 - u3 + d3)) ≤ ((u2 - u3 + d3) + u1) := by omega
      rw [Int.max_eq_right g] at e
      obtain rfl : V6 = v1 + u1 - u3 - d1 + d3 := by omega
      clear e g
      exact ⟨rfl, rfl, rfl, rfl, rfl, rfl⟩
  · rw [Int.max_eq_right g] at e
    obtain rfl : D2 = -v1 + v3 + d1 := by omega
    clear e
    intro V2 e
    rcases Int.le_total (d3 + u1) ((v1 - v2 + u1 - d1 + d3) + (-v1 + v3 + d1)) with g | g
    · rw [Int.max_eq_left g] at e
      obtain rfl : V2 = v1 - v2 + v3 + u1 - u3 - d1 + d3 := by omega
      clear e
      intro h3 e
      have g : (d2 + (v1 - v2 + u1 - d1 + d3)) ≤ ((v0 - v1 + u2) + d3) := by omega
      rw [Int.max_eq_left g] at e
      obtain rfl : h3 = -v2 + u2 + d3 := by omega
      clear e g
      intro U3 e
      rcases Int.le_total ((-v2 + u2 + d3) + v0) ((v0 - v1 + u2) + d3) with g | g
      · rw [Int.max_eq_left g] at e
        obtain rfl : U3 = v0 - v1 + u2 - d2 + d3 := by omega
        clear e
        intro D3 e
        have g : ((v0 - v1 + u2) + d3) ≤ ((-v2 + u2 + d3) + (v1 - v2 + v3 + u1 - u3 - d1 + d3)) := by omega
        rw [Int.max_eq_right g] at e
        obtain rfl : D3 = -v2 + v3 + u2 - u3 + d3 := by omega
        clear e g
        intro V3 e
        have g : (d3 + (v0 - v1 + u2)) ≤ ((v0 - v1 + u2 - d2 + d3) + (-v2 + v3 + u2 - u3 + d3)) := by omega
        rw [Int.max_eq_left g] at e
        obtain rfl : V3 = v0 - v1 + v3 + u2 - u3 - d2 + d3 := by omega
        clear e g
        intro h4 e
        have g : (d2 + u3) ≤ (u2 + d3) := by omega
        rw [Int.max_eq_left g] at e
        obtain rfl : h4 = -v2 + u2 + d3 := by omega
        clear e g
        intro U4 e
        have g : ((-v2 + u2 + d3) + v1) ≤ (u2 + d3) := by omega
        rw [Int.max_eq_left g] at e
        obtain rfl : U4 = u2 - d2 + d3 := by omega
        clear e g
        intro D4 e
        have g : (u2 + d3) ≤ ((-v2 + u2 + d3) + v3) := by omega
        rw [Int.max_eq_right g] at e
        obtain rfl : D4 = -v2 + v3 + u2 - u3 + d3 := by omega
        clear e g
        intro V4 e
        have g : (d3 + u2) ≤ ((u2 - d2 + d3) + (-v2 + v3 + u2 - u3 + d3)) := by omega
        rw [Int.max_eq_left g] at e
        obtain rfl : V4 = v3 + u2 - u3 - d2 + d3 := by omega
        clear e g
        intro h5 e
        have g : (u1 + d3) ≤ (d1 + (u2 - d2 + d3)) := by omega
        rw [Int.max_eq_right g] at e
        obtain rfl : h5 = -v1 + u2 + d1 - d2 + d3 := by omega
        clear e g
        intro U5 e
        have g : (u1 + d3) ≤ ((-v1 + u2 + d1 - d2 + d3) + v0) := by omega
        rw [Int.max_eq_right g] at e
        obtain rfl : U5 = v0 - v1 + u2 - d2 + d3 := by omega
        clear e g
        intro D5 e
        have g : (u1 + d3) ≤ ((-v1 + u2 + d1 - d2 + d3) + (v3 + u2 - u3 - d2 + d3)) := by omega
        rw [Int.max_eq_right g] at e
        obtain rfl : D5 = -v1 + v3 + u2 - u3 + d1 - d2 + d3 := by omega
        clear e g
        intro V5 e
        have g : (d3 + u1) ≤ ((v0 - v1 + u2 - d2 + d3) + (-v1 + v3 + u2 - u3 + d1 - d2 + d3)) := by omega
        rw [Int.max_eq_left g] at e
        obtain rfl : V5 = v0 - v1 + v3 + u2 - u3 - d2 + d3 := by omega
        clear e g
        intro h6 e
        have g : (u1 + (-v2 + v3 + u2 - u3 + d3)) ≤ ((-v1 + v3 + u2 - u3 + d1 - d2 + d3) + u2) := by omega
        rw [Int.max_eq_right g] at e
        obtain rfl : h6 = -v1 + u2 + d1 := by omega
        clear e g
        intro U6 e
        have g : (u1 + (-v2 + v3 + u2 - u3 + d3)) ≤ ((-v1 + u2 + d1) + (v0 - v1 + v3 + u2 - u3 - d2 + d3)) := by omega
        rw [Int.max_eq_right g] at e
        obtain rfl : U6 = v0 - v1 + u2 := by omega
        clear e g
        intro D6 e
        have g : (u1 + (-v2 + v3 + u2 - u3 + d3)) ≤ ((-v1 + u2 + d1) + v3) := by omega
        rw [Int.max_eq_right g] at e
        obtain rfl : D6 = -v1 + v3 + d1 := by omega
        clear e g
        intro V6 e
        have g : ((v0 - v1 + u2) + (-v1 + v3 + d1)) ≤ ((-v2 + v3 + u2 - u3 + d3) + u1) := by omega
        rw [Int.max_eq_right g] at e
        obtain rfl : V6 = v1 - v2 + v3 + u1 - u3 - d1 + d3 := by omega
        clear e g
        exact ⟨rfl, rfl, rfl, rfl, rfl, rfl⟩
      · rw [Int.max_eq_right g] at e
        obtain rfl : U3 = v0 - v2 + u2 - d2 + d3 := by omega
        clear e
        intro D3 e
        have g : ((v0 - v1 + u2) + d3) ≤ ((-v2 + u2 + d3) + (v1 - v2 + v3 + u1 - u3 - d1 + d3)) := by omega
        rw [Int.max_eq_right g] at e
        obtain rfl : D3 = -v2 + v3 + u2 - u3 + d3 := by omega
        clear e g
        intro V3 e
        have g : (d3 + (v0 - v1 + u2)) ≤ ((v0 - v2 + u2 - d2 + d3) + (-v2 + v3 + u2 - u3 + d3)) := by omega
        rw [Int.max_eq_left g] at e
        obtain rfl : V3 = v0 - v2 + v3 + u2 - u3 - d2 + d3 := by omega
        clear e g
        intro h4 e
        have g : (d2 + u3) ≤ (u2 + d3) := by omega
        rw [Int.max_eq_left g] at e
        obtain rfl : h4 = -v2 + u2 + d3 := by omega
        clear e g
        intro U4 e
        have g : (u2 + d3) ≤ ((-v2 + u2 + d3) + v1) := by omega
        rw [Int.max_eq_right g] at e
        obtain rfl : U4 = v1 - v2 + u2 - d2 + d3 := by omega
        clear e g
        intro D4 e
        have g : (u2 + d3) ≤ ((-v2 + u2 + d3) + v3) := by omega
        rw [Int.max_eq_right g] at e
        obtain rfl : D4 = -v2 + v3 + u2 - u3 + d3 := by omega
        clear e g
        intro V4 e
        have g : (d3 + u2) ≤ ((v1 - v2 + u2 - d2 + d3) + (-v2 + v3 + u2 - u3 + d3)) := by omega
        rw [Int.max_eq_left g] at e
        obtain rfl : V4 = v1 - v2 + v3 + u2 - u3 - d2 + d3 := by omega
        clear e g
        intro h5 e
        have g : (u1 + d3) ≤ (d1 + (v1 - v2 + u2 - d2 + d3)) := by omega
        rw [Int.max_eq_right g] at e
        obtain rfl : h5 = -v2 + u2 + d1 - d2 + d3 := by omega
        clear e g
        intro U5 e
        have g : (u1 + d3) ≤ ((-v2 + u2 + d1 - d2 + d3) + v0) := by omega
        rw [Int.max_eq_right g] at e
        obtain rfl : U5 = v0 - v2 + u2 - d2 + d3 := by omega
        clear e g
        intro D5 e
        have g : (u1 + d3) ≤ ((-v2 + u2 + d1 - d2 + d3) + (v1 - v2 + v3 + u2 - u3 - d2 + d3)) := by omega
        rw [Int.max_eq_right g] at e
        obtain rfl : D5 = -v2 + v3 + u2 - u3 + d1 - d2 + d3 := by omega
        clear e g
        intro V5 e
        have g : (d3 + u1) ≤ ((v0 - v2 + u2 - d2 + d3) + (-v2 + v3 + u2 - u3 + d1 - d2 + d3)) := by omega
        rw [Int.max_eq_left g] at e
        obtain rfl : V5 = v0 - v2 + v3 + u2 - u3 - d2 + d3 := by omega
        clear e g
        intro h6 e
        have g : (u1 + (-v2 + v3 + u2 - u3 + d3)) ≤ ((-v2 + v3 + u2 - u3 + d1 - d2 + d3) + u2) := by omega
        rw [Int.max_eq_right g] at e
        obtain rfl : h6 = -v1 + u2 + d1 := by omega
        clear e g
        intro U6 e
        have g : (u1 + (-v2 + v3 + u2 - u3 + d3)) ≤ ((-v1 + u2 + d1) + (v0 - v2 + v3 + u2 - u3 - d2 + d3)) := by omega
        rw [Int.max_eq_right g] at e
        obtain rfl : U6 = v0 - v1 + u2 := by omega
        clear e g
        intro D6 e
        have g : (u1 + (-v2 + v3 + u2 - u3 + d3)) ≤ ((-v1 + u2 + d1) + v3) := by omega
        rw [Int.max_eq_right g] at e
        obtain rfl : D6 = -v1 + v3 + d1 := by omega
        clear e g
        intro V6 e
        have g : ((v0 - v1 + u2) + (-v1 + v3 + d1)) ≤ ((-v2 + v3 + u2 - u3 + d3) + u1) := by omega
        rw [Int.max_eq_right g] at e
        obtain rfl : V6 = v1 - v2 + v3 + u1 - u3 - d1 + d3 := by omega
        clear e g
        exact ⟨rfl, rfl, rfl, rfl, rfl, rfl⟩
    · rw [Int.max_eq_right g] at e
      obtain rfl : V2 = v1 + u1 - u3 - d1 + d3 := by omega
      clear e
      intro h3 e
      have g : (d2 + (v1 - v2 + u1 - d1 + d3)) ≤ ((v0 - v1 + u2) + d3) := by omega
      rw [Int.max_eq_left g] at e
      obtain rfl : h3 = -v2 + u2 + d3 := by omega
      clear e g
      intro U3 e
      rcases Int.le_total ((-v2 + u2 + d3) + v0) ((v0 - v1 + u2) + d3) with g | g
      · rw [Int.max_eq_left g] at e
        obtain rfl : U3 = v0 - v1 + u2 - d2 + d3 := by omega
        clear e
        intro D3 e
        have g : ((v0 - v1 + u2) + d3) ≤ ((-v2 + u2 + d3) + (v1 + u1 - u3 - d1 + d3)) := by omega
        rw [Int.max_eq_right g] at e
        obtain rfl : D3 = u2 - u3 + d3 := by omega
        clear e g
        intro V3 e
        have g : (d3 + (v0 - v1 + u2)) ≤ ((v0 - v1 + u2 - d2 + d3) + (u2 - u3 + d3)) := by omega
        rw [Int.max_eq_left g] at e
        obtain rfl : V3 = v0 - v1 + v2 + u2 - u3 - d2 + d3 := by omega
        clear e g
        intro h4 e
        have g : (d2 + u3) ≤ (u2 + d3) := by omega
        rw [Int.max_eq_left g] at e
        obtain rfl : h4 = -v2 + u2 + d3 := by omega
        clear e g
        intro U4 e
        have g : ((-v2 + u2 + d3) + v1) ≤ (u2 + d3) := by omega
        rw [Int.max_eq_left g] at e
        obtain rfl : U4 = u2 - d2 + d3 := by omega
        clear e g
        intro D4 e
        have g : ((-v2 + u2 + d3) + v3) ≤ (u2 + d3) := by omega
        rw [Int.max_eq_left g] at e
        obtain rfl : D4 = u2 - u3 + d3 := by omega
        clear e g
        intro V4 e
        have g : (d3 + u2) ≤ ((u2 - d2 + d3) + (u2 - u3 + d3)) := by omega
        rw [Int.max_eq_left g] at e
        obtain rfl : V4 = v2 + u2 - u3 - d2 + d3 := by omega
        clear e g
        intro h5 e
        have g : (u1 + d3) ≤ (d1 + (u2 - d2 + d3)) := by omega
        rw [Int.max_eq_right g] at e
        obtain rfl : h5 = -v1 + u2 + d1 - d2 + d3 := by omega
        clear e g
        intro U5 e
        have g : (u1 + d3) ≤ ((-v1 + u2 + d1 - d2 + d3) + v0) := by omega
        rw [Int.max_eq_right g] at e
        obtain rfl : U5 = v0 - v1 + u2 - d2 + d3 := by omega
        clear e g
        intro D5 e
        have g : (u1 + d3) ≤ ((-v1 + u2 + d1 - d2 + d3) + (v2 + u2 - u3 - d2 + d3)) := by omega
        rw [Int.max_eq_right g] at e
        obtain rfl : D5 = -v1 + v2 + u2 - u3 + d1 - d2 + d3 := by omega
        clear e g
        intro V5 e
        have g : (d3 + u1) ≤ ((v0 - v1 + u2 - d2 + d3) + (-v1 + v2 + u2 - u3 + d1 - d2 + d3)) := by omega
        rw [Int.max_eq_left g] at e
        obtain rfl : V5 = v0 - v1 + v2 + u2 - u3 - d2 + d3 := by omega
        clear e g
        intro h6 e
        have g : (u1 + (u2 - u3 + d3)) ≤ ((-v1 + v2 + u2 - u3 + d1 - d2 + d3) + u2) := by omega
        rw [Int.max_eq_right g] at e
        obtain rfl : h6 = -v1 + u2 + d1 := by omega
        clear e g
        intro U6 e
        have g : (u1 + (u2 - u3 + d3)) ≤ ((-v1 + u2 + d1) + (v0 - v1 + v2 + u2 - u3 - d2 + d3)) := by omega
        rw [Int.max_eq_right g] at e
        obtain rfl : U6 = v0 - v1 + u2 := by omega
        clear e g
        intro D6 e
        have g : (u1 + (u2 - u3 + d3)) ≤ ((-v1 + u2 + d1) + v3) := by omega
        rw [Int.max_eq_right g] at e
        obtain rfl : D6 = -v1 + v3 + d1 := by omega
        clear e g
        intro V6 e
        have g : ((v0 - v1 + u2) + (-v1 + v3 + d1)) ≤ ((u2 - u3 + d3) + u1) := by omega
        rw [Int.max_eq_right g] at e
        obtain rfl : V6 = v1 + u1 - u3 - d1 + d3 := by omega
        clear e g
        exact ⟨rfl, rfl, rfl, rfl, rfl, rfl⟩
      · rw [Int.max_eq_right g] at e
        obtain rfl : U3 = v0 - v2 + u2 - d2 + d3 := by omega
        clear e
        intro D3 e
        have g : ((v0 - v1 + u2) + d3) ≤ ((-v2 + u2 + d3) + (v1 + u1 - u3 - d1 + d3)) := by omega
        rw [Int.max_eq_right g] at e
        obtain rfl : D3 = u2 - u3 + d3 := by omega
        clear e g
        intro V3 e
        have g : (d3 + (v0 - v1 + u2)) ≤ ((v0 - v2 + u2 - d2 + d3) + (u2 - u3 + d3)) := by omega
        rw [Int.max_eq_left g] at e
        obtain rfl : V3 = v0 + u2 - u3 - d2 + d3 := by omega
        clear e g
        intro h4 e
        have g : (d2 + u3) ≤ (u2 + d3) := by omega
        rw [Int.max_eq_left g] at e
        obtain rfl : h4 = -v2 + u2 + d3 := by omega
        clear e g
        intro U4 e
        have g : (u2 + d3) ≤ ((-v2 + u2 + d3) + v1) := by omega
        rw [Int.max_eq_right g] at e
        obtain rfl : U4 = v1 - v2 + u2 - d2 + d3 := by omega
        clear e g
        intro D4 e
        have g : ((-v2 + u2 + d3) + v3) ≤ (u2 + d3) := by omega
        rw [Int.max_eq_left g] at e
        obtain rfl : D4 = u2 - u3 + d3 := by omega
        clear e g
        intro V4 e
        have g : (d3 + u2) ≤ ((v1 - v2 + u2 - d2 + d3) + (u2 - u3 + d3)) := by omega
        rw [Int.max_eq_left g] at e
        obtain rfl : V4 = v1 + u2 - u3 - d2 + d3 := by omega
        clear e g
        intro h5 e
        have g : (u1 + d3) ≤ (d1 + (v1 - v2 + u2 - d2 + d3)) := by omega
        rw [Int.max_eq_right g] at e
        obtain rfl : h5 = -v2 + u2 + d1 - d2 + d3 := by omega
        clear e g
        intro U5 e
        have g : (u1 + d3) ≤ ((-v2 + u2 + d1 - d2 + d3) + v0) := by omega
        rw [Int.max_eq_right g] at e
        obtain rfl : U5 = v0 - v2 + u2 - d2 + d3 := by omega
        clear e g
        intro D5 e
        have g : (u1 + d3) ≤ ((-v2 + u2 + d1 - d2 + d3) + (v1 + u2 - u3 - d2 + d3)) := by omega
        rw [Int.max_eq_right g] at e
        obtain rfl : D5 = u2 - u3 + d1 - d2 + d3 := by omega
        clear e g
        intro V5 e
        have g : (d3 + u1) ≤ ((v0 - v2 + u2 - d2 + d3) + (u2 - u3 + d1 - d2 + d3)) := by omega
        rw [Int.max_eq_left g] at e
        obtain rfl : V5 = v0 + u2 - u3 - d2 + d3 := by omega
        clear e g
        intro h6 e
        have g : (u1 + (u2 - u3 + d3)) ≤ ((u2 - u3 + d1 - d2 + d3) + u2) := by omega
        rw [Int.max_eq_right g] at e
        obtain rfl : h6 = -v1 + u2 + d1 := by omega
        clear e g
        intro U6 e
        have g : (u1 + (u2 - u3 + d3)) ≤ ((-v1 + u2 + d1) + (v0 + u2 - u3 - d2 + d3)) := by omega
        rw [Int.max_eq_right g] at e
        obtain rfl : U6 = v0 - v1 + u2 := by omega
        clear e g
        intro D6 e
        have g : (u1 + (u2 - u3 + d3)) ≤ ((-v1 + u2 + d1) + v3) := by omega
        rw [Int.max_eq_right g] at e
        obtain rfl : D6 = -v1 + v3 + d1 := by omega
        clear e g
        intro V6 e
        have g : ((v0 - v1 + u2) + (-v1 + v3 + d1)) ≤ ((u2 - u3 + d3) + u1) := by omega
        rw [Int.max_eq_right g] at e
        obtain rfl : V6 = v1 + u1 - u3 - d1 + d3 := by omega
        clear e g
        exact ⟨rfl, rfl, rfl, rfl, rfl, rfl⟩
set_option maxHeartbeats 4000000 in
set_option maxRecDepth 100000 in
theorem dy_c27 (v0 v1 v2 v3 u1 u2 u3 d1 d2 d3 : Int) (g0 : u1 + d2 ≤ u2 + d1) (g1 : v1 + u1 + d2 ≤ v0 + u2 + d1) (g2 : v1 + u1 + d2 ≤ v2 + u2 + d1) (g3 : 2 * v1 + u1 + d2 ≤ v0 + v2 + u2 + d1) (g4 : v1 + u1 + d3 ≤ v2 + u3 + d1) (g5 : 2 * v1 + u1 + d3 ≤ v0 + v2 + u3 + d1) (g6 : v3 + u3 + d1 ≤ v1 + u1 + d3) : ∀ V2 : Int, V2 = max ((v0 - v1 + u3) + (u1 - u3 + d3)) (d3 + u1) - (-v1 + u3 + d1) → ∀ h3 : Int, h3 = max ((v0 - v1 + u2) + d3) (d2 + (v0 - v1 + u3)) - (v0 - v1 + v2) → ∀ U3 : Int, U3 = max ((v0 - v1 + u2) + d3) (h3 + v0) - d2 → ∀ D3 : Int, D3 = max ((v0 - v1 + u2) + d3) (h3 + V2) - (v0 - v1 + u3) → ∀ V3 : Int, V3 = max (U3 + D3) (d3 + (v0 - v1 + u2)) - h3 → ∀ h4 : Int, h4 = max (u2 + d3) (d2 + u3) - v2 → ∀ U4 : Int, U4 = max (u2 + d3) (h4 + v1) - d2 → ∀ D4 : Int, D4 = max (u2 + d3) (h4 + v3) - u3 → ∀ V4 : Int, V4 = max (U4 + D4) (d3 + u2) - h4 → ∀ h5 : Int, h5 = max (u1 + d3) (d1 + U4) - v1 → ∀ U5 : Int, U5 = max (u1 + d3) (h5 + v0) - d1 → ∀ D5 : Int, D5 = max (u1 + d3) (h5 + V4) - U4 → ∀ V5 : Int, V5 = max (U5 + D5) (d3 + u1) - h5 → ∀ h6 : Int, h6 = max (u1 + D4) (D5 + u2) - V4 → ∀ U6 : Int, U6 = max (u1 + D4) (h6 + V5) - D5 → ∀ D6 : Int, D6 = max (u1 + D4) (h6 + v3) - u2 → ∀ V6 : Int, V6 = max (U6 + D6) (D4 + u1) - h6 → V3 = V5 ∧ U3 = U5 ∧ V2 = V6 ∧ (v0 - v1 + u2) = U6 ∧ D3 = D4 ∧ (u1 - u3 + d3) = D6 := by
  intro V2 e
  rcases Int.le_total (d3 + u1) ((v0 - v1 + u3) + (u1 - u3 + d3)) with g | g
  · rw [Int.max_eq_left g] at e
    obtain rfl : V2 = v0 + u1 - u3 - d1 + d3 := by omega
    clear e
    intro h3 e
    rcases Int.le_total (d2 + (v0 - v1 + u3)) ((v0 - v1 + u2) + d3) with g | g
    · rw [Int.max_eq_left g] at e
      obtain rfl : h3 = -v2 + u2 + d3 := by omega
      clear e
      intro U3 e
      rcases Int.le_total ((-v2 + u2 + d3) + v0) ((v0 - v1 + u2) + d3) with g | g
      · rw [Int.max_eq_left g] at e
        obtain rfl : U3 = v0 - v1 + u2 - d2 + d3 := by omega
        clear e
        intro D3 e
        have g : ((-v2 + u2 + d3) + (v0 + u1 - u3 - d1 + d3)) ≤ ((v0 - v1 + u2) + d3) := by omega
        rw [Int.max_eq_left g] at e
        obtain rfl : D3 = u2 - u3 + d3 := by omega
        clear e g
        intro V3 e
        have g : (d3 + (v0 - v1 + u2)) ≤ ((v0 - v1 + u2 - d2 + d3) + (u2 - u3 + d3)) := by omega
        rw [Int.max_eq_left g] at e
        obtain rfl : V3 = v0 - v1 + v2 + u2 - u3 - d2 + d3 := by omega
        clear e g
        intro h4 e
        have g : (d2 + u3) ≤ (u2 + d3) := by omega
        rw [Int.max_eq_left g] at e
        obtain rfl : h4 = -v2 + u2 + d3 := by omega
        clear e g
        intro U4 e
        have g : ((-v2 + u2 + d3) + v1) ≤ (u2 + d3) := by omega
        rw [Int.max_eq_left g] at e
        obtain rfl : U4 = u2 - d2 + d3 := by omega
        clear e g
        intro D4 e
        have g : ((-v2 + u2 + d3) + v3) ≤ (u2 + d3) := by omega
        rw [Int.max_eq_left g] at e
        obtain rfl : D4 = u2 - u3 + d3 := by omega
        clear e g
        intro V4 e
        have g : (d3 + u2) ≤ ((u2 - d2 + d3) + (u2 - u3 + d3)) := by omega
        rw [Int.max_eq_left g] at e
        obtain rfl : V4 = v2 + u2 - u3 - d2 + d3 := by omega
        clear e g
        intro h5 e
        have g : (u1 + d3) ≤ (d1 + (u2 - d2 + d3)) := by omega
        rw [Int.max_eq_right g] at e
        obtain rfl : h5 = -v1 + u2 + d1 - d2 + d3 := by omega
        clear e g
        intro U5 e
        have g : (u1 + d3) ≤ ((-v1 + u2 + d1 - d2 + d3) + v0) := by omega
        rw [Int.max_eq_right g] at e
        obtain rfl : U5 = v0 - v1 + u2 - d2 + d3 := by omega
        clear e g
        intro D5 e
        have g : (u1 + d3) ≤ ((-v1 + u2 + d1 - d2 + d3) + (v2 + u2 - u3 - d2 + d3)) := by omega
        rw [Int.max_eq_right g] at e
        obtain rfl : D5 = -v1 + v2 + u2 - u3 + d1 - d2 + d3 := by omega
        clear e g
        intro V5 e
        have g : (d3 + u1) ≤ ((v0 - v1 + u2 - d2 + d3) + (-v1 + v2 + u2 - u3 + d1 - d2 + d3)) := by omega
        rw [Int.max_eq_left g] at e
        obtain rfl : V5 = v0 - v1 + v2 + u2 - u3 - d2 + d3 := by omega
        clear e g
        intro h6 e
        have g : (u1 + (u2 - u3 + d3)) ≤ ((-v1 + v2 + u2 - u3 + d1 - d2 + d3) + u2) := by omega
        rw [Int.max_eq_right g] at e
        obtain rfl : h6 = -v1 + u2 + d1 := by omega
        clear e g
        intro U6 e
        have g : (u1 + (u2 - u3 + d3)) ≤ ((-v1 + u2 + d1) + (v0 - v1 + v2 + u2 - u3 - d2 + d3)) := by omega
        rw [Int.max_eq_right g] at e
        obtain rfl : U6 = v0 - v1 + u2 := by omega
        clear e g
        intro D6 e
        have g : ((-v1 + u2 + d1) + v3) ≤ (u1 + (u2 - u3 + d3)) := by omega
        rw [Int.max_eq_left g] at e
        obtain rfl : D6 = u1 - u3 + d3 := by omega
        clear e g
        intro V6 e
        have g : ((u2 - u3 + d3) + u1) ≤ ((v0 - v1 + u2) + (u1 - u3 + d3)) := by omega
        rw [Int.max_eq_left g] at e
        obtain rfl : V6 = v0 + u1 - u3 - d1 + d3 := by omega
        clear e g
        exact ⟨rfl, rfl, rfl, rfl, rfl, rfl⟩
      · rw [Int.max_eq_right g] at e
        obtain rfl : U3 = v0 - v2 + u2 - d2 + d3 := by omega
        clear e
        intro D3 e
        have g : ((-v2 + u2 + d3) + (v0 + u1 - u3 - d1 + d3)) ≤ ((v0 - v1 + u2) + d3) := by omega
        rw [Int.max_eq_left g] at e
        obtain rfl : D3 = u2 - u3 + d3 := by omega
        clear e g
        intro V3 e
        have g : (d3 + (v0 - v1 + u2)) ≤ ((v0 - v2 + u2 - d2 + d3) + (u2 - u3 + d3)) := by omega
        rw [Int.max_eq_left g] at e
        obtain rfl : V3 = v0 + u2 - u3 - d2 + d3 := by omega
        clear e g
        intro h4 e
        have g : (d2 + u3) ≤ (u2 + d3) := by omega
        rw [Int.max_eq_left g] at e
        obtain rfl : h4 = -v2 + u2 + d3 := by omega
        clear e g
        intro U4 e
        have g : (u2 + d3) ≤ ((-v2 + u2 + d3) + v1) := by omega
        rw [Int.max_eq_right g] at e
        obtain rfl : U4 = v1 - v2 + u2 - d2 + d3 := by omega
        clear e g
        intro D4 e
        have g : ((-v2 + u2 + d3) + v3) ≤ (u2 + d3) := by omega
        rw [Int.max_eq_left g] at e
        obtain rfl : D4 = u2 - u3 + d3 := by omega
        clear e g
        intro V4 e
        have g : (d3 + u2) ≤ ((v1 - v2 + u2 - d2 + d3) + (u2 - u3 + d3)) := by omega
        rw [Int.max_eq_left g] at e
        obtain rfl : V4 = v1 + u2 - u3 - d2 + d3 := by omega
        clear e g
        intro h5 e
        have g : (u1 + d3) ≤ (d1 + (v1 - v2 + u2 - d2 + d3)) := by omega
        rw [Int.max_eq_right g] at e
        obtain rfl : h5 = -v2 + u2 + d1 - d2 + d3 := by omega
        clear e g
        intro U5 e
        have g : (u1 + d3) ≤ ((-v2 + u2 + d1 - d2 + d3) + v0) := by omega
        rw [Int.max_eq_right g] at e
        obtain rfl : U5 = v0 - v2 + u2 - d2 + d3 := by omega
        clear e g
        intro D5 e
        have g : (u1 + d3) ≤ ((-v2 + u2 + d1 - d2 + d3) + (v1 + u2 - u3 - d2 + d3)) := by omega
        rw [Int.max_eq_right g] at e
        obtain rfl : D5 = u2 - u3 + d1 - d2 + d3 := by omega
        clear e g
        intro V5 e
        have g : (d3 + u1) ≤ ((v0 - v2 + u2 - d2 + d3) + (u2 - u3 + d1 - d2 + d3)) := by omega
        rw [Int.max_eq_left g] at e
        obtain rfl : V5 = v0 + u2 - u3 - d2 + d3 := by omega
        clear e g
        intro h6 e
        have g : (u1 + (u2 - u3 + d3)) ≤ ((u2 - u3 + d1 - d2 + d3) + u2) := by omega
        rw [Int.max_eq_right g] at e
        obtain rfl : h6 = -v1 + u2 + d1 := by omega
        clear e g
        intro U6 e
        have g : (u1 + (u2 - u3 + d3)) ≤ ((-v1 + u2 + d1) + (v0 + u2 - u3 - d2 + d3)) := by omega
        rw [Int.max_eq_right g] at e
        obtain rfl : U6 = v0 - v1 + u2 := by omega
        clear e g
        intro D6 e
        have g : ((-v1 + u2 + d1) + v3) ≤ (u1 + (u2 - u3 + d3)) := by omega
        rw [Int.max_eq_left g] at e
        obtain rfl : D6 = u1 - u3 + d3 := by omega
        clear e g
        intro V6 e
        have g : ((u2 - u3 + d3) + u1) ≤ ((v0 - v1 + u2) + (u1 - u3 + d3)) := by omega
        rw [Int.max_eq_left g] at e
        obtain rfl : V6 = v0 + u1 - u3 - d1 + d3 := by omega
        clear e g
        exact ⟨rfl, rfl, rfl, rfl, rfl, rfl⟩
    · rw [Int.max_eq_right g] at e
      obtain rfl : h3 = -v2 + u3 + d2 := by omega
      clear e
      intro U3 e
      rcases Int.le_total ((-v2 + u3 + d2) + v0) ((v0 - v1 + u2) + d3) with g | g
      · rw [Int.max_eq_left g] at e
        obtain rfl : U3 = v0 - v1 + u2 - d2 + d3 := by omega
        clear e
        intro D3 e
        have g : ((-v2 + u3 + d2) + (v0 + u1 - u3 - d1 + d3)) ≤ ((v0 - v1 + u2) + d3) := by omega
        rw [Int.max_eq_left g] at e
        obtain rfl : D3 = u2 - u3 + d3 := by omega
        clear e g
        intro V3 e
        have g : ((v0 - v1 + u2 - d2 + d3) + (u2 - u3 + d3)) ≤ (d3 + (v0 - v1 + u2)) := by omega
        rw [Int.max_eq_right g] at e
        obtain rfl : V3 = v0 - v1 + v2 + u2 - u3 - d2 + d3 := by omega
        clear e g
        intro h4 e
        have g : (u2 + d3) ≤ (d2 + u3) := by omega
        rw [Int.max_eq_right g] at e
        obtain rfl : h4 = -v2 + u3 + d2 := by omega
        clear e g
        intro U4 e
        have g : ((-v2 + u3 + d2) + v1) ≤ (u2 + d3) := by omega
        rw [Int.max_eq_left g] at e
        obtain rfl : U4 = u2 - d2 + d3 := by omega
        clear e g
        intro D4 e
        have g : ((-v2 + u3 + d2) + v3) ≤ (u2 + d3) := by omega
        rw [Int.max_eq_left g] at e
        obtain rfl : D4 = u2 - u3 + d3 := by omega
        clear e g
        intro V4 e
        have g : ((u2 - d2 + d3) + (u2 - u3 + d3)) ≤ (d3 + u2) := by omega
        rw [Int.max_eq_right g] at e
        obtain rfl : V4 = v2 + u2 - u3 - d2 + d3 := by omega
        clear e g
        intro h5 e
        have g : (u1 + d3) ≤ (d1 + (u2 - d2 + d3)) := by omega
        rw [Int.max_eq_right g] at e
        obtain rfl : h5 = -v1 + u2 + d1 - d2 + d3 := by omega
        clear e g
        intro U5 e
        have g : (u1 + d3) ≤ ((-v1 + u2 + d1 - d2 + d3) + v0) := by omega
        rw [Int.max_eq_right g] at e
        obtain rfl : U5 = v0 - v1 + u2 - d2 + d3 := by omega
        clear e g
        intro D5 e
        have g : (u1 + d3) ≤ ((-v1 + u2 + d1 - d2 + d3) + (v2 + u2 - u3 - d2 + d3)) := by omega
        rw [Int.max_eq_right g] at e
        obtain rfl : D5 = -v1 + v2 + u2 - u3 + d1 - d2 + d3 := by omega
        clear e g
        intro V5 e
        have g : (d3 + u1) ≤ ((v0 - v1 + u2 - d2 + d3) + (-v1 + v2 + u2 - u3 + d1 - d2 + d3)) := by omega
        rw [Int.max_eq_left g] at e
        obtain rfl : V5 = v0 - v1 + v2 + u2 - u3 - d2 + d3 := by omega
        clear e g
        intro h6 e
        have g : (u1 + (u2 - u3 + d3)) ≤ ((-v1 + v2 + u2 - u3 + d1 - d2 + d3) + u2) := by omega
        rw [Int.max_eq_right g] at e
        obtain rfl : h6 = -v1 + u2 + d1 := by omega
        clear e g
        intro U6 e
        have g : (u1 + (u2 - u3 + d3)) ≤ ((-v1 + u2 + d1) + (v0 - v1 + v2 + u2 - u3 - d2 + d3)) := by omega
        rw [Int.max_eq_right g] at e
        obtain rfl : U6 = v0 - v1 + u2 := by omega
        clear e g
        intro D6 e
        have g : ((-v1 + u2 + d1) + v3) ≤ (u1 + (u2 - u3 + d3)) := by omega
        rw [Int.max_eq_left g] at e
        obtain rfl : D6 = u1 - u3 + d3 := by omega
        clear e g
        intro V6 e
        have g : ((u2 - u3 + d3) + u1) ≤ ((v0 - v1 + u2) + (u1 - u3 + d3)) := by omega
        rw [Int.max_eq_left g] at e
        obtain rfl : V6 = v0 + u1 - u3 - d1 + d3 := by omega
        clear e g
        exact ⟨rfl, rfl, rfl, rfl, rfl, rfl⟩
      · rw [Int.max_eq_right g] at e
        obtain rfl : U3 = v0 - v2 + u3 := by omega
        clear e
        intro D3 e
        have g : ((-v2 + u3 + d2) + (v0 + u1 - u3 - d1 + d3)) ≤ ((v0 - v1 + u2) + d3) := by omega
        rw [Int.max_eq_left g] at e
        obtain rfl : D3 = u2 - u3 + d3 := by omega
        clear e g
        intro V3 e
        rcases Int.le_total (d3 + (v0 - v1 + u2)) ((v0 - v2 + u3) + (u2 - u3 + d3)) with g | g
        · rw [Int.max_eq_left g] at e
          obtain rfl : V3 = v0 + u2 - u3 - d2 + d3 := by omega
          clear e
          intro h4 e
          have g : (u2 + d3) ≤ (d2 + u3) := by omega
          rw [Int.max_eq_right g] at e
          obtain rfl : h4 = -v2 + u3 + d2 := by omega
          clear e g
          intro U4 e
          have g : (u2 + d3) ≤ ((-v2 + u3 + d2) + v1) := by omega
          rw [Int.max_eq_right g] at e
          obtain rfl : U4 = v1 - v2 + u3 := by omega
          clear e g
          intro D4 e
          have g : ((-v2 + u3 + d2) + v3) ≤ (u2 + d3) := by omega
          rw [Int.max_eq_left g] at e
          obtain rfl : D4 = u2 - u3 + d3 := by omega
          clear e g
          intro V4 e
          have g : (d3 + u2) ≤ ((v1 - v2 + u3) + (u2 - u3 + d3)) := by omega
          rw [Int.max_eq_left g] at e
          obtain rfl : V4 = v1 + u2 - u3 - d2 + d3 := by omega
          clear e g
          intro h5 e
          have g : (u1 + d3) ≤ (d1 + (v1 - v2 + u3)) := by omega
          rw [Int.max_eq_right g] at e
          obtain rfl : h5 = -v2 + u3 + d1 := by omega
          clear e g
          intro U5 e
          have g : (u1 + d3) ≤ ((-v2 + u3 + d1) + v0) := by omega
          rw [Int.max_eq_right g] at e
          obtain rfl : U5 = v0 - v2 + u3 := by omega
          clear e g
          intro D5 e
          have g : (u1 + d3) ≤ ((-v2 + u3 + d1) + (v1 + u2 - u3 - d2 + d3)) := by omega
          rw [Int.max_eq_right g] at e
          obtain rfl : D5 = u2 - u3 + d1 - d2 + d3 := by omega
          clear e g
          intro V5 e
          have g : (d3 + u1) ≤ ((v0 - v2 + u3) + (u2 - u3 + d1 - d2 + d3)) := by omega
          rw [Int.max_eq_left g] at e
          obtain rfl : V5 = v0 + u2 - u3 - d2 + d3 := by omega
          clear e g
          intro h6 e
          have g : (u1 + (u2 - u3 + d3)) ≤ ((u2 - u3 + d1 - d2 + d3) + u2) := by omega
          rw [Int.max_eq_right g] at e
          obtain rfl : h6 = -v1 + u2 + d1 := by omega
          clear e g
          intro U6 e
          have g : (u1 + (u2 - u3 + d3)) ≤ ((-v1 + u2 + d1) + (v0 + u2 - u3 - d2 + d3)) := by omega
          rw [Int.max_eq_right g] at e
          obtain rfl : U6 = v0 - v1 + u2 := by omega
          clear e g
          intro D6 e
          have g : ((-v1 + u2 + d1) + v3) ≤ (u1 + (u2 - u3 + d3)) := by omega
          rw [Int.max_eq_left g] at e
          obtain rfl : D6 = u1 - u3 + d3 := by omega
          clear e g
          intro V6 e
          have g : ((u2 - u3 + d3) + u1) ≤ ((v0 - v1 + u2) + (u1 - u3 + d3)) := by omega
          rw [Int.max_eq_left g] at e
          obtain rfl : V6 = v0 + u1 - u3 - d1 + d3 := by omega
          clear e g
          exact ⟨rfl, rfl, rfl, rfl, rfl, rfl⟩
        · rw [Int.max_eq_right g] at e
          obtain rfl : V3 = v0 - v1 + v2 + u2 - u3 - d2 + d3 := by omega
          clear e
          intro h4 e
          have g : (u2 + d3) ≤ (d2 + u3) := by omega
          rw [Int.max_eq_right g] at e
          obtain rfl : h4 = -v2 + u3 + d2 := by omega
          clear e g
          intro U4 e
          have g : (u2 + d3) ≤ ((-v2 + u3 + d2) + v1) := by omega
          rw [Int.max_eq_right g] at e
          obtain rfl : U4 = v1 - v2 + u3 := by omega
          clear e g
          intro D4 e
          have g : ((-v2 + u3 + d2) + v3) ≤ (u2 + d3) := by omega
          rw [Int.max_eq_left g] at e
          obtain rfl : D4 = u2 - u3 + d3 := by omega
          clear e g
          intro V4 e
          have g : ((v1 - v2 + u3) + (u2 - u3 + d3)) ≤ (d3 + u2) := by omega
          rw [Int.max_eq_right g] at e
          obtain rfl : V4 = v2 + u2 - u3 - d2 + d3 := by omega
          clear e g
          intro h5 e
          have g : (u1 + d3) ≤ (d1 + (v1 - v2 + u3)) := by omega
          rw [Int.max_eq_right g] at e
          obtain rfl : h5 = -v2 + u3 + d1 := by omega
          clear e g
          intro U5 e
          have g : (u1 + d3) ≤ ((-v2 + u3 + d1) + v0) := by omega
          rw [Int.max_eq_right g] at e
          obtain rfl : U5 = v0 - v2 + u3 := by omega
          clear e g
          intro D5 e
          have g : (u1 + d3) ≤ ((-v2 + u3 + d1) + (v2 + u2 - u3 - d2 + d3)) := by omega
          rw [Int.max_eq_right g] at e
          obtain rfl : D5 = -v1 + v2 + u2 - u3 + d1 - d2 + d3 := by omega
          clear e g
          intro V5 e
          have g : (d3 + u1) ≤ ((v0 - v2 + u3) + (-v1 + v2 + u2 - u3 + d1 - d2 + d3)) := by omega
          rw [Int.max_eq_left g] at e
          obtain rfl : V5 = v0 - v1 + v2 + u2 - u3 - d2 + d3 := by omega
          clear e g
          intro h6 e
          have g : (u1 + (u2 - u3 + d3)) ≤ ((-v1 + v2 + u2 - u3 + d1 - d2 + d3) + u2) := by omega
          rw [Int.max_eq_right g] at e
          obtain rfl : h6 = -v1 + u2 + d1 := by omega
          clear e g
          intro U6 e
          have g : (u1 + (u2 - u3 + d3)) ≤ ((-v1 + u2 + d1) + (v0 - v1 + v2 + u2 - u3 - d2 + d3)) := by omega
          rw [Int.max_eq_right g] at e
          obtain rfl : U6 = v0 - v1 + u2 := by omega
          clear e g
          intro D6 e
          have g : ((-v1 + u2 + d1) + v3) ≤ (u1 + (u2 - u3 + d3)) := by omega
          rw [Int.max_eq_left g] at e
          obtain rfl : D6 = u1 - u3 + d3 := by omega
          clear e g
          intro V6 e
          have g : ((u2 - u3 + d3) + u1) ≤ ((v0 - v1 + u2) + (u1 - u3 + d3)) := by omega
          rw [Int.max_eq_left g] at e
          obtain rfl : V6 = v0 + u1 - u3 - d1 + d3 := by omega
          clear e g
          exact ⟨rfl, rfl, rfl, rfl, rfl, rfl⟩
  · rw [Int.max_eq_right g] at e
    obtain rfl : V2 = v1 + u1 - u3 - d1 + d3 := by omega
    clear e
    intro h3 e
    rcases Int.le_total (d2 + (v0 - v1 + u3)) ((v0 - v1 + u2) + d3) with g | g
    · rw [Int.max_eq_left g] at e
      obtain rfl : h3 = -v2 + u2 + d3 := by omega
      clear e
      intro U3 e
      rcases Int.le_total ((-v2 + u2 + d3) + v0) ((v0 - v1 + u2) + d3) with g | g
      · rw [Int.max_eq_left g] at e
        obtain rfl : U3 = v0 - v1 + u2 - d2 + d3 := by omega
        clear e
        intro D3 e
        have g : ((-v2 + u2 + d3) + (v1 + u1 - u3 - d1 + d3)) ≤ ((v0 - v1 + u2) + d3) := by omega
        rw [Int.max_eq_left g] at e
        obtain rfl : D3 = u2 - u3 + d3 := by omega
        clear e g
        intro V3 e
        have g : (d3 + (v0 - v1 + u2)) ≤ ((v0 - v1 + u2 - d2 + d3) + (u2 - u3 + d3)) := by omega
        rw [Int.max_eq_left g] at e
        obtain rfl : V3 = v0 - v1 + v2 + u2 - u3 - d2 + d3 := by omega
        clear e g
        intro h4 e
        have g : (d2 + u3) ≤ (u2 + d3) := by omega
        rw [Int.max_eq_left g] at e
        obtain rfl : h4 = -v2 + u2 + d3 := by omega
        clear e g
        intro U4 e
        have g : ((-v2 + u2 + d3) + v1) ≤ (u2 + d3) := by omega
        rw [Int.max_eq_left g] at e
        obtain rfl : U4 = u2 - d2 + d3 := by omega
        clear e g
        intro D4 e
        have g : ((-v2 + u2 + d3) + v3) ≤ (u2 + d3) := by omega
        rw [Int.max_eq_left g] at e
        obtain rfl : D4 = u2 - u3 + d3 := by omega
        clear e g
        intro V4 e
        have g : (d3 + u2) ≤ ((u2 - d2 + d3) + (u2 - u3 + d3)) := by omega
        rw [Int.max_eq_left g] at e
        obtain rfl : V4 = v2 + u2 - u3 - d2 + d3 := by omega
        clear e g
        intro h5 e
        have g : (u1 + d3) ≤ (d1 + (u2 - d2 + d3)) := by omega
        rw [Int.max_eq_right g] at e
        obtain rfl : h5 = -v1 + u2 + d1 - d2 + d3 := by omega
        clear e g
        intro U5 e
        have g : (u1 + d3) ≤ ((-v1 + u2 + d1 - d2 + d3) + v0) := by omega
        rw [Int.max_eq_right g] at e
        obtain rfl : U5 = v0 - v1 + u2 - d2 + d3 := by omega
        clear e g
        intro D5 e
        have g : (u1 + d3) ≤ ((-v1 + u2 + d1 - d2 + d3) + (v2 + u2 - u3 - d2 + d3)) := by omega
        rw [Int.max_eq_right g] at e
        obtain rfl : D5 = -v1 + v2 + u2 - u3 + d1 - d2 + d3 := by omega
        clear e g
        intro V5 e
        have g : (d3 + u1) ≤ ((v0 - v1 + u2 - d2 + d3) + (-v1 + v2 + u2 - u3 + d1 - d2 + d3)) := by omega
        rw [Int.max_eq_left g] at e
        obtain rfl : V5 = v0 - v1 + v2 + u2 - u3 - d2 + d3 := by omega
        clear e g
        intro h6 e
        have g : (u1 + (u2 - u3 + d3)) ≤ ((-v1 + v2 + u2 - u3 + d1 - d2 + d3) + u2) := by omega
        rw [Int.max_eq_right g] at e
        obtain rfl : h6 = -v1 + u2 + d1 := by omega
        clear e g
        intro U6 e
        have g : (u1 + (u2 - u3 + d3)) ≤ ((-v1 + u2 + d1) + (v0 - v1 + v2 + u2 - u3 - d2 + d3)) := by omega
        rw [Int.max_eq_right g] at e
        obtain rfl : U6 = v0 - v1 + u2 := by omega
        clear e g
        intro D6 e
        have g : ((-v1 + u2 + d1) + v3) ≤ (u1 + (u2 - u3 + d3)) := by omega
        rw [Int.max_eq_left g] at e
        obtain rfl : D6 = u1 - u3 + d3 := by omega
        clear e g
        intro V6 e
        have g : ((v0 - v1 + u2) + (u1 - u3 + d3)) ≤ ((u2 - u3 + d3) + u1) := by omega
        rw [Int.max_eq_right g] at e
        obtain rfl : V6 = v1 + u1 - u3 - d1 + d3 := by omega
        clear e g
        exact ⟨rfl, rfl, rfl, rfl, rfl, rfl⟩
      · rw [Int.max_eq_right g] at e
        obtain rfl : U3 = v0 - v2 + u2 - d2 + d3 := by omega
        clear e
        intro D3 e
        have g : ((-v2 + u2 + d3) + (v1 + u1 - u3 - d1 + d3)) ≤ ((v0 - v1 + u2) + d3) := by omega
        rw [Int.max_eq_left g] at e
        obtain rfl : D3 = u2 - u3 + d3 := by omega
        clear e g
        intro V3 e
        have g : (d3 + (v0 - v1 + u2)) ≤ ((v0 - v2 + u2 - d2 + d3) + (u2 - u3 + d3)) := by omega
        rw [Int.max_eq_left g] at e
        obtain rfl : V3 = v0 + u2 - u3 - d2 + d3 := by omega
        clear e g
        intro h4 e
        have g : (d2 + u3) ≤ (u2 + d3) := by omega
        rw [Int.max_eq_left g] at e
        obtain rfl : h4 = -v2 + u2 + d3 := by omega
        clear e g
        intro U4 e
        have g : (u2 + d3) ≤ ((-v2 + u2 + d3) + v1) := by omega
        rw [Int.max_eq_right g] at e
        obtain rfl : U4 = v1 - v2 + u2 - d2 + d3 := by omega
        clear e g
        intro D4 e
        have g : ((-v2 + u2 + d3) + v3) ≤ (u2 + d3) := by omega
        rw [Int.max_eq_left g] at e
        obtain rfl : D4 = u2 - u3 + d3 := by omega
        clear e g
        intro V4 e
        have g : (d3 + u2) ≤ ((v1 - v2 + u2 - d2 + d3) + (u2 - u3 + d3)) := by omega
        rw [Int.max_eq_left g] at e
        obtain rfl : V4 = v1 + u2 - u3 - d2 + d3 := by omega
        clear e g
        intro h5 e
        have g : (u1 + d3) ≤ (d1 + (v1 - v2 + u2 - d2 + d3)) := by omega
        rw [Int.max_eq_right g] at e
        obtain rfl : h5 = -v2 + u2 + d1 - d2 + d3 := by omega
        clear e g
        intro U5 e
        have g : (u1 + d3) ≤ ((-v2 + u2 + d1 - d2 + d3) + v0) := by omega
        rw [Int.max_eq_right g] at e
        obtain rfl : U5 = v0 - v2 + u2 - d2 + d3 := by omega
        clear e g
        intro D5 e
        have g : (u1 + d3) ≤ ((-v2 + u2 + d1 - d2 + d3) + (v1 + u2 - u3 - d2 + d3)) := by omega
        rw [Int.max_eq_right g] at e
        obtain rfl : D5 = u2 - u3 + d1 - d2 + d3 := by omega
        clear e g
        intro V5 e
        have g : (d3 + u1) ≤ ((v0 - v2 + u2 - d2 + d3) + (u2 - u3 + d1 - d2 + d3)) := by omega
        rw [Int.max_eq_left g] at e
        obtain rfl : V5 = v0 + u2 - u3 - d2 + d3 := by omega
        clear e g
        intro h6 e
        have g : (u1 + (u2 - u3 + d3)) ≤ ((u2 - u3 + d1 - d2 + d3) + u2) := by omega
        rw [Int.max_eq_right g] at e
        obtain rfl : h6 = -v1 + u2 + d1 := by omega
        clear e g
        intro U6 e
        have g : (u1 + (u2 - u3 + d3)) ≤ ((-v1 + u2 + d1) + (v0 + u2 - u3 - d2 + d3)) := by omega
        rw [Int.max_eq_right g] at e
        obtain rfl : U6 = v0 - v1 + u2 := by omega
        clear e g
        intro D6 e
        have g : ((-v1 + u2 + d1) + v3) ≤ (u1 + (u2 - u3 + d3)) := by omega
        rw [Int.max_eq_left g] at e
        obtain rfl : D6 = u1 - u3 + d3 := by omega
        clear e g
        intro V6 e
        have g : ((v0 - v1 + u2) + (u1 - u3 + d3)) ≤ ((u2 - u3 + d3) + u1) := by omega
        rw [Int.max_eq_right g] at e
        obtain rfl : V6 = v1 + u1 - u3 - d1 + d3 := by omega
        clear e g
        exact ⟨rfl, rfl, rfl, rfl, rfl, rfl⟩
    · rw [Int.max_eq_right g] at e
      obtain rfl : h3 = -v2 + u3 + d2 := by omega
      clear e
      intro U3 e
      rcases Int.le_total ((-v2 + u3 + d2) + v0) ((v0 - v1 + u2) + d3) with g | g
      · rw [Int.max_eq_left g] at e
        obtain rfl : U3 = v0 - v1 + u2 - d2 + d3 := by omega
        clear e
        intro D3 e
        have g : ((-v2 + u3 + d2) + (v1 + u1 - u3 - d1 + d3)) ≤ ((v0 - v1 + u2) + d3) := by omega
        rw [Int.max_eq_left g] at e
        obtain rfl : D3 = u2 - u3 + d3 := by omega
        clear e g
        intro V3 e
        have g : ((v0 - v1 + u2 - d2 + d3) + (u2 - u3 + d3)) ≤ (d3 + (v0 - v1 + u2)) := by omega
        rw [Int.max_eq_right g] at e
        obtain rfl : V3 = v0 - v1 + v2 + u2 - u3 - d2 + d3 := by omega
        clear e g
        intro h4 e
        have g : (u2 + d3) ≤ (d2 + u3) := by omega
        rw [Int.max_eq_right g] at e
        obtain rfl : h4 = -v2 + u3 + d2 := by omega
        clear e g
        intro U4 e
        have g : ((-v2 + u3 + d2) + v1) ≤ (u2 + d3) := by omega
        rw [Int.max_eq_left g] at e
        obtain rfl : U4 = u2 - d2 + d3 := by omega
        clear e g
        intro D4 e
        have g : ((-v2 + u3 + d2) + v3) ≤ (u2 + d3) := by omega
        rw [Int.max_eq_left g] at e
        obtain rfl : D4 = u2 - u3 + d3 := by omega
        clear e g
        intro V4 e
        have g : ((u2 - d2 + d3) + (u2 - u3 + d3)) ≤ (d3 + u2) := by omega
        rw [Int.max_eq_right g] at e
        obtain rfl : V4 = v2 + u2 - u3 - d2 + d3 := by omega
        clear e g
        intro h5 e
        have g : (u1 + d3) ≤ (d1 + (u2 - d2 + d3)) := by omega
        rw [Int.max_eq_right g] at e
        obtain rfl : h5 = -v1 + u2 + d1 - d2 + d3 := by omega
        clear e g
        intro U5 e
        have g : (u1 + d3) ≤ ((-v1 + u2 + d1 - d2 + d3) + v0) := by omega
        rw [Int.max_eq_right g] at e
        obtain rfl : U5 = v0 - v1 + u2 - d2 + d3 := by omega
        clear e g
        intro D5 e
        have g : (u1 + d3) ≤ ((-v1 + u2 + d1 - d2 + d3) + (v2 + u2 - u3 - d2 + d3)) := by omega
        rw [Int.max_eq_right g] at e
        obtain rfl : D5 = -v1 + v2 + u2 - u3 + d1 - d2 + d3 := by omega
        clear e g
        intro V5 e
        have g : (d3 + u1) ≤ ((v0 - v1 + u2 - d2 + d3) + (-v1 + v2 + u2 - u3 + d1 - d2 + d3)) := by omega
        rw [Int.max_eq_left g] at e
        obtain rfl : V5 = v0 - v1 + v2 + u2 - u3 - d2 + d3 := by omega
        clear e g
        intro h6 e
        have g : (u1 + (u2 - u3 + d3)) ≤ ((-v1 + v2 + u2 - u3 + d1 - d2 + d3) + u2) := by omega
        rw [Int.max_eq_right g] at e
        obtain rfl : h6 = -v1 + u2 + d1 := by omega
        clear e g
        intro U6 e
        have g : (u1 + (u2 - u3 + d3)) ≤ ((-v1 + u2 + d1) + (v0 - v1 + v2 + u2 - u3 - d2 + d3)) := by omega
        rw [Int.max_eq_right g] at e
        obtain rfl : U6 = v0 - v1 + u2 := by omega
        clear e g
        intro D6 e
        have g : ((-v1 + u2 + d1) + v3) ≤ (u1 + (u2 - u3 + d3)) := by omega
        rw [Int.max_eq_left g] at e
        obtain rfl : D6 = u1 - u3 + d3 := by omega
        clear e g
        intro V6 e
        have g : ((v0 - v1 + u2) + (u1 - u3 + d3)) ≤ ((u2 - u3 + d3) + u1) := by omega
        rw [Int.max_eq_right g] at e
        obtain rfl : V6 = v1 + u1 - u3 - d1 + d3 := by omega
        clear e g
        exact ⟨rfl, rfl, rfl, rfl, rfl, rfl⟩
      · rw [Int.max_eq_right g] at e
        obtain rfl : U3 = v0 - v2 + u3 := by omega
        clear e
        intro D3 e
        have g : ((-v2 + u3 + d2) + (v1 + u1 - u3 - d1 + d3)) ≤ ((v0 - v1 + u2) + d3) := by omega
        rw [Int.max_eq_left g] at e
        obtain rfl : D3 = u2 - u3 + d3 := by omega
        clear e g
        intro V3 e
        rcases Int.le_total (d3 + (v0 - v1 + u2)) ((v0 - v2 + u3) + (u2 - u3 + d3)) with g | g
        · rw [Int.max_eq_left g] at e
          obtain rfl : V3 = v0 + u2 - u3 - d2 + d3 := by omega
          clear e
          intro h4 e
          have g : (u2 + d3) ≤ (d2 + u3) := by omega
          rw [Int.max_eq_right g] at e
          obtain rfl : h4 = -v2 + u3 + d2 := by omega
          clear e g
          intro U4 e
          have g : (u2 + d3) ≤ ((-v2 + u3 + d2) + v1) := by omega
          rw [Int.max_eq_right g] at e
          obtain rfl : U4 = v1 - v2 + u3 := by omega
          clear e g
          intro D4 e
          have g : ((-v2 + u3 + d2) + v3) ≤ (u2 + d3) := by omega
          rw [Int.max_eq_left g] at e
          obtain rfl : D4 = u2 - u3 + d3 := by omega
          clear e g
          intro V4 e
          have g : (d3 + u2) ≤ ((v1 - v2 + u3) + (u2 - u3 + d3)) := by omega
          rw [Int.max_eq_left g] at e
          obtain rfl : V4 = v1 + u2 - u3 - d2 + d3 := by omega
          clear e g
          intro h5 e
          have g : (u1 + d3) ≤ (d1 + (v1 - v2 + u3)) := by omega
          rw [Int.max_eq_right g] at e
          obtain rfl : h5 = -v2 + u3 + d1 := by omega
          clear e g
          intro U5 e
          have g : (u1 + d3) ≤ ((-v2 + u3 + d1) + v0) := by omega
          rw [Int.max_eq_right g] at e
          obtain rfl : U5 = v0 - v2 + u3 := by omega
          clear e g
          intro D5 e
          have g : (u1 + d3) ≤ ((-v2 + u3 + d1) + (v1 + u2 - u3 - d2 + d3)) := by omega
          rw [Int.max_eq_right g] at e
          obtain rfl : D5 = u2 - u3 + d1 - d2 + d3 := by omega
          clear e g
          intro V5 e
          have g : (d3 + u1) ≤ ((v0 - v2 + u3) + (u2 - u3 + d1 - d2 + d3)) := by omega
          rw [Int.max_eq_left g] at e
          obtain rfl : V5 = v0 + u2 - u3 - d2 + d3 := by omega
          clear e g
          intro h6 e
          have g : (u1 + (u2 - u3 + d3)) ≤ ((u2 - u3 + d1 - d2 + d3) + u2) := by omega
          rw [Int.max_eq_right g] at e
          obtain rfl : h6 = -v1 + u2 + d1 := by omega
          clear e g
          intro U6 e
          have g : (u1 + (u2 - u3 + d3)) ≤ ((-v1 + u2 + d1) + (v0 + u2 - u3 - d2 + d3)) := by omega
          rw [Int.max_eq_right g] at e
          obtain rfl : U6 = v0 - v1 + u2 := by omega
          clear e g
          intro D6 e
          have g : ((-v1 + u2 + d1) + v3) ≤ (u1 + (u2 - u3 + d3)) := by omega
          rw [Int.max_eq_left g] at e
          obtain rfl : D6 = u1 - u3 + d3 := by omega
          clear e g
          intro V6 e
          have g : ((v0 - v1 + u2) + (u1 - u3 + d3)) ≤ ((u2 - u3 + d3) + u1) := by omega
          rw [Int.max_eq_right g] at e
          obtain rfl : V6 = v1 + u1 - u3 - d1 + d3 := by omega
          clear e g
          exact ⟨rfl, rfl, rfl, rfl, rfl, rfl⟩
        · rw [Int.max_eq_right g] at e
          obtain rfl : V3 = v0 - v1 + v2 + u2 - u3 - d2 + d3 := by omega
          clear e
          intro h4 e
          have g : (u2 + d3) ≤ (d2 + u3) := by omega
          rw [Int.max_eq_right g] at e
          obtain rfl : h4 = -v2 + u3 + d2 := by omega
          clear e g
          intro U4 e
          have g : (u2 + d3) ≤ ((-v2 + u3 + d2) + v1) := by omega
          rw [Int.max_eq_right g] at e
          obtain rfl : U4 = v1 - v2 + u3 := by omega
          clear e g
          intro D4 e
          have g : ((-v2 + u3 + d2) + v3) ≤ (u2 + d3) := by omega
          rw [Int.max_eq_left g] at e
          obtain rfl : D4 = u2 - u3 + d3 := by omega
          clear e g
          intro V4 e
          have g : ((v1 - v2 + u3) + (u2 - u3 + d3)) ≤ (d3 + u2) := by omega
          rw [Int.max_eq_right g] at e
          obtain rfl : V4 = v2 + u2 - u3 - d2 + d3 := by omega
          clear e g
          intro h5 e
          have g : (u1 + d3) ≤ (d1 + (v1 - v2 + u3)) := by omega
          rw [Int.max_eq_right g] at e
          obtain rfl : h5 = -v2 + u3 + d1 := by omega
          clear e g
          intro U5 e
          have g : (u1 + d3) ≤ ((-v2 + u3 + d1) + v0) := by omega
          rw [Int.max_eq_right g] at e
          obtain rfl : U5 = v0 - v2 + u3 := by omega
          clear e g
          intro D5 e
          have g : (u1 + d3) ≤ ((-v2 + u3 + d1) + (v2 + u2 - u3 - d2 + d3)) := by omega
          rw [Int.max_eq_right g] at e
          obtain rfl : D5 = -v1 + v2 + u2 - u3 + d1 - d2 + d3 := by omega
          clear e g
          intro V5 e
          have g : (d3 + u1) ≤ ((v0 - v2 + u3) + (-v1 + v2 + u2 - u3 + d1 - d2 + d3)) := by omega
          rw [Int.max_eq_left g] at e
          obtain rfl : V5 = v0 - v1 + v2 + u2 - u3 - d2 + d3 := by omega
          clear e g
          intro h6 e
          have g : (u1 + (u2 - u3 + d3)) ≤ ((-v1 + v2 + u2 - u3 + d1 - d2 + d3) + u2) := by omega
          rw [Int.max_eq_right g] at e
          obtain rfl : h6 = -v1 + u2 + d1 := by omega
          clear e g
          intro U6 e
          have g : (u1 + (u2 - u3 + d3)) ≤ ((-v1 + u2 + d1) + (v0 - v1 + v2 + u2 - u3 - d2 + d3)) := by omega
          rw [Int.max_eq_right g] at e
          obtain rfl : U6 = v0 - v1 + u2 := by omega
          clear e g
          intro D6 e
          have g : ((-v1 + u2 + d1) + v3) ≤ (u1 + (u2 - u3 + d3)) := by omega
          rw [Int.max_eq_left g] at e
          obtain rfl : D6 = u1 - u3 + d3 := by omega
          clear e g
          intro V6 e
          have g : ((v0 - v1 + u2) + (u1 - u3 + d3)) ≤ ((u2 - u3 + d3) + u1) := by omega
          rw [Int.max_eq_right g] at e
          obtain rfl : V6 = v1 + u1 - u3 - d1 + d3 := by omega
          clear e g
          exact ⟨rfl, rfl, rfl, rfl, rfl, rfl⟩
set_option maxHeartbeats 4000000 in
set_option maxRecDepth 100000 in
theorem dy_c28 (v0 v1 v2 v3 u1 u2 u3 d1 d2 d3 : Int) (g0 : u1 + d2 ≤ u2 + d1) (g1 : v1 + u1 + d2 ≤ v0 + u2 + d1) (g2 : v1 + u1 + d2 ≤ v2 + u2 + d1) (g3 : 2 * v1 + u1 + d2 ≤ v0 + v2 + u2 + d1) (g4 : v1 + u1 + d3 ≤ v2 + u3 + d1) (g5 : 2 * v1 + u1 + d3 ≤ v0 + v2 + u3 + d1) (g6 : v1 + u1 + d3 ≤ v3 + u3 + d1) (g7 : 2 * v1 + u1 + d3 ≤ v0 + v3 + u3 + d1) : ∀ h3 : Int, h3 = max ((v0 - v1 + u2) + d3) (d2 + (v0 - v1 + u3)) - (v0 - v1 + v2) → ∀ U3 : Int, U3 = max ((v0 - v1 + u2) + d3) (h3 + v0) - d2 → ∀ D3 : Int, D3 = max ((v0 - v1 + u2) + d3) (h3 + (v0 - v1 + v3)) - (v0 - v1 + u3) → ∀ V3 : Int, V3 = max (U3 + D3) (d3 + (v0 - v1 + u2)) - h3 → ∀ h4 : Int, h4 = max (u2 + d3) (d2 + u3) - v2 → ∀ U4 : Int, U4 = max (u2 + d3) (h4 + v1) - d2 → ∀ D4 : Int, D4 = max (u2 + d3) (h4 + v3) - u3 → ∀ V4 : Int, V4 = max (U4 + D4) (d3 + u2) - h4 → ∀ h5 : Int, h5 = max (u1 + d3) (d1 + U4) - v1 → ∀ U5 : Int, U5 = max (u1 + d3) (h5 + v0) - d1 → ∀ D5 : Int, D5 = max (u1 + d3) (h5 + V4) - U4 → ∀ V5 : Int, V5 = max (U5 + D5) (d3 + u1) - h5 → ∀ h6 : Int, h6 = max (u1 + D4) (D5 + u2) - V4 → ∀ U6 : Int, U6 = max (u1 + D4) (h6 + V5) - D5 → ∀ D6 : Int, D6 = max (u1 + D4) (h6 + v3) - u2 → ∀ V6 : Int, V6 = max (U6 + D6) (D4 + u1) - h6 → V3 = V5 ∧ U3 = U5 ∧ (v0 - v1 + v3) = V6 ∧ (v0 - v1 + u2) = U6 ∧ D3 = D4 ∧ (-v1 + v3 + d1) = D6 := by
  intro h3 e
  rcases Int.le_total (d2 + (v0 - v1 + u3)) ((v0 - v1 + u2) + d3) with g | g
  · rw [Int.max_eq_left g] at e
    obtain rfl : h3 = -v2 + u2 + d3 := by omega
    clear e
    intro U3 e
    rcases Int.le_total ((-v2 + u2 + d3) + v0) ((v0 - v1 + u2) + d3) with g | g
    · rw [Int.max_eq_left g] at e
      obtain rfl : U3 = v0 - v1 + u2 - d2 + d3 := by omega
      clear e
      intro D3 e
      rcases Int.le_total ((-v2 + u2 + d3) + (v0 - v1 + v3)) ((v0 - v1 + u2) + d3) with g | g
      · rw [Int.max_eq_left g] at e
        obtain rfl : D3 = u2 - u3 + d3 := by omega
        clear e
        intro V3 e
        have g : (d3 + (v0 - v1 + u2)) ≤ ((v0 - v1 + u2 - d2 + d3) + (u2 - u3 + d3)) := by omega
        rw [Int.max_eq_left g] at e
        obtain rfl : V3 = v0 - v1 + v2 + u2 - u3 - d2 + d3 := by omega
        clear e g
        intro h4 e
        have g : (d2 + u3) ≤ (u2 + d3) := by omega
        rw [Int.max_eq_left g] at e
        obtain rfl : h4 = -v2 + u2 + d3 := by omega
        clear e g
        intro U4 e
        have g : ((-v2 + u2 + d3) + v1) ≤ (u2 + d3) := by omega
        rw [Int.max_eq_left g] at e
        obtain rfl : U4 = u2 - d2 + d3 := by omega
        clear e g
        intro D4 e
        have g : ((-v2 + u2 + d3) + v3) ≤ (u2 + d3) := by omega
        rw [Int.max_eq_left g] at e
        obtain rfl : D4 = u2 - u3 + d3 := by omega
        clear e g
        intro V4 e
        have g : (d3 + u2) ≤ ((u2 - d2 + d3) + (u2 - u3 + d3)) := by omega
        rw [Int.max_eq_left g] at e
        obtain rfl : V4 = v2 + u2 - u3 - d2 + d3 := by omega
        clear e g
        intro h5 e
        have g : (u1 + d3) ≤ (d1 + (u2 - d2 + d3)) := by omega
        rw [Int.max_eq_right g] at e
        obtain rfl : h5 = -v1 + u2 + d1 - d2 + d3 := by omega
        clear e g
        intro U5 e
        have g : (u1 + d3) ≤ ((-v1 + u2 + d1 - d2 + d3) + v0) := by omega
        rw [Int.max_eq_right g] at e
        obtain rfl : U5 = v0 - v1 + u2 - d2 + d3 := by omega
        clear e g
        intro D5 e
        have g : (u1 + d3) ≤ ((-v1 + u2 + d1 - d2 + d3) + (v2 + u2 - u3 - d2 + d3)) := by omega
        rw [Int.max_eq_right g] at e
        obtain rfl : D5 = -v1 + v2 + u2 - u3 + d1 - d2 + d3 := by omega
        clear e g
        intro V5 e
        have g : (d3 + u1) ≤ ((v0 - v1 + u2 - d2 + d3) + (-v1 + v2 + u2 - u3 + d1 - d2 + d3)) := by omega
        rw [Int.max_eq_left g] at e
        obtain rfl : V5 = v0 - v1 + v2 + u2 - u3 - d2 + d3 := by omega
        clear e g
        intro h6 e
        have g : (u1 + (u2 - u3 + d3)) ≤ ((-v1 + v2 + u2 - u3 + d1 - d2 + d3) + u2) := by omega
        rw [Int.max_eq_right g] at e
        obtain rfl : h6 = -v1 + u2 + d1 := by omega
        clear e g
        intro U6 e
        have g : (u1 + (u2 - u3 + d3)) ≤ ((-v1 + u2 + d1) + (v0 - v1 + v2 + u2 - u3 - d2 + d3)) := by omega
        rw [Int.max_eq_right g] at e
        obtain rfl : U6 = v0 - v1 + u2 := by omega
        clear e g
        intro D6 e
        have g : (u1 + (u2 - u3 + d3)) ≤ ((-v1 + u2 + d1) + v3) := by omega
        rw [Int.max_eq_right g] at e
        obtain rfl : D6 = -v1 + v3 + d1 := by omega
        clear e g
        intro V6 e
        have g : ((u2 - u3 + d3) + u1) ≤ ((v0 - v1 + u2) + (-v1 + v3 + d1)) := by omega
        rw [Int.max_eq_left g] at e
        obtain rfl : V6 = v0 - v1 + v3 := by omega
        clear e g
        exact ⟨rfl, rfl, rfl, rfl, rfl, rfl⟩
      · rw [Int.max_eq_right g] at e
        obtain rfl : D3 = -v2 + v3 + u2 - u3 + d3 := by omega
        clear e
        intro V3 e
        have g : (d3 + (v0 - v1 + u2)) ≤ ((v0 - v1 + u2 - d2 + d3) + (-v2 + v3 + u2 - u3 + d3)) := by omega
        rw [Int.max_eq_left g] at e
        obtain rfl : V3 = v0 - v1 + v3 + u2 - u3 - d2 + d3 := by omega
        clear e g
        intro h4 e
        have g : (d2 + u3) ≤ (u2 + d3) := by omega
        rw [Int.max_eq_left g] at e
        obtain rfl : h4 = -v2 + u2 + d3 := by omega
        clear e g
        intro U4 e
        have g : ((-v2 + u2 + d3) + v1) ≤ (u2 + d3) := by omega
        rw [Int.max_eq_left g] at e
        obtain rfl : U4 = u2 - d2 + d3 := by omega
        clear e g
        intro D4 e
        have g : (u2 + d3) ≤ ((-v2 + u2 + d3) + v3) := by omega
        rw [Int.max_eq_right g] at e
        obtain rfl : D4 = -v2 + v3 + u2 - u3 + d3 := by omega
        clear e g
        intro V4 e
        have g : (d3 + u2) ≤ ((u2 - d2 + d3) + (-v2 + v3 + u2 - u3 + d3)) := by omega
        rw [Int.max_eq_left g] at e
        obtain rfl : V4 = v3 + u2 - u3 - d2 + d3 := by omega
        clear e g
        intro h5 e
        have g : (u1 + d3) ≤ (d1 + (u2 - d2 + d3)) := by omega
        rw [Int.max_eq_right g] at e
        obtain rfl : h5 = -v1 + u2 + d1 - d2 + d3 := by omega
        clear e g
        intro U5 e
        have g : (u1 + d3) ≤ ((-v1 + u2 + d1 - d2 + d3) + v0) := by omega
        rw [Int.max_eq_right g] at e
        obtain rfl : U5 = v0 - v1 + u2 - d2 + d3 := by omega
        clear e g
        intro D5 e
        have g : (u1 + d3) ≤ ((-v1 + u2 + d1 - d2 + d3) + (v3 + u2 - u3 - d2 + d3)) := by omega
        rw [Int.max_eq_right g] at e
        obtain rfl : D5 = -v1 + v3 + u2 - u3 + d1 - d2 + d3 := by omega
        clear e g
        intro V5 e
        have g : (d3 + u1) ≤ ((v0 - v1 + u2 - d2 + d3) + (-v1 + v3 + u2 - u3 + d1 - d2 + d3)) := by omega
        rw [Int.max_eq_left g] at e
        obtain rfl : V5 = v0 - v1 + v3 + u2 - u3 - d2 + d3 := by omega
        clear e g
        intro h6 e
        have g : (u1 + (-v2 + v3 + u2 - u3 + d3)) ≤ ((-v1 + v3 + u2 - u3 + d1 - d2 + d3) + u2) := by omega
        rw [Int.max_eq_right g] at e
        obtain rfl : h6 = -v1 + u2 + d1 := by omega
        clear e g
        intro U6 e
        have g : (u1 + (-v2 + v3 + u2 - u3 + d3)) ≤ ((-v1 + u2 + d1) + (v0 - v1 + v3 + u2 - u3 - d2 + d3)) := by omega
        rw [Int.max_eq_right g] at e
        obtain rfl : U6 = v0 - v1 + u2 := by omega
        clear e g
        intro D6 e
        have g : (u1 + (-v2 + v3 + u2 - u3 + d3)) ≤ ((-v1 + u2 + d1) + v3) := by omega
        rw [Int.max_eq_right g] at e
        obtain rfl : D6 = -v1 + v3 + d1 := by omega
        clear e g
        intro V6 e
        have g : ((-v2 + v3 + u2 - u3 + d3) + u1) ≤ ((v0 - v1 + u2) + (-v1 + v3 + d1)) := by omega
        rw [Int.max_eq_left g] at e
        obtain rfl : V6 = v0 - v1 + v3 := by omega
        clear e g
        exact ⟨rfl, rfl, rfl, rfl, rfl, rfl⟩
    · rw [Int.max_eq_right g] at e
      obtain rfl : U3 = v0 - v2 + u2 - d2 + d3 := by omega
      clear e
      intro D3 e
      rcases Int.le_total ((-v2 + u2 + d3) + (v0 - v1 + v3)) ((v0 - v1 + u2) + d3) with g | g
      · rw [Int.max_eq_left g] at e
        obtain rfl : D3 = u2 - u3 + d3 := by omega
        clear e
        intro V3 e
        have g : (d3 + (v0 - v1 + u2)) ≤ ((v0 - v2 + u2 - d2 + d3) + (u2 - u3 + d3)) := by omega
        rw [Int.max_eq_left g] at e
        obtain rfl : V3 = v0 + u2 - u3 - d2 + d3 := by omega
        clear e g
        intro h4 e
        have g : (d2 + u3) ≤ (u2 + d3) := by omega
        rw [Int.max_eq_left g] at e
        obtain rfl : h4 = -v2 + u2 + d3 := by omega
        clear e g
        intro U4 e
        have g : (u2 + d3) ≤ ((-v2 + u2 + d3) + v1) := by omega
        rw [Int.max_eq_right g] at e
        obtain rfl : U4 = v1 - v2 + u2 - d2 + d3 := by omega
        clear e g
        intro D4 e
        have g : ((-v2 + u2 + d3) + v3) ≤ (u2 + d3) := by omega
        rw [Int.max_eq_left g] at e
        obtain rfl : D4 = u2 - u3 + d3 := by omega
        clear e g
        intro V4 e
        have g : (d3 + u2) ≤ ((v1 - v2 + u2 - d2 + d3) + (u2 - u3 + d3)) := by omega
        rw [Int.max_eq_left g] at e
        obtain rfl : V4 = v1 + u2 - u3 - d2 + d3 := by omega
        clear e g
        intro h5 e
        have g : (u1 + d3) ≤ (d1 + (v1 - v2 + u2 - d2 + d3)) := by omega
        rw [Int.max_eq_right g] at e
        obtain rfl : h5 = -v2 + u2 + d1 - d2 + d3 := by omega
        clear e g
        intro U5 e
        have g : (u1 + d3) ≤ ((-v2 + u2 + d1 - d2 + d3) + v0) := by omega
        rw [Int.max_eq_right g] at e
        obtain rfl : U5 = v0 - v2 + u2 - d2 + d3 := by omega
        clear e g
        intro D5 e
        have g : (u1 + d3) ≤ ((-v2 + u2 + d1 - d2 + d3) + (v1 + u2 - u3 - d2 + d3)) := by omega
        rw [Int.max_eq_right g] at e
        obtain rfl : D5 = u2 - u3 + d1 - d2 + d3 := by omega
        clear e g
        intro V5 e
        have g : (d3 + u1) ≤ ((v0 - v2 + u2 - d2 + d3) + (u2 - u3 + d1 - d2 + d3)) := by omega
        rw [Int.max_eq_left g] at e
        obtain rfl : V5 = v0 + u2 - u3 - d2 + d3 := by omega
        clear e g
        intro h6 e
        have g : (u1 + (u2 - u3 + d3)) ≤ ((u2 - u3 + d1 - d2 + d3) + u2) := by omega
        rw [Int.max_eq_right g] at e
        obtain rfl : h6 = -v1 + u2 + d1 := by omega
        clear e g
        intro U6 e
        have g : (u1 + (u2 - u3 + d3)) ≤ ((-v1 + u2 + d1) + (v0 + u2 - u3 - d2 + d3)) := by omega
        rw [Int.max_eq_right g] at e
        obtain rfl : U6 = v0 - v1 + u2 := by omega
        clear e g
        intro D6 e
        have g : (u1 + (u2 - u3 + d3)) ≤ ((-v1 + u2 + d1) + v3) := by omega
        rw [Int.max_eq_right g] at e
        obtain rfl : D6 = -v1 + v3 + d1 := by omega
        clear e g
        intro V6 e
        have g : ((u2 - u3 + d3) + u1) ≤ ((v0 - v1 + u2) + (-v1 + v3 + d1)) := by omega
        rw [Int.max_eq_left g] at e
        obtain rfl : V6 = v0 - v1 + v3 := by omega
        clear e g
        exact ⟨rfl, rfl, rfl, rfl, rfl, rfl⟩
      · rw [Int.max_eq_right g] at e
        obtain rfl : D3 = -v2 + v3 + u2 - u3 + d3 := by omega
        clear e
        intro V3 e
        have g : (d3 + (v0 - v1 + u2)) ≤ ((v0 - v2 + u2 - d2 + d3) + (-v2 + v3 + u2 - u3 + d3)) := by omega
        rw [Int.max_eq_left g] at e
        obtain rfl : V3 = v0 - v2 + v3 + u2 - u3 - d2 + d3 := by omega
        clear e g
        intro h4 e
        have g : (d2 + u3) ≤ (u2 + d3) := by omega
        rw [Int.max_eq_left g] at e
        obtain rfl : h4 = -v2 + u2 + d3 := by omega
        clear e g
        intro U4 e
        have g : (u2 + d3) ≤ ((-v2 + u2 + d3) + v1) := by omega
        rw [Int.max_eq_right g] at e
        obtain rfl : U4 = v1 - v2 + u2 - d2 + d3 := by omega
        clear e g
        intro D4 e
        have g : (u2 + d3) ≤ ((-v2 + u2 + d3) + v3) := by omega
        rw [Int.max_eq_right g] at e
        obtain rfl : D4 = -v2 + v3 + u2 - u3 + d3 := by omega
        clear e g
        intro V4 e
        have g : (d3 + u2) ≤ ((v1 - v2 + u2 - d2 + d3) + (-v2 + v3 + u2 - u3 + d3)) := by omega
        rw [Int.max_eq_left g] at e
        obtain rfl : V4 = v1 - v2 + v3 + u2 - u3 - d2 + d3 := by omega
        clear e g
        intro h5 e
        have g : (u1 + d3) ≤ (d1 + (v1 - v2 + u2 - d2 + d3)) := by omega
        rw [Int.max_eq_right g] at e
        obtain rfl : h5 = -v2 + u2 + d1 - d2 + d3 := by omega
        clear e g
        intro U5 e
        have g : (u1 + d3) ≤ ((-v2 + u2 + d1 - d2 + d3) + v0) := by omega
        rw [Int.max_eq_right g] at e
        obtain rfl : U5 = v0 - v2 + u2 - d2 + d3 := by omega
        clear e g
        intro D5 e
        have g : (u1 + d3) ≤ ((-v2 + u2 + d1 - d2 + d3) + (v1 - v2 + v3 + u2 - u3 - d2 + d3)) := by omega
        rw [Int.max_eq_right g] at e
        obtain rfl : D5 = -v2 + v3 + u2 - u3 + d1 - d2 + d3 := by omega
        clear e g
        intro V5 e
        have g : (d3 + u1) ≤ ((v0 - v2 + u2 - d2 + d3) + (-v2 + v3 + u2 - u3 + d1 - d2 + d3)) := by omega
        rw [Int.max_eq_left g] at e
        obtain rfl : V5 = v0 - v2 + v3 + u2 - u3 - d2 + d3 := by omega
        clear e g
        intro h6 e
        have g : (u1 + (-v2 + v3 + u2 - u3 + d3)) ≤ ((-v2 + v3 + u2 - u3 + d1 - d2 + d3) + u2) := by omega
        rw [Int.max_eq_right g] at e
        obtain rfl : h6 = -v1 + u2 + d1 := by omega
        clear e g
        intro U6 e
        have g : (u1 + (-v2 + v3 + u2 - u3 + d3)) ≤ ((-v1 + u2 + d1) + (v0 - v2 + v3 + u2 - u3 - d2 + d3)) := by omega
        rw [Int.max_eq_right g] at e
        obtain rfl : U6 = v0 - v1 + u2 := by omega
        clear e g
        intro D6 e
        have g : (u1 + (-v2 + v3 + u2 - u3 + d3)) ≤ ((-v1 + u2 + d1) + v3) := by omega
        rw [Int.max_eq_right g] at e
        obtain rfl : D6 = -v1 + v3 + d1 := by omega
        clear e g
        intro V6 e
        have g : ((-v2 + v3 + u2 - u3 + d3) + u1) ≤ ((v0 - v1 + u2) + (-v1 + v3 + d1)) := by omega
        rw [Int.max_eq_left g] at e
        obtain rfl : V6 = v0 - v1 + v3 := by omega
        clear e g
        exact ⟨rfl, rfl, rfl, rfl, rfl, rfl⟩
  · rw [Int.max_eq_right g] at e
    obtain rfl : h3 = -v2 + u3 + d2 := by omega
    clear e
    intro U3 e
    rcases Int.le_total ((-v2 + u3 + d2) + v0) ((v0 - v1 + u2) + d3) with g | g
    · rw [Int.max_eq_left g] at e
      obtain rfl : U3 = v0 - v1 + u2 - d2 + d3 := by omega
      clear e
      intro D3 e
      rcases Int.le_total ((-v2 + u3 + d2) + (v0 - v1 + v3)) ((v0 - v1 + u2) + d3) with g | g
      · rw [Int.max_eq_left g] at e
        obtain rfl : D3 = u2 - u3 + d3 := by omega
        clear e
        intro V3 e
        have g : ((v0 - v1 + u2 - d2 + d3) + (u2 - u3 + d3)) ≤ (d3 + (v0 - v1 + u2)) := by omega
        rw [Int.max_eq_right g] at e
        obtain rfl : V3 = v0 - v1 + v2 + u2 - u3 - d2 + d3 := by omega
        clear e g
        intro h4 e
        have g : (u2 + d3) ≤ (d2 + u3) := by omega
        rw [Int.max_eq_right g] at e
        obtain rfl : h4 = -v2 + u3 + d2 := by omega
        clear e g
        intro U4 e
        have g : ((-v2 + u3 + d2) + v1) ≤ (u2 + d3) := by omega
        rw [Int.max_eq_left g] at e
        obtain rfl : U4 = u2 - d2 + d3 := by omega
        clear e g
        intro D4 e
        have g : ((-v2 + u3 + d2) + v3) ≤ (u2 + d3) := by omega
        rw [Int.max_eq_left g] at e
        obtain rfl : D4 = u2 - u3 + d3 := by omega
        clear e g
        intro V4 e
        have g : ((u2 - d2 + d3) + (u2 - u3 + d3)) ≤ (d3 + u2) := by omega
        rw [Int.max_eq_right g] at e
        obtain rfl : V4 = v2 + u2 - u3 - d2 + d3 := by omega
        clear e g
        intro h5 e
        have g : (u1 + d3) ≤ (d1 + (u2 - d2 + d3)) := by omega
        rw [Int.max_eq_right g] at e
        obtain rfl : h5 = -v1 + u2 + d1 - d2 + d3 := by omega
        clear e g
        intro U5 e
        have g : (u1 + d3) ≤ ((-v1 + u2 + d1 - d2 + d3) + v0) := by omega
        rw [Int.max_eq_right g] at e
        obtain rfl : U5 = v0 - v1 + u2 - d2 + d3 := by omega
        clear e g
        intro D5 e
        have g : (u1 + d3) ≤ ((-v1 + u2 + d1 - d2 + d3) + (v2 + u2 - u3 - d2 + d3)) := by omega
        rw [Int.max_eq_right g] at e
        obtain rfl : D5 = -v1 + v2 + u2 - u3 + d1 - d2 + d3 := by omega
        clear e g
        intro V5 e
        have g : (d3 + u1) ≤ ((v0 - v1 + u2 - d2 + d3) + (-v1 + v2 + u2 - u3 + d1 - d2 + d3)) := by omega
        rw [Int.max_eq_left g] at e
        obtain rfl : V5 = v0 - v1 + v2 + u2 - u3 - d2 + d3 := by omega
        clear e g
        intro h6 e
        have g : (u1 + (u2 - u3 + d3)) ≤ ((-v1 + v2 + u2 - u3 + d1 - d2 + d3) + u2) := by omega
        rw [Int.max_eq_right g] at e
        obtain rfl : h6 = -v1 + u2 + d1 := by omega
        clear e g
        intro U6 e
        have g : (u1 + (u2 - u3 + d3)) ≤ ((-v1 + u2 + d1) + (v0 - v1 + v2 + u2 - u3 - d2 + d3)) := by omega
        rw [Int.max_eq_right g] at e
        obtain rfl : U6 = v0 - v1 + u2 := by omega
        clear e g
        intro D6 e
        have g : (u1 + (u2 - u3 + d3)) ≤ ((-v1 + u2 + d1) + v3) := by omega
        rw [Int.max_eq_right g] at e
        obtain rfl : D6 = -v1 + v3 + d1 := by omega
        clear e g
        intro V6 e
        have g : ((u2 - u3 + d3) + u1) ≤ ((v0 - v1 + u2) + (-v1 + v3 + d1)) := by omega
        rw [Int.max_eq_left g] at e
        obtain rfl : V6 = v0 - v1 + v3 := by omega
        clear e g
        exact ⟨rfl, rfl, rfl, rfl, rfl, rfl⟩
      · rw [Int.max_eq_right g] at e
        obtain rfl : D3 = -v2 + v3 + d2 := by omega
        clear e
        intro V3 e
        rcases Int.le_total (d3 + (v0 - v1 + u2)) ((v0 - v1 + u2 - d2 + d3) + (-v2 + v3 + d2)) with g | g
        · rw [Int.max_eq_left g] at e
          obtain rfl : V3 = v0 - v1 + v3 + u2 - u3 - d2 + d3 := by omega
          clear e
          intro h4 e
          have g : (u2 + d3) ≤ (d2 + u3) := by omega
          rw [Int.max_eq_right g] at e
          obtain rfl : h4 = -v2 + u3 + d2 := by omega
          clear e g
          intro U4 e
          have g : ((-v2 + u3 + d2) + v1) ≤ (u2 + d3) := by omega
          rw [Int.max_eq_left g] at e
          obtain rfl : U4 = u2 - d2 + d3 := by omega
          clear e g
          intro D4 e
          have g : (u2 + d3) ≤ ((-v2 + u3 + d2) + v3) := by omega
          rw [Int.max_eq_right g] at e
          obtain rfl : D4 = -v2 + v3 + d2 := by omega
          clear e g
          intro V4 e
          have g : (d3 + u2) ≤ ((u2 - d2 + d3) + (-v2 + v3 + d2)) := by omega
          rw [Int.max_eq_left g] at e
          obtain rfl : V4 = v3 + u2 - u3 - d2 + d3 := by omega
          clear e g
          intro h5 e
          have g : (u1 + d3) ≤ (d1 + (u2 - d2 + d3)) := by omega
          rw [Int.max_eq_right g] at e
          obtain rfl : h5 = -v1 + u2 + d1 - d2 + d3 := by omega
          clear e g
          intro U5 e
          have g : (u1 + d3) ≤ ((-v1 + u2 + d1 - d2 + d3) + v0) := by omega
          rw [Int.max_eq_right g] at e
          obtain rfl : U5 = v0 - v1 + u2 - d2 + d3 := by omega
          clear e g
          intro D5 e
          have g : (u1 + d3) ≤ ((-v1 + u2 + d1 - d2 + d3) + (v3 + u2 - u3 - d2 + d3)) := by omega
          rw [Int.max_eq_right g] at e
          obtain rfl : D5 = -v1 + v3 + u2 - u3 + d1 - d2 + d3 := by omega
          clear e g
          intro V5 e
          have g : (d3 + u1) ≤ ((v0 - v1 + u2 - d2 + d3) + (-v1 + v3 + u2 - u3 + d1 - d2 + d3)) := by omega
          rw [Int.max_eq_left g] at e
          obtain rfl : V5 = v0 - v1 + v3 + u2 - u3 - d2 + d3 := by omega
          clear e g
          intro h6 e
          have g : (u1 + (-v2 + v3 + d2)) ≤ ((-v1 + v3 + u2 - u3 + d1 - d2 + d3) + u2) := by omega
          rw [Int.max_eq_right g] at e
          obtain rfl : h6 = -v1 + u2 + d1 := by omega
          clear e g
          intro U6 e
          have g : (u1 + (-v2 + v3 + d2)) ≤ ((-v1 + u2 + d1) + (v0 - v1 + v3 + u2 - u3 - d2 + d3)) := by omega
          rw [Int.max_eq_right g] at e
          obtain rfl : U6 = v0 - v1 + u2 := by omega
          clear e g
          intro D6 e
          have g : (u1 + (-v2 + v3 + d2)) ≤ ((-v1 + u2 + d1) + v3) := by omega
          rw [Int.max_eq_right g] at e
          obtain rfl : D6 = -v1 + v3 + d1 := by omega
          clear e g
          intro V6 e
          have g : ((-v2 + v3 + d2) + u1) ≤ ((v0 - v1 + u2) + (-v1 + v3 + d1)) := by omega
          rw [Int.max_eq_left g] at e
          obtain rfl : V6 = v0 - v1 + v3 := by omega
          clear e g
          exact ⟨rfl, rfl, rfl, rfl, rfl, rfl⟩
        · rw [Int.max_eq_right g] at e
          obtain rfl : V3 = v0 - v1 + v2 + u2 - u3 - d2 + d3 := by omega
          clear e
          intro h4 e
          have g : (u2 + d3) ≤ (d2 + u3) := by omega
          rw [Int.max_eq_right g] at e
          obtain rfl : h4 = -v2 + u3 + d2 := by omega
          clear e g
          intro U4 e
          have g : ((-v2 + u3 + d2) + v1) ≤ (u2 + d3) := by omega
          rw [Int.max_eq_left g] at e
          obtain rfl : U4 = u2 - d2 + d3 := by omega
          clear e g
          intro D4 e
          have g : (u2 + d3) ≤ ((-v2 + u3 + d2) + v3) := by omega
          rw [Int.max_eq_right g] at e
          obtain rfl : D4 = -v2 + v3 + d2 := by omega
          clear e g
          intro V4 e
          have g : ((u2 - d2 + d3) + (-v2 + v3 + d2)) ≤ (d3 + u2) := by omega
          rw [Int.max_eq_right g] at e
          obtain rfl : V4 = v2 + u2 - u3 - d2 + d3 := by omega
          clear e g
          intro h5 e
          have g : (u1 + d3) ≤ (d1 + (u2 - d2 + d3)) := by omega
          rw [Int.max_eq_right g] at e
          obtain rfl : h5 = -v1 + u2 + d1 - d2 + d3 := by omega
          clear e g
          intro U5 e
          have g : (u1 + d3) ≤ ((-v1 + u2 + d1 - d2 + d3) + v0) := by omega
          rw [Int.max_eq_right g] at e
          obtain rfl : U5 = v0 - v1 + u2 - d2 + d3 := by omega
          clear e g
          intro D5 e
          have g : (u1 + d3) ≤ ((-v1 + u2 + d1 - d2 + d3) + (v2 + u2 - u3 - d2 + d3)) := by omega
          rw [Int.max_eq_right g] at e
          obtain rfl : D5 = -v1 + v2 + u2 - u3 + d1 - d2 + d3 := by omega
          clear e g
          intro V5 e
          have g : (d3 + u1) ≤ ((v0 - v1 + u2 - d2 + d3) + (-v1 + v2 + u2 - u3 + d1 - d2 + d3)) := by omega
          rw [Int.max_eq_left g] at e
          obtain rfl : V5 = v0 - v1 + v2 + u2 - u3 - d2 + d3 := by omega
          clear e g
          intro h6 e
          have g : (u1 + (-v2 + v3 + d2)) ≤ ((-v1 + v2 + u2 - u3 + d1 - d2 + d3) + u2) := by omega
          rw [Int.max_eq_right g] at e
          obtain rfl : h6 = -v1 + u2 + d1 := by omega
          clear e g
          intro U6 e
          have g : (u1 + (-v2 + v3 + d2)) ≤ ((-v1 + u2 + d1) + (v0 - v1 + v2 + u2 - u3 - d2 + d3)) := by omega
          rw [Int.max_eq_right g] at e
          obtain rfl : U6 = v0 - v1 + u2 := by omega
          clear e g
          intro D6 e
          have g : (u1 + (-v2 + v3 + d2)) ≤ ((-v1 + u2 + d1) + v3) := by omega
          rw [Int.max_eq_right g] at e
          obtain rfl : D6 = -v1 + v3 + d1 := by omega
          clear e g
          intro V6 e
          have g : ((-v2 + v3 + d2) + u1) ≤ ((v0 - v1 + u2) + (-v1 + v3 + d1)) := by omega
          rw [Int.max_eq_left g] at e
          obtain rfl : V6 = v0 - v1 + v3 := by omega
          clear e g
          exact ⟨rfl, rfl, rfl, rfl, rfl, rfl⟩
    · rw [Int.max_eq_right g] at e
      obtain rfl : U3 = v0 - v2 + u3 := by omega
      clear e
      intro D3 e
      rcases Int.le_total ((-v2 + u3 + d2) + (v0 - v1 + v3)) ((v0 - v1 + u2) + d3) with g | g
      · rw [Int.max_eq_left g] at e
        obtain rfl : D3 = u2 - u3 + d3 := by omega
        clear e
        intro V3 e
        rcases Int.le_total (d3 + (v0 - v1 + u2)) ((v0 - v2 + u3) + (u2 - u3 + d3)) with g | g
        · rw [Int.max_eq_left g] at e
          obtain rfl : V3 = v0 + u2 - u3 - d2 + d3 := by omega
          clear e
          intro h4 e
          have g : (u2 + d3) ≤ (d2 + u3) := by omega
          rw [Int.max_eq_right g] at e
          obtain rfl : h4 = -v2 + u3 + d2 := by omega
          clear e g
          intro U4 e
          have g : (u2 + d3) ≤ ((-v2 + u3 + d2) + v1) := by omega
          rw [Int.max_eq_right g] at e
          obtain rfl : U4 = v1 - v2 + u3 := by omega
          clear e g
          intro D4 e
          have g : ((-v2 + u3 + d2) + v3) ≤ (u2 + d3) := by omega
          rw [Int.max_eq_left g] at e
          obtain rfl : D4 = u2 - u3 + d3 := by omega
          clear e g
          intro V4 e
          have g : (d3 + u2) ≤ ((v1 - v2 + u3) + (u2 - u3 + d3)) := by omega
          rw [Int.max_eq_left g] at e
          obtain rfl : V4 = v1 + u2 - u3 - d2 + d3 := by omega
          clear e g
          intro h5 e
          have g : (u1 + d3) ≤ (d1 + (v1 - v2 + u3)) := by omega
          rw [Int.max_eq_right g] at e
          obtain rfl : h5 = -v2 + u3 + d1 := by omega
          clear e g
          intro U5 e
          have g : (u1 + d3) ≤ ((-v2 + u3 + d1) + v0) := by omega
          rw [Int.max_eq_right g] at e
          obtain rfl : U5 = v0 - v2 + u3 := by omega
          clear e g
          intro D5 e
          have g : (u1 + d3) ≤ ((-v2 + u3 + d1) + (v1 + u2 - u3 - d2 + d3)) := by omega
          rw [Int.max_eq_right g] at e
          obtain rfl : D5 = u2 - u3 + d1 - d2 + d3 := by omega
          clear e g
          intro V5 e
          have g : (d3 + u1) ≤ ((v0 - v2 + u3) + (u2 - u3 + d1 - d2 + d3)) := by omega
          rw [Int.max_eq_left g] at e
          obtain rfl : V5 = v0 + u2 - u3 - d2 + d3 := by omega
          clear e g
          intro h6 e
          have g : (u1 + (u2 - u3 + d3)) ≤ ((u2 - u3 + d1 - d2 + d3) + u2) := by omega
          rw [Int.max_eq_right g] at e
          obtain rfl : h6 = -v1 + u2 + d1 := by omega
          clear e g
          intro U6 e
          have g : (u1 + (u2 - u3 + d3)) ≤ ((-v1 + u2 + d1) + (v0 + u2 - u3 - d2 + d3)) := by omega
          rw [Int.max_eq_right g] at e
          obtain rfl : U6 = v0 - v1 + u2 := by omega
          clear e g
          intro D6 e
          have g : (u1 + (u2 - u3 + d3)) ≤ ((-v1 + u2 + d1) + v3) := by omega
          rw [Int.max_eq_right g] at e
          obtain rfl : D6 = -v1 + v3 + d1 := by omega
          clear e g
          intro V6 e
          have g : ((u2 - u3 + d3) + u1) ≤ ((v0 - v1 + u2) + (-v1 + v3 + d1)) := by omega
          rw [Int.max_eq_left g] at e
          obtain rfl : V6 = v0 - v1 + v3 := by omega
          clear e g
          exact ⟨rfl, rfl, rfl, rfl, rfl, rfl⟩
        · rw [Int.max_eq_right g] at e
          obtain rfl : V3 = v0 - v1 + v2 + u2 - u3 - d2 + d3 := by omega
          clear e
          intro h4 e
          have g : (u2 + d3) ≤ (d2 + u3) := by omega
          rw [Int.max_eq_right g] at e
          obtain rfl : h4 = -v2 + u3 + d2 := by omega
          clear e g
          intro U4 e
          have g : (u2 + d3) ≤ ((-v2 + u3 + d2) + v1) := by omega
          rw [Int.max_eq_right g] at e
          obtain rfl : U4 = v1 - v2 + u3 := by omega
          clear e g
          intro D4 e
          have g : ((-v2 + u3 + d2) + v3) ≤ (u2 + d3) := by omega
          rw [Int.max_eq_left g] at e
          obtain rfl : D4 = u2 - u3 + d3 := by omega
          clear e g
          intro V4 e
          have g : ((v1 - v2 + u3) + (u2 - u3 + d3)) ≤ (d3 + u2) := by omega
          rw [Int.max_eq_right g] at e
          obtain rfl : V4 = v2 + u2 - u3 - d2 + d3 := by omega
          clear e g
          intro h5 e
          have g : (u1 + d3) ≤ (d1 + (v1 - v2 + u3)) := by omega
          rw [Int.max_eq_right g] at e
          obtain rfl : h5 = -v2 + u3 + d1 := by omega
          clear e g
          intro U5 e
          have g : (u1 + d3) ≤ ((-v2 + u3 + d1) + v0) := by omega
          rw [Int.max_eq_right g] at e
          obtain rfl : U5 = v0 - v2 + u3 := by omega
          clear e g
          intro D5 e
          have g : (u1 + d3) ≤ ((-v2 + u3 + d1) + (v2 + u2 - u3 - d2 + d3)) := by omega
          rw [Int.max_eq_right g] at e
          obtain rfl : D5 = -v1 + v2 + u2 - u3 + d1 - d2 + d3 := by omega
          clear e g
          intro V5 e
          have g : (d3 + u1) ≤ ((v0 - v2 + u3) + (-v1 + v2 + u2 - u3 + d1 - d2 + d3)) := by omega
          rw [Int.max_eq_left g] at e
          obtain rfl : V5 = v0 - v1 + v2 + u2 - u3 - d2 + d3 := by omega
          clear e g
          intro h6 e
          have g : (u1 + (u2 - u3 + d3)) ≤ ((-v1 + v2 + u2 - u3 + d1 - d2 + d3) + u2) := by omega
          rw [Int.max_eq_right g] at e
          obtain rfl : h6 = -v1 + u2 + d1 := by omega
          clear e g
          intro U6 e
          have g : (u1 + (u2 - u3 + d3)) ≤ ((-v1 + u2 + d1) + (v0 - v1 + v2 + u2 - u3 - d2 + d3)) := by omega
          rw [Int.max_eq_right g] at e
          obtain rfl : U6 = v0 - v1 + u2 := by omega
          clear e g
          intro D6 e
          have g : (u1 + (u2 - u3 + d3)) ≤ ((-v1 + u2 + d1) + v3) := by omega
          rw [Int.max_eq_right g] at e
          obtain rfl : D6 = -v1 + v3 + d1 := by omega
          clear e g
          intro V6 e
          have g : ((u2 - u3 + d3) + u1) ≤ ((v0 - v1 + u2) + (-v1 + v3 + d1)) := by omega
          rw [Int.max_eq_left g] at e
          obtain rfl : V6 = v0 - v1 + v3 := by omega
          clear e g
          exact ⟨rfl, rfl, rfl, rfl, rfl, rfl⟩
      · rw [Int.max_eq_right g] at e
        obtain rfl : D3 = -v2 + v3 + d2 := by omega
        clear e
        intro V3 e
        rcases Int.le_total (d3 + (v0 - v1 + u2)) ((v0 - v2 + u3) + (-v2 + v3 + d2)) with g | g
        · rw [Int.max_eq_left g] at e
          obtain rfl : V3 = v0 - v2 + v3 := by omega
          clear e
          intro h4 e
          have g : (u2 + d3) ≤ (d2 + u3) := by omega
          rw [Int.max_eq_right g] at e
          obtain rfl : h4 = -v2 + u3 + d2 := by omega
          clear e g
          intro U4 e
          have g : (u2 + d3) ≤ ((-v2 + u3 + d2) + v1) := by omega
          rw [Int.max_eq_right g] at e
          obtain rfl : U4 = v1 - v2 + u3 := by omega
          clear e g
          intro D4 e
          have g : (u2 + d3) ≤ ((-v2 + u3 + d2) + v3) := by omega
          rw [Int.max_eq_right g] at e
          obtain rfl : D4 = -v2 + v3 + d2 := by omega
          clear e g
          intro V4 e
          have g : (d3 + u2) ≤ ((v1 - v2 + u3) + (-v2 + v3 + d2)) := by omega
          rw [Int.max_eq_left g] at e
          obtain rfl : V4 = v1 - v2 + v3 := by omega
          clear e g
          intro h5 e
          have g : (u1 + d3) ≤ (d1 + (v1 - v2 + u3)) := by omega
          rw [Int.max_eq_right g] at e
          obtain rfl : h5 = -v2 + u3 + d1 := by omega
          clear e g
          intro U5 e
          have g : (u1 + d3) ≤ ((-v2 + u3 + d1) + v0) := by omega
          rw [Int.max_eq_right g] at e
          obtain rfl : U5 = v0 - v2 + u3 := by omega
          clear e g
          intro D5 e
          have g : (u1 + d3) ≤ ((-v2 + u3 + d1) + (v1 - v2 + v3)) := by omega
          rw [Int.max_eq_right g] at e
          obtain rfl : D5 = -v2 + v3 + d1 := by omega
          clear e g
          intro V5 e
          have g : (d3 + u1) ≤ ((v0 - v2 + u3) + (-v2 + v3 + d1)) := by omega
          rw [Int.max_eq_left g] at e
          obtain rfl : V5 = v0 - v2 + v3 := by omega
          clear e g
          intro h6 e
          have g : (u1 + (-v2 + v3 + d2)) ≤ ((-v2 + v3 + d1) + u2) := by omega
          rw [Int.max_eq_right g] at e
          obtain rfl : h6 = -v1 + u2 + d1 := by omega
          clear e g
          intro U6 e
          have g : (u1 + (-v2 + v3 + d2)) ≤ ((-v1 + u2 + d1) + (v0 - v2 + v3)) := by omega
          rw [Int.max_eq_right g] at e
          obtain rfl : U6 = v0 - v1 + u2 := by omega
          clear e g
          intro D6 e
          have g : (u1 + (-v2 + v3 + d2)) ≤ ((-v1 + u2 + d1) + v3) := by omega
          rw [Int.max_eq_right g] at e
          obtain rfl : D6 = -v1 + v3 + d1 := by omega
          clear e g
          intro V6 e
          have g : ((-v2 + v3 + d2) + u1) ≤ ((v0 - v1 + u2) + (-v1 + v3 + d1)) := by omega
          rw [Int.max_eq_left g] at e
          obtain rfl : V6 = v0 - v1 + v3 := by omega
          clear e g
          exact ⟨rfl, rfl, rfl, rfl, rfl, rfl⟩
        · rw [Int.max_eq_right g] at e
          obtain rfl : V3 = v0 - v1 + v2 + u2 - u3 - d2 + d3 := by omega
          clear e
          intro h4 e
          have g : (u2 + d3) ≤ (d2 + u3) := by omega
          rw [Int.max_eq_right g] at e
          obtain rfl : h4 = -v2 + u3 + d2 := by omega
          clear e g
          intro U4 e
          have g : (u2 + d3) ≤ ((-v2 + u3 + d2) + v1) := by omega
          rw [Int.max_eq_right g] at e
          obtain rfl : U4 = v1 - v2 + u3 := by omega
          clear e g
          intro D4 e
          have g : (u2 + d3) ≤ ((-v2 + u3 + d2) + v3) := by omega
          rw [Int.max_eq_right g] at e
          obtain rfl : D4 = -v2 + v3 + d2 := by omega
          clear e g
          intro V4 e
          have g : ((v1 - v2 + u3) + (-v2 + v3 + d2)) ≤ (d3 + u2) := by omega
          rw [Int.max_eq_right g] at e
          obtain rfl : V4 = v2 + u2 - u3 - d2 + d3 := by omega
          clear e g
          intro h5 e
          have g : (u1 + d3) ≤ (d1 + (v1 - v2 + u3)) := by omega
          rw [Int.max_eq_right g] at e
          obtain rfl : h5 = -v2 + u3 + d1 := by omega
          clear e g
          intro U5 e
          have g : (u1 + d3) ≤ ((-v2 + u3 + d1) + v0) := by omega
          rw [Int.max_eq_right g] at e
          obtain rfl : U5 = v0 - v2 + u3 := by omega
          clear e g
          intro D5 e
          have g : (u1 + d3) ≤ ((-v2 + u3 + d1) + (v2 + u2 - u3 - d2 + d3)) := by omega
          rw [Int.max_eq_right g] at e
          obtain rfl : D5 = -v1 + v2 + u2 - u3 + d1 - d2 + d3 := by omega
          clear e g
          intro V5 e
          have g : (d3 + u1) ≤ ((v0 - v2 + u3) + (-v1 + v2 + u2 - u3 + d1 - d2 + d3)) := by omega
          rw [Int.max_eq_left g] at e
          obtain rfl : V5 = v0 - v1 + v2 + u2 - u3 - d2 + d3 := by omega
          clear e g
          intro h6 e
          have g : (u1 + (-v2 + v3 + d2)) ≤ ((-v1 + v2 + u2 - u3 + d1 - d2 + d3) + u2) := by omega
          rw [Int.max_eq_right g] at e
          obtain rfl : h6 = -v1 + u2 + d1 := by omega
          clear e g
          intro U6 e
          have g : (u1 + (-v2 + v3 + d2)) ≤ ((-v1 + u2 + d1) + (v0 - v1 + v2 + u2 - u3 - d2 + d3)) := by omega
          rw [Int.max_eq_right g] at e
          obtain rfl : U6 = v0 - v1 + u2 := by omega
          clear e g
          intro D6 e
          have g : (u1 + (-v2 + v3 + d2)) ≤ ((-v1 + u2 + d1) + v3) := by omega
          rw [Int.max_eq_right g] at e
          obtain rfl : D6 = -v1 + v3 + d1 := by omega
          clear e g
          intro V6 e
          have g : ((-v2 + v3 + d2) + u1) ≤ ((v0 - v1 + u2) + (-v1 + v3 + d1)) := by omega
          rw [Int.max_eq_left g] at e
          obtain rfl : V6 = v0 - v1 + v3 := by omega
          clear e g
          exact ⟨rfl, rfl, rfl, rfl, rfl, rfl⟩
set_option maxHeartbeats 4000000 in
set_option maxRecDepth 100000 in
theorem dy_c29 (v0 v1 v2 v3 u1 u2 u3 d1 d2 d3 : Int) (g0 : u1 + d2 ≤ u2 + d1) (g1 : v1 + u1 + d2 ≤ v0 + u2 + d1) (g2 : v1 + u1 + d2 ≤ v2 + u2 + d1) (g3 : 2 * v1 + u1 + d2 ≤ v0 + v2 + u2 + d1) (g4 : v1 + u1 + d3 ≤ v2 + u3 + d1) (g5 : 2 * v1 + u1 + d3 ≤ v0 + v2 + u3 + d1) (g6 : v1 + u1 + d3 ≤ v3 + u3 + d1) (g7 : v0 + v3 + u3 + d1 ≤ 2 * v1 + u1 + d3) : ∀ h3 : Int, h3 = max ((v0 - v1 + u2) + d3) (d2 + (v0 - v1 + u3)) - (v0 - v1 + v2) → ∀ U3 : Int, U3 = max ((v0 - v1 + u2) + d3) (h3 + v0) - d2 → ∀ D3 : Int, D3 = max ((v0 - v1 + u2) + d3) (h3 + (v1 + u1 - u3 - d1 + d3)) - (v0 - v1 + u3) → ∀ V3 : Int, V3 = max (U3 + D3) (d3 + (v0 - v1 + u2)) - h3 → ∀ h4 : Int, h4 = max (u2 + d3) (d2 + u3) - v2 → ∀ U4 : Int, U4 = max (u2 + d3) (h4 + v1) - d2 → ∀ D4 : Int, D4 = max (u2 + d3) (h4 + v3) - u3 → ∀ V4 : Int, V4 = max (U4 + D4) (d3 + u2) - h4 → ∀ h5 : Int, h5 = max (u1 + d3) (d1 + U4) - v1 → ∀ U5 : Int, U5 = max (u1 + d3) (h5 + v0) - d1 → ∀ D5 : Int, D5 = max (u1 + d3) (h5 + V4) - U4 → ∀ V5 : Int, V5 = max (U5 + D5) (d3 + u1) - h5 → ∀ h6 : Int, h6 = max (u1 + D4) (D5 + u2) - V4 → ∀ U6 : Int, U6 = max (u1 + D4) (h6 + V5) - D5 → ∀ D6 : Int, D6 = max (u1 + D4) (h6 + v3) - u2 → ∀ V6 : Int, V6 = max (U6 + D6) (D4 + u1) - h6 → V3 = V5 ∧ U3 = U5 ∧ (v1 + u1 - u3 - d1 + d3) = V6 ∧ (v0 - v1 + u2) = U6 ∧ D3 = D4 ∧ (-v1 + v3 + d1) = D6 := by
  intro h3 e
  rcases Int.le_total (d2 + (v0 - v1 + u3)) ((v0 - v1 + u2) + d3) with g | g
  · rw [Int.max_eq_left g] at e
    obtain rfl : h3 = -v2 + u2 + d3 := by omega
    clear e
    intro U3 e
    rcases Int.le_total ((-v2 + u2 + d3) + v0) ((v0 - v1 + u2) + d3) with g | g
    · rw [Int.max_eq_left g] at e
      obtain rfl : U3 = v0 - v1 + u2 - d2 + d3 := by omega
      clear e
      intro D3 e
      have g : ((-v2 + u2 + d3) + (v1 + u1 - u3 - d1 + d3)) ≤ ((v0 - v1 + u2) + d3) := by omega
      rw [Int.max_eq_left g] at e
      obtain rfl : D3 = u2 - u3 + d3 := by omega
      clear e g
      intro V3 e
      have g : (d3 + (v0 - v1 + u2)) ≤ ((v0 - v1 + u2 - d2 + d3) + (u2 - u3 + d3)) := by omega
      rw [Int.max_eq_left g] at e
      obtain rfl : V3 = v0 - v1 + v2 + u2 - u3 - d2 + d3 := by omega
      clear e g
      intro h4 e
      have g : (d2 + u3) ≤ (u2 + d3) := by omega
      rw [Int.max_eq_left g] at e
      obtain rfl : h4 = -v2 + u2 + d3 := by omega
      clear e g
      intro U4 e
      have g : ((-v2 + u2 + d3) + v1) ≤ (u2 + d3) := by omega
      rw [Int.max_eq_left g] at e
      obtain rfl : U4 = u2 - d2 + d3 := by omega
      clear e g
      intro D4 e
      have g : ((-v2 + u2 + d3) + v3) ≤ (u2 + d3) := by omega
      rw [Int.max_eq_left g] at e
      obtain rfl : D4 = u2 - u3 + d3 := by omega
      clear e g
      intro V4 e
      have g : (d3 + u2) ≤ ((u2 - d2 + d3) + (u2 - u3 + d3)) := by omega
      rw [Int.max_eq_left g] at e
      obtain rfl : V4 = v2 + u2 - u3 - d2 + d3 := by omega
      clear e g
      intro h5 e
      have g : (u1 + d3) ≤ (d1 + (u2 - d2 + d3)) := by omega
      rw [Int.max_eq_right g] at e
      obtain rfl : h5 = -v1 + u2 + d1 - d2 + d3 := by omega
      clear e g
      intro U5 e
      have g : (u1 + d3) ≤ ((-v1 + u2 + d1 - d2 + d3) + v0) := by omega
      rw [Int.max_eq_right g] at e
      obtain rfl : U5 = v0 - v1 + u2 - d2 + d3 := by omega
      clear e g
      intro D5 e
      have g : (u1 + d3) ≤ ((-v1 + u2 + d1 - d2 + d3) + (v2 + u2 - u3 - d2 + d3)) := by omega
      rw [Int.max_eq_right g] at e
      obtain rfl : D5 = -v1 + v2 + u2 - u3 + d1 - d2 + d3 := by omega
      clear e g
      intro V5 e
      have g : (d3 + u1) ≤ ((v0 - v1 + u2 - d2 + d3) + (-v1 + v2 + u2 - u3 + d1 - d2 + d3)) := by omega
      rw [Int.max_eq_left g] at e
      obtain rfl : V5 = v0 - v1 + v2 + u2 - u3 - d2 + d3 := by omega
      clear e g
      intro h6 e
      have g : (u1 + (u2 - u3 + d3)) ≤ ((-v1 + v2 + u2 - u3 + d1 - d2 + d3) + u2) := by omega
      rw [Int.max_eq_right g] at e
      obtain rfl : h6 = -v1 + u2 + d1 := by omega
      clear e g
      intro U6 e
      have g : (u1 + (u2 - u3 + d3)) ≤ ((-v1 + u2 + d1) + (v0 - v1 + v2 + u2 - u3 - d2 + d3)) := by omega
      rw [Int.max_eq_right g] at e
      obtain rfl : U6 = v0 - v1 + u2 := by omega
      clear e g
      intro D6 e
      have g : (u1 + (u2 - u3 + d3)) ≤ ((-v1 + u2 + d1) + v3) := by omega
      rw [Int.max_eq_right g] at e
      obtain rfl : D6 = -v1 + v3 + d1 := by omega
      clear e g
      intro V6 e
      have g : ((v0 - v1 + u2) + (-v1 + v3 + d1)) ≤ ((u2 - u3 + d3) + u1) := by omega
      rw [Int.max_eq_right g] at e
      obtain rfl : V6 = v1 + u1 - u3 - d1 + d3 := by omega
      clear e g
      exact ⟨rfl, rfl, rfl, rfl, rfl, rfl⟩
    · rw [Int.max_eq_right g] at e
      obtain rfl : U3 = v0 - v2 + u2 - d2 + d3 := by omega
      clear e
      intro D3 e
      have g : ((-v2 + u2 + d3) + (v1 + u1 - u3 - d1 + d3)) ≤ ((v0 - v1 + u2) + d3) := by omega
      rw [Int.max_eq_left g] at e
      obtain rfl : D3 = u2 - u3 + d3 := by omega
      clear e g
      intro V3 e
      have g : (d3 + (v0 - v1 + u2)) ≤ ((v0 - v2 + u2 - d2 + d3) + (u2 - u3 + d3)) := by omega
      rw [Int.max_eq_left g] at e
      obtain rfl : V3 = v0 + u2 - u3 - d2 + d3 := by omega
      clear e g
      intro h4 e
      have g : (d2 + u3) ≤ (u2 + d3) := by omega
      rw [Int.max_eq_left g] at e
      obtain rfl : h4 = -v2 + u2 + d3 := by omega
      clear e g
      intro U4 e
      have g : (u2 + d3) ≤ ((-v2 + u2 + d3) + v1) := by omega
      rw [Int.max_eq_right g] at e
      obtain rfl : U4 = v1 - v2 + u2 - d2 + d3 := by omega
      clear e g
      intro D4 e
      have g : ((-v2 + u2 + d3) + v3) ≤ (u2 + d3) := by omega
      rw [Int.max_eq_left g] at e
      obtain rfl : D4 = u2 - u3 + d3 := by omega
      clear e g
      intro V4 e
      have g : (d3 + u2) ≤ ((v1 - v2 + u2 - d2 + d3) + (u2 - u3 + d3)) := by omega
      rw [Int.max_eq_left g] at e
      obtain rfl : V4 = v1 + u2 - u3 - d2 + d3 := by omega
      clear e g
      intro h5 e
      have g : (u1 + d3) ≤ (d1 + (v1 - v2 + u2 - d2 + d3)) := by omega
      rw [Int.max_eq_right g] at e
      obtain rfl : h5 = -v2 + u2 + d1 - d2 + d3 := by omega
      clear e g
      intro U5 e
      have g : (u1 + d3) ≤ ((-v2 + u2 + d1 - d2 + d3) + v0) := by omega
      rw [Int.max_eq_right g] at e
      obtain rfl : U5 = v0 - v2 + u2 - d2 + d3 := by omega
      clear e g
      intro D5 e
      have g : (u1 + d3) ≤ ((-v2 + u2 + d1 - d2 + d3) + (v1 + u2 - u3 - d2 + d3)) := by omega
      rw [Int.max_eq_right g] at e
      obtain rfl : D5 = u2 - u3 + d1 - d2 + d3 := by omega
      clear e g
      intro V5 e
      have g : (d3 + u1) ≤ ((v0 - v2 + u2 - d2 + d3) + (u2 - u3 + d1 - d2 + d3)) := by omega
      rw [Int.max_eq_left g] at e
      obtain rfl : V5 = v0 + u2 - u3 - d2 + d3 := by omega
      clear e g
      intro h6 e
      have g : (u1 + (u2 - u3 + d3)) ≤ ((u2 - u3 + d1 - d2 + d3) + u2) := by omega
      rw [Int.max_eq_right g] at e
      obtain rfl : h6 = -v1 + u2 + d1 := by omega
      clear e g
      intro U6 e
      have g : (u1 + (u2 - u3 + d3)) ≤ ((-v1 + u2 + d1) + (v0 + u2 - u3 - d2 + d3)) := by omega
      rw [Int.max_eq_right g] at e
      obtain rfl : U6 = v0 - v1 + u2 := by omega
      clear e g
      intro D6 e
      have g : (u1 + (u2 - u3 + d3)) ≤ ((-v1 + u2 + d1) + v3) := by omega
      rw [Int.max_eq_right g] at e
      obtain rfl : D6 = -v1 + v3 + d1 := by omega
      clear e g
      intro V6 e
      have g : ((v0 - v1 + u2) + (-v1 + v3 + d1)) ≤ ((u2 - u3 + d3) + u1) := by omega
      rw [Int.max_eq_right g] at e
      obtain rfl : V6 = v1 + u1 - u3 - d1 + d3 := by omega
      clear e g
      exact ⟨rfl, rfl, rfl, rfl, rfl, rfl⟩
  · rw [Int.max_eq_right g] at e
    obtain rfl : h3 = -v2 + u3 + d2 := by omega
    clear e
    intro U3 e
    rcases Int.le_total ((-v2 + u3 + d2) + v0) ((v0 - v1 + u2) + d3) with g | g
    · rw [Int.max_eq_left g] at e
      obtain rfl : U3 = v0 - v1 + u2 - d2 + d3 := by omega
      clear e
      intro D3 e
      have g : ((-v2 + u3 + d2) + (v1 + u1 - u3 - d1 + d3)) ≤ ((v0 - v1 + u2) + d3) := by omega
      rw [Int.max_eq_left g] at e
      obtain rfl : D3 = u2 - u3 + d3 := by omega
      clear e g
      intro V3 e
      have g : ((v0 - v1 + u2 - d2 + d3) + (u2 - u3 + d3)) ≤ (d3 + (v0 - v1 + u2)) := by omega
      rw [Int.max_eq_right g] at e
      obtain rfl : V3 = v0 - v1 + v2 + u2 - u3 - d2 + d3 := by omega
      clear e g
      intro h4 e
      have g : (u2 + d3) ≤ (d2 + u3) := by omega
      rw [Int.max_eq_right g] at e
      obtain rfl : h4 = -v2 + u3 + d2 := by omega
      clear e g
      intro U4 e
      have g : ((-v2 + u3 + d2) + v1) ≤ (u2 + d3) := by omega
      rw [Int.max_eq_left g] at e
      obtain rfl : U4 = u2 - d2 + d3 := by omega
      clear e g
      intro D4 e
      have g : ((-v2 + u3 + d2) + v3) ≤ (u2 + d3) := by omega
      rw [Int.max_eq_left g] at e
      obtain rfl : D4 = u2 - u3 + d3 := by omega
      clear e g
      intro V4 e
      have g : ((u2 - d2 + d3) + (u2 - u3 + d3)) ≤ (d3 + u2) := by omega
      rw [Int.max_eq_right g] at e
      obtain rfl : V4 = v2 + u2 - u3 - d2 + d3 := by omega
      clear e g
      intro h5 e
      have g : (u1 + d3) ≤ (d1 + (u2 - d2 + d3)) := by omega
      rw [Int.max_eq_right g] at e
      obtain rfl : h5 = -v1 + u2 + d1 - d2 + d3 := by omega
      clear e g
      intro U5 e
      have g : (u1 + d3) ≤ ((-v1 + u2 + d1 - d2 + d3) + v0) := by omega
      rw [Int.max_eq_right g] at e
      obtain rfl : U5 = v0 - v1 + u2 - d2 + d3 := by omega
      clear e g
      intro D5 e
      have g : (u1 + d3) ≤ ((-v1 + u2 + d1 - d2 + d3) + (v2 + u2 - u3 - d2 + d3)) := by omega
      rw [Int.max_eq_right g] at e
      obtain rfl : D5 = -v1 + v2 + u2 - u3 + d1 - d2 + d3 := by omega
      clear e g
      intro V5 e
      have g : (d3 + u1) ≤ ((v0 - v1 + u2 - d2 + d3) + (-v1 + v2 + u2 - u3 + d1 - d2 + d3)) := by omega
      rw [Int.max_eq_left g] at e
      obtain rfl : V5 = v0 - v1 + v2 + u2 - u3 - d2 + d3 := by omega
      clear e g
      intro h6 e
      have g : (u1 + (u2 - u3 + d3)) ≤ ((-v1 + v2 + u2 - u3 + d1 - d2 + d3) + u2) := by omega
      rw [Int.max_eq_right g] at e
      obtain rfl : h6 = -v1 + u2 + d1 := by omega
      clear e g
      intro U6 e
      have g : (u1 + (u2 - u3 + d3)) ≤ ((-v1 + u2 + d1) + (v0 - v1 + v2 + u2 - u3 - d2 + d3)) := by omega
      rw [Int.max_eq_right g] at e
      obtain rfl : U6 = v0 - v1 + u2 := by omega
      clear e g
      intro D6 e
      have g : (u1 + (u2 - u3 + d3)) ≤ ((-v1 + u2 + d1) + v3) := by omega
      rw [Int.max_eq_right g] at e
      obtain rfl : D6 = -v1 + v3 + d1 := by omega
      clear e g
      intro V6 e
      have g : ((v0 - v1 + u2) + (-v1 + v3 + d1)) ≤ ((u2 - u3 + d3) + u1) := by omega
      rw [Int.max_eq_right g] at e
      obtain rfl : V6 = v1 + u1 - u3 - d1 + d3 := by omega
      clear e g
      exact ⟨rfl, rfl, rfl, rfl, rfl, rfl⟩
    · rw [Int.max_eq_right g] at e
      obtain rfl : U3 = v0 - v2 + u3 := by omega
      clear e
      intro D3 e
      have g : ((-v2 + u3 + d2) + (v1 + u1 - u3 - d1 + d3)) ≤ ((v0 - v1 + u2) + d3) := by omega
      rw [Int.max_eq_left g] at e
      obtain rfl : D3 = u2 - u3 + d3 := by omega
      clear e g
      intro V3 e
      rcases Int.le_total (d3 + (v0 - v1 + u2)) ((v0 - v2 + u3) + (u2 - u3 + d3)) with g | g
      · rw [Int.max_eq_left g] at e
        obtain rfl : V3 = v0 + u2 - u3 - d2 + d3 := by omega
        clear e
        intro h4 e
        have g : (u2 + d3) ≤ (d2 + u3) := by omega
        rw [Int.max_eq_right g] at e
        obtain rfl : h4 = -v2 + u3 + d2 := by omega
        clear e g
        intro U4 e
        have g : (u2 + d3) ≤ ((-v2 + u3 + d2) + v1) := by omega
        rw [Int.max_eq_right g] at e
        obtain rfl : U4 = v1 - v2 + u3 := by omega
        clear e g
        intro D4 e
        have g : ((-v2 + u3 + d2) + v3) ≤ (u2 + d3) := by omega
        rw [Int.max_eq_left g] at e
        obtain rfl : D4 = u2 - u3 + d3 := by omega
        clear e g
        intro V4 e
        have g : (d3 + u2) ≤ ((v1 - v2 + u3) + (u2 - u3 + d3)) := by omega
        rw [Int.max_eq_left g] at e
        obtain rfl : V4 = v1 + u2 - u3 - d2 + d3 := by omega
        clear e g
        intro h5 e
        have g : (u1 + d3) ≤ (d1 + (v1 - v2 + u3)) := by omega
        rw [Int.max_eq_right g] at e
        obtain rfl : h5 = -v2 + u3 + d1 := by omega
        clear e g
        intro U5 e
        have g : (u1 + d3) ≤ ((-v2 + u3 + d1) + v0) := by omega
        rw [Int.max_eq_right g] at e
        obtain rfl : U5 = v0 - v2 + u3 := by omega
        clear e g
        intro D5 e
        have g : (u1 + d3) ≤ ((-v2 + u3 + d1) + (v1 + u2 - u3 - d2 + d3)) := by omega
        rw [Int.max_eq_right g] at e
        obtain rfl : D5 = u2 - u3 + d1 - d2 + d3 := by omega
        clear e g
        intro V5 e
        have g : (d3 + u1) ≤ ((v0 - v2 + u3) + (u2 - u3 + d1 - d2 + d3)) := by omega
        rw [Int.max_eq_left g] at e
        obtain rfl : V5 = v0 + u2 - u3 - d2 + d3 := by omega
        clear e g
        intro h6 e
        have g : (u1 + (u2 - u3 + d3)) ≤ ((u2 - u3 + d1 - d2 + d3) + u2) := by omega
        rw [Int.max_eq_right g] at e
        obtain rfl : h6 = -v1 + u2 + d1 := by omega
        clear e g
        intro U6 e
        have g : (u1 + (u2 - u3 + d3)) ≤ ((-v1 + u2 + d1) + (v0 + u2 - u3 - d2 + d3)) := by omega
        rw [Int.max_eq_right g] at e
        obtain rfl : U6 = v0 - v1 + u2 := by omega
        clear e g
        intro D6 e
        have g : (u1 + (u2 - u3 + d3)) ≤ ((-v1 + u2 + d1) + v3) := by omega
        rw [Int.max_eq_right g] at e
        obtain rfl : D6 = -v1 + v3 + d1 := by omega
        clear e g
        intro V6 e
        have g : ((v0 - v1 + u2) + (-v1 + v3 + d1)) ≤ ((u2 - u3 + d3) + u1) := by omega
        rw [Int.max_eq_right g] at e
        obtain rfl : V6 = v1 + u1 - u3 - d1 + d3 := by omega
        clear e g
        exact ⟨rfl, rfl, rfl, rfl, rfl, rfl⟩
      · rw [Int.max_eq_right g] at e
        obtain rfl : V3 = v0 - v1 + v2 + u2 - u3 - d2 + d3 := by omega
        clear e
        intro h4 e
        have g : (u2 + d3) ≤ (d2 + u3) := by omega
        rw [Int.max_eq_right g] at e
        obtain rfl : h4 = -v2 + u3 + d2 := by omega
        clear e g
        intro U4 e
        have g : (u2 + d3) ≤ ((-v2 + u3 + d2) + v1) := by omega
        rw [Int.max_eq_right g] at e
        obtain rfl : U4 = v1 - v2 + u3 := by omega
        clear e g
        intro D4 e
        have g : ((-v2 + u3 + d2) + v3) ≤ (u2 + d3) := by omega
        rw [Int.max_eq_left g] at e
        obtain rfl : D4 = u2 - u3 + d3 := by omega
        clear e g
        intro V4 e
        have g : ((v1 - v2 + u3) + (u2 - u3 + d3)) ≤ (d3 + u2) := by omega
        rw [Int.max_eq_right g] at e
        obtain rfl : V4 = v2 + u2 - u3 - d2 + d3 := by omega
        clear e g
        intro h5 e
        have g : (u1 + d3) ≤ (d1 + (v1 - v2 + u3)) := by omega
        rw [Int.max_eq_right g] at e
        obtain rfl : h5 = -v2 + u3 + d1 := by omega
        clear e g
        intro U5 e
        have g : (u1 + d3) ≤ ((-v2 + u3 + d1) + v0) := by omega
        rw [Int.max_eq_right g] at e
        obtain rfl : U5 = v0 - v2 + u3 := by omega
        clear e g
        intro D5 e
        have g : (u1 + d3) ≤ ((-v2 + u3 + d1) + (v2 + u2 - u3 - d2 + d3)) := by omega
        rw [Int.max_eq_right g] at e
        obtain rfl : D5 = -v1 + v2 + u2 - u3 + d1 - d2 + d3 := by omega
        clear e g
        intro V5 e
        have g : (d3 + u1) ≤ ((v0 - v2 + u3) + (-v1 + v2 + u2 - u3 + d1 - d2 + d3)) := by omega
        rw [Int.max_eq_left g] at e
        obtain rfl : V5 = v0 - v1 + v2 + u2 - u3 - d2 + d3 := by omega
        clear e g
        intro h6 e
        have g : (u1 + (u2 - u3 + d3)) ≤ ((-v1 + v2 + u2 - u3 + d1 - d2 + d3) + u2) := by omega
        rw [Int.max_eq_right g] at e
        obtain rfl : h6 = -v1 + u2 + d1 := by omega
        clear e g
        intro U6 e
        have g : (u1 + (u2 - u3 + d3)) ≤ ((-v1 + u2 + d1) + (v0 - v1 + v2 + u2 - u3 - d2 + d3)) := by omega
        rw [Int.max_eq_right g] at e
        obtain rfl : U6 = v0 - v1 + u2 := by omega
        clear e g
        intro D6 e
        have g : (u1 + (u2 - u3 + d3)) ≤ ((-v1 + u2 + d1) + v3) := by omega
        rw [Int.max_eq_right g] at e
        obtain rfl : D6 = -v1 + v3 + d1 := by omega
        clear e g
        intro V6 e
        have g : ((v0 - v1 + u2) + (-v1 + v3 + d1)) ≤ ((u2 - u3 + d3) + u1) := by omega
        rw [Int.max_eq_right g] at e
        obtain rfl : V6 = v1 + u1 - u3 - d1 + d3 := by omega
        clear e g
        exact ⟨rfl, rfl, rfl, rfl, rfl, rfl⟩
set_option maxHeartbeats 4000000 in
set_option maxRecDepth 100000 in
theorem dy_c30 (v0 v1 v2 v3 u1 u2 u3 d1 d2 d3 : Int) (g0 : u1 + d2 ≤ u2 + d1) (g1 : v1 + u1 + d2 ≤ v0 + u2 + d1) (g2 : v1 + u1 + d2 ≤ v2 + u2 + d1) (g3 : v0 + v2 + u2 + d1 ≤ 2 * v1 + u1 + d2) : ∀ h2 : Int, h2 = max (u1 + d3) ((-v1 + v2 + d1) + u3) - v2 → ∀ U2 : Int, U2 = max (u1 + d3) (h2 + (v1 + u1 - u2 - d1 + d2)) - (-v1 + v2 + d1) → ∀ D2 : Int, D2 = max (u1 + d3) (h2 + v3) - u3 → ∀ V2 : Int, V2 = max (U2 + D2) (d3 + u1) - h2 → ∀ h3 : Int, h3 = max ((v0 - v1 + u2) + d3) (d2 + U2) - (v1 + u1 - u2 - d1 + d2) → ∀ U3 : Int, U3 = max ((v0 - v1 + u2) + d3) (h3 + v0) - d2 → ∀ D3 : Int, D3 = max ((v0 - v1 + u2) + d3) (h3 + V2) - U2 → ∀ V3 : Int, V3 = max (U3 + D3) (d3 + (v0 - v1 + u2)) - h3 → ∀ h4 : Int, h4 = max (u2 + d3) (d2 + u3) - v2 → ∀ U4 : Int, U4 = max (u2 + d3) (h4 + v1) - d2 → ∀ D4 : Int, D4 = max (u2 + d3) (h4 + v3) - u3 → ∀ V4 : Int, V4 = max (U4 + D4) (d3 + u2) - h4 → ∀ h5 : Int, h5 = max (u1 + d3) (d1 + U4) - v1 → ∀ U5 : Int, U5 = max (u1 + d3) (h5 + v0) - d1 → ∀ D5 : Int, D5 = max (u1 + d3) (h5 + V4) - U4 → ∀ V5 : Int, V5 = max (U5 + D5) (d3 + u1) - h5 → ∀ h6 : Int, h6 = max (u1 + D4) (D5 + u2) - V4 → ∀ U6 : Int, U6 = max (u1 + D4) (h6 + V5) - D5 → ∀ D6 : Int, D6 = max (u1 + D4) (h6 + v3) - u2 → ∀ V6 : Int, V6 = max (U6 + D6) (D4 + u1) - h6 → V3 = V5 ∧ U3 = U5 ∧ V2 = V6 ∧ (v0 - v1 + u2) = U6 ∧ D3 = D4 ∧ D2 = D6 := by
  intro h2 e
  rcases Int.le_total ((-v1 + v2 + d1) + u3) (u1 + d3) with g | g
  · rw [Int.max_eq_left g] at e
    obtain rfl : h2 = -v2 + u1 + d3 := by omega
    clear e
    intro U2 e
    have g : ((-v2 + u1 + d3) + (v1 + u1 - u2 - d1 + d2)) ≤ (u1 + d3) := by omega
    rw [Int.max_eq_left g] at e
    obtain rfl : U2 = v1 - v2 + u1 - d1 + d3 := by omega
    clear e g
    intro D2 e
    rcases Int.le_total ((-v2 + u1 + d3) + v3) (u1 + d3) with g | g
    · rw [Int.max_eq_left g] at e
      obtain rfl : D2 = u1 - u3 + d3 := by omega
      clear e
      intro V2 e
      have g : (d3 + u1) ≤ ((v1 - v2 + u1 - d1 + d3) + (u1 - u3 + d3)) := by omega
      rw [Int.max_eq_left g] at e
      obtain rfl : V2 = v1 + u1 - u3 - d1 + d3 := by omega
      clear e g
      intro h3 e
      have g : ((v0 - v1 + u2) + d3) ≤ (d2 + (v1 - v2 + u1 - d1 + d3)) := by omega
      rw [Int.max_eq_right g] at e
      obtain rfl : h3 = -v2 + u2 + d3 := by omega
      clear e g
      intro U3 e
      have g : ((v0 - v1 + u2) + d3) ≤ ((-v2 + u2 + d3) + v0) := by omega
      rw [Int.max_eq_right g] at e
      obtain rfl : U3 = v0 - v2 + u2 - d2 + d3 := by omega
      clear e g
      intro D3 e
      have g : ((v0 - v1 + u2) + d3) ≤ ((-v2 + u2 + d3) + (v1 + u1 - u3 - d1 + d3)) := by omega
      rw [Int.max_eq_right g] at e
      obtain rfl : D3 = u2 - u3 + d3 := by omega
      clear e g
      intro V3 e
      have g : (d3 + (v0 - v1 + u2)) ≤ ((v0 - v2 + u2 - d2 + d3) + (u2 - u3 + d3)) := by omega
      rw [Int.max_eq_left g] at e
      obtain rfl : V3 = v0 + u2 - u3 - d2 + d3 := by omega
      clear e g
      intro h4 e
      have g : (d2 + u3) ≤ (u2 + d3) := by omega
      rw [Int.max_eq_left g] at e
      obtain rfl : h4 = -v2 + u2 + d3 := by omega
      clear e g
      intro U4 e
      have g : (u2 + d3) ≤ ((-v2 + u2 + d3) + v1) := by omega
      rw [Int.max_eq_right g] at e
      obtain rfl : U4 = v1 - v2 + u2 - d2 + d3 := by omega
      clear e g
      intro D4 e
      have g : ((-v2 + u2 + d3) + v3) ≤ (u2 + d3) := by omega
      rw [Int.max_eq_left g] at e
      obtain rfl : D4 = u2 - u3 + d3 := by omega
      clear e g
      intro V4 e
      have g : (d3 + u2) ≤ ((v1 - v2 + u2 - d2 + d3) + (u2 - u3 + d3)) := by omega
      rw [Int.max_eq_left g] at e
      obtain rfl : V4 = v1 + u2 - u3 - d2 + d3 := by omega
      clear e g
      intro h5 e
      have g : (u1 + d3) ≤ (d1 + (v1 - v2 + u2 - d2 + d3)) := by omega
      rw [Int.max_eq_right g] at e
      obtain rfl : h5 = -v2 + u2 + d1 - d2 + d3 := by omega
      clear e g
      intro U5 e
      have g : (u1 + d3) ≤ ((-v2 + u2 + d1 - d2 + d3) + v0) := by omega
      rw [Int.max_eq_right g] at e
      obtain rfl : U5 = v0 - v2 + u2 - d2 + d3 := by omega
      clear e g
      intro D5 e
      have g : (u1 + d3) ≤ ((-v2 + u2 + d1 - d2 + d3) + (v1 + u2 - u3 - d2 + d3)) := by omega
      rw [Int.max_eq_right g] at e
      obtain rfl : D5 = u2 - u3 + d1 - d2 + d3 := by omega
      clear e g
      intro V5 e
      have g : (d3 + u1) ≤ ((v0 - v2 + u2 - d2 + d3) + (u2 - u3 + d1 - d2 + d3)) := by omega
      rw [Int.max_eq_left g] at e
      obtain rfl : V5 = v0 + u2 - u3 - d2 + d3 := by omega
      clear e g
      intro h6 e
      have g : (u1 + (u2 - u3 + d3)) ≤ ((u2 - u3 + d1 - d2 + d3) + u2) := by omega
      rw [Int.max_eq_right g] at e
      obtain rfl : h6 = -v1 + u2 + d1 := by omega
      clear e g
      intro U6 e
      have g : (u1 + (u2 - u3 + d3)) ≤ ((-v1 + u2 + d1) + (v0 + u2 - u3 - d2 + d3)) := by omega
      rw [Int.max_eq_right g] at e
      obtain rfl : U6 = v0 - v1 + u2 := by omega
      clear e g
      intro D6 e
      have g : ((-v1 + u2 + d1) + v3) ≤ (u1 + (u2 - u3 + d3)) := by omega
      rw [Int.max_eq_left g] at e
      obtain rfl : D6 = u1 - u3 + d3 := by omega
      clear e g
      intro V6 e
      have g : ((v0 - v1 + u2) + (u1 - u3 + d3)) ≤ ((u2 - u3 + d3) + u1) := by omega
      rw [Int.max_eq_right g] at e
      obtain rfl : V6 = v1 + u1 - u3 - d1 + d3 := by omega
      clear e g
      exact ⟨rfl, rfl, rfl, rfl, rfl, rfl⟩
    · rw [Int.max_eq_right g] at e
      obtain rfl : D2 = -v2 + v3 + u1 - u3 + d3 := by omega
      clear e
      intro V2 e
      have g : (d3 + u1) ≤ ((v1 - v2 + u1 - d1 + d3) + (-v2 + v3 + u1 - u3 + d3)) := by omega
      rw [Int.max_eq_left g] at e
      obtain rfl : V2 = v1 - v2 + v3 + u1 - u3 - d1 + d3 := by omega
      clear e g
      intro h3 e
      have g : ((v0 - v1 + u2) + d3) ≤ (d2 + (v1 - v2 + u1 - d1 + d3)) := by omega
      rw [Int.max_eq_right g] at e
      obtain rfl : h3 = -v2 + u2 + d3 := by omega
      clear e g
      intro U3 e
      have g : ((v0 - v1 + u2) + d3) ≤ ((-v2 + u2 + d3) + v0) := by omega
      rw [Int.max_eq_right g] at e
      obtain rfl : U3 = v0 - v2 + u2 - d2 + d3 := by omega
      clear e g
      intro D3 e
      have g : ((v0 - v1 + u2) + d3) ≤ ((-v2 + u2 + d3) + (v1 - v2 + v3 + u1 - u3 - d1 + d3)) := by omega
      rw [Int.max_eq_right g] at e
      obtain rfl : D3 = -v2 + v3 + u2 - u3 + d3 := by omega
      clear e g
      intro V3 e
      have g : (d3 + (v0 - v1 + u2)) ≤ ((v0 - v2 + u2 - d2 + d3) + (-v2 + v3 + u2 - u3 + d3)) := by omega
      rw [Int.max_eq_left g] at e
      obtain rfl : V3 = v0 - v2 + v3 + u2 - u3 - d2 + d3 := by omega
      clear e g
      intro h4 e
      have g : (d2 + u3) ≤ (u2 + d3) := by omega
      rw [Int.max_eq_left g] at e
      obtain rfl : h4 = -v2 + u2 + d3 := by omega
      clear e g
      intro U4 e
      have g : (u2 + d3) ≤ ((-v2 + u2 + d3) + v1) := by omega
      rw [Int.max_eq_right g] at e
      obtain rfl : U4 = v1 - v2 + u2 - d2 + d3 := by omega
      clear e g
      intro D4 e
      have g : (u2 + d3) ≤ ((-v2 + u2 + d3) + v3) := by omega
      rw [Int.max_eq_right g] at e
      obtain rfl : D4 = -v2 + v3 + u2 - u3 + d3 := by omega
      clear e g
      intro V4 e
      have g : (d3 + u2) ≤ ((v1 - v2 + u2 - d2 + d3) + (-v2 + v3 + u2 - u3 + d3)) := by omega
      rw [Int.max_eq_left g] at e
      obtain rfl : V4 = v1 - v2 + v3 + u2 - u3 - d2 + d3 := by omega
      clear e g
      intro h5 e
      have g : (u1 + d3) ≤ (d1 + (v1 - v2 + u2 - d2 + d3)) := by omega
      rw [Int.max_eq_right g] at e
      obtain rfl : h5 = -v2 + u2 + d1 - d2 + d3 := by omega
      clear e g
      intro U5 e
      have g : (u1 + d3) ≤ ((-v2 + u2 + d1 - d2 + d3) + v0) := by omega
      rw [Int.max_eq_right g] at e
      obtain rfl : U5 = v0 - v2 + u2 - d2 + d3 := by omega
      clear e g
      intro D5 e
      have g : (u1 + d3) ≤ ((-v2 + u2 + d1 - d2 + d3) + (v1 - v2 + v3 + u2 - u3 - d2 + d3)) := by omega
      rw [Int.max_eq_right g] at e
      obtain rfl : D5 = -v2 + v3 + u2 - u3 + d1 - d2 + d3 := by omega
      clear e g
      intro V5 e
      have g : (d3 + u1) ≤ ((v0 - v2 + u2 - d2 + d3) + (-v2 + v3 + u2 - u3 + d1 - d2 + d3)) := by omega
      rw [Int.max_eq_left g] at e
      obtain rfl : V5 = v0 - v2 + v3 + u2 - u3 - d2 + d3 := by omega
      clear e g
      intro h6 e
      have g : (u1 + (-v2 + v3 + u2 - u3 + d3)) ≤ ((-v2 + v3 + u2 - u3 + d1 - d2 + d3) + u2) := by omega
      rw [Int.max_eq_right g] at e
      obtain rfl : h6 = -v1 + u2 + d1 := by omega
      clear e g
      intro U6 e
      have g : (u1 + (-v2 + v3 + u2 - u3 + d3)) ≤ ((-v1 + u2 + d1) + (v0 - v2 + v3 + u2 - u3 - d2 + d3)) := by omega
      rw [Int.max_eq_right g] at e
      obtain rfl : U6 = v0 - v1 + u2 := by omega
      clear e g
      intro D6 e
      have g : ((-v1 + u2 + d1) + v3) ≤ (u1 + (-v2 + v3 + u2 - u3 + d3)) := by omega
      rw [Int.max_eq_left g] at e
      obtain rfl : D6 = -v2 + v3 + u1 - u3 + d3 := by omega
      clear e g
      intro V6 e
      have g : ((v0 - v1 + u2) + (-v2 + v3 + u1 - u3 + d3)) ≤ ((-v2 + v3 + u2 - u3 + d3) + u1) := by omega
      rw [Int.max_eq_right g] at e
      obtain rfl : V6 = v1 - v2 + v3 + u1 - u3 - d1 + d3 := by omega
      clear e g
      exact ⟨rfl, rfl, rfl, rfl, rfl, rfl⟩
  · rw [Int.max_eq_right g] at e
    obtain rfl : h2 = -v1 + u3 + d1 := by omega
    clear e
    intro U2 e
    rcases Int.le_total ((-v1 + u3 + d1) + (v1 + u1 - u2 - d1 + d2)) (u1 + d3) with g | g
    · rw [Int.max_eq_left g] at e
      obtain rfl : U2 = v1 - v2 + u1 - d1 + d3 := by omega
      clear e
      intro D2 e
      rcases Int.le_total ((-v1 + u3 + d1) + v3) (u1 + d3) with g | g
      · rw [Int.max_eq_left g] at e
        obtain rfl : D2 = u1 - u3 + d3 := by omega
        clear e
        intro V2 e
        have g : ((v1 - v2 + u1 - d1 + d3) + (u1 - u3 + d3)) ≤ (d3 + u1) := by omega
        rw [Int.max_eq_right g] at e
        obtain rfl : V2 = v1 + u1 - u3 - d1 + d3 := by omega
        clear e g
        intro h3 e
        have g : ((v0 - v1 + u2) + d3) ≤ (d2 + (v1 - v2 + u1 - d1 + d3)) := by omega
        rw [Int.max_eq_right g] at e
        obtain rfl : h3 = -v2 + u2 + d3 := by omega
        clear e g
        intro U3 e
        have g : ((v0 - v1 + u2) + d3) ≤ ((-v2 + u2 + d3) + v0) := by omega
        rw [Int.max_eq_right g] at e
        obtain rfl : U3 = v0 - v2 + u2 - d2 + d3 := by omega
        clear e g
        intro D3 e
        have g : ((v0 - v1 + u2) + d3) ≤ ((-v2 + u2 + d3) + (v1 + u1 - u3 - d1 + d3)) := by omega
        rw [Int.max_eq_right g] at e
        obtain rfl : D3 = u2 - u3 + d3 := by omega
        clear e g
        intro V3 e
        have g : (d3 + (v0 - v1 + u2)) ≤ ((v0 - v2 + u2 - d2 + d3) + (u2 - u3 + d3)) := by omega
        rw [Int.max_eq_left g] at e
        obtain rfl : V3 = v0 + u2 - u3 - d2 + d3 := by omega
        clear e g
        intro h4 e
        have g : (d2 + u3) ≤ (u2 + d3) := by omega
        rw [Int.max_eq_left g] at e
        obtain rfl : h4 = -v2 + u2 + d3 := by omega
        clear e g
        intro U4 e
        have g : (u2 + d3) ≤ ((-v2 + u2 + d3) + v1) := by omega
        rw [Int.max_eq_right g] at e
        obtain rfl : U4 = v1 - v2 + u2 - d2 + d3 := by omega
        clear e g
        intro D4 e
        have g : ((-v2 + u2 + d3) + v3) ≤ (u2 + d3) := by omega
        rw [Int.max_eq_left g] at e
        obtain rfl : D4 = u2 - u3 + d3 := by omega
        clear e g
        intro V4 e
        have g : (d3 + u2) ≤ ((v1 - v2 + u2 - d2 + d3) + (u2 - u3 + d3)) := by omega
        rw [Int.max_eq_left g] at e
        obtain rfl : V4 = v1 + u2 - u3 - d2 + d3 := by omega
        clear e g
        intro h5 e
        have g : (u1 + d3) ≤ (d1 + (v1 - v2 + u2 - d2 + d3)) := by omega
        rw [Int.max_eq_right g] at e
        obtain rfl : h5 = -v2 + u2 + d1 - d2 + d3 := by omega
        clear e g
        intro U5 e
        have g : (u1 + d3) ≤ ((-v2 + u2 + d1 - d2 + d3) + v0) := by omega
        rw [Int.max_eq_right g] at e
        obtain rfl : U5 = v0 - v2 + u2 - d2 + d3 := by omega
        clear e g
        intro D5 e
        have g : (u1 + d3) ≤ ((-v2 + u2 + d1 - d2 + d3) + (v1 + u2 - u3 - d2 + d3)) := by omega
        rw [Int.max_eq_right g] at e
        obtain rfl : D5 = u2 - u3 + d1 - d2 + d3 := by omega
        clear e g
        intro V5 e
        have g : (d3 + u1) ≤ ((v0 - v2 + u2 - d2 + d3) + (u2 - u3 + d1 - d2 + d3)) := by omega
        rw [Int.max_eq_left g] at e
        obtain rfl : V5 = v0 + u2 - u3 - d2 + d3 := by omega
        clear e g
        intro h6 e
        have g : (u1 + (u2 - u3 + d3)) ≤ ((u2 - u3 + d1 - d2 + d3) + u2) := by omega
        rw [Int.max_eq_right g] at e
        obtain rfl : h6 = -v1 + u2 + d1 := by omega
        clear e g
        intro U6 e
        have g : (u1 + (u2 - u3 + d3)) ≤ ((-v1 + u2 + d1) + (v0 + u2 - u3 - d2 + d3)) := by omega
        rw [Int.max_eq_right g] at e
        obtain rfl : U6 = v0 - v1 + u2 := by omega
        clear e g
        intro D6 e
        have g : ((-v1 + u2 + d1) + v3) ≤ (u1 + (u2 - u3 + d3)) := by omega
        rw [Int.max_eq_left g] at e
        obtain rfl : D6 = u1 - u3 + d3 := by omega
        clear e g
        intro V6 e
        have g : ((v0 - v1 + u2) + (u1 - u3 + d3)) ≤ ((u2 - u3 + d3) + u1) := by omega
        rw [Int.max_eq_right g] at e
        obtain rfl : V6 = v1 + u1 - u3 - d1 + d3 := by omega
        clear e g
        exact ⟨rfl, rfl, rfl, rfl, rfl, rfl⟩
      · rw [Int.max_eq_right g] at e
        obtain rfl : D2 = -v1 + v3 + d1 := by omega
        clear e
        intro V2 e
        rcases Int.le_total (d3 + u1) ((v1 - v2 + u1 - d1 + d3) + (-v1 + v3 + d1)) with g | g
        · rw [Int.max_eq_left g] at e
          obtain rfl : V2 = v1 - v2 + v3 + u1 - u3 - d1 + d3 := by omega
          clear e
          intro h3 e
          have g : ((v0 - v1 + u2) + d3) ≤ (d2 + (v1 - v2 + u1 - d1 + d3)) := by omega
          rw [Int.max_eq_right g] at e
          obtain rfl : h3 = -v2 + u2 + d3 := by omega
          clear e g
          intro U3 e
          have g : ((v0 - v1 + u2) + d3) ≤ ((-v2 + u2 + d3) + v0) := by omega
          rw [Int.max_eq_right g] at e
          obtain rfl : U3 = v0 - v2 + u2 - d2 + d3 := by omega
          clear e g
          intro D3 e
          have g : ((v0 - v1 + u2) + d3) ≤ ((-v2 + u2 + d3) + (v1 - v2 + v3 + u1 - u3 - d1 + d3)) := by omega
          rw [Int.max_eq_right g] at e
          obtain rfl : D3 = -v2 + v3 + u2 - u3 + d3 := by omega
          clear e g
          intro V3 e
          have g : (d3 + (v0 - v1 + u2)) ≤ ((v0 - v2 + u2 - d2 + d3) + (-v2 + v3 + u2 - u3 + d3)) := by omega
          rw [Int.max_eq_left g] at e
          obtain rfl : V3 = v0 - v2 + v3 + u2 - u3 - d2 + d3 := by omega
          clear e g
          intro h4 e
          have g : (d2 + u3) ≤ (u2 + d3) := by omega
          rw [Int.max_eq_left g] at e
          obtain rfl : h4 = -v2 + u2 + d3 := by omega
          clear e g
          intro U4 e
          have g : (u2 + d3) ≤ ((-v2 + u2 + d3) + v1) := by omega
          rw [Int.max_eq_right g] at e
          obtain rfl : U4 = v1 - v2 + u2 - d2 + d3 := by omega
          clear e g
          intro D4 e
          have g : (u2 + d3) ≤ ((-v2 + u2 + d3) + v3) := by omega
          rw [Int.max_eq_right g] at e
          obtain rfl : D4 = -v2 + v3 + u2 - u3 + d3 := by omega
          clear e g
          intro V4 e
          have g : (d3 + u2) ≤ ((v1 - v2 + u2 - d2 + d3) + (-v2 + v3 + u2 - u3 + d3)) := by omega
          rw [Int.max_eq_left g] at e
          obtain rfl : V4 = v1 - v2 + v3 + u2 - u3 - d2 + d3 := by omega
          clear e g
          intro h5 e
          have g : (u1 + d3) ≤ (d1 + (v1 - v2 + u2 - d2 + d3)) := by omega
          rw [Int.max_eq_right g] at e
          obtain rfl : h5 = -v2 + u2 + d1 - d2 + d3 := by omega
          clear e g
          intro U5 e
          have g : (u1 + d3) ≤ ((-v2 + u2 + d1 - d2 + d3) + v0) := by omega
          rw [Int.max_eq_right g] at e
          obtain rfl : U5 = v0 - v2 + u2 - d2 + d3 := by omega
          clear e g
          intro D5 e
          have g : (u1 + d3) ≤ ((-v2 + u2 + d1 - d2 + d3) + (v1 - v2 + v3 + u2 - u3 - d2 + d3)) := by omega
          rw [Int.max_eq_right g] at e
          obtain rfl : D5 = -v2 + v3 + u2 - u3 + d1 - d2 + d3 := by omega
          clear e g
          intro V5 e
          have g : (d3 + u1) ≤ ((v0 - v2 + u2 - d2 + d3) + (-v2 + v3 + u2 - u3 + d1 - d2 + d3)) := by omega
          rw [Int.max_eq_left g] at e
          obtain rfl : V5 = v0 - v2 + v3 + u2 - u3 - d2 + d3 := by omega
          clear e g
          intro h6 e
          have g : (u1 + (-v2 + v3 + u2 - u3 + d3)) ≤ ((-v2 + v3 + u2 - u3 + d1 - d2 + d3) + u2) := by omega
          rw [Int.max_eq_right g] at e
          obtain rfl : h6 = -v1 + u2 + d1 := by omega
          clear e g
          intro U6 e
          have g : (u1 + (-v2 + v3 + u2 - u3 + d3)) ≤ ((-v1 + u2 + d1) + (v0 - v2 + v3 + u2 - u3 - d2 + d3)) := by omega
          rw [Int.max_eq_right g] at e
          obtain rfl : U6 = v0 - v1 + u2 := by omega
          clear e g
          intro D6 e
          have g : (u1 + (-v2 + v3 + u2 - u3 + d3)) ≤ ((-v1 + u2 + d1) + v3) := by omega
          rw [Int.max_eq_right g] at e
          obtain rfl : D6 = -v1 + v3 + d1 := by omega
          clear e g
          intro V6 e
          have g : ((v0 - v1 + u2) + (-v1 + v3 + d1)) ≤ ((-v2 + v3 + u2 - u3 + d3) + u1) := by omega
          rw [Int.max_eq_right g] at e
          obtain rfl : V6 = v1 - v2 + v3 + u1 - u3 - d1 + d3 := by omega
          clear e g
          exact ⟨rfl, rfl, rfl, rfl, rfl, rfl⟩
        · rw [Int.max_eq_right g] at e
          obtain rfl : V2 = v1 + u1 - u3 - d1 + d3 := by omega
          clear e
          intro h3 e
          have g : ((v0 - v1 + u2) + d3) ≤ (d2 + (v1 - v2 + u1 - d1 + d3)) := by omega
          rw [Int.max_eq_right g] at e
          obtain rfl : h3 = -v2 + u2 + d3 := by omega
          clear e g
          intro U3 e
          have g : ((v0 - v1 + u2) + d3) ≤ ((-v2 + u2 + d3) + v0) := by omega
          rw [Int.max_eq_right g] at e
          obtain rfl : U3 = v0 - v2 + u2 - d2 + d3 := by omega
          clear e g
          intro D3 e
          have g : ((v0 - v1 + u2) + d3) ≤ ((-v2 + u2 + d3) + (v1 + u1 - u3 - d1 + d3)) := by omega
          rw [Int.max_eq_right g] at e
          obtain rfl : D3 = u2 - u3 + d3 := by omega
          clear e g
          intro V3 e
          have g : (d3 + (v0 - v1 + u2)) ≤ ((v0 - v2 + u2 - d2 + d3) + (u2 - u3 + d3)) := by omega
          rw [Int.max_eq_left g] at e
          obtain rfl : V3 = v0 + u2 - u3 - d2 + d3 := by omega
          clear e g
          intro h4 e
          have g : (d2 + u3) ≤ (u2 + d3) := by omega
          rw [Int.max_eq_left g] at e
          obtain rfl : h4 = -v2 + u2 + d3 := by omega
          clear e g
          intro U4 e
          have g : (u2 + d3) ≤ ((-v2 + u2 + d3) + v1) := by omega
          rw [Int.max_eq_right g] at e
          obtain rfl : U4 = v1 - v2 + u2 - d2 + d3 := by omega
          clear e g
          intro D4 e
          have g : ((-v2 + u2 + d3) + v3) ≤ (u2 + d3) := by omega
          rw [Int.max_eq_left g] at e
          obtain rfl : D4 = u2 - u3 + d3 := by omega
          clear e g
          intro V4 e
          have g : (d3 + u2) ≤ ((v1 - v2 + u2 - d2 + d3) + (u2 - u3 + d3)) := by omega
          rw [Int.max_eq_left g] at e
          obtain rfl : V4 = v1 + u2 - u3 - d2 + d3 := by omega
          clear e g
          intro h5 e
          have g : (u1 + d3) ≤ (d1 + (v1 - v2 + u2 - d2 + d3)) := by omega
          rw [Int.max_eq_right g] at e
          obtain rfl : h5 = -v2 + u2 + d1 - d2 + d3 := by omega
          clear e g
          intro U5 e
          have g : (u1 + d3) ≤ ((-v2 + u2 + d1 - d2 + d3) + v0) := by omega
          rw [Int.max_eq_right g] at e
          obtain rfl : U5 = v0 - v2 + u2 - d2 + d3 := by omega
          clear e g
          intro D5 e
          have g : (u1 + d3) ≤ ((-v2 + u2 + d1 - d2 + d3) + (v1 + u2 - u3 - d2 + d3)) := by omega
          rw [Int.max_eq_right g] at e
          obtain rfl : D5 = u2 - u3 + d1 - d2 + d3 := by omega
          clear e g
          intro V5 e
          have g : (d3 + u1) ≤ ((v0 - v2 + u2 - d2 + d3) + (u2 - u3 + d1 - d2 + d3)) := by omega
          rw [Int.max_eq_left g] at e
          obtain rfl : V5 = v0 + u2 - u3 - d2 + d3 := by omega
          clear e g
          intro h6 e
          have g : (u1 + (u2 - u3 + d3)) ≤ ((u2 - u3 + d1 - d2 + d3) + u2) := by omega
          rw [Int.max_eq_right g] at e
          obtain rfl : h6 = -v1 + u2 + d1 := by omega
          clear e g
          intro U6 e
          have g : (u1 + (u2 - u3 + d3)) ≤ ((-v1 + u2 + d1) + (v0 + u2 - u3 - d2 + d3)) := by omega
          rw [Int.max_eq_right g] at e
          obtain rfl : U6 = v0 - v1 + u2 := by omega
          clear e g
          intro D6 e
          have g : (u1 + (u2 - u3 + d3)) ≤ ((-v1 + u2 + d1) + v3) := by omega
          rw [Int.max_eq_right g] at e
          obtain rfl : D6 = -v1 + v3 + d1 := by omega
          clear e g
          intro V6 e
          have g : ((v0 - v1 + u2) + (-v1 + v3 + d1)) ≤ ((u2 - u3 + d3) + u1) := by omega
          rw [Int.max_eq_right g] at e
          obtain rfl : V6 = v1 + u1 - u3 - d1 + d3 := by omega
          clear e g
          exact ⟨rfl, rfl, rfl, rfl, rfl, rfl⟩
    · rw [Int.max_eq_right g] at e
      obtain rfl : U2 = v1 - v2 + u1 - u2 + u3 - d1 + d2 := by omega
      clear e
      intro D2 e
      rcases Int.le_total ((-v1 + u3 + d1) + v3) (u1 + d3) with g | g
      · rw [Int.max_eq_left g] at e
        obtain rfl : D2 = u1 - u3 + d3 := by omega
        clear e
        intro V2 e
        have g : ((v1 - v2 + u1 - u2 + u3 - d1 + d2) + (u1 - u3 + d3)) ≤ (d3 + u1) := by omega
        rw [Int.max_eq_right g] at e
        obtain rfl : V2 = v1 + u1 - u3 - d1 + d3 := by omega
        clear e g
        intro h3 e
        have g : ((v0 - v1 + u2) + d3) ≤ (d2 + (v1 - v2 + u1 - u2 + u3 - d1 + d2)) := by omega
        rw [Int.max_eq_right g] at e
        obtain rfl : h3 = -v2 + u3 + d2 := by omega
        clear e g
        intro U3 e
        have g : ((v0 - v1 + u2) + d3) ≤ ((-v2 + u3 + d2) + v0) := by omega
        rw [Int.max_eq_right g] at e
        obtain rfl : U3 = v0 - v2 + u3 := by omega
        clear e g
        intro D3 e
        have g : ((v0 - v1 + u2) + d3) ≤ ((-v2 + u3 + d2) + (v1 + u1 - u3 - d1 + d3)) := by omega
        rw [Int.max_eq_right g] at e
        obtain rfl : D3 = u2 - u3 + d3 := by omega
        clear e g
        intro V3 e
        have g : (d3 + (v0 - v1 + u2)) ≤ ((v0 - v2 + u3) + (u2 - u3 + d3)) := by omega
        rw [Int.max_eq_left g] at e
        obtain rfl : V3 = v0 + u2 - u3 - d2 + d3 := by omega
        clear e g
        intro h4 e
        have g : (u2 + d3) ≤ (d2 + u3) := by omega
        rw [Int.max_eq_right g] at e
        obtain rfl : h4 = -v2 + u3 + d2 := by omega
        clear e g
        intro U4 e
        have g : (u2 + d3) ≤ ((-v2 + u3 + d2) + v1) := by omega
        rw [Int.max_eq_right g] at e
        obtain rfl : U4 = v1 - v2 + u3 := by omega
        clear e g
        intro D4 e
        have g : ((-v2 + u3 + d2) + v3) ≤ (u2 + d3) := by omega
        rw [Int.max_eq_left g] at e
        obtain rfl : D4 = u2 - u3 + d3 := by omega
        clear e g
        intro V4 e
        have g : (d3 + u2) ≤ ((v1 - v2 + u3) + (u2 - u3 + d3)) := by omega
        rw [Int.max_eq_left g] at e
        obtain rfl : V4 = v1 + u2 - u3 - d2 + d3 := by omega
        clear e g
        intro h5 e
        have g : (u1 + d3) ≤ (d1 + (v1 - v2 + u3)) := by omega
        rw [Int.max_eq_right g] at e
        obtain rfl : h5 = -v2 + u3 + d1 := by omega
        clear e g
        intro U5 e
        have g : (u1 + d3) ≤ ((-v2 + u3 + d1) + v0) := by omega
        rw [Int.max_eq_right g] at e
        obtain rfl : U5 = v0 - v2 + u3 := by omega
        clear e g
        intro D5 e
        have g : (u1 + d3) ≤ ((-v2 + u3 + d1) + (v1 + u2 - u3 - d2 + d3)) := by omega
        rw [Int.max_eq_right g] at e
        obtain rfl : D5 = u2 - u3 + d1 - d2 + d3 := by omega
        clear e g
        intro V5 e
        have g : (d3 + u1) ≤ ((v0 - v2 + u3) + (u2 - u3 + d1 - d2 + d3)) := by omega
        rw [Int.max_eq_left g] at e
        obtain rfl : V5 = v0 + u2 - u3 - d2 + d3 := by omega
        clear e g
        intro h6 e
        have g : (u1 + (u2 - u3 + d3)) ≤ ((u2 - u3 + d1 - d2 + d3) + u2) := by omega
        rw [Int.max_eq_right g] at e
        obtain rfl : h6 = -v1 + u2 + d1 := by omega
        clear e g
        intro U6 e
        have g : (u1 + (u2 - u3 + d3)) ≤ ((-v1 + u2 + d1) + (v0 + u2 - u3 - d2 + d3)) := by omega
        rw [Int.max_eq_right g] at e
        obtain rfl : U6 = v0 - v1 + u2 := by omega
        clear e g
        intro D6 e
        have g : ((-v1 + u2 + d1) + v3) ≤ (u1 + (u2 - u3 + d3)) := by omega
        rw [Int.max_eq_left g] at e
        obtain rfl : D6 = u1 - u3 + d3 := by omega
        clear e g
        intro V6 e
        have g : ((v0 - v1 + u2) + (u1 - u3 + d3)) ≤ ((u2 - u3 + d3) + u1) := by omega
        rw [Int.max_eq_right g] at e
        obtain rfl : V6 = v1 + u1 - u3 - d1 + d3 := by omega
        clear e g
        exact ⟨rfl, rfl, rfl, rfl, rfl, rfl⟩
      · rw [Int.max_eq_right g] at e
        obtain rfl : D2 = -v1 + v3 + d1 := by omega
        clear e
        intro V2 e
        rcases Int.le_total (d3 + u1) ((v1 - v2 + u1 - u2 + u3 - d1 + d2) + (-v1 + v3 + d1)) with g | g
        · rw [Int.max_eq_left g] at e
          obtain rfl : V2 = v1 - v2 + v3 + u1 - u2 - d1 + d2 := by omega
          clear e
          intro h3 e
          have g : ((v0 - v1 + u2) + d3) ≤ (d2 + (v1 - v2 + u1 - u2 + u3 - d1 + d2)) := by omega
          rw [Int.max_eq_right g] at e
          obtain rfl : h3 = -v2 + u3 + d2 := by omega
          clear e g
          intro U3 e
          have g : ((v0 - v1 + u2) + d3) ≤ ((-v2 + u3 + d2) + v0) := by omega
          rw [Int.max_eq_right g] at e
          obtain rfl : U3 = v0 - v2 + u3 := by omega
          clear e g
          intro D3 e
          have g : ((v0 - v1 + u2) + d3) ≤ ((-v2 + u3 + d2) + (v1 - v2 + v3 + u1 - u2 - d1 + d2)) := by omega
          rw [Int.max_eq_right g] at e
          obtain rfl : D3 = -v2 + v3 + d2 := by omega
          clear e g
          intro V3 e
          have g : (d3 + (v0 - v1 + u2)) ≤ ((v0 - v2 + u3) + (-v2 + v3 + d2)) := by omega
          rw [Int.max_eq_left g] at e
          obtain rfl : V3 = v0 - v2 + v3 := by omega
          clear e g
          intro h4 e
          have g : (u2 + d3) ≤ (d2 + u3) := by omega
          rw [Int.max_eq_right g] at e
          obtain rfl : h4 = -v2 + u3 + d2 := by omega
          clear e g
          intro U4 e
          have g : (u2 + d3) ≤ ((-v2 + u3 + d2) + v1) := by omega
          rw [Int.max_eq_right g] at e
          obtain rfl : U4 = v1 - v2 + u3 := by omega
          clear e g
          intro D4 e
          have g : (u2 + d3) ≤ ((-v2 + u3 + d2) + v3) := by omega
          rw [Int.max_eq_right g] at e
          obtain rfl : D4 = -v2 + v3 + d2 := by omega
          clear e g
          intro V4 e
          have g : (d3 + u2) ≤ ((v1 - v2 + u3) + (-v2 + v3 + d2)) := by omega
          rw [Int.max_eq_left g] at e
          obtain rfl : V4 = v1 - v2 + v3 := by omega
          clear e g
          intro h5 e
          have g : (u1 + d3) ≤ (d1 + (v1 - v2 + u3)) := by omega
          rw [Int.max_eq_right g] at e
          obtain rfl : h5 = -v2 + u3 + d1 := by omega
          clear e g
          intro U5 e
          have g : (u1 + d3) ≤ ((-v2 + u3 + d1) + v0) := by omega
          rw [Int.max_eq_right g] at e
          obtain rfl : U5 = v0 - v2 + u3 := by omega
          clear e g
          intro D5 e
          have g : (u1 + d3) ≤ ((-v2 + u3 + d1) + (v1 - v2 + v3)) := by omega
          rw [Int.max_eq_right g] at e
          obtain rfl : D5 = -v2 + v3 + d1 := by omega
          clear e g
          intro V5 e
          have g : (d3 + u1) ≤ ((v0 - v2 + u3) + (-v2 + v3 + d1)) := by omega
          rw [Int.max_eq_left g] at e
          obtain rfl : V5 = v0 - v2 + v3 := by omega
          clear e g
          intro h6 e
          have g : (u1 + (-v2 + v3 + d2)) ≤ ((-v2 + v3 + d1) + u2) := by omega
          rw [Int.max_eq_right g] at e
          obtain rfl : h6 = -v1 + u2 + d1 := by omega
          clear e g
          intro U6 e
          have g : (u1 + (-v2 + v3 + d2)) ≤ ((-v1 + u2 + d1) + (v0 - v2 + v3)) := by omega
          rw [Int.max_eq_right g] at e
          obtain rfl : U6 = v0 - v1 + u2 := by omega
          clear e g
          intro D6 e
          have g : (u1 + (-v2 + v3 + d2)) ≤ ((-v1 + u2 + d1) + v3) := by omega
          rw [Int.max_eq_right g] at e
          obtain rfl : D6 = -v1 + v3 + d1 := by omega
          clear e g
          intro V6 e
          have g : ((v0 - v1 + u2) + (-v1 + v3 + d1)) ≤ ((-v2 + v3 + d2) + u1) := by omega
          rw [Int.max_eq_right g] at e
          obtain rfl : V6 = v1 - v2 + v3 + u1 - u2 - d1 + d2 := by omega
          clear e g
          exact ⟨rfl, rfl, rfl, rfl, rfl, rfl⟩
        · rw [Int.max_eq_right g] at e
          obtain rfl : V2 = v1 + u1 - u3 - d1 + d3 := by omega
          clear e
          intro h3 e
          have g : ((v0 - v1 + u2) + d3) ≤ (d2 + (v1 - v2 + u1 - u2 + u3 - d1 + d2)) := by omega
          rw [Int.max_eq_right g] at e
          obtain rfl : h3 = -v2 + u3 + d2 := by omega
          clear e g
          intro U3 e
          have g : ((v0 - v1 + u2) + d3) ≤ ((-v2 + u3 + d2) + v0) := by omega
          rw [Int.max_eq_right g] at e
          obtain rfl : U3 = v0 - v2 + u3 := by omega
          clear e g
          intro D3 e
          have g : ((v0 - v1 + u2) + d3) ≤ ((-v2 + u3 + d2) + (v1 + u1 - u3 - d1 + d3)) := by omega
          rw [Int.max_eq_right g] at e
          obtain rfl : D3 = u2 - u3 + d3 := by omega
          clear e g
          intro V3 e
          have g : (d3 + (v0 - v1 + u2)) ≤ ((v0 - v2 + u3) + (u2 - u3 + d3)) := by omega
          rw [Int.max_eq_left g] at e
          obtain rfl : V3 = v0 + u2 - u3 - d2 + d3 := by omega
          clear e g
          intro h4 e
          have g : (u2 + d3) ≤ (d2 + u3) := by omega
          rw [Int.max_eq_right g] at e
          obtain rfl : h4 = -v2 + u3 + d2 := by omega
          clear e g
          intro U4 e
          have g : (u2 + d3) ≤ ((-v2 + u3 + d2) + v1) := by omega
          rw [Int.max_eq_right g] at e
          obtain rfl : U4 = v1 - v2 + u3 := by omega
          clear e g
          intro D4 e
          have g : ((-v2 + u3 + d2) + v3) ≤ (u2 + d3) := by omega
          rw [Int.max_eq_left g] at e
          obtain rfl : D4 = u2 - u3 + d3 := by omega
          clear e g
          intro V4 e
          have g : (d3 + u2) ≤ ((v1 - v2 + u3) + (u2 - u3 + d3)) := by omega
          rw [Int.max_eq_left g] at e
          obtain rfl : V4 = v1 + u2 - u3 - d2 + d3 := by omega
          clear e g
          intro h5 e
          have g : (u1 + d3) ≤ (d1 + (v1 - v2 + u3)) := by omega
          rw [Int.max_eq_right g] at e
          obtain rfl : h5 = -v2 + u3 + d1 := by omega
          clear e g
          intro U5 e
          have g : (u1 + d3) ≤ ((-v2 + u3 + d1) + v0) := by omega
          rw [Int.max_eq_right g] at e
          obtain rfl : U5 = v0 - v2 + u3 := by omega
          clear e g
          intro D5 e
          have g : (u1 + d3) ≤ ((-v2 + u3 + d1) + (v1 + u2 - u3 - d2 + d3)) := by omega
          rw [Int.max_eq_right g] at e
          obtain rfl : D5 = u2 - u3 + d1 - d2 + d3 := by omega
          clear e g
          intro V5 e
          have g : (d3 + u1) ≤ ((v0 - v2 + u3) + (u2 - u3 + d1 - d2 + d3)) := by omega
          rw [Int.max_eq_left g] at e
          obtain rfl : V5 = v0 + u2 - u3 - d2 + d3 := by omega
          clear e g
          intro h6 e
          have g : (u1 + (u2 - u3 + d3)) ≤ ((u2 - u3 + d1 - d2 + d3) + u2) := by omega
          rw [Int.max_eq_right g] at e
          obtain rfl : h6 = -v1 + u2 + d1 := by omega
          clear e g
          intro U6 e
          have g : (u1 + (u2 - u3 + d3)) ≤ ((-v1 + u2 + d1) + (v0 + u2 - u3 - d2 + d3)) := by omega
          rw [Int.max_eq_right g] at e
          obtain rfl : U6 = v0 - v1 + u2 := by omega
          clear e g
          intro D6 e
          have g : (u1 + (u2 - u3 + d3)) ≤ ((-v1 + u2 + d1) + v3) := by omega
          rw [Int.max_eq_right g] at e
          obtain rfl : D6 = -v1 + v3 + d1 := by omega
          clear e g
          intro V6 e
          have g : ((v0 - v1 + u2) + (-v1 + v3 + d1)) ≤ ((u2 - u3 + d3) + u1) := by omega
          rw [Int.max_eq_right g] at e
          obtain rfl : V6 = v1 + u1 - u3 - d1 + d3 := by omega
          clear e g
          exact ⟨rfl, rfl, rfl, rfl, rfl, rfl⟩
set_option maxHeartbeats 4000000 in
set_option maxRecDepth 100000 in
theorem dy_yb (v0 v1 v2 v3 u1 u2 u3 d1 d2 d3 : Int) : ∀ h1 : Int, h1 = max (u1 + d2) (d1 + u2) - v1 → ∀ U1 : Int, U1 = max (u1 + d2) (h1 + v0) - d1 → ∀ D1 : Int, D1 = max (u1 + d2) (h1 + v2) - u2 → ∀ V1 : Int, V1 = max (U1 + D1) (d2 + u1) - h1 → ∀ h2 : Int, h2 = max (u1 + d3) (D1 + u3) - v2 → ∀ U2 : Int, U2 = max (u1 + d3) (h2 + V1) - D1 → ∀ D2 : Int, D2 = max (u1 + d3) (h2 + v3) - u3 → ∀ V2 : Int, V2 = max (U2 + D2) (d3 + u1) - h2 → ∀ h3 : Int, h3 = max (U1 + d3) (d2 + U2) - V1 → ∀ U3 : Int, U3 = max (U1 + d3) (h3 + v0) - d2 → ∀ D3 : Int, D3 = max (U1 + d3) (h3 + V2) - U2 → ∀ V3 : Int, V3 = max (U3 + D3) (d3 + U1) - h3 → ∀ h4 : Int, h4 = max (u2 + d3) (d2 + u3) - v2 → ∀ U4 : Int, U4 = max (u2 + d3) (h4 + v1) - d2 → ∀ D4 : Int, D4 = max (u2 + d3) (h4 + v3) - u3 → ∀ V4 : Int, V4 = max (U4 + D4) (d3 + u2) - h4 → ∀ h5 : Int, h5 = max (u1 + d3) (d1 + U4) - v1 → ∀ U5 : Int, U5 = max (u1 + d3) (h5 + v0) - d1 → ∀ D5 : Int, D5 = max (u1 + d3) (h5 + V4) - U4 → ∀ V5 : Int, V5 = max (U5 + D5) (d3 + u1) - h5 → ∀ h6 : Int, h6 = max (u1 + D4) (D5 + u2) - V4 → ∀ U6 : Int, U6 = max (u1 + D4) (h6 + V5) - D5 → ∀ D6 : Int, D6 = max (u1 + D4) (h6 + v3) - u2 → ∀ V6 : Int, V6 = max (U6 + D6) (D4 + u1) - h6 → V3 = V5 ∧ U3 = U5 ∧ V2 = V6 ∧ U1 = U6 ∧ D3 = D4 ∧ D2 = D6 := by
  intro h1 e
  rcases Int.le_total (d1 + u2) (u1 + d2) with g | g
  · rw [Int.max_eq_left g] at e
    obtain rfl : h1 = -v1 + u1 + d2 := by omega
    clear e
    intro U1 e
    rcases Int.le_total ((-v1 + u1 + d2) + v0) (u1 + d2) with g | g
    · rw [Int.max_eq_left g] at e
      obtain rfl : U1 = u1 - d1 + d2 := by omega
      clear e
      intro D1 e
      rcases Int.le_total ((-v1 + u1 + d2) + v2) (u1 + d2) with g | g
      · rw [Int.max_eq_left g] at e
        obtain rfl : D1 = u1 - u2 + d2 := by omega
        clear e
        intro V1 e
        have g : (d2 + u1) ≤ ((u1 - d1 + d2) + (u1 - u2 + d2)) := by omega
        rw [Int.max_eq_left g] at e
        obtain rfl : V1 = v1 + u1 - u2 - d1 + d2 := by omega
        clear e g
        intro h2 e
        rcases Int.le_total ((u1 - u2 + d2) + u3) (u1 + d3) with g | g
        · rw [Int.max_eq_left g] at e
          obtain rfl : h2 = -v2 + u1 + d3 := by omega
          clear e
          exact dy_c1 v0 v1 v2 v3 u1 u2 u3 d1 d2 d3 (by omega) (by omega) (by omega) (by omega)
        · rw [Int.max_eq_right g] at e
          obtain rfl : h2 = -v2 + u1 - u2 + u3 + d2 := by omega
          clear e
          intro U2 e
          have g : (u1 + d3) ≤ ((-v2 + u1 - u2 + u3 + d2) + (v1 + u1 - u2 - d1 + d2)) := by omega
          rw [Int.max_eq_right g] at e
          obtain rfl : U2 = v1 - v2 + u1 - u2 + u3 - d1 + d2 := by omega
          clear e g
          intro D2 e
          rcases Int.le_total ((-v2 + u1 - u2 + u3 + d2) + v3) (u1 + d3) with g | g
          · rw [Int.max_eq_left g] at e
            obtain rfl : D2 = u1 - u3 + d3 := by omega
            clear e
            exact dy_c2 v0 v1 v2 v3 u1 u2 u3 d1 d2 d3 (by omega) (by omega) (by omega) (by omega) (by omega)
          · rw [Int.max_eq_right g] at e
            obtain rfl : D2 = -v2 + v3 + u1 - u2 + d2 := by omega
            clear e
            exact dy_c3 v0 v1 v2 v3 u1 u2 u3 d1 d2 d3 (by omega) (by omega) (by omega) (by omega) (by omega)
      · rw [Int.max_eq_right g] at e
        obtain rfl : D1 = -v1 + v2 + u1 - u2 + d2 := by omega
        clear e
        intro V1 e
        have g : (d2 + u1) ≤ ((u1 - d1 + d2) + (-v1 + v2 + u1 - u2 + d2)) := by omega
        rw [Int.max_eq_left g] at e
        obtain rfl : V1 = v2 + u1 - u2 - d1 + d2 := by omega
        clear e g
        intro h2 e
        rcases Int.le_total ((-v1 + v2 + u1 - u2 + d2) + u3) (u1 + d3) with g | g
        · rw [Int.max_eq_left g] at e
          obtain rfl : h2 = -v2 + u1 + d3 := by omega
          clear e
          exact dy_c4 v0 v1 v2 v3 u1 u2 u3 d1 d2 d3 (by omega) (by omega) (by omega) (by omega)
        · rw [Int.max_eq_right g] at e
          obtain rfl : h2 = -v1 + u1 - u2 + u3 + d2 := by omega
          clear e
          intro U2 e
          have g : (u1 + d3) ≤ ((-v1 + u1 - u2 + u3 + d2) + (v2 + u1 - u2 - d1 + d2)) := by omega
          rw [Int.max_eq_right g] at e
          obtain rfl : U2 = u1 - u2 + u3 - d1 + d2 := by omega
          clear e g
          intro D2 e
          rcases Int.le_total ((-v1 + u1 - u2 + u3 + d2) + v3) (u1 + d3) with g | g
          · rw [Int.max_eq_left g] at e
            obtain rfl : D2 = u1 - u3 + d3 := by omega
            clear e
            exact dy_c5 v0 v1 v2 v3 u1 u2 u3 d1 d2 d3 (by omega) (by omega) (by omega) (by omega) (by omega)
          · rw [Int.max_eq_right g] at e
            obtain rfl : D2 = -v1 + v3 + u1 - u2 + d2 := by omega
            clear e
            intro V2 e
            have g : (d3 + u1) ≤ ((u1 - u2 + u3 - d1 + d2) + (-v1 + v3 + u1 - u2 + d2)) := by omega
            rw [Int.max_eq_left g] at e
            obtain rfl : V2 = v3 + u1 - u2 - d1 + d2 := by omega
            clear e g
            intro h3 e
            rcases Int.le_total (d2 + (u1 - u2 + u3 - d1 + d2)) ((u1 - d1 + d2) + d3) with g | g
            · rw [Int.max_eq_left g] at e
              obtain rfl : h3 = -v2 + u2 + d3 := by omega
              clear e
              exact dy_c6 v0 v1 v2 v3 u1 u2 u3 d1 d2 d3 (by omega) (by omega) (by omega) (by omega) (by omega) (by omega)
            · rw [Int.max_eq_right g] at e
              obtain rfl : h3 = -v2 + u3 + d2 := by omega
              clear e
              intro U3 e
              rcases Int.le_total ((-v2 + u3 + d2) + v0) ((u1 - d1 + d2) + d3) with g | g
              · rw [Int.max_eq_left g] at e
                obtain rfl : U3 = u1 - d1 + d3 := by omega
                clear e
                exact dy_c7 v0 v1 v2 v3 u1 u2 u3 d1 d2 d3 (by omega) (by omega) (by omega) (by omega) (by omega) (by omega) (by omega)
              · rw [Int.max_eq_right g] at e
                obtain rfl : U3 = v0 - v2 + u3 := by omega
                clear e
                exact dy_c8 v0 v1 v2 v3 u1 u2 u3 d1 d2 d3 (by omega) (by omega) (by omega) (by omega) (by omega) (by omega) (by omega)
    · rw [Int.max_eq_right g] at e
      obtain rfl : U1 = v0 - v1 + u1 - d1 + d2 := by omega
      clear e
      intro D1 e
      rcases Int.le_total ((-v1 + u1 + d2) + v2) (u1 + d2) with g | g
      · rw [Int.max_eq_left g] at e
        obtain rfl : D1 = u1 - u2 + d2 := by omega
        clear e
        exact dy_c9 v0 v1 v2 v3 u1 u2 u3 d1 d2 d3 (by omega) (by omega) (by omega)
      · rw [Int.max_eq_right g] at e
        obtain rfl : D1 = -v1 + v2 + u1 - u2 + d2 := by omega
        clear e
        intro V1 e
        have g : (d2 + u1) ≤ ((v0 - v1 + u1 - d1 + d2) + (-v1 + v2 + u1 - u2 + d2)) := by omega
        rw [Int.max_eq_left g] at e
        obtain rfl : V1 = v0 - v1 + v2 + u1 - u2 - d1 + d2 := by omega
        clear e g
        intro h2 e
        rcases Int.le_total ((-v1 + v2 + u1 - u2 + d2) + u3) (u1 + d3) with g | g
        · rw [Int.max_eq_left g] at e
          obtain rfl : h2 = -v2 + u1 + d3 := by omega
          clear e
          exact dy_c10 v0 v1 v2 v3 u1 u2 u3 d1 d2 d3 (by omega) (by omega) (by omega) (by omega)
        · rw [Int.max_eq_right g] at e
          obtain rfl : h2 = -v1 + u1 - u2 + u3 + d2 := by omega
          clear e
          intro U2 e
          have g : (u1 + d3) ≤ ((-v1 + u1 - u2 + u3 + d2) + (v0 - v1 + v2 + u1 - u2 - d1 + d2)) := by omega
          rw [Int.max_eq_right g] at e
          obtain rfl : U2 = v0 - v1 + u1 - u2 + u3 - d1 + d2 := by omega
          clear e g
          intro D2 e
          rcases Int.le_total ((-v1 + u1 - u2 + u3 + d2) + v3) (u1 + d3) with g | g
          · rw [Int.max_eq_left g] at e
            obtain rfl : D2 = u1 - u3 + d3 := by omega
            clear e
            exact dy_c11 v0 v1 v2 v3 u1 u2 u3 d1 d2 d3 (by omega) (by omega) (by omega) (by omega) (by omega)
          · rw [Int.max_eq_right g] at e
            obtain rfl : D2 = -v1 + v3 + u1 - u2 + d2 := by omega
            clear e
            intro V2 e
            have g : (d3 + u1) ≤ ((v0 - v1 + u1 - u2 + u3 - d1 + d2) + (-v1 + v3 + u1 - u2 + d2)) := by omega
            rw [Int.max_eq_left g] at e
            obtain rfl : V2 = v0 - v1 + v3 + u1 - u2 - d1 + d2 := by omega
            clear e g
            intro h3 e
            rcases Int.le_total (d2 + (v0 - v1 + u1 - u2 + u3 - d1 + d2)) ((v0 - v1 + u1 - d1 + d2) + d3) with g | g
            · rw [Int.max_eq_left g] at e
              obtain rfl : h3 = -v2 + u2 + d3 := by omega
              clear e
              exact dy_c12 v0 v1 v2 v3 u1 u2 u3 d1 d2 d3 (by omega) (by omega) (by omega) (by omega) (by omega) (by omega)
            · rw [Int.max_eq_right g] at e
              obtain rfl : h3 = -v2 + u3 + d2 := by omega
              clear e
              exact dy_c13 v0 v1 v2 v3 u1 u2 u3 d1 d2 d3 (by omega) (by omega) (by omega) (by omega) (by omega) (by omega)
  · rw [Int.max_eq_right g] at e
    obtain rfl : h1 = -v1 + u2 + d1 := by omega
    clear e
    intro U1 e
    rcases Int.le_total ((-v1 + u2 + d1) + v0) (u1 + d2) with g | g
    · rw [Int.max_eq_left g] at e
      obtain rfl : U1 = u1 - d1 + d2 := by omega
      clear e
      intro D1 e
      rcases Int.le_total ((-v1 + u2 + d1) + v2) (u1 + d2) with g | g
      · rw [Int.max_eq_left g] at e
        obtain rfl : D1 = u1 - u2 + d2 := by omega
        clear e
        exact dy_c14 v0 v1 v2 v3 u1 u2 u3 d1 d2 d3 (by omega) (by omega) (by omega)
      · rw [Int.max_eq_right g] at e
        obtain rfl : D1 = -v1 + v2 + d1 := by omega
        clear e
        intro V1 e
        rcases Int.le_total (d2 + u1) ((u1 - d1 + d2) + (-v1 + v2 + d1)) with g | g
        · rw [Int.max_eq_left g] at e
          obtain rfl : V1 = v2 + u1 - u2 - d1 + d2 := by omega
          clear e
          intro h2 e
          rcases Int.le_total ((-v1 + v2 + d1) + u3) (u1 + d3) with g | g
          · rw [Int.max_eq_left g] at e
            obtain rfl : h2 = -v2 + u1 + d3 := by omega
            clear e
            exact dy_c15 v0 v1 v2 v3 u1 u2 u3 d1 d2 d3 (by omega) (by omega) (by omega) (by omega) (by omega)
          · rw [Int.max_eq_right g] at e
            obtain rfl : h2 = -v1 + u3 + d1 := by omega
            clear e
            intro U2 e
            rcases Int.le_total ((-v1 + u3 + d1) + (v2 + u1 - u2 - d1 + d2)) (u1 + d3) with g | g
            · rw [Int.max_eq_left g] at e
              obtain rfl : U2 = v1 - v2 + u1 - d1 + d3 := by omega
              clear e
              exact dy_c16 v0 v1 v2 v3 u1 u2 u3 d1 d2 d3 (by omega) (by omega) (by omega) (by omega) (by omega) (by omega)
            · rw [Int.max_eq_right g] at e
              obtain rfl : U2 = u1 - u2 + u3 - d1 + d2 := by omega
              clear e
              intro D2 e
              rcases Int.le_total ((-v1 + u3 + d1) + v3) (u1 + d3) with g | g
              · rw [Int.max_eq_left g] at e
                obtain rfl : D2 = u1 - u3 + d3 := by omega
                clear e
                exact dy_c17 v0 v1 v2 v3 u1 u2 u3 d1 d2 d3 (by omega) (by omega) (by omega) (by omega) (by omega) (by omega) (by omega)
              · rw [Int.max_eq_right g] at e
                obtain rfl : D2 = -v1 + v3 + d1 := by omega
                clear e
                intro V2 e
                rcases Int.le_total (d3 + u1) ((u1 - u2 + u3 - d1 + d2) + (-v1 + v3 + d1)) with g | g
                · rw [Int.max_eq_left g] at e
                  obtain rfl : V2 = v3 + u1 - u2 - d1 + d2 := by omega
                  clear e
                  intro h3 e
                  rcases Int.le_total (d2 + (u1 - u2 + u3 - d1 + d2)) ((u1 - d1 + d2) + d3) with g | g
                  · rw [Int.max_eq_left g] at e
                    obtain rfl : h3 = -v2 + u2 + d3 := by omega
                    clear e
                    exact dy_c18 v0 v1 v2 v3 u1 u2 u3 d1 d2 d3 (by omega) (by omega) (by omega) (by omega) (by omega) (by omega) (by omega) (by omega) (by omega)
                  · rw [Int.max_eq_right g] at e
                    obtain rfl : h3 = -v2 + u3 + d2 := by omega
                    clear e
                    exact dy_c19 v0 v1 v2 v3 u1 u2 u3 d1 d2 d3 (by omega) (by omega) (by omega) (by omega) (by omega) (by omega) (by omega) (by omega) (by omega)
                · rw [Int.max_eq_right g] at e
                  obtain rfl : V2 = v1 + u1 - u3 - d1 + d3 := by omega
                  clear e
                  exact dy_c20 v0 v1 v2 v3 u1 u2 u3 d1 d2 d3 (by omega) (by omega) (by omega) (by omega) (by omega) (by omega) (by omega) (by omega)
        · rw [Int.max_eq_right g] at e
          obtain rfl : V1 = v1 + u1 - u2 - d1 + d2 := by omega
          clear e
          intro h2 e
          rcases Int.le_total ((-v1 + v2 + d1) + u3) (u1 + d3) with g | g
          · rw [Int.max_eq_left g] at e
            obtain rfl : h2 = -v2 + u1 + d3 := by omega
            clear e
            exact dy_c21 v0 v1 v2 v3 u1 u2 u3 d1 d2 d3 (by omega) (by omega) (by omega) (by omega) (by omega)
          · rw [Int.max_eq_right g] at e
            obtain rfl : h2 = -v1 + u3 + d1 := by omega
            clear e
            intro U2 e
            rcases Int.le_total ((-v1 + u3 + d1) + (v1 + u1 - u2 - d1 + d2)) (u1 + d3) with g | g
            · rw [Int.max_eq_left g] at e
              obtain rfl : U2 = v1 - v2 + u1 - d1 + d3 := by omega
              clear e
              exact dy_c22 v0 v1 v2 v3 u1 u2 u3 d1 d2 d3 (by omega) (by omega) (by omega) (by omega) (by omega) (by omega)
            · rw [Int.max_eq_right g] at e
              obtain rfl : U2 = v1 - v2 + u1 - u2 + u3 - d1 + d2 := by omega
              clear e
              exact dy_c23 v0 v1 v2 v3 u1 u2 u3 d1 d2 d3 (by omega) (by omega) (by omega) (by omega) (by omega) (by omega)
    · rw [Int.max_eq_right g] at e
      obtain rfl : U1 = v0 - v1 + u2 := by omega
      clear e
      intro D1 e
      rcases Int.le_total ((-v1 + u2 + d1) + v2) (u1 + d2) with g | g
      · rw [Int.max_eq_left g] at e
        obtain rfl : D1 = u1 - u2 + d2 := by omega
        clear e
        exact dy_c24 v0 v1 v2 v3 u1 u2 u3 d1 d2 d3 (by omega) (by omega) (by omega)
      · rw [Int.max_eq_right g] at e
        obtain rfl : D1 = -v1 + v2 + d1 := by omega
        clear e
        intro V1 e
        rcases Int.le_total (d2 + u1) ((v0 - v1 + u2) + (-v1 + v2 + d1)) with g | g
        · rw [Int.max_eq_left g] at e
          obtain rfl : V1 = v0 - v1 + v2 := by omega
          clear e
          intro h2 e
          rcases Int.le_total ((-v1 + v2 + d1) + u3) (u1 + d3) with g | g
          · rw [Int.max_eq_left g] at e
            obtain rfl : h2 = -v2 + u1 + d3 := by omega
            clear e
            exact dy_c25 v0 v1 v2 v3 u1 u2 u3 d1 d2 d3 (by omega) (by omega) (by omega) (by omega) (by omega)
          · rw [Int.max_eq_right g] at e
            obtain rfl : h2 = -v1 + u3 + d1 := by omega
            clear e
            intro U2 e
            rcases Int.le_total ((-v1 + u3 + d1) + (v0 - v1 + v2)) (u1 + d3) with g | g
            · rw [Int.max_eq_left g] at e
              obtain rfl : U2 = v1 - v2 + u1 - d1 + d3 := by omega
              clear e
              exact dy_c26 v0 v1 v2 v3 u1 u2 u3 d1 d2 d3 (by omega) (by omega) (by omega) (by omega) (by omega) (by omega)
            · rw [Int.max_eq_right g] at e
              obtain rfl : U2 = v0 - v1 + u3 := by omega
              clear e
              intro D2 e
              rcases Int.le_total ((-v1 + u3 + d1) + v3) (u1 + d3) with g | g
              · rw [Int.max_eq_left g] at e
                obtain rfl : D2 = u1 - u3 + d3 := by omega
                clear e
                exact dy_c27 v0 v1 v2 v3 u1 u2 u3 d1 d2 d3 (by omega) (by omega) (by omega) (by omega) (by omega) (by omega) (by omega)
              · rw [Int.max_eq_right g] at e
                obtain rfl : D2 = -v1 + v3 + d1 := by omega
                clear e
                intro V2 e
                rcases Int.le_total (d3 + u1) ((v0 - v1 + u3) + (-v1 + v3 + d1)) with g | g
                · rw [Int.max_eq_left g] at e
                  obtain rfl : V2 = v0 - v1 + v3 := by omega
                  clear e
                  exact dy_c28 v0 v1 v2 v3 u1 u2 u3 d1 d2 d3 (by omega) (by omega) (by omega) (by omega) (by omega) (by omega) (by omega) (by omega)
                · rw [Int.max_eq_right g] at e
                  obtain rfl : V2 = v1 + u1 - u3 - d1 + d3 := by omega
                  clear e
                  exact dy_c29 v0 v1 v2 v3 u1 u2 u3 d1 d2 d3 (by omega) (by omega) (by omega) (by omega) (by omega) (by omega) (by omega) (by omega)
        · rw [Int.max_eq_right g] at e
          obtain rfl : V1 = v1 + u1 - u2 - d1 + d2 := by omega
          clear e
          exact dy_c30 v0 v1 v2 v3 u1 u2 u3 d1 d2 d3 (by omega) (by omega) (by omega) (by omega)

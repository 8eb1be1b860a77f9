/-! ===== calls: drawn, chance ===== -/
section CHN
variable {θ θm : sv_T} {σ μ : sv_S} {tc : Nat} {Fs : Nat → Nat → (Nat → Int32) → Int32} {D : zD}
theorem c_drawn (h : zRel θ θm σ μ tc Fs D) (a1 : Int32) : zGo θ θm tc Fs (q_X7_drawn θ a1 σ) (q_X8_drawn θm a1 μ) := by
  obtain ⟨hD, hT, hX, hM⟩ := h.2.2.2.1
  obtain ⟨σ1, σ2, σ3, u1, u2, u3, u4, u5⟩ := x_drawn (θ := θ) h.1 hD hX (zRel_t h) (seed := a1)
  obtain ⟨μ', v1, v2⟩ := m_gainBy (θm := θm) (seed := a1) (zRel_ok h)
  unfold q_X7_drawn q_X8_drawn
  rw [u1, zb, u2, zb, u3, zb, u5, v1, zb]
  exact ⟨_, _, _, _, rfl, rfl, zRel_7 h u4 v2⟩
theorem x_gcd {a1 a2 : Int32} : ∀ (n low high k fuel : Nat), low ≤ n → k + low < 50 → low < 2147483648 → high < 2147483648 → q_X7_commonDivisor_B7 θ a1 a2 (fuel + low + 1) (nI high) (nI low) (nI k) σ = some (nI (Nat.gcd low high), σ) := by
  intro n
  induction n with
  | zero =>
    intro low high k fuel h1 h2 h3 h4
    have : low = 0 := by omega
    subst this
    show q_X7_commonDivisor_B7_b θ a1 a2 _ (nI high) (nI 0) (nI k) σ = _
    unfold q_X7_commonDivisor_B7_b
    rw [if_neg (show ¬ (50 : Int32) ≤ nI k from nI_ge (b := 50) (by omega) (by omega)), if_pos (show nI 0 = 0 from rfl), Nat.gcd_zero_left]
  | succ n ih =>
    intro low high k fuel h1 h2 h3 h4
    by_cases h0 : low = 0
    · subst h0
      show q_X7_commonDivisor_B7_b θ a1 a2 _ (nI high) (nI 0) (nI k) σ = _
      unfold q_X7_commonDivisor_B7_b
      rw [if_neg (show ¬ (50 : Int32) ≤ nI k from nI_ge (b := 50) (by omega) (by omega)), if_pos (show nI 0 = 0 from rfl), Nat.gcd_zero_left]
    · have hm : high % low < low := Nat.mod_lt _ (by omega)
      have e := ih (high % low) low (k + 1) (fuel + (low - high % low - 1)) (by omega) (by omega) (by omega) h3
      rw [show fuel + (low - high % low - 1) + high % low + 1 = fuel + low by omega] at e
      have eu : q_X7_commonDivisor_B7 θ a1 a2 (fuel + low + 1) (nI high) (nI low) (nI k) σ = q_X7_commonDivisor_B7_b θ a1 a2 (q_X7_commonDivisor_B7 θ a1 a2 (fuel + low)) (nI high) (nI low) (nI k) σ := rfl
      rw [eu]
      unfold q_X7_commonDivisor_B7_b
      rw [if_neg (show ¬ (50 : Int32) ≤ nI k from nI_ge (b := 50) (by omega) (by omega)), if_neg (nI_ne0 (n := low) (by omega) (by omega)), if_neg (nI_ne0 (n := low) (by omega) (by omega)), pk_rem h4 (by omega) h3, zl, nI_1, zl, e, Nat.gcd_rec low high]
theorem z_cmp0 {y : Int64} : lg_cmp y (0 : Int64) = 0 ↔ y = 0 := by
  rw [z_cmp]
  by_cases h : y > 0
  · rw [if_pos h]
    constructor
    · intro q; exact absurd q (by decide)
    · intro q; subst q; exact absurd h (by decide)
  · rw [if_neg h]
    by_cases h2 : y = 0
    · rw [if_pos h2]; exact ⟨fun _ => h2, fun _ => rfl⟩
    · rw [if_neg h2]
      exact ⟨fun q => absurd q (by decide), fun q => absurd q h2⟩
theorem m_gcd {a1 a2 a3 a4 : Int32} {x4 : Int32} {m p : Nat} (hm : m < 2147483648) (hp : p < 2147483648) : ∀ (n q y fuel : Nat), q ≤ n → q < 2147483648 → y < 2147483648 → 0 < Nat.gcd q y → q_X8_chance_B87 θm a1 a2 a3 a4 (fuel + q + 1) (nI m) x4 (lN p) (lN y) (lN q) μ = some (if x4 = 0 then lN (p / Nat.gcd q y) else lN (m / Nat.gcd q y), μ) := by
  intro n
  have fin : ∀ (y fuel : Nat), y < 2147483648 → 0 < Nat.gcd 0 y → q_X8_chance_B87 θm a1 a2 a3 a4 (fuel + 0 + 1) (nI m) x4 (lN p) (lN y) (lN 0) μ = some (if x4 = 0 then lN (p / Nat.gcd 0 y) else lN (m / Nat.gcd 0 y), μ) := by
    intro y fuel hy hg
    rw [Nat.gcd_zero_left] at hg ⊢
    show q_X8_chance_B87_b θm a1 a2 a3 a4 _ (nI m) x4 (lN p) (lN y) (lN 0) μ = _
    unfold q_X8_chance_B87_b
    have hy0 : ¬ lN y = 0 := fun q => by
      rw [show (0 : Int64) = lN 0 from rfl, pk_lEQ (by omega) (by omega)] at q
      omega
    rw [if_pos (show lg_cmp (lN 0) (0 : Int64) = 0 from z_cmp0.mpr rfl)]
    by_cases h4 : x4 = 0
    · rw [if_pos h4, if_pos h4, if_neg hy0, pk_lDiv (by omega) hg (by omega)]
    · rw [if_neg h4, if_neg h4, if_neg hy0, nI_l (by omega), pk_lDiv (by omega) hg (by omega)]
  induction n with
  | zero =>
    intro q y fuel h1 h2 h3 h4
    have : q = 0 := by omega
    subst this
    exact fin y fuel h3 h4
  | succ n ih =>
    intro q y fuel h1 h2 h3 h4
    by_cases h0 : q = 0
    · subst h0; exact fin y fuel h3 h4
    · have hmd : y % q < q := Nat.mod_lt _ (by omega)
      have hq0 : ¬ lN q = 0 := fun z => by
        rw [show (0 : Int64) = lN 0 from rfl, pk_lEQ (by omega) (by omega)] at z
        omega
      have e := ih (y % q) q (fuel + (q - y % q - 1)) (by omega) (by omega) h2 (by rw [← Nat.gcd_rec]; exact h4)
      rw [show fuel + (q - y % q - 1) + y % q + 1 = fuel + q by omega, ← Nat.gcd_rec] at e
      have eu : q_X8_chance_B87 θm a1 a2 a3 a4 (fuel + q + 1) (nI m) x4 (lN p) (lN y) (lN q) μ = q_X8_chance_B87_b θm a1 a2 a3 a4 (q_X8_chance_B87 θm a1 a2 a3 a4 (fuel + q)) (nI m) x4 (lN p) (lN y) (lN q) μ := rfl
      rw [eu]
      unfold q_X8_chance_B87_b
      rw [if_neg (fun z => hq0 (z_cmp0.mp z)), if_neg hq0, pk_lRem (by omega) (by omega) (by omega), zl, e]
/-- as zGo, where a long is answered -/
def zGoL (θ θm : sv_T) (tc : Nat) (Fs : Nat → Nat → (Nat → Int32) → Int32) (A B : Option (Int64 × sv_S)) : Prop := ∃ r σ' μ' D', A = some (r, σ') ∧ B = some (r, μ') ∧ zRel θ θm σ' μ' tc Fs D'
theorem z_chance {a1 a2 a3 a4 x1 x3 x4 : Int32} {m : Nat} (hm : 1 ≤ m ∧ m ≤ 20) : ∀ (r i p fuel : Nat) (σ μ : sv_S) (D : zD), m - i = r → i ≤ m → p ≤ i → zRel θ θm σ μ tc Fs D →
    zGoL θ θm tc Fs (q_X7_chance_B43 θ a1 a2 a3 a4 (fuel + r + 1) x1 (nI m) x3 x4 (nI p) (nI i) σ) (q_X8_chance_B45 θm a1 a2 a3 a4 (fuel + r + 1) x1 (nI m) x3 x4 (lN p) (nI i) μ) := by
  intro r
  induction r with
  | zero =>
    intro i p fuel σ μ D h1 h2 h3 h
    have hg : 0 < Nat.gcd p m := Nat.gcd_pos_of_pos_right _ (by omega)
    have hgm : Nat.gcd p m ≤ m := Nat.gcd_le_right _ (by omega)
    have eC := x_gcd (θ := θ) (σ := σ) (a1 := nI p) (a2 := nI m) p p m 0 (199 - p) (Nat.le_refl _) (by omega) (by omega) (by omega)
    rw [show 199 - p + p + 1 = sv_N by unfold sv_N; omega] at eC
    have eC' : q_X7_commonDivisor θ (nI p) (nI m) σ = some (nI (Nat.gcd p m), σ) := eC
    have eM := m_gcd (θm := θm) (μ := μ) (a1 := a1) (a2 := a2) (a3 := a3) (a4 := a4) (x4 := x4) (m := m) (p := p) (by omega) (by omega) m m p (199 - m) (Nat.le_refl _) (by omega) (by omega) (by rw [Nat.gcd_comm]; exact hg)
    rw [show 199 - m + m + 1 = sv_N by unfold sv_N; omega, Nat.gcd_comm m p] at eM
    refine ⟨if x4 = 0 then lN (p / Nat.gcd p m) else lN (m / Nat.gcd p m), σ, μ, D, ?_, ?_, h⟩
    · show q_X7_chance_B43_b θ a1 a2 a3 a4 _ x1 (nI m) x3 x4 (nI p) (nI i) σ = _
      unfold q_X7_chance_B43_b
      rw [if_pos (nI_le (by omega) (by omega)), eC', zb, if_pos (show (1 : Int32) ≤ nI (Nat.gcd p m) from nI_le (a := 1) (by omega) (by omega))]
      have hp' : p / Nat.gcd p m ≤ p := Nat.div_le_self _ _
      have hm' : m / Nat.gcd p m ≤ m := Nat.div_le_self _ _
      by_cases h4 : x4 = 0
      · rw [if_pos h4, if_pos h4, if_neg (nI_ne0 hg (by omega)), pk_div (by omega) hg (by omega), nI_l (by omega)]
      · rw [if_neg h4, if_neg h4, if_neg (nI_ne0 hg (by omega)), pk_div (by omega) hg (by omega), nI_l (by omega)]
    · show q_X8_chance_B45_b θm a1 a2 a3 a4 _ x1 (nI m) x3 x4 (lN p) (nI i) μ = _
      unfold q_X8_chance_B45_b
      rw [if_pos (nI_le (by omega) (by omega)), nI_l (by omega), zl, eM]
  | succ r ih =>
    intro i p fuel σ μ D h1 h2 h3 h
    obtain ⟨hD, hT, hX, hM⟩ := h.2.2.2.1
    obtain ⟨σ1, σ2, σ3, u1, u2, u3, u4, u5⟩ := x_drawn (θ := θ) h.1 hD hX (zRel_t h) (seed := x1 + nI i)
    obtain ⟨μ', v1, v2⟩ := m_gainBy (θm := θm) (seed := x1 + nI i) (zRel_ok h)
    have h' := zRel_7 h u4 v2
    have eX : q_X7_chance_B43 θ a1 a2 a3 a4 (fuel + (r + 1) + 1) x1 (nI m) x3 x4 (nI p) (nI i) σ = q_X7_chance_B43_b θ a1 a2 a3 a4 (q_X7_chance_B43 θ a1 a2 a3 a4 (fuel + (r + 1))) x1 (nI m) x3 x4 (nI p) (nI i) σ := rfl
    have eM : q_X8_chance_B45 θm a1 a2 a3 a4 (fuel + (r + 1) + 1) x1 (nI m) x3 x4 (lN p) (nI i) μ = q_X8_chance_B45_b θm a1 a2 a3 a4 (q_X8_chance_B45 θm a1 a2 a3 a4 (fuel + (r + 1))) x1 (nI m) x3 x4 (lN p) (nI i) μ := rfl
    rw [eX, eM]
    unfold q_X7_chance_B43_b q_X8_chance_B45_b
    rw [if_neg (nI_ge (by omega) (by omega)), u1, zb, u2, zb, u3, zb, u5, if_neg (nI_ge (by omega) (by omega)), v1, zb]
    by_cases hk : nI (tFil D (Fs (dT D)) (zDw (x1 + nI i)) (dM D)).1 < x3
    · rw [if_pos hk, if_pos hk, show nI p + (0 : Int32) = nI p from nI_add p 0, show lN p + (0 : Int64) = lN p from lN_add p 0, zl, zl, zl, zl, nI_1]
      exact ih (i + 1) p fuel σ3 μ' D (by omega) (by omega) (by omega) h'
    · rw [if_neg hk, if_neg hk, show nI p + (1 : Int32) = nI (p + 1) from nI_1 p, show lN p + (1 : Int64) = lN (p + 1) from lN_1 p, zl, zl, zl, zl, nI_1]
      exact ih (i + 1) (p + 1) fuel σ3 μ' D (by omega) (by omega) (by omega) h'
theorem zGoL_same (h : zRel θ θm σ μ tc Fs D) {A B : Option (Int64 × sv_S)} {r : Int64} (h1 : A = some (r, σ)) (h2 : B = some (r, μ)) : zGoL θ θm tc Fs A B := ⟨r, σ, μ, D, h1, h2, h⟩
theorem c_chance (h : zRel θ θm σ μ tc Fs D) (a1 a2 a3 a4 : Int32) : zGoL θ θm tc Fs (q_X7_chance θ a1 a2 a3 a4 σ) (q_X8_chance θm a1 a2 a3 a4 μ) := by
  unfold q_X7_chance q_X8_chance
  have i1 : (1 : Int32).toInt = 1 := rfl
  have i20 : (20 : Int32).toInt = 20 := rfl
  have i0 : (0 : Int32).toInt = 0 := rfl
  have i9 : (9999 : Int32).toInt = 9999 := rfl
  have l1 : (1 : Int64).toInt = 1 := rfl
  have l20 : (20 : Int64).toInt = 20 := rfl
  have l0 : (0 : Int64).toInt = 0 := rfl
  have l9 : (9999 : Int64).toInt = 9999 := rfl
  by_cases c1 : a2 < (1 : Int32)
  · rw [if_pos c1, z_inI, zb, z_r01]
    rw [z_lt, i1] at c1
    rw [if_neg (fun q => by rw [l1] at q; omega)]
    exact zGoL_same h rfl rfl
  rw [if_neg c1]
  by_cases c2 : (20 : Int32) < a2
  · rw [if_pos c2, z_inI, zb, z_r01]
    rw [z_lt, i20] at c2
    rw [if_neg (fun q => by rw [l20] at q; omega)]
    exact zGoL_same h rfl rfl
  rw [if_neg c2]
  have e2 : ∃ m, m < 21 ∧ a2 = nI m := z_of (x := a2) (n := 21) (by rw [z_lt, i1] at c1; omega) (by rw [z_lt, i20] at c2; omega)
  obtain ⟨m, hm, rfl⟩ := e2
  have hm1 : 1 ≤ m := by rw [z_lt, i1, z_nI (by omega)] at c1; omega
  rw [z_inI, zb, z_r01, if_pos (show (1 : Int64).toInt ≤ (nI m).toInt ∧ (nI m).toInt ≤ (20 : Int64).toInt by rw [z_nI (by omega), l1, l20]; omega)]
  by_cases c3 : a3 < 0
  · rw [if_pos c3, z_inI, zb, z_r01]
    rw [z_lt, i0] at c3
    rw [if_neg (fun q => by rw [l0] at q; omega)]
    exact zGoL_same h rfl rfl
  rw [if_neg c3]
  by_cases c4 : (9999 : Int32) < a3
  · rw [if_pos c4, z_inI, zb, z_r01]
    rw [z_lt, i9] at c4
    rw [if_neg (fun q => by rw [l9] at q; omega)]
    exact zGoL_same h rfl rfl
  rw [if_neg c4, z_inI, zb, z_r01, if_pos (show (0 : Int64).toInt ≤ a3.toInt ∧ a3.toInt ≤ (9999 : Int64).toInt by rw [z_lt, i0] at c3; rw [z_lt, i9] at c4; rw [l0, l9]; omega)]
  by_cases c5 : a4 < 0
  · rw [if_pos c5, z_inI, zb, z_r01]
    rw [z_lt, i0] at c5
    rw [if_neg (fun q => by rw [l0] at q; omega)]
    exact zGoL_same h rfl rfl
  rw [if_neg c5]
  by_cases c6 : a4 ≤ (1 : Int32)
  · rw [if_pos c6]
    have e4 : ∃ w, w < 2 ∧ a4 = nI w := z_of (x := a4) (n := 2) (by rw [z_lt, i0] at c5; omega) (by rw [z_le, i1] at c6; omega)
    obtain ⟨w, hw, rfl⟩ := e4
    rw [z_inI, zb, z_r01, if_pos (show (0 : Int64).toInt ≤ (nI w).toInt ∧ (nI w).toInt ≤ (1 : Int64).toInt by rw [z_nI (by omega), l0, l1]; omega)]
    have hz := z_chance (θ := θ) (θm := θm) (tc := tc) (Fs := Fs) (a1 := a1) (a2 := nI m) (a3 := a3) (a4 := nI w) (x1 := a1) (x3 := a3) (x4 := nI w) (m := m) ⟨hm1, by omega⟩ m 0 0 (199 - m) σ μ D rfl (by omega) (by omega) h
    rw [show 199 - m + m + 1 = sv_N by unfold sv_N; omega] at hz
    exact hz
  · rw [if_neg c6, z_inI, zb, z_r01]
    rw [z_le, i1] at c6
    rw [if_neg (fun q => by rw [l1] at q; omega)]
    exact zGoL_same h rfl rfl
end CHN

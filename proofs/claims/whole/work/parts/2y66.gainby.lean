/-! ===== the reference's tour in drawn rain ===== -/
section GBY
variable {θ θm : sv_T} {σ μ : sv_S} {tc : Nat} {Fs : Nat → Nat → (Nat → Int32) → Int32} {D : zD}
/-- the market in another rain -/
def dRain (D : zD) (rn : Nat → Nat) : zD := (dM D, rn, dK D, dN D, dS D, dH D, dW D, dT D)
theorem dRain_ok (hD : zDok D) {rn : Nat → Nat} (h : ∀ k, k < 48 → rn k ≤ 9) : zDok (dRain D rn) := ⟨hD.1, h, hD.2.2.1, hD.2.2.2.1, hD.2.2.2.2⟩
theorem tFil_rain {F : Nat → (Nat → Int32) → Int32} {rn rn' : Nat → Nat} : ∀ b, tFil (dRain D rn') F rn b = tFil D F rn b
  | 0 => rfl
  | b + 1 => by
    have ih := tFil_rain (F := F) (rn := rn) (rn' := rn') b
    simp only [tFil]
    rw [ih]
    rfl
theorem m_filLoop {F : Nat → (Nat → Int32) → Int32} {a1 : Int32} (hO : mOk θm μ D F) : ∀ (r b fuel : Nat) (τ : sv_S), dM D - b = r → b ≤ dM D → mFr mTmp μ τ → mT τ (tFil D F (dR D) b) → ∃ τ', q_X8_gainBy_B71 θm a1 (fuel + r + 1) (nI b) τ = q_X8_gainBy_B100 θm a1 sv_N (0 : Int32) τ' ∧ mFr mTmp μ τ' ∧ mT τ' (tFil D F (dR D) (dM D)) := by
  have hM6 := hO.1.1
  have okT : ∀ τ, mFr mTmp μ τ → mOk θm τ D F := fun τ hτ => ⟨hO.1, mMk_fr hO.2.1 hτ (by unfold mTmp; omega) (fun i j h1 h2 => by unfold mTmp; omega), mText_fr hO.2.2 hτ (fun i j h1 h2 => by unfold mTmp; omega)⟩
  -- the row of those not shaken on, as a function
  have exf : ∃ f : Nat → Nat, ∀ b, b < dM D → dH D b = 0 → f (zCt D b) = b := by
    have each : ∀ B, B ≤ dM D → ∃ f : Nat → Nat, ∀ b, b < B → dH D b = 0 → f (zCt D b) = b := by
      intro B
      induction B with
      | zero => intro _; exact ⟨fun _ => 0, fun b hb => by omega⟩
      | succ B ih =>
        intro hB
        obtain ⟨f, hf⟩ := ih (by omega)
        by_cases h : dH D B = 0
        · refine ⟨zup f (zCt D B) B, fun b hb h0 => ?_⟩
          by_cases e : b = B
          · subst e; exact zup_eq
          · have hlt : zCt D b < zCt D B := by
              have mono : ∀ y x, x ≤ y → zCt D x ≤ zCt D y := by
                intro y
                induction y with
                | zero => intro x hx; rw [show x = 0 by omega]; exact Nat.le_refl _
                | succ y ihy =>
                  intro x hx
                  by_cases e2 : x = y + 1
                  · subst e2; exact Nat.le_refl _
                  · have := ihy x (by omega)
                    simp only [zCt]
                    split <;> omega
              have m1 := mono B (b + 1) (by omega)
              have m2 : zCt D (b + 1) = zCt D b + 1 := by simp only [zCt]; rw [if_pos h0]
              omega
            rw [zup_ne (by omega)]
            exact hf b (by omega) h0
        · exact ⟨f, fun b hb h0 => by
            by_cases e : b = B
            · subst e; exact absurd h0 h
            · exact hf b (by omega) h0⟩
    exact each (dM D) (Nat.le_refl _)
  obtain ⟨f, hf⟩ := exf
  intro r
  induction r with
  | zero =>
    intro b fuel τ h1 h2 h3 h4
    have hb : b = dM D := by omega
    subst hb
    refine ⟨τ, ?_, h3, h4⟩
    show q_X8_gainBy_B71_b θm a1 _ (nI (dM D)) τ = _
    unfold q_X8_gainBy_B71_b
    rw [(okT τ h3).2.1.1, if_pos (nI_le (Nat.le_refl _) (by omega))]
  | succ r ih =>
    intro b fuel τ h1 h2 h3 h4
    have hO' := okT τ h3
    obtain ⟨z1, z2, z3⟩ := z_fil (F := F) (rn := dR D) (f := f) hM6 rfl hf b (by omega)
    have hok := (tRun_ok (F := F) (rn := dR D) hM6 (zCt D b) z1)
    rw [z3, z2] at hok
    have eu : q_X8_gainBy_B71 θm a1 (fuel + (r + 1) + 1) (nI b) τ = q_X8_gainBy_B71_b θm a1 (q_X8_gainBy_B71 θm a1 (fuel + (r + 1))) (nI b) τ := rfl
    have hsk := (hO.1.2.2.1 b (by omega)).2.2.2
    by_cases h0 : dH D b = 0
    · have hnew : (tFil D F (dR D) b).2.1.testBit b = false := by
        cases hq : (tFil D F (dR D) b).2.1.testBit b with
        | false => rfl
        | true =>
          have hq2 := hok.2 b hq
          rw [(zUb_lt (D := D) b (by omega)).2 b (Nat.le_refl _) (by omega)] at hq2
          exact absurd hq2 (by decide)
      obtain ⟨τ1, g1, g2, g3⟩ := m_deals (θm := θm) hO' hok.1 h4 (b := b) (by omega) hnew
      have ef : tFil D F (dR D) (b + 1) = tStep D F (dR D) (tFil D F (dR D) b) b := by simp only [tFil]; rw [if_pos h0]
      obtain ⟨τ', e1, e2, e3⟩ := ih (b + 1) fuel τ1 (by omega) (by omega) (mFr_tr h3 g2) (by rw [ef]; exact g3)
      refine ⟨τ', ?_, e2, e3⟩
      rw [eu]
      unfold q_X8_gainBy_B71_b
      rw [hO'.2.1.1, if_neg (nI_ge (by omega) (by omega)), m_isShaken hO.1 hO'.2.1 (by omega), zb, z_r01, if_neg (show ¬ dH D b = 1 by omega), g1, zb, zl, nI_1]
      exact e1
    · have ef : tFil D F (dR D) (b + 1) = tFil D F (dR D) b := by simp only [tFil]; rw [if_neg h0]
      obtain ⟨τ', e1, e2, e3⟩ := ih (b + 1) fuel τ (by omega) (by omega) h3 (by rw [ef]; exact h4)
      refine ⟨τ', ?_, e2, e3⟩
      rw [eu]
      unfold q_X8_gainBy_B71_b
      rw [hO'.2.1.1, if_neg (nI_ge (by omega) (by omega)), m_isShaken hO.1 hO'.2.1 (by omega), zb, z_r01, if_pos (show dH D b = 1 by omega), zl, nI_1]
      exact e1
end GBY

/-! ===== those that aren't shaken on, in a row, gone over ===== -/
section LNU
variable {θ θm : sv_T} {σ μ : sv_S} {tc : Nat} {Fs : Nat → Nat → (Nat → Int32) → Int32} {D : zD}
/-- how many aren't shaken on below b -/
def zCt (D : zD) : Nat → Nat
  | 0 => 0
  | b + 1 => if dH D b = 0 then zCt D b + 1 else zCt D b
theorem zCt_le : ∀ b, zCt D b ≤ b
  | 0 => Nat.le_refl _
  | b + 1 => by
    have := zCt_le b
    simp only [zCt]
    split <;> omega
/-- the tour of all of them in turn -/
def tFil (D : zD) (F : Nat → (Nat → Int32) → Int32) (rn : Nat → Nat) : Nat → zT
  | 0 => (0, 0, 0, 0)
  | b + 1 => if dH D b = 0 then tStep D F rn (tFil D F rn b) b else tFil D F rn b
theorem z_fil {F : Nat → (Nat → Int32) → Int32} {rn f : Nat → Nat} {M : Nat} (hM : M ≤ 6) (hMD : M = dM D) (hf : ∀ b, b < M → dH D b = 0 → f (zCt D b) = b) : ∀ b, b ≤ M → zDis f M (zCt D b) ∧ tBits f (zCt D b) = zUb D b ∧ tRun D F rn f (zCt D b) = tFil D F rn b
  | 0, _ => ⟨fun i hi => by have : i < 0 := hi; omega, rfl, rfl⟩
  | b + 1, hb => by
    obtain ⟨h1, h2, h3⟩ := z_fil (F := F) (rn := rn) hM hMD hf b (by omega)
    by_cases h : dH D b = 0
    · have ec : zCt D (b + 1) = zCt D b + 1 := by simp only [zCt]; rw [if_pos h]
      have hfb := hf b (by omega) h
      rw [ec]
      refine ⟨fun i hi => ?_, ?_, ?_⟩
      · by_cases e : i = zCt D b
        · subst e
          rw [hfb, h2]
          exact ⟨by omega, (zUb_lt (D := D) b (by omega)).2 b (Nat.le_refl _) (by omega)⟩
        · exact h1 i (by omega)
      · show tBits f (zCt D b) ||| 2 ^ f (zCt D b) = zUb D (b + 1)
        rw [hfb, h2]
        simp only [zUb]; rw [if_pos h]
      · show tStep D F rn (tRun D F rn f (zCt D b)) (f (zCt D b)) = tFil D F rn (b + 1)
        rw [hfb, h3]
        simp only [tFil]; rw [if_pos h]
    · have ec : zCt D (b + 1) = zCt D b := by simp only [zCt]; rw [if_neg h]
      rw [ec]
      refine ⟨h1, ?_, ?_⟩
      · rw [h2]; simp only [zUb]; rw [if_neg h]
      · rw [h3]; simp only [tFil]; rw [if_neg h]
theorem x_lineUp (hB : sx_base θ) (hD : zDok D) (hX : xMk σ 1 D) : ∃ σ', q_X3_lineUp θ σ = some (nI (zCt D (dM D)), σ') ∧ xFr (fun i _ => i = 28) σ σ' ∧ ∀ b, b < dM D → dH D b = 0 → σ'.1 28 (zCt D b) = nI b := by
  have l8 : sv_len θ 28 = 6 := sx_L (sx_c28 hB)
  have hM6 := hD.1
  obtain ⟨hub, hub2⟩ := zUb_lt (D := D) (dM D) hM6
  -- how many stand in the row when b has been looked at
  have loop : ∀ (k b fuel : Nat) (τ : sv_S), 6 - b = k → b ≤ 6 → xFr (fun i _ => i = 28) σ τ → (∀ c, c < b → c < dM D → dH D c = 0 → τ.1 28 (zCt D c) = nI c) → ∃ σ', q_X3_lineUp_B18 θ (fuel + k + 1) (nI (zUb D (dM D))) (nI (zCt D (min b (dM D)))) (nI b) τ = some (nI (zCt D (dM D)), σ') ∧ xFr (fun i _ => i = 28) σ σ' ∧ ∀ c, c < dM D → dH D c = 0 → σ'.1 28 (zCt D c) = nI c := by
    intro k
    induction k with
    | zero =>
      intro b fuel τ h1 h2 h3 h4
      refine ⟨τ, ?_, h3, fun c hc h0 => h4 c (by omega) hc h0⟩
      show q_X3_lineUp_B18_b θ _ _ _ (nI b) τ = _
      unfold q_X3_lineUp_B18_b
      rw [if_pos (show (6 : Int32) ≤ nI b from nI_le (a := 6) (by omega) (by omega)), show min b (dM D) = dM D by omega]
    | succ k ih =>
      intro b fuel τ h1 h2 h3 h4
      have eu : q_X3_lineUp_B18 θ (fuel + (k + 1) + 1) (nI (zUb D (dM D))) (nI (zCt D (min b (dM D)))) (nI b) τ = q_X3_lineUp_B18_b θ (q_X3_lineUp_B18 θ (fuel + (k + 1))) (nI (zUb D (dM D))) (nI (zCt D (min b (dM D)))) (nI b) τ := rfl
      rw [eu]
      unfold q_X3_lineUp_B18_b
      rw [if_neg (show ¬ (6 : Int32) ≤ nI b from nI_ge (b := 6) (by omega) (by omega)), x_hasBit hub (by omega), zb, z_r01]
      by_cases hb : (zUb D (dM D)).testBit b = true
      · have hbM : b < dM D := by
          by_cases q : b < dM D
          · exact q
          · rw [hub2 b (by omega) (by omega)] at hb; exact absurd hb (by decide)
        have h0 : dH D b = 0 := (zUb_bit (D := D) (dM D) hM6 b hbM).mp hb
        have ec : zCt D (b + 1) = zCt D b + 1 := by simp only [zCt]; rw [if_pos h0]
        have hcl := zCt_le (D := D) b
        obtain ⟨σ', g1, g2, g3⟩ := ih (b + 1) fuel (sv_sI τ 28 (zCt D b) (nI b)) (by omega) (by omega) (xFr_tr h3 (xFr_I rfl)) (fun c hc hcM hc0 => by
          by_cases e : c = b
          · subst e; exact zI_v
          · have hcb : zCt D c < zCt D b := by
              have mono : ∀ y x, x ≤ y → zCt D x ≤ zCt D y := by
                intro y
                induction y with
                | zero => intro x hx; rw [show x = 0 by omega]; exact Nat.le_refl _
                | succ y ihy =>
                  intro x hx
                  by_cases e2 : x = y + 1
                  · subst e2; exact Nat.le_refl _
                  · have := ihy x (by omega)
                    simp only [zCt]
                    split <;> omega
              have m1 := mono b (c + 1) (by omega)
              have m2 : zCt D (c + 1) = zCt D c + 1 := by simp only [zCt]; rw [if_pos hc0]
              omega
            rw [zI_o (by omega)]
            exact h4 c (by omega) hcM hc0)
        refine ⟨σ', ?_, g2, g3⟩
        rw [if_pos hb, show min b (dM D) = b by omega, z_put (by rw [l8]; omega), l8, zput_nI (by omega) (by omega), zb, zl, zl, nI_1, nI_1]
        rw [show min (b + 1) (dM D) = b + 1 by omega, ec] at g1
        exact g1
      · obtain ⟨σ', g1, g2, g3⟩ := ih (b + 1) fuel τ (by omega) (by omega) h3 (fun c hc hcM hc0 => by
          by_cases e : c = b
          · subst e; exact absurd ((zUb_bit (D := D) (dM D) hM6 c hcM).mpr hc0) hb
          · exact h4 c (by omega) hcM hc0)
        refine ⟨σ', ?_, g2, g3⟩
        have emin : zCt D (min (b + 1) (dM D)) = zCt D (min b (dM D)) := by
          by_cases q : b < dM D
          · have h0 : ¬ dH D b = 0 := fun z => hb ((zUb_bit (D := D) (dM D) hM6 b q).mpr z)
            rw [show min (b + 1) (dM D) = b + 1 by omega, show min b (dM D) = b by omega]
            simp only [zCt]; rw [if_neg h0]
          · rw [show min (b + 1) (dM D) = min b (dM D) by omega]
        rw [emin] at g1
        rw [if_neg hb, zl, nI_1]
        exact g1
  obtain ⟨σ', g1, g2, g3⟩ := loop 6 0 193 σ (by omega) (by omega) xFr_rf (fun c hc => by omega)
  refine ⟨σ', ?_, g2, g3⟩
  unfold q_X3_lineUp
  rw [x_unshaken hB hD hX, zb]
  rw [show min 0 (dM D) = 0 by omega] at g1
  exact g1
/-- the class's tour in drawn rain -/
theorem x_drawn (hB : sx_base θ) (hD : zDok D) {F : Nat → (Nat → Int32) → Int32} (hX : xMk σ 1 D) (hF : xText θ σ (dT D) F) {seed : Int32} : ∃ σ1 σ2 σ3, q_X3_draw θ seed σ = some ((), σ1) ∧ q_X3_lineUp θ σ1 = some (nI (zCt D (dM D)), σ2) ∧ q_X3_run θ 28 (nI (zCt D (dM D))) σ2 = some ((), σ3) ∧ xFr zTmp σ σ3 ∧ σ3.1 24 3 = nI (tFil D F (zDw seed) (dM D)).1 := by
  have l8 : sv_len θ 28 = 6 := sx_L (sx_c28 hB)
  have hM6 := hD.1
  obtain ⟨σ1, a1, a2, a3⟩ := x_draw (θ := θ) (σ := σ) hB (seed := seed)
  have hX1 : xMk σ1 1 D := xMk_fr hX a2 (fun i j h1 h2 => by omega)
  obtain ⟨σ2, b1, b2, b3⟩ := x_lineUp (θ := θ) hB hD hX1
  have f2 : xFr (fun i _ => i = 27 ∨ i = 28) σ σ2 := xFr_tr (xFr_w a2 (fun i j q => Or.inl q)) (xFr_w b2 (fun i j q => Or.inr q))
  have hX2 : xMk σ2 1 D := xMk_fr hX f2 (fun i j h1 h2 => by omega)
  have hF2 := xText_fr hF f2 (fun i j h1 h2 => by omega)
  have hR2 : xRn θ σ2 27 (zDw seed) := xRn_fr a3 b2 (fun j => by omega)
  have hf : ∀ b, b < dM D → dH D b = 0 → (fun i => (σ2.1 28 i).toInt.toNat) (zCt D b) = b := fun b hb h0 => by
    show (σ2.1 28 (zCt D b)).toInt.toNat = b
    rw [b3 b hb h0, z_nI (by omega)]; rfl
  obtain ⟨d1, d2, d3⟩ := z_fil (F := F) (rn := zDw seed) (f := fun i => (σ2.1 28 i).toInt.toNat) hM6 rfl hf (dM D) (Nat.le_refl _)
  have hct := zCt_le (D := D) (dM D)
  -- each place of the row holds one of them
  have each : ∀ b, b ≤ dM D → ∀ i, i < zCt D b → ∃ c, c < b ∧ dH D c = 0 ∧ zCt D c = i := by
    intro b
    induction b with
    | zero => intro _ i hi; have : i < 0 := hi; omega
    | succ b ih =>
      intro hb i hi
      simp only [zCt] at hi
      by_cases h : dH D b = 0
      · rw [if_pos h] at hi
        by_cases e : i = zCt D b
        · exact ⟨b, by omega, h, e.symm⟩
        · obtain ⟨c, c1, c2, c3⟩ := ih (by omega) i (by omega)
          exact ⟨c, by omega, c2, c3⟩
      · rw [if_neg h] at hi
        obtain ⟨c, c1, c2, c3⟩ := ih (by omega) i hi
        exact ⟨c, by omega, c2, c3⟩
  obtain ⟨σ3, c1, c2, c3⟩ := x_run (θ := θ) hB hD (b2 := 28) (n := zCt D (dM D)) (L := 6) (f := fun i => (σ2.1 28 i).toInt.toNat) hX2 hR2 hF2 l8 ⟨by omega, by omega⟩ ⟨by omega, by omega, by omega, by omega⟩ (fun i hi => by
    obtain ⟨c, q1, q2, q3⟩ := each (dM D) (Nat.le_refl _) i hi
    rw [← q3, b3 c q1 q2]
    rw [z_nI (by omega)]; rfl) d1
  refine ⟨σ1, σ2, σ3, a1, b1, c1, xFr_tr (xFr_w f2 (fun i j q => by unfold zTmp; omega)) (xFr_w c2 zPl_tmp), ?_⟩
  rw [c3.1, d3]
end LNU

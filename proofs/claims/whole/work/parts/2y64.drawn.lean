/-! ===== rain that is drawn, those that aren't shaken on, in a row ===== -/
section DRW
variable {θ θm : sv_T} {σ μ : sv_S} {tc : Nat} {Fs : Nat → Nat → (Nat → Int32) → Int32} {D : zD}
def zMz (seed : Int32) : Nat → Int32
  | 0 => seed
  | k + 1 => zMz seed k * 1103515245 + 12345
def zMu (seed : Int32) (k : Nat) : Nat := (zMz seed (k + 1)).toBitVec.toNat / 512 % 10
def zDw (seed : Int32) (k : Nat) : Nat := if zMu seed k < 4 then 0 else zMu seed k
theorem zMu_lt {seed : Int32} {k : Nat} : zMu seed k < 10 := Nat.mod_lt _ (by omega)
theorem zDw_le {seed : Int32} {k : Nat} : zDw seed k ≤ 9 := by
  have := zMu_lt (seed := seed) (k := k)
  unfold zDw
  split <;> omega
theorem z_ush (z : Int32) : (z.toUInt32 >>> ((9 : Int32).toUInt32 &&& Int32.toUInt32 31)).toInt32 = nI (z.toBitVec.toNat / 512) := by
  have hz : z.toBitVec.toNat < 2 ^ 32 := z.toBitVec.isLt
  apply Int32.toBitVec_inj.mp
  apply BitVec.eq_of_toNat_eq
  rw [pk_ushr z 9 9 (by decide), pk_tn (Nat.lt_of_le_of_lt (Nat.div_le_self _ _) hz)]
theorem z_much (seed : Int32) (k : Nat) : ((zMz seed (k + 1)).toUInt32 >>> ((9 : Int32).toUInt32 &&& Int32.toUInt32 31)).toInt32 - ((zMz seed (k + 1)).toUInt32 >>> ((9 : Int32).toUInt32 &&& Int32.toUInt32 31)).toInt32 / (10 : Int32) * (10 : Int32) = nI (zMu seed k) := by
  have hz : (zMz seed (k + 1)).toBitVec.toNat < 2 ^ 32 := (zMz seed (k + 1)).toBitVec.isLt
  rw [z_ush, show (10 : Int32) = nI 10 from rfl, pk_rem (by omega) (by omega) (by omega)]
  rfl
theorem x_draw (hB : sx_base θ) {seed : Int32} : ∃ σ', q_X3_draw θ seed σ = some ((), σ') ∧ xFr (fun i _ => i = 27) σ σ' ∧ xRn θ σ' 27 (zDw seed) := by
  have l7 : sv_len θ 27 = 48 := sx_L (sx_c27 hB)
  have loop : ∀ (k i fuel : Nat) (τ : sv_S), 48 - i = k → i ≤ 48 → xFr (fun i _ => i = 27) σ τ → (∀ j, j < i → τ.1 27 j = nI (zDw seed j)) → ∃ σ', q_X3_draw_B4 θ seed (fuel + k + 1) (zMz seed i) (nI i) τ = some ((), σ') ∧ xFr (fun i _ => i = 27) σ σ' ∧ ∀ j, j < 48 → σ'.1 27 j = nI (zDw seed j) := by
    intro k
    induction k with
    | zero =>
      intro i fuel τ h1 h2 h3 h4
      refine ⟨τ, ?_, h3, fun j hj => h4 j (by omega)⟩
      show q_X3_draw_B4_b θ seed _ (zMz seed i) (nI i) τ = _
      unfold q_X3_draw_B4_b
      rw [if_pos (show (48 : Int32) ≤ nI i from nI_le (a := 48) (by omega) (by omega))]
    | succ k ih =>
      intro i fuel τ h1 h2 h3 h4
      obtain ⟨σ', g1, g2, g3⟩ := ih (i + 1) fuel (sv_sI τ 27 i (nI (zDw seed i))) (by omega) (by omega) (xFr_tr h3 (xFr_I rfl)) (fun j hj => by
        by_cases e : j = i
        · subst e; exact zI_v
        · rw [zI_o (by omega)]; exact h4 j (by omega))
      refine ⟨σ', ?_, g2, g3⟩
      have hz : zMz seed i * (1103515245 : Int32) + (12345 : Int32) = zMz seed (i + 1) := rfl
      have hmu := zMu_lt (seed := seed) (k := i)
      show q_X3_draw_B4_b θ seed (q_X3_draw_B4 θ seed (fuel + (k + 1))) (zMz seed i) (nI i) τ = _
      unfold q_X3_draw_B4_b
      rw [if_neg (show ¬ (48 : Int32) ≤ nI i from nI_ge (b := 48) (by omega) (by omega)), hz, zl, z_much, zl]
      by_cases h4' : 4 ≤ zMu seed i
      · have e : zDw seed i = zMu seed i := by unfold zDw; rw [if_neg (by omega)]
        rw [if_pos (show (4 : Int32) ≤ nI (zMu seed i) from nI_le (a := 4) h4' (by omega)), if_neg (z_bd (n := i) (L := 48) (by omega) (by omega)), nI_clamp (n := i) (by omega), zl, zl, nI_1, ← e]
        exact g1
      · have e : zDw seed i = 0 := by unfold zDw; rw [if_pos (by omega)]
        rw [if_neg (show ¬ (4 : Int32) ≤ nI (zMu seed i) from nI_ge (b := 4) (by omega) (by omega)), if_neg (z_bd (n := i) (L := 48) (by omega) (by omega)), nI_clamp (n := i) (by omega), zl, zl, nI_1]
        rw [e] at g1
        exact g1
  obtain ⟨σ', g1, g2, g3⟩ := loop 48 0 151 σ (by omega) (by omega) xFr_rf (fun j hj => by omega)
  exact ⟨σ', g1, g2, l7, fun k hk => ⟨g3 k hk, zDw_le⟩⟩
/-- those that aren't shaken on, below b (bits) -/
def zUb (D : zD) : Nat → Nat
  | 0 => 0
  | b + 1 => if dH D b = 0 then zUb D b ||| 2 ^ b else zUb D b
theorem zUb_lt : ∀ b, b ≤ 6 → zUb D b < 64 ∧ ∀ c, b ≤ c → c < 6 → (zUb D b).testBit c = false
  | 0, _ => ⟨by show 0 < 64; omega, fun c _ _ => by simp [zUb]⟩
  | b + 1, hb => by
    obtain ⟨h1, h2⟩ := zUb_lt b (by omega)
    simp only [zUb]
    by_cases h : dH D b = 0
    · rw [if_pos h]
      refine ⟨(z_orb _ h1 b (by omega)).2, fun c hc hc6 => ?_⟩
      rw [Nat.testBit_or, h2 c (by omega) hc6, Nat.testBit_two_pow_of_ne (by omega)]
      rfl
    · rw [if_neg h]
      exact ⟨h1, fun c hc hc6 => h2 c (by omega) hc6⟩
theorem zUb_bit : ∀ b, b ≤ 6 → ∀ c, c < b → ((zUb D b).testBit c = true ↔ dH D c = 0)
  | 0, _, c, hc => by omega
  | b + 1, hb, c, hc => by
    simp only [zUb]
    by_cases e : c = b
    · subst e
      by_cases h : dH D c = 0
      · rw [if_pos h, Nat.testBit_or, Nat.testBit_two_pow_self, Bool.or_true]
        exact ⟨fun _ => h, fun _ => rfl⟩
      · rw [if_neg h, (zUb_lt (D := D) c (by omega)).2 c (Nat.le_refl _) (by omega)]
        exact ⟨fun q => absurd q (by decide), fun q => absurd q h⟩
    · by_cases h : dH D b = 0
      · rw [if_pos h, Nat.testBit_or, Nat.testBit_two_pow_of_ne (by omega), Bool.or_false]
        exact zUb_bit b (by omega) c (by omega)
      · rw [if_neg h]; exact zUb_bit b (by omega) c (by omega)
theorem x_unshaken (hB : sx_base θ) (hD : zDok D) (hX : xMk σ 1 D) : q_X2_unshaken θ σ = some (nI (zUb D (dM D)), σ) := by
  have l6 : sv_len θ 6 = 6 := sx_L (sx_c6 hB)
  have hM6 := hD.1
  have run : ∀ (r b fuel : Nat), dM D - b = r → b ≤ dM D → q_X2_unshaken_B4 θ (fuel + r + 1) (nI (zUb D b)) (nI b) σ = some (nI (zUb D (dM D)), σ) := by
    intro r
    induction r with
    | zero =>
      intro b fuel h1 h2
      show q_X2_unshaken_B4_b θ _ (nI (zUb D b)) (nI b) σ = _
      unfold q_X2_unshaken_B4_b
      rw [hX.1, if_pos (nI_le (by omega) (by omega)), show b = dM D by omega]
    | succ r ih =>
      intro b fuel h1 h2
      have hsk := (hD.2.2.1 b (by omega)).2.2.2
      have e : σ.1 6 b = nI (dH D b) := (hX.2.2.1 b (by omega)).2.2.2
      have ih' := ih (b + 1) fuel (by omega) (by omega)
      have hlt := (zUb_lt (D := D) b (by omega)).1
      show q_X2_unshaken_B4_b θ (q_X2_unshaken_B4 θ (fuel + (r + 1))) (nI (zUb D b)) (nI b) σ = _
      unfold q_X2_unshaken_B4_b
      rw [hX.1, if_neg (nI_ge (by omega) (by omega)), z_at (by rw [l6]; omega), zb, l6, zat_nI (by omega) (by omega), e]
      by_cases h : dH D b = 0
      · have eu : zUb D (b + 1) = zUb D b ||| 2 ^ b := by simp only [zUb]; rw [if_pos h]
        rw [if_pos (show nI (dH D b) = 0 by rw [h]; rfl), (z_orb _ hlt b (by omega)).1, zl, zl, nI_1, ← eu]
        exact ih'
      · have eu : zUb D (b + 1) = zUb D b := by simp only [zUb]; rw [if_neg h]
        rw [if_neg (show ¬ nI (dH D b) = 0 from fun q => h (by rw [show (0 : Int32) = nI 0 from rfl, nI_eq (by omega) (by omega)] at q; exact q)), z_or0, zl, zl, nI_1, ← eu]
        exact ih'
  have := run (dM D) 0 (199 - dM D) (by omega) (by omega)
  rw [show 199 - dM D + dM D + 1 = sv_N by unfold sv_N; omega] at this
  exact this
theorem m_openSet (hD : zDok D) (hM : mMk μ D) : q_X8_openSet θm μ = some (nI (zUb D (dM D)), μ) := by
  have hM6 := hD.1
  have run : ∀ (r b fuel : Nat), dM D - b = r → b ≤ dM D → q_X8_openSet_B4 θm (fuel + r + 1) (nI (zUb D b)) (nI b) μ = some (nI (zUb D (dM D)), μ) := by
    intro r
    induction r with
    | zero =>
      intro b fuel h1 h2
      show q_X8_openSet_B4_b θm _ (nI (zUb D b)) (nI b) μ = _
      unfold q_X8_openSet_B4_b
      rw [hM.1, if_pos (nI_le (by omega) (by omega)), show b = dM D by omega]
    | succ r ih =>
      intro b fuel h1 h2
      have hsk := (hD.2.2.1 b (by omega)).2.2.2
      have ih' := ih (b + 1) fuel (by omega) (by omega)
      have hlt := (zUb_lt (D := D) b (by omega)).1
      show q_X8_openSet_B4_b θm (q_X8_openSet_B4 θm (fuel + (r + 1))) (nI (zUb D b)) (nI b) μ = _
      unfold q_X8_openSet_B4_b
      rw [hM.1, if_neg (nI_ge (by omega) (by omega)), m_isShaken hD hM (by omega), zb, z_r01]
      by_cases h : dH D b = 0
      · have eu : zUb D (b + 1) = zUb D b ||| 2 ^ b := by simp only [zUb]; rw [if_pos h]
        rw [if_neg (show ¬ dH D b = 1 by omega), (z_orb _ hlt b (by omega)).1, zl, zl, nI_1, ← eu]
        exact ih'
      · have eu : zUb D (b + 1) = zUb D b := by simp only [zUb]; rw [if_neg h]
        rw [if_pos (show dH D b = 1 by omega), z_shl0, z_or0, zl, zl, nI_1, ← eu]
        exact ih'
  have := run (dM D) 0 (199 - dM D) (by omega) (by omega)
  rw [show 199 - dM D + dM D + 1 = sv_N by unfold sv_N; omega] at this
  exact this
end DRW

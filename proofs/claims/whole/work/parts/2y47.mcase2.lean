/-! ===== the reference's needs, takes, worth, holds, shakes ===== -/
section MC2
variable {θm : sv_T} {D : zD} {F : Nat → (Nat → Int32) → Int32}
/-- what a call of the reference rests on -/
def mOk (θm : sv_T) (μ : sv_S) (D : zD) (F : Nat → (Nat → Int32) → Int32) : Prop := zDok D ∧ mMk μ D ∧ mText θm μ (dT D) F
theorem mOk_ev {μ μ' : sv_S} (h : mOk θm μ D F) (hf : mFr mEv μ μ') : mOk θm μ' D F := ⟨h.1, mMk_ev h.2.1 hf, mText_ev h.2.2 hf⟩
theorem m_K {μ : sv_S} {b : Nat} (h : mOk θm μ D F) (hb : b < dM D) : μ.1 5 b = nI (dK D b) ∧ μ.1 6 (3 * b) = nI (dN D b) ∧ dK D b < 6 ∧ dN D b ≤ 9 ∧ b < 6 := by
  have h6 := h.1.1
  obtain ⟨q1, q2, q3, q4⟩ := h.1.2.2.1 b hb
  obtain ⟨a1, a2, a3, a4⟩ := h.2.1.2.2.1 b hb
  exact ⟨a1, a2, q1, q2, by omega⟩
theorem cNm_2 {γ : zC} {rn : Nat → Nat} {h : Nat} : cNm γ rn h 2 = γ.2.2.1 := rfl
theorem cNm_1 {γ : zC} {rn : Nat → Nat} {h : Nat} : cNm γ rn h 1 = nI h := rfl
theorem kI {k : Nat} (hk : k < 6) (c : Nat) (hc : c < 6) : (nI k = nI c) ↔ k = c := nI_eq (by omega) (by omega)
theorem m_needsOf {μ : sv_S} {b h d : Nat} (hO : mOk θm μ D F) (hb : b < dM D) (hh : h < 24) : ∃ μ', q_X8_needsOf θm (nI b) (nI h) (nI d) μ = some (vNeed (dC D F b d) (dR D) h, μ') ∧ mFr mEv μ μ' := by
  obtain ⟨k1, k2, k3, k4, k5⟩ := m_K hO hb
  obtain ⟨μ', s1, s2⟩ := m_says (w := 0) (d := d) hO.1 hO.2.1 hO.2.2 hb hh (by omega)
  have n6 : μ'.1 6 (3 * b) = nI (dN D b) := by rw [s2.2 _ _ (by unfold mEv; omega)]; exact k2
  have ev : vNeed (dC D F b d) (dR D) h = zbd (wN (nI (dK D b)) (zbd (F 0 (cNm (dC D F b d) (dR D) h)) 0 9) (nI (dN D b))) 1 9 := rfl
  unfold q_X8_needsOf
  rw [if_neg (z_bd k5 (by omega)), nI_clamp (by omega), k1, zl, ev]
  unfold wN
  by_cases h5 : nI (dK D b) = 5
  · refine ⟨μ, ?_, mFr_rf⟩
    rw [if_pos h5, h5]
    rfl
  · rw [if_neg h5]
    have s1' : q_X8_says θm (0 : Int32) (nI b) (nI h) (nI d) μ = some (zbd (F 0 (cNm (dC D F b d) (dR D) h)) 0 9, μ') := s1
    refine ⟨μ', ?_, s2⟩
    rw [s1', zb]
    by_cases h1 : nI (dK D b) = 1
    · rw [if_pos h1, if_pos h1, z_within (by decide), zb]
    · rw [if_neg h1, if_neg h1]
      by_cases h3 : nI (dK D b) = 3
      · rw [if_pos h3, z_within (by decide), zb, h3, if_neg (show ¬ (3 : Int32) = 2 by decide), if_pos (show (3 : Int32) = 3 from rfl)]
      · rw [if_neg h3]
        by_cases h2 : nI (dK D b) = 2
        · rw [if_pos h2, if_pos h2, z_within (by decide), zb]
        · rw [if_neg h2, if_neg h2, if_neg h3]
          by_cases h4 : nI (dK D b) = 4
          · rw [if_pos h4, if_pos h4, z_3b, if_neg (z_bd (by omega) (by omega)), nI_clamp (by omega), n6, z_within (by decide), zb]
          · rw [if_neg h4, if_neg h4, if_neg h5, z_within (by decide), zb]
theorem m_takesOf {μ : sv_S} {b h d : Nat} (hO : mOk θm μ D F) (hb : b < dM D) (hh : h < 24) : ∃ μ', q_X8_takesOf θm (nI b) (nI h) (nI d) μ = some (vTake (dC D F b d) (dR D) h, μ') ∧ mFr mEv μ μ' := by
  obtain ⟨k1, k2, k3, k4, k5⟩ := m_K hO hb
  obtain ⟨μ', s1, s2⟩ := m_says (w := 1) (d := d) hO.1 hO.2.1 hO.2.2 hb hh (by omega)
  have n6 : μ'.1 6 (3 * b) = nI (dN D b) := by rw [s2.2 _ _ (by unfold mEv; omega)]; exact k2
  have ev : vTake (dC D F b d) (dR D) h = zbd (wT (nI (dK D b)) (zbd (F 1 (cNm (dC D F b d) (dR D) h)) 0 24) (nI (dN D b))) 1 24 := rfl
  unfold q_X8_takesOf
  rw [if_neg (z_bd k5 (by omega)), nI_clamp (by omega), k1, zl, ev]
  unfold wT
  by_cases h5 : nI (dK D b) = 5
  · refine ⟨μ, ?_, mFr_rf⟩
    rw [if_pos h5, h5]
    rfl
  · rw [if_neg h5]
    have s1' : q_X8_says θm (1 : Int32) (nI b) (nI h) (nI d) μ = some (zbd (F 1 (cNm (dC D F b d) (dR D) h)) 0 24, μ') := s1
    refine ⟨μ', ?_, s2⟩
    rw [s1', zb]
    by_cases h1 : nI (dK D b) = 1
    · rw [if_pos h1, if_pos h1, z_within (by decide), zb]
    · rw [if_neg h1, if_neg h1]
      by_cases h3 : nI (dK D b) = 3
      · rw [if_pos h3, z_3b, if_neg (z_bd (by omega) (by omega)), nI_clamp (by omega), n6, z_within (by decide), zb, h3, if_neg (show ¬ (3 : Int32) = 2 by decide), if_pos (show (3 : Int32) = 3 from rfl)]
      · rw [if_neg h3]
        by_cases h2 : nI (dK D b) = 2
        · rw [if_pos h2, if_pos h2, z_within (by decide), zb, Int32.mul_comm]
        · rw [if_neg h2, if_neg h2, if_neg h3]
          by_cases h4 : nI (dK D b) = 4
          · rw [if_pos h4, if_pos h4, z_within (by decide), zb, Int32.mul_comm]
          · rw [if_neg h4, if_neg h4, if_neg h5, z_within (by decide), zb]
theorem m_worthOf {μ : sv_S} {b h d : Nat} (hO : mOk θm μ D F) (hb : b < dM D) (hh : h < 24) : ∃ μ', q_X8_worthOf θm (nI b) (nI h) (nI d) μ = some (vWor (dC D F b d) (dR D) h, μ') ∧ mFr mEv μ μ' := by
  obtain ⟨k1, k2, k3, k4, k5⟩ := m_K hO hb
  obtain ⟨μ', s1, s2⟩ := m_says (w := 2) (d := d) hO.1 hO.2.1 hO.2.2 hb hh (by omega)
  have ev : vWor (dC D F b d) (dR D) h = zbd (wW (nI (dK D b)) (zbd (F 2 (cNm (dC D F b d) (dR D) h)) 0 99) (nI (dN D b)) (nI h)) 0 999 := rfl
  unfold q_X8_worthOf
  rw [if_neg (z_bd k5 (by omega)), nI_clamp (by omega), k1, zl, ev]
  unfold wW
  by_cases h5 : nI (dK D b) = 5
  · refine ⟨μ, ?_, mFr_rf⟩
    rw [if_pos h5, h5, if_neg (show ¬ (5 : Int32) = 2 by decide), if_neg (show ¬ (5 : Int32) = 3 by decide), if_neg (show ¬ (5 : Int32) = 4 by decide), if_pos (show (5 : Int32) = 5 from rfl)]
    by_cases h3 : (3 : Int32) ≤ nI h
    · rw [if_pos h3, if_pos h3]; rfl
    · rw [if_neg h3, if_neg h3, z_3b, if_neg (z_bd (by omega) (by omega)), nI_clamp (by omega), k2]
      unfold zbd
      rw [if_pos (show (0 : Int32) ≤ nI (dN D b) from nI_pos' (by omega)), if_pos (show nI (dN D b) ≤ (999 : Int32) from nI_le (b := 999) (by omega) (by omega))]
  · rw [if_neg h5]
    have s1' : q_X8_says θm (2 : Int32) (nI b) (nI h) (nI d) μ = some (zbd (F 2 (cNm (dC D F b d) (dR D) h)) 0 99, μ') := s1
    refine ⟨μ', ?_, s2⟩
    rw [s1', zb]
    by_cases h2 : nI (dK D b) = 2
    · rw [if_pos h2, if_pos h2, z_within (by decide), zb]
    · rw [if_neg h2, if_neg h2]
      by_cases h3 : nI (dK D b) = 3
      · rw [if_pos h3, if_pos h3, z_within (by decide), zb, Int32.mul_comm]
      · rw [if_neg h3, if_neg h3]
        by_cases h4 : nI (dK D b) = 4
        · rw [if_pos h4, if_pos h4]
          by_cases h12 : h ≤ 11
          · rw [if_pos (show nI h ≤ (11 : Int32) from nI_le (b := 11) h12 (by omega)), if_pos (show nI h < (12 : Int32) from nI_lt (b := 12) (by omega) (by omega)), z_within (by decide), zb]
          · rw [if_neg (show ¬ nI h ≤ (11 : Int32) from nI_ge (a := 11) (by omega) (by omega)), if_neg (show ¬ nI h < (12 : Int32) from nI_nlt (b := 12) (by omega) (by omega)), z_within (by decide), zb, Int32.mul_comm]
        · rw [if_neg h4, if_neg h4, if_neg h5, z_within (by decide), zb]
theorem m_holds_run {b e nd : Nat} {a1 a2 a3 : Int32} {μ : sv_S} (hO : mOk θm μ D F) (hb : b < dM D) (he : e < 24) (hnd : nd ≤ 9) : ∀ (r x fuel : Nat), e + 1 - x = r → x ≤ e + 1 →
    ((∀ y, x ≤ y → y ≤ e → nd ≤ dR D (24 * dS D b + y)) ∧ q_X8_holds_B34 θm a1 a2 a3 (fuel + r + 1) (nI b) (nI nd) (nI e) (nI x) μ = some (1, μ)) ∨
    (¬ (∀ y, x ≤ y → y ≤ e → nd ≤ dR D (24 * dS D b + y)) ∧ q_X8_holds_B34 θm a1 a2 a3 (fuel + r + 1) (nI b) (nI nd) (nI e) (nI x) μ = some (0, μ)) := by
  intro r
  induction r with
  | zero =>
    intro x fuel h1 h2
    refine Or.inl ⟨fun y h3 h4 => by omega, ?_⟩
    show q_X8_holds_B34_b θm a1 a2 a3 _ (nI b) (nI nd) (nI e) (nI x) μ = _
    unfold q_X8_holds_B34_b
    rw [if_pos (nI_lt (by omega) (by omega))]
  | succ r ih =>
    intro x fuel h1 h2
    have hst := (hO.1.2.2.1 b hb).2.2.1
    have hrx := hO.1.2.1 (24 * dS D b + x) (by omega)
    have e1 : q_X8_holds_B34 θm a1 a2 a3 (fuel + (r + 1) + 1) (nI b) (nI nd) (nI e) (nI x) μ = if nI nd ≤ nI (dR D (24 * dS D b + x)) then q_X8_holds_B34 θm a1 a2 a3 (fuel + r + 1) (nI b) (nI nd) (nI e) (nI (x + 1)) μ else some (0, μ) := by
      show q_X8_holds_B34_b θm a1 a2 a3 (q_X8_holds_B34 θm a1 a2 a3 (fuel + (r + 1))) (nI b) (nI nd) (nI e) (nI x) μ = _
      unfold q_X8_holds_B34_b
      rw [if_neg (nI_nlt (by omega) (by omega)), m_rainOf hO.1 hO.2.1 hb (by omega), zb, zl, nI_1]
      rfl
    rw [e1]
    by_cases hq : nd ≤ dR D (24 * dS D b + x)
    · rw [if_pos (nI_le hq (by omega))]
      rcases ih (x + 1) fuel (by omega) (by omega) with ⟨g1, g2⟩ | ⟨g1, g2⟩
      · refine Or.inl ⟨fun y h3 h4 => ?_, g2⟩
        by_cases hy : y = x
        · subst hy; exact hq
        · exact g1 y (by omega) h4
      · exact Or.inr ⟨fun q => g1 (fun y h3 h4 => q y (by omega) h4), g2⟩
    · rw [if_neg (nI_ge (by omega) (by omega))]
      exact Or.inr ⟨fun q => hq (q x (Nat.le_refl _) (by omega)), rfl⟩
theorem m_holds {μ : sv_S} {b h d : Nat} (hO : mOk θm μ D F) (hb : b < dM D) (hh : h < 24) : ∃ μ', q_X8_holds θm (nI b) (nI h) (nI d) μ = some (if zHo (dC D F b d) (dR D) h = true then 1 else 0, μ') ∧ mFr mEv μ μ' := by
  obtain ⟨n1, n2, n3⟩ := nNeed_ok (dC D F b d) (dR D) h
  obtain ⟨t1, t2, t3⟩ := nTake_ok (dC D F b d) (dR D) h
  obtain ⟨μ1, a1, a2⟩ := m_needsOf (d := d) hO hb hh
  obtain ⟨μ2, b1, b2⟩ := m_takesOf (d := d) (mOk_ev hO a2) hb hh
  have hO2 := mOk_ev (mOk_ev hO a2) b2
  refine ⟨μ2, ?_, mFr_tr a2 b2⟩
  have es : dC D F b d = dC D F b d := rfl
  have e : nI h + nI (nTake (dC D F b d) (dR D) h) - 1 = nI (h + nTake (dC D F b d) (dR D) h - 1) := by rw [nI_add, show h + nTake (dC D F b d) (dR D) h = (h + nTake (dC D F b d) (dR D) h - 1) + 1 by omega, nI_pred]; rfl
  unfold q_X8_holds
  rw [a1, zb, b1, zb, n1, t1, e, zl]
  by_cases h24 : h + nTake (dC D F b d) (dR D) h ≤ 24
  · rw [if_pos (show nI (h + nTake (dC D F b d) (dR D) h - 1) < (24 : Int32) from nI_lt (b := 24) (by omega) (by omega))]
    have hz := m_holds_run (a1 := nI b) (a2 := nI h) (a3 := nI d) hO2 hb (e := h + nTake (dC D F b d) (dR D) h - 1) (by omega) n3 (nTake (dC D F b d) (dR D) h) h (199 - nTake (dC D F b d) (dR D) h) (by omega) (by omega)
    rw [show 199 - nTake (dC D F b d) (dR D) h + nTake (dC D F b d) (dR D) h + 1 = sv_N by unfold sv_N; omega] at hz
    rcases hz with ⟨g1, g2⟩ | ⟨g1, g2⟩
    · rw [g2, if_pos (zHo_iff.mpr ⟨h24, fun y h1 h2 => g1 y h1 (by omega)⟩)]
    · rw [g2, if_neg (fun q => g1 (fun y h1 h2 => (zHo_iff.mp q).2 y h1 (by omega)))]
  · rw [if_neg (show ¬ nI (h + nTake (dC D F b d) (dR D) h - 1) < (24 : Int32) from nI_nlt (a := h + nTake (dC D F b d) (dR D) h - 1) (b := 24) (by omega) (by omega)), if_neg (fun q => h24 (zHo_iff.mp q).1)]
theorem m_shf {b d : Nat} {a1 a2 a3 : Int32} (hb : b < dM D) : ∀ (f h fuel : Nat) (μ : sv_S), 24 - h = f → h ≤ 24 → mOk θm μ D F → ∃ μ', q_X8_shakes_B3 θm a1 a2 a3 (fuel + f + 1) (nI b) (nI d) (nI h) μ = some (zO (zShf (dC D F b d) (dR D) f h), μ') ∧ mFr mEv μ μ' := by
  intro f
  induction f with
  | zero =>
    intro h fuel μ h1 h2 hO
    refine ⟨μ, ?_, mFr_rf⟩
    show q_X8_shakes_B3_b θm a1 a2 a3 _ (nI b) (nI d) (nI h) μ = _
    unfold q_X8_shakes_B3_b
    rw [if_pos (show (24 : Int32) ≤ nI h from nI_le (a := 24) (by omega) (by omega))]
    rfl
  | succ f ih =>
    intro h fuel μ h1 h2 hO
    obtain ⟨μ1, c1, c2⟩ := m_holds (d := d) hO hb (h := h) (by omega)
    have e : q_X8_shakes_B3 θm a1 a2 a3 (fuel + (f + 1) + 1) (nI b) (nI d) (nI h) μ = q_X8_shakes_B3_b θm a1 a2 a3 (q_X8_shakes_B3 θm a1 a2 a3 (fuel + (f + 1))) (nI b) (nI d) (nI h) μ := rfl
    rw [e]
    unfold q_X8_shakes_B3_b
    rw [if_neg (show ¬ (24 : Int32) ≤ nI h from nI_ge (b := 24) (by omega) (by omega)), c1, zb, z_r01]
    by_cases hq : zHo (dC D F b d) (dR D) h = true
    · obtain ⟨t1, t2, t3⟩ := nTake_ok (dC D F b d) (dR D) h
      obtain ⟨μ2, d1, d2⟩ := m_takesOf (d := d) (mOk_ev hO c2) hb (h := h) (by omega)
      refine ⟨μ2, ?_, mFr_tr c2 d2⟩
      have hl : zLast (dC D F b d) (dR D) h = some (h + nTake (dC D F b d) (dR D) h - 1) := by unfold zLast; rw [if_pos hq]
      have e2 : nI h + nI (nTake (dC D F b d) (dR D) h) - 1 = nI (h + nTake (dC D F b d) (dR D) h - 1) := by rw [nI_add, show h + nTake (dC D F b d) (dR D) h = (h + nTake (dC D F b d) (dR D) h - 1) + 1 by omega, nI_pred]; rfl
      rw [if_pos hq, d1, zb, t1, e2]
      simp only [zShf, hl]
      rfl
    · obtain ⟨μ2, d1, d2⟩ := ih (h + 1) fuel μ1 (by omega) (by omega) (mOk_ev hO c2)
      refine ⟨μ2, ?_, mFr_tr c2 d2⟩
      have hl : zLast (dC D F b d) (dR D) h = none := by unfold zLast; rw [if_neg hq]
      rw [if_neg hq, zl, nI_1]
      simp only [zShf, hl]
      exact d1
theorem m_shakes {μ : sv_S} {b h d : Nat} (hO : mOk θm μ D F) (hb : b < dM D) (hh : h ≤ 24) : ∃ μ', q_X8_shakes θm (nI b) (nI h) (nI d) μ = some (zO (zSh (dC D F b d) (dR D) h), μ') ∧ mFr mEv μ μ' := by
  obtain ⟨μ', h1, h2⟩ := m_shf (a1 := nI b) (a2 := nI h) (a3 := nI d) hb (24 - h) h (199 - (24 - h)) μ rfl hh hO
  rw [show 199 - (24 - h) + (24 - h) + 1 = sv_N by unfold sv_N; omega] at h1
  exact ⟨μ', h1, h2⟩
end MC2

/-! ===== calls: best, few ===== -/
section BST
variable {θ θm : sv_T} {σ μ : sv_S} {tc : Nat} {Fs : Nat → Nat → (Nat → Int32) → Int32} {D : zD} {F : Nat → (Nat → Int32) → Int32} {rn : Nat → Nat}
theorem kOk_L (hD : zDok D) {n : Nat} (hn : n ≤ 6) : kOk (dL D) n (dL D) 0 0 0 0 := kOk_top (dL_lt hD) (fun b _ q => q) (Nat.le_refl _) hn
theorem kOk_rm (hD : zDok D) {b : Nat} (hb : b < 6) (hbit : (dL D).testBit b = true) : kOk (dL D) 6 (zRm (dL D) b) 0 0 0 0 := by
  have h := dL_lt hD
  have := z_rmPc (dL D) h b hb hbit
  exact kOk_top (z_rm (dL D) h b hb).2 (fun q hq q2 => z_rmBit (dL D) h b hb q hq q2) (by omega) (Nat.le_refl _)
theorem zWk_pp : ∀ i j, zWk i j → zPp i j := fun i j q => by unfold zWk at q; unfold zPp; omega
/-- the first one without which as much is gained -/
def kLv (D : zD) (F : Nat → (Nat → Int32) → Int32) (rn : Nat → Nat) (most : Nat) : Nat → Nat → Int32
  | 0, _ => -1
  | f + 1, b => if (dL D).testBit b = true ∧ most ≤ (kV D F rn 6 (zRm (dL D) b)).1 then nI b else kLv D F rn most f (b + 1)
theorem kLv_none {most : Nat} : ∀ f b, (∀ b', b ≤ b' → b' < b + f → (dL D).testBit b' = false) → kLv D F rn most f b = -1
  | 0, b, _ => rfl
  | f + 1, b, h => by
    simp only [kLv]
    rw [if_neg (fun q => by rw [h b (Nat.le_refl _) (by omega)] at q; exact absurd q.1 (by decide))]
    exact kLv_none f (b + 1) (fun b' h1 h2 => h b' (by omega) (by omega))
theorem kLv_stop (hD : zDok D) {most : Nat} : ∀ k b, dM D - b = k → b ≤ dM D → kLv D F rn most (6 - b) b = kLv D F rn most k b := by
  have hM6 := hD.1
  intro k
  induction k with
  | zero =>
    intro b h1 h2
    show _ = (-1 : Int32)
    refine kLv_none _ _ (fun b' q1 q2 => ?_)
    cases hq : (dL D).testBit b' with
    | false => rfl
    | true =>
      have := ((dL_bit hD (show b' < 6 by omega)).mp hq).1
      omega
  | succ k ih =>
    intro b h1 h2
    rw [show 6 - b = (6 - (b + 1)) + 1 by omega]
    simp only [kLv]
    rw [ih (b + 1) (by omega) (by omega)]
theorem x_leave (hB : sx_base θ) (hD : zDok D) {most : Nat} {a1 : Int32} (hmost : most < 2147483648) : ∀ (k b fuel : Nat) (σ : sv_S), 6 - b = k → b ≤ 6 → xRy θ σ D F rn → ∃ σ', q_X3_leave_B2 θ a1 (fuel + k + 1) (nI most) (nI b) σ = some (kLv D F rn most k b, σ') ∧ xFr zWk σ σ' := by
  intro k
  induction k with
  | zero =>
    intro b fuel σ h1 h2 h3
    refine ⟨σ, ?_, xFr_rf⟩
    show q_X3_leave_B2_b θ a1 _ (nI most) (nI b) σ = _
    unfold q_X3_leave_B2_b
    rw [if_pos (show (6 : Int32) ≤ nI b from nI_le (a := 6) (by omega) (by omega))]
    rfl
  | succ k ih =>
    intro b fuel σ h1 h2 h3
    have eu : q_X3_leave_B2 θ a1 (fuel + (k + 1) + 1) (nI most) (nI b) σ = q_X3_leave_B2_b θ a1 (q_X3_leave_B2 θ a1 (fuel + (k + 1))) (nI most) (nI b) σ := rfl
    have hL := dL_lt hD
    rw [eu]
    unfold q_X3_leave_B2_b
    simp only [kLv]
    rw [if_neg (show ¬ (6 : Int32) ≤ nI b from nI_ge (b := 6) (by omega) (by omega)), h3.1.2.2.2.1, x_hasBit hL (by omega), zb, z_r01]
    by_cases hbit : (dL D).testBit b = true
    · obtain ⟨σ1, g1, g2, g3⟩ := x_seek (θ := θ) hB hD h3 (Nat.le_refl 6) (kOk_rm hD (show b < 6 by omega) hbit)
      have hs := g3.2.2.1
      have g1' : q_X3_seek θ (nI (zRm (dL D) b)) (6 : Int32) σ = some (nI (kV D F rn 6 (zRm (dL D) b)).1, σ1) := g1
      rw [if_pos hbit, h3.1.2.2.2.1, (z_rm (dL D) hL b (by omega)).1, g1', zb]
      by_cases hm : most ≤ (kV D F rn 6 (zRm (dL D) b)).1
      · refine ⟨σ1, ?_, g2⟩
        rw [if_neg (nI_nlt hm (by omega)), if_pos ⟨hbit, hm⟩]
      · obtain ⟨σ', e1, e2⟩ := ih (b + 1) fuel σ1 (by omega) (by omega) (xRy_wk h3 g2)
        refine ⟨σ', ?_, xFr_tr g2 e2⟩
        rw [if_pos (nI_lt (by omega) (by omega)), if_neg (fun q => hm q.2), zl, nI_1]
        exact e1
    · obtain ⟨σ', e1, e2⟩ := ih (b + 1) fuel σ (by omega) (by omega) h3
      refine ⟨σ', ?_, e2⟩
      rw [if_neg hbit, if_neg (fun q => hbit q.1), zl, nI_1]
      exact e1
theorem m_leaves {most : Nat} (hmost : most < 2147483648) : ∀ (k b fuel : Nat) (μ : sv_S), dM D - b = k → b ≤ dM D → mOk θm μ D F → ∃ μ', q_X8_leaves_B13 θm (fuel + k + 1) (nI most) (nI b) μ = some (kLv D F (dR D) most k b, μ') ∧ mFr mTmp μ μ' := by
  intro k
  induction k with
  | zero =>
    intro b fuel μ h1 h2 h3
    have hM6 := h3.1.1
    refine ⟨μ, ?_, mFr_rf⟩
    show q_X8_leaves_B13_b θm _ (nI most) (nI b) μ = _
    unfold q_X8_leaves_B13_b
    rw [h3.2.1.1, if_pos (nI_le (by omega) (by omega))]
    rfl
  | succ k ih =>
    intro b fuel μ h1 h2 h3
    have hD := h3.1
    have hM6 := hD.1
    have hsk := (hD.2.2.1 b (by omega)).2.2.2
    have eu : q_X8_leaves_B13 θm (fuel + (k + 1) + 1) (nI most) (nI b) μ = q_X8_leaves_B13_b θm (q_X8_leaves_B13 θm (fuel + (k + 1))) (nI most) (nI b) μ := rfl
    have hL := dL_lt hD
    rw [eu]
    unfold q_X8_leaves_B13_b
    simp only [kLv]
    rw [h3.2.1.1, if_neg (nI_ge (by omega) (by omega)), m_isShaken hD h3.2.1 (by omega), zb, z_r01]
    by_cases h0 : dH D b = 0
    · have hbit : (dL D).testBit b = true := (dL_bit hD (by omega)).mpr ⟨by omega, h0⟩
      obtain ⟨μ1, g1, g2, g3⟩ := m_bestOf (θm := θm) h3 (Nat.le_refl 6) (kOk_rm hD (show b < 6 by omega) hbit)
      have hs := g3.2.2.1
      have g1' : q_X8_bestOf θm (nI (zRm (dL D) b)) (6 : Int32) μ = some (nI (kV D F (dR D) 6 (zRm (dL D) b)).1, μ1) := g1
      rw [if_neg (show ¬ dH D b = 1 by omega), m_openSet (θm := θm) hD h3.2.1, zb, (z_rm (dL D) hL b (by omega)).1, g1', zb]
      by_cases hm : most ≤ (kV D F (dR D) 6 (zRm (dL D) b)).1
      · refine ⟨μ1, ?_, g2⟩
        rw [if_neg (nI_nlt hm (by omega)), if_pos ⟨hbit, hm⟩]
      · obtain ⟨μ', e1, e2⟩ := ih (b + 1) fuel μ1 (by omega) (by omega) (mOk_tmp h3 g2)
        refine ⟨μ', ?_, mFr_tr g2 e2⟩
        rw [if_pos (nI_lt (by omega) (by omega)), if_neg (fun q => hm q.2), zl, nI_1]
        exact e1
    · have hbit : ¬ (dL D).testBit b = true := fun q => h0 ((dL_bit hD (show b < 6 by omega)).mp q).2
      obtain ⟨μ', e1, e2⟩ := ih (b + 1) fuel μ (by omega) (by omega) h3
      refine ⟨μ', ?_, e2⟩
      rw [if_pos (show dH D b = 1 by omega), if_neg (fun q => hbit q.1), zl, nI_1]
      exact e1
theorem c_best (h : zRel θ θm σ μ tc Fs D) (a1 : Int32) : zGo θ θm tc Fs (q_X7_best θ a1 σ) (q_X8_best θm a1 μ) := by
  obtain ⟨hD, hT, hX, hM⟩ := h.2.2.2.1
  have hM6 := hD.1
  have hO := zRel_ok h
  unfold q_X7_best q_X8_best
  rcases pk_ix a1 (n := 4) (by omega) with q | q | ⟨w, hw, rfl⟩
  · rw [if_pos q, m_inN q, zb, if_pos p00]; exact zGo_same h rfl rfl
  · have h2 : ¬ a1 ≤ (3 : Int32) := fun z => by rw [z_le, show (3 : Int32).toInt = 3 from rfl] at z; rw [z_le, z_nI (by omega)] at q; omega
    rw [if_neg (z_pos (by omega) q), if_neg h2, m_inO q (by omega) (show (3 : Int64).toInt < (4 : Nat) by decide), zb, if_pos p00]; exact zGo_same h rfl rfl
  rw [if_neg (nI_pos (by omega)), if_pos (show nI w ≤ (3 : Int32) from nI_le (b := 3) (by omega) (by omega)), m_inY (c := 3) (show (w : Int) ≤ 3 by omega) (by omega), zb, if_neg n10]
  obtain ⟨σ1, u1, u2, u3⟩ := x_prepare (θ := θ) h.1 hD hX (zRel_t h)
  obtain ⟨σ2, v1, v2, v3⟩ := x_seek (θ := θ) h.1 hD u3 (Nat.le_refl 6) (kOk_L hD (Nat.le_refl 6))
  obtain ⟨μ1, w1, w2, w3⟩ := m_bestOf (θm := θm) hO (Nat.le_refl 6) (kOk_L hD (Nat.le_refl 6))
  have v1' : q_X3_seek θ (nI (dL D)) (6 : Int32) σ1 = some (nI (kV D (Fs (dT D)) (dR D) 6 (dL D)).1, σ2) := v1
  have w1' : q_X8_bestOf θm (nI (dL D)) (6 : Int32) μ = some (nI (kV D (Fs (dT D)) (dR D) 6 (dL D)).1, μ1) := w1
  have fX : xFr zTmp σ σ2 := xFr_w (xFr_tr u2 (xFr_w v2 zWk_pp)) zPp_tmp
  rw [u1, zb, u3.1.2.2.2.1, v1', zb]
  have w4 : w = 0 ∨ w = 2 ∨ w = 1 ∨ w = 3 := by omega
  rcases w4 with rfl | rfl | w4
  · rw [if_pos (show nI 0 = 0 from rfl), if_neg (show ¬ nI 0 = (2 : Int32) by decide), m_openSet (θm := θm) hD hM, zb, w1', zb, if_pos (show nI 0 = 0 from rfl), v3.2.1, w3.2.1]
    exact zGo_tmp h rfl rfl fX w2
  · obtain ⟨σ3, x1, x2⟩ := x_leave (θ := θ) (a1 := nI (kV D (Fs (dT D)) (dR D) 6 (dL D)).1) h.1 hD (most := (kV D (Fs (dT D)) (dR D) 6 (dL D)).1) (by have := v3.2.2.1; omega) 6 0 193 σ2 (by omega) (by omega) (xRy_wk u3 v2)
    obtain ⟨μ3, y1, y2⟩ := m_leaves (θm := θm) (most := (kV D (Fs (dT D)) (dR D) 6 (dL D)).1) (by have := v3.2.2.1; omega) (dM D) 0 (199 - dM D) μ1 (by omega) (by omega) (mOk_tmp hO w2)
    rw [show 199 - dM D + dM D + 1 = sv_N by unfold sv_N; omega, ← kLv_stop hD (dM D) 0 (by omega) (by omega)] at y1
    have x1' : q_X3_leave θ (nI (kV D (Fs (dT D)) (dR D) 6 (dL D)).1) σ2 = some (kLv D (Fs (dT D)) (dR D) (kV D (Fs (dT D)) (dR D) 6 (dL D)).1 6 0, σ3) := x1
    have y1' : q_X8_leaves_B13 θm sv_N (nI (kV D (Fs (dT D)) (dR D) 6 (dL D)).1) (0 : Int32) μ1 = some (kLv D (Fs (dT D)) (dR D) (kV D (Fs (dT D)) (dR D) 6 (dL D)).1 6 0, μ3) := y1
    rw [if_neg (show ¬ nI 2 = 0 by decide), if_pos (show nI 2 = 2 from rfl), x1', zb, if_pos (show nI 2 = (2 : Int32) from rfl)]
    unfold q_X8_leaves
    rw [m_openSet (θm := θm) hD hM, zb, w1', zb, y1', zb]
    exact zGo_tmp h rfl rfl (xFr_tr fX (xFr_w x2 (fun i j q => zPp_tmp i j (zWk_pp i j q)))) (mFr_tr w2 y2)
  · have n0 : ¬ nI w = 0 := nI_ne0 (by omega) (by omega)
    have n2 : ¬ nI w = 2 := fun q => by
      rw [show (2 : Int32) = nI 2 from rfl, nI_eq (by omega) (by omega)] at q
      omega
    rw [if_neg n0, if_neg n2, if_neg n2, m_openSet (θm := θm) hD hM, zb, w1', zb, if_neg n0]
    exact zGo_tmp h rfl rfl fX w2
theorem c_few (h : zRel θ θm σ μ tc Fs D) (a1 : Int32) : zGo θ θm tc Fs (q_X7_few θ a1 σ) (q_X8_few θm a1 μ) := by
  obtain ⟨hD, hT, hX, hM⟩ := h.2.2.2.1
  have hM6 := hD.1
  have hO := zRel_ok h
  unfold q_X7_few q_X8_few
  rcases pk_ix a1 (n := 7) (by omega) with q | q | ⟨w, hw, rfl⟩
  · rw [if_pos q, m_inN q, zb, if_pos p00]; exact zGo_same h rfl rfl
  · have h2 : ¬ a1 ≤ (6 : Int32) := fun z => by rw [z_le, show (6 : Int32).toInt = 6 from rfl] at z; rw [z_le, z_nI (by omega)] at q; omega
    rw [if_neg (z_pos (by omega) q), if_neg h2, m_inO q (by omega) (show (6 : Int64).toInt < (7 : Nat) by decide), zb, if_pos p00]; exact zGo_same h rfl rfl
  rw [if_neg (nI_pos (by omega)), if_pos (show nI w ≤ (6 : Int32) from nI_le (b := 6) (by omega) (by omega)), m_inY (c := 6) (show (w : Int) ≤ 6 by omega) (by omega), zb, if_neg n10]
  obtain ⟨σ1, u1, u2, u3⟩ := x_prepare (θ := θ) h.1 hD hX (zRel_t h)
  obtain ⟨σ2, v1, v2, v3⟩ := x_seek (θ := θ) h.1 hD u3 (show w ≤ 6 by omega) (kOk_L hD (by omega))
  obtain ⟨μ1, w1, w2, w3⟩ := m_bestOf (θm := θm) hO (show w ≤ 6 by omega) (kOk_L hD (by omega))
  rw [u1, zb, u3.1.2.2.2.1, v1, zb, m_openSet (θm := θm) hD hM, zb, w1, zb]
  exact zGo_tmp h rfl rfl (xFr_w (xFr_tr u2 (xFr_w v2 zWk_pp)) zPp_tmp) w2
end BST

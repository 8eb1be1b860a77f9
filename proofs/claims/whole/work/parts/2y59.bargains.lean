/-! ===== calls: bargains ===== -/
section BGS
variable {θ θm : sv_T} {σ μ : sv_S} {tc : Nat} {Fs : Nat → Nat → (Nat → Int32) → Int32} {D : zD}
def zRd1 (σ μ : sv_S) (s q n : Nat) : Prop := σ.1 (34 + 2 * s) 1 = nI q ∧ σ.1 (34 + 2 * s) 2 = nI n ∧ μ.1 10 s = 1 ∧ μ.1 11 s = nI q ∧ μ.1 12 s = nI n ∧ ∀ i, i < n → σ.1 (34 + 2 * s + 1) i = μ.1 13 (40 * s + i)
theorem zRd1_fr {σ' μ' : sv_S} {s q n : Nat} (h : zRd1 σ μ s q n) (hs : s < 4) (hn : n ≤ 40) (hf : xFr zMc σ σ') (hg : mFr mMc μ μ') : zRd1 σ' μ' s q n := by
  obtain ⟨b1, b2, b3, b4, b5, b6⟩ := h
  have e1 : ∀ j, σ'.1 (34 + 2 * s) j = σ.1 (34 + 2 * s) j := fun j => (hf.2 _ _ (by unfold zMc zTmp zSk; omega)).1
  have e2 : ∀ j, σ'.1 (34 + 2 * s + 1) j = σ.1 (34 + 2 * s + 1) j := fun j => (hf.2 _ _ (by unfold zMc zTmp zSk; omega)).1
  have e3 : ∀ i j, 10 ≤ i → i ≤ 13 → μ'.1 i j = μ.1 i j := fun i j q1 q2 => hg.2 _ _ (by unfold mMc mTmp; omega)
  exact ⟨by rw [e1]; exact b1, by rw [e1]; exact b2, by rw [e3 _ _ (by omega) (by omega)]; exact b3, by rw [e3 _ _ (by omega) (by omega)]; exact b4, by rw [e3 _ _ (by omega) (by omega)]; exact b5, fun i hi => by rw [e2, e3 _ _ (by omega) (by omega)]; exact b6 i hi⟩
theorem x_readI (hB : sx_base θ) {s i : Nat} (hs : s < 4) (hi : i < 40) : q_X5_read θ (34 + 2 * s) (nI i) σ = some (σ.1 (34 + 2 * s + 1) i, σ) := by
  have hL := x_rowL hB hs
  unfold q_X5_read
  rw [z_at (by rw [hL]; omega), zb, hL, zat_nI hi (by omega)]
theorem z_bgs (hB : sx_base θ) {s q n N : Nat} {a1 a2 a3 a4 b1 b2 b3 b4 : Int32} (hs : s < 4) (hn : n ≤ 40) (hN : N ≤ 6) : ∀ (r k came fuel : Nat) (σ μ : sv_S) (D : zD), N - k = r → k ≤ N → came ≤ k → zRel θ θm σ μ tc Fs D → zRd1 σ μ s q n → (k = 0 ∨ ∃ f, a3 = nI f ∧ f + 3 * k ≤ n) →
    zGo θ θm tc Fs (q_X7_bargains_B66 θ b1 b2 b3 b4 (fuel + r + 1) a3 (nI N) (34 + 2 * s) (nI came) (nI k) σ) (q_X8_bargains_B75 θm a1 a2 b3 a4 (fuel + r + 1) (nI s) a3 (nI N) (nI came) (nI k) μ) := by
  intro r
  induction r with
  | zero =>
    intro k came fuel σ μ D h1 h2 hcm h hr hk
    refine zGo_same h (r := nI came) ?_ ?_
    · show q_X7_bargains_B66_b θ b1 b2 b3 b4 _ a3 (nI N) (34 + 2 * s) (nI came) (nI k) σ = _
      unfold q_X7_bargains_B66_b
      rw [if_pos (nI_le (by omega) (by omega))]
    · show q_X8_bargains_B75_b θm a1 a2 b3 a4 _ (nI s) a3 (nI N) (nI came) (nI k) μ = _
      unfold q_X8_bargains_B75_b
      rw [if_pos (nI_le (by omega) (by omega))]
  | succ r ih =>
    intro k came fuel σ μ D h1 h2 hcm h hr hk
    have eX : q_X7_bargains_B66 θ b1 b2 b3 b4 (fuel + (r + 1) + 1) a3 (nI N) (34 + 2 * s) (nI came) (nI k) σ = q_X7_bargains_B66_b θ b1 b2 b3 b4 (q_X7_bargains_B66 θ b1 b2 b3 b4 (fuel + (r + 1))) a3 (nI N) (34 + 2 * s) (nI came) (nI k) σ := rfl
    have eM : q_X8_bargains_B75 θm a1 a2 b3 a4 (fuel + (r + 1) + 1) (nI s) a3 (nI N) (nI came) (nI k) μ = q_X8_bargains_B75_b θm a1 a2 b3 a4 (q_X8_bargains_B75 θm a1 a2 b3 a4 (fuel + (r + 1))) (nI s) a3 (nI N) (nI came) (nI k) μ := rfl
    obtain ⟨r1, r2, r3, r4, r5, r6⟩ := id hr
    have f3 : (3 : Int32).toInt = 3 := rfl
    have f0 : (0 : Int32).toInt = 0 := rfl
    have e3k : (3 : Int32) * nI k = nI (3 * k) := z_3b k
    have esz : (nI n - nI (3 * k) - 3).toInt = (n : Int) - 3 * k - 3 := by
      have en := z_nI (n := n) (by omega)
      have ek := z_nI (n := 3 * k) (by omega)
      have es1 : (nI n - nI (3 * k)).toInt = (n : Int) - 3 * k := by rw [z_sub (by rw [en, ek]; omega) (by rw [en, ek]; omega), en, ek]; omega
      rw [z_sub (by rw [es1, f3]; omega) (by rw [es1, f3]; omega), es1, f3]
    rw [eX, eM]
    unfold q_X7_bargains_B66_b q_X8_bargains_B75_b
    rw [if_neg (nI_ge (by omega) (by omega)), if_neg (nI_ge (by omega) (by omega)), zl, x_spans r2 hn, zb, z_r01, f3, if_neg (z_bd hs (by omega)), nI_clamp (n := s) (by omega), r5, e3k]
    -- where the row is left
    by_cases hneg : a3 < 0
    · have hk0 : k = 0 := by
        rcases hk with q | ⟨f, hf, hle⟩
        · exact q
        · rw [hf] at hneg; exact absurd hneg (nI_pos (by omega))
      subst hk0
      rw [if_pos hneg]
      rw [z_lt, f0] at hneg
      rw [show a3 + nI (3 * 0) = a3 from Int32.add_zero a3, if_neg (show ¬ (0 ≤ a3.toInt ∧ (0 : Int) ≤ 3 ∧ a3.toInt + 3 ≤ n) by omega)]
      exact zGo_same h rfl rfl
    rw [if_neg hneg]
    obtain ⟨f, hf, rfl⟩ := z_nat hneg
    have hfk : k = 0 ∨ f + 3 * k ≤ n := by
      rcases hk with q | ⟨f', hf', hle⟩
      · exact Or.inl q
      · by_cases hc : f' < 2147483648
        · have := (nI_eq hf hc).mp hf'; subst this; exact Or.inr hle
        · omega
    have ef := z_nI hf
    by_cases hroom : f + 3 * k + 3 ≤ n
    rotate_left
    · have hc : ¬ nI f ≤ nI n - nI (3 * k) - 3 := by rw [z_le, ef, esz]; omega
      rw [if_neg hc]
      have hsp : ¬ (0 ≤ (nI f + nI (3 * k)).toInt ∧ (0 : Int) ≤ 3 ∧ (nI f + nI (3 * k)).toInt + 3 ≤ n) := by
        rcases hfk with q | q
        · subst q
          rw [show nI f + nI (3 * 0) = nI f from Int32.add_zero _, ef]; omega
        · rw [nI_add, z_nI (by omega)]; omega
      rw [if_neg hsp]
      exact zGo_same h rfl rfl
    have hc : nI f ≤ nI n - nI (3 * k) - 3 := by rw [z_le, ef, esz]; omega
    have ev : nI f + nI (3 * k) = nI (f + 3 * k) := nI_add _ _
    have ev1 : nI (f + 3 * k) + 1 = nI (f + 3 * k + 1) := nI_1 _
    have ev2 : nI (f + 3 * k) + 2 = nI (f + 3 * k + 2) := by rw [show (2 : Int32) = nI 2 from rfl, nI_add]
    have em : (40 : Int32) * nI s + nI f + nI (3 * k) = nI (40 * s + (f + 3 * k)) := by rw [z_40, nI_add, Nat.add_assoc]
    have em1 : nI (40 * s + (f + 3 * k)) + 1 = nI (40 * s + (f + 3 * k + 1)) := by rw [nI_1]; rfl
    have em2 : nI (40 * s + (f + 3 * k)) + 2 = nI (40 * s + (f + 3 * k + 2)) := by rw [show (2 : Int32) = nI 2 from rfl, nI_add]; rfl
    rw [if_pos hc, ev, if_pos (show 0 ≤ (nI (f + 3 * k)).toInt ∧ (0 : Int) ≤ 3 ∧ (nI (f + 3 * k)).toInt + 3 ≤ n by rw [z_nI (by omega)]; omega), x_readI hB hs (by omega), zb, ev1, x_readI hB hs (by omega), zb, ev2, x_readI hB hs (by omega), zb, em, zl, em1, em2, if_neg (z_bd (n := 40 * s + (f + 3 * k)) (L := 160) (by omega) (by omega)), if_neg (z_bd (n := 40 * s + (f + 3 * k + 1)) (L := 160) (by omega) (by omega)), if_neg (z_bd (n := 40 * s + (f + 3 * k + 2)) (L := 160) (by omega) (by omega)), nI_clamp (n := 40 * s + (f + 3 * k)) (by omega), nI_clamp (n := 40 * s + (f + 3 * k + 1)) (by omega), nI_clamp (n := 40 * s + (f + 3 * k + 2)) (by omega), r6 _ (by omega), r6 _ (by omega), r6 _ (by omega)]
    obtain ⟨rr, σ', μ', D', g1, g2, g3, g4, g5⟩ := c_bargainF h (μ.1 13 (40 * s + (f + 3 * k))) (μ.1 13 (40 * s + (f + 3 * k + 1))) (μ.1 13 (40 * s + (f + 3 * k + 2)))
    have hr' := zRd1_fr hr hs hn g4 g5
    rw [g1, zb, g2, zb]
    have o1 : N - (k + 1) = r := by clear hk; omega
    have o2 : k + 1 ≤ N := by clear hk; omega
    have o3 : came ≤ k + 1 := by omega
    have o4 : came + 1 ≤ k + 1 := by omega
    have hk' : k + 1 = 0 ∨ ∃ f', nI f = nI f' ∧ f' + 3 * (k + 1) ≤ n := Or.inr ⟨f, rfl, by omega⟩
    by_cases hneg2 : rr < 0
    · rw [if_pos hneg2, if_pos hneg2, zl, zl, zl, nI_1, show nI came + 0 = nI came from Int32.add_zero _]
      exact ih (k + 1) came fuel σ' μ' D' o1 o2 o3 g3 hr' hk'
    · rw [if_neg hneg2, if_neg hneg2, zl, zl, zl, zl, nI_1, nI_1]
      exact ih (k + 1) (came + 1) fuel σ' μ' D' o1 o2 o4 g3 hr' hk'
theorem c_bargains (h : zRel θ θm σ μ tc Fs D) (a1 a2 a3 a4 : Int32) : zGo θ θm tc Fs (q_X7_bargains θ a1 a2 a3 a4 σ) (q_X8_bargains θm a1 a2 a3 a4 μ) := by
  have hB := h.1
  unfold q_X7_bargains q_X8_bargains
  rcases z_sheet a1 with q | ⟨s, hs, rfl⟩
  · rw [x_rowAtN q, zb, zon, m_shN q, zb, if_pos p00]
    exact zGo_same h rfl rfl
  rw [x_rowAtY h hs, zb, zos, if_pos (x_row hB hs), m_shY hs, zb, if_neg n10]
  rcases pk_ix a2 (n := 3) (by omega) with q | q | ⟨w, hw, rfl⟩
  · rw [if_pos q, m_inN q, zb, if_pos p00]
    exact zGo_same h rfl rfl
  · have h2 : (2 : Int32) < a2 := by rw [z_lt, show (2 : Int32).toInt = 2 from rfl]; rw [z_le, z_nI (by omega)] at q; omega
    rw [if_neg (z_pos (by omega) q), if_pos h2, m_inO q (by omega) (show (2 : Int64).toInt < (3 : Nat) by decide), zb, if_pos p00]
    exact zGo_same h rfl rfl
  rw [if_neg (nI_pos (by omega)), if_neg (show ¬ (2 : Int32) < nI w from nI_nlt (a := 2) (by omega) (by omega)), m_inY (c := 2) (show (w : Int) ≤ 2 by omega) (by omega), zb, if_neg n10]
  rcases pk_ix a4 (n := 7) (by omega) with q | q | ⟨N, hN, rfl⟩
  · rw [if_pos q, m_inN q, zb, if_pos p00]
    exact zGo_same h rfl rfl
  · have h2 : ¬ a4 ≤ (6 : Int32) := fun z => by rw [z_le, show (6 : Int32).toInt = 6 from rfl] at z; rw [z_le, z_nI (by omega)] at q; omega
    rw [if_neg (z_pos (by omega) q), if_neg h2, m_inO q (by omega) (show (6 : Int64).toInt < (7 : Nat) by decide), zb, if_pos p00]
    exact zGo_same h rfl rfl
  rw [if_neg (nI_pos (by omega)), if_pos (show nI N ≤ (6 : Int32) from nI_le (b := 6) (by omega) (by omega)), m_inY (c := 6) (show (N : Int) ≤ 6 by omega) (by omega), zb, if_neg n10, if_neg (z_bd hs (by omega)), nI_clamp (n := s) (by omega)]
  obtain ⟨-, hr⟩ := h.2.2.2.2.2.2 s hs
  rcases hr with ⟨r1, r2⟩ | ⟨q, n, r1, r2, r3, r4, r5, r6, r7, r8⟩
  · rw [r1, if_pos (show (-1 : Int32) = -1 from rfl), r2, if_pos p00, if_neg (z_bn hs (by omega)), if_pos p00]
    exact zGo_same h rfl rfl
  rw [r3, if_neg (zO_ne (v := q) (by omega)), r5, if_neg n10, if_neg (z_bn hs (by omega)), r6]
  by_cases hqw : nI q = nI w
  · rw [if_pos hqw, if_pos hqw, if_neg (z_bn hs (by omega)), if_neg n10]
    have := z_bgs (θ := θ) (θm := θm) (a1 := nI s) (a2 := nI w) (a3 := a3) (a4 := nI N) (b1 := nI s) (b2 := nI w) (b3 := a3) (b4 := nI N) hB hs (q := q) r2 (N := N) (by omega) N 0 0 (199 - N) σ μ D (by omega) (by omega) (by omega) h ⟨r3, r4, r5, r6, r7, r8⟩ (Or.inl rfl)
    rw [show 199 - N + N + 1 = sv_N by unfold sv_N; omega] at this
    exact this
  · rw [if_neg hqw, if_neg hqw]
    exact zGo_same h rfl rfl
end BGS

/-! ===== calls: bargain, feed, force ===== -/
section CA4
variable {θ θm : sv_T} {σ μ : sv_S} {tc : Nat} {Fs : Nat → Nat → (Nat → Int32) → Int32} {D : zD}
/-- a bargain more -/
def dAdd (D : zD) (k n s : Nat) : zD := (dM D + 1, dR D, zup (dK D) (dM D) k, zup (dN D) (dM D) n, zup (dS D) (dM D) s, zup (dH D) (dM D) 0, dW D, dT D)
/-- alike, and nothing but the market is touched -/
def zGoF (θ θm : sv_T) (tc : Nat) (Fs : Nat → Nat → (Nat → Int32) → Int32) (σ μ : sv_S) (A B : Option (Int32 × sv_S)) : Prop := ∃ r σ' μ' D', A = some (r, σ') ∧ B = some (r, μ') ∧ zRel θ θm σ' μ' tc Fs D' ∧ xFr zMc σ σ' ∧ mFr mMc μ μ'
theorem zGoF_same (h : zRel θ θm σ μ tc Fs D) {A B : Option (Int32 × sv_S)} {r : Int32} (h1 : A = some (r, σ)) (h2 : B = some (r, μ)) : zGoF θ θm tc Fs σ μ A B := ⟨r, σ, μ, D, h1, h2, h, xFr_rf, mFr_rf⟩
theorem c_bargainF (h : zRel θ θm σ μ tc Fs D) (a1 a2 a3 : Int32) : zGoF θ θm tc Fs σ μ (q_X7_bargain θ a1 a2 a3 σ) (q_X8_bargain θm a1 a2 a3 μ) := by
  have hB := h.1
  obtain ⟨hD, hT, hX, hM⟩ := h.2.2.2.1
  have hM6 := hD.1
  have l3 : sv_len θ 3 = 6 := sx_L (sx_c3 hB)
  have l4 : sv_len θ 4 = 6 := sx_L (sx_c4 hB)
  have l5 : sv_len θ 5 = 6 := sx_L (sx_c5 hB)
  have l6 : sv_len θ 6 = 6 := sx_L (sx_c6 hB)
  unfold q_X7_bargain q_X8_bargain
  rcases pk_ix a1 (n := 6) (by omega) with q | q | ⟨k, hk, rfl⟩
  · rw [if_pos q, m_inN q, zb, if_pos p00]
    exact zGoF_same h rfl rfl
  · rw [if_neg (z_pos (by omega) q), if_pos (show (6 : Int32) ≤ a1 from q), m_inO q (by omega) (show (5 : Int64).toInt < (6 : Nat) by decide), zb, if_pos p00]
    exact zGoF_same h rfl rfl
  rw [if_neg (nI_pos (by omega)), if_neg (show ¬ (6 : Int32) ≤ nI k from nI_ge (b := 6) hk (by omega)), m_inY (c := 5) (show (k : Int) ≤ 5 by omega) (by omega), zb, if_neg n10]
  rcases pk_ix a2 (n := 10) (by omega) with q | q | ⟨n, hn, rfl⟩
  · rw [if_pos q, m_inN q, zb, if_pos p00]
    exact zGoF_same h rfl rfl
  · rw [if_neg (z_pos (by omega) q), if_pos (show (10 : Int32) ≤ a2 from q), m_inO q (by omega) (show (9 : Int64).toInt < (10 : Nat) by decide), zb, if_pos p00]
    exact zGoF_same h rfl rfl
  rw [if_neg (nI_pos (by omega)), if_neg (show ¬ (10 : Int32) ≤ nI n from nI_ge (b := 10) hn (by omega)), m_inY (c := 9) (show (n : Int) ≤ 9 by omega) (by omega), zb, if_neg n10]
  rcases pk_ix a3 (n := 2) (by omega) with q | q | ⟨s, hs, rfl⟩
  · rw [if_pos q, m_inN q, zb, if_pos p00]
    exact zGoF_same h rfl rfl
  · have h2 : ¬ a3 < (2 : Int32) := fun z => by
      rw [z_lt, show (2 : Int32).toInt = 2 from rfl] at z
      rw [z_le, z_nI (by omega)] at q
      omega
    rw [if_neg (z_pos (by omega) q), if_neg h2, m_inO q (by omega) (show (1 : Int64).toInt < (2 : Nat) by decide), zb, if_pos p00]
    exact zGoF_same h rfl rfl
  rw [if_neg (nI_pos (by omega)), if_pos (show nI s < (2 : Int32) from nI_lt (b := 2) hs (by omega)), m_inY (c := 1) (show (s : Int) ≤ 1 by omega) (by omega), zb, if_neg n10]
  obtain ⟨x1, x2, x3, x4, x5⟩ := id hX
  obtain ⟨m1, m2, m3, m4, m5⟩ := id hM
  obtain ⟨d1, d2, d3, d4, d5⟩ := id hD
  unfold q_X2_add
  by_cases hfull : dM D = 6
  · rw [x1, m1, hfull, if_neg (show ¬ nI 6 < (6 : Int32) by decide), zb, if_pos p00, if_pos (show nI 6 = (6 : Int32) from rfl)]
    exact zGoF_same h rfl rfl
  have hlt : dM D < 6 := by omega
  obtain ⟨σ1, e1⟩ : ∃ z, z = sv_sI σ 3 (dM D) (nI k) := ⟨_, rfl⟩
  obtain ⟨σ2, e2⟩ : ∃ z, z = sv_sI σ1 4 (dM D) (nI n) := ⟨_, rfl⟩
  obtain ⟨σ3, e3⟩ : ∃ z, z = sv_sI σ2 5 (dM D) (nI s) := ⟨_, rfl⟩
  obtain ⟨σ4, e4⟩ : ∃ z, z = sv_sI σ3 6 (dM D) (nI 0) := ⟨_, rfl⟩
  obtain ⟨σ5, e5⟩ : ∃ z, z = sv_sI σ4 1 6 (nI (dM D + 1)) := ⟨_, rfl⟩
  obtain ⟨μ1, g1⟩ : ∃ z, z = sv_sI μ 5 (dM D) (nI k) := ⟨_, rfl⟩
  obtain ⟨μ2, g2⟩ : ∃ z, z = sv_sI μ1 6 (3 * dM D) (nI n) := ⟨_, rfl⟩
  obtain ⟨μ3, g3⟩ : ∃ z, z = sv_sI μ2 6 (3 * dM D + 1) (nI s) := ⟨_, rfl⟩
  obtain ⟨μ4, g4⟩ : ∃ z, z = sv_sI μ3 6 (3 * dM D + 2) (nI 0) := ⟨_, rfl⟩
  obtain ⟨μ5, g5⟩ : ∃ z, z = sv_sI μ4 0 11 (nI (dM D + 1)) := ⟨_, rfl⟩
  have s1 : σ1.1 1 6 = nI (dM D) := by rw [e1, zI_o (by omega)]; exact x1
  have s2 : σ2.1 1 6 = nI (dM D) := by rw [e2, zI_o (by omega)]; exact s1
  have s3 : σ3.1 1 6 = nI (dM D) := by rw [e3, zI_o (by omega)]; exact s2
  have s4 : σ4.1 1 6 = nI (dM D) := by rw [e4, zI_o (by omega)]; exact s3
  have s5 : σ5.1 1 6 = nI (dM D + 1) := by rw [e5]; exact zI_v
  have t1 : μ1.1 0 11 = nI (dM D) := by rw [g1, zI_o (by omega)]; exact m1
  have t2 : μ2.1 0 11 = nI (dM D) := by rw [g2, zI_o (by omega)]; exact t1
  have t3 : μ3.1 0 11 = nI (dM D) := by rw [g3, zI_o (by omega)]; exact t2
  have t4 : μ4.1 0 11 = nI (dM D) := by rw [g4, zI_o (by omega)]; exact t3
  have t5 : μ5.1 0 11 = nI (dM D + 1) := by rw [g5]; exact zI_v
  have hf : xFr zMc σ σ5 := by
    rw [e5, e4, e3, e2, e1]
    exact xFr_tr (xFr_tr (xFr_tr (xFr_tr (xFr_I (Or.inl (by omega))) (xFr_I (Or.inl (by omega)))) (xFr_I (Or.inl (by omega)))) (xFr_I (Or.inl (by omega)))) (xFr_I (Or.inl (by omega)))
  have hg : mFr mMc μ μ5 := by
    rw [g5, g4, g3, g2, g1]
    exact mFr_tr (mFr_tr (mFr_tr (mFr_tr (mFr_I (Or.inr (Or.inl (by omega)))) (mFr_I (Or.inr (Or.inl (by omega))))) (mFr_I (Or.inr (Or.inl (by omega))))) (mFr_I (Or.inr (Or.inl (by omega))))) (mFr_I (Or.inl (by omega)))
  rw [x1, if_pos (show nI (dM D) < (6 : Int32) from nI_lt (b := 6) hlt (by omega)), z_put (by rw [l3]; omega), l3, zput_nI hlt (by omega), zb, ← e1, s1, z_put (by rw [l4]; omega), l4, zput_nI hlt (by omega), zb, ← e2, s2, z_put (by rw [l5]; omega), l5, zput_nI hlt (by omega), zb, ← e3, s3, z_put (by rw [l6]; omega), l6, show (0 : Int32) = nI 0 from rfl, zput_nI hlt (by omega), zb, ← e4, s4, zl, nI_1, ← e5, zb, if_neg (show ¬ (1 : Int32) = nI 0 by decide), s5, nI_pred]
  rw [m1, if_neg (show ¬ nI (dM D) = (6 : Int32) from fun q => by rw [show (6 : Int32) = nI 6 from rfl, nI_eq (by omega) (by omega)] at q; omega)]
  rw [if_neg (show ¬ (nI (dM D) < nI 0 ∨ 6 ≤ (nI (dM D)).toNatClampNeg) from z_bd hlt (by omega)), nI_clamp (by omega), zl, ← g1, t1, z_3b, if_neg (show ¬ (nI (3 * dM D) < nI 0 ∨ 18 ≤ (nI (3 * dM D)).toNatClampNeg) from z_bd (by omega) (by omega)), nI_clamp (by omega), zl, ← g2, t2, z_3b1, if_neg (show ¬ (nI (3 * dM D + 1) < nI 0 ∨ 18 ≤ (nI (3 * dM D + 1)).toNatClampNeg) from z_bd (by omega) (by omega)), nI_clamp (by omega), zl, ← g3, t3, z_3b2, if_neg (show ¬ (nI (3 * dM D + 2) < nI 0 ∨ 18 ≤ (nI (3 * dM D + 2)).toNatClampNeg) from z_bd (by omega) (by omega)), nI_clamp (by omega), zl, ← g4, t4, zl, nI_1, ← g5, t5, nI_pred]
  refine ⟨_, _, _, dAdd D k n s, rfl, rfl, zRel_upd h hf hg ⟨⟨?_, d2, fun c hc => ?_, d4, d5⟩, hT, ⟨s5, ?_, ?_, ?_, ?_⟩, ⟨t5, ?_, ?_, ?_, ?_⟩⟩ ⟨?_, fun b hb => ?_⟩, hf, hg⟩
  · show dM D + 1 ≤ 6; omega
  · show zup (dK D) (dM D) k c < 6 ∧ zup (dN D) (dM D) n c ≤ 9 ∧ zup (dS D) (dM D) s c ≤ 1 ∧ zup (dH D) (dM D) 0 c ≤ 1
    by_cases hcc : c = dM D
    · rw [hcc, zup_eq, zup_eq, zup_eq, zup_eq]; exact ⟨hk, by omega, by omega, by omega⟩
    · rw [zup_ne hcc, zup_ne hcc, zup_ne hcc, zup_ne hcc]
      have hc' : c < dM D + 1 := hc
      exact d3 c (by omega)
  · intro q hq
    rw [e5, zI_o (by omega), e4, zI_o (by omega), e3, zI_o (by omega), e2, zI_o (by omega), e1, zI_o (by omega)]
    exact x2 q hq
  · intro c hc
    have hc' : c < dM D + 1 := hc
    show σ5.1 3 c = nI (zup (dK D) (dM D) k c) ∧ σ5.1 4 c = nI (zup (dN D) (dM D) n c) ∧ σ5.1 5 c = nI (zup (dS D) (dM D) s c) ∧ σ5.1 6 c = nI (zup (dH D) (dM D) 0 c)
    rw [e5, zI_o (by omega), zI_o (by omega), zI_o (by omega), zI_o (by omega)]
    by_cases hcc : c = dM D
    · rw [hcc, zup_eq, zup_eq, zup_eq, zup_eq]
      refine ⟨?_, ?_, ?_, ?_⟩
      · rw [e4, zI_o (by omega), e3, zI_o (by omega), e2, zI_o (by omega), e1]; exact zI_v
      · rw [e4, zI_o (by omega), e3, zI_o (by omega), e2]; exact zI_v
      · rw [e4, zI_o (by omega), e3]; exact zI_v
      · rw [e4]; exact zI_v
    · rw [zup_ne hcc, zup_ne hcc, zup_ne hcc, zup_ne hcc]
      obtain ⟨r1, r2, r3, r4⟩ := x3 c (by omega)
      refine ⟨?_, ?_, ?_, ?_⟩
      · rw [e4, zI_o (by omega), e3, zI_o (by omega), e2, zI_o (by omega), e1, zI_o (by omega)]; exact r1
      · rw [e4, zI_o (by omega), e3, zI_o (by omega), e2, zI_o (by omega), e1, zI_o (by omega)]; exact r2
      · rw [e4, zI_o (by omega), e3, zI_o (by omega), e2, zI_o (by omega), e1, zI_o (by omega)]; exact r3
      · rw [e4, zI_o (by omega), e3, zI_o (by omega), e2, zI_o (by omega), e1, zI_o (by omega)]; exact r4
  · rw [e5, zI_o (by omega), e4, zI_o (by omega), e3, zI_o (by omega), e2, zI_o (by omega), e1, zI_o (by omega)]
    exact x4
  · rw [e5, e4, e3, e2, e1]; exact x5
  · intro q hq
    rw [g5, zI_o (by omega), g4, zI_o (by omega), g3, zI_o (by omega), g2, zI_o (by omega), g1, zI_o (by omega)]
    exact m2 q hq
  · intro c hc
    have hc' : c < dM D + 1 := hc
    show μ5.1 5 c = nI (zup (dK D) (dM D) k c) ∧ μ5.1 6 (3 * c) = nI (zup (dN D) (dM D) n c) ∧ μ5.1 6 (3 * c + 1) = nI (zup (dS D) (dM D) s c) ∧ μ5.1 6 (3 * c + 2) = nI (zup (dH D) (dM D) 0 c)
    rw [g5, zI_o (by omega), zI_o (by omega), zI_o (by omega), zI_o (by omega)]
    by_cases hcc : c = dM D
    · rw [hcc, zup_eq, zup_eq, zup_eq, zup_eq]
      refine ⟨?_, ?_, ?_, ?_⟩
      · rw [g4, zI_o (by omega), g3, zI_o (by omega), g2, zI_o (by omega), g1]; exact zI_v
      · rw [g4, zI_o (by omega), g3, zI_o (by omega), g2]; exact zI_v
      · rw [g4, zI_o (by omega), g3]; exact zI_v
      · rw [g4]; exact zI_v
    · rw [zup_ne hcc, zup_ne hcc, zup_ne hcc, zup_ne hcc]
      obtain ⟨r1, r2, r3, r4⟩ := m3 c (by omega)
      refine ⟨?_, ?_, ?_, ?_⟩
      · rw [g4, zI_o (by omega), g3, zI_o (by omega), g2, zI_o (by omega), g1, zI_o (by omega)]; exact r1
      · rw [g4, zI_o (by omega), g3, zI_o (by omega), g2, zI_o (by omega), g1, zI_o (by omega)]; exact r2
      · rw [g4, zI_o (by omega), g3, zI_o (by omega), g2, zI_o (by omega), g1, zI_o (by omega)]; exact r3
      · rw [g4, zI_o (by omega), g3, zI_o (by omega), g2, zI_o (by omega), g1, zI_o (by omega)]; exact r4
  · rw [g5, zI_o (by omega), g4, zI_o (by omega), g3, zI_o (by omega), g2, zI_o (by omega), g1, zI_o (by omega)]
    exact m4
  · rw [g5, zI_o (by omega), g4, zI_o (by omega), g3, zI_o (by omega), g2, zI_o (by omega), g1, zI_o (by omega)]
    exact m5
  · show dM D ≤ dM D + 1; omega
  · show zup (dK D) (dM D) k b = dK D b
    exact zup_ne (by omega)
theorem c_bargain (h : zRel θ θm σ μ tc Fs D) (a1 a2 a3 : Int32) : zGo θ θm tc Fs (q_X7_bargain θ a1 a2 a3 σ) (q_X8_bargain θm a1 a2 a3 μ) := by
  obtain ⟨r, σ', μ', D', g1, g2, g3, -, -⟩ := c_bargainF h a1 a2 a3
  exact ⟨r, σ', μ', D', g1, g2, g3⟩
def zFd (i j : Nat) : Prop := (i = 13 ∧ j = 0) ∨ i = 14 ∨ zTmp i j
def mFd (i j : Nat) : Prop := (i = 0 ∧ j = 6) ∨ i = 3 ∨ mTmp i j
theorem zRel_tp (h : zRel θ θm σ μ tc Fs D) {σ' μ' : sv_S} (hf : xFr zFd σ σ') (hg : mFr mFd μ μ') (hn : zTp σ' μ') : zRel θ θm σ' μ' tc Fs D := by
  obtain ⟨a1, a2, a3, ⟨a4, a5, a6, a7⟩, a8, a9, a10⟩ := h
  refine ⟨a1, a2, zTexts_fr a3 hf hg (by unfold zFd zTmp zSk; exact ⟨by omega, fun j => by omega⟩) (fun i j h1 h2 => by unfold zFd zTmp zSk; omega) (by unfold mFd mTmp; omega) (fun i j h1 h2 => by unfold mFd mTmp; omega), ⟨a4, a5, xMk_fr a6 hf (fun i j h1 h2 => by unfold zFd zTmp zSk; omega), mMk_fr a7 hg (by unfold mFd mTmp; omega) (fun i j h1 h2 => by unfold mFd mTmp; omega)⟩, zKp_fr a8 hf hg (by unfold zFd zTmp zSk; omega) (fun i j h1 h2 => by unfold zFd zTmp zSk; omega) (by unfold mFd mTmp; omega) (fun i j h1 h2 => by unfold mFd mTmp; omega), hn, fun s hs => ?_⟩
  obtain ⟨b1, b2⟩ := a10 s hs
  exact ⟨by rw [(hf.2 21 s (by unfold zFd zTmp zSk; omega)).2]; exact b1, zRw1_fr b2 hs hf hg (fun j => by unfold zFd zTmp zSk; omega) (fun i h1 h2 => by unfold mFd mTmp; omega) (fun j hj => by unfold mFd mTmp; omega)⟩
theorem c_feed (h : zRel θ θm σ μ tc Fs D) (a1 : Int32) : zGo θ θm tc Fs (q_X7_feed θ a1 σ) (q_X8_feed θm a1 μ) := by
  have hB := h.1
  have l4 : sv_len θ 14 = 160 := sx_L (sx_c14 hB)
  obtain ⟨n, B, t1, t2, t3, t4⟩ := h.2.2.2.2.2.1
  unfold q_X7_feed q_X8_feed
  rcases pk_ix a1 (n := 256) (by omega) with q | q | ⟨v, hv, rfl⟩
  · rw [if_pos q, m_inN q, zb, if_pos p00]
    exact zGo_same h rfl rfl
  · have h2 : ¬ a1 ≤ (255 : Int32) := fun z => by
      rw [z_le, show (255 : Int32).toInt = 255 from rfl] at z
      rw [z_le, z_nI (by omega)] at q
      omega
    rw [if_neg (z_pos (by omega) q), if_neg h2, m_inO q (by omega) (show (255 : Int64).toInt < (256 : Nat) by decide), zb, if_pos p00]
    exact zGo_same h rfl rfl
  rw [if_neg (nI_pos (by omega)), if_pos (show nI v ≤ (255 : Int32) from nI_le (b := 255) (by omega) (by omega)), m_inY (c := 255) (show (v : Int) ≤ 255 by omega) (by omega), zb, if_neg n10]
  unfold q_X4_append
  by_cases hn : n = 160
  · rw [t2, t3, hn, if_neg (show ¬ nI 160 < (160 : Int32) by decide), zb, if_pos p00, if_pos (show nI 160 = (160 : Int32) from rfl)]
    exact zGo_same h rfl rfl
  have hlt : n < 160 := by omega
  rw [t2, t3, if_pos (show nI n < (160 : Int32) from nI_lt (b := 160) hlt (by omega)), z_put (by rw [l4]; omega), l4, zput_nI hlt (by omega), zb, zl, zI_o (by omega), t2, nI_1, zb, if_neg n10, zI_v, if_neg (show ¬ nI n = (160 : Int32) from fun q => by rw [show (160 : Int32) = nI 160 from rfl, nI_eq (by omega) (by omega)] at q; omega), if_neg (z_bd hlt (by omega)), nI_clamp (by omega), zl, zI_o (by omega), t3, nI_1, zl, zI_v]
  refine ⟨_, _, _, D, rfl, rfl, zRel_tp h (xFr_tr (xFr_I (Or.inr (Or.inl rfl))) (xFr_I (Or.inl ⟨rfl, rfl⟩))) (mFr_tr (mFr_I (Or.inr (Or.inl rfl))) (mFr_I (Or.inl ⟨rfl, rfl⟩))) ⟨n + 1, zup B n v, by omega, zI_v, zI_v, fun p hp => ?_⟩⟩
  by_cases hpn : p = n
  · subst hpn
    rw [zup_eq]
    exact ⟨by omega, by rw [zI_o (by omega)]; exact zI_v, by rw [zI_o (by omega)]; exact zI_v⟩
  · obtain ⟨b1, b2, b3⟩ := t4 p (by omega)
    rw [zup_ne hpn]
    exact ⟨b1, by rw [zI_o (by omega), zI_o (by omega)]; exact b2, by rw [zI_o (by omega), zI_o (by omega)]; exact b3⟩
theorem xFr_Pm {S : Nat → Nat → Prop} {σ : sv_S} {i j : Nat} {v : Option Nat} (h : S i j) : xFr S σ (sv_sP σ i j v) := xFr_P h
theorem x_ruleNumber (h : zRel θ θm σ μ tc Fs D) : q_X7_ruleNumber θ σ = some (nI (dT D), σ) := by
  have hT := zRel_t h
  have hX := h.2.2.2.1.2.2.1
  unfold q_X7_ruleNumber
  rw [hX.2.2.2.2, zos, if_pos hT.1, hT.2.2.1]
theorem x_textAtY (h : zRel θ θm σ μ tc Fs D) {k : Nat} (hk : k < tc) : q_X7_textAt θ (nI k) σ = some (some (42 + 4 * k), σ) := by
  obtain ⟨t1, t2, t3, t4, t5, t6⟩ := h.2.2.1
  obtain ⟨g1, g2, g3⟩ := t6 k hk
  unfold q_X7_textAt
  rw [if_neg (nI_pos (by omega)), t4, if_neg (nI_ge hk (by omega)), if_neg (show ¬ (6 : Int32) ≤ nI k from nI_ge (b := 6) (by omega) (by omega)), if_neg (z_bd (by omega) (by omega)), nI_clamp (by omega), g1, zos, if_pos g2.1]
theorem x_textAtN (h : zRel θ θm σ μ tc Fs D) {a : Int32} (ha : a < 0 ∨ nI tc ≤ a) : q_X7_textAt θ a σ = some (none, σ) := by
  obtain ⟨t1, t2, t3, t4, t5, t6⟩ := h.2.2.1
  unfold q_X7_textAt
  by_cases h0 : a < 0
  · rw [if_pos h0]
  · rw [if_neg h0, t4]
    rcases ha with q | q
    · exact absurd q h0
    · rw [if_pos q]
theorem c_force (h : zRel θ θm σ μ tc Fs D) (a1 : Int32) : zGo θ θm tc Fs (q_X7_force θ a1 σ) (q_X8_force θm a1 μ) := by
  obtain ⟨t1, t2, t3, t4, t5, t6⟩ := h.2.2.1
  obtain ⟨hD, hT, hX, hM⟩ := h.2.2.2.1
  have e1 : (nI tc - 1 : Int32).toInt64.toInt = (tc : Int) - 1 := by
    rw [Int32.toInt_toInt64, show tc = (tc - 1) + 1 by omega, nI_pred, z_nI (by omega)]
    omega
  unfold q_X7_force q_X8_force
  rw [t5]
  rcases pk_ix a1 (n := tc) (by omega) with q | q | ⟨k, hk, rfl⟩
  · rw [x_textAtN h (Or.inl q), zb, zon, m_inN q, zb, if_pos p00]
    exact zGo_same h rfl rfl
  · rw [x_textAtN h (Or.inr q), zb, zon, m_inO q (by omega) (by rw [e1]; omega), zb, if_pos p00]
    exact zGo_same h rfl rfl
  rw [x_textAtY h hk, zb, zos, if_pos (t6 k hk).2.1.1, x_ruleNumber h, zb, zl, m_inY (by rw [e1]; omega) (by omega), zb, if_neg n10, zl, zl, hM.2.2.2.2]
  obtain ⟨x1, x2, x3, x4, x5⟩ := id hX
  obtain ⟨m1, m2, m3, m4, m5⟩ := id hM
  obtain ⟨d1, d2, d3, d4, d5⟩ := id hD
  refine ⟨_, _, _, (dM D, dR D, dK D, dN D, dS D, dH D, dW D, k), rfl, rfl, zRel_upd h (xFr_P (Or.inl (by omega))) (mFr_I (Or.inl (by omega))) ⟨⟨d1, d2, d3, d4, by show k < 6; omega⟩, hk, ⟨x1, x2, x3, x4, zP_v⟩, ⟨?_, ?_, ?_, ?_, zI_v⟩⟩ ⟨Nat.le_refl _, fun b hb => rfl⟩⟩
  · rw [zI_o (by omega)]; exact m1
  · intro q hq; rw [zI_o (by omega)]; exact m2 q hq
  · intro b hb; rw [zI_o (by omega), zI_o (by omega), zI_o (by omega), zI_o (by omega)]; exact m3 b hb
  · rw [zI_o (by omega)]; exact m4
end CA4

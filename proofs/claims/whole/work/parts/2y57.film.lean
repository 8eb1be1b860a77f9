/-! ===== calls: film ===== -/
section FILM
variable {θ θm : sv_T} {σ μ : sv_S} {tc : Nat} {Fs : Nat → Nat → (Nat → Int32) → Int32} {D : zD}
theorem z_short {w : Nat} (hw : w ≤ 999) : zNarr 1 (nI w) = nI w := by
  have key : ∀ w, w < 1000 → (nI w).toInt16.toInt32 = nI w := by decide +kernel
  exact key w (by omega)
theorem m_sheetY {s q n : Nat} (hs : s < 4) (hq : q ≤ 2) (hn : n ≤ 40) : q_X8_sheet θm (nI s) (nI q) (nI n) μ = q_X8_sheet_B45 θm (nI s) (nI q) (nI n) (nI s) (nI q) (nI n) μ := by
  have em1 : (-1 : Int64).toInt = -1 := rfl
  have e2 : (2 : Int64).toInt = 2 := rfl
  unfold q_X8_sheet
  rw [m_shY hs, zb, if_neg n10, z_inI, zb, z_r01, em1, e2, z_nI (by omega), if_pos (show (-1 : Int) ≤ (q : Int) ∧ (q : Int) ≤ 2 by omega), if_neg (nI_pos (n := q) (by omega)), if_neg (nI_pos (n := q) (by omega)), if_pos (show nI n ≤ (40 : Int32) from nI_le (b := 40) hn (by omega)), if_pos (show (0 : Int32) ≤ nI n from nI_pos' (by omega))]
theorem x_filmLoop (hB : sx_base θ) {s n t : Nat} {γ : zC} {rn : Nat → Nat} {a1 a2 a3 : Int32} (hs : s < 4) (hn : n ≤ 24) : ∀ (k h fuel : Nat) (σ : sv_S), n - h = k → h ≤ n → xCs θ σ 22 t γ → xRn θ σ 2 rn → σ.1 (34 + 2 * s) 1 = nI 1 → σ.1 (34 + 2 * s) 2 = nI n → (∀ j, j < h → σ.1 (34 + 2 * s + 1) j = nI (nWor γ rn j)) →
    ∃ σ', q_X7_film_B65 θ a1 a2 a3 (fuel + k + 1) (nI n) (34 + 2 * s) (nI h) σ = some (nI n, σ') ∧ xFr (zRo s) σ σ' ∧ σ'.1 (34 + 2 * s) 1 = nI 1 ∧ σ'.1 (34 + 2 * s) 2 = nI n ∧ ∀ j, j < n → σ'.1 (34 + 2 * s + 1) j = nI (nWor γ rn j) := by
  intro k
  induction k with
  | zero =>
    intro h fuel σ h1 h2 hC hR e1 e2 hi
    refine ⟨σ, ?_, xFr_rf, e1, e2, fun j hj => hi j (by omega)⟩
    show q_X7_film_B65_b θ a1 a2 a3 _ (nI n) (34 + 2 * s) (nI h) σ = _
    unfold q_X7_film_B65_b
    rw [if_pos (nI_le (by omega) (by omega))]
  | succ k ih =>
    intro h fuel σ h1 h2 hC hR e1 e2 hi
    obtain ⟨σ1, s1, s2, s3, s4, s5⟩ := x_see (b1 := 2) hC hR (h := h) (by omega)
    obtain ⟨σ2, t1, t2⟩ := x_worthC s3 s4 s5
    obtain ⟨w1, w2⟩ := nWor_ok γ rn h
    have hf2 : zFr (zLk 22) σ σ2 := zFr_tr s2 (zSk_lk t2)
    have hC2 := xCs_lk hC hf2
    have hR2 := xRn_lk hR (by omega) (by omega) hf2
    have u1 : σ2.1 (34 + 2 * s) 1 = nI 1 := by rw [hf2.2 _ _ (by unfold zLk zSk; omega)]; exact e1
    have u2 : σ2.1 (34 + 2 * s) 2 = nI n := by rw [hf2.2 _ _ (by unfold zLk zSk; omega)]; exact e2
    have ui : ∀ j, σ2.1 (34 + 2 * s + 1) j = σ.1 (34 + 2 * s + 1) j := fun j => hf2.2 _ _ (by unfold zLk zSk; omega)
    have hw := x_write (θ := θ) (σ := σ2) hB (v := vWor γ rn h) hs (q := 1) (by omega) (show n ≤ 40 by omega) u1 u2 (i := h) (by omega)
    rw [w1, z_short w2] at hw
    have fW : xFr (fun a _ => a = 34 + 2 * s + 1) σ2 (sv_sI σ2 (34 + 2 * s + 1) h (nI (nWor γ rn h))) := xFr_I rfl
    obtain ⟨σ', g1, g2, g3, g4, g5⟩ := ih (h + 1) fuel (sv_sI σ2 (34 + 2 * s + 1) h (nI (nWor γ rn h))) (by omega) (by omega) (xCs_fr hC2 fW (fun i j q1 q2 => by omega) ⟨by omega, by omega, by omega, fun j _ => by omega⟩) (xRn_fr hR2 fW (fun j => by omega)) (by rw [zI_o (by omega)]; exact u1) (by rw [zI_o (by omega)]; exact u2) (fun j hj => by
      by_cases e : j = h
      · subst e; exact zI_v
      · rw [zI_o (by omega), ui]; exact hi j (by omega))
    refine ⟨σ', ?_, xFr_tr (xFr_tr (xFr_z (zFr_w hf2 (fun i j q => Or.inr (Or.inr (zLk_tmp i j q))))) (xFr_I (Or.inr (Or.inl rfl)))) g2, g3, g4, g5⟩
    show q_X7_film_B65_b θ a1 a2 a3 (q_X7_film_B65 θ a1 a2 a3 (fuel + (k + 1))) (nI n) (34 + 2 * s) (nI h) σ = _
    unfold q_X7_film_B65_b
    rw [if_neg (nI_ge (by omega) (by omega)), s1, zb, t1, zb, w1, hw, zb, zl, nI_1]
    exact g1
theorem m_filmLoop {s n b d : Nat} {F : Nat → (Nat → Int32) → Int32} {a1 a2 a3 : Int32} (hs : s < 4) (hn : n ≤ 24) (hb : b < dM D) : ∀ (k h fuel : Nat) (μ : sv_S), n - h = k → h ≤ n → mOk θm μ D F → (∀ j, j < h → μ.1 13 (40 * s + j) = nI (nWor (dC D F b d) (dR D) j)) →
    ∃ μ', q_X8_film_B47 θm a1 a2 a3 (fuel + k + 1) (nI s) (nI b) (nI n) (nI d) (nI h) μ = some (nI n, μ') ∧ mFr (fun i j => (i = 13 ∧ 40 * s ≤ j ∧ j < 40 * s + 40) ∨ mTmp i j) μ μ' ∧ ∀ j, j < n → μ'.1 13 (40 * s + j) = nI (nWor (dC D F b d) (dR D) j) := by
  intro k
  induction k with
  | zero =>
    intro h fuel μ h1 h2 hO hi
    refine ⟨μ, ?_, mFr_rf, fun j hj => hi j (by omega)⟩
    show q_X8_film_B47_b θm a1 a2 a3 _ (nI s) (nI b) (nI n) (nI d) (nI h) μ = _
    unfold q_X8_film_B47_b
    rw [if_pos (nI_le (by omega) (by omega))]
  | succ k ih =>
    intro h fuel μ h1 h2 hO hi
    obtain ⟨μ1, s1, s2⟩ := m_worthOf (d := d) hO hb (h := h) (by omega)
    obtain ⟨w1, w2⟩ := nWor_ok (dC D F b d) (dR D) h
    have hO1 := mOk_ev hO s2
    have fW : mFr (fun i j => i = 13 ∧ 40 * s ≤ j ∧ j < 40 * s + 40) μ1 (sv_sI μ1 13 (40 * s + h) (nI (nWor (dC D F b d) (dR D) h))) := mFr_I ⟨rfl, by omega, by omega⟩
    obtain ⟨μ', g1, g2, g3⟩ := ih (h + 1) fuel (sv_sI μ1 13 (40 * s + h) (nI (nWor (dC D F b d) (dR D) h))) (by omega) (by omega) ⟨hO1.1, mMk_fr hO1.2.1 fW (by omega) (fun i j q1 q2 => by omega), mText_fr hO1.2.2 fW (fun i j q1 q2 => by omega)⟩ (fun j hj => by
      by_cases e : j = h
      · subst e; exact zI_v
      · rw [zI_o (by omega), s2.2 13 _ (by unfold mEv; omega)]; exact hi j (by omega))
    refine ⟨μ', ?_, mFr_tr (mFr_tr (mFr_w (m_tmp s2) (fun i j q => Or.inr q)) (mFr_w fW (fun i j q => Or.inl q))) g2, g3⟩
    show q_X8_film_B47_b θm a1 a2 a3 (q_X8_film_B47 θm a1 a2 a3 (fuel + (k + 1))) (nI s) (nI b) (nI n) (nI d) (nI h) μ = _
    unfold q_X8_film_B47_b
    rw [if_neg (nI_ge (by omega) (by omega)), s1, zb, z_40, if_neg (z_bd (by omega) (by omega)), nI_clamp (by omega), w1, zl, zl, nI_1]
    exact g1
theorem c_film (h : zRel θ θm σ μ tc Fs D) (a1 a2 a3 : Int32) : zGo θ θm tc Fs (q_X7_film θ a1 a2 a3 σ) (q_X8_film θm a1 a2 a3 μ) := by
  have hB := h.1
  obtain ⟨hD, hT, hX, hM⟩ := h.2.2.2.1
  unfold q_X7_film q_X8_film
  rcases z_sheet a1 with q | ⟨s, hs, rfl⟩
  · rw [x_rowAtN q, zb, zon, m_shN q, zb, if_pos p00]
    exact zGo_same h rfl rfl
  rw [x_rowAtY h hs, zb, zos, if_pos (x_row hB hs), m_shY hs, zb, if_neg n10]
  rcases z_one hD a2 with q | ⟨b, hb, rfl⟩
  · rw [x_hasN hX q, m_oneN hD hM q, zb, zb, if_pos p00, if_pos p00]
    exact zGo_same h rfl rfl
  rw [x_hasY hD hX hb, m_oneY hD hM hb, zb, zb, if_neg n10, if_neg n10]
  rcases pk_ix a3 (n := 25) (by omega) with q | q | ⟨n, hn, rfl⟩
  · rw [if_pos q, m_inN q, zb, if_pos p00]
    exact zGo_same h rfl rfl
  · have h2 : ¬ a3 ≤ (24 : Int32) := fun z => by rw [z_le, show (24 : Int32).toInt = 24 from rfl] at z; rw [z_le, z_nI (by omega)] at q; omega
    rw [if_neg (z_pos (by omega) q), if_neg h2, m_inO q (by omega) (show (24 : Int64).toInt < (25 : Nat) by decide), zb, if_pos p00]
    exact zGo_same h rfl rfl
  rw [if_neg (nI_pos (by omega)), if_pos (show nI n ≤ (24 : Int32) from nI_le (b := 24) (by omega) (by omega)), m_inY (c := 24) (show (n : Int) ≤ 24 by omega) (by omega), zb, if_neg n10]
  obtain ⟨σ1, r1, r2, r3, r4, r5⟩ := x_renew (θ := θ) (σ := σ) (so := nI 1) (n := n) hB hs (by omega)
  obtain ⟨μ1, g1, g2, g3, g4, g5, g6⟩ := m_sheetNew (θm := θm) (μ := μ) (a1 := nI s) (a2 := nI 1) (a3 := nI n) hs (q := 1) (n := n) (by omega) (by omega)
  have r1' : q_X5_renew θ (34 + 2 * s) (1 : Int32) (nI n) σ = some ((), σ1) := r1
  have es : q_X8_sheet θm (nI s) (1 : Int32) (nI n) μ = some (1, μ1) := by
    show q_X8_sheet θm (nI s) (nI 1) (nI n) μ = _
    rw [m_sheetY hs (by omega) (by omega)]; exact g1
  have h1 : zRel θ θm σ1 μ1 tc Fs D := zRel_row h hs r2 g2 (Or.inr ⟨1, n, by omega, by omega, r3, r4, g3, g4, g5, fun i hi => by rw [r5 i (by omega), g6 i hi]⟩)
  obtain ⟨hD1, hT1, hX1, hM1⟩ := h1.2.2.2.1
  obtain ⟨σ2, t1, t2, t3⟩ := x_regard (c := 22) (d := dSh D) hB (Or.inl rfl) hD hX1 (zRel_t h1) hb
  have hR2 : xRn θ σ2 2 (dR D) := xRn_fr (xRn_m hB hD hX1) t2 (fun j => by unfold zCa; omega)
  have v1 : σ2.1 (34 + 2 * s) 1 = nI 1 := by rw [(t2.2 _ _ (by unfold zCa; omega)).1]; exact r3
  have v2 : σ2.1 (34 + 2 * s) 2 = nI n := by rw [(t2.2 _ _ (by unfold zCa; omega)).1]; exact r4
  obtain ⟨σ3, l1, l2, l3, l4, l5⟩ := x_filmLoop (θ := θ) (a1 := nI s) (a2 := nI b) (a3 := nI n) hB hs (n := n) (by omega) n 0 (199 - n) σ2 (by omega) (by omega) t3 hR2 v1 v2 (fun j hj => by omega)
  obtain ⟨μ2, k1, k2, k3⟩ := m_filmLoop (θm := θm) (a1 := nI s) (a2 := nI b) (a3 := nI n) (d := dSh D) hs (n := n) (by omega) hb n 0 (199 - n) μ1 (by omega) (by omega) (zRel_ok h1) (fun j hj => by omega)
  rw [show 199 - n + n + 1 = sv_N by unfold sv_N; omega] at l1 k1
  have l1' : q_X7_film_B65 θ (nI s) (nI b) (nI n) sv_N (nI n) (34 + 2 * s) (0 : Int32) σ2 = some (nI n, σ3) := l1
  have k1' : q_X8_film_B47 θm (nI s) (nI b) (nI n) sv_N (nI s) (nI b) (nI n) (nI (dSh D)) (0 : Int32) μ1 = some (nI n, μ2) := k1
  rw [r1', zb, x_shakenCount hB hD hX1, zb, t1, zb, l1', es, zb, m_shakenMany hD hM1, zb, k1']
  have w3 : ∀ i, 10 ≤ i → i ≤ 12 → μ2.1 i s = μ1.1 i s := fun i q1 q2 => k2.2 _ _ (by unfold mTmp; omega)
  exact ⟨_, _, _, D, rfl, rfl, zRel_row h1 hs (xFr_tr (xFr_w t2 (fun i j q => Or.inr (Or.inr (zCa_tmp i j q)))) l2) (mFr_w k2 (fun i j q => Or.inr q)) (Or.inr ⟨1, n, by omega, by omega, l3, l4, by rw [w3 _ (by omega) (by omega)]; exact g3, by rw [w3 _ (by omega) (by omega)]; exact g4, by rw [w3 _ (by omega) (by omega)]; exact g5, fun i hi => by rw [l5 i hi, k3 i hi]⟩)⟩
end FILM

/-! ===== calls: asks, told, set ===== -/
section CA1
variable {θ θm : sv_T} {σ μ : sv_S} {tc : Nat} {Fs : Nat → Nat → (Nat → Int32) → Int32} {D : zD}
theorem n10 : ¬ (1 : Int32) = 0 := by decide
theorem p00 : (0 : Int32) = 0 := rfl
theorem p11 : (1 : Int32) &&& 1 = 1 := by decide
theorem p01 : (0 : Int32) &&& 1 = 0 := by decide
/-- the two sides answer alike, and go on alike -/
def zGo (θ θm : sv_T) (tc : Nat) (Fs : Nat → Nat → (Nat → Int32) → Int32) (A B : Option (Int32 × sv_S)) : Prop := ∃ r σ' μ' D', A = some (r, σ') ∧ B = some (r, μ') ∧ zRel θ θm σ' μ' tc Fs D'
theorem zGo_same (h : zRel θ θm σ μ tc Fs D) {A B : Option (Int32 × sv_S)} {r : Int32} (h1 : A = some (r, σ)) (h2 : B = some (r, μ)) : zGo θ θm tc Fs A B := ⟨r, σ, μ, D, h1, h2, h⟩
theorem zGo_tmp (h : zRel θ θm σ μ tc Fs D) {σ' μ' : sv_S} {A B : Option (Int32 × sv_S)} {r : Int32} (h1 : A = some (r, σ')) (h2 : B = some (r, μ')) (hf : xFr zTmp σ σ') (hg : mFr mTmp μ μ') : zGo θ θm tc Fs A B := ⟨r, σ', μ', D, h1, h2, zRel_tmp h hf hg⟩
theorem m_inY {k : Nat} {c : Int64} (hk : (k : Int) ≤ c.toInt) (hk2 : k < 2147483648) : q_X8_in θm (nI k).toInt64 (0 : Int64) c μ = some (1, μ) := by
  have e0 : (0 : Int64).toInt = 0 := rfl
  rw [z_inI, z_nI hk2, e0, if_pos ⟨by omega, hk⟩]
theorem m_inN {a : Int32} {c : Int64} (h : a < 0) : q_X8_in θm a.toInt64 (0 : Int64) c μ = some (0, μ) := by
  have e0 : (0 : Int64).toInt = 0 := rfl
  rw [z_lt, show (0 : Int32).toInt = 0 from rfl] at h
  rw [z_inI, e0, if_neg (fun q => by omega)]
theorem m_inO {a : Int32} {n : Nat} {c : Int64} (h : nI n ≤ a) (hn : n < 2147483648) (hc : c.toInt < n) : q_X8_in θm a.toInt64 (0 : Int64) c μ = some (0, μ) := by
  have e0 : (0 : Int64).toInt = 0 := rfl
  rw [z_le, z_nI hn] at h
  rw [z_inI, e0, if_neg (fun q => by omega)]
theorem m_isOne (hD : zDok D) (hM : mMk μ D) {a : Int32} : q_X8_isOne θm a μ = some (if 0 ≤ a.toInt ∧ a.toInt < dM D then 1 else 0, μ) := by
  have hM6 := hD.1
  have e0 : (0 : Int64).toInt = 0 := rfl
  have e1 : (nI (dM D) - 1 : Int32).toInt64.toInt = (dM D : Int) - 1 := by
    rw [Int32.toInt_toInt64, z_sub]
    · rw [z_nI (by omega)]; rfl
    · rw [z_nI (by omega)]; show -2147483648 ≤ (dM D : Int) - 1; omega
    · rw [z_nI (by omega)]; show (dM D : Int) - 1 < 2147483648; omega
  unfold q_X8_isOne
  rw [hM.1, z_inI, zb, e0, e1]
  by_cases hc : 0 ≤ a.toInt ∧ a.toInt < dM D
  · rw [if_pos hc, if_pos (show 0 ≤ a.toInt ∧ a.toInt ≤ (dM D : Int) - 1 by omega), if_pos (by decide)]
  · rw [if_neg hc, if_neg (show ¬ (0 ≤ a.toInt ∧ a.toInt ≤ (dM D : Int) - 1) by omega), if_pos (by decide)]
theorem m_oneY (hD : zDok D) (hM : mMk μ D) {b : Nat} (hb : b < dM D) : q_X8_isOne θm (nI b) μ = some (1, μ) := by
  have hM6 := hD.1
  rw [m_isOne hD hM, z_nI (by omega), if_pos (by omega)]
theorem m_oneN (hD : zDok D) (hM : mMk μ D) {a : Int32} (h : a < 0 ∨ nI (dM D) ≤ a) : q_X8_isOne θm a μ = some (0, μ) := by
  have hM6 := hD.1
  rw [z_lt, z_le, z_nI (by omega), show (0 : Int32).toInt = 0 from rfl] at h
  rw [m_isOne hD hM, if_neg (by omega)]
theorem x_hasY (hD : zDok D) (hM : xMk σ 1 D) {b : Nat} (hb : b < dM D) : q_X2_has θ (nI b) σ = some (1, σ) := by
  have hM6 := hD.1
  unfold q_X2_has
  rw [if_neg (nI_pos (by omega)), hM.1, if_neg (nI_ge hb (by omega))]
theorem x_hasN (hM : xMk σ 1 D) {a : Int32} (h : a < 0 ∨ nI (dM D) ≤ a) : q_X2_has θ a σ = some (0, σ) := by
  unfold q_X2_has
  by_cases h0 : a < 0
  · rw [if_pos h0]
  · rw [if_neg h0, hM.1]
    rcases h with q | q
    · exact absurd q h0
    · rw [if_pos q]
theorem z_one (hD : zDok D) (a : Int32) : (a < 0 ∨ nI (dM D) ≤ a) ∨ ∃ b, b < dM D ∧ a = nI b := by
  have hM6 := hD.1
  rcases pk_ix a (n := dM D) (by omega) with q | q | q
  · exact Or.inl (Or.inl q)
  · exact Or.inl (Or.inr q)
  · exact Or.inr q
theorem zLk_tmp : ∀ i j, zLk 22 i j → zTmp i j := fun i j h => by unfold zLk at h; unfold zTmp; rcases h with q | q; exact Or.inr (Or.inr (Or.inr q)); omega
theorem zLk_tmp25 : ∀ i j, zLk 25 i j → zTmp i j := fun i j h => by unfold zLk at h; unfold zTmp; rcases h with q | q; exact Or.inr (Or.inr (Or.inr q)); omega
theorem zSk_tmp : ∀ i j, zSk i j → zTmp i j := fun i j h => Or.inr (Or.inr (Or.inr h))
theorem zCa_tmp : ∀ i j, zCa 22 i j → zTmp i j := fun i j h => by unfold zCa at h; unfold zTmp; omega
theorem zCa_tmp25 : ∀ i j, zCa 25 i j → zTmp i j := fun i j h => by unfold zCa at h; unfold zTmp; omega
/-- the class's rain, as a row -/
theorem xRn_m (hB : sx_base θ) (hD : zDok D) (hM : xMk σ 1 D) : xRn θ σ 2 (dR D) := ⟨sx_L (sx_c2 hB), fun k hk => ⟨hM.2.1 k hk, hD.2.1 k hk⟩⟩
theorem c_asks (h : zRel θ θm σ μ tc Fs D) (a1 a2 a3 : Int32) : zGo θ θm tc Fs (q_X7_asks θ a1 a2 a3 σ) (q_X8_asks θm a1 a2 a3 μ) := by
  have hB := h.1
  have hD := h.2.2.2.1.1
  have hX := h.2.2.2.1.2.2.1
  have hM := h.2.2.2.1.2.2.2
  have hO := zRel_ok h
  have hM6 := hD.1
  unfold q_X7_asks q_X8_asks
  rcases z_one hD a1 with q | ⟨b, hb, rfl⟩
  · rw [x_hasN hX q, m_oneN hD hM q, zb, zb, if_pos p00, if_pos p00]
    exact zGo_same h rfl rfl
  rw [x_hasY hD hX hb, m_oneY hD hM hb, zb, zb, if_neg n10, if_neg n10]
  unfold q_X8_isHour
  rcases pk_ix a2 (n := 24) (by omega) with q | q | ⟨hh, h24, rfl⟩
  · rw [if_pos q, m_inN q, zb, if_pos p01, zb, if_pos p00]
    exact zGo_same h rfl rfl
  · have q' : (24 : Int32) ≤ a2 := q
    have hn : ¬ a2 < 0 := fun z => by rw [z_lt, show (0 : Int32).toInt = 0 from rfl] at z; rw [z_le, z_nI (by omega)] at q; omega
    rw [if_neg hn, if_pos q', m_inO q (by omega) (show (23 : Int64).toInt < (24 : Nat) by decide), zb, if_pos p01, zb, if_pos p00]
    exact zGo_same h rfl rfl
  rw [if_neg (nI_pos (by omega)), if_neg (show ¬ (24 : Int32) ≤ nI hh from nI_ge (b := 24) h24 (by omega)), m_inY (c := 23) (show (hh : Int) ≤ 23 by omega) (by omega), zb, if_pos p11, zb, if_neg n10]
  rcases pk_ix a3 (n := 5) (by omega) with q | q | ⟨w, hw, rfl⟩
  · rw [if_pos q, m_inN q, zb, if_pos p00]
    exact zGo_same h rfl rfl
  · have hn : ¬ a3 < 0 := fun z => by rw [z_lt, show (0 : Int32).toInt = 0 from rfl] at z; rw [z_le, z_nI (by omega)] at q; omega
    have h4 : ¬ a3 ≤ (4 : Int32) := fun z => by rw [z_le, show (4 : Int32).toInt = 4 from rfl] at z; rw [z_le, z_nI (by omega)] at q; omega
    rw [if_neg hn, if_neg h4, m_inO q (by omega) (show (4 : Int64).toInt < (5 : Nat) by decide), zb, if_pos p00]
    exact zGo_same h rfl rfl
  rw [if_neg (nI_pos (by omega)), if_pos (show nI w ≤ (4 : Int32) from nI_le (b := 4) (by omega) (by omega)), m_inY (c := 4) (show (w : Int) ≤ 4 by omega) (by omega), zb, if_neg n10, x_shakenCount hB hD hX, zb, m_shakenMany hD hM, zb]
  obtain ⟨σ1, r1, r2, r3⟩ := x_regard (c := 22) (d := dSh D) hB (Or.inl rfl) hD hX (zRel_t h) hb
  have hR1 : xRn θ σ1 2 (dR D) := xRn_fr (xRn_m hB hD hX) r2 (fun j => by unfold zCa; omega)
  obtain ⟨σ2, s1, s2, s3, s4, s5⟩ := x_see (b1 := 2) r3 hR1 h24
  have hR2 : xRn θ σ2 2 (dR D) := xRn_lk hR1 (by omega) (by omega) s2
  have hf2 : xFr zTmp σ σ2 := xFr_tr (xFr_w r2 zCa_tmp) (xFr_z (zFr_w s2 zLk_tmp))
  rw [r1, zb, s1, zb]
  have hw5 : w = 0 ∨ w = 1 ∨ w = 2 ∨ w = 3 ∨ w = 4 := by omega
  rcases hw5 with rfl | rfl | rfl | rfl | rfl
  · obtain ⟨σ3, t1, t2⟩ := x_needsC s3 s4 s5
    obtain ⟨μ3, u1, u2⟩ := m_needsOf (d := dSh D) hO hb h24
    rw [if_pos (show nI 0 = 0 from rfl), t1, zb, if_neg (show ¬ (2 : Int32) ≤ nI 0 by decide), if_pos (show nI 0 = 0 from rfl), u1, zb]
    exact zGo_tmp h rfl rfl (xFr_tr hf2 (xFr_z (zFr_w t2 zSk_tmp))) (m_tmp u2)
  · obtain ⟨σ3, t1, t2⟩ := x_takesC s3 s4 s5
    obtain ⟨μ3, u1, u2⟩ := m_takesOf (d := dSh D) hO hb h24
    rw [if_neg (show ¬ nI 1 = 0 by decide), if_pos (show nI 1 = 1 from rfl), t1, zb, if_neg (show ¬ (2 : Int32) ≤ nI 1 by decide), if_neg (show ¬ nI 1 = 0 by decide), u1, zb]
    exact zGo_tmp h rfl rfl (xFr_tr hf2 (xFr_z (zFr_w t2 zSk_tmp))) (m_tmp u2)
  · obtain ⟨σ3, t1, t2⟩ := x_lastHour (b1 := 2) (by omega) (by omega) h24 s3 hR2
    obtain ⟨μ3, u1, u2⟩ := m_holds (d := dSh D) hO hb h24
    rw [if_neg (show ¬ nI 2 = 0 by decide), if_neg (show ¬ nI 2 = 1 by decide), if_pos (show nI 2 = 2 from rfl), t1, zb, if_pos (show (2 : Int32) ≤ nI 2 by decide), if_pos (show nI 2 = 2 from rfl), u1, zb, z_r01]
    have hf3 := xFr_tr hf2 (xFr_z (zFr_w t2 zLk_tmp))
    unfold zLast
    by_cases hq : zHo (dC D (Fs (dT D)) b (dSh D)) (dR D) hh = true
    · rw [if_pos hq, if_pos hq]
      have ht := (nTake_ok (dC D (Fs (dT D)) b (dSh D)) (dR D) hh)
      have := (zHo_iff.mp hq).1
      rw [show zO (some (hh + nTake (dC D (Fs (dT D)) b (dSh D)) (dR D) hh - 1)) = nI (hh + nTake (dC D (Fs (dT D)) b (dSh D)) (dR D) hh - 1) from rfl, if_neg (zO_ne (by omega))]
      exact zGo_tmp h rfl rfl hf3 (m_tmp u2)
    · rw [if_neg hq, if_neg hq, if_pos (show zO none = -1 from rfl)]
      exact zGo_tmp h rfl rfl hf3 (m_tmp u2)
  · obtain ⟨σ3, t1, t2⟩ := x_worthC s3 s4 s5
    obtain ⟨μ3, u1, u2⟩ := m_worthOf (d := dSh D) hO hb h24
    rw [if_neg (show ¬ nI 3 = 0 by decide), if_neg (show ¬ nI 3 = 1 by decide), if_neg (show ¬ nI 3 = 2 by decide), if_pos (show nI 3 = 3 from rfl), t1, zb, if_pos (show (2 : Int32) ≤ nI 3 by decide), if_neg (show ¬ nI 3 = 2 by decide), if_pos (show nI 3 = 3 from rfl), u1, zb]
    exact zGo_tmp h rfl rfl (xFr_tr hf2 (xFr_z (zFr_w t2 zSk_tmp))) (m_tmp u2)
  · obtain ⟨σ3, t1, t2⟩ := x_shakenHour (b1 := 2) (by omega) (by omega) (by omega) s3 hR2 (h := hh)
    obtain ⟨μ3, u1, u2⟩ := m_shakes (d := dSh D) hO hb (h := hh) (by omega)
    rw [if_neg (show ¬ nI 4 = 0 by decide), if_neg (show ¬ nI 4 = 1 by decide), if_neg (show ¬ nI 4 = 2 by decide), if_neg (show ¬ nI 4 = 3 by decide), t1, zb, if_pos (show (2 : Int32) ≤ nI 4 by decide), if_neg (show ¬ nI 4 = 2 by decide), if_neg (show ¬ nI 4 = 3 by decide), u1, zb]
    exact zGo_tmp h rfl rfl (xFr_tr hf2 (xFr_z (zFr_w t2 zLk_tmp))) (m_tmp u2)
end CA1

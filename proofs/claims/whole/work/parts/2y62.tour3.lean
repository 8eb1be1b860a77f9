/-! ===== calls: tour, deal ===== -/
section TOUR3
variable {θ θm : sv_T} {σ μ : sv_S} {tc : Nat} {Fs : Nat → Nat → (Nat → Int32) → Int32} {D : zD}
theorem m_isShaken (hD : zDok D) (hM : mMk μ D) {b : Nat} (hb : b < dM D) : q_X8_isShaken θm (nI b) μ = some (if dH D b = 1 then 1 else 0, μ) := by
  have hM6 := hD.1
  have h1 := (hD.2.2.1 b hb).2.2.2
  unfold q_X8_isShaken
  rw [z_3b2, if_neg (z_bd (by omega) (by omega)), nI_clamp (by omega), (hM.2.2.1 b hb).2.2.2]
  by_cases h : dH D b = 1
  · rw [if_pos (show nI (dH D b) = 1 by rw [h]; rfl), if_pos h]
  · rw [if_neg (show ¬ nI (dH D b) = 1 from fun q => h ((nI_eq (by omega) (by omega)).mp q)), if_neg h]
/-- a sheet that is to tell a tour: both sides refuse it, or it is one -/
theorem z_refuse (hB : sx_base θ) (hD : zDok D) (hX : xMk σ 1 D) (hM : mMk μ D) {s q n : Nat} {o1 : Option Nat} {a1 : Int32} {f : Nat → Nat} (hs : s < 4) (hn : n ≤ 40) (hr : zRd1 σ μ s q n) (hf : f = fun j => (σ.1 (34 + 2 * s + 1) j).toInt.toNat) :
    ∀ (r i fuel : Nat), n - i = r → i ≤ n → zDis f (dM D) i → (∀ j, j < i → σ.1 (34 + 2 * s + 1) j = nI (f j)) →
      (q_X7_tourRefusal_B22 θ o1 (fuel + r + 1) (34 + 2 * s) (nI (tBits f i)) (nI i) σ = some (-2, σ) ∧ q_X8_tourBad_B16 θm a1 (fuel + r + 1) (nI s) (nI (tBits f i)) (nI i) μ = some (-2, μ)) ∨
      (q_X7_tourRefusal_B22 θ o1 (fuel + r + 1) (34 + 2 * s) (nI (tBits f i)) (nI i) σ = some (0, σ) ∧ q_X8_tourBad_B16 θm a1 (fuel + r + 1) (nI s) (nI (tBits f i)) (nI i) μ = some (0, μ) ∧ zDis f (dM D) n ∧ ∀ j, j < n → σ.1 (34 + 2 * s + 1) j = nI (f j)) := by
  have l6 : sv_len θ 6 = 6 := sx_L (sx_c6 hB)
  have hM6 := hD.1
  obtain ⟨r1, r2, r3, r4, r5, r6⟩ := hr
  intro r
  induction r with
  | zero =>
    intro i fuel h1 h2 hd hit
    have : i = n := by omega
    subst this
    refine Or.inr ⟨?_, ?_, hd, hit⟩
    · show q_X7_tourRefusal_B22_b θ o1 _ (34 + 2 * s) _ (nI i) σ = _
      unfold q_X7_tourRefusal_B22_b
      rw [r2, if_pos (nI_le (Nat.le_refl _) (by omega))]
    · show q_X8_tourBad_B16_b θm a1 _ (nI s) _ (nI i) μ = _
      unfold q_X8_tourBad_B16_b
      rw [if_neg (z_bd hs (by omega)), nI_clamp (n := s) (by omega), r5, if_pos (nI_le (Nat.le_refl _) (by omega))]
  | succ r ih =>
    intro i fuel h1 h2 hd hit
    obtain ⟨p1, p2⟩ := zDis_pc hM6 i hd
    have hi6 := zDis_6 hM6 hd
    have eX : q_X7_tourRefusal_B22 θ o1 (fuel + (r + 1) + 1) (34 + 2 * s) (nI (tBits f i)) (nI i) σ = q_X7_tourRefusal_B22_b θ o1 (q_X7_tourRefusal_B22 θ o1 (fuel + (r + 1))) (34 + 2 * s) (nI (tBits f i)) (nI i) σ := rfl
    have eM : q_X8_tourBad_B16 θm a1 (fuel + (r + 1) + 1) (nI s) (nI (tBits f i)) (nI i) μ = q_X8_tourBad_B16_b θm a1 (q_X8_tourBad_B16 θm a1 (fuel + (r + 1))) (nI s) (nI (tBits f i)) (nI i) μ := rfl
    rw [eX, eM]
    unfold q_X7_tourRefusal_B22_b q_X8_tourBad_B16_b
    rw [r2, if_neg (nI_ge (by omega) (by omega)), x_readI hB hs (by omega), zb, if_neg (z_bd (n := s) (L := 4) hs (by omega)), nI_clamp (n := s) (by omega), r5, if_neg (nI_ge (by omega) (by omega)), z_40, if_neg (z_bd (n := 40 * s + i) (L := 160) (by omega) (by omega)), nI_clamp (n := 40 * s + i) (by omega), ← r6 i (by omega), zl]
    rcases z_one hD (σ.1 (34 + 2 * s + 1) i) with z | ⟨b, hb, hbe⟩
    · rw [x_hasN hX z, zb, if_pos p00, m_oneN hD hM z, zb, if_pos p00]
      exact Or.inl ⟨rfl, rfl⟩
    have hfi : f i = b := by rw [hf]; show (σ.1 (34 + 2 * s + 1) i).toInt.toNat = b; rw [hbe, z_nI (by omega)]; rfl
    have h61 := (hD.2.2.1 b hb).2.2.2
    have k4 : σ.1 6 b = nI (dH D b) := (hX.2.2.1 b hb).2.2.2
    rw [hbe, x_hasY hD hX hb, zb, if_neg n10, z_at (by rw [l6]; omega), zb, l6, zat_nI (by omega) (by omega), k4, m_oneY hD hM hb, zb, if_neg n10, m_isShaken hD hM hb, zb, z_r01]
    by_cases hsh : dH D b = 1
    · rw [if_pos hsh, if_neg (show ¬ nI (dH D b) = 0 by rw [hsh]; decide)]
      exact Or.inl ⟨rfl, rfl⟩
    have h0 : dH D b = 0 := by omega
    rw [if_neg hsh, if_pos (show nI (dH D b) = 0 by rw [h0]; rfl), x_hasBit p1 (by omega), zb, z_r01, z_bit _ p1 b (by omega)]
    by_cases hbit : (tBits f i).testBit b = true
    · rw [if_pos hbit, if_pos hbit, if_pos (show (1 : Int32) = 1 from rfl)]
      exact Or.inl ⟨rfl, rfl⟩
    rw [if_neg hbit, if_neg hbit, if_neg (show ¬ (0 : Int32) = 1 by decide), (z_orb _ p1 b (by omega)).1, zl, zl, zl, zl, nI_1]
    have hbits : tBits f i ||| 2 ^ b = tBits f (i + 1) := by show _ = tBits f i ||| 2 ^ f i; rw [hfi]
    rw [hbits]
    have hd' : zDis f (dM D) (i + 1) := fun j hj => by
      by_cases e : j = i
      · subst e
        rw [hfi]
        exact ⟨hb, by simpa using hbit⟩
      · exact hd j (by omega)
    exact ih (i + 1) fuel (by omega) (by omega) hd' (fun j hj => by
      by_cases e : j = i
      · subst e; rw [hfi]; exact hbe
      · exact hit j (by omega))
theorem x_useRain (hB : sx_base θ) (hD : zDok D) (hX : xMk σ 1 D) : ∃ σ', q_X3_useRain θ 2 σ = some ((), σ') ∧ xFr (fun i _ => i = 27) σ σ' ∧ xRn θ σ' 27 (dR D) := by
  have l2 : sv_len θ 2 = 48 := sx_L (sx_c2 hB)
  have l7 : sv_len θ 27 = 48 := sx_L (sx_c27 hB)
  refine ⟨sv_sR σ 27 (va_cpy (σ.1 2) (σ.1 27) (0 : Int32).toNatClampNeg (0 : Int32).toNatClampNeg (48 : Int32).toNatClampNeg), ?_, xFr_R (fun _ => rfl), l7, fun k hk => ⟨?_, hD.2.1 k hk⟩⟩
  · unfold q_X3_useRain
    rw [l2, if_pos (show Int32.ofNat 48 = (48 : Int32) from rfl), if_pos (show sv_cp (0 : Int32) (0 : Int32) (48 : Int32) 48 48 by decide), zl]
  · rw [zR_v, z_cpy (n := 48) rfl hk]; exact hX.2.1 k hk
/-- a tour of a sheet is gone, both sides -/
theorem z_tour (h : zRel θ θm σ μ tc Fs D) {s q n : Nat} {f : Nat → Nat} (hs : s < 4) (hn : n ≤ 40) (hr : zRd1 σ μ s q n) (hd : zDis f (dM D) n) (hit : ∀ j, j < n → σ.1 (34 + 2 * s + 1) j = nI (f j)) :
    ∃ σ1 σ2 μ', q_X3_useRain θ 2 σ = some ((), σ1) ∧ q_X3_run θ (34 + 2 * s + 1) (σ1.1 (34 + 2 * s) 2) σ1 = some ((), σ2) ∧ q_X8_goes θm (nI s) μ = some ((), μ') ∧ xFr zTmp σ σ2 ∧ mFr mTmp μ μ' ∧ ∃ T : zT, T.2.1 < 64 ∧ xT σ2 T ∧ mT μ' T := by
  have hB := h.1
  obtain ⟨hD, hT, hX, hM⟩ := h.2.2.2.1
  obtain ⟨r1, r2, r3, r4, r5, r6⟩ := hr
  obtain ⟨σ1, u1, u2, u3⟩ := x_useRain (θ := θ) hB hD hX
  have hX1 : xMk σ1 1 D := xMk_fr hX u2 (fun i j h1 h2 => by omega)
  have hF1 := xText_fr (zRel_t h) u2 (fun i j h1 h2 => by omega)
  obtain ⟨σ2, v1, v2, v3⟩ := x_run (θ := θ) hB hD (b2 := 34 + 2 * s + 1) (n := n) (L := 40) hX1 u3 hF1 (x_rowL hB hs) ⟨hn, by omega⟩ ⟨by omega, by omega, by omega, by omega⟩ (fun i hi => by rw [(u2.2 _ _ (by omega)).1]; exact hit i hi) hd
  obtain ⟨μ', w1, w2, w3⟩ := m_goes (θm := θm) (zRel_ok h) hs hn r5 (fun i hi => by rw [← r6 i hi]; exact hit i hi) hd
  have e2 : σ1.1 (34 + 2 * s) 2 = nI n := by rw [(u2.2 _ _ (by omega)).1]; exact r2
  refine ⟨σ1, σ2, μ', u1, by rw [e2]; exact v1, w1, xFr_tr (xFr_w u2 (fun i j q => by unfold zTmp; omega)) (xFr_w v2 zPl_tmp), w2, _, (tRun_ok (F := Fs (dT D)) (rn := dR D) hD.1 n hd).1.1, v3, w3⟩
theorem c_tour (h : zRel θ θm σ μ tc Fs D) (a1 a2 : Int32) : zGo θ θm tc Fs (q_X7_tour θ a1 a2 σ) (q_X8_tour θm a1 a2 μ) := by
  have hB := h.1
  obtain ⟨hD, hT, hX, hM⟩ := h.2.2.2.1
  have isSh : ∀ q : Int32 → sv_S → Option (Int32 × sv_S), True := fun _ => trivial
  unfold q_X7_tour q_X8_tour
  rcases pk_ix a2 (n := 4) (by omega) with q | q | ⟨w, hw, rfl⟩
  · rw [if_pos q]
    rcases z_sheet a1 with z | ⟨s, hs, rfl⟩
    · rw [m_shN z, zb, if_pos p00]; exact zGo_same h rfl rfl
    · rw [m_shY hs, zb, if_neg n10, m_inN q, zb, if_pos p00]; exact zGo_same h rfl rfl
  · have h2 : ¬ a2 ≤ (3 : Int32) := fun z => by rw [z_le, show (3 : Int32).toInt = 3 from rfl] at z; rw [z_le, z_nI (by omega)] at q; omega
    rw [if_neg (z_pos (by omega) q), if_neg h2]
    rcases z_sheet a1 with z | ⟨s, hs, rfl⟩
    · rw [m_shN z, zb, if_pos p00]; exact zGo_same h rfl rfl
    · rw [m_shY hs, zb, if_neg n10, m_inO q (by omega) (show (3 : Int64).toInt < (4 : Nat) by decide), zb, if_pos p00]; exact zGo_same h rfl rfl
  rw [if_neg (nI_pos (by omega)), if_pos (show nI w ≤ (3 : Int32) from nI_le (b := 3) (by omega) (by omega))]
  rcases z_sheet a1 with z | ⟨s, hs, rfl⟩
  · rw [x_rowAtN z, zb, zon, m_shN z, zb, if_pos p00]
    unfold q_X7_tourRefusal
    rw [zon, zb]
    exact zGo_same h rfl rfl
  rw [x_rowAtY h hs, zb, zos, if_pos (x_row hB hs), m_shY hs, zb, if_neg n10, m_inY (c := 3) (show (w : Int) ≤ 3 by omega) (by omega), zb, if_neg n10]
  unfold q_X7_tourRefusal q_X8_tourBad
  rw [zos, if_pos (x_row hB hs), if_neg (z_bd hs (by omega)), nI_clamp (n := s) (by omega)]
  obtain ⟨-, hr⟩ := h.2.2.2.2.2.2 s hs
  rcases hr with ⟨r1, r2⟩ | ⟨q, n, r1, r2, r3, r4, r5, r6, r7, r8⟩
  · rw [r1, if_pos (show (-1 : Int32) = -1 from rfl), zb, if_neg (show ¬ (-11 : Int32) = 0 by decide), r2, if_pos p00, zb, if_neg (show ¬ (-11 : Int32) = 0 by decide)]
    exact zGo_same h rfl rfl
  rw [r3, if_neg (zO_ne (v := q) (by omega)), r5, if_neg n10]
  have hrd : zRd1 σ μ s q n := ⟨r3, r4, r5, r6, r7, r8⟩
  have hz := z_refuse (θ := θ) (θm := θm) (o1 := some (34 + 2 * s)) (a1 := nI s) hB hD hX hM hs r2 hrd rfl n 0 (199 - n) (by omega) (by omega) (fun i hi => by omega) (fun j hj => by omega)
  rw [show 199 - n + n + 1 = sv_N by unfold sv_N; omega] at hz
  rcases hz with ⟨e1, e2⟩ | ⟨e1, e2, hd, hit⟩
  · have e1' : q_X7_tourRefusal_B22 θ (some (34 + 2 * s)) sv_N (34 + 2 * s) (0 : Int32) (0 : Int32) σ = some (-2, σ) := e1
    have e2' : q_X8_tourBad_B16 θm (nI s) sv_N (nI s) (0 : Int32) (0 : Int32) μ = some (-2, μ) := e2
    rw [e1', zb, if_neg (show ¬ (-2 : Int32) = 0 by decide), e2', zb, if_neg (show ¬ (-2 : Int32) = 0 by decide)]
    exact zGo_same h rfl rfl
  have e1' : q_X7_tourRefusal_B22 θ (some (34 + 2 * s)) sv_N (34 + 2 * s) (0 : Int32) (0 : Int32) σ = some (0, σ) := e1
  have e2' : q_X8_tourBad_B16 θm (nI s) sv_N (nI s) (0 : Int32) (0 : Int32) μ = some (0, μ) := e2
  obtain ⟨σ1, σ2, μ', u1, u2, u3, u4, u5, T, t1, ⟨t2, t3, t4, t5⟩, ⟨t6, t7, t8, t9, t10⟩⟩ := z_tour h hs r2 hrd hd hit
  rw [e1', zb, if_pos p00, u1, zb, u2, zb, e2', zb, if_pos p00, u3, zb]
  have hw4 : w = 0 ∨ w = 1 ∨ w = 2 ∨ w = 3 := by omega
  rcases hw4 with rfl | rfl | rfl | rfl
  · rw [if_pos (show nI 0 = 0 from rfl), if_pos (show nI 0 = 0 from rfl), t2, t6]
    exact zGo_tmp h rfl rfl u4 u5
  · rw [if_neg (show ¬ nI 1 = 0 by decide), if_pos (show nI 1 = 1 from rfl), if_neg (show ¬ nI 1 = 0 by decide), if_pos (show nI 1 = (1 : Int32) from rfl), t3, z_bc t1, zb, t7]
    exact zGo_tmp h rfl rfl u4 u5
  · rw [if_neg (show ¬ nI 2 = 0 by decide), if_neg (show ¬ nI 2 = 1 by decide), if_pos (show nI 2 = 2 from rfl), if_neg (show ¬ nI 2 = 0 by decide), if_neg (show ¬ nI 2 = (1 : Int32) by decide), if_pos (show nI 2 = (2 : Int32) from rfl), t4, t8]
    exact zGo_tmp h rfl rfl u4 u5
  · rw [if_neg (show ¬ nI 3 = 0 by decide), if_neg (show ¬ nI 3 = 1 by decide), if_neg (show ¬ nI 3 = 2 by decide), if_neg (show ¬ nI 3 = 0 by decide), if_neg (show ¬ nI 3 = (1 : Int32) by decide), if_neg (show ¬ nI 3 = (2 : Int32) by decide), t5, t9]
    exact zGo_tmp h rfl rfl u4 u5
end TOUR3

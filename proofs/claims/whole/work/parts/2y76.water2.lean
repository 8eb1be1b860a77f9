section WTA
variable {θ θm : sv_T} {σ μ : sv_S} {tc : Nat} {Fs : Nat → Nat → (Nat → Int32) → Int32} {D : zD} {F : Nat → (Nat → Int32) → Int32}
theorem kWt_const (hD : zDok D) {s h : Nat} (h0 : zWe D s = 0) : ∀ j, h + j ≤ 24 → kWt D F (24 * s + h + j) = kWt D F (24 * s + h)
  | 0, _ => rfl
  | j + 1, hj => by
    have ih := kWt_const hD (h := h) h0 j (by omega)
    have e : kWv D F (24 * s + h + j) = (kV D F (dR D) 6 (dL D)).1 := by
      unfold kWv
      rw [kV_same hD (fun b hb hL x hx => kR9_o (fun q => by
        have hst : dS D b = s := by omega
        have hb2 := (zWe_bit hD hb).mpr ⟨hL, hst⟩
        rw [h0] at hb2
        simp at hb2))]
    have hg := kWt_ge (D := D) (F := F) (24 * s + h + j)
    show kWt D F ((24 * s + h + j) + 1) = _
    simp only [kWt]
    rw [e, if_neg (by omega)]
    exact ih
theorem x_wEnd (hB : sx_base θ) (hD : zDok D) {s : Nat} (hW : xWi θ σ D F s) : ∃ σ', q_X3_fillEnds θ (nI (zWe D s)) σ = some ((), σ') ∧ xFr zFe σ σ' ∧ xRy θ σ' D F (dR D) := by
  have hSlt : zWe D s < 64 := zWe_lt hD
  have hSL : ∀ b, b < 6 → (zWe D s).testBit b = true → (dL D).testBit b = true := fun b hb q => ((zWe_bit hD hb).mp q).1
  have hpc := dL_pc hD
  have hM6 := hD.1
  obtain ⟨σ', g1, g2, g3, g4⟩ := x_fillEnds (θ := θ) hB hD hW.1 hSlt hSL (fun b hb q h hh => hW.2.1 b hb (hSL b hb q) h hh)
  refine ⟨σ', g1, g2, xPr_fe hW.1 g2, fun b hb hL => ⟨fun h hh => xL_fe (hW.2.1 b hb hL h hh) g2, ?_⟩⟩
  cases hq : (zWe D s).testBit b with
  | true => exact g3 b hb hq
  | false =>
    intro c hc h hh
    rw [g4 b (dSh D + c) h hb (by omega) hh hq]
    exact hW.2.2 b hb hL (zWe_no hD hb hL hq) c hc h hh
theorem x_hours (hB : sx_base θ) (hD : zDok D) {s : Nat} (hs : s < 2) {k21 : Int32 → sv_S → Option (Unit × sv_S)} : ∀ (r h fuel : Nat) (σ : sv_S), 24 - h = r → h ≤ 24 → xWi θ σ D F s → σ.1 24 15 = (kWt D F (24 * s + h)).1 → σ.1 24 16 = nI (kWt D F (24 * s + h)).2 → (kWt D F (24 * s + h)).2 ≤ 5994 →
    ∃ σ', q_X3_waterAll_B48 θ k21 (fuel + r + 1) (nI s) (nI (zWe D s)) (nI h) σ = k21 (nI (s + 1)) σ' ∧ xFr zPp σ σ' ∧ xRy θ σ' D F (dR D) ∧ σ'.1 24 15 = (kWt D F (24 * (s + 1))).1 ∧ σ'.1 24 16 = nI (kWt D F (24 * (s + 1))).2 ∧ (kWt D F (24 * (s + 1))).2 ≤ 5994 := by
  intro r
  induction r with
  | zero =>
    intro h fuel σ h1 h2 h3 h4 h5 h6
    have : h = 24 := by omega
    subst this
    obtain ⟨σ', g1, g2, g3⟩ := x_wEnd (θ := θ) hB hD h3
    rw [show 24 * s + 24 = 24 * (s + 1) by omega] at h4 h5 h6
    refine ⟨σ', ?_, xFr_w g2 (fun i j q => Or.inr (Or.inl q)), g3, by rw [(g2.2 _ _ (by unfold zFe zCa; omega)).1]; exact h4, by rw [(g2.2 _ _ (by unfold zFe zCa; omega)).1]; exact h5, h6⟩
    show q_X3_waterAll_B48_b θ k21 _ (nI s) (nI (zWe D s)) (nI 24) σ = _
    unfold q_X3_waterAll_B48_b
    rw [if_pos (show (24 : Int32) ≤ nI 24 by decide), g1, zb, zl, nI_1]
  | succ r ih =>
    intro h fuel σ h1 h2 h3 h4 h5 h6
    have eu : q_X3_waterAll_B48 θ k21 (fuel + (r + 1) + 1) (nI s) (nI (zWe D s)) (nI h) σ = q_X3_waterAll_B48_b θ k21 (q_X3_waterAll_B48 θ k21 (fuel + (r + 1))) (nI s) (nI (zWe D s)) (nI h) σ := rfl
    have hSlt : zWe D s < 64 := zWe_lt hD
    by_cases h0 : zWe D s = 0
    · obtain ⟨σ', g1, g2, g3⟩ := x_wEnd (θ := θ) hB hD h3
      have hc := kWt_const (F := F) hD (h := h) h0 (24 - h) (by omega)
      rw [show 24 * s + h + (24 - h) = 24 * (s + 1) by omega] at hc
      refine ⟨σ', ?_, xFr_w g2 (fun i j q => Or.inr (Or.inl q)), g3, by rw [hc, (g2.2 _ _ (by unfold zFe zCa; omega)).1]; exact h4, by rw [hc, (g2.2 _ _ (by unfold zFe zCa; omega)).1]; exact h5, by rw [hc]; exact h6⟩
      rw [eu]
      unfold q_X3_waterAll_B48_b
      rw [if_neg (show ¬ (24 : Int32) ≤ nI h from nI_ge (b := 24) (by omega) (by omega)), if_pos (show nI (zWe D s) = 0 by rw [h0]; rfl), g1, zb, zl, nI_1]
    · obtain ⟨σ1, g1, g2, g3, g4, g5, g6⟩ := x_waterOne (θ := θ) hB hD hs (show h < 24 by omega) h3 h4 h5 h6
      have ek : kWt D F (24 * s + (h + 1)) = if (kWt D F (24 * s + h)).2 < kWv D F (24 * s + h) then (nI (100 * s + h), kWv D F (24 * s + h)) else kWt D F (24 * s + h) := by
        show kWt D F ((24 * s + h) + 1) = _
        simp only [kWt]
        rw [show (24 * s + h) / 24 = s by omega, show (24 * s + h) % 24 = h by omega]
      obtain ⟨σ', e1, e2, e3⟩ := ih (h + 1) fuel σ1 (by omega) (by omega) g3 (by
        rw [ek, g5]
        by_cases hl : (kWt D F (24 * s + h)).2 < kWv D F (24 * s + h)
        · rw [if_pos hl, if_pos hl]
        · rw [if_neg hl, if_neg hl]) (by
        rw [ek, g6]
        by_cases hl : (kWt D F (24 * s + h)).2 < kWv D F (24 * s + h)
        · rw [if_pos hl, if_pos hl]
        · rw [if_neg hl, if_neg hl]) (by
        rw [ek]
        by_cases hl : (kWt D F (24 * s + h)).2 < kWv D F (24 * s + h)
        · rw [if_pos hl]; exact g4
        · rw [if_neg hl]; exact h6)
      refine ⟨σ', ?_, xFr_tr g2 e2, e3⟩
      rw [eu]
      unfold q_X3_waterAll_B48_b
      rw [if_neg (show ¬ (24 : Int32) ≤ nI h from nI_ge (b := 24) (by omega) (by omega)), if_neg (nI_ne0 (by omega) (by omega)), g1, zb, zl, nI_1]
      exact e1
theorem x_waterAll (hB : sx_base θ) (hD : zDok D) (hR : xRy θ σ D F (dR D)) : ∃ σ', q_X3_waterAll θ σ = some ((), σ') ∧ xFr zPp σ σ' ∧ σ'.1 24 15 = (kWt D F 48).1 ∧ σ'.1 24 16 = nI (kWt D F 48).2 := by
  have f1 : xFr (fun i j => i = 24 ∧ 15 ≤ j) σ (sv_sI σ 24 15 (-1)) := xFr_I ⟨rfl, by omega⟩
  have key : ∀ τ, xRy θ σ D F (dR D) → xFr (fun i j => i = 24 ∧ 15 ≤ j) σ τ → xRy θ τ D F (dR D) := fun τ h hf =>
    ⟨xPr_fr h.1 hf (fun i j q => by omega) (fun i j q1 q2 => by omega) (fun j => by omega) (by omega), fun b hb hL => ⟨fun x hx => xL_fr ((h.2 b hb hL).1 x hx) hf (fun i j _ _ => by omega), xE_fr (h.2 b hb hL).2 hf (fun j => by omega)⟩⟩
  have R1 := key _ hR f1
  have h15 : (sv_sI σ 24 15 (-1)).1 24 15 = -1 := zI_v
  have e0 : q_X3_waterAll θ σ = sp_b (q_X3_seek θ ((sv_sI σ 24 15 (-1)).1 24 11) (6 : Int32) (sv_sI σ 24 15 (-1))) (fun r2 σ3 => sp_l (sv_sI σ3 24 16 r2) (fun σ4 => q_X3_waterAll_B21 θ sv_N (0 : Int32) σ4)) := by
    unfold q_X3_waterAll
    rw [zl]
  revert f1 R1 h15 e0
  generalize sv_sI σ 24 15 (-1) = σ1
  intro f1 R1 h15 e0
  obtain ⟨σ2, m1, m2, m3⟩ := x_seek (θ := θ) hB hD R1 (Nat.le_refl 6) (kOk_L hD (Nat.le_refl 6))
  have m1' : q_X3_seek θ (nI (dL D)) (6 : Int32) σ1 = some (nI (kWt D F 0).2, σ2) := m1
  have hk0 : (kWt D F 0).2 ≤ 5994 := m3.2.2.1
  have R2 := xRy_wk R1 m2
  have f3 : xFr (fun i j => i = 24 ∧ 15 ≤ j) σ2 (sv_sI σ2 24 16 (nI (kWt D F 0).2)) := xFr_I ⟨rfl, by omega⟩
  have R3 : xRy θ (sv_sI σ2 24 16 (nI (kWt D F 0).2)) D F (dR D) :=
    ⟨xPr_fr R2.1 f3 (fun i j q => by omega) (fun i j q1 q2 => by omega) (fun j => by omega) (by omega), fun b hb hL => ⟨fun x hx => xL_fr ((R2.2 b hb hL).1 x hx) f3 (fun i j _ _ => by omega), xE_fr (R2.2 b hb hL).2 f3 (fun j => by omega)⟩⟩
  have c15 : (sv_sI σ2 24 16 (nI (kWt D F 0).2)).1 24 15 = (kWt D F 0).1 := by rw [zI_o (by omega), (m2.2 _ _ (by unfold zWk; omega)).1]; exact h15
  have c16 : (sv_sI σ2 24 16 (nI (kWt D F 0).2)).1 24 16 = nI (kWt D F 0).2 := zI_v
  have f13 : xFr zPp σ (sv_sI σ2 24 16 (nI (kWt D F 0).2)) := xFr_tr (xFr_w f1 (fun i j q => by unfold zPp; omega)) (xFr_tr (xFr_w m2 zWk_pp) (xFr_w f3 (fun i j q => by unfold zPp; omega)))
  rw [e0, R1.1.2.2.2.1, m1', zb, zl]
  revert f13 R3 c15 c16
  generalize sv_sI σ2 24 16 (nI (kWt D F 0).2) = σ3
  intro R3 c15 c16 f13
  -- one street after the other
  have street : ∀ (s fuel : Nat) (τ : sv_S), s < 2 → xRy θ τ D F (dR D) → τ.1 24 15 = (kWt D F (24 * s)).1 → τ.1 24 16 = nI (kWt D F (24 * s)).2 → (kWt D F (24 * s)).2 ≤ 5994 →
      ∃ τ', q_X3_waterAll_B21 θ (fuel + 1) (nI s) τ = q_X3_waterAll_B21 θ fuel (nI (s + 1)) τ' ∧ xFr zPp τ τ' ∧ xRy θ τ' D F (dR D) ∧ τ'.1 24 15 = (kWt D F (24 * (s + 1))).1 ∧ τ'.1 24 16 = nI (kWt D F (24 * (s + 1))).2 ∧ (kWt D F (24 * (s + 1))).2 ≤ 5994 := by
    intro s fuel τ hs h1 h2 h3 h4
    have hL := dL_lt hD
    have hI := (zIs_lt (D := D) (s := s) (dM D) hD.1).1
    obtain ⟨τ', g1, g2⟩ := x_hours (θ := θ) (F := F) hB hD hs (k21 := q_X3_waterAll_B21 θ fuel) 24 0 175 τ (by omega) (by omega) ⟨h1.1, fun b hb hL x hx => (h1.2 b hb hL).1 x hx, fun b hb hL _ => (h1.2 b hb hL).2⟩ h2 h3 h4
    refine ⟨τ', ?_, g2⟩
    show q_X3_waterAll_B21_b θ (q_X3_waterAll_B21 θ fuel) (nI s) τ = _
    unfold q_X3_waterAll_B21_b
    rw [if_neg (show ¬ (2 : Int32) ≤ nI s from nI_ge (b := 2) hs (by omega)), x_inStreet hB hD h1.1.1 hs, zb, h1.1.2.2.2.1, (z_andb _ hL _ hI).1, zl]
    exact g1
  obtain ⟨τ1, s1, s2, s3, s4, s5, s6⟩ := street 0 199 σ3 (by omega) R3 c15 c16 hk0
  obtain ⟨τ2, t1, t2, t3, t4, t5, t6⟩ := street 1 198 τ1 (by omega) s3 s4 s5 s6
  refine ⟨τ2, ?_, xFr_tr f13 (xFr_tr s2 t2), t4, t5⟩
  have e2 : q_X3_waterAll_B21 θ 198 (nI 2) τ2 = some ((), τ2) := by
    show q_X3_waterAll_B21_b θ (q_X3_waterAll_B21 θ 197) (nI 2) τ2 = _
    unfold q_X3_waterAll_B21_b
    rw [if_pos (show (2 : Int32) ≤ nI 2 by decide)]
  rw [show sv_N = 199 + 1 by unfold sv_N; omega]
  exact s1.trans (t1.trans e2)
theorem kSh_rain {rn rn' : Nat → Nat} : kSh (dRain D rn') F rn = kSh D F rn := by funext b c h; rfl
theorem kWo_rain {rn rn' : Nat → Nat} : kWo (dRain D rn') F rn = kWo D F rn := by funext b c h; rfl
theorem zUb_rain {rn' : Nat → Nat} : ∀ n, zUb (dRain D rn') n = zUb D n
  | 0 => rfl
  | n + 1 => by
    simp only [zUb]
    rw [zUb_rain n]
    rfl
theorem kV_rain {rn rn' : Nat → Nat} {n S : Nat} : kV (dRain D rn') F rn n S = kV D F rn n S := by
  unfold kV
  rw [kSh_rain, kWo_rain]
theorem m_waterOne (hO : mOk θm μ D F) {k : Nat} (hk : k < 48) : ∃ μ', q_X8_bestOf θm (nI (dL D)) (6 : Int32) (sv_sI μ 4 k (9 : Int32)) = some (nI (kWv D F k), μ') ∧ mFr mTmp (sv_sI μ 4 k 9) μ' ∧ kWv D F k ≤ 5994 ∧ q_X8_openSet θm (sv_sI μ 4 k (9 : Int32)) = some (nI (dL D), sv_sI μ 4 k (9 : Int32)) := by
  obtain ⟨hD, hM, hT⟩ := hO
  have hf : mFr (fun i _ => i = 4) μ (sv_sI μ 4 k 9) := mFr_I rfl
  obtain ⟨D', hD'⟩ : ∃ D', D' = dRain D (kR9 (dR D) k) := ⟨_, rfl⟩
  have e1 : dM D' = dM D := by rw [hD']; rfl
  have e2 : dR D' = kR9 (dR D) k := by rw [hD']; rfl
  have e3 : dK D' = dK D := by rw [hD']; rfl
  have e4 : dN D' = dN D := by rw [hD']; rfl
  have e5 : dS D' = dS D := by rw [hD']; rfl
  have e6 : dH D' = dH D := by rw [hD']; rfl
  have e7 : dW D' = dW D := by rw [hD']; rfl
  have e8 : dT D' = dT D := by rw [hD']; rfl
  have e9 : dL D' = dL D := by show zUb D' (dM D') = zUb D (dM D); rw [e1, hD']; exact zUb_rain _
  have e10 : ∀ S, kV D' F (kR9 (dR D) k) 6 S = kV D F (kR9 (dR D) k) 6 S := fun S => by rw [hD']; exact kV_rain
  have okD : zDok D' := by rw [hD']; exact dRain_ok hD (kR9_le hD.2.1)
  clear hD'
  have hM' : mMk (sv_sI μ 4 k 9) D' := by
    refine ⟨?_, fun j hj => ?_, fun b hb => ?_, ?_, ?_⟩
    · rw [e1, hf.2 0 11 (by omega)]; exact hM.1
    · rw [e2]
      by_cases e : j = k
      · subst e; rw [kR9_v]; exact zI_v
      · rw [kR9_o e, zI_o (Or.inr e)]; exact hM.2.1 j hj
    · rw [e1] at hb
      rw [e3, e4, e5, e6, hf.2 _ _ (by omega), hf.2 _ _ (by omega), hf.2 _ _ (by omega), hf.2 _ _ (by omega)]
      exact hM.2.2.1 b hb
    · rw [e7, hf.2 0 7 (by omega)]; exact hM.2.2.2.1
    · rw [e8, hf.2 0 4 (by omega)]; exact hM.2.2.2.2
  have hT' : mText θm (sv_sI μ 4 k 9) (dT D') F := by rw [e8]; exact mText_fr hT hf (fun i j h1 h2 => by omega)
  have hk' := kOk_L okD (Nat.le_refl 6)
  obtain ⟨μ', g1, g2, g3⟩ := m_bestOf (θm := θm) (D := D') ⟨okD, hM', hT'⟩ (Nat.le_refl 6) hk'
  have ho := m_openSet (θm := θm) okD hM'
  rw [e2, e9, e10] at g1 g3
  refine ⟨μ', g1, g2, g3.2.2.1, ?_⟩
  rw [ho]
  show some (nI (dL D'), _) = _
  rw [e9]
theorem m_water {a1 : Int32} {w : Nat} (hw : w < 2) : ∀ (r k fuel : Nat) (μ : sv_S), 48 - k = r → k ≤ 48 → mOk θm μ D F → (kWt D F k).2 ≤ 5994 → ∃ μ', q_X8_water_B45 θm a1 (fuel + r + 1) (nI w) (kWt D F k).1 (nI (kWt D F k).2) (nI k) μ = some (if w = 0 then (kWt D F 48).1 else nI (kWt D F 48).2, μ') ∧ mFr mTmp μ μ' := by
  intro r
  induction r with
  | zero =>
    intro k fuel μ h1 h2 hO h6
    have : k = 48 := by omega
    subst this
    refine ⟨μ, ?_, mFr_rf⟩
    show q_X8_water_B45_b θm a1 _ (nI w) _ _ (nI 48) μ = _
    unfold q_X8_water_B45_b
    rw [if_pos (show (48 : Int32) ≤ nI 48 by decide)]
    by_cases h0 : w = 0
    · rw [if_pos h0, if_pos (show nI w = 0 by rw [h0]; rfl)]
    · rw [if_neg h0, if_neg (nI_ne0 (by omega) (by omega))]
  | succ r ih =>
    intro k fuel μ h1 h2 hO h6
    have hk : k < 48 := by omega
    obtain ⟨μ1, g1, g2, g3, g4⟩ := m_waterOne (θm := θm) hO hk
    -- the rain is put back
    have hback : mFr mTmp μ (sv_sI μ1 4 k (μ.1 4 k)) := by
      refine ⟨g2.1, fun i j hij => ?_⟩
      by_cases e : i = 4 ∧ j = k
      · obtain ⟨rfl, rfl⟩ := e; exact zI_v
      · have hor : i ≠ 4 ∨ j ≠ k := by omega
        rw [zI_o hor, g2.2 i j hij, zI_o hor]
    have ek : kWt D F (k + 1) = if (kWt D F k).2 < kWv D F k then (nI (100 * (k / 24) + k % 24), kWv D F k) else kWt D F k := by simp only [kWt]
    have eu : q_X8_water_B45 θm a1 (fuel + (r + 1) + 1) (nI w) (kWt D F k).1 (nI (kWt D F k).2) (nI k) μ = q_X8_water_B45_b θm a1 (q_X8_water_B45 θm a1 (fuel + (r + 1))) (nI w) (kWt D F k).1 (nI (kWt D F k).2) (nI k) μ := rfl
    have hplace : (100 : Int32) * (nI k / (24 : Int32)) + (nI k - nI k / (24 : Int32) * (24 : Int32)) = nI (100 * (k / 24) + k % 24) := by
      rw [show (24 : Int32) = nI 24 from rfl, show (100 : Int32) = nI 100 from rfl, pk_rem (by omega) (by omega) (by omega), pk_div (by omega) (by omega) (by omega), pk_mul, nI_add]
    by_cases hl : (kWt D F k).2 < kWv D F k
    · rw [if_pos hl] at ek
      obtain ⟨μ', e1, e2⟩ := ih (k + 1) fuel _ (by omega) (by omega) (mOk_tmp hO hback) (by rw [ek]; exact g3)
      refine ⟨μ', ?_, mFr_tr hback e2⟩
      rw [ek] at e1
      rw [eu]
      unfold q_X8_water_B45_b
      rw [if_neg (show ¬ (48 : Int32) ≤ nI k from nI_ge (b := 48) hk (by omega)), if_neg (z_bd hk (by omega)), nI_clamp (by omega), zl, if_neg (z_bn hk (by omega)), zl, g4, zb, g1, zb, if_neg (z_bn hk (by omega)), zl, if_neg (nI_ge hl (by omega)), hplace, zl, nI_1, zl]
      exact e1
    · rw [if_neg hl] at ek
      obtain ⟨μ', e1, e2⟩ := ih (k + 1) fuel _ (by omega) (by omega) (mOk_tmp hO hback) (by rw [ek]; exact h6)
      refine ⟨μ', ?_, mFr_tr hback e2⟩
      rw [ek] at e1
      rw [eu]
      unfold q_X8_water_B45_b
      rw [if_neg (show ¬ (48 : Int32) ≤ nI k from nI_ge (b := 48) hk (by omega)), if_neg (z_bd hk (by omega)), nI_clamp (by omega), zl, if_neg (z_bn hk (by omega)), zl, g4, zb, g1, zb, if_neg (z_bn hk (by omega)), zl, if_pos (nI_le (by omega) (by omega)), zl, nI_1]
      exact e1
theorem c_water (h : zRel θ θm σ μ tc Fs D) (a1 : Int32) : zGo θ θm tc Fs (q_X7_water θ a1 σ) (q_X8_water θm a1 μ) := by
  obtain ⟨hD, hT, hX, hM⟩ := h.2.2.2.1
  have hM6 := hD.1
  have hO := zRel_ok h
  have hsh := dSh_le hD
  unfold q_X7_water q_X8_water
  rcases pk_ix a1 (n := 2) (by omega) with q | q | ⟨w, hw, rfl⟩
  · rw [if_pos q, m_inN q, zb, if_pos p00]; exact zGo_same h rfl rfl
  · have h2 : ¬ a1 ≤ (1 : Int32) := fun z => by rw [z_le, show (1 : Int32).toInt = 1 from rfl] at z; rw [z_le, z_nI (by omega)] at q; omega
    rw [if_neg (z_pos (by omega) q), if_neg h2, m_inO q (by omega) (show (1 : Int64).toInt < (2 : Nat) by decide), zb, if_pos p00]; exact zGo_same h rfl rfl
  rw [if_neg (nI_pos (by omega)), if_pos (show nI w ≤ (1 : Int32) from nI_le (b := 1) (by omega) (by omega)), m_inY (c := 1) (show (w : Int) ≤ 1 by omega) (by omega), zb, if_neg n10]
  rw [x_shakenCount (θ := θ) h.1 hD hX, zb, m_shakenMany (θm := θm) hD hM, zb, hX.1, hM.1, pk_sub hsh]
  by_cases h4 : dM D - dSh D ≤ 4
  · have h4' : nI (dM D - dSh D) ≤ (4 : Int32) := nI_le (b := 4) h4 (by omega)
    rw [if_pos h4', if_pos h4']
    obtain ⟨σ1, u1, u2, u3⟩ := x_prepare (θ := θ) h.1 hD hX (zRel_t h)
    obtain ⟨σ2, v1, v2, v3, v4⟩ := x_waterAll (θ := θ) h.1 hD u3
    obtain ⟨μ1, w1, w2, w3⟩ := m_bestOf (θm := θm) hO (Nat.le_refl 6) (kOk_L hD (Nat.le_refl 6))
    have w1' : q_X8_bestOf θm (nI (dL D)) (6 : Int32) μ = some (nI (kWt D (Fs (dT D)) 0).2, μ1) := w1
    have hk0 : (kWt D (Fs (dT D)) 0).2 ≤ 5994 := w3.2.2.1
    obtain ⟨μ2, y1, y2⟩ := m_water (θm := θm) (a1 := nI w) hw 48 0 151 μ1 (by omega) (by omega) (mOk_tmp hO w2) hk0
    have y1' : q_X8_water_B45 θm (nI w) sv_N (nI w) (-1 : Int32) (nI (kWt D (Fs (dT D)) 0).2) (0 : Int32) μ1 = some (if w = 0 then (kWt D (Fs (dT D)) 48).1 else nI (kWt D (Fs (dT D)) 48).2, μ2) := y1
    have fX : xFr zTmp σ σ2 := xFr_w (xFr_tr u2 v2) zPp_tmp
    rw [u1, zb, v1, zb, m_openSet (θm := θm) hD hM, zb, w1', zb, y1', v3, v4]
    by_cases h0 : w = 0
    · rw [if_pos (show nI w = 0 by rw [h0]; rfl), if_pos h0]
      exact zGo_tmp h rfl rfl fX (mFr_tr w2 y2)
    · rw [if_neg (nI_ne0 (by omega) (by omega)), if_neg h0]
      exact zGo_tmp h rfl rfl fX (mFr_tr w2 y2)
  · have h4' : ¬ nI (dM D - dSh D) ≤ (4 : Int32) := nI_ge (a := 4) (by omega) (by omega)
    rw [if_neg h4', if_neg h4']
    exact zGo_same h rfl rfl
end WTA

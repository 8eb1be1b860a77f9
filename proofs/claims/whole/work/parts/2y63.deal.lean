/-! ===== calls: deal ===== -/
section DEAL
variable {θ θm : sv_T} {σ μ : sv_S} {tc : Nat} {Fs : Nat → Nat → (Nat → Int32) → Int32} {D : zD}
def zDone (x : Nat) (f : Nat → Nat) : Nat → Nat := fun c => if x.testBit c = true then 1 else f c
theorem x_dealLoop {x : Nat} {a1 : Int32} {g : Int32} (hx : x < 64) : ∀ (k b fuel : Nat) (σ : sv_S), 6 - b = k → b ≤ 6 → σ.1 24 4 = nI x → σ.1 24 3 = g → ∃ σ', q_X7_deal_B58 θ a1 (fuel + k + 1) (nI b) σ = some (g, σ') ∧ xFr (fun i _ => i = 6) σ σ' ∧ ∀ c, c < 6 → σ'.1 6 c = if b ≤ c ∧ x.testBit c = true then 1 else σ.1 6 c := by
  intro k
  induction k with
  | zero =>
    intro b fuel σ h1 h2 h3 h4
    refine ⟨σ, ?_, xFr_rf, fun c hc => by rw [if_neg (fun q => by omega)]⟩
    show q_X7_deal_B58_b θ a1 _ (nI b) σ = _
    unfold q_X7_deal_B58_b
    rw [if_pos (show (6 : Int32) ≤ nI b from nI_le (a := 6) (by omega) (by omega)), h4]
  | succ k ih =>
    intro b fuel σ h1 h2 h3 h4
    have eu : q_X7_deal_B58 θ a1 (fuel + (k + 1) + 1) (nI b) σ = q_X7_deal_B58_b θ a1 (q_X7_deal_B58 θ a1 (fuel + (k + 1))) (nI b) σ := rfl
    rw [eu]
    unfold q_X7_deal_B58_b
    rw [if_neg (show ¬ (6 : Int32) ≤ nI b from nI_ge (b := 6) (by omega) (by omega)), h3, x_hasBit hx (by omega), zb, z_r01]
    by_cases hb : x.testBit b = true
    · obtain ⟨σ', g1, g2, g3⟩ := ih (b + 1) fuel (sv_sI σ 6 b 1) (by omega) (by omega) (by rw [zI_o (by omega)]; exact h3) (by rw [zI_o (by omega)]; exact h4)
      refine ⟨σ', ?_, xFr_tr (xFr_I rfl) g2, fun c hc => ?_⟩
      · rw [if_pos hb, if_neg (z_bd (n := b) (L := 6) (by omega) (by omega)), nI_clamp (by omega), zl, zl, nI_1]; exact g1
      · rw [g3 c hc]
        by_cases e : c = b
        · subst e
          rw [if_neg (fun q => by omega), if_pos ⟨Nat.le_refl _, hb⟩]; exact zI_v
        · rw [zI_o (by omega)]
          by_cases e2 : b + 1 ≤ c ∧ x.testBit c = true
          · rw [if_pos e2, if_pos ⟨by omega, e2.2⟩]
          · rw [if_neg e2, if_neg (fun q => e2 ⟨by omega, q.2⟩)]
    · obtain ⟨σ', g1, g2, g3⟩ := ih (b + 1) fuel σ (by omega) (by omega) h3 h4
      refine ⟨σ', ?_, g2, fun c hc => ?_⟩
      · rw [if_neg hb, zl, nI_1]; exact g1
      · rw [g3 c hc]
        by_cases e2 : b + 1 ≤ c ∧ x.testBit c = true
        · rw [if_pos e2, if_pos ⟨by omega, e2.2⟩]
        · rw [if_neg e2, if_neg (fun q => e2 ⟨by
            by_cases e : c = b
            · subst e; exact absurd q.2 hb
            · omega, q.2⟩)]
theorem m_dealLoop {x M : Nat} {a1 : Int32} {g : Int32} (hx : x < 64) (hM : M ≤ 6) : ∀ (k b fuel : Nat) (μ : sv_S), M - b = k → b ≤ M → μ.1 0 31 = nI x → μ.1 0 27 = g → μ.1 0 11 = nI M → ∃ μ', q_X8_deal_B29 θm a1 (fuel + k + 1) (nI b) μ = some (g, μ') ∧ mFr (fun i j => i = 6 ∧ ∃ c, j = 3 * c + 2) μ μ' ∧ ∀ c, c < M → μ'.1 6 (3 * c + 2) = if b ≤ c ∧ x.testBit c = true then 1 else μ.1 6 (3 * c + 2) := by
  intro k
  induction k with
  | zero =>
    intro b fuel μ h1 h2 h3 h4 h5
    refine ⟨μ, ?_, mFr_rf, fun c hc => by rw [if_neg (fun q => by omega)]⟩
    show q_X8_deal_B29_b θm a1 _ (nI b) μ = _
    unfold q_X8_deal_B29_b
    rw [h5, if_pos (nI_le (by omega) (by omega)), h4]
  | succ k ih =>
    intro b fuel μ h1 h2 h3 h4 h5
    have eu : q_X8_deal_B29 θm a1 (fuel + (k + 1) + 1) (nI b) μ = q_X8_deal_B29_b θm a1 (q_X8_deal_B29 θm a1 (fuel + (k + 1))) (nI b) μ := rfl
    rw [eu]
    unfold q_X8_deal_B29_b
    rw [h5, if_neg (nI_ge (by omega) (by omega)), h3, z_bit x hx b (by omega)]
    by_cases hb : x.testBit b = true
    · obtain ⟨μ', g1, g2, g3⟩ := ih (b + 1) fuel (sv_sI μ 6 (3 * b + 2) 1) (by omega) (by omega) (by rw [zI_o (by omega)]; exact h3) (by rw [zI_o (by omega)]; exact h4) (by rw [zI_o (by omega)]; exact h5)
      refine ⟨μ', ?_, mFr_tr (mFr_I ⟨rfl, b, rfl⟩) g2, fun c hc => ?_⟩
      · rw [if_pos hb, if_pos (show (1 : Int32) = 1 from rfl), z_3b2, if_neg (z_bd (by omega) (by omega)), nI_clamp (by omega), zl, zl, nI_1]; exact g1
      · rw [g3 c hc]
        by_cases e : c = b
        · subst e
          rw [if_neg (fun q => by omega), if_pos ⟨Nat.le_refl _, hb⟩]; exact zI_v
        · rw [zI_o (by omega)]
          by_cases e2 : b + 1 ≤ c ∧ x.testBit c = true
          · rw [if_pos e2, if_pos ⟨by omega, e2.2⟩]
          · rw [if_neg e2, if_neg (fun q => e2 ⟨by omega, q.2⟩)]
    · obtain ⟨μ', g1, g2, g3⟩ := ih (b + 1) fuel μ (by omega) (by omega) h3 h4 h5
      refine ⟨μ', ?_, g2, fun c hc => ?_⟩
      · rw [if_neg hb, if_neg (show ¬ (0 : Int32) = 1 by decide), zl, nI_1]; exact g1
      · rw [g3 c hc]
        by_cases e2 : b + 1 ≤ c ∧ x.testBit c = true
        · rw [if_pos e2, if_pos ⟨by omega, e2.2⟩]
        · rw [if_neg e2, if_neg (fun q => e2 ⟨by
            by_cases e : c = b
            · subst e; exact absurd q.2 hb
            · omega, q.2⟩)]
theorem c_deal (h : zRel θ θm σ μ tc Fs D) (a1 : Int32) : zGo θ θm tc Fs (q_X7_deal θ a1 σ) (q_X8_deal θm a1 μ) := by
  have hB := h.1
  obtain ⟨hD, hT, hX, hM⟩ := h.2.2.2.1
  have hM6 := hD.1
  unfold q_X7_deal q_X8_deal
  rcases z_sheet a1 with z | ⟨s, hs, rfl⟩
  · rw [x_rowAtN z, zb, zon, m_shN z, zb, if_pos p00]
    unfold q_X7_tourRefusal
    rw [zon, zb]
    exact zGo_same h rfl rfl
  rw [x_rowAtY h hs, zb, zos, if_pos (x_row hB hs), m_shY hs, zb, if_neg n10]
  unfold q_X7_tourRefusal q_X8_tourBad
  rw [zos, if_pos (x_row hB hs), if_neg (z_bd hs (by omega)), nI_clamp (n := s) (by omega)]
  obtain ⟨-, hr⟩ := h.2.2.2.2.2.2 s hs
  rcases hr with ⟨r1, r2⟩ | ⟨q, n, r1, r2, r3, r4, r5, r6, r7, r8⟩
  · rw [r1, if_pos (show (-1 : Int32) = -1 from rfl), zb, if_neg (show ¬ (-11 : Int32) = 0 by decide), r2, if_pos p00, zb, if_neg (show ¬ (-11 : Int32) = 0 by decide)]
    exact zGo_same h rfl rfl
  rw [r3, if_neg (zO_ne (v := q) (by omega)), r5, if_neg n10]
  have hrd : zRd1 σ μ s q n := ⟨r3, r4, r5, r6, r7, r8⟩
  have hz := z_refuse (θ := θ) (θm := θm) (o1 := some (34 + 2 * s)) (a1 := nI s) hB hD hX hM hs r2 hrd rfl n 0 (199 - n) (by omega) (by omega) (fun i hi => by omega) (fun j hj => by omega)
  rw [show 199 - n + n + 1 = sv_N by unfold sv_N; omega] at hz
  rcases hz with ⟨e1, e2⟩ | ⟨e1, e2, hd, hit⟩
  · have e1' : q_X7_tourRefusal_B22 θ (some (34 + 2 * s)) sv_N (34 + 2 * s) (0 : Int32) (0 : Int32) σ = some (-2, σ) := e1
    have e2' : q_X8_tourBad_B16 θm (nI s) sv_N (nI s) (0 : Int32) (0 : Int32) μ = some (-2, μ) := e2
    rw [e1', zb, if_neg (show ¬ (-2 : Int32) = 0 by decide), e2', zb, if_neg (show ¬ (-2 : Int32) = 0 by decide)]
    exact zGo_same h rfl rfl
  have e1' : q_X7_tourRefusal_B22 θ (some (34 + 2 * s)) sv_N (34 + 2 * s) (0 : Int32) (0 : Int32) σ = some (0, σ) := e1
  have e2' : q_X8_tourBad_B16 θm (nI s) sv_N (nI s) (0 : Int32) (0 : Int32) μ = some (0, μ) := e2
  obtain ⟨σ1, σ2, μ', u1, u2, u3, u4, u5, T, t1, ⟨t2, t3, t4, t5⟩, ⟨t6, t7, t8, t9, t10⟩⟩ := z_tour h hs r2 hrd hd hit
  have h2 := zRel_tmp h u4 u5
  obtain ⟨hD2, hT2, hX2, hM2⟩ := h2.2.2.2.1
  obtain ⟨σ3, v1, v2, v3⟩ := x_dealLoop (θ := θ) (a1 := nI s) t1 6 0 193 σ2 (by omega) (by omega) t3 t2
  obtain ⟨μ3, w1, w2, w3⟩ := m_dealLoop (θm := θm) (a1 := nI s) t1 hM6 (dM D) 0 (199 - dM D) μ' (by omega) (by omega) t10 t6 hM2.1
  rw [show 199 - dM D + dM D + 1 = sv_N by unfold sv_N; omega] at w1
  have v1' : q_X7_deal_B58 θ (nI s) sv_N (0 : Int32) σ2 = some (nI T.1, σ3) := v1
  have w1' : q_X8_deal_B29 θm (nI s) sv_N (0 : Int32) μ' = some (nI T.1, μ3) := w1
  rw [e1', zb, if_pos p00, u1, zb, u2, zb, v1', e2', zb, if_pos p00, u3, zb, w1']
  obtain ⟨x1, x2, x3, x4, x5⟩ := hX2
  obtain ⟨m1, m2, m3, m4, m5⟩ := hM2
  obtain ⟨d1, d2, d3, d4, d5⟩ := hD
  have dv : ∀ c : Nat, (if 0 ≤ c ∧ T.2.1.testBit c = true then (1 : Int32) else nI (dH D c)) = nI (zDone T.2.1 (dH D) c) := fun c => by
    unfold zDone
    by_cases e : T.2.1.testBit c = true
    · rw [if_pos ⟨Nat.zero_le _, e⟩, if_pos e]; rfl
    · rw [if_neg (fun q => e q.2), if_neg e]
  refine ⟨_, _, _, (dM D, dR D, dK D, dN D, dS D, zDone T.2.1 (dH D), dW D, dT D), rfl, rfl, zRel_upd h2 (xFr_w v2 (fun i j q => Or.inl (by omega))) (mFr_w w2 (fun i j q => Or.inr (Or.inl (by omega)))) ⟨⟨d1, d2, fun c hc => ?_, d4, d5⟩, hT, ⟨?_, ?_, fun c hc => ?_, ?_, ?_⟩, ⟨?_, ?_, fun c hc => ?_, ?_, ?_⟩⟩ ⟨Nat.le_refl _, fun b hb => rfl⟩⟩
  · obtain ⟨g1, g2, g3, g4⟩ := d3 c hc
    refine ⟨g1, g2, g3, ?_⟩
    show zDone T.2.1 (dH D) c ≤ 1
    unfold zDone
    split
    · exact Nat.le_refl _
    · exact g4
  · rw [(v2.2 1 6 (by omega)).1]; exact x1
  · intro k hk; rw [(v2.2 2 k (by omega)).1]; exact x2 k hk
  · obtain ⟨g1, g2, g3, g4⟩ := x3 c hc
    have hc' : c < dM D := hc
    have g4' : σ2.1 6 c = nI (dH D c) := g4
    refine ⟨by rw [(v2.2 _ c (by omega)).1]; exact g1, by rw [(v2.2 _ c (by omega)).1]; exact g2, by rw [(v2.2 _ c (by omega)).1]; exact g3, ?_⟩
    show σ3.1 6 c = _
    rw [v3 c (by omega), g4']; exact dv c
  · rw [(v2.2 1 5 (by omega)).1]; exact x4
  · rw [(v2.2 1 7 (by omega)).2]; exact x5
  · rw [w2.2 0 11 (by omega)]; exact m1
  · intro k hk; rw [w2.2 4 k (by omega)]; exact m2 k hk
  · obtain ⟨g1, g2, g3, g4⟩ := m3 c hc
    have hc' : c < dM D := hc
    refine ⟨by rw [w2.2 5 c (by omega)]; exact g1, by rw [w2.2 6 _ (fun q => by obtain ⟨-, z, hz⟩ := q; omega)]; exact g2, by rw [w2.2 6 _ (fun q => by obtain ⟨-, z, hz⟩ := q; omega)]; exact g3, ?_⟩
    rw [w3 c hc', g4]; exact dv c
  · rw [w2.2 0 7 (by omega)]; exact m4
  · rw [w2.2 0 4 (by omega)]; exact m5
end DEAL

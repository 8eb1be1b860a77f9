/-! ===== calls: tells ===== -/
section TL2
variable {θ θm : sv_T} {σ μ : sv_S} {tc : Nat} {Fs : Nat → Nat → (Nat → Int32) → Int32} {D : zD}
theorem zNe {w c : Nat} (h : w ≠ c) (hw : w < 2147483648) (hc : c < 2147483648) : ¬ nI w = nI c := fun q => h ((nI_eq (by omega) (by omega)).mp q)
theorem z_fit (h : zRel θ θm σ μ tc Fs D) {s n b N ci cj pl q : Nat} {w a1 a2 a3 so of : Int32} {σ1 : sv_S} (hs : s < 4) (hn : n ≤ 24) (hb : b < dM D) (hN1 : 1 ≤ N) (hN : N ≤ 10) (hr : zRd1 σ μ s q n) (hci : ci < 10) (Dv : Nat → zD)
    (hG : xGu σ σ1 D pl)
    (hsup : ∀ c, c < N → ∀ τ, xGu σ τ D pl → xCs θ τ 22 (dT D) (dC D (Fs (dT D)) b (dSh D)) → ∃ τ', q_X7_suppose θ (nI b) w (nI c) τ = some ((), τ') ∧ xGu σ τ' D pl ∧ xCs θ τ' 22 (dT (Dv c)) (dC (Dv c) (Fs (dT (Dv c))) b (dSh D)) ∧ xRn θ τ' 33 (dR (Dv c)))
    (hbv : ∀ v, v < N → b < dM (Dv v))
    (hlay : ∀ v τ, mFr (mV ci cj) μ τ → q_X8_lays θm so of v τ = some ((), sv_sI τ ci cj v))
    (hok : ∀ v, v < N → ∀ τ, mFr (mV ci cj) μ τ → τ.1 ci cj = nI v → mOk θm τ (Dv v) (Fs (dT (Dv v)))) :
    ∃ R σ' μ', q_X7_fitting_B34 θ (34 + 2 * s) (nI b) w sv_N (nI b) w (nI N) (0 : Int32) (0 : Int32) σ1 = some (R, σ') ∧ q_X8_tells_B268 θm a1 a2 a3 sv_N (nI s) (nI b) (nI (dSh D)) (0 : Int32) so of (μ.1 ci cj) (nI (N - 1)) (0 : Int32) μ = some (R, μ') ∧ xFr zTmp σ σ' ∧ mFr mTmp μ μ' := by
  obtain ⟨r1, r2, r3, r4, r5, r6⟩ := hr
  obtain ⟨σ', g1, g2⟩ := x_fit (a3 := w) h hs hn hb hN r2 Dv (fun _ => dSh D) hsup N 0 (199 - N) σ1 (by omega) (by omega) hG
  obtain ⟨μ', k1, k2⟩ := m_fit (a1 := a1) (a2 := a2) (a3 := a3) (so := so) (of := of) h hs hn hN1 hN r5 hci Dv (dSh D) hbv hlay hok N 0 (199 - N) μ (by omega) (by omega) mFr_rf
  rw [show 199 - N + N + 1 = sv_N by unfold sv_N; omega] at g1 k1
  have e : zFb (fun v => zFo (σ.1 (34 + 2 * s + 1)) (dC (Dv v) (Fs (dT (Dv v))) b (dSh D)) (dR (Dv v)) n 0) N = zFb (fun v => zFo (fun h => μ.1 13 (40 * s + h)) (dC (Dv v) (Fs (dT (Dv v))) b (dSh D)) (dR (Dv v)) n 0) N :=
    zFb_ext N (fun v _ => zFo_ext n 0 (fun x _ hx => r6 x (by omega)))
  rw [← e] at k1
  exact ⟨_, σ', μ', g1, k1, g2, k2⟩
/-- the guess begins as the true rain -/
theorem x_guess (h : zRel θ θm σ μ tc Fs D) {pl : Nat} : xGu σ (sv_sR σ 33 (va_cpy (σ.1 2) (σ.1 33) (0 : Int32).toNatClampNeg (0 : Int32).toNatClampNeg (48 : Int32).toNatClampNeg)) D pl := by
  refine ⟨xFr_R (fun _ => by unfold zTmp; omega), fun k hk _ => ?_⟩
  rw [zR_v, z_cpy (n := 48) rfl hk]
  exact h.2.2.2.1.2.2.1.2.1 k hk
theorem x_fitting {b1 N : Nat} {b w : Int32} (hN : q_X7_choicesOf θ w (sv_sR σ 33 (va_cpy (σ.1 2) (σ.1 33) (0 : Int32).toNatClampNeg (0 : Int32).toNatClampNeg (48 : Int32).toNatClampNeg)) = some (nI N, sv_sR σ 33 (va_cpy (σ.1 2) (σ.1 33) (0 : Int32).toNatClampNeg (0 : Int32).toNatClampNeg (48 : Int32).toNatClampNeg))) : q_X7_fitting θ b1 b w σ = q_X7_fitting_B34 θ b1 b w sv_N b w (nI N) (0 : Int32) (0 : Int32) (sv_sR σ 33 (va_cpy (σ.1 2) (σ.1 33) (0 : Int32).toNatClampNeg (0 : Int32).toNatClampNeg (48 : Int32).toNatClampNeg)) := by
  unfold q_X7_fitting
  rw [if_pos (show sv_cp (0 : Int32) (0 : Int32) (48 : Int32) 48 48 by decide), zl, hN, zb]
theorem xGu_rn (hB : sx_base θ) (hD : zDok D) {τ : sv_S} (h : xGu σ τ D 48) : xRn θ τ 33 (dR D) := ⟨sx_L (sx_c33 hB), fun k hk => ⟨h.2 k hk (by omega), hD.2.1 k hk⟩⟩
theorem xGu_I {pl : Nat} {τ : sv_S} {i j : Nat} {v : Int32} (h : xGu σ τ D pl) (hi : i = 22 ∨ i = 23) : xGu σ (sv_sI τ i j v) D pl := ⟨xFr_tr h.1 (xFr_I (by unfold zTmp; omega)), fun k hk hne => by rw [zI_o (by omega)]; exact h.2 k hk hne⟩
theorem m_told5 (hD : zDok D) (hM : mMk μ D) {b : Nat} (hb : b < dM D) : q_X8_told θm (nI b) (5 : Int32) μ = some (μ.1 5 b, μ) := by
  have hM6 := hD.1
  show q_X8_told θm (nI b) (nI 5) μ = _
  unfold q_X8_told
  rw [m_inY (k := 5) (c := 5) (by decide) (by omega), zb, if_neg n10, m_isOfY hD hM (by decide) (by decide) hb, zb, if_neg n10, if_neg (show ¬ nI 5 = 0 by decide), if_neg (show ¬ nI 5 = 1 by decide), if_pos (show (5 : Int32) ≤ nI 5 by decide), if_neg (z_bd (by omega) (by omega)), nI_clamp (by omega)]
theorem m_told2 (hD : zDok D) (hM : mMk μ D) {b : Nat} (hb : b < dM D) : q_X8_told θm (nI b) (2 : Int32) μ = some (μ.1 6 (3 * b), μ) := by
  have hM6 := hD.1
  show q_X8_told θm (nI b) (nI 2) μ = _
  unfold q_X8_told
  rw [m_inY (k := 2) (c := 5) (by decide) (by omega), zb, if_neg n10, m_isOfY hD hM (by decide) (by decide) hb, zb, if_neg n10, if_neg (show ¬ nI 2 = 0 by decide), if_neg (show ¬ nI 2 = 1 by decide), if_neg (show ¬ (5 : Int32) ≤ nI 2 by decide), m_row b 2 (by omega), if_neg (z_bd (by omega) (by omega)), nI_clamp (by omega)]
  rfl
theorem m_told0 {of : Int32} : q_X8_told θm of (0 : Int32) μ = some (μ.1 0 7, μ) := by
  show q_X8_told θm of (nI 0) μ = _
  unfold q_X8_told
  rw [m_inY (k := 0) (c := 5) (by decide) (by omega), zb, if_neg n10, show nI 0 = (0 : Int32) from rfl, m_isOf0, zb, if_neg n10, if_pos p00]
theorem m_placeR {s x : Nat} (hs : s < 2) (hx : x < 24) : (∀ μ : sv_S, q_X8_isOf θm 1 (nI (100 * s + x)) μ = some (1, μ)) ∧ ∀ μ : sv_S, q_X8_placeOf θm (nI (100 * s + x)) μ = some (nI (24 * s + x), μ) := by
  refine ⟨fun μ => ?_, fun μ => ?_⟩
  · unfold q_X8_isOf
    rw [if_pos (show (1 : Int32) = 1 from rfl), m_inY (c := 123) (show ((100 * s + x : Nat) : Int) ≤ 123 by omega) (by omega), zb, if_neg n10, show (100 : Int32) = nI 100 from rfl, pk_rem (by omega) (by omega) (by omega), if_neg (show ¬ (24 : Int32) ≤ nI ((100 * s + x) % 100) from nI_ge (b := 24) (by omega) (by omega))]
  · unfold q_X8_placeOf
    rw [show (100 : Int32) = nI 100 from rfl, pk_rem (by omega) (by omega) (by omega), pk_div (by omega) (by omega) (by omega), z_24, show 24 * ((100 * s + x) / 100) + (100 * s + x) % 100 = 24 * s + x by omega]
theorem m_told1 {s x : Nat} (hs : s < 2) (hx : x < 24) : q_X8_told θm (nI (100 * s + x)) (1 : Int32) μ = some (μ.1 4 (24 * s + x), μ) := by
  obtain ⟨p1, p2⟩ := m_placeR (θm := θm) hs hx
  show q_X8_told θm (nI (100 * s + x)) (nI 1) μ = _
  unfold q_X8_told
  rw [m_inY (k := 1) (c := 5) (by decide) (by omega), zb, if_neg n10, show nI 1 = (1 : Int32) from rfl, p1, zb, if_neg n10, if_neg n10, if_pos (show (1 : Int32) = 1 from rfl), p2, zb, if_neg (z_bd (by omega) (by omega)), nI_clamp (by omega)]
/-- what both sides answer of one thing that is tried -/
def zTw (θ θm : sv_T) (σ μ : sv_S) (D : zD) (s b : Nat) (w so a1 a2 a3 : Int32) : Prop := ∃ R σ' μ', q_X7_fitting θ (34 + 2 * s) (nI b) w σ = some (R, σ') ∧ q_X8_tells_B179 θm a1 a2 a3 (nI s) (nI b) w (nI (dSh D)) (0 : Int32) so μ = some (R, μ') ∧ xFr zTmp σ σ' ∧ mFr mTmp μ μ'
theorem z_tw1 (h : zRel θ θm σ μ tc Fs D) {s n b q : Nat} {a1 a2 a3 : Int32} (hs : s < 4) (hn : n ≤ 24) (hb : b < dM D) (hr : zRd1 σ μ s q n) : zTw θ θm σ μ D s b (1 : Int32) (5 : Int32) a1 a2 a3 := by
  have hB := h.1
  obtain ⟨hD, hT, hX, hM⟩ := h.2.2.2.1
  have hM6 := hD.1
  obtain ⟨R, σ', μ', e1, e2, e3, e4⟩ := z_fit (w := (1 : Int32)) (a1 := a1) (a2 := a2) (a3 := a3) (so := (5 : Int32)) (of := nI b) (N := 6) (ci := 5) (cj := b) h hs hn hb (by omega) (by omega) hr (by omega) (fun v => (dM D, dR D, zup (dK D) b v, dN D, dS D, dH D, dW D, dT D)) (x_guess h (pl := 48)) (fun c hc τ hG hC => by
      refine ⟨sv_sI τ 22 1 (nI c), ?_, xGu_I hG (Or.inl rfl), ?_, xRn_fr (xGu_rn hB hD hG) (xFr_I (S := fun i _ => i = 22) rfl) (fun j => by omega)⟩
      · unfold q_X7_suppose
        rw [if_pos (show (1 : Int32) = 1 from rfl), zl]
      · obtain ⟨c1, c2, c3, c4, c5, c6, c7, c8, c9, c10, c11⟩ := hC
        refine ⟨c1, c2, c3, xText_fr c4 (xFr_I (S := fun i _ => i = 22) rfl) (fun i j q1 q2 => by omega), ?_, ?_, c7, ?_, ?_, ?_, ?_⟩
        · show (sv_sI τ 22 1 (nI c)).1 22 1 = nI (zup (dK D) b c b)
          rw [zup_eq]; exact zI_v
        · rw [zI_o (by omega)]; exact c6
        · rw [zI_o (by omega)]; exact c8
        · rw [zI_o (by omega)]; exact c9
        · rw [zI_o (by omega)]; exact c10
        · rw [zI_o (by omega)]; exact c11)
    (fun v _ => hb) (fun v τ _ => by
      unfold q_X8_lays
      rw [if_neg (show ¬ (5 : Int32) = 0 by decide), if_neg (show ¬ (5 : Int32) = 1 by decide), if_pos (show (5 : Int32) ≤ 5 by decide), if_pos (show (5 : Int32) = 5 from rfl), if_neg (z_bd (by omega) (by omega)), nI_clamp (by omega), zl])
    (fun v hv τ hf hv2 => by
      obtain ⟨d1, d2, d3, d4, d5⟩ := hD
      obtain ⟨m1, m2, m3, m4, m5⟩ := hM
      refine ⟨⟨d1, d2, fun x hx => ?_, d4, d5⟩, ⟨?_, fun k hk => ?_, fun x hx => ?_, ?_, ?_⟩, mText_fr (zRel_ok h).2.2 hf (fun i j q1 q2 => by unfold mV mTmp; omega)⟩
      · obtain ⟨y1, y2, y3, y4⟩ := d3 x hx
        refine ⟨?_, y2, y3, y4⟩
        show zup (dK D) b v x < 6
        by_cases e : x = b
        · rw [e, zup_eq]; exact hv
        · rw [zup_ne e]; exact y1
      · rw [hf.2 _ _ (by unfold mV mTmp; omega)]; exact m1
      · rw [hf.2 _ _ (by unfold mV mTmp; omega)]; exact m2 k hk
      · obtain ⟨y1, y2, y3, y4⟩ := m3 x hx
        refine ⟨?_, by rw [hf.2 _ _ (by unfold mV mTmp; omega)]; exact y2, by rw [hf.2 _ _ (by unfold mV mTmp; omega)]; exact y3, by rw [hf.2 _ _ (by unfold mV mTmp; omega)]; exact y4⟩
        show τ.1 5 x = nI (zup (dK D) b v x)
        by_cases e : x = b
        · rw [e, zup_eq]; exact hv2
        · rw [zup_ne e, hf.2 _ _ (by unfold mV mTmp; omega)]; exact y1
      · rw [hf.2 _ _ (by unfold mV mTmp; omega)]; exact m4
      · rw [hf.2 _ _ (by unfold mV mTmp; omega)]; exact m5)
  refine ⟨R, σ', μ', ?_, ?_, e3, e4⟩
  · rw [x_fitting (N := 6) (by unfold q_X7_choicesOf; rw [if_pos (show (1 : Int32) = 1 from rfl)]; rfl)]
    exact e1
  · unfold q_X8_tells_B179 q_X8_tells_B209 q_X8_tells_B233
    rw [if_neg (show ¬ (5 : Int32) = 1 by decide), if_neg (show ¬ (5 : Int32) = 6 by decide), m_told5 hD hM hb, zb, if_neg (show ¬ (5 : Int32) = 6 by decide), if_pos (show (5 : Int32) = 5 from rfl)]
    exact e2
theorem z_tw2 (h : zRel θ θm σ μ tc Fs D) {s n b q : Nat} {a1 a2 a3 : Int32} (hs : s < 4) (hn : n ≤ 24) (hb : b < dM D) (hr : zRd1 σ μ s q n) : zTw θ θm σ μ D s b (2 : Int32) (2 : Int32) a1 a2 a3 := by
  have hB := h.1
  obtain ⟨hD, hT, hX, hM⟩ := h.2.2.2.1
  have hM6 := hD.1
  have l23 : sv_len θ 23 = 6 := sx_L (sx_c23 hB)
  obtain ⟨R, σ', μ', e1, e2, e3, e4⟩ := z_fit (w := (2 : Int32)) (a1 := a1) (a2 := a2) (a3 := a3) (so := (2 : Int32)) (of := nI b) (N := 10) (ci := 6) (cj := 3 * b) h hs hn hb (by omega) (by omega) hr (by omega) (fun v => (dM D, dR D, dK D, zup (dN D) b v, dS D, dH D, dW D, dT D)) (x_guess h (pl := 48)) (fun c hc τ hG hC => by
      refine ⟨sv_sI τ 23 2 (nI c), ?_, xGu_I hG (Or.inr rfl), ?_, xRn_fr (xGu_rn hB hD hG) (xFr_I (S := fun i _ => i = 23) rfl) (fun j => by omega)⟩
      · unfold q_X7_suppose
        rw [if_neg (show ¬ (2 : Int32) = 1 by decide), if_pos (show (2 : Int32) = 2 from rfl), z_put (by rw [l23]; omega), zb, l23, show (2 : Int32) = nI 2 from rfl, zput_nI (by omega) (by omega)]
      · obtain ⟨c1, c2, c3, c4, c5, c6, c7, c8, c9, c10, c11⟩ := hC
        refine ⟨c1, c2, c3, xText_fr c4 (xFr_I (S := fun i _ => i = 23) rfl) (fun i j q1 q2 => by omega), ?_, ?_, c7, ?_, ?_, ?_, ?_⟩
        · rw [zI_o (by omega)]; exact c5
        · rw [zI_o (by omega)]; exact c6
        · show (sv_sI τ 23 2 (nI c)).1 23 2 = nI (zup (dN D) b c b)
          rw [zup_eq]; exact zI_v
        · rw [zI_o (by omega)]; exact c9
        · rw [zI_o (by omega)]; exact c10
        · rw [zI_o (by omega)]; exact c11)
    (fun v _ => hb) (fun v τ _ => by
      unfold q_X8_lays
      rw [if_neg (show ¬ (2 : Int32) = 0 by decide), if_neg (show ¬ (2 : Int32) = 1 by decide), if_neg (show ¬ (5 : Int32) ≤ 2 by decide), show (3 : Int32) * nI b + 2 - 2 = nI (3 * b) from m_row b 2 (by omega), if_neg (z_bd (by omega) (by omega)), nI_clamp (by omega), zl])
    (fun v hv τ hf hv2 => by
      obtain ⟨d1, d2, d3, d4, d5⟩ := hD
      obtain ⟨m1, m2, m3, m4, m5⟩ := hM
      refine ⟨⟨d1, d2, fun x hx => ?_, d4, d5⟩, ⟨?_, fun k hk => ?_, fun x hx => ?_, ?_, ?_⟩, mText_fr (zRel_ok h).2.2 hf (fun i j q1 q2 => by unfold mV mTmp; omega)⟩
      · obtain ⟨y1, y2, y3, y4⟩ := d3 x hx
        refine ⟨y1, ?_, y3, y4⟩
        show zup (dN D) b v x ≤ 9
        by_cases e : x = b
        · rw [e, zup_eq]; omega
        · rw [zup_ne e]; exact y2
      · rw [hf.2 _ _ (by unfold mV mTmp; omega)]; exact m1
      · rw [hf.2 _ _ (by unfold mV mTmp; omega)]; exact m2 k hk
      · obtain ⟨y1, y2, y3, y4⟩ := m3 x hx
        refine ⟨by rw [hf.2 _ _ (by unfold mV mTmp; omega)]; exact y1, ?_, by rw [hf.2 _ _ (by unfold mV mTmp; omega)]; exact y3, by rw [hf.2 _ _ (by unfold mV mTmp; omega)]; exact y4⟩
        show τ.1 6 (3 * x) = nI (zup (dN D) b v x)
        by_cases e : x = b
        · rw [e, zup_eq]; exact hv2
        · rw [zup_ne e, hf.2 _ _ (by unfold mV mTmp; omega)]; exact y2
      · rw [hf.2 _ _ (by unfold mV mTmp; omega)]; exact m4
      · rw [hf.2 _ _ (by unfold mV mTmp; omega)]; exact m5)
  refine ⟨R, σ', μ', ?_, ?_, e3, e4⟩
  · rw [x_fitting (N := 10) (by unfold q_X7_choicesOf; rw [if_neg (show ¬ (2 : Int32) = 1 by decide), if_pos (show (2 : Int32) = 2 from rfl)]; rfl)]
    exact e1
  · unfold q_X8_tells_B179 q_X8_tells_B209 q_X8_tells_B233
    rw [if_neg (show ¬ (2 : Int32) = 1 by decide), if_neg (show ¬ (2 : Int32) = 6 by decide), m_told2 hD hM hb, zb, if_neg (show ¬ (2 : Int32) = 6 by decide), if_neg (show ¬ (2 : Int32) = 5 by decide)]
    exact e2
theorem z_tw3 (h : zRel θ θm σ μ tc Fs D) {s n b q : Nat} {a1 a2 a3 : Int32} (hs : s < 4) (hn : n ≤ 24) (hb : b < dM D) (hr : zRd1 σ μ s q n) : zTw θ θm σ μ D s b (3 : Int32) (0 : Int32) a1 a2 a3 := by
  have hB := h.1
  obtain ⟨hD, hT, hX, hM⟩ := h.2.2.2.1
  have hM6 := hD.1
  have l23 : sv_len θ 23 = 6 := sx_L (sx_c23 hB)
  obtain ⟨R, σ', μ', e1, e2, e3, e4⟩ := z_fit (w := (3 : Int32)) (a1 := a1) (a2 := a2) (a3 := a3) (so := (0 : Int32)) (of := nI b) (N := 10) (ci := 0) (cj := 7) h hs hn hb (by omega) (by omega) hr (by omega) (fun v => (dM D, dR D, dK D, dN D, dS D, dH D, v, dT D)) (x_guess h (pl := 48)) (fun c hc τ hG hC => by
      refine ⟨sv_sI τ 23 5 (nI c), ?_, xGu_I hG (Or.inr rfl), ?_, xRn_fr (xGu_rn hB hD hG) (xFr_I (S := fun i _ => i = 23) rfl) (fun j => by omega)⟩
      · unfold q_X7_suppose
        rw [if_neg (show ¬ (3 : Int32) = 1 by decide), if_neg (show ¬ (3 : Int32) = 2 by decide), if_pos (show (3 : Int32) = 3 from rfl), z_put (by rw [l23]; omega), zb, l23, show (5 : Int32) = nI 5 from rfl, zput_nI (by omega) (by omega)]
      · obtain ⟨c1, c2, c3, c4, c5, c6, c7, c8, c9, c10, c11⟩ := hC
        refine ⟨c1, c2, c3, xText_fr c4 (xFr_I (S := fun i _ => i = 23) rfl) (fun i j q1 q2 => by omega), ?_, ?_, c7, ?_, ?_, ?_, zI_v⟩
        · rw [zI_o (by omega)]; exact c5
        · rw [zI_o (by omega)]; exact c6
        · rw [zI_o (by omega)]; exact c8
        · rw [zI_o (by omega)]; exact c9
        · rw [zI_o (by omega)]; exact c10)
    (fun v _ => hb) (fun v τ _ => by
      unfold q_X8_lays
      rw [if_pos p00, zl])
    (fun v hv τ hf hv2 => by
      obtain ⟨d1, d2, d3, d4, d5⟩ := hD
      obtain ⟨m1, m2, m3, m4, m5⟩ := hM
      refine ⟨⟨d1, d2, d3, show v ≤ 9 by omega, d5⟩, ⟨?_, fun k hk => ?_, fun x hx => ?_, hv2, ?_⟩, mText_fr (zRel_ok h).2.2 hf (fun i j q1 q2 => by unfold mV mTmp; omega)⟩
      · rw [hf.2 _ _ (by unfold mV mTmp; omega)]; exact m1
      · rw [hf.2 _ _ (by unfold mV mTmp; omega)]; exact m2 k hk
      · obtain ⟨y1, y2, y3, y4⟩ := m3 x hx
        exact ⟨by rw [hf.2 _ _ (by unfold mV mTmp; omega)]; exact y1, by rw [hf.2 _ _ (by unfold mV mTmp; omega)]; exact y2, by rw [hf.2 _ _ (by unfold mV mTmp; omega)]; exact y3, by rw [hf.2 _ _ (by unfold mV mTmp; omega)]; exact y4⟩
      · rw [hf.2 _ _ (by unfold mV mTmp; omega)]; exact m5)
  refine ⟨R, σ', μ', ?_, ?_, e3, e4⟩
  · rw [x_fitting (N := 10) (by unfold q_X7_choicesOf; rw [if_neg (show ¬ (3 : Int32) = 1 by decide), if_neg (show ¬ (3 : Int32) = 2 by decide), if_pos (show (3 : Int32) = 3 from rfl)]; rfl)]
    exact e1
  · unfold q_X8_tells_B179 q_X8_tells_B209 q_X8_tells_B233
    rw [if_neg (show ¬ (0 : Int32) = 1 by decide), if_neg (show ¬ (0 : Int32) = 6 by decide), m_told0, zb, if_neg (show ¬ (0 : Int32) = 6 by decide), if_neg (show ¬ (0 : Int32) = 5 by decide)]
    exact e2
theorem z_tw5 (h : zRel θ θm σ μ tc Fs D) {s n b q : Nat} {a1 a2 a3 : Int32} (hs : s < 4) (hn : n ≤ 24) (hb : b < dM D) (hr : zRd1 σ μ s q n) : zTw θ θm σ μ D s b (5 : Int32) (6 : Int32) a1 a2 a3 := by
  have hB := h.1
  have hTx := h.2.2.1
  obtain ⟨hD, hT, hX, hM⟩ := h.2.2.2.1
  have hM6 := hD.1
  obtain ⟨t1, t2, t3, t4, t5, t6⟩ := hTx
  obtain ⟨R, σ', μ', e1, e2, e3, e4⟩ := z_fit (w := (5 : Int32)) (a1 := a1) (a2 := a2) (a3 := a3) (so := (6 : Int32)) (of := nI b) (N := tc) (ci := 0) (cj := 4) h hs hn hb t1 (by omega) hr (by omega) (fun v => (dM D, dR D, dK D, dN D, dS D, dH D, dW D, v)) (x_guess h (pl := 48)) (fun c hc τ hG hC => by
      have hτ : zRel θ θm τ μ tc Fs D := zRel_tmp h hG.1 mFr_rf
      have hf : xFr (fun i _ => i = 22) τ (sv_sP τ 22 2 (some (42 + 4 * c))) := xFr_P rfl
      refine ⟨sv_sP τ 22 2 (some (42 + 4 * c)), ?_, ⟨xFr_tr hG.1 (xFr_w hf (fun i j q => by unfold zTmp; omega)), fun k hk hne => hG.2 k hk hne⟩, ?_, xRn_fr (xGu_rn hB hD hG) hf (fun j => by omega)⟩
      · unfold q_X7_suppose
        rw [if_neg (show ¬ (5 : Int32) = 1 by decide), if_neg (show ¬ (5 : Int32) = 2 by decide), if_neg (show ¬ (5 : Int32) = 3 by decide), if_neg (show ¬ (5 : Int32) = 4 by decide), if_pos (show (5 : Int32) = 5 from rfl), x_textAtY hτ hc, zb, zl]
      · obtain ⟨c1, c2, c3, c4, c5, c6, c7, c8, c9, c10, c11⟩ := hC
        exact ⟨c1, c2, zP_v, xText_fr (hτ.2.2.1.2.2.2.2.2 c hc).2.1 hf (fun i j q1 q2 => by omega), c5, c6, c7, c8, c9, c10, c11⟩)
    (fun v _ => hb) (fun v τ _ => by
      unfold q_X8_lays
      rw [if_neg (show ¬ (6 : Int32) = 0 by decide), if_neg (show ¬ (6 : Int32) = 1 by decide), if_pos (show (5 : Int32) ≤ 6 by decide), if_neg (show ¬ (6 : Int32) = 5 by decide), zl])
    (fun v hv τ hf hv2 => by
      obtain ⟨d1, d2, d3, d4, d5⟩ := hD
      obtain ⟨m1, m2, m3, m4, m5⟩ := hM
      refine ⟨⟨d1, d2, d3, d4, show v < 6 by omega⟩, ⟨?_, fun k hk => ?_, fun x hx => ?_, ?_, hv2⟩, mText_fr (t6 v hv).2.2 hf (fun i j q1 q2 => by unfold mV mTmp; omega)⟩
      · rw [hf.2 _ _ (by unfold mV mTmp; omega)]; exact m1
      · rw [hf.2 _ _ (by unfold mV mTmp; omega)]; exact m2 k hk
      · obtain ⟨y1, y2, y3, y4⟩ := m3 x hx
        exact ⟨by rw [hf.2 _ _ (by unfold mV mTmp; omega)]; exact y1, by rw [hf.2 _ _ (by unfold mV mTmp; omega)]; exact y2, by rw [hf.2 _ _ (by unfold mV mTmp; omega)]; exact y3, by rw [hf.2 _ _ (by unfold mV mTmp; omega)]; exact y4⟩
      · rw [hf.2 _ _ (by unfold mV mTmp; omega)]; exact m4)
  have etc : nI tc - (1 : Int32) = nI (tc - 1) := by rw [show (1 : Int32) = nI 1 from rfl, pk_sub t1]
  refine ⟨R, σ', μ', ?_, ?_, e3, e4⟩
  · rw [x_fitting (N := tc) (by
      unfold q_X7_choicesOf
      rw [if_neg (show ¬ (5 : Int32) = 1 by decide), if_neg (show ¬ (5 : Int32) = 2 by decide), if_neg (show ¬ (5 : Int32) = 3 by decide), if_neg (show ¬ (5 : Int32) = 4 by decide), if_pos (show (5 : Int32) = 5 from rfl)]
      exact congrArg (fun z => some (z, _)) (((xFr_R (S := fun i _ => i = 33) (fun _ => rfl)).2 0 5 (by omega)).1.trans t4))]
    exact e1
  · unfold q_X8_tells_B179 q_X8_tells_B209 q_X8_tells_B233
    rw [if_neg (show ¬ (6 : Int32) = 1 by decide), if_pos (show (6 : Int32) = 6 from rfl), if_pos (show (6 : Int32) = 6 from rfl), t5, etc, zl]
    exact e2
theorem z_twR (h : zRel θ θm σ μ tc Fs D) {s n b q x : Nat} {a1 a2 a3 : Int32} (hs : s < 4) (hn : n ≤ 24) (hb : b < dM D) (hx : x < 24) (hr : zRd1 σ μ s q n) : zTw θ θm σ μ D s b (nI (10 + x)) (1 : Int32) a1 a2 a3 := by
  have hB := h.1
  obtain ⟨hD, hT, hX, hM⟩ := h.2.2.2.1
  have hM6 := hD.1
  have hst := (hD.2.2.1 b hb).2.2.1
  have l33 : sv_len θ 33 = 48 := sx_L (sx_c33 hB)
  have l5 : sv_len θ 5 = 6 := sx_L (sx_c5 hB)
  obtain ⟨p1, p2⟩ := m_placeR (θm := θm) (s := dS D b) (x := x) (by omega) hx
  obtain ⟨R, σ', μ', e1, e2, e3, e4⟩ := z_fit (w := nI (10 + x)) (a1 := a1) (a2 := a2) (a3 := a3) (so := (1 : Int32)) (of := nI (100 * dS D b + x)) (N := 10) (ci := 4) (cj := 24 * dS D b + x) (pl := 24 * dS D b + x) h hs hn hb (by omega) (by omega) hr (by omega) (fun v => (dM D, zup (dR D) (24 * dS D b + x) v, dK D, dN D, dS D, dH D, dW D, dT D)) (x_guess h) (fun c hc τ hG hC => by
      have hτ : zRel θ θm τ μ tc Fs D := zRel_tmp h hG.1 mFr_rf
      have k3 : τ.1 5 b = nI (dS D b) := (hτ.2.2.2.1.2.2.1.2.2.1 b hb).2.2.1
      have hf : xFr (fun i _ => i = 33) τ (sv_sI τ 33 (24 * dS D b + x) (nI c)) := xFr_I rfl
      refine ⟨sv_sI τ 33 (24 * dS D b + x) (nI c), ?_, ⟨xFr_tr hG.1 (xFr_w hf (fun i j q => by unfold zTmp; omega)), fun k hk hne => by rw [zI_o (Or.inr hne)]; exact hG.2 k hk hne⟩, xCs_fr hC hf (fun i j q1 q2 => by omega) ⟨by omega, by omega, by omega, fun j _ => by omega⟩, ⟨l33, fun k hk => ?_⟩⟩
      · unfold q_X7_suppose
        rw [if_neg (show ¬ nI (10 + x) = (1 : Int32) from zNe (c := 1) (by omega) (by omega) (by omega)), if_neg (show ¬ nI (10 + x) = (2 : Int32) from zNe (c := 2) (by omega) (by omega) (by omega)), if_neg (show ¬ nI (10 + x) = (3 : Int32) from zNe (c := 3) (by omega) (by omega) (by omega)), if_neg (show ¬ nI (10 + x) = (4 : Int32) from zNe (c := 4) (by omega) (by omega) (by omega)), if_neg (show ¬ nI (10 + x) = (5 : Int32) from zNe (c := 5) (by omega) (by omega) (by omega)), z_at (by rw [l5]; omega), zb, l5, zat_nI (by omega) (by omega), k3, show nI (dS D b) * (24 : Int32) + nI (10 + x) - (10 : Int32) = nI (24 * dS D b + x) by rw [show (24 : Int32) = nI 24 from rfl, show (10 : Int32) = nI 10 from rfl, pk_mul, nI_add, pk_sub (by omega)]; congr 1; omega, z_put (by rw [l33]; omega), zb, l33, zput_nI (by omega) (by omega)]
      · show (sv_sI τ 33 (24 * dS D b + x) (nI c)).1 33 k = nI (zup (dR D) (24 * dS D b + x) c k) ∧ zup (dR D) (24 * dS D b + x) c k ≤ 9
        by_cases e : k = 24 * dS D b + x
        · rw [e, zup_eq]; exact ⟨zI_v, by omega⟩
        · rw [zup_ne e, zI_o (Or.inr e)]; exact ⟨hG.2 k hk e, hD.2.1 k hk⟩)
    (fun v _ => hb) (fun v τ _ => by
      unfold q_X8_lays
      rw [if_neg (show ¬ (1 : Int32) = 0 by decide), if_pos (show (1 : Int32) = 1 from rfl), p2, zb, if_neg (z_bd (by omega) (by omega)), nI_clamp (by omega), zl])
    (fun v hv τ hf hv2 => by
      obtain ⟨d1, d2, d3, d4, d5⟩ := hD
      obtain ⟨m1, m2, m3, m4, m5⟩ := hM
      refine ⟨⟨d1, fun k hk => ?_, d3, d4, d5⟩, ⟨?_, fun k hk => ?_, fun x hx => ?_, ?_, ?_⟩, mText_fr (zRel_ok h).2.2 hf (fun i j q1 q2 => by unfold mV mTmp; omega)⟩
      · show zup (dR D) (24 * dS D b + x) v k ≤ 9
        by_cases e : k = 24 * dS D b + x
        · rw [e, zup_eq]; omega
        · rw [zup_ne e]; exact d2 k hk
      · rw [hf.2 _ _ (by unfold mV mTmp; omega)]; exact m1
      · show τ.1 4 k = nI (zup (dR D) (24 * dS D b + x) v k)
        by_cases e : k = 24 * dS D b + x
        · rw [e, zup_eq]; exact hv2
        · rw [zup_ne e, hf.2 _ _ (by unfold mV mTmp; omega)]; exact m2 k hk
      · obtain ⟨y1, y2, y3, y4⟩ := m3 x hx
        exact ⟨by rw [hf.2 _ _ (by unfold mV mTmp; omega)]; exact y1, by rw [hf.2 _ _ (by unfold mV mTmp; omega)]; exact y2, by rw [hf.2 _ _ (by unfold mV mTmp; omega)]; exact y3, by rw [hf.2 _ _ (by unfold mV mTmp; omega)]; exact y4⟩
      · rw [hf.2 _ _ (by unfold mV mTmp; omega)]; exact m4
      · rw [hf.2 _ _ (by unfold mV mTmp; omega)]; exact m5)
  have hrow : μ.1 6 (3 * b + 1) = nI (dS D b) := (hM.2.2.1 b hb).2.2.1
  refine ⟨R, σ', μ', ?_, ?_, e3, e4⟩
  · rw [x_fitting (N := 10) (by
      unfold q_X7_choicesOf
      rw [if_neg (show ¬ nI (10 + x) = (1 : Int32) from zNe (c := 1) (by omega) (by omega) (by omega)), if_neg (show ¬ nI (10 + x) = (2 : Int32) from zNe (c := 2) (by omega) (by omega) (by omega)), if_neg (show ¬ nI (10 + x) = (3 : Int32) from zNe (c := 3) (by omega) (by omega) (by omega)), if_neg (show ¬ nI (10 + x) = (4 : Int32) from zNe (c := 4) (by omega) (by omega) (by omega)), if_neg (show ¬ nI (10 + x) = (5 : Int32) from zNe (c := 5) (by omega) (by omega) (by omega))]
      rfl)]
    exact e1
  · unfold q_X8_tells_B179 q_X8_tells_B209 q_X8_tells_B233
    rw [if_pos (show (1 : Int32) = 1 from rfl), z_3b1, if_neg (z_bd (by omega) (by omega)), nI_clamp (by omega), hrow, show (100 : Int32) * nI (dS D b) + nI (10 + x) - (10 : Int32) = nI (100 * dS D b + x) by rw [show (100 : Int32) = nI 100 from rfl, show (10 : Int32) = nI 10 from rfl, pk_mul, nI_add, pk_sub (by omega)]; congr 1; omega, if_neg (show ¬ (1 : Int32) = 6 by decide), m_told1 (by omega) hx, zb, if_neg (show ¬ (1 : Int32) = 6 by decide), if_neg (show ¬ (1 : Int32) = 5 by decide)]
    exact e2
/-- what is done is tried -/
theorem z_tw4 (h : zRel θ θm σ μ tc Fs D) {s n b q : Nat} {a1 a2 a3 : Int32} (hs : s < 4) (hn : n ≤ 24) (hb : b < dM D) (hr : zRd1 σ μ s q n) : ∃ R σ' μ', q_X7_fitting θ (34 + 2 * s) (nI b) (4 : Int32) σ = some (R, σ') ∧ q_X8_tells_B100 θm a1 a2 a3 sv_N (nI s) (nI b) (0 : Int32) (0 : Int32) μ = some (R, μ') ∧ xFr zTmp σ σ' ∧ mFr mTmp μ μ' := by
  have hB := h.1
  obtain ⟨hD, hT, hX, hM⟩ := h.2.2.2.1
  have l23 : sv_len θ 23 = 6 := sx_L (sx_c23 hB)
  obtain ⟨r1, r2, r3, r4, r5, r6⟩ := hr
  obtain ⟨σ', g1, g2⟩ := x_fit (N := 7) (pl := 48) (w := (4 : Int32)) (a3 := (4 : Int32)) h hs hn hb (by omega) r2 (fun _ => D) (fun v => v) (fun c hc τ hG hC => by
      refine ⟨sv_sI τ 23 3 (nI c), ?_, xGu_I hG (Or.inr rfl), ?_, xRn_fr (xGu_rn hB hD hG) (xFr_I (S := fun i _ => i = 23) rfl) (fun j => by omega)⟩
      · unfold q_X7_suppose
        rw [if_neg (show ¬ (4 : Int32) = 1 by decide), if_neg (show ¬ (4 : Int32) = 2 by decide), if_neg (show ¬ (4 : Int32) = 3 by decide), if_pos (show (4 : Int32) = 4 from rfl), z_put (by rw [l23]; omega), zb, l23, show (3 : Int32) = nI 3 from rfl, zput_nI (by omega) (by omega)]
      · obtain ⟨c1, c2, c3, c4, c5, c6, c7, c8, c9, c10, c11⟩ := hC
        refine ⟨c1, c2, c3, xText_fr c4 (xFr_I (S := fun i _ => i = 23) rfl) (fun i j q1 q2 => by omega), ?_, ?_, c7, ?_, zI_v, ?_, ?_⟩
        · rw [zI_o (by omega)]; exact c5
        · rw [zI_o (by omega)]; exact c6
        · rw [zI_o (by omega)]; exact c8
        · rw [zI_o (by omega)]; exact c10
        · rw [zI_o (by omega)]; exact c11) 7 0 192 _ (by omega) (by omega) (x_guess h)
  obtain ⟨μ', k1, k2⟩ := m_fitD (a1 := a1) (a2 := a2) (a3 := a3) h hs hn hb r5 7 0 192 μ (by omega) (by omega) mFr_rf
  have e : zFb (fun v => zFo (σ.1 (34 + 2 * s + 1)) (dC D (Fs (dT D)) b v) (dR D) n 0) 7 = zFb (fun v => zFo (fun h => μ.1 13 (40 * s + h)) (dC D (Fs (dT D)) b v) (dR D) n 0) 7 :=
    zFb_ext 7 (fun v _ => zFo_ext n 0 (fun x _ hx => r6 x (by omega)))
  rw [← e] at k1
  refine ⟨_, σ', μ', ?_, k1, g2, k2⟩
  rw [x_fitting (N := 7) (by unfold q_X7_choicesOf; rw [if_neg (show ¬ (4 : Int32) = 1 by decide), if_neg (show ¬ (4 : Int32) = 2 by decide), if_neg (show ¬ (4 : Int32) = 3 by decide), if_pos (show (4 : Int32) = 4 from rfl)]; rfl)]
  exact g1
theorem c_tells (h : zRel θ θm σ μ tc Fs D) (a1 a2 a3 : Int32) : zGo θ θm tc Fs (q_X7_tells θ a1 a2 a3 σ) (q_X8_tells θm a1 a2 a3 μ) := by
  have hB := h.1
  obtain ⟨hD, hT, hX, hM⟩ := h.2.2.2.1
  have j0 : (0 : Int64).toInt = 0 := rfl
  have j5 : (5 : Int64).toInt = 5 := rfl
  have j10 : (10 : Int64).toInt = 10 := rfl
  have j33 : (33 : Int64).toInt = 33 := rfl
  unfold q_X7_tells q_X8_tells
  rcases z_sheet a1 with q | ⟨s, hs, rfl⟩
  · rw [x_rowAtN q, zb, zon, m_shN q, zb, if_pos p00]
    exact zGo_same h rfl rfl
  rw [x_rowAtY h hs, zb, zos, if_pos (x_row hB hs), m_shY hs, zb, if_neg n10]
  rcases z_one hD a2 with q | ⟨b, hb, rfl⟩
  · rw [x_hasN hX q, m_oneN hD hM q, zb, zb, if_pos p00, if_pos p00]
    exact zGo_same h rfl rfl
  rw [x_hasY hD hX hb, m_oneY hD hM hb, zb, zb, if_neg n10, if_neg n10, x_canTell, zb, z_r01, z_inI, zb, z_r01, j0, j5]
  by_cases hc : (0 ≤ a3.toInt ∧ a3.toInt ≤ 5) ∨ (10 ≤ a3.toInt ∧ a3.toInt ≤ 33)
  · rw [if_pos hc]
    have hM44 : (if 0 ≤ a3.toInt ∧ a3.toInt ≤ 5 then q_X8_tells_B44 θm (nI s) (nI b) a3 (nI s) (nI b) a3 μ else sp_b (q_X8_in θm a3.toInt64 (10 : Int64) (33 : Int64) μ) (fun r52 σ53 => if r52 = 0 then (some ((-2 : Int32), σ53)) else q_X8_tells_B44 θm (nI s) (nI b) a3 (nI s) (nI b) a3 σ53)) = q_X8_tells_B44 θm (nI s) (nI b) a3 (nI s) (nI b) a3 μ := by
      by_cases h5 : 0 ≤ a3.toInt ∧ a3.toInt ≤ 5
      · rw [if_pos h5]
      · rw [if_neg h5, z_inI, zb, z_r01, j10, j33, if_pos (show 10 ≤ a3.toInt ∧ a3.toInt ≤ 33 by omega)]
    rw [hM44]
    obtain ⟨w, hw, rfl⟩ := z_of (x := a3) (n := 34) (by omega) (by omega)
    rw [z_nI (by omega)] at hc
    have hw2 : w ≤ 5 ∨ 10 ≤ w := by omega
    clear hM44
    unfold q_X8_tells_B44
    rw [if_neg (z_bd hs (by omega)), nI_clamp (n := s) (by omega)]
    obtain ⟨-, hr⟩ := h.2.2.2.2.2.2 s hs
    rcases hr with ⟨r1, r2⟩ | ⟨q, n, r1, r2, r3, r4, r5, r6, r7, r8⟩
    · rw [r1, if_pos (show (-1 : Int32) = -1 from rfl), r2, if_pos p00]
      exact zGo_same h rfl rfl
    rw [r3, if_neg (zO_ne (v := q) (by omega)), r5, if_neg n10, if_neg (z_bn hs (by omega)), r4, r7]
    have hrd : zRd1 σ μ s q n := ⟨r3, r4, r5, r6, r7, r8⟩
    by_cases hn : n ≤ 24
    · rw [if_pos (show nI n ≤ (24 : Int32) from nI_le (b := 24) hn (by omega)), if_pos (show nI n ≤ (24 : Int32) from nI_le (b := 24) hn (by omega)), m_shakenMany (θm := θm) hD hM, zb]
      by_cases w0 : w = 0
      · subst w0
        obtain ⟨σ1, u1, u2, u3⟩ := x_regard (θ := θ) (c := 22) (d := dSh D) hB (Or.inl rfl) hD hX (zRel_t h) hb
        have hR2 : xRn θ σ1 2 (dR D) := xRn_fr (xRn_m hB hD hX) u2 (fun j => by unfold zCa; omega)
        have hsz : σ1.1 (34 + 2 * s) 2 = nI n := by rw [(u2.2 _ _ (by unfold zCa; omega)).1]; exact r4
        obtain ⟨σ2, v1, v2⟩ := x_firstOther (θ := θ) hB hs hn (Or.inl rfl) u3 hR2 hsz
        obtain ⟨μ1, k1, k2⟩ := m_firstOther (θm := θm) (d := dSh D) hs hn (zRel_ok h) hb r7
        have hit : σ1.1 (34 + 2 * s + 1) = σ.1 (34 + 2 * s + 1) := by funext j; exact (u2.2 _ _ (by unfold zCa; omega)).1
        have e : zFo (σ.1 (34 + 2 * s + 1)) (dC D (Fs (dT D)) b (dSh D)) (dR D) n 0 = zFo (fun h => μ.1 13 (40 * s + h)) (dC D (Fs (dT D)) b (dSh D)) (dR D) n 0 := zFo_ext n 0 (fun x _ hx => r8 x (by omega))
        rw [hit, e] at v1
        rw [if_pos (show nI 0 = 0 from rfl), x_shakenCount hB hD hX, zb, u1, zb, v1, zb, if_pos (show nI 0 = 0 from rfl), k1, zb]
        exact zGo_tmp h rfl rfl (xFr_tr (xFr_w u2 zCa_tmp) (xFr_z (zFr_w v2 zLk_tmp))) (m_tmp k2)
      · have n0 : ¬ nI w = 0 := nI_ne0 (by omega) (by omega)
        rw [if_neg n0, if_neg n0]
        by_cases w4 : w = 4
        · subst w4
          obtain ⟨R, σ', μ', e1, e2, e3, e4⟩ := z_tw4 (a1 := nI s) (a2 := nI b) (a3 := nI 4) h hs hn hb hrd
          have e1' : q_X7_fitting θ (34 + 2 * s) (nI b) (nI 4) σ = some (R, σ') := e1
          rw [e1', zb, if_pos (show nI 4 = (4 : Int32) from rfl), e2]
          exact zGo_tmp h rfl rfl e3 e4
        · rw [if_neg (show ¬ nI w = (4 : Int32) from zNe (c := 4) w4 (by omega) (by omega))]
          by_cases w1 : w = 1
          · subst w1
            obtain ⟨R, σ', μ', e1, e2, e3, e4⟩ := z_tw1 (a1 := nI s) (a2 := nI b) (a3 := nI 1) h hs hn hb hrd
            have e1' : q_X7_fitting θ (34 + 2 * s) (nI b) (nI 1) σ = some (R, σ') := e1
            have e2' : q_X8_tells_B179 θm (nI s) (nI b) (nI 1) (nI s) (nI b) (nI 1) (nI (dSh D)) (0 : Int32) (5 : Int32) μ = some (R, μ') := e2
            rw [e1', zb, if_pos (show nI 1 = (1 : Int32) from rfl), e2']
            exact zGo_tmp h rfl rfl e3 e4
          rw [if_neg (show ¬ nI w = (1 : Int32) from zNe (c := 1) w1 (by omega) (by omega))]
          by_cases w2 : w = 2
          · subst w2
            obtain ⟨R, σ', μ', e1, e2, e3, e4⟩ := z_tw2 (a1 := nI s) (a2 := nI b) (a3 := nI 2) h hs hn hb hrd
            have e1' : q_X7_fitting θ (34 + 2 * s) (nI b) (nI 2) σ = some (R, σ') := e1
            have e2' : q_X8_tells_B179 θm (nI s) (nI b) (nI 2) (nI s) (nI b) (nI 2) (nI (dSh D)) (0 : Int32) (2 : Int32) μ = some (R, μ') := e2
            rw [e1', zb, if_pos (show nI 2 = (2 : Int32) from rfl), e2']
            exact zGo_tmp h rfl rfl e3 e4
          rw [if_neg (show ¬ nI w = (2 : Int32) from zNe (c := 2) w2 (by omega) (by omega))]
          by_cases w3 : w = 3
          · subst w3
            obtain ⟨R, σ', μ', e1, e2, e3, e4⟩ := z_tw3 (a1 := nI s) (a2 := nI b) (a3 := nI 3) h hs hn hb hrd
            have e1' : q_X7_fitting θ (34 + 2 * s) (nI b) (nI 3) σ = some (R, σ') := e1
            have e2' : q_X8_tells_B179 θm (nI s) (nI b) (nI 3) (nI s) (nI b) (nI 3) (nI (dSh D)) (0 : Int32) (0 : Int32) μ = some (R, μ') := e2
            rw [e1', zb, if_pos (show nI 3 = (3 : Int32) from rfl), e2']
            exact zGo_tmp h rfl rfl e3 e4
          rw [if_neg (show ¬ nI w = (3 : Int32) from zNe (c := 3) w3 (by omega) (by omega))]
          by_cases w5 : w = 5
          · subst w5
            obtain ⟨R, σ', μ', e1, e2, e3, e4⟩ := z_tw5 (a1 := nI s) (a2 := nI b) (a3 := nI 5) h hs hn hb hrd
            have e1' : q_X7_fitting θ (34 + 2 * s) (nI b) (nI 5) σ = some (R, σ') := e1
            have e2' : q_X8_tells_B179 θm (nI s) (nI b) (nI 5) (nI s) (nI b) (nI 5) (nI (dSh D)) (0 : Int32) (6 : Int32) μ = some (R, μ') := e2
            rw [e1', zb, if_pos (show nI 5 = (5 : Int32) from rfl), e2']
            exact zGo_tmp h rfl rfl e3 e4
          rw [if_neg (show ¬ nI w = (5 : Int32) from zNe (c := 5) w5 (by omega) (by omega))]
          obtain ⟨x, rfl⟩ : ∃ x, w = 10 + x := ⟨w - 10, by omega⟩
          obtain ⟨R, σ', μ', e1, e2, e3, e4⟩ := z_twR (x := x) (a1 := nI s) (a2 := nI b) (a3 := nI (10 + x)) h hs hn hb (by omega) hrd
          rw [e1, zb, e2]
          exact zGo_tmp h rfl rfl e3 e4
    · rw [if_neg (show ¬ nI n ≤ (24 : Int32) from nI_ge (a := 24) (by omega) (by omega)), if_neg (show ¬ nI n ≤ (24 : Int32) from nI_ge (a := 24) (by omega) (by omega))]
      exact zGo_same h rfl rfl
  · rw [if_neg hc, if_neg (show ¬ (0 ≤ a3.toInt ∧ a3.toInt ≤ 5) by omega), z_inI, zb, z_r01, j10, j33, if_neg (show ¬ (10 ≤ a3.toInt ∧ a3.toInt ≤ 33) by omega)]
    exact zGo_same h rfl rfl
end TL2

/-! ===== what a sheet tells: both sides' looks ===== -/
section TLS
variable {θ θm : sv_T} {σ μ : sv_S} {tc : Nat} {Fs : Nat → Nat → (Nat → Int32) → Int32} {D : zD}
theorem x_canTell {a : Int32} : q_X7_canTell θ a σ = some (if (0 ≤ a.toInt ∧ a.toInt ≤ 5) ∨ (10 ≤ a.toInt ∧ a.toInt ≤ 33) then 1 else 0, σ) := by
  have i0 : (0 : Int32).toInt = 0 := rfl
  have i5 : (5 : Int32).toInt = 5 := rfl
  have i10 : (10 : Int32).toInt = 10 := rfl
  have i34 : (34 : Int32).toInt = 34 := rfl
  unfold q_X7_canTell
  simp only [z_lt, z_le, i0, i5, i10, i34]
  by_cases h1 : (0 ≤ a.toInt ∧ a.toInt ≤ 5) ∨ (10 ≤ a.toInt ∧ a.toInt ≤ 33)
  · rw [if_pos h1]
    repeat' split
    all_goals first | rfl | (exfalso; omega)
  · rw [if_neg h1]
    repeat' split
    all_goals first | rfl | (exfalso; omega)
/-- the first hour of which a row tells another worth -/
def zFo (f : Nat → Int32) (γ : zC) (rn : Nat → Nat) : Nat → Nat → Int32
  | 0, _ => -1
  | r + 1, h => if f h = vWor γ rn h then zFo f γ rn r (h + 1) else nI h
theorem zFo_ext {f g : Nat → Int32} {γ : zC} {rn : Nat → Nat} : ∀ r h, (∀ x, h ≤ x → x < h + r → f x = g x) → zFo f γ rn r h = zFo g γ rn r h
  | 0, _, _ => rfl
  | r + 1, h, hx => by
    simp only [zFo]
    rw [hx h (Nat.le_refl _) (by omega), zFo_ext r (h + 1) (fun x h1 h2 => hx x (by omega) (by omega))]
theorem x_firstOther (hB : sx_base θ) {s n b1 t : Nat} {γ : zC} {rn : Nat → Nat} (hs : s < 4) (hn : n ≤ 24) (hb1 : b1 = 2 ∨ b1 = 33) (hC : xCs θ σ 22 t γ) (hR : xRn θ σ b1 rn) (hsz : σ.1 (34 + 2 * s) 2 = nI n) :
    ∃ σ', q_X0_firstOther θ 22 (34 + 2 * s) b1 σ = some (zFo (σ.1 (34 + 2 * s + 1)) γ rn n 0, σ') ∧ zFr (zLk 22) σ σ' := by
  have loop : ∀ (r h fuel : Nat) (τ : sv_S), n - h = r → h ≤ n → zFr (zLk 22) σ τ → ∃ σ', q_X0_firstOther_B8 θ 22 (34 + 2 * s) b1 (fuel + r + 1) (nI h) τ = some (zFo (σ.1 (34 + 2 * s + 1)) γ rn r h, σ') ∧ zFr (zLk 22) σ σ' := by
    intro r
    induction r with
    | zero =>
      intro h fuel τ h1 h2 h3
      refine ⟨τ, ?_, h3⟩
      show q_X0_firstOther_B8_b θ 22 (34 + 2 * s) b1 _ (nI h) τ = _
      unfold q_X0_firstOther_B8_b
      rw [h3.2 _ _ (by unfold zLk zSk; omega), hsz, if_pos (nI_le (by omega) (by omega))]
      rfl
    | succ r ih =>
      intro h fuel τ h1 h2 h3
      have C1 := xCs_lk hC h3
      have R1 := xRn_lk hR (by omega) (by omega) h3
      obtain ⟨τ1, s1, s2, s3, s4, s5⟩ := x_see C1 R1 (h := h) (by omega)
      obtain ⟨τ2, t1, t2⟩ := x_worthC s3 s4 s5
      have f2 : zFr (zLk 22) σ τ2 := zFr_tr h3 (zFr_tr s2 (zSk_lk t2))
      have eit : τ1.1 (34 + 2 * s + 1) h = σ.1 (34 + 2 * s + 1) h := by rw [s2.2 _ _ (by unfold zLk zSk; omega), h3.2 _ _ (by unfold zLk zSk; omega)]
      obtain ⟨σ', e1, e2⟩ := ih (h + 1) fuel τ2 (by omega) (by omega) f2
      have eu : q_X0_firstOther_B8 θ 22 (34 + 2 * s) b1 (fuel + (r + 1) + 1) (nI h) τ = q_X0_firstOther_B8_b θ 22 (34 + 2 * s) b1 (q_X0_firstOther_B8 θ 22 (34 + 2 * s) b1 (fuel + (r + 1))) (nI h) τ := rfl
      rw [eu]
      unfold q_X0_firstOther_B8_b
      rw [h3.2 (34 + 2 * s) 2 (by unfold zLk zSk; omega), hsz, if_neg (nI_ge (by omega) (by omega)), s1, zb, x_readI hB hs (by omega), zb, t1, zb, eit]
      simp only [zFo]
      by_cases hq : σ.1 (34 + 2 * s + 1) h = vWor γ rn h
      · refine ⟨σ', ?_, e2⟩
        rw [if_pos hq, if_pos hq, zl, nI_1]
        exact e1
      · refine ⟨τ2, ?_, f2⟩
        rw [if_neg hq, if_neg hq]
  obtain ⟨σ', e1, e2⟩ := loop n 0 (199 - n) σ (by omega) (by omega) zFr_rf
  rw [show 199 - n + n + 1 = sv_N by unfold sv_N; omega] at e1
  exact ⟨σ', e1, e2⟩
theorem m_firstOther {F : Nat → (Nat → Int32) → Int32} {s n b d : Nat} (hs : s < 4) (hn : n ≤ 24) (hO : mOk θm μ D F) (hb : b < dM D) (hsz : μ.1 12 s = nI n) :
    ∃ μ', q_X8_firstOther θm (nI s) (nI b) (nI d) μ = some (zFo (fun h => μ.1 13 (40 * s + h)) (dC D F b d) (dR D) n 0, μ') ∧ mFr mEv μ μ' := by
  have loop : ∀ (r h fuel : Nat) (τ : sv_S), n - h = r → h ≤ n → mFr mEv μ τ → ∃ μ', q_X8_firstOther_B3 θm (nI s) (nI b) (nI d) (fuel + r + 1) (nI s) (nI b) (nI d) (nI h) τ = some (zFo (fun h => μ.1 13 (40 * s + h)) (dC D F b d) (dR D) r h, μ') ∧ mFr mEv μ μ' := by
    intro r
    induction r with
    | zero =>
      intro h fuel τ h1 h2 h3
      refine ⟨τ, ?_, h3⟩
      show q_X8_firstOther_B3_b θm (nI s) (nI b) (nI d) _ (nI s) (nI b) (nI d) (nI h) τ = _
      unfold q_X8_firstOther_B3_b
      rw [if_neg (z_bd hs (by omega)), nI_clamp (n := s) (by omega), h3.2 12 s (by unfold mEv; omega), hsz, if_pos (nI_le (by omega) (by omega))]
      rfl
    | succ r ih =>
      intro h fuel τ h1 h2 h3
      obtain ⟨τ1, s1, s2⟩ := m_worthOf (θm := θm) (d := d) (mOk_ev hO h3) hb (h := h) (by omega)
      have f1 : mFr mEv μ τ1 := mFr_tr h3 s2
      obtain ⟨σ', e1, e2⟩ := ih (h + 1) fuel τ1 (by omega) (by omega) f1
      have eu : q_X8_firstOther_B3 θm (nI s) (nI b) (nI d) (fuel + (r + 1) + 1) (nI s) (nI b) (nI d) (nI h) τ = q_X8_firstOther_B3_b θm (nI s) (nI b) (nI d) (q_X8_firstOther_B3 θm (nI s) (nI b) (nI d) (fuel + (r + 1))) (nI s) (nI b) (nI d) (nI h) τ := rfl
      rw [eu]
      unfold q_X8_firstOther_B3_b
      rw [if_neg (z_bd hs (by omega)), nI_clamp (n := s) (by omega), h3.2 12 s (by unfold mEv; omega), hsz, if_neg (nI_ge (by omega) (by omega)), s1, zb, z_40, if_neg (z_bd (n := 40 * s + h) (L := 160) (by omega) (by omega)), nI_clamp (n := 40 * s + h) (by omega), f1.2 13 _ (by unfold mEv; omega)]
      simp only [zFo]
      by_cases hq : μ.1 13 (40 * s + h) = vWor (dC D F b d) (dR D) h
      · refine ⟨σ', ?_, e2⟩
        rw [if_pos hq.symm, if_pos hq, zl, nI_1]
        exact e1
      · refine ⟨τ1, ?_, f1⟩
        rw [if_neg (fun q => hq q.symm), if_neg hq]
  obtain ⟨μ', e1, e2⟩ := loop n 0 (199 - n) μ (by omega) (by omega) mFr_rf
  rw [show 199 - n + n + 1 = sv_N by unfold sv_N; omega] at e1
  exact ⟨μ', e1, e2⟩
/-- which of the first choices fit (bits) -/
def zFb (g : Nat → Int32) : Nat → Int32
  | 0 => 0
  | v + 1 => if g v = -1 then zFb g v ||| ((1 : Int32) <<< (nI v &&& 31)) else zFb g v
theorem zFb_s {g : Nat → Int32} (v : Nat) : zFb g (v + 1) = if g v = -1 then zFb g v ||| ((1 : Int32) <<< (nI v &&& 31)) else zFb g v := rfl
theorem zFb_ext {g g' : Nat → Int32} : ∀ n, (∀ v, v < n → g v = g' v) → zFb g n = zFb g' n
  | 0, _ => rfl
  | n + 1, h => by
    simp only [zFb]
    rw [h n (by omega), zFb_ext n (fun v hv => h v (by omega))]
theorem z_sh0 : ∀ v, v < 32 → (0 : Int32) <<< (nI v &&& 31) = 0 := by decide
theorem z_orS {x : Int32} {v : Nat} (hv : v < 32) : x ||| ((0 : Int32) <<< (nI v &&& 31)) = x := by rw [z_sh0 v hv]; exact Int32.or_zero
/-- what the class knows while it tries one thing after another; place pl of the guess may differ -/
def xGu (σ0 σ : sv_S) (D : zD) (pl : Nat) : Prop := xFr zTmp σ0 σ ∧ ∀ k, k < 48 → k ≠ pl → σ.1 33 k = nI (dR D k)
theorem x_fit (h : zRel θ θm σ μ tc Fs D) {s n b N pl : Nat} {w a3 : Int32} (hs : s < 4) (hn : n ≤ 24) (hb : b < dM D) (hN : N ≤ 10) (hsz : σ.1 (34 + 2 * s) 2 = nI n) (Dv : Nat → zD) (dn : Nat → Nat)
    (hsup : ∀ c, c < N → ∀ τ, xGu σ τ D pl → xCs θ τ 22 (dT D) (dC D (Fs (dT D)) b (dSh D)) → ∃ τ', q_X7_suppose θ (nI b) w (nI c) τ = some ((), τ') ∧ xGu σ τ' D pl ∧ xCs θ τ' 22 (dT (Dv c)) (dC (Dv c) (Fs (dT (Dv c))) b (dn c)) ∧ xRn θ τ' 33 (dR (Dv c))) :
    ∀ (r c fuel : Nat) (τ : sv_S), N - c = r → c ≤ N → xGu σ τ D pl → ∃ σ', q_X7_fitting_B34 θ (34 + 2 * s) (nI b) a3 (fuel + r + 1) (nI b) w (nI N) (zFb (fun v => zFo (σ.1 (34 + 2 * s + 1)) (dC (Dv v) (Fs (dT (Dv v))) b (dn v)) (dR (Dv v)) n 0) c) (nI c) τ = some (zFb (fun v => zFo (σ.1 (34 + 2 * s + 1)) (dC (Dv v) (Fs (dT (Dv v))) b (dn v)) (dR (Dv v)) n 0) N, σ') ∧ xFr zTmp σ σ' := by
  have hB := h.1
  have hD := h.2.2.2.1.1
  intro r
  induction r with
  | zero =>
    intro c fuel τ h1 h2 h3
    have : c = N := by omega
    subst this
    refine ⟨τ, ?_, h3.1⟩
    show q_X7_fitting_B34_b θ (34 + 2 * s) (nI b) a3 _ (nI b) w (nI c) _ (nI c) τ = _
    unfold q_X7_fitting_B34_b
    rw [if_pos (nI_le (Nat.le_refl _) (by omega))]
  | succ r ih =>
    intro c fuel τ h1 h2 h3
    have h' : zRel θ θm τ μ tc Fs D := zRel_tmp h h3.1 mFr_rf
    obtain ⟨-, -, hX, -⟩ := h'.2.2.2.1
    obtain ⟨τ1, r1, f1, c1⟩ := x_regard (θ := θ) (c := 22) (b := b) (d := dSh D) hB (Or.inl rfl) hD hX (zRel_t h') hb
    have G1 : xGu σ τ1 D pl := ⟨xFr_tr h3.1 (xFr_w f1 zCa_tmp), fun k hk hne => by rw [(f1.2 _ _ (by unfold zCa; omega)).1]; exact h3.2 k hk hne⟩
    obtain ⟨τ2, p1, p2, p3, p4⟩ := hsup c (by omega) τ1 G1 c1
    have hsz2 : τ2.1 (34 + 2 * s) 2 = nI n := by rw [(p2.1.2 _ _ (by unfold zTmp zSk; omega)).1]; exact hsz
    have hit : τ2.1 (34 + 2 * s + 1) = σ.1 (34 + 2 * s + 1) := by funext j; exact (p2.1.2 _ _ (by unfold zTmp zSk; omega)).1
    obtain ⟨τ3, g1, g2⟩ := x_firstOther (θ := θ) hB hs hn (Or.inr rfl) p3 p4 hsz2
    have G3 : xGu σ τ3 D pl := ⟨xFr_tr p2.1 (xFr_z (zFr_w g2 zLk_tmp)), fun k hk hne => by rw [g2.2 _ _ (by unfold zLk zSk; omega)]; exact p2.2 k hk hne⟩
    rw [hit] at g1
    obtain ⟨σ', e1, e2⟩ := ih (c + 1) fuel τ3 (by omega) (by omega) G3
    refine ⟨σ', ?_, e2⟩
    have eu : ∀ x5, q_X7_fitting_B34 θ (34 + 2 * s) (nI b) a3 (fuel + (r + 1) + 1) (nI b) w (nI N) x5 (nI c) τ = q_X7_fitting_B34_b θ (34 + 2 * s) (nI b) a3 (q_X7_fitting_B34 θ (34 + 2 * s) (nI b) a3 (fuel + (r + 1))) (nI b) w (nI N) x5 (nI c) τ := fun x5 => rfl
    rw [eu]
    unfold q_X7_fitting_B34_b
    rw [if_neg (nI_ge (by omega) (by omega)), x_shakenCount (θ := θ) hB hD hX, zb, r1, zb, p1, zb, g1, zb]
    rw [zFb_s] at e1
    by_cases hq : zFo (σ.1 (34 + 2 * s + 1)) (dC (Dv c) (Fs (dT (Dv c))) b (dn c)) (dR (Dv c)) n 0 = -1
    · rw [if_pos hq] at e1
      rw [if_pos hq, zl, nI_1, zl]
      exact e1
    · rw [if_neg hq] at e1
      rw [if_neg hq, nI_1, zl]
      exact e1
/-- the reference writes at one cell, tries, and puts it back -/
def mV (ci cj : Nat) (i j : Nat) : Prop := mTmp i j ∨ (i = ci ∧ j = cj)
theorem m_fit (h : zRel θ θm σ μ tc Fs D) {s n b N ci cj : Nat} {so of a1 a2 a3 : Int32} (hs : s < 4) (hn : n ≤ 24) (hN1 : 1 ≤ N) (hN : N ≤ 10) (hsz : μ.1 12 s = nI n) (hci : ci < 10) (Dv : Nat → zD) (dn : Nat) (hbv : ∀ v, v < N → b < dM (Dv v))
    (hlay : ∀ v τ, mFr (mV ci cj) μ τ → q_X8_lays θm so of v τ = some ((), sv_sI τ ci cj v))
    (hok : ∀ v, v < N → ∀ τ, mFr (mV ci cj) μ τ → τ.1 ci cj = nI v → mOk θm τ (Dv v) (Fs (dT (Dv v)))) :
    ∀ (r v fuel : Nat) (τ : sv_S), N - v = r → v ≤ N → mFr (mV ci cj) μ τ → ∃ μ', q_X8_tells_B268 θm a1 a2 a3 (fuel + r + 1) (nI s) (nI b) (nI dn) (zFb (fun v => zFo (fun h => μ.1 13 (40 * s + h)) (dC (Dv v) (Fs (dT (Dv v))) b dn) (dR (Dv v)) n 0) v) so of (μ.1 ci cj) (nI (N - 1)) (nI v) τ = some (zFb (fun v => zFo (fun h => μ.1 13 (40 * s + h)) (dC (Dv v) (Fs (dT (Dv v))) b dn) (dR (Dv v)) n 0) N, μ') ∧ mFr mTmp μ μ' := by
  intro r
  induction r with
  | zero =>
    intro v fuel τ h1 h2 h3
    have : v = N := by omega
    subst this
    refine ⟨sv_sI τ ci cj (μ.1 ci cj), ?_, h3.1, fun i j hij => ?_⟩
    · show q_X8_tells_B268_b θm a1 a2 a3 _ (nI s) (nI b) (nI dn) _ so of (μ.1 ci cj) (nI (v - 1)) (nI v) τ = _
      unfold q_X8_tells_B268_b
      rw [if_pos (nI_lt (by omega) (by omega)), hlay _ _ h3, zb]
    · by_cases e : i = ci ∧ j = cj
      · obtain ⟨rfl, rfl⟩ := e; exact zI_v
      · have hor : i ≠ ci ∨ j ≠ cj := by omega
        rw [zI_o hor]
        exact h3.2 i j (fun q => by rcases q with q | q; exact hij q; exact e q)
  | succ r ih =>
    intro v fuel τ h1 h2 h3
    have f1 : mFr (mV ci cj) μ (sv_sI τ ci cj (nI v)) := mFr_tr h3 (mFr_I (Or.inr ⟨rfl, rfl⟩))
    have O1 := hok v (by omega) _ f1 zI_v
    have hsz1 : (sv_sI τ ci cj (nI v)).1 12 s = nI n := by rw [f1.2 12 s (by unfold mV mTmp; omega)]; exact hsz
    obtain ⟨τ2, g1, g2⟩ := m_firstOther (θm := θm) (d := dn) hs hn O1 (hbv v (by omega)) hsz1
    have hit : (fun h => (sv_sI τ ci cj (nI v)).1 13 (40 * s + h)) = fun h => μ.1 13 (40 * s + h) := by funext j; exact f1.2 13 _ (by unfold mV mTmp; omega)
    rw [hit] at g1
    have f2 : mFr (mV ci cj) μ τ2 := mFr_tr f1 (mFr_w (m_tmp g2) (fun i j q => Or.inl q))
    obtain ⟨μ', e1, e2⟩ := ih (v + 1) fuel τ2 (by omega) (by omega) f2
    refine ⟨μ', ?_, e2⟩
    have eu : ∀ x5, q_X8_tells_B268 θm a1 a2 a3 (fuel + (r + 1) + 1) (nI s) (nI b) (nI dn) x5 so of (μ.1 ci cj) (nI (N - 1)) (nI v) τ = q_X8_tells_B268_b θm a1 a2 a3 (q_X8_tells_B268 θm a1 a2 a3 (fuel + (r + 1))) (nI s) (nI b) (nI dn) x5 so of (μ.1 ci cj) (nI (N - 1)) (nI v) τ := fun x5 => rfl
    rw [eu]
    unfold q_X8_tells_B268_b
    rw [if_neg (nI_nlt (by omega) (by omega)), hlay _ _ h3, zb, g1, zb]
    rw [zFb_s] at e1
    by_cases hq : zFo (fun h => μ.1 13 (40 * s + h)) (dC (Dv v) (Fs (dT (Dv v))) b dn) (dR (Dv v)) n 0 = -1
    · rw [if_pos hq] at e1
      rw [if_pos hq, zl, nI_1, zl]
      exact e1
    · rw [if_neg hq] at e1
      rw [if_neg hq, z_orS (by omega), zl, nI_1, zl]
      exact e1
theorem m_fitD (h : zRel θ θm σ μ tc Fs D) {s n b : Nat} {a1 a2 a3 : Int32} (hs : s < 4) (hn : n ≤ 24) (hb : b < dM D) (hsz : μ.1 12 s = nI n) :
    ∀ (r v fuel : Nat) (τ : sv_S), 7 - v = r → v ≤ 7 → mFr mTmp μ τ → ∃ μ', q_X8_tells_B100 θm a1 a2 a3 (fuel + r + 1) (nI s) (nI b) (zFb (fun v => zFo (fun h => μ.1 13 (40 * s + h)) (dC D (Fs (dT D)) b v) (dR D) n 0) v) (nI v) τ = some (zFb (fun v => zFo (fun h => μ.1 13 (40 * s + h)) (dC D (Fs (dT D)) b v) (dR D) n 0) 7, μ') ∧ mFr mTmp μ μ' := by
  intro r
  induction r with
  | zero =>
    intro v fuel τ h1 h2 h3
    have : v = 7 := by omega
    subst this
    refine ⟨τ, ?_, h3⟩
    show q_X8_tells_B100_b θm a1 a2 a3 _ (nI s) (nI b) _ (nI 7) τ = _
    unfold q_X8_tells_B100_b
    rw [if_pos (show (6 : Int32) < nI 7 by decide)]
  | succ r ih =>
    intro v fuel τ h1 h2 h3
    have O1 := mOk_tmp (zRel_ok h) h3
    have hsz1 : τ.1 12 s = nI n := by rw [h3.2 12 s (by unfold mTmp; omega)]; exact hsz
    obtain ⟨τ2, g1, g2⟩ := m_firstOther (θm := θm) (d := v) hs hn O1 hb hsz1
    have hit : (fun h => τ.1 13 (40 * s + h)) = fun h => μ.1 13 (40 * s + h) := by funext j; exact h3.2 13 _ (by unfold mTmp; omega)
    rw [hit] at g1
    obtain ⟨μ', e1, e2⟩ := ih (v + 1) fuel τ2 (by omega) (by omega) (mFr_tr h3 (m_tmp g2))
    refine ⟨μ', ?_, e2⟩
    have eu : ∀ x5, q_X8_tells_B100 θm a1 a2 a3 (fuel + (r + 1) + 1) (nI s) (nI b) x5 (nI v) τ = q_X8_tells_B100_b θm a1 a2 a3 (q_X8_tells_B100 θm a1 a2 a3 (fuel + (r + 1))) (nI s) (nI b) x5 (nI v) τ := fun x5 => rfl
    rw [eu]
    unfold q_X8_tells_B100_b
    rw [if_neg (show ¬ (6 : Int32) < nI v from nI_nlt (a := 6) (by omega) (by omega)), g1, zb]
    rw [zFb_s] at e1
    by_cases hq : zFo (fun h => μ.1 13 (40 * s + h)) (dC D (Fs (dT D)) b v) (dR D) n 0 = -1
    · rw [if_pos hq] at e1
      rw [if_pos hq, zl, nI_1, zl]
      exact e1
    · rw [if_neg hq] at e1
      rw [if_neg hq, z_orS (by omega), zl, nI_1, zl]
      exact e1
end TLS

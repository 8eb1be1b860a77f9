/-! ===== tours of a sheet ===== -/
section TOUR2
variable {θ θm : sv_T} {σ μ : sv_S} {tc : Nat} {Fs : Nat → Nat → (Nat → Int32) → Int32} {D : zD}
theorem z_bit : ∀ x, x < 64 → ∀ b, b < 6 → (nI x >>> (nI b &&& 31)) &&& 1 = if x.testBit b = true then (1 : Int32) else 0 := by decide +kernel
theorem x_hasBit {x b : Nat} (hx : x < 64) (hb : b < 6) : q_X7_hasBit θ (nI x) (nI b) σ = some (if x.testBit b = true then 1 else 0, σ) := by
  unfold q_X7_hasBit
  rw [if_neg (nI_pos (by omega)), if_neg (show ¬ (31 : Int32) ≤ nI b from nI_ge (b := 31) (by omega) (by omega)), z_bit x hx b hb, z_r01]
  by_cases h : x.testBit b = true
  · rw [if_pos h, if_pos h]
  · rw [if_neg h, if_neg h]
def tBits (f : Nat → Nat) : Nat → Nat
  | 0 => 0
  | i + 1 => tBits f i ||| 2 ^ f i
/-- the first n of f are bargains, none twice -/
def zDis (f : Nat → Nat) (M n : Nat) : Prop := ∀ i, i < n → f i < M ∧ (tBits f i).testBit (f i) = false
theorem zDis_pc {f : Nat → Nat} {M : Nat} (hM : M ≤ 6) : ∀ n, zDis f M n → tBits f n < 64 ∧ zPc (tBits f n) = n
  | 0, _ => ⟨by show 0 < 64; omega, by show zPc 0 = 0; decide⟩
  | n + 1, h => by
    obtain ⟨h1, h2⟩ := zDis_pc hM n (fun i hi => h i (by omega))
    obtain ⟨h3, h4⟩ := h n (by omega)
    exact ⟨(z_orb _ h1 (f n) (by omega)).2, by show zPc (tBits f n ||| 2 ^ f n) = n + 1; rw [z_pc1 _ h1 (f n) (by omega) h4, h2]⟩
theorem zDis_6 {f : Nat → Nat} {M n : Nat} (hM : M ≤ 6) (h : zDis f M n) : n ≤ 6 := by
  obtain ⟨h1, h2⟩ := zDis_pc hM n h
  have := z_pc6 _ h1
  omega
def tRun (D : zD) (F : Nat → (Nat → Int32) → Int32) (rn : Nat → Nat) (f : Nat → Nat) : Nat → zT
  | 0 => (0, 0, 0, 0)
  | i + 1 => tStep D F rn (tRun D F rn f i) (f i)
theorem tRun_ok {F : Nat → (Nat → Int32) → Int32} {rn f : Nat → Nat} (hM : dM D ≤ 6) : ∀ n, zDis f (dM D) n → tOk (tRun D F rn f n) ∧ ∀ b, (tRun D F rn f n).2.1.testBit b = true → (tBits f n).testBit b = true
  | 0, _ => ⟨⟨by show 0 < 64; omega, by show 0 ≤ 24; omega, by show 0 < 64; omega⟩, fun b hb => by exact absurd hb (by simp [tRun])⟩
  | n + 1, h => by
    obtain ⟨h1, h2⟩ := tRun_ok hM n (fun i hi => h i (by omega))
    obtain ⟨h3, h4⟩ := h n (by omega)
    refine ⟨tStep_ok h1 (by omega), fun b hb => ?_⟩
    show (tBits f n ||| 2 ^ f n).testBit b = true
    rw [Nat.testBit_or, Bool.or_eq_true]
    have hb' : (tStep D F rn (tRun D F rn f n) (f n)).2.1.testBit b = true := hb
    unfold tStep at hb'
    cases hz : zSh (dC D F (f n) (dSh D + zPc (tRun D F rn f n).2.1)) rn (tRun D F rn f n).2.2.1 with
    | none =>
      rw [hz] at hb'
      exact Or.inl (h2 b hb')
    | some v =>
      rw [hz] at hb'
      have hb2 : ((tRun D F rn f n).2.1 ||| 2 ^ f n).testBit b = true := hb'
      rw [Nat.testBit_or, Bool.or_eq_true] at hb2
      rcases hb2 with q | q
      · exact Or.inl (h2 b q)
      · exact Or.inr q
theorem tRun_new {F : Nat → (Nat → Int32) → Int32} {rn f : Nat → Nat} (hM : dM D ≤ 6) {n i : Nat} (h : zDis f (dM D) n) (hi : i < n) : (tRun D F rn f i).2.1.testBit (f i) = false := by
  obtain ⟨h1, h2⟩ := tRun_ok (F := F) (rn := rn) hM i (fun q hq => h q (by omega))
  cases hb : (tRun D F rn f i).2.1.testBit (f i) with
  | false => rfl
  | true =>
    have h3 := h2 _ hb
    rw [(h i hi).2] at h3
    exact absurd h3 (by decide)
/-- a tour of the class over a row of bargains -/
theorem x_run (hB : sx_base θ) (hD : zDok D) {F : Nat → (Nat → Int32) → Int32} {rn f : Nat → Nat} {b2 n L : Nat} (hX : xMk σ 1 D) (hR : xRn θ σ 27 rn) (hF : xText θ σ (dT D) F) (hL : sv_len θ b2 = L) (hL2 : n ≤ L ∧ L < 2147483648) (hb2 : b2 < 42 ∧ b2 ≠ 24 ∧ b2 ≠ 25 ∧ b2 ≠ 26) (hf : ∀ i, i < n → σ.1 b2 i = nI (f i)) (hdis : zDis f (dM D) n) :
    ∃ σ', q_X3_run θ b2 (nI n) σ = some ((), σ') ∧ xFr zPl σ σ' ∧ xT σ' (tRun D F rn f n) := by
  have hM6 := hD.1
  have hn6 := zDis_6 hM6 hdis
  have loop : ∀ (k i fuel : Nat) (τ : sv_S), n - i = k → i ≤ n → xFr zPl σ τ → xT τ (tRun D F rn f i) → ∃ σ', q_X3_run_B37 θ b2 (nI n) (fuel + k + 1) (nI n) (nI (dSh D)) (nI i) τ = some ((), σ') ∧ xFr zPl σ σ' ∧ xT σ' (tRun D F rn f n) := by
    intro k
    induction k with
    | zero =>
      intro i fuel τ h1 h2 h3 h4
      have : i = n := by omega
      subst this
      refine ⟨τ, ?_, h3, h4⟩
      show q_X3_run_B37_b θ b2 (nI i) _ (nI i) (nI (dSh D)) (nI i) τ = _
      unfold q_X3_run_B37_b
      rw [if_pos (nI_le (Nat.le_refl _) (by omega))]
    | succ k ih =>
      intro i fuel τ h1 h2 h3 h4
      have hat : q_X7_at θ b2 (nI i) τ = some (nI (f i), τ) := by
        rw [z_at (by rw [hL]; exact hL2.2), hL, zat_nI (by omega) hL2.2, (h3.2 b2 i (by unfold zPl zSk; omega)).1, hf i (by omega)]
      obtain ⟨σ1, g1, g2, g3⟩ := x_tourStep (θ := θ) (σ := τ) hB hD (F := F) (rn := rn) (b2 := b2) (a3 := nI n) (n := nI n) (i := nI i) (rec := q_X3_run_B37 θ b2 (nI n) (fuel + (k + 1))) (xMk_pl hX h3) (xRn_pl hR h3) (xText_pl hF h3) (tRun_ok hM6 i (fun q hq => hdis q (by omega))).1 h4 (hdis i (by omega)).1 (nI_lt (by omega) (by omega)) (nI_lt (b := 6) (by omega) (by omega)) hat
      obtain ⟨σ', e1, e2, e3⟩ := ih (i + 1) fuel σ1 (by omega) (by omega) (xFr_tr h3 g2) g3
      refine ⟨σ', ?_, e2, e3⟩
      have eu : q_X3_run_B37 θ b2 (nI n) (fuel + (k + 1) + 1) (nI n) (nI (dSh D)) (nI i) τ = q_X3_run_B37_b θ b2 (nI n) (q_X3_run_B37 θ b2 (nI n) (fuel + (k + 1))) (nI n) (nI (dSh D)) (nI i) τ := rfl
      rw [eu, g1, nI_1]
      exact e1
  have hf0 : xFr zPl σ (sv_sI (sv_sI (sv_sI (sv_sI σ 24 3 0) 24 4 0) 24 5 (-1)) 24 6 0) := xFr_tr (xFr_tr (xFr_tr (xFr_I (Or.inl ⟨rfl, by omega, by omega⟩)) (xFr_I (Or.inl ⟨rfl, by omega, by omega⟩))) (xFr_I (Or.inl ⟨rfl, by omega, by omega⟩))) (xFr_I (Or.inl ⟨rfl, by omega, by omega⟩))
  obtain ⟨σ', e1, e2, e3⟩ := loop n 0 (199 - n) _ (by omega) (by omega) hf0 ⟨by rw [zI_o (by omega), zI_o (by omega), zI_o (by omega)]; exact zI_v, by rw [zI_o (by omega), zI_o (by omega)]; exact zI_v, by rw [zI_o (by omega)]; exact zI_v, zI_v⟩
  rw [show 199 - n + n + 1 = sv_N by unfold sv_N; omega] at e1
  refine ⟨σ', ?_, e2, e3⟩
  unfold q_X3_run
  rw [zl, zl, zl, zl, x_shakenCount hB hD (xMk_pl hX hf0), zb]
  exact e1
/-- a tour of the reference over a sheet -/
theorem m_goes {F : Nat → (Nat → Int32) → Int32} {f : Nat → Nat} {s n : Nat} (hO : mOk θm μ D F) (hs : s < 4) (hn : n ≤ 40) (h12 : μ.1 12 s = nI n) (hf : ∀ i, i < n → μ.1 13 (40 * s + i) = nI (f i)) (hdis : zDis f (dM D) n) :
    ∃ μ', q_X8_goes θm (nI s) μ = some ((), μ') ∧ mFr mTmp μ μ' ∧ mT μ' (tRun D F (dR D) f n) := by
  have hM6 := hO.1.1
  have okT : ∀ τ, mFr mTmp μ τ → mOk θm τ D F := fun τ hτ => ⟨hO.1, mMk_fr hO.2.1 hτ (by unfold mTmp; omega) (fun i j h1 h2 => by unfold mTmp; omega), mText_fr hO.2.2 hτ (fun i j h1 h2 => by unfold mTmp; omega)⟩
  have loop : ∀ (k i fuel : Nat) (τ : sv_S), n - i = k → i ≤ n → mFr mTmp μ τ → mT τ (tRun D F (dR D) f i) → ∃ μ', q_X8_goes_B6 θm (nI s) (fuel + k + 1) (nI s) (nI i) τ = some ((), μ') ∧ mFr mTmp μ μ' ∧ mT μ' (tRun D F (dR D) f n) := by
    intro k
    induction k with
    | zero =>
      intro i fuel τ h1 h2 h3 h4
      have : i = n := by omega
      subst this
      refine ⟨τ, ?_, h3, h4⟩
      show q_X8_goes_B6_b θm (nI s) _ (nI s) (nI i) τ = _
      unfold q_X8_goes_B6_b
      rw [if_neg (z_bd hs (by omega)), nI_clamp (n := s) (by omega), h3.2 12 s (by unfold mTmp; omega), h12, if_pos (nI_le (Nat.le_refl _) (by omega))]
    | succ k ih =>
      intro i fuel τ h1 h2 h3 h4
      obtain ⟨μ1, g1, g2, g3⟩ := m_deals (θm := θm) (okT τ h3) (tRun_ok (F := F) (rn := dR D) hM6 i (fun q hq => hdis q (by omega))).1 h4 (hdis i (by omega)).1 (tRun_new hM6 hdis (by omega))
      obtain ⟨μ', e1, e2, e3⟩ := ih (i + 1) fuel μ1 (by omega) (by omega) (mFr_tr h3 g2) g3
      refine ⟨μ', ?_, e2, e3⟩
      show q_X8_goes_B6_b θm (nI s) (q_X8_goes_B6 θm (nI s) (fuel + (k + 1))) (nI s) (nI i) τ = _
      unfold q_X8_goes_B6_b
      rw [if_neg (z_bd hs (by omega)), nI_clamp (n := s) (by omega), h3.2 12 s (by unfold mTmp; omega), h12, if_neg (nI_ge (by omega) (by omega)), z_40, if_neg (z_bd (n := 40 * s + i) (L := 160) (by omega) (by omega)), nI_clamp (n := 40 * s + i) (by omega), h3.2 13 _ (by unfold mTmp; omega), hf i (by omega), g1, zb, zl, nI_1]
      exact e1
  have hf0 : mFr mTmp μ (sv_sI (sv_sI (sv_sI (sv_sI (sv_sI μ 0 27 0) 0 28 0) 0 29 (-1)) 0 30 0) 0 31 0) := mFr_tr (mFr_tr (mFr_tr (mFr_tr (mFr_I ⟨rfl, by omega, by omega⟩) (mFr_I ⟨rfl, by omega, by omega⟩)) (mFr_I ⟨rfl, by omega, by omega⟩)) (mFr_I ⟨rfl, by omega, by omega⟩)) (mFr_I ⟨rfl, by omega, by omega⟩)
  obtain ⟨μ', e1, e2, e3⟩ := loop n 0 (199 - n) _ (by omega) (by omega) hf0 ⟨by rw [zI_o (by omega), zI_o (by omega), zI_o (by omega), zI_o (by omega)]; exact zI_v, by rw [show nI (zPc (tRun D F (dR D) f 0).2.1) = 0 by show nI (zPc 0) = 0; decide, zI_o (by omega), zI_o (by omega), zI_o (by omega)]; exact zI_v, by rw [zI_o (by omega), zI_o (by omega)]; exact zI_v, by rw [zI_o (by omega)]; exact zI_v, zI_v⟩
  rw [show 199 - n + n + 1 = sv_N by unfold sv_N; omega] at e1
  refine ⟨μ', ?_, e2, e3⟩
  unfold q_X8_goes q_X8_begins
  rw [zl, zl, zl, zl, zl, zb]
  exact e1
end TOUR2

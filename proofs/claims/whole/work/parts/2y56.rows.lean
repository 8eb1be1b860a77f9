/-! ===== calls: cell, sheet ===== -/
section ROW
variable {θ θm : sv_T} {σ μ : sv_S} {tc : Nat} {Fs : Nat → Nat → (Nat → Int32) → Int32} {D : zD}
theorem z_bn {n L : Nat} (h : n < L) (hL : L < 2147483648) : ¬ (nI n < 0 ∨ L ≤ n) := by
  intro q
  rcases q with q | q
  · exact nI_pos (by omega) q
  · omega
theorem x_row (hB : sx_base θ) {s : Nat} (hs : s < 4) : sv_oX5 θ (34 + 2 * s) := by
  have : s = 0 ∨ s = 1 ∨ s = 2 ∨ s = 3 := by omega
  rcases this with rfl | rfl | rfl | rfl
  · exact ⟨sx_i 34 hB (by omega), sx_c34 hB, sx_i 35 hB (by omega), sx_c35 hB⟩
  · exact ⟨sx_i 36 hB (by omega), sx_c36 hB, sx_i 37 hB (by omega), sx_c37 hB⟩
  · exact ⟨sx_i 38 hB (by omega), sx_c38 hB, sx_i 39 hB (by omega), sx_c39 hB⟩
  · exact ⟨sx_i 40 hB (by omega), sx_c40 hB, sx_i 41 hB (by omega), sx_c41 hB⟩
theorem x_rowL (hB : sx_base θ) {s : Nat} (hs : s < 4) : sv_len θ (34 + 2 * s + 1) = 40 := sx_L (x_row hB hs).2.2.2
theorem x_rowAtY (h : zRel θ θm σ μ tc Fs D) {s : Nat} (hs : s < 4) : q_X7_rowAt θ (nI s) σ = some (some (34 + 2 * s), σ) := by
  unfold q_X7_rowAt
  rw [if_neg (nI_pos (by omega)), if_neg (show ¬ (4 : Int32) ≤ nI s from nI_ge (b := 4) hs (by omega)), if_neg (z_bd hs (by omega)), nI_clamp (by omega), (h.2.2.2.2.2.2 s hs).1, zos, if_pos (x_row h.1 hs)]
theorem x_rowAtN {a : Int32} (ha : a < 0 ∨ nI 4 ≤ a) : q_X7_rowAt θ a σ = some (none, σ) := by
  unfold q_X7_rowAt
  by_cases h0 : a < 0
  · rw [if_pos h0]
  · rw [if_neg h0]
    rcases ha with q | q
    · exact absurd q h0
    · rw [if_pos (show (4 : Int32) ≤ a from q)]
theorem m_shY {s : Nat} (hs : s < 4) : q_X8_isSheet θm (nI s) μ = some (1, μ) := by
  unfold q_X8_isSheet
  rw [m_inY (c := 3) (show (s : Int) ≤ 3 by omega) (by omega), zb, if_pos p11]
theorem m_shN {a : Int32} (ha : a < 0 ∨ nI 4 ≤ a) : q_X8_isSheet θm a μ = some (0, μ) := by
  unfold q_X8_isSheet
  rcases ha with q | q
  · rw [m_inN q, zb, if_pos p01]
  · rw [m_inO q (by omega) (show (3 : Int64).toInt < (4 : Nat) by decide), zb, if_pos p01]
theorem z_sheet (a : Int32) : (a < 0 ∨ nI 4 ≤ a) ∨ ∃ s, s < 4 ∧ a = nI s := by
  rcases pk_ix a (n := 4) (by omega) with q | q | q
  · exact Or.inl (Or.inl q)
  · exact Or.inl (Or.inr q)
  · exact Or.inr q
def zRo (s i j : Nat) : Prop := i = 34 + 2 * s ∨ i = 34 + 2 * s + 1 ∨ zTmp i j
def mRo (s i j : Nat) : Prop := (10 ≤ i ∧ i ≤ 12 ∧ j = s) ∨ (i = 13 ∧ 40 * s ≤ j ∧ j < 40 * s + 40) ∨ mTmp i j
theorem zRel_row (h : zRel θ θm σ μ tc Fs D) {s : Nat} (hs : s < 4) {σ' μ' : sv_S} (hf : xFr (zRo s) σ σ') (hg : mFr (mRo s) μ μ') (hn : zRw1 σ' μ' s) : zRel θ θm σ' μ' tc Fs D := by
  obtain ⟨a1, a2, a3, ⟨a4, a5, a6, a7⟩, a8, a9, a10⟩ := h
  refine ⟨a1, a2, zTexts_fr a3 hf hg (by unfold zRo zTmp zSk; exact ⟨by omega, fun j => by omega⟩) (fun i j h1 h2 => by unfold zRo zTmp zSk; omega) (by unfold mRo mTmp; omega) (fun i j h1 h2 => by unfold mRo mTmp; omega), ⟨a4, a5, xMk_fr a6 hf (fun i j h1 h2 => by unfold zRo zTmp zSk; omega), mMk_fr a7 hg (by unfold mRo mTmp; omega) (fun i j h1 h2 => by unfold mRo mTmp; omega)⟩, zKp_fr a8 hf hg (by unfold zRo zTmp zSk; omega) (fun i j h1 h2 => by unfold zRo zTmp zSk; omega) (by unfold mRo mTmp; omega) (fun i j h1 h2 => by unfold mRo mTmp; omega), zTp_fr a9 hf hg (by unfold zRo zTmp zSk; omega) (fun j => by unfold zRo zTmp zSk; omega) (by unfold mRo mTmp; omega) (fun j => by unfold mRo mTmp; omega), fun q hq => ?_⟩
  obtain ⟨b1, b2⟩ := a10 q hq
  refine ⟨by rw [(hf.2 21 q (by unfold zRo zTmp zSk; omega)).2]; exact b1, ?_⟩
  by_cases e : q = s
  · subst e; exact hn
  · exact zRw1_fr b2 hq hf hg (fun j => by unfold zRo zTmp zSk; omega) (fun i h1 h2 => by unfold mRo mTmp; omega) (fun j hj => by unfold mRo mTmp; omega)
/-- what a sheet of that sort makes of a value -/
def zNarr (q : Nat) (v : Int32) : Int32 := if q = 0 then v.toInt8.toInt32 else if q = 1 then v.toInt16.toInt32 else v
theorem x_write (hB : sx_base θ) {s q n i : Nat} {v : Int32} (hs : s < 4) (hq : q ≤ 2) (hn : n ≤ 40) (h1 : σ.1 (34 + 2 * s) 1 = nI q) (h2 : σ.1 (34 + 2 * s) 2 = nI n) (hi : i < n) : q_X5_write θ (34 + 2 * s) (nI i) v σ = some (1, sv_sI σ (34 + 2 * s + 1) i (zNarr q v)) := by
  unfold q_X5_write zNarr
  rw [if_neg (nI_pos (by omega)), h2, if_neg (nI_ge hi (by omega)), if_pos (show nI i < (40 : Int32) from nI_lt (b := 40) (by omega) (by omega)), h1, if_neg (z_bd (n := i) (L := 40) (by omega) (by omega)), nI_clamp (by omega)]
  have : q = 0 ∨ q = 1 ∨ q = 2 := by omega
  rcases this with rfl | rfl | rfl
  · rw [if_pos (show nI 0 = 0 from rfl)]; rfl
  · rw [if_neg (show ¬ nI 1 = 0 by decide), if_pos (show nI 1 = 1 from rfl), if_neg (z_bn (n := i) (L := 40) (by omega) (by omega)), zl]; rfl
  · rw [if_neg (show ¬ nI 2 = 0 by decide), if_neg (show ¬ nI 2 = 1 by decide), if_neg (z_bn (n := i) (L := 40) (by omega) (by omega)), zl]; rfl
theorem z_40 (s i : Nat) : (40 : Int32) * nI s + nI i = nI (40 * s + i) := by rw [show (40 : Int32) = nI 40 from rfl, pk_mul, nI_add]
theorem c_cell (h : zRel θ θm σ μ tc Fs D) (a1 a2 a3 : Int32) : zGo θ θm tc Fs (q_X7_cell θ a1 a2 a3 σ) (q_X8_cell θm a1 a2 a3 μ) := by
  have hB := h.1
  unfold q_X7_cell q_X8_cell
  rcases z_sheet a1 with q | ⟨s, hs, rfl⟩
  · rw [x_rowAtN q, zb, zon, m_shN q, zb, if_pos p00]
    exact zGo_same h rfl rfl
  rw [x_rowAtY h hs, zb, zos, if_pos (x_row hB hs), m_shY hs, zb, if_neg n10, if_neg (z_bd hs (by omega)), nI_clamp (by omega)]
  obtain ⟨-, hr⟩ := h.2.2.2.2.2.2 s hs
  rcases hr with ⟨r1, r2⟩ | ⟨q, n, r1, r2, r3, r4, r5, r6, r7, r8⟩
  · rw [r1, if_pos (show (-1 : Int32) = -1 from rfl), r2, if_pos p00]
    exact zGo_same h rfl rfl
  have e1 : ∀ n : Nat, n ≤ 40 → (nI n - 1 : Int32).toInt64.toInt = (n : Int) - 1 := fun n hn => by
    rw [Int32.toInt_toInt64, z_sub]
    · rw [z_nI (by omega)]; rfl
    · rw [z_nI (by omega)]; show -2147483648 ≤ (n : Int) - 1; omega
    · rw [z_nI (by omega)]; show (n : Int) - 1 < 2147483648; omega
  rw [r3, if_neg (zO_ne (v := q) (by omega)), r5, if_neg n10, if_neg (z_bn hs (by omega)), r7]
  rcases pk_ix a2 (n := n) (by omega) with z | z | ⟨i, hi, rfl⟩
  · have : q_X5_write θ (34 + 2 * s) a2 a3 σ = some (0, σ) := by unfold q_X5_write; rw [if_pos z]
    rw [this, zb, if_pos p00, m_inN z, zb, if_pos p00]
    exact zGo_same h rfl rfl
  · have : q_X5_write θ (34 + 2 * s) a2 a3 σ = some (0, σ) := by unfold q_X5_write; rw [if_neg (z_pos (by omega) z), r4, if_pos z]
    rw [this, zb, if_pos p00, m_inO z (by omega) (by rw [e1 n r2]; omega), zb, if_pos p00]
    exact zGo_same h rfl rfl
  rw [x_write hB hs r1 r2 r3 r4 hi, zb, if_neg n10, m_inY (by rw [e1 n r2]; omega) (by omega), zb, if_neg n10, if_neg (z_bn hs (by omega)), r6, z_40, if_neg (z_bd (n := 40 * s + i) (L := 160) (by omega) (by omega)), nI_clamp (n := 40 * s + i) (by omega)]
  have fin : ∀ v : Int32, v = zNarr q a3 → zGo θ θm tc Fs (some (1, sv_sI σ (34 + 2 * s + 1) i (zNarr q a3))) (some (1, sv_sI μ 13 (40 * s + i) v)) := fun v hv => by
    subst hv
    refine ⟨_, _, _, D, rfl, rfl, zRel_row h hs (xFr_I (Or.inr (Or.inl rfl))) (mFr_I (Or.inr (Or.inl ⟨rfl, by omega, by omega⟩))) (Or.inr ⟨q, n, r1, r2, by rw [zI_o (by omega)]; exact r3, by rw [zI_o (by omega)]; exact r4, by rw [zI_o (by omega)]; exact r5, by rw [zI_o (by omega)]; exact r6, by rw [zI_o (by omega)]; exact r7, fun k hk => ?_⟩)⟩
    by_cases e : k = i
    · subst e; rw [zI_v, zI_v]
    · rw [zI_o (by omega), zI_o (by omega)]; exact r8 k hk
  have : q = 0 ∨ q = 1 ∨ q = 2 := by omega
  rcases this with rfl | rfl | rfl
  · rw [if_pos (show nI 0 = 0 from rfl)]
    exact fin _ rfl
  · rw [if_neg (show ¬ nI 1 = 0 by decide), if_neg (z_bn hs (by omega)), if_pos (show nI 1 = 1 from rfl), if_neg (z_bn (n := 40 * s + i) (L := 160) (by omega) (by omega))]
    exact fin _ rfl
  · rw [if_neg (show ¬ nI 2 = 0 by decide), if_neg (z_bn hs (by omega)), if_neg (show ¬ nI 2 = 1 by decide), if_neg (z_bn (n := 40 * s + i) (L := 160) (by omega) (by omega))]
    exact fin _ rfl
theorem x_fill {b : Nat} (hL : sv_len θ b = 40) {a2 : Int32} : ∀ (k i fuel : Nat) (σ : sv_S), 40 - i = k → i ≤ 40 → (∀ j, j < i → σ.1 b j = 0) → ∃ σ', q_J7_fill_53178_B5 θ b a2 (fuel + k + 1) (0 : Int32) (nI i) (nI 40) σ = some ((), σ') ∧ xFr (fun a _ => a = b) σ σ' ∧ ∀ j, j < 40 → σ'.1 b j = 0 := by
  intro k
  induction k with
  | zero =>
    intro i fuel σ h1 h2 h3
    refine ⟨σ, ?_, xFr_rf, fun j hj => h3 j (by omega)⟩
    show q_J7_fill_53178_B5_b θ b a2 _ (0 : Int32) (nI i) (nI 40) σ = _
    unfold q_J7_fill_53178_B5_b
    rw [if_pos (nI_le (by omega) (by omega))]
  | succ k ih =>
    intro i fuel σ h1 h2 h3
    obtain ⟨σ', g1, g2, g3⟩ := ih (i + 1) fuel (sv_sI σ b i 0) (by omega) (by omega) (fun j hj => by
      by_cases e : j = i
      · subst e; exact zI_v
      · rw [zI_o (by omega)]; exact h3 j (by omega))
    refine ⟨σ', ?_, xFr_tr (xFr_I rfl) g2, g3⟩
    show q_J7_fill_53178_B5_b θ b a2 (q_J7_fill_53178_B5 θ b a2 (fuel + (k + 1))) (0 : Int32) (nI i) (nI 40) σ = _
    unfold q_J7_fill_53178_B5_b
    rw [if_neg (nI_ge (by omega) (by omega)), hL, if_neg (z_bd (n := i) (L := 40) (by omega) (by omega)), nI_clamp (by omega), zl, zl, nI_1]
    exact g1
theorem x_renew (hB : sx_base θ) {s n : Nat} {so : Int32} (hs : s < 4) (hn : n ≤ 40) : ∃ σ', q_X5_renew θ (34 + 2 * s) so (nI n) σ = some ((), σ') ∧ xFr (zRo s) σ σ' ∧ σ'.1 (34 + 2 * s) 1 = so ∧ σ'.1 (34 + 2 * s) 2 = nI n ∧ ∀ j, j < 40 → σ'.1 (34 + 2 * s + 1) j = 0 := by
  have hL := x_rowL hB hs
  have hbd : zbd (nI n) (0 : Int32) (40 : Int32) = nI n := by
    unfold zbd
    rw [if_pos (nI_pos' (by omega)), if_pos (show nI n ≤ (40 : Int32) from nI_le (b := 40) hn (by omega))]
  obtain ⟨σ', g1, g2, g3⟩ := x_fill (θ := θ) hL (a2 := 0) 40 0 159 (sv_sI (sv_sI σ (34 + 2 * s) 1 so) (34 + 2 * s) 2 (nI n)) (by omega) (by omega) (fun j hj => by omega)
  refine ⟨σ', ?_, xFr_tr (xFr_tr (xFr_I (Or.inl rfl)) (xFr_I (Or.inl rfl))) (xFr_w g2 (fun i j q => Or.inr (Or.inl q))), ?_, ?_, g3⟩
  · unfold q_X5_renew q_J7_fill_53178
    rw [zl, z_bound, zb, hbd, zl, hL, zl]
    have : q_J7_fill_53178_B5 θ (34 + 2 * s + 1) 0 sv_N (0 : Int32) (0 : Int32) (Int32.ofNat 40) (sv_sI (sv_sI σ (34 + 2 * s) 1 so) (34 + 2 * s) 2 (nI n)) = some ((), σ') := g1
    rw [this, zb]
  · rw [(g2.2 (34 + 2 * s) 1 (by omega)).1, zI_o (by omega)]; exact zI_v
  · rw [(g2.2 (34 + 2 * s) 2 (by omega)).1]; exact zI_v
theorem m_zero {s n : Nat} {a1 a2 a3 x2 : Int32} (hs : s < 4) (hn : n ≤ 40) (hx : ¬ x2 < 0) : ∀ (k i fuel : Nat) (μ : sv_S), n - i = k → i ≤ n → (∀ j, j < i → μ.1 13 (40 * s + j) = 0) → ∃ μ', q_X8_sheet_B77 θm a1 a2 a3 (fuel + k + 1) (nI s) x2 (nI n) (nI i) μ = some (1, μ') ∧ mFr (fun a b => a = 13 ∧ 40 * s ≤ b ∧ b < 40 * s + 40) μ μ' ∧ ∀ j, j < n → μ'.1 13 (40 * s + j) = 0 := by
  intro k
  induction k with
  | zero =>
    intro i fuel μ h1 h2 h3
    refine ⟨μ, ?_, mFr_rf, fun j hj => h3 j (by omega)⟩
    show q_X8_sheet_B77_b θm a1 a2 a3 _ (nI s) x2 (nI n) (nI i) μ = _
    unfold q_X8_sheet_B77_b
    rw [if_pos (nI_le (by omega) (by omega))]
  | succ k ih =>
    intro i fuel μ h1 h2 h3
    obtain ⟨μ', g1, g2, g3⟩ := ih (i + 1) fuel (sv_sI μ 13 (40 * s + i) 0) (by omega) (by omega) (fun j hj => by
      by_cases e : j = i
      · subst e; exact zI_v
      · rw [zI_o (by omega)]; exact h3 j (by omega))
    refine ⟨μ', ?_, mFr_tr (mFr_I ⟨rfl, by omega, by omega⟩) g2, g3⟩
    show q_X8_sheet_B77_b θm a1 a2 a3 (q_X8_sheet_B77 θm a1 a2 a3 (fuel + (k + 1))) (nI s) x2 (nI n) (nI i) μ = _
    unfold q_X8_sheet_B77_b
    rw [if_neg (nI_ge (by omega) (by omega)), if_neg hx, z_40, if_neg (z_bd (by omega) (by omega)), nI_clamp (by omega), zl, zl, nI_1]
    exact g1
/-- a new sheet of sort q with n items, both sides -/
theorem m_sheetNew {s q n : Nat} {a1 a2 a3 : Int32} (hs : s < 4) (hq : q ≤ 2) (hn : n ≤ 40) : ∃ μ', q_X8_sheet_B45 θm a1 a2 a3 (nI s) (nI q) (nI n) μ = some (1, μ') ∧ mFr (mRo s) μ μ' ∧ μ'.1 10 s = 1 ∧ μ'.1 11 s = nI q ∧ μ'.1 12 s = nI n ∧ ∀ j, j < n → μ'.1 13 (40 * s + j) = 0 := by
  obtain ⟨μ', g1, g2, g3⟩ := m_zero (θm := θm) (a1 := a1) (a2 := a2) (a3 := a3) (x2 := nI q) hs hn (nI_pos (by omega)) n 0 (199 - n) (sv_sI (sv_sI (sv_sI μ 10 s 1) 11 s (nI q)) 12 s (nI n)) (by omega) (by omega) (fun j hj => by omega)
  rw [show 199 - n + n + 1 = sv_N by unfold sv_N; omega] at g1
  refine ⟨μ', ?_, mFr_tr (mFr_tr (mFr_tr (mFr_I (Or.inl ⟨by omega, by omega, rfl⟩)) (mFr_I (Or.inl ⟨by omega, by omega, rfl⟩))) (mFr_I (Or.inl ⟨by omega, by omega, rfl⟩))) (mFr_w g2 (fun i j q => Or.inr (Or.inl q))), ?_, ?_, ?_, g3⟩
  · unfold q_X8_sheet_B45
    rw [if_neg (nI_pos (by omega)), if_neg (z_bd hs (by omega)), nI_clamp (by omega), zl, if_neg (z_bn hs (by omega)), zl, if_neg (z_bn hs (by omega)), zl]
    exact g1
  · rw [g2.2 10 s (by omega), zI_o (by omega), zI_o (by omega)]; exact zI_v
  · rw [g2.2 11 s (by omega), zI_o (by omega)]; exact zI_v
  · rw [g2.2 12 s (by omega)]; exact zI_v
theorem c_sheet (h : zRel θ θm σ μ tc Fs D) (a1 a2 a3 : Int32) : zGo θ θm tc Fs (q_X7_sheet θ a1 a2 a3 σ) (q_X8_sheet θm a1 a2 a3 μ) := by
  have hB := h.1
  have em1 : (-1 : Int64).toInt = -1 := rfl
  have e2 : (2 : Int64).toInt = 2 := rfl
  have f1 : (-1 : Int32).toInt = -1 := rfl
  have f2 : (2 : Int32).toInt = 2 := rfl
  have f0 : (0 : Int32).toInt = 0 := rfl
  unfold q_X7_sheet q_X8_sheet
  rcases z_sheet a1 with q | ⟨s, hs, rfl⟩
  · rw [x_rowAtN q, zb, zon, m_shN q, zb, if_pos p00]
    exact zGo_same h rfl rfl
  rw [x_rowAtY h hs, zb, zos, if_pos (x_row hB hs), m_shY hs, zb, if_neg n10, z_inI, zb, z_r01, em1, e2]
  by_cases b1 : a2 < -1
  · rw [if_pos b1, if_neg (show ¬ (-1 ≤ a2.toInt ∧ a2.toInt ≤ 2) by rw [z_lt, f1] at b1; omega)]
    exact zGo_same h rfl rfl
  rw [if_neg b1]
  by_cases b2 : ¬ a2 ≤ 2
  · rw [if_neg b2, if_neg (show ¬ (-1 ≤ a2.toInt ∧ a2.toInt ≤ 2) by rw [z_le, f2] at b2; omega)]
    exact zGo_same h rfl rfl
  have b2 : a2 ≤ 2 := Decidable.not_not.mp b2
  have hin : -1 ≤ a2.toInt ∧ a2.toInt ≤ 2 := by rw [z_lt, f1] at b1; rw [z_le, f2] at b2; omega
  rw [if_pos b2, if_pos hin]
  by_cases bm : a2 = -1
  · subst bm
    obtain ⟨σ', r1, r2, r3, r4, r5⟩ := x_renew (θ := θ) (σ := σ) (so := -1) (n := 0) hB hs (by omega)
    have r1' : q_X5_renew θ (34 + 2 * s) (-1 : Int32) (0 : Int32) σ = some ((), σ') := r1
    rw [if_pos (show (-1 : Int32) = -1 from rfl), r1', zb, if_pos (show (-1 : Int32) < 0 by decide), if_pos (show (-1 : Int32) < 0 by decide)]
    unfold q_X8_sheet_B45
    rw [if_pos (show (-1 : Int32) < 0 by decide), if_neg (z_bd hs (by omega)), nI_clamp (by omega), zl, if_neg (z_bn hs (by omega)), zl, if_neg (z_bn hs (by omega)), zl]
    have ez : ∀ μ : sv_S, q_X8_sheet_B77 θm (nI s) (-1 : Int32) a3 sv_N (nI s) (-1 : Int32) a3 (0 : Int32) μ = some (1, μ) := fun μ => by
      show q_X8_sheet_B77_b θm (nI s) (-1 : Int32) a3 _ (nI s) (-1 : Int32) a3 (0 : Int32) μ = _
      unfold q_X8_sheet_B77_b
      by_cases hz : a3 ≤ 0
      · rw [if_pos hz]
      · rw [if_neg hz, if_pos (show (-1 : Int32) < 0 by decide)]
    rw [ez]
    refine ⟨_, _, _, D, rfl, rfl, zRel_row h hs r2 (mFr_tr (mFr_tr (mFr_I (Or.inl ⟨by omega, by omega, rfl⟩)) (mFr_I (Or.inl ⟨by omega, by omega, rfl⟩))) (mFr_I (Or.inl ⟨by omega, by omega, rfl⟩))) (Or.inl ⟨r3, ?_⟩)⟩
    rw [zI_o (by omega), zI_o (by omega)]; exact zI_v
  have hnn : ¬ a2 < 0 := fun z => by
    rw [z_lt, f0] at z
    exact bm (by rw [z_eq, f1]; omega)
  obtain ⟨q, hq, rfl⟩ := z_of (x := a2) (n := 3) (by rw [z_lt, f0] at hnn; omega) (by omega)
  rw [if_neg (zO_ne (v := q) (by omega)), if_neg hnn, if_neg hnn]
  by_cases b40 : ¬ a3 ≤ 40
  · rw [if_neg b40, if_neg b40]
    exact zGo_same h rfl rfl
  have b40 : a3 ≤ 40 := Decidable.not_not.mp b40
  rw [if_pos b40, if_pos b40]
  by_cases bn : ¬ (0 : Int32) ≤ a3
  · rw [if_neg bn, if_neg bn]
    exact zGo_same h rfl rfl
  have bn : (0 : Int32) ≤ a3 := Decidable.not_not.mp bn
  obtain ⟨n, hn, rfl⟩ := z_of (x := a3) (n := 41) (by rw [z_le, f0] at bn; omega) (by rw [z_le, show (40 : Int32).toInt = 40 from rfl] at b40; omega)
  obtain ⟨σ', r1, r2, r3, r4, r5⟩ := x_renew (θ := θ) (σ := σ) (so := nI q) (n := n) hB hs (by omega)
  obtain ⟨μ', g1, g2, g3, g4, g5, g6⟩ := m_sheetNew (θm := θm) (μ := μ) (a1 := nI s) (a2 := nI q) (a3 := nI n) hs (q := q) (n := n) (by omega) (by omega)
  rw [if_pos bn, if_pos bn, r1, zb, g1]
  exact ⟨_, _, _, D, rfl, rfl, zRel_row h hs r2 g2 (Or.inr ⟨q, n, by omega, by omega, r3, r4, g3, g4, g5, fun i hi => by rw [r5 i (by omega), g6 i hi]⟩)⟩
end ROW

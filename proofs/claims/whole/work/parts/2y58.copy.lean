/-! ===== calls: copy, bargains ===== -/
section CPY
variable {θ θm : sv_T} {σ μ : sv_S} {tc : Nat} {Fs : Nat → Nat → (Nat → Int32) → Int32} {D : zD}
/-- one after another is copied, none that is read is written before -/
theorem z_copyRun {n : Nat} (src dst ix : Nat → Nat) (L : Nat → Int32 → sv_S → Option (Int32 × sv_S)) (hn : n < 2147483648)
    (hend : ∀ f μ, L (f + 1) (nI n) μ = some (nI n, μ)) (hstep : ∀ f k μ, k < n → L (f + 1) (nI k) μ = L f (nI (k + 1)) (sv_sI μ 13 (dst (ix k)) (μ.1 13 (src (ix k)))))
    (hdis : ∀ k q, k < n → q < k → dst (ix q) ≠ src (ix k)) (hinj : ∀ k q, k < n → q < k → dst (ix q) ≠ dst (ix k)) (μ0 : sv_S) :
    ∀ (r k fuel : Nat) (μ : sv_S), n - k = r → k ≤ n → (∀ q, q < k → μ.1 13 (dst (ix q)) = μ0.1 13 (src (ix q))) → (∀ c, (∀ q, q < k → c ≠ dst (ix q)) → μ.1 13 c = μ0.1 13 c) →
      ∃ μ', L (fuel + r + 1) (nI k) μ = some (nI n, μ') ∧ mFr (fun i j => i = 13 ∧ ∃ q, q < n ∧ j = dst (ix q)) μ μ' ∧ (∀ q, q < n → μ'.1 13 (dst (ix q)) = μ0.1 13 (src (ix q))) ∧ (∀ c, (∀ q, q < n → c ≠ dst (ix q)) → μ'.1 13 c = μ0.1 13 c) := by
  intro r
  induction r with
  | zero =>
    intro k fuel μ h1 h2 h3 h4
    have : k = n := by omega
    subst this
    exact ⟨μ, hend _ _, mFr_rf, h3, h4⟩
  | succ r ih =>
    intro k fuel μ h1 h2 h3 h4
    have hs : μ.1 13 (src (ix k)) = μ0.1 13 (src (ix k)) := h4 _ (fun q hq => (hdis k q (by omega) hq).symm)
    obtain ⟨μ', g1, g2, g3, g4⟩ := ih (k + 1) fuel (sv_sI μ 13 (dst (ix k)) (μ.1 13 (src (ix k)))) (by omega) (by omega) (fun q hq => by
      by_cases e : q = k
      · subst e; rw [zI_v, hs]
      · rw [zI_o (Or.inr (hinj k q (by omega) (by omega)))]; exact h3 q (by omega)) (fun c hc => by
      rw [zI_o (Or.inr (hc k (by omega)))]; exact h4 c (fun q hq => hc q (by omega)))
    refine ⟨μ', ?_, mFr_tr (mFr_I ⟨rfl, k, by omega, rfl⟩) g2, g3, g4⟩
    rw [show fuel + (r + 1) + 1 = (fuel + r + 1) + 1 by omega, hstep _ k μ (by omega)]
    exact g1
theorem x_spans {s n : Nat} {a b : Int32} (h2 : σ.1 (34 + 2 * s) 2 = nI n) (hn : n ≤ 40) : q_X5_spans θ (34 + 2 * s) a b σ = some (if 0 ≤ a.toInt ∧ 0 ≤ b.toInt ∧ a.toInt + b.toInt ≤ n then 1 else 0, σ) := by
  have f0 : (0 : Int32).toInt = 0 := rfl
  have en := z_nI (n := n) (by omega)
  unfold q_X5_spans
  rw [h2]
  by_cases h1 : a < 0
  · rw [if_pos h1, if_neg]
    rw [z_lt, f0] at h1; omega
  · rw [if_neg h1]
    by_cases h3 : b < 0
    · rw [if_pos h3, if_neg]
      rw [z_lt, f0] at h3; omega
    · rw [if_neg h3]
      rw [z_lt, f0] at h1 h3
      by_cases h4 : nI n < a
      · rw [if_pos h4, if_neg]
        rw [z_lt, en] at h4; omega
      · rw [if_neg h4]
        rw [z_lt, en] at h4
        have es : (nI n - a).toInt = (n : Int) - a.toInt := by rw [z_sub (by rw [en]; omega) (by rw [en]; omega), en]
        by_cases h5 : nI n - a < b
        · rw [if_pos h5, if_neg]
          rw [z_lt, es] at h5; omega
        · rw [if_neg h5, if_pos]
          rw [z_lt, es] at h5; omega
theorem c_copy (h : zRel θ θm σ μ tc Fs D) (a1 a2 a3 a4 a5 : Int32) : zGo θ θm tc Fs (q_X7_copy θ a1 a2 a3 a4 a5 σ) (q_X8_copy θm a1 a2 a3 a4 a5 μ) := by
  have hB := h.1
  have f0 : (0 : Int32).toInt = 0 := rfl
  unfold q_X7_copy q_X8_copy
  rcases z_sheet a1 with q | ⟨s, hs, rfl⟩
  · rw [x_rowAtN q, zb, zon, m_shN q, zb, if_pos p00]
    rcases z_sheet a3 with q' | ⟨t, ht, rfl⟩
    · rw [x_rowAtN q', zb, zon]
      exact zGo_same h rfl rfl
    · rw [x_rowAtY h ht, zb, zos, if_pos (x_row hB ht)]
      exact zGo_same h rfl rfl
  rw [x_rowAtY h hs, zb, zos, if_pos (x_row hB hs), m_shY hs, zb, if_neg n10]
  rcases z_sheet a3 with q' | ⟨t, ht, rfl⟩
  · rw [x_rowAtN q', zb, zon, m_shN q', zb, if_pos p00]
    exact zGo_same h rfl rfl
  rw [x_rowAtY h ht, zb, zos, if_pos (x_row hB ht), m_shY ht, zb, if_neg n10, if_neg (z_bd hs (by omega)), nI_clamp (n := s) (by omega)]
  obtain ⟨-, hr⟩ := h.2.2.2.2.2.2 s hs
  obtain ⟨-, hr'⟩ := h.2.2.2.2.2.2 t ht
  rcases hr with ⟨r1, r2⟩ | ⟨q, n, r1, r2, r3, r4, r5, r6, r7, r8⟩
  · rw [r1, if_pos (show (-1 : Int32) = -1 from rfl), r2, if_pos p00]
    exact zGo_same h rfl rfl
  rw [r3, if_neg (zO_ne (v := q) (by omega)), r5, if_neg n10]
  have gt : ¬ (nI t < 0 ∨ 4 ≤ (nI t).toNatClampNeg) := z_bd ht (by omega)
  rw [if_neg gt]
  have ct : (nI t).toNatClampNeg = t := nI_clamp (by omega)
  rcases hr' with ⟨u1, u2⟩ | ⟨q', n', u1, u2, u3, u4, u5, u6, u7, u8⟩
  · rw [u1, if_pos (show (-1 : Int32) = -1 from rfl), ct, u2, if_pos p00]
    exact zGo_same h rfl rfl
  rw [u3, if_neg (zO_ne (v := q') (by omega)), ct, u5, if_neg n10, if_neg (z_bn hs (by omega)), if_neg (z_bn ht (by omega)), r6, u6]
  by_cases hqq : nI q = nI q'
  rotate_left
  · rw [if_neg hqq, if_neg hqq]
    exact zGo_same h rfl rfl
  rw [if_pos hqq, if_pos hqq, x_spans r4 r2, zb, z_r01]
  have en := z_nI (n := n) (by omega)
  have en' := z_nI (n := n') (by omega)
  -- the reference's tests
  by_cases c5 : a5 < 0
  · rw [if_pos c5]
    rw [z_lt, f0] at c5
    rw [if_neg (show ¬ (0 ≤ a2.toInt ∧ 0 ≤ a5.toInt ∧ a2.toInt + a5.toInt ≤ n) by omega)]
    exact zGo_same h rfl rfl
  rw [if_neg c5]
  by_cases c2 : a2 < 0
  · rw [if_pos c2]
    rw [z_lt, f0] at c2
    rw [if_neg (show ¬ (0 ≤ a2.toInt ∧ 0 ≤ a5.toInt ∧ a2.toInt + a5.toInt ≤ n) by omega)]
    exact zGo_same h rfl rfl
  rw [if_neg c2]
  have d5 : 0 ≤ a5.toInt := by rw [z_lt, f0] at c5; omega
  have d2 : 0 ≤ a2.toInt := by rw [z_lt, f0] at c2; omega
  have es : (nI n - a5).toInt = (n : Int) - a5.toInt := by have := z_rng a5; rw [z_sub (by rw [en]; omega) (by rw [en]; omega), en]
  have es' : (nI n' - a5).toInt = (n' : Int) - a5.toInt := by have := z_rng a5; rw [z_sub (by rw [en']; omega) (by rw [en']; omega), en']
  by_cases c4 : a4 < 0
  · rw [if_pos c4]
    rw [z_lt, f0] at c4
    by_cases hf : 0 ≤ a2.toInt ∧ 0 ≤ a5.toInt ∧ a2.toInt + a5.toInt ≤ n
    · rw [if_pos hf, x_spans u4 u2, zb, z_r01, if_neg (show ¬ (0 ≤ a4.toInt ∧ 0 ≤ a5.toInt ∧ a4.toInt + a5.toInt ≤ n') by omega)]
      exact zGo_same h rfl rfl
    · rw [if_neg hf]
      exact zGo_same h rfl rfl
  rw [if_neg c4, if_neg (z_bn hs (by omega)), r7]
  have d4 : 0 ≤ a4.toInt := by rw [z_lt, f0] at c4; omega
  by_cases cn : nI n - a5 < a2
  · rw [if_pos cn]
    rw [z_lt, es] at cn
    rw [if_neg (show ¬ (0 ≤ a2.toInt ∧ 0 ≤ a5.toInt ∧ a2.toInt + a5.toInt ≤ n) by omega)]
    exact zGo_same h rfl rfl
  rw [if_neg cn, if_neg (z_bn ht (by omega)), u7]
  rw [z_lt, es] at cn
  rw [if_pos (show 0 ≤ a2.toInt ∧ 0 ≤ a5.toInt ∧ a2.toInt + a5.toInt ≤ n by omega), x_spans u4 u2, zb, z_r01]
  by_cases cm : ¬ a4 ≤ nI n' - a5
  · rw [if_neg cm]
    rw [z_le, es'] at cm
    rw [if_neg (show ¬ (0 ≤ a4.toInt ∧ 0 ≤ a5.toInt ∧ a4.toInt + a5.toInt ≤ n') by omega)]
    exact zGo_same h rfl rfl
  have cm : a4 ≤ nI n' - a5 := Decidable.not_not.mp cm
  rw [if_pos cm]
  rw [z_le, es'] at cm
  rw [if_pos (show 0 ≤ a4.toInt ∧ 0 ≤ a5.toInt ∧ a4.toInt + a5.toInt ≤ n' by omega)]
  obtain ⟨i, hi, rfl⟩ := z_of (x := a2) (n := 41) d2 (by omega)
  obtain ⟨j, hj, rfl⟩ := z_of (x := a4) (n := 41) d4 (by omega)
  obtain ⟨m, hm, rfl⟩ := z_of (x := a5) (n := 41) d5 (by omega)
  have ei := z_nI (n := i) (by omega)
  have ej := z_nI (n := j) (by omega)
  have emm := z_nI (n := m) (by omega)
  rw [ei, emm] at cn
  rw [ej, emm] at cm
  have him : i + m ≤ n := by omega
  have hjm : j + m ≤ n' := by omega
  rw [if_pos (show sv_cp (nI i) (nI j) (nI m) 40 40 from ⟨nI_pos (by omega), nI_pos (by omega), nI_pos (by omega), by rw [nI_clamp (by omega), nI_clamp (by omega)]; omega, by rw [nI_clamp (by omega), nI_clamp (by omega)]; omega⟩), zl, nI_clamp (n := i) (by omega), nI_clamp (n := j) (by omega), nI_clamp (n := m) (by omega)]
  -- what the reference's loop makes
  have eix : ∀ (x y z : Nat), (40 : Int32) * nI x + nI y + nI z = nI (40 * x + y + z) := fun x y z => by rw [z_40, nI_add]
  have fin : ∀ (B : Option (Int32 × sv_S)), (∃ μ', B = some (nI m, μ') ∧ mFr (fun a b => a = 13 ∧ 40 * t ≤ b ∧ b < 40 * t + 40) μ μ' ∧ (∀ k, k < m → μ'.1 13 (40 * t + j + k) = μ.1 13 (40 * s + i + k)) ∧ (∀ c, (∀ k, k < m → c ≠ 40 * t + j + k) → μ'.1 13 c = μ.1 13 c)) → zGo θ θm tc Fs (some (nI m, sv_sR σ (34 + 2 * t + 1) (va_cpy (σ.1 (34 + 2 * s + 1)) (σ.1 (34 + 2 * t + 1)) i j m))) B := by
    rintro B ⟨μ', g1, g2, g3, g4⟩
    refine ⟨_, _, _, D, rfl, g1, zRel_row h ht (xFr_R (fun _ => Or.inr (Or.inl rfl))) (mFr_w g2 (fun a b z => Or.inr (Or.inl z))) (Or.inr ⟨q', n', u1, u2, by rw [zR_o (by omega)]; exact u3, by rw [zR_o (by omega)]; exact u4, by rw [g2.2 10 t (by omega)]; exact u5, by rw [g2.2 11 t (by omega)]; exact u6, by rw [g2.2 12 t (by omega)]; exact u7, fun k hk => ?_⟩)⟩
    rw [zR_v]
    by_cases hin : j ≤ k ∧ k < j + m
    · rw [pk_cpy_in hin.1 hin.2, show 40 * t + k = 40 * t + j + (k - j) by omega, g3 (k - j) (by omega), r8 _ (by omega), Nat.add_assoc]
    · rw [pk_cpy_out (by omega), g4 _ (fun z hz => by omega)]
      exact u8 k hk
  have fwd : (s = t → j ≤ i) → ∃ μ', q_X8_copy_B121 θm (nI s) (nI i) (nI t) (nI j) (nI m) sv_N (nI s) (nI i) (nI t) (nI j) (nI m) (0 : Int32) (0 : Int32) μ = some (nI m, μ') ∧ mFr (fun a b => a = 13 ∧ 40 * t ≤ b ∧ b < 40 * t + 40) μ μ' ∧ (∀ k, k < m → μ'.1 13 (40 * t + j + k) = μ.1 13 (40 * s + i + k)) ∧ (∀ c, (∀ k, k < m → c ≠ 40 * t + j + k) → μ'.1 13 c = μ.1 13 c) := by
    intro hji
    obtain ⟨μ', g1, g2, g3, g4⟩ := z_copyRun (n := m) (fun k => 40 * s + i + k) (fun k => 40 * t + j + k) (fun k => k) (fun f x μ => q_X8_copy_B121 θm (nI s) (nI i) (nI t) (nI j) (nI m) f (nI s) (nI i) (nI t) (nI j) (nI m) (0 : Int32) x μ) (by omega) (fun f μ => by
      show q_X8_copy_B121_b θm (nI s) (nI i) (nI t) (nI j) (nI m) _ (nI s) (nI i) (nI t) (nI j) (nI m) (0 : Int32) (nI m) μ = _
      unfold q_X8_copy_B121_b
      rw [if_pos (nI_le (Nat.le_refl _) (by omega))]) (fun f k μ hk => by
      show q_X8_copy_B121_b θm (nI s) (nI i) (nI t) (nI j) (nI m) _ (nI s) (nI i) (nI t) (nI j) (nI m) (0 : Int32) (nI k) μ = _
      unfold q_X8_copy_B121_b q_X8_copy_B145
      rw [if_neg (nI_ge hk (by omega)), if_pos p00, eix, eix, if_neg (z_bd (by omega) (by omega)), if_neg (z_bd (by omega) (by omega)), nI_clamp (n := 40 * t + j + k) (by omega), nI_clamp (n := 40 * s + i + k) (by omega), zl, zl, nI_1]) (fun k q h1 h2 => by
        by_cases e : s = t
        · have := hji e; omega
        · omega) (fun k q h1 h2 => by omega) μ m 0 (199 - m) μ (by omega) (by omega) (fun q hq => by omega) (fun c _ => rfl)
    rw [show 199 - m + m + 1 = sv_N by unfold sv_N; omega] at g1
    exact ⟨μ', g1, mFr_w g2 (fun a b z => by obtain ⟨z1, z2, z3, z4⟩ := z; exact ⟨z1, by omega, by omega⟩), g3, g4⟩
  have bwd : (s = t → i < j) → ∃ μ', q_X8_copy_B121 θm (nI s) (nI i) (nI t) (nI j) (nI m) sv_N (nI s) (nI i) (nI t) (nI j) (nI m) (1 : Int32) (0 : Int32) μ = some (nI m, μ') ∧ mFr (fun a b => a = 13 ∧ 40 * t ≤ b ∧ b < 40 * t + 40) μ μ' ∧ (∀ k, k < m → μ'.1 13 (40 * t + j + k) = μ.1 13 (40 * s + i + k)) ∧ (∀ c, (∀ k, k < m → c ≠ 40 * t + j + k) → μ'.1 13 c = μ.1 13 c) := by
    intro hji
    obtain ⟨μ', g1, g2, g3, g4⟩ := z_copyRun (n := m) (fun k => 40 * s + i + k) (fun k => 40 * t + j + k) (fun k => m - 1 - k) (fun f x μ => q_X8_copy_B121 θm (nI s) (nI i) (nI t) (nI j) (nI m) f (nI s) (nI i) (nI t) (nI j) (nI m) (1 : Int32) x μ) (by omega) (fun f μ => by
      show q_X8_copy_B121_b θm (nI s) (nI i) (nI t) (nI j) (nI m) _ (nI s) (nI i) (nI t) (nI j) (nI m) (1 : Int32) (nI m) μ = _
      unfold q_X8_copy_B121_b
      rw [if_pos (nI_le (Nat.le_refl _) (by omega))]) (fun f k μ hk => by
      show q_X8_copy_B121_b θm (nI s) (nI i) (nI t) (nI j) (nI m) _ (nI s) (nI i) (nI t) (nI j) (nI m) (1 : Int32) (nI k) μ = _
      unfold q_X8_copy_B121_b q_X8_copy_B145
      have ew : nI m - 1 - nI k = nI (m - 1 - k) := by rw [show (1 : Int32) = nI 1 from rfl, pk_sub (by omega), pk_sub (by omega)]
      rw [if_neg (nI_ge hk (by omega)), if_neg n10, ew, eix, eix, if_neg (z_bd (by omega) (by omega)), if_neg (z_bd (by omega) (by omega)), nI_clamp (n := 40 * t + j + (m - 1 - k)) (by omega), nI_clamp (n := 40 * s + i + (m - 1 - k)) (by omega), zl, zl, nI_1]) (fun k q h1 h2 => by
        by_cases e : s = t
        · have := hji e; omega
        · omega) (fun k q h1 h2 => by omega) μ m 0 (199 - m) μ (by omega) (by omega) (fun q hq => by omega) (fun c _ => rfl)
    rw [show 199 - m + m + 1 = sv_N by unfold sv_N; omega] at g1
    refine ⟨μ', g1, mFr_w g2 (fun a b z => by obtain ⟨z1, z2, z3, z4⟩ := z; exact ⟨z1, by omega, by omega⟩), fun k hk => ?_, fun c hc => g4 c (fun q hq => hc (m - 1 - q) (by omega))⟩
    have := g3 (m - 1 - k) (by omega)
    rw [show m - 1 - (m - 1 - k) = k by omega] at this
    exact this
  by_cases est : nI s = nI t
  · rw [if_pos est]
    have est' : s = t := (nI_eq (by omega) (by omega)).mp est
    by_cases hji : j ≤ i
    · rw [if_pos (nI_le hji (by omega))]
      exact fin _ (fwd (fun _ => hji))
    · rw [if_neg (nI_ge (by omega) (by omega))]
      exact fin _ (bwd (fun _ => by omega))
  · rw [if_neg est]
    exact fin _ (fwd (fun e => absurd (by rw [e]) est))
end CPY

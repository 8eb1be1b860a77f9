/-! ===== the grammar: one, and all together ===== -/
section GR4
variable {θ θm : sv_T} {t n m : Nat} {B : Nat → Nat}
theorem l_nI {x : Nat} (h : x < 2147483648) : (lN x).toInt32 = nI x := by rw [← nI_l h, Int32.toInt32_toInt64]
theorem x_meaning (hB : sx_base θ) (hE : zEnv B n m) {σ : sv_S} {j l : Nat} (h : xG σ B n m j l) : q_X7_at θ 17 (σ.1 13 7) σ = some (zMn B n (zS B n j), σ) := by
  have l7 : sv_len θ 17 = 161 := sx_L (sx_c17 hB)
  have hm := zEnv_m hE
  obtain ⟨h1, h2, h3, h4, h5, h6⟩ := h
  rw [h2, z_at (by rw [l7]; omega), l7, zat_nI (by omega) (by omega), (h6 j (by omega)).2.2]
theorem x_one (hB : sx_base θ) (hE : zEnv B n m) {σ : sv_S} {j l : Nat} (h : xG σ B n m j l) (hj : j < m) (G : Nat → sv_T → Int32 → sv_S → Option (Unit × sv_S)) (a1 : Int32) : ∃ σ', q_X4_readOne_B15 θ G a1 σ = some ((), σ') ∧ zFr zGr σ σ' ∧ xG σ' B n m (j + 1) (l + 1) ∧ σ'.1 18 l = zMn B n (zS B n j) ∧ ∀ i, i ≠ l → σ'.1 18 i = σ.1 18 i := by
  have l8 : sv_len θ 18 = 160 := sx_L (sx_c18 hB)
  have hm := zEnv_m hE
  have hmn := x_meaning hB hE h
  obtain ⟨h1, h2, h3, h4, h5, h6⟩ := h
  generalize zMn B n (zS B n j) = v at hmn ⊢
  have hf : zFr zGr σ (sv_sI (sv_sI (sv_sI σ 18 l v) 13 10 (nI (l + 1))) 13 7 (nI (j + 1))) := zFr_tr (zFr_tr (zFr_I (Or.inr rfl)) (zFr_I (Or.inl ⟨rfl, by omega⟩))) (zFr_I (Or.inl ⟨rfl, by omega⟩))
  have e1 : q_X4_emit θ v σ = some ((), sv_sI (sv_sI σ 18 l v) 13 10 (nI (l + 1))) := by
    unfold q_X4_emit
    rw [h3, z_put (by rw [l8]; omega), zb, zl, l8, zput_nI (by omega) (by omega), zI_o (by omega), h3, nI_1]
  have e2 : (sv_sI (sv_sI σ 18 l v) 13 10 (nI (l + 1))).1 13 7 = nI j := by rw [zI_o (by omega), zI_o (by omega)]; exact h2
  refine ⟨_, ?_, hf, ⟨?_, zI_v, ?_, by omega, by omega, xTk_fr h6 hf⟩, ?_, fun i hi => ?_⟩
  · unfold q_X4_readOne_B15
    rw [hmn, zb, e1, zb, zl, e2, nI_1]
  · rw [zI_o (by omega), zI_o (by omega), zI_o (by omega)]; exact h1
  · rw [zI_o (by omega)]; exact zI_v
  · rw [zI_o (by omega), zI_o (by omega)]; exact zI_v
  · rw [zI_o (by omega), zI_o (by omega), zI_o (by omega)]
theorem zSi_r {c : Nat} (h : zSi c = true) : 40 ≤ c ∧ c ≤ 61 := by simp only [zSi, decide_eq_true_eq] at h; omega
theorem zK_1 {s : Nat} (h : zK B n s = 1) : s < n ∧ ¬ zLe (B s) = true ∧ zDi (B s) = true ∧ ¬ 4 < zTe B n s - s := by
  unfold zK at h
  by_cases hs : n ≤ s
  · rw [if_pos hs] at h; exact absurd h (by decide)
  · rw [if_neg hs] at h
    by_cases hl : zLe (B s) = true
    · exfalso
      rw [if_pos hl] at h
      have hw12 : zWd B s (zTe B n s - s) ≤ 12 := (zWdf_spec (B := B) (s := s) (len := zTe B n s - s) 12 0).2.1
      split at h
      · exact absurd h (by decide)
      · split at h
        · exact absurd h (by decide)
        · rw [show (1 : Int32) = nI 1 from rfl, nI_eq (by omega) (by omega)] at h
          omega
    · rw [if_neg hl] at h
      by_cases hd : zDi (B s) = true
      · rw [if_pos hd] at h
        refine ⟨by omega, hl, hd, fun q => ?_⟩
        rw [if_pos q] at h
        exact absurd h (by decide)
      · exfalso
        rw [if_neg hd] at h
        split at h
        · rename_i hg
          have := zSi_r hg
          rw [show (1 : Int32) = nI 1 from rfl, nI_eq (by omega) (by omega)] at h
          omega
        · exact absurd h (by decide)
theorem zK_2 {s : Nat} : zK B n s = 2 ↔ zWa B n s < 6 := by
  unfold zK zWa
  by_cases hs : n ≤ s
  · rw [if_pos hs, if_neg (show ¬ (s < n ∧ zLe (B s) = true) from fun q => by omega)]
    exact ⟨fun q => absurd q (by decide), fun q => by omega⟩
  · rw [if_neg hs]
    by_cases hl : zLe (B s) = true
    · rw [if_pos hl, if_pos (show s < n ∧ zLe (B s) = true from ⟨by omega, hl⟩)]
      have hw12 : zWd B s (zTe B n s - s) ≤ 12 := (zWdf_spec (B := B) (s := s) (len := zTe B n s - s) 12 0).2.1
      by_cases h12 : zWd B s (zTe B n s - s) = 12
      · rw [if_pos h12, h12]
        exact ⟨fun q => absurd q (by decide), fun q => by omega⟩
      · rw [if_neg h12]
        by_cases h6 : zWd B s (zTe B n s - s) < 6
        · rw [if_pos h6]
          exact ⟨fun _ => h6, fun _ => rfl⟩
        · rw [if_neg h6, show (2 : Int32) = nI 2 from rfl, nI_eq (by omega) (by omega)]
          constructor <;> intro q <;> omega
    · rw [if_neg hl, if_neg (show ¬ (s < n ∧ zLe (B s) = true) from fun q => hl q.2)]
      constructor
      · intro q
        exfalso
        split at q
        · split at q <;> exact absurd q (by decide)
        · split at q
          · rename_i hg
            have := zSi_r hg
            rw [show (2 : Int32) = nI 2 from rfl, nI_eq (by omega) (by omega)] at q
            omega
          · exact absurd q (by decide)
      · intro q; omega
theorem m_kind1 {j o : Nat} {μ : sv_S} (h : mG μ t n B j o) : μ.1 0 21 = 1 ↔ (zS B n j < n ∧ zLe (B (zS B n j)) = true) := by
  obtain ⟨h1, h2, h3, h4, h5, h6⟩ := h
  rcases h6 with ⟨q, e⟩ | ⟨a, b, e, -⟩ | ⟨a, b, e, -, -⟩ | ⟨a, b1, b2, b3, e, -, eJ⟩ | ⟨a, b1, b2, b3, e⟩
  · rw [e]; exact ⟨fun q2 => absurd q2 (by decide), fun q2 => by omega⟩
  · exact ⟨fun _ => ⟨a, b⟩, fun _ => e⟩
  · rw [e]
    have bl : ¬ zLe (B (zS B n j)) = true := by simp only [zDi, zLe, decide_eq_true_eq] at b ⊢; omega
    refine ⟨fun q2 => ?_, fun q2 => absurd q2.2 bl⟩
    split at q2 <;> exact absurd q2 (by decide)
  · rw [e]; exact ⟨fun q2 => absurd q2 (by decide), fun q2 => by rw [b1] at q2; exact absurd q2.2 (by decide)⟩
  · rw [e]; exact ⟨fun q2 => absurd q2 (by decide), fun q2 => by rw [b1] at q2; exact absurd q2.2 (by decide)⟩
theorem m_kind2 {j o : Nat} {μ : sv_S} (h : mG μ t n B j o) : μ.1 0 21 = 2 ↔ zK B n (zS B n j) = 1 := by
  obtain ⟨h1, h2, h3, h4, h5, h6⟩ := h
  rcases h6 with ⟨q, e⟩ | ⟨a, b, e, -⟩ | ⟨a, b, e, -, -⟩ | ⟨a, b1, b2, b3, e, -, eJ⟩ | ⟨a, b1, b2, b3, e⟩
  · rw [e]; exact ⟨fun q2 => absurd q2 (by decide), fun q2 => by have := zK_1 q2; omega⟩
  · rw [e]; exact ⟨fun q2 => absurd q2 (by decide), fun q2 => absurd b (zK_1 q2).2.1⟩
  · rw [e]
    have bl : ¬ zLe (B (zS B n j)) = true := by simp only [zDi, zLe, decide_eq_true_eq] at b ⊢; omega
    constructor
    · intro q2
      unfold zK
      rw [if_neg (by omega), if_neg bl, if_pos b]
      by_cases h4 : 4 < zTe B n (zS B n j) - zS B n j
      · rw [if_pos h4] at q2; exact absurd q2 (by decide)
      · rw [if_neg h4]
    · intro q2
      rw [if_neg (zK_1 q2).2.2.2]
  · rw [e]; exact ⟨fun q2 => absurd q2 (by decide), fun q2 => by have := (zK_1 q2).2.2.1; rw [b2] at this; exact absurd this (by decide)⟩
  · rw [e]; exact ⟨fun q2 => absurd q2 (by decide), fun q2 => by have := (zK_1 q2).2.2.1; rw [b2] at this; exact absurd this (by decide)⟩
theorem m_num {j o : Nat} {μ : sv_S} (h : mG μ t n B j o) (hK : zK B n (zS B n j) = 1) : μ.2.1 0 23 = lN (zNv B (zS B n j) (zTe B n (zS B n j) - zS B n j)) := by
  have hz := zK_1 hK
  obtain ⟨h1, h2, h3, h4, h5, h6⟩ := h
  rcases h6 with ⟨q, e⟩ | ⟨a, b, e, -⟩ | ⟨a, b, e, -, eJ⟩ | ⟨a, b1, b2, b3, e, -, eJ⟩ | ⟨a, b1, b2, b3, e⟩
  · omega
  · exact absurd b hz.2.1
  · exact eJ
  · rw [b2] at hz; exact absurd hz.2.2.1 (by decide)
  · rw [b2] at hz; exact absurd hz.2.2.1 (by decide)
theorem zNv_ok {s : Nat} (hs : s < n) (hl : ¬ zLe (B s) = true) (hd : zDi (B s) = true) : zNv B s (zTe B n s - s) ≤ 9999 := by
  refine (zNv_le (zTe B n s - s) (fun i hi => ?_)).1
  unfold zTe at hi
  rw [if_neg (by omega), if_neg hl, if_pos hd] at hi
  have := ((zE_spec zDi B n s).2.2.1 (s + i) (by omega) (by omega)).2
  simp only [zDi, decide_eq_true_eq] at this
  omega
theorem m_nameS {j o : Nat} {μ : sv_S} (h : mG μ t n B j o) (hw : zWa B n (zS B n j) < 6) : q_X8_name θm μ = some (zNm μ (zWa B n (zS B n j)), μ) := by
  have w0 : q_X8_isWord θm (114 : Int32) (97 : Int32) (105 : Int32) (110 : Int32) (0 : Int32) (0 : Int32) (0 : Int32) (0 : Int32) μ = some (if zWa B n (zS B n j) = 0 then 1 else 0, μ) := m_isWord (θ := θm) (w := 0) h (by omega)
  have w1 : q_X8_isWord θm (104 : Int32) (111 : Int32) (117 : Int32) (114 : Int32) (0 : Int32) (0 : Int32) (0 : Int32) (0 : Int32) μ = some (if zWa B n (zS B n j) = 1 then 1 else 0, μ) := m_isWord (θ := θm) (w := 1) h (by omega)
  have w2 : q_X8_isWord θm (110 : Int32) (117 : Int32) (109 : Int32) (98 : Int32) (101 : Int32) (114 : Int32) (0 : Int32) (0 : Int32) μ = some (if zWa B n (zS B n j) = 2 then 1 else 0, μ) := m_isWord (θ := θm) (w := 2) h (by omega)
  have w3 : q_X8_isWord θm (100 : Int32) (111 : Int32) (110 : Int32) (101 : Int32) (0 : Int32) (0 : Int32) (0 : Int32) (0 : Int32) μ = some (if zWa B n (zS B n j) = 3 then 1 else 0, μ) := m_isWord (θ := θm) (w := 3) h (by omega)
  have w4 : q_X8_isWord θm (115 : Int32) (116 : Int32) (114 : Int32) (101 : Int32) (101 : Int32) (116 : Int32) (0 : Int32) (0 : Int32) μ = some (if zWa B n (zS B n j) = 4 then 1 else 0, μ) := m_isWord (θ := θm) (w := 4) h (by omega)
  have w5 : q_X8_isWord θm (119 : Int32) (101 : Int32) (115 : Int32) (116 : Int32) (0 : Int32) (0 : Int32) (0 : Int32) (0 : Int32) μ = some (if zWa B n (zS B n j) = 5 then 1 else 0, μ) := m_isWord (θ := θm) (w := 5) h (by omega)
  unfold q_X8_name zNm
  rw [w0, zb, z_r01, if_pos hw]
  generalize zWa B n (zS B n j) = w at *
  by_cases h0 : w = 0
  · rw [if_pos h0, h0]
  rw [if_neg h0, w1, zb, z_r01]
  by_cases h1 : w = 1
  · rw [if_pos h1, h1]
  rw [if_neg h1, w2, zb, z_r01]
  by_cases h2 : w = 2
  · rw [if_pos h2, h2]
  rw [if_neg h2, w3, zb, z_r01]
  by_cases h3 : w = 3
  · rw [if_pos h3, h3]
  rw [if_neg h3, w4, zb, z_r01]
  by_cases h4 : w = 4
  · rw [if_pos h4, h4]
  rw [if_neg h4, w5, zb, z_r01]
  by_cases h5 : w = 5
  · rw [if_pos h5, h5]
  omega
theorem m_nameN {j o : Nat} {μ : sv_S} (h : mG μ t n B j o) (hw : ¬ zWa B n (zS B n j) < 6) : q_X8_name θm μ = some (0, sv_sI (sv_sI μ 0 25 1) 0 26 (nI (zS B n j))) := by
  have w0 : q_X8_isWord θm (114 : Int32) (97 : Int32) (105 : Int32) (110 : Int32) (0 : Int32) (0 : Int32) (0 : Int32) (0 : Int32) μ = some (if zWa B n (zS B n j) = 0 then 1 else 0, μ) := m_isWord (θ := θm) (w := 0) h (by omega)
  have w1 : q_X8_isWord θm (104 : Int32) (111 : Int32) (117 : Int32) (114 : Int32) (0 : Int32) (0 : Int32) (0 : Int32) (0 : Int32) μ = some (if zWa B n (zS B n j) = 1 then 1 else 0, μ) := m_isWord (θ := θm) (w := 1) h (by omega)
  have w2 : q_X8_isWord θm (110 : Int32) (117 : Int32) (109 : Int32) (98 : Int32) (101 : Int32) (114 : Int32) (0 : Int32) (0 : Int32) μ = some (if zWa B n (zS B n j) = 2 then 1 else 0, μ) := m_isWord (θ := θm) (w := 2) h (by omega)
  have w3 : q_X8_isWord θm (100 : Int32) (111 : Int32) (110 : Int32) (101 : Int32) (0 : Int32) (0 : Int32) (0 : Int32) (0 : Int32) μ = some (if zWa B n (zS B n j) = 3 then 1 else 0, μ) := m_isWord (θ := θm) (w := 3) h (by omega)
  have w4 : q_X8_isWord θm (115 : Int32) (116 : Int32) (114 : Int32) (101 : Int32) (101 : Int32) (116 : Int32) (0 : Int32) (0 : Int32) μ = some (if zWa B n (zS B n j) = 4 then 1 else 0, μ) := m_isWord (θ := θm) (w := 4) h (by omega)
  have w5 : q_X8_isWord θm (119 : Int32) (101 : Int32) (115 : Int32) (116 : Int32) (0 : Int32) (0 : Int32) (0 : Int32) (0 : Int32) μ = some (if zWa B n (zS B n j) = 5 then 1 else 0, μ) := m_isWord (θ := θm) (w := 5) h (by omega)
  unfold q_X8_name
  rw [w0, zb, z_r01, if_neg (by omega), w1, zb, z_r01, if_neg (by omega), w2, zb, z_r01, if_neg (by omega), w3, zb, z_r01, if_neg (by omega), w4, zb, z_r01, if_neg (by omega), w5, zb, z_r01, if_neg (by omega), m_fail h.2.1 h.2.2.2.1, zb]
theorem m_bad {j o : Nat} {μ : sv_S} (h : mG μ t n B j o) : mFr mNx μ (sv_sI (sv_sI μ 0 25 1) 0 26 (nI (zS B n j))) ∧ (sv_sI (sv_sI μ 0 25 1) 0 26 (nI (zS B n j))).1 0 25 = 1 ∧ (sv_sI (sv_sI μ 0 25 1) 0 26 (nI (zS B n j))).1 0 26 = nI (zS B n j) :=
  ⟨mFr_tr (mFr_I ⟨rfl, by omega, by omega⟩) (mFr_I ⟨rfl, by omega, by omega⟩), by rw [zI_o (by omega)]; exact zI_v, zI_v⟩
theorem m_atomF {j o : Nat} {μ : sv_S} (h : mG μ t n B j o) (G : Nat → sv_T → sv_S → Option (Int32 × sv_S)) (hw : ¬ zWa B n (zS B n j) < 6) : q_X8_atom_B123 θm G 0 μ = some (0, sv_sI (sv_sI μ 0 25 1) 0 26 (nI (zS B n j))) := by
  unfold q_X8_atom_B123
  rw [if_pos h.2.1]
  by_cases h1 : μ.1 0 21 = 1
  · rw [if_pos h1, m_nameN h hw, zb, (m_bad h).2.1, if_neg (by decide)]
  · rw [if_neg h1, m_fail h.2.1 h.2.2.2.1, zb]
end GR4

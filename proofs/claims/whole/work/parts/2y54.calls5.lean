/-! ===== calls: count, taken ===== -/
section CA5
variable {θ θm : sv_T} {σ μ : sv_S} {tc : Nat} {Fs : Nat → Nat → (Nat → Int32) → Int32} {D : zD}
theorem c_count (h : zRel θ θm σ μ tc Fs D) (a1 : Int32) : zGo θ θm tc Fs (q_X7_count θ a1 σ) (q_X8_count θm a1 μ) := by
  have hB := h.1
  obtain ⟨hD, hT, hX, hM⟩ := h.2.2.2.1
  obtain ⟨t1, t2, t3, t4, t5, t6⟩ := h.2.2.1
  obtain ⟨n, B, p1, p2, p3, p4⟩ := h.2.2.2.2.2.1
  unfold q_X7_count q_X8_count
  rcases pk_ix a1 (n := 6) (by omega) with q | q | ⟨w, hw, rfl⟩
  · have n0 : ∀ c : Nat, c < 6 → ¬ a1 = nI c := fun c hc z => by rw [z] at q; exact nI_pos (by omega) q
    rw [if_neg (show ¬ a1 = (0 : Int32) from n0 0 (by omega)), if_neg (show ¬ a1 = (1 : Int32) from n0 1 (by omega)), if_neg (show ¬ a1 = (2 : Int32) from n0 2 (by omega)), if_neg (show ¬ a1 = (3 : Int32) from n0 3 (by omega)), if_neg (show ¬ a1 = (4 : Int32) from n0 4 (by omega)), if_neg (show ¬ a1 = (5 : Int32) from n0 5 (by omega)), m_inN q, zb, if_pos p00]
    exact zGo_same h rfl rfl
  · have n0 : ∀ c : Nat, c < 6 → ¬ a1 = nI c := fun c hc z => by rw [z] at q; exact nI_ge hc (by omega) q
    rw [if_neg (show ¬ a1 = (0 : Int32) from n0 0 (by omega)), if_neg (show ¬ a1 = (1 : Int32) from n0 1 (by omega)), if_neg (show ¬ a1 = (2 : Int32) from n0 2 (by omega)), if_neg (show ¬ a1 = (3 : Int32) from n0 3 (by omega)), if_neg (show ¬ a1 = (4 : Int32) from n0 4 (by omega)), if_neg (show ¬ a1 = (5 : Int32) from n0 5 (by omega)), m_inO q (by omega) (show (5 : Int64).toInt < (6 : Nat) by decide), zb, if_pos p00]
    exact zGo_same h rfl rfl
  rw [m_inY (c := 5) (show (w : Int) ≤ 5 by omega) (by omega), zb, if_neg n10]
  have hw6 : w = 0 ∨ w = 1 ∨ w = 2 ∨ w = 3 ∨ w = 4 ∨ w = 5 := by omega
  rcases hw6 with rfl | rfl | rfl | rfl | rfl | rfl
  · rw [if_pos (show nI 0 = 0 from rfl), if_pos (show nI 0 ≤ (2 : Int32) by decide), if_pos (show nI 0 = 0 from rfl), hX.1, hM.1]
    exact zGo_same h rfl rfl
  · rw [if_neg (show ¬ nI 1 = 0 by decide), if_pos (show nI 1 = 1 from rfl), if_pos (show nI 1 ≤ (2 : Int32) by decide), if_neg (show ¬ nI 1 = 0 by decide), if_pos (show nI 1 = (1 : Int32) from rfl), x_shakenCount hB hD hX, zb, m_shakenMany hD hM, zb]
    exact zGo_same h rfl rfl
  · have e0 : q_X2_wetHours θ (0 : Int32) σ = _ := x_wetHours hB hD hX (s := 0) (by omega)
    have e1 : q_X2_wetHours θ (1 : Int32) σ = _ := x_wetHours hB hD hX (s := 1) (by omega)
    have g0 : q_X8_wetMany θm (0 : Int32) μ = _ := m_wetMany hD hM (s := 0) (by omega)
    have g1 : q_X8_wetMany θm (1 : Int32) μ = _ := m_wetMany hD hM (s := 1) (by omega)
    rw [if_neg (show ¬ nI 2 = 0 by decide), if_neg (show ¬ nI 2 = 1 by decide), if_pos (show nI 2 = 2 from rfl), if_pos (show nI 2 ≤ (2 : Int32) by decide), if_neg (show ¬ nI 2 = 0 by decide), if_neg (show ¬ nI 2 = (1 : Int32) by decide), e0, zb, e1, zb, g0, zb, g1, zb]
    exact zGo_same h rfl rfl
  · rw [if_neg (show ¬ nI 3 = 0 by decide), if_neg (show ¬ nI 3 = 1 by decide), if_neg (show ¬ nI 3 = 2 by decide), if_pos (show nI 3 = 3 from rfl), if_neg (show ¬ nI 3 ≤ (2 : Int32) by decide), if_pos (show nI 3 = (3 : Int32) from rfl), t4, t5]
    exact zGo_same h rfl rfl
  · rw [if_neg (show ¬ nI 4 = 0 by decide), if_neg (show ¬ nI 4 = 1 by decide), if_neg (show ¬ nI 4 = 2 by decide), if_neg (show ¬ nI 4 = 3 by decide), if_pos (show nI 4 = 4 from rfl), if_neg (show ¬ nI 4 ≤ (2 : Int32) by decide), if_neg (show ¬ nI 4 = (3 : Int32) by decide), if_pos (show nI 4 = (4 : Int32) from rfl), p2, p3]
    exact zGo_same h rfl rfl
  · rw [if_neg (show ¬ nI 5 = 0 by decide), if_neg (show ¬ nI 5 = 1 by decide), if_neg (show ¬ nI 5 = 2 by decide), if_neg (show ¬ nI 5 = 3 by decide), if_neg (show ¬ nI 5 = 4 by decide), if_pos (show nI 5 = 5 from rfl), if_neg (show ¬ nI 5 ≤ (2 : Int32) by decide), if_neg (show ¬ nI 5 = (3 : Int32) by decide), if_neg (show ¬ nI 5 = (4 : Int32) by decide), x_ruleNumber h, zb, hM.2.2.2.2]
    exact zGo_same h rfl rfl
def zPar (k : Nat) : Nat := if k = 3 then 1 else if k = 4 then 2 else 0
def zDep (k : Nat) : Nat := if k = 0 then 1 else if k = 3 ∨ k = 4 then 3 else 2
def zUnf : Nat → Nat → Nat → Bool
  | 0, _, _ => false
  | f + 1, k, a => if k = a then true else if k = 0 then false else zUnf f (zPar k) a
theorem zDep_par {k : Nat} (hk : k < 6) (h0 : ¬ k = 0) : zDep (zPar k) < zDep k ∧ zPar k < 6 := by
  have key : ∀ k, k < 6 → ¬ k = 0 → zDep (zPar k) < zDep k ∧ zPar k < 6 := by decide
  exact key k hk h0
theorem z_under {k : Nat} (hk : k < 6) : sx_under k = if k = 0 then -1 else nI (zPar k) := by
  have key : ∀ k, k < 6 → sx_under k = if k = 0 then -1 else nI (zPar k) := by decide +kernel
  exact key k hk
theorem m_over {k : Nat} (hk : k < 6) : q_X8_over θm (nI k) μ = some (if k = 0 then -1 else nI (zPar k), μ) := by
  unfold q_X8_over
  have : k = 0 ∨ k = 1 ∨ k = 2 ∨ k = 3 ∨ k = 4 ∨ k = 5 := by omega
  rcases this with rfl | rfl | rfl | rfl | rfl | rfl <;> rfl
theorem x_isUnder {a : Nat} (ha : a < 6) {a1 a2 : Int32} : ∀ (f k i fuel : Nat), k < 6 → zDep k ≤ f → i + f ≤ 6 → q_X1_isUnder_B4 θ a1 a2 (fuel + f + 1) (nI a) (nI k) (nI i) σ = some (if zUnf f k a = true then 1 else 0, σ) := by
  intro f
  induction f with
  | zero =>
    intro k i fuel hk hd hi
    have : 1 ≤ zDep k := by unfold zDep; split <;> first | omega | (split <;> omega)
    omega
  | succ f ih =>
    intro k i fuel hk hd hi
    show q_X1_isUnder_B4_b θ a1 a2 (q_X1_isUnder_B4 θ a1 a2 (fuel + (f + 1))) (nI a) (nI k) (nI i) σ = _
    unfold q_X1_isUnder_B4_b
    rw [if_neg (show ¬ (6 : Int32) ≤ nI i from nI_ge (b := 6) (by omega) (by omega)), if_neg (nI_pos (by omega)), if_neg (show ¬ (6 : Int32) ≤ nI k from nI_ge (b := 6) hk (by omega))]
    have eU : zUnf (f + 1) k a = if k = a then true else if k = 0 then false else zUnf f (zPar k) a := rfl
    rw [eU]
    by_cases hka : k = a
    · rw [if_pos ((nI_eq (by omega) (by omega)).mpr hka), if_pos hka, if_pos rfl]
    · rw [if_neg (fun q => hka ((nI_eq (by omega) (by omega)).mp q)), if_neg (z_bd hk (by omega)), nI_clamp (by omega), z_under hk, zl, zl, nI_1, if_neg hka]
      by_cases h0 : k = 0
      · rw [if_pos h0, if_pos h0, if_neg (by decide)]
        show q_X1_isUnder_B4_b θ a1 a2 (q_X1_isUnder_B4 θ a1 a2 (fuel + f)) (nI a) (-1) (nI (i + 1)) σ = _
        unfold q_X1_isUnder_B4_b
        by_cases h6 : (6 : Int32) ≤ nI (i + 1)
        · rw [if_pos h6]
        · rw [if_neg h6, if_pos (show (-1 : Int32) < 0 by decide)]
      · obtain ⟨g1, g2⟩ := zDep_par hk h0
        rw [if_neg h0, if_neg h0]
        exact ih (zPar k) (i + 1) fuel g2 (by omega) (by omega)
theorem m_takenRun {a b num : Nat} (ha : a < 6) (hb : b < 6) (hn : μ.1 6 (3 * b) = nI num) {a1 a2 : Int32} : ∀ (f k fuel : Nat), k < 6 → zDep k ≤ f → q_X8_taken_B33 θm a1 a2 (fuel + f + 1) (nI b) (nI a) (nI k) μ = some (if zUnf f k a = true then nI num else -13, μ) := by
  intro f
  induction f with
  | zero =>
    intro k fuel hk hd
    have : 1 ≤ zDep k := by unfold zDep; split <;> first | omega | (split <;> omega)
    omega
  | succ f ih =>
    intro k fuel hk hd
    show q_X8_taken_B33_b θm a1 a2 (q_X8_taken_B33 θm a1 a2 (fuel + (f + 1))) (nI b) (nI a) (nI k) μ = _
    unfold q_X8_taken_B33_b
    rw [if_neg (zO_ne (v := k) (by omega))]
    have eU : zUnf (f + 1) k a = if k = a then true else if k = 0 then false else zUnf f (zPar k) a := rfl
    rw [eU]
    by_cases hka : k = a
    · rw [if_pos ((nI_eq (by omega) (by omega)).mpr hka), if_pos ((nI_eq (by omega) (by omega)).mpr hka), z_3b, if_neg (z_bd (by omega) (by omega)), nI_clamp (by omega), hn, if_pos hka, if_pos rfl]
    · rw [if_neg (fun q => hka ((nI_eq (by omega) (by omega)).mp q)), m_over hk, zb, if_neg hka]
      by_cases h0 : k = 0
      · rw [if_pos h0, if_pos h0, if_neg (show ¬ false = true by decide)]
        show q_X8_taken_B33_b θm a1 a2 (q_X8_taken_B33 θm a1 a2 (fuel + f)) (nI b) (nI a) (-1) μ = _
        unfold q_X8_taken_B33_b
        rw [if_pos (show (-1 : Int32) = -1 from rfl), if_neg (zN_m1 (F := a) (by omega))]
      · obtain ⟨g1, g2⟩ := zDep_par hk h0
        rw [if_neg h0, if_neg h0]
        exact ih (zPar k) fuel g2 (by omega)
theorem c_taken (h : zRel θ θm σ μ tc Fs D) (a1 a2 : Int32) : zGo θ θm tc Fs (q_X7_taken θ a1 a2 σ) (q_X8_taken θm a1 a2 μ) := by
  have hB := h.1
  obtain ⟨hD, hT, hX, hM⟩ := h.2.2.2.1
  have hM6 := hD.1
  have l3 : sv_len θ 3 = 6 := sx_L (sx_c3 hB)
  have l4 : sv_len θ 4 = 6 := sx_L (sx_c4 hB)
  unfold q_X7_taken q_X8_taken
  rcases pk_ix a2 (n := 6) (by omega) with q | q | ⟨a, ha, rfl⟩
  · rw [if_pos q, m_inN q, zb, if_pos p00]
    exact zGo_same h rfl rfl
  · have h2 : ¬ a2 < (6 : Int32) := fun z => by rw [z_lt, show (6 : Int32).toInt = 6 from rfl] at z; rw [z_le, z_nI (by omega)] at q; omega
    rw [if_neg (z_pos (by omega) q), if_neg h2, m_inO q (by omega) (show (5 : Int64).toInt < (6 : Nat) by decide), zb, if_pos p00]
    exact zGo_same h rfl rfl
  rw [if_neg (nI_pos (by omega)), if_pos (show nI a < (6 : Int32) from nI_lt (b := 6) ha (by omega)), m_inY (c := 5) (show (a : Int) ≤ 5 by omega) (by omega), zb, if_neg n10]
  rcases z_one hD a1 with q | ⟨b, hb, rfl⟩
  · rw [x_hasN hX q, m_oneN hD hM q, zb, zb, if_pos p00, if_pos p00]
    exact zGo_same h rfl rfl
  obtain ⟨k1, k2, k3, k4⟩ := hX.2.2.1 b hb
  obtain ⟨n1, n2, n3, n4⟩ := hM.2.2.1 b hb
  obtain ⟨r1, r2, r3, r4⟩ := hD.2.2.1 b hb
  have k1 : σ.1 3 b = nI (dK D b) := k1
  have k2 : σ.1 4 b = nI (dN D b) := k2
  have hd3 : zDep (dK D b) ≤ 3 := by unfold zDep; split <;> first | omega | (split <;> omega)
  have u1 : q_X1_isUnder θ (nI (dK D b)) (nI a) σ = some (if zUnf 3 (dK D b) a = true then 1 else 0, σ) := x_isUnder (a1 := nI (dK D b)) (a2 := nI a) ha 3 (dK D b) 0 196 r1 hd3 (by omega)
  have u2 : q_X8_taken_B33 θm (nI b) (nI a) sv_N (nI b) (nI a) (nI (dK D b)) μ = some (if zUnf 3 (dK D b) a = true then nI (dN D b) else -13, μ) := m_takenRun (a1 := nI b) (a2 := nI a) ha (by omega) n2 3 (dK D b) 196 r1 hd3
  rw [x_hasY hD hX hb, m_oneY hD hM hb, zb, zb, if_neg n10, if_neg n10, z_at (by rw [l3]; omega), zb, l3, zat_nI (by omega) (by omega), k1, u1, zb, z_r01, if_neg (z_bd (n := b) (L := 6) (by omega) (by omega)), nI_clamp (by omega), n1, zl, u2]
  by_cases hu : zUnf 3 (dK D b) a = true
  · rw [if_pos hu, if_pos hu, z_at (by rw [l4]; omega), zb, l4, zat_nI (by omega) (by omega), k2]
    exact zGo_same h rfl rfl
  · rw [if_neg hu, if_neg hu]
    exact zGo_same h rfl rfl
end CA5

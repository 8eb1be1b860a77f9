/-! ===== calls: told, set, bargain, feed, force ===== -/
section CA2
variable {θ θm : sv_T} {σ μ : sv_S} {tc : Nat} {Fs : Nat → Nat → (Nat → Int32) → Int32} {D : zD}
def zMc (i j : Nat) : Prop := (1 ≤ i ∧ i ≤ 6) ∨ zTmp i j
def mMc (i j : Nat) : Prop := (i = 0 ∧ (j = 4 ∨ j = 7 ∨ j = 11)) ∨ (4 ≤ i ∧ i ≤ 6) ∨ mTmp i j
theorem zRel_upd (h : zRel θ θm σ μ tc Fs D) {σ' μ' : sv_S} {D' : zD} (hf : xFr zMc σ σ') (hg : mFr mMc μ μ') (hD : zDok D' ∧ dT D' < tc ∧ xMk σ' 1 D' ∧ mMk μ' D') (hk : dM D ≤ dM D' ∧ ∀ b, b < dM D → dK D' b = dK D b) : zRel θ θm σ' μ' tc Fs D' := by
  obtain ⟨a1, a2, a3, a4, a8, a9, a10⟩ := h
  refine ⟨a1, a2, zTexts_fr a3 hf hg (by unfold zMc zTmp zSk; exact ⟨by omega, fun j => by omega⟩) (fun i j h1 h2 => by unfold zMc zTmp zSk; omega) (by unfold mMc mTmp; omega) (fun i j h1 h2 => by unfold mMc mTmp; omega), hD, ?_, zTp_fr a9 hf hg (by unfold zMc zTmp zSk; omega) (fun j => by unfold zMc zTmp zSk; omega) (by unfold mMc mTmp; omega) (fun j => by unfold mMc mTmp; omega), fun s hs => ?_⟩
  · have a8' := zKp_fr a8 hf hg (by unfold zMc zTmp zSk; omega) (fun i j h1 h2 => by unfold zMc zTmp zSk; omega) (by unfold mMc mTmp; omega) (fun i j h1 h2 => by unfold mMc mTmp; omega)
    rcases a8' with q | ⟨q1, Dk, b1, b2, b3, b4, b5, b6, b7, b8, b9⟩
    · exact Or.inl q
    · refine Or.inr ⟨q1, Dk, b1, b2, Nat.le_trans b3 hk.1, b4, b5, b6, fun b hb => ?_, b8, b9⟩
      obtain ⟨c1, c2⟩ := b7 b hb
      exact ⟨c1.trans (hk.2 b (by omega)).symm, c2⟩
  · obtain ⟨b1, b2⟩ := a10 s hs
    exact ⟨by rw [(hf.2 21 s (by unfold zMc zTmp zSk; omega)).2]; exact b1, zRw1_fr b2 hs hf hg (fun j => by unfold zMc zTmp zSk; omega) (fun i h1 h2 => by unfold mMc mTmp; omega) (fun j hj => by unfold mMc mTmp; omega)⟩
theorem z_pos {a : Int32} {n : Nat} (hn : n < 2147483648) (h : nI n ≤ a) : ¬ a < 0 := fun z => by
  rw [z_lt, show (0 : Int32).toInt = 0 from rfl] at z
  rw [z_le, z_nI hn] at h
  omega
theorem z_nat {a : Int32} (h : ¬ a < 0) : ∃ n, n < 2147483648 ∧ a = nI n := by
  have hr := z_rng a
  rw [z_lt, show (0 : Int32).toInt = 0 from rfl] at h
  exact z_of (x := a) (n := 2147483648) (by omega) (by omega)
/-- the place of a rain: both sides -/
theorem z_place (of : Int32) : (∃ n, n < 124 ∧ n % 100 < 24 ∧ of = nI n ∧ (∀ σ : sv_S, q_X7_rainPlace θ of σ = some (nI (24 * (n / 100) + n % 100), σ)) ∧ (∀ μ : sv_S, q_X8_isOf θm 1 of μ = some (1, μ)) ∧ (∀ μ : sv_S, q_X8_placeOf θm of μ = some (nI (24 * (n / 100) + n % 100), μ))) ∨
    ((∀ σ : sv_S, q_X7_rainPlace θ of σ = some (-1, σ)) ∧ (∀ μ : sv_S, q_X8_isOf θm 1 of μ = some (0, μ))) := by
  have d100 : ∀ n : Nat, n < 2147483648 → nI n / (100 : Int32) = nI (n / 100) := fun n hn => by rw [show (100 : Int32) = nI 100 from rfl, pk_div hn (by omega) (by omega)]
  have r100 : ∀ n : Nat, n < 2147483648 → nI n - nI n / (100 : Int32) * (100 : Int32) = nI (n % 100) := fun n hn => by rw [show (100 : Int32) = nI 100 from rfl, pk_rem hn (by omega) (by omega)]
  by_cases h0 : of < 0
  · refine Or.inr ⟨fun σ => ?_, fun μ => ?_⟩
    · unfold q_X7_rainPlace
      rw [zl, zl, if_pos h0]
    · unfold q_X8_isOf
      rw [if_pos (show (1 : Int32) = 1 from rfl), m_inN h0, zb, if_pos p00]
  obtain ⟨n, hn, rfl⟩ := z_nat h0
  have hm24 : n % 100 < 100 := Nat.mod_lt _ (by omega)
  by_cases hg : n < 124 ∧ n % 100 < 24
  · refine Or.inl ⟨n, hg.1, hg.2, rfl, fun σ => ?_, fun μ => ?_, fun μ => ?_⟩
    · unfold q_X7_rainPlace
      rw [zl, zl, if_neg h0, d100 n hn, show nI n - nI (n / 100) * (100 : Int32) = nI (n % 100) by rw [← d100 n hn]; exact r100 n hn, if_neg (show ¬ (2 : Int32) ≤ nI (n / 100) from nI_ge (b := 2) (by omega) (by omega)), if_pos (show nI (n % 100) < (24 : Int32) from nI_lt (b := 24) hg.2 (by omega)), show (24 : Int32) = nI 24 from rfl, pk_mul, nI_add, Nat.mul_comm]
    · unfold q_X8_isOf
      rw [if_pos (show (1 : Int32) = 1 from rfl), m_inY (c := 123) (show (n : Int) ≤ 123 by omega) (by omega), zb, if_neg n10, r100 n hn, if_neg (show ¬ (24 : Int32) ≤ nI (n % 100) from nI_ge (b := 24) hg.2 (by omega))]
    · unfold q_X8_placeOf
      rw [r100 n hn, d100 n hn, z_24]
  · refine Or.inr ⟨fun σ => ?_, fun μ => ?_⟩
    · unfold q_X7_rainPlace
      rw [zl, zl, if_neg h0, d100 n hn, show nI n - nI (n / 100) * (100 : Int32) = nI (n % 100) by rw [← d100 n hn]; exact r100 n hn]
      by_cases h2 : 2 ≤ n / 100
      · rw [if_pos (show (2 : Int32) ≤ nI (n / 100) from nI_le (a := 2) h2 (by omega))]
      · rw [if_neg (show ¬ (2 : Int32) ≤ nI (n / 100) from nI_ge (b := 2) (by omega) (by omega)), if_neg (show ¬ nI (n % 100) < (24 : Int32) from nI_nlt (b := 24) (by omega) (by omega))]
    · unfold q_X8_isOf
      rw [if_pos (show (1 : Int32) = 1 from rfl)]
      by_cases h124 : n < 124
      · rw [m_inY (c := 123) (show (n : Int) ≤ 123 by omega) (by omega), zb, if_neg n10, r100 n hn, if_pos (show (24 : Int32) ≤ nI (n % 100) from nI_le (a := 24) (by omega) (by omega))]
      · rw [m_inO (n := 124) (nI_le (by omega) (by omega)) (by omega) (show (123 : Int64).toInt < (124 : Nat) by decide), zb, if_pos p00]
theorem m_isOf0 {of : Int32} : q_X8_isOf θm 0 of μ = some (1, μ) := by
  unfold q_X8_isOf
  rw [if_neg (show ¬ (0 : Int32) = 1 by decide), if_pos p00]
theorem m_isOfN (hD : zDok D) (hM : mMk μ D) {w of : Int32} (h1 : ¬ w = 1) (h0 : ¬ w = 0) (h : of < 0 ∨ nI (dM D) ≤ of) : q_X8_isOf θm w of μ = some (0, μ) := by
  unfold q_X8_isOf
  rw [if_neg h1, if_neg h0, m_oneN hD hM h, zb, if_pos p00]
theorem m_isOfY (hD : zDok D) (hM : mMk μ D) {w : Int32} {b : Nat} (h1 : ¬ w = 1) (h0 : ¬ w = 0) (hb : b < dM D) : q_X8_isOf θm w (nI b) μ = some (1, μ) := by
  unfold q_X8_isOf
  rw [if_neg h1, if_neg h0, m_oneY hD hM hb, zb, if_neg n10]
theorem m_row (b w : Nat) (hw : 2 ≤ w) : ((3 : Int32) * nI b + nI w) - 2 = nI (3 * b + (w - 2)) := by
  rw [z_3b, nI_add, show (2 : Int32) = nI 2 from rfl, pk_sub (by omega)]
  congr 1
  omega
/-- what is told of a thing: both sides the same, the class's test for it -/
theorem z_told (h : zRel θ θm σ μ tc Fs D) (of : Int32) {w : Nat} (hw : w ≤ 5) : (∃ k : Nat, k ≤ 9 ∧ q_X7_told θ of (nI w) σ = some (nI k, σ) ∧ q_X8_told θm of (nI w) μ = some (nI k, μ) ∧ q_X8_isOf θm (nI w) of μ = some (1, μ) ∧ (w = 1 → ∃ n, n < 124 ∧ n % 100 < 24 ∧ (∀ σ : sv_S, q_X7_rainPlace θ of σ = some (nI (24 * (n / 100) + n % 100), σ)) ∧ (∀ μ : sv_S, q_X8_placeOf θm of μ = some (nI (24 * (n / 100) + n % 100), μ))) ∧ (2 ≤ w → ∃ b, b < dM D ∧ of = nI b)) ∨ (q_X7_told θ of (nI w) σ = some (-2, σ) ∧ q_X8_told θm of (nI w) μ = some (-2, μ) ∧ q_X8_isOf θm (nI w) of μ = some (0, μ)) := by
  have hB := h.1
  have hD := h.2.2.2.1.1
  have hX := h.2.2.2.1.2.2.1
  have hM := h.2.2.2.1.2.2.2
  have hM6 := hD.1
  have l2 : sv_len θ 2 = 48 := sx_L (sx_c2 hB)
  have l3 : sv_len θ 3 = 6 := sx_L (sx_c3 hB)
  have l4 : sv_len θ 4 = 6 := sx_L (sx_c4 hB)
  have l5 : sv_len θ 5 = 6 := sx_L (sx_c5 hB)
  have l6 : sv_len θ 6 = 6 := sx_L (sx_c6 hB)
  obtain ⟨x1, x2, x3, x4, x5⟩ := hX
  obtain ⟨m1, m2, m3, m4, m5⟩ := id hM
  unfold q_X7_told q_X8_told
  rw [m_inY (c := 5) (show (w : Int) ≤ 5 by omega) (by omega), zb, if_neg n10]
  have w6 : w = 0 ∨ w = 1 ∨ 2 ≤ w := by omega
  rcases w6 with rfl | rfl | hw2
  · refine Or.inl ⟨dW D, hD.2.2.2.1, ?_, ?_, m_isOf0, fun q => by omega, fun q => by omega⟩
    · rw [if_pos (show nI 0 = 0 from rfl), x4]
    · rw [show nI 0 = (0 : Int32) from rfl, m_isOf0, zb, if_neg n10, if_pos p00, m4]
  · rcases z_place (θ := θ) (θm := θm) of with ⟨n, g1, g2, -, g3, g4, g5⟩ | ⟨g1, g2⟩
    · refine Or.inl ⟨dR D (24 * (n / 100) + n % 100), hD.2.1 _ (by omega), ?_, ?_, g4 μ, fun _ => ⟨n, g1, g2, g3, g5⟩, fun q => by omega⟩
      · rw [if_neg (show ¬ nI 1 = 0 by decide), if_pos (show nI 1 = 1 from rfl), g3, zb, if_neg (zO_ne (by omega)), z_at (by rw [l2]; omega), zb, l2, zat_nI (by omega) (by omega), x2 _ (by omega)]
      · rw [show nI 1 = (1 : Int32) from rfl, g4, zb, if_neg n10, if_neg n10, if_pos (show (1 : Int32) = 1 from rfl), g5, zb, if_neg (z_bd (by omega) (by omega)), nI_clamp (by omega), m2 _ (by omega)]
    · refine Or.inr ⟨?_, ?_, g2 μ⟩
      · rw [if_neg (show ¬ nI 1 = 0 by decide), if_pos (show nI 1 = 1 from rfl), g1, zb, if_pos (show (-1 : Int32) = -1 from rfl)]
      · rw [show nI 1 = (1 : Int32) from rfl, g2, zb, if_pos p00]
  · have w0 : ¬ nI w = 0 := fun q => by rw [show (0 : Int32) = nI 0 from rfl, nI_eq (by omega) (by omega)] at q; omega
    have w1 : ¬ nI w = 1 := fun q => by rw [show (1 : Int32) = nI 1 from rfl, nI_eq (by omega) (by omega)] at q; omega
    rcases z_one hD of with q | ⟨b, hb, rfl⟩
    · refine Or.inr ⟨?_, ?_, m_isOfN hD hM w1 w0 q⟩
      · rw [if_neg w0, if_neg w1, x_hasN ⟨x1, x2, x3, x4, x5⟩ q, zb, if_pos p00]
      · rw [m_isOfN hD hM w1 w0 q, zb, if_pos p00]
    · obtain ⟨k1, k2, k3, k4⟩ := x3 b hb
      obtain ⟨n1, n2, n3, n4⟩ := m3 b hb
      obtain ⟨r1, r2, r3, r4⟩ := hD.2.2.1 b hb
      have k1 : σ.1 3 b = nI (dK D b) := k1
      have k2 : σ.1 4 b = nI (dN D b) := k2
      have k3 : σ.1 5 b = nI (dS D b) := k3
      have k4 : σ.1 6 b = nI (dH D b) := k4
      have fin : ∀ k : Nat, k ≤ 9 → (if nI w = 2 then (sp_b (q_X7_at θ 4 (nI b) σ) (fun r7 σ8 => some (r7, σ8))) else if nI w = 3 then (sp_b (q_X7_at θ 5 (nI b) σ) (fun r10 σ11 => some (r10, σ11))) else if nI w = 4 then (sp_b (q_X7_at θ 6 (nI b) σ) (fun r13 σ14 => some (r13, σ14))) else if nI w = 5 then (sp_b (q_X7_at θ 3 (nI b) σ) (fun r16 σ17 => some (r16, σ17))) else some ((-2 : Int32), σ)) = some (nI k, σ) →
          (if (5 : Int32) ≤ nI w then (if (nI b < 0 ∨ 6 ≤ (nI b).toNatClampNeg) then none else some ((μ.1 5 (nI b).toNatClampNeg), μ)) else if (((((3 : Int32) * nI b) + nI w) - (2 : Int32)) < 0 ∨ 18 ≤ ((((3 : Int32) * nI b) + nI w) - (2 : Int32)).toNatClampNeg) then none else some ((μ.1 6 ((((3 : Int32) * nI b) + nI w) - (2 : Int32)).toNatClampNeg), μ)) = some (nI k, μ) →
          (∃ k : Nat, k ≤ 9 ∧ (if nI w = 0 then (some ((σ.1 1 5), σ)) else if nI w = (1 : Int32) then (sp_b (q_X7_rainPlace θ (nI b) σ) (fun r18 σ19 => if r18 = (-1 : Int32) then (some ((-2 : Int32), σ19)) else sp_b (q_X7_at θ 2 r18 σ19) (fun r21 σ22 => some (r21, σ22)))) else sp_b (q_X2_has θ (nI b) σ) (fun r3 σ4 => if r3 = 0 then (some ((-2 : Int32), σ4)) else if nI w = 2 then (sp_b (q_X7_at θ 4 (nI b) σ4) (fun r7 σ8 => some (r7, σ8))) else if nI w = 3 then (sp_b (q_X7_at θ 5 (nI b) σ4) (fun r10 σ11 => some (r10, σ11))) else if nI w = 4 then (sp_b (q_X7_at θ 6 (nI b) σ4) (fun r13 σ14 => some (r13, σ14))) else if nI w = 5 then (sp_b (q_X7_at θ 3 (nI b) σ4) (fun r16 σ17 => some (r16, σ17))) else some ((-2 : Int32), σ4))) = some (nI k, σ) ∧
           (sp_b (q_X8_isOf θm (nI w) (nI b) μ) (fun r4 σ5 => if r4 = 0 then (some ((-2 : Int32), σ5)) else if nI w = 0 then (some ((σ5.1 0 7), σ5)) else if nI w = (1 : Int32) then (sp_b (q_X8_placeOf θm (nI b) σ5) (fun r12 σ13 => if (r12 < 0 ∨ 48 ≤ r12.toNatClampNeg) then none else some ((σ13.1 4 r12.toNatClampNeg), σ13))) else if (5 : Int32) ≤ nI w then (if (nI b < 0 ∨ 6 ≤ (nI b).toNatClampNeg) then none else some ((σ5.1 5 (nI b).toNatClampNeg), σ5)) else if (((((3 : Int32) * nI b) + nI w) - (2 : Int32)) < 0 ∨ 18 ≤ ((((3 : Int32) * nI b) + nI w) - (2 : Int32)).toNatClampNeg) then none else some ((σ5.1 6 ((((3 : Int32) * nI b) + nI w) - (2 : Int32)).toNatClampNeg), σ5))) = some (nI k, μ) ∧ q_X8_isOf θm (nI w) (nI b) μ = some (1, μ) ∧ (w = 1 → ∃ n, n < 124 ∧ n % 100 < 24 ∧ (∀ σ : sv_S, q_X7_rainPlace θ (nI b) σ = some (nI (24 * (n / 100) + n % 100), σ)) ∧ (∀ μ : sv_S, q_X8_placeOf θm (nI b) μ = some (nI (24 * (n / 100) + n % 100), μ))) ∧ (2 ≤ w → ∃ b', b' < dM D ∧ nI b = nI b')) := by
        intro k hk e1 e2
        refine ⟨k, hk, ?_, ?_, m_isOfY hD hM w1 w0 hb, fun q => by omega, fun _ => ⟨b, hb, rfl⟩⟩
        · rw [if_neg w0, if_neg w1, x_hasY hD ⟨x1, x2, x3, x4, x5⟩ hb, zb, if_neg n10]
          exact e1
        · rw [m_isOfY hD hM w1 w0 hb, zb, if_neg n10, if_neg w0, if_neg w1]
          exact e2
      have w4 : w = 2 ∨ w = 3 ∨ w = 4 ∨ w = 5 := by omega
      rcases w4 with rfl | rfl | rfl | rfl
      · refine Or.inl (fin (dN D b) r2 ?_ ?_)
        · rw [if_pos (show nI 2 = 2 from rfl), z_at (by rw [l4]; omega), zb, l4, zat_nI (by omega) (by omega), k2]
        · rw [if_neg (show ¬ (5 : Int32) ≤ nI 2 by decide), m_row b 2 (by omega), if_neg (z_bd (by omega) (by omega)), nI_clamp (by omega)]
          exact congrArg (fun z => some (z, μ)) n2
      · refine Or.inl (fin (dS D b) (by omega) ?_ ?_)
        · rw [if_neg (show ¬ nI 3 = 2 by decide), if_pos (show nI 3 = 3 from rfl), z_at (by rw [l5]; omega), zb, l5, zat_nI (by omega) (by omega), k3]
        · rw [if_neg (show ¬ (5 : Int32) ≤ nI 3 by decide), m_row b 3 (by omega), if_neg (z_bd (by omega) (by omega)), nI_clamp (by omega)]
          exact congrArg (fun z => some (z, μ)) n3
      · refine Or.inl (fin (dH D b) (by omega) ?_ ?_)
        · rw [if_neg (show ¬ nI 4 = 2 by decide), if_neg (show ¬ nI 4 = 3 by decide), if_pos (show nI 4 = 4 from rfl), z_at (by rw [l6]; omega), zb, l6, zat_nI (by omega) (by omega), k4]
        · rw [if_neg (show ¬ (5 : Int32) ≤ nI 4 by decide), m_row b 4 (by omega), if_neg (z_bd (by omega) (by omega)), nI_clamp (by omega)]
          exact congrArg (fun z => some (z, μ)) n4
      · refine Or.inl (fin (dK D b) (by omega) ?_ ?_)
        · rw [if_neg (show ¬ nI 5 = 2 by decide), if_neg (show ¬ nI 5 = 3 by decide), if_neg (show ¬ nI 5 = 4 by decide), if_pos (show nI 5 = 5 from rfl), z_at (by rw [l3]; omega), zb, l3, zat_nI (by omega) (by omega), k1]
        · rw [if_pos (show (5 : Int32) ≤ nI 5 by decide), if_neg (z_bd (by omega) (by omega)), nI_clamp (by omega), n1]
theorem c_told (h : zRel θ θm σ μ tc Fs D) (a1 a2 : Int32) : zGo θ θm tc Fs (q_X7_told θ a1 a2 σ) (q_X8_told θm a1 a2 μ) := by
  rcases pk_ix a2 (n := 6) (by omega) with q | q | ⟨w, hw, rfl⟩
  · have n0 : ∀ c : Nat, c < 6 → ¬ a2 = nI c := fun c hc z => by rw [z] at q; exact nI_pos (by omega) q
    have hmm : q_X8_told θm a1 a2 μ = some (-2, μ) := by
      unfold q_X8_told
      rw [m_inN q, zb, if_pos p00]
    refine zGo_same h ?_ hmm
    unfold q_X7_told
    rw [if_neg (show ¬ a2 = (0 : Int32) from n0 0 (by omega)), if_neg (show ¬ a2 = (1 : Int32) from n0 1 (by omega))]
    rcases z_one h.2.2.2.1.1 a1 with z | ⟨b, hb, rfl⟩
    · rw [x_hasN h.2.2.2.1.2.2.1 z, zb, if_pos p00]
    · rw [x_hasY h.2.2.2.1.1 h.2.2.2.1.2.2.1 hb, zb, if_neg n10, if_neg (show ¬ a2 = (2 : Int32) from n0 2 (by omega)), if_neg (show ¬ a2 = (3 : Int32) from n0 3 (by omega)), if_neg (show ¬ a2 = (4 : Int32) from n0 4 (by omega)), if_neg (show ¬ a2 = (5 : Int32) from n0 5 (by omega))]
  · have n0 : ∀ c : Nat, c < 6 → ¬ a2 = nI c := fun c hc z => by rw [z] at q; exact nI_ge hc (by omega) q
    have hmm : q_X8_told θm a1 a2 μ = some (-2, μ) := by
      unfold q_X8_told
      rw [m_inO q (by omega) (show (5 : Int64).toInt < (6 : Nat) by decide), zb, if_pos p00]
    refine zGo_same h ?_ hmm
    unfold q_X7_told
    rw [if_neg (show ¬ a2 = (0 : Int32) from n0 0 (by omega)), if_neg (show ¬ a2 = (1 : Int32) from n0 1 (by omega))]
    rcases z_one h.2.2.2.1.1 a1 with z | ⟨b, hb, rfl⟩
    · rw [x_hasN h.2.2.2.1.2.2.1 z, zb, if_pos p00]
    · rw [x_hasY h.2.2.2.1.1 h.2.2.2.1.2.2.1 hb, zb, if_neg n10, if_neg (show ¬ a2 = (2 : Int32) from n0 2 (by omega)), if_neg (show ¬ a2 = (3 : Int32) from n0 3 (by omega)), if_neg (show ¬ a2 = (4 : Int32) from n0 4 (by omega)), if_neg (show ¬ a2 = (5 : Int32) from n0 5 (by omega))]
  · rcases z_told h a1 (w := w) (by omega) with ⟨k, -, e1, e2, -, -⟩ | ⟨e1, e2, -⟩
    · exact zGo_same h e1 e2
    · exact zGo_same h e1 e2
end CA2

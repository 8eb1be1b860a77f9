/-! ===== calls: image, back ===== -/
section IMG
variable {θ θm : sv_T} {σ μ : sv_S} {tc : Nat} {Fs : Nat → Nat → (Nat → Int32) → Int32} {D : zD}
theorem zR_v {σ : sv_S} {i : Nat} {g : Nat → Int32} : (sv_sR σ i g).1 i = g := by simp [sv_sR, sv_r]
theorem zR_o {σ : sv_S} {i a : Nat} {g : Nat → Int32} (h : a ≠ i) : (sv_sR σ i g).1 a = σ.1 a := by simp [sv_sR, sv_r, h]
theorem z_cpy {f g : Nat → Int32} {n k : Nat} {c : Int32} (hc : c.toNatClampNeg = n) (hk : k < n) : va_cpy f g (0 : Int32).toNatClampNeg (0 : Int32).toNatClampNeg c.toNatClampNeg k = f k := by
  rw [hc, show (0 : Int32).toNatClampNeg = 0 from rfl, pk_cpy_in (by omega) (by omega)]
  congr 1
  omega
def zBc (km i _j : Nat) : Prop := km ≤ i ∧ i ≤ km + 5
theorem x_become {km b1 : Nat} (hkb : (km = 7 ∧ b1 = 1) ∨ (km = 1 ∧ b1 = 7)) (hD : zDok D) (hX : xMk σ b1 D) : ∃ σ', q_X2_become θ km b1 σ = some ((), σ') ∧ xFr (zBc km) σ σ' ∧ xMk σ' km D := by
  have hM6 := hD.1
  obtain ⟨x1, x2, x3, x4, x5⟩ := hX
  obtain ⟨σ1, e1⟩ : ∃ z, z = sv_sR σ (km + 1) (va_cpy (σ.1 (b1 + 1)) (σ.1 (km + 1)) (0 : Int32).toNatClampNeg (0 : Int32).toNatClampNeg (48 : Int32).toNatClampNeg) := ⟨_, rfl⟩
  obtain ⟨σ2, e2⟩ : ∃ z, z = sv_sR σ1 (km + 2) (va_cpy (σ1.1 (b1 + 2)) (σ1.1 (km + 2)) (0 : Int32).toNatClampNeg (0 : Int32).toNatClampNeg (6 : Int32).toNatClampNeg) := ⟨_, rfl⟩
  obtain ⟨σ3, e3⟩ : ∃ z, z = sv_sR σ2 (km + 3) (va_cpy (σ2.1 (b1 + 3)) (σ2.1 (km + 3)) (0 : Int32).toNatClampNeg (0 : Int32).toNatClampNeg (6 : Int32).toNatClampNeg) := ⟨_, rfl⟩
  obtain ⟨σ4, e4⟩ : ∃ z, z = sv_sR σ3 (km + 4) (va_cpy (σ3.1 (b1 + 4)) (σ3.1 (km + 4)) (0 : Int32).toNatClampNeg (0 : Int32).toNatClampNeg (6 : Int32).toNatClampNeg) := ⟨_, rfl⟩
  obtain ⟨σ5, e5⟩ : ∃ z, z = sv_sR σ4 (km + 5) (va_cpy (σ4.1 (b1 + 5)) (σ4.1 (km + 5)) (0 : Int32).toNatClampNeg (0 : Int32).toNatClampNeg (6 : Int32).toNatClampNeg) := ⟨_, rfl⟩
  obtain ⟨σ6, e6⟩ : ∃ z, z = sv_sI σ5 km 5 (σ5.1 b1 5) := ⟨_, rfl⟩
  obtain ⟨σ7, e7⟩ : ∃ z, z = sv_sI σ6 km 6 (σ6.1 b1 6) := ⟨_, rfl⟩
  obtain ⟨σ8, e8⟩ : ∃ z, z = sv_sP σ7 km 7 (σ7.2.2 b1 7) := ⟨_, rfl⟩
  have f1 : xFr (zBc km) σ σ1 := by rw [e1]; exact xFr_R (fun j => ⟨by omega, by omega⟩)
  have f2 : xFr (zBc km) σ σ2 := xFr_tr f1 (by rw [e2]; exact xFr_R (fun j => ⟨by omega, by omega⟩))
  have f3 : xFr (zBc km) σ σ3 := xFr_tr f2 (by rw [e3]; exact xFr_R (fun j => ⟨by omega, by omega⟩))
  have f4 : xFr (zBc km) σ σ4 := xFr_tr f3 (by rw [e4]; exact xFr_R (fun j => ⟨by omega, by omega⟩))
  have f5 : xFr (zBc km) σ σ5 := xFr_tr f4 (by rw [e5]; exact xFr_R (fun j => ⟨by omega, by omega⟩))
  have f6 : xFr (zBc km) σ σ6 := xFr_tr f5 (by rw [e6]; exact xFr_I ⟨by omega, by omega⟩)
  have f7 : xFr (zBc km) σ σ7 := xFr_tr f6 (by rw [e7]; exact xFr_I ⟨by omega, by omega⟩)
  have f8 : xFr (zBc km) σ σ8 := xFr_tr f7 (by rw [e8]; exact xFr_P ⟨by omega, by omega⟩)
  have nS : ∀ i j, b1 ≤ i → i ≤ b1 + 5 → ¬ zBc km i j := fun i j h1 h2 => by unfold zBc; omega
  have src : ∀ τ, xFr (zBc km) σ τ → ∀ i j, b1 ≤ i → i ≤ b1 + 5 → τ.1 i j = σ.1 i j := fun τ hτ i j h1 h2 => (hτ.2 i j (nS i j h1 h2)).1
  refine ⟨σ8, ?_, f8, ?_, ?_, ?_, ?_, ?_⟩
  · unfold q_X2_become
    rw [if_pos (show sv_cp (0 : Int32) (0 : Int32) (48 : Int32) 48 48 by decide), ← e1, zl, if_pos (show sv_cp (0 : Int32) (0 : Int32) (6 : Int32) 6 6 by decide), ← e2, zl, if_pos (show sv_cp (0 : Int32) (0 : Int32) (6 : Int32) 6 6 by decide), ← e3, zl, if_pos (show sv_cp (0 : Int32) (0 : Int32) (6 : Int32) 6 6 by decide), ← e4, zl, if_pos (show sv_cp (0 : Int32) (0 : Int32) (6 : Int32) 6 6 by decide), ← e5, zl, ← e6, zl, ← e7, zl, ← e8, zl]
  · have : σ6.1 b1 6 = nI (dM D) := by rw [src σ6 f6 b1 6 (by omega) (by omega)]; exact x1
    rw [e8]; show σ7.1 km 6 = _; rw [e7, zI_v]; exact this
  · intro k hk
    rw [e8]; show σ7.1 (km + 1) k = _
    rw [e7, zI_o (by omega), e6, zI_o (by omega), e5, zR_o (by omega), e4, zR_o (by omega), e3, zR_o (by omega), e2, zR_o (by omega), e1, zR_v, z_cpy (n := 48) rfl hk]
    exact x2 k hk
  · intro b hb
    obtain ⟨k1, k2, k3, k4⟩ := x3 b hb
    refine ⟨?_, ?_, ?_, ?_⟩
    · rw [e8]; show σ7.1 (km + 2) b = _
      rw [e7, zI_o (by omega), e6, zI_o (by omega), e5, zR_o (by omega), e4, zR_o (by omega), e3, zR_o (by omega), e2, zR_v, z_cpy (n := 6) rfl (by omega), src σ1 f1 _ _ (by omega) (by omega)]
      exact k1
    · rw [e8]; show σ7.1 (km + 3) b = _
      rw [e7, zI_o (by omega), e6, zI_o (by omega), e5, zR_o (by omega), e4, zR_o (by omega), e3, zR_v, z_cpy (n := 6) rfl (by omega), src σ2 f2 _ _ (by omega) (by omega)]
      exact k2
    · rw [e8]; show σ7.1 (km + 4) b = _
      rw [e7, zI_o (by omega), e6, zI_o (by omega), e5, zR_o (by omega), e4, zR_v, z_cpy (n := 6) rfl (by omega), src σ3 f3 _ _ (by omega) (by omega)]
      exact k3
    · rw [e8]; show σ7.1 (km + 5) b = _
      rw [e7, zI_o (by omega), e6, zI_o (by omega), e5, zR_v, z_cpy (n := 6) rfl (by omega), src σ4 f4 _ _ (by omega) (by omega)]
      exact k4
  · have : σ5.1 b1 5 = nI (dW D) := by rw [src σ5 f5 b1 5 (by omega) (by omega)]; exact x4
    rw [e8]; show σ7.1 km 5 = _; rw [e7, zI_o (by omega), e6, zI_v]; exact this
  · have : σ7.2.2 b1 7 = some (42 + 4 * dT D) := by rw [(f7.2 b1 7 (nS _ _ (by omega) (by omega))).2]; exact x5
    rw [e8, zP_v]; exact this
/-- a loop that copies one row of cells -/
theorem m_copyLoop {N src dst : Nat} (hN : N < 2147483648) (hsd : src ≠ dst) (L : Nat → Int32 → sv_S → Option (Int32 × sv_S)) (K : sv_S → Option (Int32 × sv_S)) (hend : ∀ f i μ, N ≤ i → i < 2147483648 → L (f + 1) (nI i) μ = K μ) (hstep : ∀ f i μ, i < N → L (f + 1) (nI i) μ = L f (nI (i + 1)) (sv_sI μ dst i (μ.1 src i))) :
    ∀ (k i fuel : Nat) (μ : sv_S), N - i = k → i ≤ N → ∃ μ', L (fuel + k + 1) (nI i) μ = K μ' ∧ mFr (fun a _ => a = dst) μ μ' ∧ (∀ j, i ≤ j → j < N → μ'.1 dst j = μ.1 src j) ∧ (∀ j, j < i ∨ N ≤ j → μ'.1 dst j = μ.1 dst j) := by
  intro k
  induction k with
  | zero =>
    intro i fuel μ h1 h2
    exact ⟨μ, hend _ _ _ (by omega) (by omega), mFr_rf, fun j h3 h4 => by omega, fun j _ => rfl⟩
  | succ k ih =>
    intro i fuel μ h1 h2
    obtain ⟨μ', g1, g2, g3, g4⟩ := ih (i + 1) fuel (sv_sI μ dst i (μ.1 src i)) (by omega) (by omega)
    refine ⟨μ', ?_, mFr_tr (mFr_I rfl) g2, fun j h3 h4 => ?_, fun j h3 => ?_⟩
    · rw [hstep (fuel + (k + 1)) i μ (by omega)]; exact g1
    · by_cases hj : j = i
      · subst hj; rw [g4 j (Or.inl (by omega))]; exact zI_v
      · rw [g3 j (by omega) h4, zI_o (Or.inl hsd)]
    · rw [g4 j (by omega), zI_o (by omega)]
theorem c_image (h : zRel θ θm σ μ tc Fs D) : zGo θ θm tc Fs (q_X7_image θ σ) (q_X8_image θm μ) := by
  obtain ⟨hD, hT, hX, hM⟩ := h.2.2.2.1
  obtain ⟨σ1, r1, r2, r3⟩ := x_become (θ := θ) (km := 7) (b1 := 1) (Or.inl ⟨rfl, rfl⟩) hD hX
  obtain ⟨μ1, s1, s2, s3, -⟩ := m_copyLoop (N := 48) (src := 4) (dst := 8) (by omega) (by omega) (fun f i μ => q_X8_image_B2 θm f i μ) (fun μ => q_X8_image_B28 θm sv_N (0 : Int32) μ) (fun f i μ hi h2 => by
      show q_X8_image_B2_b θm _ (nI i) μ = _
      unfold q_X8_image_B2_b
      rw [if_pos (show (48 : Int32) ≤ nI i from nI_le (a := 48) hi h2)]) (fun f i μ hi => by
      show q_X8_image_B2_b θm _ (nI i) μ = _
      unfold q_X8_image_B2_b
      rw [if_neg (show ¬ (48 : Int32) ≤ nI i from nI_ge (b := 48) hi (by omega)), if_neg (z_bd hi (by omega)), if_neg (z_bd hi (by omega)), nI_clamp (by omega), zl, zl, nI_1]) 48 0 151 μ (by omega) (by omega)
  obtain ⟨μ2, u1, u2, u3, -⟩ := m_copyLoop (N := 18) (src := 6) (dst := 9) (by omega) (by omega) (fun f i μ => q_X8_image_B28 θm f i μ) (fun μ => sp_l (sv_sI μ 0 37 (μ.1 0 11)) (fun σ3 => sp_l (sv_sI σ3 0 38 (σ3.1 0 7)) (fun σ4 => sp_l (sv_sI σ4 0 39 (σ4.1 0 4)) (fun σ5 => some ((σ5.1 0 11), σ5))))) (fun f i μ hi h2 => by
      show q_X8_image_B28_b θm _ (nI i) μ = _
      unfold q_X8_image_B28_b
      rw [if_pos (show (18 : Int32) ≤ nI i from nI_le (a := 18) hi h2)]) (fun f i μ hi => by
      show q_X8_image_B28_b θm _ (nI i) μ = _
      unfold q_X8_image_B28_b
      rw [if_neg (show ¬ (18 : Int32) ≤ nI i from nI_ge (b := 18) hi (by omega)), if_neg (z_bd hi (by omega)), if_neg (z_bd hi (by omega)), nI_clamp (by omega), zl, zl, nI_1]) 18 0 181 μ1 (by omega) (by omega)
  have hM2 : mMk μ2 D := mMk_fr (mMk_fr hM s2 (by omega) (fun i j h1 h2 => by omega)) u2 (by omega) (fun i j h1 h2 => by omega)
  have eM : q_X8_image θm μ = some (nI (dM D), sv_sI (sv_sI (sv_sI μ2 0 37 (nI (dM D))) 0 38 (nI (dW D))) 0 39 (nI (dT D))) := by
    have e1 : q_X8_image θm μ = q_X8_image_B28 θm sv_N (0 : Int32) μ1 := s1
    have e2 : q_X8_image_B28 θm sv_N (0 : Int32) μ1 = _ := u1
    rw [e1, e2]
    have w1 : (sv_sI μ2 0 37 (nI (dM D))).1 0 7 = nI (dW D) := by rw [zI_o (by omega)]; exact hM2.2.2.2.1
    have w2 : (sv_sI (sv_sI μ2 0 37 (nI (dM D))) 0 38 (nI (dW D))).1 0 4 = nI (dT D) := by rw [zI_o (by omega), zI_o (by omega)]; exact hM2.2.2.2.2
    have w3 : (sv_sI (sv_sI (sv_sI μ2 0 37 (nI (dM D))) 0 38 (nI (dW D))) 0 39 (nI (dT D))).1 0 11 = nI (dM D) := by rw [zI_o (by omega), zI_o (by omega), zI_o (by omega)]; exact hM2.1
    rw [hM2.1, zl, w1, zl, w2, zl, w3]
  have eX : q_X7_image θ σ = some (nI (dM D), sv_sI σ1 0 2 1) := by
    unfold q_X7_image
    have : (sv_sI σ1 0 2 1).1 1 6 = nI (dM D) := by rw [zI_o (by omega), (r2.2 1 6 (by unfold zBc; omega)).1]; exact hX.1
    rw [r1, zb, zl, this]
  have hf : xFr (fun i j => (7 ≤ i ∧ i ≤ 12) ∨ (i = 0 ∧ j = 2)) σ (sv_sI σ1 0 2 1) := xFr_tr (xFr_w r2 (fun i j q => Or.inl q)) (xFr_I (Or.inr ⟨rfl, rfl⟩))
  have hg : mFr (fun i j => i = 8 ∨ i = 9 ∨ (i = 0 ∧ 37 ≤ j)) μ (sv_sI (sv_sI (sv_sI μ2 0 37 (nI (dM D))) 0 38 (nI (dW D))) 0 39 (nI (dT D))) :=
    mFr_tr (mFr_tr (mFr_tr (mFr_tr (mFr_w s2 (fun i j q => Or.inl q)) (mFr_w u2 (fun i j q => Or.inr (Or.inl q)))) (mFr_I (Or.inr (Or.inr ⟨rfl, by omega⟩)))) (mFr_I (Or.inr (Or.inr ⟨rfl, by omega⟩)))) (mFr_I (Or.inr (Or.inr ⟨rfl, by omega⟩)))
  refine ⟨_, _, _, D, eX, eM, ?_⟩
  obtain ⟨a1, a2, a3, -, a8, a9, a10⟩ := h
  refine ⟨a1, a2, zTexts_fr a3 hf hg (by exact ⟨by omega, fun j => by omega⟩) (fun i j h1 h2 => by omega) (by omega) (fun i j h1 h2 => by omega), ⟨hD, hT, xMk_fr hX hf (fun i j h1 h2 => by omega), mMk_fr hM hg (by omega) (fun i j h1 h2 => by omega)⟩, Or.inr ⟨zI_v, D, hD, hT, Nat.le_refl _, ?_, ?_, fun k hk => ?_, fun b hb => ?_, ?_, zI_v⟩, zTp_fr a9 hf hg (by omega) (fun j => by omega) (by omega) (fun j => by omega), fun s hs => ?_⟩
  · exact xMk_fr r3 (xFr_I (S := fun i j => i = 0 ∧ j = 2) ⟨rfl, rfl⟩) (fun i j h1 h2 => by omega)
  · rw [zI_o (by omega), zI_o (by omega)]; exact zI_v
  · rw [zI_o (by omega), zI_o (by omega), zI_o (by omega), u2.2 8 k (by omega), s3 k (by omega) hk]; exact hM.2.1 k hk
  · obtain ⟨n1, n2, n3, n4⟩ := hM.2.2.1 b hb
    have hM6 := hD.1
    refine ⟨rfl, ?_, ?_, ?_⟩
    · rw [zI_o (by omega), zI_o (by omega), zI_o (by omega), u3 _ (by omega) (by omega), s2.2 6 _ (by omega)]; exact n2
    · rw [zI_o (by omega), zI_o (by omega), zI_o (by omega), u3 _ (by omega) (by omega), s2.2 6 _ (by omega)]; exact n3
    · rw [zI_o (by omega), zI_o (by omega), zI_o (by omega), u3 _ (by omega) (by omega), s2.2 6 _ (by omega)]; exact n4
  · rw [zI_o (by omega)]; exact zI_v
  · obtain ⟨b1, b2⟩ := a10 s hs
    exact ⟨by rw [(hf.2 21 s (by omega)).2]; exact b1, zRw1_fr b2 hs hf hg (fun j => by omega) (fun i h1 h2 => by omega) (fun j hj => by omega)⟩
theorem c_back (h : zRel θ θm σ μ tc Fs D) : zGo θ θm tc Fs (q_X7_back θ σ) (q_X8_back θm μ) := by
  have hK := h.2.2.2.2.1
  rcases hK with ⟨k1, k2⟩ | ⟨k1, Dk, q1, q2, q3, q4, q5, q6, q7, q8, q9⟩
  · refine zGo_same h (r := -3) ?_ ?_
    · unfold q_X7_back; rw [k1, if_pos p00]
    · unfold q_X8_back; rw [k2, if_pos rfl]
  obtain ⟨hD, hT, hX, hM⟩ := h.2.2.2.1
  obtain ⟨σ1, r1, r2, r3⟩ := x_become (θ := θ) (km := 1) (b1 := 7) (Or.inr ⟨rfl, rfl⟩) q1 q4
  obtain ⟨μ1, s1, s2, s3, -⟩ := m_copyLoop (N := 48) (src := 8) (dst := 4) (by omega) (by omega) (fun f i μ => q_X8_back_B13 θm f i μ) (fun μ => q_X8_back_B39 θm sv_N (0 : Int32) μ) (fun f i μ hi h2 => by
      show q_X8_back_B13_b θm _ (nI i) μ = _
      unfold q_X8_back_B13_b
      rw [if_pos (show (48 : Int32) ≤ nI i from nI_le (a := 48) hi h2)]) (fun f i μ hi => by
      show q_X8_back_B13_b θm _ (nI i) μ = _
      unfold q_X8_back_B13_b
      rw [if_neg (show ¬ (48 : Int32) ≤ nI i from nI_ge (b := 48) hi (by omega)), if_neg (z_bd hi (by omega)), if_neg (z_bd hi (by omega)), nI_clamp (by omega), zl, zl, nI_1]) 48 0 151 μ (by omega) (by omega)
  obtain ⟨μ2, u1, u2, u3, -⟩ := m_copyLoop (N := 18) (src := 9) (dst := 6) (by omega) (by omega) (fun f i μ => q_X8_back_B39 θm f i μ) (fun μ => sp_l (sv_sI μ 0 11 (μ.1 0 37)) (fun σ4 => sp_l (sv_sI σ4 0 7 (σ4.1 0 38)) (fun σ5 => sp_l (sv_sI σ5 0 4 (σ5.1 0 39)) (fun σ6 => some ((σ6.1 0 11), σ6))))) (fun f i μ hi h2 => by
      show q_X8_back_B39_b θm _ (nI i) μ = _
      unfold q_X8_back_B39_b
      rw [if_pos (show (18 : Int32) ≤ nI i from nI_le (a := 18) hi h2)]) (fun f i μ hi => by
      show q_X8_back_B39_b θm _ (nI i) μ = _
      unfold q_X8_back_B39_b
      rw [if_neg (show ¬ (18 : Int32) ≤ nI i from nI_ge (b := 18) hi (by omega)), if_neg (z_bd hi (by omega)), if_neg (z_bd hi (by omega)), nI_clamp (by omega), zl, zl, nI_1]) 18 0 181 μ1 (by omega) (by omega)
  have hDk6 := q1.1
  have t37 : μ2.1 0 37 = nI (dM Dk) := by rw [u2.2 0 37 (by omega), s2.2 0 37 (by omega)]; exact q5
  have t38 : μ2.1 0 38 = nI (dW Dk) := by rw [u2.2 0 38 (by omega), s2.2 0 38 (by omega)]; exact q8
  have t39 : μ2.1 0 39 = nI (dT Dk) := by rw [u2.2 0 39 (by omega), s2.2 0 39 (by omega)]; exact q9
  have eM : q_X8_back θm μ = some (nI (dM Dk), sv_sI (sv_sI (sv_sI μ2 0 11 (nI (dM Dk))) 0 7 (nI (dW Dk))) 0 4 (nI (dT Dk))) := by
    have e1 : q_X8_back_B13 θm sv_N (0 : Int32) μ = q_X8_back_B39 θm sv_N (0 : Int32) μ1 := s1
    have e2 : q_X8_back_B39 θm sv_N (0 : Int32) μ1 = _ := u1
    unfold q_X8_back
    have w1 : (sv_sI μ2 0 11 (nI (dM Dk))).1 0 38 = nI (dW Dk) := by rw [zI_o (by omega)]; exact t38
    have w2 : (sv_sI (sv_sI μ2 0 11 (nI (dM Dk))) 0 7 (nI (dW Dk))).1 0 39 = nI (dT Dk) := by rw [zI_o (by omega), zI_o (by omega)]; exact t39
    have w3 : (sv_sI (sv_sI (sv_sI μ2 0 11 (nI (dM Dk))) 0 7 (nI (dW Dk))) 0 4 (nI (dT Dk))).1 0 11 = nI (dM Dk) := by rw [zI_o (by omega), zI_o (by omega)]; exact zI_v
    rw [q5, if_neg (zO_ne (v := dM Dk) (by omega)), e1, e2, t37, zl, w1, zl, w2, zl, w3]
  have eX : q_X7_back θ σ = some (nI (dM Dk), σ1) := by
    unfold q_X7_back
    rw [k1, if_neg n10, r1, zb, r3.1]
  have hf : xFr zMc σ σ1 := xFr_w r2 (fun i j q => Or.inl ⟨q.1, q.2⟩)
  have hg : mFr (fun i j => i = 4 ∨ i = 6 ∨ (i = 0 ∧ (j = 4 ∨ j = 7 ∨ j = 11))) μ (sv_sI (sv_sI (sv_sI μ2 0 11 (nI (dM Dk))) 0 7 (nI (dW Dk))) 0 4 (nI (dT Dk))) :=
    mFr_tr (mFr_tr (mFr_tr (mFr_tr (mFr_w s2 (fun i j q => Or.inl q)) (mFr_w u2 (fun i j q => Or.inr (Or.inl q)))) (mFr_I (Or.inr (Or.inr ⟨rfl, by omega⟩)))) (mFr_I (Or.inr (Or.inr ⟨rfl, by omega⟩)))) (mFr_I (Or.inr (Or.inr ⟨rfl, by omega⟩)))
  refine ⟨_, _, _, Dk, eX, eM, ?_⟩
  obtain ⟨a1, a2, a3, -, a8, a9, a10⟩ := h
  refine ⟨a1, a2, zTexts_fr a3 hf hg (by unfold zMc zTmp zSk; exact ⟨by omega, fun j => by omega⟩) (fun i j h1 h2 => by unfold zMc zTmp zSk; omega) (by omega) (fun i j h1 h2 => by omega), ⟨q1, q2, r3, ?_, fun k hk => ?_, fun b hb => ?_, ?_, zI_v⟩, Or.inr ⟨?_, Dk, q1, q2, Nat.le_refl _, xMk_fr q4 r2 (fun i j h1 h2 => by unfold zBc; omega), ?_, fun k hk => ?_, fun b hb => ?_, ?_, ?_⟩, zTp_fr a9 hf hg (by unfold zMc zTmp zSk; omega) (fun j => by unfold zMc zTmp zSk; omega) (by omega) (fun j => by omega), fun s hs => ?_⟩
  · rw [zI_o (by omega), zI_o (by omega)]; exact zI_v
  · rw [zI_o (by omega), zI_o (by omega), zI_o (by omega), u2.2 4 k (by omega), s3 k (by omega) hk]; exact q6 k hk
  · obtain ⟨g0, g1, g2, g3⟩ := q7 b hb
    obtain ⟨n1, n2, n3, n4⟩ := hM.2.2.1 b (by omega)
    refine ⟨?_, ?_, ?_, ?_⟩
    · rw [zI_o (by omega), zI_o (by omega), zI_o (by omega), u2.2 5 b (by omega), s2.2 5 b (by omega), g0]; exact n1
    · rw [zI_o (by omega), zI_o (by omega), zI_o (by omega), u3 _ (by omega) (by omega), s2.2 9 _ (by omega)]; exact g1
    · rw [zI_o (by omega), zI_o (by omega), zI_o (by omega), u3 _ (by omega) (by omega), s2.2 9 _ (by omega)]; exact g2
    · rw [zI_o (by omega), zI_o (by omega), zI_o (by omega), u3 _ (by omega) (by omega), s2.2 9 _ (by omega)]; exact g3
  · rw [zI_o (by omega)]; exact zI_v
  · rw [(hf.2 0 2 (by unfold zMc zTmp zSk; omega)).1]; exact k1
  · rw [hg.2 0 37 (by omega)]; exact q5
  · rw [hg.2 8 k (by omega)]; exact q6 k hk
  · obtain ⟨g0, g1, g2, g3⟩ := q7 b hb
    refine ⟨rfl, ?_, ?_, ?_⟩
    · rw [hg.2 9 _ (by omega)]; exact g1
    · rw [hg.2 9 _ (by omega)]; exact g2
    · rw [hg.2 9 _ (by omega)]; exact g3
  · rw [hg.2 0 38 (by omega)]; exact q8
  · rw [hg.2 0 39 (by omega)]; exact q9
  · obtain ⟨b1, b2⟩ := a10 s hs
    exact ⟨by rw [(hf.2 21 s (by unfold zMc zTmp zSk; omega)).2]; exact b1, zRw1_fr b2 hs hf hg (fun j => by unfold zMc zTmp zSk; omega) (fun i h1 h2 => by omega) (fun j hj => by omega)⟩
end IMG

/-! ===== calls: drawn ===== -/
section DR2
variable {θ θm : sv_T} {σ μ : sv_S} {tc : Nat} {Fs : Nat → Nat → (Nat → Int32) → Int32} {D : zD}
def mT7 (i j : Nat) : Prop := i = 7 ∨ mTmp i j
theorem zRel_7 (h : zRel θ θm σ μ tc Fs D) {σ' μ' : sv_S} (hf : xFr zTmp σ σ') (hg : mFr mT7 μ μ') : zRel θ θm σ' μ' tc Fs D := by
  obtain ⟨a1, a2, a3, ⟨a4, a5, a6, a7⟩, a8, a9, a10⟩ := h
  refine ⟨a1, a2, zTexts_fr a3 hf hg (by unfold zTmp zSk; exact ⟨by omega, fun j => by omega⟩) zTmp_t (by unfold mT7 mTmp; omega) (fun i j h1 h2 => by unfold mT7 mTmp; omega), ⟨a4, a5, xMk_fr a6 hf (fun i j h1 h2 => by unfold zTmp zSk; omega), mMk_fr a7 hg (by unfold mT7 mTmp; omega) (fun i j h1 h2 => by unfold mT7 mTmp; omega)⟩, zKp_fr a8 hf hg (by unfold zTmp zSk; omega) (fun i j h1 h2 => by unfold zTmp zSk; omega) (by unfold mT7 mTmp; omega) (fun i j h1 h2 => by unfold mT7 mTmp; omega), zTp_fr a9 hf hg (by unfold zTmp zSk; omega) (fun j => by unfold zTmp zSk; omega) (by unfold mT7 mTmp; omega) (fun j => by unfold mT7 mTmp; omega), fun s hs => ?_⟩
  obtain ⟨b1, b2⟩ := a10 s hs
  exact ⟨by rw [(hf.2 21 s (by unfold zTmp zSk; omega)).2]; exact b1, zRw1_fr b2 hs hf hg (fun j => by unfold zTmp zSk; omega) (fun i h1 h2 => by unfold mT7 mTmp; omega) (fun j hj => by unfold mT7 mTmp; omega)⟩
theorem zMz_0 {seed : Int32} : zMz seed 0 = seed := rfl
theorem m_gbLoop {seed : Int32} {μ : sv_S} : ∀ (k i fuel : Nat) (τ : sv_S), 48 - i = k → i ≤ 48 → mFr (fun a b => (a = 4 ∧ b < 48) ∨ a = 7) μ τ → (∀ j, j < i → τ.1 4 j = nI (zDw seed j) ∧ τ.1 7 j = μ.1 4 j) → (∀ j, i ≤ j → τ.1 4 j = μ.1 4 j) →
      ∃ τ', q_X8_gainBy_B4 θm seed (fuel + k + 1) (zMz seed i) (nI i) τ = sp_b (q_X8_begins θm τ') (fun _ σ3 => q_X8_gainBy_B71 θm seed sv_N (0 : Int32) σ3) ∧ mFr (fun a b => (a = 4 ∧ b < 48) ∨ a = 7) μ τ' ∧ ∀ j, j < 48 → τ'.1 4 j = nI (zDw seed j) ∧ τ'.1 7 j = μ.1 4 j := by
  intro k
  induction k with
  | zero =>
    intro i fuel τ h1 h2 h3 h4 h5
    refine ⟨τ, ?_, h3, fun j hj => h4 j (by omega)⟩
    show q_X8_gainBy_B4_b θm seed _ (zMz seed i) (nI i) τ = _
    unfold q_X8_gainBy_B4_b
    rw [if_pos (show (48 : Int32) ≤ nI i from nI_le (a := 48) (by omega) (by omega))]
  | succ k ih =>
    intro i fuel τ h1 h2 h3 h4 h5
    have hmu := zMu_lt (seed := seed) (k := i)
    have hz : zMz seed i * (1103515245 : Int32) + (12345 : Int32) = zMz seed (i + 1) := rfl
    obtain ⟨τ', g1, g2, g3⟩ := ih (i + 1) fuel (sv_sI (sv_sI τ 7 i (τ.1 4 i)) 4 i (nI (zDw seed i))) (by omega) (by omega) (mFr_tr h3 (mFr_tr (mFr_I (Or.inr rfl)) (mFr_I (Or.inl ⟨rfl, by omega⟩)))) (fun j hj => by
        by_cases e : j = i
        · subst e
          exact ⟨zI_v, by rw [zI_o (by omega), zI_v]; exact h5 j (Nat.le_refl _)⟩
        · rw [zI_o (by omega), zI_o (by omega), zI_o (by omega), zI_o (by omega)]; exact h4 j (by omega)) (fun j hj => by
        rw [zI_o (by omega), zI_o (by omega)]; exact h5 j (by omega))
    refine ⟨τ', ?_, g2, g3⟩
    have eu : q_X8_gainBy_B4 θm seed (fuel + (k + 1) + 1) (zMz seed i) (nI i) τ = q_X8_gainBy_B4_b θm seed (q_X8_gainBy_B4 θm seed (fuel + (k + 1))) (zMz seed i) (nI i) τ := rfl
    rw [eu]
    unfold q_X8_gainBy_B4_b
    rw [if_neg (show ¬ (48 : Int32) ≤ nI i from nI_ge (b := 48) (by omega) (by omega)), if_neg (z_bd (n := i) (L := 48) (by omega) (by omega)), if_neg (z_bd (n := i) (L := 48) (by omega) (by omega)), nI_clamp (n := i) (by omega), zl, hz, zl, z_much, zl]
    by_cases h4' : 4 ≤ zMu seed i
    · have e : zDw seed i = zMu seed i := by unfold zDw; rw [if_neg (by omega)]
      rw [if_pos (show (4 : Int32) ≤ nI (zMu seed i) from nI_le (a := 4) h4' (by omega)), if_neg (z_bn (n := i) (L := 48) (by omega) (by omega)), zl, zl, nI_1, ← e]
      exact g1
    · have e : zDw seed i = 0 := by unfold zDw; rw [if_pos (by omega)]
      rw [if_neg (show ¬ (4 : Int32) ≤ nI (zMu seed i) from nI_ge (b := 4) (by omega) (by omega)), if_neg (z_bn (n := i) (L := 48) (by omega) (by omega)), zl, zl, nI_1]
      rw [e] at g1
      exact g1
/-- the rain is put back -/
theorem m_gbBack {seed : Int32} {τ : sv_S} : ∃ τ', q_X8_gainBy_B100 θm seed sv_N (0 : Int32) τ = some (τ'.1 0 27, τ') ∧ mFr (fun a _ => a = 4) τ τ' ∧ (∀ j, j < 48 → τ'.1 4 j = τ.1 7 j) ∧ (∀ j, 48 ≤ j → τ'.1 4 j = τ.1 4 j) := by
  obtain ⟨τ4, c1, c2, c3, c4⟩ := m_copyLoop (N := 48) (src := 7) (dst := 4) (by omega) (by omega) (fun f i μ => q_X8_gainBy_B100 θm seed f i μ) (fun μ => some (μ.1 0 27, μ)) (fun f i μ hi h2 => by
      show q_X8_gainBy_B100_b θm seed _ (nI i) μ = _
      unfold q_X8_gainBy_B100_b
      rw [if_pos (show (48 : Int32) ≤ nI i from nI_le (a := 48) hi h2)]) (fun f i μ hi => by
      show q_X8_gainBy_B100_b θm seed _ (nI i) μ = _
      unfold q_X8_gainBy_B100_b
      rw [if_neg (show ¬ (48 : Int32) ≤ nI i from nI_ge (b := 48) hi (by omega)), if_neg (z_bd hi (by omega)), if_neg (z_bd hi (by omega)), nI_clamp (by omega), zl, zl, nI_1]) 48 0 151 τ (by omega) (by omega)
  exact ⟨τ4, c1, c2, fun j hj => c3 j (Nat.zero_le _) hj, fun j hj => c4 j (Or.inr hj)⟩
theorem m_gbMid {F : Nat → (Nat → Int32) → Int32} {seed : Int32} {rn : Nat → Nat} {τ : sv_S} (hrn : ∀ k, k < 48 → rn k ≤ 9) (hO : mOk θm μ D F) (a2 : mFr (fun a b => (a = 4 ∧ b < 48) ∨ a = 7) μ τ) (a3 : ∀ j, j < 48 → τ.1 4 j = nI (rn j)) :
    ∃ τ3, sp_b (q_X8_begins θm τ) (fun _ σ3 => q_X8_gainBy_B71 θm seed sv_N (0 : Int32) σ3) = q_X8_gainBy_B100 θm seed sv_N (0 : Int32) τ3 ∧ mFr mTmp τ τ3 ∧ τ3.1 0 27 = nI (tFil D F rn (dM D)).1 := by
  have hM6 := hO.1.1
  have hf0 : mFr mTmp τ (sv_sI (sv_sI (sv_sI (sv_sI (sv_sI τ 0 27 0) 0 28 0) 0 29 (-1)) 0 30 0) 0 31 0) := mFr_tr (mFr_tr (mFr_tr (mFr_tr (mFr_I ⟨rfl, by omega, by omega⟩) (mFr_I ⟨rfl, by omega, by omega⟩)) (mFr_I ⟨rfl, by omega, by omega⟩)) (mFr_I ⟨rfl, by omega, by omega⟩)) (mFr_I ⟨rfl, by omega, by omega⟩)
  have eb : q_X8_begins θm τ = some ((), sv_sI (sv_sI (sv_sI (sv_sI (sv_sI τ 0 27 0) 0 28 0) 0 29 (-1)) 0 30 0) 0 31 0) := by
    unfold q_X8_begins
    rw [zl, zl, zl, zl, zl]
  have hT0 : mT (sv_sI (sv_sI (sv_sI (sv_sI (sv_sI τ 0 27 0) 0 28 0) 0 29 (-1)) 0 30 0) 0 31 0) (0, 0, 0, 0) :=
    ⟨by rw [zI_o (by omega), zI_o (by omega), zI_o (by omega), zI_o (by omega)]; exact zI_v, by rw [show nI (zPc 0) = 0 by decide, zI_o (by omega), zI_o (by omega), zI_o (by omega)]; exact zI_v, by rw [zI_o (by omega), zI_o (by omega)]; exact zI_v, by rw [zI_o (by omega)]; exact zI_v, zI_v⟩
  revert hf0 eb hT0
  generalize sv_sI (sv_sI (sv_sI (sv_sI (sv_sI τ 0 27 0) 0 28 0) 0 29 (-1)) 0 30 0) 0 31 0 = τ2
  intro hf0 eb hT0
  obtain ⟨D', hD'⟩ : ∃ D', D' = dRain D rn := ⟨_, rfl⟩
  have e1 : dM D' = dM D := by rw [hD']; rfl
  have e2 : dR D' = rn := by rw [hD']; rfl
  have e3 : dK D' = dK D := by rw [hD']; rfl
  have e4 : dN D' = dN D := by rw [hD']; rfl
  have e5 : dS D' = dS D := by rw [hD']; rfl
  have e6 : dH D' = dH D := by rw [hD']; rfl
  have e7 : dW D' = dW D := by rw [hD']; rfl
  have e8 : dT D' = dT D := by rw [hD']; rfl
  have e9 : ∀ b, tFil D' F rn b = tFil D F rn b := fun b => by rw [hD']; exact tFil_rain b
  have okD : zDok D' := by rw [hD']; exact dRain_ok hO.1 hrn
  clear hD'
  have hM' : mMk τ2 D' := by
    refine ⟨?_, fun k hk => ?_, fun b hb => ?_, ?_, ?_⟩
    · rw [e1, hf0.2 0 11 (by unfold mTmp; omega), a2.2 0 11 (by omega)]; exact hO.2.1.1
    · rw [e2, hf0.2 4 k (by unfold mTmp; omega)]; exact a3 k hk
    · rw [e1] at hb
      rw [e3, e4, e5, e6, hf0.2 _ _ (by unfold mTmp; omega), hf0.2 _ _ (by unfold mTmp; omega), hf0.2 _ _ (by unfold mTmp; omega), hf0.2 _ _ (by unfold mTmp; omega), a2.2 _ _ (by omega), a2.2 _ _ (by omega), a2.2 _ _ (by omega), a2.2 _ _ (by omega)]
      exact hO.2.1.2.2.1 b hb
    · rw [e7, hf0.2 0 7 (by unfold mTmp; omega), a2.2 0 7 (by omega)]; exact hO.2.1.2.2.2.1
    · rw [e8, hf0.2 0 4 (by unfold mTmp; omega), a2.2 0 4 (by omega)]; exact hO.2.1.2.2.2.2
  have hT' : mText θm τ2 (dT D') F := by
    rw [e8]
    exact mText_fr (mText_fr hO.2.2 a2 (fun i j h1 h2 => by omega)) hf0 (fun i j h1 h2 => by unfold mTmp; omega)
  obtain ⟨τ3, b1, b2, b3⟩ := m_filLoop (θm := θm) (a1 := seed) (μ := τ2) (D := D') (F := F) ⟨okD, hM', hT'⟩ (dM D') 0 (199 - dM D') τ2 (by omega) (by omega) mFr_rf hT0
  have b4 := b3.1
  rw [e2, e9, e1] at b4
  rw [show 199 - dM D' + dM D' + 1 = sv_N by unfold sv_N; omega, nI_0] at b1
  exact ⟨τ3, by rw [eb, zb, b1], mFr_tr hf0 b2, b4⟩
theorem m_gainBy {F : Nat → (Nat → Int32) → Int32} {seed : Int32} (hO : mOk θm μ D F) : ∃ μ', q_X8_gainBy θm seed μ = some (nI (tFil D F (zDw seed) (dM D)).1, μ') ∧ mFr mT7 μ μ' := by
  obtain ⟨τ, a1, a2, a3⟩ := m_gbLoop (θm := θm) (seed := seed) (μ := μ) 48 0 151 μ (by omega) (by omega) mFr_rf (fun j hj => by omega) (fun j _ => rfl)
  obtain ⟨τ3, b1, b2, b3⟩ := m_gbMid (θm := θm) (seed := seed) (rn := zDw seed) (fun k _ => zDw_le) hO a2 (fun j hj => (a3 j hj).1)
  obtain ⟨τ4, c1, c2, c3, c4⟩ := m_gbBack (θm := θm) (seed := seed) (τ := τ3)
  revert b3
  generalize nI (tFil D F (zDw seed) (dM D)).1 = gn
  intro b3
  refine ⟨τ4, ?_, ?_⟩
  · rw [show 151 + 48 + 1 = sv_N by unfold sv_N; omega, zMz_0, nI_0] at a1
    unfold q_X8_gainBy
    rw [a1, b1, c1, c2.2 0 27 (by omega), b3]
  · refine ⟨by rw [c2.1, b2.1, a2.1], fun i j hij => ?_⟩
    unfold mT7 at hij
    have hnt : ¬ mTmp i j := fun q => hij (Or.inr q)
    by_cases e : i = 4
    · subst e
      by_cases hj : j < 48
      · rw [c3 j hj, b2.2 7 j (by unfold mTmp; omega)]; exact (a3 j hj).2
      · rw [c4 j (by omega), b2.2 4 j hnt, a2.2 4 j (fun q => by rcases q with q | q; omega; omega)]
    · rw [c2.2 i j e, b2.2 i j hnt, a2.2 i j (fun q => by rcases q with q | q; exact e q.1; exact hij (Or.inl q))]
end DR2

/-! ===== what holds between the class and the reference ===== -/
def xMk (σ : sv_S) (m : Nat) (D : zD) : Prop := σ.1 m 6 = nI (dM D) ∧ (∀ k, k < 48 → σ.1 (m + 1) k = nI (dR D k)) ∧ (∀ b, b < dM D → σ.1 (m + 2) b = nI (dK D b) ∧ σ.1 (m + 3) b = nI (dN D b) ∧ σ.1 (m + 4) b = nI (dS D b) ∧ σ.1 (m + 5) b = nI (dH D b)) ∧ σ.1 m 5 = nI (dW D) ∧ σ.2.2 m 7 = some (42 + 4 * dT D)
def zTmp (i j : Nat) : Prop := (i = 13 ∧ 1 ≤ j) ∨ (15 ≤ i ∧ i ≤ 19) ∨ (22 ≤ i ∧ i ≤ 33) ∨ zSk i j
def mTmp (i j : Nat) : Prop := i = 0 ∧ 12 ≤ j ∧ j ≤ 36
theorem xMk_fr {S : Nat → Nat → Prop} {σ σ' : sv_S} {m : Nat} {D : zD} (h : xMk σ m D) (hf : xFr S σ σ') (h0 : ∀ i j, m ≤ i → i ≤ m + 5 → ¬ S i j) : xMk σ' m D := by
  obtain ⟨a1, a2, a3, a4, a5⟩ := h
  have q : ∀ i j, m ≤ i → i ≤ m + 5 → σ'.1 i j = σ.1 i j := fun i j h1 h2 => (hf.2 i j (h0 i j h1 h2)).1
  refine ⟨by rw [q _ _ (by omega) (by omega)]; exact a1, fun k hk => by rw [q _ _ (by omega) (by omega)]; exact a2 k hk, fun b hb => ?_, by rw [q _ _ (by omega) (by omega)]; exact a4, by rw [(hf.2 _ _ (h0 _ _ (by omega) (by omega))).2]; exact a5⟩
  rw [q _ _ (by omega) (by omega), q _ _ (by omega) (by omega), q _ _ (by omega) (by omega), q _ _ (by omega) (by omega)]
  exact a3 b hb
def zTexts (θ θm : sv_T) (σ μ : sv_S) (tc : Nat) (Fs : Nat → Nat → (Nat → Int32) → Int32) : Prop := 1 ≤ tc ∧ tc ≤ 6 ∧ θ.1 = 42 + 4 * tc ∧ σ.1 0 5 = nI tc ∧ μ.1 0 3 = nI tc ∧ ∀ k, k < tc → σ.2.2 20 k = some (42 + 4 * k) ∧ xText θ σ k (Fs k) ∧ mText θm μ k (Fs k)
def zKp (σ μ : sv_S) (D : zD) (tc : Nat) : Prop := (σ.1 0 2 = 0 ∧ μ.1 0 37 = -1) ∨ (σ.1 0 2 = 1 ∧ ∃ Dk : zD, zDok Dk ∧ dT Dk < tc ∧ dM Dk ≤ dM D ∧ xMk σ 7 Dk ∧ μ.1 0 37 = nI (dM Dk) ∧ (∀ k, k < 48 → μ.1 8 k = nI (dR Dk k)) ∧ (∀ b, b < dM Dk → dK Dk b = dK D b ∧ μ.1 9 (3 * b) = nI (dN Dk b) ∧ μ.1 9 (3 * b + 1) = nI (dS Dk b) ∧ μ.1 9 (3 * b + 2) = nI (dH Dk b)) ∧ μ.1 0 38 = nI (dW Dk) ∧ μ.1 0 39 = nI (dT Dk))
def zTp (σ μ : sv_S) : Prop := ∃ (n : Nat) (B : Nat → Nat), n ≤ 160 ∧ σ.1 13 0 = nI n ∧ μ.1 0 6 = nI n ∧ ∀ p, p < n → B p ≤ 255 ∧ σ.1 14 p = nI (B p) ∧ μ.1 3 p = nI (B p)
def zRw1 (σ μ : sv_S) (s : Nat) : Prop := (σ.1 (34 + 2 * s) 1 = -1 ∧ μ.1 10 s = 0) ∨ ∃ q n, q ≤ 2 ∧ n ≤ 40 ∧ σ.1 (34 + 2 * s) 1 = nI q ∧ σ.1 (34 + 2 * s) 2 = nI n ∧ μ.1 10 s = 1 ∧ μ.1 11 s = nI q ∧ μ.1 12 s = nI n ∧ ∀ i, i < n → σ.1 (34 + 2 * s + 1) i = μ.1 13 (40 * s + i)
def zRw (σ μ : sv_S) : Prop := ∀ s, s < 4 → σ.2.2 21 s = some (34 + 2 * s) ∧ zRw1 σ μ s
def zRel (θ θm : sv_T) (σ μ : sv_S) (tc : Nat) (Fs : Nat → Nat → (Nat → Int32) → Int32) (D : zD) : Prop :=
  sx_base θ ∧ sm_base θm ∧ zTexts θ θm σ μ tc Fs ∧ (zDok D ∧ dT D < tc ∧ xMk σ 1 D ∧ mMk μ D) ∧ zKp σ μ D tc ∧ zTp σ μ ∧ zRw σ μ
theorem zTmp_t : ∀ i j, 42 ≤ i → i % 4 ≠ 1 → ¬ zTmp i j := fun i j h1 h2 => by unfold zTmp zSk; omega
theorem zTexts_fr {S S' : Nat → Nat → Prop} {θ θm : sv_T} {σ μ σ' μ' : sv_S} {tc : Nat} {Fs : Nat → Nat → (Nat → Int32) → Int32} (h : zTexts θ θm σ μ tc Fs) (hf : xFr S σ σ') (hg : mFr S' μ μ') (h1 : ¬ S 0 5 ∧ ∀ j, ¬ S 20 j) (h2 : ∀ i j, 42 ≤ i → i % 4 ≠ 1 → ¬ S i j) (h3 : ¬ S' 0 3) (h4 : ∀ i j, 1 ≤ i → i ≤ 2 → ¬ S' i j) : zTexts θ θm σ' μ' tc Fs := by
  obtain ⟨a1, a2, a3, a4, a5, a6⟩ := h
  refine ⟨a1, a2, a3, by rw [(hf.2 _ _ h1.1).1]; exact a4, by rw [hg.2 _ _ h3]; exact a5, fun k hk => ?_⟩
  obtain ⟨b1, b2, b3⟩ := a6 k hk
  exact ⟨by rw [(hf.2 _ _ (h1.2 k)).2]; exact b1, xText_fr b2 hf h2, mText_fr b3 hg h4⟩
theorem zKp_fr {S S' : Nat → Nat → Prop} {σ μ σ' μ' : sv_S} {D : zD} {tc : Nat} (h : zKp σ μ D tc) (hf : xFr S σ σ') (hg : mFr S' μ μ') (h1 : ¬ S 0 2) (h2 : ∀ i j, 7 ≤ i → i ≤ 12 → ¬ S i j) (h3 : ¬ S' 0 37 ∧ ¬ S' 0 38 ∧ ¬ S' 0 39) (h4 : ∀ i j, 8 ≤ i → i ≤ 9 → ¬ S' i j) : zKp σ' μ' D tc := by
  rcases h with ⟨a1, a2⟩ | ⟨a1, Dk, b1, b2, b3, b4, b5, b6, b7, b8, b9⟩
  · exact Or.inl ⟨by rw [(hf.2 _ _ h1).1]; exact a1, by rw [hg.2 _ _ h3.1]; exact a2⟩
  · refine Or.inr ⟨by rw [(hf.2 _ _ h1).1]; exact a1, Dk, b1, b2, b3, xMk_fr b4 hf (fun i j q1 q2 => h2 i j q1 q2), by rw [hg.2 _ _ h3.1]; exact b5, fun k hk => by rw [hg.2 _ _ (h4 _ _ (by omega) (by omega))]; exact b6 k hk, fun b hb => ?_, by rw [hg.2 _ _ h3.2.1]; exact b8, by rw [hg.2 _ _ h3.2.2]; exact b9⟩
    rw [hg.2 _ _ (h4 _ _ (by omega) (by omega)), hg.2 _ _ (h4 _ _ (by omega) (by omega)), hg.2 _ _ (h4 _ _ (by omega) (by omega))]
    exact b7 b hb
theorem zTp_fr {S S' : Nat → Nat → Prop} {σ μ σ' μ' : sv_S} (h : zTp σ μ) (hf : xFr S σ σ') (hg : mFr S' μ μ') (h1 : ¬ S 13 0) (h2 : ∀ j, ¬ S 14 j) (h3 : ¬ S' 0 6) (h4 : ∀ j, ¬ S' 3 j) : zTp σ' μ' := by
  obtain ⟨n, B, a1, a2, a3, a4⟩ := h
  exact ⟨n, B, a1, by rw [(hf.2 _ _ h1).1]; exact a2, by rw [hg.2 _ _ h3]; exact a3, fun p hp => ⟨(a4 p hp).1, by rw [(hf.2 _ _ (h2 p)).1]; exact (a4 p hp).2.1, by rw [hg.2 _ _ (h4 p)]; exact (a4 p hp).2.2⟩⟩
theorem zRw1_fr {S S' : Nat → Nat → Prop} {σ μ σ' μ' : sv_S} {s : Nat} (h : zRw1 σ μ s) (hs : s < 4) (hf : xFr S σ σ') (hg : mFr S' μ μ') (h1 : ∀ j, ¬ S (34 + 2 * s) j ∧ ¬ S (34 + 2 * s + 1) j) (h2 : ∀ i, 10 ≤ i → i ≤ 12 → ¬ S' i s) (h3 : ∀ j, j < 40 → ¬ S' 13 (40 * s + j)) : zRw1 σ' μ' s := by
  have e1 : ∀ j, σ'.1 (34 + 2 * s) j = σ.1 (34 + 2 * s) j := fun j => (hf.2 _ _ (h1 j).1).1
  have e2 : ∀ j, σ'.1 (34 + 2 * s + 1) j = σ.1 (34 + 2 * s + 1) j := fun j => (hf.2 _ _ (h1 j).2).1
  have e3 : ∀ i, 10 ≤ i → i ≤ 12 → μ'.1 i s = μ.1 i s := fun i q1 q2 => hg.2 _ _ (h2 i q1 q2)
  rcases h with ⟨a1, a2⟩ | ⟨q, n, b1, b2, b3, b4, b5, b6, b7, b8⟩
  · exact Or.inl ⟨by rw [e1]; exact a1, by rw [e3 _ (by omega) (by omega)]; exact a2⟩
  · exact Or.inr ⟨q, n, b1, b2, by rw [e1]; exact b3, by rw [e1]; exact b4, by rw [e3 _ (by omega) (by omega)]; exact b5, by rw [e3 _ (by omega) (by omega)]; exact b6, by rw [e3 _ (by omega) (by omega)]; exact b7, fun i hi => by rw [e2, hg.2 _ _ (h3 i (by omega))]; exact b8 i hi⟩
theorem zRel_tmp {θ θm : sv_T} {σ μ σ' μ' : sv_S} {tc : Nat} {Fs : Nat → Nat → (Nat → Int32) → Int32} {D : zD} (h : zRel θ θm σ μ tc Fs D) (hf : xFr zTmp σ σ') (hg : mFr mTmp μ μ') : zRel θ θm σ' μ' tc Fs D := by
  obtain ⟨a1, a2, a3, ⟨a4, a5, a6, a7⟩, a8, a9, a10⟩ := h
  refine ⟨a1, a2, zTexts_fr a3 hf hg (by unfold zTmp zSk; exact ⟨by omega, fun j => by omega⟩) zTmp_t (by unfold mTmp; omega) (fun i j h1 h2 => by unfold mTmp; omega), ⟨a4, a5, xMk_fr a6 hf (fun i j h1 h2 => by unfold zTmp zSk; omega), mMk_fr a7 hg (by unfold mTmp; omega) (fun i j h1 h2 => by unfold mTmp; omega)⟩, zKp_fr a8 hf hg (by unfold zTmp zSk; omega) (fun i j h1 h2 => by unfold zTmp zSk; omega) (by unfold mTmp; omega) (fun i j h1 h2 => by unfold mTmp; omega), zTp_fr a9 hf hg (by unfold zTmp zSk; omega) (fun j => by unfold zTmp zSk; omega) (by unfold mTmp; omega) (fun j => by unfold mTmp; omega), fun s hs => ?_⟩
  obtain ⟨b1, b2⟩ := a10 s hs
  exact ⟨by rw [(hf.2 21 s (by unfold zTmp zSk; omega)).2]; exact b1, zRw1_fr b2 hs hf hg (fun j => by unfold zTmp zSk; omega) (fun i h1 h2 => by unfold mTmp; omega) (fun j hj => by unfold mTmp; omega)⟩
theorem m_tmp {μ μ' : sv_S} (h : mFr mEv μ μ') : mFr mTmp μ μ' := mFr_w h (fun i j q => ⟨q.1, q.2.1, by have := q.2.2; omega⟩)
section RL2
variable {θ θm : sv_T} {σ μ : sv_S} {tc : Nat} {Fs : Nat → Nat → (Nat → Int32) → Int32} {D : zD}
theorem zRel_ok (h : zRel θ θm σ μ tc Fs D) : mOk θm μ D (Fs (dT D)) := ⟨h.2.2.2.1.1, h.2.2.2.1.2.2.2, (h.2.2.1.2.2.2.2.2 _ h.2.2.2.1.2.1).2.2⟩
theorem zRel_t (h : zRel θ θm σ μ tc Fs D) : xText θ σ (dT D) (Fs (dT D)) := (h.2.2.1.2.2.2.2.2 _ h.2.2.2.1.2.1).2.1
def zCa (c : Nat) (i _j : Nat) : Prop := i = c ∨ i = c + 1
theorem x_regard {c b d : Nat} {F : Nat → (Nat → Int32) → Int32} (hB : sx_base θ) (hc : c = 22 ∨ c = 25) (hD : zDok D) (hM : xMk σ 1 D) (hT : xText θ σ (dT D) F) (hb : b < dM D) : ∃ σ', q_X0_regard θ c (nI b) (nI d) σ = some ((), σ') ∧ xFr (zCa c) σ σ' ∧ xCs θ σ' c (dT D) (dC D F b d) := by
  have l3 : sv_len θ 3 = 6 := sx_L (sx_c3 hB)
  have l4 : sv_len θ 4 = 6 := sx_L (sx_c4 hB)
  have l5 : sv_len θ 5 = 6 := sx_L (sx_c5 hB)
  have lc : sv_len θ (c + 1) = 6 := by
    rcases hc with rfl | rfl
    · exact sx_L (sx_c23 hB)
    · exact sx_L (sx_c26 hB)
  have hcc : 22 ≤ c ∧ c ≤ 25 := by omega
  have hM6 := hD.1
  obtain ⟨q1, q2, q3, q4⟩ := hD.2.2.1 b hb
  obtain ⟨a1, a2, a3, a4, a5⟩ := hM
  obtain ⟨k1, k2, k3, k4⟩ := a3 b hb
  have k1 : σ.1 3 b = nI (dK D b) := k1
  have k2 : σ.1 4 b = nI (dN D b) := k2
  have k3 : σ.1 5 b = nI (dS D b) := k3
  -- one state after another
  obtain ⟨σ1, e1⟩ : ∃ z, z = sv_sI σ c 1 (nI (dK D b)) := ⟨_, rfl⟩
  obtain ⟨σ2, e2⟩ : ∃ z, z = sv_sP σ1 c 2 (some (42 + 4 * dT D)) := ⟨_, rfl⟩
  obtain ⟨σ3, e3⟩ : ∃ z, z = sv_sI σ2 c 3 (nI (dS D b)) := ⟨_, rfl⟩
  obtain ⟨σ4, e4⟩ : ∃ z, z = sv_sI σ3 (c + 1) 2 (nI (dN D b)) := ⟨_, rfl⟩
  obtain ⟨σ5, e5⟩ : ∃ z, z = sv_sI σ4 (c + 1) 3 (nI d) := ⟨_, rfl⟩
  obtain ⟨σ6, e6⟩ : ∃ z, z = sv_sI σ5 (c + 1) 4 (nI (dS D b)) := ⟨_, rfl⟩
  obtain ⟨σ7, e7⟩ : ∃ z, z = sv_sI σ6 (c + 1) 5 (nI (dW D)) := ⟨_, rfl⟩
  have f1 : xFr (zCa c) σ σ1 := by rw [e1]; exact xFr_I (Or.inl rfl)
  have f2 : xFr (zCa c) σ σ2 := xFr_tr f1 (by rw [e2]; exact xFr_P (Or.inl rfl))
  have f3 : xFr (zCa c) σ σ3 := xFr_tr f2 (by rw [e3]; exact xFr_I (Or.inl rfl))
  have f4 : xFr (zCa c) σ σ4 := xFr_tr f3 (by rw [e4]; exact xFr_I (Or.inr rfl))
  have f5 : xFr (zCa c) σ σ5 := xFr_tr f4 (by rw [e5]; exact xFr_I (Or.inr rfl))
  have f6 : xFr (zCa c) σ σ6 := xFr_tr f5 (by rw [e6]; exact xFr_I (Or.inr rfl))
  have f7 : xFr (zCa c) σ σ7 := xFr_tr f6 (by rw [e7]; exact xFr_I (Or.inr rfl))
  have nS : ∀ i j, i ≤ 21 → ¬ zCa c i j := fun i j hi => by unfold zCa; omega
  have c3 : ∀ τ, xFr (zCa c) σ τ → τ.1 c 3 = nI (dS D b) → True := fun _ _ _ => trivial
  have g3 : σ3.1 c 3 = nI (dS D b) := by rw [e3]; exact zI_v
  have g5 : σ5.1 c 3 = nI (dS D b) := by rw [e5, zI_o (by omega), e4, zI_o (by omega)]; exact g3
  refine ⟨σ7, ?_, f7, ?_⟩
  · unfold q_X0_regard
    have r1 : σ1.2.2 1 7 = some (42 + 4 * dT D) := by rw [(f1.2 1 7 (nS _ _ (by omega))).2]; exact a5
    have r2 : σ2.1 5 b = nI (dS D b) := by rw [(f2.2 5 b (nS _ _ (by omega))).1]; exact k3
    have r3 : σ3.1 4 b = nI (dN D b) := by rw [(f3.2 4 b (nS _ _ (by omega))).1]; exact k2
    have r6 : σ6.1 1 5 = nI (dW D) := by rw [(f6.2 1 5 (nS _ _ (by omega))).1]; exact a4
    rw [z_at (by rw [l3]; omega), zb, l3, zat_nI (by omega) (by omega), k1, zl, ← e1, r1, zl, ← e2, z_at (by rw [l5]; omega), zb, l5, zat_nI (by omega) (by omega), r2, zl, ← e3, z_at (by rw [l4]; omega), zb, l4, zat_nI (by omega) (by omega), r3, z_put (by rw [lc]; omega), zb, lc, show (2 : Int32) = nI 2 from rfl, zput_nI (by omega) (by omega), ← e4, z_put (by rw [lc]; omega), zb, lc, show (3 : Int32) = nI 3 from rfl, zput_nI (by omega) (by omega), ← e5, g5, z_put (by rw [lc]; omega), zb, lc, show (4 : Int32) = nI 4 from rfl, zput_nI (by omega) (by omega), ← e6, r6, z_put (by rw [lc]; omega), zb, lc, show (5 : Int32) = nI 5 from rfl, zput_nI (by omega) (by omega), ← e7]
  · refine ⟨by omega, lc, ?_, xText_fr hT f7 (fun i j h1 h2 => by unfold zCa; omega), ?_, ?_, q3, ?_, ?_, ?_, ?_⟩
    · rw [e7, e6, e5, e4, e3, e2]; exact zP_v
    · rw [e7, zI_o (by omega), e6, zI_o (by omega), e5, zI_o (by omega), e4, zI_o (by omega), e3, zI_o (by omega), e2]; show σ1.1 c 1 = _; rw [e1]; exact zI_v
    · rw [e7, zI_o (by omega), e6, zI_o (by omega)]; exact g5
    · rw [e7, zI_o (by omega), e6, zI_o (by omega), e5, zI_o (by omega), e4]; exact zI_v
    · rw [e7, zI_o (by omega), e6, zI_o (by omega), e5]; exact zI_v
    · rw [e7, zI_o (by omega), e6]; exact zI_v
    · rw [e7]; exact zI_v
/-- how many are shaken on -/
def zSm (f : Nat → Nat) : Nat → Nat
  | 0 => 0
  | n + 1 => zSm f n + f n
theorem zSm_le {f : Nat → Nat} : ∀ n, (∀ b, b < n → f b ≤ 1) → zSm f n ≤ n
  | 0, _ => Nat.le_refl _
  | n + 1, h => by
    have := zSm_le n (fun b hb => h b (by omega))
    have := h n (by omega)
    simp only [zSm]
    omega
def dSh (D : zD) : Nat := zSm (dH D) (dM D)
theorem dSh_le (hD : zDok D) : dSh D ≤ dM D := zSm_le _ (fun b hb => (hD.2.2.1 b hb).2.2.2)
theorem x_shakenCount (hB : sx_base θ) (hD : zDok D) (hM : xMk σ 1 D) : q_X2_shakenCount θ σ = some (nI (dSh D), σ) := by
  have l6 : sv_len θ 6 = 6 := sx_L (sx_c6 hB)
  have hM6 := hD.1
  obtain ⟨a1, a2, a3, a4, a5⟩ := hM
  have run : ∀ (r b fuel : Nat), dM D - b = r → b ≤ dM D → q_X2_shakenCount_B4 θ (fuel + r + 1) (nI (zSm (dH D) b)) (nI b) σ = some (nI (dSh D), σ) := by
    intro r
    induction r with
    | zero =>
      intro b fuel h1 h2
      show q_X2_shakenCount_B4_b θ _ (nI (zSm (dH D) b)) (nI b) σ = _
      unfold q_X2_shakenCount_B4_b
      rw [a1, if_pos (nI_le (by omega) (by omega)), show b = dM D by omega]
      rfl
    | succ r ih =>
      intro b fuel h1 h2
      show q_X2_shakenCount_B4_b θ (q_X2_shakenCount_B4 θ (fuel + (r + 1))) (nI (zSm (dH D) b)) (nI b) σ = _
      unfold q_X2_shakenCount_B4_b
      have e : σ.1 6 b = nI (dH D b) := (a3 b (by omega)).2.2.2
      rw [a1, if_neg (nI_ge (by omega) (by omega)), z_at (by rw [l6]; omega), zb, l6, zat_nI (by omega) (by omega), e, zl, zl, nI_add, nI_1]
      exact ih (b + 1) fuel (by omega) (by omega)
  have := run (dM D) 0 (199 - dM D) (by omega) (by omega)
  rw [show 199 - dM D + dM D + 1 = sv_N by unfold sv_N; omega] at this
  exact this
theorem m_shakenMany (hO : zDok D) (hM : mMk μ D) : q_X8_shakenMany θm μ = some (nI (dSh D), μ) := by
  have hM6 := hO.1
  obtain ⟨a1, a2, a3, a4, a5⟩ := hM
  have run : ∀ (r b fuel : Nat), dM D - b = r → b ≤ dM D → q_X8_shakenMany_B4 θm (fuel + r + 1) (nI (zSm (dH D) b)) (nI b) μ = some (nI (dSh D), μ) := by
    intro r
    induction r with
    | zero =>
      intro b fuel h1 h2
      show q_X8_shakenMany_B4_b θm _ (nI (zSm (dH D) b)) (nI b) μ = _
      unfold q_X8_shakenMany_B4_b
      rw [a1, if_pos (nI_le (by omega) (by omega)), show b = dM D by omega]
      rfl
    | succ r ih =>
      intro b fuel h1 h2
      show q_X8_shakenMany_B4_b θm (q_X8_shakenMany_B4 θm (fuel + (r + 1))) (nI (zSm (dH D) b)) (nI b) μ = _
      unfold q_X8_shakenMany_B4_b
      rw [a1, if_neg (nI_ge (by omega) (by omega)), z_3b2, if_neg (z_bd (by omega) (by omega)), nI_clamp (by omega), (a3 b (by omega)).2.2.2, zl, zl, nI_add, nI_1]
      exact ih (b + 1) fuel (by omega) (by omega)
  have := run (dM D) 0 (199 - dM D) (by omega) (by omega)
  rw [show 199 - dM D + dM D + 1 = sv_N by unfold sv_N; omega] at this
  exact this
end RL2

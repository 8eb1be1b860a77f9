/-! ===== the reference's bargain by a rule ===== -/
/-- a market: how many, rain, kinds, numbers, streets, shaken, west, the rule's text -/
abbrev zD : Type := Nat × (Nat → Nat) × (Nat → Nat) × (Nat → Nat) × (Nat → Nat) × (Nat → Nat) × Nat × Nat
abbrev dM (D : zD) : Nat := D.1
abbrev dR (D : zD) : Nat → Nat := D.2.1
abbrev dK (D : zD) : Nat → Nat := D.2.2.1
abbrev dN (D : zD) : Nat → Nat := D.2.2.2.1
abbrev dS (D : zD) : Nat → Nat := D.2.2.2.2.1
abbrev dH (D : zD) : Nat → Nat := D.2.2.2.2.2.1
abbrev dW (D : zD) : Nat := D.2.2.2.2.2.2.1
abbrev dT (D : zD) : Nat := D.2.2.2.2.2.2.2
def zDok (D : zD) : Prop := dM D ≤ 6 ∧ (∀ k, k < 48 → dR D k ≤ 9) ∧ (∀ b, b < dM D → dK D b < 6 ∧ dN D b ≤ 9 ∧ dS D b ≤ 1 ∧ dH D b ≤ 1) ∧ dW D ≤ 9 ∧ dT D < 6
def mMk (μ : sv_S) (D : zD) : Prop := μ.1 0 11 = nI (dM D) ∧ (∀ k, k < 48 → μ.1 4 k = nI (dR D k)) ∧ (∀ b, b < dM D → μ.1 5 b = nI (dK D b) ∧ μ.1 6 (3 * b) = nI (dN D b) ∧ μ.1 6 (3 * b + 1) = nI (dS D b) ∧ μ.1 6 (3 * b + 2) = nI (dH D b)) ∧ μ.1 0 7 = nI (dW D) ∧ μ.1 0 4 = nI (dT D)
def dC (D : zD) (F : Nat → (Nat → Int32) → Int32) (b d : Nat) : zC := (nI (dK D b), dS D b, nI (dN D b), nI d, nI (dW D), F)
/-- text k of the reference tells F -/
def mText (θm : sv_T) (μ : sv_S) (k : Nat) (F : Nat → (Nat → Int32) → Int32) : Prop :=
  ∃ n B, mTx μ k n B ∧ ∀ (μ' : sv_S) (which : Nat), which < 3 → mTx μ' k n B → ∃ μ'', q_X8_read θm (nI k) (nI which) μ' = some (F which (zNm μ'), μ'') ∧ mFr mRd μ' μ'' ∧ μ''.1 0 25 = 0
def mEv (i j : Nat) : Prop := i = 0 ∧ 12 ≤ j ∧ j ≤ 26
theorem m_ev {μ μ' : sv_S} (h : mFr mRd μ μ') : mFr mEv μ μ' := mFr_w h (fun i j q => ⟨q.1, by have := q.2.1; omega, q.2.2⟩)
theorem mTx_fr {S : Nat → Nat → Prop} {μ μ' : sv_S} {t n : Nat} {B : Nat → Nat} (h : mTx μ t n B) (hf : mFr S μ μ') (hS : ∀ i j, 1 ≤ i → i ≤ 2 → ¬ S i j) : mTx μ' t n B :=
  ⟨h.1, by rw [hf.2 _ _ (hS _ _ (by omega) (by omega))]; exact h.2.1, h.2.2.1, fun p hp => ⟨(h.2.2.2 p hp).1, by rw [hf.2 _ _ (hS _ _ (by omega) (by omega))]; exact (h.2.2.2 p hp).2⟩⟩
theorem mText_fr {θm : sv_T} {S : Nat → Nat → Prop} {μ μ' : sv_S} {k : Nat} {F : Nat → (Nat → Int32) → Int32} (h : mText θm μ k F) (hf : mFr S μ μ') (hS : ∀ i j, 1 ≤ i → i ≤ 2 → ¬ S i j) : mText θm μ' k F := by
  obtain ⟨n, B, h1, h2⟩ := h
  exact ⟨n, B, mTx_fr h1 hf hS, h2⟩
theorem mMk_fr {S : Nat → Nat → Prop} {μ μ' : sv_S} {D : zD} (h : mMk μ D) (hf : mFr S μ μ') (h0 : ¬ S 0 11 ∧ ¬ S 0 7 ∧ ¬ S 0 4) (hS : ∀ i j, 4 ≤ i → i ≤ 6 → ¬ S i j) : mMk μ' D := by
  obtain ⟨a1, a2, a3, a4, a5⟩ := h
  refine ⟨by rw [hf.2 _ _ h0.1]; exact a1, fun k hk => by rw [hf.2 _ _ (hS _ _ (by omega) (by omega))]; exact a2 k hk, fun b hb => ?_, by rw [hf.2 _ _ h0.2.1]; exact a4, by rw [hf.2 _ _ h0.2.2]; exact a5⟩
  rw [hf.2 _ _ (hS _ _ (by omega) (by omega)), hf.2 _ _ (hS _ _ (by omega) (by omega)), hf.2 _ _ (hS _ _ (by omega) (by omega)), hf.2 _ _ (hS _ _ (by omega) (by omega))]
  exact a3 b hb
theorem mMk_ev {μ μ' : sv_S} {D : zD} (h : mMk μ D) (hf : mFr mEv μ μ') : mMk μ' D := mMk_fr h hf (by unfold mEv; omega) (fun i j h1 h2 => by unfold mEv; omega)
theorem mText_ev {θm : sv_T} {μ μ' : sv_S} {k : Nat} {F : Nat → (Nat → Int32) → Int32} (h : mText θm μ k F) (hf : mFr mEv μ μ') : mText θm μ' k F := mText_fr h hf (fun i j h1 h2 => by unfold mEv; omega)
section MC
variable {θm : sv_T} {D : zD} {F : Nat → (Nat → Int32) → Int32}
theorem z_bd {n L : Nat} (h : n < L) (hL : L < 2147483648) : ¬ (nI n < 0 ∨ L ≤ (nI n).toNatClampNeg) := by
  rw [nI_clamp (by omega)]
  intro q
  rcases q with q | q
  · exact nI_pos (by omega) q
  · omega
theorem z_3b (b : Nat) : (3 : Int32) * nI b = nI (3 * b) := by rw [show (3 : Int32) = nI 3 from rfl, pk_mul]
theorem z_3b1 (b : Nat) : (3 : Int32) * nI b + 1 = nI (3 * b + 1) := by rw [z_3b, nI_1]
theorem z_3b2 (b : Nat) : (3 : Int32) * nI b + 2 = nI (3 * b + 2) := by rw [z_3b, show (2 : Int32) = nI 2 from rfl, nI_add]
theorem z_24 (s h : Nat) : (24 : Int32) * nI s + nI h = nI (24 * s + h) := by rw [show (24 : Int32) = nI 24 from rfl, pk_mul, nI_add]
theorem m_rainOf {μ : sv_S} {b h : Nat} (hD : zDok D) (hM : mMk μ D) (hb : b < dM D) (hh : h < 24) : q_X8_rainOf θm (nI b) (nI h) μ = some (nI (dR D (24 * dS D b + h)), μ) := by
  have h6 := hD.1
  have hs := (hD.2.2.1 b hb).2.2.1
  obtain ⟨a1, a2, a3, a4, a5⟩ := hM
  unfold q_X8_rainOf
  rw [z_3b1, if_neg (z_bd (by omega) (by omega)), nI_clamp (by omega), (a3 b hb).2.2.1, z_24, if_neg (z_bd (by omega) (by omega)), nI_clamp (by omega), a2 _ (by omega)]
theorem m_within {v : Int32} {a b : Int32} {μ : sv_S} (h : a ≤ b) : q_X8_within θm v a b μ = some (zbd v a b, μ) := z_within h
theorem m_says {μ : sv_S} {b h d w : Nat} (hD : zDok D) (hM : mMk μ D) (hT : mText θm μ (dT D) F) (hb : b < dM D) (hh : h < 24) (hw : w < 3) :
    ∃ μ', q_X8_says θm (nI w) (nI b) (nI h) (nI d) μ = some (zbd (F w (cNm (dC D F b d) (dR D) h)) 0 (if w = 0 then 9 else if w = 1 then 24 else 99), μ') ∧ mFr mEv μ μ' := by
  have h6 := hD.1
  have e0 := m_rainOf (θm := θm) hD hM hb hh
  obtain ⟨a1, a2, a3, a4, a5⟩ := hM
  have o6 : ∀ (μ : sv_S) (j q : Nat) (v : Int32), (sv_sI μ 0 j v).1 6 q = μ.1 6 q := fun μ j q v => zI_o (by omega)
  have hf : mFr mEv μ (sv_sI (sv_sI (sv_sI (sv_sI (sv_sI (sv_sI μ 0 12 (nI (dR D (24 * dS D b + h)))) 0 13 (nI h)) 0 14 (nI (dN D b))) 0 15 (nI d)) 0 16 (nI (dS D b))) 0 17 (nI (dW D))) :=
    mFr_tr (mFr_tr (mFr_tr (mFr_tr (mFr_tr (mFr_I ⟨rfl, by omega, by omega⟩) (mFr_I ⟨rfl, by omega, by omega⟩)) (mFr_I ⟨rfl, by omega, by omega⟩)) (mFr_I ⟨rfl, by omega, by omega⟩)) (mFr_I ⟨rfl, by omega, by omega⟩)) (mFr_I ⟨rfl, by omega, by omega⟩)
  have hn : zNm (sv_sI (sv_sI (sv_sI (sv_sI (sv_sI (sv_sI μ 0 12 (nI (dR D (24 * dS D b + h)))) 0 13 (nI h)) 0 14 (nI (dN D b))) 0 15 (nI d)) 0 16 (nI (dS D b))) 0 17 (nI (dW D))) = cNm (dC D F b d) (dR D) h := by
    funext q
    unfold zNm cNm wNm dC
    by_cases hq : q < 6
    · rw [if_pos hq]
      have : q = 0 ∨ q = 1 ∨ q = 2 ∨ q = 3 ∨ q = 4 ∨ q = 5 := by omega
      rcases this with rfl | rfl | rfl | rfl | rfl | rfl
      · rw [zI_o (by omega), zI_o (by omega), zI_o (by omega), zI_o (by omega), zI_o (by omega)]; exact zI_v
      · rw [zI_o (by omega), zI_o (by omega), zI_o (by omega), zI_o (by omega)]; exact zI_v
      · rw [zI_o (by omega), zI_o (by omega), zI_o (by omega)]; exact zI_v
      · rw [zI_o (by omega), zI_o (by omega)]; exact zI_v
      · rw [zI_o (by omega)]; exact zI_v
      · exact zI_v
    · rw [if_neg hq, if_neg (by omega), if_neg (by omega), if_neg (by omega), if_neg (by omega), if_neg (by omega), if_neg (by omega)]
  have hr4 : (sv_sI (sv_sI (sv_sI (sv_sI (sv_sI (sv_sI μ 0 12 (nI (dR D (24 * dS D b + h)))) 0 13 (nI h)) 0 14 (nI (dN D b))) 0 15 (nI d)) 0 16 (nI (dS D b))) 0 17 (nI (dW D))).1 0 4 = nI (dT D) := by rw [hf.2 0 4 (by unfold mEv; omega)]; exact a5
  obtain ⟨n, B, t1, t2⟩ := hT
  obtain ⟨μ', r1, r2, r3⟩ := t2 _ w hw (mTx_fr t1 hf (fun i j h1 h2 => by unfold mEv; omega))
  refine ⟨μ', ?_, mFr_tr hf (m_ev r2)⟩
  have west : (sv_sI (sv_sI (sv_sI (sv_sI (sv_sI μ 0 12 (nI (dR D (24 * dS D b + h)))) 0 13 (nI h)) 0 14 (nI (dN D b))) 0 15 (nI d)) 0 16 (nI (dS D b))).1 0 7 = nI (dW D) := by
    rw [zI_o (by omega), zI_o (by omega), zI_o (by omega), zI_o (by omega), zI_o (by omega)]; exact a4
  unfold q_X8_says
  rw [e0, zb, zl, zl, z_3b, if_neg (z_bd (by omega) (by omega)), nI_clamp (by omega), o6, o6, (a3 b hb).2.1, zl, zl, nI_1, if_neg (z_bd (by omega) (by omega)), nI_clamp (by omega), o6, o6, o6, o6, (a3 b hb).2.2.1, zl, west, zl, hr4, r1, zb, hn]
  have hw3 : w = 0 ∨ w = 1 ∨ w = 2 := by omega
  rcases hw3 with rfl | rfl | rfl
  · rw [if_pos (show nI 0 = 0 from rfl), z_within (by decide), zb]; rfl
  · rw [if_neg (show ¬ nI 1 = 0 by decide), if_pos (show nI 1 = 1 from rfl), z_within (by decide), zb]; rfl
  · rw [if_neg (show ¬ nI 2 = 0 by decide), if_neg (show ¬ nI 2 = 1 by decide), z_within (by decide), zb]; rfl
end MC

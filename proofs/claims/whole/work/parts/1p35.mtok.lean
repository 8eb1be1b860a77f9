/-! ===== the reference's tokens ===== -/
def mFr (S : Nat → Nat → Prop) (μ μ' : sv_S) : Prop := μ'.2.2 = μ.2.2 ∧ ∀ i j, ¬ S i j → μ'.1 i j = μ.1 i j
theorem mFr_rf {S : Nat → Nat → Prop} {σ : sv_S} : mFr S σ σ := ⟨rfl, fun _ _ _ => rfl⟩
theorem mFr_tr {S : Nat → Nat → Prop} {σ σ1 σ2 : sv_S} (h1 : mFr S σ σ1) (h2 : mFr S σ1 σ2) : mFr S σ σ2 := ⟨h2.1.trans h1.1, fun i j h => (h2.2 i j h).trans (h1.2 i j h)⟩
theorem mFr_w {S S' : Nat → Nat → Prop} {σ σ1 : sv_S} (h1 : mFr S σ σ1) (h : ∀ i j, S i j → S' i j) : mFr S' σ σ1 := ⟨h1.1, fun i j g => h1.2 i j (fun q => g (h i j q))⟩
theorem mFr_I {S : Nat → Nat → Prop} {σ : sv_S} {i j : Nat} {v : Int32} (h : S i j) : mFr S σ (sv_sI σ i j v) := ⟨rfl, (zFr_I (v := v) h).2⟩
theorem mFr_J {S : Nat → Nat → Prop} {σ : sv_S} {i j : Nat} {v : Int64} : mFr S σ (sv_sJ σ i j v) := ⟨rfl, fun _ _ _ => rfl⟩
/-- the text that is read -/
def mB (μ : sv_S) (t n : Nat) (B : Nat → Nat) : Prop := t < 6 ∧ μ.1 0 18 = nI (160 * t) ∧ μ.1 0 19 = nI n ∧ n ≤ 160 ∧ ∀ p, p < n → B p ≤ 255 ∧ μ.1 1 (160 * t + p) = nI (B p)
/-- the token at hand begins at s -/
def mTk (μ : sv_S) (n : Nat) (B : Nat → Nat) (s : Nat) : Prop := μ.1 0 22 = nI s ∧ s ≤ n ∧
  ((s = n ∧ μ.1 0 21 = 0) ∨
   (s < n ∧ zLe (B s) = true ∧ μ.1 0 21 = 1 ∧ μ.1 0 20 = nI (zTe B n s)) ∨
   (s < n ∧ zDi (B s) = true ∧ μ.1 0 21 = (if 4 < zTe B n s - s then 4 else 2) ∧ μ.1 0 20 = nI (zTe B n s) ∧ μ.2.1 0 23 = lN (zNv B s (zTe B n s - s))) ∨
   (s < n ∧ zLe (B s) = false ∧ zDi (B s) = false ∧ zSi (B s) = true ∧ μ.1 0 21 = 3 ∧ μ.1 0 20 = nI (zTe B n s) ∧ μ.2.1 0 23 = lN (B s)) ∨
   (s < n ∧ zLe (B s) = false ∧ zDi (B s) = false ∧ zSi (B s) = false ∧ μ.1 0 21 = 4))
def mTn (i j : Nat) : Prop := i = 0 ∧ 20 ≤ j ∧ j ≤ 22
theorem mB_fr {S : Nat → Nat → Prop} {μ μ' : sv_S} {t n : Nat} {B : Nat → Nat} (h : mB μ t n B) (hf : mFr S μ μ') (h1 : ¬ S 0 18) (h2 : ¬ S 0 19) (h3 : ∀ j, ¬ S 1 j) : mB μ' t n B :=
  ⟨h.1, by rw [hf.2 0 18 h1]; exact h.2.1, by rw [hf.2 0 19 h2]; exact h.2.2.1, h.2.2.2.1, fun p hp => ⟨(h.2.2.2.2 p hp).1, by rw [hf.2 1 _ (h3 _)]; exact (h.2.2.2.2 p hp).2⟩⟩
theorem mB_n {μ μ' : sv_S} {t n : Nat} {B : Nat → Nat} (h : mB μ t n B) (hf : mFr mTn μ μ') : mB μ' t n B := mB_fr h hf (by unfold mTn; omega) (by unfold mTn; omega) (fun j => by unfold mTn; omega)
theorem m_byteAt {θ : sv_T} {μ : sv_S} {t n p : Nat} {B : Nat → Nat} (h : mB μ t n B) (hp : p < 2147483648) : q_X8_byteAt θ (nI p) μ = some (zby B n p, μ) := by
  obtain ⟨h0, h1, h2, h3, h4⟩ := h
  unfold q_X8_byteAt zby
  rw [h2, h1]
  by_cases hn : p < n
  · rw [if_neg (nI_ge hn (by omega)), nI_add, nI_clamp (by omega), if_neg (by intro q; rcases q with q | q; exact nI_pos (by omega) q; omega), if_pos hn, (h4 p hn).2]
  · rw [if_pos (nI_le (by omega) hp), if_neg hn]
theorem z_r01 {c : Prop} [Decidable c] {α : Type} {a b : α} : (if (if c then (1 : Int32) else 0) = 0 then a else b) = if c then b else a := by
  by_cases h : c
  · rw [if_pos h, if_pos h, if_neg (by decide)]
  · rw [if_neg h, if_neg h, if_pos rfl]
theorem l97 : (97 : Int64).toInt = 97 := rfl
theorem l122 : (122 : Int64).toInt = 122 := rfl
theorem l48 : (48 : Int64).toInt = 48 := rfl
theorem l57 : (57 : Int64).toInt = 57 := rfl
theorem m_inL {θ : sv_T} {μ : sv_S} {n p : Nat} {B : Nat → Nat} (h : ∀ p, p < n → B p ≤ 255) : q_X8_in θ ((zby B n p).toInt64) (97 : Int64) (122 : Int64) μ = some (if p < n ∧ zLe (B p) = true then 1 else 0, μ) := by
  rw [z_inI, l97, l122]
  by_cases hc : p < n ∧ zLe (B p) = true
  · rw [if_pos ((zby_L h).mpr hc), if_pos hc]
  · rw [if_neg (fun q => hc ((zby_L h).mp q)), if_neg hc]
theorem m_inD {θ : sv_T} {μ : sv_S} {n p : Nat} {B : Nat → Nat} (h : ∀ p, p < n → B p ≤ 255) : q_X8_in θ ((zby B n p).toInt64) (48 : Int64) (57 : Int64) μ = some (if p < n ∧ zDi (B p) = true then 1 else 0, μ) := by
  rw [z_inI, l48, l57]
  by_cases hc : p < n ∧ zDi (B p) = true
  · rw [if_pos ((zby_D h).mpr hc), if_pos hc]
  · rw [if_neg (fun q => hc ((zby_D h).mp q)), if_neg hc]
/-- only here moves -/
def mHr (i j : Nat) : Prop := i = 0 ∧ j = 20
theorem mB_h {μ μ' : sv_S} {t n : Nat} {B : Nat → Nat} (h : mB μ t n B) (hf : mFr mHr μ μ') : mB μ' t n B := mB_fr h hf (by unfold mHr; omega) (by unfold mHr; omega) (fun j => by unfold mHr; omega)
theorem m_lets {θ : sv_T} {t n : Nat} {B : Nat → Nat} : ∀ (k p fuel : Nat) (μ : sv_S), mB μ t n B → μ.1 0 20 = nI p → p ≤ n → zE zLe B n p - p = k →
    ∃ μ', q_X8_next_B100 θ (fuel + k + 1) μ = some ((), μ') ∧ mFr mHr μ μ' ∧ μ'.1 0 20 = nI (zE zLe B n p) := by
  intro k
  induction k with
  | zero =>
    intro p fuel μ h hh hpn hk
    have hn := h.2.2.2.1
    have hbb : ∀ p, p < n → B p ≤ 255 := fun p hp => (h.2.2.2.2 p hp).1
    have hsp := zE_spec zLe B n p
    have he : zE zLe B n p = p := by omega
    rw [he] at hsp ⊢
    refine ⟨μ, ?_, mFr_rf, hh⟩
    show q_X8_next_B100_b θ _ μ = _
    unfold q_X8_next_B100_b
    rw [hh, m_byteAt h (by omega), zb, m_inL hbb, zb, z_r01, if_neg hsp.2.2.2]
  | succ k ih =>
    intro p fuel μ h hh hpn hk
    have hn := h.2.2.2.1
    have hbb : ∀ p, p < n → B p ≤ 255 := fun p hp => (h.2.2.2.2 p hp).1
    have hsp := zE_spec zLe B n p
    have hp := hsp.2.2.1 p (Nat.le_refl _) (by omega)
    have he := zE_yes (P := zLe) hp.1 hp.2
    have hf : mFr mHr μ (sv_sI μ 0 20 (nI (p + 1))) := mFr_I ⟨rfl, rfl⟩
    obtain ⟨μ', g1, g2, g3⟩ := ih (p + 1) fuel (sv_sI μ 0 20 (nI (p + 1))) (mB_h h hf) zI_v (by omega) (by omega)
    refine ⟨μ', ?_, mFr_tr hf g2, by rw [he]; exact g3⟩
    show q_X8_next_B100_b θ (q_X8_next_B100 θ (fuel + (k + 1))) μ = _
    unfold q_X8_next_B100_b
    rw [hh, m_byteAt h (by omega), zb, m_inL hbb, zb, z_r01, if_pos hp, zl, hh, nI_1]
    exact g1
theorem m_digs {θ : sv_T} {t n s : Nat} {B : Nat → Nat} : ∀ (k p fuel : Nat) (μ : sv_S), mB μ t n B → μ.1 0 20 = nI p → μ.2.1 0 23 = lN (zNv B s (p - s)) → s ≤ p → p ≤ n → zE zDi B n p - p = k → (∀ q, s ≤ q → q < p → zDi (B q) = true) →
    ∃ μ', q_X8_next_B160 θ (fuel + k + 1) (nI (p - s)) μ = some ((), μ') ∧ mFr mTn μ μ' ∧ μ'.1 0 20 = nI (zE zDi B n p) ∧ μ'.1 0 21 = (if 4 < zE zDi B n p - s then 4 else 2) ∧ μ'.1 0 22 = μ.1 0 22 ∧ μ'.2.1 0 23 = lN (zNv B s (zE zDi B n p - s)) := by
  intro k
  induction k with
  | zero =>
    intro p fuel μ h hh hJ hsp0 hpn hk hd
    have hn := h.2.2.2.1
    have hbb : ∀ p, p < n → B p ≤ 255 := fun p hp => (h.2.2.2.2 p hp).1
    have hsp := zE_spec zDi B n p
    have he : zE zDi B n p = p := by omega
    rw [he] at hsp ⊢
    show ∃ μ', q_X8_next_B160_b θ _ (nI (p - s)) μ = _ ∧ _
    unfold q_X8_next_B160_b
    rw [hh, m_byteAt h (by omega), zb, m_inD hbb, zb, z_r01, if_neg hsp.2.2.2]
    by_cases h4 : 4 < p - s
    · rw [if_neg (show ¬ nI (p - s) ≤ (4 : Int32) from nI_ge (a := 4) h4 (by omega)), zl, if_pos h4]
      exact ⟨_, rfl, mFr_I ⟨rfl, by omega, by omega⟩, by rw [zI_o (by omega)]; exact hh, zI_v, zI_o (by omega), hJ⟩
    · rw [if_pos (show nI (p - s) ≤ (4 : Int32) from nI_le (b := 4) (by omega) (by omega)), zl, if_neg h4]
      exact ⟨_, rfl, mFr_I ⟨rfl, by omega, by omega⟩, by rw [zI_o (by omega)]; exact hh, zI_v, zI_o (by omega), hJ⟩
  | succ k ih =>
    intro p fuel μ h hh hJ hsp0 hpn hk hd
    have hn := h.2.2.2.1
    have hbb : ∀ p, p < n → B p ≤ 255 := fun p hp => (h.2.2.2.2 p hp).1
    have hsp := zE_spec zDi B n p
    have hp := hsp.2.2.1 p (Nat.le_refl _) (by omega)
    have he := zE_yes (P := zDi) hp.1 hp.2
    have hd2 : ∀ q, s ≤ q → q < p + 1 → zDi (B q) = true := fun q g1 g2 => by
      by_cases hq : q = p
      · subst hq; exact hp.2
      · exact hd q g1 (by omega)
    have hbp : 48 ≤ B p ∧ B p ≤ 57 := by
      have := hp.2
      simp only [zDi, decide_eq_true_eq] at this
      exact this
    have hps : p + 1 - s = (p - s) + 1 := by omega
    have fin : ∀ (w : Int64), w = lN (zNv B s (p + 1 - s)) → ∃ μ', q_X8_next_B160 θ (fuel + (k + 1)) (nI (p + 1 - s)) (sv_sI (sv_sJ μ 0 23 w) 0 20 (nI (p + 1))) = some ((), μ') ∧ mFr mTn μ μ' ∧ μ'.1 0 20 = nI (zE zDi B n p) ∧ μ'.1 0 21 = (if 4 < zE zDi B n p - s then 4 else 2) ∧ μ'.1 0 22 = μ.1 0 22 ∧ μ'.2.1 0 23 = lN (zNv B s (zE zDi B n p - s)) := by
      intro w hw
      have hf : mFr mHr μ (sv_sI (sv_sJ μ 0 23 w) 0 20 (nI (p + 1))) := mFr_tr mFr_J (mFr_I ⟨rfl, rfl⟩)
      obtain ⟨μ', g1, g2, g3, g4, g5, g6⟩ := ih (p + 1) fuel _ (mB_h h hf) zI_v (by show sv_u μ.2.1 0 23 w 0 23 = _; rw [show sv_u μ.2.1 0 23 w 0 23 = w by simp [sv_u]]; exact hw) (by omega) (by omega) (by omega) hd2
      rw [← he] at g3 g4 g6
      exact ⟨μ', g1, mFr_tr (mFr_w hf (fun i j q => ⟨q.1, by have := q.2; omega, by have := q.2; omega⟩)) g2, g3, g4, by rw [g5, zI_o (by omega)]; rfl, g6⟩
    show ∃ μ', q_X8_next_B160_b θ (q_X8_next_B160 θ (fuel + (k + 1))) (nI (p - s)) μ = _ ∧ _
    unfold q_X8_next_B160_b
    rw [hh, m_byteAt h (by omega), zb, m_inD hbb, zb, z_r01, if_pos hp]
    by_cases h4 : 4 ≤ p - s
    · rw [if_pos (show (4 : Int32) ≤ nI (p - s) from nI_le (a := 4) h4 (by omega)), zl, zl, zl, nI_1, ← hps]
      have e : (sv_sJ μ 0 23 (μ.2.1 0 23)).1 0 20 = nI p := hh
      rw [e, nI_1]
      exact fin _ (by rw [hJ, hps]; simp only [zNv]; rw [if_neg (by omega)])
    · rw [if_neg (show ¬ (4 : Int32) ≤ nI (p - s) from nI_ge (b := 4) (by omega) (by omega)), hh, m_byteAt h (by omega), zb, zl, zl, zl, nI_1, ← hps]
      have e : ∀ w, (sv_sJ μ 0 23 w).1 0 20 = nI p := fun w => hh
      rw [e, nI_1]
      refine fin _ ?_
      unfold zby
      rw [if_pos hp.1, hJ, hps]
      simp only [zNv]
      rw [if_pos (by omega), show s + (p - s) = p by omega, nI_l (by omega), show (10 : Int64) = lN 10 from rfl, show (48 : Int64) = lN 48 from rfl, lN_mul, lN_add, lN_sub (by omega)]
      congr 1
      omega

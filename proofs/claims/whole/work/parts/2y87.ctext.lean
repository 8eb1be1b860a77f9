/-! ===== call: text ===== -/
def zShB (i : Nat) (s : sv_Sh) : Bool := match s with
  | .inl (_, ks) => ks.all (fun κ => decide (κ.1 < 3) || decide (i + κ.2 < 42))
  | .inr _ => true
section CTX
variable {θ θm : sv_T} {σ μ : sv_S} {tc : Nat} {Fs : Nat → Nat → (Nat → Int32) → Int32} {D : zD}
theorem zRel_shp (h : zRel θ θm σ μ tc Fs D) : sv_shp θ := by
  have hB := h.1
  obtain ⟨t1, t2, t3, t4, t5, t6⟩ := h.2.2.1
  have hall : ∀ i : Nat, i < 42 → zShB i (sx_sh i) = true := by decide
  intro i hi c ks q k κ hk h3
  by_cases h42 : i < 42
  · rw [hB.2 i h42] at q
    have e := hall i h42
    rw [q] at e
    have e2 := List.all_eq_true.mp e κ (List.mem_of_getElem? hk)
    have e3 : κ.1 < 3 ∨ i + κ.2 < 42 := by
      rcases Bool.or_eq_true _ _ ▸ e2 with z | z
      · exact Or.inl (of_decide_eq_true z)
      · exact Or.inr (of_decide_eq_true z)
    omega
  · obtain ⟨kk, d, hd, e⟩ : ∃ kk d, d < 4 ∧ i = 42 + 4 * kk + d := ⟨(i - 42) / 4, (i - 42) % 4, by omega, by omega⟩
    have hkk : kk < tc := by omega
    obtain ⟨⟨x1, x2, x3, x4, x5⟩, -⟩ := (t6 kk hkk).2.1
    have hd4 : d = 0 ∨ d = 1 ∨ d = 2 ∨ d = 3 := by omega
    rcases hd4 with rfl | rfl | rfl | rfl
    · rw [show i = 42 + 4 * kk by omega, x2] at q
      cases q
      have : κ.2 ≤ 3 := by
        have := List.mem_of_getElem? hk
        simp at this
        rcases this with rfl | rfl | rfl | rfl <;> simp
      omega
    · rw [show i = 42 + 4 * kk + 1 by omega, x3.2] at q; cases q
    · rw [show i = 42 + 4 * kk + 2 by omega, x4.2] at q; cases q
    · rw [show i = 42 + 4 * kk + 3 by omega, x5.2] at q; cases q
/-- the reference's text up to its read -/
def mTl (θm : sv_T) (μ : sv_S) : Option (Int32 × sv_S) := sp_b (q_X8_read θm (μ.1 0 3) (0 : Int32) μ) (fun _ σ7 =>
 if (σ7.1 0 25) = 0 then
 (sp_l (sv_sI σ7 0 3 ((σ7.1 0 3) + (1 : Int32))) (fun σ9 =>
 some (((σ9.1 0 3) - (1 : Int32)), σ9)))
 else
 some (((-100 : Int32) - (σ7.1 0 26)), σ7))
def mTxF (tc i j : Nat) : Prop := (i = 0 ∧ j = 6) ∨ (i = 1 ∧ 160 * tc ≤ j ∧ j < 160 * tc + 160) ∨ (i = 2 ∧ j = tc)
theorem m_text {n : Nat} {B : Nat → Nat} (htc : tc < 6) (h3 : μ.1 0 3 = nI tc) (hn : n ≤ 160) (h6 : μ.1 0 6 = nI n) (hB : ∀ p, p < n → B p ≤ 255 ∧ μ.1 3 p = nI (B p)) : ∃ μ1, q_X8_text θm μ = mTl θm μ1 ∧ mFr (mTxF tc) μ μ1 ∧ mTx μ1 tc n B ∧ μ1.1 0 6 = nI 0 := by
  have e160 : (160 : Int32) * nI tc = nI (160 * tc) := by rw [show (160 : Int32) = nI 160 from rfl, pk_mul]
  have run : ∀ (r p fuel : Nat) (μ2 : sv_S), n - p = r → p ≤ n → mFr (mTxF tc) μ μ2 → μ2.1 0 6 = nI n → (∀ q, q < p → μ2.1 1 (160 * tc + q) = nI (B q)) → ∃ μ1, q_X8_text_B14 θm (fuel + r + 1) (nI p) μ2 = mTl θm μ1 ∧ mFr (mTxF tc) μ μ1 ∧ mTx μ1 tc n B ∧ μ1.1 0 6 = nI 0 := by
    intro r
    induction r with
    | zero =>
      intro p fuel μ2 h1 h2 hf g6 hc
      have hp : p = n := by omega
      subst hp
      have g3 : μ2.1 0 3 = nI tc := by rw [hf.2 0 3 (by unfold mTxF; omega)]; exact h3
      have hf2 : mFr (mTxF tc) μ (sv_sI (sv_sI μ2 2 tc (nI p)) 0 6 (0 : Int32)) := mFr_tr hf (mFr_tr (mFr_I (Or.inr (Or.inr ⟨rfl, rfl⟩))) (mFr_I (Or.inl ⟨rfl, rfl⟩)))
      refine ⟨sv_sI (sv_sI μ2 2 tc (nI p)) 0 6 (0 : Int32), ?_, hf2, ⟨htc, ?_, hn, fun q hq => ⟨(hB q hq).1, ?_⟩⟩, zI_v⟩
      · show q_X8_text_B14_b θm _ (nI p) μ2 = _
        unfold q_X8_text_B14_b
        rw [g6, if_pos (nI_le (by omega) (by omega)), g3, if_neg (z_bd htc (by omega)), nI_clamp (by omega), zl, zl]
        rfl
      · rw [zI_o (by omega)]; exact zI_v
      · rw [zI_o (by omega), zI_o (by omega)]; exact hc q hq
    | succ r ih =>
      intro p fuel μ2 h1 h2 hf g6 hc
      have g3 : μ2.1 0 3 = nI tc := by rw [hf.2 0 3 (by unfold mTxF; omega)]; exact h3
      have gB : μ2.1 3 p = nI (B p) := by rw [hf.2 3 p (by unfold mTxF; omega)]; exact (hB p (by omega)).2
      have hf2 : mFr (mTxF tc) μ (sv_sI μ2 1 (160 * tc + p) (nI (B p))) := mFr_tr hf (mFr_I (Or.inr (Or.inl ⟨rfl, by omega, by omega⟩)))
      obtain ⟨μ1, q1, q2⟩ := ih (p + 1) fuel (sv_sI μ2 1 (160 * tc + p) (nI (B p))) (by omega) (by omega) hf2 (by rw [zI_o (by omega)]; exact g6) (fun q hq => by
        by_cases hqp : q = p
        · subst hqp; exact zI_v
        · rw [zI_o (by omega)]; exact hc q (by omega))
      refine ⟨μ1, ?_, q2⟩
      show q_X8_text_B14_b θm (q_X8_text_B14 θm (fuel + (r + 1))) (nI p) μ2 = _
      unfold q_X8_text_B14_b
      rw [g6, if_neg (nI_ge (by omega) (by omega)), if_neg (z_bd (L := 160) (by omega) (by omega)), nI_clamp (by omega), g3, e160, nI_add, if_neg (z_bd (L := 960) (by omega) (by omega)), nI_clamp (by omega), gB, zl, zl, nI_1]
      exact q1
  obtain ⟨μ1, q1, q2⟩ := run n 0 (199 - n) μ (by omega) (by omega) mFr_rf h6 (fun q hq => absurd hq (by omega))
  refine ⟨μ1, ?_, q2⟩
  unfold q_X8_text
  rw [h3, if_neg (show ¬ nI tc = (6 : Int32) from fun q => by rw [show (6 : Int32) = nI 6 from rfl, nI_eq (by omega) (by omega)] at q; omega)]
  rw [show 199 - n + n + 1 = sv_N by unfold sv_N; omega] at q1
  exact q1
end CTX

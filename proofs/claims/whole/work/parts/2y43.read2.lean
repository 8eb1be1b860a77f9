/-! ===== a whole text, both sides ===== -/
section RD2
variable {θ θm : sv_T} {n m : Nat} {B : Nat → Nat}
/-- text t of the reference holds these n bytes -/
def mTx (μ : sv_S) (t n : Nat) (B : Nat → Nat) : Prop := t < 6 ∧ μ.1 2 t = nI n ∧ n ≤ 160 ∧ ∀ p, p < n → B p ≤ 255 ∧ μ.1 1 (160 * t + p) = nI (B p)
def mRd (i j : Nat) : Prop := i = 0 ∧ 18 ≤ j ∧ j ≤ 26
theorem m_rd {μ μ' : sv_S} (h : mFr mNx μ μ') : mFr mRd μ μ' := mFr_w h (fun i j q => ⟨q.1, by have := q.2.1; omega, q.2.2⟩)
theorem zNm_rd {μ μ' : sv_S} (h : mFr mRd μ μ') : zNm μ' = zNm μ := by
  funext k
  unfold zNm
  by_cases hk : k < 6
  · rw [if_pos hk, if_pos hk]
    exact h.2 0 (12 + k) (by unfold mRd; omega)
  · rw [if_neg hk, if_neg hk]
theorem m_kind0 {t j o : Nat} {μ : sv_S} (h : mG μ t n B j o) : μ.1 0 21 = 0 ↔ zK B n (zS B n j) = 0 := by
  have hb := fun a => (h.1.2.2.2.2 (zS B n j) a).1
  obtain ⟨h1, h2, h3, h4, h5, h6⟩ := h
  have hz : zS B n j < n → ¬ zK B n (zS B n j) = 0 := by
    intro a q
    unfold zK at q
    rw [if_neg (show ¬ n ≤ zS B n j by omega)] at q
    by_cases hl : zLe (B (zS B n j)) = true
    · rw [if_pos hl] at q
      have hw12 : zWd B (zS B n j) (zTe B n (zS B n j) - zS B n j) ≤ 12 := (zWdf_spec (B := B) (s := zS B n j) (len := zTe B n (zS B n j) - zS B n j) 12 0).2.1
      split at q
      · exact absurd q (by decide)
      · split at q
        · exact absurd q (by decide)
        · rw [show (0 : Int32) = nI 0 from rfl, nI_eq (by omega) (by omega)] at q; omega
    · rw [if_neg hl] at q
      split at q
      · split at q <;> exact absurd q (by decide)
      · split at q
        · rename_i hg
          have := zSi_r hg
          have := hb a
          rw [show (0 : Int32) = nI 0 from rfl, nI_eq (by omega) (by omega)] at q
          omega
        · exact absurd q (by decide)
  rcases h6 with ⟨q, e⟩ | ⟨a, b, e, -⟩ | ⟨a, b, e, -, -⟩ | ⟨a, b1, b2, b3, e, -, eJ⟩ | ⟨a, b1, b2, b3, e⟩
  · rw [e]
    refine ⟨fun _ => ?_, fun _ => rfl⟩
    unfold zK
    rw [if_pos (show n ≤ zS B n j by omega)]
  · rw [e]; exact ⟨fun q2 => absurd q2 (by decide), fun q2 => absurd q2 (hz a)⟩
  · rw [e]
    refine ⟨fun q2 => ?_, fun q2 => absurd q2 (hz a)⟩
    split at q2 <;> exact absurd q2 (by decide)
  · rw [e]; exact ⟨fun q2 => absurd q2 (by decide), fun q2 => absurd q2 (hz a)⟩
  · rw [e]; exact ⟨fun q2 => absurd q2 (by decide), fun q2 => absurd q2 (hz a)⟩
theorem sp_assoc {α β γ δ ε : Type} {a : Option (α × β)} {f : α → β → Option (γ × δ)} {g : γ → δ → Option ε} : sp_b (sp_b a f) g = sp_b a (fun x s => sp_b (f x s) g) := by
  cases a <;> rfl
/-- the reference's read, part by part -/
def mChain (θm : sv_T) (a1 which : Int32) (μ : sv_S) : Option (Int32 × sv_S) :=
  sp_b (mPart θm 6 μ) (fun r11 σ12 => if (σ12.1 0 25) = 0 then (sp_b (mPart θm 7 σ12) (fun r16 σ17 => q_X8_read_B92 θm a1 which which r11 r16 σ17)) else q_X8_read_B92 θm a1 which which r11 0 σ12)
theorem m_B92 {a1 w x3 x4 : Int32} {μ : sv_S} (h : μ.1 0 25 = 0) : q_X8_read_B92 θm a1 w w x3 x4 μ = sp_b (mPart θm 8 μ) (fun r21 σ22 => q_X8_read_B126 θm a1 w w x3 x4 r21 σ22) := by
  unfold q_X8_read_B92 mPart
  rw [if_pos h, sp_assoc]
  rfl
theorem m_B92D {a1 w x3 x4 : Int32} {μ : sv_S} (h : μ.1 0 25 = 1) : q_X8_read_B92 θm a1 w w x3 x4 μ = q_X8_read_B126 θm a1 w w x3 x4 0 μ := by
  unfold q_X8_read_B92
  rw [h, if_neg (show ¬ (1 : Int32) = 0 by decide)]
theorem m_read0 {t : Nat} {which : Int32} {μ : sv_S} (h : mTx μ t n B) : ∃ μ', mFr mRd μ μ' ∧ mG μ' t n B 0 0 ∧ q_X8_read θm (nI t) which μ = mChain θm (nI t) which μ' := by
  obtain ⟨h1, h2, h3, h4⟩ := h
  have e160 : (160 : Int32) * nI t = nI (160 * t) := by rw [show (160 : Int32) = nI 160 from rfl, pk_mul]
  have hf : mFr mRd μ (sv_sI (sv_sI (sv_sI (sv_sI (sv_sI μ 0 18 (nI (160 * t))) 0 19 (nI n)) 0 20 0) 0 24 0) 0 25 0) :=
    mFr_tr (mFr_tr (mFr_tr (mFr_tr (mFr_I ⟨rfl, by omega, by omega⟩) (mFr_I ⟨rfl, by omega, by omega⟩)) (mFr_I ⟨rfl, by omega, by omega⟩)) (mFr_I ⟨rfl, by omega, by omega⟩)) (mFr_I ⟨rfl, by omega, by omega⟩)
  have hB : mB (sv_sI (sv_sI (sv_sI (sv_sI (sv_sI μ 0 18 (nI (160 * t))) 0 19 (nI n)) 0 20 0) 0 24 0) 0 25 0) t n B := by
    refine ⟨h1, ?_, ?_, h3, fun p hp => ⟨(h4 p hp).1, ?_⟩⟩
    · rw [zI_o (by omega), zI_o (by omega), zI_o (by omega), zI_o (by omega)]; exact zI_v
    · rw [zI_o (by omega), zI_o (by omega), zI_o (by omega)]; exact zI_v
    · rw [hf.2 1 _ (by unfold mRd; omega)]; exact (h4 p hp).2
  have hh : (sv_sI (sv_sI (sv_sI (sv_sI (sv_sI μ 0 18 (nI (160 * t))) 0 19 (nI n)) 0 20 0) 0 24 0) 0 25 0).1 0 20 = nI 0 := by
    rw [zI_o (by omega), zI_o (by omega)]; exact zI_v
  obtain ⟨μ', g1, g2, g3⟩ := m_next0 (θ := θm) hB hh (by omega)
  have hG : mG μ' t n B 0 0 := by
    refine ⟨mB_n hB g2, ?_, ?_, g3⟩
    · rw [g2.2 0 25 (by unfold mTn; omega)]; exact zI_v
    · rw [g2.2 0 24 (by unfold mTn; omega), zI_o (by omega)]; exact zI_v
  refine ⟨μ', mFr_tr hf (m_rd (m_nx g2)), hG, ?_⟩
  unfold q_X8_read
  have hs : ¬ (nI t < 0 ∨ 6 ≤ (nI t).toNatClampNeg) := by
    rw [nI_clamp (by omega)]
    intro q
    rcases q with q | q
    · exact nI_pos (by omega) q
    · omega
  have e2 : (sv_sI μ 0 18 (nI (160 * t))).1 2 t = nI n := by rw [zI_o (by omega)]; exact h2
  rw [e160, zl, if_neg hs, nI_clamp (by omega), e2, zl, zl, zl, zl, g1, zb]
  unfold mChain mPart
  simp only [sp_assoc]
  rfl
theorem m_B126D {a1 w x3 x4 x5 : Int32} {μ : sv_S} (h : μ.1 0 25 = 1) : ∃ v, q_X8_read_B126 θm a1 w w x3 x4 x5 μ = some (v, μ) := by
  unfold q_X8_read_B126
  rw [h, if_neg (show ¬ (1 : Int32) = 0 by decide)]
  by_cases h0 : w = 0
  · exact ⟨_, by rw [if_pos h0]⟩
  · rw [if_neg h0]
    by_cases h1 : w = 1
    · exact ⟨_, by rw [if_pos h1]⟩
    · exact ⟨_, by rw [if_neg h1]⟩
/-- what a read says of a text: told by three pieces of code, as the reference reads it -/
def zGood (σ : sv_S) (θm : sv_T) (t n : Nat) (B : Nat → Nat) (f : Nat → (Nat → Int32) → Int32) : Prop :=
  (∃ L, σ.1 13 10 = nI L ∧ L ≤ 157 ∧ ∀ p, p < 3 → ∃ st e, σ.1 19 p = nI st ∧ e < L ∧ σ.1 18 e = -59 ∧ ∀ nm, zSg (σ.1 18) nm st e (f p nm)) ∧
  ∀ (μ : sv_S) (which : Nat), which < 3 → mTx μ t n B → ∃ μ', q_X8_read θm (nI t) (nI which) μ = some (f which (zNm μ), μ') ∧ mFr mRd μ μ' ∧ μ'.1 0 25 = 0
def zBad (σ : sv_S) (θm : sv_T) (t n : Nat) (B : Nat → Nat) : Prop :=
  ∃ F, F ≤ 160 ∧ σ.1 13 1 = nI F ∧ ∀ (μ : sv_S) (which : Int32), mTx μ t n B → ∃ v μ', q_X8_read θm (nI t) which μ = some (v, μ') ∧ mFr mRd μ μ' ∧ μ'.1 0 25 = 1 ∧ μ'.1 0 26 = nI F
def zRdF (i j : Nat) : Prop := (i = 13 ∧ (j = 0 ∨ j = 1 ∨ j = 6 ∨ j = 7 ∨ j = 10)) ∨ (15 ≤ i ∧ i ≤ 19)
theorem z_rdf {σ σ' : sv_S} (h : zFr zG2 σ σ') : zFr zRdF σ σ' := zFr_w h (fun i j q => by unfold zG2 zGr at q; unfold zRdF; omega)
theorem z_sc {σ σ' : sv_S} (h : zFr zSc σ σ') : zFr zRdF σ σ' := zFr_w h (fun i j q => by unfold zSc at q; unfold zRdF; omega)
set_option maxHeartbeats 2000000 in
theorem x_read (t : Nat) (hB : sx_base θ) {σ : sv_S} (hR : xRd σ n B) : ∃ r σ', q_X4_read θ σ = some (r, σ') ∧ zFr zRdF σ σ' ∧ σ'.1 13 0 = 0 ∧ ((r = 1 ∧ ∃ f, zGood σ' θm t n B f) ∨ (r = 0 ∧ zBad σ' θm t n B)) := by
  obtain ⟨m, σ1, s1, s2, s3, s4, s5, s6⟩ := x_scan (θ := θ) hB hR
  have hE : zEnv B n m := ⟨hR.2.1, s3, s4, fun p hp => (hR.2.2 p hp).1⟩
  have hm := zEnv_m hE
  have hf4 : zFr zG2 σ1 (sv_sI (sv_sI (sv_sI σ1 13 7 0) 13 10 0) 13 1 (-1)) := zFr_tr (zFr_tr (zFr_I (Or.inl (Or.inl ⟨rfl, by omega⟩))) (zFr_I (Or.inl (Or.inl ⟨rfl, by omega⟩)))) (zFr_I (Or.inl (Or.inl ⟨rfl, by omega⟩)))
  have hx4 : xG (sv_sI (sv_sI (sv_sI σ1 13 7 0) 13 10 0) 13 1 (-1)) B n m 0 0 := by
    refine ⟨zI_v, ?_, ?_, Nat.le_refl _, Nat.zero_le _, xTk_fr2 s6 hf4 (fun j => by unfold zG2 zGr; omega)⟩
    · rw [zI_o (by omega), zI_o (by omega)]; exact zI_v
    · rw [zI_o (by omega)]; exact zI_v
  have e4 : q_X4_read θ σ = sp_b (q_X4_read_B21 θ sv_N (nI 0) (sv_sI (sv_sI (sv_sI σ1 13 7 0) 13 10 0) 13 1 (-1))) (fun _ σ5 => sp_b (q_X4_expect θ (0 : Int32) σ5) (fun _ σ6 => sp_l (sv_sI σ6 13 0 (0 : Int32)) (fun σ7 => if (σ7.1 13 1) = (-1 : Int32) then (if (σ7.1 13 10) < 0 then some ((0 : Int32), σ7) else if (160 : Int32) < (σ7.1 13 10) then some ((0 : Int32), σ7) else some ((1 : Int32), σ7)) else some ((0 : Int32), σ7)))) := by
    unfold q_X4_read
    rw [s1, zb, zl, zl, zl]
    rfl
  revert hf4 hx4 e4
  generalize sv_sI (sv_sI (sv_sI σ1 13 7 0) 13 10 0) 13 1 (-1) = τ
  intro hf4 hx4 e4
  have i01 : nI 0 + 1 = nI 1 := nI_1 0
  have i12 : nI 1 + 1 = nI 2 := nI_1 1
  have i23 : nI 2 + 1 = nI 3 := nI_1 2
  have lp : ∀ k p σ, p < 3 → q_X4_read_B21 θ (k + 1) (nI p) σ = sp_b (q_X4_readP θ (nI p) σ) (fun _ σ5 => q_X4_read_B21 θ k (nI p + 1) σ5) := fun k p σ hp => by
    show (if (3 : Int32) ≤ nI p then _ else _) = _
    rw [if_neg (show ¬ (3 : Int32) ≤ nI p from nI_ge (b := 3) hp (by omega))]
  have lpe : ∀ k σ, q_X4_read_B21 θ (k + 1) (nI 3) σ = some ((), σ) := fun k σ => by
    simp only [q_X4_read_B21]
    rw [if_pos (show (3 : Int32) ≤ nI 3 by decide)]
  have hloop : ∀ σ, q_X4_read_B21 θ sv_N (nI 0) σ = sp_b (q_X4_readP θ (nI 0) σ) (fun _ σ5 => sp_b (q_X4_readP θ (nI 1) σ5) (fun _ σ6 => sp_b (q_X4_readP θ (nI 2) σ6) (fun _ σ7 => some ((), σ7)))) := fun σ => by
    rw [show sv_N = 199 + 1 by unfold sv_N; omega, lp 199 0 σ (by omega)]
    congr 1
  -- the class's end when a fault stands at F
  have deadend : ∀ (τ' : sv_S) (F : Nat), F ≤ 160 → τ'.1 13 1 = nI F → sp_b (q_X4_expect θ (0 : Int32) τ') (fun _ σ6 => sp_l (sv_sI σ6 13 0 (0 : Int32)) (fun σ7 => if (σ7.1 13 1) = (-1 : Int32) then (if (σ7.1 13 10) < 0 then some ((0 : Int32), σ7) else if (160 : Int32) < (σ7.1 13 10) then some ((0 : Int32), σ7) else some ((1 : Int32), σ7)) else some ((0 : Int32), σ7))) = some (0, sv_sI τ' 13 0 0) := fun τ' F hF h => by
    have h1 : (sv_sI τ' 13 0 0).1 13 1 = nI F := by rw [zI_o (by omega)]; exact h
    rw [x_expD hF h (by decide), zb, zl, h1, if_neg (fun q => zN_m1 (F := F) (by omega) q.symm)]
  have hfin : ∀ τ' : sv_S, zFr zRdF σ τ' → zFr zRdF σ (sv_sI τ' 13 0 0) := fun τ' h => zFr_tr h (zFr_I (Or.inl ⟨rfl, by omega⟩))
  have hpre : zFr zRdF σ τ := zFr_tr (z_sc s2) (z_rdf hf4)
  rcases g_part (θm := θm) (t := t) hB hE (p := 0) (by omega) hx4 with ⟨σa, ja, la, fa, a1, a2, a3, a4, a5, a6, a7, a8, a9, a10, a11⟩ | ⟨σa, F, qF, a1, a2, a3, a4⟩
  · rcases g_part (θm := θm) (t := t) hB hE (p := 1) (by omega) a3 with ⟨σb, jb, lb, fb, b1, b2, b3, b4, b5, b6, b7, b8, b9, b10, b11⟩ | ⟨σb, F, qF, b1, b2, b3, b4⟩
    · rcases g_part (θm := θm) (t := t) hB hE (p := 2) (by omega) b3 with ⟨σc, jc, lc, fc, c1, c2, c3, c4, c5, c6, c7, c8, c9, c10, c11⟩ | ⟨σc, F, qF, c1, c2, c3, c4⟩
      · have hl : q_X4_read_B21 θ sv_N (nI 0) τ = some ((), σc) := by rw [hloop, a1, zb, b1, zb, c1, zb]
        have hfc : zFr zRdF σ σc := zFr_tr hpre (zFr_tr (z_rdf a2) (zFr_tr (z_rdf b2) (z_rdf c2)))
        have hchain : ∀ μ, mG μ t n B 0 0 → ∀ which : Int32, ∃ μ3, mFr mRd μ μ3 ∧ mG μ3 t n B jc 0 ∧ mChain θm (nI t) which μ = q_X8_read_B126 θm (nI t) which which (fa (zNm μ)) (fb (zNm μ)) (fc (zNm μ)) μ3 := fun μ hμ which => by
          obtain ⟨μ1, w1, w2, w3⟩ := a11 μ hμ
          obtain ⟨μ2, w4, w5, w6⟩ := b11 μ1 w3
          obtain ⟨μ3, w7, w8, w9⟩ := c11 μ2 w6
          refine ⟨μ3, mFr_tr (m_rd w2) (mFr_tr (m_rd w5) (m_rd w8)), w9, ?_⟩
          unfold mChain
          rw [w1, zb, if_pos w3.2.1, w4, zb, m_B92 w6.2.1, w7, zb, zNm_fr w5, zNm_fr w2]
        have hjm := c3.2.2.2.2.1
        by_cases k0 : zK B n (zS B n jc) = 0
        · refine ⟨1, sv_sI (sv_sI σc 13 7 (nI (jc + 1))) 13 0 0, ?_, hfin _ (zFr_tr hfc (zFr_I (Or.inl ⟨rfl, by omega⟩))), zI_v, Or.inl ⟨rfl, fun p => if p = 0 then fa else if p = 1 then fb else fc, ⟨lc + 1, ?_, by omega, fun p hp => ?_⟩, fun μ which hwh hT => ?_⟩⟩
          · have g1 : (sv_sI (sv_sI σc 13 7 (nI (jc + 1))) 13 0 0).1 13 1 = -1 := by rw [zI_o (by omega), zI_o (by omega)]; exact c3.1
            have g2 : (sv_sI (sv_sI σc 13 7 (nI (jc + 1))) 13 0 0).1 13 10 = nI (lc + 1) := by rw [zI_o (by omega), zI_o (by omega)]; exact c3.2.2.1
            rw [e4, hl, zb, x_exp hB hE c3, if_pos k0, zb, zl, if_pos g1, g2, if_neg (nI_pos (by omega)), if_neg (show ¬ (160 : Int32) < nI (lc + 1) from nI_nlt (a := 160) (by omega) (by omega))]
          · rw [zI_o (by omega), zI_o (by omega)]; exact c3.2.2.1
          · have hc : ∀ i, (sv_sI (sv_sI σc 13 7 (nI (jc + 1))) 13 0 0).1 18 i = σc.1 18 i := fun i => by rw [zI_o (by omega), zI_o (by omega)]
            have hs : ∀ i, (sv_sI (sv_sI σc 13 7 (nI (jc + 1))) 13 0 0).1 19 i = σc.1 19 i := fun i => by rw [zI_o (by omega), zI_o (by omega)]
            have hcb : ∀ i, i < lb + 1 → σc.1 18 i = σb.1 18 i := fun i hi => c8 i hi
            have hba : ∀ i, i < la + 1 → σc.1 18 i = σa.1 18 i := fun i hi => by rw [c8 i (by omega), b8 i hi]
            have hp3 : p = 0 ∨ p = 1 ∨ p = 2 := by omega
            rcases hp3 with rfl | rfl | rfl
            · refine ⟨0, la, ?_, by omega, ?_, fun nm => ?_⟩
              · rw [hs, c7 0 (by omega), b7 0 (by omega)]; exact a6
              · rw [hc, hba la (by omega)]; exact a9
              · exact zSg_code (a10 nm) (fun k h1 h2 => by rw [hc, hba k (by omega)])
            · refine ⟨la + 1, lb, ?_, by omega, ?_, fun nm => ?_⟩
              · rw [hs, c7 1 (by omega)]; exact b6
              · rw [hc, hcb lb (by omega)]; exact b9
              · exact zSg_code (b10 nm) (fun k h1 h2 => by rw [hc, hcb k (by omega)])
            · refine ⟨lb + 1, lc, ?_, by omega, ?_, fun nm => ?_⟩
              · rw [hs]; exact c6
              · rw [hc]; exact c9
              · exact zSg_code (c10 nm) (fun k h1 h2 => hc k)
          · obtain ⟨μ0, u1, u2, u3⟩ := m_read0 (θm := θm) (which := nI which) hT
            obtain ⟨μ3, v1, v2, v3⟩ := hchain μ0 u2 (nI which)
            refine ⟨μ3, ?_, mFr_tr u1 v1, v2.2.1⟩
            rw [u3, v3, zNm_rd u1]
            unfold q_X8_read_B126
            rw [if_pos v2.2.1, if_pos ((m_kind0 v2).mpr k0)]
            have hw3 : which = 0 ∨ which = 1 ∨ which = 2 := by omega
            rcases hw3 with rfl | rfl | rfl
            · rw [if_pos (show nI 0 = 0 from rfl)]; rfl
            · rw [if_neg (show ¬ nI 1 = 0 by decide), if_pos (show nI 1 = 1 from rfl)]; rfl
            · rw [if_neg (show ¬ nI 2 = 0 by decide), if_neg (show ¬ nI 2 = 1 by decide)]; rfl
        · have hF : zS B n jc ≤ 160 := Nat.le_trans (zS_le jc) hE.1
          refine ⟨0, sv_sI (sv_sI σc 13 1 (nI (zS B n jc))) 13 0 0, ?_, hfin _ (zFr_tr hfc (zFr_I (Or.inl ⟨rfl, by omega⟩))), zI_v, Or.inr ⟨rfl, zS B n jc, hF, by rw [zI_o (by omega)]; exact zI_v, fun μ which hT => ?_⟩⟩
          · have g1 : (sv_sI (sv_sI σc 13 1 (nI (zS B n jc))) 13 0 0).1 13 1 = nI (zS B n jc) := by rw [zI_o (by omega)]; exact zI_v
            rw [e4, hl, zb, x_exp hB hE c3, if_neg k0, zb, zl, g1, if_neg (fun q => zN_m1 (F := zS B n jc) (by omega) q.symm)]
          · obtain ⟨μ0, u1, u2, u3⟩ := m_read0 (θm := θm) (which := which) hT
            obtain ⟨μ3, v1, v2, v3⟩ := hchain μ0 u2 which
            obtain ⟨d1, d2, d3⟩ := m_bad v2
            have hv : ∀ x3 x4 x5 : Int32, ∃ v, q_X8_read_B126 θm (nI t) which which x3 x4 x5 μ3 = some (v, sv_sI (sv_sI μ3 0 25 1) 0 26 (nI (zS B n jc))) := fun x3 x4 x5 => by
              unfold q_X8_read_B126
              rw [if_pos v2.2.1, if_neg (fun q => k0 ((m_kind0 v2).mp q)), m_fail v2.2.1 v2.2.2.2.1, zb]
              by_cases w0 : which = 0
              · exact ⟨_, by rw [if_pos w0]⟩
              · rw [if_neg w0]
                by_cases w1 : which = 1
                · exact ⟨_, by rw [if_pos w1]⟩
                · exact ⟨_, by rw [if_neg w1]⟩
            obtain ⟨v, hv⟩ := hv (fa (zNm μ0)) (fb (zNm μ0)) (fc (zNm μ0))
            exact ⟨v, _, by rw [u3, v3, hv], mFr_tr u1 (mFr_tr v1 (m_rd d1)), d2, d3⟩
      · have hl : q_X4_read_B21 θ sv_N (nI 0) τ = some ((), σc) := by rw [hloop, a1, zb, b1, zb, c1, zb]
        refine ⟨0, sv_sI σc 13 0 0, by rw [e4, hl, zb, deadend σc F qF c3], hfin _ (zFr_tr hpre (zFr_tr (z_rdf a2) (zFr_tr (z_rdf b2) (z_rdf c2)))), zI_v, Or.inr ⟨rfl, F, qF, by rw [zI_o (by omega)]; exact c3, fun μ which hT => ?_⟩⟩
        obtain ⟨μ0, u1, u2, u3⟩ := m_read0 (θm := θm) (which := which) hT
        obtain ⟨μ1, w1, w2, w3⟩ := a11 μ0 u2
        obtain ⟨μ2, w4, w5, w6⟩ := b11 μ1 w3
        obtain ⟨v3, μ3, w7, w8, w9, w10⟩ := c4 μ2 w6
        obtain ⟨v, hv⟩ := m_B126D (θm := θm) (a1 := nI t) (w := which) (x3 := fa (zNm μ0)) (x4 := fb (zNm μ1)) (x5 := v3) w9
        refine ⟨v, μ3, ?_, mFr_tr u1 (mFr_tr (m_rd w2) (mFr_tr (m_rd w5) (m_rd w8))), w9, w10⟩
        rw [u3]
        unfold mChain
        rw [w1, zb, if_pos w3.2.1, w4, zb, m_B92 w6.2.1, w7, zb, hv]
    · obtain ⟨σc, c1, c2, c3⟩ := x_partD (θ := θ) hB (p := 2) (by omega) qF b3
      have hl : q_X4_read_B21 θ sv_N (nI 0) τ = some ((), σc) := by rw [hloop, a1, zb, b1, zb, c1, zb]
      refine ⟨0, sv_sI σc 13 0 0, by rw [e4, hl, zb, deadend σc F qF c3], hfin _ (zFr_tr hpre (zFr_tr (z_rdf a2) (zFr_tr (z_rdf b2) (z_rdf c2)))), zI_v, Or.inr ⟨rfl, F, qF, by rw [zI_o (by omega)]; exact c3, fun μ which hT => ?_⟩⟩
      obtain ⟨μ0, u1, u2, u3⟩ := m_read0 (θm := θm) (which := which) hT
      obtain ⟨μ1, w1, w2, w3⟩ := a11 μ0 u2
      obtain ⟨v2, μ2, w4, w5, w6, w7⟩ := b4 μ1 w3
      obtain ⟨v, hv⟩ := m_B126D (θm := θm) (a1 := nI t) (w := which) (x3 := fa (zNm μ0)) (x4 := v2) (x5 := 0) w6
      refine ⟨v, μ2, ?_, mFr_tr u1 (mFr_tr (m_rd w2) (m_rd w5)), w6, w7⟩
      rw [u3]
      unfold mChain
      rw [w1, zb, if_pos w3.2.1, w4, zb, m_B92D w6, hv]
  · obtain ⟨σb, b1, b2, b3⟩ := x_partD (θ := θ) hB (p := 1) (by omega) qF a3
    obtain ⟨σc, c1, c2, c3⟩ := x_partD (θ := θ) hB (p := 2) (by omega) qF b3
    have hl : q_X4_read_B21 θ sv_N (nI 0) τ = some ((), σc) := by rw [hloop, a1, zb, b1, zb, c1, zb]
    refine ⟨0, sv_sI σc 13 0 0, by rw [e4, hl, zb, deadend σc F qF c3], hfin _ (zFr_tr hpre (zFr_tr (z_rdf a2) (zFr_tr (z_rdf b2) (z_rdf c2)))), zI_v, Or.inr ⟨rfl, F, qF, by rw [zI_o (by omega)]; exact c3, fun μ which hT => ?_⟩⟩
    obtain ⟨μ0, u1, u2, u3⟩ := m_read0 (θm := θm) (which := which) hT
    obtain ⟨v1, μ1, w1, w2, w3, w4⟩ := a4 μ0 u2
    obtain ⟨v, hv⟩ := m_B126D (θm := θm) (a1 := nI t) (w := which) (x3 := v1) (x4 := 0) (x5 := 0) w3
    refine ⟨v, μ1, ?_, mFr_tr u1 (m_rd w2), w3, w4⟩
    rw [u3]
    unfold mChain
    rw [w1, zb, w3, if_neg (show ¬ (1 : Int32) = 0 by decide), m_B92D w3, hv]
end RD2

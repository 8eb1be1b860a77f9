/-! ===== call: text, both sides ===== -/
def zGw (S : Nat → Nat → Prop) (n : Nat) (σ σ' : sv_S) : Prop := ∀ i j, i < n → ¬ S i j → σ'.1 i j = σ.1 i j ∧ ∀ t, t < n → σ.2.2 i j = some t → σ'.2.2 i j = some t
def zTf (tc i j : Nat) : Prop := (i = 0 ∧ j = 5) ∨ (i = 20 ∧ j = tc) ∨ zFd i j
def mTf (tc i j : Nat) : Prop := (i = 0 ∧ j = 3) ∨ mTxF tc i j ∨ mTmp i j
section CT2
variable {θ θ' θm : sv_T} {σ μ σ' μ' : sv_S} {tc : Nat} {Fs : Nat → Nat → (Nat → Int32) → Int32} {D : zD}
theorem xMk_gw {S : Nat → Nat → Prop} {n m : Nat} (h : xMk σ m D) (hf : zGw S n σ σ') (hm : m + 5 < n) (hT : 42 + 4 * dT D < n) (h0 : ∀ i j, m ≤ i → i ≤ m + 5 → ¬ S i j) : xMk σ' m D := by
  obtain ⟨a1, a2, a3, a4, a5⟩ := h
  have q : ∀ i j, m ≤ i → i ≤ m + 5 → σ'.1 i j = σ.1 i j := fun i j h1 h2 => (hf i j (by omega) (h0 i j h1 h2)).1
  refine ⟨by rw [q _ _ (by omega) (by omega)]; exact a1, fun k hk => by rw [q _ _ (by omega) (by omega)]; exact a2 k hk, fun b hb => ?_, by rw [q _ _ (by omega) (by omega)]; exact a4, (hf _ _ (by omega) (h0 _ _ (by omega) (by omega))).2 _ hT a5⟩
  rw [q _ _ (by omega) (by omega), q _ _ (by omega) (by omega), q _ _ (by omega) (by omega), q _ _ (by omega) (by omega)]
  exact a3 b hb
theorem sv_len_sh {i : Nat} (h : θ'.2 i = θ.2 i) : sv_len θ' i = sv_len θ i := by unfold sv_len; rw [h]
theorem xText_gw {S : Nat → Nat → Prop} {k : Nat} {F : Nat → (Nat → Int32) → Int32} (h : xText θ σ k F) (hf : zGw S θ.1 σ σ') (hθ : ∀ i, i < θ.1 → θ'.2 i = θ.2 i) (hle : θ.1 ≤ θ'.1) (hS : ∀ i j, 42 ≤ i → i % 4 ≠ 1 → ¬ S i j) : xText θ' σ' k F := by
  obtain ⟨⟨x1, x2, x3, x4, x5⟩, h2, h3, h4⟩ := h
  have el := sv_len_sh (hθ _ x3.1)
  refine ⟨⟨by omega, by rw [hθ _ x1]; exact x2, ⟨by omega, by rw [hθ _ x3.1, el]; exact x3.2⟩, ⟨by omega, by rw [hθ _ x4.1]; exact x4.2⟩, ⟨by omega, by rw [hθ _ x5.1]; exact x5.2⟩⟩, by rw [el]; exact h2, by rw [(hf _ _ x1 (hS _ _ (by omega) (by omega))).1]; exact h3, fun p hp => ?_⟩
  obtain ⟨st, e, g1, g2, g3, g4⟩ := h4 p hp
  have hc : ∀ j, σ'.1 (42 + 4 * k + 1) j = σ.1 (42 + 4 * k + 1) j := fun j => (hf _ _ x3.1 (hS _ _ (by omega) (by omega))).1
  exact ⟨st, e, by rw [(hf _ _ x4.1 (hS _ _ (by omega) (by omega))).1]; exact g1, by rw [el]; exact g2, by rw [hc]; exact g3, fun nm => zSg_code (g4 nm) (fun j _ _ => hc j)⟩
theorem mText_gw {k : Nat} {F : Nat → (Nat → Int32) → Int32} (h : mText θm μ k F) (hf : mFr (mTf tc) μ μ') (hk : k < tc) : mText θm μ' k F := by
  obtain ⟨n, B, ⟨h1, h2, h3, h4⟩, h5⟩ := h
  refine ⟨n, B, ⟨h1, by rw [hf.2 2 k (by unfold mTf mTxF mTmp; omega)]; exact h2, h3, fun p hp => ⟨(h4 p hp).1, by rw [hf.2 1 _ (by unfold mTf mTxF mTmp; omega)]; exact (h4 p hp).2⟩⟩, h5⟩
/-- a new text on both sides -/
theorem zRel_new {f : Nat → (Nat → Int32) → Int32} (h : zRel θ θm σ μ tc Fs D) (htc : tc < 6) (hf : zGw (zTf tc) θ.1 σ σ') (hg : mFr (mTf tc) μ μ') (hθ : ∀ i, i < θ.1 → θ'.2 i = θ.2 i) (h4 : θ'.1 = θ.1 + 4) (x5 : σ'.1 0 5 = nI (tc + 1)) (m3 : μ'.1 0 3 = nI (tc + 1)) (x20 : σ'.2.2 20 tc = some (42 + 4 * tc)) (hX : xText θ' σ' tc f) (hM : mText θm μ' tc f) (x13 : σ'.1 13 0 = nI 0) (m6 : μ'.1 0 6 = nI 0) : zRel θ' θm σ' μ' (tc + 1) (fun k => if k = tc then f else Fs k) D := by
  obtain ⟨a1, a2, ⟨t1, t2, t3, t4, t5, t6⟩, ⟨a4, a5, a6, a7⟩, a8, a9, a10⟩ := h
  refine ⟨⟨by have := a1.1; omega, fun i hi => by rw [hθ i (by omega)]; exact a1.2 i hi⟩, a2, ⟨by omega, by omega, by omega, x5, m3, fun k hk => ?_⟩, ⟨a4, by omega, xMk_gw a6 hf (by omega) (by omega) (fun i j h1 h2 => by unfold zTf zFd zTmp zSk; omega), mMk_fr a7 hg (by unfold mTf mTxF mTmp; omega) (fun i j h1 h2 => by unfold mTf mTxF mTmp; omega)⟩, ?_, ⟨0, fun _ => 0, by omega, x13, m6, fun p hp => absurd hp (by omega)⟩, fun s hs => ?_⟩
  · by_cases e : k = tc
    · subst e
      have e2 : (fun q => if q = k then f else Fs q) k = f := if_pos rfl
      rw [e2]
      exact ⟨x20, hX, hM⟩
    · have e2 : (fun q => if q = tc then f else Fs q) k = Fs k := if_neg e
      rw [e2]
      obtain ⟨b1, b2, b3⟩ := t6 k (by omega)
      exact ⟨(hf 20 k (by omega) (by unfold zTf zFd zTmp zSk; omega)).2 _ (by omega) b1, xText_gw b2 hf hθ (by omega) (fun i j h1 h2 => by unfold zTf zFd zTmp zSk; omega), mText_gw b3 hg (by omega)⟩
  · rcases a8 with ⟨b1, b2⟩ | ⟨b1, Dk, c1, c2, c3, c4, c5, c6, c7, c8, c9⟩
    · exact Or.inl ⟨by rw [(hf 0 2 (by omega) (by unfold zTf zFd zTmp zSk; omega)).1]; exact b1, by rw [hg.2 0 37 (by unfold mTf mTxF mTmp; omega)]; exact b2⟩
    · refine Or.inr ⟨by rw [(hf 0 2 (by omega) (by unfold zTf zFd zTmp zSk; omega)).1]; exact b1, Dk, c1, by omega, c3, xMk_gw c4 hf (by omega) (by omega) (fun i j h1 h2 => by unfold zTf zFd zTmp zSk; omega), by rw [hg.2 0 37 (by unfold mTf mTxF mTmp; omega)]; exact c5, fun k hk => by rw [hg.2 8 k (by unfold mTf mTxF mTmp; omega)]; exact c6 k hk, fun b hb => ?_, by rw [hg.2 0 38 (by unfold mTf mTxF mTmp; omega)]; exact c8, by rw [hg.2 0 39 (by unfold mTf mTxF mTmp; omega)]; exact c9⟩
      rw [hg.2 9 _ (by unfold mTf mTxF mTmp; omega), hg.2 9 _ (by unfold mTf mTxF mTmp; omega), hg.2 9 _ (by unfold mTf mTxF mTmp; omega)]
      exact c7 b hb
  · obtain ⟨b1, b2⟩ := a10 s hs
    have f1 : ∀ i j, 34 ≤ i → i < 42 → σ'.1 i j = σ.1 i j := fun i j q1 q2 => (hf i j (by omega) (by unfold zTf zFd zTmp zSk; omega)).1
    have f2 : ∀ i j, 10 ≤ i → μ'.1 i j = μ.1 i j := fun i j q1 => hg.2 i j (by unfold mTf mTxF mTmp; omega)
    refine ⟨(hf 21 s (by omega) (by unfold zTf zFd zTmp zSk; omega)).2 _ (by omega) b1, ?_⟩
    rcases b2 with ⟨c1, c2⟩ | ⟨q, n, c1, c2, c3, c4, c5, c6, c7, c8⟩
    · exact Or.inl ⟨by rw [f1 _ _ (by omega) (by omega)]; exact c1, by rw [f2 _ _ (by omega)]; exact c2⟩
    · exact Or.inr ⟨q, n, c1, c2, by rw [f1 _ _ (by omega) (by omega)]; exact c3, by rw [f1 _ _ (by omega) (by omega)]; exact c4, by rw [f2 _ _ (by omega)]; exact c5, by rw [f2 _ _ (by omega)]; exact c6, by rw [f2 _ _ (by omega)]; exact c7, fun i hi => by rw [f1 _ _ (by omega) (by omega), f2 _ _ (by omega)]; exact c8 i hi⟩
/-- a text that was not read -/
theorem zRel_bad (h : zRel θ θm σ μ tc Fs D) (htc : tc < 6) (hf : xFr zFd σ σ') (hg : mFr (mTf tc) μ μ') (hg3 : μ'.1 0 3 = μ.1 0 3) (x13 : σ'.1 13 0 = nI 0) (m6 : μ'.1 0 6 = nI 0) : zRel θ θm σ' μ' tc Fs D := by
  obtain ⟨a1, a2, ⟨t1, t2, t3, t4, t5, t6⟩, ⟨a4, a5, a6, a7⟩, a8, a9, a10⟩ := h
  have hg' : ∀ i j, ¬ (mTxF tc i j ∨ mTmp i j) → μ'.1 i j = μ.1 i j := fun i j q => by
    by_cases e : i = 0 ∧ j = 3
    · rw [e.1, e.2]; exact hg3
    · exact hg.2 i j (fun z => z.elim e q)
  refine ⟨a1, a2, ⟨t1, t2, t3, by rw [(hf.2 0 5 (by unfold zFd zTmp zSk; omega)).1]; exact t4, by rw [hg3]; exact t5, fun k hk => ?_⟩, ⟨a4, a5, xMk_fr a6 hf (fun i j h1 h2 => by unfold zFd zTmp zSk; omega), mMk_fr a7 hg (by unfold mTf mTxF mTmp; omega) (fun i j h1 h2 => by unfold mTf mTxF mTmp; omega)⟩, zKp_fr a8 hf hg (by unfold zFd zTmp zSk; omega) (fun i j h1 h2 => by unfold zFd zTmp zSk; omega) (by unfold mTf mTxF mTmp; omega) (fun i j h1 h2 => by unfold mTf mTxF mTmp; omega), ⟨0, fun _ => 0, by omega, x13, m6, fun p hp => absurd hp (by omega)⟩, fun s hs => ?_⟩
  · obtain ⟨b1, b2, b3⟩ := t6 k hk
    exact ⟨by rw [(hf.2 20 k (by unfold zFd zTmp zSk; omega)).2]; exact b1, xText_fr b2 hf (fun i j h1 h2 => by unfold zFd zTmp zSk; omega), mText_gw b3 hg hk⟩
  · obtain ⟨b1, b2⟩ := a10 s hs
    exact ⟨by rw [(hf.2 21 s (by unfold zFd zTmp zSk; omega)).2]; exact b1, zRw1_fr b2 hs hf hg (fun j => by unfold zFd zTmp zSk; omega) (fun i h1 h2 => by unfold mTf mTxF mTmp; omega) (fun j hj => by unfold mTf mTxF mTmp; omega)⟩
/-- the reference's answer -/
def cTx (θm : sv_T) (μ : sv_S) (r : Int32) (θ' : sv_T) (σ' : sv_S) : Prop := ∃ μ' tc' Fs' D', q_X8_text θm μ = some (r, μ') ∧ zRel θ' θm σ' μ' tc' Fs' D'
theorem c_text (h : zRel θ θm σ μ tc Fs D) : ((6 : Int32) ≤ σ.1 0 5 ∧ cTx θm μ (-4) θ σ) ∨ (¬ (6 : Int32) ≤ σ.1 0 5 ∧ ∃ σ7, q_X4_read θ σ = some (0, σ7) ∧ cTx θm μ (-100 - σ7.1 13 1) θ σ7) ∨
      (¬ (6 : Int32) ≤ σ.1 0 5 ∧ ∃ σ7, q_X4_read θ σ = some (1, σ7) ∧ ∀ θ' σ8, xRdP θ σ7 (σ.1 0 5) θ' σ8 → ∃ σ9, q_X7_keepText θ' (some θ.1) σ8 = some ((), σ9) ∧ cTx θm μ (σ9.1 θ.1 0) θ' σ9) := by
  have hB := h.1
  obtain ⟨t1, t2, t3, t4, t5, t6⟩ := h.2.2.1
  by_cases htc : tc = 6
  · refine Or.inl ⟨by rw [t4, htc]; decide, μ, tc, Fs, D, ?_, h⟩
    unfold q_X8_text
    rw [t5, htc, if_pos (show nI 6 = (6 : Int32) from rfl)]
  have htc : tc < 6 := by omega
  have c6 : ¬ (6 : Int32) ≤ σ.1 0 5 := by rw [t4]; exact nI_ge (b := 6) htc (by omega)
  obtain ⟨n, B, p1, p2, p3, p4⟩ := h.2.2.2.2.2.1
  obtain ⟨μ1, mm1, mm2, mm3, mm4⟩ := m_text (θm := θm) (B := B) htc t5 p1 p3 (fun p hp => ⟨(p4 p hp).1, (p4 p hp).2.2⟩)
  have e3 : μ1.1 0 3 = nI tc := by rw [mm2.2 0 3 (by unfold mTxF; omega)]; exact t5
  obtain ⟨r, σ7, g1, g2, g3, g4⟩ := x_read (θm := θm) tc hB (σ := σ) (n := n) (B := B) ⟨p2, p1, fun p hp => ⟨(p4 p hp).1, (p4 p hp).2.1⟩⟩
  rcases g4 with ⟨rfl, f, ⟨L, l1, l2, l3⟩, gm⟩ | ⟨rfl, F, hF, hF2, gm⟩
  · refine Or.inr (Or.inr ⟨c6, σ7, g1, fun θ' σ8 hR => ?_⟩)
    obtain ⟨r1, r2, r3, r4, r5, r6, r7, r8, r9, r10⟩ := hR
    have cL : (σ7.1 13 10).toNatClampNeg = L := by rw [l1, nI_clamp (by omega)]
    rw [cL] at r4 r9
    have k5 : σ8.1 0 5 = nI tc := by rw [(r7 0 (by omega) 5).1, g2.2 0 5 (by unfold zRdF; omega)]; exact t4
    have oX : sv_oX6 θ' θ.1 := ⟨by omega, r3, ⟨by omega, by rw [r4]; simp [sv_len, r4]⟩, ⟨by omega, r5⟩, ⟨by omega, r6⟩⟩
    obtain ⟨σ9, e9⟩ : ∃ z, z = sv_sI (sv_sP σ8 20 tc (some θ.1)) 0 5 (nI (tc + 1)) := ⟨_, rfl⟩
    have hk : q_X7_keepText θ' (some θ.1) σ8 = some ((), σ9) := by
      unfold q_X7_keepText
      rw [zos, if_pos oX, k5, if_neg (show ¬ (6 : Int32) ≤ nI tc from nI_ge (b := 6) htc (by omega)), if_neg (z_bd htc (by omega)), nI_clamp (by omega), zl]
      show sp_l (sv_sI (sv_sP σ8 20 tc (some θ.1)) 0 5 (σ8.1 0 5 + 1)) _ = _
      rw [k5, zl, nI_1, e9]
    have s1 : ∀ i j, i ≠ 0 → σ9.1 i j = σ8.1 i j := fun i j hi => by rw [e9, zI_o (by omega)]; rfl
    have s10 : ∀ j, j ≠ 5 → σ9.1 0 j = σ8.1 0 j := fun j hj => by rw [e9, zI_o (by omega)]; rfl
    have s2 : ∀ i j, ¬ (i = 20 ∧ j = tc) → σ9.2.2 i j = σ8.2.2 i j := fun i j hi => by
      rw [e9]
      show (sv_sP σ8 20 tc (some θ.1)).2.2 i j = _
      exact ((xFr_P (S := fun a b => a = 20 ∧ b = tc) (σ := σ8) ⟨rfl, rfl⟩).2 i j hi).2
    have hgw : zGw (zTf tc) θ.1 σ σ9 := fun i j hi hS => by
      unfold zTf at hS
      have hS1 : ¬ zRdF i j := fun q => hS (Or.inr (Or.inr (by unfold zRdF at q; unfold zFd zTmp; omega)))
      have h0 : ¬ (i = 0 ∧ j = 5) := fun q => hS (Or.inl q)
      have h20 : ¬ (i = 20 ∧ j = tc) := fun q => hS (Or.inr (Or.inl q))
      have ei : σ9.1 i j = σ8.1 i j := by
        by_cases e : i = 0
        · subst e; exact s10 j (fun q => h0 ⟨rfl, q⟩)
        · exact s1 i j e
      refine ⟨by rw [ei, (r7 i hi j).1, g2.2 i j hS1], fun t ht q => ?_⟩
      rw [s2 i j h20]
      exact (r7 i hi j).2 t ht (by rw [g2.1]; exact q)
    have en : θ.1 = 42 + 4 * tc := t3
    obtain ⟨μ2, w1, w2, w3⟩ := gm μ1 0 (by omega) mm3
    have w1 : q_X8_read θm (nI tc) 0 μ1 = some (f 0 (zNm μ1), μ2) := w1
    have e23 : μ2.1 0 3 = nI tc := by rw [w2.2 0 3 (by unfold mRd; omega)]; exact e3
    refine ⟨σ9, hk, sv_sI μ2 0 3 (nI (tc + 1)), tc + 1, fun k => if k = tc then f else Fs k, D, ?_, ?_⟩
    · rw [mm1]
      unfold mTl
      rw [e3, w1, zb, if_pos w3, e23, nI_1, zl, zI_v, nI_pred]
      have : σ9.1 θ.1 0 = nI tc := by rw [s1 _ _ (by omega), r8]; exact t4
      rw [this]
    · have hg : mFr (mTf tc) μ (sv_sI μ2 0 3 (nI (tc + 1))) := mFr_tr (mFr_w mm2 (fun _ _ q => Or.inr (Or.inl q))) (mFr_tr (mFr_w w2 (fun i j q => Or.inr (Or.inr (by unfold mRd at q; unfold mTmp; omega)))) (mFr_I (Or.inl ⟨rfl, rfl⟩)))
      have hx0 : σ9.1 (42 + 4 * tc) 0 = nI tc := by rw [← en, s1 _ _ (by omega), r8]; exact t4
      have hlen : sv_len θ' (42 + 4 * tc + 1) = L := by rw [← en]; exact sx_L r4
      refine zRel_new h htc hgw hg r2 r1 (by rw [e9]; exact zI_v) zI_v ?_ ⟨by rw [← en]; exact oX, by omega, hx0, fun p hp => ?_⟩ ⟨n, B, ?_, gm⟩ ?_ ?_
      · rw [e9]
        show (sv_sP σ8 20 tc (some θ.1)).2.2 20 tc = _
        rw [zP_v, en]
      · obtain ⟨st, e, q1, q2, q3, q4⟩ := l3 p hp
        have hc : ∀ j, j < L → σ9.1 (42 + 4 * tc + 1) j = σ7.1 18 j := fun j hj => by rw [← en, s1 _ _ (by omega)]; exact r9 j hj
        refine ⟨st, e, ?_, by omega, ?_, fun nm => ?_⟩
        · rw [← en, s1 _ _ (by omega), r10 p hp]; exact q1
        · rw [hc e q2]; exact q3
        · exact zSg_code (q4 nm) (fun k h1 h2 => hc k (by omega))
      · have hf2 : mFr (fun i j => i = 0) μ1 (sv_sI μ2 0 3 (nI (tc + 1))) := mFr_tr (mFr_w w2 (fun i j q => q.1)) (mFr_I rfl)
        exact mTx_fr mm3 hf2 (fun i j h1 h2 => by omega)
      · rw [s1 _ _ (by omega), (r7 13 (by omega) 0).1]; exact g3
      · rw [zI_o (by omega), w2.2 0 6 (by unfold mRd; omega)]; exact mm4
  · refine Or.inr (Or.inl ⟨c6, σ7, g1, ?_⟩)
    obtain ⟨v, μ2, w1, w2, w3, w4⟩ := gm μ1 0 mm3
    refine ⟨μ2, tc, Fs, D, ?_, ?_⟩
    · rw [mm1]
      unfold mTl
      rw [e3, w1, zb, w3, if_neg (show ¬ (1 : Int32) = 0 by decide), w4, hF2]
    · have hg : mFr (mTf tc) μ μ2 := mFr_tr (mFr_w mm2 (fun _ _ q => Or.inr (Or.inl q))) (mFr_w w2 (fun i j q => Or.inr (Or.inr (by unfold mRd at q; unfold mTmp; omega))))
      exact zRel_bad h htc (xFr_w (xFr_z g2) (fun i j q => by unfold zRdF at q; unfold zFd zTmp; omega)) hg (by rw [w2.2 0 3 (by unfold mRd; omega), e3, t5]) g3 (by rw [w2.2 0 6 (by unfold mRd; omega)]; exact mm4)
end CT2

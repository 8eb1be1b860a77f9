/-! ===== the reference's walk ===== -/
section LKS
variable {θ θm : sv_T} {σ μ : sv_S} {tc : Nat} {Fs : Nat → Nat → (Nat → Int32) → Int32} {D : zD} {F : Nat → (Nat → Int32) → Int32}
def mS (μ : sv_S) (s : zW) : Prop := μ.1 0 33 = nI s.1 ∧ μ.1 0 32 = nI s.2 ∧ kSt s
theorem mS_ev {μ' : sv_S} {s : zW} (h : mS μ s) (hf : mFr mEv μ μ') : mS μ' s := ⟨by rw [hf.2 _ _ (by unfold mEv; omega)]; exact h.1, by rw [hf.2 _ _ (by unfold mEv; omega)]; exact h.2.1, h.2.2⟩
theorem mOk_tmp {μ' : sv_S} (h : mOk θm μ D F) (hf : mFr mTmp μ μ') : mOk θm μ' D F := ⟨h.1, mMk_fr h.2.1 hf (by unfold mTmp; omega) (fun i j h1 h2 => by unfold mTmp; omega), mText_fr h.2.2 hf (fun i j h1 h2 => by unfold mTmp; omega)⟩
theorem m_looksU {G : Nat → sv_T → Int32 → Int32 → Int32 → Int32 → Int32 → Int32 → sv_S → Option (Unit × sv_S)} {r S a c g d : Nat} {s : zW} {a4 : Int32} (hk : kOk (dL D) r S a c g d) (hs : mS μ s) :
    ∃ μ', mFr mTmp μ μ' ∧ mS μ' (kU g d s) ∧ q_X8_looks_b θm G (nI S) (nI r) (nI a) a4 (nI g) (nI d) μ = (if nI r = 0 then some ((), μ') else q_X8_looks_B37 θm G (nI S) (nI r) (nI a) a4 (nI g) (nI d) sv_N (nI S) (nI r) (nI a) a4 (nI g) (nI d) (0 : Int32) μ') := by
  obtain ⟨s1, s2, s3, s4⟩ := hs
  have hgd := kOk_d hk
  by_cases hl : s.1 < g
  · have hf : mFr mTmp μ (sv_sI (sv_sI μ 0 32 (nI d)) 0 33 (nI g)) := mFr_tr (mFr_I ⟨rfl, by omega, by omega⟩) (mFr_I ⟨rfl, by omega, by omega⟩)
    have hu : kU g d s = (g, d) := by unfold kU; rw [if_pos hl]
    refine ⟨_, hf, ?_, ?_⟩
    · rw [hu]
      exact ⟨zI_v, by rw [zI_o (by omega)]; exact zI_v, by exact hgd.1, by exact hgd.2⟩
    · unfold q_X8_looks_b
      rw [s2, if_neg (zO_ne (v := s.2) (by omega)), s1, if_neg (nI_ge hl (by omega)), zl, zl]
  · have hu : kU g d s = s := kU_no (by omega)
    refine ⟨μ, mFr_rf, by rw [hu]; exact ⟨s1, s2, s3, s4⟩, ?_⟩
    unfold q_X8_looks_b
    rw [s2, if_neg (zO_ne (v := s.2) (by omega)), s1, if_pos (nI_le (by omega) (by omega))]
theorem m_looks : ∀ (r e S a c g d : Nat) (s : zW) (μ : sv_S), kOk (dL D) r S a c g d → mOk θm μ D F → mS μ s → ∃ μ', q_G9 (r + 1 + e) 0 θm (nI S) (nI r) (nI a) (nI (dSh D + c)) (nI g) (nI d) μ = some ((), μ') ∧ mFr mTmp μ μ' ∧ mS μ' (kW (kSh D F (dR D)) (kWo D F (dR D)) r S a c g d s) := by
  intro r
  induction r with
  | zero =>
    intro e S a c g d s μ hk hO hs
    obtain ⟨μ', f1, f2, f3⟩ := m_looksU (θm := θm) (G := q_G9 (0 + e)) (a4 := nI (dSh D + c)) hk hs
    refine ⟨μ', ?_, f1, f2⟩
    rw [show 0 + 1 + e = (0 + e) + 1 by omega]
    show q_X8_looks_b θm (q_G9 (0 + e)) (nI S) (nI 0) (nI a) (nI (dSh D + c)) (nI g) (nI d) μ = _
    rw [f3, if_pos (show nI 0 = 0 from rfl)]
  | succ r ih =>
    intro e S a c g d s μ hk hO hs
    have hD := hO.1
    have hM6 := hD.1
    obtain ⟨μ0, f1, f2, f3⟩ := m_looksU (θm := θm) (G := q_G9 (r + 1 + e)) (a4 := nI (dSh D + c)) hk hs
    have hk0 := id hk
    obtain ⟨k1, k2, k3, k4, k5, k6⟩ := hk
    have O0 := mOk_tmp hO f1
    have top : q_G9 (r + 1 + 1 + e) 0 θm (nI S) (nI (r + 1)) (nI a) (nI (dSh D + c)) (nI g) (nI d) μ = q_X8_looks_b θm (q_G9 (r + 1 + e)) (nI S) (nI (r + 1)) (nI a) (nI (dSh D + c)) (nI g) (nI d) μ := by
      rw [show r + 1 + 1 + e = (r + 1 + e) + 1 by omega]
      rfl
    rw [top, f3, if_neg (nI_ne0 (by omega) (by omega))]
    have stop : ∀ b, dM D ≤ b → b < 6 → S.testBit b = false := fun b h1 h2 => by
      cases hq : S.testBit b with
      | false => rfl
      | true =>
        have := ((dL_bit hD h2).mp (k3 b h2 hq)).1
        omega
    have loop : ∀ (k n fuel : Nat) (τ : sv_S), dM D - n = k → n ≤ dM D → mFr mTmp μ0 τ → mS τ (kB (kSh D F (dR D)) (kWo D F (dR D)) (kW (kSh D F (dR D)) (kWo D F (dR D)) r) S a c g d n (kU g d s)) → ∃ μ', q_X8_looks_B37 θm (q_G9 (r + 1 + e)) (nI S) (nI (r + 1)) (nI a) (nI (dSh D + c)) (nI g) (nI d) (fuel + k + 1) (nI S) (nI (r + 1)) (nI a) (nI (dSh D + c)) (nI g) (nI d) (nI n) τ = some ((), μ') ∧ mFr mTmp μ0 μ' ∧ mS μ' (kB (kSh D F (dR D)) (kWo D F (dR D)) (kW (kSh D F (dR D)) (kWo D F (dR D)) r) S a c g d (dM D) (kU g d s)) := by
      intro k
      induction k with
      | zero =>
        intro n fuel τ h1 h2 h3 h4
        have : n = dM D := by omega
        subst this
        refine ⟨τ, ?_, h3, h4⟩
        show q_X8_looks_B37_b θm (q_G9 (r + 1 + e)) (nI S) (nI (r + 1)) (nI a) (nI (dSh D + c)) (nI g) (nI d) _ (nI S) (nI (r + 1)) (nI a) (nI (dSh D + c)) (nI g) (nI d) (nI (dM D)) τ = _
        unfold q_X8_looks_B37_b
        rw [(mOk_tmp O0 h3).2.1.1, if_pos (nI_le (Nat.le_refl _) (by omega))]
      | succ k ihk =>
        intro n fuel τ h1 h2 h3 h4
        have hn6 : n < 6 := by omega
        have hnM : n < dM D := by omega
        have Ot := mOk_tmp O0 h3
        have eu : q_X8_looks_B37 θm (q_G9 (r + 1 + e)) (nI S) (nI (r + 1)) (nI a) (nI (dSh D + c)) (nI g) (nI d) (fuel + (k + 1) + 1) (nI S) (nI (r + 1)) (nI a) (nI (dSh D + c)) (nI g) (nI d) (nI n) τ = q_X8_looks_B37_b θm (q_G9 (r + 1 + e)) (nI S) (nI (r + 1)) (nI a) (nI (dSh D + c)) (nI g) (nI d) (q_X8_looks_B37 θm (q_G9 (r + 1 + e)) (nI S) (nI (r + 1)) (nI a) (nI (dSh D + c)) (nI g) (nI d) (fuel + (k + 1))) (nI S) (nI (r + 1)) (nI a) (nI (dSh D + c)) (nI g) (nI d) (nI n) τ := rfl
        rw [eu]
        unfold q_X8_looks_B37_b
        rw [Ot.2.1.1, if_neg (nI_ge (by omega) (by omega)), z_bit S k1 n hn6]
        by_cases hbit : S.testBit n = true
        · have hdg : (10 : Int32) * nI d + nI n + 1 = nI (10 * d + n + 1) := by rw [show (10 : Int32) = nI 10 from rfl, pk_mul, nI_add, nI_1]
          obtain ⟨τ1, q1, q2⟩ := m_shakes (θm := θm) (d := dSh D + c) Ot hnM k2
          have O1 := mOk_ev Ot q2
          have S1 := mS_ev h4 q2
          have q1' : q_X8_shakes θm (nI n) (nI a) (nI (dSh D + c)) τ = some (zO (kSh D F (dR D) n c a), τ1) := q1
          rw [if_pos hbit, if_pos (show (1 : Int32) = 1 from rfl), q1', zb, (z_rm S k1 n hn6).1, zl, hdg, zl, nI_pred]
          cases hsh : kSh D F (dR D) n c a with
          | none =>
            obtain ⟨τ2, g1, g2, g3⟩ := ih e (zRm S n) a c g (10 * d + n + 1) _ τ1 (kOk_no hk0 hn6 hbit) O1 S1
            obtain ⟨σ', e1, e2, e3⟩ := ihk (n + 1) fuel τ2 (by omega) (by omega) (mFr_tr h3 (mFr_tr (m_tmp q2) g2)) (by
              simp only [kB]
              rw [if_pos hbit, hsh]
              exact g3)
            refine ⟨σ', ?_, e2, e3⟩
            rw [show zO none = -1 from rfl, if_pos (show (-1 : Int32) = -1 from rfl), g1, zb, zl, nI_1]
            exact e1
          | some v =>
            have hv := zSh_lt hsh
            obtain ⟨hw1, hw9⟩ := nWor_ok (dC D F n (dSh D + c)) (dR D) v
            obtain ⟨τ3, w1, w2⟩ := m_worthOf (θm := θm) (d := dSh D + c) O1 hnM hv.2
            have O3 := mOk_ev O1 w2
            have S3 := mS_ev S1 w2
            obtain ⟨τ2, g1, g2, g3⟩ := ih e (zRm S n) (v + 1) (c + 1) (g + kWo D F (dR D) n c v) (10 * d + n + 1) _ τ3 (kOk_yes hk0 hn6 hbit hv.2 hw9) O3 S3
            obtain ⟨σ', e1, e2, e3⟩ := ihk (n + 1) fuel τ2 (by omega) (by omega) (mFr_tr h3 (mFr_tr (m_tmp q2) (mFr_tr (m_tmp w2) g2))) (by
              simp only [kB]
              rw [if_pos hbit, hsh]
              exact g3)
            refine ⟨σ', ?_, e2, e3⟩
            have g1' : q_G9 (r + 1 + e) 0 θm (nI (zRm S n)) (nI r) (nI (v + 1)) (nI (dSh D + c + 1)) (nI (g + nWor (dC D F n (dSh D + c)) (dR D) v)) (nI (10 * d + n + 1)) τ3 = some ((), τ2) := g1
            rw [show zO (some v) = nI v from rfl, if_neg (zO_ne (by omega)), w1, zb, hw1, nI_1, nI_1, nI_add, g1', zb, zl, nI_1]
            exact e1
        · obtain ⟨σ', e1, e2, e3⟩ := ihk (n + 1) fuel τ (by omega) (by omega) h3 (by
            simp only [kB]
            rw [if_neg hbit]
            exact h4)
          refine ⟨σ', ?_, e2, e3⟩
          rw [if_neg hbit, if_neg (show ¬ (0 : Int32) = 1 by decide), zl, nI_1]
          exact e1
    obtain ⟨μ', e1, e2, e3⟩ := loop (dM D) 0 (199 - dM D) μ0 (by omega) (by omega) mFr_rf f2
    rw [show 199 - dM D + dM D + 1 = sv_N by unfold sv_N; omega] at e1
    refine ⟨μ', e1, mFr_tr f1 e2, ?_⟩
    show mS μ' (kB (kSh D F (dR D)) (kWo D F (dR D)) (kW (kSh D F (dR D)) (kWo D F (dR D)) r) S a c g d 6 (kU g d s))
    rw [kB_stop stop 6 hM6 (Nat.le_refl _)]
    exact e3
theorem m_bestOf {S n : Nat} (hO : mOk θm μ D F) (hn : n ≤ 6) (hk : kOk (dL D) n S 0 0 0 0) : ∃ μ', q_X8_bestOf θm (nI S) (nI n) μ = some (nI (kV D F (dR D) n S).1, μ') ∧ mFr mTmp μ μ' ∧ mS μ' (kV D F (dR D) n S) := by
  have hf1 : mFr mTmp μ (sv_sI (sv_sI μ 0 32 (-1)) 0 33 0) := mFr_tr (mFr_I ⟨rfl, by omega, by omega⟩) (mFr_I ⟨rfl, by omega, by omega⟩)
  have hf2 : mFr mTmp μ (sv_sI (sv_sI (sv_sI (sv_sI μ 0 32 (-1)) 0 33 0) 0 32 0) 0 33 0) := mFr_tr hf1 (mFr_tr (mFr_I ⟨rfl, by omega, by omega⟩) (mFr_I ⟨rfl, by omega, by omega⟩))
  have hs0 : mS (sv_sI (sv_sI (sv_sI (sv_sI μ 0 32 (-1)) 0 33 0) 0 32 0) 0 33 0) (0, 0) := ⟨zI_v, by rw [zI_o (by omega)]; exact zI_v, by decide, by decide⟩
  have h32 : (sv_sI (sv_sI μ 0 32 (-1)) 0 33 0).1 0 32 = -1 := by rw [zI_o (by omega)]; exact zI_v
  have O2 := mOk_tmp hO hf2
  obtain ⟨μ', g1, g2, g3⟩ := m_looks (θm := θm) n (7 - n) S 0 0 0 0 (0, 0) _ hk O2 hs0
  rw [show n + 1 + (7 - n) = 8 by omega] at g1
  have hsk := m_shakenMany (θm := θm) hO.1 (mOk_tmp hO hf1).2.1
  -- the first look sets the digits, as if it had stood at 0
  have key : ∀ τ : sv_S, τ.1 0 32 = -1 → q_X8_looks_b θm (q_G9 7) (nI S) (nI n) (nI 0) (nI (dSh D + 0)) (nI 0) (nI 0) τ = q_X8_looks_b θm (q_G9 7) (nI S) (nI n) (nI 0) (nI (dSh D + 0)) (nI 0) (nI 0) (sv_sI (sv_sI τ 0 32 0) 0 33 0) := fun τ hτ => by
    have a1 : (sv_sI (sv_sI τ 0 32 0) 0 33 0).1 0 32 = 0 := by rw [zI_o (by omega)]; exact zI_v
    have a2 : (sv_sI (sv_sI τ 0 32 0) 0 33 0).1 0 33 = 0 := zI_v
    unfold q_X8_looks_b
    rw [hτ, if_pos (show (-1 : Int32) = -1 from rfl), zl, zl, a1, if_neg (show ¬ (0 : Int32) = -1 by decide), a2, if_pos (show nI 0 ≤ 0 by decide)]
    rfl
  refine ⟨μ', ?_, mFr_tr hf2 g2, g3⟩
  have e8 : ∀ τ : sv_S, q_X8_looks θm 8 (nI S) (nI n) (0 : Int32) (nI (dSh D)) (0 : Int32) (0 : Int32) τ = q_X8_looks_b θm (q_G9 7) (nI S) (nI n) (nI 0) (nI (dSh D + 0)) (nI 0) (nI 0) τ := fun τ => rfl
  have g1' : q_X8_looks_b θm (q_G9 7) (nI S) (nI n) (nI 0) (nI (dSh D + 0)) (nI 0) (nI 0) (sv_sI (sv_sI (sv_sI (sv_sI μ 0 32 (-1)) 0 33 0) 0 32 0) 0 33 0) = some ((), μ') := g1
  unfold q_X8_bestOf
  rw [zl, zl, hsk, zb, e8, key _ h32, g1', zb, g3.1]
  rfl
end LKS

/-! ===== the grammar: not, one, and all together ===== -/
section GR3
variable {θ θm : sv_T} {t n m : Nat} {B : Nat → Nat}
theorem zN_m1 {F : Nat} (hF : F < 2147483648) : ¬ (-1 : Int32) = nI F := by
  intro q
  have : (-1 : Int32).toInt = (nI F).toInt := by rw [q]
  rw [z_nI hF] at this
  have e1 : (-1 : Int32).toInt = -1 := rfl
  omega
theorem x_dead0 {σ : sv_S} {F : Nat} (hF : F ≤ 160) (h : σ.1 13 1 = nI F) : ∀ (d k : Nat) (o : Int32), k ≤ 5 → 6 - k ≤ d → q_G4 d k θ o σ = some ((), σ) := by
  intro d
  induction d with
  | zero => intro k o hk hd; omega
  | succ d ih =>
    intro k o hk hd
    have hk6 : k = 0 ∨ k = 1 ∨ k = 2 ∨ k = 3 ∨ k = 4 ∨ k = 5 := by omega
    rcases hk6 with rfl | rfl | rfl | rfl | rfl | rfl
    · show q_X4_readOr_b θ (q_G4 d) o σ = _
      unfold q_X4_readOr_b
      rw [ih 1 o (by omega) (by omega), zb]
      show q_X4_readOr_B7_b θ (q_G4 d) o _ o 0 σ = _
      unfold q_X4_readOr_B7_b
      rw [if_neg (by decide), x_tokenD hF h, zb, if_neg (by decide)]
    · show q_X4_readAnd_b θ (q_G4 d) o σ = _
      unfold q_X4_readAnd_b
      rw [ih 2 o (by omega) (by omega), zb]
      show q_X4_readAnd_B7_b θ (q_G4 d) o _ o 0 σ = _
      unfold q_X4_readAnd_B7_b
      rw [if_neg (by decide), x_tokenD hF h, zb, if_neg (by decide)]
    · show q_X4_readNot_b θ (q_G4 d) o σ = _
      unfold q_X4_readNot_b
      rw [x_tokenD hF h, zb, if_neg (by decide), ih 3 o (by omega) (by omega), zb, x_tokenD hF h, zb, if_neg (by decide), if_neg (by decide)]
    · show q_X4_readSum_b θ (q_G4 d) o σ = _
      unfold q_X4_readSum_b
      rw [ih 4 o (by omega) (by omega), zb, x_tokenD hF h, zb]
      show q_X4_readSum_B12_b θ (q_G4 d) o _ o (-1) 0 σ = _
      unfold q_X4_readSum_B12_b
      rw [if_neg (by decide), if_neg (by decide), if_neg (by decide)]
    · show q_X4_readTerm_b θ (q_G4 d) o σ = _
      unfold q_X4_readTerm_b
      rw [ih 5 o (by omega) (by omega), zb]
      show q_X4_readTerm_B7_b θ (q_G4 d) o _ o 0 σ = _
      unfold q_X4_readTerm_B7_b
      rw [if_neg (by decide), x_tokenD hF h, zb, if_neg (by decide)]
    · show q_X4_readOne_b θ (q_G4 d) o σ = _
      unfold q_X4_readOne_b q_X4_readOne_B80
      rw [x_tokenD hF h, zb, if_neg (by decide), if_neg (by decide), if_neg (show ¬ (-1 : Int32) = 45 by decide), if_neg (show ¬ (-1 : Int32) = 40 by decide), x_failD hF h, zb]
      split <;> rfl
theorem m_open {j o : Nat} {μ : sv_S} (h : mG μ t n B j o) (ho : o < 5) (hs : zS B n j < n) (hK : zK B n (zS B n j) ≠ -1) : ∃ μ', q_X8_opens θm μ = some (1, μ') ∧ mFr mNx μ μ' ∧ mG μ' t n B (j + 1) (o + 1) := by
  unfold q_X8_opens
  obtain ⟨h1, h2, h3, h4⟩ := h
  rw [h3, if_neg (by rw [show (5 : Int32) = nI 5 from rfl, nI_eq (by omega) (by omega)]; omega), zl, nI_1]
  have hf : mFr mNx μ (sv_sI μ 0 24 (nI (o + 1))) := mFr_I ⟨rfl, by omega, by omega⟩
  have hg : mG (sv_sI μ 0 24 (nI (o + 1))) t n B j (o + 1) := by
    refine ⟨mB_fr h1 hf (by unfold mNx; omega) (by unfold mNx; omega) (fun j => by unfold mNx; omega), by rw [zI_o (by omega)]; exact h2, zI_v, ?_⟩
    unfold mTk
    rw [zI_o (by omega), zI_o (by omega), zI_o (by omega)]
    exact h4
  obtain ⟨μ', g1, g2, g3⟩ := m_next (θ := θm) hg hs hK
  exact ⟨μ', by rw [g1, zb], mFr_tr hf g2, g3⟩
theorem m_open5 {j : Nat} {μ : sv_S} (h : mG μ t n B j 5) : ∃ μ', q_X8_opens θm μ = some (0, μ') ∧ mFr mNx μ μ' ∧ μ'.1 0 25 = 1 ∧ μ'.1 0 26 = nI (zS B n j) := by
  unfold q_X8_opens
  obtain ⟨h1, h2, h3, h4⟩ := h
  rw [h3, if_pos (show nI 5 = (5 : Int32) from rfl), m_fail h2 h4.1, zb]
  exact ⟨_, rfl, mFr_tr (mFr_I ⟨rfl, by omega, by omega⟩) (mFr_I ⟨rfl, by omega, by omega⟩), by rw [zI_o (by omega)]; exact zI_v, zI_v⟩
theorem m_failX {j o : Nat} {μ : sv_S} (h : mG μ t n B j o) : ∃ μ', q_X8_fail θm μ = some ((), μ') ∧ mFr mNx μ μ' ∧ μ'.1 0 25 = 1 ∧ μ'.1 0 26 = nI (zS B n j) :=
  ⟨_, m_fail h.2.1 h.2.2.2.1, mFr_tr (mFr_I ⟨rfl, by omega, by omega⟩) (mFr_I ⟨rfl, by omega, by omega⟩), by rw [zI_o (by omega)]; exact zI_v, zI_v⟩
/-- open goes back by one -/
theorem m_close {j o : Nat} {μ : sv_S} (h : mG μ t n B j (o + 1)) (ho : o < 6) : sv_sI μ 0 24 ((μ.1 0 24) - (1 : Int32)) = sv_sI μ 0 24 (nI o) ∧ mFr mNx μ (sv_sI μ 0 24 (nI o)) ∧ mG (sv_sI μ 0 24 (nI o)) t n B j o := by
  obtain ⟨h1, h2, h3, h4⟩ := h
  have hf : mFr mNx μ (sv_sI μ 0 24 (nI o)) := mFr_I ⟨rfl, by omega, by omega⟩
  refine ⟨by rw [h3, nI_pred], hf, mB_fr h1 hf (by unfold mNx; omega) (by unfold mNx; omega) (fun j => by unfold mNx; omega), by rw [zI_o (by omega)]; exact h2, zI_v, ?_⟩
  unfold mTk
  rw [zI_o (by omega), zI_o (by omega), zI_o (by omega)]
  exact h4
theorem m_closeD {μ : sv_S} {F : Nat} {v : Int32} (h1 : μ.1 0 25 = 1) (h2 : μ.1 0 26 = nI F) : mFr mNx μ (sv_sI μ 0 24 v) ∧ (sv_sI μ 0 24 v).1 0 25 = 1 ∧ (sv_sI μ 0 24 v).1 0 26 = nI F :=
  ⟨mFr_I ⟨rfl, by omega, by omega⟩, by rw [zI_o (by omega)]; exact h1, by rw [zI_o (by omega)]; exact h2⟩
theorem z_code {nm : Nat → Int32} : (∀ (l : List Int32) (a : Int32), zSt nm (-8) (a :: l) = some ((if a = 0 then 1 else 0) :: l)) ∧ (∀ (l : List Int32) (a : Int32), zSt nm (-9) (a :: l) = some (-a :: l)) := ⟨fun l a => rfl, fun l a => rfl⟩
theorem g_fail {d k o j l : Nat} {σ : sv_S} (hE : zEnv B n m) (hB : sx_base θ) (hx : xG σ B n m j l) (hC : q_G4 d k θ (nI o) σ = sp_b (q_X4_fail θ σ) (fun _ σ2 => some ((), σ2))) (hM : ∀ μ, mG μ t n B j o → ∃ v μ', q_G8 d k θm μ = some (v, μ') ∧ mFr mNx μ μ' ∧ μ'.1 0 25 = 1 ∧ μ'.1 0 26 = nI (zS B n j)) : Res (q_G4 d k θ (nI o)) (q_G8 d k θm) t n m B o j l σ := by
  refine Or.inr ⟨sv_sI σ 13 1 (nI (zS B n j)), zS B n j, Nat.le_trans (zS_le j) hE.1, by rw [hC, x_fail hB hE hx, zb], zFr_I (Or.inl ⟨rfl, by omega⟩), zI_v, hM⟩
theorem g_not {d : Nat} (hB : sx_base θ) (hE : zEnv B n m) (hG2 : GP θ θm t n m B d 2) (hG3 : GP θ θm t n m B d 3) : GP θ θm t n m B (d + 1) 2 := by
  intro o j l σ ho hd hx
  have hm := zEnv_m hE
  have eC : q_G4 (d + 1) 2 θ (nI o) σ = q_X4_readNot_b θ (q_G4 d) (nI o) σ := rfl
  have eM : ∀ μ, q_G8 (d + 1) 2 θm μ = q_X8_not_b θm (q_G8 d) μ := fun _ => rfl
  have eW : ∀ μ, mG μ t n B j o → q_X8_isWord θm (110 : Int32) (111 : Int32) (116 : Int32) (0 : Int32) (0 : Int32) (0 : Int32) (0 : Int32) (0 : Int32) μ = some (if zWa B n (zS B n j) = 11 then 1 else 0, μ) := fun μ hμ => m_isWord (θ := θm) (w := 11) hμ (by omega)
  by_cases h8 : zK B n (zS B n j) = 8
  · have hw : zWa B n (zS B n j) = 11 := (zK_key (w := 11) (by omega) (by omega)).mp h8
    have hjm := zEnv_K0 hE hx.2.2.2.2.1 (by rw [h8]; decide)
    have hsj := hE.2.2.1 j hjm
    by_cases ho5 : o < 5
    · obtain ⟨ha0, ha1, ha2⟩ := x_adv hx hjm
      have e1 : nI o + 1 = nI (o + 1) := nI_1 o
      have eC2 : q_X4_readNot_b θ (q_G4 d) (nI o) σ = sp_b (q_G4 d 2 θ (nI (o + 1)) (sv_sI σ 13 7 (nI (j + 1)))) (fun _ σ18 => sp_b (q_X4_emit θ (-8) σ18) (fun _ σ20 => some ((), σ20))) := by
        unfold q_X4_readNot_b
        rw [x_token hB hE hx, zb, if_pos h8, if_pos (show nI o < (5 : Int32) from nI_lt (b := 5) ho5 (by omega)), zl, ha0, e1]
      have eM2 : ∀ μ, mG μ t n B j o → ∃ μ', mFr mNx μ μ' ∧ mG μ' t n B (j + 1) (o + 1) ∧ q_X8_not_b θm (q_G8 d) μ = sp_b (q_G8 d 2 θm μ') (fun r24 σ25 => sp_l (sv_sI σ25 0 24 ((σ25.1 0 24) - (1 : Int32))) (fun σ26 => if r24 = 0 then (some ((1 : Int32), σ26)) else some ((0 : Int32), σ26))) := fun μ hμ => by
        obtain ⟨μ', g1, g2, g3⟩ := m_open (θm := θm) hμ ho5 hsj (by rw [h8]; decide)
        refine ⟨μ', g2, g3, ?_⟩
        unfold q_X8_not_b
        rw [eW μ hμ, zb, z_r01, if_pos hw, g1, zb, if_neg (by decide)]
      rcases hG2 (o + 1) (j + 1) l _ (by omega) (by omega) ha2 with ⟨σ', j', l', f, q1, q2, q3, q4, q5, q6, q7, q8⟩ | ⟨σ', F, qF, q1, q2, q3, q4⟩
      · have hll := (q7 (fun _ => 0)).1
        obtain ⟨σ2, z1, z2, z3, z4, z5⟩ := x_emit (θ := θ) (v := -8) hB hE q3 (by have := q3.2.2.2.2.1; have := q3.2.2.2.1; have := hx.2.2.2.1; omega) (by have := hx.2.2.2.1; omega)
        refine Or.inl ⟨σ2, j', l' + 1, fun nm => if f nm = 0 then 1 else 0, ?_, zFr_tr ha1 (zFr_tr q2 z2), z3, by omega, by omega, fun i hi => ?_, fun nm => ?_, fun μ hμ => ?_⟩
        · rw [eC, eC2, q1, zb, z1, zb]
        · rw [z5 i (by omega), q6 i hi, zI_o (by omega)]
        · exact zSg_un (zSg_code (q7 nm) (fun k h1 h2 => z5 k (by omega))) (by rw [z4]; decide) (fun l => by rw [z4]; exact z_code.1 l _)
        · obtain ⟨μ1, w1, w2, w3⟩ := eM2 μ hμ
          obtain ⟨μ2, w4, w5, w6⟩ := q8 μ1 w2
          obtain ⟨c1, c2, c3⟩ := m_close w6 (by omega)
          refine ⟨_, ?_, mFr_tr w1 (mFr_tr w5 c2), c3⟩
          rw [eM, w3, w4, zb, zl, c1, zNm_fr w1]
          by_cases hv : f (zNm μ) = 0
          · rw [if_pos hv]
            show _ = some ((if f (zNm μ) = 0 then 1 else 0), _)
            rw [if_pos hv]
          · rw [if_neg hv]
            show _ = some ((if f (zNm μ) = 0 then 1 else 0), _)
            rw [if_neg hv]
      · obtain ⟨σ2, z1, z2, z3⟩ := x_emitD (θ := θ) hB (σ := σ') (v := -8)
        refine Or.inr ⟨σ2, F, qF, ?_, zFr_tr ha1 (zFr_tr q2 z2), by rw [z3]; exact q3, fun μ hμ => ?_⟩
        · rw [eC, eC2, q1, zb, z1, zb]
        · obtain ⟨μ1, w1, w2, w3⟩ := eM2 μ hμ
          obtain ⟨v, μ2, w4, w5, w6, w7⟩ := q4 μ1 w2
          obtain ⟨c1, c2, c3⟩ := m_closeD (v := (μ2.1 0 24) - (1 : Int32)) w6 w7
          by_cases hv : v = 0
          · exact ⟨1, _, by rw [eM, w3, w4, zb, zl, if_pos hv], mFr_tr w1 (mFr_tr w5 c1), c2, c3⟩
          · exact ⟨0, _, by rw [eM, w3, w4, zb, zl, if_neg hv], mFr_tr w1 (mFr_tr w5 c1), c2, c3⟩
    · have : o = 5 := by omega
      subst this
      refine g_fail hE hB hx ?_ (fun μ hμ => ?_)
      · rw [eC]
        unfold q_X4_readNot_b
        rw [x_token hB hE hx, zb, if_pos h8, if_neg (show ¬ nI 5 < (5 : Int32) by decide)]
      · obtain ⟨μ', g1, g2, g3, g4⟩ := m_open5 (θm := θm) hμ
        refine ⟨0, μ', ?_, g2, g3, g4⟩
        rw [eM]
        unfold q_X8_not_b
        rw [eW μ hμ, zb, z_r01, if_pos hw, g1, zb, if_pos rfl]
  · have hw : ¬ zWa B n (zS B n j) = 11 := fun q => h8 ((zK_key (w := 11) (by omega) (by omega)).mpr q)
    have eC2 : q_X4_readNot_b θ (q_G4 d) (nI o) σ = sp_b (q_G4 d 3 θ (nI o) σ) (fun _ σ5 => sp_b (q_X4_token θ σ5) (fun r6 σ7 => if r6 = (60 : Int32) then (q_X4_readNot_B65 θ (q_G4 d) (nI o) (nI o) r6 σ7) else if r6 = (61 : Int32) then (q_X4_readNot_B65 θ (q_G4 d) (nI o) (nI o) r6 σ7) else some ((), σ7))) := by
      unfold q_X4_readNot_b
      rw [x_token hB hE hx, zb, if_neg h8]
    have eM2 : ∀ μ, mG μ t n B j o → q_X8_not_b θm (q_G8 d) μ = sp_b (q_G8 d 3 θm μ) (fun r4 σ5 => sp_b (q_X8_isSign θm (60 : Int32) σ5) (fun r6 σ7 => if r6 = 0 then (sp_b (q_X8_isSign θm (61 : Int32) σ7) (fun r17 σ18 => if r17 = 0 then (some (r4, σ18)) else if (lg_cmp (σ18.2.1 0 23) (60 : Int64)) = 0 then (q_X8_not_B93 θm (q_G8 d) r4 (1 : Int32) σ18) else q_X8_not_B93 θm (q_G8 d) r4 (0 : Int32) σ18)) else if (lg_cmp (σ7.2.1 0 23) (60 : Int64)) = 0 then (q_X8_not_B93 θm (q_G8 d) r4 (1 : Int32) σ7) else q_X8_not_B93 θm (q_G8 d) r4 (0 : Int32) σ7)) := fun μ hμ => by
      unfold q_X8_not_b
      rw [eW μ hμ, zb, z_r01, if_neg hw]
    rcases hG3 o j l σ ho (by omega) hx with ⟨σ', j', l', f, q1, q2, q3, q4, q5, q6, q7, q8⟩ | ⟨σ', F, qF, q1, q2, q3, q4⟩
    · have hll := (q7 (fun _ => 0)).1
      have hlx := hx.2.2.2.1
      have hsgn : ∀ μ1, mG μ1 t n B j' o → q_X8_isSign θm (60 : Int32) μ1 = some (if zK B n (zS B n j') = 60 then 1 else 0, μ1) ∧ q_X8_isSign θm (61 : Int32) μ1 = some (if zK B n (zS B n j') = 61 then 1 else 0, μ1) := fun μ1 hμ1 => ⟨m_isSign (θ := θm) (c := 60) hμ1 (by decide), m_isSign (θ := θm) (c := 61) hμ1 (by decide)⟩
      by_cases hrel : zK B n (zS B n j') = 60 ∨ zK B n (zS B n j') = 61
      · have hjm := zEnv_K0 hE q3.2.2.2.2.1 (by rcases hrel with q | q <;> rw [q] <;> decide)
        have hsj := hE.2.2.1 j' hjm
        obtain ⟨ha0, ha1, ha2⟩ := x_adv q3 hjm
        have hop : -(zK B n (zS B n j')) ≠ -59 ∧ ∀ (nm : Nat → Int32) (l : List Int32) (a b : Int32), zSt nm (-(zK B n (zS B n j'))) (b :: a :: l) = some (zJoin (zK B n (zS B n j')) a b :: l) := by
          rcases hrel with q | q
          · rw [q]; exact (z_op (c := 60) (by omega) (by omega) (by omega) (by omega) (by omega)).2.2
          · rw [q]; exact (z_op (c := 61) (by omega) (by omega) (by omega) (by omega) (by omega)).2.2
        have eC3 : q_G4 (d + 1) 2 θ (nI o) σ = sp_b (q_G4 d 3 θ (nI o) (sv_sI σ' 13 7 (nI (j' + 1)))) (fun _ σ11 => sp_b (q_X4_emit θ (-(zK B n (zS B n j'))) σ11) (fun _ σ13 => some ((), σ13))) := by
          have fin : q_X4_readNot_B65 θ (q_G4 d) (nI o) (nI o) (zK B n (zS B n j')) σ' = sp_b (q_G4 d 3 θ (nI o) (sv_sI σ' 13 7 (nI (j' + 1)))) (fun _ σ11 => sp_b (q_X4_emit θ (-(zK B n (zS B n j'))) σ11) (fun _ σ13 => some ((), σ13))) := by
            unfold q_X4_readNot_B65
            rw [zl, ha0]
          rw [eC, eC2, q1, zb, x_token hB hE q3, zb]
          rcases hrel with q | q
          · rw [if_pos q]; exact fin
          · rw [if_neg (by rw [q]; decide), if_pos q]; exact fin
        have eM3 : ∀ μ, mG μ t n B j o → ∃ μ', mFr mNx μ μ' ∧ mG μ' t n B (j' + 1) o ∧ q_G8 (d + 1) 2 θm μ = sp_b (q_G8 d 3 θm μ') (fun r12 σ13 => some (zJoin (zK B n (zS B n j')) (f (zNm μ)) r12, σ13)) := fun μ hμ => by
          obtain ⟨μ1, w1, w2, w3⟩ := q8 μ hμ
          obtain ⟨μ2, w4, w5, w6⟩ := m_next (θ := θm) w3 hsj (by rcases hrel with q | q <;> rw [q] <;> decide)
          refine ⟨μ2, mFr_tr w2 w5, w6, ?_⟩
          obtain ⟨s60, s61⟩ := hsgn μ1 w3
          rw [eM, eM2 μ hμ, w1, zb, s60, zb, z_r01]
          rcases hrel with q | q
          · have hJ := m_signJ w3 (c := 60) (by decide) q
            rw [if_pos q, hJ, if_pos (by decide), q]
            unfold q_X8_not_B93
            rw [w4, zb]
            congr 1
            funext r12 σ13
            rw [if_neg (by decide)]
            show _ = some ((if f (zNm μ) < r12 then 1 else 0), σ13)
            by_cases hc : f (zNm μ) < r12
            · rw [if_pos hc, if_neg (by rw [z_lt] at hc; rw [z_le]; omega)]
            · rw [if_neg hc, if_pos (by rw [z_lt] at hc; rw [z_le]; omega)]
          · have hJ := m_signJ w3 (c := 61) (by decide) q
            rw [if_neg (by rw [q]; decide), s61, zb, z_r01, if_pos q, hJ, if_neg (by decide), q]
            unfold q_X8_not_B93
            rw [w4, zb]
            congr 1
            funext r12 σ13
            rw [if_pos rfl]
            show _ = some ((if f (zNm μ) = r12 then 1 else 0), σ13)
            by_cases hc : f (zNm μ) = r12
            · rw [if_pos hc, if_pos hc]
            · rw [if_neg hc, if_neg hc]
        have hl'j := q3.2.2.2.1
        rcases hG3 o (j' + 1) l' _ ho (by omega) ha2 with ⟨σ3, j3, l3, f3, p1, p2, p3, p4, p5, p6, p7, p8⟩ | ⟨σ3, F, pF, p1, p2, p3, p4⟩
        · have hl3 := (p7 (fun _ => 0)).1
          obtain ⟨σ4, z1, z2, z3, z4, z5⟩ := x_emit (θ := θ) (v := -(zK B n (zS B n j'))) hB hE p3 (by have := p3.2.2.2.2.1; omega) (by omega)
          have hsame : ∀ x, x < l' → σ4.1 18 x = σ'.1 18 x := fun x hx2 => by rw [z5 x (by omega), p6 x hx2, zI_o (by omega)]
          refine Or.inl ⟨σ4, j3, l3 + 1, fun nm => zJoin (zK B n (zS B n j')) (f nm) (f3 nm), by rw [eC3, p1, zb, z1, zb], zFr_tr q2 (zFr_tr ha1 (zFr_tr p2 z2)), z3, by omega, by omega, fun i hi => by rw [hsame i (by omega), q6 i hi], fun nm => ?_, fun μ hμ => ?_⟩
          · exact zSg_bin (zSg_code (q7 nm) (fun k _ h2 => hsame k h2)) (zSg_code (p7 nm) (fun k h1 h2 => z5 k (by omega))) (by rw [z4]; exact hop.1) (fun l => by rw [z4]; exact hop.2 nm l _ _)
          · obtain ⟨μ1, w1, w2, w3⟩ := eM3 μ hμ
            obtain ⟨μ2, w4, w5, w6⟩ := p8 μ1 w2
            exact ⟨μ2, by rw [w3, w4, zb, zNm_fr w1], mFr_tr w1 w5, w6⟩
        · obtain ⟨σ4, z1, z2, z3⟩ := x_emitD (θ := θ) hB (σ := σ3) (v := -(zK B n (zS B n j')))
          refine Or.inr ⟨σ4, F, pF, by rw [eC3, p1, zb, z1, zb], zFr_tr q2 (zFr_tr ha1 (zFr_tr p2 z2)), by rw [z3]; exact p3, fun μ hμ => ?_⟩
          obtain ⟨μ1, w1, w2, w3⟩ := eM3 μ hμ
          obtain ⟨v, μ2, w4, w5, w6, w7⟩ := p4 μ1 w2
          exact ⟨_, μ2, by rw [w3, w4, zb], mFr_tr w1 w5, w6, w7⟩
      · have h60 : ¬ zK B n (zS B n j') = 60 := fun q => hrel (Or.inl q)
        have h61 : ¬ zK B n (zS B n j') = 61 := fun q => hrel (Or.inr q)
        refine Or.inl ⟨σ', j', l', f, ?_, q2, q3, q4, q5, q6, q7, fun μ hμ => ?_⟩
        · rw [eC, eC2, q1, zb, x_token hB hE q3, zb, if_neg h60, if_neg h61]
        · obtain ⟨μ1, w1, w2, w3⟩ := q8 μ hμ
          obtain ⟨s60, s61⟩ := hsgn μ1 w3
          exact ⟨μ1, by rw [eM, eM2 μ hμ, w1, zb, s60, zb, z_r01, if_neg h60, s61, zb, z_r01, if_neg h61], w2, w3⟩
    · refine Or.inr ⟨σ', F, qF, ?_, q2, q3, fun μ hμ => ?_⟩
      · rw [eC, eC2, q1, zb, x_tokenD qF q3, zb, if_neg (by decide), if_neg (by decide)]
      · obtain ⟨v, μ1, w1, w2, w3, w4⟩ := q4 μ hμ
        exact ⟨v, μ1, by rw [eM, eM2 μ hμ, w1, zb, m_signD w3, zb, if_pos rfl, m_signD w3, zb, if_pos rfl], w2, w3, w4⟩
end GR3

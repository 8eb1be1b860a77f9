/-! ===== the grammar: one, and the whole of it ===== -/
section GR5
variable {θ θm : sv_T} {t n m : Nat} {B : Nat → Nat}
theorem z_nm6 : ∀ w, w < 6 → ((-100 : Int32) - nI w < 0 ∧ ¬ (-100 : Int32) < (-100 : Int32) - nI w) ∧ ((-100 : Int32) - ((-100 : Int32) - nI w) = nI w ∧ ¬ (-100 : Int32) - nI w = -59) := by decide +kernel
theorem g_one {d : Nat} (hB : sx_base θ) (hE : zEnv B n m) (hG0 : GP θ θm t n m B d 0) (hG5 : GP θ θm t n m B d 5) : GP θ θm t n m B (d + 1) 5 := by
  intro o j l σ ho hd hx
  have hm := zEnv_m hE
  have eC : q_G4 (d + 1) 5 θ (nI o) σ = q_X4_readOne_b θ (q_G4 d) (nI o) σ := rfl
  have eM : ∀ μ, q_G8 (d + 1) 5 θm μ = q_X8_atom_b θm (q_G8 d) μ := fun _ => rfl
  have s45 : ∀ μ, mG μ t n B j o → q_X8_isSign θm (45 : Int32) μ = some (if zK B n (zS B n j) = 45 then 1 else 0, μ) := fun μ h => m_isSign (θ := θm) (c := 45) h (by decide)
  have s40 : ∀ μ, mG μ t n B j o → q_X8_isSign θm (40 : Int32) μ = some (if zK B n (zS B n j) = 40 then 1 else 0, μ) := fun μ h => m_isSign (θ := θm) (c := 40) h (by decide)
  have hjm0 := hx.2.2.2.2.1
  have hlj := hx.2.2.2.1
  by_cases k1 : zK B n (zS B n j) = 1
  · have hjm := zEnv_K0 hE hjm0 (by rw [k1]; decide)
    have hsj := hE.2.2.1 j hjm
    obtain ⟨σ', a1, a2, a3, a4, a5⟩ := x_one hB hE hx hjm (q_G4 d) (nI o)
    have hz := zK_1 k1
    have hmn : zMn B n (zS B n j) = nI (zNv B (zS B n j) (zTe B n (zS B n j) - zS B n j)) := by
      unfold zMn
      rw [if_neg (show ¬ n ≤ zS B n j by omega), if_neg hz.2.1, if_pos hz.2.2.1]
    have hv := zNv_ok hz.1 hz.2.1 hz.2.2.1
    have hpos := nI_pos (n := zNv B (zS B n j) (zTe B n (zS B n j) - zS B n j)) (by omega)
    have h59 : ¬ nI (zNv B (zS B n j) (zTe B n (zS B n j) - zS B n j)) = -59 := fun q => by
      rw [q] at hpos
      exact hpos (by decide)
    refine Or.inl ⟨σ', j + 1, l + 1, fun _ => nI (zNv B (zS B n j) (zTe B n (zS B n j) - zS B n j)), ?_, a2, a3, by omega, by omega, fun i hi => a5 i (by omega), fun nm => ?_, fun μ hμ => ?_⟩
    · rw [eC]
      unfold q_X4_readOne_b
      rw [x_token hB hE hx, zb, if_pos k1, a1]
    · refine zSg_one (by rw [a4, hmn]; exact h59) (fun l => ?_)
      rw [a4, hmn]
      unfold zSt
      rw [if_neg hpos]
    · obtain ⟨μ', g1, g2, g3⟩ := m_next (θ := θm) hμ hsj (by rw [k1]; decide)
      refine ⟨μ', ?_, g2, g3⟩
      rw [eM]
      unfold q_X8_atom_b
      rw [s45 μ hμ, zb, z_r01, if_neg (show ¬ zK B n (zS B n j) = 45 by rw [k1]; decide), s40 μ hμ, zb, z_r01, if_neg (show ¬ zK B n (zS B n j) = 40 by rw [k1]; decide), if_pos hμ.2.1, if_pos ((m_kind2 hμ).mpr k1), zl, g1, zb, m_num hμ k1, l_nI (by omega)]
  · by_cases k2 : zK B n (zS B n j) = 2
    · have hjm := zEnv_K0 hE hjm0 (by rw [k2]; decide)
      have hsj := hE.2.2.1 j hjm
      have hw := zK_2.mp k2
      obtain ⟨σ', a1, a2, a3, a4, a5⟩ := x_one hB hE hx hjm (q_G4 d) (nI o)
      have hl : zLe (B (zS B n j)) = true := by
        unfold zWa at hw
        by_cases q : zS B n j < n ∧ zLe (B (zS B n j)) = true
        · exact q.2
        · rw [if_neg q] at hw; omega
      have hwa : zWd B (zS B n j) (zTe B n (zS B n j) - zS B n j) = zWa B n (zS B n j) := by
        unfold zWa
        rw [if_pos (show zS B n j < n ∧ zLe (B (zS B n j)) = true from ⟨hsj, hl⟩)]
      have hmn : zMn B n (zS B n j) = -100 - nI (zWa B n (zS B n j)) := by
        unfold zMn
        rw [if_neg (show ¬ n ≤ zS B n j by omega), if_pos hl, hwa, if_pos hw]
      obtain ⟨⟨b1, b2⟩, b3, b4⟩ := z_nm6 _ hw
      refine Or.inl ⟨σ', j + 1, l + 1, fun nm => zat 6 nm (nI (zWa B n (zS B n j))), ?_, a2, a3, by omega, by omega, fun i hi => a5 i (by omega), fun nm => ?_, fun μ hμ => ?_⟩
      · rw [eC]
        unfold q_X4_readOne_b
        rw [x_token hB hE hx, zb, if_neg k1, if_pos k2, a1]
      · refine zSg_one (by rw [a4, hmn]; exact b4) (fun l => ?_)
        rw [a4, hmn]
        unfold zSt
        rw [if_pos b1, if_neg b2, b3]
      · obtain ⟨μ', g1, g2, g3⟩ := m_next (θ := θm) hμ hsj (by rw [k2]; decide)
        refine ⟨μ', ?_, g2, g3⟩
        rw [eM]
        unfold q_X8_atom_b
        rw [s45 μ hμ, zb, z_r01, if_neg (show ¬ zK B n (zS B n j) = 45 by rw [k2]; decide), s40 μ hμ, zb, z_r01, if_neg (show ¬ zK B n (zS B n j) = 40 by rw [k2]; decide), if_pos hμ.2.1, if_neg (fun q => k1 ((m_kind2 hμ).mp q))]
        unfold q_X8_atom_B123
        rw [if_pos hμ.2.1, if_pos ((m_kind1 hμ).mpr ⟨hsj, hl⟩), m_nameS hμ hw, zb, if_pos hμ.2.1, g1, zb]
        show _ = some (zat 6 (zNm μ) (nI (zWa B n (zS B n j))), μ')
        rw [zat_nI hw (by omega)]
    · by_cases k45 : zK B n (zS B n j) = 45
      · have hjm := zEnv_K0 hE hjm0 (by rw [k45]; decide)
        have hsj := hE.2.2.1 j hjm
        by_cases ho5 : o < 5
        · obtain ⟨ha0, ha1, ha2⟩ := x_adv hx hjm
          have eC2 : q_X4_readOne_b θ (q_G4 d) (nI o) σ = sp_b (q_G4 d 5 θ (nI (o + 1)) (sv_sI σ 13 7 (nI (j + 1)))) (fun _ σ25 => sp_b (q_X4_emit θ (-9) σ25) (fun _ σ27 => some ((), σ27))) := by
            unfold q_X4_readOne_b
            rw [x_token hB hE hx, zb, if_neg k1, if_neg k2, if_neg (show ¬ (5 : Int32) ≤ nI o from nI_ge (b := 5) ho5 (by omega)), if_pos k45, zl, ha0, nI_1]
          have eM2 : ∀ μ, mG μ t n B j o → ∃ μ', mFr mNx μ μ' ∧ mG μ' t n B (j + 1) (o + 1) ∧ q_X8_atom_b θm (q_G8 d) μ = sp_b (q_G8 d 5 θm μ') (fun r40 σ41 => sp_l (-r40) (fun v42 => sp_l (sv_sI σ41 0 24 ((σ41.1 0 24) - (1 : Int32))) (fun σ43 => some (v42, σ43)))) := fun μ hμ => by
            obtain ⟨μ', g1, g2, g3⟩ := m_open (θm := θm) hμ ho5 hsj (by rw [k45]; decide)
            refine ⟨μ', g2, g3, ?_⟩
            unfold q_X8_atom_b
            rw [s45 μ hμ, zb, z_r01, if_pos k45, g1, zb, if_neg (show ¬ (1 : Int32) = 0 by decide)]
          rcases hG5 (o + 1) (j + 1) l _ (by omega) (by omega) ha2 with ⟨σ', j', l', f, q1, q2, q3, q4, q5, q6, q7, q8⟩ | ⟨σ', F, qF, q1, q2, q3, q4⟩
          · have hll := (q7 (fun _ => 0)).1
            obtain ⟨σ2, z1, z2, z3, z4, z5⟩ := x_emit (θ := θ) (v := -9) hB hE q3 (by have := q3.2.2.2.2.1; omega) (by omega)
            refine Or.inl ⟨σ2, j', l' + 1, fun nm => -(f nm), ?_, zFr_tr ha1 (zFr_tr q2 z2), z3, by omega, by omega, fun i hi => ?_, fun nm => ?_, fun μ hμ => ?_⟩
            · rw [eC, eC2, q1, zb, z1, zb]
            · rw [z5 i (by omega), q6 i hi, zI_o (by omega)]
            · exact zSg_un (zSg_code (q7 nm) (fun k h1 h2 => z5 k (by omega))) (by rw [z4]; decide) (fun l => by rw [z4]; exact z_code.2 l _)
            · obtain ⟨μ1, w1, w2, w3⟩ := eM2 μ hμ
              obtain ⟨μ2, w4, w5, w6⟩ := q8 μ1 w2
              obtain ⟨c1, c2, c3⟩ := m_close w6 (by omega)
              refine ⟨_, ?_, mFr_tr w1 (mFr_tr w5 c2), c3⟩
              rw [eM, w3, w4, zb, zl, zl, c1, zNm_fr w1]
          · obtain ⟨σ2, z1, z2, z3⟩ := x_emitD (θ := θ) hB (σ := σ') (v := -9)
            refine Or.inr ⟨σ2, F, qF, ?_, zFr_tr ha1 (zFr_tr q2 z2), by rw [z3]; exact q3, fun μ hμ => ?_⟩
            · rw [eC, eC2, q1, zb, z1, zb]
            · obtain ⟨μ1, w1, w2, w3⟩ := eM2 μ hμ
              obtain ⟨v, μ2, w4, w5, w6, w7⟩ := q4 μ1 w2
              obtain ⟨c1, c2, c3⟩ := m_closeD (v := (μ2.1 0 24) - (1 : Int32)) w6 w7
              exact ⟨-v, _, by rw [eM, w3, w4, zb, zl, zl], mFr_tr w1 (mFr_tr w5 c1), c2, c3⟩
        · have : o = 5 := by omega
          subst this
          refine g_fail hE hB hx ?_ (fun μ hμ => ?_)
          · rw [eC]
            unfold q_X4_readOne_b q_X4_readOne_B80
            rw [x_token hB hE hx, zb, if_neg k1, if_neg k2, if_pos (show (5 : Int32) ≤ nI 5 by decide), if_pos (show (5 : Int32) ≤ nI 5 by decide)]
          · obtain ⟨μ', g1, g2, g3, g4⟩ := m_open5 (θm := θm) hμ
            refine ⟨0, μ', ?_, g2, g3, g4⟩
            rw [eM]
            unfold q_X8_atom_b
            rw [s45 μ hμ, zb, z_r01, if_pos k45, g1, zb, if_pos (show (0 : Int32) = 0 from rfl)]
      · by_cases k40 : zK B n (zS B n j) = 40
        · have hjm := zEnv_K0 hE hjm0 (by rw [k40]; decide)
          have hsj := hE.2.2.1 j hjm
          by_cases ho5 : o < 5
          · obtain ⟨ha0, ha1, ha2⟩ := x_adv hx hjm
            have eC2 : q_X4_readOne_b θ (q_G4 d) (nI o) σ = sp_b (q_G4 d 0 θ (nI (o + 1)) (sv_sI σ 13 7 (nI (j + 1)))) (fun _ σ19 => sp_b (q_X4_expect θ (41 : Int32) σ19) (fun _ σ21 => some ((), σ21))) := by
              unfold q_X4_readOne_b q_X4_readOne_B80
              rw [x_token hB hE hx, zb, if_neg k1, if_neg k2, if_neg (show ¬ (5 : Int32) ≤ nI o from nI_ge (b := 5) ho5 (by omega)), if_neg k45, if_neg (show ¬ (5 : Int32) ≤ nI o from nI_ge (b := 5) ho5 (by omega)), if_pos k40, zl, ha0, nI_1]
            have eM2 : ∀ μ, mG μ t n B j o → ∃ μ', mFr mNx μ μ' ∧ mG μ' t n B (j + 1) (o + 1) ∧ q_X8_atom_b θm (q_G8 d) μ = sp_b (q_G8 d 0 θm μ') (fun r26 σ27 => sp_b (q_X8_isSign θm (41 : Int32) σ27) (fun r28 σ29 => if r28 = 0 then (sp_b (q_X8_fail θm σ29) (fun _ σ36 => q_X8_atom_B71 θm (q_G8 d) r26 σ36)) else q_X8_atom_B71 θm (q_G8 d) r26 σ29)) := fun μ hμ => by
              obtain ⟨μ', g1, g2, g3⟩ := m_open (θm := θm) hμ ho5 hsj (by rw [k40]; decide)
              refine ⟨μ', g2, g3, ?_⟩
              unfold q_X8_atom_b
              rw [s45 μ hμ, zb, z_r01, if_neg k45, s40 μ hμ, zb, z_r01, if_pos k40, g1, zb, if_neg (show ¬ (1 : Int32) = 0 by decide)]
            rcases hG0 (o + 1) (j + 1) l _ (by omega) (by omega) ha2 with ⟨σ', j', l', f, q1, q2, q3, q4, q5, q6, q7, q8⟩ | ⟨σ', F, qF, q1, q2, q3, q4⟩
            · have hll := (q7 (fun _ => 0)).1
              have s41 : ∀ μ1, mG μ1 t n B j' (o + 1) → q_X8_isSign θm (41 : Int32) μ1 = some (if zK B n (zS B n j') = 41 then 1 else 0, μ1) := fun μ1 h => m_isSign (θ := θm) (c := 41) h (by decide)
              by_cases k41 : zK B n (zS B n j') = 41
              · have hjm' := zEnv_K0 hE q3.2.2.2.2.1 (by rw [k41]; decide)
                have hsj' := hE.2.2.1 j' hjm'
                obtain ⟨hb0, hb1, hb2⟩ := x_adv q3 hjm'
                refine Or.inl ⟨_, j' + 1, l', f, ?_, zFr_tr ha1 (zFr_tr q2 hb1), hb2, by omega, by omega, fun i hi => ?_, fun nm => ?_, fun μ hμ => ?_⟩
                · rw [eC, eC2, q1, zb]
                  unfold q_X4_expect
                  rw [x_token hB hE q3, zb, if_pos k41, zl, hb0, zb]
                · rw [zI_o (by omega), q6 i hi, zI_o (by omega)]
                · exact zSg_code (q7 nm) (fun k h1 h2 => zI_o (by omega))
                · obtain ⟨μ1, w1, w2, w3⟩ := eM2 μ hμ
                  obtain ⟨μ2, w4, w5, w6⟩ := q8 μ1 w2
                  obtain ⟨c1, c2, c3⟩ := m_close w6 (by omega)
                  obtain ⟨μ3, g1, g2, g3⟩ := m_next (θ := θm) c3 hsj' (by rw [k41]; decide)
                  refine ⟨μ3, ?_, mFr_tr w1 (mFr_tr w5 (mFr_tr c2 g2)), g3⟩
                  rw [eM, w3, w4, zb, s41 μ2 w6, zb, z_r01, if_pos k41]
                  unfold q_X8_atom_B71
                  rw [zl, c1, if_pos c3.2.1, g1, zb, zNm_fr w1]
              · refine Or.inr ⟨sv_sI σ' 13 1 (nI (zS B n j')), zS B n j', Nat.le_trans (zS_le j') hE.1, ?_, zFr_tr ha1 (zFr_tr q2 (zFr_I (Or.inl ⟨rfl, by omega⟩))), zI_v, fun μ hμ => ?_⟩
                · rw [eC, eC2, q1, zb]
                  unfold q_X4_expect
                  rw [x_token hB hE q3, zb, if_neg k41, x_fail hB hE q3, zb, zb]
                · obtain ⟨μ1, w1, w2, w3⟩ := eM2 μ hμ
                  obtain ⟨μ2, w4, w5, w6⟩ := q8 μ1 w2
                  obtain ⟨c1, c2, c3⟩ := m_bad w6
                  obtain ⟨e1, e2, e3⟩ := m_closeD (v := ((sv_sI (sv_sI μ2 0 25 1) 0 26 (nI (zS B n j'))).1 0 24) - (1 : Int32)) c2 c3
                  refine ⟨f (zNm μ1), _, ?_, mFr_tr w1 (mFr_tr w5 (mFr_tr c1 e1)), e2, e3⟩
                  rw [eM, w3, w4, zb, s41 μ2 w6, zb, z_r01, if_neg k41, m_fail w6.2.1 w6.2.2.2.1, zb]
                  unfold q_X8_atom_B71
                  rw [zl, e2, if_neg (show ¬ (1 : Int32) = 0 by decide)]
            · refine Or.inr ⟨σ', F, qF, ?_, zFr_tr ha1 q2, q3, fun μ hμ => ?_⟩
              · rw [eC, eC2, q1, zb]
                unfold q_X4_expect
                rw [x_tokenD qF q3, zb, if_neg (show ¬ (-1 : Int32) = 41 by decide), x_failD qF q3, zb, zb]
              · obtain ⟨μ1, w1, w2, w3⟩ := eM2 μ hμ
                obtain ⟨v, μ2, w4, w5, w6, w7⟩ := q4 μ1 w2
                obtain ⟨e1, e2, e3⟩ := m_closeD (v := (μ2.1 0 24) - (1 : Int32)) w6 w7
                refine ⟨v, _, ?_, mFr_tr w1 (mFr_tr w5 e1), e2, e3⟩
                rw [eM, w3, w4, zb, m_signD w6, zb, if_pos (show (0 : Int32) = 0 from rfl), m_failD w6, zb]
                unfold q_X8_atom_B71
                rw [zl, e2, if_neg (show ¬ (1 : Int32) = 0 by decide)]
          · have : o = 5 := by omega
            subst this
            refine g_fail hE hB hx ?_ (fun μ hμ => ?_)
            · rw [eC]
              unfold q_X4_readOne_b q_X4_readOne_B80
              rw [x_token hB hE hx, zb, if_neg k1, if_neg k2, if_pos (show (5 : Int32) ≤ nI 5 by decide), if_pos (show (5 : Int32) ≤ nI 5 by decide)]
            · obtain ⟨μ', g1, g2, g3, g4⟩ := m_open5 (θm := θm) hμ
              refine ⟨0, μ', ?_, g2, g3, g4⟩
              rw [eM]
              unfold q_X8_atom_b
              rw [s45 μ hμ, zb, z_r01, if_neg k45, s40 μ hμ, zb, z_r01, if_pos k40, g1, zb, if_pos (show (0 : Int32) = 0 from rfl)]
        · refine g_fail hE hB hx ?_ (fun μ hμ => ?_)
          · rw [eC]
            unfold q_X4_readOne_b q_X4_readOne_B80
            rw [x_token hB hE hx, zb, if_neg k1, if_neg k2, if_neg k45, if_neg k40]
            by_cases h5 : (5 : Int32) ≤ nI o
            · rw [if_pos h5, if_pos h5]
            · rw [if_neg h5, if_neg h5]
          · obtain ⟨c1, c2, c3⟩ := m_bad hμ
            refine ⟨0, _, ?_, c1, c2, c3⟩
            rw [eM]
            unfold q_X8_atom_b
            rw [s45 μ hμ, zb, z_r01, if_neg k45, s40 μ hμ, zb, z_r01, if_neg k40, if_pos hμ.2.1, if_neg (fun q => k1 ((m_kind2 hμ).mp q))]
            exact m_atomF hμ (q_G8 d) (fun q => k2 (zK_2.mpr q))
theorem g_all (hB : sx_base θ) (hE : zEnv B n m) : ∀ (d k : Nat), k ≤ 5 → GP θ θm t n m B d k := by
  intro d
  induction d with
  | zero =>
    intro k hk o j l σ ho hd hx
    omega
  | succ d ih =>
    intro k hk
    have hk6 : k = 0 ∨ k = 1 ∨ k = 2 ∨ k = 3 ∨ k = 4 ∨ k = 5 := by omega
    rcases hk6 with rfl | rfl | rfl | rfl | rfl | rfl
    · exact g_or hB hE (ih 1 (by omega))
    · exact g_and hB hE (ih 2 (by omega))
    · exact g_not hB hE (ih 2 (by omega)) (ih 3 (by omega))
    · exact g_sum hB hE (ih 4 (by omega))
    · exact g_term hB hE (ih 5 (by omega))
    · exact g_one hB hE (ih 0 (by omega)) (ih 5 (by omega))
end GR5

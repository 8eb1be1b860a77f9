/-! ===== the grammar: the loops ===== -/
section GR2
variable {θ θm : sv_T} {t n m : Nat} {B : Nat → Nat}
theorem zK_key {s w : Nat} (hw : 6 ≤ w) (hw2 : w < 12) : zK B n s = nI (w - 3) ↔ zWa B n s = w := by
  unfold zK zWa
  by_cases hs : n ≤ s
  · rw [if_pos hs, if_neg (show ¬ (s < n ∧ zLe (B s) = true) from fun q => by omega)]
    constructor
    · intro q
      rw [show (0 : Int32) = nI 0 from rfl, nI_eq (by omega) (by omega)] at q
      omega
    · intro q; omega
  · rw [if_neg hs]
    by_cases hl : zLe (B s) = true
    · rw [if_pos hl, if_pos (show s < n ∧ zLe (B s) = true from ⟨by omega, hl⟩)]
      have hw12 : zWd B s (zTe B n s - s) ≤ 12 := (zWdf_spec (B := B) (s := s) (len := zTe B n s - s) 12 0).2.1
      by_cases h12 : zWd B s (zTe B n s - s) = 12
      · rw [if_pos h12, h12]
        constructor
        · intro q
          have : (-1 : Int32).toInt = (nI (w - 3)).toInt := by rw [q]
          rw [z_nI (by omega)] at this
          have e1 : (-1 : Int32).toInt = -1 := rfl
          omega
        · intro q; omega
      · rw [if_neg h12]
        by_cases h6 : zWd B s (zTe B n s - s) < 6
        · rw [if_pos h6, show (2 : Int32) = nI 2 from rfl, nI_eq (by omega) (by omega)]
          constructor <;> intro q <;> omega
        · rw [if_neg h6, nI_eq (by omega) (by omega)]
          constructor <;> intro q <;> omega
    · rw [if_neg hl, if_neg (show ¬ (s < n ∧ zLe (B s) = true) from fun q => hl q.2)]
      have key : ∀ x : Int32, (x = -1 ∨ x = 1 ∨ ∃ c, 9 < c ∧ c ≤ 255 ∧ x = nI c) → ¬ x = nI (w - 3) := by
        intro x hx q
        subst q
        rcases hx with q | q | ⟨c, h1, h2, q⟩
        · have : (-1 : Int32).toInt = (nI (w - 3)).toInt := by rw [q]
          rw [z_nI (by omega)] at this
          have e1 : (-1 : Int32).toInt = -1 := rfl
          omega
        · rw [show (1 : Int32) = nI 1 from rfl, nI_eq (by omega) (by omega)] at q; omega
        · rw [nI_eq (by omega) (by omega)] at q; omega
      constructor
      · intro q
        exfalso
        revert q
        apply key
        by_cases hd : zDi (B s) = true
        · rw [if_pos hd]
          split
          · exact Or.inl rfl
          · exact Or.inr (Or.inl rfl)
        · rw [if_neg hd]
          by_cases hg : zSi (B s) = true
          · rw [if_pos hg]
            have hg' := hg
            simp only [zSi, decide_eq_true_eq] at hg'
            exact Or.inr (Or.inr ⟨B s, by omega, by omega, rfl⟩)
          · rw [if_neg hg]; exact Or.inl rfl
      · intro q; omega
theorem z_op {c : Nat} (h1 : 6 ≤ c) (h2 : c ≤ 61) (h3 : c ≠ 59) (h4 : c ≠ 8) (h5 : c ≠ 9) : nI c ≠ 0 ∧ nI c ≠ -1 ∧ -nI c ≠ -59 ∧ ∀ (nm : Nat → Int32) (l : List Int32) (a b : Int32), zSt nm (-nI c) (b :: a :: l) = some (zJoin (nI c) a b :: l) := by
  have key : ∀ c : Nat, c < 62 → (6 ≤ c ∧ ¬ c = 59 ∧ ¬ c = 8 ∧ ¬ c = 9) → (¬ nI c = 0 ∧ ¬ nI c = -1 ∧ ¬ -nI c = -59 ∧ -nI c < 0) ∧ (-100 < -nI c ∧ ¬ -nI c = -9 ∧ ¬ -nI c = -8 ∧ - -nI c = nI c) := by decide +kernel
  obtain ⟨⟨a1, a2, a3, a4⟩, a5, a6, a7, a8⟩ := key c (by omega) ⟨h1, h3, h4, h5⟩
  refine ⟨a1, a2, a3, fun nm l a b => ?_⟩
  unfold zSt
  rw [if_pos a4, if_pos a5, if_neg a6, if_neg a7]
  show some (zJoin (- -nI c) a b :: l) = _
  rw [a8]
theorem x_failB {σ : sv_S} {α : Type} {F : Nat} (hF : F ≤ 160) (h : σ.1 13 1 = nI F) {x : α} : ¬ σ.1 13 1 = -1 := by
  rw [h]
  intro q
  have : (nI F).toInt = (-1 : Int32).toInt := by rw [q]
  rw [z_nI (by omega)] at this
  have e1 : (-1 : Int32).toInt = -1 := rfl
  omega
theorem g_or {d : Nat} (hB : sx_base θ) (hE : zEnv B n m) (hG : GP θ θm t n m B d 1) : GP θ θm t n m B (d + 1) 0 := by
  intro o j l σ ho hd hx
  refine g_comb hB hE ho (by omega) hG (fun f i σ => q_X4_readOr_B7 θ (q_G4 d) (nI o) f (nI o) i σ) (fun f v μ => q_X8_either_B5 θm (q_G8 d) f v μ) (fun K => K = nI 6) ?_ ?_ ?_ ?_ ?_ ?_ ?_ hx _ _ (fun _ => rfl) (fun _ => rfl)
  · rintro K rfl; exact z_op (by omega) (by omega) (by omega) (by omega) (by omega)
  · intro fuel i σ j l hx hno
    show q_X4_readOr_B7_b θ (q_G4 d) (nI o) _ (nI o) i σ = _
    unfold q_X4_readOr_B7_b
    rw [x_token hB hE hx, zb]
    split
    · rfl
    · rw [if_neg (show ¬ zK B n (zS B n j) = (6 : Int32) from hno)]
  · intro fuel i σ j l hi hx hyes
    have hjm := zEnv_K0 hE hx.2.2.2.2.1 (by rw [hyes]; decide)
    show q_X4_readOr_B7_b θ (q_G4 d) (nI o) _ (nI o) (nI i) σ = _
    unfold q_X4_readOr_B7_b
    rw [if_neg (show ¬ (160 : Int32) ≤ nI i from nI_ge (b := 160) hi (by omega)), x_token hB hE hx, zb, if_pos (show zK B n (zS B n j) = (6 : Int32) from hyes), zl, (x_adv hx hjm).1, hyes]
    simp only [zl, nI_1]
    rfl
  · intro fuel i σ F hF h
    show q_X4_readOr_B7_b θ (q_G4 d) (nI o) _ (nI o) i σ = _
    unfold q_X4_readOr_B7_b
    rw [x_tokenD hF h, zb, if_neg (show ¬ (-1 : Int32) = 6 by decide)]
    split <;> rfl
  · intro fuel v μ j hμ hno
    show q_X8_either_B5_b θm (q_G8 d) _ v μ = _
    unfold q_X8_either_B5_b
    have hw := m_isWord (θ := θm) (w := 9) hμ (by omega)
    have hw' : q_X8_isWord θm (111 : Int32) (114 : Int32) (0 : Int32) (0 : Int32) (0 : Int32) (0 : Int32) (0 : Int32) (0 : Int32) μ = _ := hw
    rw [hw', zb, z_r01, if_neg (fun q => hno ((zK_key (by omega) (by omega)).mpr q))]
  · intro fuel v μ j hμ hyes
    show q_X8_either_B5_b θm (q_G8 d) _ v μ = _
    unfold q_X8_either_B5_b
    have hw := m_isWord (θ := θm) (w := 9) hμ (by omega)
    have hw' : q_X8_isWord θm (111 : Int32) (114 : Int32) (0 : Int32) (0 : Int32) (0 : Int32) (0 : Int32) (0 : Int32) (0 : Int32) μ = _ := hw
    rw [hw', zb, z_r01, if_pos ((zK_key (w := 9) (by omega) (by omega)).mp hyes), hyes]
    congr 1
    funext _ μ7
    congr 1
    funext w μ9
    have ez : zJoin (nI 6) v w = if v ≠ 0 ∨ w ≠ 0 then 1 else 0 := rfl
    rw [ez]
    by_cases h1 : v = 0
    · rw [if_pos h1]
      by_cases h2 : w = 0
      · rw [if_pos h2, if_neg (by simp [h1, h2])]
      · rw [if_neg h2, if_pos (Or.inr h2)]
    · rw [if_neg h1, if_pos (Or.inl h1)]
  · intro fuel v μ h
    show q_X8_either_B5_b θm (q_G8 d) _ v μ = _
    unfold q_X8_either_B5_b
    rw [m_wordD h, zb, if_pos rfl]
theorem g_and {d : Nat} (hB : sx_base θ) (hE : zEnv B n m) (hG : GP θ θm t n m B d 2) : GP θ θm t n m B (d + 1) 1 := by
  intro o j l σ ho hd hx
  refine g_comb hB hE ho (by omega) hG (fun f i σ => q_X4_readAnd_B7 θ (q_G4 d) (nI o) f (nI o) i σ) (fun f v μ => q_X8_both_B5 θm (q_G8 d) f v μ) (fun K => K = nI 7) ?_ ?_ ?_ ?_ ?_ ?_ ?_ hx _ _ (fun _ => rfl) (fun _ => rfl)
  · rintro K rfl; exact z_op (by omega) (by omega) (by omega) (by omega) (by omega)
  · intro fuel i σ j l hx hno
    show q_X4_readAnd_B7_b θ (q_G4 d) (nI o) _ (nI o) i σ = _
    unfold q_X4_readAnd_B7_b
    rw [x_token hB hE hx, zb]
    split
    · rfl
    · rw [if_neg (show ¬ zK B n (zS B n j) = (7 : Int32) from hno)]
  · intro fuel i σ j l hi hx hyes
    have hjm := zEnv_K0 hE hx.2.2.2.2.1 (by rw [hyes]; decide)
    show q_X4_readAnd_B7_b θ (q_G4 d) (nI o) _ (nI o) (nI i) σ = _
    unfold q_X4_readAnd_B7_b
    rw [if_neg (show ¬ (160 : Int32) ≤ nI i from nI_ge (b := 160) hi (by omega)), x_token hB hE hx, zb, if_pos (show zK B n (zS B n j) = (7 : Int32) from hyes), zl, (x_adv hx hjm).1, hyes]
    simp only [zl, nI_1]
    rfl
  · intro fuel i σ F hF h
    show q_X4_readAnd_B7_b θ (q_G4 d) (nI o) _ (nI o) i σ = _
    unfold q_X4_readAnd_B7_b
    rw [x_tokenD hF h, zb, if_neg (show ¬ (-1 : Int32) = 7 by decide)]
    split <;> rfl
  · intro fuel v μ j hμ hno
    show q_X8_both_B5_b θm (q_G8 d) _ v μ = _
    unfold q_X8_both_B5_b
    have hw := m_isWord (θ := θm) (w := 10) hμ (by omega)
    have hw' : q_X8_isWord θm (97 : Int32) (110 : Int32) (100 : Int32) (0 : Int32) (0 : Int32) (0 : Int32) (0 : Int32) (0 : Int32) μ = _ := hw
    rw [hw', zb, z_r01, if_neg (fun q => hno ((zK_key (by omega) (by omega)).mpr q))]
  · intro fuel v μ j hμ hyes
    show q_X8_both_B5_b θm (q_G8 d) _ v μ = _
    unfold q_X8_both_B5_b
    have hw := m_isWord (θ := θm) (w := 10) hμ (by omega)
    have hw' : q_X8_isWord θm (97 : Int32) (110 : Int32) (100 : Int32) (0 : Int32) (0 : Int32) (0 : Int32) (0 : Int32) (0 : Int32) μ = _ := hw
    rw [hw', zb, z_r01, if_pos ((zK_key (w := 10) (by omega) (by omega)).mp hyes), hyes]
    congr 1
    funext _ μ7
    congr 1
    funext w μ9
    have ez : zJoin (nI 7) v w = if v ≠ 0 ∧ w ≠ 0 then 1 else 0 := rfl
    rw [ez]
    by_cases h1 : v = 0
    · rw [if_pos h1, if_neg (fun q => q.1 h1)]
    · rw [if_neg h1]
      by_cases h2 : w = 0
      · rw [if_pos h2, if_neg (fun q => q.2 h2)]
      · rw [if_neg h2, if_pos ⟨h1, h2⟩]
  · intro fuel v μ h
    show q_X8_both_B5_b θm (q_G8 d) _ v μ = _
    unfold q_X8_both_B5_b
    rw [m_wordD h, zb, if_pos rfl]
theorem g_term {d : Nat} (hB : sx_base θ) (hE : zEnv B n m) (hG : GP θ θm t n m B d 5) : GP θ θm t n m B (d + 1) 4 := by
  intro o j l σ ho hd hx
  refine g_comb hB hE ho (by omega) hG (fun f i σ => q_X4_readTerm_B7 θ (q_G4 d) (nI o) f (nI o) i σ) (fun f v μ => q_X8_term_B5 θm (q_G8 d) f v μ) (fun K => K = nI 42) ?_ ?_ ?_ ?_ ?_ ?_ ?_ hx _ _ (fun _ => rfl) (fun _ => rfl)
  · rintro K rfl; exact z_op (by omega) (by omega) (by omega) (by omega) (by omega)
  · intro fuel i σ j l hx hno
    show q_X4_readTerm_B7_b θ (q_G4 d) (nI o) _ (nI o) i σ = _
    unfold q_X4_readTerm_B7_b
    rw [x_token hB hE hx, zb]
    split
    · rfl
    · rw [if_neg (show ¬ zK B n (zS B n j) = (42 : Int32) from hno)]
  · intro fuel i σ j l hi hx hyes
    have hjm := zEnv_K0 hE hx.2.2.2.2.1 (by rw [hyes]; decide)
    show q_X4_readTerm_B7_b θ (q_G4 d) (nI o) _ (nI o) (nI i) σ = _
    unfold q_X4_readTerm_B7_b
    rw [if_neg (show ¬ (160 : Int32) ≤ nI i from nI_ge (b := 160) hi (by omega)), x_token hB hE hx, zb, if_pos (show zK B n (zS B n j) = (42 : Int32) from hyes), zl, (x_adv hx hjm).1, hyes]
    simp only [zl, nI_1]
    rfl
  · intro fuel i σ F hF h
    show q_X4_readTerm_B7_b θ (q_G4 d) (nI o) _ (nI o) i σ = _
    unfold q_X4_readTerm_B7_b
    rw [x_tokenD hF h, zb, if_neg (show ¬ (-1 : Int32) = 42 by decide)]
    split <;> rfl
  · intro fuel v μ j hμ hno
    show q_X8_term_B5_b θm (q_G8 d) _ v μ = _
    unfold q_X8_term_B5_b
    have hw : q_X8_isSign θm (42 : Int32) μ = _ := m_isSign (θ := θm) (c := 42) hμ (by decide)
    rw [hw, zb, z_r01, if_neg hno]
  · intro fuel v μ j hμ hyes
    show q_X8_term_B5_b θm (q_G8 d) _ v μ = _
    unfold q_X8_term_B5_b
    have hw : q_X8_isSign θm (42 : Int32) μ = _ := m_isSign (θ := θm) (c := 42) hμ (by decide)
    rw [hw, zb, z_r01, if_pos hyes, hyes]
    rfl
  · intro fuel v μ h
    show q_X8_term_B5_b θm (q_G8 d) _ v μ = _
    unfold q_X8_term_B5_b
    rw [m_signD h, zb, if_pos rfl]
theorem m_signJ {j o c : Nat} {μ : sv_S} (h : mG μ t n B j o) (hc : zSi c = true) (hK : zK B n (zS B n j) = nI c) : μ.2.1 0 23 = lN c := by
  obtain ⟨h1, h2, h3, h4, h5, h6⟩ := h
  have hcr : 40 ≤ c ∧ c ≤ 61 := by simp only [zSi, decide_eq_true_eq] at hc; omega
  have hKc : ∀ w : Nat, w < 40 → ¬ nI w = nI c := fun w hw => by rw [nI_eq (by omega) (by omega)]; omega
  have hm1 : ¬ (-1 : Int32) = nI c := by
    intro q
    have : (-1 : Int32).toInt = (nI c).toInt := by rw [q]
    rw [z_nI (by omega)] at this
    have e1 : (-1 : Int32).toInt = -1 := rfl
    omega
  rcases h6 with ⟨q, e⟩ | ⟨a, b, e, -⟩ | ⟨a, b, e, -, -⟩ | ⟨a, b1, b2, b3, e, -, eJ⟩ | ⟨a, b1, b2, b3, e⟩
  · exfalso
    unfold zK at hK
    rw [if_pos (by omega)] at hK
    exact hKc 0 (by omega) hK
  · exfalso
    unfold zK at hK
    rw [if_neg (by omega), if_pos b] at hK
    have hw12 : zWd B (zS B n j) (zTe B n (zS B n j) - zS B n j) ≤ 12 := (zWdf_spec (B := B) (s := zS B n j) (len := zTe B n (zS B n j) - zS B n j) 12 0).2.1
    split at hK
    · exact hm1 hK
    · split at hK
      · exact hKc 2 (by omega) hK
      · exact hKc _ (by omega) hK
  · exfalso
    have bl : ¬ zLe (B (zS B n j)) = true := by simp only [zDi, zLe, decide_eq_true_eq] at b ⊢; omega
    unfold zK at hK
    rw [if_neg (by omega), if_neg bl, if_pos b] at hK
    split at hK
    · exact hm1 hK
    · exact hKc 1 (by omega) hK
  · have hb := (h1.2.2.2.2 _ a).1
    unfold zK at hK
    rw [if_neg (by omega), if_neg (by rw [b1]; decide), if_neg (by rw [b2]; decide), if_pos b3, nI_eq (by omega) (by omega)] at hK
    rw [eJ, hK]
  · exfalso
    unfold zK at hK
    rw [if_neg (by omega), if_neg (by rw [b1]; decide), if_neg (by rw [b2]; decide), if_neg (by rw [b3]; decide)] at hK
    exact hm1 hK
theorem g_sum {d : Nat} (hB : sx_base θ) (hE : zEnv B n m) (hG : GP θ θm t n m B d 4) : GP θ θm t n m B (d + 1) 3 := by
  intro o j l σ ho hd hx
  refine g_comb hB hE ho (by omega) hG (fun f i σ => sp_b (q_X4_token θ σ) (fun r σ' => q_X4_readSum_B12 θ (q_G4 d) (nI o) f (nI o) r i σ')) (fun f v μ => q_X8_added_B5 θm (q_G8 d) f v μ) (fun K => K = nI 43 ∨ K = nI 45) ?_ ?_ ?_ ?_ ?_ ?_ ?_ hx _ _ (fun _ => rfl) (fun _ => rfl)
  · rintro K (rfl | rfl) <;> exact z_op (by omega) (by omega) (by omega) (by omega) (by omega)
  · intro fuel i σ j l hx hno
    show sp_b (q_X4_token θ σ) _ = _
    rw [x_token hB hE hx, zb]
    show q_X4_readSum_B12_b θ (q_G4 d) (nI o) _ (nI o) _ i σ = _
    unfold q_X4_readSum_B12_b
    rw [if_neg (show ¬ zK B n (zS B n j) = 43 from fun q => hno (Or.inl q)), if_neg (show ¬ zK B n (zS B n j) = 45 from fun q => hno (Or.inr q))]
    split <;> rfl
  · intro fuel i σ j l hi hx hyes
    have hjm := zEnv_K0 hE hx.2.2.2.2.1 (by rcases hyes with q | q <;> rw [q] <;> decide)
    show sp_b (q_X4_token θ σ) _ = _
    rw [x_token hB hE hx, zb]
    show q_X4_readSum_B12_b θ (q_G4 d) (nI o) _ (nI o) _ (nI i) σ = _
    unfold q_X4_readSum_B12_b
    rw [if_neg (show ¬ (160 : Int32) ≤ nI i from nI_ge (b := 160) hi (by omega))]
    have fin : q_X4_readSum_B31 θ (q_G4 d) (nI o) (q_X4_readSum_B12 θ (q_G4 d) (nI o) fuel) (nI o) (zK B n (zS B n j)) (nI i) σ = sp_b (q_G4 d 4 θ (nI o) (sv_sI σ 13 7 (nI (j + 1)))) (fun _ σ9 => sp_b (q_X4_emit θ (-(zK B n (zS B n j))) σ9) (fun _ σ11 => sp_b (q_X4_token θ σ11) (fun r σ' => q_X4_readSum_B12 θ (q_G4 d) (nI o) fuel (nI o) r (nI (i + 1)) σ'))) := by
      unfold q_X4_readSum_B31
      rw [zl, (x_adv hx hjm).1]
      simp only [zl, nI_1]
    rcases hyes with q | q
    · rw [if_pos (show zK B n (zS B n j) = (43 : Int32) from q)]; exact fin
    · rw [if_neg (show ¬ zK B n (zS B n j) = (43 : Int32) by rw [q]; decide), if_pos (show zK B n (zS B n j) = (45 : Int32) from q)]; exact fin
  · intro fuel i σ F hF h
    show sp_b (q_X4_token θ σ) _ = _
    rw [x_tokenD hF h, zb]
    show q_X4_readSum_B12_b θ (q_G4 d) (nI o) _ (nI o) (-1) i σ = _
    unfold q_X4_readSum_B12_b
    rw [if_neg (show ¬ (-1 : Int32) = 43 by decide), if_neg (show ¬ (-1 : Int32) = 45 by decide)]
    split <;> rfl
  · intro fuel v μ j hμ hno
    show q_X8_added_B5_b θm (q_G8 d) _ v μ = _
    unfold q_X8_added_B5_b
    have hw : q_X8_isSign θm (43 : Int32) μ = _ := m_isSign (θ := θm) (c := 43) hμ (by decide)
    have hw2 : q_X8_isSign θm (45 : Int32) μ = _ := m_isSign (θ := θm) (c := 45) hμ (by decide)
    rw [hw, zb, z_r01, if_neg (fun q => hno (Or.inl q)), hw2, zb, z_r01, if_neg (fun q => hno (Or.inr q))]
  · intro fuel v μ j hμ hyes
    show q_X8_added_B5_b θm (q_G8 d) _ v μ = _
    unfold q_X8_added_B5_b
    have hw : q_X8_isSign θm (43 : Int32) μ = _ := m_isSign (θ := θm) (c := 43) hμ (by decide)
    have hw2 : q_X8_isSign θm (45 : Int32) μ = _ := m_isSign (θ := θm) (c := 45) hμ (by decide)
    rw [hw, zb, z_r01]
    rcases hyes with q | q
    · have hJ := m_signJ hμ (c := 43) (by decide) q
      rw [if_pos q, hJ, if_pos (by decide), q]
      unfold q_X8_added_B39
      congr 1
    · have hJ := m_signJ hμ (c := 45) (by decide) q
      rw [if_neg (by rw [q]; decide), hw2, zb, z_r01, if_pos q, hJ, if_neg (by decide), q]
      unfold q_X8_added_B39
      congr 1
  · intro fuel v μ h
    show q_X8_added_B5_b θm (q_G8 d) _ v μ = _
    unfold q_X8_added_B5_b
    rw [m_signD h, zb, if_pos rfl, m_signD h, zb, if_pos rfl]
end GR2

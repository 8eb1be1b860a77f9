/-! ===== the grammar, class and reference side by side: what both rest on ===== -/
def zGr (i j : Nat) : Prop := (i = 13 ∧ (j = 1 ∨ j = 7 ∨ j = 10)) ∨ i = 18
/-- the class is alive at token j, its code is l long -/
def xG (σ : sv_S) (B : Nat → Nat) (n m j l : Nat) : Prop := σ.1 13 1 = -1 ∧ σ.1 13 7 = nI j ∧ σ.1 13 10 = nI l ∧ l ≤ j ∧ j ≤ m ∧ xTk σ B n (m + 1)
def zNm (μ : sv_S) : Nat → Int32 := fun k => if k < 6 then μ.1 0 (12 + k) else 0
/-- the text at hand: its tokens, m of them -/
def zEnv (B : Nat → Nat) (n m : Nat) : Prop := n ≤ 160 ∧ zS B n m = n ∧ (∀ j, j < m → zS B n j < n) ∧ ∀ p, p < n → B p ≤ 255
theorem zEnv_m {B : Nat → Nat} {n m : Nat} (h : zEnv B n m) : m ≤ 160 := by
  rcases Nat.eq_zero_or_pos m with q | q
  · omega
  · have h1 := h.2.2.1 (m - 1) (by omega)
    have h2 := zS_ge (m - 1) h1
    have := h.1
    omega
theorem zEnv_lt {B : Nat → Nat} {n m j : Nat} (h : zEnv B n m) (hj : j ≤ m) (hs : zS B n j < n) : j < m := by
  rcases Nat.lt_or_ge j m with q | q
  · exact q
  · have : j = m := by omega
    subst this
    have := h.2.1
    omega
theorem zEnv_K0 {B : Nat → Nat} {n m j : Nat} (h : zEnv B n m) (hj : j ≤ m) (hK : zK B n (zS B n j) ≠ 0) : j < m := by
  rcases Nat.lt_or_ge j m with q | q
  · exact q
  · have : j = m := by omega
    subst this
    exfalso
    apply hK
    unfold zK
    rw [if_pos (by rw [h.2.1]; exact Nat.le_refl _)]
theorem xTk_fr {σ σ' : sv_S} {B : Nat → Nat} {n c : Nat} (h : xTk σ B n c) (hf : zFr zGr σ σ') : xTk σ' B n c := fun j hj => by
  obtain ⟨h1, h2, h3⟩ := h j hj
  exact ⟨by rw [hf.2 15 j (by unfold zGr; omega)]; exact h1, by rw [hf.2 16 j (by unfold zGr; omega)]; exact h2, by rw [hf.2 17 j (by unfold zGr; omega)]; exact h3⟩
section GR
variable {θ θm : sv_T} {t n m : Nat} {B : Nat → Nat}
theorem x_token (hB : sx_base θ) (hE : zEnv B n m) {σ : sv_S} {j l : Nat} (h : xG σ B n m j l) : q_X4_token θ σ = some (zK B n (zS B n j), σ) := by
  have l5 : sv_len θ 15 = 161 := sx_L (sx_c15 hB)
  have hm := zEnv_m hE
  obtain ⟨h1, h2, h3, h4, h5, h6⟩ := h
  unfold q_X4_token
  rw [if_pos h1, h2, z_at (by rw [l5]; omega), zb, l5, zat_nI (by omega) (by omega), (h6 j (by omega)).1]
theorem x_tokenD {σ : sv_S} {F : Nat} (hF : F ≤ 160) (h : σ.1 13 1 = nI F) : q_X4_token θ σ = some (-1, σ) := by
  unfold q_X4_token
  rw [h, if_neg]
  intro q
  have : (nI F).toInt = (-1 : Int32).toInt := by rw [q]
  rw [z_nI (by omega)] at this
  have e1 : (-1 : Int32).toInt = -1 := rfl
  omega
theorem x_fail (hB : sx_base θ) (hE : zEnv B n m) {σ : sv_S} {j l : Nat} (h : xG σ B n m j l) : q_X4_fail θ σ = some ((), sv_sI σ 13 1 (nI (zS B n j))) := by
  have l6 : sv_len θ 16 = 161 := sx_L (sx_c16 hB)
  have hm := zEnv_m hE
  obtain ⟨h1, h2, h3, h4, h5, h6⟩ := h
  unfold q_X4_fail
  rw [if_pos h1, h2, z_at (by rw [l6]; omega), zb, l6, zat_nI (by omega) (by omega), (h6 j (by omega)).2.1, zl]
theorem x_failD {σ : sv_S} {F : Nat} (hF : F ≤ 160) (h : σ.1 13 1 = nI F) : q_X4_fail θ σ = some ((), σ) := by
  unfold q_X4_fail
  rw [h, if_neg]
  intro q
  have : (nI F).toInt = (-1 : Int32).toInt := by rw [q]
  rw [z_nI (by omega)] at this
  have e1 : (-1 : Int32).toInt = -1 := rfl
  omega
theorem x_emitD (hB : sx_base θ) {σ : sv_S} {v : Int32} : ∃ σ', q_X4_emit θ v σ = some ((), σ') ∧ zFr zGr σ σ' ∧ σ'.1 13 1 = σ.1 13 1 := by
  have l8 : sv_len θ 18 = 160 := sx_L (sx_c18 hB)
  unfold q_X4_emit
  rw [z_put (by rw [l8]; omega), zb, zl]
  have hf : ∀ i, zFr zGr σ (zput (sv_len θ 18) σ 18 i v) := fun i => by
    unfold zput
    split
    · exact zFr_I (Or.inr rfl)
    · exact zFr_rf
  refine ⟨_, rfl, zFr_tr (hf _) (zFr_I (Or.inl ⟨rfl, by omega⟩)), ?_⟩
  rw [zI_o (by omega)]
  unfold zput
  split
  · exact zI_o (by omega)
  · rfl
theorem x_emit (hB : sx_base θ) (hE : zEnv B n m) {σ : sv_S} {j l : Nat} {v : Int32} (h : xG σ B n m j l) (hl : l < 160) (hlj : l < j) : ∃ σ', q_X4_emit θ v σ = some ((), σ') ∧ zFr zGr σ σ' ∧ xG σ' B n m j (l + 1) ∧ σ'.1 18 l = v ∧ ∀ i, i ≠ l → σ'.1 18 i = σ.1 18 i := by
  have l8 : sv_len θ 18 = 160 := sx_L (sx_c18 hB)
  obtain ⟨h1, h2, h3, h4, h5, h6⟩ := h
  have hf : zFr zGr σ (sv_sI (sv_sI σ 18 l v) 13 10 (nI (l + 1))) := zFr_tr (zFr_I (Or.inr rfl)) (zFr_I (Or.inl ⟨rfl, by omega⟩))
  refine ⟨_, ?_, hf, ⟨?_, ?_, zI_v, by omega, h5, xTk_fr h6 hf⟩, ?_, fun i hi => ?_⟩
  · unfold q_X4_emit
    rw [h3, z_put (by rw [l8]; omega), zb, zl, l8, zput_nI hl (by omega), zI_o (by omega), h3, nI_1]
  · rw [zI_o (by omega), zI_o (by omega)]; exact h1
  · rw [zI_o (by omega), zI_o (by omega)]; exact h2
  · rw [zI_o (by omega)]; exact zI_v
  · rw [zI_o (by omega), zI_o (by omega)]
/-- the class goes on to the next token -/
theorem x_adv {σ : sv_S} {j l : Nat} (h : xG σ B n m j l) (hj : j < m) : sv_sI σ 13 7 ((σ.1 13 7) + (1 : Int32)) = sv_sI σ 13 7 (nI (j + 1)) ∧ zFr zGr σ (sv_sI σ 13 7 (nI (j + 1))) ∧ xG (sv_sI σ 13 7 (nI (j + 1))) B n m (j + 1) l := by
  obtain ⟨h1, h2, h3, h4, h5, h6⟩ := h
  have hf : zFr zGr σ (sv_sI σ 13 7 (nI (j + 1))) := zFr_I (Or.inl ⟨rfl, by omega⟩)
  refine ⟨by rw [h2, nI_1], hf, ?_, zI_v, ?_, by omega, by omega, xTk_fr h6 hf⟩
  · rw [zI_o (by omega)]; exact h1
  · rw [zI_o (by omega)]; exact h3
/-- both sides over a piece of text: they read it alike, or fault at one place -/
def Res (QC : sv_S → Option (Unit × sv_S)) (QM : sv_S → Option (Int32 × sv_S)) (t n m : Nat) (B : Nat → Nat) (o j l : Nat) (σ : sv_S) : Prop :=
  (∃ (σ' : sv_S) (j' l' : Nat) (f : (Nat → Int32) → Int32), QC σ = some ((), σ') ∧ zFr zGr σ σ' ∧ xG σ' B n m j' l' ∧ j < j' ∧ l' + j ≤ l + j' ∧ (∀ i, i < l → σ'.1 18 i = σ.1 18 i) ∧ (∀ nm, zSg (σ'.1 18) nm l l' (f nm)) ∧ ∀ μ, mG μ t n B j o → ∃ μ', QM μ = some (f (zNm μ), μ') ∧ mFr mNx μ μ' ∧ mG μ' t n B j' o) ∨
  (∃ (σ' : sv_S) (F : Nat), F ≤ 160 ∧ QC σ = some ((), σ') ∧ zFr zGr σ σ' ∧ σ'.1 13 1 = nI F ∧ ∀ μ, mG μ t n B j o → ∃ v μ', QM μ = some (v, μ') ∧ mFr mNx μ μ' ∧ μ'.1 0 25 = 1 ∧ μ'.1 0 26 = nI F)
/-- the same, with a value told already from l0 on -/
def ResL (QC : sv_S → Option (Unit × sv_S)) (QM : Int32 → sv_S → Option (Int32 × sv_S)) (t n m : Nat) (B : Nat → Nat) (o l0 : Nat) (g : (Nat → Int32) → Int32) (j l : Nat) (σ : sv_S) : Prop :=
  (∃ (σ' : sv_S) (j' l' : Nat) (f : (Nat → Int32) → Int32), QC σ = some ((), σ') ∧ zFr zGr σ σ' ∧ xG σ' B n m j' l' ∧ j ≤ j' ∧ l' + j ≤ l + j' ∧ (∀ i, i < l0 → σ'.1 18 i = σ.1 18 i) ∧ (∀ nm, zSg (σ'.1 18) nm l0 l' (f nm)) ∧ ∀ μ, mG μ t n B j o → ∃ μ', QM (g (zNm μ)) μ = some (f (zNm μ), μ') ∧ mFr mNx μ μ' ∧ mG μ' t n B j' o) ∨
  (∃ (σ' : sv_S) (F : Nat), F ≤ 160 ∧ QC σ = some ((), σ') ∧ zFr zGr σ σ' ∧ σ'.1 13 1 = nI F ∧ ∀ μ, mG μ t n B j o → ∃ v μ', QM (g (zNm μ)) μ = some (v, μ') ∧ mFr mNx μ μ' ∧ μ'.1 0 25 = 1 ∧ μ'.1 0 26 = nI F)
def GP (θ θm : sv_T) (t n m : Nat) (B : Nat → Nat) (d k : Nat) : Prop := ∀ (o j l : Nat) (σ : sv_S), o ≤ 5 → 6 * (5 - o) + (6 - k) ≤ d → xG σ B n m j l → Res (q_G4 d k θ (nI o)) (q_G8 d k θm) t n m B o j l σ
theorem zNm_fr {μ μ' : sv_S} (h : mFr mNx μ μ') : zNm μ' = zNm μ := by
  funext k
  unfold zNm
  by_cases hk : k < 6
  · rw [if_pos hk, if_pos hk]
    exact h.2 0 (12 + k) (by unfold mNx; omega)
  · rw [if_neg hk, if_neg hk]
theorem zat_nm {nm nm' : Nat → Int32} {x : Int32} (h : ∀ k, k < 6 → nm k = nm' k) : zat 6 nm x = zat 6 nm' x := by
  unfold zat
  by_cases hc : 0 ≤ x.toInt ∧ x.toInt < (6 : Nat)
  · rw [if_pos hc, if_pos hc]
    exact h _ (by omega)
  · rw [if_neg hc, if_neg hc]
theorem zRn_nm {code nm nm' : Nat → Int32} (h : ∀ k, k < 6 → nm k = nm' k) : ∀ (c i : Nat) (l : List Int32), zRn code nm c i l = zRn code nm' c i l
  | 0, _, _ => rfl
  | c + 1, i, l => by
    have e : zSt nm (code i) l = zSt nm' (code i) l := by
      unfold zSt
      rw [zat_nm h]
    simp only [zRn, e]
    cases zSt nm' (code i) l with
    | none => rfl
    | some l' => exact zRn_nm h c (i + 1) l'
theorem zSg_det {code nm nm' : Nat → Int32} {i j : Nat} {v v' : Int32} (h1 : zSg code nm i j v) (h2 : zSg code nm' i j v') (h : ∀ k, k < 6 → nm k = nm' k) : v = v' := by
  have e1 := h1.2.2 []
  have e2 := h2.2.2 []
  rw [zRn_nm h, e2] at e1
  cases e1
  rfl
theorem mG_fr {μ μ' : sv_S} {j o : Nat} (h : mG μ t n B j o) (hf : mFr mNx μ μ') : mB μ' t n B := mB_fr h.1 hf (by unfold mNx; omega) (by unfold mNx; omega) (fun j => by unfold mNx; omega)
/-- one after the other, joined from the left: the class's loop and the reference's -/
theorem g_loop {d c o : Nat} (hB : sx_base θ) (hE : zEnv B n m) (ho : o ≤ 5) (hd : 6 * (5 - o) + (6 - c) ≤ d) (hG : GP θ θm t n m B d c) (C : Nat → Int32 → sv_S → Option (Unit × sv_S)) (M : Nat → Int32 → sv_S → Option (Int32 × sv_S)) (isop : Int32 → Prop) [hdec : DecidablePred isop]
    (hop : ∀ K, isop K → K ≠ 0 ∧ K ≠ -1 ∧ -K ≠ -59 ∧ ∀ (nm : Nat → Int32) (l : List Int32) (a b : Int32), zSt nm (-K) (b :: a :: l) = some (zJoin K a b :: l))
    (hCend : ∀ (fuel : Nat) (i : Int32) (σ : sv_S) (j l : Nat), xG σ B n m j l → ¬ isop (zK B n (zS B n j)) → C (fuel + 1) i σ = some ((), σ))
    (hCstep : ∀ (fuel i : Nat) (σ : sv_S) (j l : Nat), i < 160 → xG σ B n m j l → isop (zK B n (zS B n j)) → C (fuel + 1) (nI i) σ = sp_b (q_G4 d c θ (nI o) (sv_sI σ 13 7 (nI (j + 1)))) (fun _ σ9 => sp_b (q_X4_emit θ (-(zK B n (zS B n j))) σ9) (fun _ σ11 => C fuel (nI (i + 1)) σ11)))
    (hCdead : ∀ (fuel : Nat) (i : Int32) (σ : sv_S) (F : Nat), F ≤ 160 → σ.1 13 1 = nI F → C (fuel + 1) i σ = some ((), σ))
    (hMend : ∀ (fuel : Nat) (v : Int32) (μ : sv_S) (j : Nat), mG μ t n B j o → ¬ isop (zK B n (zS B n j)) → M (fuel + 1) v μ = some (v, μ))
    (hMstep : ∀ (fuel : Nat) (v : Int32) (μ : sv_S) (j : Nat), mG μ t n B j o → isop (zK B n (zS B n j)) → M (fuel + 1) v μ = sp_b (q_X8_next θm μ) (fun _ μ7 => sp_b (q_G8 d c θm μ7) (fun w μ9 => M fuel (zJoin (zK B n (zS B n j)) v w) μ9)))
    (hMdead : ∀ (fuel : Nat) (v : Int32) (μ : sv_S), μ.1 0 25 = 1 → M (fuel + 1) v μ = some (v, μ)) :
    ∀ (r i j l l0 fC fM : Nat) (g : (Nat → Int32) → Int32) (σ : sv_S), m - j ≤ r → i + r ≤ 160 → l0 < l → l ≤ j → xG σ B n m j l → (∀ nm, zSg (σ.1 18) nm l0 l (g nm)) → ResL (C (fC + r + 1) (nI i)) (M (fM + r + 1)) t n m B o l0 g j l σ := by
  intro r
  induction r with
  | zero =>
    intro i j l l0 fC fM g σ hr hi hl0 hlj hx hs
    have hno : ¬ isop (zK B n (zS B n j)) := fun q => by
      have h1 := (hop _ q).1
      have := zEnv_K0 hE hx.2.2.2.2.1 h1
      omega
    refine Or.inl ⟨σ, j, l, g, hCend _ _ σ j l hx hno, zFr_rf, hx, Nat.le_refl _, by omega, fun _ _ => rfl, hs, fun μ hμ => ⟨μ, hMend _ _ μ j hμ hno, mFr_rf, hμ⟩⟩
  | succ r ih =>
    intro i j l l0 fC fM g σ hr hi hl0 hlj hx hs
    by_cases hisop : isop (zK B n (zS B n j))
    · obtain ⟨hK0, hK1, hK59, hKst⟩ := hop _ hisop
      have hjm := zEnv_K0 hE hx.2.2.2.2.1 hK0
      have hsj := hE.2.2.1 j hjm
      obtain ⟨-, ha1, ha2⟩ := x_adv hx hjm
      have hm := zEnv_m hE
      have hcode : ∀ i, (sv_sI σ 13 7 (nI (j + 1))).1 18 i = σ.1 18 i := fun i => zI_o (by omega)
      have eC := hCstep (fC + r + 1) i σ j l (by omega) hx hisop
      have eM : ∀ v μ, mG μ t n B j o → M (fM + (r + 1) + 1) v μ = _ := fun v μ hμ => hMstep (fM + r + 1) v μ j hμ hisop
      rcases hG o (j + 1) l (sv_sI σ 13 7 (nI (j + 1))) ho hd ha2 with ⟨σ', j', l', f, q1, q2, q3, q4, q5, q6, q7, q8⟩ | ⟨σ', F, qF, q1, q2, q3, q4⟩
      · have hl' : l' < 160 := by have := q3.2.2.2.2.1; have := q3.2.2.2.1; omega
        obtain ⟨σ2, e1, e2, e3, e4, e5⟩ := x_emit (v := -(zK B n (zS B n j))) hB hE q3 hl' (by omega)
        have hsame : ∀ x, x < l → σ2.1 18 x = σ.1 18 x := fun x hx2 => by
          have hll : l ≤ l' := by have := (q7 (fun _ => 0)).1; omega
          rw [e5 x (by omega), q6 x hx2, hcode]
        have hsame2 : ∀ x, l ≤ x → x < l' → σ2.1 18 x = σ'.1 18 x := fun x _ hx2 => e5 x (by omega)
        have hseg : ∀ nm, zSg (σ2.1 18) nm l0 (l' + 1) (zJoin (zK B n (zS B n j)) (g nm) (f nm)) := fun nm =>
          zSg_bin (zSg_code (hs nm) (fun k h1 h2 => hsame k h2)) (zSg_code (q7 nm) hsame2) (by rw [e4]; exact hK59) (fun l => by rw [e4]; exact hKst nm l _ _)
        have eCx : C (fC + (r + 1) + 1) (nI i) σ = C (fC + r + 1) (nI (i + 1)) σ2 := by
          show C (fC + r + 1 + 1) (nI i) σ = _
          rw [eC, q1, zb, e1, zb]
        have hMx : ∀ μ, mG μ t n B j o → ∃ μ', M (fM + (r + 1) + 1) (g (zNm μ)) μ = M (fM + r + 1) (zJoin (zK B n (zS B n j)) (g (zNm μ')) (f (zNm μ'))) μ' ∧ zNm μ' = zNm μ ∧ mFr mNx μ μ' ∧ mG μ' t n B j' o := fun μ hμ => by
          obtain ⟨μ1, w1, w2, w3⟩ := m_next (θ := θm) hμ hsj hK1
          obtain ⟨μ2, w4, w5, w6⟩ := q8 μ1 w3
          have en : zNm μ2 = zNm μ := (zNm_fr w5).trans (zNm_fr w2)
          refine ⟨μ2, ?_, en, mFr_tr w2 w5, w6⟩
          rw [eM _ μ hμ, w1, zb, w4, zb, en, zNm_fr w2]
        rcases ih (i + 1) j' (l' + 1) l0 fC fM (fun nm => zJoin (zK B n (zS B n j)) (g nm) (f nm)) σ2 (by omega) (by omega) (by have := (q7 (fun _ => 0)).1; omega) (by omega) e3 hseg with ⟨σ3, j3, l3, f3, p1, p2, p3, p4, p5, p6, p7, p8⟩ | ⟨σ3, F, pF, p1, p2, p3, p4⟩
        · refine Or.inl ⟨σ3, j3, l3, f3, eCx.trans p1, zFr_tr ha1 (zFr_tr q2 (zFr_tr e2 p2)), p3, by omega, by omega, fun x hx2 => by rw [p6 x hx2, hsame x (by omega)], p7, fun μ hμ => ?_⟩
          obtain ⟨μ1, w1, w2, w3, w4⟩ := hMx μ hμ
          obtain ⟨μ2, w5, w6, w7⟩ := p8 μ1 w4
          exact ⟨μ2, by rw [w1, w5, w2], mFr_tr w3 w6, w7⟩
        · refine Or.inr ⟨σ3, F, pF, eCx.trans p1, zFr_tr ha1 (zFr_tr q2 (zFr_tr e2 p2)), p3, fun μ hμ => ?_⟩
          obtain ⟨μ1, w1, w2, w3, w4⟩ := hMx μ hμ
          obtain ⟨v, μ2, w5, w6, w7, w8⟩ := p4 μ1 w4
          exact ⟨v, μ2, by rw [w1, w5], mFr_tr w3 w6, w7, w8⟩
      · obtain ⟨σ2, e1, e2, e3⟩ := x_emitD (θ := θ) hB (σ := σ') (v := -(zK B n (zS B n j)))
        refine Or.inr ⟨σ2, F, qF, ?_, zFr_tr ha1 (zFr_tr q2 e2), by rw [e3]; exact q3, fun μ hμ => ?_⟩
        · show C (fC + r + 1 + 1) (nI i) σ = _
          rw [eC, q1, zb, e1, zb]
          exact hCdead _ _ _ F qF (by rw [e3]; exact q3)
        · obtain ⟨μ1, w1, w2, w3⟩ := m_next (θ := θm) hμ hsj hK1
          obtain ⟨v, μ2, w4, w5, w6, w7⟩ := q4 μ1 w3
          refine ⟨zJoin (zK B n (zS B n j)) (g (zNm μ)) v, μ2, ?_, mFr_tr w2 w5, w6, w7⟩
          · rw [eM _ μ hμ, w1, zb, w4, zb]
            exact hMdead _ _ _ w6
    · refine Or.inl ⟨σ, j, l, g, hCend _ _ σ j l hx hisop, zFr_rf, hx, Nat.le_refl _, by omega, fun _ _ => rfl, hs, fun μ hμ => ⟨μ, hMend _ _ μ j hμ hisop, mFr_rf, hμ⟩⟩
/-- a first operand, then the loop -/
theorem g_comb {d c o j l : Nat} {σ : sv_S} (hB : sx_base θ) (hE : zEnv B n m) (ho : o ≤ 5) (hd : 6 * (5 - o) + (6 - c) ≤ d) (hG : GP θ θm t n m B d c) (C : Nat → Int32 → sv_S → Option (Unit × sv_S)) (M : Nat → Int32 → sv_S → Option (Int32 × sv_S)) (isop : Int32 → Prop) [hdec : DecidablePred isop]
    (hop : ∀ K, isop K → K ≠ 0 ∧ K ≠ -1 ∧ -K ≠ -59 ∧ ∀ (nm : Nat → Int32) (l : List Int32) (a b : Int32), zSt nm (-K) (b :: a :: l) = some (zJoin K a b :: l))
    (hCend : ∀ (fuel : Nat) (i : Int32) (σ : sv_S) (j l : Nat), xG σ B n m j l → ¬ isop (zK B n (zS B n j)) → C (fuel + 1) i σ = some ((), σ))
    (hCstep : ∀ (fuel i : Nat) (σ : sv_S) (j l : Nat), i < 160 → xG σ B n m j l → isop (zK B n (zS B n j)) → C (fuel + 1) (nI i) σ = sp_b (q_G4 d c θ (nI o) (sv_sI σ 13 7 (nI (j + 1)))) (fun _ σ9 => sp_b (q_X4_emit θ (-(zK B n (zS B n j))) σ9) (fun _ σ11 => C fuel (nI (i + 1)) σ11)))
    (hCdead : ∀ (fuel : Nat) (i : Int32) (σ : sv_S) (F : Nat), F ≤ 160 → σ.1 13 1 = nI F → C (fuel + 1) i σ = some ((), σ))
    (hMend : ∀ (fuel : Nat) (v : Int32) (μ : sv_S) (j : Nat), mG μ t n B j o → ¬ isop (zK B n (zS B n j)) → M (fuel + 1) v μ = some (v, μ))
    (hMstep : ∀ (fuel : Nat) (v : Int32) (μ : sv_S) (j : Nat), mG μ t n B j o → isop (zK B n (zS B n j)) → M (fuel + 1) v μ = sp_b (q_X8_next θm μ) (fun _ μ7 => sp_b (q_G8 d c θm μ7) (fun w μ9 => M fuel (zJoin (zK B n (zS B n j)) v w) μ9)))
    (hMdead : ∀ (fuel : Nat) (v : Int32) (μ : sv_S), μ.1 0 25 = 1 → M (fuel + 1) v μ = some (v, μ))
    (hx : xG σ B n m j l) (QC : sv_S → Option (Unit × sv_S)) (QM : sv_S → Option (Int32 × sv_S)) (hQC : ∀ σ, QC σ = sp_b (q_G4 d c θ (nI o) σ) (fun _ σ2 => C sv_N 0 σ2)) (hQM : ∀ μ, QM μ = sp_b (q_G8 d c θm μ) (fun v μ2 => M sv_N v μ2)) : Res QC QM t n m B o j l σ := by
  have hm := zEnv_m hE
  rcases hG o j l σ ho hd hx with ⟨σ', j', l', f, q1, q2, q3, q4, q5, q6, q7, q8⟩ | ⟨σ', F, qF, q1, q2, q3, q4⟩
  · have hll := (q7 (fun _ => 0)).1
    have hl := hx.2.2.2.1
    have hloop := g_loop hB hE ho hd hG C M isop hop hCend hCstep hCdead hMend hMstep hMdead 160 0 j' l' l 39 39 f σ' (by omega) (by omega) hll (by omega) q3 q7
    rcases hloop with ⟨σ3, j3, l3, f3, p1, p2, p3, p4, p5, p6, p7, p8⟩ | ⟨σ3, F, pF, p1, p2, p3, p4⟩
    · refine Or.inl ⟨σ3, j3, l3, f3, ?_, zFr_tr q2 p2, p3, by omega, by omega, fun x hx2 => by rw [p6 x hx2, q6 x hx2], p7, fun μ hμ => ?_⟩
      · rw [hQC, q1, zb]; exact p1
      · obtain ⟨μ1, w1, w2, w3⟩ := q8 μ hμ
        obtain ⟨μ2, w4, w5, w6⟩ := p8 μ1 w3
        refine ⟨μ2, ?_, mFr_tr w2 w5, w6⟩
        rw [hQM, w1, zb, ← zNm_fr w2]
        exact w4
    · refine Or.inr ⟨σ3, F, pF, ?_, zFr_tr q2 p2, p3, fun μ hμ => ?_⟩
      · rw [hQC, q1, zb]; exact p1
      · obtain ⟨μ1, w1, w2, w3⟩ := q8 μ hμ
        obtain ⟨v, μ2, w4, w5, w6, w7⟩ := p4 μ1 w3
        refine ⟨v, μ2, ?_, mFr_tr w2 w5, w6, w7⟩
        rw [hQM, w1, zb, ← zNm_fr w2]
        exact w4
  · refine Or.inr ⟨σ', F, qF, ?_, q2, q3, fun μ hμ => ?_⟩
    · rw [hQC, q1, zb]
      exact hCdead 199 _ _ F qF q3
    · obtain ⟨v, μ1, w1, w2, w3, w4⟩ := q4 μ hμ
      refine ⟨v, μ1, ?_, w2, w3, w4⟩
      rw [hQM, w1, zb]
      exact hMdead 199 _ _ w3
end GR

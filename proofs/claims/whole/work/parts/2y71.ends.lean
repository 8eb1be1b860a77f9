/-! ===== when hands are shaken: the class's rows of it; it is ready for a walk ===== -/
section ENR
variable {θ θm : sv_T} {σ μ : sv_S} {tc : Nat} {Fs : Nat → Nat → (Nat → Int32) → Int32} {D : zD} {F : Nat → (Nat → Int32) → Int32} {rn : Nat → Nat}
theorem zL_m1 {n : Nat} : zL (n + 1) + (-1) = zL n := by
  rw [zL_s]
  cases n with
  | zero => decide
  | succ n => rw [zL_s, pk_m1]
theorem zL_neg : zL 0 < 0 := by decide
theorem x_fillRow (hB : sx_base θ) {k : Nat} {γ : zC} {b d : Nat} (hb : b < 6) (hd : d < 6) (hC : xCs θ σ 25 k γ) (hR : xRn θ σ 27 rn) (hN : ∀ h, h < 24 → σ.1 29 (kIx b d h) = nI (nNeed γ rn h) ∧ σ.1 30 (kIx b d h) = nI (nTake γ rn h)) :
    ∃ σ', q_X3_fillRow θ (nI (kIx b d 0)) σ = some ((), σ') ∧ xFr (fun i _ => i = 32) σ σ' ∧ (∀ h, h < 24 → σ'.1 32 (kIx b d h) = zO (zSh γ rn h)) ∧ ∀ b' d' h', d' < 6 → h' < 24 → (b' ≠ b ∨ d' ≠ d) → σ'.1 32 (kIx b' d' h') = σ.1 32 (kIx b' d' h') := by
  have l29 : sv_len θ 29 = 864 := sx_L (sx_c29 hB)
  have l30 : sv_len θ 30 = 864 := sx_L (sx_c30 hB)
  have l32 : sv_len θ 32 = 864 := sx_L (sx_c32 hB)
  have loop : ∀ (n fuel : Nat) (τ : sv_S), n ≤ 24 → xFr (fun i _ => i = 32) σ τ → (∀ h, n ≤ h → h < 24 → τ.1 32 (kIx b d h) = zO (zSh γ rn h)) → (∀ b' d' h', d' < 6 → h' < 24 → (b' ≠ b ∨ d' ≠ d) → τ.1 32 (kIx b' d' h') = σ.1 32 (kIx b' d' h')) →
      ∃ σ', q_X3_fillRow_B5 θ (nI (kIx b d 0)) (fuel + n + 1) (nI (kIx b d 0)) (zO (zSh γ rn n)) (zL n) τ = some ((), σ') ∧ xFr (fun i _ => i = 32) σ σ' ∧ (∀ h, h < 24 → σ'.1 32 (kIx b d h) = zO (zSh γ rn h)) ∧ ∀ b' d' h', d' < 6 → h' < 24 → (b' ≠ b ∨ d' ≠ d) → σ'.1 32 (kIx b' d' h') = σ.1 32 (kIx b' d' h') := by
    intro n
    induction n with
    | zero =>
      intro fuel τ h1 h2 h3 h4
      refine ⟨τ, ?_, h2, fun h hh => h3 h (Nat.zero_le _) hh, h4⟩
      show q_X3_fillRow_B5_b θ (nI (kIx b d 0)) _ (nI (kIx b d 0)) _ (zL 0) τ = _
      unfold q_X3_fillRow_B5_b
      rw [if_pos zL_neg]
    | succ n ih =>
      intro fuel τ h1 h2 h3 h4
      have hix := kIx_lt hb hd (show n < 24 by omega)
      have hk : nI (kIx b d 0) + nI n = nI (kIx b d n) := by rw [nI_add]; rfl
      obtain ⟨hN1, hN2⟩ := hN n (by omega)
      have o1 : τ.1 29 (kIx b d n) = nI (nNeed γ rn n) := by rw [(h2.2 _ _ (by omega)).1]; exact hN1
      have o2 : τ.1 30 (kIx b d n) = nI (nTake γ rn n) := by rw [(h2.2 _ _ (by omega)).1]; exact hN2
      have C2 : xCs θ τ 25 k γ := xCs_fr hC h2 (fun i j q1 q2 => by omega) ⟨by omega, by omega, by omega, fun j _ => by omega⟩
      have R2 : xRn θ τ 27 rn := xRn_fr hR h2 (fun j => by omega)
      have eu : q_X3_fillRow_B5 θ (nI (kIx b d 0)) (fuel + (n + 1) + 1) (nI (kIx b d 0)) (zO (zSh γ rn (n + 1))) (zL (n + 1)) τ = q_X3_fillRow_B5_b θ (nI (kIx b d 0)) (q_X3_fillRow_B5 θ (nI (kIx b d 0)) (fuel + (n + 1))) (nI (kIx b d 0)) (zO (zSh γ rn (n + 1))) (zL (n + 1)) τ := rfl
      obtain ⟨-, t2, t3⟩ := nNeed_ok γ rn n
      obtain ⟨-, t5, t6⟩ := nTake_ok γ rn n
      have go : ∀ w : Int32, w = zO (zSh γ rn n) → ∃ σ', q_X3_fillRow_B55 θ (nI (kIx b d 0)) (q_X3_fillRow_B5 θ (nI (kIx b d 0)) (fuel + (n + 1))) (nI (kIx b d 0)) (nI n) w τ = some ((), σ') ∧ xFr (fun i _ => i = 32) σ σ' ∧ (∀ h, h < 24 → σ'.1 32 (kIx b d h) = zO (zSh γ rn h)) ∧ ∀ b' d' h', d' < 6 → h' < 24 → (b' ≠ b ∨ d' ≠ d) → σ'.1 32 (kIx b' d' h') = σ.1 32 (kIx b' d' h') := by
        intro w hw
        subst hw
        obtain ⟨σ', g1, g2, g3, g4⟩ := ih fuel (sv_sI τ 32 (kIx b d n) (zO (zSh γ rn n))) (by omega) (xFr_tr h2 (xFr_I rfl)) (fun h q1 q2 => by
          by_cases e : h = n
          · subst e; exact zI_v
          · rw [zI_o (Or.inr (fun q => by have := kIx_eq hd hd q2 (show n < 24 by omega) q; omega))]; exact h3 h (by omega) q2) (fun b' d' h' q1 q2 q3 => by
          rw [zI_o (Or.inr (fun q => by have := kIx_eq q1 hd q2 (show n < 24 by omega) q; omega))]; exact h4 b' d' h' q1 q2 q3)
        refine ⟨σ', ?_, g2, g3, g4⟩
        unfold q_X3_fillRow_B55
        rw [hk, z_put (by rw [l32]; omega), zb, l32, zput_nI hix (by omega), zl, show nI n + (-1) = zL n by rw [← zL_s]; exact zL_m1]
        exact g1
      rw [eu]
      unfold q_X3_fillRow_B5_b
      rw [zL_s, if_neg (nI_pos (by omega)), hk, z_at (by rw [l29]; omega), zb, l29, zat_nI hix (by omega), o1, z_at (by rw [l30]; omega), zb, l30, zat_nI hix (by omega), o2]
      rcases x_lastHeld (h := n) t3 ⟨t5, t6⟩ (by omega) C2 R2 with ⟨g1, g2⟩ | ⟨g1, g2⟩
      · rw [g2, zb, if_neg (zO_ne (by omega))]
        refine go _ ?_
        rw [zSh_step (by omega)]
        unfold zLast
        rw [if_pos (zHo_iff.mpr g1)]
        rfl
      · rw [g2, zb, if_pos (show (-1 : Int32) = -1 from rfl)]
        refine go _ ?_
        rw [zSh_step (h := n) (by omega)]
        unfold zLast
        rw [if_neg (fun q => g1 (zHo_iff.mp q))]
  obtain ⟨σ', e1, e2, e3, e4⟩ := loop 24 175 σ (Nat.le_refl _) xFr_rf (fun h q1 q2 => by omega) (fun b' d' h' _ _ _ => rfl)
  exact ⟨σ', e1, e2, e3, e4⟩
def zFe (i j : Nat) : Prop := zCa 25 i j ∨ i = 32
theorem xPr_fe {σ' : sv_S} (h : xPr θ σ D F rn) (hf : xFr zFe σ σ') : xPr θ σ' D F rn := xPr_fr h hf (fun i j q => by unfold zFe zCa; omega) (fun i j q1 q2 => by unfold zFe zCa; omega) (fun j => by unfold zFe zCa; omega) (by unfold zFe zCa; omega)
theorem xL_fe {σ' : sv_S} {b h : Nat} (hq : xL σ D F rn b h) (hf : xFr zFe σ σ') : xL σ' D F rn b h := fun c hc => by
  obtain ⟨q1, q2, q3⟩ := hq c hc
  exact ⟨by rw [(hf.2 _ _ (by unfold zFe zCa; omega)).1]; exact q1, by rw [(hf.2 _ _ (by unfold zFe zCa; omega)).1]; exact q2, by rw [(hf.2 _ _ (by unfold zFe zCa; omega)).1]; exact q3⟩
/-- where the filling of the ends stands -/
def xFi (σ0 σ : sv_S) (D : zD) (F : Nat → (Nat → Int32) → Int32) (rn : Nat → Nat) (S b c : Nat) : Prop :=
  xFr zFe σ0 σ ∧ (∀ b' c', b' < 6 → c' < zPc (dL D) → S.testBit b' = true → (b' < b ∨ (b' = b ∧ c' < c)) → ∀ h, h < 24 → σ.1 32 (kIx b' (dSh D + c') h) = zO (kSh D F rn b' c' h)) ∧
  ∀ b' d' h', b' < 6 → d' < 6 → h' < 24 → S.testBit b' = false → σ.1 32 (kIx b' d' h') = σ0.1 32 (kIx b' d' h')
theorem x_fillB (hB : sx_base θ) (hD : zDok D) {σ0 : sv_S} {S b : Nat} (hP : xPr θ σ0 D F rn) (hS : S < 64) (hSL : ∀ b, b < 6 → S.testBit b = true → (dL D).testBit b = true) (hL : ∀ b, b < 6 → S.testBit b = true → ∀ h, h < 24 → xL σ0 D F rn b h) (hb : b < 6) {a2 x3 : Int32} {k16 : Int32 → Int32 → Int32 → sv_S → Option (Unit × sv_S)} (hx3 : x3 = nI (dSh D + zPc (dL D))) :
    ∀ (r c fuel : Nat) (σ : sv_S), zPc (dL D) - c = r → c ≤ zPc (dL D) → (S.testBit b = true ∨ c = 0) → xFi σ0 σ D F rn S b c → ∃ σ', q_X3_fillEnds_B29 θ a2 k16 (fuel + r + 1) (nI S) x3 (nI b) (nI (dSh D + c)) σ = k16 (nI S) x3 (nI (b + 1)) σ' ∧ xFi σ0 σ' D F rn S (b + 1) 0 := by
  have hpc := dL_pc hD
  have hM6 := hD.1
  intro r
  induction r with
  | zero =>
    intro c fuel σ h1 h2 h3 h4
    refine ⟨σ, ?_, h4.1, fun b' c' q1 q2 q3 q4 => h4.2.1 b' c' q1 q2 q3 (by omega), h4.2.2⟩
    show q_X3_fillEnds_B29_b θ a2 k16 _ (nI S) x3 (nI b) (nI (dSh D + c)) σ = _
    unfold q_X3_fillEnds_B29_b
    rw [hx3, if_pos (nI_le (by omega) (by omega)), zl, nI_1]
  | succ r ih =>
    intro c fuel σ h1 h2 h3 h4
    have eu : q_X3_fillEnds_B29 θ a2 k16 (fuel + (r + 1) + 1) (nI S) x3 (nI b) (nI (dSh D + c)) σ = q_X3_fillEnds_B29_b θ a2 k16 (q_X3_fillEnds_B29 θ a2 k16 (fuel + (r + 1))) (nI S) x3 (nI b) (nI (dSh D + c)) σ := rfl
    rw [eu]
    by_cases hbit : S.testBit b = true
    · have hbM := ((dL_bit hD hb).mp (hSL b hb hbit)).1
      obtain ⟨i1, i2, i3⟩ := h4
      obtain ⟨p1, p2, p3, p4, p5⟩ := xPr_fe hP i1
      obtain ⟨σ1, r1, f1, c1⟩ := x_regard (θ := θ) (c := 25) (b := b) (d := dSh D + c) hB (Or.inr rfl) hD p1 p2 hbM
      have F1 : xFr zFe σ σ1 := xFr_w f1 (fun i j q => Or.inl q)
      have R1 : xRn θ σ1 27 rn := xRn_fr p3 f1 (fun j => by unfold zCa; omega)
      have hL1 : ∀ h, h < 24 → xL σ1 D F rn b h := fun h hh => xL_fe (xL_fe (hL b hb hbit h hh) i1) F1
      obtain ⟨σ2, r2, f2, v2, w2⟩ := x_fillRow (θ := θ) hB hb (show dSh D + c < 6 by omega) c1 R1 (fun h hh => ⟨(hL1 h hh c (by omega)).1, (hL1 h hh c (by omega)).2.1⟩)
      have F2 : xFr zFe σ1 σ2 := xFr_w f2 (fun i j q => Or.inr q)
      have e32 : ∀ j, σ1.1 32 j = σ.1 32 j := fun j => (f1.2 _ _ (by unfold zCa; omega)).1
      obtain ⟨σ', e1, e2⟩ := ih (c + 1) fuel σ2 (by omega) (by omega) (Or.inl hbit) ⟨xFr_tr i1 (xFr_tr F1 F2), fun b' c' q1 q2 q3 q4 h hh => by
          by_cases e : b' = b ∧ c' = c
          · obtain ⟨rfl, rfl⟩ := e; exact v2 h hh
          · rw [w2 b' (dSh D + c') h (by omega) hh (by omega), e32]; exact i2 b' c' q1 q2 q3 (by omega) h hh,
        fun b' d' h' q1 q2 q3 q4 => by
          have hne : b' ≠ b := fun e => by rw [e, hbit] at q4; exact absurd q4 (by decide)
          rw [w2 b' d' h' q2 q3 (Or.inl hne), e32]; exact i3 b' d' h' q1 q2 q3 q4⟩
      refine ⟨σ', ?_, e2⟩
      unfold q_X3_fillEnds_B29_b
      rw [hx3, if_neg (nI_ge (by omega) (by omega)), x_hasBit hS hb, zb, z_r01, if_pos hbit, r1, zb, show (0 : Int32) = nI 0 from rfl, x_entry, zb, r2, zb, zl, nI_1, ← hx3]
      exact e1
    · have hc0 : c = 0 := by rcases h3 with q | q; exact absurd q hbit; exact q
      subst hc0
      refine ⟨σ, ?_, h4.1, fun b' c' q1 q2 q3 q4 => h4.2.1 b' c' q1 q2 q3 (Or.inl ?_), h4.2.2⟩
      · unfold q_X3_fillEnds_B29_b
        rw [hx3, if_neg (nI_ge (by omega) (by omega)), x_hasBit hS hb, zb, z_r01, if_neg hbit, zl, nI_1]
      · by_cases e : b' = b
        · subst e; exact absurd q3 hbit
        · omega
theorem x_fillEnds (hB : sx_base θ) (hD : zDok D) {S : Nat} (hP : xPr θ σ D F rn) (hS : S < 64) (hSL : ∀ b, b < 6 → S.testBit b = true → (dL D).testBit b = true) (hL : ∀ b, b < 6 → S.testBit b = true → ∀ h, h < 24 → xL σ D F rn b h) :
    ∃ σ', q_X3_fillEnds θ (nI S) σ = some ((), σ') ∧ xFr zFe σ σ' ∧ (∀ b, b < 6 → S.testBit b = true → xE σ' D F rn b) ∧ ∀ b d h, b < 6 → d < 6 → h < 24 → S.testBit b = false → σ'.1 32 (kIx b d h) = σ.1 32 (kIx b d h) := by
  have hpc := dL_pc hD
  have hM6 := hD.1
  have e12 : nI (dSh D) + nI (zPc (dL D)) = nI (dSh D + zPc (dL D)) := nI_add _ _
  have loop : ∀ (r b fuel : Nat) (τ : sv_S), 6 - b = r → b ≤ 6 → xFi σ τ D F rn S b 0 → ∃ σ', q_X3_fillEnds_B16 θ (nI S) (fuel + r + 1) (nI S) (nI (dSh D + zPc (dL D))) (nI b) τ = some ((), σ') ∧ xFi σ σ' D F rn S 6 0 := by
    intro r
    induction r with
    | zero =>
      intro b fuel τ h1 h2 h3
      have : b = 6 := by omega
      subst this
      refine ⟨τ, ?_, h3⟩
      show q_X3_fillEnds_B16_b θ (nI S) _ (nI S) _ (nI 6) τ = _
      unfold q_X3_fillEnds_B16_b
      rw [if_pos (show (6 : Int32) ≤ nI 6 by decide)]
    | succ r ih =>
      intro b fuel τ h1 h2 h3
      have eu : q_X3_fillEnds_B16 θ (nI S) (fuel + (r + 1) + 1) (nI S) (nI (dSh D + zPc (dL D))) (nI b) τ = q_X3_fillEnds_B16_b θ (nI S) (q_X3_fillEnds_B16 θ (nI S) (fuel + (r + 1))) (nI S) (nI (dSh D + zPc (dL D))) (nI b) τ := rfl
      have hP1 := xPr_fe hP h3.1
      obtain ⟨τ1, g1, g2⟩ := x_fillB (θ := θ) hB hD hP hS hSL hL (show b < 6 by omega) (a2 := nI S) (k16 := q_X3_fillEnds_B16 θ (nI S) (fuel + (r + 1))) rfl (zPc (dL D)) 0 (199 - zPc (dL D)) τ rfl (Nat.zero_le _) (Or.inr rfl) h3
      rw [show 199 - zPc (dL D) + zPc (dL D) + 1 = sv_N by unfold sv_N; omega] at g1
      obtain ⟨σ', e1, e2⟩ := ih (b + 1) fuel τ1 (by omega) (by omega) g2
      refine ⟨σ', ?_, e2⟩
      rw [eu]
      unfold q_X3_fillEnds_B16_b
      rw [if_neg (show ¬ (6 : Int32) ≤ nI b from nI_ge (b := 6) (by omega) (by omega)), hP1.2.2.2.2, zl]
      exact g1.trans e1
  obtain ⟨σ', e1, e2, e3, e4⟩ := loop 6 0 193 σ (by omega) (by omega) ⟨xFr_rf, fun b' c' _ _ _ q => by omega, fun b' d' h' _ _ _ _ => rfl⟩
  refine ⟨σ', ?_, e2, fun b hb hbit c hc h hh => e3 b c hb hc hbit (Or.inl hb) h hh, e4⟩
  unfold q_X3_fillEnds
  rw [hP.2.2.2.1, hP.2.2.2.2, z_bc (dL_lt hD), zb, e12, zl]
  exact e1
/-- all is learnt -/
def xRy (θ : sv_T) (σ : sv_S) (D : zD) (F : Nat → (Nat → Int32) → Int32) (rn : Nat → Nat) : Prop :=
  xPr θ σ D F rn ∧ ∀ b, b < 6 → (dL D).testBit b = true → (∀ h, h < 24 → xL σ D F rn b h) ∧ xE σ D F rn b
def zPp (i j : Nat) : Prop := zLn i j ∨ zFe i j ∨ i = 27 ∨ (i = 24 ∧ 11 ≤ j)
theorem zPp_tmp : ∀ i j, zPp i j → zTmp i j := fun i j q => by unfold zPp zLn zFe zCa zSk at q; unfold zTmp zSk; omega
theorem x_prepare (hB : sx_base θ) (hD : zDok D) (hX : xMk σ 1 D) (hF : xText θ σ (dT D) F) : ∃ σ', q_X3_prepare θ σ = some ((), σ') ∧ xFr zPp σ σ' ∧ xRy θ σ' D F (dR D) := by
  obtain ⟨σ1, u1, f1, R1⟩ := x_useRain (θ := θ) hB hD hX
  have X1 : xMk σ1 1 D := xMk_fr hX f1 (fun i j q1 q2 => by omega)
  have f3 : xFr (fun i j => i = 27 ∨ (i = 24 ∧ 11 ≤ j)) σ (sv_sI (sv_sI σ1 24 11 (nI (dL D))) 24 12 (nI (dSh D))) := xFr_tr (xFr_w f1 (fun i j q => Or.inl q)) (xFr_tr (xFr_I (Or.inr ⟨rfl, by omega⟩)) (xFr_I (Or.inr ⟨rfl, by omega⟩)))
  have X2 : xMk (sv_sI σ1 24 11 (nI (dL D))) 1 D := xMk_fr X1 (xFr_I (S := fun i j => i = 24) rfl) (fun i j q1 q2 => by omega)
  have P3 : xPr θ (sv_sI (sv_sI σ1 24 11 (nI (dL D))) 24 12 (nI (dSh D))) D F (dR D) := by
    refine ⟨xMk_fr X2 (xFr_I (S := fun i j => i = 24) rfl) (fun i j q1 q2 => by omega), xText_fr hF f3 (fun i j q1 q2 => by omega), xRn_fr (xRn_fr R1 (xFr_I (S := fun i j => i = 24) rfl) (fun j => by omega)) (xFr_I (S := fun i j => i = 24) rfl) (fun j => by omega), ?_, zI_v⟩
    rw [zI_o (by omega)]; exact zI_v
  have e0 : q_X3_prepare θ σ = q_X3_prepare_B31 θ sv_N (nI 0) (sv_sI (sv_sI σ1 24 11 (nI (dL D))) 24 12 (nI (dSh D))) := by
    unfold q_X3_prepare
    rw [u1, zb, x_unshaken (θ := θ) hB hD X1, zb, zl, x_shakenCount (θ := θ) hB hD X2, zb, zl]
    rfl
  revert f3 P3 e0
  generalize sv_sI (sv_sI σ1 24 11 (nI (dL D))) 24 12 (nI (dSh D)) = σ3
  intro f3 P3 e0
  have loop : ∀ (r h fuel : Nat) (τ : sv_S), 24 - h = r → h ≤ 24 → xFr zLn σ3 τ → (∀ b, b < 6 → (dL D).testBit b = true → ∀ h', h' < h → xL τ D F (dR D) b h') → ∃ σ', q_X3_prepare_B31 θ (fuel + r + 1) (nI h) τ = some ((), σ') ∧ xFr (fun i j => zLn i j ∨ zFe i j) σ3 σ' ∧ xRy θ σ' D F (dR D) := by
    intro r
    induction r with
    | zero =>
      intro h fuel τ h1 h2 h3 h4
      have : h = 24 := by omega
      subst this
      have Pt := xPr_ln P3 h3
      obtain ⟨σ', g1, g2, g3, g4⟩ := x_fillEnds (θ := θ) hB hD Pt (dL_lt hD) (fun b hb q => q) (fun b hb q h hh => h4 b hb q h hh)
      refine ⟨σ', ?_, xFr_tr (xFr_w h3 (fun i j q => Or.inl q)) (xFr_w g2 (fun i j q => Or.inr q)), xPr_fe Pt g2, fun b hb hbit => ⟨fun h hh => xL_fe (h4 b hb hbit h hh) g2, g3 b hb hbit⟩⟩
      show q_X3_prepare_B31_b θ _ (nI 24) τ = _
      unfold q_X3_prepare_B31_b
      rw [if_pos (show (24 : Int32) ≤ nI 24 by decide), Pt.2.2.2.1, g1, zb]
    | succ r ih =>
      intro h fuel τ h1 h2 h3 h4
      have Pt := xPr_ln P3 h3
      obtain ⟨τ1, g1, g2, g3, g4⟩ := x_learn (θ := θ) hB hD Pt (show h < 24 by omega) (dL_lt hD) (fun b hb q => q)
      have hpc := dL_pc hD
      have hM6 := hD.1
      obtain ⟨σ', e1, e2, e3⟩ := ih (h + 1) fuel τ1 (by omega) (by omega) (xFr_tr h3 g2) (fun b hb hbit h' hh' => by
        by_cases e : h' = h
        · subst e; exact g3 b hb hbit
        · intro c hc
          obtain ⟨q1, q2, q3⟩ := h4 b hb hbit h' (by omega) c hc
          exact ⟨by rw [g4 29 b (dSh D + c) h' (by omega) (by omega) hb (by omega) (by omega) (Or.inl e)]; exact q1, by rw [g4 30 b (dSh D + c) h' (by omega) (by omega) hb (by omega) (by omega) (Or.inl e)]; exact q2, by rw [g4 31 b (dSh D + c) h' (by omega) (by omega) hb (by omega) (by omega) (Or.inl e)]; exact q3⟩)
      refine ⟨σ', ?_, e2, e3⟩
      have eu : q_X3_prepare_B31 θ (fuel + (r + 1) + 1) (nI h) τ = q_X3_prepare_B31_b θ (q_X3_prepare_B31 θ (fuel + (r + 1))) (nI h) τ := rfl
      rw [eu]
      unfold q_X3_prepare_B31_b
      rw [if_neg (show ¬ (24 : Int32) ≤ nI h from nI_ge (b := 24) (by omega) (by omega)), Pt.2.2.2.1, g1, zb, zl, nI_1]
      exact e1
  obtain ⟨σ', e1, e2, e3⟩ := loop 24 0 175 σ3 (by omega) (by omega) xFr_rf (fun b hb q h' hh' => by omega)
  refine ⟨σ', ?_, xFr_tr (xFr_w f3 (fun i j q => by unfold zPp; omega)) (xFr_w e2 (fun i j q => by unfold zPp; rcases q with q | q; exact Or.inl q; exact Or.inr (Or.inl q))), e3⟩
  rw [e0]
  exact e1
end ENR

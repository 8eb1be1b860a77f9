/-! ===== what the class learns ahead of a walk ===== -/
section LRN
variable {θ θm : sv_T} {σ μ : sv_S} {tc : Nat} {Fs : Nat → Nat → (Nat → Int32) → Int32} {D : zD} {F : Nat → (Nat → Int32) → Int32} {rn : Nat → Nat}
def kIx (b d h : Nat) : Nat := (6 * b + d) * 24 + h
theorem kIx_lt {b d h : Nat} (hb : b < 6) (hd : d < 6) (hh : h < 24) : kIx b d h < 864 := by unfold kIx; omega
theorem kIx_eq {b d h b' d' h' : Nat} (hd : d < 6) (hd' : d' < 6) (hh : h < 24) (hh' : h' < 24) (e : kIx b d h = kIx b' d' h') : b = b' ∧ d = d' ∧ h = h' := by unfold kIx at e; omega
theorem x_entry {b d h : Nat} : q_X3_entry θ (nI b) (nI d) (nI h) σ = some (nI (kIx b d h), σ) := by
  unfold q_X3_entry
  rw [show (6 : Int32) = nI 6 from rfl, show (24 : Int32) = nI 24 from rfl, pk_mul, nI_add, pk_mul, nI_add, Nat.mul_comm b 6]
  rfl
/-- one hour of one case is learnt -/
def xL1 (σ : sv_S) (D : zD) (F : Nat → (Nat → Int32) → Int32) (rn : Nat → Nat) (b c h : Nat) : Prop :=
  σ.1 29 (kIx b (dSh D + c) h) = nI (nNeed (dC D F b (dSh D + c)) rn h) ∧ σ.1 30 (kIx b (dSh D + c) h) = nI (nTake (dC D F b (dSh D + c)) rn h) ∧ σ.1 31 (kIx b (dSh D + c) h) = nI (nWor (dC D F b (dSh D + c)) rn h)
def xL (σ : sv_S) (D : zD) (F : Nat → (Nat → Int32) → Int32) (rn : Nat → Nat) (b h : Nat) : Prop := ∀ c, c < zPc (dL D) → xL1 σ D F rn b c h
def xE (σ : sv_S) (D : zD) (F : Nat → (Nat → Int32) → Int32) (rn : Nat → Nat) (b : Nat) : Prop := ∀ c, c < zPc (dL D) → ∀ h, h < 24 → σ.1 32 (kIx b (dSh D + c) h) = zO (kSh D F rn b c h)
def zLn (i j : Nat) : Prop := zSk i j ∨ i = 25 ∨ i = 26 ∨ (29 ≤ i ∧ i ≤ 31)
/-- what a class's look ahead rests on -/
def xPr (θ : sv_T) (σ : sv_S) (D : zD) (F : Nat → (Nat → Int32) → Int32) (rn : Nat → Nat) : Prop :=
  xMk σ 1 D ∧ xText θ σ (dT D) F ∧ xRn θ σ 27 rn ∧ σ.1 24 11 = nI (dL D) ∧ σ.1 24 12 = nI (dSh D)
theorem xPr_fr {S : Nat → Nat → Prop} {σ' : sv_S} (h : xPr θ σ D F rn) (hf : xFr S σ σ') (h1 : ∀ i j, i ≤ 6 → ¬ S i j) (h2 : ∀ i j, 42 ≤ i → i % 4 ≠ 1 → ¬ S i j) (h3 : ∀ j, ¬ S 27 j) (h4 : ¬ S 24 11 ∧ ¬ S 24 12) : xPr θ σ' D F rn := by
  obtain ⟨a1, a2, a3, a4, a5⟩ := h
  exact ⟨xMk_fr a1 hf (fun i j q1 q2 => h1 i j q2), xText_fr a2 hf h2, xRn_fr a3 hf h3, by rw [(hf.2 _ _ h4.1).1]; exact a4, by rw [(hf.2 _ _ h4.2).1]; exact a5⟩
theorem xPr_ln {σ' : sv_S} (h : xPr θ σ D F rn) (hf : xFr zLn σ σ') : xPr θ σ' D F rn := xPr_fr h hf (fun i j q => by unfold zLn zSk; omega) (fun i j q1 q2 => by unfold zLn zSk; omega) (fun j => by unfold zLn zSk; omega) (by unfold zLn zSk; omega)
theorem zCa_ln : ∀ i j, zCa 25 i j → zLn i j := fun i j q => by unfold zCa at q; unfold zLn; omega
theorem zLk_ln : ∀ i j, zLk 25 i j → zLn i j := fun i j q => by unfold zLk zSk at q; unfold zLn zSk; omega
theorem zSk_ln : ∀ i j, zSk i j → zLn i j := fun i j q => Or.inl q
/-- where the learning of hour h stands: all below b, and of b the first c -/
def xLi (σ0 σ : sv_S) (D : zD) (F : Nat → (Nat → Int32) → Int32) (rn : Nat → Nat) (S h b c : Nat) : Prop :=
  xFr zLn σ0 σ ∧ (∀ b' c', b' < 6 → c' < zPc (dL D) → S.testBit b' = true → (b' < b ∨ (b' = b ∧ c' < c)) → xL1 σ D F rn b' c' h) ∧
  ∀ i b' d' h', 29 ≤ i → i ≤ 31 → b' < 6 → d' < 6 → h' < 24 → (h' ≠ h ∨ S.testBit b' = false) → σ.1 i (kIx b' d' h') = σ0.1 i (kIx b' d' h')
theorem x_learn1 (hB : sx_base θ) (hD : zDok D) {σ0 : sv_S} {S h b c : Nat} (hP : xPr θ σ0 D F rn) (hh : h < 24) (hS : S < 64) (hb : b < 6) (hc : c < zPc (dL D)) (hbit : S.testBit b = true) (hbM : b < dM D) (hI : xLi σ0 σ D F rn S h b c) {x4 : Int32} {a2 a3 : Int32} {k17 : Int32 → Int32 → Int32 → Int32 → sv_S → Option (Unit × sv_S)} {rec : Int32 → Int32 → Int32 → Int32 → Int32 → sv_S → Option (Unit × sv_S)} (hx4 : x4 = nI (dSh D + zPc (dL D))) :
    ∃ σ', q_X3_learn_B30_b θ a2 a3 k17 rec (nI S) (nI h) x4 (nI b) (nI (dSh D + c)) σ = rec (nI S) (nI h) x4 (nI b) (nI (dSh D + (c + 1))) σ' ∧ xLi σ0 σ' D F rn S h b (c + 1) := by
  have hpc := dL_pc hD
  have hM6 := hD.1
  obtain ⟨i1, i2, i3⟩ := hI
  have hP1 := xPr_ln hP i1
  obtain ⟨p1, p2, p3, p4, p5⟩ := hP1
  have l29 : sv_len θ 29 = 864 := sx_L (sx_c29 hB)
  have l30 : sv_len θ 30 = 864 := sx_L (sx_c30 hB)
  have l31 : sv_len θ 31 = 864 := sx_L (sx_c31 hB)
  have hd6 : dSh D + c < 6 := by omega
  have hix := kIx_lt hb hd6 hh
  obtain ⟨σ1, r1, f1, c1⟩ := x_regard (θ := θ) (c := 25) (b := b) (d := dSh D + c) hB (Or.inr rfl) hD p1 p2 hbM
  have R1 : xRn θ σ1 27 rn := xRn_fr p3 f1 (fun j => by unfold zCa; omega)
  obtain ⟨σ2, r2, f2, c2, n0, n1⟩ := x_see c1 R1 hh
  have hst : (dC D F b (dSh D + c)).2.1 = dS D b := rfl
  obtain ⟨σ3, r3, f3⟩ := x_needsC c2 n0 n1
  obtain ⟨e1, -, -⟩ := nNeed_ok (dC D F b (dSh D + c)) rn h
  obtain ⟨e2, -, -⟩ := nTake_ok (dC D F b (dSh D + c)) rn h
  obtain ⟨e3, -⟩ := nWor_ok (dC D F b (dSh D + c)) rn h
  have g3 : zFr (fun i j => zSk i j ∨ (29 ≤ i ∧ i ≤ 31)) σ2 (sv_sI σ3 29 (kIx b (dSh D + c) h) (nI (nNeed (dC D F b (dSh D + c)) rn h))) := zFr_tr (zFr_w f3 (fun i j q => Or.inl q)) (zFr_I (Or.inr (by omega)))
  have C : ∀ τ, zFr (fun i j => zSk i j ∨ (29 ≤ i ∧ i ≤ 31)) σ2 τ → xCs θ τ 25 (dT D) (dC D F b (dSh D + c)) ∧ τ.1 (25 + 1) 0 = nI (rn (24 * (dC D F b (dSh D + c)).2.1 + h)) ∧ τ.1 (25 + 1) 1 = nI h := fun τ hτ =>
    ⟨xCs_fr c2 (xFr_z hτ) (fun i j q1 q2 => by unfold zSk; omega) (by unfold zSk; refine ⟨by omega, by omega, by omega, fun j _ => by omega⟩), by rw [hτ.2 _ _ (by unfold zSk; omega)]; exact n0, by rw [hτ.2 _ _ (by unfold zSk; omega)]; exact n1⟩
  obtain ⟨C1, C2, C3⟩ := C _ g3
  obtain ⟨σ4, r4, f4⟩ := x_takesC C1 C2 C3
  have g4 : zFr (fun i j => zSk i j ∨ (29 ≤ i ∧ i ≤ 31)) σ2 (sv_sI σ4 30 (kIx b (dSh D + c) h) (nI (nTake (dC D F b (dSh D + c)) rn h))) := zFr_tr g3 (zFr_tr (zFr_w f4 (fun i j q => Or.inl q)) (zFr_I (Or.inr (by omega))))
  obtain ⟨E1, E2, E3⟩ := C _ g4
  obtain ⟨σ5, r5, f5⟩ := x_worthC E1 E2 E3
  have o : ∀ (τ τ' : sv_S) i j, zFr zSk τ τ' → 29 ≤ i → i ≤ 31 → τ'.1 i j = τ.1 i j := fun τ τ' i j q h1 h2 => q.2 _ _ (by unfold zSk; omega)
  have pre : ∀ i j, 29 ≤ i → i ≤ 31 → σ2.1 i j = σ.1 i j := fun i j h1 h2 => by rw [f2.2 _ _ (by unfold zLk zSk; omega), (f1.2 _ _ (by unfold zCa; omega)).1]
  have val : ∀ i j, 29 ≤ i → i ≤ 31 → j ≠ kIx b (dSh D + c) h → (sv_sI σ5 31 (kIx b (dSh D + c) h) (nI (nWor (dC D F b (dSh D + c)) rn h))).1 i j = σ.1 i j := fun i j h1 h2 h3 => by
    rw [zI_o (Or.inr h3), o _ _ _ _ f5 h1 h2, zI_o (Or.inr h3), o _ _ _ _ f4 h1 h2, zI_o (Or.inr h3), o _ _ _ _ f3 h1 h2, pre i j h1 h2]
  refine ⟨sv_sI σ5 31 (kIx b (dSh D + c) h) (nI (nWor (dC D F b (dSh D + c)) rn h)), ?_, ?_, ?_, ?_⟩
  · unfold q_X3_learn_B30_b
    rw [hx4, if_neg (nI_ge (by omega) (by omega)), x_hasBit hS hb, zb, z_r01, if_pos hbit, x_entry, zb, r1, zb, r2, zb, r3, zb, e1, z_put (by rw [l29]; omega), zb, l29, zput_nI hix (by omega), r4, zb, e2, z_put (by rw [l30]; omega), zb, l30, zput_nI hix (by omega), r5, zb, e3, z_put (by rw [l31]; omega), zb, l31, zput_nI hix (by omega), zl, nI_1]
    rfl
  · exact xFr_tr i1 (xFr_tr (xFr_w f1 zCa_ln) (xFr_tr (xFr_w (xFr_z f2) zLk_ln) (xFr_tr (xFr_w (xFr_z g4) (fun i j q => by unfold zSk at q; unfold zLn zSk; omega)) (xFr_tr (xFr_w (xFr_z f5) zSk_ln) (xFr_I (Or.inr (Or.inr (Or.inr (by omega)))))))))
  · intro b' c' hb' hc' hbit' hlt
    by_cases e : b' = b ∧ c' = c
    · obtain ⟨rfl, rfl⟩ := e
      refine ⟨?_, ?_, zI_v⟩
      · rw [zI_o (by omega), o _ _ _ _ f5 (by omega) (by omega), zI_o (by omega), o _ _ _ _ f4 (by omega) (by omega)]; exact zI_v
      · rw [zI_o (by omega), o _ _ _ _ f5 (by omega) (by omega)]; exact zI_v
    · have hne : kIx b' (dSh D + c') h ≠ kIx b (dSh D + c) h := fun q => by
        have := kIx_eq (by omega) (by omega) hh hh q
        omega
      obtain ⟨q1, q2, q3⟩ := i2 b' c' hb' hc' hbit' (by omega)
      exact ⟨by rw [val _ _ (by omega) (by omega) hne]; exact q1, by rw [val _ _ (by omega) (by omega) hne]; exact q2, by rw [val _ _ (by omega) (by omega) hne]; exact q3⟩
  · intro i b' d' h' h1 h2 hb' hd' hh' hor
    have hne : kIx b' d' h' ≠ kIx b (dSh D + c) h := fun q => by
      have q2 := kIx_eq hd' hd6 hh' hh q
      rcases hor with q3 | q3
      · exact q3 q2.2.2
      · rw [q2.1, hbit] at q3; exact absurd q3 (by decide)
    rw [val _ _ h1 h2 hne]
    exact i3 i b' d' h' h1 h2 hb' hd' hh' hor
theorem x_learnB (hB : sx_base θ) (hD : zDok D) {σ0 : sv_S} {S h b : Nat} (hP : xPr θ σ0 D F rn) (hh : h < 24) (hS : S < 64) (hSL : ∀ b, b < 6 → S.testBit b = true → (dL D).testBit b = true) (hb : b < 6) {x4 : Int32} {a2 a3 : Int32} {k17 : Int32 → Int32 → Int32 → Int32 → sv_S → Option (Unit × sv_S)} (hx4 : x4 = nI (dSh D + zPc (dL D))) :
    ∀ (r c fuel : Nat) (σ : sv_S), zPc (dL D) - c = r → c ≤ zPc (dL D) → (S.testBit b = true ∨ c = 0) → xLi σ0 σ D F rn S h b c → ∃ σ', q_X3_learn_B30 θ a2 a3 k17 (fuel + r + 1) (nI S) (nI h) x4 (nI b) (nI (dSh D + c)) σ = k17 (nI S) (nI h) x4 (nI (b + 1)) σ' ∧ xLi σ0 σ' D F rn S h (b + 1) 0 := by
  have hpc := dL_pc hD
  have hM6 := hD.1
  intro r
  induction r with
  | zero =>
    intro c fuel σ h1 h2 h3 h4
    refine ⟨σ, ?_, h4.1, fun b' c' q1 q2 q3 q4 => h4.2.1 b' c' q1 q2 q3 (by omega), h4.2.2⟩
    show q_X3_learn_B30_b θ a2 a3 k17 _ (nI S) (nI h) x4 (nI b) (nI (dSh D + c)) σ = _
    unfold q_X3_learn_B30_b
    rw [hx4, if_pos (nI_le (by omega) (by omega)), zl, nI_1]
  | succ r ih =>
    intro c fuel σ h1 h2 h3 h4
    have eu : q_X3_learn_B30 θ a2 a3 k17 (fuel + (r + 1) + 1) (nI S) (nI h) x4 (nI b) (nI (dSh D + c)) σ = q_X3_learn_B30_b θ a2 a3 k17 (q_X3_learn_B30 θ a2 a3 k17 (fuel + (r + 1))) (nI S) (nI h) x4 (nI b) (nI (dSh D + c)) σ := rfl
    rw [eu]
    by_cases hbit : S.testBit b = true
    · have hbM := ((dL_bit hD hb).mp (hSL b hb hbit)).1
      obtain ⟨σ1, g1, g2⟩ := x_learn1 (θ := θ) hB hD hP hh hS hb (show c < zPc (dL D) by omega) hbit hbM h4 (a2 := a2) (a3 := a3) (k17 := k17) (rec := q_X3_learn_B30 θ a2 a3 k17 (fuel + (r + 1))) hx4
      obtain ⟨σ', e1, e2⟩ := ih (c + 1) fuel σ1 (by omega) (by omega) (Or.inl hbit) g2
      exact ⟨σ', g1.trans e1, e2⟩
    · have hc0 : c = 0 := by rcases h3 with q | q; exact absurd q hbit; exact q
      subst hc0
      refine ⟨σ, ?_, h4.1, fun b' c' q1 q2 q3 q4 => h4.2.1 b' c' q1 q2 q3 (Or.inl ?_), h4.2.2⟩
      · unfold q_X3_learn_B30_b
        rw [hx4, if_neg (nI_ge (by omega) (by omega)), x_hasBit hS hb, zb, z_r01, if_neg hbit, zl, nI_1]
      · by_cases e : b' = b
        · subst e; exact absurd q3 hbit
        · omega
theorem x_learn (hB : sx_base θ) (hD : zDok D) {S h : Nat} (hP : xPr θ σ D F rn) (hh : h < 24) (hS : S < 64) (hSL : ∀ b, b < 6 → S.testBit b = true → (dL D).testBit b = true) :
    ∃ σ', q_X3_learn θ (nI S) (nI h) σ = some ((), σ') ∧ xFr zLn σ σ' ∧ (∀ b, b < 6 → S.testBit b = true → xL σ' D F rn b h) ∧ ∀ i b d h', 29 ≤ i → i ≤ 31 → b < 6 → d < 6 → h' < 24 → (h' ≠ h ∨ S.testBit b = false) → σ'.1 i (kIx b d h') = σ.1 i (kIx b d h') := by
  have hpc := dL_pc hD
  have hM6 := hD.1
  have e12 : nI (dSh D) + nI (zPc (dL D)) = nI (dSh D + zPc (dL D)) := nI_add _ _
  have loop : ∀ (r b fuel : Nat) (τ : sv_S), 6 - b = r → b ≤ 6 → xLi σ τ D F rn S h b 0 → ∃ σ', q_X3_learn_B17 θ (nI S) (nI h) (fuel + r + 1) (nI S) (nI h) (nI (dSh D + zPc (dL D))) (nI b) τ = some ((), σ') ∧ xLi σ σ' D F rn S h 6 0 := by
    intro r
    induction r with
    | zero =>
      intro b fuel τ h1 h2 h3
      have : b = 6 := by omega
      subst this
      refine ⟨τ, ?_, h3⟩
      show q_X3_learn_B17_b θ (nI S) (nI h) _ (nI S) (nI h) _ (nI 6) τ = _
      unfold q_X3_learn_B17_b
      rw [if_pos (show (6 : Int32) ≤ nI 6 by decide)]
    | succ r ih =>
      intro b fuel τ h1 h2 h3
      have eu : q_X3_learn_B17 θ (nI S) (nI h) (fuel + (r + 1) + 1) (nI S) (nI h) (nI (dSh D + zPc (dL D))) (nI b) τ = q_X3_learn_B17_b θ (nI S) (nI h) (q_X3_learn_B17 θ (nI S) (nI h) (fuel + (r + 1))) (nI S) (nI h) (nI (dSh D + zPc (dL D))) (nI b) τ := rfl
      have hP1 := xPr_ln hP h3.1
      obtain ⟨τ1, g1, g2⟩ := x_learnB (θ := θ) hB hD hP hh hS hSL (show b < 6 by omega) (a2 := nI S) (a3 := nI h) (k17 := q_X3_learn_B17 θ (nI S) (nI h) (fuel + (r + 1))) rfl (zPc (dL D)) 0 (199 - zPc (dL D)) τ rfl (Nat.zero_le _) (Or.inr rfl) h3
      rw [show 199 - zPc (dL D) + zPc (dL D) + 1 = sv_N by unfold sv_N; omega] at g1
      obtain ⟨σ', e1, e2⟩ := ih (b + 1) fuel τ1 (by omega) (by omega) g2
      refine ⟨σ', ?_, e2⟩
      rw [eu]
      unfold q_X3_learn_B17_b
      rw [if_neg (show ¬ (6 : Int32) ≤ nI b from nI_ge (b := 6) (by omega) (by omega)), hP1.2.2.2.2, zl]
      exact g1.trans e1
  obtain ⟨σ', e1, e2, e3, e4⟩ := loop 6 0 193 σ (by omega) (by omega) ⟨xFr_rf, fun b' c' _ _ _ q => by omega, fun i b' d' h' _ _ _ _ _ _ => rfl⟩
  refine ⟨σ', ?_, e2, fun b hb hbit c hc => e3 b c hb hc hbit (Or.inl hb), e4⟩
  unfold q_X3_learn
  rw [hP.2.2.2.1, hP.2.2.2.2, z_bc (dL_lt hD), zb, e12, zl]
  exact e1
end LRN

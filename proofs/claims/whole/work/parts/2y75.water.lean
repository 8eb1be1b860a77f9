/-! ===== calls: water ===== -/
section WTR
variable {θ θm : sv_T} {σ μ : sv_S} {tc : Nat} {Fs : Nat → Nat → (Nat → Int32) → Int32} {D : zD} {F : Nat → (Nat → Int32) → Int32}
/-- rain with 9 at a place -/
def kR9 (rn : Nat → Nat) (k : Nat) : Nat → Nat := fun j => if j = k then 9 else rn j
theorem kR9_v {rn : Nat → Nat} {k : Nat} : kR9 rn k k = 9 := by unfold kR9; rw [if_pos rfl]
theorem kR9_o {rn : Nat → Nat} {k j : Nat} (h : j ≠ k) : kR9 rn k j = rn j := by unfold kR9; rw [if_neg h]
theorem kR9_le {rn : Nat → Nat} {k : Nat} (h : ∀ j, j < 48 → rn j ≤ 9) : ∀ j, j < 48 → kR9 rn k j ≤ 9 := fun j hj => by
  by_cases e : j = k
  · rw [e, kR9_v]; exact Nat.le_refl _
  · rw [kR9_o e]; exact h j hj
def kWv (D : zD) (F : Nat → (Nat → Int32) → Int32) (k : Nat) : Nat := (kV D F (kR9 (dR D) k) 6 (dL D)).1
/-- where it had best be watered, and what is gained then, among the first k places -/
def kWt (D : zD) (F : Nat → (Nat → Int32) → Int32) : Nat → Int32 × Nat
  | 0 => (-1, (kV D F (dR D) 6 (dL D)).1)
  | k + 1 => if (kWt D F k).2 < kWv D F k then (nI (100 * (k / 24) + k % 24), kWv D F k) else kWt D F k
theorem kWt_ge : ∀ k, (kV D F (dR D) 6 (dL D)).1 ≤ (kWt D F k).2
  | 0 => Nat.le_refl _
  | k + 1 => by
    have ih := kWt_ge k
    simp only [kWt]
    by_cases h : (kWt D F k).2 < kWv D F k
    · rw [if_pos h]; show _ ≤ kWv D F k; omega
    · rw [if_neg h]; exact ih
theorem kV_same (hD : zDok D) {rn rn' : Nat → Nat} (h : ∀ b, b < 6 → (dL D).testBit b = true → ∀ x, x < 24 → rn (24 * dS D b + x) = rn' (24 * dS D b + x)) : kV D F rn 6 (dL D) = kV D F rn' 6 (dL D) := by
  unfold kV
  rw [kW_same (sh := kSh D F rn) (sh' := kSh D F rn') (wo := kWo D F rn) (wo' := kWo D F rn') 6 (dL D) (dL_lt hD) (fun b hb hbit c a => zSh_same (h b hb hbit) a) (fun b hb hbit c a v hv => nWor_same (h b hb hbit v (zSh_lt hv).2))]
/-- those in a street, below b (bits) -/
def zIs (D : zD) (s : Nat) : Nat → Nat
  | 0 => 0
  | b + 1 => if dS D b = s then zIs D s b ||| 2 ^ b else zIs D s b
theorem zIs_lt {s : Nat} : ∀ b, b ≤ 6 → zIs D s b < 64 ∧ ∀ c, b ≤ c → c < 6 → (zIs D s b).testBit c = false
  | 0, _ => ⟨by show 0 < 64; omega, fun c _ _ => by simp [zIs]⟩
  | b + 1, hb => by
    obtain ⟨h1, h2⟩ := zIs_lt (s := s) b (by omega)
    simp only [zIs]
    by_cases h : dS D b = s
    · rw [if_pos h]
      refine ⟨(z_orb _ h1 b (by omega)).2, fun c hc hc6 => ?_⟩
      rw [Nat.testBit_or, h2 c (by omega) hc6, Nat.testBit_two_pow_of_ne (by omega)]
      rfl
    · rw [if_neg h]
      exact ⟨h1, fun c hc hc6 => h2 c (by omega) hc6⟩
theorem zIs_bit {s : Nat} : ∀ b, b ≤ 6 → ∀ c, c < b → ((zIs D s b).testBit c = true ↔ dS D c = s)
  | 0, _, c, hc => by omega
  | b + 1, hb, c, hc => by
    simp only [zIs]
    by_cases e : c = b
    · subst e
      by_cases h : dS D c = s
      · rw [if_pos h, Nat.testBit_or, Nat.testBit_two_pow_self, Bool.or_true]
        exact ⟨fun _ => h, fun _ => rfl⟩
      · rw [if_neg h, (zIs_lt (D := D) (s := s) c (by omega)).2 c (Nat.le_refl _) (by omega)]
        exact ⟨fun q => absurd q (by decide), fun q => absurd q h⟩
    · by_cases h : dS D b = s
      · rw [if_pos h, Nat.testBit_or, Nat.testBit_two_pow_of_ne (by omega), Bool.or_false]
        exact zIs_bit b (by omega) c (by omega)
      · rw [if_neg h]; exact zIs_bit b (by omega) c (by omega)
theorem z_andb : ∀ x, x < 64 → ∀ y, y < 64 → nI x &&& nI y = nI (x &&& y) ∧ x &&& y < 64 := by decide +kernel
theorem x_inStreet (hB : sx_base θ) (hD : zDok D) (hX : xMk σ 1 D) {s : Nat} (hs : s < 2) : q_X2_inStreet θ (nI s) σ = some (nI (zIs D s (dM D)), σ) := by
  have l5 : sv_len θ 5 = 6 := sx_L (sx_c5 hB)
  have hM6 := hD.1
  have run : ∀ (r b fuel : Nat), dM D - b = r → b ≤ dM D → q_X2_inStreet_B4 θ (nI s) (fuel + r + 1) (nI s) (nI (zIs D s b)) (nI b) σ = some (nI (zIs D s (dM D)), σ) := by
    intro r
    induction r with
    | zero =>
      intro b fuel h1 h2
      show q_X2_inStreet_B4_b θ (nI s) _ (nI s) (nI (zIs D s b)) (nI b) σ = _
      unfold q_X2_inStreet_B4_b
      rw [hX.1, if_pos (nI_le (by omega) (by omega)), show b = dM D by omega]
    | succ r ih =>
      intro b fuel h1 h2
      have hst := (hD.2.2.1 b (by omega)).2.2.1
      have k3 : σ.1 5 b = nI (dS D b) := (hX.2.2.1 b (by omega)).2.2.1
      have hz := (zIs_lt (D := D) (s := s) b (by omega)).1
      have e1 := ih (b + 1) fuel (by omega) (by omega)
      show q_X2_inStreet_B4_b θ (nI s) (q_X2_inStreet_B4 θ (nI s) (fuel + (r + 1))) (nI s) (nI (zIs D s b)) (nI b) σ = _
      unfold q_X2_inStreet_B4_b
      rw [hX.1, if_neg (nI_ge (by omega) (by omega)), z_at (by rw [l5]; omega), zb, l5, zat_nI (by omega) (by omega), k3]
      simp only [zIs] at e1
      by_cases h : dS D b = s
      · rw [if_pos h] at e1
        rw [if_pos (show nI (dS D b) = nI s by rw [h]), (z_orb _ hz b (by omega)).1, zl, zl, nI_1]
        exact e1
      · rw [if_neg h] at e1
        rw [if_neg (fun q => h ((nI_eq (by omega) (by omega)).mp q)), show nI (zIs D s b) ||| (0 : Int32) = nI (zIs D s b) from Int32.or_zero, zl, zl, nI_1]
        exact e1
  have := run (dM D) 0 (199 - dM D) (by omega) (by omega)
  rw [show 199 - dM D + dM D + 1 = sv_N by unfold sv_N; omega] at this
  exact this
/-- those of a street that aren't shaken on -/
def zWe (D : zD) (s : Nat) : Nat := dL D &&& zIs D s (dM D)
theorem zWe_lt (hD : zDok D) {s : Nat} : zWe D s < 64 := (z_andb _ (dL_lt hD) _ (zIs_lt (D := D) (s := s) (dM D) hD.1).1).2
theorem zWe_bit (hD : zDok D) {s b : Nat} (hb : b < 6) : (zWe D s).testBit b = true ↔ (dL D).testBit b = true ∧ dS D b = s := by
  unfold zWe
  rw [Nat.testBit_and, Bool.and_eq_true]
  constructor
  · rintro ⟨h1, h2⟩
    exact ⟨h1, (zIs_bit (D := D) (s := s) (dM D) hD.1 b ((dL_bit hD hb).mp h1).1).mp h2⟩
  · rintro ⟨h1, h2⟩
    exact ⟨h1, (zIs_bit (D := D) (s := s) (dM D) hD.1 b ((dL_bit hD hb).mp h1).1).mpr h2⟩
theorem zWe_no (hD : zDok D) {s b : Nat} (hb : b < 6) (hL : (dL D).testBit b = true) (h : (zWe D s).testBit b = false) : dS D b ≠ s := fun q => by
  rw [(zWe_bit hD hb).mpr ⟨hL, q⟩] at h
  exact absurd h (by decide)
theorem xL_same {rn rn' : Nat → Nat} {b h : Nat} (hq : xL σ D F rn b h) (e : rn (24 * dS D b + h) = rn' (24 * dS D b + h)) : xL σ D F rn' b h := fun c hc => by
  obtain ⟨q1, q2, q3⟩ := hq c hc
  exact ⟨by rw [q1, nNeed_same (γ := dC D F b (dSh D + c)) e], by rw [q2, nTake_same (γ := dC D F b (dSh D + c)) e], by rw [q3, nWor_same (γ := dC D F b (dSh D + c)) e]⟩
theorem xE_same {rn rn' : Nat → Nat} {b : Nat} (hq : xE σ D F rn b) (e : ∀ x, x < 24 → rn (24 * dS D b + x) = rn' (24 * dS D b + x)) : xE σ D F rn' b := fun c hc h hh => by
  rw [hq c hc h hh]
  exact congrArg zO (zSh_same (γ := dC D F b (dSh D + c)) e h)
/-- all is learnt but when hands are shaken in one street -/
def xWi (θ : sv_T) (σ : sv_S) (D : zD) (F : Nat → (Nat → Int32) → Int32) (s : Nat) : Prop :=
  xPr θ σ D F (dR D) ∧ (∀ b, b < 6 → (dL D).testBit b = true → ∀ h, h < 24 → xL σ D F (dR D) b h) ∧ ∀ b, b < 6 → (dL D).testBit b = true → dS D b ≠ s → xE σ D F (dR D) b
theorem xL_unch {σ' : sv_S} {rn : Nat → Nat} {S b h hh : Nat} (hD : zDok D) (hb : b < 6) (hh24 : h < 24) (hu : ∀ i b d h', 29 ≤ i → i ≤ 31 → b < 6 → d < 6 → h' < 24 → (h' ≠ hh ∨ S.testBit b = false) → σ'.1 i (kIx b d h') = σ.1 i (kIx b d h')) (hor : h ≠ hh ∨ S.testBit b = false) (hq : xL σ D F rn b h) : xL σ' D F rn b h := fun c hc => by
  have hpc := dL_pc hD
  have hM6 := hD.1
  obtain ⟨q1, q2, q3⟩ := hq c hc
  exact ⟨by rw [hu 29 b (dSh D + c) h (by omega) (by omega) hb (by omega) hh24 hor]; exact q1, by rw [hu 30 b (dSh D + c) h (by omega) (by omega) hb (by omega) hh24 hor]; exact q2, by rw [hu 31 b (dSh D + c) h (by omega) (by omega) hb (by omega) hh24 hor]; exact q3⟩
theorem xE_fr {S : Nat → Nat → Prop} {σ' : sv_S} {rn : Nat → Nat} {b : Nat} (hq : xE σ D F rn b) (hf : xFr S σ σ') (h : ∀ j, ¬ S 32 j) : xE σ' D F rn b := fun c hc x hx => by
  rw [(hf.2 _ _ (h _)).1]; exact hq c hc x hx
theorem xL_fr {S : Nat → Nat → Prop} {σ' : sv_S} {rn : Nat → Nat} {b x : Nat} (hq : xL σ D F rn b x) (hf : xFr S σ σ') (h : ∀ i j, 29 ≤ i → i ≤ 31 → ¬ S i j) : xL σ' D F rn b x := fun c hc => by
  obtain ⟨q1, q2, q3⟩ := hq c hc
  exact ⟨by rw [(hf.2 _ _ (h _ _ (by omega) (by omega))).1]; exact q1, by rw [(hf.2 _ _ (h _ _ (by omega) (by omega))).1]; exact q2, by rw [(hf.2 _ _ (h _ _ (by omega) (by omega))).1]; exact q3⟩
/-- rain put at a place of the plan -/
theorem xPr_put {rn : Nat → Nat} {k v : Nat} (hP : xPr θ σ D F rn) (hk : k < 48) (hv : v ≤ 9) {rn' : Nat → Nat} (h1 : rn' k = v) (h2 : ∀ j, j ≠ k → rn' j = rn j) : xPr θ (sv_sI σ 27 k (nI v)) D F rn' := by
  obtain ⟨a1, a2, a3, a4, a5⟩ := hP
  have hf : xFr (fun i j => i = 27) σ (sv_sI σ 27 k (nI v)) := xFr_I rfl
  refine ⟨xMk_fr a1 hf (fun i j q1 q2 => by omega), xText_fr a2 hf (fun i j q1 q2 => by omega), ⟨a3.1, fun j hj => ?_⟩, by rw [(hf.2 _ _ (by omega)).1]; exact a4, by rw [(hf.2 _ _ (by omega)).1]; exact a5⟩
  by_cases e : j = k
  · subst e
    exact ⟨by rw [zI_v, h1], by rw [h1]; exact hv⟩
  · rw [zI_o (Or.inr e), h2 j e]; exact a3.2 j hj
set_option maxHeartbeats 1000000 in
theorem x_waterOne (hB : sx_base θ) (hD : zDok D) {s h G : Nat} {P : Int32} (hs : s < 2) (hh : h < 24) (hW : xWi θ σ D F s) (hP15 : σ.1 24 15 = P) (hG16 : σ.1 24 16 = nI G) (hG : G ≤ 5994) :
    ∃ σ', q_X3_waterOne θ (nI (zWe D s)) (nI s) (nI h) σ = some ((), σ') ∧ xFr zPp σ σ' ∧ xWi θ σ' D F s ∧ kWv D F (24 * s + h) ≤ 5994 ∧ σ'.1 24 15 = (if G < kWv D F (24 * s + h) then nI (100 * s + h) else P) ∧ σ'.1 24 16 = nI (if G < kWv D F (24 * s + h) then kWv D F (24 * s + h) else G) := by
  have l27 : sv_len θ 27 = 48 := sx_L (sx_c27 hB)
  have hR9 := hD.2.1
  have hk : 24 * s + h < 48 := by omega
  have hix : nI s * (24 : Int32) + nI h = nI (24 * s + h) := by rw [show (24 : Int32) = nI 24 from rfl, pk_mul, nI_add, Nat.mul_comm s 24]
  have hSlt : zWe D s < 64 := zWe_lt hD
  have hSL : ∀ b, b < 6 → (zWe D s).testBit b = true → (dL D).testBit b = true := fun b hb q => ((zWe_bit hD hb).mp q).1
  have hwas : σ.1 27 (24 * s + h) = nI (dR D (24 * s + h)) := (hW.1.2.2.1.2 _ hk).1
  -- places of other streets, other hours
  have oth : ∀ b x, b < 6 → (dL D).testBit b = true → x < 24 → (dS D b ≠ s ∨ x ≠ h) → 24 * dS D b + x ≠ 24 * s + h := fun b x hb hL hx hor => by omega
  obtain ⟨w1, w2, w3⟩ := hW
  have P1 : xPr θ (sv_sI σ 27 (24 * s + h) (nI 9)) D F (kR9 (dR D) (24 * s + h)) := xPr_put w1 hk (Nat.le_refl _) kR9_v (fun j hj => kR9_o hj)
  have f1 : xFr zPp σ (sv_sI σ 27 (24 * s + h) (nI 9)) := xFr_I (Or.inr (Or.inr (Or.inl rfl)))
  have L1 : ∀ b, b < 6 → (dL D).testBit b = true → ∀ x, x < 24 → xL (sv_sI σ 27 (24 * s + h) (nI 9)) D F (dR D) b x := fun b hb hL x hx => xL_fr (w2 b hb hL x hx) (xFr_I (S := fun i j => i = 27) rfl) (fun i j _ _ => by omega)
  have E1 : ∀ b, b < 6 → (dL D).testBit b = true → dS D b ≠ s → xE (sv_sI σ 27 (24 * s + h) (nI 9)) D F (dR D) b := fun b hb hL hst => xE_fr (w3 b hb hL hst) (xFr_I (S := fun i j => i = 27) rfl) (fun j => by omega)
  have h15 : (sv_sI σ 27 (24 * s + h) (nI 9)).1 24 15 = P := by rw [zI_o (by omega)]; exact hP15
  have h16 : (sv_sI σ 27 (24 * s + h) (nI 9)).1 24 16 = nI G := by rw [zI_o (by omega)]; exact hG16
  have e0 : q_X3_waterOne θ (nI (zWe D s)) (nI s) (nI h) σ = sp_b (q_X3_learn θ (nI (zWe D s)) (nI h) (sv_sI σ 27 (24 * s + h) (nI 9))) (fun r5 σ6 => sp_b (q_X3_fillEnds θ (nI (zWe D s)) σ6) (fun r7 σ8 => sp_b (q_X3_seek θ (σ8.1 24 11) (6 : Int32) σ8) (fun r9 σ10 => if r9 ≤ (σ10.1 24 16) then (q_X3_waterOne_B84 θ (nI (zWe D s)) (nI s) (nI h) (nI (zWe D s)) (nI s) (nI h) (nI (dR D (24 * s + h))) σ10) else sp_l (sv_sI σ10 24 16 r9) (fun σ16 => sp_l (sv_sI σ16 24 15 (((100 : Int32) * nI s) + nI h)) (fun σ17 => q_X3_waterOne_B84 θ (nI (zWe D s)) (nI s) (nI h) (nI (zWe D s)) (nI s) (nI h) (nI (dR D (24 * s + h))) σ17))))) := by
    unfold q_X3_waterOne
    rw [hix, z_at (by rw [l27]; omega), zb, l27, zat_nI hk (by omega), hwas, z_put (by rw [l27]; omega), zb, l27, show (9 : Int32) = nI 9 from rfl, zput_nI hk (by omega)]
  revert P1 f1 L1 E1 h15 h16 e0
  generalize sv_sI σ 27 (24 * s + h) (nI 9) = σ1
  intro P1 f1 L1 E1 h15 h16 e0
  obtain ⟨σ2, g1, g2, g3, g4⟩ := x_learn (θ := θ) hB hD P1 hh hSlt hSL
  have P2 := xPr_ln P1 g2
  have noS : ∀ b, b < 6 → (dL D).testBit b = true → dS D b ≠ s → (zWe D s).testBit b = false := fun b hb hL hst => by
    cases hq : (zWe D s).testBit b with
    | false => rfl
    | true => exact absurd ((zWe_bit hD hb).mp hq).2 hst
  -- in the other rain all is learnt
  have L2 : ∀ b, b < 6 → (dL D).testBit b = true → ∀ x, x < 24 → xL σ2 D F (kR9 (dR D) (24 * s + h)) b x := fun b hb hL x hx => by
    by_cases e : dS D b = s ∧ x = h
    · obtain ⟨e1, rfl⟩ := e
      exact g3 b hb ((zWe_bit hD hb).mpr ⟨hL, e1⟩)
    · have hor : dS D b ≠ s ∨ x ≠ h := by omega
      refine xL_same (xL_unch hD hb hx g4 ?_ (L1 b hb hL x hx)) (kR9_o (oth b x hb hL hx hor)).symm
      rcases hor with q | q
      · exact Or.inr (noS b hb hL q)
      · exact Or.inl q
  obtain ⟨σ3, k1, k2, k3, k4⟩ := x_fillEnds (θ := θ) hB hD P2 hSlt hSL (fun b hb q x hx => L2 b hb (hSL b hb q) x hx)
  have P3 := xPr_fe P2 k2
  have hpc := dL_pc hD
  have hM6 := hD.1
  have E3 : ∀ b, b < 6 → (dL D).testBit b = true → dS D b ≠ s → xE σ3 D F (dR D) b := fun b hb hL hst c hc x hx => by
    rw [k4 b (dSh D + c) x hb (by omega) hx (noS b hb hL hst), (g2.2 _ _ (by unfold zLn zSk; omega)).1]
    exact E1 b hb hL hst c hc x hx
  have R3 : xRy θ σ3 D F (kR9 (dR D) (24 * s + h)) := ⟨P3, fun b hb hL => ⟨fun x hx => xL_fe (L2 b hb hL x hx) k2, by
    by_cases e : dS D b = s
    · exact k3 b hb ((zWe_bit hD hb).mpr ⟨hL, e⟩)
    · exact xE_same (E3 b hb hL e) (fun x hx => (kR9_o (oth b x hb hL hx (Or.inl e))).symm)⟩⟩
  obtain ⟨σ4, m1, m2, m3⟩ := x_seek (θ := θ) hB hD R3 (Nat.le_refl 6) (kOk_L hD (Nat.le_refl 6))
  have R4 := xRy_wk R3 m2
  have hv : kWv D F (24 * s + h) ≤ 5994 := m3.2.2.1
  have m1' : q_X3_seek θ (nI (dL D)) (6 : Int32) σ3 = some (nI (kWv D F (24 * s + h)), σ4) := m1
  have fr4 : xFr zPp σ1 σ4 := xFr_tr (xFr_w g2 (fun i j q => Or.inl q)) (xFr_tr (xFr_w k2 (fun i j q => Or.inr (Or.inl q))) (xFr_w m2 zWk_pp))
  have c4 : σ4.1 24 16 = nI G ∧ σ4.1 24 15 = P := by
    refine ⟨?_, ?_⟩
    · rw [(m2.2 _ _ (by unfold zWk; omega)).1, (k2.2 _ _ (by unfold zFe zCa; omega)).1, (g2.2 _ _ (by unfold zLn zSk; omega)).1]; exact h16
    · rw [(m2.2 _ _ (by unfold zWk; omega)).1, (k2.2 _ _ (by unfold zFe zCa; omega)).1, (g2.2 _ _ (by unfold zLn zSk; omega)).1]; exact h15
  have E4 : ∀ b, b < 6 → (dL D).testBit b = true → dS D b ≠ s → xE σ4 D F (dR D) b := fun b hb hL hst => xE_fr (E3 b hb hL hst) m2 (fun j => by unfold zWk; omega)
  -- what follows in each case: the rain is put back, the hour learnt again
  have back : ∀ τ : sv_S, xFr (fun i j => i = 24 ∧ 15 ≤ j) σ4 τ → ∃ σ', q_X3_waterOne_B84 θ (nI (zWe D s)) (nI s) (nI h) (nI (zWe D s)) (nI s) (nI h) (nI (dR D (24 * s + h))) τ = some ((), σ') ∧ xFr zPp τ σ' ∧ xWi θ σ' D F s ∧ σ'.1 24 15 = τ.1 24 15 ∧ σ'.1 24 16 = τ.1 24 16 := fun τ hτ => by
    have Pt : xPr θ τ D F (kR9 (dR D) (24 * s + h)) := xPr_fr R4.1 hτ (fun i j q => by omega) (fun i j q1 q2 => by omega) (fun j => by omega) (by omega)
    have P5 : xPr θ (sv_sI τ 27 (24 * s + h) (nI (dR D (24 * s + h)))) D F (dR D) := xPr_put Pt hk (hR9 _ hk) rfl (fun j hj => (kR9_o hj).symm)
    have f5 : xFr (fun i j => i = 27) τ (sv_sI τ 27 (24 * s + h) (nI (dR D (24 * s + h)))) := xFr_I rfl
    have e5 : q_X3_waterOne_B84 θ (nI (zWe D s)) (nI s) (nI h) (nI (zWe D s)) (nI s) (nI h) (nI (dR D (24 * s + h))) τ = sp_b (q_X3_learn θ (nI (zWe D s)) (nI h) (sv_sI τ 27 (24 * s + h) (nI (dR D (24 * s + h))))) (fun r14 σ15 => some ((), σ15)) := by
      unfold q_X3_waterOne_B84
      rw [hix, z_put (by rw [l27]; omega), zb, l27, zput_nI hk (by omega)]
    revert P5 f5 e5
    generalize sv_sI τ 27 (24 * s + h) (nI (dR D (24 * s + h))) = τ5
    intro P5 f5 e5
    obtain ⟨σ6, n1, n2, n3, n4⟩ := x_learn (θ := θ) hB hD P5 hh hSlt hSL
    refine ⟨σ6, by rw [e5, n1, zb], xFr_tr (xFr_w f5 (fun i j q => Or.inr (Or.inr (Or.inl q)))) (xFr_w n2 (fun i j q => Or.inl q)), ⟨xPr_ln P5 n2, fun b hb hL x hx => ?_, fun b hb hL hst => ?_⟩, ?_, ?_⟩
    · by_cases e : dS D b = s ∧ x = h
      · obtain ⟨e1, rfl⟩ := e
        exact n3 b hb ((zWe_bit hD hb).mpr ⟨hL, e1⟩)
      · have hor : dS D b ≠ s ∨ x ≠ h := by omega
        have q4 : xL σ4 D F (kR9 (dR D) (24 * s + h)) b x := (R4.2 b hb hL).1 x hx
        have q5 : xL τ5 D F (kR9 (dR D) (24 * s + h)) b x := xL_fr (xL_fr q4 hτ (fun i j _ _ => by omega)) f5 (fun i j _ _ => by omega)
        refine xL_unch hD hb hx n4 ?_ (xL_same q5 (kR9_o (oth b x hb hL hx hor)))
        rcases hor with q | q
        · exact Or.inr (noS b hb hL q)
        · exact Or.inl q
    · exact xE_fr (xE_fr (xE_fr (E4 b hb hL hst) hτ (fun j => by omega)) f5 (fun j => by omega)) n2 (fun j => by unfold zLn zSk; omega)
    · rw [(n2.2 _ _ (by unfold zLn zSk; omega)).1, (f5.2 _ _ (by omega)).1]
    · rw [(n2.2 _ _ (by unfold zLn zSk; omega)).1, (f5.2 _ _ (by omega)).1]
  rw [e0, g1, zb, k1, zb, P3.2.2.2.1, m1', zb, c4.1]
  by_cases hlt : G < kWv D F (24 * s + h)
  · have hf : xFr (fun i j => i = 24 ∧ 15 ≤ j) σ4 (sv_sI (sv_sI σ4 24 16 (nI (kWv D F (24 * s + h)))) 24 15 (nI (100 * s + h))) := xFr_tr (xFr_I ⟨rfl, by omega⟩) (xFr_I ⟨rfl, by omega⟩)
    obtain ⟨σ', o1, o2, o3, o4, o5⟩ := back _ hf
    refine ⟨σ', ?_, xFr_tr f1 (xFr_tr fr4 (xFr_tr (xFr_w hf (fun i j q => by unfold zPp; omega)) o2)), o3, hv, ?_, ?_⟩
    · rw [if_neg (nI_ge hlt (by omega)), zl, show (100 : Int32) * nI s + nI h = nI (100 * s + h) by rw [show (100 : Int32) = nI 100 from rfl, pk_mul, nI_add], zl]
      exact o1
    · rw [o4, if_pos hlt]; exact zI_v
    · rw [o5, if_pos hlt, zI_o (by omega)]; exact zI_v
  · obtain ⟨σ', o1, o2, o3, o4, o5⟩ := back σ4 xFr_rf
    refine ⟨σ', ?_, xFr_tr f1 (xFr_tr fr4 o2), o3, hv, ?_, ?_⟩
    · rw [if_pos (nI_le (by omega) (by omega))]
      exact o1
    · rw [o4, if_neg hlt]; exact c4.2
    · rw [o5, if_neg hlt]; exact c4.1
end WTR

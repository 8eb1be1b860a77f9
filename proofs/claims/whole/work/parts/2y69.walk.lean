/-! ===== the walk through all tours: pure ===== -/
section WK
variable {θ θm : sv_T} {σ μ : sv_S} {tc : Nat} {Fs : Nat → Nat → (Nat → Int32) → Int32} {D : zD}
def zRm (x b : Nat) : Nat := x &&& (63 - 2 ^ b)
theorem z_rm : ∀ x, x < 64 → ∀ b, b < 6 → nI x &&& (((1 : Int32) <<< (nI b &&& 31)) ^^^ (-1 : Int32)) = nI (zRm x b) ∧ zRm x b < 64 := by decide +kernel
theorem z_rmPc : ∀ x, x < 64 → ∀ b, b < 6 → x.testBit b = true → zPc (zRm x b) + 1 = zPc x := by decide +kernel
theorem z_rmBit : ∀ x, x < 64 → ∀ b, b < 6 → ∀ c, c < 6 → (zRm x b).testBit c = true → x.testBit c = true := by decide +kernel
/-- the most that was gained, and by which digits -/
abbrev zW : Type := Nat × Nat
def kU (g d : Nat) (s : zW) : zW := if s.1 < g then (g, d) else s
def kB (sh : Nat → Nat → Nat → Option Nat) (wo : Nat → Nat → Nat → Nat) (G : Nat → Nat → Nat → Nat → Nat → zW → zW) (S a c g d : Nat) : Nat → zW → zW
  | 0, s => s
  | n + 1, s => if S.testBit n = true then (match sh n c a with
    | none => G (zRm S n) a c g (10 * d + n + 1) (kB sh wo G S a c g d n s)
    | some v => G (zRm S n) (v + 1) (c + 1) (g + wo n c v) (10 * d + n + 1) (kB sh wo G S a c g d n s)) else kB sh wo G S a c g d n s
/-- so many more of some (bits), from an hour on, so many done, so much gained -/
def kW (sh : Nat → Nat → Nat → Option Nat) (wo : Nat → Nat → Nat → Nat) : Nat → Nat → Nat → Nat → Nat → Nat → zW → zW
  | 0 => fun _ _ _ g d s => kU g d s
  | r + 1 => fun S a c g d s => kB sh wo (kW sh wo r) S a c g d 6 (kU g d s)
theorem kU_ge {g d : Nat} {s : zW} : g ≤ (kU g d s).1 := by
  unfold kU
  by_cases h : s.1 < g
  · rw [if_pos h]; exact Nat.le_refl _
  · rw [if_neg h]; omega
theorem kU_no {g d : Nat} {s : zW} (h : g ≤ s.1) : kU g d s = s := by unfold kU; rw [if_neg (by omega)]
theorem kB_24 {sh : Nat → Nat → Nat → Option Nat} {wo : Nat → Nat → Nat → Nat} {G : Nat → Nat → Nat → Nat → Nat → zW → zW} {S a c g d : Nat} {s : zW} (h0 : ∀ b, sh b c a = none) (hG : ∀ S' d', G S' a c g d' s = s) : ∀ n, kB sh wo G S a c g d n s = s
  | 0 => rfl
  | n + 1 => by
    simp only [kB]
    rw [kB_24 h0 hG n, h0 n]
    by_cases h : S.testBit n = true
    · rw [if_pos h]; exact hG _ _
    · rw [if_neg h]
theorem kW_24 {sh : Nat → Nat → Nat → Option Nat} {wo : Nat → Nat → Nat → Nat} {a c g : Nat} {s : zW} (h0 : ∀ b, sh b c a = none) (hg : g ≤ s.1) : ∀ r S d, kW sh wo r S a c g d s = s
  | 0, S, d => kU_no hg
  | r + 1, S, d => by
    show kB sh wo (kW sh wo r) S a c g d 6 (kU g d s) = s
    rw [kU_no hg]
    exact kB_24 h0 (fun S' d' => kW_24 h0 hg r S' d') 6
theorem kB_stop {sh : Nat → Nat → Nat → Option Nat} {wo : Nat → Nat → Nat → Nat} {G : Nat → Nat → Nat → Nat → Nat → zW → zW} {S a c g d M : Nat} {s : zW} (h : ∀ b, M ≤ b → b < 6 → S.testBit b = false) : ∀ n, M ≤ n → n ≤ 6 → kB sh wo G S a c g d n s = kB sh wo G S a c g d M s := by
  intro n
  induction n with
  | zero => intro h1 _; rw [show M = 0 by omega]
  | succ n ih =>
    intro h1 h2
    by_cases e : M = n + 1
    · rw [e]
    · simp only [kB]
      rw [h n (by omega) (by omega), if_neg (by decide)]
      exact ih (by omega) (by omega)
/-- two walks go alike, if what they ask is alike -/
theorem kB_same {sh sh' : Nat → Nat → Nat → Option Nat} {wo wo' : Nat → Nat → Nat → Nat} {G G' : Nat → Nat → Nat → Nat → Nat → zW → zW} {S a c g d : Nat} {s : zW} (h1 : ∀ b, b < 6 → S.testBit b = true → ∀ c a, sh b c a = sh' b c a) (h2 : ∀ b, b < 6 → S.testBit b = true → ∀ c a v, sh' b c a = some v → wo b c v = wo' b c v) (hG : ∀ b, b < 6 → S.testBit b = true → G (zRm S b) = G' (zRm S b)) : ∀ n, n ≤ 6 → kB sh wo G S a c g d n s = kB sh' wo' G' S a c g d n s
  | 0, _ => rfl
  | n + 1, hn => by
    simp only [kB]
    rw [kB_same h1 h2 hG n (by omega)]
    by_cases h : S.testBit n = true
    · rw [if_pos h, if_pos h, h1 n (by omega) h c a, hG n (by omega) h]
      cases hq : sh' n c a with
      | none => rfl
      | some v =>
        show G' (zRm S n) (v + 1) (c + 1) (g + wo n c v) (10 * d + n + 1) _ = G' (zRm S n) (v + 1) (c + 1) (g + wo' n c v) (10 * d + n + 1) _
        rw [h2 n (by omega) h c a v hq]
    · rw [if_neg h, if_neg h]
theorem kW_same {sh sh' : Nat → Nat → Nat → Option Nat} {wo wo' : Nat → Nat → Nat → Nat} : ∀ r S, S < 64 → (∀ b, b < 6 → S.testBit b = true → ∀ c a, sh b c a = sh' b c a) → (∀ b, b < 6 → S.testBit b = true → ∀ c a v, sh' b c a = some v → wo b c v = wo' b c v) → kW sh wo r S = kW sh' wo' r S
  | 0, S, _, _, _ => rfl
  | r + 1, S, hS, h1, h2 => by
    funext a c g d s
    show kB sh wo (kW sh wo r) S a c g d 6 (kU g d s) = kB sh' wo' (kW sh' wo' r) S a c g d 6 (kU g d s)
    exact kB_same h1 h2 (fun b hb hSb => kW_same r (zRm S b) (z_rm S hS b hb).2 (fun b' hb' q => h1 b' hb' (z_rmBit S hS b hb b' hb' q)) (fun b' hb' q => h2 b' hb' (z_rmBit S hS b hb b' hb' q))) 6 (Nat.le_refl _)
def kP : Nat → Nat
  | 0 => 1
  | r + 1 => 10 * kP r
theorem kP_pos : ∀ r, 1 ≤ kP r
  | 0 => Nat.le_refl _
  | r + 1 => by have := kP_pos r; simp only [kP]; omega
/-- where a walk may stand: what is left of a set L -/
def kOk (L r S a c g d : Nat) : Prop := S < 64 ∧ a ≤ 24 ∧ (∀ b, b < 6 → S.testBit b = true → L.testBit b = true) ∧ c + zPc S ≤ zPc L ∧ g + 999 * r ≤ 5994 ∧ (d + 1) * kP r ≤ 1000000
theorem kOk_d {L r S a c g d : Nat} (h : kOk L r S a c g d) : g ≤ 5994 ∧ d ≤ 999999 := by
  obtain ⟨h1, h2, h3, h4, h5, h6⟩ := h
  have : d + 1 ≤ (d + 1) * kP r := Nat.le_mul_of_pos_right _ (kP_pos r)
  omega
theorem kOk_in {L r S a c g d b : Nat} (h : kOk L r S a c g d) (hb : b < 6) (hS : S.testBit b = true) : c < zPc L := by
  have := z_rmPc S h.1 b hb hS
  have := h.2.2.2.1
  omega
theorem kOk_dig {r d b : Nat} (hb : b < 6) (h : (d + 1) * kP (r + 1) ≤ 1000000) : (10 * d + b + 1 + 1) * kP r ≤ 1000000 := by
  refine Nat.le_trans ?_ h
  have h1 : (10 * d + b + 1 + 1) * kP r ≤ (10 * (d + 1)) * kP r := Nat.mul_le_mul_right _ (by omega)
  have h2 : (10 * (d + 1)) * kP r = (d + 1) * kP (r + 1) := by
    show (10 * (d + 1)) * kP r = (d + 1) * (10 * kP r)
    rw [Nat.mul_comm 10 (d + 1), Nat.mul_assoc]
  omega
theorem kOk_no {L r S a c g d b : Nat} (h : kOk L (r + 1) S a c g d) (hb : b < 6) (hS : S.testBit b = true) : kOk L r (zRm S b) a c g (10 * d + b + 1) := by
  obtain ⟨h1, h2, h3, h4, h5, h6⟩ := h
  have := z_rmPc S h1 b hb hS
  exact ⟨(z_rm S h1 b hb).2, h2, fun q hq hq2 => h3 q hq (z_rmBit S h1 b hb q hq hq2), by omega, by omega, kOk_dig hb h6⟩
theorem kOk_yes {L r S a c g d b v w : Nat} (h : kOk L (r + 1) S a c g d) (hb : b < 6) (hS : S.testBit b = true) (hv : v < 24) (hw : w ≤ 999) : kOk L r (zRm S b) (v + 1) (c + 1) (g + w) (10 * d + b + 1) := by
  obtain ⟨h1, h2, h3, h4, h5, h6⟩ := h
  have := z_rmPc S h1 b hb hS
  exact ⟨(z_rm S h1 b hb).2, by omega, fun q hq hq2 => h3 q hq (z_rmBit S h1 b hb q hq hq2), by omega, by omega, kOk_dig hb h6⟩
theorem kP_n : ∀ n, n ≤ 6 → (0 + 1) * kP n ≤ 1000000 := by decide
theorem kOk_top {L S n : Nat} (hS : S < 64) (h : ∀ b, b < 6 → S.testBit b = true → L.testBit b = true) (hp : zPc S ≤ zPc L) (hn : n ≤ 6) : kOk L n S 0 0 0 0 :=
  ⟨hS, by omega, h, by omega, by omega, kP_n n hn⟩
def kSt (s : zW) : Prop := s.1 ≤ 5994 ∧ s.2 ≤ 999999
theorem kSt_U {g d : Nat} {s : zW} (h : kSt s) (hg : g ≤ 5994) (hd : d ≤ 999999) : kSt (kU g d s) := by
  unfold kU
  split
  · exact ⟨hg, hd⟩
  · exact h
/-- what a walk asks, by a rule in some rain -/
def kSh (D : zD) (F : Nat → (Nat → Int32) → Int32) (rn : Nat → Nat) (b c h : Nat) : Option Nat := zSh (dC D F b (dSh D + c)) rn h
def kWo (D : zD) (F : Nat → (Nat → Int32) → Int32) (rn : Nat → Nat) (b c h : Nat) : Nat := nWor (dC D F b (dSh D + c)) rn h
abbrev dL (D : zD) : Nat := zUb D (dM D)
def kV (D : zD) (F : Nat → (Nat → Int32) → Int32) (rn : Nat → Nat) (n S : Nat) : zW := kW (kSh D F rn) (kWo D F rn) n S 0 0 0 0 (0, 0)
theorem dL_lt (hD : zDok D) : dL D < 64 := (zUb_lt (D := D) (dM D) hD.1).1
theorem dL_bit (hD : zDok D) {b : Nat} (hb : b < 6) : (dL D).testBit b = true ↔ b < dM D ∧ dH D b = 0 := by
  have hM := hD.1
  by_cases h : b < dM D
  · rw [zUb_bit (D := D) (dM D) hM b h]
    exact ⟨fun q => ⟨h, q⟩, fun q => q.2⟩
  · rw [(zUb_lt (D := D) (dM D) hM).2 b (by omega) hb]
    exact ⟨fun q => absurd q (by decide), fun q => absurd q.1 h⟩
theorem dL_pc1 (hD : zDok D) : ∀ n, n ≤ dM D → zSm (dH D) n + zPc (zUb D n) = n
  | 0, _ => by show 0 + zPc 0 = 0; decide
  | n + 1, hn => by
    have ih := dL_pc1 hD n (by omega)
    have hM := hD.1
    have h1 := (hD.2.2.1 n (by omega)).2.2.2
    obtain ⟨u1, u2⟩ := zUb_lt (D := D) n (by omega)
    simp only [zSm, zUb]
    by_cases h : dH D n = 0
    · rw [if_pos h, z_pc1 _ u1 n (by omega) (u2 n (Nat.le_refl _) (by omega)), h]; omega
    · rw [if_neg h]; omega
theorem dL_pc (hD : zDok D) : dSh D + zPc (dL D) = dM D := dL_pc1 hD (dM D) (Nat.le_refl _)
theorem zSh_24 {γ : zC} {rn : Nat → Nat} : zSh γ rn 24 = none := rfl
theorem kSh_24 {F : Nat → (Nat → Int32) → Int32} {rn : Nat → Nat} {b c : Nat} : kSh D F rn b c 24 = none := zSh_24
theorem zSh_step {γ : zC} {rn : Nat → Nat} {h : Nat} (hh : h < 24) : zSh γ rn h = match zLast γ rn h with
    | some v => some v
    | none => zSh γ rn (h + 1) := by
  unfold zSh
  rw [show 24 - h = (24 - (h + 1)) + 1 by omega]
  rfl
/-- what is told of an hour rests on the rain of that hour alone -/
theorem cNm_same {γ : zC} {rn rn' : Nat → Nat} {h : Nat} (e : rn (24 * γ.2.1 + h) = rn' (24 * γ.2.1 + h)) : cNm γ rn h = cNm γ rn' h := by unfold cNm; rw [e]
theorem nNeed_same {γ : zC} {rn rn' : Nat → Nat} {h : Nat} (e : rn (24 * γ.2.1 + h) = rn' (24 * γ.2.1 + h)) : nNeed γ rn h = nNeed γ rn' h := by unfold nNeed vNeed; rw [cNm_same e]
theorem nTake_same {γ : zC} {rn rn' : Nat → Nat} {h : Nat} (e : rn (24 * γ.2.1 + h) = rn' (24 * γ.2.1 + h)) : nTake γ rn h = nTake γ rn' h := by unfold nTake vTake; rw [cNm_same e]
theorem nWor_same {γ : zC} {rn rn' : Nat → Nat} {h : Nat} (e : rn (24 * γ.2.1 + h) = rn' (24 * γ.2.1 + h)) : nWor γ rn h = nWor γ rn' h := by unfold nWor vWor; rw [cNm_same e]
theorem zLast_same {γ : zC} {rn rn' : Nat → Nat} (e : ∀ h, h < 24 → rn (24 * γ.2.1 + h) = rn' (24 * γ.2.1 + h)) {h : Nat} (hh : h < 24) : zLast γ rn h = zLast γ rn' h := by
  have e1 := nNeed_same (e h hh)
  have e2 := nTake_same (e h hh)
  have key : zHo γ rn h = true ↔ zHo γ rn' h = true := by
    rw [zHo_iff, zHo_iff, e1, e2]
    constructor
    · rintro ⟨q1, q2⟩
      exact ⟨q1, fun x x1 x2 => by rw [← e x (by omega)]; exact q2 x x1 x2⟩
    · rintro ⟨q1, q2⟩
      exact ⟨q1, fun x x1 x2 => by rw [e x (by omega)]; exact q2 x x1 x2⟩
  unfold zLast
  rw [e2]
  by_cases q : zHo γ rn h = true
  · rw [if_pos q, if_pos (key.mp q)]
  · rw [if_neg q, if_neg (fun z => q (key.mpr z))]
theorem zShf_same {γ : zC} {rn rn' : Nat → Nat} (e : ∀ h, h < 24 → rn (24 * γ.2.1 + h) = rn' (24 * γ.2.1 + h)) : ∀ f h, h + f ≤ 24 → zShf γ rn f h = zShf γ rn' f h
  | 0, h, _ => rfl
  | f + 1, h, hf => by
    simp only [zShf]
    rw [zLast_same e (by omega), zShf_same e f (h + 1) (by omega)]
theorem zSh_same {γ : zC} {rn rn' : Nat → Nat} (e : ∀ h, h < 24 → rn (24 * γ.2.1 + h) = rn' (24 * γ.2.1 + h)) (h : Nat) : zSh γ rn h = zSh γ rn' h := by
  unfold zSh
  by_cases hh : h ≤ 24
  · exact zShf_same e _ _ (by omega)
  · rw [show 24 - h = 0 by omega]; rfl
end WK

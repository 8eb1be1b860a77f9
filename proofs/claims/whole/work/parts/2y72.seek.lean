/-! ===== the class's walk ===== -/
section SEK
variable {θ θm : sv_T} {σ μ : sv_S} {tc : Nat} {Fs : Nat → Nat → (Nat → Int32) → Int32} {D : zD} {F : Nat → (Nat → Int32) → Int32} {rn : Nat → Nat}
def zWk (i j : Nat) : Prop := i = 24 ∧ (j = 13 ∨ j = 14)
def xS (σ : sv_S) (s : zW) : Prop := σ.1 24 13 = nI s.1 ∧ σ.1 24 14 = nI s.2 ∧ kSt s
theorem xRy_wk {σ' : sv_S} (h : xRy θ σ D F rn) (hf : xFr zWk σ σ') : xRy θ σ' D F rn := by
  refine ⟨xPr_fr h.1 hf (fun i j q => by unfold zWk; omega) (fun i j q1 q2 => by unfold zWk; omega) (fun j => by unfold zWk; omega) (by unfold zWk; omega), fun b hb hbit => ⟨fun hh h24 c hc => ?_, fun c hc hh h24 => ?_⟩⟩
  · obtain ⟨q1, q2, q3⟩ := (h.2 b hb hbit).1 hh h24 c hc
    exact ⟨by rw [(hf.2 _ _ (by unfold zWk; omega)).1]; exact q1, by rw [(hf.2 _ _ (by unfold zWk; omega)).1]; exact q2, by rw [(hf.2 _ _ (by unfold zWk; omega)).1]; exact q3⟩
  · rw [(hf.2 _ _ (by unfold zWk; omega)).1]; exact (h.2 b hb hbit).2 c hc hh h24
theorem x_walkU {G : Nat → sv_T → Int32 → Int32 → Int32 → Int32 → Int32 → Int32 → sv_S → Option (Unit × sv_S)} {r S a c g d : Nat} {s : zW} (hk : kOk (dL D) r S a c g d) (hs : xS σ s) :
    ∃ σ', xFr zWk σ σ' ∧ xS σ' (kU g d s) ∧ q_X3_walk_b θ G (nI S) (nI r) (zL a) (nI c) (nI g) (nI d) σ = (if nI r ≤ 0 then some ((), σ') else if zL a < (23 : Int32) then q_X3_walk_B35 θ G (nI S) (nI r) (zL a) (nI c) (nI g) (nI d) sv_N (nI S) (nI r) (zL a) (nI c) (nI g) (nI d) (0 : Int32) σ' else some ((), σ')) := by
  obtain ⟨s1, s2, s3, s4⟩ := hs
  have hgd := kOk_d hk
  by_cases hl : s.1 < g
  · have hf : xFr zWk σ (sv_sI (sv_sI σ 24 13 (nI g)) 24 14 (nI d)) := xFr_tr (xFr_I ⟨rfl, Or.inl rfl⟩) (xFr_I ⟨rfl, Or.inr rfl⟩)
    have hu : kU g d s = (g, d) := by unfold kU; rw [if_pos hl]
    refine ⟨_, hf, ?_, ?_⟩
    · rw [hu]
      exact ⟨by rw [zI_o (by omega)]; exact zI_v, zI_v, by exact hgd.1, by exact hgd.2⟩
    · unfold q_X3_walk_b
      rw [s1, if_neg (nI_ge hl (by omega)), zl, zl]
  · have hu : kU g d s = s := kU_no (by omega)
    refine ⟨σ, xFr_rf, by rw [hu]; exact ⟨s1, s2, s3, s4⟩, ?_⟩
    unfold q_X3_walk_b
    rw [s1, if_pos (nI_le (by omega) (by omega))]
theorem x_walk (hB : sx_base θ) (hD : zDok D) : ∀ (r e S a c g d : Nat) (s : zW) (σ : sv_S), kOk (dL D) r S a c g d → xRy θ σ D F rn → xS σ s → ∃ σ', q_G3 (r + 1 + e) 0 θ (nI S) (nI r) (zL a) (nI c) (nI g) (nI d) σ = some ((), σ') ∧ xFr zWk σ σ' ∧ xS σ' (kW (kSh D F rn) (kWo D F rn) r S a c g d s) := by
  have l31 : sv_len θ 31 = 864 := sx_L (sx_c31 hB)
  have l32 : sv_len θ 32 = 864 := sx_L (sx_c32 hB)
  have hpc := dL_pc hD
  have hM6 := hD.1
  intro r
  induction r with
  | zero =>
    intro e S a c g d s σ hk hR hs
    obtain ⟨σ', f1, f2, f3⟩ := x_walkU (θ := θ) (G := q_G3 (0 + e)) hk hs
    refine ⟨σ', ?_, f1, f2⟩
    rw [show 0 + 1 + e = (0 + e) + 1 by omega]
    show q_X3_walk_b θ (q_G3 (0 + e)) (nI S) (nI 0) (zL a) (nI c) (nI g) (nI d) σ = _
    rw [f3, if_pos (show nI 0 ≤ 0 by decide)]
  | succ r ih =>
    intro e S a c g d s σ hk hR hs
    obtain ⟨σ0, f1, f2, f3⟩ := x_walkU (θ := θ) (G := q_G3 (r + 1 + e)) hk hs
    have hk0 := id hk
    obtain ⟨k1, k2, k3, k4, k5, k6⟩ := hk
    have R0 := xRy_wk hR f1
    have top : q_G3 (r + 1 + 1 + e) 0 θ (nI S) (nI (r + 1)) (zL a) (nI c) (nI g) (nI d) σ = q_X3_walk_b θ (q_G3 (r + 1 + e)) (nI S) (nI (r + 1)) (zL a) (nI c) (nI g) (nI d) σ := by
      rw [show r + 1 + 1 + e = (r + 1 + e) + 1 by omega]
      rfl
    rw [top, f3, if_neg (nI_nle (by omega) (by omega))]
    by_cases h24 : a = 24
    · subst h24
      refine ⟨σ0, ?_, f1, ?_⟩
      · rw [if_neg (show ¬ zL 24 < (23 : Int32) by decide)]
      · show xS σ0 (kB (kSh D F rn) (kWo D F rn) (kW (kSh D F rn) (kWo D F rn) r) S 24 c g d 6 (kU g d s))
        rw [kB_24 (fun b => kSh_24) (fun S' d' => kW_24 (fun b => kSh_24) kU_ge r S' d')]
        exact f2
    have ha : zL a < (23 : Int32) := by
      unfold zL
      by_cases h0 : a = 0
      · rw [if_pos h0]; decide
      · rw [if_neg h0]; exact nI_lt (b := 23) (by omega) (by omega)
    rw [if_pos ha]
    have loop : ∀ (k n fuel : Nat) (τ : sv_S), 6 - n = k → n ≤ 6 → xFr zWk σ0 τ → xS τ (kB (kSh D F rn) (kWo D F rn) (kW (kSh D F rn) (kWo D F rn) r) S a c g d n (kU g d s)) → ∃ σ', q_X3_walk_B35 θ (q_G3 (r + 1 + e)) (nI S) (nI (r + 1)) (zL a) (nI c) (nI g) (nI d) (fuel + k + 1) (nI S) (nI (r + 1)) (zL a) (nI c) (nI g) (nI d) (nI n) τ = some ((), σ') ∧ xFr zWk σ0 σ' ∧ xS σ' (kB (kSh D F rn) (kWo D F rn) (kW (kSh D F rn) (kWo D F rn) r) S a c g d 6 (kU g d s)) := by
      intro k
      induction k with
      | zero =>
        intro n fuel τ h1 h2 h3 h4
        have : n = 6 := by omega
        subst this
        refine ⟨τ, ?_, h3, h4⟩
        show q_X3_walk_B35_b θ (q_G3 (r + 1 + e)) (nI S) (nI (r + 1)) (zL a) (nI c) (nI g) (nI d) _ (nI S) (nI (r + 1)) (zL a) (nI c) (nI g) (nI d) (nI 6) τ = _
        unfold q_X3_walk_B35_b
        rw [if_pos (show (6 : Int32) ≤ nI 6 by decide)]
      | succ k ihk =>
        intro n fuel τ h1 h2 h3 h4
        have hn6 : n < 6 := by omega
        have Rt := xRy_wk R0 h3
        have eu : q_X3_walk_B35 θ (q_G3 (r + 1 + e)) (nI S) (nI (r + 1)) (zL a) (nI c) (nI g) (nI d) (fuel + (k + 1) + 1) (nI S) (nI (r + 1)) (zL a) (nI c) (nI g) (nI d) (nI n) τ = q_X3_walk_B35_b θ (q_G3 (r + 1 + e)) (nI S) (nI (r + 1)) (zL a) (nI c) (nI g) (nI d) (q_X3_walk_B35 θ (q_G3 (r + 1 + e)) (nI S) (nI (r + 1)) (zL a) (nI c) (nI g) (nI d) (fuel + (k + 1))) (nI S) (nI (r + 1)) (zL a) (nI c) (nI g) (nI d) (nI n) τ := rfl
        rw [eu]
        unfold q_X3_walk_B35_b
        rw [if_neg (show ¬ (6 : Int32) ≤ nI n from nI_ge (b := 6) (by omega) (by omega)), x_hasBit k1 hn6, zb, z_r01]
        by_cases hbit : S.testBit n = true
        · have hcL := kOk_in hk0 hn6 hbit
          have hbL := k3 n hn6 hbit
          have hix := kIx_lt (b := n) (d := dSh D + c) (h := a) hn6 (by omega) (by omega)
          have hdg : nI d * (10 : Int32) + nI n + 1 = nI (10 * d + n + 1) := by rw [show (10 : Int32) = nI 10 from rfl, pk_mul, nI_add, nI_1, Nat.mul_comm d 10]
          have hend := (Rt.2 n hn6 hbL).2 c hcL a (by omega)
          rw [if_pos hbit, (z_rm S k1 n hn6).1, zl, hdg, zl, Rt.1.2.2.2.2, nI_add, zL_1, x_entry, zb, z_at (by rw [l32]; omega), zb, l32, zat_nI hix (by omega), hend, nI_pred]
          cases hsh : kSh D F rn n c a with
          | none =>
            obtain ⟨τ1, g1, g2, g3⟩ := ih e (zRm S n) a c g (10 * d + n + 1) _ τ (kOk_no hk0 hn6 hbit) Rt h4
            obtain ⟨σ', e1, e2, e3⟩ := ihk (n + 1) fuel τ1 (by omega) (by omega) (xFr_tr h3 g2) (by
              simp only [kB]
              rw [if_pos hbit, hsh]
              exact g3)
            refine ⟨σ', ?_, e2, e3⟩
            rw [show zO none = -1 from rfl, if_pos (show (-1 : Int32) = -1 from rfl), g1, zb, zl, nI_1]
            exact e1
          | some v =>
            have hv := zSh_lt hsh
            have hixv := kIx_lt (b := n) (d := dSh D + c) (h := v) hn6 (by omega) hv.2
            have hw := ((Rt.2 n hn6 hbL).1 v hv.2 c hcL).2.2
            obtain ⟨-, hw9⟩ := nWor_ok (dC D F n (dSh D + c)) rn v
            obtain ⟨τ1, g1, g2, g3⟩ := ih e (zRm S n) (v + 1) (c + 1) (g + kWo D F rn n c v) (10 * d + n + 1) _ τ (kOk_yes hk0 hn6 hbit hv.2 hw9) Rt h4
            obtain ⟨σ', e1, e2, e3⟩ := ihk (n + 1) fuel τ1 (by omega) (by omega) (xFr_tr h3 g2) (by
              simp only [kB]
              rw [if_pos hbit, hsh]
              exact g3)
            refine ⟨σ', ?_, e2, e3⟩
            rw [zL_s] at g1
            have g1' : q_G3 (r + 1 + e) 0 θ (nI (zRm S n)) (nI r) (nI v) (nI (c + 1)) (nI (g + nWor (dC D F n (dSh D + c)) rn v)) (nI (10 * d + n + 1)) τ = some ((), τ1) := g1
            rw [show zO (some v) = nI v from rfl, if_neg (zO_ne (by omega)), Rt.1.2.2.2.2, nI_add, x_entry, zb, z_at (by rw [l31]; omega), zb, l31, zat_nI hixv (by omega), hw, nI_add, nI_1, g1', zb, zl, nI_1]
            exact e1
        · obtain ⟨σ', e1, e2, e3⟩ := ihk (n + 1) fuel τ (by omega) (by omega) h3 (by
            simp only [kB]
            rw [if_neg hbit]
            exact h4)
          refine ⟨σ', ?_, e2, e3⟩
          rw [if_neg hbit, zl, nI_1]
          exact e1
    obtain ⟨σ', e1, e2, e3⟩ := loop 6 0 193 σ0 (by omega) (by omega) xFr_rf f2
    exact ⟨σ', e1, xFr_tr f1 e2, e3⟩
theorem x_seek (hB : sx_base θ) (hD : zDok D) {S n : Nat} (hR : xRy θ σ D F rn) (hn : n ≤ 6) (hk : kOk (dL D) n S 0 0 0 0) : ∃ σ', q_X3_seek θ (nI S) (nI n) σ = some (nI (kV D F rn n S).1, σ') ∧ xFr zWk σ σ' ∧ xS σ' (kV D F rn n S) := by
  have hf : xFr zWk σ (sv_sI (sv_sI σ 24 13 0) 24 14 0) := xFr_tr (xFr_I ⟨rfl, Or.inl rfl⟩) (xFr_I ⟨rfl, Or.inr rfl⟩)
  have hs0 : xS (sv_sI (sv_sI σ 24 13 0) 24 14 0) (0, 0) := ⟨by rw [zI_o (by omega)]; exact zI_v, zI_v, by decide, by decide⟩
  obtain ⟨σ', g1, g2, g3⟩ := x_walk (θ := θ) (F := F) (rn := rn) hB hD n (7 - n) S 0 0 0 0 (0, 0) _ hk (xRy_wk hR hf) hs0
  refine ⟨σ', ?_, xFr_tr hf g2, g3⟩
  rw [show n + 1 + (7 - n) = 8 by omega] at g1
  have g1' : q_X3_walk θ 8 (nI S) (nI n) (-1 : Int32) (0 : Int32) (0 : Int32) (0 : Int32) (sv_sI (sv_sI σ 24 13 0) 24 14 0) = some ((), σ') := g1
  unfold q_X3_seek
  rw [zl, zl, g1', zb, g3.1]
  rfl
end SEK

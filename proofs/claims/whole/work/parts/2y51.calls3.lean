/-! ===== calls: set, bargain, feed, force ===== -/
section CA3
variable {θ θm : sv_T} {σ μ : sv_S} {tc : Nat} {Fs : Nat → Nat → (Nat → Int32) → Int32} {D : zD}
def zup (f : Nat → Nat) (k v : Nat) : Nat → Nat := fun i => if i = k then v else f i
theorem zup_eq {f : Nat → Nat} {k v : Nat} : zup f k v k = v := by unfold zup; rw [if_pos rfl]
theorem zup_ne {f : Nat → Nat} {k v i : Nat} (h : i ≠ k) : zup f k v i = f i := by unfold zup; rw [if_neg h]
theorem zI_up {σ : sv_S} {i k v j : Nat} {f : Nat → Nat} (h : σ.1 i j = nI (f j)) : (sv_sI σ i k (nI v)).1 i j = nI (zup f k v j) := by
  by_cases hj : j = k
  · subst hj; rw [zI_v, zup_eq]
  · rw [zI_o (Or.inr hj), zup_ne hj]; exact h
theorem sx_mostI {w : Nat} (hw : w < 5) : sx_most w = nI (if w ≤ 2 then 9 else 1) := by
  have key : ∀ w, w < 5 → sx_most w = nI (if w ≤ 2 then 9 else 1) := by decide +kernel
  exact key w hw
theorem c_set (h : zRel θ θm σ μ tc Fs D) (a1 a2 a3 : Int32) : zGo θ θm tc Fs (q_X7_set θ a1 a2 a3 σ) (q_X8_set θm a1 a2 a3 μ) := by
  have hB := h.1
  obtain ⟨hD, hT, hX, hM⟩ := h.2.2.2.1
  have hM6 := hD.1
  have l2 : sv_len θ 2 = 48 := sx_L (sx_c2 hB)
  have l4 : sv_len θ 4 = 6 := sx_L (sx_c4 hB)
  have l5 : sv_len θ 5 = 6 := sx_L (sx_c5 hB)
  have l6 : sv_len θ 6 = 6 := sx_L (sx_c6 hB)
  rcases pk_ix a1 (n := 5) (by omega) with q | q | ⟨w, hw, rfl⟩
  · refine zGo_same h (r := -2) ?_ ?_
    · unfold q_X7_set; rw [if_pos q]
    · unfold q_X8_set; rw [m_inN q, zb, if_pos p00]
  · refine zGo_same h (r := -2) ?_ ?_
    · unfold q_X7_set; rw [if_neg (z_pos (by omega) q), if_pos (show (5 : Int32) ≤ a1 from q)]
    · unfold q_X8_set; rw [m_inO q (by omega) (show (4 : Int64).toInt < (5 : Nat) by decide), zb, if_pos p00]
  have hmo : q_X8_mostOf θm (nI w) μ = some (nI (if w ≤ 2 then 9 else 1), μ) := by
    unfold q_X8_mostOf
    by_cases h2 : w ≤ 2
    · rw [if_pos (show nI w ≤ (2 : Int32) from nI_le (b := 2) h2 (by omega)), if_pos h2]; rfl
    · rw [if_neg (show ¬ nI w ≤ (2 : Int32) from nI_ge (a := 2) (by omega) (by omega)), if_neg h2]; rfl
  have hb9 : (if w ≤ 2 then 9 else 1) ≤ 9 := by split <;> omega
  have hmi : (nI (if w ≤ 2 then 9 else 1)).toInt64.toInt = ((if w ≤ 2 then 9 else 1 : Nat) : Int) := by rw [Int32.toInt_toInt64, z_nI (by omega)]
  -- the class's head, the reference's
  have eX : q_X7_set θ (nI w) a2 a3 σ = if a3 < 0 then some (-2, σ) else if a3 ≤ nI (if w ≤ 2 then 9 else 1) then (sp_b (q_X7_told θ a2 (nI w) σ) (fun r8 σ9 => if r8 = (-2 : Int32) then (some ((-2 : Int32), σ9)) else if nI w = 0 then (sp_l (sv_sI σ9 1 5 a3) (fun σ12 => some (r8, σ12))) else if nI w = 1 then (sp_b (q_X7_rainPlace θ a2 σ9) (fun r14 σ15 => sp_b (q_X7_put θ 2 r14 a3 σ15) (fun _ σ17 => some (r8, σ17)))) else if nI w = 2 then (sp_b (q_X7_put θ 4 a2 a3 σ9) (fun _ σ20 => some (r8, σ20))) else if nI w = 3 then (sp_b (q_X7_put θ 5 a2 a3 σ9) (fun _ σ23 => some (r8, σ23))) else sp_b (q_X7_put θ 6 a2 a3 σ9) (fun _ σ25 => some (r8, σ25)))) else some (-2, σ) := by
    unfold q_X7_set
    rw [if_neg (nI_pos (by omega)), if_neg (show ¬ (5 : Int32) ≤ nI w from nI_ge (b := 5) hw (by omega)), if_neg (z_bd hw (by omega)), nI_clamp (by omega), sx_mostI hw]
  have eM : q_X8_set θm (nI w) a2 a3 μ = sp_b (q_X8_isOf θm (nI w) a2 μ) (fun r4 σ5 => if r4 = 0 then (some ((-2 : Int32), σ5)) else sp_b (q_X8_mostOf θm (nI w) σ5) (fun r7 σ8 => sp_b (q_X8_in θm (a3.toInt64) (0 : Int64) (r7.toInt64) σ8) (fun r9 σ10 => if r9 = 0 then (some ((-2 : Int32), σ10)) else sp_b (q_X8_told θm a2 (nI w) σ10) (fun r12 σ13 => sp_b (q_X8_lays θm (nI w) a2 a3 σ13) (fun _ σ15 => some (r12, σ15)))))) := by
    unfold q_X8_set
    rw [m_inY (c := 4) (show (w : Int) ≤ 4 by omega) (by omega), zb, if_neg n10]
  have isof : ∃ r : Int32, q_X8_isOf θm (nI w) a2 μ = some (r, μ) := by
    rcases z_told h a2 (w := w) (by omega) with ⟨k, -, -, -, e, -, -⟩ | ⟨-, -, e⟩ <;> exact ⟨_, e⟩
  obtain ⟨ro, hro⟩ := isof
  have mbad : ∀ r9 : Int32, q_X8_in θm a3.toInt64 (0 : Int64) (nI (if w ≤ 2 then 9 else 1)).toInt64 μ = some (0, μ) → q_X8_set θm (nI w) a2 a3 μ = some (-2, μ) := fun _ e => by
    rw [eM, hro, zb]
    by_cases r0 : ro = 0
    · rw [if_pos r0]
    · rw [if_neg r0, hmo, zb, e, zb, if_pos p00]
  by_cases v0 : a3 < 0
  · refine zGo_same h (r := -2) ?_ (mbad 0 (m_inN v0))
    rw [eX, if_pos v0]
  obtain ⟨v, hv, rfl⟩ := z_nat v0
  by_cases vm : v ≤ (if w ≤ 2 then 9 else 1)
  rotate_left
  · refine zGo_same h (r := -2) ?_ (mbad 0 (m_inO (n := v) (nI_le (Nat.le_refl _) hv) hv (by rw [hmi]; omega)))
    rw [eX, if_neg v0, if_neg (nI_ge (by omega) hv)]
  have hin : q_X8_in θm (nI v).toInt64 (0 : Int64) (nI (if w ≤ 2 then 9 else 1)).toInt64 μ = some (1, μ) := m_inY (by rw [hmi]; omega) hv
  rcases z_told h a2 (w := w) (by omega) with ⟨k, hk, e1, e2, e3, e4, e5⟩ | ⟨e1, e2, e3⟩
  rotate_left
  · refine zGo_same h (r := -2) ?_ ?_
    · rw [eX, if_neg v0, if_pos (nI_le vm (by omega)), e1, zb, if_pos rfl]
    · rw [eM, e3, zb, if_pos p00]
  have nk2 : ¬ nI k = -2 := fun q => by
    have : (nI k).toInt = (-2 : Int32).toInt := by rw [q]
    rw [z_nI (by omega), show (-2 : Int32).toInt = -2 from rfl] at this
    omega
  rw [eX, if_neg v0, if_pos (nI_le vm (by omega)), e1, zb, if_neg nk2, eM, e3, zb, if_neg n10, hmo, zb, hin, zb, if_neg n10, e2, zb]
  unfold q_X8_lays
  obtain ⟨x1, x2, x3, x4, x5⟩ := id hX
  obtain ⟨m1, m2, m3, m4, m5⟩ := id hM
  obtain ⟨d1, d2, d3, d4, d5⟩ := id hD
  have w5 : w = 0 ∨ w = 1 ∨ w = 2 ∨ w = 3 ∨ w = 4 := by omega
  rcases w5 with rfl | rfl | rfl | rfl | rfl
  · rw [if_pos (show nI 0 = 0 from rfl), if_pos (show nI 0 = 0 from rfl), zl, zl, zb]
    refine ⟨_, _, _, (dM D, dR D, dK D, dN D, dS D, dH D, v, dT D), rfl, rfl, zRel_upd h (xFr_I (Or.inl (by omega))) (mFr_I (Or.inl (by omega))) ⟨⟨d1, d2, d3, vm, d5⟩, hT, ⟨?_, ?_, ?_, zI_v, x5⟩, ⟨?_, ?_, ?_, zI_v, ?_⟩⟩ ⟨Nat.le_refl _, fun b hb => rfl⟩⟩
    · rw [zI_o (by omega)]; exact x1
    · intro k hk; rw [zI_o (by omega)]; exact x2 k hk
    · intro b hb; rw [zI_o (by omega), zI_o (by omega), zI_o (by omega), zI_o (by omega)]; exact x3 b hb
    · rw [zI_o (by omega)]; exact m1
    · intro k hk; rw [zI_o (by omega)]; exact m2 k hk
    · intro b hb; rw [zI_o (by omega), zI_o (by omega), zI_o (by omega), zI_o (by omega)]; exact m3 b hb
    · rw [zI_o (by omega)]; exact m5
  · obtain ⟨n, g1, g2, g3, g4⟩ := e4 rfl
    have hp : 24 * (n / 100) + n % 100 < 48 := by omega
    rw [if_neg (show ¬ nI 1 = 0 by decide), if_pos (show nI 1 = 1 from rfl), g3, zb, z_put (by rw [l2]; omega), l2, zput_nI hp (by omega), zb, if_neg (show ¬ nI 1 = 0 by decide), if_pos (show nI 1 = 1 from rfl), g4, zb, if_neg (z_bd hp (by omega)), nI_clamp (by omega), zl, zb]
    refine ⟨_, _, _, (dM D, zup (dR D) (24 * (n / 100) + n % 100) v, dK D, dN D, dS D, dH D, dW D, dT D), rfl, rfl, zRel_upd h (xFr_I (Or.inl (by omega))) (mFr_I (Or.inr (Or.inl (by omega)))) ⟨⟨d1, fun k hk => ?_, d3, d4, d5⟩, hT, ⟨?_, ?_, ?_, ?_, x5⟩, ⟨?_, ?_, ?_, ?_, ?_⟩⟩ ⟨Nat.le_refl _, fun b hb => rfl⟩⟩
    · show zup (dR D) (24 * (n / 100) + n % 100) v k ≤ 9
      by_cases hkk : k = 24 * (n / 100) + n % 100
      · rw [hkk, zup_eq]; exact vm
      · rw [zup_ne hkk]; exact d2 k hk
    · rw [zI_o (by omega)]; exact x1
    · intro k hk; exact zI_up (x2 k hk)
    · intro b hb; rw [zI_o (by omega), zI_o (by omega), zI_o (by omega), zI_o (by omega)]; exact x3 b hb
    · rw [zI_o (by omega)]; exact x4
    · rw [zI_o (by omega)]; exact m1
    · intro k hk; exact zI_up (m2 k hk)
    · intro b hb; rw [zI_o (by omega), zI_o (by omega), zI_o (by omega), zI_o (by omega)]; exact m3 b hb
    · rw [zI_o (by omega)]; exact m4
    · rw [zI_o (by omega)]; exact m5
  · obtain ⟨b, hb, rfl⟩ := e5 (by omega)
    rw [if_neg (show ¬ nI 2 = 0 by decide), if_neg (show ¬ nI 2 = 1 by decide), if_pos (show nI 2 = 2 from rfl), z_put (by rw [l4]; omega), l4, zput_nI (by omega) (by omega), zb, if_neg (show ¬ nI 2 = 0 by decide), if_neg (show ¬ nI 2 = 1 by decide), if_neg (show ¬ (5 : Int32) ≤ nI 2 by decide), m_row b 2 (by omega), if_neg (z_bd (by omega) (by omega)), nI_clamp (by omega), zl, zb]
    refine ⟨_, _, _, (dM D, dR D, dK D, zup (dN D) b v, dS D, dH D, dW D, dT D), rfl, rfl, zRel_upd h (xFr_I (Or.inl (by omega))) (mFr_I (Or.inr (Or.inl (by omega)))) ⟨⟨d1, d2, fun c hc => ?_, d4, d5⟩, hT, ⟨?_, ?_, ?_, ?_, x5⟩, ⟨?_, ?_, ?_, ?_, ?_⟩⟩ ⟨Nat.le_refl _, fun b hb => rfl⟩⟩
    · obtain ⟨r1, r2, r3, r4⟩ := d3 c hc
      refine ⟨r1, ?_, r3, r4⟩
      show zup (dN D) b v c ≤ 9
      by_cases hcc : c = b
      · rw [hcc, zup_eq]; exact vm
      · rw [zup_ne hcc]; exact r2
    · rw [zI_o (by omega)]; exact x1
    · intro k hk; rw [zI_o (by omega)]; exact x2 k hk
    · intro c hc; rw [zI_o (by omega), zI_o (i := 4) (a := 1 + 4) (by omega), zI_o (i := 4) (a := 1 + 5) (by omega)]; exact ⟨(x3 c hc).1, zI_up (x3 c hc).2.1, (x3 c hc).2.2.1, (x3 c hc).2.2.2⟩
    · rw [zI_o (by omega)]; exact x4
    · rw [zI_o (by omega)]; exact m1
    · intro k hk; rw [zI_o (by omega)]; exact m2 k hk
    · intro c hc
      obtain ⟨r1, r2, r3, r4⟩ := m3 c hc
      refine ⟨by rw [zI_o (by omega)]; exact r1, ?_, by rw [zI_o (by omega)]; exact r3, by rw [zI_o (by omega)]; exact r4⟩
      show (sv_sI μ 6 (3 * b + (2 - 2)) (nI v)).1 6 (3 * c) = nI (zup (dN D) b v c)
      by_cases hcc : c = b
      · rw [hcc, zup_eq]; exact zI_v
      · rw [zup_ne hcc, zI_o (by omega)]; exact r2
    · rw [zI_o (by omega)]; exact m4
    · rw [zI_o (by omega)]; exact m5
  · obtain ⟨b, hb, rfl⟩ := e5 (by omega)
    rw [if_neg (show ¬ nI 3 = 0 by decide), if_neg (show ¬ nI 3 = 1 by decide), if_neg (show ¬ nI 3 = 2 by decide), if_pos (show nI 3 = 3 from rfl), z_put (by rw [l5]; omega), l5, zput_nI (by omega) (by omega), zb, if_neg (show ¬ nI 3 = 0 by decide), if_neg (show ¬ nI 3 = 1 by decide), if_neg (show ¬ (5 : Int32) ≤ nI 3 by decide), m_row b 3 (by omega), if_neg (z_bd (by omega) (by omega)), nI_clamp (by omega), zl, zb]
    refine ⟨_, _, _, (dM D, dR D, dK D, dN D, zup (dS D) b v, dH D, dW D, dT D), rfl, rfl, zRel_upd h (xFr_I (Or.inl (by omega))) (mFr_I (Or.inr (Or.inl (by omega)))) ⟨⟨d1, d2, fun c hc => ?_, d4, d5⟩, hT, ⟨?_, ?_, ?_, ?_, x5⟩, ⟨?_, ?_, ?_, ?_, ?_⟩⟩ ⟨Nat.le_refl _, fun b hb => rfl⟩⟩
    · obtain ⟨r1, r2, r3, r4⟩ := d3 c hc
      refine ⟨r1, r2, ?_, r4⟩
      show zup (dS D) b v c ≤ 1
      by_cases hcc : c = b
      · rw [hcc, zup_eq]; exact vm
      · rw [zup_ne hcc]; exact r3
    · rw [zI_o (by omega)]; exact x1
    · intro k hk; rw [zI_o (by omega)]; exact x2 k hk
    · intro c hc; rw [zI_o (i := 5) (a := 1 + 2) (by omega), zI_o (i := 5) (a := 1 + 3) (by omega), zI_o (i := 5) (a := 1 + 5) (by omega)]; exact ⟨(x3 c hc).1, (x3 c hc).2.1, zI_up (x3 c hc).2.2.1, (x3 c hc).2.2.2⟩
    · rw [zI_o (by omega)]; exact x4
    · rw [zI_o (by omega)]; exact m1
    · intro k hk; rw [zI_o (by omega)]; exact m2 k hk
    · intro c hc
      obtain ⟨r1, r2, r3, r4⟩ := m3 c hc
      refine ⟨by rw [zI_o (by omega)]; exact r1, by rw [zI_o (by omega)]; exact r2, ?_, by rw [zI_o (by omega)]; exact r4⟩
      show (sv_sI μ 6 (3 * b + (3 - 2)) (nI v)).1 6 (3 * c + 1) = nI (zup (dS D) b v c)
      by_cases hcc : c = b
      · rw [hcc, zup_eq]; exact zI_v
      · rw [zup_ne hcc, zI_o (by omega)]; exact r3
    · rw [zI_o (by omega)]; exact m4
    · rw [zI_o (by omega)]; exact m5
  · obtain ⟨b, hb, rfl⟩ := e5 (by omega)
    rw [if_neg (show ¬ nI 4 = 0 by decide), if_neg (show ¬ nI 4 = 1 by decide), if_neg (show ¬ nI 4 = 2 by decide), if_neg (show ¬ nI 4 = 3 by decide), z_put (by rw [l6]; omega), l6, zput_nI (by omega) (by omega), zb, if_neg (show ¬ nI 4 = 0 by decide), if_neg (show ¬ nI 4 = 1 by decide), if_neg (show ¬ (5 : Int32) ≤ nI 4 by decide), m_row b 4 (by omega), if_neg (z_bd (by omega) (by omega)), nI_clamp (by omega), zl, zb]
    refine ⟨_, _, _, (dM D, dR D, dK D, dN D, dS D, zup (dH D) b v, dW D, dT D), rfl, rfl, zRel_upd h (xFr_I (Or.inl (by omega))) (mFr_I (Or.inr (Or.inl (by omega)))) ⟨⟨d1, d2, fun c hc => ?_, d4, d5⟩, hT, ⟨?_, ?_, ?_, ?_, x5⟩, ⟨?_, ?_, ?_, ?_, ?_⟩⟩ ⟨Nat.le_refl _, fun b hb => rfl⟩⟩
    · obtain ⟨r1, r2, r3, r4⟩ := d3 c hc
      refine ⟨r1, r2, r3, ?_⟩
      show zup (dH D) b v c ≤ 1
      by_cases hcc : c = b
      · rw [hcc, zup_eq]; exact vm
      · rw [zup_ne hcc]; exact r4
    · rw [zI_o (by omega)]; exact x1
    · intro k hk; rw [zI_o (by omega)]; exact x2 k hk
    · intro c hc; rw [zI_o (i := 6) (a := 1 + 2) (by omega), zI_o (i := 6) (a := 1 + 3) (by omega), zI_o (i := 6) (a := 1 + 4) (by omega)]; exact ⟨(x3 c hc).1, (x3 c hc).2.1, (x3 c hc).2.2.1, zI_up (x3 c hc).2.2.2⟩
    · rw [zI_o (by omega)]; exact x4
    · rw [zI_o (by omega)]; exact m1
    · intro k hk; rw [zI_o (by omega)]; exact m2 k hk
    · intro c hc
      obtain ⟨r1, r2, r3, r4⟩ := m3 c hc
      refine ⟨by rw [zI_o (by omega)]; exact r1, by rw [zI_o (by omega)]; exact r2, by rw [zI_o (by omega)]; exact r3, ?_⟩
      show (sv_sI μ 6 (3 * b + (4 - 2)) (nI v)).1 6 (3 * c + 2) = nI (zup (dH D) b v c)
      by_cases hcc : c = b
      · rw [hcc, zup_eq]; exact zI_v
      · rw [zup_ne hcc, zI_o (by omega)]; exact r4
    · rw [zI_o (by omega)]; exact m4
    · rw [zI_o (by omega)]; exact m5
end CA3

/-! ===== calls: sky, count ===== -/
section SKY
variable {θ θm : sv_T} {σ μ : sv_S} {tc : Nat} {Fs : Nat → Nat → (Nat → Int32) → Int32} {D : zD}
def zRun (r : Nat → Nat) : Nat → Nat
  | 0 => 0
  | h + 1 => if r h = 0 then 0 else zRun r h + 1
def zMost (r : Nat → Nat) : Nat → Nat
  | 0 => 0
  | h + 1 => if zRun r (h + 1) ≤ zMost r h then zMost r h else zRun r (h + 1)
def zSta (r : Nat → Nat) : Nat → Int32
  | 0 => -1
  | h + 1 => if zRun r (h + 1) ≤ zMost r h then zSta r h else nI (h + 1 - zRun r (h + 1))
def zWet (r : Nat → Nat) : Nat → Nat
  | 0 => 0
  | h + 1 => zWet r h + if r h = 0 then 0 else 1
def zBit (p : Nat → Bool) : Nat → Int32
  | 0 => 0
  | h + 1 => if p h = true then zBit p h ||| ((1 : Int32) <<< (nI h &&& 31)) else zBit p h
theorem zRun_le {r : Nat → Nat} : ∀ h, zRun r h ≤ h
  | 0 => Nat.le_refl _
  | h + 1 => by
    have := zRun_le (r := r) h
    simp only [zRun]
    split <;> omega
theorem zMost_le {r : Nat → Nat} : ∀ h, zMost r h ≤ h
  | 0 => Nat.le_refl _
  | h + 1 => by
    have := zMost_le (r := r) h
    have := zRun_le (r := r) (h + 1)
    simp only [zMost]
    split <;> omega
theorem zMost_mono {r : Nat → Nat} : ∀ k h, h ≤ k → zMost r h ≤ zMost r k
  | 0, h, hk => by rw [show h = 0 by omega]; exact Nat.le_refl _
  | k + 1, h, hk => by
    by_cases e : h = k + 1
    · subst e; exact Nat.le_refl _
    · have := zMost_mono (r := r) k h (by omega)
      simp only [zMost]
      split <;> omega
theorem zRun_most {r : Nat → Nat} {h : Nat} : zRun r h ≤ zMost r h := by
  cases h with
  | zero => exact Nat.le_refl _
  | succ h => simp only [zMost]; split <;> omega
theorem zWet_le {r : Nat → Nat} : ∀ h, zWet r h ≤ h
  | 0 => Nat.le_refl _
  | h + 1 => by
    have := zWet_le (r := r) h
    simp only [zWet]
    split <;> omega
theorem zSm_b {f : Nat → Nat} {c : Nat} : ∀ n, (∀ b, b < n → f b ≤ c) → zSm f n ≤ c * n
  | 0, _ => Nat.zero_le _
  | n + 1, h => by
    have := zSm_b n (fun b hb => h b (by omega))
    have := h n (by omega)
    simp only [zSm]
    rw [Nat.mul_succ]
    omega
/-- if no hour before h ends a shower of the most, the most so far is less -/
theorem zMost_lt {r : Nat → Nat} {M : Nat} (hM : 0 < M) : ∀ h, zMost r h ≤ M → (∀ k, k < h → ¬ zRun r (k + 1) = M) → zMost r h < M
  | 0, _, _ => hM
  | h + 1, h1, h2 => by
    have hm := zMost_mono (r := r) (h + 1) h (by omega)
    have := zMost_lt hM h (by omega) (fun k hk => h2 k (by omega))
    have h3 := h2 h (by omega)
    simp only [zMost] at h1 ⊢
    split at h1
    · rename_i q; rw [if_pos q]; exact this
    · rename_i q; rw [if_neg q]; omega
theorem zSta_keep {r : Nat → Nat} {h : Nat} : ∀ k, h ≤ k → zMost r k ≤ zMost r h → zSta r k = zSta r h
  | 0, hk, _ => by rw [show h = 0 by omega]
  | k + 1, hk, hm => by
    by_cases e : h = k + 1
    · subst e; rfl
    · have m1 := zMost_mono (r := r) (k + 1) k (by omega)
      have ih := zSta_keep (r := r) (h := h) k (by omega) (by omega)
      have m2 := zRun_most (r := r) (h := k + 1)
      have m3 := zMost_mono (r := r) k h (by omega)
      simp only [zSta]
      rw [if_pos (by omega), ih]
theorem z_sub1 (h w : Nat) (hw : w ≤ h + 1) : (nI h - nI w) + 1 = nI (h + 1 - w) := by
  have e : (nI h - nI w) + 1 = (nI h + 1) - nI w := by
    rw [Int32.sub_eq_add_neg, Int32.sub_eq_add_neg, Int32.add_assoc, Int32.add_comm (-nI w) 1, ← Int32.add_assoc]
  rw [e, nI_1, pk_sub hw]
theorem z_r0 {n : Nat} (hn : n < 2147483648) : (nI n ≤ 0) ↔ n = 0 := by
  rw [show (0 : Int32) = nI 0 from rfl, nI_leI hn (by omega)]
  omega
theorem x_rainAt (hB : sx_base θ) (hD : zDok D) (hX : xMk σ 1 D) {s h : Nat} (hs : s ≤ 1) (hh : h < 24) : q_X2_rainAt θ (nI s) (nI h) σ = some (nI (dR D (24 * s + h)), σ) := by
  have l2 : sv_len θ 2 = 48 := sx_L (sx_c2 hB)
  unfold q_X2_rainAt
  rw [show nI s * (24 : Int32) + nI h = nI (24 * s + h) by rw [show (24 : Int32) = nI 24 from rfl, pk_mul, nI_add, Nat.mul_comm], z_at (by rw [l2]; omega), zb, l2, zat_nI (by omega) (by omega), hX.2.1 _ (by omega)]
def zR24 (D : zD) (s : Nat) : Nat → Nat := fun h => dR D (24 * s + h)
def zShut (D : zD) : Nat → Bool := fun h => decide (dR D h = 0 ∧ dR D (24 + h) = 0)
theorem x_showerLength (hB : sx_base θ) (hD : zDok D) (hX : xMk σ 1 D) {s : Nat} (hs : s ≤ 1) : q_X2_showerLength θ (nI s) σ = some (nI (zMost (zR24 D s) 24), σ) := by
  have run : ∀ (k h fuel : Nat), 24 - h = k → h ≤ 24 → q_X2_showerLength_B7 θ (nI s) (fuel + k + 1) (nI s) (nI (zMost (zR24 D s) h)) (nI (zRun (zR24 D s) h)) (nI h) σ = some (nI (zMost (zR24 D s) 24), σ) := by
    intro k
    induction k with
    | zero =>
      intro h fuel h1 h2
      show q_X2_showerLength_B7_b θ (nI s) _ (nI s) _ _ (nI h) σ = _
      unfold q_X2_showerLength_B7_b
      rw [if_pos (show (24 : Int32) ≤ nI h from nI_le (a := 24) (by omega) (by omega)), show h = 24 by omega]
    | succ k ih =>
      intro h fuel h1 h2
      have hr9 := hD.2.1 (24 * s + h) (by omega)
      have ih' := ih (h + 1) fuel (by omega) (by omega)
      have hrl := zRun_le (r := zR24 D s) (h + 1)
      have hml := zMost_le (r := zR24 D s) h
      show q_X2_showerLength_B7_b θ (nI s) (q_X2_showerLength_B7 θ (nI s) (fuel + (k + 1))) (nI s) _ _ (nI h) σ = _
      have fin : ∀ w : Nat, zRun (zR24 D s) (h + 1) = w → q_X2_showerLength_B31 θ (nI s) (q_X2_showerLength_B7 θ (nI s) (fuel + (k + 1))) (nI s) (nI (zMost (zR24 D s) h)) (nI h) (nI w) σ = some (nI (zMost (zR24 D s) 24), σ) := by
        intro w hw
        unfold q_X2_showerLength_B31
        rw [← hw]
        by_cases hc : zRun (zR24 D s) (h + 1) ≤ zMost (zR24 D s) h
        · rw [if_pos (nI_le hc (by omega)), zl, nI_1]
          have e : zMost (zR24 D s) (h + 1) = zMost (zR24 D s) h := by simp only [zMost]; rw [if_pos hc]
          rw [← e]; exact ih'
        · rw [if_neg (nI_ge (by omega) (by omega)), zl, nI_1]
          have e : zMost (zR24 D s) (h + 1) = zRun (zR24 D s) (h + 1) := by simp only [zMost]; rw [if_neg hc]
          rw [e] at ih'; exact ih'
      unfold q_X2_showerLength_B7_b
      rw [if_neg (show ¬ (24 : Int32) ≤ nI h from nI_ge (b := 24) (by omega) (by omega)), x_rainAt hB hD hX hs (by omega), zb]
      by_cases h0 : dR D (24 * s + h) = 0
      · rw [if_pos ((z_r0 (by omega)).mpr h0)]
        exact fin 0 (by show (if zR24 D s h = 0 then 0 else _) = 0; rw [if_pos (show zR24 D s h = 0 from h0)])
      · rw [if_neg (fun q => h0 ((z_r0 (by omega)).mp q)), nI_1]
        exact fin _ (by show (if zR24 D s h = 0 then 0 else _) = _; rw [if_neg (show ¬ zR24 D s h = 0 from h0)])
  have := run 24 0 175 (by omega) (by omega)
  exact this
theorem x_showerStart (hB : sx_base θ) (hD : zDok D) (hX : xMk σ 1 D) {s : Nat} (hs : s ≤ 1) : q_X2_showerStart θ (nI s) σ = some (zSta (zR24 D s) 24, σ) := by
  have run : ∀ (k h fuel : Nat), 24 - h = k → h ≤ 24 → (∀ q, q < h → ¬ (0 < zRun (zR24 D s) (q + 1) ∧ zRun (zR24 D s) (q + 1) = zMost (zR24 D s) 24)) → q_X2_showerStart_B11 θ (nI s) (fuel + k + 1) (nI s) (nI (zMost (zR24 D s) 24)) (nI (zRun (zR24 D s) h)) (nI h) σ = some (zSta (zR24 D s) 24, σ) := by
    intro k
    induction k with
    | zero =>
      intro h fuel h1 h2 hno
      show q_X2_showerStart_B11_b θ (nI s) _ (nI s) _ _ (nI h) σ = _
      unfold q_X2_showerStart_B11_b
      rw [if_pos (show (24 : Int32) ≤ nI h from nI_le (a := 24) (by omega) (by omega))]
      have e24 : h = 24 := by omega
      subst e24
      have hm0 : zMost (zR24 D s) 24 = 0 := by
        rcases Nat.eq_zero_or_pos (zMost (zR24 D s) 24) with q | q
        · exact q
        · have := zMost_lt q 24 (Nat.le_refl _) (fun k hk e => hno k hk ⟨by omega, e⟩)
          omega
      rw [zSta_keep (h := 0) 24 (by omega) (by rw [hm0]; exact Nat.zero_le _)]
      rfl
    | succ k ih =>
      intro h fuel h1 h2 hno
      have hr9 := hD.2.1 (24 * s + h) (by omega)
      have hrl := zRun_le (r := zR24 D s) (h + 1)
      have hml := zMost_le (r := zR24 D s) 24
      show q_X2_showerStart_B11_b θ (nI s) (q_X2_showerStart_B11 θ (nI s) (fuel + (k + 1))) (nI s) _ _ (nI h) σ = _
      have fin : ∀ w : Nat, zRun (zR24 D s) (h + 1) = w → q_X2_showerStart_B35 θ (nI s) (q_X2_showerStart_B11 θ (nI s) (fuel + (k + 1))) (nI s) (nI (zMost (zR24 D s) 24)) (nI h) (nI w) σ = some (zSta (zR24 D s) 24, σ) := by
        intro w hw
        have step : ¬ (0 < zRun (zR24 D s) (h + 1) ∧ zRun (zR24 D s) (h + 1) = zMost (zR24 D s) 24) → q_X2_showerStart_B11 θ (nI s) (fuel + (k + 1)) (nI s) (nI (zMost (zR24 D s) 24)) (nI (zRun (zR24 D s) (h + 1))) (nI (h + 1)) σ = some (zSta (zR24 D s) 24, σ) := fun hn => ih (h + 1) fuel (by omega) (by omega) (fun q hq => by
          by_cases e : q = h
          · subst e; exact hn
          · exact hno q (by omega))
        unfold q_X2_showerStart_B35
        rw [← hw]
        by_cases h0 : zRun (zR24 D s) (h + 1) = 0
        · rw [if_pos ((z_r0 (by omega)).mpr h0), zl, nI_1]
          exact step (fun q => by omega)
        · rw [if_neg (fun q => h0 ((z_r0 (by omega)).mp q))]
          by_cases hc : zRun (zR24 D s) (h + 1) = zMost (zR24 D s) 24
          · rw [if_pos ((nI_eq (by omega) (by omega)).mpr hc), z_sub1 h _ (by omega)]
            have hlt := zMost_lt (r := zR24 D s) (M := zMost (zR24 D s) 24) (by omega) h (zMost_mono 24 h (by omega)) (fun q hq e => hno q hq ⟨by omega, e⟩)
            have e1 : zSta (zR24 D s) (h + 1) = nI (h + 1 - zMost (zR24 D s) 24) := by simp only [zSta]; rw [if_neg (by omega), hc]
            have e2 : zMost (zR24 D s) (h + 1) = zRun (zR24 D s) (h + 1) := by simp only [zMost]; rw [if_neg (by omega)]
            rw [zSta_keep (h := h + 1) 24 (by omega) (by rw [e2, hc]; exact Nat.le_refl _), e1]
          · rw [if_neg (fun q => hc ((nI_eq (by omega) (by omega)).mp q)), zl, nI_1]
            exact step (fun q => hc q.2)
      unfold q_X2_showerStart_B11_b
      rw [if_neg (show ¬ (24 : Int32) ≤ nI h from nI_ge (b := 24) (by omega) (by omega)), x_rainAt hB hD hX hs (by omega), zb]
      by_cases h0 : dR D (24 * s + h) = 0
      · rw [if_pos ((z_r0 (by omega)).mpr h0)]
        exact fin 0 (by show (if zR24 D s h = 0 then 0 else _) = 0; rw [if_pos (show zR24 D s h = 0 from h0)])
      · rw [if_neg (fun q => h0 ((z_r0 (by omega)).mp q)), nI_1]
        exact fin _ (by show (if zR24 D s h = 0 then 0 else _) = _; rw [if_neg (show ¬ zR24 D s h = 0 from h0)])
  unfold q_X2_showerStart
  rw [x_showerLength hB hD hX hs, zb]
  exact run 24 0 175 (by omega) (by omega) (fun q hq => by omega)
theorem x_wetHours (hB : sx_base θ) (hD : zDok D) (hX : xMk σ 1 D) {s : Nat} (hs : s ≤ 1) : q_X2_wetHours θ (nI s) σ = some (nI (zWet (zR24 D s) 24), σ) := by
  have run : ∀ (k h fuel : Nat), 24 - h = k → h ≤ 24 → q_X2_wetHours_B4 θ (nI s) (fuel + k + 1) (nI s) (nI (zWet (zR24 D s) h)) (nI h) σ = some (nI (zWet (zR24 D s) 24), σ) := by
    intro k
    induction k with
    | zero =>
      intro h fuel h1 h2
      show q_X2_wetHours_B4_b θ (nI s) _ (nI s) _ (nI h) σ = _
      unfold q_X2_wetHours_B4_b
      rw [if_pos (show (24 : Int32) ≤ nI h from nI_le (a := 24) (by omega) (by omega)), show h = 24 by omega]
    | succ k ih =>
      intro h fuel h1 h2
      have hr9 := hD.2.1 (24 * s + h) (by omega)
      have ih' := ih (h + 1) fuel (by omega) (by omega)
      show q_X2_wetHours_B4_b θ (nI s) (q_X2_wetHours_B4 θ (nI s) (fuel + (k + 1))) (nI s) _ (nI h) σ = _
      unfold q_X2_wetHours_B4_b
      rw [if_neg (show ¬ (24 : Int32) ≤ nI h from nI_ge (b := 24) (by omega) (by omega)), x_rainAt hB hD hX hs (by omega), zb]
      by_cases h0 : dR D (24 * s + h) = 0
      · have e : zWet (zR24 D s) (h + 1) = zWet (zR24 D s) h + 0 := by show _ + (if zR24 D s h = 0 then 0 else 1) = _; rw [if_pos (show zR24 D s h = 0 from h0)]
        rw [if_pos ((z_r0 (by omega)).mpr h0), zl, zl, nI_1, show (0 : Int32) = nI 0 from rfl, nI_add, ← e]
        exact ih'
      · have e : zWet (zR24 D s) (h + 1) = zWet (zR24 D s) h + 1 := by show _ + (if zR24 D s h = 0 then 0 else 1) = _; rw [if_neg (show ¬ zR24 D s h = 0 from h0)]
        rw [if_neg (fun q => h0 ((z_r0 (by omega)).mp q)), zl, zl, nI_1, nI_1, ← e]
        exact ih'
  exact run 24 0 175 (by omega) (by omega)
theorem x_allRain (hB : sx_base θ) (hD : zDok D) (hX : xMk σ 1 D) {s : Nat} (hs : s ≤ 1) : q_X2_allRain θ (nI s) σ = some (nI (zSm (zR24 D s) 24), σ) := by
  have run : ∀ (k h fuel : Nat), 24 - h = k → h ≤ 24 → q_X2_allRain_B4 θ (nI s) (fuel + k + 1) (nI s) (nI (zSm (zR24 D s) h)) (nI h) σ = some (nI (zSm (zR24 D s) 24), σ) := by
    intro k
    induction k with
    | zero =>
      intro h fuel h1 h2
      show q_X2_allRain_B4_b θ (nI s) _ (nI s) _ (nI h) σ = _
      unfold q_X2_allRain_B4_b
      rw [if_pos (show (24 : Int32) ≤ nI h from nI_le (a := 24) (by omega) (by omega)), show h = 24 by omega]
    | succ k ih =>
      intro h fuel h1 h2
      show q_X2_allRain_B4_b θ (nI s) (q_X2_allRain_B4 θ (nI s) (fuel + (k + 1))) (nI s) _ (nI h) σ = _
      unfold q_X2_allRain_B4_b
      rw [if_neg (show ¬ (24 : Int32) ≤ nI h from nI_ge (b := 24) (by omega) (by omega)), x_rainAt hB hD hX hs (by omega), zb, zl, zl, nI_add, nI_1]
      exact ih (h + 1) fuel (by omega) (by omega)
  exact run 24 0 175 (by omega) (by omega)
theorem z_or0 (x : Int32) : x ||| 0 = x := by rw [Int32.or_zero]
theorem zShut_iff {h : Nat} : zShut D h = true ↔ dR D h = 0 ∧ dR D (24 + h) = 0 := by unfold zShut; exact decide_eq_true_iff
theorem x_shutHours (hB : sx_base θ) (hD : zDok D) (hX : xMk σ 1 D) : q_X2_shutHours θ σ = some (zBit (zShut D) 24, σ) := by
  have run : ∀ (k h fuel : Nat), 24 - h = k → h ≤ 24 → q_X2_shutHours_B4 θ (fuel + k + 1) (zBit (zShut D) h) (nI h) σ = some (zBit (zShut D) 24, σ) := by
    intro k
    induction k with
    | zero =>
      intro h fuel h1 h2
      show q_X2_shutHours_B4_b θ _ _ (nI h) σ = _
      unfold q_X2_shutHours_B4_b
      rw [if_pos (show (24 : Int32) ≤ nI h from nI_le (a := 24) (by omega) (by omega)), show h = 24 by omega]
    | succ k ih =>
      intro h fuel h1 h2
      have hr1 := hD.2.1 (24 * 0 + h) (by omega)
      have hr2 := hD.2.1 (24 * 1 + h) (by omega)
      have ih' := ih (h + 1) fuel (by omega) (by omega)
      have r0 := x_rainAt (θ := θ) hB hD hX (s := 0) (h := h) (by omega) (by omega)
      have r1 := x_rainAt (θ := θ) hB hD hX (s := 1) (h := h) (by omega) (by omega)
      rw [show 24 * 0 + h = h by omega] at r0 hr1
      rw [show 24 * 1 + h = 24 + h by omega] at r1 hr2
      have r0' : q_X2_rainAt θ (0 : Int32) (nI h) σ = _ := r0
      have r1' : q_X2_rainAt θ (1 : Int32) (nI h) σ = _ := r1
      have z0 : ∀ n : Nat, n ≤ 9 → (nI n = 0 ↔ n = 0) := fun n hn => by rw [show (0 : Int32) = nI 0 from rfl, nI_eq (by omega) (by omega)]
      show q_X2_shutHours_B4_b θ (q_X2_shutHours_B4 θ (fuel + (k + 1))) _ (nI h) σ = _
      unfold q_X2_shutHours_B4_b
      rw [if_neg (show ¬ (24 : Int32) ≤ nI h from nI_ge (b := 24) (by omega) (by omega)), r0', zb, r1', zb]
      have eN : ¬ zShut D h = true → zBit (zShut D) (h + 1) = zBit (zShut D) h := fun q => by simp only [zBit]; rw [if_neg q]
      by_cases h0 : dR D h = 0
      · rw [if_pos ((z0 _ hr1).mpr h0)]
        by_cases h1' : dR D (24 + h) = 0
        · have e : zBit (zShut D) (h + 1) = zBit (zShut D) h ||| ((1 : Int32) <<< (nI h &&& 31)) := by simp only [zBit]; rw [if_pos (zShut_iff.mpr ⟨h0, h1'⟩)]
          rw [if_pos ((z0 _ hr2).mpr h1'), zl, zl, nI_1, ← e]
          exact ih'
        · rw [if_neg (fun q => h1' ((z0 _ hr2).mp q)), zl, zl, nI_1, z_or0, ← eN (fun q => h1' (zShut_iff.mp q).2)]
          exact ih'
      · rw [if_neg (fun q => h0 ((z0 _ hr1).mp q)), zl, zl, nI_1, z_or0, ← eN (fun q => h0 (zShut_iff.mp q).1)]
        exact ih'
  exact run 24 0 175 (by omega) (by omega)
theorem m_wetMany (hD : zDok D) (hM : mMk μ D) {s : Nat} (hs : s ≤ 1) : q_X8_wetMany θm (nI s) μ = some (nI (zWet (zR24 D s) 24), μ) := by
  have run : ∀ (k h fuel : Nat), 24 - h = k → h ≤ 24 → q_X8_wetMany_B4 θm (nI s) (fuel + k + 1) (nI s) (nI (zWet (zR24 D s) h)) (nI h) μ = some (nI (zWet (zR24 D s) 24), μ) := by
    intro k
    induction k with
    | zero =>
      intro h fuel h1 h2
      show q_X8_wetMany_B4_b θm (nI s) _ (nI s) _ (nI h) μ = _
      unfold q_X8_wetMany_B4_b
      rw [if_pos (show (24 : Int32) ≤ nI h from nI_le (a := 24) (by omega) (by omega)), show h = 24 by omega]
    | succ k ih =>
      intro h fuel h1 h2
      have hr9 := hD.2.1 (24 * s + h) (by omega)
      have ih' := ih (h + 1) fuel (by omega) (by omega)
      show q_X8_wetMany_B4_b θm (nI s) (q_X8_wetMany_B4 θm (nI s) (fuel + (k + 1))) (nI s) _ (nI h) μ = _
      unfold q_X8_wetMany_B4_b
      rw [if_neg (show ¬ (24 : Int32) ≤ nI h from nI_ge (b := 24) (by omega) (by omega)), z_24, if_neg (z_bd (by omega) (by omega)), nI_clamp (by omega), hM.2.1 _ (by omega)]
      by_cases h0 : dR D (24 * s + h) = 0
      · have e : zWet (zR24 D s) (h + 1) = zWet (zR24 D s) h + 0 := by show _ + (if zR24 D s h = 0 then 0 else 1) = _; rw [if_pos (show zR24 D s h = 0 from h0)]
        rw [if_pos ((z_r0 (by omega)).mpr h0), zl, zl, nI_1, show (0 : Int32) = nI 0 from rfl, nI_add, ← e]
        exact ih'
      · have e : zWet (zR24 D s) (h + 1) = zWet (zR24 D s) h + 1 := by show _ + (if zR24 D s h = 0 then 0 else 1) = _; rw [if_neg (show ¬ zR24 D s h = 0 from h0)]
        rw [if_neg (fun q => h0 ((z_r0 (by omega)).mp q)), zl, zl, nI_1, nI_1, ← e]
        exact ih'
  exact run 24 0 175 (by omega) (by omega)
theorem z_shl0 (x : Int32) : (0 : Int32) <<< x = 0 := by rw [Int32.zero_shiftLeft]
/-- what the reference's sky answers -/
def zSky (D : zD) (s w : Nat) : Int32 := if w = 0 then nI (zMost (zR24 D s) 24) else if w = 1 then zSta (zR24 D s) 24 else if w = 2 then nI (zWet (zR24 D s) 24) else if w = 3 then nI (zSm (zR24 D s) 24) else zBit (zShut D) 24
set_option maxHeartbeats 1000000 in
theorem m_sky (hD : zDok D) (hM : mMk μ D) {s w : Nat} (hs : s ≤ 1) (hw : w < 5) {a1 a2 : Int32} : q_X8_sky_B42 θm a1 a2 sv_N (nI s) (nI w) (0 : Int32) (0 : Int32) (0 : Int32) (0 : Int32) (-1 : Int32) (0 : Int32) μ = some (zSky D s w, μ) := by
  have run : ∀ (k h fuel : Nat), 24 - h = k → h ≤ 24 → q_X8_sky_B42 θm a1 a2 (fuel + k + 1) (nI s) (nI w) (nI (zSm (zR24 D s) h)) (zBit (zShut D) h) (nI (zRun (zR24 D s) h)) (nI (zMost (zR24 D s) h)) (zSta (zR24 D s) h) (nI h) μ = some (zSky D s w, μ) := by
    intro k
    induction k with
    | zero =>
      intro h fuel h1 h2
      have e24 : h = 24 := by omega
      subst e24
      show q_X8_sky_B42_b θm a1 a2 _ (nI s) (nI w) _ _ _ _ _ (nI 24) μ = _
      unfold q_X8_sky_B42_b zSky
      rw [if_pos (show (24 : Int32) ≤ nI 24 by decide)]
      have hw5 : w = 0 ∨ w = 1 ∨ w = 2 ∨ w = 3 ∨ w = 4 := by omega
      rcases hw5 with rfl | rfl | rfl | rfl | rfl
      · rw [if_pos (show nI 0 = 0 from rfl)]; rfl
      · rw [if_neg (show ¬ nI 1 = 0 by decide), if_pos (show nI 1 = 1 from rfl)]; rfl
      · rw [if_neg (show ¬ nI 2 = 0 by decide), if_neg (show ¬ nI 2 = 1 by decide), if_pos (show nI 2 = 2 from rfl), m_wetMany hD hM hs, zb]; rfl
      · rw [if_neg (show ¬ nI 3 = 0 by decide), if_neg (show ¬ nI 3 = 1 by decide), if_neg (show ¬ nI 3 = 2 by decide), if_pos (show nI 3 = 3 from rfl)]; rfl
      · rw [if_neg (show ¬ nI 4 = 0 by decide), if_neg (show ¬ nI 4 = 1 by decide), if_neg (show ¬ nI 4 = 2 by decide), if_neg (show ¬ nI 4 = 3 by decide)]; rfl
    | succ k ih =>
      intro h fuel h1 h2
      have hr9 := hD.2.1 (24 * s + h) (by omega)
      have ra := hD.2.1 h (by omega)
      have rb := hD.2.1 (24 + h) (by omega)
      have ih' := ih (h + 1) fuel (by omega) (by omega)
      have hrl := zRun_le (r := zR24 D s) (h + 1)
      have hrl0 := zRun_le (r := zR24 D s) h
      have hml := zMost_le (r := zR24 D s) h
      -- the last step
      have fin : ∀ w' : Nat, zRun (zR24 D s) (h + 1) = w' → q_X8_sky_B121 θm a1 a2 (q_X8_sky_B42 θm a1 a2 (fuel + (k + 1))) (nI s) (nI w) (nI (zSm (zR24 D s) (h + 1))) (zBit (zShut D) (h + 1)) (nI (zMost (zR24 D s) h)) (zSta (zR24 D s) h) (nI h) (nI w') μ = some (zSky D s w, μ) := by
        intro w' hw'
        unfold q_X8_sky_B121
        rw [← hw']
        by_cases hc : zRun (zR24 D s) (h + 1) ≤ zMost (zR24 D s) h
        · rw [if_pos (nI_le hc (by omega)), zl, nI_1]
          have e : zMost (zR24 D s) (h + 1) = zMost (zR24 D s) h := by simp only [zMost]; rw [if_pos hc]
          have e2 : zSta (zR24 D s) (h + 1) = zSta (zR24 D s) h := by simp only [zSta]; rw [if_pos hc]
          rw [e, e2] at ih'; exact ih'
        · rw [if_neg (nI_ge (by omega) (by omega)), zl, zl, nI_1, z_sub1 h _ (by omega)]
          have e : zMost (zR24 D s) (h + 1) = zRun (zR24 D s) (h + 1) := by simp only [zMost]; rw [if_neg hc]
          have e2 : zSta (zR24 D s) (h + 1) = nI (h + 1 - zRun (zR24 D s) (h + 1)) := by simp only [zSta]; rw [if_neg hc]
          rw [e, e2] at ih'; exact ih'
      have mid : ∀ bt : Int32, zBit (zShut D) h ||| (bt <<< (nI h &&& 31)) = zBit (zShut D) (h + 1) → q_X8_sky_B92 θm a1 a2 (q_X8_sky_B42 θm a1 a2 (fuel + (k + 1))) (nI s) (nI w) (nI (zSm (zR24 D s) (h + 1))) (nI (zRun (zR24 D s) h)) (nI (zMost (zR24 D s) h)) (zSta (zR24 D s) h) (nI h) bt (zBit (zShut D) h) μ = some (zSky D s w, μ) := by
        intro bt hbt
        unfold q_X8_sky_B92
        rw [zl, hbt, z_24, if_neg (z_bd (by omega) (by omega)), nI_clamp (by omega), hM.2.1 _ (by omega)]
        by_cases h0 : dR D (24 * s + h) = 0
        · rw [if_pos ((z_r0 (by omega)).mpr h0)]
          exact fin 0 (by show (if zR24 D s h = 0 then 0 else _) = 0; rw [if_pos (show zR24 D s h = 0 from h0)])
        · rw [if_neg (fun q => h0 ((z_r0 (by omega)).mp q)), nI_1]
          exact fin _ (by show (if zR24 D s h = 0 then 0 else _) = _; rw [if_neg (show ¬ zR24 D s h = 0 from h0)])
      have e24 : (24 : Int32) + nI h = nI (24 + h) := by rw [show (24 : Int32) = nI 24 from rfl, nI_add]
      have esm : zSm (zR24 D s) (h + 1) = zSm (zR24 D s) h + dR D (24 * s + h) := rfl
      show q_X8_sky_B42_b θm a1 a2 (q_X8_sky_B42 θm a1 a2 (fuel + (k + 1))) (nI s) (nI w) _ _ _ _ _ (nI h) μ = _
      unfold q_X8_sky_B42_b
      rw [if_neg (show ¬ (24 : Int32) ≤ nI h from nI_ge (b := 24) (by omega) (by omega)), z_24, if_neg (z_bd (n := 24 * s + h) (L := 48) (by omega) (by omega)), nI_clamp (n := 24 * s + h) (by omega), hM.2.1 _ (show 24 * s + h < 48 by omega), zl, nI_add, ← esm, if_neg (z_bd (n := h) (L := 48) (by omega) (by omega)), e24, if_neg (z_bd (n := 24 + h) (L := 48) (by omega) (by omega)), nI_clamp (n := h) (by omega), nI_clamp (n := 24 + h) (by omega), hM.2.1 h (by omega), hM.2.1 (24 + h) (by omega), nI_add]
      have zz : nI (dR D h + dR D (24 + h)) = 0 ↔ (dR D h = 0 ∧ dR D (24 + h) = 0) := by
        rw [show (0 : Int32) = nI 0 from rfl, nI_eq (by omega) (by omega)]
        omega
      by_cases hz : dR D h = 0 ∧ dR D (24 + h) = 0
      · rw [if_pos (zz.mpr hz)]
        exact mid 1 (by simp only [zBit]; rw [if_pos (zShut_iff.mpr hz)])
      · rw [if_neg (fun q => hz (zz.mp q))]
        exact mid 0 (by rw [z_shl0, z_or0]; simp only [zBit]; rw [if_neg (fun q => hz (zShut_iff.mp q))])
  exact run 24 0 175 (by omega) (by omega)
theorem c_sky (h : zRel θ θm σ μ tc Fs D) (a1 a2 : Int32) : zGo θ θm tc Fs (q_X7_sky θ a1 a2 σ) (q_X8_sky θm a1 a2 μ) := by
  have hB := h.1
  obtain ⟨hD, hT, hX, hM⟩ := h.2.2.2.1
  unfold q_X7_sky q_X8_sky
  rcases pk_ix a1 (n := 2) (by omega) with q | q | ⟨s, hs, rfl⟩
  · rw [if_pos q, m_inN q, zb, if_pos p00]
    exact zGo_same h rfl rfl
  · rw [if_neg (z_pos (by omega) q), if_pos (show (2 : Int32) ≤ a1 from q), m_inO q (by omega) (show (1 : Int64).toInt < (2 : Nat) by decide), zb, if_pos p00]
    exact zGo_same h rfl rfl
  rw [if_neg (nI_pos (by omega)), if_neg (show ¬ (2 : Int32) ≤ nI s from nI_ge (b := 2) hs (by omega)), m_inY (c := 1) (show (s : Int) ≤ 1 by omega) (by omega), zb, if_neg n10]
  rcases pk_ix a2 (n := 5) (by omega) with q | q | ⟨w, hw, rfl⟩
  · rw [if_pos q, m_inN q, zb, if_pos p00]
    exact zGo_same h rfl rfl
  · have h4 : ¬ a2 ≤ (4 : Int32) := fun z => by rw [z_le, show (4 : Int32).toInt = 4 from rfl] at z; rw [z_le, z_nI (by omega)] at q; omega
    rw [if_neg (z_pos (by omega) q), if_neg h4, m_inO q (by omega) (show (4 : Int64).toInt < (5 : Nat) by decide), zb, if_pos p00]
    exact zGo_same h rfl rfl
  rw [if_neg (nI_pos (by omega)), if_pos (show nI w ≤ (4 : Int32) from nI_le (b := 4) (by omega) (by omega)), m_inY (c := 4) (show (w : Int) ≤ 4 by omega) (by omega), zb, if_neg n10, m_sky hD hM (by omega) hw]
  have hw5 : w = 0 ∨ w = 1 ∨ w = 2 ∨ w = 3 ∨ w = 4 := by omega
  rcases hw5 with rfl | rfl | rfl | rfl | rfl
  · rw [if_pos (show nI 0 = 0 from rfl), x_showerLength hB hD hX (by omega), zb]
    exact zGo_same h rfl rfl
  · rw [if_neg (show ¬ nI 1 = 0 by decide), if_pos (show nI 1 = 1 from rfl), x_showerStart hB hD hX (by omega), zb]
    exact zGo_same h rfl rfl
  · rw [if_neg (show ¬ nI 2 = 0 by decide), if_neg (show ¬ nI 2 = 1 by decide), if_pos (show nI 2 = 2 from rfl), x_wetHours hB hD hX (by omega), zb]
    exact zGo_same h rfl rfl
  · rw [if_neg (show ¬ nI 3 = 0 by decide), if_neg (show ¬ nI 3 = 1 by decide), if_neg (show ¬ nI 3 = 2 by decide), if_pos (show nI 3 = 3 from rfl), x_allRain hB hD hX (by omega), zb]
    exact zGo_same h rfl rfl
  · rw [if_neg (show ¬ nI 4 = 0 by decide), if_neg (show ¬ nI 4 = 1 by decide), if_neg (show ¬ nI 4 = 2 by decide), if_neg (show ¬ nI 4 = 3 by decide), x_shutHours hB hD hX, zb]
    exact zGo_same h rfl rfl
end SKY

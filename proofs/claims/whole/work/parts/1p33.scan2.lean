/-! ===== the class's scan of the tape ===== -/
def zWt (q : Nat) : Nat := if zWl (q / 6) (q % 6) = 0 then 32 else zWl (q / 6) (q % 6)
def zWc (q : Nat) : Int32 := ((((sx_sbyt.getD 1 []).getD (nI q).toNatClampNeg 0) &&& (255 : Int32)).toUInt32 % 65536).toInt32
theorem zWc_ok : ∀ q, q < 72 → zWc q = nI (zWt q) ∧ (zWc q).toUInt32.toUInt16.toUInt32.toInt32 = zWc q ∧ ¬ nI q < 0 ∧ nI q < (Int32.ofNat (sx_slen.getD 1 0)) ∧ ¬ (nI q < 0 ∨ (sx_slen.getD 1 0) ≤ (nI q).toNatClampNeg) ∧ ¬ ((Int32.ofNat (sx_slen.getD 1 0)) >>> ((0 : Int32) &&& 31)) ≤ nI q := by decide +kernel
theorem x_wordLetter {θ : sv_T} {σ : sv_S} {q : Nat} (hq : q < 72) : q_X4_wordLetter θ (nI q) σ = some (nI (zWt q), σ) := by
  obtain ⟨h1, h2, h3, h4, h5, h6⟩ := zWc_ok q hq
  unfold q_X4_wordLetter q_J0_length_8abf5 q_J0_coder_7d493
  rw [if_neg h3]
  simp only [zb]
  rw [if_neg h6]
  unfold q_J0_charAt_5068e q_J0_isLatin1_aae02 q_J1_charAt_3b067 q_J0_checkIndex_df160 q_J3_checkIndex_8e157
  simp only [zb]
  rw [if_neg (show ¬ (1 : Int32) = 0 by decide), if_neg h3, if_pos h4]
  simp only [zb]
  rw [if_neg h5, zl]
  have e : (((((sx_sbyt.getD 1 []).getD (nI q).toNatClampNeg 0) &&& (255 : Int32)).toUInt32 % 65536).toInt32) = zWc q := rfl
  rw [e, if_pos h2]
  simp only [zb]
  rw [if_pos h2]
  simp only [zb]
  rw [h1]
def zAl (B : Nat → Nat) (s len w : Nat) : Nat → Nat
  | 0 => 0
  | i + 1 => zAl B s len w i + if (if i < len then B (s + i) else 32) = zWt (w * 6 + i) then 1 else 0
theorem zAl_le {B : Nat → Nat} {s len w : Nat} : ∀ i, zAl B s len w i ≤ i
  | 0 => Nat.le_refl _
  | i + 1 => by
    have := zAl_le (B := B) (s := s) (len := len) (w := w) i
    simp only [zAl]
    by_cases hc : (if i < len then B (s + i) else 32) = zWt (w * 6 + i)
    · rw [if_pos hc]; omega
    · rw [if_neg hc]; omega
theorem zAl_all {B : Nat → Nat} {s len w : Nat} : ∀ i, zAl B s len w i = i ↔ ∀ j, j < i → (if j < len then B (s + j) else 32) = zWt (w * 6 + j)
  | 0 => ⟨fun _ j hj => by omega, fun _ => rfl⟩
  | i + 1 => by
    have ih := zAl_all (B := B) (s := s) (len := len) (w := w) i
    have hle := zAl_le (B := B) (s := s) (len := len) (w := w) i
    simp only [zAl]
    constructor
    · intro h j hj
      by_cases hc : (if i < len then B (s + i) else 32) = zWt (w * 6 + i)
      · rw [if_pos hc] at h
        by_cases hji : j = i
        · subst hji; exact hc
        · exact ih.mp (by omega) j (by omega)
      · rw [if_neg hc] at h; omega
    · intro h
      rw [if_pos (h i (by omega)), ih.mpr (fun j hj => h j (by omega))]
theorem zWl_rng : ∀ k, k < 12 → ∀ i, i < 6 → zWl k i ≠ 32 := by decide +kernel
theorem zWt_eq {w i : Nat} (hi : i < 6) : zWt (w * 6 + i) = if zWl w i = 0 then 32 else zWl w i := by
  unfold zWt
  rw [show (w * 6 + i) / 6 = w by omega, show (w * 6 + i) % 6 = i by omega]
theorem zAl_mt {B : Nat → Nat} {s len w : Nat} (hw : w < 12) (hl : ∀ i, i < len → zLe (B (s + i)) = true) : (zAl B s len w 6 = 6 ∧ len ≤ 6) ↔ zMt B s len w := by
  rw [zAl_all]
  unfold zMt
  constructor
  · rintro ⟨h1, h2⟩
    refine ⟨h2, fun i hi => ?_⟩
    have h3 := h1 i hi
    rw [zWt_eq hi] at h3
    by_cases hil : i < len
    · rw [if_pos hil] at h3 ⊢
      have := hl i hil
      simp only [zLe, decide_eq_true_eq] at this
      by_cases h0 : zWl w i = 0
      · rw [if_pos h0] at h3; omega
      · rw [if_neg h0] at h3; exact h3
    · rw [if_neg hil] at h3 ⊢
      by_cases h0 : zWl w i = 0
      · exact h0.symm
      · rw [if_neg h0] at h3
        exact absurd h3.symm (zWl_rng w hw i hi)
  · rintro ⟨h2, h1⟩
    refine ⟨fun i hi => ?_, h2⟩
    have h3 := h1 i hi
    rw [zWt_eq hi]
    by_cases hil : i < len
    · rw [if_pos hil] at h3 ⊢
      have := hl i hil
      simp only [zLe, decide_eq_true_eq] at this
      rw [if_neg (by omega)]
      exact h3
    · rw [if_neg hil] at h3 ⊢
      rw [if_pos h3.symm]
theorem x_wn_in {θ : sv_T} {σ : sv_S} {n s len w : Nat} {B : Nat → Nat} {a1 a2 : Int32} {k2 : Int32 → Int32 → Int32 → sv_S → Option (Int32 × sv_S)} (h : xRd σ n B) (hs : s + len ≤ n) (hw : w < 12) :
    ∀ (r i fuel : Nat), i + r = 6 → q_X4_wordNumber_B20 θ a1 a2 k2 (fuel + r + 1) (nI s) (nI len) (nI w) (nI (zAl B s len w i)) (nI i) σ = (if zAl B s len w 6 = 6 ∧ len ≤ 6 then some (nI w, σ) else k2 (nI s) (nI len) (nI (w + 1)) σ) := by
  have hn := h.2.1
  intro r
  induction r with
  | zero =>
    intro i fuel hi
    have hi6 : i = 6 := by omega
    subst hi6
    show q_X4_wordNumber_B20_b θ a1 a2 k2 _ (nI s) (nI len) (nI w) (nI (zAl B s len w 6)) (nI 6) σ = _
    unfold q_X4_wordNumber_B20_b
    have hal := zAl_le (B := B) (s := s) (len := len) (w := w) 6
    rw [if_pos (show (6 : Int32) ≤ nI 6 by decide)]
    have e6 : nI (zAl B s len w 6) = 6 ↔ zAl B s len w 6 = 6 := by
      rw [show (6 : Int32) = nI 6 from rfl, nI_eq (by omega) (by omega)]
    have e7 : (6 : Int32) < nI len ↔ 6 < len := by
      rw [show (6 : Int32) = nI 6 from rfl, nI_ltI (by omega) (by omega)]
    by_cases h6 : zAl B s len w 6 = 6
    · rw [if_pos (e6.mpr h6)]
      by_cases h7 : 6 < len
      · rw [if_pos (e7.mpr h7), zl, nI_1, if_neg (by omega)]
      · rw [if_neg (fun q => h7 (e7.mp q)), if_pos ⟨h6, by omega⟩]
    · rw [if_neg (fun q => h6 (e6.mp q)), zl, nI_1, if_neg (fun q => h6 q.1)]
  | succ r ih =>
    intro i fuel hi
    show q_X4_wordNumber_B20_b θ a1 a2 k2 (q_X4_wordNumber_B20 θ a1 a2 k2 (fuel + (r + 1))) (nI s) (nI len) (nI w) (nI (zAl B s len w i)) (nI i) σ = _
    have ih' := ih (i + 1) fuel (by omega)
    have hwl : nI w * 6 + nI i = nI (w * 6 + i) := by rw [show (6 : Int32) = nI 6 from rfl, pk_mul, nI_add]
    have b46 : ∀ x : Nat, x ≤ 255 → (if i < len then B (s + i) else 32) = x → q_X4_wordNumber_B46 θ a1 a2 (q_X4_wordNumber_B20 θ a1 a2 k2 (fuel + (r + 1))) (nI s) (nI len) (nI w) (nI (zAl B s len w i)) (nI i) (nI x) σ = (if zAl B s len w 6 = 6 ∧ len ≤ 6 then some (nI w, σ) else k2 (nI s) (nI len) (nI (w + 1)) σ) := by
      intro x hx hxe
      unfold q_X4_wordNumber_B46
      rw [hwl, x_wordLetter (by omega), zb]
      have hwt : zWt (w * 6 + i) ≤ 255 := by
        have key : ∀ q, q < 72 → zWt q ≤ 255 := by decide +kernel
        exact key _ (by omega)
      have ee : nI (zWt (w * 6 + i)) = nI x ↔ zWt (w * 6 + i) = x := nI_eq (by omega) (by omega)
      have hstep : zAl B s len w (i + 1) = zAl B s len w i + if x = zWt (w * 6 + i) then 1 else 0 := by simp only [zAl, hxe]
      by_cases hc : zWt (w * 6 + i) = x
      · rw [if_pos (ee.mpr hc), zl, zl, nI_1, nI_1]
        rw [if_pos hc.symm] at hstep
        rw [← hstep]
        exact ih'
      · rw [if_neg (fun q => hc (ee.mp q)), zl, zl, nI_1, show nI (zAl B s len w i) + 0 = nI (zAl B s len w i) from Int32.add_zero _]
        have hstep2 : zAl B s len w (i + 1) = zAl B s len w i := by rw [hstep, if_neg (fun q => hc q.symm)]; exact Nat.add_zero _
        rw [← hstep2]
        exact ih'
    unfold q_X4_wordNumber_B20_b
    rw [if_neg (show ¬ (6 : Int32) ≤ nI i from nI_ge (b := 6) (by omega) (by omega))]
    by_cases hil : i < len
    · rw [if_neg (nI_ge hil (by omega)), nI_add, x_byteAt h (by omega), zb]
      unfold zby
      rw [if_pos (by omega)]
      exact b46 _ (h.2.2 (s + i) (by omega)).1 (by rw [if_pos hil])
    · rw [if_pos (nI_le (by omega) (by omega))]
      exact b46 32 (by omega) (by rw [if_neg hil])
theorem x_wn_out {θ : sv_T} {σ : sv_S} {n s len : Nat} {B : Nat → Nat} {a1 a2 : Int32} (h : xRd σ n B) (hs : s + len ≤ n) (hl : ∀ i, i < len → zLe (B (s + i)) = true) :
    ∀ (f k fuel : Nat), k + f = 12 → q_X4_wordNumber_B2 θ a1 a2 (fuel + f + 1) (nI s) (nI len) (nI k) σ = some (if zWdf B s len f k = 12 then -1 else nI (zWdf B s len f k), σ) := by
  intro f
  induction f with
  | zero =>
    intro k fuel hk
    have : k = 12 := by omega
    subst this
    show q_X4_wordNumber_B2_b θ a1 a2 _ (nI s) (nI len) (nI 12) σ = _
    unfold q_X4_wordNumber_B2_b q_J0_length_8abf5 q_J0_coder_7d493
    simp only [zb]
    rw [if_pos (by decide)]
    rfl
  | succ f ih =>
    intro k fuel hk
    show q_X4_wordNumber_B2_b θ a1 a2 (q_X4_wordNumber_B2 θ a1 a2 (fuel + (f + 1))) (nI s) (nI len) (nI k) σ = _
    unfold q_X4_wordNumber_B2_b q_J0_length_8abf5 q_J0_coder_7d493
    simp only [zb]
    have e12 : (((Int32.ofNat (sx_slen.getD 1 0)) >>> ((0 : Int32) &&& 31)) / (6 : Int32)) = nI 12 := by decide
    rw [e12, if_neg (nI_ge (by omega) (by omega))]
    have hin := x_wn_in (θ := θ) (a1 := a1) (a2 := a2) (k2 := q_X4_wordNumber_B2 θ a1 a2 (fuel + (f + 1))) h hs (show k < 12 by omega) 6 0 (200 - 7) (by omega)
    have e0 : (0 : Int32) = nI (zAl B s len k 0) := rfl
    have e0' : (0 : Int32) = nI 0 := rfl
    have hh : q_X4_wordNumber_B20 θ a1 a2 (q_X4_wordNumber_B2 θ a1 a2 (fuel + (f + 1))) sv_N (nI s) (nI len) (nI k) (0 : Int32) (0 : Int32) σ = q_X4_wordNumber_B20 θ a1 a2 (q_X4_wordNumber_B2 θ a1 a2 (fuel + (f + 1))) (200 - 7 + 6 + 1) (nI s) (nI len) (nI k) (nI (zAl B s len k 0)) (nI 0) σ := rfl
    rw [hh, hin]
    have hm := zAl_mt (B := B) (s := s) (len := len) (show k < 12 by omega) hl
    have e : zWdf B s len (f + 1) k = if zMtb B s len k = true then k else zWdf B s len f (k + 1) := rfl
    rw [e]
    by_cases hc : zMt B s len k
    · rw [if_pos (hm.mpr hc), if_pos (zMtb_iff.mpr hc), if_neg (show ¬ k = 12 by omega)]
    · rw [if_neg (fun q => hc (hm.mp q)), if_neg (fun q => hc (zMtb_iff.mp q))]
      exact ih (k + 1) fuel (by omega)
theorem x_wordNumber {θ : sv_T} {σ : sv_S} {n s len : Nat} {B : Nat → Nat} (h : xRd σ n B) (hs : s + len ≤ n) (hl : ∀ i, i < len → zLe (B (s + i)) = true) :
    q_X4_wordNumber θ (nI s) (nI len) σ = some (if zWd B s len = 12 then -1 else nI (zWd B s len), σ) := x_wn_out h hs hl 12 0 187 (by omega)
theorem zby_L {B : Nat → Nat} {n p : Nat} (h : ∀ p, p < n → B p ≤ 255) : (97 ≤ (zby B n p).toInt ∧ (zby B n p).toInt ≤ 122) ↔ (p < n ∧ zLe (B p) = true) := by
  unfold zby zLe
  by_cases hp : p < n
  · rw [if_pos hp, z_nI (by have := h p hp; omega), decide_eq_true_eq]; omega
  · rw [if_neg hp]
    have : (-1 : Int32).toInt = -1 := rfl
    rw [this]; omega
theorem zby_D {B : Nat → Nat} {n p : Nat} (h : ∀ p, p < n → B p ≤ 255) : (48 ≤ (zby B n p).toInt ∧ (zby B n p).toInt ≤ 57) ↔ (p < n ∧ zDi (B p) = true) := by
  unfold zby zDi
  by_cases hp : p < n
  · rw [if_pos hp, z_nI (by have := h p hp; omega), decide_eq_true_eq]; omega
  · rw [if_neg hp]
    have : (-1 : Int32).toInt = -1 := rfl
    rw [this]; omega
theorem x_sw {θ : sv_T} {σ : sv_S} {n s : Nat} {B : Nat → Nat} {a1 : Int32} (h : xRd σ n B) :
    ∀ (k p fuel : Nat), s ≤ p → p ≤ n → zE zLe B n p - p = k → q_X4_scanWord_B4 θ a1 (fuel + k + 1) (nI s) (nI (p - s)) (nI p) σ = q_X4_scanWord_B32 θ a1 (nI s) (nI (zE zLe B n p - s)) σ := by
  have hn := h.2.1
  intro k
  induction k with
  | zero =>
    intro p fuel hsp hpn hk
    have hsp2 := zE_spec zLe B n p
    have he : zE zLe B n p = p := by omega
    rw [he] at hsp2 ⊢
    show q_X4_scanWord_B4_b θ a1 _ (nI s) (nI (p - s)) (nI p) σ = _
    unfold q_X4_scanWord_B4_b
    rw [h.1]
    by_cases hp : n ≤ p
    · rw [if_pos (nI_le hp (by omega))]
    · rw [if_neg (nI_ge (by omega) (by omega)), x_byteAt h (by omega), zb, x_isLetter, zb]
      rw [if_neg (fun q => hsp2.2.2.2 ((zby_L (fun p hp => (h.2.2 p hp).1)).mp q)), if_pos rfl]
  | succ k ih =>
    intro p fuel hsp hpn hk
    have hsp2 := zE_spec zLe B n p
    have hp := hsp2.2.2.1 p (Nat.le_refl _) (by omega)
    have he := zE_yes (P := zLe) hp.1 hp.2
    show q_X4_scanWord_B4_b θ a1 (q_X4_scanWord_B4 θ a1 (fuel + (k + 1))) (nI s) (nI (p - s)) (nI p) σ = _
    unfold q_X4_scanWord_B4_b
    rw [h.1, if_neg (nI_ge hp.1 (by omega)), x_byteAt h (by omega), zb, x_isLetter, zb]
    rw [if_pos ((zby_L (fun p hp => (h.2.2 p hp).1)).mpr hp), if_neg (by decide), zl, zl, nI_1, nI_1, show p - s + 1 = p + 1 - s by omega, he]
    exact ih (p + 1) fuel (by omega) (by omega) (by omega)
theorem x_scanWord {θ : sv_T} (hB : sx_base θ) {σ : sv_S} {n s c : Nat} {B : Nat → Nat} (h : xRd σ n B) (hs : s < n) (hl : zLe (B s) = true) (hc : σ.1 13 6 = nI c) (hc2 : c ≤ 160) : q_X4_scanWord θ (nI s) σ = some (nI (zTe B n s - s), zTok σ c (zK B n s) (nI s) (zMn B n s)) := by
  have hn := h.2.1
  have hte : zTe B n s = zE zLe B n s := by unfold zTe; rw [if_neg (by omega), if_pos hl]
  have hsp := zE_spec zLe B n s
  have hgt := zTe_gt (B := B) hs
  unfold q_X4_scanWord
  have e1 := x_sw (θ := θ) (a1 := nI s) h (zE zLe B n s - s) s (199 - (zE zLe B n s - s)) (Nat.le_refl _) (by omega) rfl
  rw [show 199 - (zE zLe B n s - s) + (zE zLe B n s - s) + 1 = sv_N by unfold sv_N; have := hsp.2.1 (by omega); omega, Nat.sub_self] at e1
  show q_X4_scanWord_B4 θ (nI s) sv_N (nI s) (nI 0) (nI s) σ = _
  rw [e1, ← hte]
  have hle := hsp.2.1 (by omega)
  unfold q_X4_scanWord_B32
  rw [x_wordNumber h (by omega) (fun i hi => (hsp.2.2.1 (s + i) (by omega) (by omega)).2), zb]
  have hw12 : zWd B s (zTe B n s - s) ≤ 12 := (zWdf_spec (B := B) (s := s) (len := zTe B n s - s) 12 0).2.1
  unfold zK zMn
  rw [if_neg (show ¬ n ≤ s by omega), if_neg (show ¬ n ≤ s by omega), if_pos hl, if_pos hl]
  by_cases h12 : zWd B s (zTe B n s - s) = 12
  · rw [if_pos h12, if_pos (show (-1 : Int32) = -1 from rfl), if_pos h12, if_neg (show ¬ zWd B s (zTe B n s - s) < 6 by omega), x_addToken hB hc hc2, zb]
  · rw [if_neg h12, if_neg h12]
    have : ¬ nI (zWd B s (zTe B n s - s)) = -1 := by
      rw [z_eq, z_nI (by omega)]
      have : (-1 : Int32).toInt = -1 := rfl
      omega
    rw [if_neg this]
    by_cases h6 : zWd B s (zTe B n s - s) < 6
    · rw [if_neg (show ¬ (6 : Int32) ≤ nI _ from nI_ge (b := 6) h6 (by omega)), if_pos h6, if_pos h6, x_addToken hB hc hc2, zb]
    · rw [if_pos (show (6 : Int32) ≤ nI _ from nI_le (a := 6) (by omega) (by omega)), if_neg h6, if_neg h6]
      have e3 : (3 : Int32) + nI (zWd B s (zTe B n s - s)) - 6 = nI (zWd B s (zTe B n s - s) - 3) := by
        rw [show (3 : Int32) = nI 3 from rfl, show (6 : Int32) = nI 6 from rfl, nI_add, pk_sub (by omega)]
        congr 1
        omega
      rw [e3, x_addToken hB hc hc2, zb]

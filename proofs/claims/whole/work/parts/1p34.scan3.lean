/-! ===== the class's scan: numbers, one token, the tape ===== -/
theorem zNv_le {B : Nat → Nat} {s : Nat} : ∀ k, (∀ i, i < k → B (s + i) ≤ 57) → zNv B s k ≤ 9999 ∧ (k ≤ 4 → zNv B s k < 10 ^ k)
  | 0, _ => ⟨by simp [zNv], fun _ => by simp [zNv]⟩
  | k + 1, h => by
    obtain ⟨h1, h2⟩ := zNv_le (B := B) (s := s) k (fun i hi => h i (by omega))
    have hb := h k (by omega)
    simp only [zNv]
    by_cases h4 : k < 4
    · rw [if_pos h4]
      have h3 := h2 (by omega)
      have : k = 0 ∨ k = 1 ∨ k = 2 ∨ k = 3 := by omega
      rcases this with rfl | rfl | rfl | rfl <;> exact ⟨by omega, fun _ => by omega⟩
    · rw [if_neg h4]
      exact ⟨h1, fun q => by omega⟩
theorem x_sn {θ : sv_T} {σ : sv_S} {n s : Nat} {B : Nat → Nat} {a1 : Int32} (h : xRd σ n B) :
    ∀ (k p fuel : Nat), s ≤ p → p ≤ n → zE zDi B n p - p = k → (∀ q, s ≤ q → q < p → zDi (B q) = true) → q_X4_scanNumber_B7 θ a1 (fuel + k + 1) (nI s) (nI (p - s)) (nI (zNv B s (p - s))) (nI p) σ = q_X4_scanNumber_B61 θ a1 (nI s) (nI (zE zDi B n p - s)) (nI (zNv B s (zE zDi B n p - s))) σ := by
  have hn := h.2.1
  intro k
  induction k with
  | zero =>
    intro p fuel hsp hpn hk hd
    have hsp2 := zE_spec zDi B n p
    have he : zE zDi B n p = p := by omega
    rw [he] at hsp2 ⊢
    show q_X4_scanNumber_B7_b θ a1 _ (nI s) (nI (p - s)) _ (nI p) σ = _
    unfold q_X4_scanNumber_B7_b
    rw [h.1]
    by_cases hp : n ≤ p
    · rw [if_pos (nI_le hp (by omega))]
    · rw [if_neg (nI_ge (by omega) (by omega)), x_byteAt h (by omega), zb, x_isDigit, zb]
      rw [if_neg (fun q => hsp2.2.2.2 ((zby_D (fun p hp => (h.2.2 p hp).1)).mp q)), if_pos rfl]
  | succ k ih =>
    intro p fuel hsp hpn hk hd
    have hsp2 := zE_spec zDi B n p
    have hp := hsp2.2.2.1 p (Nat.le_refl _) (by omega)
    have he := zE_yes (P := zDi) hp.1 hp.2
    show q_X4_scanNumber_B7_b θ a1 (q_X4_scanNumber_B7 θ a1 (fuel + (k + 1))) (nI s) (nI (p - s)) _ (nI p) σ = _
    unfold q_X4_scanNumber_B7_b
    rw [h.1, if_neg (nI_ge hp.1 (by omega)), x_byteAt h (by omega), zb, x_isDigit, zb]
    rw [if_pos ((zby_D (fun p hp => (h.2.2 p hp).1)).mpr hp), if_neg (by decide)]
    have hd2 : ∀ q, s ≤ q → q < p + 1 → zDi (B q) = true := fun q g1 g2 => by
      by_cases hq : q = p
      · subst hq; exact hp.2
      · exact hd q g1 (by omega)
    have ih' := ih (p + 1) fuel (by omega) (by omega) (by omega) hd2
    rw [← he] at ih'
    have hps : p + 1 - s = (p - s) + 1 := by omega
    have hbd : ∀ i, i < p - s → B (s + i) ≤ 57 := fun i hi => by
      have := hd (s + i) (by omega) (by omega)
      simp only [zDi, decide_eq_true_eq] at this
      omega
    have hnv := zNv_le (B := B) (s := s) (p - s) hbd
    have hbp : 48 ≤ B p ∧ B p ≤ 57 := by
      have := hp.2
      simp only [zDi, decide_eq_true_eq] at this
      exact this
    by_cases h4 : 4 ≤ p - s
    · rw [if_pos (show (4 : Int32) ≤ nI (p - s) from nI_le (a := 4) h4 (by omega)), zl, zl, nI_1, nI_1, ← hps]
      have ez : zNv B s (p - s) = zNv B s (p + 1 - s) := by rw [hps]; simp only [zNv]; rw [if_neg (by omega)]
      rw [ez]
      exact ih'
    · rw [if_neg (show ¬ (4 : Int32) ≤ nI (p - s) from nI_ge (b := 4) (by omega) (by omega)), x_byteAt h (by omega), zb, zl, zl, zl, nI_1, nI_1, ← hps]
      have ez : nI (zNv B s (p - s)) * 10 + zby B n p - 48 = nI (zNv B s (p + 1 - s)) := by
        unfold zby
        rw [if_pos hp.1, hps]
        simp only [zNv]
        rw [if_pos (by omega), show s + (p - s) = p by omega, show (10 : Int32) = nI 10 from rfl, show (48 : Int32) = nI 48 from rfl, pk_mul, nI_add, pk_sub (by omega)]
        congr 1
        omega
      rw [ez]
      exact ih'
theorem x_scanNumber {θ : sv_T} (hB : sx_base θ) {σ : sv_S} {n s c : Nat} {B : Nat → Nat} (h : xRd σ n B) (hs : s < n) (hd : zDi (B s) = true) (hc : σ.1 13 6 = nI c) (hc2 : c ≤ 160) : q_X4_scanNumber θ (nI s) σ = some (nI (zTe B n s - s), zTok σ c (zK B n s) (nI s) (zMn B n s)) := by
  have hn := h.2.1
  have hnl : ¬ zLe (B s) = true := by
    simp only [zDi, zLe, decide_eq_true_eq] at hd ⊢; omega
  have hte : zTe B n s = zE zDi B n s := by unfold zTe; rw [if_neg (by omega), if_neg hnl, if_pos hd]
  have hsp := zE_spec zDi B n s
  unfold q_X4_scanNumber
  have e1 := x_sn (θ := θ) (a1 := nI s) h (zE zDi B n s - s) s (199 - (zE zDi B n s - s)) (Nat.le_refl _) (by omega) rfl (fun q g1 g2 => by omega)
  rw [show 199 - (zE zDi B n s - s) + (zE zDi B n s - s) + 1 = sv_N by unfold sv_N; have := hsp.2.1 (by omega); omega, Nat.sub_self] at e1
  show q_X4_scanNumber_B7 θ (nI s) sv_N (nI s) (nI 0) (nI 0) (nI s) σ = _
  have e1' : q_X4_scanNumber_B7 θ (nI s) sv_N (nI s) (nI 0) (nI 0) (nI s) σ = _ := e1
  rw [e1', ← hte]
  have hle := hsp.2.1 (by omega)
  unfold q_X4_scanNumber_B61 zK zMn
  rw [if_neg (show ¬ n ≤ s by omega), if_neg (show ¬ n ≤ s by omega), if_neg hnl, if_neg hnl, if_pos hd, if_pos hd]
  by_cases h4 : 4 < zTe B n s - s
  · rw [if_pos (show (4 : Int32) < nI (zTe B n s - s) from nI_lt (a := 4) h4 (by omega)), if_pos h4, x_addToken hB hc hc2, zb]
  · rw [if_neg (show ¬ (4 : Int32) < nI (zTe B n s - s) from nI_nlt (a := 4) (by omega) (by omega)), if_neg h4, x_addToken hB hc hc2, zb]
theorem x_scanOne {θ : sv_T} (hB : sx_base θ) {σ : sv_S} {n s c : Nat} {B : Nat → Nat} (h : xRd σ n B) (hs : s < n) (hc : σ.1 13 6 = nI c) (hc2 : c ≤ 160) : q_X4_scanOne θ (nI s) σ = if zBl (B s) = true then some (1, σ) else some (nI (zTe B n s - s), zTok σ c (zK B n s) (nI s) (zMn B n s)) := by
  have hn := h.2.1
  have hb := (h.2.2 s hs).1
  have hbb : ∀ p, p < n → B p ≤ 255 := fun p hp => (h.2.2 p hp).1
  unfold q_X4_scanOne
  rw [x_byteAt h (by omega), zb, x_isLetter, zb]
  by_cases hl : zLe (B s) = true
  · have hnb : ¬ zBl (B s) = true := by simp only [zLe, zBl, decide_eq_true_eq] at hl ⊢; omega
    rw [if_pos ((zby_L hbb).mpr ⟨hs, hl⟩), if_neg (show ¬ (1 : Int32) = 0 by decide), x_scanWord hB h hs hl hc hc2, zb, if_neg hnb]
  · rw [if_neg (fun q => hl ((zby_L hbb).mp q).2), if_pos rfl, x_isDigit, zb]
    by_cases hd : zDi (B s) = true
    · have hnb : ¬ zBl (B s) = true := by simp only [zDi, zBl, decide_eq_true_eq] at hd ⊢; omega
      rw [if_pos ((zby_D hbb).mpr ⟨hs, hd⟩), if_neg (show ¬ (1 : Int32) = 0 by decide), x_scanNumber hB h hs hd hc hc2, zb, if_neg hnb]
    · rw [if_neg (fun q => hd ((zby_D hbb).mp q).2), if_pos rfl]
      have ez : zby B n s = nI (B s) := by unfold zby; rw [if_pos hs]
      rw [ez]
      have e32 : nI (B s) = 32 ↔ B s = 32 := by rw [show (32 : Int32) = nI 32 from rfl, nI_eq (by omega) (by omega)]
      have e10 : nI (B s) = 10 ↔ B s = 10 := by rw [show (10 : Int32) = nI 10 from rfl, nI_eq (by omega) (by omega)]
      have hte : zTe B n s = s + 1 := by unfold zTe; rw [if_neg (by omega), if_neg hl, if_neg hd]
      by_cases h32 : B s = 32
      · rw [if_pos (e32.mpr h32), if_pos (by simp only [zBl, decide_eq_true_eq]; omega)]
      · rw [if_neg (fun q => h32 (e32.mp q))]
        by_cases h10 : B s = 10
        · rw [if_pos (e10.mpr h10), if_pos (by simp only [zBl, decide_eq_true_eq]; omega)]
        · rw [if_neg (fun q => h10 (e10.mp q)), if_neg (by simp only [zBl, decide_eq_true_eq]; omega), x_isSign hb, zb, hte, show s + 1 - s = 1 by omega]
          unfold zK zMn
          rw [if_neg (show ¬ n ≤ s by omega), if_neg (show ¬ n ≤ s by omega), if_neg hl, if_neg hl, if_neg hd, if_neg hd]
          by_cases hsg : zSi (B s) = true
          · rw [if_pos hsg, if_neg (show ¬ (1 : Int32) = 0 by decide), x_addToken hB hc hc2, zb, if_pos hsg]
            rfl
          · rw [if_neg hsg, if_pos rfl, x_addToken hB hc hc2, zb, if_neg hsg]
            rfl
/-- what the scan writes -/
def zSc (i j : Nat) : Prop := (i = 13 ∧ j = 6) ∨ i = 15 ∨ i = 16 ∨ i = 17
theorem zTok_fr {σ : sv_S} {c : Nat} {t p m : Int32} : zFr zSc σ (zTok σ c t p m) := by
  unfold zTok
  refine zFr_tr (zFr_I ?_) (zFr_tr (zFr_I ?_) (zFr_tr (zFr_I ?_) (zFr_I ?_)))
  · exact Or.inr (Or.inl rfl)
  · exact Or.inr (Or.inr (Or.inl rfl))
  · exact Or.inr (Or.inr (Or.inr rfl))
  · exact Or.inl ⟨rfl, rfl⟩
theorem xRd_fr {S : Nat → Nat → Prop} {σ σ' : sv_S} {n : Nat} {B : Nat → Nat} (h : xRd σ n B) (hf : zFr S σ σ') (h1 : ¬ S 13 0) (h2 : ∀ j, ¬ S 14 j) : xRd σ' n B :=
  ⟨by rw [hf.2 13 0 h1]; exact h.1, h.2.1, fun p hp => ⟨(h.2.2 p hp).1, by rw [hf.2 14 p (h2 p)]; exact (h.2.2 p hp).2⟩⟩
theorem zSc_1 : ¬ zSc 13 0 := by unfold zSc; omega
theorem zSc_2 : ∀ j, ¬ zSc 14 j := by unfold zSc; intro j; omega
/-- the tokens that stand, c of them -/
def xTk (σ : sv_S) (B : Nat → Nat) (n c : Nat) : Prop := ∀ j, j < c → σ.1 15 j = zK B n (zS B n j) ∧ σ.1 16 j = nI (zS B n j) ∧ σ.1 17 j = zMn B n (zS B n j)
theorem xTk_add {σ : sv_S} {B : Nat → Nat} {n c : Nat} (h : xTk σ B n c) : xTk (zTok σ c (zK B n (zS B n c)) (nI (zS B n c)) (zMn B n (zS B n c))) B n (c + 1) := by
  intro j hj
  unfold zTok
  by_cases hjc : j = c
  · subst hjc
    refine ⟨?_, ?_, ?_⟩
    · rw [zI_o (by omega), zI_o (by omega), zI_o (by omega), zI_v]
    · rw [zI_o (by omega), zI_o (by omega), zI_v]
    · rw [zI_o (by omega), zI_v]
  · obtain ⟨h1, h2, h3⟩ := h j (by omega)
    refine ⟨?_, ?_, ?_⟩
    · rw [zI_o (by omega), zI_o (by omega), zI_o (by omega), zI_o (by omega)]; exact h1
    · rw [zI_o (by omega), zI_o (by omega), zI_o (by omega), zI_o (by omega)]; exact h2
    · rw [zI_o (by omega), zI_o (by omega), zI_o (by omega), zI_o (by omega)]; exact h3
theorem zTok_c {σ : sv_S} {c : Nat} {t p m : Int32} : (zTok σ c t p m).1 13 6 = nI (c + 1) := by unfold zTok; rw [zI_v]
theorem x_scan_run {θ : sv_T} (hB : sx_base θ) {n : Nat} {B : Nat → Nat} :
    ∀ (k i nx c fuel : Nat) (σ : sv_S), n - i = k → i ≤ n → nx ≤ n → xRd σ n B → σ.1 13 6 = nI c → xTk σ B n c → zE zBl B n (max i nx) = zS B n c → (∀ j, j < c → zS B n j < n) →
      ∃ m σ', q_X4_scan_B9 θ (fuel + k + 1) (nI nx) (nI i) σ = some ((), σ') ∧ zFr zSc σ σ' ∧ zS B n m = n ∧ (∀ j, j < m → zS B n j < n) ∧ σ'.1 13 6 = nI (m + 1) ∧ xTk σ' B n (m + 1) := by
  intro k
  induction k with
  | zero =>
    intro i nx c fuel σ hk hi hnx hR hc hT hE hlt
    have hin : i = n := by omega
    subst hin
    have hn := hR.2.1
    have hSc : zS B i c = i := by rw [← hE, show max i nx = i by omega]; exact zE_no (by omega)
    have hci : c ≤ 160 := by
      rcases Nat.eq_zero_or_pos c with q | q
      · omega
      · have h1 := hlt (c - 1) (by omega)
        have h2 := zS_ge (c - 1) h1
        omega
    show ∃ m σ', q_X4_scan_B9_b θ _ (nI nx) (nI i) σ = some ((), σ') ∧ _
    unfold q_X4_scan_B9_b
    rw [hR.1, if_pos (nI_le (Nat.le_refl _) (by omega)), x_addToken hB hc hci, zb]
    have hK : zK B i i = 0 := by unfold zK; rw [if_pos (Nat.le_refl _)]
    have hM : zMn B i i = 0 := by unfold zMn; rw [if_pos (Nat.le_refl _)]
    have hadd := xTk_add hT
    rw [hSc, hK, hM] at hadd
    exact ⟨c, _, rfl, zTok_fr, hSc, hlt, zTok_c, hadd⟩
  | succ k ih =>
    intro i nx c fuel σ hk hi hnx hR hc hT hE hlt
    have hn := hR.2.1
    show ∃ m σ', q_X4_scan_B9_b θ (q_X4_scan_B9 θ (fuel + (k + 1))) (nI nx) (nI i) σ = some ((), σ') ∧ _
    unfold q_X4_scan_B9_b
    rw [hR.1, if_neg (nI_ge (by omega) (by omega))]
    by_cases hnxi : i < nx
    · rw [if_pos (nI_lt hnxi (by omega)), zl, nI_1]
      exact ih (i + 1) nx c fuel σ (by omega) (by omega) hnx hR hc hT (by rw [show max (i + 1) nx = max i nx by omega]; exact hE) hlt
    · rw [if_neg (nI_nlt (by omega) (by omega))]
      have hci : c ≤ 160 := by
        rcases Nat.eq_zero_or_pos c with q | q
        · omega
        · have h1 := hlt (c - 1) (by omega)
          have h2 := zS_ge (c - 1) h1
          omega
      rw [x_scanOne hB hR (by omega) hc hci]
      rw [show max i nx = i by omega] at hE
      by_cases hb : zBl (B i) = true
      · rw [if_pos hb, zb, zl, zl, nI_1]
        exact ih (i + 1) (i + 1) c fuel σ (by omega) (by omega) (by omega) hR hc hT (by rw [Nat.max_self, ← hE, zE_yes (by omega) hb]) hlt
      · have hSi : zS B n c = i := by rw [← hE]; exact zE_no (fun q => hb q.2)
        have hgt := zTe_gt (B := B) (show i < n by omega)
        rw [if_neg hb, zb, zl, zl, nI_1, nI_add, show i + (zTe B n i - i) = zTe B n i by omega]
        have hadd := xTk_add hT
        rw [hSi] at hadd
        have hR2 := xRd_fr hR (zTok_fr (c := c) (t := zK B n i) (p := nI i) (m := zMn B n i)) zSc_1 zSc_2
        obtain ⟨m, σ', g1, g2, g3, g4, g5, g6⟩ := ih (i + 1) (zTe B n i) (c + 1) fuel _ (by omega) (by omega) hgt.2 hR2 zTok_c hadd (by
          rw [show max (i + 1) (zTe B n i) = zTe B n i by omega]
          show _ = zE zBl B n (zTe B n (zS B n c))
          rw [hSi]) (fun j hj => by
            by_cases hjc : j = c
            · subst hjc; omega
            · exact hlt j (by omega))
        exact ⟨m, σ', g1, zFr_tr zTok_fr g2, g3, g4, g5, g6⟩
theorem x_scan {θ : sv_T} (hB : sx_base θ) {n : Nat} {B : Nat → Nat} {σ : sv_S} (hR : xRd σ n B) : ∃ m σ', q_X4_scan θ σ = some ((), σ') ∧ zFr zSc σ σ' ∧ zS B n m = n ∧ (∀ j, j < m → zS B n j < n) ∧ σ'.1 13 6 = nI (m + 1) ∧ xTk σ' B n (m + 1) := by
  have hn := hR.2.1
  have hf : zFr zSc σ (sv_sI σ 13 6 0) := zFr_I (Or.inl ⟨rfl, rfl⟩)
  have hR2 := xRd_fr hR hf zSc_1 zSc_2
  obtain ⟨m, σ', g1, g2, g3, g4, g5, g6⟩ := x_scan_run hB (n - 0) 0 0 0 (199 - (n - 0)) (sv_sI σ 13 6 0) rfl (by omega) (by omega) hR2 (by rw [zI_v]; rfl) (fun j hj => by omega) rfl (fun j hj => by omega)
  refine ⟨m, σ', ?_, zFr_tr hf g2, g3, g4, g5, g6⟩
  unfold q_X4_scan
  rw [zl]
  rw [show 199 - (n - 0) + (n - 0) + 1 = sv_N by unfold sv_N; omega] at g1
  exact g1

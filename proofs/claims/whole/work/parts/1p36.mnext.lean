/-! ===== the reference's next, its looks at a token ===== -/
theorem m_b300 {θ : sv_T} {μ : sv_S} {s x : Nat} (hh : μ.1 0 20 = nI s) (hx : x ≤ 255) : ∃ μ', q_X8_next_B300 θ (nI x) μ = some ((), μ') ∧ mFr mTn μ μ' ∧ μ'.1 0 20 = nI (s + 1) ∧ μ'.1 0 21 = 3 ∧ μ'.1 0 22 = μ.1 0 22 ∧ μ'.2.1 0 23 = lN x := by
  unfold q_X8_next_B300
  rw [zl, zl, zl]
  refine ⟨_, rfl, ?_, ?_, ?_, ?_, ?_⟩
  · exact mFr_tr (mFr_tr (mFr_I ⟨rfl, by omega, by omega⟩) mFr_J) (mFr_I ⟨rfl, by omega, by omega⟩)
  · rw [zI_v]
    have : (sv_sJ (sv_sI μ 0 21 3) 0 23 (nI x).toInt64).1 0 20 = nI s := by
      show (sv_sI μ 0 21 3).1 0 20 = nI s
      rw [zI_o (by omega)]; exact hh
    rw [this, nI_1]
  · rw [zI_o (by omega)]; show (sv_sI μ 0 21 3).1 0 21 = 3; exact zI_v
  · rw [zI_o (by omega)]; show (sv_sI μ 0 21 3).1 0 22 = μ.1 0 22; exact zI_o (by omega)
  · show sv_u (sv_sI μ 0 21 3).2.1 0 23 (nI x).toInt64 0 23 = lN x
    rw [nI_l (by omega)]
    simp [sv_u]
set_option maxHeartbeats 1000000 in
theorem m_next_run {θ : sv_T} {t n : Nat} {B : Nat → Nat} : ∀ (k p fuel : Nat) (μ : sv_S), mB μ t n B → μ.1 0 20 = nI p → p ≤ n → zE zBl B n p - p = k →
    ∃ μ', q_X8_next_B0 θ (fuel + k + 1) μ = some ((), μ') ∧ mFr mTn μ μ' ∧ mTk μ' n B (zE zBl B n p) := by
  intro k
  induction k with
  | zero =>
    intro p fuel μ h hh hpn hk
    have hn := h.2.2.2.1
    have hbb : ∀ p, p < n → B p ≤ 255 := fun p hp => (h.2.2.2.2 p hp).1
    have hsp := zE_spec zBl B n p
    have he : zE zBl B n p = p := by omega
    rw [he] at hsp ⊢
    show ∃ μ', q_X8_next_B0_b θ _ μ = _ ∧ _
    unfold q_X8_next_B0_b
    rw [hh, m_byteAt h (by omega), zb]
    have n32 : ¬ zby B n p = 32 := by
      unfold zby
      by_cases hp : p < n
      · rw [if_pos hp, show (32 : Int32) = nI 32 from rfl, nI_eq (by have := hbb p hp; omega) (by omega)]
        intro q
        exact hsp.2.2.2 ⟨hp, by simp only [zBl, decide_eq_true_eq]; omega⟩
      · rw [if_neg hp]; decide
    have n10 : ¬ zby B n p = 10 := by
      unfold zby
      by_cases hp : p < n
      · rw [if_pos hp, show (10 : Int32) = nI 10 from rfl, nI_eq (by have := hbb p hp; omega) (by omega)]
        intro q
        exact hsp.2.2.2 ⟨hp, by simp only [zBl, decide_eq_true_eq]; omega⟩
      · rw [if_neg hp]; decide
    rw [if_neg n32, hh, m_byteAt h (by omega), zb, if_neg n10, hh, zl]
    have hf1 : mFr mTn μ (sv_sI μ 0 22 (nI p)) := mFr_I ⟨rfl, by omega, by omega⟩
    have h1 := mB_n h hf1
    have hh1 : (sv_sI μ 0 22 (nI p)).1 0 20 = nI p := by rw [zI_o (by omega)]; exact hh
    rw [hh1, m_byteAt h1 (by omega), zb, zl]
    have hf2 : mFr mTn μ (sv_sI (sv_sI μ 0 22 (nI p)) 0 21 4) := mFr_tr hf1 (mFr_I ⟨rfl, by omega, by omega⟩)
    have h2 := mB_n h hf2
    have hh2 : (sv_sI (sv_sI μ 0 22 (nI p)) 0 21 4).1 0 20 = nI p := by rw [zI_o (by omega)]; exact hh1
    have ha2 : (sv_sI (sv_sI μ 0 22 (nI p)) 0 21 4).1 0 22 = nI p := by rw [zI_o (by omega)]; exact zI_v
    have ht2 : (sv_sI (sv_sI μ 0 22 (nI p)) 0 21 4).1 0 21 = 4 := zI_v
    revert hf2 h2 hh2 ha2 ht2
    generalize sv_sI (sv_sI μ 0 22 (nI p)) 0 21 4 = ν
    intro hf2 h2 hh2 ha2 ht2
    by_cases hp : p < n
    · have hb := hbb p hp
      have ez : zby B n p = nI (B p) := by unfold zby; rw [if_pos hp]
      have hpos : (0 : Int32) ≤ zby B n p := by rw [ez]; exact nI_pos' (by omega)
      rw [if_pos hpos, m_inL hbb, zb, z_r01]
      by_cases hl : zLe (B p) = true
      · rw [if_pos ⟨hp, hl⟩, zl]
        have hte : zTe B n p = zE zLe B n p := by unfold zTe; rw [if_neg (by omega), if_pos hl]
        have hf3 : mFr mTn μ (sv_sI ν 0 21 1) := mFr_tr hf2 (mFr_I ⟨rfl, by omega, by omega⟩)
        obtain ⟨μ', g1, g2, g3⟩ := m_lets (θ := θ) (zE zLe B n p - p) p (199 - (zE zLe B n p - p)) (sv_sI ν 0 21 1) (mB_n h hf3) (by rw [zI_o (by omega)]; exact hh2) (by omega) rfl
        have hsz := (zE_spec zLe B n p).2.1 (by omega)
        rw [show 199 - (zE zLe B n p - p) + (zE zLe B n p - p) + 1 = sv_N by unfold sv_N; omega] at g1
        refine ⟨μ', g1, mFr_tr hf3 (mFr_w g2 (fun i j q => ⟨q.1, by have := q.2; omega, by have := q.2; omega⟩)), ?_, by omega, Or.inr (Or.inl ⟨hp, hl, ?_, by rw [hte]; exact g3⟩)⟩
        · rw [g2.2 0 22 (by unfold mHr; omega), zI_o (by omega)]; exact ha2
        · rw [g2.2 0 21 (by unfold mHr; omega)]; exact zI_v
      · rw [if_neg (fun q => hl q.2), m_inD hbb, zb, z_r01]
        by_cases hd : zDi (B p) = true
        · rw [if_pos ⟨hp, hd⟩, zl, zl]
          have hte : zTe B n p = zE zDi B n p := by unfold zTe; rw [if_neg (by omega), if_neg hl, if_pos hd]
          have hf3 : mFr mTn μ (sv_sJ (sv_sI ν 0 21 2) 0 23 0) := mFr_tr hf2 (mFr_tr (mFr_I ⟨rfl, by omega, by omega⟩) mFr_J)
          have hhJ : (sv_sJ (sv_sI ν 0 21 2) 0 23 (0 : Int64)).1 0 20 = nI p := by show (sv_sI ν 0 21 2).1 0 20 = nI p; rw [zI_o (by omega)]; exact hh2
          obtain ⟨μ', g1, g2, g3, g4, g5, g6⟩ := m_digs (θ := θ) (s := p) (zE zDi B n p - p) p (199 - (zE zDi B n p - p)) (sv_sJ (sv_sI ν 0 21 2) 0 23 0) (mB_n h hf3) hhJ (by
              rw [Nat.sub_self]
              show sv_u (sv_sI ν 0 21 2).2.1 0 23 (0 : Int64) 0 23 = lN 0
              simp only [sv_u, if_true]; rfl) (Nat.le_refl _) (by omega) rfl (fun q a b => by omega)
          have hsz := (zE_spec zDi B n p).2.1 (by omega)
          rw [show 199 - (zE zDi B n p - p) + (zE zDi B n p - p) + 1 = sv_N by unfold sv_N; omega, Nat.sub_self] at g1
          refine ⟨μ', g1, mFr_tr hf3 g2, ?_, by omega, Or.inr (Or.inr (Or.inl ⟨hp, hd, by rw [hte]; exact g4, by rw [hte]; exact g3, by rw [hte]; exact g6⟩))⟩
          rw [g5]
          show (sv_sI ν 0 21 2).1 0 22 = nI p
          rw [zI_o (by omega)]; exact ha2
        · rw [if_neg (fun q => hd q.2), ez]
          have hte : zTe B n p = p + 1 := by unfold zTe; rw [if_neg (by omega), if_neg hl, if_neg hd]
          have hlf : zLe (B p) = false := by cases hq : zLe (B p) <;> simp_all
          have hdf : zDi (B p) = false := by cases hq : zDi (B p) <;> simp_all
          have ee : ∀ c : Nat, c ≤ 255 → (nI (B p) = nI c ↔ B p = c) := fun c hc => nI_eq (by omega) (by omega)
          obtain ⟨μ', g1, g2, g3, g4, g5, g6⟩ := m_b300 (θ := θ) (x := B p) hh2 hb
          by_cases hsg : zSi (B p) = true
          · have fin : ∃ μ', some ((), μ') = some ((), μ') ∧ q_X8_next_B300 θ (nI (B p)) ν = some ((), μ') ∧ mFr mTn μ μ' ∧ mTk μ' n B p := ⟨μ', rfl, g1, mFr_tr hf2 g2, by rw [g5]; exact ha2, by omega, Or.inr (Or.inr (Or.inr (Or.inl ⟨hp, hlf, hdf, hsg, g4, by rw [hte]; exact g3, g6⟩)))⟩
            obtain ⟨μ', -, f1, f2, f3⟩ := fin
            refine ⟨μ', ?_, f2, f3⟩
            have hc : B p = 40 ∨ B p = 41 ∨ B p = 42 ∨ B p = 43 ∨ B p = 45 ∨ B p = 59 ∨ B p = 60 ∨ B p = 61 := by
              simp only [zSi, decide_eq_true_eq] at hsg; omega
            rw [f1]
            rw [show (40 : Int32) = nI 40 from rfl, show (41 : Int32) = nI 41 from rfl, show (59 : Int32) = nI 59 from rfl, show (43 : Int32) = nI 43 from rfl, show (45 : Int32) = nI 45 from rfl, show (42 : Int32) = nI 42 from rfl, show (60 : Int32) = nI 60 from rfl, show (61 : Int32) = nI 61 from rfl]
            simp only [ee 40 (by omega), ee 41 (by omega), ee 59 (by omega), ee 43 (by omega), ee 45 (by omega), ee 42 (by omega), ee 60 (by omega), ee 61 (by omega)]
            rcases hc with q | q | q | q | q | q | q | q <;> simp [q]
          · have hsf : zSi (B p) = false := by cases hq : zSi (B p) <;> simp_all
            refine ⟨ν, ?_, hf2, ha2, by omega, Or.inr (Or.inr (Or.inr (Or.inr ⟨hp, hlf, hdf, hsf, ht2⟩)))⟩
            have hc : B p ≠ 40 ∧ B p ≠ 41 ∧ B p ≠ 42 ∧ B p ≠ 43 ∧ B p ≠ 45 ∧ B p ≠ 59 ∧ B p ≠ 60 ∧ B p ≠ 61 := by
              simp only [zSi, decide_eq_false_iff_not] at hsf; omega
            rw [show (40 : Int32) = nI 40 from rfl, show (41 : Int32) = nI 41 from rfl, show (59 : Int32) = nI 59 from rfl, show (43 : Int32) = nI 43 from rfl, show (45 : Int32) = nI 45 from rfl, show (42 : Int32) = nI 42 from rfl, show (60 : Int32) = nI 60 from rfl, show (61 : Int32) = nI 61 from rfl]
            simp only [ee 40 (by omega), ee 41 (by omega), ee 59 (by omega), ee 43 (by omega), ee 45 (by omega), ee 42 (by omega), ee 60 (by omega), ee 61 (by omega)]
            simp [hc]
    · have hpe : p = n := by omega
      have ez : zby B n p = -1 := by unfold zby; rw [if_neg hp]
      rw [ez, if_neg (show ¬ (0 : Int32) ≤ -1 by decide), zl, zl]
      have hf3 : mFr mTn μ (sv_sI ν 0 21 0) := mFr_tr hf2 (mFr_I ⟨rfl, by omega, by omega⟩)
      have h3 := mB_n h hf3
      refine ⟨_, rfl, mFr_tr hf3 (mFr_I ⟨rfl, by omega, by omega⟩), ?_, by omega, Or.inl ⟨hpe, ?_⟩⟩
      · rw [zI_v, h3.2.2.1, hpe]
      · rw [zI_o (by omega)]; exact zI_v
  | succ k ih =>
    intro p fuel μ h hh hpn hk
    have hn := h.2.2.2.1
    have hbb : ∀ p, p < n → B p ≤ 255 := fun p hp => (h.2.2.2.2 p hp).1
    have hsp := zE_spec zBl B n p
    have hp := hsp.2.2.1 p (Nat.le_refl _) (by omega)
    have he := zE_yes (P := zBl) hp.1 hp.2
    have hb := hbb p hp.1
    have ez : zby B n p = nI (B p) := by unfold zby; rw [if_pos hp.1]
    have hf : mFr mTn μ (sv_sI μ 0 20 (nI (p + 1))) := mFr_I ⟨rfl, by omega, by omega⟩
    obtain ⟨μ', g1, g2, g3⟩ := ih (p + 1) fuel (sv_sI μ 0 20 (nI (p + 1))) (mB_n h hf) zI_v (by omega) (by omega)
    refine ⟨μ', ?_, mFr_tr hf g2, by rw [he]; exact g3⟩
    show q_X8_next_B0_b θ (q_X8_next_B0 θ (fuel + (k + 1))) μ = _
    unfold q_X8_next_B0_b
    rw [hh, m_byteAt h (by omega), zb, ez]
    have hc := hp.2
    simp only [zBl, decide_eq_true_eq] at hc
    by_cases h32 : B p = 32
    · rw [if_pos (by rw [h32]; rfl), zl, hh, nI_1]
      exact g1
    · have h10 : B p = 10 := by omega
      rw [if_neg (by rw [h10]; decide), hh, m_byteAt h (by omega), zb, ez, if_pos (by rw [h10]; rfl), zl, hh, nI_1]
      exact g1
theorem m_next0 {θ : sv_T} {t n p : Nat} {B : Nat → Nat} {μ : sv_S} (h : mB μ t n B) (hh : μ.1 0 20 = nI p) (hp : p ≤ n) : ∃ μ', q_X8_next θ μ = some ((), μ') ∧ mFr mTn μ μ' ∧ mTk μ' n B (zE zBl B n p) := by
  have hn := h.2.2.2.1
  have hsz := (zE_spec zBl B n p).2.1 hp
  obtain ⟨μ', g1, g2, g3⟩ := m_next_run (θ := θ) (zE zBl B n p - p) p (199 - (zE zBl B n p - p)) μ h hh hp rfl
  rw [show 199 - (zE zBl B n p - p) + (zE zBl B n p - p) + 1 = sv_N by unfold sv_N; omega] at g1
  exact ⟨μ', g1, g2, g3⟩
/-- the reference is alive at token j, o are open -/
def mG (μ : sv_S) (t n : Nat) (B : Nat → Nat) (j o : Nat) : Prop := mB μ t n B ∧ μ.1 0 25 = 0 ∧ μ.1 0 24 = nI o ∧ mTk μ n B (zS B n j)
def mNx (i j : Nat) : Prop := i = 0 ∧ 20 ≤ j ∧ j ≤ 26
theorem m_nx {μ μ' : sv_S} (h : mFr mTn μ μ') : mFr mNx μ μ' := mFr_w h (fun i j q => ⟨q.1, q.2.1, by have := q.2.2; omega⟩)
theorem zK_ge {B : Nat → Nat} {n s : Nat} (hs : s < n) (hb : B s ≤ 255) (hK : zK B n s ≠ -1) : zLe (B s) = true ∨ (zDi (B s) = true ∧ zTe B n s - s ≤ 4) ∨ (zLe (B s) = false ∧ zDi (B s) = false ∧ zSi (B s) = true) := by
  unfold zK at hK
  rw [if_neg (by omega)] at hK
  by_cases h1 : zLe (B s) = true
  · exact Or.inl h1
  · rw [if_neg h1] at hK
    by_cases h2 : zDi (B s) = true
    · rw [if_pos h2] at hK
      refine Or.inr (Or.inl ⟨h2, ?_⟩)
      by_cases h4 : 4 < zTe B n s - s
      · rw [if_pos h4] at hK; exact absurd rfl hK
      · omega
    · rw [if_neg h2] at hK
      refine Or.inr (Or.inr ⟨by simpa using h1, by simpa using h2, ?_⟩)
      by_cases h3 : zSi (B s) = true
      · exact h3
      · rw [if_neg h3] at hK; exact absurd rfl hK
theorem m_next {θ : sv_T} {t n j o : Nat} {B : Nat → Nat} {μ : sv_S} (h : mG μ t n B j o) (hs : zS B n j < n) (hK : zK B n (zS B n j) ≠ -1) : ∃ μ', q_X8_next θ μ = some ((), μ') ∧ mFr mNx μ μ' ∧ mG μ' t n B (j + 1) o := by
  obtain ⟨h1, h2, h3, h4, h5, h6⟩ := h
  have hb := (h1.2.2.2.2 _ hs).1
  have hte := zTe_gt (B := B) hs
  have hh : μ.1 0 20 = nI (zTe B n (zS B n j)) := by
    have hk := zK_ge hs hb hK
    rcases h6 with ⟨q, -⟩ | ⟨-, -, -, q⟩ | ⟨-, -, -, q, -⟩ | ⟨-, -, -, -, -, q, -⟩ | ⟨-, a, b, c, -⟩
    · omega
    · exact q
    · exact q
    · exact q
    · rw [a, b, c] at hk
      rcases hk with q | ⟨q, -⟩ | ⟨-, -, q⟩ <;> cases q
  obtain ⟨μ', g1, g2, g3⟩ := m_next0 (θ := θ) h1 hh hte.2
  exact ⟨μ', g1, m_nx g2, mB_n h1 g2, by rw [g2.2 0 25 (by unfold mTn; omega)]; exact h2, by rw [g2.2 0 24 (by unfold mTn; omega)]; exact h3, g3⟩
theorem m_fail {θ : sv_T} {μ : sv_S} {s : Nat} (h : μ.1 0 25 = 0) (hs : μ.1 0 22 = nI s) : q_X8_fail θ μ = some ((), sv_sI (sv_sI μ 0 25 1) 0 26 (nI s)) := by
  unfold q_X8_fail
  rw [if_pos h, zl, zl, zI_o (by omega), hs]
theorem m_failD {θ : sv_T} {μ : sv_S} (h : μ.1 0 25 = 1) : q_X8_fail θ μ = some ((), μ) := by
  unfold q_X8_fail
  rw [h, if_neg (by decide)]
theorem lg_eq0 {x y : Int64} : lg_cmp x y = 0 ↔ x = y := by
  rw [z_cmp]
  by_cases h : x > y
  · rw [if_pos h]
    constructor
    · intro q; exact absurd q (by decide)
    · intro q
      subst q
      have : (x > x ↔ x.toInt < x.toInt) := Int64.lt_iff_toInt_lt
      have := this.mp h
      omega
  · rw [if_neg h]
    by_cases h2 : x = y
    · rw [if_pos h2]; exact ⟨fun _ => h2, fun _ => rfl⟩
    · rw [if_neg h2]
      exact ⟨fun q => absurd q (by decide), fun q => absurd q h2⟩
theorem zDi_3 {c : Nat} (h : zSi c = true) : zLe c = false ∧ zDi c = false := by
  simp only [zSi, zLe, zDi, decide_eq_true_eq, decide_eq_false_iff_not] at h ⊢
  omega
/-- whether the token at hand is that sign -/
theorem m_isSign {θ : sv_T} {t n j o c : Nat} {B : Nat → Nat} {μ : sv_S} (h : mG μ t n B j o) (hc : zSi c = true) : q_X8_isSign θ (nI c) μ = some (if zK B n (zS B n j) = nI c then 1 else 0, μ) := by
  obtain ⟨h1, h2, h3, h4, h5, h6⟩ := h
  have hcr : 40 ≤ c ∧ c ≤ 61 := by simp only [zSi, decide_eq_true_eq] at hc; omega
  unfold q_X8_isSign
  rw [if_pos h2]
  have hKc : ∀ w : Nat, w < 40 → ¬ nI w = nI c := fun w hw => by rw [nI_eq (by omega) (by omega)]; omega
  rcases h6 with ⟨q, e⟩ | ⟨a, b, e, -⟩ | ⟨a, b, e, -, -⟩ | ⟨a, b1, b2, b3, e, -, eJ⟩ | ⟨a, b1, b2, b3, e⟩
  · rw [e, if_neg (by decide)]
    have : zK B n (zS B n j) = nI 0 := by unfold zK; rw [if_pos (by omega)]; rfl
    rw [this, if_neg (hKc 0 (by omega))]
  · rw [e, if_neg (by decide)]
    have : ¬ zK B n (zS B n j) = nI c := by
      unfold zK
      rw [if_neg (by omega), if_pos b]
      have hw12 : zWd B (zS B n j) (zTe B n (zS B n j) - zS B n j) ≤ 12 := (zWdf_spec (B := B) (s := zS B n j) (len := zTe B n (zS B n j) - zS B n j) 12 0).2.1
      split
      · intro q
        have : (-1 : Int32).toInt = (nI c).toInt := by rw [q]
        rw [z_nI (by omega)] at this
        have e1 : (-1 : Int32).toInt = -1 := rfl
        omega
      · split
        · exact hKc 2 (by omega)
        · exact hKc _ (by omega)
    rw [if_neg this]
  · have : ¬ zK B n (zS B n j) = nI c := by
      have bl : ¬ zLe (B (zS B n j)) = true := by simp only [zDi, zLe, decide_eq_true_eq] at b ⊢; omega
      unfold zK
      rw [if_neg (by omega), if_neg bl, if_pos b]
      split
      · intro q
        have : (-1 : Int32).toInt = (nI c).toInt := by rw [q]
        rw [z_nI (by omega)] at this
        have e1 : (-1 : Int32).toInt = -1 := rfl
        omega
      · exact hKc 1 (by omega)
    rw [if_neg this, e]
    split
    · rw [if_neg (by decide)]
    · rw [if_neg (by decide)]
  · have hb := (h1.2.2.2.2 _ a).1
    rw [if_pos e, eJ, nI_l (by omega)]
    have hk : zK B n (zS B n j) = nI (B (zS B n j)) := by
      unfold zK
      rw [if_neg (by omega), if_neg (by rw [b1]; decide), if_neg (by rw [b2]; decide), if_pos b3]
    rw [hk]
    have e1 : lg_cmp (lN (B (zS B n j))) (lN c) = 0 ↔ B (zS B n j) = c := by rw [lg_eq0, lN_eq (by omega) (by omega)]
    have e2 : nI (B (zS B n j)) = nI c ↔ B (zS B n j) = c := nI_eq (by omega) (by omega)
    by_cases q : B (zS B n j) = c
    · rw [if_pos (e1.mpr q), if_pos (e2.mpr q)]
    · rw [if_neg (fun z => q (e1.mp z)), if_neg (fun z => q (e2.mp z))]
  · rw [e, if_neg (by decide)]
    have hk : zK B n (zS B n j) = -1 := by
      unfold zK
      rw [if_neg (by omega), if_neg (by rw [b1]; decide), if_neg (by rw [b2]; decide), if_neg (by rw [b3]; decide)]
    rw [hk, if_neg]
    intro q
    have : (-1 : Int32).toInt = (nI c).toInt := by rw [q]
    rw [z_nI (by omega)] at this
    have e1 : (-1 : Int32).toInt = -1 := rfl
    omega
theorem m_signD {θ : sv_T} {μ : sv_S} {c : Int32} (h : μ.1 0 25 = 1) : q_X8_isSign θ c μ = some (0, μ) := by
  unfold q_X8_isSign
  rw [h, if_neg (by decide)]
theorem m_wordD {θ : sv_T} {μ : sv_S} {a1 a2 a3 a4 a5 a6 a7 a8 : Int32} (h : μ.1 0 25 = 1) : q_X8_isWord θ a1 a2 a3 a4 a5 a6 a7 a8 μ = some (0, μ) := by
  unfold q_X8_isWord
  rw [h, if_neg (by decide)]
theorem m_isLetter {θ : sv_T} {t n s e i x : Nat} {B : Nat → Nat} {μ : sv_S} (h : mB μ t n B) (h1 : μ.1 0 22 = nI s) (h2 : μ.1 0 20 = nI e) (he : e ≤ n) (hs : s ≤ n) (hi : i < 8) (hx : x ≤ 255) :
    q_X8_isLetter θ (nI i) (nI x) μ = some (if (if s + i < e then B (s + i) = x else x = 0) then 1 else 0, μ) := by
  have hn := h.2.2.2.1
  unfold q_X8_isLetter
  rw [h1, h2, nI_add]
  by_cases hc : s + i < e
  · rw [if_neg (nI_ge hc (by omega)), m_byteAt h (by omega), zb]
    have ez : zby B n (s + i) = nI (B (s + i)) := by unfold zby; rw [if_pos (by omega)]
    rw [ez]
    have hb := (h.2.2.2.2 (s + i) (by omega)).1
    have ee : nI (B (s + i)) = nI x ↔ B (s + i) = x := nI_eq (by omega) (by omega)
    have hcond : (if s + i < e then B (s + i) = x else x = 0) ↔ B (s + i) = x := by rw [if_pos hc]
    by_cases q : B (s + i) = x
    · rw [if_pos (ee.mpr q), if_pos (hcond.mpr q)]
    · rw [if_neg (fun z => q (ee.mp z)), if_neg (fun z => q (hcond.mp z))]
  · rw [if_pos (nI_le (by omega) (by omega))]
    have ee : nI x = 0 ↔ x = 0 := by rw [show (0 : Int32) = nI 0 from rfl, nI_eq (by omega) (by omega)]
    have hcond : (if s + i < e then B (s + i) = x else x = 0) ↔ x = 0 := by rw [if_neg hc]
    by_cases q : x = 0
    · rw [if_pos (ee.mpr q), if_pos (hcond.mpr q)]
    · rw [if_neg (fun z => q (ee.mp z)), if_neg (fun z => q (hcond.mp z))]
/-- the number of the word at token j; 12 if there is none -/
def zWa (B : Nat → Nat) (n s : Nat) : Nat := if s < n ∧ zLe (B s) = true then zWd B s (zTe B n s - s) else 12
set_option maxHeartbeats 1000000 in
theorem m_isWord {θ : sv_T} {t n j o w : Nat} {B : Nat → Nat} {μ : sv_S} (h : mG μ t n B j o) (hw : w < 12) :
    q_X8_isWord θ (nI (zWl w 0)) (nI (zWl w 1)) (nI (zWl w 2)) (nI (zWl w 3)) (nI (zWl w 4)) (nI (zWl w 5)) (nI 0) (nI 0) μ = some (if zWa B n (zS B n j) = w then 1 else 0, μ) := by
  obtain ⟨h1, h2, h3, h4, h5, h6⟩ := h
  have hn := h1.2.2.2.1
  unfold q_X8_isWord zWa
  rw [if_pos h2]
  generalize hs : zS B n j = s at h4 h5 h6 ⊢
  rcases h6 with ⟨q, e⟩ | ⟨a, b, e, e2⟩ | ⟨a, b, e, -, -⟩ | ⟨a, b1, b2, b3, e, -, -⟩ | ⟨a, b1, b2, b3, e⟩
  · rw [e, if_neg (show ¬ (0 : Int32) = 1 by decide), if_neg (show ¬ (s < n ∧ zLe (B s) = true) from fun q2 => by omega), if_neg (show ¬ 12 = w by omega)]
  · have hte := zTe_gt (B := B) a
    have hwl : ∀ i, i < 6 → zWl w i ≤ 255 := by
      have key : ∀ k, k < 12 → ∀ i, i < 6 → zWl k i ≤ 255 := by decide +kernel
      exact key w hw
    have he2 : zTe B n s = zE zLe B n s := by unfold zTe; rw [if_neg (by omega), if_pos b]
    have hlet : ∀ i, s + i < zTe B n s → zLe (B (s + i)) = true := fun i hi => ((zE_spec zLe B n s).2.2.1 (s + i) (by omega) (by rw [← he2]; exact hi)).2
    have hnz : ∀ i, s + i < zTe B n s → B (s + i) ≠ 0 := fun i hi => by
      have := hlet i hi
      simp only [zLe, decide_eq_true_eq] at this
      omega
    rw [if_pos e, h4, e2, if_pos (show s < n ∧ zLe (B s) = true from ⟨a, b⟩)]
    have L : ∀ i x : Nat, i < 8 → x ≤ 255 → q_X8_isLetter θ (nI i) (nI x) μ = some (if (if s + i < zTe B n s then B (s + i) = x else x = 0) then 1 else 0, μ) := fun i x hi hx => m_isLetter h1 h4 e2 hte.2 (by omega) hi hx
    have L' : ∀ (i : Nat) (c : Int32) (x : Nat), c = nI i → i < 8 → x ≤ 255 → q_X8_isLetter θ c (nI x) μ = some (if (if s + i < zTe B n s then B (s + i) = x else x = 0) then 1 else 0, μ) := fun i c x hc hi hx => by rw [hc]; exact L i x hi hx
    have L0 := L' 0 (0 : Int32) (zWl w 0) rfl (by omega) (hwl 0 (by omega))
    have L1 := L' 1 (1 : Int32) (zWl w 1) rfl (by omega) (hwl 1 (by omega))
    have L2 := L' 2 (2 : Int32) (zWl w 2) rfl (by omega) (hwl 2 (by omega))
    have L3 := L' 3 (3 : Int32) (zWl w 3) rfl (by omega) (hwl 3 (by omega))
    have L4 := L' 4 (4 : Int32) (zWl w 4) rfl (by omega) (hwl 4 (by omega))
    have L5 := L' 5 (5 : Int32) (zWl w 5) rfl (by omega) (hwl 5 (by omega))
    have L6 := L' 6 (6 : Int32) 0 rfl (by omega) (by omega)
    have L7 := L' 7 (7 : Int32) 0 rfl (by omega) (by omega)
    have e8 : nI s + (8 : Int32) = nI (s + 8) := by rw [show (8 : Int32) = nI 8 from rfl, nI_add]
    have hiff := zWd_iff (B := B) (s := s) (len := zTe B n s - s) hw
    have conv : ∀ i, (if s + i < zTe B n s then B (s + i) = zWl w i else zWl w i = 0) ↔ (if i < zTe B n s - s then B (s + i) else 0) = zWl w i := fun i => by
      by_cases q : s + i < zTe B n s
      · rw [if_pos q, if_pos (by omega)]
      · rw [if_neg q, if_neg (by omega)]; exact eq_comm
    have e68 : (6 : Nat) < 8 := by omega
    by_cases h8 : s + 8 < zTe B n s
    · rw [e8, if_pos (show nI (s + 8) < nI (zTe B n s) from nI_lt h8 (by omega)), if_neg]
      intro q
      have := (hiff.mp q).1
      omega
    · rw [e8, if_neg (show ¬ nI (s + 8) < nI (zTe B n s) from nI_nlt (by omega) (by omega))]
      rw [L0, zb, z_r01, L1, zb, z_r01, L2, zb, z_r01, L3, zb, z_r01, L4, zb, z_r01, L5, zb, z_r01, L6, zb, z_r01, L7, zb, z_r01]
      by_cases hm : zMt B s (zTe B n s - s) w
      · rw [if_pos (hiff.mpr hm)]
        have c : ∀ i, i < 6 → (if s + i < zTe B n s then B (s + i) = zWl w i else zWl w i = 0) := fun i hi => (conv i).mpr (hm.2 i hi)
        have c0 := c 0 (by omega)
        rw [if_pos c0, if_pos (c 1 (by omega)), if_pos (c 2 (by omega)), if_pos (c 3 (by omega)), if_pos (c 4 (by omega)), if_pos (c 5 (by omega))]
        have hlen := hm.1
        have c6 : (if s + 6 < zTe B n s then B (s + 6) = 0 else (0 : Nat) = 0) := by rw [if_neg (by omega)]
        have c7 : (if s + 7 < zTe B n s then B (s + 7) = 0 else (0 : Nat) = 0) := by rw [if_neg (by omega)]
        rw [if_pos c6, if_pos c7]
      · rw [if_neg (fun q => hm (hiff.mp q))]
        by_cases c0 : (if s + 0 < zTe B n s then B (s + 0) = zWl w 0 else zWl w 0 = 0)
        · rw [if_pos c0]
          by_cases c1 : (if s + 1 < zTe B n s then B (s + 1) = zWl w 1 else zWl w 1 = 0)
          · rw [if_pos c1]
            by_cases c2 : (if s + 2 < zTe B n s then B (s + 2) = zWl w 2 else zWl w 2 = 0)
            · rw [if_pos c2]
              by_cases c3 : (if s + 3 < zTe B n s then B (s + 3) = zWl w 3 else zWl w 3 = 0)
              · rw [if_pos c3]
                by_cases c4 : (if s + 4 < zTe B n s then B (s + 4) = zWl w 4 else zWl w 4 = 0)
                · rw [if_pos c4]
                  by_cases c5 : (if s + 5 < zTe B n s then B (s + 5) = zWl w 5 else zWl w 5 = 0)
                  · rw [if_pos c5]
                    by_cases c6 : s + 6 < zTe B n s
                    · have c6n : ¬ (if s + 6 < zTe B n s then B (s + 6) = 0 else (0 : Nat) = 0) := by rw [if_pos c6]; exact hnz 6 c6
                      rw [if_neg c6n]
                    · exfalso
                      refine hm ⟨by omega, fun i hi => (conv i).mp ?_⟩
                      have : i = 0 ∨ i = 1 ∨ i = 2 ∨ i = 3 ∨ i = 4 ∨ i = 5 := by omega
                      rcases this with rfl | rfl | rfl | rfl | rfl | rfl <;> assumption
                  · rw [if_neg c5]
                · rw [if_neg c4]
              · rw [if_neg c3]
            · rw [if_neg c2]
          · rw [if_neg c1]
        · rw [if_neg c0]
  · have bl : ¬ (s < n ∧ zLe (B s) = true) := by intro q; simp only [zDi, zLe, decide_eq_true_eq] at b q; omega
    rw [e, if_neg bl, if_neg (show ¬ 12 = w by omega)]
    split
    · rw [if_neg (by decide)]
    · rw [if_neg (by decide)]
  · have bl : ¬ (s < n ∧ zLe (B s) = true) := fun q2 => by rw [b1] at q2; exact absurd q2.2 (by decide)
    rw [e, if_neg (show ¬ (3 : Int32) = 1 by decide), if_neg bl, if_neg (show ¬ 12 = w by omega)]
  · have bl : ¬ (s < n ∧ zLe (B s) = true) := fun q2 => by rw [b1] at q2; exact absurd q2.2 (by decide)
    rw [e, if_neg (show ¬ (4 : Int32) = 1 by decide), if_neg bl, if_neg (show ¬ 12 = w by omega)]

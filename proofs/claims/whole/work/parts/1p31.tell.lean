/-! ===== what a text's code tells ===== -/
def zJoin (s a b : Int32) : Int32 :=
  if s = 7 then (if a ≠ 0 ∧ b ≠ 0 then 1 else 0) else if s = 42 then a * b else if s = 43 then a + b else if s = 45 then a - b
  else if s = 60 then (if a < b then 1 else 0) else if s = 61 then (if a = b then 1 else 0) else (if a ≠ 0 ∨ b ≠ 0 then 1 else 0)
theorem z_joined {θ : sv_T} {s a b : Int32} {σ : sv_S} : q_X6_joined θ s a b σ = some (zJoin s a b, σ) := by
  have hle : b ≤ a ↔ ¬ a < b := by rw [z_le, z_lt]; omega
  unfold q_X6_joined zJoin
  simp only [hle]
  by_cases h7 : s = 7
  · simp only [h7, if_true]
    by_cases ha : a = 0 <;> by_cases hb : b = 0 <;> simp [ha, hb]
  · simp only [h7, if_false]
    by_cases h42 : s = 42
    · simp only [h42, if_true]
    · simp only [h42, if_false]
      by_cases h43 : s = 43
      · simp only [h43, if_true]
      · simp only [h43, if_false]
        by_cases h45 : s = 45
        · simp only [h45, if_true]
        · simp only [h45, if_false]
          by_cases h60 : s = 60
          · simp only [h60, if_true]
            by_cases hab : a < b <;> simp [hab]
          · simp only [h60, if_false]
            by_cases h61 : s = 61
            · simp only [h61, if_true]
              by_cases hab : a = b <;> simp [hab]
            · simp only [h61, if_false]
              by_cases ha : a = 0 <;> by_cases hb : b = 0 <;> simp [ha, hb]
def zSt (nm : Nat → Int32) (op : Int32) (l : List Int32) : Option (List Int32) :=
  if op < 0 then (if -100 < op then (if op = -9 then (match l with | a :: r => some (-a :: r) | [] => none)
    else if op = -8 then (match l with | a :: r => some ((if a = 0 then 1 else 0) :: r) | [] => none)
    else (match l with | b :: a :: r => some (zJoin (-op) a b :: r) | _ => none))
    else some (zat 6 nm (-100 - op) :: l))
  else some (op :: l)
def zRn (code nm : Nat → Int32) : Nat → Nat → List Int32 → Option (List Int32)
  | 0, _, l => some l
  | n + 1, i, l => match zSt nm (code i) l with
    | none => none
    | some l' => zRn code nm n (i + 1) l'
theorem zRn_add {code nm : Nat → Int32} : ∀ (a b i : Nat) (l : List Int32), zRn code nm (a + b) i l = match zRn code nm a i l with | none => none | some l' => zRn code nm b (i + a) l'
  | 0, b, i, l => by rw [Nat.zero_add]; rfl
  | a + 1, b, i, l => by
    rw [show a + 1 + b = (a + b) + 1 by omega]
    simp only [zRn]
    cases zSt nm (code i) l with
    | none => rfl
    | some l' =>
      show zRn code nm (a + b) (i + 1) l' = _
      rw [zRn_add a b (i + 1) l', show i + 1 + a = i + (a + 1) by omega]
theorem zRn_code {c1 c2 nm : Nat → Int32} : ∀ (n i : Nat) (l : List Int32), (∀ k, i ≤ k → k < i + n → c1 k = c2 k) → zRn c1 nm n i l = zRn c2 nm n i l
  | 0, i, l, _ => rfl
  | n + 1, i, l, h => by
    simp only [zRn]
    rw [h i (Nat.le_refl i) (by omega)]
    cases zSt nm (c2 i) l with
    | none => rfl
    | some l' => exact zRn_code n (i + 1) l' (fun k h1 h2 => h k (by omega) (by omega))
/-- the code from i on till j tells v -/
def zSg (code nm : Nat → Int32) (i j : Nat) (v : Int32) : Prop := i < j ∧ (∀ k, i ≤ k → k < j → code k ≠ -59) ∧ ∀ l, zRn code nm (j - i) i l = some (v :: l)
theorem zSg_code {c1 c2 nm : Nat → Int32} {i j : Nat} {v : Int32} (h : zSg c1 nm i j v) (hc : ∀ k, i ≤ k → k < j → c2 k = c1 k) : zSg c2 nm i j v :=
  ⟨h.1, fun k h1 h2 => by rw [hc k h1 h2]; exact h.2.1 k h1 h2, fun l => by rw [zRn_code (c2 := c1) _ _ _ (fun k h1 h2 => hc k h1 (by omega))]; exact h.2.2 l⟩
theorem zSg_one {code nm : Nat → Int32} {i : Nat} {v : Int32} (h59 : code i ≠ -59) (h : ∀ l, zSt nm (code i) l = some (v :: l)) : zSg code nm i (i + 1) v := by
  refine ⟨by omega, fun k h1 h2 => by rw [show k = i by omega]; exact h59, fun l => ?_⟩
  rw [show i + 1 - i = 0 + 1 by omega]
  simp only [zRn, h l]
theorem zSg_un {code nm : Nat → Int32} {i j : Nat} {v w : Int32} (h1 : zSg code nm i j v) (h59 : code j ≠ -59) (h : ∀ l, zSt nm (code j) (v :: l) = some (w :: l)) : zSg code nm i (j + 1) w := by
  obtain ⟨a1, a2, a3⟩ := h1
  refine ⟨by omega, fun k g1 g2 => ?_, fun l => ?_⟩
  · rcases Nat.lt_or_ge k j with q | q
    · exact a2 k g1 q
    · rw [show k = j by omega]; exact h59
  · rw [show j + 1 - i = (j - i) + 1 by omega, zRn_add, a3 l]
    show zRn code nm 1 (i + (j - i)) (v :: l) = _
    rw [show i + (j - i) = j by omega]
    simp only [zRn, h l]
theorem zSg_bin {code nm : Nat → Int32} {i j k : Nat} {v w x : Int32} (h1 : zSg code nm i j v) (h2 : zSg code nm j k w) (h59 : code k ≠ -59) (h : ∀ l, zSt nm (code k) (w :: v :: l) = some (x :: l)) : zSg code nm i (k + 1) x := by
  obtain ⟨a1, a2, a3⟩ := h1
  obtain ⟨b1, b2, b3⟩ := h2
  refine ⟨by omega, fun q g1 g2 => ?_, fun l => ?_⟩
  · rcases Nat.lt_or_ge q j with z | z
    · exact a2 q g1 z
    · rcases Nat.lt_or_ge q k with y | y
      · exact b2 q z y
      · rw [show q = k by omega]; exact h59
  · rw [show k + 1 - i = (j - i) + ((k - j) + 1) by omega, zRn_add, a3 l]
    show zRn code nm (k - j + 1) (i + (j - i)) (v :: l) = _
    rw [show i + (j - i) = j by omega, zRn_add, b3 (v :: l)]
    show zRn code nm 1 (j + (k - j)) (w :: v :: l) = _
    rw [show j + (k - j) = k by omega]
    simp only [zRn, h l]
/-- the stack's row holds a list, its top last -/
def zStk (f : Nat → Int32) : List Int32 → Prop
  | [] => True
  | a :: r => f r.length = a ∧ zStk f r
theorem zStk_same {f g : Nat → Int32} : ∀ (l : List Int32), (∀ x, x < l.length → g x = f x) → zStk f l → zStk g l
  | [], _, _ => trivial
  | a :: r, h, ⟨h1, h2⟩ => ⟨by rw [h r.length (by simp)]; exact h1, zStk_same r (fun x hx => h x (by simp; omega)) h2⟩
theorem zR_I {σ : sv_S} {b k : Nat} {v : Int32} {g : Nat → Int32} : sv_sR (sv_sI σ b k v) b g = sv_sR σ b g := by
  unfold sv_sR sv_sI
  congr 1
  funext a
  by_cases h : a = b
  · simp [sv_r, h]
  · simp only [sv_r, h, if_false]; exact sv_u_ne h
theorem zR_self {σ : sv_S} {b : Nat} : sv_sR σ b (σ.1 b) = σ := by
  unfold sv_sR
  have : sv_r σ.1 b (σ.1 b) = σ.1 := by
    funext a
    by_cases h : a = b
    · subst h; simp [sv_r]
    · simp [sv_r, h]
  rw [this]
theorem zI_ne {σ : sv_S} {i j a : Nat} {v : Int32} (h : a ≠ i) : (sv_sI σ i j v).1 a = σ.1 a := sv_u_ne h
theorem zI_at {σ : sv_S} {i j : Nat} {v : Int32} : (sv_sI σ i j v).1 i = fun b => if b = j then v else σ.1 i b := sv_u_self
theorem z_neg_nI {k : Nat} : nI (k + 1) - 1 = nI k := nI_pred k
theorem z_m1_nI {k : Nat} : nI (k + 1) + -1 = nI k := pk_m1 k
theorem z_m2_nI {k : Nat} : nI (k + 2) - 2 = nI k := by
  rw [show (2 : Int32) = nI 2 from rfl, pk_sub (by omega)]
  rfl
set_option maxHeartbeats 1000000 in
theorem z_tell_run {θ : sv_T} {kt b2 L : Nat} {a1 : Int32} (hL : sv_len θ (kt + 1) = L) (hL2 : L ≤ 160) (hS : sv_len θ (kt + 3) = 160) (hN : sv_len θ b2 = 6) (hb : b2 ≠ kt + 3) :
    ∀ (n i fuel : Nat) (l l' : List Int32) (σ : sv_S), i + n ≤ L → l.length + n ≤ 160 → (∀ k, i ≤ k → k < i + n → σ.1 (kt + 1) k ≠ -59) → zStk (σ.1 (kt + 3)) l → zRn (σ.1 (kt + 1)) (σ.1 b2) n i l = some l' →
      ∃ g, zStk g l' ∧ q_X6_tell_B25 θ kt a1 b2 (fuel + n) (nI l.length) (nI i) σ = q_X6_tell_B25 θ kt a1 b2 fuel (nI l'.length) (nI (i + n)) (sv_sR σ (kt + 3) g) := by
  intro n
  induction n with
  | zero =>
    intro i fuel l l' σ h1 h2 h3 h4 h5
    simp only [zRn, Option.some.injEq] at h5
    subst h5
    exact ⟨σ.1 (kt + 3), h4, by rw [zR_self]; rfl⟩
  | succ n ih =>
    intro i fuel l l' σ h1 h2 h3 h4 h5
    simp only [zRn] at h5
    have eL : (nI i).toInt = (i : Int) := z_nI (by omega)
    have c1 : ¬ nI i < 0 := nI_pos (by omega)
    have c2 : ¬ (Int32.ofNat (sv_len θ (kt + 1))) ≤ nI i := by rw [hL]; exact nI_ge (by omega) (by omega)
    have cl : (nI i).toNatClampNeg = i := nI_clamp (by omega)
    have c3 : ¬ (nI i < 0 ∨ sv_len θ (kt + 1) ≤ (nI i).toNatClampNeg) := by rw [cl, hL]; intro q; rcases q with q | q; exact c1 q; omega
    have c4 : σ.1 (kt + 1) i ≠ -59 := h3 i (Nat.le_refl i) (by omega)
    have hS3 : sv_len θ (kt + 3) < 2147483648 := by rw [hS]; omega
    have hN3 : sv_len θ b2 < 2147483648 := by rw [hN]; omega
    have step : ∀ (l1 : List Int32) (k : Nat) (v : Int32), zStk (sv_sI σ (kt + 3) k v |>.1 (kt + 3)) l1 → l1.length ≤ l.length + 1 → zRn (σ.1 (kt + 1)) (σ.1 b2) n (i + 1) l1 = some l' →
        ∃ g, zStk g l' ∧ q_X6_tell_B25 θ kt a1 b2 (fuel + n) (nI l1.length) (nI (i + 1)) (sv_sI σ (kt + 3) k v) = q_X6_tell_B25 θ kt a1 b2 fuel (nI l'.length) (nI (i + (n + 1))) (sv_sR σ (kt + 3) g) := by
      intro l1 k v g1 g2 g3
      have e1 : (sv_sI σ (kt + 3) k v).1 (kt + 1) = σ.1 (kt + 1) := zI_ne (by omega)
      have e2 : (sv_sI σ (kt + 3) k v).1 b2 = σ.1 b2 := zI_ne hb
      obtain ⟨g, q1, q2⟩ := ih (i + 1) fuel l1 l' (sv_sI σ (kt + 3) k v) (by omega) (by omega) (by rw [e1]; intro x y1 y2; exact h3 x (by omega) (by omega)) g1 (by rw [e1, e2]; exact g3)
      refine ⟨g, q1, ?_⟩
      rw [q2, zR_I, show i + 1 + n = i + (n + 1) by omega]
    have unf : q_X6_tell_B25 θ kt a1 b2 (fuel + (n + 1)) (nI l.length) (nI i) σ = q_X6_tell_B25_b θ kt a1 b2 (q_X6_tell_B25 θ kt a1 b2 (fuel + n)) (nI l.length) (nI i) σ := rfl
    rw [unf]
    unfold q_X6_tell_B25_b
    rw [if_neg c1, if_neg c2, if_neg c3, cl, if_neg c4, if_neg (show ¬ (nI i < 0 ∨ sv_len θ (kt + 1) ≤ i) from by rw [hL]; intro q; rcases q with q | q; exact c1 q; omega), zl]
    have i1 : nI i + 1 = nI (i + 1) := nI_1 i
    have put : ∀ (k : Nat) (v : Int32), k < 160 → q_X7_put θ (kt + 3) (nI k) v σ = some ((), sv_sI σ (kt + 3) k v) := fun k v hk => by
      rw [z_put hS3, hS, zput_nI hk (by omega)]
    have get : ∀ (k : Nat), k < 160 → q_X7_at θ (kt + 3) (nI k) σ = some (σ.1 (kt + 3) k, σ) := fun k hk => by
      rw [z_at hS3, hS, zat_nI hk (by omega)]
    unfold zSt at h5
    by_cases h0 : σ.1 (kt + 1) i < 0
    · rw [if_pos h0] at h5 ⊢
      by_cases h100 : -100 < σ.1 (kt + 1) i
      · rw [if_pos h100] at h5 ⊢
        by_cases h9 : σ.1 (kt + 1) i = -9
        · rw [if_pos h9] at h5 ⊢
          cases l with
          | nil => cases h5
          | cons a r =>
            simp only [List.length_cons] at h2 step ⊢
            rw [z_neg_nI, get _ (by omega), zb, put _ _ (by omega), zb, i1]
            have := step (-a :: r) r.length (-a) ⟨by rw [zI_at]; simp, zStk_same r (fun x hx => by rw [zI_at]; simp; omega) h4.2⟩ (by simp) h5
            rw [h4.1]
            exact this
        · rw [if_neg h9] at h5 ⊢
          by_cases h8 : σ.1 (kt + 1) i = -8
          · rw [if_pos h8] at h5 ⊢
            cases l with
            | nil => cases h5
            | cons a r =>
              simp only [List.length_cons] at h2 step ⊢
              rw [z_neg_nI, get _ (by omega), zb, h4.1]
              have h5 : zRn (σ.1 (kt + 1)) (σ.1 b2) n (i + 1) ((if a = 0 then 1 else 0) :: r) = some l' := h5
              by_cases ha : a = 0
              · rw [if_pos ha, put _ _ (by omega), zb, i1]
                rw [if_pos ha] at h5
                exact step (1 :: r) r.length 1 ⟨by rw [zI_at]; simp, zStk_same r (fun x hx => by rw [zI_at]; simp; omega) h4.2⟩ (by simp) h5
              · rw [if_neg ha, put _ _ (by omega), zb, i1]
                rw [if_neg ha] at h5
                exact step (0 :: r) r.length 0 ⟨by rw [zI_at]; simp, zStk_same r (fun x hx => by rw [zI_at]; simp; omega) h4.2⟩ (by simp) h5
          · rw [if_neg h8] at h5 ⊢
            cases l with
            | nil => cases h5
            | cons b r0 =>
             cases r0 with
             | nil => cases h5
             | cons a r =>
              simp only [List.length_cons] at h2 step ⊢
              rw [show r.length + 1 + 1 = r.length + 2 by omega, z_m2_nI, get _ (by omega), zb, show r.length + 2 = (r.length + 1) + 1 by omega, z_neg_nI, get _ (by omega), zb, z_joined, zb, put _ _ (by omega), zb, z_m1_nI, i1]
              have h41 : σ.1 (kt + 3) (r.length + 1) = b := h4.1
              have h42 : σ.1 (kt + 3) r.length = a := h4.2.1
              rw [h41, h42]
              exact step (zJoin (-σ.1 (kt + 1) i) a b :: r) r.length _ ⟨by rw [zI_at]; simp, zStk_same r (fun x hx => by rw [zI_at]; simp; omega) h4.2.2⟩ (by simp only [List.length_cons]; omega) h5
      · rw [if_neg h100] at h5 ⊢
        rw [z_at hN3, zb, put _ _ (by omega), zb, i1, hN, nI_1]
        exact step (_ :: l) l.length _ ⟨by rw [zI_at]; simp, zStk_same l (fun x hx => by rw [zI_at]; simp; omega) h4⟩ (by simp) h5
    · rw [if_neg h0] at h5 ⊢
      rw [put _ _ (by omega), zb, i1, nI_1]
      exact step (_ :: l) l.length _ ⟨by rw [zI_at]; simp, zStk_same l (fun x hx => by rw [zI_at]; simp; omega) h4⟩ (by simp) h5
/-- telling a part whose code runs from i to an end at j -/
theorem z_tell {θ : sv_T} {kt b2 L i j : Nat} {p v : Int32} {σ : sv_S} (hL : sv_len θ (kt + 1) = L) (hL2 : L ≤ 160) (hT : sv_len θ (kt + 2) = 3) (hS : sv_len θ (kt + 3) = 160) (hN : sv_len θ b2 = 6) (hb : b2 ≠ kt + 3) (hp : zat 3 (σ.1 (kt + 2)) p = nI i) (hj : j < L) (hend : σ.1 (kt + 1) j = -59) (hsg : zSg (σ.1 (kt + 1)) (σ.1 b2) i j v) :
    ∃ g, q_X6_tell θ kt p b2 σ = some (v, sv_sR σ (kt + 3) g) := by
  obtain ⟨h1, h2, h3⟩ := hsg
  obtain ⟨g, q1, q2⟩ := z_tell_run (a1 := p) hL hL2 hS hN hb (j - i) i (200 - (j - i)) [] [v] σ (by omega) (by simp; omega) (fun k a b => h2 k a (by omega)) trivial (h3 [])
  refine ⟨g, ?_⟩
  unfold q_X6_tell
  rw [z_at (by rw [hT]; omega), zb, hT, hp]
  have e0 : (0 : Int32) = nI ([] : List Int32).length := rfl
  rw [show sv_N = (200 - (j - i)) + (j - i) by unfold sv_N; omega, e0, q2, show i + (j - i) = j by omega]
  have e1 : 200 - (j - i) = (199 - (j - i)) + 1 := by omega
  rw [e1]
  show q_X6_tell_B25_b θ kt p b2 _ (nI 1) (nI j) (sv_sR σ (kt + 3) g) = _
  have cl : (nI j).toNatClampNeg = j := nI_clamp (by omega)
  have c1 : ¬ nI j < 0 := nI_pos (by omega)
  have c2 : ¬ (Int32.ofNat (sv_len θ (kt + 1))) ≤ nI j := by rw [hL]; exact nI_ge (by omega) (by omega)
  have c3 : ¬ (nI j < 0 ∨ sv_len θ (kt + 1) ≤ (nI j).toNatClampNeg) := by rw [cl, hL]; intro q; rcases q with q | q; exact c1 q; omega
  have e2 : (sv_sR σ (kt + 3) g).1 (kt + 1) = σ.1 (kt + 1) := sv_r_ne (by omega)
  have e3 : (sv_sR σ (kt + 3) g).1 (kt + 3) = g := by simp [sv_sR, sv_r]
  unfold q_X6_tell_B25_b
  rw [if_neg c1, if_neg c2, if_neg c3, cl, e2, if_pos hend, z_at (by rw [hS]; omega), zb, hS, show (0 : Int32) = nI 0 from rfl, zat_nI (by omega) (by omega), e3]
  have : g 0 = v := q1.1
  rw [this]

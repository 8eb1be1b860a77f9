/-! ===== tokens: what they are, and how the class scans them ===== -/
def zLe (c : Nat) : Bool := decide (97 ≤ c ∧ c ≤ 122)
def zDi (c : Nat) : Bool := decide (48 ≤ c ∧ c ≤ 57)
def zBl (c : Nat) : Bool := decide (c = 32 ∨ c = 10)
def zSi (c : Nat) : Bool := decide ((40 ≤ c ∧ c ≤ 43) ∨ c = 45 ∨ (59 ≤ c ∧ c ≤ 61))
/-- the first place from p on, n at last, where P ends -/
def zEf (P : Nat → Bool) (B : Nat → Nat) (n : Nat) : Nat → Nat → Nat
  | 0, p => p
  | k + 1, p => if p < n ∧ P (B p) = true then zEf P B n k (p + 1) else p
def zE (P : Nat → Bool) (B : Nat → Nat) (n p : Nat) : Nat := zEf P B n (n - p) p
theorem zE_yes {P : Nat → Bool} {B : Nat → Nat} {n p : Nat} (hp : p < n) (h : P (B p) = true) : zE P B n p = zE P B n (p + 1) := by
  unfold zE
  rw [show n - p = (n - (p + 1)) + 1 by omega]
  simp only [zEf]
  rw [if_pos ⟨hp, h⟩]
theorem zE_no {P : Nat → Bool} {B : Nat → Nat} {n p : Nat} (h : ¬ (p < n ∧ P (B p) = true)) : zE P B n p = p := by
  unfold zE
  cases hk : n - p with
  | zero => rfl
  | succ k => simp only [zEf]; rw [if_neg h]
theorem zEf_spec {P : Nat → Bool} {B : Nat → Nat} {n : Nat} : ∀ (k p : Nat), n - p ≤ k → p ≤ zEf P B n k p ∧ (p ≤ n → zEf P B n k p ≤ n) ∧ (∀ q, p ≤ q → q < zEf P B n k p → q < n ∧ P (B q) = true) ∧ ¬ (zEf P B n k p < n ∧ P (B (zEf P B n k p)) = true)
  | 0, p, h => ⟨Nat.le_refl _, fun h => h, fun q h1 h2 => by simp only [zEf] at h2; omega, fun h2 => by simp only [zEf] at h2; omega⟩
  | k + 1, p, h => by
    simp only [zEf]
    by_cases hc : p < n ∧ P (B p) = true
    · rw [if_pos hc]
      obtain ⟨h1, h2, h3, h4⟩ := zEf_spec (P := P) (B := B) (n := n) k (p + 1) (by omega)
      refine ⟨by omega, fun _ => h2 (by omega), fun q g1 g2 => ?_, h4⟩
      by_cases hq : q = p
      · subst hq; exact hc
      · exact h3 q (by omega) g2
    · rw [if_neg hc]
      exact ⟨Nat.le_refl _, fun h => h, fun q g1 g2 => by omega, hc⟩
theorem zE_spec (P : Nat → Bool) (B : Nat → Nat) (n p : Nat) : p ≤ zE P B n p ∧ (p ≤ n → zE P B n p ≤ n) ∧ (∀ q, p ≤ q → q < zE P B n p → q < n ∧ P (B q) = true) ∧ ¬ (zE P B n p < n ∧ P (B (zE P B n p)) = true) := zEf_spec (n - p) p (Nat.le_refl _)
theorem zE_congr {P : Nat → Bool} {B B' : Nat → Nat} {n : Nat} (h : ∀ q, q < n → B' q = B q) (p : Nat) : zE P B' n p = zE P B n p := by
  unfold zE
  generalize n - p = k
  induction k generalizing p with
  | zero => rfl
  | succ k ih =>
    simp only [zEf]
    by_cases hp : p < n
    · rw [h p hp, ih]
    · rw [if_neg (fun q => hp q.1), if_neg (fun q => hp q.1)]
/-- where the token ends that begins at s -/
def zTe (B : Nat → Nat) (n s : Nat) : Nat := if n ≤ s then n else if zLe (B s) = true then zE zLe B n s else if zDi (B s) = true then zE zDi B n s else s + 1
/-- the place of token j -/
def zS (B : Nat → Nat) (n : Nat) : Nat → Nat
  | 0 => zE zBl B n 0
  | j + 1 => zE zBl B n (zTe B n (zS B n j))
theorem zTe_gt {B : Nat → Nat} {n s : Nat} (h : s < n) : s < zTe B n s ∧ zTe B n s ≤ n := by
  unfold zTe
  rw [if_neg (by omega)]
  by_cases h1 : zLe (B s) = true
  · rw [if_pos h1, zE_yes h h1]
    have := zE_spec zLe B n (s + 1)
    exact ⟨by omega, this.2.1 (by omega)⟩
  · rw [if_neg h1]
    by_cases h2 : zDi (B s) = true
    · rw [if_pos h2, zE_yes h h2]
      have := zE_spec zDi B n (s + 1)
      exact ⟨by omega, this.2.1 (by omega)⟩
    · rw [if_neg h2]; omega
theorem zS_le {B : Nat → Nat} {n : Nat} : ∀ j, zS B n j ≤ n
  | 0 => (zE_spec zBl B n 0).2.1 (Nat.zero_le _)
  | j + 1 => by
    have ih := zS_le (B := B) (n := n) j
    refine (zE_spec zBl B n _).2.1 ?_
    rcases Nat.lt_or_ge (zS B n j) n with q | q
    · exact (zTe_gt q).2
    · unfold zTe; rw [if_pos q]; exact Nat.le_refl _
theorem zS_lt {B : Nat → Nat} {n j : Nat} (h : zS B n j < n) : zS B n j < zS B n (j + 1) := by
  have h1 := zTe_gt (B := B) h
  have h2 := (zE_spec zBl B n (zTe B n (zS B n j))).1
  show zS B n j < zE zBl B n (zTe B n (zS B n j))
  omega
theorem zS_ge {B : Nat → Nat} {n : Nat} : ∀ j, zS B n j < n → j ≤ zS B n j
  | 0, _ => Nat.zero_le _
  | j + 1, h => by
    rcases Nat.lt_or_ge (zS B n j) n with q | q
    · have := zS_ge j q
      have := zS_lt q
      omega
    · exfalso
      have e : zS B n (j + 1) = n := by
        show zE zBl B n (zTe B n (zS B n j)) = n
        have : zTe B n (zS B n j) = n := by unfold zTe; rw [if_pos q]
        rw [this, zE_no (by omega)]
      omega
/-- the words' letters: names, then keys; 0 where a word has none -/
def zWl (k i : Nat) : Nat := (([[114, 97, 105, 110], [104, 111, 117, 114], [110, 117, 109, 98, 101, 114], [100, 111, 110, 101], [115, 116, 114, 101, 101, 116], [119, 101, 115, 116], [110, 101, 101, 100, 115], [116, 97, 107, 101, 115], [118, 97, 108, 117, 101], [111, 114], [97, 110, 100], [110, 111, 116]] : List (List Nat)).getD k []).getD i 0
/-- the word of len letters from s on is word k -/
def zMt (B : Nat → Nat) (s len k : Nat) : Prop := len ≤ 6 ∧ ∀ i, i < 6 → (if i < len then B (s + i) else 0) = zWl k i
theorem zWl_one : ∀ k, k < 12 → ∀ k', k' < 12 → (∀ i, i < 6 → zWl k i = zWl k' i) → k = k' := by decide +kernel
theorem zMt_one {B : Nat → Nat} {s len k k' : Nat} (hk : k < 12) (hk' : k' < 12) (h : zMt B s len k) (h' : zMt B s len k') : k = k' := zWl_one k hk k' hk' (fun i hi => by rw [← h.2 i hi, h'.2 i hi])
def zMtb (B : Nat → Nat) (s len k : Nat) : Bool := decide (len ≤ 6) && (List.range 6).all (fun i => decide ((if i < len then B (s + i) else 0) = zWl k i))
theorem zMtb_iff {B : Nat → Nat} {s len k : Nat} : zMtb B s len k = true ↔ zMt B s len k := by
  unfold zMtb zMt
  simp only [Bool.and_eq_true, decide_eq_true_eq, List.all_eq_true, List.mem_range]
/-- which word stands there: its number, 12 if none -/
def zWdf (B : Nat → Nat) (s len : Nat) : Nat → Nat → Nat
  | 0, k => k
  | f + 1, k => if zMtb B s len k = true then k else zWdf B s len f (k + 1)
def zWd (B : Nat → Nat) (s len : Nat) : Nat := zWdf B s len 12 0
theorem zWdf_spec {B : Nat → Nat} {s len : Nat} : ∀ (f k : Nat), k ≤ zWdf B s len f k ∧ zWdf B s len f k ≤ k + f ∧ (∀ q, k ≤ q → q < zWdf B s len f k → ¬ zMt B s len q) ∧ (zWdf B s len f k < k + f → zMt B s len (zWdf B s len f k))
  | 0, k => ⟨Nat.le_refl _, Nat.le_refl _, fun q h1 h2 => by simp only [zWdf] at h2; omega, fun h => by simp only [zWdf] at h; omega⟩
  | f + 1, k => by
    simp only [zWdf]
    by_cases h : zMtb B s len k = true
    · rw [if_pos h]
      exact ⟨Nat.le_refl _, by omega, fun q h1 h2 => by omega, fun _ => zMtb_iff.mp h⟩
    · rw [if_neg h]
      obtain ⟨h1, h2, h3, h4⟩ := zWdf_spec (B := B) (s := s) (len := len) f (k + 1)
      refine ⟨by omega, by omega, fun q g1 g2 => ?_, fun g => h4 (by omega)⟩
      by_cases hq : q = k
      · subst hq; exact fun z => h (zMtb_iff.mpr z)
      · exact h3 q (by omega) g2
theorem zWd_iff {B : Nat → Nat} {s len k : Nat} (hk : k < 12) : zWd B s len = k ↔ zMt B s len k := by
  obtain ⟨h1, h2, h3, h4⟩ := zWdf_spec (B := B) (s := s) (len := len) 12 0
  constructor
  · intro h
    rw [← h]
    exact h4 (by unfold zWd at h; omega)
  · intro h
    rcases Nat.lt_or_ge (zWd B s len) 12 with q | q
    · exact zMt_one q hk (h4 (by unfold zWd at q; omega)) h
    · exact absurd h (h3 k (Nat.zero_le _) (by unfold zWd at q; omega))
/-- a number's worth: its first four digits at most -/
def zNv (B : Nat → Nat) (s : Nat) : Nat → Nat
  | 0 => 0
  | k + 1 => if k < 4 then 10 * zNv B s k + (B (s + k) - 48) else zNv B s k
/-- a token's code and meaning, as the class has them -/
def zK (B : Nat → Nat) (n s : Nat) : Int32 :=
  if n ≤ s then 0 else if zLe (B s) = true then (if zWd B s (zTe B n s - s) = 12 then -1 else if zWd B s (zTe B n s - s) < 6 then 2 else nI (zWd B s (zTe B n s - s) - 3))
  else if zDi (B s) = true then (if 4 < zTe B n s - s then -1 else 1) else if zSi (B s) = true then nI (B s) else -1
def zMn (B : Nat → Nat) (n s : Nat) : Int32 :=
  if n ≤ s then 0 else if zLe (B s) = true then (if zWd B s (zTe B n s - s) < 6 then -100 - nI (zWd B s (zTe B n s - s)) else 0)
  else if zDi (B s) = true then nI (zNv B s (zTe B n s - s)) else 0
/-! the class's reader -/
def xRd (σ : sv_S) (n : Nat) (B : Nat → Nat) : Prop := σ.1 13 0 = nI n ∧ n ≤ 160 ∧ ∀ p, p < n → B p ≤ 255 ∧ σ.1 14 p = nI (B p)
def zFr (S : Nat → Nat → Prop) (σ σ' : sv_S) : Prop := σ'.2 = σ.2 ∧ ∀ i j, ¬ S i j → σ'.1 i j = σ.1 i j
theorem zFr_rf {S : Nat → Nat → Prop} {σ : sv_S} : zFr S σ σ := ⟨rfl, fun _ _ _ => rfl⟩
theorem zFr_tr {S : Nat → Nat → Prop} {σ σ1 σ2 : sv_S} (h1 : zFr S σ σ1) (h2 : zFr S σ1 σ2) : zFr S σ σ2 := ⟨h2.1.trans h1.1, fun i j h => (h2.2 i j h).trans (h1.2 i j h)⟩
theorem zFr_w {S S' : Nat → Nat → Prop} {σ σ1 : sv_S} (h1 : zFr S σ σ1) (h : ∀ i j, S i j → S' i j) : zFr S' σ σ1 := ⟨h1.1, fun i j g => h1.2 i j (fun q => g (h i j q))⟩
theorem zFr_I {S : Nat → Nat → Prop} {σ : sv_S} {i j : Nat} {v : Int32} (h : S i j) : zFr S σ (sv_sI σ i j v) := by
  refine ⟨rfl, fun a b hab => ?_⟩
  show sv_u σ.1 i j v a b = σ.1 a b
  unfold sv_u
  by_cases h1 : a = i
  · rw [if_pos h1]
    by_cases h2 : b = j
    · subst h1; subst h2; exact absurd h hab
    · rw [if_neg h2]
  · rw [if_neg h1]
theorem zFr_R {S : Nat → Nat → Prop} {σ : sv_S} {i : Nat} {g : Nat → Int32} (h : ∀ j, S i j) : zFr S σ (sv_sR σ i g) := by
  refine ⟨rfl, fun a b hab => ?_⟩
  show sv_r σ.1 i g a b = σ.1 a b
  unfold sv_r
  by_cases h1 : a = i
  · subst h1; exact absurd (h b) hab
  · rw [if_neg h1]
theorem zI_v {σ : sv_S} {i j : Nat} {v : Int32} : (sv_sI σ i j v).1 i j = v := by simp [sv_sI, sv_u]
theorem zI_o {σ : sv_S} {i j a b : Nat} {v : Int32} (h : a ≠ i ∨ b ≠ j) : (sv_sI σ i j v).1 a b = σ.1 a b := by
  show sv_u σ.1 i j v a b = σ.1 a b
  unfold sv_u
  by_cases h1 : a = i
  · rw [if_pos h1, if_neg (fun q => by omega)]
  · rw [if_neg h1]
def zby (B : Nat → Nat) (n p : Nat) : Int32 := if p < n then nI (B p) else -1
theorem x_byteAt {θ : sv_T} {σ : sv_S} {n p : Nat} {B : Nat → Nat} (h : xRd σ n B) (hp : p < 2147483648) : q_X4_byteAt θ (nI p) σ = some (zby B n p, σ) := by
  obtain ⟨h1, h2, h3⟩ := h
  unfold q_X4_byteAt zby
  rw [if_neg (nI_pos hp), h1]
  by_cases hn : p < n
  · rw [if_neg (nI_ge hn (by omega)), if_neg (show ¬ (160 : Int32) ≤ nI p from nI_ge (b := 160) (by omega) (by omega)), nI_clamp hp]
    rw [if_neg (by intro q; rcases q with q | q; exact nI_pos hp q; omega), if_pos hn, (h3 p hn).2]
  · rw [if_pos (nI_le (by omega) hp), if_neg hn]
theorem x_isLetter {θ : sv_T} {σ : sv_S} {x : Int32} : q_X4_isLetter θ x σ = some (if 97 ≤ x.toInt ∧ x.toInt ≤ 122 then 1 else 0, σ) := by
  have e1 : (97 : Int32).toInt = 97 := rfl
  have e2 : (122 : Int32).toInt = 122 := rfl
  unfold q_X4_isLetter
  simp only [z_lt, e1, e2]
  by_cases h1 : x.toInt < 97
  · rw [if_pos h1, if_neg (by omega)]
  · rw [if_neg h1]
    by_cases h2 : 122 < x.toInt
    · rw [if_pos h2, if_neg (by omega)]
    · rw [if_neg h2, if_pos (by omega)]
theorem x_isDigit {θ : sv_T} {σ : sv_S} {x : Int32} : q_X4_isDigit θ x σ = some (if 48 ≤ x.toInt ∧ x.toInt ≤ 57 then 1 else 0, σ) := by
  have e1 : (48 : Int32).toInt = 48 := rfl
  have e2 : (57 : Int32).toInt = 57 := rfl
  unfold q_X4_isDigit
  simp only [z_lt, e1, e2]
  by_cases h1 : x.toInt < 48
  · rw [if_pos h1, if_neg (by omega)]
  · rw [if_neg h1]
    by_cases h2 : 57 < x.toInt
    · rw [if_pos h2, if_neg (by omega)]
    · rw [if_neg h2, if_pos (by omega)]
theorem x_isSign {θ : sv_T} {σ : sv_S} {c : Nat} (hc : c ≤ 255) : q_X4_isSign θ (nI c) σ = some (if zSi c = true then 1 else 0, σ) := by
  have e : (nI c).toInt = (c : Int) := z_nI (by omega)
  have e1 : (40 : Int32).toInt = 40 := rfl
  have e2 : (43 : Int32).toInt = 43 := rfl
  have e3 : (45 : Int32).toInt = 45 := rfl
  have e4 : (59 : Int32).toInt = 59 := rfl
  have e5 : (61 : Int32).toInt = 61 := rfl
  unfold q_X4_isSign q_X4_isSign_B12 zSi
  simp only [z_lt, z_le, z_eq, e, e1, e2, e3, e4, e5, decide_eq_true_eq]
  repeat' split
  all_goals first | rfl | omega
def zTok (σ : sv_S) (c : Nat) (t p m : Int32) : sv_S := sv_sI (sv_sI (sv_sI (sv_sI σ 15 c t) 16 c p) 17 c m) 13 6 (nI (c + 1))
theorem sx_L {θ : sv_T} {i t L : Nat} (h : θ.2 i = .inr (t, L)) : sv_len θ i = L := by simp [sv_len, h]
theorem x_addToken {θ : sv_T} (hB : sx_base θ) {σ : sv_S} {c : Nat} {t p m : Int32} (hc : σ.1 13 6 = nI c) (hc2 : c ≤ 160) : q_X4_addToken θ t p m σ = some ((), zTok σ c t p m) := by
  have l5 : sv_len θ 15 = 161 := sx_L (sx_c15 hB)
  have l6 : sv_len θ 16 = 161 := sx_L (sx_c16 hB)
  have l7 : sv_len θ 17 = 161 := sx_L (sx_c17 hB)
  unfold q_X4_addToken
  rw [z_put (by rw [l5]; omega), zb, l5, hc, zput_nI (by omega) (by omega)]
  have e1 : (sv_sI σ 15 c t).1 13 6 = nI c := by rw [zI_o (by omega)]; exact hc
  rw [z_put (by rw [l6]; omega), zb, l6, e1, zput_nI (by omega) (by omega)]
  have e2 : (sv_sI (sv_sI σ 15 c t) 16 c p).1 13 6 = nI c := by rw [zI_o (by omega)]; exact e1
  rw [z_put (by rw [l7]; omega), zb, l7, e2, zput_nI (by omega) (by omega)]
  have e3 : (sv_sI (sv_sI (sv_sI σ 15 c t) 16 c p) 17 c m).1 13 6 = nI c := by rw [zI_o (by omega)]; exact e2
  rw [e3, zl, nI_1]
  rfl

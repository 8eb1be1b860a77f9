/-! ===== pure rows: the small specs in closed form ===== -/
theorem zb {α β γ : Type} {a : α} {b : β} {f : α → β → Option γ} : sp_b (some (a, b)) f = f a b := rfl
theorem zl {α γ : Type} {a : α} {f : α → Option γ} : sp_l a f = f a := rfl
theorem zos {γ : Type} {v : Nat} {n : Option γ} {f : Nat → Option γ} : sp_o (some v) n f = f v := rfl
theorem zon {γ : Type} {n : Option γ} {f : Nat → Option γ} : sp_o none n f = n := rfl
theorem z_lt (a b : Int32) : a < b ↔ a.toInt < b.toInt := Int32.lt_iff_toInt_lt
theorem z_le (a b : Int32) : a ≤ b ↔ a.toInt ≤ b.toInt := Int32.le_iff_toInt_le
theorem z_eq (a b : Int32) : a = b ↔ a.toInt = b.toInt := Int32.toInt_inj.symm
theorem z_rng (x : Int32) : -2147483648 ≤ x.toInt ∧ x.toInt < 2147483648 := ⟨Int32.le_toInt x, Int32.toInt_lt x⟩
theorem z_cl (x : Int32) : x.toNatClampNeg = x.toInt.toNat := rfl
theorem z_nI {n : Nat} (h : n < 2147483648) : (nI n).toInt = (n : Int) := nI_toInt h
theorem z_bmod {z : Int} (h1 : -2147483648 ≤ z) (h2 : z < 2147483648) : z.bmod (2 ^ 32) = z := by
  rw [Int.bmod_def]
  omega
theorem z_add {x y : Int32} (h1 : -2147483648 ≤ x.toInt + y.toInt) (h2 : x.toInt + y.toInt < 2147483648) : (x + y).toInt = x.toInt + y.toInt := by
  rw [Int32.toInt_add]; exact z_bmod h1 h2
theorem z_sub {x y : Int32} (h1 : -2147483648 ≤ x.toInt - y.toInt) (h2 : x.toInt - y.toInt < 2147483648) : (x - y).toInt = x.toInt - y.toInt := by
  rw [Int32.toInt_sub]; exact z_bmod h1 h2
theorem z_mul {x y : Int32} (h1 : -2147483648 ≤ x.toInt * y.toInt) (h2 : x.toInt * y.toInt < 2147483648) : (x * y).toInt = x.toInt * y.toInt := by
  rw [Int32.toInt_mul]; exact z_bmod h1 h2
/-- a number that is known to be small and not below 0 -/
theorem z_of {x : Int32} {n : Nat} (h0 : 0 ≤ x.toInt) (h1 : x.toInt < n) : ∃ k : Nat, k < n ∧ x = nI k := by
  have hr := z_rng x
  refine ⟨x.toInt.toNat, by omega, ?_⟩
  rw [z_eq, z_nI (by omega)]
  omega
/-- what a row of L answers at i, 0 outside -/
def zat (L : Nat) (f : Nat → Int32) (i : Int32) : Int32 := if 0 ≤ i.toInt ∧ i.toInt < L then f i.toInt.toNat else 0
def zput (L : Nat) (σ : sv_S) (b : Nat) (i v : Int32) : sv_S := if 0 ≤ i.toInt ∧ i.toInt < L then sv_sI σ b i.toInt.toNat v else σ
theorem zat_nI {L k : Nat} {f : Nat → Int32} (hk : k < L) (hL : L < 2147483648) : zat L f (nI k) = f k := by
  unfold zat
  rw [z_nI (by omega), if_pos (by omega)]
  rfl
theorem zat_out {L k : Nat} {f : Nat → Int32} (hk : L ≤ k) (hL : k < 2147483648) : zat L f (nI k) = 0 := by
  unfold zat
  rw [z_nI (by omega), if_neg (by omega)]
theorem zat_neg {L : Nat} {f : Nat → Int32} {i : Int32} (h : i.toInt < 0) : zat L f i = 0 := by
  unfold zat
  rw [if_neg (by omega)]
theorem zput_nI {L k b : Nat} {σ : sv_S} {v : Int32} (hk : k < L) (hL : L < 2147483648) : zput L σ b (nI k) v = sv_sI σ b k v := by
  unfold zput
  rw [z_nI (by omega), if_pos (by omega)]
  rfl
theorem z_at {θ : sv_T} {b : Nat} {i : Int32} {σ : sv_S} (hL : sv_len θ b < 2147483648) : q_X7_at θ b i σ = some (zat (sv_len θ b) (σ.1 b) i, σ) := by
  have e : (Int32.ofNat (sv_len θ b)).toInt = (sv_len θ b : Int) := z_nI hL
  have h0 : (0 : Int32).toInt = 0 := rfl
  unfold q_X7_at zat
  simp only [z_lt, z_le, z_cl, e, h0]
  by_cases h1 : i.toInt < 0
  · rw [if_pos h1, if_neg (by omega)]
  · rw [if_neg h1]
    by_cases h2 : (sv_len θ b : Int) ≤ i.toInt
    · rw [if_pos h2, if_neg (by omega)]
    · rw [if_neg h2, if_neg (by omega), if_pos (by omega)]
theorem z_put {θ : sv_T} {b : Nat} {i v : Int32} {σ : sv_S} (hL : sv_len θ b < 2147483648) : q_X7_put θ b i v σ = some ((), zput (sv_len θ b) σ b i v) := by
  have e : (Int32.ofNat (sv_len θ b)).toInt = (sv_len θ b : Int) := z_nI hL
  have h0 : (0 : Int32).toInt = 0 := rfl
  unfold q_X7_put zput
  simp only [z_lt, z_le, z_cl, e, h0, zl]
  by_cases h1 : i.toInt < 0
  · rw [if_pos h1, if_neg (by omega)]
  · rw [if_neg h1]
    by_cases h2 : (sv_len θ b : Int) ≤ i.toInt
    · rw [if_pos h2, if_neg (by omega)]
    · rw [if_neg h2, if_neg (by omega), if_pos (by omega)]
def zbd (v a b : Int32) : Int32 := if a ≤ v then (if v ≤ b then v else b) else a
theorem z_bound {θ : sv_T} {v a b : Int32} {σ : sv_S} : q_X7_bound θ v a b σ = some (zbd v a b, σ) := by
  unfold q_X7_bound zbd
  by_cases h1 : a ≤ v
  · rw [if_pos h1, if_pos h1]
    by_cases h2 : v ≤ b
    · rw [if_pos h2, if_pos h2]
    · rw [if_neg h2, if_neg h2]
  · rw [if_neg h1, if_neg h1]
theorem z_within {θ : sv_T} {v a b : Int32} {σ : sv_S} (hab : a ≤ b) : q_X8_within θ v a b σ = some (zbd v a b, σ) := by
  unfold q_X8_within zbd
  rw [z_le] at hab
  simp only [z_le, z_lt]
  repeat' split
  all_goals first | rfl | omega | (exfalso; omega)
theorem z_cmp (x y : Int64) : lg_cmp x y = if x > y then 1 else if x = y then 0 else -1 := rfl
theorem z_in {θ : sv_T} {v a b : Int64} {σ : sv_S} : q_X8_in θ v a b σ = some (if a ≤ v ∧ v ≤ b then 1 else 0, σ) := by
  have c1 : lg_cmp v a < 0 ↔ v.toInt < a.toInt := by
    rw [z_cmp]
    have hh : (v > a ↔ a.toInt < v.toInt) := Int64.lt_iff_toInt_lt
    by_cases h : v > a
    · have h' := hh.mp h
      simp only [h, if_true]
      constructor
      · intro q; exact absurd q (by decide)
      · intro q; omega
    · have h' : ¬ a.toInt < v.toInt := fun q => h (hh.mpr q)
      simp only [h, if_false]
      by_cases h2 : v = a
      · subst h2
        simp only [if_true]
        constructor
        · intro q; exact absurd q (by decide)
        · intro q; omega
      · simp only [h2, if_false]
        have : v.toInt ≠ a.toInt := fun q => h2 (Int64.toInt_inj.mp q)
        constructor
        · intro _; omega
        · intro _; decide
  have c2 : 0 < lg_cmp v b ↔ b.toInt < v.toInt := by
    rw [z_cmp]
    have hh : (v > b ↔ b.toInt < v.toInt) := Int64.lt_iff_toInt_lt
    by_cases h : v > b
    · have h' := hh.mp h
      simp only [h, if_true]
      constructor
      · intro _; exact h'
      · intro _; decide
    · have h' : ¬ b.toInt < v.toInt := fun q => h (hh.mpr q)
      simp only [h, if_false]
      by_cases h2 : v = b
      · simp only [h2, if_true]
        constructor
        · intro q; exact absurd q (by decide)
        · intro q; omega
      · simp only [h2, if_false]
        constructor
        · intro q; exact absurd q (by decide)
        · intro q; omega
  unfold q_X8_in
  simp only [c1, c2, Int64.le_iff_toInt_le]
  by_cases h1 : v.toInt < a.toInt
  · rw [if_pos h1, if_neg (by omega)]
  · rw [if_neg h1]
    by_cases h2 : b.toInt < v.toInt
    · rw [if_pos h2, if_neg (by omega)]
    · rw [if_neg h2, if_pos (by omega)]
/-- in over ints that were widened -/
theorem z_inI {θ : sv_T} {v : Int32} {a b : Int64} {σ : sv_S} : q_X8_in θ v.toInt64 a b σ = some (if a.toInt ≤ v.toInt ∧ v.toInt ≤ b.toInt then 1 else 0, σ) := by
  rw [z_in]
  simp only [Int64.le_iff_toInt_le, Int32.toInt_toInt64]

/-! ===== the class's first text: by count ===== -/
def ev_T0 : sv_T := (42, sx_sh)
theorem ev_B0 : sx_base ev_T0 := ⟨Nat.le_refl _, fun i _ => rfl⟩
/-- the first text, three blanks behind it -/
def ev_by (p : Nat) : Nat := ([110, 101, 101, 100, 115, 32, 50, 32, 59, 32, 116, 97, 107, 101, 115, 32, 50, 32, 59, 32, 118, 97, 108, 117, 101, 32, 50, 48, 32, 45, 32, 104, 111, 117, 114, 32, 59, 32, 32, 32] : List Nat).getD p 0
def xr (i j : Nat) : Int32 := if 34 ≤ i ∧ i < 42 ∧ i % 2 = 0 ∧ j = 1 then -1 else 0
def xei (n i j : Nat) : Int32 := if i = 14 then (if j < n then nI (ev_by j) else 0) else if i = 13 ∧ j = 0 then nI n else xr i j
def xe (n : Nat) : sv_S := (xei n, xs21.2.1, xs21.2.2)
set_option maxHeartbeats 1000000 in
theorem xs21_i (i j : Nat) : xs21.1 i j = xr i j := by
  have e : ∀ (σ : sv_S) (a k : Nat) (v : Option Nat), (sv_sP σ a k v).1 = σ.1 := fun _ _ _ _ => rfl
  have e2 : ∀ (σ : sv_S) (a k : Nat) (v : Int32), (sv_sI σ a k v).1 = sv_u σ.1 a k v := fun _ _ _ _ => rfl
  simp only [xs21, xs20, xs19, xs18, xs17, xs16, xs15, xs14, xs13, xs12, xs11, xs10, xs9, xs8, xs7, xs6, xs5, xs4, xs3, xs2, xs1, xs0, xp_X5, xp_X3, xp_X0, xp_X4, xp_X2, e, e2, sv_u]
  unfold xr
  by_cases hj : j = 1
  · subst hj
    simp only [if_true, and_true]
    repeat' split
    all_goals first | rfl | omega
  · simp only [if_neg hj]
    repeat' split
    all_goals first | rfl | omega
theorem xe_0 : xe 0 = xs21 := by
  have : xei 0 = xs21.1 := by
    funext i j
    rw [xs21_i]
    unfold xei
    by_cases h1 : i = 14
    · subst h1
      rw [if_pos rfl, if_neg (by omega)]
      unfold xr
      rw [if_neg (by omega)]
    · rw [if_neg h1]
      by_cases h2 : i = 13 ∧ j = 0
      · obtain ⟨rfl, rfl⟩ := h2
        rw [if_pos ⟨rfl, rfl⟩]
        unfold xr
        rw [if_neg (by omega)]
        rfl
      · rw [if_neg h2]
  unfold xe
  rw [this]
theorem xe_i {n i j : Nat} (h1 : i ≠ 14) (h2 : ¬ (i = 13 ∧ j = 0)) : (xe n).1 i j = xr i j := by
  show xei n i j = _
  unfold xei
  rw [if_neg h1, if_neg h2]
theorem xe_0' {n i j : Nat} (h1 : i ≠ 14) (h2 : ¬ (i = 13 ∧ j = 0)) (h3 : ¬ (34 ≤ i ∧ i < 42 ∧ i % 2 = 0 ∧ j = 1)) : (xe n).1 i j = 0 := by
  rw [xe_i h1 h2]
  exact if_neg h3
theorem xe_R (n : Nat) (hn : n ≤ 40) : xRd (xe n) n ev_by := by
  refine ⟨rfl, by omega, fun p hp => ⟨?_, ?_⟩⟩
  · have : ∀ p : Nat, p < 40 → ev_by p ≤ 255 := by decide
    exact this p (by omega)
  · show xei n 14 p = _
    unfold xei
    rw [if_pos rfl, if_pos hp]
theorem xe_put {n : Nat} : sv_sI (sv_sI (xe n) 14 n (nI (ev_by n))) 13 0 (nI (n + 1)) = xe (n + 1) := by
  have : (sv_sI (sv_sI (xe n) 14 n (nI (ev_by n))) 13 0 (nI (n + 1))).1 = xei (n + 1) := by
    funext i j
    by_cases h13 : i = 13 ∧ j = 0
    · obtain ⟨rfl, rfl⟩ := h13
      exact zI_v
    · rw [zI_o (by omega)]
      by_cases h14 : i = 14
      · subst h14
        unfold xei
        rw [if_pos rfl]
        by_cases hj : j = n
        · subst hj
          rw [if_pos (by omega)]
          exact zI_v
        · rw [zI_o (by omega)]
          show xei n 14 j = _
          unfold xei
          rw [if_pos rfl]
          by_cases hj2 : j < n
          · rw [if_pos hj2, if_pos (by omega)]
          · rw [if_neg hj2, if_neg (by omega)]
      · rw [zI_o (by omega), xe_i h14 h13]
        unfold xei
        rw [if_neg h14, if_neg h13]
  show (_, _) = _
  rw [show xe (n + 1) = (xei (n + 1), xs21.2.1, xs21.2.2) from rfl, ← this]
  rfl
theorem xe_append {n : Nat} (hn : n < 160) : q_X4_append ev_T0 (nI (ev_by n)) (xe n) = some (1, xe (n + 1)) := by
  have l4 : sv_len ev_T0 14 = 160 := sx_L (sx_c14 ev_B0)
  have e : (xe n).1 13 0 = nI n := rfl
  unfold q_X4_append
  rw [e, if_pos (show nI n < (160 : Int32) from nI_lt (b := 160) hn (by omega)), z_put (by rw [l4]; omega), l4, zput_nI hn (by omega), zb, zl, zI_o (by omega), e, nI_1, xe_put]
theorem xe_len (σ : sv_S) : q_J0_length_8abf5 ev_T0 0 σ = some (nI 37, σ) := by
  have e : ((Int32.ofNat (sx_slen.getD 0 0)) >>> ((0 : Int32) &&& 31)) = nI 37 := by decide +kernel
  unfold q_J0_length_8abf5 q_J0_coder_7d493
  rw [zb, e]
set_option maxRecDepth 100000 in
theorem xe_chr {n : Nat} (hn : n < 37) (σ : sv_S) : q_J0_charAt_5068e ev_T0 0 (nI n) σ = some (nI (ev_by n), σ) := by
  have h1 : ∀ n : Nat, n < 37 → ¬ nI n < 0 ∧ nI n < Int32.ofNat (sx_slen.getD 0 0) ∧ ¬ (nI n < 0 ∨ (sx_slen.getD 0 0) ≤ (nI n).toNatClampNeg) ∧ (((((sx_sbyt.getD 0 []).getD (nI n).toNatClampNeg 0) &&& (255 : Int32)).toUInt32 % 65536).toInt32) = nI (ev_by n) ∧ (nI (ev_by n)).toUInt32.toUInt16.toUInt32.toInt32 = nI (ev_by n) := by decide +kernel
  obtain ⟨a1, a2, a3, a4, a5⟩ := h1 n hn
  unfold q_J0_charAt_5068e q_J0_isLatin1_aae02 q_J1_charAt_3b067 q_J0_checkIndex_df160 q_J3_checkIndex_8e157
  rw [zb, if_neg n10, if_neg a1, if_pos a2, zb, zb, if_neg a3, zl, a4, if_pos a5, zb, if_pos a5]
def ev_ok (o : Option (Int32 × sv_S)) : Bool := match o with
  | none => false
  | some (r, σ) => decide (r = 1 ∧ σ.1 13 10 = 8 ∧ σ.1 19 0 = 0 ∧ σ.1 19 1 = 2 ∧ σ.1 19 2 = 4 ∧ σ.1 18 0 = 2 ∧ σ.1 18 1 = -59 ∧ σ.1 18 2 = 2 ∧ σ.1 18 3 = -59 ∧ σ.1 18 4 = 20 ∧ σ.1 18 5 = -101 ∧ σ.1 18 6 = -45 ∧ σ.1 18 7 = -59)
set_option maxRecDepth 100000 in
theorem ev_37 : ev_ok (q_X4_read ev_T0 (xe 37)) = true := by decide +kernel
set_option maxRecDepth 100000 in
theorem ev_40 : ev_ok (q_X4_read ev_T0 (xe 40)) = true := by decide +kernel
/-- what the first text tells -/
def f0 (p : Nat) (nm : Nat → Int32) : Int32 := if p = 0 then 2 else if p = 1 then 2 else 20 - nm 1
theorem f0_sg {code nm : Nat → Int32} (c0 : code 0 = 2) (c2 : code 2 = 2) (c4 : code 4 = 20) (c5 : code 5 = -101) (c6 : code 6 = -45) {p : Nat} (hp : p < 3) : zSg code nm (2 * p) (if p = 2 then 7 else 2 * p + 1) (f0 p nm) := by
  have hp3 : p = 0 ∨ p = 1 ∨ p = 2 := by omega
  rcases hp3 with rfl | rfl | rfl
  · exact zSg_one (by rw [c0]; decide) (fun l => by rw [c0]; rfl)
  · exact zSg_one (by rw [c2]; decide) (fun l => by rw [c2]; rfl)
  · have s1 : zSg code nm 4 5 20 := zSg_one (by rw [c4]; decide) (fun l => by rw [c4]; rfl)
    have s2 : zSg code nm 5 6 (nm 1) := zSg_one (by rw [c5]; decide) (fun l => by
      rw [c5]
      show some (zat 6 nm (nI 1) :: l) = _
      rw [zat_nI (by omega) (by omega)])
    exact zSg_bin s1 s2 (by rw [c6]; decide) (fun l => by rw [c6]; rfl)
theorem xe_read {n : Nat} (θm : sv_T) (hn : n ≤ 40) (hev : ev_ok (q_X4_read ev_T0 (xe n)) = true) : ∃ σ7, q_X4_read ev_T0 (xe n) = some (1, σ7) ∧ zFr zRdF (xe n) σ7 ∧ σ7.1 13 0 = 0 ∧ σ7.1 13 10 = 8 ∧ (∀ p, p < 3 → σ7.1 19 p = nI (2 * p)) ∧ (∀ p, p < 3 → σ7.1 18 (if p = 2 then 7 else 2 * p + 1) = -59 ∧ ∀ nm, zSg (σ7.1 18) nm (2 * p) (if p = 2 then 7 else 2 * p + 1) (f0 p nm)) ∧ ∃ f, (∀ p nm, p < 3 → f p nm = f0 p nm) ∧ zGood σ7 θm 0 n ev_by f := by
  obtain ⟨r, σ7, g1, g2, g3, g4⟩ := x_read (θm := θm) 0 ev_B0 (xe_R n hn)
  rw [g1] at hev
  obtain ⟨rfl, h10, s0, s1, s2, c0, c1, c2, c3, c4, c5, c6, c7⟩ := of_decide_eq_true hev
  have hsg : ∀ p nm, p < 3 → zSg (σ7.1 18) nm (2 * p) (if p = 2 then 7 else 2 * p + 1) (f0 p nm) := fun p nm hp => f0_sg c0 c2 c4 c5 c6 hp
  have hst : ∀ p, p < 3 → σ7.1 19 p = nI (2 * p) := fun p hp => by
    have hp3 : p = 0 ∨ p = 1 ∨ p = 2 := by omega
    rcases hp3 with rfl | rfl | rfl
    · exact s0
    · exact s1
    · exact s2
  refine ⟨σ7, g1, g2, g3, h10, hst, fun p hp => ⟨?_, fun nm => hsg p nm hp⟩, ?_⟩
  · have hp3 : p = 0 ∨ p = 1 ∨ p = 2 := by omega
    rcases hp3 with rfl | rfl | rfl
    · exact c1
    · exact c3
    · exact c7
  · rcases g4 with ⟨-, f, hg⟩ | ⟨q, -⟩
    · refine ⟨f, fun p nm hp => ?_, hg⟩
      obtain ⟨⟨L, l1, l2, l3⟩, -⟩ := hg
      obtain ⟨st, e, q1, q2, q3, q4⟩ := l3 p hp
      have z1 := q4 nm
      have z2 := f0_sg (nm := nm) c0 c2 c4 c5 c6 hp
      have hc0 : σ7.1 18 (if p = 2 then 7 else 2 * p + 1) = -59 := by
        have hp3 : p = 0 ∨ p = 1 ∨ p = 2 := by omega
        rcases hp3 with rfl | rfl | rfl
        · exact c1
        · exact c3
        · exact c7
      have hst2 : st = 2 * p := by
        have := z1.1
        rw [hst p hp] at q1
        exact ((nI_eq (by omega) (by omega)).mp q1).symm
      subst hst2
      have he : e = (if p = 2 then 7 else 2 * p + 1) := by
        rcases Nat.lt_trichotomy e (if p = 2 then 7 else 2 * p + 1) with q | q | q
        · exact absurd q3 (z2.2.1 e (Nat.le_of_lt z1.1) q)
        · exact q
        · exact absurd hc0 (z1.2.1 _ (Nat.le_of_lt z2.1) q)
      subst he
      exact zSg_det z1 z2 (fun _ _ => rfl)
    · exact absurd q (by decide)

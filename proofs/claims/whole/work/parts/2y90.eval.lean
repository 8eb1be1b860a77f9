/-! ===== the first text, read: by count ===== -/
def ev_T0 : sv_T := (42, sx_sh)
theorem ev_B0 : sx_base ev_T0 := ⟨Nat.le_refl _, fun i _ => rfl⟩
/-- the first text, three blanks behind it -/
def ev_by (p : Nat) : Nat := ([110, 101, 101, 100, 115, 32, 50, 32, 59, 32, 116, 97, 107, 101, 115, 32, 50, 32, 59, 32, 118, 97, 108, 117, 101, 32, 50, 48, 32, 45, 32, 104, 111, 117, 114, 32, 59, 32, 32, 32] : List Nat).getD p 0
def ev_I (n : Nat) (i j : Nat) : Int32 := if i = 14 then (if j < n then nI (ev_by j) else 0) else if i = 13 ∧ j = 0 then nI n else 0
def ev_S (n : Nat) : sv_S := (ev_I n, fun _ _ => 0, fun _ _ => none)
def ev_ok (o : Option (Int32 × sv_S)) : Bool := match o with
  | none => false
  | some (r, σ) => decide (r = 1 ∧ σ.1 19 0 = 0 ∧ σ.1 19 1 = 2 ∧ σ.1 19 2 = 4 ∧ σ.1 18 0 = 2 ∧ σ.1 18 1 = -59 ∧ σ.1 18 2 = 2 ∧ σ.1 18 3 = -59 ∧ σ.1 18 4 = 20 ∧ σ.1 18 5 = -101 ∧ σ.1 18 6 = -45 ∧ σ.1 18 7 = -59)
set_option maxRecDepth 100000 in
theorem ev_37 : ev_ok (q_X4_read ev_T0 (ev_S 37)) = true := by decide +kernel
set_option maxRecDepth 100000 in
theorem ev_40 : ev_ok (q_X4_read ev_T0 (ev_S 40)) = true := by decide +kernel

def q_X7_at (θ : sv_T) (b1 : Nat) (a2 : Int32) (σ : sv_S) : Option (Int32 × sv_S) :=
 if a2 < 0 then
 (some ((0 : Int32), σ))
 else
 if (Int32.ofNat (sv_len θ b1)) ≤ a2 then
 (some ((0 : Int32), σ))
 else
 if (a2 < 0 ∨ (sv_len θ b1) ≤ a2.toNatClampNeg) then none else
 some ((σ.1 b1 a2.toNatClampNeg), σ)
def q_X7_put (θ : sv_T) (b1 : Nat) (a2 : Int32) (a3 : Int32) (σ : sv_S) : Option (Unit × sv_S) :=
 if a2 < 0 then
 (some ((), σ))
 else
 if (Int32.ofNat (sv_len θ b1)) ≤ a2 then
 (some ((), σ))
 else
 if (a2 < 0 ∨ (sv_len θ b1) ≤ a2.toNatClampNeg) then none else
 sp_l (sv_sI σ b1 a2.toNatClampNeg a3) (fun σ4 =>
 some ((), σ4))
def q_X0_regard (θ : sv_T) (kc : Nat) (a2 : Int32) (a3 : Int32) (σ : sv_S) : Option (Unit × sv_S) :=
 sp_b (q_X7_at θ 3 a2 σ) (fun r1 σ2 =>
 sp_l (sv_sI σ2 kc 1 r1) (fun σ3 =>
 sp_l (sv_sP σ3 kc 2 (σ3.2.2 1 7)) (fun σ4 =>
 sp_b (q_X7_at θ 5 a2 σ4) (fun r5 σ6 =>
 sp_l (sv_sI σ6 kc 3 r5) (fun σ7 =>
 sp_b (q_X7_at θ 4 a2 σ7) (fun r8 σ9 =>
 sp_b (q_X7_put θ (kc + 1) (2 : Int32) r8 σ9) (fun r10 σ11 =>
 sp_b (q_X7_put θ (kc + 1) (3 : Int32) a3 σ11) (fun r12 σ13 =>
 sp_b (q_X7_put θ (kc + 1) (4 : Int32) (σ13.1 kc 3) σ13) (fun r14 σ15 =>
 sp_b (q_X7_put θ (kc + 1) (5 : Int32) (σ15.1 1 5) σ15) (fun r16 σ17 =>
 some ((), σ17)))))))))))
def q_X0_rainIn (θ : sv_T) (kc : Nat) (b1 : Nat) (a2 : Int32) (σ : sv_S) : Option (Int32 × sv_S) :=
 sp_l (((σ.1 kc 3) * (24 : Int32)) + a2) (fun v1 =>
 if a2 < 0 then
 (some ((0 : Int32), σ))
 else
 if (24 : Int32) ≤ a2 then
 (some ((0 : Int32), σ))
 else
 if v1 < 0 then
 (some ((0 : Int32), σ))
 else
 if (Int32.ofNat (sv_len θ b1)) ≤ v1 then
 (some ((0 : Int32), σ))
 else
 if (v1 < 0 ∨ (sv_len θ b1) ≤ v1.toNatClampNeg) then none else
 some ((σ.1 b1 v1.toNatClampNeg), σ))
def q_X0_see (θ : sv_T) (kc : Nat) (b1 : Nat) (a2 : Int32) (σ : sv_S) : Option (Unit × sv_S) :=
 sp_b (q_X0_rainIn θ kc b1 a2 σ) (fun r1 σ2 =>
 sp_b (q_X7_put θ (kc + 1) (0 : Int32) r1 σ2) (fun r3 σ4 =>
 sp_b (q_X7_put θ (kc + 1) (1 : Int32) a2 σ4) (fun r5 σ6 =>
 some ((), σ6))))
def q_X6_joined (θ : sv_T) (a1 : Int32) (a2 : Int32) (a3 : Int32) (σ : sv_S) : Option (Int32 × sv_S) :=
 if a1 = 7 then
 (if a2 = 0 then
 (some ((0 : Int32), σ))
 else
 if a3 = 0 then
 (some ((0 : Int32), σ))
 else
 some ((1 : Int32), σ))
 else
 if a1 = 42 then
 (some ((a2 * a3), σ))
 else
 if a1 = 43 then
 (some ((a2 + a3), σ))
 else
 if a1 = 45 then
 (some ((a2 - a3), σ))
 else
 if a1 = 60 then
 (if a3 ≤ a2 then
 (some ((0 : Int32), σ))
 else
 some ((1 : Int32), σ))
 else
 if a1 = 61 then
 (if a2 = a3 then
 (some ((1 : Int32), σ))
 else
 some ((0 : Int32), σ))
 else
 if a2 = 0 then
 (if a3 = 0 then
 (some ((0 : Int32), σ))
 else
 some ((1 : Int32), σ))
 else
 some ((1 : Int32), σ)
def q_X6_tell_B25_b (θ : sv_T) (kt : Nat) (a1 : Int32) (b2 : Nat)  (rec : Int32 → Int32 → sv_S → Option (Int32 × sv_S)) (x3 : Int32) (x4 : Int32) (σ : sv_S) : Option (Int32 × sv_S) :=
 if x4 < 0 then
 (sp_b (q_X7_at θ (kt + 3) (0 : Int32) σ) (fun r4 σ5 =>
 some (r4, σ5)))
 else
 if (Int32.ofNat (sv_len θ (kt + 1))) ≤ x4 then
 (sp_b (q_X7_at θ (kt + 3) (0 : Int32) σ) (fun r7 σ8 =>
 some (r7, σ8)))
 else
 if (x4 < 0 ∨ (sv_len θ (kt + 1)) ≤ x4.toNatClampNeg) then none else
 if (σ.1 (kt + 1) x4.toNatClampNeg) = (-59 : Int32) then
 (sp_b (q_X7_at θ (kt + 3) (0 : Int32) σ) (fun r11 σ12 =>
 some (r11, σ12)))
 else
 if (x4 < 0 ∨ (sv_len θ (kt + 1)) ≤ x4.toNatClampNeg) then none else
 sp_l (σ.1 (kt + 1) x4.toNatClampNeg) (fun v14 =>
 if v14 < 0 then
 (if (-100 : Int32) < v14 then
 (if v14 = (-9 : Int32) then
 (sp_b (q_X7_at θ (kt + 3) (x3 - (1 : Int32)) σ) (fun r38 σ39 =>
 sp_b (q_X7_put θ (kt + 3) (x3 - (1 : Int32)) (-r38) σ39) (fun r40 σ41 =>
 sp_l (x4 + 1) (fun v42 =>
 rec x3 v42 σ41))))
 else
 if v14 = (-8 : Int32) then
 (sp_b (q_X7_at θ (kt + 3) (x3 - (1 : Int32)) σ) (fun r29 σ30 =>
 if r29 = 0 then
 (sp_b (q_X7_put θ (kt + 3) (x3 - (1 : Int32)) (1 : Int32) σ30) (fun r35 σ36 =>
 sp_l (x4 + 1) (fun v37 =>
 rec x3 v37 σ36)))
 else
 sp_b (q_X7_put θ (kt + 3) (x3 - (1 : Int32)) (0 : Int32) σ30) (fun r32 σ33 =>
 sp_l (x4 + 1) (fun v34 =>
 rec x3 v34 σ33))))
 else
 sp_b (q_X7_at θ (kt + 3) (x3 - (2 : Int32)) σ) (fun r19 σ20 =>
 sp_b (q_X7_at θ (kt + 3) (x3 - (1 : Int32)) σ20) (fun r21 σ22 =>
 sp_b (q_X6_joined θ (-v14) r19 r21 σ22) (fun r23 σ24 =>
 sp_b (q_X7_put θ (kt + 3) (x3 - (2 : Int32)) r23 σ24) (fun r25 σ26 =>
 sp_l (x3 + (-1)) (fun v27 =>
 sp_l (x4 + 1) (fun v28 =>
 rec v27 v28 σ26)))))))
 else
 sp_b (q_X7_at θ b2 ((-100 : Int32) - v14) σ) (fun r43 σ44 =>
 sp_b (q_X7_put θ (kt + 3) x3 r43 σ44) (fun r45 σ46 =>
 sp_l (x3 + 1) (fun v47 =>
 sp_l (x4 + 1) (fun v48 =>
 rec v47 v48 σ46)))))
 else
 sp_b (q_X7_put θ (kt + 3) x3 v14 σ) (fun r49 σ50 =>
 sp_l (x3 + 1) (fun v51 =>
 sp_l (x4 + 1) (fun v52 =>
 rec v51 v52 σ50))))
def q_X6_tell_B25 (θ : sv_T) (kt : Nat) (a1 : Int32) (b2 : Nat)  : Nat → Int32 → Int32 → sv_S → Option (Int32 × sv_S)
  | 0 => fun _ _ _ => none
  | n + 1 => q_X6_tell_B25_b θ kt a1 b2 (q_X6_tell_B25 θ kt a1 b2 n)
def q_X6_tell (θ : sv_T) (kt : Nat) (a1 : Int32) (b2 : Nat) (σ : sv_S) : Option (Int32 × sv_S) :=
 sp_b (q_X7_at θ (kt + 2) a1 σ) (fun r1 σ2 =>
 q_X6_tell_B25 θ kt a1 b2 sv_N (0 : Int32) r1 σ2)
def q_X7_bound (θ : sv_T) (a1 : Int32) (a2 : Int32) (a3 : Int32) (σ : sv_S) : Option (Int32 × sv_S) :=
 if a2 ≤ a1 then
 (if a1 ≤ a3 then
 (some (a1, σ))
 else
 some (a3, σ))
 else
 some (a2, σ)
def q_X1_needs (θ : sv_T) (a1 : Int32) (a2 : Int32) (a3 : Int32) (σ : sv_S) : Option (Int32 × sv_S) :=
 if a1 = 1 then
 (some ((a2 / (2 : Int32)), σ))
 else
 if a1 = 2 then
 (some ((a2 + (2 : Int32)), σ))
 else
 if a1 = 3 then
 (some ((a2 / (2 : Int32)), σ))
 else
 if a1 = 4 then
 (some (((a2 + (2 : Int32)) + (a3 / (3 : Int32))), σ))
 else
 if a1 = 5 then
 (some ((1 : Int32), σ))
 else
 some (a2, σ)
def q_X0_needs_B29 (θ : sv_T) (kc : Nat)  (w0 : Int32) (σ : sv_S) : Option (Int32 × sv_S) :=
 sp_b (q_X7_at θ (kc + 1) (2 : Int32) σ) (fun r2 σ3 =>
 sp_b (q_X1_needs θ (σ.1 kc 1) w0 r2 σ3) (fun r4 σ5 =>
 sp_b (q_X7_bound θ r4 (1 : Int32) (9 : Int32) σ5) (fun r6 σ7 =>
 some (r6, σ7))))
def q_X0_needs (θ : sv_T) (kc : Nat) (σ : sv_S) : Option (Int32 × sv_S) :=
 sp_o (σ.2.2 kc 2)
 (q_X0_needs_B29 θ kc (0 : Int32) σ)
 (fun t1 => if sv_oX6 θ t1 then
 (sp_b (q_X6_tell θ t1 (0 : Int32) (kc + 1) σ) (fun r8 σ9 =>
 sp_b (q_X7_bound θ r8 (0 : Int32) (9 : Int32) σ9) (fun r10 σ11 =>
 q_X0_needs_B29 θ kc r10 σ11)))
 else none)
def q_X1_takes (θ : sv_T) (a1 : Int32) (a2 : Int32) (a3 : Int32) (σ : sv_S) : Option (Int32 × sv_S) :=
 if a1 = 1 then
 (some ((a2 - (1 : Int32)), σ))
 else
 if a1 = 2 then
 (some ((a2 * (2 : Int32)), σ))
 else
 if a1 = 3 then
 (some (((a2 - (1 : Int32)) + (a3 - a3 / (3 : Int32) * (3 : Int32))), σ))
 else
 if a1 = 4 then
 (some ((a2 * (2 : Int32)), σ))
 else
 if a1 = 5 then
 (some ((1 : Int32), σ))
 else
 some (a2, σ)
def q_X0_takes_B29 (θ : sv_T) (kc : Nat)  (w0 : Int32) (σ : sv_S) : Option (Int32 × sv_S) :=
 sp_b (q_X7_at θ (kc + 1) (2 : Int32) σ) (fun r2 σ3 =>
 sp_b (q_X1_takes θ (σ.1 kc 1) w0 r2 σ3) (fun r4 σ5 =>
 sp_b (q_X7_bound θ r4 (1 : Int32) (24 : Int32) σ5) (fun r6 σ7 =>
 some (r6, σ7))))
def q_X0_takes (θ : sv_T) (kc : Nat) (σ : sv_S) : Option (Int32 × sv_S) :=
 sp_o (σ.2.2 kc 2)
 (q_X0_takes_B29 θ kc (0 : Int32) σ)
 (fun t1 => if sv_oX6 θ t1 then
 (sp_b (q_X6_tell θ t1 (1 : Int32) (kc + 1) σ) (fun r8 σ9 =>
 sp_b (q_X7_bound θ r8 (0 : Int32) (24 : Int32) σ9) (fun r10 σ11 =>
 q_X0_takes_B29 θ kc r10 σ11)))
 else none)
def q_X1_worth (θ : sv_T) (a1 : Int32) (a2 : Int32) (a3 : Int32) (a4 : Int32) (σ : sv_S) : Option (Int32 × sv_S) :=
 if a1 = 2 then
 (some ((a2 + (10 : Int32)), σ))
 else
 if a1 = 3 then
 (some ((a2 - (a4 * (2 : Int32))), σ))
 else
 if a1 = 4 then
 (if a4 < (12 : Int32) then
 (some ((a2 + (10 : Int32)), σ))
 else
 some (((a2 + (10 : Int32)) * (2 : Int32)), σ))
 else
 if a1 = 5 then
 (if (3 : Int32) ≤ a4 then
 (some ((0 : Int32), σ))
 else
 some (a3, σ))
 else
 some (a2, σ)
def q_X0_worth_B29 (θ : sv_T) (kc : Nat)  (w0 : Int32) (σ : sv_S) : Option (Int32 × sv_S) :=
 sp_b (q_X7_at θ (kc + 1) (2 : Int32) σ) (fun r2 σ3 =>
 sp_b (q_X7_at θ (kc + 1) (1 : Int32) σ3) (fun r4 σ5 =>
 sp_b (q_X1_worth θ (σ.1 kc 1) w0 r2 r4 σ5) (fun r6 σ7 =>
 sp_b (q_X7_bound θ r6 (0 : Int32) (999 : Int32) σ7) (fun r8 σ9 =>
 some (r8, σ9)))))
def q_X0_worth (θ : sv_T) (kc : Nat) (σ : sv_S) : Option (Int32 × sv_S) :=
 sp_o (σ.2.2 kc 2)
 (q_X0_worth_B29 θ kc (0 : Int32) σ)
 (fun t1 => if sv_oX6 θ t1 then
 (sp_b (q_X6_tell θ t1 (2 : Int32) (kc + 1) σ) (fun r10 σ11 =>
 sp_b (q_X7_bound θ r10 (0 : Int32) (99 : Int32) σ11) (fun r12 σ13 =>
 q_X0_worth_B29 θ kc r12 σ13)))
 else none)
def q_X0_lastHeld_B20_b (θ : sv_T) (kc : Nat) (b1 : Nat) (a2 : Int32) (a3 : Int32) (a4 : Int32)  (rec : Int32 → Int32 → Int32 → sv_S → Option (Int32 × sv_S)) (x3 : Int32) (x5 : Int32) (x6 : Int32) (σ : sv_S) : Option (Int32 × sv_S) :=
 if x5 < x6 then
 (some (x5, σ))
 else
 sp_b (q_X0_rainIn θ kc b1 x6 σ) (fun r4 σ5 =>
 if x3 ≤ r4 then
 (sp_l (x6 + 1) (fun v7 =>
 rec x3 x5 v7 σ5))
 else
 some ((-1 : Int32), σ5))
def q_X0_lastHeld_B20 (θ : sv_T) (kc : Nat) (b1 : Nat) (a2 : Int32) (a3 : Int32) (a4 : Int32)  : Nat → Int32 → Int32 → Int32 → sv_S → Option (Int32 × sv_S)
  | 0 => fun _ _ _ _ => none
  | n + 1 => q_X0_lastHeld_B20_b θ kc b1 a2 a3 a4 (q_X0_lastHeld_B20 θ kc b1 a2 a3 a4 n)
def q_X0_lastHeld (θ : sv_T) (kc : Nat) (b1 : Nat) (a2 : Int32) (a3 : Int32) (a4 : Int32) (σ : sv_S) : Option (Int32 × sv_S) :=
 sp_l ((a2 + a4) - (1 : Int32)) (fun v1 =>
 if v1 < (24 : Int32) then
 (q_X0_lastHeld_B20 θ kc b1 a2 a3 a4 sv_N a3 v1 a2 σ)
 else
 some ((-1 : Int32), σ))
def q_X0_lastHour (θ : sv_T) (kc : Nat) (b1 : Nat) (a2 : Int32) (σ : sv_S) : Option (Int32 × sv_S) :=
 sp_b (q_X0_rainIn θ kc b1 a2 σ) (fun r1 σ2 =>
 if r1 = 0 then
 (some ((-1 : Int32), σ2))
 else
 sp_b (q_X0_see θ kc b1 a2 σ2) (fun r4 σ5 =>
 sp_b (q_X0_needs θ kc σ5) (fun r6 σ7 =>
 sp_b (q_X0_takes θ kc σ7) (fun r8 σ9 =>
 sp_b (q_X0_lastHeld θ kc b1 a2 r6 r8 σ9) (fun r10 σ11 =>
 some (r10, σ11))))))
def q_X0_shakenHour_B2_b (θ : sv_T) (kc : Nat) (b1 : Nat) (a2 : Int32)  (rec : Int32 → sv_S → Option (Int32 × sv_S)) (x3 : Int32) (σ : sv_S) : Option (Int32 × sv_S) :=
 if (24 : Int32) ≤ x3 then
 (some ((-1 : Int32), σ))
 else
 sp_b (q_X0_lastHour θ kc b1 x3 σ) (fun r2 σ3 =>
 if r2 = (-1 : Int32) then
 (sp_l (x3 + 1) (fun v5 =>
 rec v5 σ3))
 else
 some (r2, σ3))
def q_X0_shakenHour_B2 (θ : sv_T) (kc : Nat) (b1 : Nat) (a2 : Int32)  : Nat → Int32 → sv_S → Option (Int32 × sv_S)
  | 0 => fun _ _ => none
  | n + 1 => q_X0_shakenHour_B2_b θ kc b1 a2 (q_X0_shakenHour_B2 θ kc b1 a2 n)
def q_X0_shakenHour (θ : sv_T) (kc : Nat) (b1 : Nat) (a2 : Int32) (σ : sv_S) : Option (Int32 × sv_S) :=
 q_X0_shakenHour_B2 θ kc b1 a2 sv_N a2 σ
def q_X5_read (θ : sv_T) (kr : Nat) (a1 : Int32) (σ : sv_S) : Option (Int32 × sv_S) :=
 sp_b (q_X7_at θ (kr + 1) a1 σ) (fun r1 σ2 =>
 some (r1, σ2))
def q_X0_firstOther_B8_b (θ : sv_T) (kc : Nat) (b1 : Nat) (b2 : Nat)  (rec : Int32 → sv_S → Option (Int32 × sv_S)) (x3 : Int32) (σ : sv_S) : Option (Int32 × sv_S) :=
 if (σ.1 b1 2) ≤ x3 then
 (some ((-1 : Int32), σ))
 else
 sp_b (q_X0_see θ kc b2 x3 σ) (fun r2 σ3 =>
 sp_b (q_X5_read θ b1 x3 σ3) (fun r4 σ5 =>
 sp_b (q_X0_worth θ kc σ5) (fun r6 σ7 =>
 if r4 = r6 then
 (sp_l (x3 + 1) (fun v9 =>
 rec v9 σ7))
 else
 some (x3, σ7))))
def q_X0_firstOther_B8 (θ : sv_T) (kc : Nat) (b1 : Nat) (b2 : Nat)  : Nat → Int32 → sv_S → Option (Int32 × sv_S)
  | 0 => fun _ _ => none
  | n + 1 => q_X0_firstOther_B8_b θ kc b1 b2 (q_X0_firstOther_B8 θ kc b1 b2 n)
def q_X0_firstOther (θ : sv_T) (kc : Nat) (b1 : Nat) (b2 : Nat) (σ : sv_S) : Option (Int32 × sv_S) :=
 q_X0_firstOther_B8 θ kc b1 b2 sv_N (0 : Int32) σ
def q_X1_isUnder_B4_b (θ : sv_T) (a1 : Int32) (a2 : Int32)  (rec : Int32 → Int32 → Int32 → sv_S → Option (Int32 × sv_S)) (x1 : Int32) (x2 : Int32) (x3 : Int32) (σ : sv_S) : Option (Int32 × sv_S) :=
 if (6 : Int32) ≤ x3 then
 (some ((0 : Int32), σ))
 else
 if x2 < 0 then
 (some ((0 : Int32), σ))
 else
 if (6 : Int32) ≤ x2 then
 (some ((0 : Int32), σ))
 else
 if x2 = x1 then
 (some ((1 : Int32), σ))
 else
 if (x2 < 0 ∨ 6 ≤ x2.toNatClampNeg) then none else
 sp_l (sx_under x2.toNatClampNeg) (fun v8 =>
 sp_l (x3 + 1) (fun v9 =>
 rec x1 v8 v9 σ))
def q_X1_isUnder_B4 (θ : sv_T) (a1 : Int32) (a2 : Int32)  : Nat → Int32 → Int32 → Int32 → sv_S → Option (Int32 × sv_S)
  | 0 => fun _ _ _ _ => none
  | n + 1 => q_X1_isUnder_B4_b θ a1 a2 (q_X1_isUnder_B4 θ a1 a2 n)
def q_X1_isUnder (θ : sv_T) (a1 : Int32) (a2 : Int32) (σ : sv_S) : Option (Int32 × sv_S) :=
 q_X1_isUnder_B4 θ a1 a2 sv_N a2 a1 (0 : Int32) σ
def q_X2_become (θ : sv_T) (km : Nat) (b1 : Nat) (σ : sv_S) : Option (Unit × sv_S) :=
 if sv_cp (0 : Int32) (0 : Int32) (48 : Int32) 48 48 then
 sp_l (sv_sR σ (km + 1) (va_cpy (σ.1 (b1 + 1)) (σ.1 (km + 1)) (0 : Int32).toNatClampNeg (0 : Int32).toNatClampNeg (48 : Int32).toNatClampNeg)) (fun σ1 =>
 if sv_cp (0 : Int32) (0 : Int32) (6 : Int32) 6 6 then
 sp_l (sv_sR σ1 (km + 2) (va_cpy (σ1.1 (b1 + 2)) (σ1.1 (km + 2)) (0 : Int32).toNatClampNeg (0 : Int32).toNatClampNeg (6 : Int32).toNatClampNeg)) (fun σ3 =>
 if sv_cp (0 : Int32) (0 : Int32) (6 : Int32) 6 6 then
 sp_l (sv_sR σ3 (km + 3) (va_cpy (σ3.1 (b1 + 3)) (σ3.1 (km + 3)) (0 : Int32).toNatClampNeg (0 : Int32).toNatClampNeg (6 : Int32).toNatClampNeg)) (fun σ5 =>
 if sv_cp (0 : Int32) (0 : Int32) (6 : Int32) 6 6 then
 sp_l (sv_sR σ5 (km + 4) (va_cpy (σ5.1 (b1 + 4)) (σ5.1 (km + 4)) (0 : Int32).toNatClampNeg (0 : Int32).toNatClampNeg (6 : Int32).toNatClampNeg)) (fun σ7 =>
 if sv_cp (0 : Int32) (0 : Int32) (6 : Int32) 6 6 then
 sp_l (sv_sR σ7 (km + 5) (va_cpy (σ7.1 (b1 + 5)) (σ7.1 (km + 5)) (0 : Int32).toNatClampNeg (0 : Int32).toNatClampNeg (6 : Int32).toNatClampNeg)) (fun σ9 =>
 sp_l (sv_sI σ9 km 5 (σ9.1 b1 5)) (fun σ11 =>
 sp_l (sv_sI σ11 km 6 (σ11.1 b1 6)) (fun σ12 =>
 sp_l (sv_sP σ12 km 7 (σ12.2.2 b1 7)) (fun σ13 =>
 some ((), σ13)))))
 else none)
 else none)
 else none)
 else none)
 else none
def q_X2_has (θ : sv_T) (a1 : Int32) (σ : sv_S) : Option (Int32 × sv_S) :=
 if a1 < 0 then
 (some ((0 : Int32), σ))
 else
 if (σ.1 1 6) ≤ a1 then
 (some ((0 : Int32), σ))
 else
 some ((1 : Int32), σ)
def q_X2_add (θ : sv_T) (a1 : Int32) (a2 : Int32) (a3 : Int32) (σ : sv_S) : Option (Int32 × sv_S) :=
 if (σ.1 1 6) < (6 : Int32) then
 (sp_b (q_X7_put θ 3 (σ.1 1 6) a1 σ) (fun r2 σ3 =>
 sp_b (q_X7_put θ 4 (σ3.1 1 6) a2 σ3) (fun r4 σ5 =>
 sp_b (q_X7_put θ 5 (σ5.1 1 6) a3 σ5) (fun r6 σ7 =>
 sp_b (q_X7_put θ 6 (σ7.1 1 6) (0 : Int32) σ7) (fun r8 σ9 =>
 sp_l (sv_sI σ9 1 6 ((σ9.1 1 6) + (1 : Int32))) (fun σ10 =>
 some ((1 : Int32), σ10)))))))
 else
 some ((0 : Int32), σ)
def q_X2_shakenCount_B4_b (θ : sv_T)   (rec : Int32 → Int32 → sv_S → Option (Int32 × sv_S)) (x1 : Int32) (x2 : Int32) (σ : sv_S) : Option (Int32 × sv_S) :=
 if (σ.1 1 6) ≤ x2 then
 (some (x1, σ))
 else
 sp_b (q_X7_at θ 6 x2 σ) (fun r2 σ3 =>
 sp_l (x1 + r2) (fun v4 =>
 sp_l (x2 + 1) (fun v5 =>
 rec v4 v5 σ3)))
def q_X2_shakenCount_B4 (θ : sv_T)   : Nat → Int32 → Int32 → sv_S → Option (Int32 × sv_S)
  | 0 => fun _ _ _ => none
  | n + 1 => q_X2_shakenCount_B4_b θ  (q_X2_shakenCount_B4 θ  n)
def q_X2_shakenCount (θ : sv_T)  (σ : sv_S) : Option (Int32 × sv_S) :=
 q_X2_shakenCount_B4 θ  sv_N (0 : Int32) (0 : Int32) σ
def q_X2_unshaken_B4_b (θ : sv_T)   (rec : Int32 → Int32 → sv_S → Option (Int32 × sv_S)) (x1 : Int32) (x2 : Int32) (σ : sv_S) : Option (Int32 × sv_S) :=
 if (σ.1 1 6) ≤ x2 then
 (some (x1, σ))
 else
 sp_b (q_X7_at θ 6 x2 σ) (fun r2 σ3 =>
 if r2 = 0 then
 (sp_l (x1 ||| ((1 : Int32) <<< (x2 &&& 31))) (fun v7 =>
 sp_l (x2 + 1) (fun v8 =>
 rec v7 v8 σ3)))
 else
 sp_l (x1 ||| (0 : Int32)) (fun v5 =>
 sp_l (x2 + 1) (fun v6 =>
 rec v5 v6 σ3)))
def q_X2_unshaken_B4 (θ : sv_T)   : Nat → Int32 → Int32 → sv_S → Option (Int32 × sv_S)
  | 0 => fun _ _ _ => none
  | n + 1 => q_X2_unshaken_B4_b θ  (q_X2_unshaken_B4 θ  n)
def q_X2_unshaken (θ : sv_T)  (σ : sv_S) : Option (Int32 × sv_S) :=
 q_X2_unshaken_B4 θ  sv_N (0 : Int32) (0 : Int32) σ
def q_X2_inStreet_B4_b (θ : sv_T) (a1 : Int32)  (rec : Int32 → Int32 → Int32 → sv_S → Option (Int32 × sv_S)) (x1 : Int32) (x2 : Int32) (x3 : Int32) (σ : sv_S) : Option (Int32 × sv_S) :=
 if (σ.1 1 6) ≤ x3 then
 (some (x2, σ))
 else
 sp_b (q_X7_at θ 5 x3 σ) (fun r2 σ3 =>
 if r2 = x1 then
 (sp_l (x2 ||| ((1 : Int32) <<< (x3 &&& 31))) (fun v7 =>
 sp_l (x3 + 1) (fun v8 =>
 rec x1 v7 v8 σ3)))
 else
 sp_l (x2 ||| (0 : Int32)) (fun v5 =>
 sp_l (x3 + 1) (fun v6 =>
 rec x1 v5 v6 σ3)))
def q_X2_inStreet_B4 (θ : sv_T) (a1 : Int32)  : Nat → Int32 → Int32 → Int32 → sv_S → Option (Int32 × sv_S)
  | 0 => fun _ _ _ _ => none
  | n + 1 => q_X2_inStreet_B4_b θ a1 (q_X2_inStreet_B4 θ a1 n)
def q_X2_inStreet (θ : sv_T) (a1 : Int32) (σ : sv_S) : Option (Int32 × sv_S) :=
 q_X2_inStreet_B4 θ a1 sv_N a1 (0 : Int32) (0 : Int32) σ
def q_X2_rainAt (θ : sv_T) (a1 : Int32) (a2 : Int32) (σ : sv_S) : Option (Int32 × sv_S) :=
 sp_b (q_X7_at θ 2 ((a1 * (24 : Int32)) + a2) σ) (fun r1 σ2 =>
 some (r1, σ2))
def q_X2_showerLength_B31 (θ : sv_T) (a1 : Int32) (k7 : Int32 → Int32 → Int32 → Int32 → sv_S → Option (Int32 × sv_S)) (x1 : Int32) (x2 : Int32) (x4 : Int32) (w0 : Int32) (σ : sv_S) : Option (Int32 × sv_S) :=
 if w0 ≤ x2 then
 (sp_l (x4 + 1) (fun v6 =>
 k7 x1 x2 w0 v6 σ))
 else
 sp_l (x4 + 1) (fun v7 =>
 k7 x1 w0 w0 v7 σ)
def q_X2_showerLength_B7_b (θ : sv_T) (a1 : Int32)  (rec : Int32 → Int32 → Int32 → Int32 → sv_S → Option (Int32 × sv_S)) (x1 : Int32) (x2 : Int32) (x3 : Int32) (x4 : Int32) (σ : sv_S) : Option (Int32 × sv_S) :=
 if (24 : Int32) ≤ x4 then
 (some (x2, σ))
 else
 sp_b (q_X2_rainAt θ x1 x4 σ) (fun r2 σ3 =>
 if r2 ≤ 0 then
 (q_X2_showerLength_B31 θ a1 rec x1 x2 x4 (0 : Int32) σ3)
 else
 q_X2_showerLength_B31 θ a1 rec x1 x2 x4 (x3 + (1 : Int32)) σ3)
def q_X2_showerLength_B7 (θ : sv_T) (a1 : Int32)  : Nat → Int32 → Int32 → Int32 → Int32 → sv_S → Option (Int32 × sv_S)
  | 0 => fun _ _ _ _ _ => none
  | n + 1 => q_X2_showerLength_B7_b θ a1 (q_X2_showerLength_B7 θ a1 n)
def q_X2_showerLength (θ : sv_T) (a1 : Int32) (σ : sv_S) : Option (Int32 × sv_S) :=
 q_X2_showerLength_B7 θ a1 sv_N a1 (0 : Int32) (0 : Int32) (0 : Int32) σ
def q_X2_showerStart_B35 (θ : sv_T) (a1 : Int32) (k11 : Int32 → Int32 → Int32 → Int32 → sv_S → Option (Int32 × sv_S)) (x1 : Int32) (x2 : Int32) (x4 : Int32) (w0 : Int32) (σ : sv_S) : Option (Int32 × sv_S) :=
 if w0 ≤ 0 then
 (sp_l (x4 + 1) (fun v8 =>
 k11 x1 x2 w0 v8 σ))
 else
 if w0 = x2 then
 (some (((x4 - x2) + (1 : Int32)), σ))
 else
 sp_l (x4 + 1) (fun v10 =>
 k11 x1 x2 w0 v10 σ)
def q_X2_showerStart_B11_b (θ : sv_T) (a1 : Int32)  (rec : Int32 → Int32 → Int32 → Int32 → sv_S → Option (Int32 × sv_S)) (x1 : Int32) (x2 : Int32) (x3 : Int32) (x4 : Int32) (σ : sv_S) : Option (Int32 × sv_S) :=
 if (24 : Int32) ≤ x4 then
 (some ((-1 : Int32), σ))
 else
 sp_b (q_X2_rainAt θ x1 x4 σ) (fun r4 σ5 =>
 if r4 ≤ 0 then
 (q_X2_showerStart_B35 θ a1 rec x1 x2 x4 (0 : Int32) σ5)
 else
 q_X2_showerStart_B35 θ a1 rec x1 x2 x4 (x3 + (1 : Int32)) σ5)
def q_X2_showerStart_B11 (θ : sv_T) (a1 : Int32)  : Nat → Int32 → Int32 → Int32 → Int32 → sv_S → Option (Int32 × sv_S)
  | 0 => fun _ _ _ _ _ => none
  | n + 1 => q_X2_showerStart_B11_b θ a1 (q_X2_showerStart_B11 θ a1 n)
def q_X2_showerStart (θ : sv_T) (a1 : Int32) (σ : sv_S) : Option (Int32 × sv_S) :=
 sp_b (q_X2_showerLength θ a1 σ) (fun r1 σ2 =>
 q_X2_showerStart_B11 θ a1 sv_N a1 r1 (0 : Int32) (0 : Int32) σ2)
def q_X2_wetHours_B4_b (θ : sv_T) (a1 : Int32)  (rec : Int32 → Int32 → Int32 → sv_S → Option (Int32 × sv_S)) (x1 : Int32) (x2 : Int32) (x3 : Int32) (σ : sv_S) : Option (Int32 × sv_S) :=
 if (24 : Int32) ≤ x3 then
 (some (x2, σ))
 else
 sp_b (q_X2_rainAt θ x1 x3 σ) (fun r2 σ3 =>
 if r2 ≤ 0 then
 (sp_l (x2 + (0 : Int32)) (fun v5 =>
 sp_l (x3 + 1) (fun v6 =>
 rec x1 v5 v6 σ3)))
 else
 sp_l (x2 + (1 : Int32)) (fun v7 =>
 sp_l (x3 + 1) (fun v8 =>
 rec x1 v7 v8 σ3)))
def q_X2_wetHours_B4 (θ : sv_T) (a1 : Int32)  : Nat → Int32 → Int32 → Int32 → sv_S → Option (Int32 × sv_S)
  | 0 => fun _ _ _ _ => none
  | n + 1 => q_X2_wetHours_B4_b θ a1 (q_X2_wetHours_B4 θ a1 n)
def q_X2_wetHours (θ : sv_T) (a1 : Int32) (σ : sv_S) : Option (Int32 × sv_S) :=
 q_X2_wetHours_B4 θ a1 sv_N a1 (0 : Int32) (0 : Int32) σ
def q_X2_allRain_B4_b (θ : sv_T) (a1 : Int32)  (rec : Int32 → Int32 → Int32 → sv_S → Option (Int32 × sv_S)) (x1 : Int32) (x2 : Int32) (x3 : Int32) (σ : sv_S) : Option (Int32 × sv_S) :=
 if (24 : Int32) ≤ x3 then
 (some (x2, σ))
 else
 sp_b (q_X2_rainAt θ x1 x3 σ) (fun r2 σ3 =>
 sp_l (x2 + r2) (fun v4 =>
 sp_l (x3 + 1) (fun v5 =>
 rec x1 v4 v5 σ3)))
def q_X2_allRain_B4 (θ : sv_T) (a1 : Int32)  : Nat → Int32 → Int32 → Int32 → sv_S → Option (Int32 × sv_S)
  | 0 => fun _ _ _ _ => none
  | n + 1 => q_X2_allRain_B4_b θ a1 (q_X2_allRain_B4 θ a1 n)
def q_X2_allRain (θ : sv_T) (a1 : Int32) (σ : sv_S) : Option (Int32 × sv_S) :=
 q_X2_allRain_B4 θ a1 sv_N a1 (0 : Int32) (0 : Int32) σ
def q_X2_shutHours_B4_b (θ : sv_T)   (rec : Int32 → Int32 → sv_S → Option (Int32 × sv_S)) (x1 : Int32) (x2 : Int32) (σ : sv_S) : Option (Int32 × sv_S) :=
 if (24 : Int32) ≤ x2 then
 (some (x1, σ))
 else
 sp_b (q_X2_rainAt θ (0 : Int32) x2 σ) (fun r2 σ3 =>
 if r2 = 0 then
 (sp_b (q_X2_rainAt θ (1 : Int32) x2 σ3) (fun r7 σ8 =>
 if r7 = 0 then
 (sp_l (x1 ||| ((1 : Int32) <<< (x2 &&& 31))) (fun v12 =>
 sp_l (x2 + 1) (fun v13 =>
 rec v12 v13 σ8)))
 else
 sp_l (x1 ||| (0 : Int32)) (fun v10 =>
 sp_l (x2 + 1) (fun v11 =>
 rec v10 v11 σ8))))
 else
 sp_l (x1 ||| (0 : Int32)) (fun v5 =>
 sp_l (x2 + 1) (fun v6 =>
 rec v5 v6 σ3)))
def q_X2_shutHours_B4 (θ : sv_T)   : Nat → Int32 → Int32 → sv_S → Option (Int32 × sv_S)
  | 0 => fun _ _ _ => none
  | n + 1 => q_X2_shutHours_B4_b θ  (q_X2_shutHours_B4 θ  n)
def q_X2_shutHours (θ : sv_T)  (σ : sv_S) : Option (Int32 × sv_S) :=
 q_X2_shutHours_B4 θ  sv_N (0 : Int32) (0 : Int32) σ
def q_X3_useRain (θ : sv_T) (b1 : Nat) (σ : sv_S) : Option (Unit × sv_S) :=
 if (Int32.ofNat (sv_len θ b1)) = (48 : Int32) then
 (if sv_cp (0 : Int32) (0 : Int32) (48 : Int32) (sv_len θ b1) 48 then
 sp_l (sv_sR σ 27 (va_cpy (σ.1 b1) (σ.1 27) (0 : Int32).toNatClampNeg (0 : Int32).toNatClampNeg (48 : Int32).toNatClampNeg)) (fun σ2 =>
 some ((), σ2))
 else none)
 else
 some ((), σ)
def q_X3_draw_B4_b (θ : sv_T) (a1 : Int32)  (rec : Int32 → Int32 → sv_S → Option (Unit × sv_S)) (x2 : Int32) (x3 : Int32) (σ : sv_S) : Option (Unit × sv_S) :=
 if (48 : Int32) ≤ x3 then
 (some ((), σ))
 else
 sp_l ((x2 * (1103515245 : Int32)) + (12345 : Int32)) (fun v2 =>
 sp_l ((((v2).toUInt32 >>> (((9 : Int32)).toUInt32 &&& Int32.toUInt32 31)).toInt32) - (((v2).toUInt32 >>> (((9 : Int32)).toUInt32 &&& Int32.toUInt32 31)).toInt32) / (10 : Int32) * (10 : Int32)) (fun v3 =>
 if (4 : Int32) ≤ v3 then
 (if (x3 < 0 ∨ 48 ≤ x3.toNatClampNeg) then none else
 sp_l (sv_sI σ 27 x3.toNatClampNeg v3) (fun σ6 =>
 sp_l (x3 + 1) (fun v7 =>
 rec v2 v7 σ6)))
 else
 if (x3 < 0 ∨ 48 ≤ x3.toNatClampNeg) then none else
 sp_l (sv_sI σ 27 x3.toNatClampNeg (0 : Int32)) (fun σ9 =>
 sp_l (x3 + 1) (fun v10 =>
 rec v2 v10 σ9))))
def q_X3_draw_B4 (θ : sv_T) (a1 : Int32)  : Nat → Int32 → Int32 → sv_S → Option (Unit × sv_S)
  | 0 => fun _ _ _ => none
  | n + 1 => q_X3_draw_B4_b θ a1 (q_X3_draw_B4 θ a1 n)
def q_X3_draw (θ : sv_T) (a1 : Int32) (σ : sv_S) : Option (Unit × sv_S) :=
 q_X3_draw_B4 θ a1 sv_N a1 (0 : Int32) σ
def q_J6_bitCount_0f7a4 (θ : sv_T) (a1 : Int32) (σ : sv_S) : Option (Int32 × sv_S) :=
 sp_l (a1 - ((((a1).toUInt32 >>> (((1 : Int32)).toUInt32 &&& Int32.toUInt32 31)).toInt32) &&& (1431655765 : Int32))) (fun v1 =>
 sp_l ((v1 &&& (858993459 : Int32)) + ((((v1).toUInt32 >>> (((2 : Int32)).toUInt32 &&& Int32.toUInt32 31)).toInt32) &&& (858993459 : Int32))) (fun v2 =>
 sp_l ((v2 + (((v2).toUInt32 >>> (((4 : Int32)).toUInt32 &&& Int32.toUInt32 31)).toInt32)) &&& (252645135 : Int32)) (fun v3 =>
 sp_l (v3 + (((v3).toUInt32 >>> (((8 : Int32)).toUInt32 &&& Int32.toUInt32 31)).toInt32)) (fun v4 =>
 sp_l (v4 + (((v4).toUInt32 >>> (((16 : Int32)).toUInt32 &&& Int32.toUInt32 31)).toInt32)) (fun v5 =>
 some ((v5 &&& (63 : Int32)), σ))))))
def q_X3_run_B37_b (θ : sv_T) (b2 : Nat) (a3 : Int32)  (rec : Int32 → Int32 → Int32 → sv_S → Option (Unit × sv_S)) (x3 : Int32) (x4 : Int32) (x5 : Int32) (σ : sv_S) : Option (Unit × sv_S) :=
 if x3 ≤ x5 then
 (some ((), σ))
 else
 if (6 : Int32) ≤ x5 then
 (some ((), σ))
 else
 sp_b (q_X7_at θ b2 x5 σ) (fun r9 σ10 =>
 sp_b (q_J6_bitCount_0f7a4 θ (σ10.1 24 4) σ10) (fun r11 σ12 =>
 sp_b (q_X0_regard θ 25 r9 (x4 + r11) σ12) (fun r13 σ14 =>
 sp_b (q_X0_shakenHour θ 25 27 ((σ14.1 24 5) + (1 : Int32)) σ14) (fun r15 σ16 =>
 if r15 = (-1 : Int32) then
 (sp_l (sv_sI σ16 24 6 ((σ16.1 24 6) ||| ((1 : Int32) <<< (r9 &&& 31)))) (fun σ26 =>
 sp_l (x5 + 1) (fun v27 =>
 rec x3 x4 v27 σ26)))
 else
 sp_b (q_X0_see θ 25 27 r15 σ16) (fun r18 σ19 =>
 sp_b (q_X0_worth θ 25 σ19) (fun r20 σ21 =>
 sp_l (sv_sI σ21 24 3 ((σ19.1 24 3) + r20)) (fun σ22 =>
 sp_l (sv_sI σ22 24 4 ((σ22.1 24 4) ||| ((1 : Int32) <<< (r9 &&& 31)))) (fun σ23 =>
 sp_l (sv_sI σ23 24 5 r15) (fun σ24 =>
 sp_l (x5 + 1) (fun v25 =>
 rec x3 x4 v25 σ24))))))))))
def q_X3_run_B37 (θ : sv_T) (b2 : Nat) (a3 : Int32)  : Nat → Int32 → Int32 → Int32 → sv_S → Option (Unit × sv_S)
  | 0 => fun _ _ _ _ => none
  | n + 1 => q_X3_run_B37_b θ b2 a3 (q_X3_run_B37 θ b2 a3 n)
def q_X3_run (θ : sv_T) (b2 : Nat) (a3 : Int32) (σ : sv_S) : Option (Unit × sv_S) :=
 sp_l (sv_sI σ 24 3 (0 : Int32)) (fun σ1 =>
 sp_l (sv_sI σ1 24 4 (0 : Int32)) (fun σ2 =>
 sp_l (sv_sI σ2 24 5 (-1 : Int32)) (fun σ3 =>
 sp_l (sv_sI σ3 24 6 (0 : Int32)) (fun σ4 =>
 sp_b (q_X2_shakenCount θ σ4) (fun r5 σ6 =>
 q_X3_run_B37 θ b2 a3 sv_N a3 r5 (0 : Int32) σ6)))))
def q_X7_hasBit (θ : sv_T) (a1 : Int32) (a2 : Int32) (σ : sv_S) : Option (Int32 × sv_S) :=
 if a2 < 0 then
 (some ((0 : Int32), σ))
 else
 if (31 : Int32) ≤ a2 then
 (some ((0 : Int32), σ))
 else
 if ((a1 >>> (a2 &&& 31)) &&& (1 : Int32)) = 0 then
 (some ((0 : Int32), σ))
 else
 some ((1 : Int32), σ)
def q_X3_lineUp_B18_b (θ : sv_T)   (rec : Int32 → Int32 → Int32 → sv_S → Option (Int32 × sv_S)) (x2 : Int32) (x3 : Int32) (x4 : Int32) (σ : sv_S) : Option (Int32 × sv_S) :=
 if (6 : Int32) ≤ x4 then
 (some (x3, σ))
 else
 sp_b (q_X7_hasBit θ x2 x4 σ) (fun r4 σ5 =>
 if r4 = 0 then
 (sp_l (x4 + 1) (fun v7 =>
 rec x2 x3 v7 σ5))
 else
 sp_b (q_X7_put θ 28 x3 x4 σ5) (fun r8 σ9 =>
 sp_l (x3 + 1) (fun v10 =>
 sp_l (x4 + 1) (fun v11 =>
 rec x2 v10 v11 σ9))))
def q_X3_lineUp_B18 (θ : sv_T)   : Nat → Int32 → Int32 → Int32 → sv_S → Option (Int32 × sv_S)
  | 0 => fun _ _ _ _ => none
  | n + 1 => q_X3_lineUp_B18_b θ  (q_X3_lineUp_B18 θ  n)
def q_X3_lineUp (θ : sv_T)  (σ : sv_S) : Option (Int32 × sv_S) :=
 sp_b (q_X2_unshaken θ σ) (fun r1 σ2 =>
 q_X3_lineUp_B18 θ  sv_N r1 (0 : Int32) (0 : Int32) σ2)
def q_X3_entry (θ : sv_T) (a1 : Int32) (a2 : Int32) (a3 : Int32) (σ : sv_S) : Option (Int32 × sv_S) :=
 some (((((a1 * (6 : Int32)) + a2) * (24 : Int32)) + a3), σ)
def q_X3_learn_B30_b (θ : sv_T) (a2 : Int32) (a3 : Int32) (k17 : Int32 → Int32 → Int32 → Int32 → sv_S → Option (Unit × sv_S)) (rec : Int32 → Int32 → Int32 → Int32 → Int32 → sv_S → Option (Unit × sv_S)) (x2 : Int32) (x3 : Int32) (x4 : Int32) (x5 : Int32) (x6 : Int32) (σ : sv_S) : Option (Unit × sv_S) :=
 if x4 ≤ x6 then
 (sp_l (x5 + 1) (fun v7 =>
 k17 x2 x3 x4 v7 σ))
 else
 sp_b (q_X7_hasBit θ x2 x5 σ) (fun r8 σ9 =>
 if r8 = 0 then
 (sp_l (x5 + 1) (fun v11 =>
 k17 x2 x3 x4 v11 σ9))
 else
 sp_b (q_X3_entry θ x5 x6 x3 σ9) (fun r12 σ13 =>
 sp_b (q_X0_regard θ 25 x5 x6 σ13) (fun r14 σ15 =>
 sp_b (q_X0_see θ 25 27 x3 σ15) (fun r16 σ17 =>
 sp_b (q_X0_needs θ 25 σ17) (fun r18 σ19 =>
 sp_b (q_X7_put θ 29 r12 r18 σ19) (fun r20 σ21 =>
 sp_b (q_X0_takes θ 25 σ21) (fun r22 σ23 =>
 sp_b (q_X7_put θ 30 r12 r22 σ23) (fun r24 σ25 =>
 sp_b (q_X0_worth θ 25 σ25) (fun r26 σ27 =>
 sp_b (q_X7_put θ 31 r12 r26 σ27) (fun r28 σ29 =>
 sp_l (x6 + 1) (fun v30 =>
 rec x2 x3 x4 x5 v30 σ29)))))))))))
def q_X3_learn_B30 (θ : sv_T) (a2 : Int32) (a3 : Int32) (k17 : Int32 → Int32 → Int32 → Int32 → sv_S → Option (Unit × sv_S)) : Nat → Int32 → Int32 → Int32 → Int32 → Int32 → sv_S → Option (Unit × sv_S)
  | 0 => fun _ _ _ _ _ _ => none
  | n + 1 => q_X3_learn_B30_b θ a2 a3 k17 (q_X3_learn_B30 θ a2 a3 k17 n)
def q_X3_learn_B17_b (θ : sv_T) (a2 : Int32) (a3 : Int32)  (rec : Int32 → Int32 → Int32 → Int32 → sv_S → Option (Unit × sv_S)) (x2 : Int32) (x3 : Int32) (x4 : Int32) (x5 : Int32) (σ : sv_S) : Option (Unit × sv_S) :=
 if (6 : Int32) ≤ x5 then
 (some ((), σ))
 else
 sp_l (σ.1 24 12) (fun v5 =>
 q_X3_learn_B30 θ a2 a3 rec sv_N x2 x3 x4 x5 v5 σ)
def q_X3_learn_B17 (θ : sv_T) (a2 : Int32) (a3 : Int32)  : Nat → Int32 → Int32 → Int32 → Int32 → sv_S → Option (Unit × sv_S)
  | 0 => fun _ _ _ _ _ => none
  | n + 1 => q_X3_learn_B17_b θ a2 a3 (q_X3_learn_B17 θ a2 a3 n)
def q_X3_learn (θ : sv_T) (a2 : Int32) (a3 : Int32) (σ : sv_S) : Option (Unit × sv_S) :=
 sp_b (q_J6_bitCount_0f7a4 θ (σ.1 24 11) σ) (fun r1 σ2 =>
 sp_l ((σ.1 24 12) + r1) (fun v3 =>
 q_X3_learn_B17 θ a2 a3 sv_N a2 a3 v3 (0 : Int32) σ2))
def q_X3_fillRow_B55 (θ : sv_T) (a1 : Int32) (k5 : Int32 → Int32 → Int32 → sv_S → Option (Unit × sv_S)) (x1 : Int32) (x3 : Int32) (w0 : Int32) (σ : sv_S) : Option (Unit × sv_S) :=
 sp_b (q_X7_put θ 32 (x1 + x3) w0 σ) (fun r9 σ10 =>
 sp_l (x3 + (-1)) (fun v11 =>
 k5 x1 w0 v11 σ10))
def q_X3_fillRow_B5_b (θ : sv_T) (a1 : Int32)  (rec : Int32 → Int32 → Int32 → sv_S → Option (Unit × sv_S)) (x1 : Int32) (x2 : Int32) (x3 : Int32) (σ : sv_S) : Option (Unit × sv_S) :=
 if x3 < 0 then
 (some ((), σ))
 else
 sp_b (q_X7_at θ 29 (x1 + x3) σ) (fun r2 σ3 =>
 sp_b (q_X7_at θ 30 (x1 + x3) σ3) (fun r4 σ5 =>
 sp_b (q_X0_lastHeld θ 25 27 x3 r2 r4 σ5) (fun r6 σ7 =>
 if r6 = (-1 : Int32) then
 (q_X3_fillRow_B55 θ a1 rec x1 x3 x2 σ7)
 else
 q_X3_fillRow_B55 θ a1 rec x1 x3 r6 σ7)))
def q_X3_fillRow_B5 (θ : sv_T) (a1 : Int32)  : Nat → Int32 → Int32 → Int32 → sv_S → Option (Unit × sv_S)
  | 0 => fun _ _ _ _ => none
  | n + 1 => q_X3_fillRow_B5_b θ a1 (q_X3_fillRow_B5 θ a1 n)
def q_X3_fillRow (θ : sv_T) (a1 : Int32) (σ : sv_S) : Option (Unit × sv_S) :=
 q_X3_fillRow_B5 θ a1 sv_N a1 (-1 : Int32) (23 : Int32) σ
def q_X3_fillEnds_B29_b (θ : sv_T) (a2 : Int32) (k16 : Int32 → Int32 → Int32 → sv_S → Option (Unit × sv_S)) (rec : Int32 → Int32 → Int32 → Int32 → sv_S → Option (Unit × sv_S)) (x2 : Int32) (x3 : Int32) (x4 : Int32) (x5 : Int32) (σ : sv_S) : Option (Unit × sv_S) :=
 if x3 ≤ x5 then
 (sp_l (x4 + 1) (fun v7 =>
 k16 x2 x3 v7 σ))
 else
 sp_b (q_X7_hasBit θ x2 x4 σ) (fun r8 σ9 =>
 if r8 = 0 then
 (sp_l (x4 + 1) (fun v11 =>
 k16 x2 x3 v11 σ9))
 else
 sp_b (q_X0_regard θ 25 x4 x5 σ9) (fun r12 σ13 =>
 sp_b (q_X3_entry θ x4 x5 (0 : Int32) σ13) (fun r14 σ15 =>
 sp_b (q_X3_fillRow θ r14 σ15) (fun r16 σ17 =>
 sp_l (x5 + 1) (fun v18 =>
 rec x2 x3 x4 v18 σ17)))))
def q_X3_fillEnds_B29 (θ : sv_T) (a2 : Int32) (k16 : Int32 → Int32 → Int32 → sv_S → Option (Unit × sv_S)) : Nat → Int32 → Int32 → Int32 → Int32 → sv_S → Option (Unit × sv_S)
  | 0 => fun _ _ _ _ _ => none
  | n + 1 => q_X3_fillEnds_B29_b θ a2 k16 (q_X3_fillEnds_B29 θ a2 k16 n)
def q_X3_fillEnds_B16_b (θ : sv_T) (a2 : Int32)  (rec : Int32 → Int32 → Int32 → sv_S → Option (Unit × sv_S)) (x2 : Int32) (x3 : Int32) (x4 : Int32) (σ : sv_S) : Option (Unit × sv_S) :=
 if (6 : Int32) ≤ x4 then
 (some ((), σ))
 else
 sp_l (σ.1 24 12) (fun v5 =>
 q_X3_fillEnds_B29 θ a2 rec sv_N x2 x3 x4 v5 σ)
def q_X3_fillEnds_B16 (θ : sv_T) (a2 : Int32)  : Nat → Int32 → Int32 → Int32 → sv_S → Option (Unit × sv_S)
  | 0 => fun _ _ _ _ => none
  | n + 1 => q_X3_fillEnds_B16_b θ a2 (q_X3_fillEnds_B16 θ a2 n)
def q_X3_fillEnds (θ : sv_T) (a2 : Int32) (σ : sv_S) : Option (Unit × sv_S) :=
 sp_b (q_J6_bitCount_0f7a4 θ (σ.1 24 11) σ) (fun r1 σ2 =>
 sp_l ((σ.1 24 12) + r1) (fun v3 =>
 q_X3_fillEnds_B16 θ a2 sv_N a2 v3 (0 : Int32) σ2))
def q_X3_prepare_B31_b (θ : sv_T)   (rec : Int32 → sv_S → Option (Unit × sv_S)) (x2 : Int32) (σ : sv_S) : Option (Unit × sv_S) :=
 if (24 : Int32) ≤ x2 then
 (sp_b (q_X3_fillEnds θ (σ.1 24 11) σ) (fun r10 σ11 =>
 some ((), σ11)))
 else
 sp_b (q_X3_learn θ (σ.1 24 11) x2 σ) (fun r12 σ13 =>
 sp_l (x2 + 1) (fun v14 =>
 rec v14 σ13))
def q_X3_prepare_B31 (θ : sv_T)   : Nat → Int32 → sv_S → Option (Unit × sv_S)
  | 0 => fun _ _ => none
  | n + 1 => q_X3_prepare_B31_b θ  (q_X3_prepare_B31 θ  n)
def q_X3_prepare (θ : sv_T)  (σ : sv_S) : Option (Unit × sv_S) :=
 sp_b (q_X3_useRain θ 2 σ) (fun r1 σ2 =>
 sp_b (q_X2_unshaken θ σ2) (fun r3 σ4 =>
 sp_l (sv_sI σ4 24 11 r3) (fun σ5 =>
 sp_b (q_X2_shakenCount θ σ5) (fun r6 σ7 =>
 sp_l (sv_sI σ7 24 12 r6) (fun σ8 =>
 q_X3_prepare_B31 θ  sv_N (0 : Int32) σ8)))))
def q_X3_walk_B35_b (θ : sv_T) (G : Nat → sv_T → Int32 → Int32 → Int32 → Int32 → Int32 → Int32 → sv_S → Option (Unit × sv_S)) (a1 : Int32) (a2 : Int32) (a3 : Int32) (a4 : Int32) (a5 : Int32) (a6 : Int32)  (rec : Int32 → Int32 → Int32 → Int32 → Int32 → Int32 → Int32 → sv_S → Option (Unit × sv_S)) (x1 : Int32) (x2 : Int32) (x3 : Int32) (x4 : Int32) (x5 : Int32) (x6 : Int32) (x7 : Int32) (σ : sv_S) : Option (Unit × sv_S) :=
 if (6 : Int32) ≤ x7 then
 (some ((), σ))
 else
 sp_b (q_X7_hasBit θ x1 x7 σ) (fun r5 σ6 =>
 if r5 = 0 then
 (sp_l (x7 + 1) (fun v8 =>
 rec x1 x2 x3 x4 x5 x6 v8 σ6))
 else
 sp_l (x1 &&& (((1 : Int32) <<< (x7 &&& 31)) ^^^ (-1 : Int32))) (fun v9 =>
 sp_l (((x6 * (10 : Int32)) + x7) + (1 : Int32)) (fun v10 =>
 sp_b (q_X3_entry θ x7 ((σ6.1 24 12) + x4) (x3 + (1 : Int32)) σ6) (fun r11 σ12 =>
 sp_b (q_X7_at θ 32 r11 σ12) (fun r13 σ14 =>
 if r13 = (-1 : Int32) then
 (sp_b (G 0 θ v9 (x2 - (1 : Int32)) x3 x4 x5 v10 σ14) (fun r23 σ24 =>
 sp_l (x7 + 1) (fun v25 =>
 rec x1 x2 x3 x4 x5 x6 v25 σ24)))
 else
 sp_b (q_X3_entry θ x7 ((σ14.1 24 12) + x4) r13 σ14) (fun r16 σ17 =>
 sp_b (q_X7_at θ 31 r16 σ17) (fun r18 σ19 =>
 sp_b (G 0 θ v9 (x2 - (1 : Int32)) r13 (x4 + (1 : Int32)) (x5 + r18) v10 σ19) (fun r20 σ21 =>
 sp_l (x7 + 1) (fun v22 =>
 rec x1 x2 x3 x4 x5 x6 v22 σ21)))))))))
def q_X3_walk_B35 (θ : sv_T) (G : Nat → sv_T → Int32 → Int32 → Int32 → Int32 → Int32 → Int32 → sv_S → Option (Unit × sv_S)) (a1 : Int32) (a2 : Int32) (a3 : Int32) (a4 : Int32) (a5 : Int32) (a6 : Int32)  : Nat → Int32 → Int32 → Int32 → Int32 → Int32 → Int32 → Int32 → sv_S → Option (Unit × sv_S)
  | 0 => fun _ _ _ _ _ _ _ _ => none
  | n + 1 => q_X3_walk_B35_b θ G a1 a2 a3 a4 a5 a6 (q_X3_walk_B35 θ G a1 a2 a3 a4 a5 a6 n)
def q_X3_walk_b (θ : sv_T) (G : Nat → sv_T → Int32 → Int32 → Int32 → Int32 → Int32 → Int32 → sv_S → Option (Unit × sv_S)) (a1 : Int32) (a2 : Int32) (a3 : Int32) (a4 : Int32) (a5 : Int32) (a6 : Int32) (σ : sv_S) : Option (Unit × sv_S) :=
 if a5 ≤ (σ.1 24 13) then
 (if a2 ≤ 0 then
 (some ((), σ))
 else
 if a3 < (23 : Int32) then
 (q_X3_walk_B35 θ G a1 a2 a3 a4 a5 a6 sv_N a1 a2 a3 a4 a5 a6 (0 : Int32) σ)
 else
 some ((), σ))
 else
 sp_l (sv_sI σ 24 13 a5) (fun σ26 =>
 sp_l (sv_sI σ26 24 14 a6) (fun σ27 =>
 if a2 ≤ 0 then
 (some ((), σ27))
 else
 if a3 < (23 : Int32) then
 (q_X3_walk_B35 θ G a1 a2 a3 a4 a5 a6 sv_N a1 a2 a3 a4 a5 a6 (0 : Int32) σ27)
 else
 some ((), σ27)))
def q_G3 : Nat → Nat → sv_T → Int32 → Int32 → Int32 → Int32 → Int32 → Int32 → sv_S → Option (Unit × sv_S)
  | 0 => fun _ _ _ _ _ _ _ _ _ => none
  | d + 1 => fun j θ => match j with
    | _ => q_X3_walk_b θ (q_G3 d)
abbrev q_X3_walk (θ : sv_T) (d : Nat) (a1 : Int32) (a2 : Int32) (a3 : Int32) (a4 : Int32) (a5 : Int32) (a6 : Int32) (σ : sv_S) : Option (Unit × sv_S) := q_G3 d 0 θ a1 a2 a3 a4 a5 a6 σ
def q_X3_seek (θ : sv_T) (a1 : Int32) (a2 : Int32) (σ : sv_S) : Option (Int32 × sv_S) :=
 sp_l (sv_sI σ 24 13 (0 : Int32)) (fun σ1 =>
 sp_l (sv_sI σ1 24 14 (0 : Int32)) (fun σ2 =>
 sp_b (q_X3_walk θ 8 a1 a2 (-1 : Int32) (0 : Int32) (0 : Int32) (0 : Int32) σ2) (fun r3 σ4 =>
 some ((σ4.1 24 13), σ4))))
def q_X3_leave_B2_b (θ : sv_T) (a1 : Int32)  (rec : Int32 → Int32 → sv_S → Option (Int32 × sv_S)) (x1 : Int32) (x2 : Int32) (σ : sv_S) : Option (Int32 × sv_S) :=
 if (6 : Int32) ≤ x2 then
 (some ((-1 : Int32), σ))
 else
 sp_b (q_X7_hasBit θ (σ.1 24 11) x2 σ) (fun r2 σ3 =>
 if r2 = 0 then
 (sp_l (x2 + 1) (fun v5 =>
 rec x1 v5 σ3))
 else
 sp_b (q_X3_seek θ ((σ3.1 24 11) &&& (((1 : Int32) <<< (x2 &&& 31)) ^^^ (-1 : Int32))) (6 : Int32) σ3) (fun r6 σ7 =>
 if r6 < x1 then
 (sp_l (x2 + 1) (fun v9 =>
 rec x1 v9 σ7))
 else
 some (x2, σ7)))
def q_X3_leave_B2 (θ : sv_T) (a1 : Int32)  : Nat → Int32 → Int32 → sv_S → Option (Int32 × sv_S)
  | 0 => fun _ _ _ => none
  | n + 1 => q_X3_leave_B2_b θ a1 (q_X3_leave_B2 θ a1 n)
def q_X3_leave (θ : sv_T) (a1 : Int32) (σ : sv_S) : Option (Int32 × sv_S) :=
 q_X3_leave_B2 θ a1 sv_N a1 (0 : Int32) σ
def q_X3_waterOne_B84 (θ : sv_T) (a2 : Int32) (a3 : Int32) (a4 : Int32)  (x2 : Int32) (x3 : Int32) (x4 : Int32) (x5 : Int32) (σ : sv_S) : Option (Unit × sv_S) :=
 sp_b (q_X7_put θ 27 ((x3 * (24 : Int32)) + x4) x5 σ) (fun r12 σ13 =>
 sp_b (q_X3_learn θ x2 x4 σ13) (fun r14 σ15 =>
 some ((), σ15)))
def q_X3_waterOne (θ : sv_T) (a2 : Int32) (a3 : Int32) (a4 : Int32) (σ : sv_S) : Option (Unit × sv_S) :=
 sp_b (q_X7_at θ 27 ((a3 * (24 : Int32)) + a4) σ) (fun r1 σ2 =>
 sp_b (q_X7_put θ 27 ((a3 * (24 : Int32)) + a4) (9 : Int32) σ2) (fun r3 σ4 =>
 sp_b (q_X3_learn θ a2 a4 σ4) (fun r5 σ6 =>
 sp_b (q_X3_fillEnds θ a2 σ6) (fun r7 σ8 =>
 sp_b (q_X3_seek θ (σ8.1 24 11) (6 : Int32) σ8) (fun r9 σ10 =>
 if r9 ≤ (σ10.1 24 16) then
 (q_X3_waterOne_B84 θ a2 a3 a4 a2 a3 a4 r1 σ10)
 else
 sp_l (sv_sI σ10 24 16 r9) (fun σ16 =>
 sp_l (sv_sI σ16 24 15 (((100 : Int32) * a3) + a4)) (fun σ17 =>
 q_X3_waterOne_B84 θ a2 a3 a4 a2 a3 a4 r1 σ17)))))))
def q_X3_waterAll_B48_b (θ : sv_T)  (k21 : Int32 → sv_S → Option (Unit × sv_S)) (rec : Int32 → Int32 → Int32 → sv_S → Option (Unit × sv_S)) (x2 : Int32) (x3 : Int32) (x4 : Int32) (σ : sv_S) : Option (Unit × sv_S) :=
 if (24 : Int32) ≤ x4 then
 (sp_b (q_X3_fillEnds θ x3 σ) (fun r10 σ11 =>
 sp_l (x2 + 1) (fun v12 =>
 k21 v12 σ11)))
 else
 if x3 = 0 then
 (sp_b (q_X3_fillEnds θ x3 σ) (fun r14 σ15 =>
 sp_l (x2 + 1) (fun v16 =>
 k21 v16 σ15)))
 else
 sp_b (q_X3_waterOne θ x3 x2 x4 σ) (fun r17 σ18 =>
 sp_l (x4 + 1) (fun v19 =>
 rec x2 x3 v19 σ18))
def q_X3_waterAll_B48 (θ : sv_T)  (k21 : Int32 → sv_S → Option (Unit × sv_S)) : Nat → Int32 → Int32 → Int32 → sv_S → Option (Unit × sv_S)
  | 0 => fun _ _ _ _ => none
  | n + 1 => q_X3_waterAll_B48_b θ  k21 (q_X3_waterAll_B48 θ  k21 n)
def q_X3_waterAll_B21_b (θ : sv_T)   (rec : Int32 → sv_S → Option (Unit × sv_S)) (x2 : Int32) (σ : sv_S) : Option (Unit × sv_S) :=
 if (2 : Int32) ≤ x2 then
 (some ((), σ))
 else
 sp_b (q_X2_inStreet θ x2 σ) (fun r6 σ7 =>
 sp_l ((σ.1 24 11) &&& r6) (fun v8 =>
 q_X3_waterAll_B48 θ  rec sv_N x2 v8 (0 : Int32) σ7))
def q_X3_waterAll_B21 (θ : sv_T)   : Nat → Int32 → sv_S → Option (Unit × sv_S)
  | 0 => fun _ _ => none
  | n + 1 => q_X3_waterAll_B21_b θ  (q_X3_waterAll_B21 θ  n)
def q_X3_waterAll (θ : sv_T)  (σ : sv_S) : Option (Unit × sv_S) :=
 sp_l (sv_sI σ 24 15 (-1 : Int32)) (fun σ1 =>
 sp_b (q_X3_seek θ (σ1.1 24 11) (6 : Int32) σ1) (fun r2 σ3 =>
 sp_l (sv_sI σ3 24 16 r2) (fun σ4 =>
 q_X3_waterAll_B21 θ  sv_N (0 : Int32) σ4)))
def q_X4_append (θ : sv_T) (a1 : Int32) (σ : sv_S) : Option (Int32 × sv_S) :=
 if (σ.1 13 0) < (160 : Int32) then
 (sp_b (q_X7_put θ 14 (σ.1 13 0) a1 σ) (fun r2 σ3 =>
 sp_l (sv_sI σ3 13 0 ((σ3.1 13 0) + (1 : Int32))) (fun σ4 =>
 some ((1 : Int32), σ4))))
 else
 some ((0 : Int32), σ)
def q_X4_byteAt (θ : sv_T) (a1 : Int32) (σ : sv_S) : Option (Int32 × sv_S) :=
 if a1 < 0 then
 (some ((-1 : Int32), σ))
 else
 if (σ.1 13 0) ≤ a1 then
 (some ((-1 : Int32), σ))
 else
 if (160 : Int32) ≤ a1 then
 (some ((-1 : Int32), σ))
 else
 if (a1 < 0 ∨ 160 ≤ a1.toNatClampNeg) then none else
 some ((σ.1 14 a1.toNatClampNeg), σ)
def q_X4_isLetter (θ : sv_T) (a1 : Int32) (σ : sv_S) : Option (Int32 × sv_S) :=
 if a1 < (97 : Int32) then
 (some ((0 : Int32), σ))
 else
 if (122 : Int32) < a1 then
 (some ((0 : Int32), σ))
 else
 some ((1 : Int32), σ)
def q_J0_coder_7d493 (θ : sv_T) (kq : Nat) (σ : sv_S) : Option (Int32 × sv_S) :=
 some ((0 : Int32), σ)
def q_J0_length_8abf5 (θ : sv_T) (kq : Nat) (σ : sv_S) : Option (Int32 × sv_S) :=
 sp_b (q_J0_coder_7d493 θ kq σ) (fun r1 σ2 =>
 some (((Int32.ofNat (sx_slen.getD kq 0)) >>> (r1 &&& 31)), σ2))
def q_J0_isLatin1_aae02 (θ : sv_T) (kq : Nat) (σ : sv_S) : Option (Int32 × sv_S) :=
 some ((1 : Int32), σ)
def q_J3_checkIndex_8e157 (θ : sv_T) (a1 : Int32) (a2 : Int32) (σ : sv_S) : Option (Int32 × sv_S) :=
 if a1 < 0 then
 (none)
 else
 if a1 < a2 then
 (some (a1, σ))
 else
 none
def q_J0_checkIndex_df160 (θ : sv_T) (a1 : Int32) (a2 : Int32) (σ : sv_S) : Option (Unit × sv_S) :=
 sp_b (q_J3_checkIndex_8e157 θ a1 a2 σ) (fun r2 σ3 =>
 some ((), σ3))
def q_J1_charAt_3b067 (θ : sv_T) (kq : Nat) (a2 : Int32) (σ : sv_S) : Option (Int32 × sv_S) :=
 sp_b (q_J0_checkIndex_df160 θ a2 (Int32.ofNat (sx_slen.getD kq 0)) σ) (fun r1 σ2 =>
 if (a2 < 0 ∨ (sx_slen.getD kq 0) ≤ a2.toNatClampNeg) then none else
 sp_l (((((sx_sbyt.getD kq []).getD a2.toNatClampNeg 0) &&& (255 : Int32)).toUInt32 % 65536).toInt32) (fun v5 =>
 if v5.toUInt32.toUInt16.toUInt32.toInt32 = v5 then some (v5, σ2) else none))
def q_J0_charAt_5068e (θ : sv_T) (kq : Nat) (a1 : Int32) (σ : sv_S) : Option (Int32 × sv_S) :=
 sp_b (q_J0_isLatin1_aae02 θ kq σ) (fun r1 σ2 =>
 if r1 = 0 then
 (none)
 else
 sp_b (q_J1_charAt_3b067 θ kq a1 σ2) (fun r4 σ5 =>
 if r4.toUInt32.toUInt16.toUInt32.toInt32 = r4 then some (r4, σ5) else none))
def q_X4_wordLetter (θ : sv_T) (a1 : Int32) (σ : sv_S) : Option (Int32 × sv_S) :=
 if a1 < 0 then
 (some ((-1 : Int32), σ))
 else
 sp_b (q_J0_length_8abf5 θ 1 σ) (fun r2 σ3 =>
 if r2 ≤ a1 then
 (some ((-1 : Int32), σ3))
 else
 sp_b (q_J0_charAt_5068e θ 1 a1 σ3) (fun r5 σ6 =>
 some (r5, σ6)))
def q_X4_wordNumber_B46 (θ : sv_T) (a1 : Int32) (a2 : Int32) (k20 : Int32 → Int32 → Int32 → Int32 → Int32 → sv_S → Option (Int32 × sv_S)) (x1 : Int32) (x2 : Int32) (x3 : Int32) (x4 : Int32) (x5 : Int32) (w0 : Int32) (σ : sv_S) : Option (Int32 × sv_S) :=
 sp_b (q_X4_wordLetter θ ((x3 * (6 : Int32)) + x5) σ) (fun r10 σ11 =>
 if r10 = w0 then
 (sp_l (x4 + (1 : Int32)) (fun v15 =>
 sp_l (x5 + 1) (fun v16 =>
 k20 x1 x2 x3 v15 v16 σ11)))
 else
 sp_l (x4 + (0 : Int32)) (fun v13 =>
 sp_l (x5 + 1) (fun v14 =>
 k20 x1 x2 x3 v13 v14 σ11)))
def q_X4_wordNumber_B20_b (θ : sv_T) (a1 : Int32) (a2 : Int32) (k2 : Int32 → Int32 → Int32 → sv_S → Option (Int32 × sv_S)) (rec : Int32 → Int32 → Int32 → Int32 → Int32 → sv_S → Option (Int32 × sv_S)) (x1 : Int32) (x2 : Int32) (x3 : Int32) (x4 : Int32) (x5 : Int32) (σ : sv_S) : Option (Int32 × sv_S) :=
 if (6 : Int32) ≤ x5 then
 (if x4 = (6 : Int32) then
 (if (6 : Int32) < x2 then
 (sp_l (x3 + 1) (fun v8 =>
 k2 x1 x2 v8 σ))
 else
 some (x3, σ))
 else
 sp_l (x3 + 1) (fun v6 =>
 k2 x1 x2 v6 σ))
 else
 if x2 ≤ x5 then
 (q_X4_wordNumber_B46 θ a1 a2 rec x1 x2 x3 x4 x5 (32 : Int32) σ)
 else
 sp_b (q_X4_byteAt θ (x1 + x5) σ) (fun r17 σ18 =>
 q_X4_wordNumber_B46 θ a1 a2 rec x1 x2 x3 x4 x5 r17 σ18)
def q_X4_wordNumber_B20 (θ : sv_T) (a1 : Int32) (a2 : Int32) (k2 : Int32 → Int32 → Int32 → sv_S → Option (Int32 × sv_S)) : Nat → Int32 → Int32 → Int32 → Int32 → Int32 → sv_S → Option (Int32 × sv_S)
  | 0 => fun _ _ _ _ _ _ => none
  | n + 1 => q_X4_wordNumber_B20_b θ a1 a2 k2 (q_X4_wordNumber_B20 θ a1 a2 k2 n)
def q_X4_wordNumber_B2_b (θ : sv_T) (a1 : Int32) (a2 : Int32)  (rec : Int32 → Int32 → Int32 → sv_S → Option (Int32 × sv_S)) (x1 : Int32) (x2 : Int32) (x3 : Int32) (σ : sv_S) : Option (Int32 × sv_S) :=
 sp_b (q_J0_length_8abf5 θ 1 σ) (fun r1 σ2 =>
 if (r1 / (6 : Int32)) ≤ x3 then
 (some ((-1 : Int32), σ2))
 else
 q_X4_wordNumber_B20 θ a1 a2 rec sv_N x1 x2 x3 (0 : Int32) (0 : Int32) σ2)
def q_X4_wordNumber_B2 (θ : sv_T) (a1 : Int32) (a2 : Int32)  : Nat → Int32 → Int32 → Int32 → sv_S → Option (Int32 × sv_S)
  | 0 => fun _ _ _ _ => none
  | n + 1 => q_X4_wordNumber_B2_b θ a1 a2 (q_X4_wordNumber_B2 θ a1 a2 n)
def q_X4_wordNumber (θ : sv_T) (a1 : Int32) (a2 : Int32) (σ : sv_S) : Option (Int32 × sv_S) :=
 q_X4_wordNumber_B2 θ a1 a2 sv_N a1 a2 (0 : Int32) σ
def q_X4_addToken (θ : sv_T) (a1 : Int32) (a2 : Int32) (a3 : Int32) (σ : sv_S) : Option (Unit × sv_S) :=
 sp_b (q_X7_put θ 15 (σ.1 13 6) a1 σ) (fun r1 σ2 =>
 sp_b (q_X7_put θ 16 (σ2.1 13 6) a2 σ2) (fun r3 σ4 =>
 sp_b (q_X7_put θ 17 (σ4.1 13 6) a3 σ4) (fun r5 σ6 =>
 sp_l (sv_sI σ6 13 6 ((σ6.1 13 6) + (1 : Int32))) (fun σ7 =>
 some ((), σ7)))))
def q_X4_scanWord_B32 (θ : sv_T) (a1 : Int32)  (x1 : Int32) (x2 : Int32) (σ : sv_S) : Option (Int32 × sv_S) :=
 sp_b (q_X4_wordNumber θ x1 x2 σ) (fun r2 σ3 =>
 if r2 = (-1 : Int32) then
 (sp_b (q_X4_addToken θ (-1 : Int32) x1 (0 : Int32) σ3) (fun r10 σ11 =>
 some (x2, σ11)))
 else
 if (6 : Int32) ≤ r2 then
 (sp_b (q_X4_addToken θ (((3 : Int32) + r2) - (6 : Int32)) x1 (0 : Int32) σ3) (fun r6 σ7 =>
 some (x2, σ7)))
 else
 sp_b (q_X4_addToken θ (2 : Int32) x1 ((-100 : Int32) - r2) σ3) (fun r8 σ9 =>
 some (x2, σ9)))
def q_X4_scanWord_B4_b (θ : sv_T) (a1 : Int32)  (rec : Int32 → Int32 → Int32 → sv_S → Option (Int32 × sv_S)) (x1 : Int32) (x2 : Int32) (x3 : Int32) (σ : sv_S) : Option (Int32 × sv_S) :=
 if (σ.1 13 0) ≤ x3 then
 (q_X4_scanWord_B32 θ a1 x1 x2 σ)
 else
 sp_b (q_X4_byteAt θ x3 σ) (fun r12 σ13 =>
 sp_b (q_X4_isLetter θ r12 σ13) (fun r14 σ15 =>
 if r14 = 0 then
 (q_X4_scanWord_B32 θ a1 x1 x2 σ15)
 else
 sp_l (x2 + 1) (fun v17 =>
 sp_l (x3 + 1) (fun v18 =>
 rec x1 v17 v18 σ15))))
def q_X4_scanWord_B4 (θ : sv_T) (a1 : Int32)  : Nat → Int32 → Int32 → Int32 → sv_S → Option (Int32 × sv_S)
  | 0 => fun _ _ _ _ => none
  | n + 1 => q_X4_scanWord_B4_b θ a1 (q_X4_scanWord_B4 θ a1 n)
def q_X4_scanWord (θ : sv_T) (a1 : Int32) (σ : sv_S) : Option (Int32 × sv_S) :=
 q_X4_scanWord_B4 θ a1 sv_N a1 (0 : Int32) a1 σ
def q_X4_isDigit (θ : sv_T) (a1 : Int32) (σ : sv_S) : Option (Int32 × sv_S) :=
 if a1 < (48 : Int32) then
 (some ((0 : Int32), σ))
 else
 if (57 : Int32) < a1 then
 (some ((0 : Int32), σ))
 else
 some ((1 : Int32), σ)
def q_X4_scanNumber_B61 (θ : sv_T) (a1 : Int32)  (x1 : Int32) (x2 : Int32) (x3 : Int32) (σ : sv_S) : Option (Int32 × sv_S) :=
 if (4 : Int32) < x2 then
 (sp_b (q_X4_addToken θ (-1 : Int32) x1 x3 σ) (fun r3 σ4 =>
 some (x2, σ4)))
 else
 sp_b (q_X4_addToken θ (1 : Int32) x1 x3 σ) (fun r5 σ6 =>
 some (x2, σ6))
def q_X4_scanNumber_B7_b (θ : sv_T) (a1 : Int32)  (rec : Int32 → Int32 → Int32 → Int32 → sv_S → Option (Int32 × sv_S)) (x1 : Int32) (x2 : Int32) (x3 : Int32) (x4 : Int32) (σ : sv_S) : Option (Int32 × sv_S) :=
 if (σ.1 13 0) ≤ x4 then
 (q_X4_scanNumber_B61 θ a1 x1 x2 x3 σ)
 else
 sp_b (q_X4_byteAt θ x4 σ) (fun r7 σ8 =>
 sp_b (q_X4_isDigit θ r7 σ8) (fun r9 σ10 =>
 if r9 = 0 then
 (q_X4_scanNumber_B61 θ a1 x1 x2 x3 σ10)
 else
 if (4 : Int32) ≤ x2 then
 (sp_l (x2 + 1) (fun v13 =>
 sp_l (x4 + 1) (fun v14 =>
 rec x1 v13 x3 v14 σ10)))
 else
 sp_b (q_X4_byteAt θ x4 σ10) (fun r15 σ16 =>
 sp_l (((x3 * (10 : Int32)) + r15) - (48 : Int32)) (fun v17 =>
 sp_l (x2 + 1) (fun v18 =>
 sp_l (x4 + 1) (fun v19 =>
 rec x1 v18 v17 v19 σ16))))))
def q_X4_scanNumber_B7 (θ : sv_T) (a1 : Int32)  : Nat → Int32 → Int32 → Int32 → Int32 → sv_S → Option (Int32 × sv_S)
  | 0 => fun _ _ _ _ _ => none
  | n + 1 => q_X4_scanNumber_B7_b θ a1 (q_X4_scanNumber_B7 θ a1 n)
def q_X4_scanNumber (θ : sv_T) (a1 : Int32) (σ : sv_S) : Option (Int32 × sv_S) :=
 q_X4_scanNumber_B7 θ a1 sv_N a1 (0 : Int32) (0 : Int32) a1 σ
def q_X4_isSign_B12 (θ : sv_T) (a1 : Int32)  (x0 : Int32) (σ : sv_S) : Option (Int32 × sv_S) :=
 if x0 = (45 : Int32) then
 (some ((1 : Int32), σ))
 else
 if x0 < (59 : Int32) then
 (some ((0 : Int32), σ))
 else
 if (61 : Int32) < x0 then
 (some ((0 : Int32), σ))
 else
 some ((1 : Int32), σ)
def q_X4_isSign (θ : sv_T) (a1 : Int32) (σ : sv_S) : Option (Int32 × sv_S) :=
 if a1 < (40 : Int32) then
 (q_X4_isSign_B12 θ a1 a1 σ)
 else
 if a1 ≤ (43 : Int32) then
 (some ((1 : Int32), σ))
 else
 q_X4_isSign_B12 θ a1 a1 σ
def q_X4_scanOne (θ : sv_T) (a1 : Int32) (σ : sv_S) : Option (Int32 × sv_S) :=
 sp_b (q_X4_byteAt θ a1 σ) (fun r1 σ2 =>
 sp_b (q_X4_isLetter θ r1 σ2) (fun r3 σ4 =>
 if r3 = 0 then
 (sp_b (q_X4_isDigit θ r1 σ4) (fun r6 σ7 =>
 if r6 = 0 then
 (if r1 = (32 : Int32) then
 (some ((1 : Int32), σ7))
 else
 if r1 = (10 : Int32) then
 (some ((1 : Int32), σ7))
 else
 sp_b (q_X4_isSign θ r1 σ7) (fun r11 σ12 =>
 if r11 = 0 then
 (sp_b (q_X4_addToken θ (-1 : Int32) a1 (0 : Int32) σ12) (fun r14 σ15 =>
 some ((1 : Int32), σ15)))
 else
 sp_b (q_X4_addToken θ r1 a1 (0 : Int32) σ12) (fun r16 σ17 =>
 some ((1 : Int32), σ17))))
 else
 sp_b (q_X4_scanNumber θ a1 σ7) (fun r18 σ19 =>
 some (r18, σ19))))
 else
 sp_b (q_X4_scanWord θ a1 σ4) (fun r20 σ21 =>
 some (r20, σ21))))
def q_X4_scan_B9_b (θ : sv_T)   (rec : Int32 → Int32 → sv_S → Option (Unit × sv_S)) (x1 : Int32) (x2 : Int32) (σ : sv_S) : Option (Unit × sv_S) :=
 if (σ.1 13 0) ≤ x2 then
 (sp_b (q_X4_addToken θ (0 : Int32) (σ.1 13 0) (0 : Int32) σ) (fun r3 σ4 =>
 some ((), σ4)))
 else
 if x2 < x1 then
 (sp_l (x2 + 1) (fun v6 =>
 rec x1 v6 σ))
 else
 sp_b (q_X4_scanOne θ x2 σ) (fun r7 σ8 =>
 sp_l (x2 + r7) (fun v9 =>
 sp_l (x2 + 1) (fun v10 =>
 rec v9 v10 σ8)))
def q_X4_scan_B9 (θ : sv_T)   : Nat → Int32 → Int32 → sv_S → Option (Unit × sv_S)
  | 0 => fun _ _ _ => none
  | n + 1 => q_X4_scan_B9_b θ  (q_X4_scan_B9 θ  n)
def q_X4_scan (θ : sv_T)  (σ : sv_S) : Option (Unit × sv_S) :=
 sp_l (sv_sI σ 13 6 (0 : Int32)) (fun σ1 =>
 q_X4_scan_B9 θ  sv_N (0 : Int32) (0 : Int32) σ1)
def q_X4_token (θ : sv_T)  (σ : sv_S) : Option (Int32 × sv_S) :=
 if (σ.1 13 1) = (-1 : Int32) then
 (sp_b (q_X7_at θ 15 (σ.1 13 7) σ) (fun r2 σ3 =>
 some (r2, σ3)))
 else
 some ((-1 : Int32), σ)
def q_X4_fail (θ : sv_T)  (σ : sv_S) : Option (Unit × sv_S) :=
 if (σ.1 13 1) = (-1 : Int32) then
 (sp_b (q_X7_at θ 16 (σ.1 13 7) σ) (fun r2 σ3 =>
 sp_l (sv_sI σ3 13 1 r2) (fun σ4 =>
 some ((), σ4))))
 else
 some ((), σ)
def q_X4_expect (θ : sv_T) (a1 : Int32) (σ : sv_S) : Option (Unit × sv_S) :=
 sp_b (q_X4_token θ σ) (fun r1 σ2 =>
 if r1 = a1 then
 (sp_l (sv_sI σ2 13 7 ((σ2.1 13 7) + (1 : Int32))) (fun σ6 =>
 some ((), σ6)))
 else
 sp_b (q_X4_fail θ σ2) (fun r4 σ5 =>
 some ((), σ5)))
def q_X4_emit (θ : sv_T) (a1 : Int32) (σ : sv_S) : Option (Unit × sv_S) :=
 sp_b (q_X7_put θ 18 (σ.1 13 10) a1 σ) (fun r1 σ2 =>
 sp_l (sv_sI σ2 13 10 ((σ2.1 13 10) + (1 : Int32))) (fun σ3 =>
 some ((), σ3)))
def q_X4_readOne_B15 (θ : sv_T) (G : Nat → sv_T → Int32 → sv_S → Option (Unit × sv_S)) (a1 : Int32)   (σ : sv_S) : Option (Unit × sv_S) :=
 sp_b (q_X7_at θ 17 (σ.1 13 7) σ) (fun r4 σ5 =>
 sp_b (q_X4_emit θ r4 σ5) (fun r6 σ7 =>
 sp_l (sv_sI σ7 13 7 ((σ7.1 13 7) + (1 : Int32))) (fun σ8 =>
 some ((), σ8))))
def q_X4_readOne_B80 (θ : sv_T) (G : Nat → sv_T → Int32 → sv_S → Option (Unit × sv_S)) (a1 : Int32)  (x1 : Int32) (x2 : Int32) (σ : sv_S) : Option (Unit × sv_S) :=
 if (5 : Int32) ≤ x1 then
 (sp_b (q_X4_fail θ σ) (fun r12 σ13 =>
 some ((), σ13)))
 else
 if x2 = (40 : Int32) then
 (sp_l (sv_sI σ 13 7 ((σ.1 13 7) + (1 : Int32))) (fun σ17 =>
 sp_b (G 0 θ (x1 + (1 : Int32)) σ17) (fun r18 σ19 =>
 sp_b (q_X4_expect θ (41 : Int32) σ19) (fun r20 σ21 =>
 some ((), σ21)))))
 else
 sp_b (q_X4_fail θ σ) (fun r15 σ16 =>
 some ((), σ16))
def q_X4_readOne_b (θ : sv_T) (G : Nat → sv_T → Int32 → sv_S → Option (Unit × sv_S)) (a1 : Int32) (σ : sv_S) : Option (Unit × sv_S) :=
 sp_b (q_X4_token θ σ) (fun r1 σ2 =>
 if r1 = (1 : Int32) then
 (q_X4_readOne_B15 θ G a1 σ2)
 else
 if r1 = (2 : Int32) then
 (q_X4_readOne_B15 θ G a1 σ2)
 else
 if (5 : Int32) ≤ a1 then
 (q_X4_readOne_B80 θ G a1 a1 r1 σ2)
 else
 if r1 = (45 : Int32) then
 (sp_l (sv_sI σ2 13 7 ((σ2.1 13 7) + (1 : Int32))) (fun σ23 =>
 sp_b (G 5 θ (a1 + (1 : Int32)) σ23) (fun r24 σ25 =>
 sp_b (q_X4_emit θ (-9 : Int32) σ25) (fun r26 σ27 =>
 some ((), σ27)))))
 else
 q_X4_readOne_B80 θ G a1 a1 r1 σ2)
def q_X4_readTerm_B7_b (θ : sv_T) (G : Nat → sv_T → Int32 → sv_S → Option (Unit × sv_S)) (a1 : Int32)  (rec : Int32 → Int32 → sv_S → Option (Unit × sv_S)) (x1 : Int32) (x2 : Int32) (σ : sv_S) : Option (Unit × sv_S) :=
 if (160 : Int32) ≤ x2 then
 (some ((), σ))
 else
 sp_b (q_X4_token θ σ) (fun r4 σ5 =>
 if r4 = (42 : Int32) then
 (sp_l (sv_sI σ5 13 7 ((σ5.1 13 7) + (1 : Int32))) (fun σ7 =>
 sp_b (G 5 θ x1 σ7) (fun r8 σ9 =>
 sp_b (q_X4_emit θ (-42 : Int32) σ9) (fun r10 σ11 =>
 sp_l (x2 + 1) (fun v12 =>
 rec x1 v12 σ11)))))
 else
 some ((), σ5))
def q_X4_readTerm_B7 (θ : sv_T) (G : Nat → sv_T → Int32 → sv_S → Option (Unit × sv_S)) (a1 : Int32)  : Nat → Int32 → Int32 → sv_S → Option (Unit × sv_S)
  | 0 => fun _ _ _ => none
  | n + 1 => q_X4_readTerm_B7_b θ G a1 (q_X4_readTerm_B7 θ G a1 n)
def q_X4_readTerm_b (θ : sv_T) (G : Nat → sv_T → Int32 → sv_S → Option (Unit × sv_S)) (a1 : Int32) (σ : sv_S) : Option (Unit × sv_S) :=
 sp_b (G 5 θ a1 σ) (fun r1 σ2 =>
 q_X4_readTerm_B7 θ G a1 sv_N a1 (0 : Int32) σ2)
def q_X4_readSum_B31 (θ : sv_T) (G : Nat → sv_T → Int32 → sv_S → Option (Unit × sv_S)) (a1 : Int32) (k12 : Int32 → Int32 → Int32 → sv_S → Option (Unit × sv_S)) (x1 : Int32) (x2 : Int32) (x3 : Int32) (σ : sv_S) : Option (Unit × sv_S) :=
 sp_l (sv_sI σ 13 7 ((σ.1 13 7) + (1 : Int32))) (fun σ7 =>
 sp_b (G 4 θ x1 σ7) (fun r8 σ9 =>
 sp_b (q_X4_emit θ (-x2) σ9) (fun r10 σ11 =>
 sp_b (q_X4_token θ σ11) (fun r12 σ13 =>
 sp_l (x3 + 1) (fun v14 =>
 k12 x1 r12 v14 σ13)))))
def q_X4_readSum_B12_b (θ : sv_T) (G : Nat → sv_T → Int32 → sv_S → Option (Unit × sv_S)) (a1 : Int32)  (rec : Int32 → Int32 → Int32 → sv_S → Option (Unit × sv_S)) (x1 : Int32) (x2 : Int32) (x3 : Int32) (σ : sv_S) : Option (Unit × sv_S) :=
 if (160 : Int32) ≤ x3 then
 (some ((), σ))
 else
 if x2 = (43 : Int32) then
 (q_X4_readSum_B31 θ G a1 rec x1 x2 x3 σ)
 else
 if x2 = (45 : Int32) then
 (q_X4_readSum_B31 θ G a1 rec x1 x2 x3 σ)
 else
 some ((), σ)
def q_X4_readSum_B12 (θ : sv_T) (G : Nat → sv_T → Int32 → sv_S → Option (Unit × sv_S)) (a1 : Int32)  : Nat → Int32 → Int32 → Int32 → sv_S → Option (Unit × sv_S)
  | 0 => fun _ _ _ _ => none
  | n + 1 => q_X4_readSum_B12_b θ G a1 (q_X4_readSum_B12 θ G a1 n)
def q_X4_readSum_b (θ : sv_T) (G : Nat → sv_T → Int32 → sv_S → Option (Unit × sv_S)) (a1 : Int32) (σ : sv_S) : Option (Unit × sv_S) :=
 sp_b (G 4 θ a1 σ) (fun r1 σ2 =>
 sp_b (q_X4_token θ σ2) (fun r3 σ4 =>
 q_X4_readSum_B12 θ G a1 sv_N a1 r3 (0 : Int32) σ4))
def q_X4_readNot_B65 (θ : sv_T) (G : Nat → sv_T → Int32 → sv_S → Option (Unit × sv_S)) (a1 : Int32)  (x1 : Int32) (x2 : Int32) (σ : sv_S) : Option (Unit × sv_S) :=
 sp_l (sv_sI σ 13 7 ((σ.1 13 7) + (1 : Int32))) (fun σ9 =>
 sp_b (G 3 θ x1 σ9) (fun r10 σ11 =>
 sp_b (q_X4_emit θ (-x2) σ11) (fun r12 σ13 =>
 some ((), σ13))))
def q_X4_readNot_b (θ : sv_T) (G : Nat → sv_T → Int32 → sv_S → Option (Unit × sv_S)) (a1 : Int32) (σ : sv_S) : Option (Unit × sv_S) :=
 sp_b (q_X4_token θ σ) (fun r1 σ2 =>
 if r1 = (8 : Int32) then
 (if a1 < (5 : Int32) then
 (sp_l (sv_sI σ2 13 7 ((σ2.1 13 7) + (1 : Int32))) (fun σ16 =>
 sp_b (G 2 θ (a1 + (1 : Int32)) σ16) (fun r17 σ18 =>
 sp_b (q_X4_emit θ (-8 : Int32) σ18) (fun r19 σ20 =>
 some ((), σ20)))))
 else
 sp_b (q_X4_fail θ σ2) (fun r21 σ22 =>
 some ((), σ22)))
 else
 sp_b (G 3 θ a1 σ2) (fun r4 σ5 =>
 sp_b (q_X4_token θ σ5) (fun r6 σ7 =>
 if r6 = (60 : Int32) then
 (q_X4_readNot_B65 θ G a1 a1 r6 σ7)
 else
 if r6 = (61 : Int32) then
 (q_X4_readNot_B65 θ G a1 a1 r6 σ7)
 else
 some ((), σ7))))
def q_X4_readAnd_B7_b (θ : sv_T) (G : Nat → sv_T → Int32 → sv_S → Option (Unit × sv_S)) (a1 : Int32)  (rec : Int32 → Int32 → sv_S → Option (Unit × sv_S)) (x1 : Int32) (x2 : Int32) (σ : sv_S) : Option (Unit × sv_S) :=
 if (160 : Int32) ≤ x2 then
 (some ((), σ))
 else
 sp_b (q_X4_token θ σ) (fun r4 σ5 =>
 if r4 = (7 : Int32) then
 (sp_l (sv_sI σ5 13 7 ((σ5.1 13 7) + (1 : Int32))) (fun σ7 =>
 sp_b (G 2 θ x1 σ7) (fun r8 σ9 =>
 sp_b (q_X4_emit θ (-7 : Int32) σ9) (fun r10 σ11 =>
 sp_l (x2 + 1) (fun v12 =>
 rec x1 v12 σ11)))))
 else
 some ((), σ5))
def q_X4_readAnd_B7 (θ : sv_T) (G : Nat → sv_T → Int32 → sv_S → Option (Unit × sv_S)) (a1 : Int32)  : Nat → Int32 → Int32 → sv_S → Option (Unit × sv_S)
  | 0 => fun _ _ _ => none
  | n + 1 => q_X4_readAnd_B7_b θ G a1 (q_X4_readAnd_B7 θ G a1 n)
def q_X4_readAnd_b (θ : sv_T) (G : Nat → sv_T → Int32 → sv_S → Option (Unit × sv_S)) (a1 : Int32) (σ : sv_S) : Option (Unit × sv_S) :=
 sp_b (G 2 θ a1 σ) (fun r1 σ2 =>
 q_X4_readAnd_B7 θ G a1 sv_N a1 (0 : Int32) σ2)
def q_X4_readOr_B7_b (θ : sv_T) (G : Nat → sv_T → Int32 → sv_S → Option (Unit × sv_S)) (a1 : Int32)  (rec : Int32 → Int32 → sv_S → Option (Unit × sv_S)) (x1 : Int32) (x2 : Int32) (σ : sv_S) : Option (Unit × sv_S) :=
 if (160 : Int32) ≤ x2 then
 (some ((), σ))
 else
 sp_b (q_X4_token θ σ) (fun r4 σ5 =>
 if r4 = (6 : Int32) then
 (sp_l (sv_sI σ5 13 7 ((σ5.1 13 7) + (1 : Int32))) (fun σ7 =>
 sp_b (G 1 θ x1 σ7) (fun r8 σ9 =>
 sp_b (q_X4_emit θ (-6 : Int32) σ9) (fun r10 σ11 =>
 sp_l (x2 + 1) (fun v12 =>
 rec x1 v12 σ11)))))
 else
 some ((), σ5))
def q_X4_readOr_B7 (θ : sv_T) (G : Nat → sv_T → Int32 → sv_S → Option (Unit × sv_S)) (a1 : Int32)  : Nat → Int32 → Int32 → sv_S → Option (Unit × sv_S)
  | 0 => fun _ _ _ => none
  | n + 1 => q_X4_readOr_B7_b θ G a1 (q_X4_readOr_B7 θ G a1 n)
def q_X4_readOr_b (θ : sv_T) (G : Nat → sv_T → Int32 → sv_S → Option (Unit × sv_S)) (a1 : Int32) (σ : sv_S) : Option (Unit × sv_S) :=
 sp_b (G 1 θ a1 σ) (fun r1 σ2 =>
 q_X4_readOr_B7 θ G a1 sv_N a1 (0 : Int32) σ2)
def q_G4 : Nat → Nat → sv_T → Int32 → sv_S → Option (Unit × sv_S)
  | 0 => fun _ _ _ _ => none
  | d + 1 => fun j θ => match j with
    | 0 => q_X4_readOr_b θ (q_G4 d)
    | 1 => q_X4_readAnd_b θ (q_G4 d)
    | 2 => q_X4_readNot_b θ (q_G4 d)
    | 3 => q_X4_readSum_b θ (q_G4 d)
    | 4 => q_X4_readTerm_b θ (q_G4 d)
    | _ => q_X4_readOne_b θ (q_G4 d)
abbrev q_X4_readOr (θ : sv_T) (d : Nat) (a1 : Int32) (σ : sv_S) : Option (Unit × sv_S) := q_G4 d 0 θ a1 σ
abbrev q_X4_readAnd (θ : sv_T) (d : Nat) (a1 : Int32) (σ : sv_S) : Option (Unit × sv_S) := q_G4 d 1 θ a1 σ
abbrev q_X4_readNot (θ : sv_T) (d : Nat) (a1 : Int32) (σ : sv_S) : Option (Unit × sv_S) := q_G4 d 2 θ a1 σ
abbrev q_X4_readSum (θ : sv_T) (d : Nat) (a1 : Int32) (σ : sv_S) : Option (Unit × sv_S) := q_G4 d 3 θ a1 σ
abbrev q_X4_readTerm (θ : sv_T) (d : Nat) (a1 : Int32) (σ : sv_S) : Option (Unit × sv_S) := q_G4 d 4 θ a1 σ
abbrev q_X4_readOne (θ : sv_T) (d : Nat) (a1 : Int32) (σ : sv_S) : Option (Unit × sv_S) := q_G4 d 5 θ a1 σ
def q_J7_fill_53178_B5_b (θ : sv_T) (b1 : Nat) (a2 : Int32)  (rec : Int32 → Int32 → Int32 → sv_S → Option (Unit × sv_S)) (x1 : Int32) (x2 : Int32) (x3 : Int32) (σ : sv_S) : Option (Unit × sv_S) :=
 if x3 ≤ x2 then
 (some ((), σ))
 else
 if (x2 < 0 ∨ (sv_len θ b1) ≤ x2.toNatClampNeg) then none else
 sp_l (sv_sI σ b1 x2.toNatClampNeg x1) (fun σ4 =>
 sp_l (x2 + 1) (fun v5 =>
 rec x1 v5 x3 σ4))
def q_J7_fill_53178_B5 (θ : sv_T) (b1 : Nat) (a2 : Int32)  : Nat → Int32 → Int32 → Int32 → sv_S → Option (Unit × sv_S)
  | 0 => fun _ _ _ _ => none
  | n + 1 => q_J7_fill_53178_B5_b θ b1 a2 (q_J7_fill_53178_B5 θ b1 a2 n)
def q_J7_fill_53178 (θ : sv_T) (b1 : Nat) (a2 : Int32) (σ : sv_S) : Option (Unit × sv_S) :=
 sp_l (Int32.ofNat (sv_len θ b1)) (fun v1 =>
 q_J7_fill_53178_B5 θ b1 a2 sv_N a2 (0 : Int32) v1 σ)
def q_X5_renew (θ : sv_T) (kr : Nat) (a1 : Int32) (a2 : Int32) (σ : sv_S) : Option (Unit × sv_S) :=
 sp_l (sv_sI σ kr 1 a1) (fun σ1 =>
 sp_b (q_X7_bound θ a2 (0 : Int32) (40 : Int32) σ1) (fun r2 σ3 =>
 sp_l (sv_sI σ3 kr 2 r2) (fun σ4 =>
 sp_b (q_J7_fill_53178 θ (kr + 1) (0 : Int32) σ4) (fun r5 σ6 =>
 some ((), σ6)))))
def q_X5_write (θ : sv_T) (kr : Nat) (a1 : Int32) (a2 : Int32) (σ : sv_S) : Option (Int32 × sv_S) :=
 if a1 < 0 then
 (some ((0 : Int32), σ))
 else
 if (σ.1 kr 2) ≤ a1 then
 (some ((0 : Int32), σ))
 else
 if a1 < (40 : Int32) then
 (if (σ.1 kr 1) = 0 then
 (if (a1 < 0 ∨ 40 ≤ a1.toNatClampNeg) then none else
 sp_l (sv_sI σ (kr + 1) a1.toNatClampNeg (a2.toInt8.toInt32)) (fun σ11 =>
 some ((1 : Int32), σ11)))
 else
 if (σ.1 kr 1) = (1 : Int32) then
 (if (a1 < 0 ∨ 40 ≤ a1.toNatClampNeg) then none else
 sp_l (sv_sI σ (kr + 1) a1.toNatClampNeg (a2.toInt16.toInt32)) (fun σ9 =>
 some ((1 : Int32), σ9)))
 else
 if (a1 < 0 ∨ 40 ≤ a1.toNatClampNeg) then none else
 sp_l (sv_sI σ (kr + 1) a1.toNatClampNeg a2) (fun σ7 =>
 some ((1 : Int32), σ7)))
 else
 some ((0 : Int32), σ)
def q_X5_spans (θ : sv_T) (kr : Nat) (a1 : Int32) (a2 : Int32) (σ : sv_S) : Option (Int32 × sv_S) :=
 if a1 < 0 then
 (some ((0 : Int32), σ))
 else
 if a2 < 0 then
 (some ((0 : Int32), σ))
 else
 if (σ.1 kr 2) < a1 then
 (some ((0 : Int32), σ))
 else
 if ((σ.1 kr 2) - a1) < a2 then
 (some ((0 : Int32), σ))
 else
 some ((1 : Int32), σ)
def q_X7_rainPlace (θ : sv_T) (a1 : Int32) (σ : sv_S) : Option (Int32 × sv_S) :=
 sp_l (a1 / (100 : Int32)) (fun v1 =>
 sp_l (a1 - a1 / (100 : Int32) * (100 : Int32)) (fun v2 =>
 if a1 < 0 then
 (some ((-1 : Int32), σ))
 else
 if (2 : Int32) ≤ v1 then
 (some ((-1 : Int32), σ))
 else
 if v2 < (24 : Int32) then
 (some (((v1 * (24 : Int32)) + v2), σ))
 else
 some ((-1 : Int32), σ)))
def q_X7_told (θ : sv_T) (a1 : Int32) (a2 : Int32) (σ : sv_S) : Option (Int32 × sv_S) :=
 if a2 = 0 then
 (some ((σ.1 1 5), σ))
 else
 if a2 = (1 : Int32) then
 (sp_b (q_X7_rainPlace θ a1 σ) (fun r18 σ19 =>
 if r18 = (-1 : Int32) then
 (some ((-2 : Int32), σ19))
 else
 sp_b (q_X7_at θ 2 r18 σ19) (fun r21 σ22 =>
 some (r21, σ22))))
 else
 sp_b (q_X2_has θ a1 σ) (fun r3 σ4 =>
 if r3 = 0 then
 (some ((-2 : Int32), σ4))
 else
 if a2 = 2 then
 (sp_b (q_X7_at θ 4 a1 σ4) (fun r7 σ8 =>
 some (r7, σ8)))
 else
 if a2 = 3 then
 (sp_b (q_X7_at θ 5 a1 σ4) (fun r10 σ11 =>
 some (r10, σ11)))
 else
 if a2 = 4 then
 (sp_b (q_X7_at θ 6 a1 σ4) (fun r13 σ14 =>
 some (r13, σ14)))
 else
 if a2 = 5 then
 (sp_b (q_X7_at θ 3 a1 σ4) (fun r16 σ17 =>
 some (r16, σ17)))
 else
 some ((-2 : Int32), σ4))
def q_X7_set (θ : sv_T) (a1 : Int32) (a2 : Int32) (a3 : Int32) (σ : sv_S) : Option (Int32 × sv_S) :=
 if a1 < 0 then
 (some ((-2 : Int32), σ))
 else
 if (5 : Int32) ≤ a1 then
 (some ((-2 : Int32), σ))
 else
 if a3 < 0 then
 (some ((-2 : Int32), σ))
 else
 if (a1 < 0 ∨ 5 ≤ a1.toNatClampNeg) then none else
 if a3 ≤ (sx_most a1.toNatClampNeg) then
 (sp_b (q_X7_told θ a2 a1 σ) (fun r8 σ9 =>
 if r8 = (-2 : Int32) then
 (some ((-2 : Int32), σ9))
 else
 if a1 = 0 then
 (sp_l (sv_sI σ9 1 5 a3) (fun σ12 =>
 some (r8, σ12)))
 else
 if a1 = 1 then
 (sp_b (q_X7_rainPlace θ a2 σ9) (fun r14 σ15 =>
 sp_b (q_X7_put θ 2 r14 a3 σ15) (fun r16 σ17 =>
 some (r8, σ17))))
 else
 if a1 = 2 then
 (sp_b (q_X7_put θ 4 a2 a3 σ9) (fun r19 σ20 =>
 some (r8, σ20)))
 else
 if a1 = 3 then
 (sp_b (q_X7_put θ 5 a2 a3 σ9) (fun r22 σ23 =>
 some (r8, σ23)))
 else
 sp_b (q_X7_put θ 6 a2 a3 σ9) (fun r24 σ25 =>
 some (r8, σ25))))
 else
 some ((-2 : Int32), σ)
def q_X7_bargain (θ : sv_T) (a1 : Int32) (a2 : Int32) (a3 : Int32) (σ : sv_S) : Option (Int32 × sv_S) :=
 if a1 < 0 then
 (some ((-2 : Int32), σ))
 else
 if (6 : Int32) ≤ a1 then
 (some ((-2 : Int32), σ))
 else
 if a2 < 0 then
 (some ((-2 : Int32), σ))
 else
 if (10 : Int32) ≤ a2 then
 (some ((-2 : Int32), σ))
 else
 if a3 < 0 then
 (some ((-2 : Int32), σ))
 else
 if a3 < (2 : Int32) then
 (sp_b (q_X2_add θ a1 a2 a3 σ) (fun r7 σ8 =>
 if r7 = 0 then
 (some ((-4 : Int32), σ8))
 else
 some (((σ8.1 1 6) - (1 : Int32)), σ8)))
 else
 some ((-2 : Int32), σ)
def q_X7_asks (θ : sv_T) (a1 : Int32) (a2 : Int32) (a3 : Int32) (σ : sv_S) : Option (Int32 × sv_S) :=
 sp_b (q_X2_has θ a1 σ) (fun r1 σ2 =>
 if r1 = 0 then
 (some ((-2 : Int32), σ2))
 else
 if a2 < 0 then
 (some ((-2 : Int32), σ2))
 else
 if (24 : Int32) ≤ a2 then
 (some ((-2 : Int32), σ2))
 else
 if a3 < 0 then
 (some ((-2 : Int32), σ2))
 else
 if a3 ≤ (4 : Int32) then
 (sp_b (q_X2_shakenCount θ σ2) (fun r8 σ9 =>
 sp_b (q_X0_regard θ 22 a1 r8 σ9) (fun r10 σ11 =>
 sp_b (q_X0_see θ 22 2 a2 σ11) (fun r12 σ13 =>
 if a3 = 0 then
 (sp_b (q_X0_needs θ 22 σ13) (fun r15 σ16 =>
 some (r15, σ16)))
 else
 if a3 = 1 then
 (sp_b (q_X0_takes θ 22 σ13) (fun r18 σ19 =>
 some (r18, σ19)))
 else
 if a3 = 2 then
 (sp_b (q_X0_lastHour θ 22 2 a2 σ13) (fun r21 σ22 =>
 if r21 = (-1 : Int32) then
 (some ((0 : Int32), σ22))
 else
 some ((1 : Int32), σ22)))
 else
 if a3 = 3 then
 (sp_b (q_X0_worth θ 22 σ13) (fun r25 σ26 =>
 some (r25, σ26)))
 else
 sp_b (q_X0_shakenHour θ 22 2 a2 σ13) (fun r27 σ28 =>
 some (r27, σ28))))))
 else
 some ((-2 : Int32), σ2))
def q_X7_feed (θ : sv_T) (a1 : Int32) (σ : sv_S) : Option (Int32 × sv_S) :=
 if a1 < 0 then
 (some ((-2 : Int32), σ))
 else
 if a1 ≤ (255 : Int32) then
 (sp_b (q_X4_append θ a1 σ) (fun r3 σ4 =>
 if r3 = 0 then
 (some ((-4 : Int32), σ4))
 else
 some ((σ4.1 13 0), σ4)))
 else
 some ((-2 : Int32), σ)
def q_X7_textAt (θ : sv_T) (a1 : Int32) (σ : sv_S) : Option (Option Nat × sv_S) :=
 if a1 < 0 then
 (some (none, σ))
 else
 if (σ.1 0 5) ≤ a1 then
 (some (none, σ))
 else
 if (6 : Int32) ≤ a1 then
 (some (none, σ))
 else
 if (a1 < 0 ∨ 6 ≤ a1.toNatClampNeg) then none else
 sp_o (σ.2.2 20 a1.toNatClampNeg)
 (some (none, σ))
 (fun t5 => if sv_oX6 θ t5 then
 (some (some t5, σ))
 else none)
def q_X7_ruleNumber (θ : sv_T)  (σ : sv_S) : Option (Int32 × sv_S) :=
 sp_o (σ.2.2 1 7)
 (some ((0 : Int32), σ))
 (fun t1 => if sv_oX6 θ t1 then
 (some ((σ.1 t1 0), σ))
 else none)
def q_X7_force (θ : sv_T) (a1 : Int32) (σ : sv_S) : Option (Int32 × sv_S) :=
 sp_b (q_X7_textAt θ a1 σ) (fun r1 σ2 =>
 sp_o (r1)
 (some ((-2 : Int32), σ2))
 (fun t3 => if sv_oX6 θ t3 then
 (sp_b (q_X7_ruleNumber θ σ2) (fun r4 σ5 =>
 sp_l (sv_sP σ5 1 7 (some t3)) (fun σ6 =>
 some (r4, σ6))))
 else none))
def q_X7_rowAt (θ : sv_T) (a1 : Int32) (σ : sv_S) : Option (Option Nat × sv_S) :=
 if a1 < 0 then
 (some (none, σ))
 else
 if (4 : Int32) ≤ a1 then
 (some (none, σ))
 else
 if (a1 < 0 ∨ 4 ≤ a1.toNatClampNeg) then none else
 sp_o (σ.2.2 21 a1.toNatClampNeg)
 (some (none, σ))
 (fun t4 => if sv_oX5 θ t4 then
 (some (some t4, σ))
 else none)
def q_X7_tourRefusal_B22_b (θ : sv_T) (o1 : Option Nat)  (rec : Nat → Int32 → Int32 → sv_S → Option (Int32 × sv_S)) (z1 : Nat) (x2 : Int32) (x3 : Int32) (σ : sv_S) : Option (Int32 × sv_S) :=
 if (σ.1 z1 2) ≤ x3 then
 (some ((0 : Int32), σ))
 else
 sp_b (q_X5_read θ z1 x3 σ) (fun r4 σ5 =>
 sp_b (q_X2_has θ r4 σ5) (fun r6 σ7 =>
 if r6 = 0 then
 (some ((-2 : Int32), σ7))
 else
 sp_b (q_X7_at θ 6 r4 σ7) (fun r9 σ10 =>
 if r9 = 0 then
 (sp_b (q_X7_hasBit θ x2 r4 σ10) (fun r12 σ13 =>
 if r12 = 0 then
 (sp_l (x2 ||| ((1 : Int32) <<< (r4 &&& 31))) (fun v15 =>
 sp_l (x3 + 1) (fun v16 =>
 rec z1 v15 v16 σ13)))
 else
 some ((-2 : Int32), σ13)))
 else
 some ((-2 : Int32), σ10))))
def q_X7_tourRefusal_B22 (θ : sv_T) (o1 : Option Nat)  : Nat → Nat → Int32 → Int32 → sv_S → Option (Int32 × sv_S)
  | 0 => fun _ _ _ _ => none
  | n + 1 => q_X7_tourRefusal_B22_b θ o1 (q_X7_tourRefusal_B22 θ o1 n)
def q_X7_tourRefusal (θ : sv_T) (o1 : Option Nat) (σ : sv_S) : Option (Int32 × sv_S) :=
 sp_o (o1)
 (some ((-2 : Int32), σ))
 (fun t1 => if sv_oX5 θ t1 then
 (if (σ.1 t1 1) = (-1 : Int32) then
 (some ((-11 : Int32), σ))
 else
 q_X7_tourRefusal_B22 θ o1 sv_N t1 (0 : Int32) (0 : Int32) σ)
 else none)
def q_X7_tour (θ : sv_T) (a1 : Int32) (a2 : Int32) (σ : sv_S) : Option (Int32 × sv_S) :=
 if a2 < 0 then
 (some ((-2 : Int32), σ))
 else
 if a2 ≤ (3 : Int32) then
 (sp_b (q_X7_rowAt θ a1 σ) (fun r3 σ4 =>
 sp_o (r3)
 (sp_b (q_X7_tourRefusal θ none σ4) (fun r6 σ7 =>
 some (r6, σ7)))
 (fun t5 => if sv_oX5 θ t5 then
 (sp_b (q_X7_tourRefusal θ (some t5) σ4) (fun r8 σ9 =>
 if r8 = 0 then
 (sp_b (q_X3_useRain θ 2 σ9) (fun r11 σ12 =>
 sp_b (q_X3_run θ (t5 + 1) (σ12.1 t5 2) σ12) (fun r13 σ14 =>
 if a2 = 0 then
 (some ((σ14.1 24 3), σ14))
 else
 if a2 = 1 then
 (sp_b (q_J6_bitCount_0f7a4 θ (σ14.1 24 4) σ14) (fun r17 σ18 =>
 some (r17, σ18)))
 else
 if a2 = 2 then
 (some ((σ14.1 24 5), σ14))
 else
 some ((σ14.1 24 6), σ14))))
 else
 some (r8, σ9)))
 else none)))
 else
 some ((-2 : Int32), σ)
def q_X7_deal_B58_b (θ : sv_T) (a1 : Int32)  (rec : Int32 → sv_S → Option (Int32 × sv_S)) (x4 : Int32) (σ : sv_S) : Option (Int32 × sv_S) :=
 if (6 : Int32) ≤ x4 then
 (some ((σ.1 24 3), σ))
 else
 sp_b (q_X7_hasBit θ (σ.1 24 4) x4 σ) (fun r14 σ15 =>
 if r14 = 0 then
 (sp_l (x4 + 1) (fun v17 =>
 rec v17 σ15))
 else
 if (x4 < 0 ∨ 6 ≤ x4.toNatClampNeg) then none else
 sp_l (sv_sI σ15 6 x4.toNatClampNeg (1 : Int32)) (fun σ19 =>
 sp_l (x4 + 1) (fun v20 =>
 rec v20 σ19)))
def q_X7_deal_B58 (θ : sv_T) (a1 : Int32)  : Nat → Int32 → sv_S → Option (Int32 × sv_S)
  | 0 => fun _ _ => none
  | n + 1 => q_X7_deal_B58_b θ a1 (q_X7_deal_B58 θ a1 n)
def q_X7_deal (θ : sv_T) (a1 : Int32) (σ : sv_S) : Option (Int32 × sv_S) :=
 sp_b (q_X7_rowAt θ a1 σ) (fun r1 σ2 =>
 sp_o (r1)
 (sp_b (q_X7_tourRefusal θ none σ2) (fun r4 σ5 =>
 some (r4, σ5)))
 (fun t3 => if sv_oX5 θ t3 then
 (sp_b (q_X7_tourRefusal θ (some t3) σ2) (fun r6 σ7 =>
 if r6 = 0 then
 (sp_b (q_X3_useRain θ 2 σ7) (fun r9 σ10 =>
 sp_b (q_X3_run θ (t3 + 1) (σ10.1 t3 2) σ10) (fun r11 σ12 =>
 q_X7_deal_B58 θ a1 sv_N (0 : Int32) σ12)))
 else
 some (r6, σ7)))
 else none))
def q_X7_best (θ : sv_T) (a1 : Int32) (σ : sv_S) : Option (Int32 × sv_S) :=
 if a1 < 0 then
 (some ((-2 : Int32), σ))
 else
 if a1 ≤ (3 : Int32) then
 (sp_b (q_X3_prepare θ σ) (fun r3 σ4 =>
 sp_b (q_X3_seek θ (σ4.1 24 11) (6 : Int32) σ4) (fun r5 σ6 =>
 if a1 = 0 then
 (some ((σ6.1 24 14), σ6))
 else
 if a1 = 2 then
 (sp_b (q_X3_leave θ r5 σ6) (fun r9 σ10 =>
 some (r9, σ10)))
 else
 some (r5, σ6))))
 else
 some ((-2 : Int32), σ)
def q_X7_few (θ : sv_T) (a1 : Int32) (σ : sv_S) : Option (Int32 × sv_S) :=
 if a1 < 0 then
 (some ((-2 : Int32), σ))
 else
 if a1 ≤ (6 : Int32) then
 (sp_b (q_X3_prepare θ σ) (fun r3 σ4 =>
 sp_b (q_X3_seek θ (σ4.1 24 11) a1 σ4) (fun r5 σ6 =>
 some (r5, σ6))))
 else
 some ((-2 : Int32), σ)
def q_X7_water (θ : sv_T) (a1 : Int32) (σ : sv_S) : Option (Int32 × sv_S) :=
 if a1 < 0 then
 (some ((-2 : Int32), σ))
 else
 if a1 ≤ (1 : Int32) then
 (sp_b (q_X2_shakenCount θ σ) (fun r3 σ4 =>
 if ((σ.1 1 6) - r3) ≤ (4 : Int32) then
 (sp_b (q_X3_prepare θ σ4) (fun r6 σ7 =>
 sp_b (q_X3_waterAll θ σ7) (fun r8 σ9 =>
 if a1 = 0 then
 (some ((σ9.1 24 15), σ9))
 else
 some ((σ9.1 24 16), σ9))))
 else
 some ((-3 : Int32), σ4)))
 else
 some ((-2 : Int32), σ)
def q_X7_sky (θ : sv_T) (a1 : Int32) (a2 : Int32) (σ : sv_S) : Option (Int32 × sv_S) :=
 if a1 < 0 then
 (some ((-2 : Int32), σ))
 else
 if (2 : Int32) ≤ a1 then
 (some ((-2 : Int32), σ))
 else
 if a2 < 0 then
 (some ((-2 : Int32), σ))
 else
 if a2 ≤ (4 : Int32) then
 (if a2 = 0 then
 (sp_b (q_X2_showerLength θ a1 σ) (fun r6 σ7 =>
 some (r6, σ7)))
 else
 if a2 = 1 then
 (sp_b (q_X2_showerStart θ a1 σ) (fun r9 σ10 =>
 some (r9, σ10)))
 else
 if a2 = 2 then
 (sp_b (q_X2_wetHours θ a1 σ) (fun r12 σ13 =>
 some (r12, σ13)))
 else
 if a2 = 3 then
 (sp_b (q_X2_allRain θ a1 σ) (fun r15 σ16 =>
 some (r15, σ16)))
 else
 sp_b (q_X2_shutHours θ σ) (fun r17 σ18 =>
 some (r17, σ18)))
 else
 some ((-2 : Int32), σ)
def q_X7_canTell (θ : sv_T) (a1 : Int32) (σ : sv_S) : Option (Int32 × sv_S) :=
 if a1 < 0 then
 (if a1 < (10 : Int32) then
 (some ((0 : Int32), σ))
 else
 if (34 : Int32) ≤ a1 then
 (some ((0 : Int32), σ))
 else
 some ((1 : Int32), σ))
 else
 if a1 ≤ (5 : Int32) then
 (some ((1 : Int32), σ))
 else
 if a1 < (10 : Int32) then
 (some ((0 : Int32), σ))
 else
 if (34 : Int32) ≤ a1 then
 (some ((0 : Int32), σ))
 else
 some ((1 : Int32), σ)
def q_X7_choicesOf (θ : sv_T) (a1 : Int32) (σ : sv_S) : Option (Int32 × sv_S) :=
 if a1 = 1 then
 (some ((6 : Int32), σ))
 else
 if a1 = 2 then
 (some ((10 : Int32), σ))
 else
 if a1 = 3 then
 (some ((10 : Int32), σ))
 else
 if a1 = 4 then
 (some ((7 : Int32), σ))
 else
 if a1 = 5 then
 (some ((σ.1 0 5), σ))
 else
 some ((10 : Int32), σ)
def q_X7_suppose (θ : sv_T) (a1 : Int32) (a2 : Int32) (a3 : Int32) (σ : sv_S) : Option (Unit × sv_S) :=
 if a2 = 1 then
 (sp_l (sv_sI σ 22 1 a3) (fun σ2 =>
 some ((), σ2)))
 else
 if a2 = 2 then
 (sp_b (q_X7_put θ 23 (2 : Int32) a3 σ) (fun r4 σ5 =>
 some ((), σ5)))
 else
 if a2 = 3 then
 (sp_b (q_X7_put θ 23 (5 : Int32) a3 σ) (fun r7 σ8 =>
 some ((), σ8)))
 else
 if a2 = 4 then
 (sp_b (q_X7_put θ 23 (3 : Int32) a3 σ) (fun r10 σ11 =>
 some ((), σ11)))
 else
 if a2 = 5 then
 (sp_b (q_X7_textAt θ a3 σ) (fun r13 σ14 =>
 sp_l (sv_sP σ14 22 2 (r13)) (fun σ15 =>
 some ((), σ15))))
 else
 sp_b (q_X7_at θ 5 a1 σ) (fun r16 σ17 =>
 sp_b (q_X7_put θ 33 (((r16 * (24 : Int32)) + a2) - (10 : Int32)) a3 σ17) (fun r18 σ19 =>
 some ((), σ19)))
def q_X7_fitting_B34_b (θ : sv_T) (b1 : Nat) (a2 : Int32) (a3 : Int32)  (rec : Int32 → Int32 → Int32 → Int32 → Int32 → sv_S → Option (Int32 × sv_S)) (x2 : Int32) (x3 : Int32) (x4 : Int32) (x5 : Int32) (x6 : Int32) (σ : sv_S) : Option (Int32 × sv_S) :=
 if x4 ≤ x6 then
 (some (x5, σ))
 else
 sp_b (q_X2_shakenCount θ σ) (fun r6 σ7 =>
 sp_b (q_X0_regard θ 22 x2 r6 σ7) (fun r8 σ9 =>
 sp_b (q_X7_suppose θ x2 x3 x6 σ9) (fun r10 σ11 =>
 sp_b (q_X0_firstOther θ 22 b1 33 σ11) (fun r12 σ13 =>
 if r12 = (-1 : Int32) then
 (sp_l (x5 ||| ((1 : Int32) <<< (x6 &&& 31))) (fun v16 =>
 sp_l (x6 + 1) (fun v17 =>
 rec x2 x3 x4 v16 v17 σ13)))
 else
 sp_l (x6 + 1) (fun v15 =>
 rec x2 x3 x4 x5 v15 σ13)))))
def q_X7_fitting_B34 (θ : sv_T) (b1 : Nat) (a2 : Int32) (a3 : Int32)  : Nat → Int32 → Int32 → Int32 → Int32 → Int32 → sv_S → Option (Int32 × sv_S)
  | 0 => fun _ _ _ _ _ _ => none
  | n + 1 => q_X7_fitting_B34_b θ b1 a2 a3 (q_X7_fitting_B34 θ b1 a2 a3 n)
def q_X7_fitting (θ : sv_T) (b1 : Nat) (a2 : Int32) (a3 : Int32) (σ : sv_S) : Option (Int32 × sv_S) :=
 if sv_cp (0 : Int32) (0 : Int32) (48 : Int32) 48 48 then
 sp_l (sv_sR σ 33 (va_cpy (σ.1 2) (σ.1 33) (0 : Int32).toNatClampNeg (0 : Int32).toNatClampNeg (48 : Int32).toNatClampNeg)) (fun σ1 =>
 sp_b (q_X7_choicesOf θ a3 σ1) (fun r3 σ4 =>
 q_X7_fitting_B34 θ b1 a2 a3 sv_N a2 a3 r3 (0 : Int32) (0 : Int32) σ4))
 else none
def q_X7_tells (θ : sv_T) (a1 : Int32) (a2 : Int32) (a3 : Int32) (σ : sv_S) : Option (Int32 × sv_S) :=
 sp_b (q_X7_rowAt θ a1 σ) (fun r1 σ2 =>
 sp_o (r1)
 (some ((-2 : Int32), σ2))
 (fun t3 => if sv_oX5 θ t3 then
 (sp_b (q_X2_has θ a2 σ2) (fun r4 σ5 =>
 if r4 = 0 then
 (some ((-2 : Int32), σ5))
 else
 sp_b (q_X7_canTell θ a3 σ5) (fun r7 σ8 =>
 if r7 = 0 then
 (some ((-2 : Int32), σ8))
 else
 if (σ8.1 t3 1) = (-1 : Int32) then
 (some ((-11 : Int32), σ8))
 else
 if (σ8.1 t3 2) ≤ (24 : Int32) then
 (if a3 = 0 then
 (sp_b (q_X2_shakenCount θ σ8) (fun r13 σ14 =>
 sp_b (q_X0_regard θ 22 a2 r13 σ14) (fun r15 σ16 =>
 sp_b (q_X0_firstOther θ 22 t3 2 σ16) (fun r17 σ18 =>
 some (r17, σ18)))))
 else
 sp_b (q_X7_fitting θ t3 a2 a3 σ8) (fun r19 σ20 =>
 some (r19, σ20)))
 else
 some ((-2 : Int32), σ8))))
 else none))
def q_X7_film_B65_b (θ : sv_T) (a1 : Int32) (a2 : Int32) (a3 : Int32)  (rec : Int32 → Nat → Int32 → sv_S → Option (Int32 × sv_S)) (x3 : Int32) (z4 : Nat) (x5 : Int32) (σ : sv_S) : Option (Int32 × sv_S) :=
 if x3 ≤ x5 then
 (some (x3, σ))
 else
 sp_b (q_X0_see θ 22 2 x5 σ) (fun r16 σ17 =>
 sp_b (q_X0_worth θ 22 σ17) (fun r18 σ19 =>
 sp_b (q_X5_write θ z4 x5 r18 σ19) (fun r20 σ21 =>
 sp_l (x5 + 1) (fun v22 =>
 rec x3 z4 v22 σ21))))
def q_X7_film_B65 (θ : sv_T) (a1 : Int32) (a2 : Int32) (a3 : Int32)  : Nat → Int32 → Nat → Int32 → sv_S → Option (Int32 × sv_S)
  | 0 => fun _ _ _ _ => none
  | n + 1 => q_X7_film_B65_b θ a1 a2 a3 (q_X7_film_B65 θ a1 a2 a3 n)
def q_X7_film (θ : sv_T) (a1 : Int32) (a2 : Int32) (a3 : Int32) (σ : sv_S) : Option (Int32 × sv_S) :=
 sp_b (q_X7_rowAt θ a1 σ) (fun r1 σ2 =>
 sp_o (r1)
 (some ((-2 : Int32), σ2))
 (fun t3 => if sv_oX5 θ t3 then
 (sp_b (q_X2_has θ a2 σ2) (fun r4 σ5 =>
 if r4 = 0 then
 (some ((-2 : Int32), σ5))
 else
 if a3 < 0 then
 (some ((-2 : Int32), σ5))
 else
 if a3 ≤ (24 : Int32) then
 (sp_b (q_X5_renew θ t3 (1 : Int32) a3 σ5) (fun r9 σ10 =>
 sp_b (q_X2_shakenCount θ σ10) (fun r11 σ12 =>
 sp_b (q_X0_regard θ 22 a2 r11 σ12) (fun r13 σ14 =>
 q_X7_film_B65 θ a1 a2 a3 sv_N a3 t3 (0 : Int32) σ14))))
 else
 some ((-2 : Int32), σ5)))
 else none))
def q_X7_drawn (θ : sv_T) (a1 : Int32) (σ : sv_S) : Option (Int32 × sv_S) :=
 sp_b (q_X3_draw θ a1 σ) (fun r1 σ2 =>
 sp_b (q_X3_lineUp θ σ2) (fun r3 σ4 =>
 sp_b (q_X3_run θ 28 r3 σ4) (fun r5 σ6 =>
 some ((σ6.1 24 3), σ6))))
def q_X7_commonDivisor_B7_b (θ : sv_T) (a1 : Int32) (a2 : Int32)  (rec : Int32 → Int32 → Int32 → sv_S → Option (Int32 × sv_S)) (x2 : Int32) (x3 : Int32) (x4 : Int32) (σ : sv_S) : Option (Int32 × sv_S) :=
 if (50 : Int32) ≤ x4 then
 (some (x2, σ))
 else
 if x3 = 0 then
 (some (x2, σ))
 else
 if x3 = 0 then none else
 sp_l (x2 - x2 / x3 * x3) (fun v4 =>
 sp_l (x4 + 1) (fun v5 =>
 rec x3 v4 v5 σ))
def q_X7_commonDivisor_B7 (θ : sv_T) (a1 : Int32) (a2 : Int32)  : Nat → Int32 → Int32 → Int32 → sv_S → Option (Int32 × sv_S)
  | 0 => fun _ _ _ _ => none
  | n + 1 => q_X7_commonDivisor_B7_b θ a1 a2 (q_X7_commonDivisor_B7 θ a1 a2 n)
def q_X7_commonDivisor (θ : sv_T) (a1 : Int32) (a2 : Int32) (σ : sv_S) : Option (Int32 × sv_S) :=
 q_X7_commonDivisor_B7 θ a1 a2 sv_N a2 a1 (0 : Int32) σ
def q_X7_chance_B43_b (θ : sv_T) (a1 : Int32) (a2 : Int32) (a3 : Int32) (a4 : Int32)  (rec : Int32 → Int32 → Int32 → Int32 → Int32 → Int32 → sv_S → Option (Int64 × sv_S)) (x1 : Int32) (x2 : Int32) (x3 : Int32) (x4 : Int32) (x5 : Int32) (x6 : Int32) (σ : sv_S) : Option (Int64 × sv_S) :=
 if x2 ≤ x6 then
 (sp_b (q_X7_commonDivisor θ x5 x2 σ) (fun r8 σ9 =>
 if (1 : Int32) ≤ r8 then
 (if x4 = 0 then
 (if r8 = 0 then none else
 some (((x5 / r8).toInt64), σ9))
 else
 if r8 = 0 then none else
 some (((x2 / r8).toInt64), σ9))
 else
 some ((-4611686018427387904 : Int64), σ9)))
 else
 sp_b (q_X3_draw θ (x1 + x6) σ) (fun r14 σ15 =>
 sp_b (q_X3_lineUp θ σ15) (fun r16 σ17 =>
 sp_b (q_X3_run θ 28 r16 σ17) (fun r18 σ19 =>
 if (σ19.1 24 3) < x3 then
 (sp_l (x5 + (0 : Int32)) (fun v21 =>
 sp_l (x6 + 1) (fun v22 =>
 rec x1 x2 x3 x4 v21 v22 σ19)))
 else
 sp_l (x5 + (1 : Int32)) (fun v23 =>
 sp_l (x6 + 1) (fun v24 =>
 rec x1 x2 x3 x4 v23 v24 σ19)))))
def q_X7_chance_B43 (θ : sv_T) (a1 : Int32) (a2 : Int32) (a3 : Int32) (a4 : Int32)  : Nat → Int32 → Int32 → Int32 → Int32 → Int32 → Int32 → sv_S → Option (Int64 × sv_S)
  | 0 => fun _ _ _ _ _ _ _ => none
  | n + 1 => q_X7_chance_B43_b θ a1 a2 a3 a4 (q_X7_chance_B43 θ a1 a2 a3 a4 n)
def q_X7_chance (θ : sv_T) (a1 : Int32) (a2 : Int32) (a3 : Int32) (a4 : Int32) (σ : sv_S) : Option (Int64 × sv_S) :=
 if a2 < (1 : Int32) then
 (some ((-4611686018427387904 : Int64), σ))
 else
 if (20 : Int32) < a2 then
 (some ((-4611686018427387904 : Int64), σ))
 else
 if a3 < 0 then
 (some ((-4611686018427387904 : Int64), σ))
 else
 if (9999 : Int32) < a3 then
 (some ((-4611686018427387904 : Int64), σ))
 else
 if a4 < 0 then
 (some ((-4611686018427387904 : Int64), σ))
 else
 if a4 ≤ (1 : Int32) then
 (q_X7_chance_B43 θ a1 a2 a3 a4 sv_N a1 a2 a3 a4 (0 : Int32) (0 : Int32) σ)
 else
 some ((-4611686018427387904 : Int64), σ)
def q_X7_image (θ : sv_T)  (σ : sv_S) : Option (Int32 × sv_S) :=
 sp_b (q_X2_become θ 7 1 σ) (fun r1 σ2 =>
 sp_l (sv_sI σ2 0 2 (1 : Int32)) (fun σ3 =>
 some ((σ3.1 1 6), σ3)))
def q_X7_back (θ : sv_T)  (σ : sv_S) : Option (Int32 × sv_S) :=
 if (σ.1 0 2) = 0 then
 (some ((-3 : Int32), σ))
 else
 sp_b (q_X2_become θ 1 7 σ) (fun r2 σ3 =>
 some ((σ3.1 1 6), σ3))
def q_X7_count (θ : sv_T) (a1 : Int32) (σ : sv_S) : Option (Int32 × sv_S) :=
 if a1 = 0 then
 (some ((σ.1 1 6), σ))
 else
 if a1 = 1 then
 (sp_b (q_X2_shakenCount θ σ) (fun r3 σ4 =>
 some (r3, σ4)))
 else
 if a1 = 2 then
 (sp_b (q_X2_wetHours θ (0 : Int32) σ) (fun r6 σ7 =>
 sp_b (q_X2_wetHours θ (1 : Int32) σ7) (fun r8 σ9 =>
 some ((r6 + r8), σ9))))
 else
 if a1 = 3 then
 (some ((σ.1 0 5), σ))
 else
 if a1 = 4 then
 (some ((σ.1 13 0), σ))
 else
 if a1 = 5 then
 (sp_b (q_X7_ruleNumber θ σ) (fun r13 σ14 =>
 some (r13, σ14)))
 else
 some ((-2 : Int32), σ)
def q_X7_sheet (θ : sv_T) (a1 : Int32) (a2 : Int32) (a3 : Int32) (σ : sv_S) : Option (Int32 × sv_S) :=
 sp_b (q_X7_rowAt θ a1 σ) (fun r1 σ2 =>
 sp_o (r1)
 (some ((-2 : Int32), σ2))
 (fun t3 => if sv_oX5 θ t3 then
 (if a2 < (-1 : Int32) then
 (some ((-2 : Int32), σ2))
 else
 if a2 ≤ (2 : Int32) then
 (if a2 = (-1 : Int32) then
 (sp_b (q_X5_renew θ t3 (-1 : Int32) (0 : Int32) σ2) (fun r11 σ12 =>
 some ((1 : Int32), σ12)))
 else
 if a3 ≤ (40 : Int32) then
 (if 0 ≤ a3 then
 (sp_b (q_X5_renew θ t3 a2 a3 σ2) (fun r9 σ10 =>
 some ((1 : Int32), σ10)))
 else
 some ((-14 : Int32), σ2))
 else
 some ((-2 : Int32), σ2))
 else
 some ((-2 : Int32), σ2))
 else none))
def q_X7_cell (θ : sv_T) (a1 : Int32) (a2 : Int32) (a3 : Int32) (σ : sv_S) : Option (Int32 × sv_S) :=
 sp_b (q_X7_rowAt θ a1 σ) (fun r1 σ2 =>
 sp_o (r1)
 (some ((-2 : Int32), σ2))
 (fun t3 => if sv_oX5 θ t3 then
 (if (σ2.1 t3 1) = (-1 : Int32) then
 (some ((-11 : Int32), σ2))
 else
 sp_b (q_X5_write θ t3 a2 a3 σ2) (fun r5 σ6 =>
 if r5 = 0 then
 (some ((-12 : Int32), σ6))
 else
 some ((1 : Int32), σ6)))
 else none))
def q_X7_copy (θ : sv_T) (a1 : Int32) (a2 : Int32) (a3 : Int32) (a4 : Int32) (a5 : Int32) (σ : sv_S) : Option (Int32 × sv_S) :=
 sp_b (q_X7_rowAt θ a1 σ) (fun r1 σ2 =>
 sp_o (r1)
 (sp_b (q_X7_rowAt θ a3 σ2) (fun r4 σ5 =>
 sp_o (r4)
 (some ((-2 : Int32), σ5))
 (fun t6 => if sv_oX5 θ t6 then
 (some ((-2 : Int32), σ5))
 else none)))
 (fun t3 => if sv_oX5 θ t3 then
 (sp_b (q_X7_rowAt θ a3 σ2) (fun r7 σ8 =>
 sp_o (r7)
 (some ((-2 : Int32), σ8))
 (fun t9 => if sv_oX5 θ t9 then
 (if (σ8.1 t3 1) = (-1 : Int32) then
 (some ((-11 : Int32), σ8))
 else
 if (σ8.1 t9 1) = (-1 : Int32) then
 (some ((-11 : Int32), σ8))
 else
 if (σ8.1 t3 1) = (σ8.1 t9 1) then
 (sp_b (q_X5_spans θ t3 a2 a5 σ8) (fun r13 σ14 =>
 if r13 = 0 then
 (some ((-12 : Int32), σ14))
 else
 sp_b (q_X5_spans θ t9 a4 a5 σ14) (fun r16 σ17 =>
 if r16 = 0 then
 (some ((-12 : Int32), σ17))
 else
 if sv_cp a2 a4 a5 40 40 then
 sp_l (sv_sR σ17 (t9 + 1) (va_cpy (σ17.1 (t3 + 1)) (σ17.1 (t9 + 1)) a2.toNatClampNeg a4.toNatClampNeg a5.toNatClampNeg)) (fun σ19 =>
 some (a5, σ19))
 else none)))
 else
 some ((-13 : Int32), σ8))
 else none)))
 else none))
def q_X7_bargains_B66_b (θ : sv_T) (a1 : Int32) (a2 : Int32) (a3 : Int32) (a4 : Int32)  (rec : Int32 → Int32 → Nat → Int32 → Int32 → sv_S → Option (Int32 × sv_S)) (x3 : Int32) (x4 : Int32) (z5 : Nat) (x6 : Int32) (x7 : Int32) (σ : sv_S) : Option (Int32 × sv_S) :=
 if x4 ≤ x7 then
 (some (x6, σ))
 else
 sp_l (x3 + ((3 : Int32) * x7)) (fun v11 =>
 sp_b (q_X5_spans θ z5 v11 (3 : Int32) σ) (fun r12 σ13 =>
 if r12 = 0 then
 (some ((-12 : Int32), σ13))
 else
 sp_b (q_X5_read θ z5 v11 σ13) (fun r15 σ16 =>
 sp_b (q_X5_read θ z5 (v11 + (1 : Int32)) σ16) (fun r17 σ18 =>
 sp_b (q_X5_read θ z5 (v11 + (2 : Int32)) σ18) (fun r19 σ20 =>
 sp_b (q_X7_bargain θ r15 r17 r19 σ20) (fun r21 σ22 =>
 if r21 < 0 then
 (sp_l (x7 + 1) (fun v24 =>
 rec x3 x4 z5 x6 v24 σ22))
 else
 sp_l (x6 + 1) (fun v25 =>
 sp_l (x7 + 1) (fun v26 =>
 rec x3 x4 z5 v25 v26 σ22))))))))
def q_X7_bargains_B66 (θ : sv_T) (a1 : Int32) (a2 : Int32) (a3 : Int32) (a4 : Int32)  : Nat → Int32 → Int32 → Nat → Int32 → Int32 → sv_S → Option (Int32 × sv_S)
  | 0 => fun _ _ _ _ _ _ => none
  | n + 1 => q_X7_bargains_B66_b θ a1 a2 a3 a4 (q_X7_bargains_B66 θ a1 a2 a3 a4 n)
def q_X7_bargains (θ : sv_T) (a1 : Int32) (a2 : Int32) (a3 : Int32) (a4 : Int32) (σ : sv_S) : Option (Int32 × sv_S) :=
 sp_b (q_X7_rowAt θ a1 σ) (fun r1 σ2 =>
 sp_o (r1)
 (some ((-2 : Int32), σ2))
 (fun t3 => if sv_oX5 θ t3 then
 (if a2 < 0 then
 (some ((-2 : Int32), σ2))
 else
 if (2 : Int32) < a2 then
 (some ((-2 : Int32), σ2))
 else
 if a4 < 0 then
 (some ((-2 : Int32), σ2))
 else
 if a4 ≤ (6 : Int32) then
 (if (σ2.1 t3 1) = (-1 : Int32) then
 (some ((-11 : Int32), σ2))
 else
 if (σ2.1 t3 1) = a2 then
 (q_X7_bargains_B66 θ a1 a2 a3 a4 sv_N a3 a4 t3 (0 : Int32) (0 : Int32) σ2)
 else
 some ((-13 : Int32), σ2))
 else
 some ((-2 : Int32), σ2))
 else none))
def q_X7_taken (θ : sv_T) (a1 : Int32) (a2 : Int32) (σ : sv_S) : Option (Int32 × sv_S) :=
 if a2 < 0 then
 (some ((-2 : Int32), σ))
 else
 if a2 < (6 : Int32) then
 (sp_b (q_X2_has θ a1 σ) (fun r3 σ4 =>
 if r3 = 0 then
 (some ((-11 : Int32), σ4))
 else
 sp_b (q_X7_at θ 3 a1 σ4) (fun r6 σ7 =>
 sp_b (q_X1_isUnder θ r6 a2 σ7) (fun r8 σ9 =>
 if r8 = 0 then
 (some ((-13 : Int32), σ9))
 else
 sp_b (q_X7_at θ 4 a1 σ9) (fun r11 σ12 =>
 some (r11, σ12))))))
 else
 some ((-2 : Int32), σ)
def q_X7_keepText (θ : sv_T) (o1 : Option Nat) (σ : sv_S) : Option (Unit × sv_S) :=
 sp_o (o1)
 (some ((), σ))
 (fun t1 => if sv_oX6 θ t1 then
 (if (6 : Int32) ≤ (σ.1 0 5) then
 (some ((), σ))
 else
 if ((σ.1 0 5) < 0 ∨ 6 ≤ (σ.1 0 5).toNatClampNeg) then none else
 sp_l (sv_sP σ 20 (σ.1 0 5).toNatClampNeg (some t1)) (fun σ4 =>
 sp_l (sv_sI σ4 0 5 ((σ4.1 0 5) + (1 : Int32))) (fun σ5 =>
 some ((), σ5))))
 else none)

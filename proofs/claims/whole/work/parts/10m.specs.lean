def q_X8_in (θ : sv_T) (l1 : Int64) (l2 : Int64) (l3 : Int64) (σ : sv_S) : Option (Int32 × sv_S) :=
 if (lg_cmp l1 l2) < 0 then
 (some ((0 : Int32), σ))
 else
 if 0 < (lg_cmp l1 l3) then
 (some ((0 : Int32), σ))
 else
 some ((1 : Int32), σ)
def q_X8_within (θ : sv_T) (a1 : Int32) (a2 : Int32) (a3 : Int32) (σ : sv_S) : Option (Int32 × sv_S) :=
 if a2 ≤ a1 then
 (if a1 ≤ a3 then
 (some (a1, σ))
 else
 some (a3, σ))
 else
 some (a2, σ)
def q_X8_spell (θ : sv_T) (a1 : Int32) (a2 : Int32) (a3 : Int32) (a4 : Int32) (a5 : Int32) (a6 : Int32) (a7 : Int32) (a8 : Int32) (a9 : Int32) (σ : sv_S) : Option (Unit × sv_S) :=
 if (a1 < 0 ∨ 960 ≤ a1.toNatClampNeg) then none else
 sp_l (sv_sI σ 1 a1.toNatClampNeg a2) (fun σ2 =>
 if ((a1 + (1 : Int32)) < 0 ∨ 960 ≤ (a1 + (1 : Int32)).toNatClampNeg) then none else
 sp_l (sv_sI σ2 1 (a1 + (1 : Int32)).toNatClampNeg a3) (fun σ4 =>
 if ((a1 + (2 : Int32)) < 0 ∨ 960 ≤ (a1 + (2 : Int32)).toNatClampNeg) then none else
 sp_l (sv_sI σ4 1 (a1 + (2 : Int32)).toNatClampNeg a4) (fun σ6 =>
 if ((a1 + (3 : Int32)) < 0 ∨ 960 ≤ (a1 + (3 : Int32)).toNatClampNeg) then none else
 sp_l (sv_sI σ6 1 (a1 + (3 : Int32)).toNatClampNeg a5) (fun σ8 =>
 if ((a1 + (4 : Int32)) < 0 ∨ 960 ≤ (a1 + (4 : Int32)).toNatClampNeg) then none else
 sp_l (sv_sI σ8 1 (a1 + (4 : Int32)).toNatClampNeg a6) (fun σ10 =>
 if ((a1 + (5 : Int32)) < 0 ∨ 960 ≤ (a1 + (5 : Int32)).toNatClampNeg) then none else
 sp_l (sv_sI σ10 1 (a1 + (5 : Int32)).toNatClampNeg a7) (fun σ12 =>
 if ((a1 + (6 : Int32)) < 0 ∨ 960 ≤ (a1 + (6 : Int32)).toNatClampNeg) then none else
 sp_l (sv_sI σ12 1 (a1 + (6 : Int32)).toNatClampNeg a8) (fun σ14 =>
 if ((a1 + (7 : Int32)) < 0 ∨ 960 ≤ (a1 + (7 : Int32)).toNatClampNeg) then none else
 sp_l (sv_sI σ14 1 (a1 + (7 : Int32)).toNatClampNeg a9) (fun σ16 =>
 some ((), σ16)))))))))
def q_X8_isOne (θ : sv_T) (a1 : Int32) (σ : sv_S) : Option (Int32 × sv_S) :=
 sp_b (q_X8_in θ (a1.toInt64) (0 : Int64) (((σ.1 0 11) - (1 : Int32)).toInt64) σ) (fun r1 σ2 =>
 if r1 &&& 1 = r1 then some (r1, σ2) else none)
def q_X8_isHour (θ : sv_T) (a1 : Int32) (σ : sv_S) : Option (Int32 × sv_S) :=
 sp_b (q_X8_in θ (a1.toInt64) (0 : Int64) (23 : Int64) σ) (fun r1 σ2 =>
 if r1 &&& 1 = r1 then some (r1, σ2) else none)
def q_X8_placeOf (θ : sv_T) (a1 : Int32) (σ : sv_S) : Option (Int32 × sv_S) :=
 some ((((24 : Int32) * (a1 / (100 : Int32))) + (a1 - a1 / (100 : Int32) * (100 : Int32))), σ)
def q_X8_isOf (θ : sv_T) (a1 : Int32) (a2 : Int32) (σ : sv_S) : Option (Int32 × sv_S) :=
 if a1 = (1 : Int32) then
 (sp_b (q_X8_in θ (a2.toInt64) (0 : Int64) (123 : Int64) σ) (fun r6 σ7 =>
 if r6 = 0 then
 (some ((0 : Int32), σ7))
 else
 if (24 : Int32) ≤ (a2 - a2 / (100 : Int32) * (100 : Int32)) then
 (some ((0 : Int32), σ7))
 else
 some ((1 : Int32), σ7)))
 else
 if a1 = 0 then
 (some ((1 : Int32), σ))
 else
 sp_b (q_X8_isOne θ a2 σ) (fun r3 σ4 =>
 if r3 = 0 then
 (some ((0 : Int32), σ4))
 else
 some ((1 : Int32), σ4))
def q_X8_mostOf (θ : sv_T) (a1 : Int32) (σ : sv_S) : Option (Int32 × sv_S) :=
 if a1 ≤ (2 : Int32) then
 (some ((9 : Int32), σ))
 else
 some ((1 : Int32), σ)
def q_X8_told (θ : sv_T) (a1 : Int32) (a2 : Int32) (σ : sv_S) : Option (Int32 × sv_S) :=
 sp_b (q_X8_in θ (a2.toInt64) (0 : Int64) (5 : Int64) σ) (fun r1 σ2 =>
 if r1 = 0 then
 (some ((-2 : Int32), σ2))
 else
 sp_b (q_X8_isOf θ a2 a1 σ2) (fun r4 σ5 =>
 if r4 = 0 then
 (some ((-2 : Int32), σ5))
 else
 if a2 = 0 then
 (some ((σ5.1 0 7), σ5))
 else
 if a2 = (1 : Int32) then
 (sp_b (q_X8_placeOf θ a1 σ5) (fun r12 σ13 =>
 if (r12 < 0 ∨ 48 ≤ r12.toNatClampNeg) then none else
 some ((σ13.1 4 r12.toNatClampNeg), σ13)))
 else
 if (5 : Int32) ≤ a2 then
 (if (a1 < 0 ∨ 6 ≤ a1.toNatClampNeg) then none else
 some ((σ5.1 5 a1.toNatClampNeg), σ5))
 else
 if (((((3 : Int32) * a1) + a2) - (2 : Int32)) < 0 ∨ 18 ≤ ((((3 : Int32) * a1) + a2) - (2 : Int32)).toNatClampNeg) then none else
 some ((σ5.1 6 ((((3 : Int32) * a1) + a2) - (2 : Int32)).toNatClampNeg), σ5)))
def q_X8_lays (θ : sv_T) (a1 : Int32) (a2 : Int32) (a3 : Int32) (σ : sv_S) : Option (Unit × sv_S) :=
 if a1 = 0 then
 (sp_l (sv_sI σ 0 7 a3) (fun σ14 =>
 some ((), σ14)))
 else
 if a1 = (1 : Int32) then
 (sp_b (q_X8_placeOf θ a2 σ) (fun r10 σ11 =>
 if (r10 < 0 ∨ 48 ≤ r10.toNatClampNeg) then none else
 sp_l (sv_sI σ11 4 r10.toNatClampNeg a3) (fun σ13 =>
 some ((), σ13))))
 else
 if (5 : Int32) ≤ a1 then
 (if a1 = (5 : Int32) then
 (if (a2 < 0 ∨ 6 ≤ a2.toNatClampNeg) then none else
 sp_l (sv_sI σ 5 a2.toNatClampNeg a3) (fun σ7 =>
 some ((), σ7)))
 else
 sp_l (sv_sI σ 0 4 a3) (fun σ5 =>
 some ((), σ5)))
 else
 if (((((3 : Int32) * a2) + a1) - (2 : Int32)) < 0 ∨ 18 ≤ ((((3 : Int32) * a2) + a1) - (2 : Int32)).toNatClampNeg) then none else
 sp_l (sv_sI σ 6 ((((3 : Int32) * a2) + a1) - (2 : Int32)).toNatClampNeg a3) (fun σ9 =>
 some ((), σ9))
def q_X8_set (θ : sv_T) (a1 : Int32) (a2 : Int32) (a3 : Int32) (σ : sv_S) : Option (Int32 × sv_S) :=
 sp_b (q_X8_in θ (a1.toInt64) (0 : Int64) (4 : Int64) σ) (fun r1 σ2 =>
 if r1 = 0 then
 (some ((-2 : Int32), σ2))
 else
 sp_b (q_X8_isOf θ a1 a2 σ2) (fun r4 σ5 =>
 if r4 = 0 then
 (some ((-2 : Int32), σ5))
 else
 sp_b (q_X8_mostOf θ a1 σ5) (fun r7 σ8 =>
 sp_b (q_X8_in θ (a3.toInt64) (0 : Int64) (r7.toInt64) σ8) (fun r9 σ10 =>
 if r9 = 0 then
 (some ((-2 : Int32), σ10))
 else
 sp_b (q_X8_told θ a2 a1 σ10) (fun r12 σ13 =>
 sp_b (q_X8_lays θ a1 a2 a3 σ13) (fun r14 σ15 =>
 some (r12, σ15)))))))
def q_X8_bargain (θ : sv_T) (a1 : Int32) (a2 : Int32) (a3 : Int32) (σ : sv_S) : Option (Int32 × sv_S) :=
 sp_b (q_X8_in θ (a1.toInt64) (0 : Int64) (5 : Int64) σ) (fun r1 σ2 =>
 if r1 = 0 then
 (some ((-2 : Int32), σ2))
 else
 sp_b (q_X8_in θ (a2.toInt64) (0 : Int64) (9 : Int64) σ2) (fun r4 σ5 =>
 if r4 = 0 then
 (some ((-2 : Int32), σ5))
 else
 sp_b (q_X8_in θ (a3.toInt64) (0 : Int64) (1 : Int64) σ5) (fun r7 σ8 =>
 if r7 = 0 then
 (some ((-2 : Int32), σ8))
 else
 if (σ8.1 0 11) = (6 : Int32) then
 (some ((-4 : Int32), σ8))
 else
 if ((σ8.1 0 11) < 0 ∨ 6 ≤ (σ8.1 0 11).toNatClampNeg) then none else
 sp_l (sv_sI σ8 5 (σ8.1 0 11).toNatClampNeg a1) (fun σ12 =>
 if (((3 : Int32) * (σ12.1 0 11)) < 0 ∨ 18 ≤ ((3 : Int32) * (σ12.1 0 11)).toNatClampNeg) then none else
 sp_l (sv_sI σ12 6 ((3 : Int32) * (σ12.1 0 11)).toNatClampNeg a2) (fun σ14 =>
 if ((((3 : Int32) * (σ14.1 0 11)) + (1 : Int32)) < 0 ∨ 18 ≤ (((3 : Int32) * (σ14.1 0 11)) + (1 : Int32)).toNatClampNeg) then none else
 sp_l (sv_sI σ14 6 (((3 : Int32) * (σ14.1 0 11)) + (1 : Int32)).toNatClampNeg a3) (fun σ16 =>
 if ((((3 : Int32) * (σ16.1 0 11)) + (2 : Int32)) < 0 ∨ 18 ≤ (((3 : Int32) * (σ16.1 0 11)) + (2 : Int32)).toNatClampNeg) then none else
 sp_l (sv_sI σ16 6 (((3 : Int32) * (σ16.1 0 11)) + (2 : Int32)).toNatClampNeg (0 : Int32)) (fun σ18 =>
 sp_l (sv_sI σ18 0 11 ((σ18.1 0 11) + (1 : Int32))) (fun σ19 =>
 some (((σ19.1 0 11) - (1 : Int32)), σ19)))))))))
def q_X8_feed (θ : sv_T) (a1 : Int32) (σ : sv_S) : Option (Int32 × sv_S) :=
 sp_b (q_X8_in θ (a1.toInt64) (0 : Int64) (255 : Int64) σ) (fun r1 σ2 =>
 if r1 = 0 then
 (some ((-2 : Int32), σ2))
 else
 if (σ2.1 0 6) = (160 : Int32) then
 (some ((-4 : Int32), σ2))
 else
 if ((σ2.1 0 6) < 0 ∨ 160 ≤ (σ2.1 0 6).toNatClampNeg) then none else
 sp_l (sv_sI σ2 3 (σ2.1 0 6).toNatClampNeg a1) (fun σ6 =>
 sp_l (sv_sI σ6 0 6 ((σ6.1 0 6) + (1 : Int32))) (fun σ7 =>
 some ((σ7.1 0 6), σ7))))
def q_X8_byteAt (θ : sv_T) (a1 : Int32) (σ : sv_S) : Option (Int32 × sv_S) :=
 if (σ.1 0 19) ≤ a1 then
 (some ((-1 : Int32), σ))
 else
 if (((σ.1 0 18) + a1) < 0 ∨ 960 ≤ ((σ.1 0 18) + a1).toNatClampNeg) then none else
 some ((σ.1 1 ((σ.1 0 18) + a1).toNatClampNeg), σ)
def q_X8_next_B100_b (θ : sv_T)   (rec : sv_S → Option (Unit × sv_S))  (σ : sv_S) : Option (Unit × sv_S) :=
 sp_b (q_X8_byteAt θ (σ.1 0 20) σ) (fun r50 σ51 =>
 sp_b (q_X8_in θ (r50.toInt64) (97 : Int64) (122 : Int64) σ51) (fun r52 σ53 =>
 if r52 = 0 then
 (some ((), σ53))
 else
 sp_l (sv_sI σ53 0 20 ((σ53.1 0 20) + (1 : Int32))) (fun σ55 =>
 rec σ55)))
def q_X8_next_B100 (θ : sv_T)   : Nat → sv_S → Option (Unit × sv_S)
  | 0 => fun _ => none
  | n + 1 => q_X8_next_B100_b θ  (q_X8_next_B100 θ  n)
def q_X8_next_B160_b (θ : sv_T)   (rec : Int32 → sv_S → Option (Unit × sv_S)) (x2 : Int32) (σ : sv_S) : Option (Unit × sv_S) :=
 sp_b (q_X8_byteAt θ (σ.1 0 20) σ) (fun r32 σ33 =>
 sp_b (q_X8_in θ (r32.toInt64) (48 : Int64) (57 : Int64) σ33) (fun r34 σ35 =>
 if r34 = 0 then
 (if x2 ≤ (4 : Int32) then
 (sp_l (sv_sI σ35 0 21 (2 : Int32)) (fun σ38 =>
 some ((), σ38)))
 else
 sp_l (sv_sI σ35 0 21 (4 : Int32)) (fun σ39 =>
 some ((), σ39)))
 else
 if (4 : Int32) ≤ x2 then
 (sp_l (sv_sJ σ35 0 23 (σ35.2.1 0 23)) (fun σ41 =>
 sp_l (x2 + 1) (fun v42 =>
 sp_l (sv_sI σ41 0 20 ((σ41.1 0 20) + (1 : Int32))) (fun σ43 =>
 rec v42 σ43))))
 else
 sp_b (q_X8_byteAt θ (σ35.1 0 20) σ35) (fun r44 σ45 =>
 sp_l (sv_sJ σ45 0 23 ((((10 : Int64) * (σ35.2.1 0 23)) + (r44.toInt64)) - (48 : Int64))) (fun σ46 =>
 sp_l (x2 + 1) (fun v47 =>
 sp_l (sv_sI σ46 0 20 ((σ46.1 0 20) + (1 : Int32))) (fun σ48 =>
 rec v47 σ48))))))
def q_X8_next_B160 (θ : sv_T)   : Nat → Int32 → sv_S → Option (Unit × sv_S)
  | 0 => fun _ _ => none
  | n + 1 => q_X8_next_B160_b θ  (q_X8_next_B160 θ  n)
def q_X8_next_B300 (θ : sv_T)   (x1 : Int32) (σ : sv_S) : Option (Unit × sv_S) :=
 sp_l (sv_sI σ 0 21 (3 : Int32)) (fun σ20 =>
 sp_l (sv_sJ σ20 0 23 (x1.toInt64)) (fun σ21 =>
 sp_l (sv_sI σ21 0 20 ((σ21.1 0 20) + (1 : Int32))) (fun σ22 =>
 some ((), σ22))))
def q_X8_next_B0_b (θ : sv_T)   (rec : sv_S → Option (Unit × sv_S))  (σ : sv_S) : Option (Unit × sv_S) :=
 sp_b (q_X8_byteAt θ (σ.1 0 20) σ) (fun r1 σ2 =>
 if r1 = (32 : Int32) then
 (sp_l (sv_sI σ2 0 20 ((σ2.1 0 20) + (1 : Int32))) (fun σ4 =>
 rec σ4))
 else
 sp_b (q_X8_byteAt θ (σ2.1 0 20) σ2) (fun r5 σ6 =>
 if r5 = (10 : Int32) then
 (sp_l (sv_sI σ6 0 20 ((σ6.1 0 20) + (1 : Int32))) (fun σ58 =>
 rec σ58))
 else
 sp_l (sv_sI σ6 0 22 (σ6.1 0 20)) (fun σ8 =>
 sp_b (q_X8_byteAt θ (σ8.1 0 20) σ8) (fun r9 σ10 =>
 sp_l (sv_sI σ10 0 21 (4 : Int32)) (fun σ11 =>
 if 0 ≤ r9 then
 (sp_b (q_X8_in θ (r9.toInt64) (97 : Int64) (122 : Int64) σ11) (fun r13 σ14 =>
 if r13 = 0 then
 (sp_b (q_X8_in θ (r9.toInt64) (48 : Int64) (57 : Int64) σ14) (fun r16 σ17 =>
 if r16 = 0 then
 (if r9 = (40 : Int32) then
 (q_X8_next_B300 θ  r9 σ17)
 else
 if r9 = (41 : Int32) then
 (q_X8_next_B300 θ  r9 σ17)
 else
 if r9 = (59 : Int32) then
 (q_X8_next_B300 θ  r9 σ17)
 else
 if r9 = (43 : Int32) then
 (q_X8_next_B300 θ  r9 σ17)
 else
 if r9 = (45 : Int32) then
 (q_X8_next_B300 θ  r9 σ17)
 else
 if r9 = (42 : Int32) then
 (q_X8_next_B300 θ  r9 σ17)
 else
 if r9 = (60 : Int32) then
 (q_X8_next_B300 θ  r9 σ17)
 else
 if r9 = (61 : Int32) then
 (q_X8_next_B300 θ  r9 σ17)
 else
 some ((), σ17))
 else
 sp_l (sv_sI σ17 0 21 (2 : Int32)) (fun σ30 =>
 sp_l (sv_sJ σ30 0 23 (0 : Int64)) (fun σ31 =>
 q_X8_next_B160 θ  sv_N (0 : Int32) σ31))))
 else
 sp_l (sv_sI σ14 0 21 (1 : Int32)) (fun σ49 =>
 q_X8_next_B100 θ  sv_N σ49)))
 else
 sp_l (sv_sI σ11 0 21 (0 : Int32)) (fun σ56 =>
 sp_l (sv_sI σ56 0 22 (σ56.1 0 19)) (fun σ57 =>
 some ((), σ57))))))))
def q_X8_next_B0 (θ : sv_T)   : Nat → sv_S → Option (Unit × sv_S)
  | 0 => fun _ => none
  | n + 1 => q_X8_next_B0_b θ  (q_X8_next_B0 θ  n)
def q_X8_next (θ : sv_T)  (σ : sv_S) : Option (Unit × sv_S) :=
 q_X8_next_B0 θ  sv_N σ
def q_X8_fail (θ : sv_T)  (σ : sv_S) : Option (Unit × sv_S) :=
 if (σ.1 0 25) = 0 then
 (sp_l (sv_sI σ 0 25 (1 : Int32)) (fun σ2 =>
 sp_l (sv_sI σ2 0 26 (σ2.1 0 22)) (fun σ3 =>
 some ((), σ3))))
 else
 some ((), σ)
def q_X8_isLetter (θ : sv_T) (a1 : Int32) (a2 : Int32) (σ : sv_S) : Option (Int32 × sv_S) :=
 if (σ.1 0 20) ≤ ((σ.1 0 22) + a1) then
 (if a2 = 0 then
 (some ((1 : Int32), σ))
 else
 some ((0 : Int32), σ))
 else
 sp_b (q_X8_byteAt θ ((σ.1 0 22) + a1) σ) (fun r3 σ4 =>
 if r3 = a2 then
 (some ((1 : Int32), σ4))
 else
 some ((0 : Int32), σ4))
def q_X8_isWord (θ : sv_T) (a1 : Int32) (a2 : Int32) (a3 : Int32) (a4 : Int32) (a5 : Int32) (a6 : Int32) (a7 : Int32) (a8 : Int32) (σ : sv_S) : Option (Int32 × sv_S) :=
 if (σ.1 0 25) = 0 then
 (if (σ.1 0 21) = (1 : Int32) then
 (if ((σ.1 0 22) + (8 : Int32)) < (σ.1 0 20) then
 (some ((0 : Int32), σ))
 else
 sp_b (q_X8_isLetter θ (0 : Int32) a1 σ) (fun r4 σ5 =>
 if r4 = 0 then
 (some ((0 : Int32), σ5))
 else
 sp_b (q_X8_isLetter θ (1 : Int32) a2 σ5) (fun r7 σ8 =>
 if r7 = 0 then
 (some ((0 : Int32), σ8))
 else
 sp_b (q_X8_isLetter θ (2 : Int32) a3 σ8) (fun r10 σ11 =>
 if r10 = 0 then
 (some ((0 : Int32), σ11))
 else
 sp_b (q_X8_isLetter θ (3 : Int32) a4 σ11) (fun r13 σ14 =>
 if r13 = 0 then
 (some ((0 : Int32), σ14))
 else
 sp_b (q_X8_isLetter θ (4 : Int32) a5 σ14) (fun r16 σ17 =>
 if r16 = 0 then
 (some ((0 : Int32), σ17))
 else
 sp_b (q_X8_isLetter θ (5 : Int32) a6 σ17) (fun r19 σ20 =>
 if r19 = 0 then
 (some ((0 : Int32), σ20))
 else
 sp_b (q_X8_isLetter θ (6 : Int32) a7 σ20) (fun r22 σ23 =>
 if r22 = 0 then
 (some ((0 : Int32), σ23))
 else
 sp_b (q_X8_isLetter θ (7 : Int32) a8 σ23) (fun r25 σ26 =>
 if r25 = 0 then
 (some ((0 : Int32), σ26))
 else
 some ((1 : Int32), σ26))))))))))
 else
 some ((0 : Int32), σ))
 else
 some ((0 : Int32), σ)
def q_X8_isSign (θ : sv_T) (a1 : Int32) (σ : sv_S) : Option (Int32 × sv_S) :=
 if (σ.1 0 25) = 0 then
 (if (σ.1 0 21) = (3 : Int32) then
 (if (lg_cmp (σ.2.1 0 23) (a1.toInt64)) = 0 then
 (some ((1 : Int32), σ))
 else
 some ((0 : Int32), σ))
 else
 some ((0 : Int32), σ))
 else
 some ((0 : Int32), σ)
def q_X8_opens (θ : sv_T)  (σ : sv_S) : Option (Int32 × sv_S) :=
 if (σ.1 0 24) = (5 : Int32) then
 (sp_b (q_X8_fail θ σ) (fun r5 σ6 =>
 some ((0 : Int32), σ6)))
 else
 sp_l (sv_sI σ 0 24 ((σ.1 0 24) + (1 : Int32))) (fun σ2 =>
 sp_b (q_X8_next θ σ2) (fun r3 σ4 =>
 some ((1 : Int32), σ4)))
def q_X8_name (θ : sv_T)  (σ : sv_S) : Option (Int32 × sv_S) :=
 sp_b (q_X8_isWord θ (114 : Int32) (97 : Int32) (105 : Int32) (110 : Int32) (0 : Int32) (0 : Int32) (0 : Int32) (0 : Int32) σ) (fun r1 σ2 =>
 if r1 = 0 then
 (sp_b (q_X8_isWord θ (104 : Int32) (111 : Int32) (117 : Int32) (114 : Int32) (0 : Int32) (0 : Int32) (0 : Int32) (0 : Int32) σ2) (fun r4 σ5 =>
 if r4 = 0 then
 (sp_b (q_X8_isWord θ (110 : Int32) (117 : Int32) (109 : Int32) (98 : Int32) (101 : Int32) (114 : Int32) (0 : Int32) (0 : Int32) σ5) (fun r7 σ8 =>
 if r7 = 0 then
 (sp_b (q_X8_isWord θ (100 : Int32) (111 : Int32) (110 : Int32) (101 : Int32) (0 : Int32) (0 : Int32) (0 : Int32) (0 : Int32) σ8) (fun r10 σ11 =>
 if r10 = 0 then
 (sp_b (q_X8_isWord θ (115 : Int32) (116 : Int32) (114 : Int32) (101 : Int32) (101 : Int32) (116 : Int32) (0 : Int32) (0 : Int32) σ11) (fun r13 σ14 =>
 if r13 = 0 then
 (sp_b (q_X8_isWord θ (119 : Int32) (101 : Int32) (115 : Int32) (116 : Int32) (0 : Int32) (0 : Int32) (0 : Int32) (0 : Int32) σ14) (fun r16 σ17 =>
 if r16 = 0 then
 (sp_b (q_X8_fail θ σ17) (fun r19 σ20 =>
 some ((0 : Int32), σ20)))
 else
 some ((σ17.1 0 17), σ17)))
 else
 some ((σ14.1 0 16), σ14)))
 else
 some ((σ11.1 0 15), σ11)))
 else
 some ((σ8.1 0 14), σ8)))
 else
 some ((σ5.1 0 13), σ5)))
 else
 some ((σ2.1 0 12), σ2))
def q_X8_term_B5_b (θ : sv_T) (G : Nat → sv_T → sv_S → Option (Int32 × sv_S))   (rec : Int32 → sv_S → Option (Int32 × sv_S)) (x1 : Int32) (σ : sv_S) : Option (Int32 × sv_S) :=
 sp_b (q_X8_isSign θ (42 : Int32) σ) (fun r3 σ4 =>
 if r3 = 0 then
 (some (x1, σ4))
 else
 sp_b (q_X8_next θ σ4) (fun r6 σ7 =>
 sp_b (G 5 θ σ7) (fun r8 σ9 =>
 sp_l (x1 * r8) (fun v10 =>
 rec v10 σ9))))
def q_X8_term_B5 (θ : sv_T) (G : Nat → sv_T → sv_S → Option (Int32 × sv_S))   : Nat → Int32 → sv_S → Option (Int32 × sv_S)
  | 0 => fun _ _ => none
  | n + 1 => q_X8_term_B5_b θ G  (q_X8_term_B5 θ G  n)
def q_X8_term_b (θ : sv_T) (G : Nat → sv_T → sv_S → Option (Int32 × sv_S))  (σ : sv_S) : Option (Int32 × sv_S) :=
 sp_b (G 5 θ σ) (fun r1 σ2 =>
 q_X8_term_B5 θ G  sv_N r1 σ2)
def q_X8_added_B39 (θ : sv_T) (G : Nat → sv_T → sv_S → Option (Int32 × sv_S))  (k5 : Int32 → sv_S → Option (Int32 × sv_S)) (x1 : Int32) (w0 : Int32) (σ : sv_S) : Option (Int32 × sv_S) :=
 sp_b (q_X8_next θ σ) (fun r7 σ8 =>
 sp_b (G 4 θ σ8) (fun r9 σ10 =>
 if w0 = 0 then
 (sp_l (x1 - r9) (fun v12 =>
 k5 v12 σ10))
 else
 sp_l (x1 + r9) (fun v13 =>
 k5 v13 σ10)))
def q_X8_added_B5_b (θ : sv_T) (G : Nat → sv_T → sv_S → Option (Int32 × sv_S))   (rec : Int32 → sv_S → Option (Int32 × sv_S)) (x1 : Int32) (σ : sv_S) : Option (Int32 × sv_S) :=
 sp_b (q_X8_isSign θ (43 : Int32) σ) (fun r3 σ4 =>
 if r3 = 0 then
 (sp_b (q_X8_isSign θ (45 : Int32) σ4) (fun r14 σ15 =>
 if r14 = 0 then
 (some (x1, σ15))
 else
 if (lg_cmp (σ15.2.1 0 23) (43 : Int64)) = 0 then
 (q_X8_added_B39 θ G  rec x1 (1 : Int32) σ15)
 else
 q_X8_added_B39 θ G  rec x1 (0 : Int32) σ15))
 else
 if (lg_cmp (σ4.2.1 0 23) (43 : Int64)) = 0 then
 (q_X8_added_B39 θ G  rec x1 (1 : Int32) σ4)
 else
 q_X8_added_B39 θ G  rec x1 (0 : Int32) σ4)
def q_X8_added_B5 (θ : sv_T) (G : Nat → sv_T → sv_S → Option (Int32 × sv_S))   : Nat → Int32 → sv_S → Option (Int32 × sv_S)
  | 0 => fun _ _ => none
  | n + 1 => q_X8_added_B5_b θ G  (q_X8_added_B5 θ G  n)
def q_X8_added_b (θ : sv_T) (G : Nat → sv_T → sv_S → Option (Int32 × sv_S))  (σ : sv_S) : Option (Int32 × sv_S) :=
 sp_b (G 4 θ σ) (fun r1 σ2 =>
 q_X8_added_B5 θ G  sv_N r1 σ2)
def q_X8_not_B93 (θ : sv_T) (G : Nat → sv_T → sv_S → Option (Int32 × sv_S))   (x1 : Int32) (w0 : Int32) (σ : sv_S) : Option (Int32 × sv_S) :=
 sp_b (q_X8_next θ σ) (fun r10 σ11 =>
 sp_b (G 3 θ σ11) (fun r12 σ13 =>
 if w0 = 0 then
 (if x1 = r12 then
 (some ((1 : Int32), σ13))
 else
 some ((0 : Int32), σ13))
 else
 if r12 ≤ x1 then
 (some ((0 : Int32), σ13))
 else
 some ((1 : Int32), σ13)))
def q_X8_not_b (θ : sv_T) (G : Nat → sv_T → sv_S → Option (Int32 × sv_S))  (σ : sv_S) : Option (Int32 × sv_S) :=
 sp_b (q_X8_isWord θ (110 : Int32) (111 : Int32) (116 : Int32) (0 : Int32) (0 : Int32) (0 : Int32) (0 : Int32) (0 : Int32) σ) (fun r1 σ2 =>
 if r1 = 0 then
 (sp_b (G 3 θ σ2) (fun r4 σ5 =>
 sp_b (q_X8_isSign θ (60 : Int32) σ5) (fun r6 σ7 =>
 if r6 = 0 then
 (sp_b (q_X8_isSign θ (61 : Int32) σ7) (fun r17 σ18 =>
 if r17 = 0 then
 (some (r4, σ18))
 else
 if (lg_cmp (σ18.2.1 0 23) (60 : Int64)) = 0 then
 (q_X8_not_B93 θ G  r4 (1 : Int32) σ18)
 else
 q_X8_not_B93 θ G  r4 (0 : Int32) σ18))
 else
 if (lg_cmp (σ7.2.1 0 23) (60 : Int64)) = 0 then
 (q_X8_not_B93 θ G  r4 (1 : Int32) σ7)
 else
 q_X8_not_B93 θ G  r4 (0 : Int32) σ7)))
 else
 sp_b (q_X8_opens θ σ2) (fun r21 σ22 =>
 if r21 = 0 then
 (some ((0 : Int32), σ22))
 else
 sp_b (G 2 θ σ22) (fun r24 σ25 =>
 sp_l (sv_sI σ25 0 24 ((σ25.1 0 24) - (1 : Int32))) (fun σ26 =>
 if r24 = 0 then
 (some ((1 : Int32), σ26))
 else
 some ((0 : Int32), σ26)))))
def q_X8_both_B5_b (θ : sv_T) (G : Nat → sv_T → sv_S → Option (Int32 × sv_S))   (rec : Int32 → sv_S → Option (Int32 × sv_S)) (x1 : Int32) (σ : sv_S) : Option (Int32 × sv_S) :=
 sp_b (q_X8_isWord θ (97 : Int32) (110 : Int32) (100 : Int32) (0 : Int32) (0 : Int32) (0 : Int32) (0 : Int32) (0 : Int32) σ) (fun r3 σ4 =>
 if r3 = 0 then
 (some (x1, σ4))
 else
 sp_b (q_X8_next θ σ4) (fun r6 σ7 =>
 sp_b (G 2 θ σ7) (fun r8 σ9 =>
 if x1 = 0 then
 (rec (0 : Int32) σ9)
 else
 if r8 = 0 then
 (rec (0 : Int32) σ9)
 else
 rec (1 : Int32) σ9)))
def q_X8_both_B5 (θ : sv_T) (G : Nat → sv_T → sv_S → Option (Int32 × sv_S))   : Nat → Int32 → sv_S → Option (Int32 × sv_S)
  | 0 => fun _ _ => none
  | n + 1 => q_X8_both_B5_b θ G  (q_X8_both_B5 θ G  n)
def q_X8_both_b (θ : sv_T) (G : Nat → sv_T → sv_S → Option (Int32 × sv_S))  (σ : sv_S) : Option (Int32 × sv_S) :=
 sp_b (G 2 θ σ) (fun r1 σ2 =>
 q_X8_both_B5 θ G  sv_N r1 σ2)
def q_X8_either_B5_b (θ : sv_T) (G : Nat → sv_T → sv_S → Option (Int32 × sv_S))   (rec : Int32 → sv_S → Option (Int32 × sv_S)) (x1 : Int32) (σ : sv_S) : Option (Int32 × sv_S) :=
 sp_b (q_X8_isWord θ (111 : Int32) (114 : Int32) (0 : Int32) (0 : Int32) (0 : Int32) (0 : Int32) (0 : Int32) (0 : Int32) σ) (fun r3 σ4 =>
 if r3 = 0 then
 (some (x1, σ4))
 else
 sp_b (q_X8_next θ σ4) (fun r6 σ7 =>
 sp_b (G 1 θ σ7) (fun r8 σ9 =>
 if x1 = 0 then
 (if r8 = 0 then
 (rec (0 : Int32) σ9)
 else
 rec (1 : Int32) σ9)
 else
 rec (1 : Int32) σ9)))
def q_X8_either_B5 (θ : sv_T) (G : Nat → sv_T → sv_S → Option (Int32 × sv_S))   : Nat → Int32 → sv_S → Option (Int32 × sv_S)
  | 0 => fun _ _ => none
  | n + 1 => q_X8_either_B5_b θ G  (q_X8_either_B5 θ G  n)
def q_X8_either_b (θ : sv_T) (G : Nat → sv_T → sv_S → Option (Int32 × sv_S))  (σ : sv_S) : Option (Int32 × sv_S) :=
 sp_b (G 1 θ σ) (fun r1 σ2 =>
 q_X8_either_B5 θ G  sv_N r1 σ2)
def q_X8_atom_B71 (θ : sv_T) (G : Nat → sv_T → sv_S → Option (Int32 × sv_S))   (x1 : Int32) (σ : sv_S) : Option (Int32 × sv_S) :=
 sp_l (sv_sI σ 0 24 ((σ.1 0 24) - (1 : Int32))) (fun σ31 =>
 if (σ31.1 0 25) = 0 then
 (sp_b (q_X8_next θ σ31) (fun r33 σ34 =>
 some (x1, σ34)))
 else
 some (x1, σ31))
def q_X8_atom_B123 (θ : sv_T) (G : Nat → sv_T → sv_S → Option (Int32 × sv_S))   (x1 : Int32) (σ : sv_S) : Option (Int32 × sv_S) :=
 if (σ.1 0 25) = 0 then
 (if (σ.1 0 21) = (1 : Int32) then
 (sp_b (q_X8_name θ σ) (fun r14 σ15 =>
 if (σ15.1 0 25) = 0 then
 (sp_b (q_X8_next θ σ15) (fun r17 σ18 =>
 some (r14, σ18)))
 else
 some (r14, σ15)))
 else
 sp_b (q_X8_fail θ σ) (fun r12 σ13 =>
 some (x1, σ13)))
 else
 sp_b (q_X8_fail θ σ) (fun r9 σ10 =>
 some (x1, σ10))
def q_X8_atom_b (θ : sv_T) (G : Nat → sv_T → sv_S → Option (Int32 × sv_S))  (σ : sv_S) : Option (Int32 × sv_S) :=
 sp_b (q_X8_isSign θ (45 : Int32) σ) (fun r1 σ2 =>
 if r1 = 0 then
 (sp_b (q_X8_isSign θ (40 : Int32) σ2) (fun r4 σ5 =>
 if r4 = 0 then
 (if (σ5.1 0 25) = 0 then
 (if (σ5.1 0 21) = (2 : Int32) then
 (sp_l ((σ5.2.1 0 23).toInt32) (fun v20 =>
 sp_b (q_X8_next θ σ5) (fun r21 σ22 =>
 some (v20, σ22))))
 else
 q_X8_atom_B123 θ G  (0 : Int32) σ5)
 else
 q_X8_atom_B123 θ G  (0 : Int32) σ5)
 else
 sp_b (q_X8_opens θ σ5) (fun r23 σ24 =>
 if r23 = 0 then
 (some ((0 : Int32), σ24))
 else
 sp_b (G 0 θ σ24) (fun r26 σ27 =>
 sp_b (q_X8_isSign θ (41 : Int32) σ27) (fun r28 σ29 =>
 if r28 = 0 then
 (sp_b (q_X8_fail θ σ29) (fun r35 σ36 =>
 q_X8_atom_B71 θ G  r26 σ36))
 else
 q_X8_atom_B71 θ G  r26 σ29)))))
 else
 sp_b (q_X8_opens θ σ2) (fun r37 σ38 =>
 if r37 = 0 then
 (some ((0 : Int32), σ38))
 else
 sp_b (G 5 θ σ38) (fun r40 σ41 =>
 sp_l (-r40) (fun v42 =>
 sp_l (sv_sI σ41 0 24 ((σ41.1 0 24) - (1 : Int32))) (fun σ43 =>
 some (v42, σ43))))))
def q_G8 : Nat → Nat → sv_T → sv_S → Option (Int32 × sv_S)
  | 0 => fun _ _ _ => none
  | d + 1 => fun j θ => match j with
    | 0 => q_X8_either_b θ (q_G8 d)
    | 1 => q_X8_both_b θ (q_G8 d)
    | 2 => q_X8_not_b θ (q_G8 d)
    | 3 => q_X8_added_b θ (q_G8 d)
    | 4 => q_X8_term_b θ (q_G8 d)
    | _ => q_X8_atom_b θ (q_G8 d)
abbrev q_X8_either (θ : sv_T) (d : Nat)  (σ : sv_S) : Option (Int32 × sv_S) := q_G8 d 0 θ σ
abbrev q_X8_both (θ : sv_T) (d : Nat)  (σ : sv_S) : Option (Int32 × sv_S) := q_G8 d 1 θ σ
abbrev q_X8_not (θ : sv_T) (d : Nat)  (σ : sv_S) : Option (Int32 × sv_S) := q_G8 d 2 θ σ
abbrev q_X8_added (θ : sv_T) (d : Nat)  (σ : sv_S) : Option (Int32 × sv_S) := q_G8 d 3 θ σ
abbrev q_X8_term (θ : sv_T) (d : Nat)  (σ : sv_S) : Option (Int32 × sv_S) := q_G8 d 4 θ σ
abbrev q_X8_atom (θ : sv_T) (d : Nat)  (σ : sv_S) : Option (Int32 × sv_S) := q_G8 d 5 θ σ
def q_X8_part_B48 (θ : sv_T) (a1 : Int32)  (x2 : Int32) (σ : sv_S) : Option (Int32 × sv_S) :=
 if (σ.1 0 25) = 0 then
 (sp_b (q_X8_next θ σ) (fun r10 σ11 =>
 some (x2, σ11)))
 else
 some (x2, σ)
def q_X8_part_B34 (θ : sv_T) (a1 : Int32)  (w0 : Int32) (σ : sv_S) : Option (Int32 × sv_S) :=
 sp_b (q_X8_isSign θ (59 : Int32) σ) (fun r6 σ7 =>
 if r6 = 0 then
 (sp_b (q_X8_fail θ σ7) (fun r12 σ13 =>
 q_X8_part_B48 θ a1 w0 σ13))
 else
 q_X8_part_B48 θ a1 w0 σ7)
def q_X8_part_B19 (θ : sv_T) (a1 : Int32)   (σ : sv_S) : Option (Int32 × sv_S) :=
 if (σ.1 0 25) = 0 then
 (sp_b (q_X8_either θ 40 σ) (fun r4 σ5 =>
 q_X8_part_B34 θ a1 r4 σ5))
 else
 q_X8_part_B34 θ a1 (0 : Int32) σ
def q_X8_part (θ : sv_T) (a1 : Int32) (σ : sv_S) : Option (Int32 × sv_S) :=
 if a1 = 0 then
 (sp_b (q_X8_fail θ σ) (fun r16 σ17 =>
 if (σ17.1 0 25) = 0 then
 (sp_b (q_X8_next θ σ17) (fun r19 σ20 =>
 q_X8_part_B19 θ a1 σ20))
 else
 q_X8_part_B19 θ a1 σ17))
 else
 if (σ.1 0 25) = 0 then
 (sp_b (q_X8_next θ σ) (fun r14 σ15 =>
 q_X8_part_B19 θ a1 σ15))
 else
 q_X8_part_B19 θ a1 σ
def q_X8_read_B126 (θ : sv_T) (a1 : Int32) (a2 : Int32)  (x2 : Int32) (x3 : Int32) (x4 : Int32) (w0 : Int32) (σ : sv_S) : Option (Int32 × sv_S) :=
 if (σ.1 0 25) = 0 then
 (if (σ.1 0 21) = 0 then
 (if x2 = 0 then
 (some (x3, σ))
 else
 if x2 = (1 : Int32) then
 (some (x4, σ))
 else
 some (w0, σ))
 else
 sp_b (q_X8_fail θ σ) (fun r29 σ30 =>
 if x2 = 0 then
 (some (x3, σ30))
 else
 if x2 = (1 : Int32) then
 (some (x4, σ30))
 else
 some (w0, σ30)))
 else
 if x2 = 0 then
 (some (x3, σ))
 else
 if x2 = (1 : Int32) then
 (some (x4, σ))
 else
 some (w0, σ)
def q_X8_read_B92 (θ : sv_T) (a1 : Int32) (a2 : Int32)  (x2 : Int32) (x3 : Int32) (w0 : Int32) (σ : sv_S) : Option (Int32 × sv_S) :=
 if (σ.1 0 25) = 0 then
 (sp_b (q_X8_isWord θ (118 : Int32) (97 : Int32) (108 : Int32) (117 : Int32) (101 : Int32) (0 : Int32) (0 : Int32) (0 : Int32) σ) (fun r19 σ20 =>
 sp_b (q_X8_part θ r19 σ20) (fun r21 σ22 =>
 q_X8_read_B126 θ a1 a2 x2 x3 w0 r21 σ22)))
 else
 q_X8_read_B126 θ a1 a2 x2 x3 w0 (0 : Int32) σ
def q_X8_read (θ : sv_T) (a1 : Int32) (a2 : Int32) (σ : sv_S) : Option (Int32 × sv_S) :=
 sp_l (sv_sI σ 0 18 ((160 : Int32) * a1)) (fun σ1 =>
 if (a1 < 0 ∨ 6 ≤ a1.toNatClampNeg) then none else
 sp_l (sv_sI σ1 0 19 (σ1.1 2 a1.toNatClampNeg)) (fun σ3 =>
 sp_l (sv_sI σ3 0 20 (0 : Int32)) (fun σ4 =>
 sp_l (sv_sI σ4 0 24 (0 : Int32)) (fun σ5 =>
 sp_l (sv_sI σ5 0 25 (0 : Int32)) (fun σ6 =>
 sp_b (q_X8_next θ σ6) (fun r7 σ8 =>
 sp_b (q_X8_isWord θ (110 : Int32) (101 : Int32) (101 : Int32) (100 : Int32) (115 : Int32) (0 : Int32) (0 : Int32) (0 : Int32) σ8) (fun r9 σ10 =>
 sp_b (q_X8_part θ r9 σ10) (fun r11 σ12 =>
 if (σ12.1 0 25) = 0 then
 (sp_b (q_X8_isWord θ (116 : Int32) (97 : Int32) (107 : Int32) (101 : Int32) (115 : Int32) (0 : Int32) (0 : Int32) (0 : Int32) σ12) (fun r14 σ15 =>
 sp_b (q_X8_part θ r14 σ15) (fun r16 σ17 =>
 q_X8_read_B92 θ a1 a2 a2 r11 r16 σ17)))
 else
 q_X8_read_B92 θ a1 a2 a2 r11 (0 : Int32) σ12))))))))
def q_X8_text_B14_b (θ : sv_T)   (rec : Int32 → sv_S → Option (Int32 × sv_S)) (x1 : Int32) (σ : sv_S) : Option (Int32 × sv_S) :=
 if (σ.1 0 6) ≤ x1 then
 (if ((σ.1 0 3) < 0 ∨ 6 ≤ (σ.1 0 3).toNatClampNeg) then none else
 sp_l (sv_sI σ 2 (σ.1 0 3).toNatClampNeg (σ.1 0 6)) (fun σ4 =>
 sp_l (sv_sI σ4 0 6 (0 : Int32)) (fun σ5 =>
 sp_b (q_X8_read θ (σ5.1 0 3) (0 : Int32) σ5) (fun r6 σ7 =>
 if (σ7.1 0 25) = 0 then
 (sp_l (sv_sI σ7 0 3 ((σ7.1 0 3) + (1 : Int32))) (fun σ9 =>
 some (((σ9.1 0 3) - (1 : Int32)), σ9)))
 else
 some (((-100 : Int32) - (σ7.1 0 26)), σ7)))))
 else
 if (x1 < 0 ∨ 160 ≤ x1.toNatClampNeg) then none else
 if ((((160 : Int32) * (σ.1 0 3)) + x1) < 0 ∨ 960 ≤ (((160 : Int32) * (σ.1 0 3)) + x1).toNatClampNeg) then none else
 sp_l (sv_sI σ 1 (((160 : Int32) * (σ.1 0 3)) + x1).toNatClampNeg (σ.1 3 x1.toNatClampNeg)) (fun σ12 =>
 sp_l (x1 + 1) (fun v13 =>
 rec v13 σ12))
def q_X8_text_B14 (θ : sv_T)   : Nat → Int32 → sv_S → Option (Int32 × sv_S)
  | 0 => fun _ _ => none
  | n + 1 => q_X8_text_B14_b θ  (q_X8_text_B14 θ  n)
def q_X8_text (θ : sv_T)  (σ : sv_S) : Option (Int32 × sv_S) :=
 if (σ.1 0 3) = (6 : Int32) then
 (some ((-4 : Int32), σ))
 else
 q_X8_text_B14 θ  sv_N (0 : Int32) σ
def q_X8_force (θ : sv_T) (a1 : Int32) (σ : sv_S) : Option (Int32 × sv_S) :=
 sp_b (q_X8_in θ (a1.toInt64) (0 : Int64) (((σ.1 0 3) - (1 : Int32)).toInt64) σ) (fun r1 σ2 =>
 if r1 = 0 then
 (some ((-2 : Int32), σ2))
 else
 sp_l (σ2.1 0 4) (fun v4 =>
 sp_l (sv_sI σ2 0 4 a1) (fun σ5 =>
 some (v4, σ5))))
def q_X8_isShaken (θ : sv_T) (a1 : Int32) (σ : sv_S) : Option (Int32 × sv_S) :=
 if ((((3 : Int32) * a1) + (2 : Int32)) < 0 ∨ 18 ≤ (((3 : Int32) * a1) + (2 : Int32)).toNatClampNeg) then none else
 if (σ.1 6 (((3 : Int32) * a1) + (2 : Int32)).toNatClampNeg) = (1 : Int32) then
 (some ((1 : Int32), σ))
 else
 some ((0 : Int32), σ)
def q_X8_shakenMany_B4_b (θ : sv_T)   (rec : Int32 → Int32 → sv_S → Option (Int32 × sv_S)) (x1 : Int32) (x2 : Int32) (σ : sv_S) : Option (Int32 × sv_S) :=
 if (σ.1 0 11) ≤ x2 then
 (some (x1, σ))
 else
 if ((((3 : Int32) * x2) + (2 : Int32)) < 0 ∨ 18 ≤ (((3 : Int32) * x2) + (2 : Int32)).toNatClampNeg) then none else
 sp_l (x1 + (σ.1 6 (((3 : Int32) * x2) + (2 : Int32)).toNatClampNeg)) (fun v3 =>
 sp_l (x2 + 1) (fun v4 =>
 rec v3 v4 σ))
def q_X8_shakenMany_B4 (θ : sv_T)   : Nat → Int32 → Int32 → sv_S → Option (Int32 × sv_S)
  | 0 => fun _ _ _ => none
  | n + 1 => q_X8_shakenMany_B4_b θ  (q_X8_shakenMany_B4 θ  n)
def q_X8_shakenMany (θ : sv_T)  (σ : sv_S) : Option (Int32 × sv_S) :=
 q_X8_shakenMany_B4 θ  sv_N (0 : Int32) (0 : Int32) σ
def q_X8_rainOf (θ : sv_T) (a1 : Int32) (a2 : Int32) (σ : sv_S) : Option (Int32 × sv_S) :=
 if ((((3 : Int32) * a1) + (1 : Int32)) < 0 ∨ 18 ≤ (((3 : Int32) * a1) + (1 : Int32)).toNatClampNeg) then none else
 if ((((24 : Int32) * (σ.1 6 (((3 : Int32) * a1) + (1 : Int32)).toNatClampNeg)) + a2) < 0 ∨ 48 ≤ (((24 : Int32) * (σ.1 6 (((3 : Int32) * a1) + (1 : Int32)).toNatClampNeg)) + a2).toNatClampNeg) then none else
 some ((σ.1 4 (((24 : Int32) * (σ.1 6 (((3 : Int32) * a1) + (1 : Int32)).toNatClampNeg)) + a2).toNatClampNeg), σ)
def q_X8_says (θ : sv_T) (a1 : Int32) (a2 : Int32) (a3 : Int32) (a4 : Int32) (σ : sv_S) : Option (Int32 × sv_S) :=
 sp_b (q_X8_rainOf θ a2 a3 σ) (fun r1 σ2 =>
 sp_l (sv_sI σ2 0 12 r1) (fun σ3 =>
 sp_l (sv_sI σ3 0 13 a3) (fun σ4 =>
 if (((3 : Int32) * a2) < 0 ∨ 18 ≤ ((3 : Int32) * a2).toNatClampNeg) then none else
 sp_l (sv_sI σ4 0 14 (σ4.1 6 ((3 : Int32) * a2).toNatClampNeg)) (fun σ6 =>
 sp_l (sv_sI σ6 0 15 a4) (fun σ7 =>
 if ((((3 : Int32) * a2) + (1 : Int32)) < 0 ∨ 18 ≤ (((3 : Int32) * a2) + (1 : Int32)).toNatClampNeg) then none else
 sp_l (sv_sI σ7 0 16 (σ7.1 6 (((3 : Int32) * a2) + (1 : Int32)).toNatClampNeg)) (fun σ9 =>
 sp_l (sv_sI σ9 0 17 (σ9.1 0 7)) (fun σ10 =>
 sp_b (q_X8_read θ (σ10.1 0 4) a1 σ10) (fun r11 σ12 =>
 if a1 = 0 then
 (sp_b (q_X8_within θ r11 (0 : Int32) (9 : Int32) σ12) (fun r19 σ20 =>
 some (r19, σ20)))
 else
 if a1 = (1 : Int32) then
 (sp_b (q_X8_within θ r11 (0 : Int32) (24 : Int32) σ12) (fun r17 σ18 =>
 some (r17, σ18)))
 else
 sp_b (q_X8_within θ r11 (0 : Int32) (99 : Int32) σ12) (fun r15 σ16 =>
 some (r15, σ16))))))))))
def q_X8_needsOf (θ : sv_T) (a1 : Int32) (a2 : Int32) (a3 : Int32) (σ : sv_S) : Option (Int32 × sv_S) :=
 if (a1 < 0 ∨ 6 ≤ a1.toNatClampNeg) then none else
 sp_l (σ.1 5 a1.toNatClampNeg) (fun v2 =>
 if v2 = (5 : Int32) then
 (some ((1 : Int32), σ))
 else
 sp_b (q_X8_says θ (0 : Int32) a1 a2 a3 σ) (fun r4 σ5 =>
 if v2 = (1 : Int32) then
 (sp_b (q_X8_within θ (r4 / (2 : Int32)) (1 : Int32) (9 : Int32) σ5) (fun r7 σ8 =>
 some (r7, σ8)))
 else
 if v2 = (3 : Int32) then
 (sp_b (q_X8_within θ (r4 / (2 : Int32)) (1 : Int32) (9 : Int32) σ5) (fun r19 σ20 =>
 some (r19, σ20)))
 else
 if v2 = (2 : Int32) then
 (sp_b (q_X8_within θ (r4 + (2 : Int32)) (1 : Int32) (9 : Int32) σ5) (fun r17 σ18 =>
 some (r17, σ18)))
 else
 if v2 = (4 : Int32) then
 (if (((3 : Int32) * a1) < 0 ∨ 18 ≤ ((3 : Int32) * a1).toNatClampNeg) then none else
 sp_b (q_X8_within θ ((r4 + (2 : Int32)) + ((σ5.1 6 ((3 : Int32) * a1).toNatClampNeg) / (3 : Int32))) (1 : Int32) (9 : Int32) σ5) (fun r15 σ16 =>
 some (r15, σ16)))
 else
 sp_b (q_X8_within θ r4 (1 : Int32) (9 : Int32) σ5) (fun r12 σ13 =>
 some (r12, σ13))))
def q_X8_takesOf (θ : sv_T) (a1 : Int32) (a2 : Int32) (a3 : Int32) (σ : sv_S) : Option (Int32 × sv_S) :=
 if (a1 < 0 ∨ 6 ≤ a1.toNatClampNeg) then none else
 sp_l (σ.1 5 a1.toNatClampNeg) (fun v2 =>
 if v2 = (5 : Int32) then
 (some ((1 : Int32), σ))
 else
 sp_b (q_X8_says θ (1 : Int32) a1 a2 a3 σ) (fun r4 σ5 =>
 if v2 = (1 : Int32) then
 (sp_b (q_X8_within θ (r4 - (1 : Int32)) (1 : Int32) (24 : Int32) σ5) (fun r19 σ20 =>
 some (r19, σ20)))
 else
 if v2 = (3 : Int32) then
 (if (((3 : Int32) * a1) < 0 ∨ 18 ≤ ((3 : Int32) * a1).toNatClampNeg) then none else
 sp_b (q_X8_within θ ((r4 - (1 : Int32)) + ((σ5.1 6 ((3 : Int32) * a1).toNatClampNeg) - (σ5.1 6 ((3 : Int32) * a1).toNatClampNeg) / (3 : Int32) * (3 : Int32))) (1 : Int32) (24 : Int32) σ5) (fun r17 σ18 =>
 some (r17, σ18)))
 else
 if v2 = (2 : Int32) then
 (sp_b (q_X8_within θ ((2 : Int32) * r4) (1 : Int32) (24 : Int32) σ5) (fun r9 σ10 =>
 some (r9, σ10)))
 else
 if v2 = (4 : Int32) then
 (sp_b (q_X8_within θ ((2 : Int32) * r4) (1 : Int32) (24 : Int32) σ5) (fun r14 σ15 =>
 some (r14, σ15)))
 else
 sp_b (q_X8_within θ r4 (1 : Int32) (24 : Int32) σ5) (fun r12 σ13 =>
 some (r12, σ13))))
def q_X8_worthOf (θ : sv_T) (a1 : Int32) (a2 : Int32) (a3 : Int32) (σ : sv_S) : Option (Int32 × sv_S) :=
 if (a1 < 0 ∨ 6 ≤ a1.toNatClampNeg) then none else
 sp_l (σ.1 5 a1.toNatClampNeg) (fun v2 =>
 if v2 = (5 : Int32) then
 (if (3 : Int32) ≤ a2 then
 (some ((0 : Int32), σ))
 else
 if (((3 : Int32) * a1) < 0 ∨ 18 ≤ ((3 : Int32) * a1).toNatClampNeg) then none else
 some ((σ.1 6 ((3 : Int32) * a1).toNatClampNeg), σ))
 else
 sp_b (q_X8_says θ (2 : Int32) a1 a2 a3 σ) (fun r4 σ5 =>
 if v2 = (2 : Int32) then
 (sp_b (q_X8_within θ (r4 + (10 : Int32)) (0 : Int32) (999 : Int32) σ5) (fun r18 σ19 =>
 some (r18, σ19)))
 else
 if v2 = (3 : Int32) then
 (sp_b (q_X8_within θ (r4 - ((2 : Int32) * a2)) (0 : Int32) (999 : Int32) σ5) (fun r16 σ17 =>
 some (r16, σ17)))
 else
 if v2 = (4 : Int32) then
 (if a2 ≤ (11 : Int32) then
 (sp_b (q_X8_within θ (r4 + (10 : Int32)) (0 : Int32) (999 : Int32) σ5) (fun r12 σ13 =>
 some (r12, σ13)))
 else
 sp_b (q_X8_within θ ((2 : Int32) * (r4 + (10 : Int32))) (0 : Int32) (999 : Int32) σ5) (fun r14 σ15 =>
 some (r14, σ15)))
 else
 sp_b (q_X8_within θ r4 (0 : Int32) (999 : Int32) σ5) (fun r9 σ10 =>
 some (r9, σ10))))
def q_X8_holds_B34_b (θ : sv_T) (a1 : Int32) (a2 : Int32) (a3 : Int32)  (rec : Int32 → Int32 → Int32 → Int32 → sv_S → Option (Int32 × sv_S)) (x1 : Int32) (x4 : Int32) (x5 : Int32) (x6 : Int32) (σ : sv_S) : Option (Int32 × sv_S) :=
 if x5 < x6 then
 (some ((1 : Int32), σ))
 else
 sp_b (q_X8_rainOf θ x1 x6 σ) (fun r8 σ9 =>
 if x4 ≤ r8 then
 (sp_l (x6 + 1) (fun v11 =>
 rec x1 x4 x5 v11 σ9))
 else
 some ((0 : Int32), σ9))
def q_X8_holds_B34 (θ : sv_T) (a1 : Int32) (a2 : Int32) (a3 : Int32)  : Nat → Int32 → Int32 → Int32 → Int32 → sv_S → Option (Int32 × sv_S)
  | 0 => fun _ _ _ _ _ => none
  | n + 1 => q_X8_holds_B34_b θ a1 a2 a3 (q_X8_holds_B34 θ a1 a2 a3 n)
def q_X8_holds (θ : sv_T) (a1 : Int32) (a2 : Int32) (a3 : Int32) (σ : sv_S) : Option (Int32 × sv_S) :=
 sp_b (q_X8_needsOf θ a1 a2 a3 σ) (fun r1 σ2 =>
 sp_b (q_X8_takesOf θ a1 a2 a3 σ2) (fun r3 σ4 =>
 sp_l ((a2 + r3) - (1 : Int32)) (fun v5 =>
 if v5 < (24 : Int32) then
 (q_X8_holds_B34 θ a1 a2 a3 sv_N a1 r1 v5 a2 σ4)
 else
 some ((0 : Int32), σ4))))
def q_X8_shakes_B3_b (θ : sv_T) (a1 : Int32) (a2 : Int32) (a3 : Int32)  (rec : Int32 → Int32 → Int32 → sv_S → Option (Int32 × sv_S)) (x1 : Int32) (x3 : Int32) (x4 : Int32) (σ : sv_S) : Option (Int32 × sv_S) :=
 if (24 : Int32) ≤ x4 then
 (some ((-1 : Int32), σ))
 else
 sp_b (q_X8_holds θ x1 x4 x3 σ) (fun r2 σ3 =>
 if r2 = 0 then
 (sp_l (x4 + 1) (fun v5 =>
 rec x1 x3 v5 σ3))
 else
 sp_b (q_X8_takesOf θ x1 x4 x3 σ3) (fun r6 σ7 =>
 some (((x4 + r6) - (1 : Int32)), σ7)))
def q_X8_shakes_B3 (θ : sv_T) (a1 : Int32) (a2 : Int32) (a3 : Int32)  : Nat → Int32 → Int32 → Int32 → sv_S → Option (Int32 × sv_S)
  | 0 => fun _ _ _ _ => none
  | n + 1 => q_X8_shakes_B3_b θ a1 a2 a3 (q_X8_shakes_B3 θ a1 a2 a3 n)
def q_X8_shakes (θ : sv_T) (a1 : Int32) (a2 : Int32) (a3 : Int32) (σ : sv_S) : Option (Int32 × sv_S) :=
 q_X8_shakes_B3 θ a1 a2 a3 sv_N a1 a3 a2 σ
def q_X8_asks (θ : sv_T) (a1 : Int32) (a2 : Int32) (a3 : Int32) (σ : sv_S) : Option (Int32 × sv_S) :=
 sp_b (q_X8_isOne θ a1 σ) (fun r1 σ2 =>
 if r1 = 0 then
 (some ((-2 : Int32), σ2))
 else
 sp_b (q_X8_isHour θ a2 σ2) (fun r4 σ5 =>
 if r4 = 0 then
 (some ((-2 : Int32), σ5))
 else
 sp_b (q_X8_in θ (a3.toInt64) (0 : Int64) (4 : Int64) σ5) (fun r7 σ8 =>
 if r7 = 0 then
 (some ((-2 : Int32), σ8))
 else
 sp_b (q_X8_shakenMany θ σ8) (fun r10 σ11 =>
 if (2 : Int32) ≤ a3 then
 (if a3 = (2 : Int32) then
 (sp_b (q_X8_holds θ a1 a2 r10 σ11) (fun r19 σ20 =>
 if r19 = 0 then
 (some ((0 : Int32), σ20))
 else
 some ((1 : Int32), σ20)))
 else
 if a3 = (3 : Int32) then
 (sp_b (q_X8_worthOf θ a1 a2 r10 σ11) (fun r17 σ18 =>
 some (r17, σ18)))
 else
 sp_b (q_X8_shakes θ a1 a2 r10 σ11) (fun r15 σ16 =>
 some (r15, σ16)))
 else
 if a3 = 0 then
 (sp_b (q_X8_needsOf θ a1 a2 r10 σ11) (fun r25 σ26 =>
 some (r25, σ26)))
 else
 sp_b (q_X8_takesOf θ a1 a2 r10 σ11) (fun r23 σ24 =>
 some (r23, σ24))))))
def q_X8_begins (θ : sv_T)  (σ : sv_S) : Option (Unit × sv_S) :=
 sp_l (sv_sI σ 0 27 (0 : Int32)) (fun σ1 =>
 sp_l (sv_sI σ1 0 28 (0 : Int32)) (fun σ2 =>
 sp_l (sv_sI σ2 0 29 (-1 : Int32)) (fun σ3 =>
 sp_l (sv_sI σ3 0 30 (0 : Int32)) (fun σ4 =>
 sp_l (sv_sI σ4 0 31 (0 : Int32)) (fun σ5 =>
 some ((), σ5))))))
def q_X8_deals (θ : sv_T) (a1 : Int32) (σ : sv_S) : Option (Unit × sv_S) :=
 sp_b (q_X8_shakenMany θ σ) (fun r1 σ2 =>
 sp_l (r1 + (σ2.1 0 28)) (fun v3 =>
 sp_b (q_X8_shakes θ a1 ((σ2.1 0 29) + (1 : Int32)) v3 σ2) (fun r4 σ5 =>
 if r4 = (-1 : Int32) then
 (sp_l (sv_sI σ5 0 30 ((σ5.1 0 30) ||| ((1 : Int32) <<< (a1 &&& 31)))) (fun σ13 =>
 some ((), σ13)))
 else
 sp_b (q_X8_worthOf θ a1 r4 v3 σ5) (fun r7 σ8 =>
 sp_l (sv_sI σ8 0 27 ((σ5.1 0 27) + r7)) (fun σ9 =>
 sp_l (sv_sI σ9 0 29 r4) (fun σ10 =>
 sp_l (sv_sI σ10 0 28 ((σ10.1 0 28) + (1 : Int32))) (fun σ11 =>
 sp_l (sv_sI σ11 0 31 ((σ11.1 0 31) ||| ((1 : Int32) <<< (a1 &&& 31)))) (fun σ12 =>
 some ((), σ12)))))))))
def q_X8_tourBad_B16_b (θ : sv_T) (a1 : Int32)  (rec : Int32 → Int32 → Int32 → sv_S → Option (Int32 × sv_S)) (x1 : Int32) (x2 : Int32) (x3 : Int32) (σ : sv_S) : Option (Int32 × sv_S) :=
 if (x1 < 0 ∨ 4 ≤ x1.toNatClampNeg) then none else
 if (σ.1 12 x1.toNatClampNeg) ≤ x3 then
 (some ((0 : Int32), σ))
 else
 if ((((40 : Int32) * x1) + x3) < 0 ∨ 160 ≤ (((40 : Int32) * x1) + x3).toNatClampNeg) then none else
 sp_l (σ.1 13 (((40 : Int32) * x1) + x3).toNatClampNeg) (fun v6 =>
 sp_b (q_X8_isOne θ v6 σ) (fun r7 σ8 =>
 if r7 = 0 then
 (some ((-2 : Int32), σ8))
 else
 sp_b (q_X8_isShaken θ v6 σ8) (fun r10 σ11 =>
 if r10 = 0 then
 (if ((x2 >>> (v6 &&& 31)) &&& (1 : Int32)) = (1 : Int32) then
 (some ((-2 : Int32), σ11))
 else
 sp_l (x2 ||| ((1 : Int32) <<< (v6 &&& 31))) (fun v14 =>
 sp_l (x3 + 1) (fun v15 =>
 rec x1 v14 v15 σ11)))
 else
 some ((-2 : Int32), σ11))))
def q_X8_tourBad_B16 (θ : sv_T) (a1 : Int32)  : Nat → Int32 → Int32 → Int32 → sv_S → Option (Int32 × sv_S)
  | 0 => fun _ _ _ _ => none
  | n + 1 => q_X8_tourBad_B16_b θ a1 (q_X8_tourBad_B16 θ a1 n)
def q_X8_tourBad (θ : sv_T) (a1 : Int32) (σ : sv_S) : Option (Int32 × sv_S) :=
 if (a1 < 0 ∨ 4 ≤ a1.toNatClampNeg) then none else
 if (σ.1 10 a1.toNatClampNeg) = 0 then
 (some ((-11 : Int32), σ))
 else
 q_X8_tourBad_B16 θ a1 sv_N a1 (0 : Int32) (0 : Int32) σ
def q_X8_goes_B6_b (θ : sv_T) (a1 : Int32)  (rec : Int32 → Int32 → sv_S → Option (Unit × sv_S)) (x1 : Int32) (x2 : Int32) (σ : sv_S) : Option (Unit × sv_S) :=
 if (x1 < 0 ∨ 4 ≤ x1.toNatClampNeg) then none else
 if (σ.1 12 x1.toNatClampNeg) ≤ x2 then
 (some ((), σ))
 else
 if ((((40 : Int32) * x1) + x2) < 0 ∨ 160 ≤ (((40 : Int32) * x1) + x2).toNatClampNeg) then none else
 sp_b (q_X8_deals θ (σ.1 13 (((40 : Int32) * x1) + x2).toNatClampNeg) σ) (fun r6 σ7 =>
 sp_l (x2 + 1) (fun v8 =>
 rec x1 v8 σ7))
def q_X8_goes_B6 (θ : sv_T) (a1 : Int32)  : Nat → Int32 → Int32 → sv_S → Option (Unit × sv_S)
  | 0 => fun _ _ _ => none
  | n + 1 => q_X8_goes_B6_b θ a1 (q_X8_goes_B6 θ a1 n)
def q_X8_goes (θ : sv_T) (a1 : Int32) (σ : sv_S) : Option (Unit × sv_S) :=
 sp_b (q_X8_begins θ σ) (fun r1 σ2 =>
 q_X8_goes_B6 θ a1 sv_N a1 (0 : Int32) σ2)
def q_X8_isSheet (θ : sv_T) (a1 : Int32) (σ : sv_S) : Option (Int32 × sv_S) :=
 sp_b (q_X8_in θ (a1.toInt64) (0 : Int64) (3 : Int64) σ) (fun r1 σ2 =>
 if r1 &&& 1 = r1 then some (r1, σ2) else none)
def q_X8_tour (θ : sv_T) (a1 : Int32) (a2 : Int32) (σ : sv_S) : Option (Int32 × sv_S) :=
 sp_b (q_X8_isSheet θ a1 σ) (fun r1 σ2 =>
 if r1 = 0 then
 (some ((-2 : Int32), σ2))
 else
 sp_b (q_X8_in θ (a2.toInt64) (0 : Int64) (3 : Int64) σ2) (fun r4 σ5 =>
 if r4 = 0 then
 (some ((-2 : Int32), σ5))
 else
 sp_b (q_X8_tourBad θ a1 σ5) (fun r7 σ8 =>
 if r7 = 0 then
 (sp_b (q_X8_goes θ a1 σ8) (fun r10 σ11 =>
 if a2 = 0 then
 (some ((σ11.1 0 27), σ11))
 else
 if a2 = (1 : Int32) then
 (some ((σ11.1 0 28), σ11))
 else
 if a2 = (2 : Int32) then
 (some ((σ11.1 0 29), σ11))
 else
 some ((σ11.1 0 30), σ11)))
 else
 some (r7, σ8))))
def q_X8_deal_B29_b (θ : sv_T) (a1 : Int32)  (rec : Int32 → sv_S → Option (Int32 × sv_S)) (x3 : Int32) (σ : sv_S) : Option (Int32 × sv_S) :=
 if (σ.1 0 11) ≤ x3 then
 (some ((σ.1 0 27), σ))
 else
 if (((σ.1 0 31) >>> (x3 &&& 31)) &&& (1 : Int32)) = (1 : Int32) then
 (if ((((3 : Int32) * x3) + (2 : Int32)) < 0 ∨ 18 ≤ (((3 : Int32) * x3) + (2 : Int32)).toNatClampNeg) then none else
 sp_l (sv_sI σ 6 (((3 : Int32) * x3) + (2 : Int32)).toNatClampNeg (1 : Int32)) (fun σ13 =>
 sp_l (x3 + 1) (fun v14 =>
 rec v14 σ13)))
 else
 sp_l (x3 + 1) (fun v11 =>
 rec v11 σ)
def q_X8_deal_B29 (θ : sv_T) (a1 : Int32)  : Nat → Int32 → sv_S → Option (Int32 × sv_S)
  | 0 => fun _ _ => none
  | n + 1 => q_X8_deal_B29_b θ a1 (q_X8_deal_B29 θ a1 n)
def q_X8_deal (θ : sv_T) (a1 : Int32) (σ : sv_S) : Option (Int32 × sv_S) :=
 sp_b (q_X8_isSheet θ a1 σ) (fun r1 σ2 =>
 if r1 = 0 then
 (some ((-2 : Int32), σ2))
 else
 sp_b (q_X8_tourBad θ a1 σ2) (fun r4 σ5 =>
 if r4 = 0 then
 (sp_b (q_X8_goes θ a1 σ5) (fun r7 σ8 =>
 q_X8_deal_B29 θ a1 sv_N (0 : Int32) σ8))
 else
 some (r4, σ5)))
def q_X8_looks_B37_b (θ : sv_T) (G : Nat → sv_T → Int32 → Int32 → Int32 → Int32 → Int32 → Int32 → sv_S → Option (Unit × sv_S)) (a1 : Int32) (a2 : Int32) (a3 : Int32) (a4 : Int32) (a5 : Int32) (a6 : Int32)  (rec : Int32 → Int32 → Int32 → Int32 → Int32 → Int32 → Int32 → sv_S → Option (Unit × sv_S)) (x1 : Int32) (x2 : Int32) (x3 : Int32) (x4 : Int32) (x5 : Int32) (x6 : Int32) (x7 : Int32) (σ : sv_S) : Option (Unit × sv_S) :=
 if (σ.1 0 11) ≤ x7 then
 (some ((), σ))
 else
 if ((x1 >>> (x7 &&& 31)) &&& (1 : Int32)) = (1 : Int32) then
 (sp_b (q_X8_shakes θ x7 x3 x4 σ) (fun r8 σ9 =>
 sp_l (x1 &&& (((1 : Int32) <<< (x7 &&& 31)) ^^^ (-1 : Int32))) (fun v10 =>
 sp_l ((((10 : Int32) * x6) + x7) + (1 : Int32)) (fun v11 =>
 if r8 = (-1 : Int32) then
 (sp_b (G 0 θ v10 (x2 - (1 : Int32)) x3 x4 x5 v11 σ9) (fun r18 σ19 =>
 sp_l (x7 + 1) (fun v20 =>
 rec x1 x2 x3 x4 x5 x6 v20 σ19)))
 else
 sp_b (q_X8_worthOf θ x7 r8 x4 σ9) (fun r13 σ14 =>
 sp_b (G 0 θ v10 (x2 - (1 : Int32)) (r8 + (1 : Int32)) (x4 + (1 : Int32)) (x5 + r13) v11 σ14) (fun r15 σ16 =>
 sp_l (x7 + 1) (fun v17 =>
 rec x1 x2 x3 x4 x5 x6 v17 σ16)))))))
 else
 sp_l (x7 + 1) (fun v7 =>
 rec x1 x2 x3 x4 x5 x6 v7 σ)
def q_X8_looks_B37 (θ : sv_T) (G : Nat → sv_T → Int32 → Int32 → Int32 → Int32 → Int32 → Int32 → sv_S → Option (Unit × sv_S)) (a1 : Int32) (a2 : Int32) (a3 : Int32) (a4 : Int32) (a5 : Int32) (a6 : Int32)  : Nat → Int32 → Int32 → Int32 → Int32 → Int32 → Int32 → Int32 → sv_S → Option (Unit × sv_S)
  | 0 => fun _ _ _ _ _ _ _ _ => none
  | n + 1 => q_X8_looks_B37_b θ G a1 a2 a3 a4 a5 a6 (q_X8_looks_B37 θ G a1 a2 a3 a4 a5 a6 n)
def q_X8_looks_b (θ : sv_T) (G : Nat → sv_T → Int32 → Int32 → Int32 → Int32 → Int32 → Int32 → sv_S → Option (Unit × sv_S)) (a1 : Int32) (a2 : Int32) (a3 : Int32) (a4 : Int32) (a5 : Int32) (a6 : Int32) (σ : sv_S) : Option (Unit × sv_S) :=
 if (σ.1 0 32) = (-1 : Int32) then
 (sp_l (sv_sI σ 0 32 a6) (fun σ2 =>
 sp_l (sv_sI σ2 0 33 a5) (fun σ3 =>
 if a2 = 0 then
 (some ((), σ3))
 else
 q_X8_looks_B37 θ G a1 a2 a3 a4 a5 a6 sv_N a1 a2 a3 a4 a5 a6 (0 : Int32) σ3)))
 else
 if a5 ≤ (σ.1 0 33) then
 (if a2 = 0 then
 (some ((), σ))
 else
 q_X8_looks_B37 θ G a1 a2 a3 a4 a5 a6 sv_N a1 a2 a3 a4 a5 a6 (0 : Int32) σ)
 else
 sp_l (sv_sI σ 0 32 a6) (fun σ23 =>
 sp_l (sv_sI σ23 0 33 a5) (fun σ24 =>
 if a2 = 0 then
 (some ((), σ24))
 else
 q_X8_looks_B37 θ G a1 a2 a3 a4 a5 a6 sv_N a1 a2 a3 a4 a5 a6 (0 : Int32) σ24))
def q_G9 : Nat → Nat → sv_T → Int32 → Int32 → Int32 → Int32 → Int32 → Int32 → sv_S → Option (Unit × sv_S)
  | 0 => fun _ _ _ _ _ _ _ _ _ => none
  | d + 1 => fun j θ => match j with
    | _ => q_X8_looks_b θ (q_G9 d)
abbrev q_X8_looks (θ : sv_T) (d : Nat) (a1 : Int32) (a2 : Int32) (a3 : Int32) (a4 : Int32) (a5 : Int32) (a6 : Int32) (σ : sv_S) : Option (Unit × sv_S) := q_G9 d 0 θ a1 a2 a3 a4 a5 a6 σ
def q_X8_openSet_B4_b (θ : sv_T)   (rec : Int32 → Int32 → sv_S → Option (Int32 × sv_S)) (x1 : Int32) (x2 : Int32) (σ : sv_S) : Option (Int32 × sv_S) :=
 if (σ.1 0 11) ≤ x2 then
 (some (x1, σ))
 else
 sp_b (q_X8_isShaken θ x2 σ) (fun r2 σ3 =>
 if r2 = 0 then
 (sp_l (x1 ||| ((1 : Int32) <<< (x2 &&& 31))) (fun v5 =>
 sp_l (x2 + 1) (fun v6 =>
 rec v5 v6 σ3)))
 else
 sp_l (x1 ||| ((0 : Int32) <<< (x2 &&& 31))) (fun v7 =>
 sp_l (x2 + 1) (fun v8 =>
 rec v7 v8 σ3)))
def q_X8_openSet_B4 (θ : sv_T)   : Nat → Int32 → Int32 → sv_S → Option (Int32 × sv_S)
  | 0 => fun _ _ _ => none
  | n + 1 => q_X8_openSet_B4_b θ  (q_X8_openSet_B4 θ  n)
def q_X8_openSet (θ : sv_T)  (σ : sv_S) : Option (Int32 × sv_S) :=
 q_X8_openSet_B4 θ  sv_N (0 : Int32) (0 : Int32) σ
def q_X8_bestOf (θ : sv_T) (a1 : Int32) (a2 : Int32) (σ : sv_S) : Option (Int32 × sv_S) :=
 sp_l (sv_sI σ 0 32 (-1 : Int32)) (fun σ1 =>
 sp_l (sv_sI σ1 0 33 (0 : Int32)) (fun σ2 =>
 sp_b (q_X8_shakenMany θ σ2) (fun r3 σ4 =>
 sp_b (q_X8_looks θ 8 a1 a2 (0 : Int32) r3 (0 : Int32) (0 : Int32) σ4) (fun r5 σ6 =>
 some ((σ6.1 0 33), σ6)))))
def q_X8_leaves_B13_b (θ : sv_T)   (rec : Int32 → Int32 → sv_S → Option (Int32 × sv_S)) (x1 : Int32) (x2 : Int32) (σ : sv_S) : Option (Int32 × sv_S) :=
 if (σ.1 0 11) ≤ x2 then
 (some ((-1 : Int32), σ))
 else
 sp_b (q_X8_isShaken θ x2 σ) (fun r6 σ7 =>
 if r6 = 0 then
 (sp_b (q_X8_openSet θ σ7) (fun r10 σ11 =>
 sp_b (q_X8_bestOf θ (r10 &&& (((1 : Int32) <<< (x2 &&& 31)) ^^^ (-1 : Int32))) (6 : Int32) σ11) (fun r12 σ13 =>
 if r12 < x1 then
 (sp_l (x2 + 1) (fun v15 =>
 rec x1 v15 σ13))
 else
 some (x2, σ13))))
 else
 sp_l (x2 + 1) (fun v9 =>
 rec x1 v9 σ7))
def q_X8_leaves_B13 (θ : sv_T)   : Nat → Int32 → Int32 → sv_S → Option (Int32 × sv_S)
  | 0 => fun _ _ _ => none
  | n + 1 => q_X8_leaves_B13_b θ  (q_X8_leaves_B13 θ  n)
def q_X8_leaves (θ : sv_T)  (σ : sv_S) : Option (Int32 × sv_S) :=
 sp_b (q_X8_openSet θ σ) (fun r1 σ2 =>
 sp_b (q_X8_bestOf θ r1 (6 : Int32) σ2) (fun r3 σ4 =>
 q_X8_leaves_B13 θ  sv_N r3 (0 : Int32) σ4))
def q_X8_best (θ : sv_T) (a1 : Int32) (σ : sv_S) : Option (Int32 × sv_S) :=
 sp_b (q_X8_in θ (a1.toInt64) (0 : Int64) (3 : Int64) σ) (fun r1 σ2 =>
 if r1 = 0 then
 (some ((-2 : Int32), σ2))
 else
 if a1 = (2 : Int32) then
 (sp_b (q_X8_leaves θ σ2) (fun r10 σ11 =>
 some (r10, σ11)))
 else
 sp_b (q_X8_openSet θ σ2) (fun r5 σ6 =>
 sp_b (q_X8_bestOf θ r5 (6 : Int32) σ6) (fun r7 σ8 =>
 if a1 = 0 then
 (some ((σ8.1 0 32), σ8))
 else
 some (r7, σ8))))
def q_X8_few (θ : sv_T) (a1 : Int32) (σ : sv_S) : Option (Int32 × sv_S) :=
 sp_b (q_X8_in θ (a1.toInt64) (0 : Int64) (6 : Int64) σ) (fun r1 σ2 =>
 if r1 = 0 then
 (some ((-2 : Int32), σ2))
 else
 sp_b (q_X8_openSet θ σ2) (fun r4 σ5 =>
 sp_b (q_X8_bestOf θ r4 a1 σ5) (fun r6 σ7 =>
 some (r6, σ7))))
def q_X8_water_B45_b (θ : sv_T) (a1 : Int32)  (rec : Int32 → Int32 → Int32 → Int32 → sv_S → Option (Int32 × sv_S)) (x1 : Int32) (x2 : Int32) (x3 : Int32) (x4 : Int32) (σ : sv_S) : Option (Int32 × sv_S) :=
 if (48 : Int32) ≤ x4 then
 (if x1 = 0 then
 (some (x2, σ))
 else
 some (x3, σ))
 else
 if (x4 < 0 ∨ 48 ≤ x4.toNatClampNeg) then none else
 sp_l (σ.1 4 x4.toNatClampNeg) (fun v14 =>
 if (x4 < 0 ∨ 48 ≤ x4.toNatClampNeg) then none else
 sp_l (sv_sI σ 4 x4.toNatClampNeg (9 : Int32)) (fun σ16 =>
 sp_b (q_X8_openSet θ σ16) (fun r17 σ18 =>
 sp_b (q_X8_bestOf θ r17 (6 : Int32) σ18) (fun r19 σ20 =>
 if (x4 < 0 ∨ 48 ≤ x4.toNatClampNeg) then none else
 sp_l (sv_sI σ20 4 x4.toNatClampNeg v14) (fun σ22 =>
 if r19 ≤ x3 then
 (sp_l (x4 + 1) (fun v24 =>
 rec x1 x2 x3 v24 σ22))
 else
 sp_l (((100 : Int32) * (x4 / (24 : Int32))) + (x4 - x4 / (24 : Int32) * (24 : Int32))) (fun v25 =>
 sp_l (x4 + 1) (fun v26 =>
 rec x1 v25 r19 v26 σ22)))))))
def q_X8_water_B45 (θ : sv_T) (a1 : Int32)  : Nat → Int32 → Int32 → Int32 → Int32 → sv_S → Option (Int32 × sv_S)
  | 0 => fun _ _ _ _ _ => none
  | n + 1 => q_X8_water_B45_b θ a1 (q_X8_water_B45 θ a1 n)
def q_X8_water (θ : sv_T) (a1 : Int32) (σ : sv_S) : Option (Int32 × sv_S) :=
 sp_b (q_X8_in θ (a1.toInt64) (0 : Int64) (1 : Int64) σ) (fun r1 σ2 =>
 if r1 = 0 then
 (some ((-2 : Int32), σ2))
 else
 sp_b (q_X8_shakenMany θ σ2) (fun r4 σ5 =>
 if ((σ2.1 0 11) - r4) ≤ (4 : Int32) then
 (sp_b (q_X8_openSet θ σ5) (fun r7 σ8 =>
 sp_b (q_X8_bestOf θ r7 (6 : Int32) σ8) (fun r9 σ10 =>
 q_X8_water_B45 θ a1 sv_N a1 (-1 : Int32) r9 (0 : Int32) σ10)))
 else
 some ((-3 : Int32), σ5)))
def q_X8_wetMany_B4_b (θ : sv_T) (a1 : Int32)  (rec : Int32 → Int32 → Int32 → sv_S → Option (Int32 × sv_S)) (x1 : Int32) (x2 : Int32) (x3 : Int32) (σ : sv_S) : Option (Int32 × sv_S) :=
 if (24 : Int32) ≤ x3 then
 (some (x2, σ))
 else
 if ((((24 : Int32) * x1) + x3) < 0 ∨ 48 ≤ (((24 : Int32) * x1) + x3).toNatClampNeg) then none else
 if (σ.1 4 (((24 : Int32) * x1) + x3).toNatClampNeg) ≤ 0 then
 (sp_l (x2 + (0 : Int32)) (fun v4 =>
 sp_l (x3 + 1) (fun v5 =>
 rec x1 v4 v5 σ)))
 else
 sp_l (x2 + (1 : Int32)) (fun v6 =>
 sp_l (x3 + 1) (fun v7 =>
 rec x1 v6 v7 σ))
def q_X8_wetMany_B4 (θ : sv_T) (a1 : Int32)  : Nat → Int32 → Int32 → Int32 → sv_S → Option (Int32 × sv_S)
  | 0 => fun _ _ _ _ => none
  | n + 1 => q_X8_wetMany_B4_b θ a1 (q_X8_wetMany_B4 θ a1 n)
def q_X8_wetMany (θ : sv_T) (a1 : Int32) (σ : sv_S) : Option (Int32 × sv_S) :=
 q_X8_wetMany_B4 θ a1 sv_N a1 (0 : Int32) (0 : Int32) σ
def q_X8_sky_B121 (θ : sv_T) (a1 : Int32) (a2 : Int32) (k42 : Int32 → Int32 → Int32 → Int32 → Int32 → Int32 → Int32 → Int32 → sv_S → Option (Int32 × sv_S)) (x1 : Int32) (x2 : Int32) (x3 : Int32) (x4 : Int32) (x6 : Int32) (x7 : Int32) (x8 : Int32) (w0 : Int32) (σ : sv_S) : Option (Int32 × sv_S) :=
 if w0 ≤ x6 then
 (sp_l (x8 + 1) (fun v23 =>
 k42 x1 x2 x3 x4 w0 x6 x7 v23 σ))
 else
 sp_l ((x8 - w0) + (1 : Int32)) (fun v24 =>
 sp_l (x8 + 1) (fun v25 =>
 k42 x1 x2 x3 x4 w0 w0 v24 v25 σ))
def q_X8_sky_B92 (θ : sv_T) (a1 : Int32) (a2 : Int32) (k42 : Int32 → Int32 → Int32 → Int32 → Int32 → Int32 → Int32 → Int32 → sv_S → Option (Int32 × sv_S)) (x1 : Int32) (x2 : Int32) (x3 : Int32) (x5 : Int32) (x6 : Int32) (x7 : Int32) (x8 : Int32) (w0 : Int32) (w1 : Int32) (σ : sv_S) : Option (Int32 × sv_S) :=
 sp_l (w1 ||| (w0 <<< (x8 &&& 31))) (fun v19 =>
 if ((((24 : Int32) * x1) + x8) < 0 ∨ 48 ≤ (((24 : Int32) * x1) + x8).toNatClampNeg) then none else
 if (σ.1 4 (((24 : Int32) * x1) + x8).toNatClampNeg) ≤ 0 then
 (q_X8_sky_B121 θ a1 a2 k42 x1 x2 x3 v19 x6 x7 x8 (0 : Int32) σ)
 else
 q_X8_sky_B121 θ a1 a2 k42 x1 x2 x3 v19 x6 x7 x8 (x5 + (1 : Int32)) σ)
def q_X8_sky_B42_b (θ : sv_T) (a1 : Int32) (a2 : Int32)  (rec : Int32 → Int32 → Int32 → Int32 → Int32 → Int32 → Int32 → Int32 → sv_S → Option (Int32 × sv_S)) (x1 : Int32) (x2 : Int32) (x3 : Int32) (x4 : Int32) (x5 : Int32) (x6 : Int32) (x7 : Int32) (x8 : Int32) (σ : sv_S) : Option (Int32 × sv_S) :=
 if (24 : Int32) ≤ x8 then
 (if x2 = 0 then
 (some (x6, σ))
 else
 if x2 = (1 : Int32) then
 (some (x7, σ))
 else
 if x2 = (2 : Int32) then
 (sp_b (q_X8_wetMany θ x1 σ) (fun r12 σ13 =>
 some (r12, σ13)))
 else
 if x2 = (3 : Int32) then
 (some (x3, σ))
 else
 some (x4, σ))
 else
 if ((((24 : Int32) * x1) + x8) < 0 ∨ 48 ≤ (((24 : Int32) * x1) + x8).toNatClampNeg) then none else
 sp_l (x3 + (σ.1 4 (((24 : Int32) * x1) + x8).toNatClampNeg)) (fun v15 =>
 if (x8 < 0 ∨ 48 ≤ x8.toNatClampNeg) then none else
 if (((24 : Int32) + x8) < 0 ∨ 48 ≤ ((24 : Int32) + x8).toNatClampNeg) then none else
 if ((σ.1 4 x8.toNatClampNeg) + (σ.1 4 ((24 : Int32) + x8).toNatClampNeg)) = 0 then
 (q_X8_sky_B92 θ a1 a2 rec x1 x2 v15 x5 x6 x7 x8 (1 : Int32) x4 σ)
 else
 q_X8_sky_B92 θ a1 a2 rec x1 x2 v15 x5 x6 x7 x8 (0 : Int32) x4 σ)
def q_X8_sky_B42 (θ : sv_T) (a1 : Int32) (a2 : Int32)  : Nat → Int32 → Int32 → Int32 → Int32 → Int32 → Int32 → Int32 → Int32 → sv_S → Option (Int32 × sv_S)
  | 0 => fun _ _ _ _ _ _ _ _ _ => none
  | n + 1 => q_X8_sky_B42_b θ a1 a2 (q_X8_sky_B42 θ a1 a2 n)
def q_X8_sky (θ : sv_T) (a1 : Int32) (a2 : Int32) (σ : sv_S) : Option (Int32 × sv_S) :=
 sp_b (q_X8_in θ (a1.toInt64) (0 : Int64) (1 : Int64) σ) (fun r1 σ2 =>
 if r1 = 0 then
 (some ((-2 : Int32), σ2))
 else
 sp_b (q_X8_in θ (a2.toInt64) (0 : Int64) (4 : Int64) σ2) (fun r4 σ5 =>
 if r4 = 0 then
 (some ((-2 : Int32), σ5))
 else
 q_X8_sky_B42 θ a1 a2 sv_N a1 a2 (0 : Int32) (0 : Int32) (0 : Int32) (0 : Int32) (-1 : Int32) (0 : Int32) σ5))
def q_X8_firstOther_B3_b (θ : sv_T) (a1 : Int32) (a2 : Int32) (a3 : Int32)  (rec : Int32 → Int32 → Int32 → Int32 → sv_S → Option (Int32 × sv_S)) (x1 : Int32) (x2 : Int32) (x3 : Int32) (x4 : Int32) (σ : sv_S) : Option (Int32 × sv_S) :=
 if (x1 < 0 ∨ 4 ≤ x1.toNatClampNeg) then none else
 if (σ.1 12 x1.toNatClampNeg) ≤ x4 then
 (some ((-1 : Int32), σ))
 else
 sp_b (q_X8_worthOf θ x2 x4 x3 σ) (fun r3 σ4 =>
 if ((((40 : Int32) * x1) + x4) < 0 ∨ 160 ≤ (((40 : Int32) * x1) + x4).toNatClampNeg) then none else
 if r3 = (σ4.1 13 (((40 : Int32) * x1) + x4).toNatClampNeg) then
 (sp_l (x4 + 1) (fun v7 =>
 rec x1 x2 x3 v7 σ4))
 else
 some (x4, σ4))
def q_X8_firstOther_B3 (θ : sv_T) (a1 : Int32) (a2 : Int32) (a3 : Int32)  : Nat → Int32 → Int32 → Int32 → Int32 → sv_S → Option (Int32 × sv_S)
  | 0 => fun _ _ _ _ _ => none
  | n + 1 => q_X8_firstOther_B3_b θ a1 a2 a3 (q_X8_firstOther_B3 θ a1 a2 a3 n)
def q_X8_firstOther (θ : sv_T) (a1 : Int32) (a2 : Int32) (a3 : Int32) (σ : sv_S) : Option (Int32 × sv_S) :=
 q_X8_firstOther_B3 θ a1 a2 a3 sv_N a1 a2 a3 (0 : Int32) σ
def q_X8_tells_B100_b (θ : sv_T) (a1 : Int32) (a2 : Int32) (a3 : Int32)  (rec : Int32 → Int32 → Int32 → Int32 → sv_S → Option (Int32 × sv_S)) (x1 : Int32) (x2 : Int32) (x5 : Int32) (x6 : Int32) (σ : sv_S) : Option (Int32 × sv_S) :=
 if (6 : Int32) < x6 then
 (some (x5, σ))
 else
 sp_b (q_X8_firstOther θ x1 x2 x6 σ) (fun r43 σ44 =>
 if r43 = (-1 : Int32) then
 (sp_l (x5 ||| ((1 : Int32) <<< (x6 &&& 31))) (fun v48 =>
 sp_l (x6 + 1) (fun v49 =>
 rec x1 x2 v48 v49 σ44)))
 else
 sp_l (x5 ||| ((0 : Int32) <<< (x6 &&& 31))) (fun v46 =>
 sp_l (x6 + 1) (fun v47 =>
 rec x1 x2 v46 v47 σ44)))
def q_X8_tells_B100 (θ : sv_T) (a1 : Int32) (a2 : Int32) (a3 : Int32)  : Nat → Int32 → Int32 → Int32 → Int32 → sv_S → Option (Int32 × sv_S)
  | 0 => fun _ _ _ _ _ => none
  | n + 1 => q_X8_tells_B100_b θ a1 a2 a3 (q_X8_tells_B100 θ a1 a2 a3 n)
def q_X8_tells_B268_b (θ : sv_T) (a1 : Int32) (a2 : Int32) (a3 : Int32)  (rec : Int32 → Int32 → Int32 → Int32 → Int32 → Int32 → Int32 → Int32 → Int32 → sv_S → Option (Int32 × sv_S)) (x1 : Int32) (x2 : Int32) (x4 : Int32) (x5 : Int32) (x6 : Int32) (x7 : Int32) (x8 : Int32) (x9 : Int32) (x10 : Int32) (σ : sv_S) : Option (Int32 × sv_S) :=
 if x9 < x10 then
 (sp_b (q_X8_lays θ x6 x7 x8 σ) (fun r29 σ30 =>
 some (x5, σ30)))
 else
 sp_b (q_X8_lays θ x6 x7 x10 σ) (fun r31 σ32 =>
 sp_b (q_X8_firstOther θ x1 x2 x4 σ32) (fun r33 σ34 =>
 if r33 = (-1 : Int32) then
 (sp_l (x5 ||| ((1 : Int32) <<< (x10 &&& 31))) (fun v38 =>
 sp_l (x10 + 1) (fun v39 =>
 rec x1 x2 x4 v38 x6 x7 x8 x9 v39 σ34)))
 else
 sp_l (x5 ||| ((0 : Int32) <<< (x10 &&& 31))) (fun v36 =>
 sp_l (x10 + 1) (fun v37 =>
 rec x1 x2 x4 v36 x6 x7 x8 x9 v37 σ34))))
def q_X8_tells_B268 (θ : sv_T) (a1 : Int32) (a2 : Int32) (a3 : Int32)  : Nat → Int32 → Int32 → Int32 → Int32 → Int32 → Int32 → Int32 → Int32 → Int32 → sv_S → Option (Int32 × sv_S)
  | 0 => fun _ _ _ _ _ _ _ _ _ _ => none
  | n + 1 => q_X8_tells_B268_b θ a1 a2 a3 (q_X8_tells_B268 θ a1 a2 a3 n)
def q_X8_tells_B233 (θ : sv_T) (a1 : Int32) (a2 : Int32) (a3 : Int32)  (x1 : Int32) (x2 : Int32) (x4 : Int32) (x5 : Int32) (x6 : Int32) (x7 : Int32) (w0 : Int32) (σ : sv_S) : Option (Int32 × sv_S) :=
 if x6 = (6 : Int32) then
 (sp_l ((σ.1 0 3) - (1 : Int32)) (fun v40 =>
 q_X8_tells_B268 θ a1 a2 a3 sv_N x1 x2 x4 x5 x6 x7 w0 v40 (0 : Int32) σ))
 else
 if x6 = (5 : Int32) then
 (q_X8_tells_B268 θ a1 a2 a3 sv_N x1 x2 x4 x5 x6 x7 w0 (5 : Int32) (0 : Int32) σ)
 else
 q_X8_tells_B268 θ a1 a2 a3 sv_N x1 x2 x4 x5 x6 x7 w0 (9 : Int32) (0 : Int32) σ
def q_X8_tells_B209 (θ : sv_T) (a1 : Int32) (a2 : Int32) (a3 : Int32)  (x1 : Int32) (x2 : Int32) (x4 : Int32) (x5 : Int32) (x6 : Int32) (w0 : Int32) (σ : sv_S) : Option (Int32 × sv_S) :=
 if x6 = (6 : Int32) then
 (q_X8_tells_B233 θ a1 a2 a3 x1 x2 x4 x5 x6 w0 (σ.1 0 4) σ)
 else
 sp_b (q_X8_told θ w0 x6 σ) (fun r24 σ25 =>
 q_X8_tells_B233 θ a1 a2 a3 x1 x2 x4 x5 x6 w0 r24 σ25)
def q_X8_tells_B179 (θ : sv_T) (a1 : Int32) (a2 : Int32) (a3 : Int32)  (x1 : Int32) (x2 : Int32) (x3 : Int32) (x4 : Int32) (x5 : Int32) (w0 : Int32) (σ : sv_S) : Option (Int32 × sv_S) :=
 if w0 = (1 : Int32) then
 (if ((((3 : Int32) * x2) + (1 : Int32)) < 0 ∨ 18 ≤ (((3 : Int32) * x2) + (1 : Int32)).toNatClampNeg) then none else
 q_X8_tells_B209 θ a1 a2 a3 x1 x2 x4 x5 w0 ((((100 : Int32) * (σ.1 6 (((3 : Int32) * x2) + (1 : Int32)).toNatClampNeg)) + x3) - (10 : Int32)) σ)
 else
 q_X8_tells_B209 θ a1 a2 a3 x1 x2 x4 x5 w0 x2 σ
def q_X8_tells_B44 (θ : sv_T) (a1 : Int32) (a2 : Int32) (a3 : Int32)  (x1 : Int32) (x2 : Int32) (x3 : Int32) (σ : sv_S) : Option (Int32 × sv_S) :=
 if (x1 < 0 ∨ 4 ≤ x1.toNatClampNeg) then none else
 if (σ.1 10 x1.toNatClampNeg) = 0 then
 (some ((-11 : Int32), σ))
 else
 if (x1 < 0 ∨ 4 ≤ x1.toNatClampNeg) then none else
 if (σ.1 12 x1.toNatClampNeg) ≤ (24 : Int32) then
 (sp_b (q_X8_shakenMany θ σ) (fun r14 σ15 =>
 if x3 = 0 then
 (sp_b (q_X8_firstOther θ x1 x2 r14 σ15) (fun r50 σ51 =>
 some (r50, σ51)))
 else
 if x3 = (4 : Int32) then
 (q_X8_tells_B100 θ a1 a2 a3 sv_N x1 x2 (0 : Int32) (0 : Int32) σ15)
 else
 if x3 = (1 : Int32) then
 (q_X8_tells_B179 θ a1 a2 a3 x1 x2 x3 r14 (0 : Int32) (5 : Int32) σ15)
 else
 if x3 = (2 : Int32) then
 (q_X8_tells_B179 θ a1 a2 a3 x1 x2 x3 r14 (0 : Int32) (2 : Int32) σ15)
 else
 if x3 = (3 : Int32) then
 (q_X8_tells_B179 θ a1 a2 a3 x1 x2 x3 r14 (0 : Int32) (0 : Int32) σ15)
 else
 if x3 = (5 : Int32) then
 (q_X8_tells_B179 θ a1 a2 a3 x1 x2 x3 r14 (0 : Int32) (6 : Int32) σ15)
 else
 q_X8_tells_B179 θ a1 a2 a3 x1 x2 x3 r14 (0 : Int32) (1 : Int32) σ15))
 else
 some ((-2 : Int32), σ)
def q_X8_tells (θ : sv_T) (a1 : Int32) (a2 : Int32) (a3 : Int32) (σ : sv_S) : Option (Int32 × sv_S) :=
 sp_b (q_X8_isSheet θ a1 σ) (fun r1 σ2 =>
 if r1 = 0 then
 (some ((-2 : Int32), σ2))
 else
 sp_b (q_X8_isOne θ a2 σ2) (fun r4 σ5 =>
 if r4 = 0 then
 (some ((-2 : Int32), σ5))
 else
 sp_b (q_X8_in θ (a3.toInt64) (0 : Int64) (5 : Int64) σ5) (fun r7 σ8 =>
 if r7 = 0 then
 (sp_b (q_X8_in θ (a3.toInt64) (10 : Int64) (33 : Int64) σ8) (fun r52 σ53 =>
 if r52 = 0 then
 (some ((-2 : Int32), σ53))
 else
 q_X8_tells_B44 θ a1 a2 a3 a1 a2 a3 σ53))
 else
 q_X8_tells_B44 θ a1 a2 a3 a1 a2 a3 σ8)))
def q_X8_sheet_B77_b (θ : sv_T) (a1 : Int32) (a2 : Int32) (a3 : Int32)  (rec : Int32 → Int32 → Int32 → Int32 → sv_S → Option (Int32 × sv_S)) (x1 : Int32) (x2 : Int32) (x3 : Int32) (x4 : Int32) (σ : sv_S) : Option (Int32 × sv_S) :=
 if x3 ≤ x4 then
 (some ((1 : Int32), σ))
 else
 if x2 < 0 then
 (some ((1 : Int32), σ))
 else
 if ((((40 : Int32) * x1) + x4) < 0 ∨ 160 ≤ (((40 : Int32) * x1) + x4).toNatClampNeg) then none else
 sp_l (sv_sI σ 13 (((40 : Int32) * x1) + x4).toNatClampNeg (0 : Int32)) (fun σ19 =>
 sp_l (x4 + 1) (fun v20 =>
 rec x1 x2 x3 v20 σ19))
def q_X8_sheet_B77 (θ : sv_T) (a1 : Int32) (a2 : Int32) (a3 : Int32)  : Nat → Int32 → Int32 → Int32 → Int32 → sv_S → Option (Int32 × sv_S)
  | 0 => fun _ _ _ _ _ => none
  | n + 1 => q_X8_sheet_B77_b θ a1 a2 a3 (q_X8_sheet_B77 θ a1 a2 a3 n)
def q_X8_sheet_B45 (θ : sv_T) (a1 : Int32) (a2 : Int32) (a3 : Int32)  (x1 : Int32) (x2 : Int32) (x3 : Int32) (σ : sv_S) : Option (Int32 × sv_S) :=
 if x2 < 0 then
 (if (x1 < 0 ∨ 4 ≤ x1.toNatClampNeg) then none else
 sp_l (sv_sI σ 10 x1.toNatClampNeg (0 : Int32)) (fun σ11 =>
 if (x1 < 0 ∨ 4 ≤ x1.toNatClampNeg) then none else
 sp_l (sv_sI σ11 11 x1.toNatClampNeg x2) (fun σ13 =>
 if (x1 < 0 ∨ 4 ≤ x1.toNatClampNeg) then none else
 sp_l (sv_sI σ13 12 x1.toNatClampNeg x3) (fun σ15 =>
 q_X8_sheet_B77 θ a1 a2 a3 sv_N x1 x2 x3 (0 : Int32) σ15))))
 else
 if (x1 < 0 ∨ 4 ≤ x1.toNatClampNeg) then none else
 sp_l (sv_sI σ 10 x1.toNatClampNeg (1 : Int32)) (fun σ22 =>
 if (x1 < 0 ∨ 4 ≤ x1.toNatClampNeg) then none else
 sp_l (sv_sI σ22 11 x1.toNatClampNeg x2) (fun σ24 =>
 if (x1 < 0 ∨ 4 ≤ x1.toNatClampNeg) then none else
 sp_l (sv_sI σ24 12 x1.toNatClampNeg x3) (fun σ26 =>
 q_X8_sheet_B77 θ a1 a2 a3 sv_N x1 x2 x3 (0 : Int32) σ26)))
def q_X8_sheet (θ : sv_T) (a1 : Int32) (a2 : Int32) (a3 : Int32) (σ : sv_S) : Option (Int32 × sv_S) :=
 sp_b (q_X8_isSheet θ a1 σ) (fun r1 σ2 =>
 if r1 = 0 then
 (some ((-2 : Int32), σ2))
 else
 sp_b (q_X8_in θ (a2.toInt64) (-1 : Int64) (2 : Int64) σ2) (fun r4 σ5 =>
 if r4 = 0 then
 (some ((-2 : Int32), σ5))
 else
 if a2 < 0 then
 (if a2 < 0 then
 (q_X8_sheet_B45 θ a1 a2 a3 a1 a2 a3 σ5)
 else
 if 0 ≤ a3 then
 (q_X8_sheet_B45 θ a1 a2 a3 a1 a2 a3 σ5)
 else
 some ((-14 : Int32), σ5))
 else
 if a3 ≤ (40 : Int32) then
 (if a2 < 0 then
 (q_X8_sheet_B45 θ a1 a2 a3 a1 a2 a3 σ5)
 else
 if 0 ≤ a3 then
 (q_X8_sheet_B45 θ a1 a2 a3 a1 a2 a3 σ5)
 else
 some ((-14 : Int32), σ5))
 else
 some ((-2 : Int32), σ5)))
def q_X8_film_B47_b (θ : sv_T) (a1 : Int32) (a2 : Int32) (a3 : Int32)  (rec : Int32 → Int32 → Int32 → Int32 → Int32 → sv_S → Option (Int32 × sv_S)) (x1 : Int32) (x2 : Int32) (x3 : Int32) (x4 : Int32) (x5 : Int32) (σ : sv_S) : Option (Int32 × sv_S) :=
 if x3 ≤ x5 then
 (some (x3, σ))
 else
 sp_b (q_X8_worthOf θ x2 x5 x4 σ) (fun r15 σ16 =>
 if ((((40 : Int32) * x1) + x5) < 0 ∨ 160 ≤ (((40 : Int32) * x1) + x5).toNatClampNeg) then none else
 sp_l (sv_sI σ16 13 (((40 : Int32) * x1) + x5).toNatClampNeg r15) (fun σ18 =>
 sp_l (x5 + 1) (fun v19 =>
 rec x1 x2 x3 x4 v19 σ18)))
def q_X8_film_B47 (θ : sv_T) (a1 : Int32) (a2 : Int32) (a3 : Int32)  : Nat → Int32 → Int32 → Int32 → Int32 → Int32 → sv_S → Option (Int32 × sv_S)
  | 0 => fun _ _ _ _ _ _ => none
  | n + 1 => q_X8_film_B47_b θ a1 a2 a3 (q_X8_film_B47 θ a1 a2 a3 n)
def q_X8_film (θ : sv_T) (a1 : Int32) (a2 : Int32) (a3 : Int32) (σ : sv_S) : Option (Int32 × sv_S) :=
 sp_b (q_X8_isSheet θ a1 σ) (fun r1 σ2 =>
 if r1 = 0 then
 (some ((-2 : Int32), σ2))
 else
 sp_b (q_X8_isOne θ a2 σ2) (fun r4 σ5 =>
 if r4 = 0 then
 (some ((-2 : Int32), σ5))
 else
 sp_b (q_X8_in θ (a3.toInt64) (0 : Int64) (24 : Int64) σ5) (fun r7 σ8 =>
 if r7 = 0 then
 (some ((-2 : Int32), σ8))
 else
 sp_b (q_X8_sheet θ a1 (1 : Int32) a3 σ8) (fun r10 σ11 =>
 sp_b (q_X8_shakenMany θ σ11) (fun r12 σ13 =>
 q_X8_film_B47 θ a1 a2 a3 sv_N a1 a2 a3 r12 (0 : Int32) σ13)))))
def q_X8_gainBy_B100_b (θ : sv_T) (a1 : Int32)  (rec : Int32 → sv_S → Option (Int32 × sv_S)) (x3 : Int32) (σ : sv_S) : Option (Int32 × sv_S) :=
 if (48 : Int32) ≤ x3 then
 (some ((σ.1 0 27), σ))
 else
 if (x3 < 0 ∨ 48 ≤ x3.toNatClampNeg) then none else
 if (x3 < 0 ∨ 48 ≤ x3.toNatClampNeg) then none else
 sp_l (sv_sI σ 4 x3.toNatClampNeg (σ.1 7 x3.toNatClampNeg)) (fun σ8 =>
 sp_l (x3 + 1) (fun v9 =>
 rec v9 σ8))
def q_X8_gainBy_B100 (θ : sv_T) (a1 : Int32)  : Nat → Int32 → sv_S → Option (Int32 × sv_S)
  | 0 => fun _ _ => none
  | n + 1 => q_X8_gainBy_B100_b θ a1 (q_X8_gainBy_B100 θ a1 n)
def q_X8_gainBy_B71_b (θ : sv_T) (a1 : Int32)  (rec : Int32 → sv_S → Option (Int32 × sv_S)) (x3 : Int32) (σ : sv_S) : Option (Int32 × sv_S) :=
 if (σ.1 0 11) ≤ x3 then
 (q_X8_gainBy_B100 θ a1 sv_N (0 : Int32) σ)
 else
 sp_b (q_X8_isShaken θ x3 σ) (fun r10 σ11 =>
 if r10 = 0 then
 (sp_b (q_X8_deals θ x3 σ11) (fun r14 σ15 =>
 sp_l (x3 + 1) (fun v16 =>
 rec v16 σ15)))
 else
 sp_l (x3 + 1) (fun v13 =>
 rec v13 σ11))
def q_X8_gainBy_B71 (θ : sv_T) (a1 : Int32)  : Nat → Int32 → sv_S → Option (Int32 × sv_S)
  | 0 => fun _ _ => none
  | n + 1 => q_X8_gainBy_B71_b θ a1 (q_X8_gainBy_B71 θ a1 n)
def q_X8_gainBy_B4_b (θ : sv_T) (a1 : Int32)  (rec : Int32 → Int32 → sv_S → Option (Int32 × sv_S)) (x2 : Int32) (x3 : Int32) (σ : sv_S) : Option (Int32 × sv_S) :=
 if (48 : Int32) ≤ x3 then
 (sp_b (q_X8_begins θ σ) (fun r2 σ3 =>
 q_X8_gainBy_B71 θ a1 sv_N (0 : Int32) σ3))
 else
 if (x3 < 0 ∨ 48 ≤ x3.toNatClampNeg) then none else
 if (x3 < 0 ∨ 48 ≤ x3.toNatClampNeg) then none else
 sp_l (sv_sI σ 7 x3.toNatClampNeg (σ.1 4 x3.toNatClampNeg)) (fun σ19 =>
 sp_l ((x2 * (1103515245 : Int32)) + (12345 : Int32)) (fun v20 =>
 sp_l ((((v20).toUInt32 >>> (((9 : Int32)).toUInt32 &&& Int32.toUInt32 31)).toInt32) - (((v20).toUInt32 >>> (((9 : Int32)).toUInt32 &&& Int32.toUInt32 31)).toInt32) / (10 : Int32) * (10 : Int32)) (fun v21 =>
 if (4 : Int32) ≤ v21 then
 (if (x3 < 0 ∨ 48 ≤ x3.toNatClampNeg) then none else
 sp_l (sv_sI σ19 4 x3.toNatClampNeg v21) (fun σ24 =>
 sp_l (x3 + 1) (fun v25 =>
 rec v20 v25 σ24)))
 else
 if (x3 < 0 ∨ 48 ≤ x3.toNatClampNeg) then none else
 sp_l (sv_sI σ19 4 x3.toNatClampNeg (0 : Int32)) (fun σ27 =>
 sp_l (x3 + 1) (fun v28 =>
 rec v20 v28 σ27)))))
def q_X8_gainBy_B4 (θ : sv_T) (a1 : Int32)  : Nat → Int32 → Int32 → sv_S → Option (Int32 × sv_S)
  | 0 => fun _ _ _ => none
  | n + 1 => q_X8_gainBy_B4_b θ a1 (q_X8_gainBy_B4 θ a1 n)
def q_X8_gainBy (θ : sv_T) (a1 : Int32) (σ : sv_S) : Option (Int32 × sv_S) :=
 q_X8_gainBy_B4 θ a1 sv_N a1 (0 : Int32) σ
def q_X8_drawn (θ : sv_T) (a1 : Int32) (σ : sv_S) : Option (Int32 × sv_S) :=
 sp_b (q_X8_gainBy θ a1 σ) (fun r1 σ2 =>
 some (r1, σ2))
def q_X8_chance_B87_b (θ : sv_T) (a1 : Int32) (a2 : Int32) (a3 : Int32) (a4 : Int32)  (rec : Int32 → Int32 → Int64 → Int64 → Int64 → sv_S → Option (Int64 × sv_S)) (x2 : Int32) (x4 : Int32) (y5 : Int64) (y7 : Int64) (y9 : Int64) (σ : sv_S) : Option (Int64 × sv_S) :=
 if (lg_cmp y9 (0 : Int64)) = 0 then
 (if x4 = 0 then
 (if y7 = 0 then none else
 some ((y5 / y7), σ))
 else
 if y7 = 0 then none else
 some (((x2.toInt64) / y7), σ))
 else
 if y9 = 0 then none else
 sp_l (y7 - y7 / y9 * y9) (fun v17 =>
 rec x2 x4 y5 y9 v17 σ)
def q_X8_chance_B87 (θ : sv_T) (a1 : Int32) (a2 : Int32) (a3 : Int32) (a4 : Int32)  : Nat → Int32 → Int32 → Int64 → Int64 → Int64 → sv_S → Option (Int64 × sv_S)
  | 0 => fun _ _ _ _ _ _ => none
  | n + 1 => q_X8_chance_B87_b θ a1 a2 a3 a4 (q_X8_chance_B87 θ a1 a2 a3 a4 n)
def q_X8_chance_B45_b (θ : sv_T) (a1 : Int32) (a2 : Int32) (a3 : Int32) (a4 : Int32)  (rec : Int32 → Int32 → Int32 → Int32 → Int64 → Int32 → sv_S → Option (Int64 × sv_S)) (x1 : Int32) (x2 : Int32) (x3 : Int32) (x4 : Int32) (y5 : Int64) (x7 : Int32) (σ : sv_S) : Option (Int64 × sv_S) :=
 if x2 ≤ x7 then
 (sp_l (x2.toInt64) (fun v11 =>
 q_X8_chance_B87 θ a1 a2 a3 a4 sv_N x2 x4 y5 y5 v11 σ))
 else
 sp_b (q_X8_gainBy θ (x1 + x7) σ) (fun r18 σ19 =>
 if r18 < x3 then
 (sp_l (y5 + (0 : Int64)) (fun v21 =>
 sp_l (x7 + 1) (fun v22 =>
 rec x1 x2 x3 x4 v21 v22 σ19)))
 else
 sp_l (y5 + (1 : Int64)) (fun v23 =>
 sp_l (x7 + 1) (fun v24 =>
 rec x1 x2 x3 x4 v23 v24 σ19)))
def q_X8_chance_B45 (θ : sv_T) (a1 : Int32) (a2 : Int32) (a3 : Int32) (a4 : Int32)  : Nat → Int32 → Int32 → Int32 → Int32 → Int64 → Int32 → sv_S → Option (Int64 × sv_S)
  | 0 => fun _ _ _ _ _ _ _ => none
  | n + 1 => q_X8_chance_B45_b θ a1 a2 a3 a4 (q_X8_chance_B45 θ a1 a2 a3 a4 n)
def q_X8_chance (θ : sv_T) (a1 : Int32) (a2 : Int32) (a3 : Int32) (a4 : Int32) (σ : sv_S) : Option (Int64 × sv_S) :=
 sp_b (q_X8_in θ (a2.toInt64) (1 : Int64) (20 : Int64) σ) (fun r1 σ2 =>
 if r1 = 0 then
 (some ((-4611686018427387904 : Int64), σ2))
 else
 sp_b (q_X8_in θ (a3.toInt64) (0 : Int64) (9999 : Int64) σ2) (fun r4 σ5 =>
 if r4 = 0 then
 (some ((-4611686018427387904 : Int64), σ5))
 else
 sp_b (q_X8_in θ (a4.toInt64) (0 : Int64) (1 : Int64) σ5) (fun r7 σ8 =>
 if r7 = 0 then
 (some ((-4611686018427387904 : Int64), σ8))
 else
 q_X8_chance_B45 θ a1 a2 a3 a4 sv_N a1 a2 a3 a4 (0 : Int64) (0 : Int32) σ8)))
def q_X8_image_B28_b (θ : sv_T)   (rec : Int32 → sv_S → Option (Int32 × sv_S)) (x1 : Int32) (σ : sv_S) : Option (Int32 × sv_S) :=
 if (18 : Int32) ≤ x1 then
 (sp_l (sv_sI σ 0 37 (σ.1 0 11)) (fun σ3 =>
 sp_l (sv_sI σ3 0 38 (σ3.1 0 7)) (fun σ4 =>
 sp_l (sv_sI σ4 0 39 (σ4.1 0 4)) (fun σ5 =>
 some ((σ5.1 0 11), σ5)))))
 else
 if (x1 < 0 ∨ 18 ≤ x1.toNatClampNeg) then none else
 if (x1 < 0 ∨ 18 ≤ x1.toNatClampNeg) then none else
 sp_l (sv_sI σ 9 x1.toNatClampNeg (σ.1 6 x1.toNatClampNeg)) (fun σ8 =>
 sp_l (x1 + 1) (fun v9 =>
 rec v9 σ8))
def q_X8_image_B28 (θ : sv_T)   : Nat → Int32 → sv_S → Option (Int32 × sv_S)
  | 0 => fun _ _ => none
  | n + 1 => q_X8_image_B28_b θ  (q_X8_image_B28 θ  n)
def q_X8_image_B2_b (θ : sv_T)   (rec : Int32 → sv_S → Option (Int32 × sv_S)) (x1 : Int32) (σ : sv_S) : Option (Int32 × sv_S) :=
 if (48 : Int32) ≤ x1 then
 (q_X8_image_B28 θ  sv_N (0 : Int32) σ)
 else
 if (x1 < 0 ∨ 48 ≤ x1.toNatClampNeg) then none else
 if (x1 < 0 ∨ 48 ≤ x1.toNatClampNeg) then none else
 sp_l (sv_sI σ 8 x1.toNatClampNeg (σ.1 4 x1.toNatClampNeg)) (fun σ12 =>
 sp_l (x1 + 1) (fun v13 =>
 rec v13 σ12))
def q_X8_image_B2 (θ : sv_T)   : Nat → Int32 → sv_S → Option (Int32 × sv_S)
  | 0 => fun _ _ => none
  | n + 1 => q_X8_image_B2_b θ  (q_X8_image_B2 θ  n)
def q_X8_image (θ : sv_T)  (σ : sv_S) : Option (Int32 × sv_S) :=
 q_X8_image_B2 θ  sv_N (0 : Int32) σ
def q_X8_back_B39_b (θ : sv_T)   (rec : Int32 → sv_S → Option (Int32 × sv_S)) (x1 : Int32) (σ : sv_S) : Option (Int32 × sv_S) :=
 if (18 : Int32) ≤ x1 then
 (sp_l (sv_sI σ 0 11 (σ.1 0 37)) (fun σ4 =>
 sp_l (sv_sI σ4 0 7 (σ4.1 0 38)) (fun σ5 =>
 sp_l (sv_sI σ5 0 4 (σ5.1 0 39)) (fun σ6 =>
 some ((σ6.1 0 11), σ6)))))
 else
 if (x1 < 0 ∨ 18 ≤ x1.toNatClampNeg) then none else
 if (x1 < 0 ∨ 18 ≤ x1.toNatClampNeg) then none else
 sp_l (sv_sI σ 6 x1.toNatClampNeg (σ.1 9 x1.toNatClampNeg)) (fun σ9 =>
 sp_l (x1 + 1) (fun v10 =>
 rec v10 σ9))
def q_X8_back_B39 (θ : sv_T)   : Nat → Int32 → sv_S → Option (Int32 × sv_S)
  | 0 => fun _ _ => none
  | n + 1 => q_X8_back_B39_b θ  (q_X8_back_B39 θ  n)
def q_X8_back_B13_b (θ : sv_T)   (rec : Int32 → sv_S → Option (Int32 × sv_S)) (x1 : Int32) (σ : sv_S) : Option (Int32 × sv_S) :=
 if (48 : Int32) ≤ x1 then
 (q_X8_back_B39 θ  sv_N (0 : Int32) σ)
 else
 if (x1 < 0 ∨ 48 ≤ x1.toNatClampNeg) then none else
 if (x1 < 0 ∨ 48 ≤ x1.toNatClampNeg) then none else
 sp_l (sv_sI σ 4 x1.toNatClampNeg (σ.1 8 x1.toNatClampNeg)) (fun σ13 =>
 sp_l (x1 + 1) (fun v14 =>
 rec v14 σ13))
def q_X8_back_B13 (θ : sv_T)   : Nat → Int32 → sv_S → Option (Int32 × sv_S)
  | 0 => fun _ _ => none
  | n + 1 => q_X8_back_B13_b θ  (q_X8_back_B13 θ  n)
def q_X8_back (θ : sv_T)  (σ : sv_S) : Option (Int32 × sv_S) :=
 if (σ.1 0 37) = (-1 : Int32) then
 (some ((-3 : Int32), σ))
 else
 q_X8_back_B13 θ  sv_N (0 : Int32) σ
def q_X8_count (θ : sv_T) (a1 : Int32) (σ : sv_S) : Option (Int32 × sv_S) :=
 sp_b (q_X8_in θ (a1.toInt64) (0 : Int64) (5 : Int64) σ) (fun r1 σ2 =>
 if r1 = 0 then
 (some ((-2 : Int32), σ2))
 else
 if a1 ≤ (2 : Int32) then
 (if a1 = 0 then
 (some ((σ2.1 0 11), σ2))
 else
 if a1 = (1 : Int32) then
 (sp_b (q_X8_shakenMany θ σ2) (fun r11 σ12 =>
 some (r11, σ12)))
 else
 sp_b (q_X8_wetMany θ (0 : Int32) σ2) (fun r7 σ8 =>
 sp_b (q_X8_wetMany θ (1 : Int32) σ8) (fun r9 σ10 =>
 some ((r7 + r9), σ10))))
 else
 if a1 = (3 : Int32) then
 (some ((σ2.1 0 3), σ2))
 else
 if a1 = (4 : Int32) then
 (some ((σ2.1 0 6), σ2))
 else
 some ((σ2.1 0 4), σ2))
def q_X8_cell (θ : sv_T) (a1 : Int32) (a2 : Int32) (a3 : Int32) (σ : sv_S) : Option (Int32 × sv_S) :=
 sp_b (q_X8_isSheet θ a1 σ) (fun r1 σ2 =>
 if r1 = 0 then
 (some ((-2 : Int32), σ2))
 else
 if (a1 < 0 ∨ 4 ≤ a1.toNatClampNeg) then none else
 if (σ2.1 10 a1.toNatClampNeg) = 0 then
 (some ((-11 : Int32), σ2))
 else
 if (a1 < 0 ∨ 4 ≤ a1.toNatClampNeg) then none else
 sp_b (q_X8_in θ (a2.toInt64) (0 : Int64) (((σ2.1 12 a1.toNatClampNeg) - (1 : Int32)).toInt64) σ2) (fun r7 σ8 =>
 if r7 = 0 then
 (some ((-12 : Int32), σ8))
 else
 if (a1 < 0 ∨ 4 ≤ a1.toNatClampNeg) then none else
 if (σ8.1 11 a1.toNatClampNeg) = 0 then
 (if ((((40 : Int32) * a1) + a2) < 0 ∨ 160 ≤ (((40 : Int32) * a1) + a2).toNatClampNeg) then none else
 sp_l (sv_sI σ8 13 (((40 : Int32) * a1) + a2).toNatClampNeg (a3.toInt8.toInt32)) (fun σ19 =>
 some ((1 : Int32), σ19)))
 else
 if (a1 < 0 ∨ 4 ≤ a1.toNatClampNeg) then none else
 if (σ8.1 11 a1.toNatClampNeg) = (1 : Int32) then
 (if ((((40 : Int32) * a1) + a2) < 0 ∨ 160 ≤ (((40 : Int32) * a1) + a2).toNatClampNeg) then none else
 sp_l (sv_sI σ8 13 (((40 : Int32) * a1) + a2).toNatClampNeg (a3.toInt16.toInt32)) (fun σ17 =>
 some ((1 : Int32), σ17)))
 else
 if ((((40 : Int32) * a1) + a2) < 0 ∨ 160 ≤ (((40 : Int32) * a1) + a2).toNatClampNeg) then none else
 sp_l (sv_sI σ8 13 (((40 : Int32) * a1) + a2).toNatClampNeg a3) (fun σ15 =>
 some ((1 : Int32), σ15))))
def q_X8_copy_B145 (θ : sv_T) (a1 : Int32) (a2 : Int32) (a3 : Int32) (a4 : Int32) (a5 : Int32) (k121 : Int32 → Int32 → Int32 → Int32 → Int32 → Int32 → Int32 → sv_S → Option (Int32 × sv_S)) (x1 : Int32) (x2 : Int32) (x3 : Int32) (x4 : Int32) (x5 : Int32) (x6 : Int32) (x7 : Int32) (w0 : Int32) (σ : sv_S) : Option (Int32 × sv_S) :=
 if (((((40 : Int32) * x1) + x2) + w0) < 0 ∨ 160 ≤ ((((40 : Int32) * x1) + x2) + w0).toNatClampNeg) then none else
 if (((((40 : Int32) * x3) + x4) + w0) < 0 ∨ 160 ≤ ((((40 : Int32) * x3) + x4) + w0).toNatClampNeg) then none else
 sp_l (sv_sI σ 13 ((((40 : Int32) * x3) + x4) + w0).toNatClampNeg (σ.1 13 ((((40 : Int32) * x1) + x2) + w0).toNatClampNeg)) (fun σ26 =>
 sp_l (x7 + 1) (fun v27 =>
 k121 x1 x2 x3 x4 x5 x6 v27 σ26))
def q_X8_copy_B121_b (θ : sv_T) (a1 : Int32) (a2 : Int32) (a3 : Int32) (a4 : Int32) (a5 : Int32)  (rec : Int32 → Int32 → Int32 → Int32 → Int32 → Int32 → Int32 → sv_S → Option (Int32 × sv_S)) (x1 : Int32) (x2 : Int32) (x3 : Int32) (x4 : Int32) (x5 : Int32) (x6 : Int32) (x7 : Int32) (σ : sv_S) : Option (Int32 × sv_S) :=
 if x5 ≤ x7 then
 (some (x5, σ))
 else
 if x6 = 0 then
 (q_X8_copy_B145 θ a1 a2 a3 a4 a5 rec x1 x2 x3 x4 x5 x6 x7 x7 σ)
 else
 q_X8_copy_B145 θ a1 a2 a3 a4 a5 rec x1 x2 x3 x4 x5 x6 x7 ((x5 - (1 : Int32)) - x7) σ
def q_X8_copy_B121 (θ : sv_T) (a1 : Int32) (a2 : Int32) (a3 : Int32) (a4 : Int32) (a5 : Int32)  : Nat → Int32 → Int32 → Int32 → Int32 → Int32 → Int32 → Int32 → sv_S → Option (Int32 × sv_S)
  | 0 => fun _ _ _ _ _ _ _ _ => none
  | n + 1 => q_X8_copy_B121_b θ a1 a2 a3 a4 a5 (q_X8_copy_B121 θ a1 a2 a3 a4 a5 n)
def q_X8_copy (θ : sv_T) (a1 : Int32) (a2 : Int32) (a3 : Int32) (a4 : Int32) (a5 : Int32) (σ : sv_S) : Option (Int32 × sv_S) :=
 sp_b (q_X8_isSheet θ a1 σ) (fun r1 σ2 =>
 if r1 = 0 then
 (some ((-2 : Int32), σ2))
 else
 sp_b (q_X8_isSheet θ a3 σ2) (fun r4 σ5 =>
 if r4 = 0 then
 (some ((-2 : Int32), σ5))
 else
 if (a1 < 0 ∨ 4 ≤ a1.toNatClampNeg) then none else
 if (σ5.1 10 a1.toNatClampNeg) = 0 then
 (some ((-11 : Int32), σ5))
 else
 if (a3 < 0 ∨ 4 ≤ a3.toNatClampNeg) then none else
 if (σ5.1 10 a3.toNatClampNeg) = 0 then
 (some ((-11 : Int32), σ5))
 else
 if (a1 < 0 ∨ 4 ≤ a1.toNatClampNeg) then none else
 if (a3 < 0 ∨ 4 ≤ a3.toNatClampNeg) then none else
 if (σ5.1 11 a1.toNatClampNeg) = (σ5.1 11 a3.toNatClampNeg) then
 (if a5 < 0 then
 (some ((-12 : Int32), σ5))
 else
 if a2 < 0 then
 (some ((-12 : Int32), σ5))
 else
 if a4 < 0 then
 (some ((-12 : Int32), σ5))
 else
 if (a1 < 0 ∨ 4 ≤ a1.toNatClampNeg) then none else
 if ((σ5.1 12 a1.toNatClampNeg) - a5) < a2 then
 (some ((-12 : Int32), σ5))
 else
 if (a3 < 0 ∨ 4 ≤ a3.toNatClampNeg) then none else
 if a4 ≤ ((σ5.1 12 a3.toNatClampNeg) - a5) then
 (if a1 = a3 then
 (if a4 ≤ a2 then
 (q_X8_copy_B121 θ a1 a2 a3 a4 a5 sv_N a1 a2 a3 a4 a5 (0 : Int32) (0 : Int32) σ5)
 else
 q_X8_copy_B121 θ a1 a2 a3 a4 a5 sv_N a1 a2 a3 a4 a5 (1 : Int32) (0 : Int32) σ5)
 else
 q_X8_copy_B121 θ a1 a2 a3 a4 a5 sv_N a1 a2 a3 a4 a5 (0 : Int32) (0 : Int32) σ5)
 else
 some ((-12 : Int32), σ5))
 else
 some ((-13 : Int32), σ5)))
def q_X8_bargains_B75_b (θ : sv_T) (a1 : Int32) (a2 : Int32) (a3 : Int32) (a4 : Int32)  (rec : Int32 → Int32 → Int32 → Int32 → Int32 → sv_S → Option (Int32 × sv_S)) (x1 : Int32) (x3 : Int32) (x4 : Int32) (x5 : Int32) (x6 : Int32) (σ : sv_S) : Option (Int32 × sv_S) :=
 if x4 ≤ x6 then
 (some (x5, σ))
 else
 if x3 < 0 then
 (some ((-12 : Int32), σ))
 else
 if (x1 < 0 ∨ 4 ≤ x1.toNatClampNeg) then none else
 if x3 ≤ (((σ.1 12 x1.toNatClampNeg) - ((3 : Int32) * x6)) - (3 : Int32)) then
 (sp_l ((((40 : Int32) * x1) + x3) + ((3 : Int32) * x6)) (fun v18 =>
 if (v18 < 0 ∨ 160 ≤ v18.toNatClampNeg) then none else
 if ((v18 + (1 : Int32)) < 0 ∨ 160 ≤ (v18 + (1 : Int32)).toNatClampNeg) then none else
 if ((v18 + (2 : Int32)) < 0 ∨ 160 ≤ (v18 + (2 : Int32)).toNatClampNeg) then none else
 sp_b (q_X8_bargain θ (σ.1 13 v18.toNatClampNeg) (σ.1 13 (v18 + (1 : Int32)).toNatClampNeg) (σ.1 13 (v18 + (2 : Int32)).toNatClampNeg) σ) (fun r22 σ23 =>
 if r22 < 0 then
 (sp_l (x5 + (0 : Int32)) (fun v25 =>
 sp_l (x6 + 1) (fun v26 =>
 rec x1 x3 x4 v25 v26 σ23)))
 else
 sp_l (x5 + (1 : Int32)) (fun v27 =>
 sp_l (x6 + 1) (fun v28 =>
 rec x1 x3 x4 v27 v28 σ23)))))
 else
 some ((-12 : Int32), σ)
def q_X8_bargains_B75 (θ : sv_T) (a1 : Int32) (a2 : Int32) (a3 : Int32) (a4 : Int32)  : Nat → Int32 → Int32 → Int32 → Int32 → Int32 → sv_S → Option (Int32 × sv_S)
  | 0 => fun _ _ _ _ _ _ => none
  | n + 1 => q_X8_bargains_B75_b θ a1 a2 a3 a4 (q_X8_bargains_B75 θ a1 a2 a3 a4 n)
def q_X8_bargains (θ : sv_T) (a1 : Int32) (a2 : Int32) (a3 : Int32) (a4 : Int32) (σ : sv_S) : Option (Int32 × sv_S) :=
 sp_b (q_X8_isSheet θ a1 σ) (fun r1 σ2 =>
 if r1 = 0 then
 (some ((-2 : Int32), σ2))
 else
 sp_b (q_X8_in θ (a2.toInt64) (0 : Int64) (2 : Int64) σ2) (fun r4 σ5 =>
 if r4 = 0 then
 (some ((-2 : Int32), σ5))
 else
 sp_b (q_X8_in θ (a4.toInt64) (0 : Int64) (6 : Int64) σ5) (fun r7 σ8 =>
 if r7 = 0 then
 (some ((-2 : Int32), σ8))
 else
 if (a1 < 0 ∨ 4 ≤ a1.toNatClampNeg) then none else
 if (σ8.1 10 a1.toNatClampNeg) = 0 then
 (if (a1 < 0 ∨ 4 ≤ a1.toNatClampNeg) then none else
 if (σ8.1 10 a1.toNatClampNeg) = 0 then
 (some ((-11 : Int32), σ8))
 else
 q_X8_bargains_B75 θ a1 a2 a3 a4 sv_N a1 a3 a4 (0 : Int32) (0 : Int32) σ8)
 else
 if (a1 < 0 ∨ 4 ≤ a1.toNatClampNeg) then none else
 if (σ8.1 11 a1.toNatClampNeg) = a2 then
 (if (a1 < 0 ∨ 4 ≤ a1.toNatClampNeg) then none else
 if (σ8.1 10 a1.toNatClampNeg) = 0 then
 (some ((-11 : Int32), σ8))
 else
 q_X8_bargains_B75 θ a1 a2 a3 a4 sv_N a1 a3 a4 (0 : Int32) (0 : Int32) σ8)
 else
 some ((-13 : Int32), σ8))))
def q_X8_over (θ : sv_T) (a1 : Int32) (σ : sv_S) : Option (Int32 × sv_S) :=
 if a1 = 0 then
 (some ((-1 : Int32), σ))
 else
 if a1 = (3 : Int32) then
 (some ((1 : Int32), σ))
 else
 if a1 = (4 : Int32) then
 (some ((2 : Int32), σ))
 else
 some ((0 : Int32), σ)
def q_X8_taken_B33_b (θ : sv_T) (a1 : Int32) (a2 : Int32)  (rec : Int32 → Int32 → Int32 → sv_S → Option (Int32 × sv_S)) (x1 : Int32) (x2 : Int32) (x3 : Int32) (σ : sv_S) : Option (Int32 × sv_S) :=
 if x3 = (-1 : Int32) then
 (if x3 = x2 then
 (if (((3 : Int32) * x1) < 0 ∨ 18 ≤ ((3 : Int32) * x1).toNatClampNeg) then none else
 some ((σ.1 6 ((3 : Int32) * x1).toNatClampNeg), σ))
 else
 some ((-13 : Int32), σ))
 else
 if x3 = x2 then
 (if x3 = x2 then
 (if (((3 : Int32) * x1) < 0 ∨ 18 ≤ ((3 : Int32) * x1).toNatClampNeg) then none else
 some ((σ.1 6 ((3 : Int32) * x1).toNatClampNeg), σ))
 else
 some ((-13 : Int32), σ))
 else
 sp_b (q_X8_over θ x3 σ) (fun r15 σ16 =>
 rec x1 x2 r15 σ16)
def q_X8_taken_B33 (θ : sv_T) (a1 : Int32) (a2 : Int32)  : Nat → Int32 → Int32 → Int32 → sv_S → Option (Int32 × sv_S)
  | 0 => fun _ _ _ _ => none
  | n + 1 => q_X8_taken_B33_b θ a1 a2 (q_X8_taken_B33 θ a1 a2 n)
def q_X8_taken (θ : sv_T) (a1 : Int32) (a2 : Int32) (σ : sv_S) : Option (Int32 × sv_S) :=
 sp_b (q_X8_in θ (a2.toInt64) (0 : Int64) (5 : Int64) σ) (fun r1 σ2 =>
 if r1 = 0 then
 (some ((-2 : Int32), σ2))
 else
 sp_b (q_X8_isOne θ a1 σ2) (fun r4 σ5 =>
 if r4 = 0 then
 (some ((-11 : Int32), σ5))
 else
 if (a1 < 0 ∨ 6 ≤ a1.toNatClampNeg) then none else
 sp_l (σ5.1 5 a1.toNatClampNeg) (fun v8 =>
 q_X8_taken_B33 θ a1 a2 sv_N a1 a2 v8 σ5)))

/-! ===== the law: what holds at its entry ===== -/
def lz_FL : List Cond := flatC (Jvm.Cond.and given_1 narrow_1)
theorem lz_fl {args : Array Value} {s : State} (hgv : (Jvm.Cond.and given_1 narrow_1).before args s = true) {w : Cond} (n : Nat) (h : lz_FL[n]? = some w) : w.before args s = true := flat_of_before _ hgv w (List.mem_of_getElem? h)
theorem lw_mem {w : Cond} (k i : Nat) (h : (lwAt k)[i]? = some w) : w ∈ lw_tbl := lwAt_in w (List.mem_of_getElem? h)
set_option maxRecDepth 20000 in
theorem lz_s0 : ∀ j : Nat, j < 37 → lz_FL[46 + j]? = some (Cond.eq (.elem (.field (.string "OpenWhileItRains" 57) "java/lang/String" "value" "[B") (.int (Int32.ofNat j))) (.int ((sx_sbyt.getD 0 []).getD j 0))) := by
  intro j hj
  have hc : j = 0 ∨ j = 1 ∨ j = 2 ∨ j = 3 ∨ j = 4 ∨ j = 5 ∨ j = 6 ∨ j = 7 ∨ j = 8 ∨ j = 9 ∨ j = 10 ∨ j = 11 ∨ j = 12 ∨ j = 13 ∨ j = 14 ∨ j = 15 ∨ j = 16 ∨ j = 17 ∨ j = 18 ∨ j = 19 ∨ j = 20 ∨ j = 21 ∨ j = 22 ∨ j = 23 ∨ j = 24 ∨ j = 25 ∨ j = 26 ∨ j = 27 ∨ j = 28 ∨ j = 29 ∨ j = 30 ∨ j = 31 ∨ j = 32 ∨ j = 33 ∨ j = 34 ∨ j = 35 ∨ j = 36 := by omega
  rcases hc with rfl | rfl | rfl | rfl | rfl | rfl | rfl | rfl | rfl | rfl | rfl | rfl | rfl | rfl | rfl | rfl | rfl | rfl | rfl | rfl | rfl | rfl | rfl | rfl | rfl | rfl | rfl | rfl | rfl | rfl | rfl | rfl | rfl | rfl | rfl | rfl | rfl <;> rfl
set_option maxRecDepth 20000 in
theorem lz_s1 : ∀ j : Nat, j < 72 → lz_FL[87 + j]? = some (Cond.eq (.elem (.field (.string "OpenWhileItRains$Reader" 105) "java/lang/String" "value" "[B") (.int (Int32.ofNat j))) (.int ((sx_sbyt.getD 1 []).getD j 0))) := by
  intro j hj
  have hc : j = 0 ∨ j = 1 ∨ j = 2 ∨ j = 3 ∨ j = 4 ∨ j = 5 ∨ j = 6 ∨ j = 7 ∨ j = 8 ∨ j = 9 ∨ j = 10 ∨ j = 11 ∨ j = 12 ∨ j = 13 ∨ j = 14 ∨ j = 15 ∨ j = 16 ∨ j = 17 ∨ j = 18 ∨ j = 19 ∨ j = 20 ∨ j = 21 ∨ j = 22 ∨ j = 23 ∨ j = 24 ∨ j = 25 ∨ j = 26 ∨ j = 27 ∨ j = 28 ∨ j = 29 ∨ j = 30 ∨ j = 31 ∨ j = 32 ∨ j = 33 ∨ j = 34 ∨ j = 35 ∨ j = 36 ∨ j = 37 ∨ j = 38 ∨ j = 39 ∨ j = 40 ∨ j = 41 ∨ j = 42 ∨ j = 43 ∨ j = 44 ∨ j = 45 ∨ j = 46 ∨ j = 47 ∨ j = 48 ∨ j = 49 ∨ j = 50 ∨ j = 51 ∨ j = 52 ∨ j = 53 ∨ j = 54 ∨ j = 55 ∨ j = 56 ∨ j = 57 ∨ j = 58 ∨ j = 59 ∨ j = 60 ∨ j = 61 ∨ j = 62 ∨ j = 63 ∨ j = 64 ∨ j = 65 ∨ j = 66 ∨ j = 67 ∨ j = 68 ∨ j = 69 ∨ j = 70 ∨ j = 71 := by omega
  rcases hc with rfl | rfl | rfl | rfl | rfl | rfl | rfl | rfl | rfl | rfl | rfl | rfl | rfl | rfl | rfl | rfl | rfl | rfl | rfl | rfl | rfl | rfl | rfl | rfl | rfl | rfl | rfl | rfl | rfl | rfl | rfl | rfl | rfl | rfl | rfl | rfl | rfl | rfl | rfl | rfl | rfl | rfl | rfl | rfl | rfl | rfl | rfl | rfl | rfl | rfl | rfl | rfl | rfl | rfl | rfl | rfl | rfl | rfl | rfl | rfl | rfl | rfl | rfl | rfl | rfl | rfl | rfl | rfl | rfl | rfl | rfl | rfl <;> rfl
theorem lz_most : ∀ j : Nat, j < 5 → lz_FL[12 + j]? = some (Cond.eq (.elem (.static "OpenWhileItRains" "MOST_SET" "[I") (.int (Int32.ofNat j))) (.int (sx_most j))) := by
  intro j hj
  have hc : j = 0 ∨ j = 1 ∨ j = 2 ∨ j = 3 ∨ j = 4 := by omega
  rcases hc with rfl | rfl | rfl | rfl | rfl <;> rfl
theorem lz_under : ∀ j : Nat, j < 6 → lz_FL[20 + j]? = some (Cond.eq (.elem (.static "OpenWhileItRains" "UNDER" "[I") (.int (Int32.ofNat j))) (.int (sx_under j))) := by
  intro j hj
  have hc : j = 0 ∨ j = 1 ∨ j = 2 ∨ j = 3 ∨ j = 4 ∨ j = 5 := by omega
  rcases hc with rfl | rfl | rfl | rfl | rfl | rfl <;> rfl
theorem lz_nest : ∀ w ∈ sx_nest, w ∈ lw_tbl := law_sub _ [(0, 28), (0, 74), (0, 120), (0, 142), (0, 147), (0, 210), (1, 41), (1, 99), (1, 237), (2, 7), (2, 12), (2, 13), (2, 30), (2, 31), (2, 35), (2, 103), (2, 117), (2, 150), (2, 156), (3, 24)] rfl
section LZS
variable {s : State} {b : Nat}
theorem lz_K0 (hts : ∀ w ∈ lw_tbl, w.before #[Value.ref b] s = true) : ∃ (D : va_G) (T : Nat → ClassId), va_K D vwCl (sx_tys T) s ∧ va_K D vwCl (sm_tys T) s := by
  obtain ⟨c0, i0, k0⟩ := u_known (C := RX0) (T := TX0) (N := 4) (n := 4) hts law_in_wsX00 (hts (.instantiable RX0 4) (lw_mem 0 119 rfl))
  obtain ⟨c1, i1, k1⟩ := u_known (C := RX2) (T := TX2) (N := 8) (n := 8) hts law_in_wsX20 (hts (.instantiable RX2 8) (lw_mem 0 27 rfl))
  obtain ⟨c2, i2, k2⟩ := u_known (C := RX3) (T := TX3) (N := 17) (n := 17) hts law_in_wsX30 (hts (.instantiable RX3 17) (lw_mem 0 141 rfl))
  obtain ⟨c3, i3, k3⟩ := u_known (C := RX4) (T := TX4) (N := 11) (n := 11) hts law_in_wsX40 (hts (.instantiable RX4 11) (lw_mem 0 73 rfl))
  obtain ⟨c4, i4, k4⟩ := u_known (C := RX5) (T := TX5) (N := 3) (n := 3) hts law_in_wsX50 (hts (.instantiable RX5 3) (lw_mem 0 209 rfl))
  obtain ⟨c5, i5, k5⟩ := u_known (C := RX6) (T := TX6) (N := 4) (n := 4) hts law_in_wsX60 (hts (.instantiable RX6 4) (lw_mem 1 135 rfl))
  obtain ⟨c6, i6, k6⟩ := u_known (C := RX7) (T := TX7) (N := 10) (n := 10) hts law_in_wsX70 (hts (.instantiable RX7 10) (lw_mem 0 19 rfl))
  obtain ⟨c7, i7, k7⟩ := u_known (C := RX8) (T := TX8) (N := 44) (n := 44) hts law_in_wsX80 (hts (.instantiable RX8 44) (lw_mem 3 101 rfl))
  have hC : ∀ (k : Nat) (q : vw_C), vwCl[k]? = some q → u_Kn s q.1 q.2.1 q.2.2 ((fun k => match k with | 0 => c0 | 1 => c1 | 2 => c2 | 3 => c3 | 4 => c4 | 5 => c5 | 6 => c6 | _ => c7) k) ((fun k => match k with | 0 => i0 | 1 => i1 | 2 => i2 | 3 => i3 | 4 => i4 | 5 => i5 | 6 => i6 | _ => i7) k) := by
    intro k q hq
    match k, hq with
    | 0, hq => cases hq; exact k0
    | 1, hq => cases hq; exact k1
    | 2, hq => cases hq; exact k2
    | 3, hq => cases hq; exact k3
    | 4, hq => cases hq; exact k4
    | 5, hq => cases hq; exact k5
    | 6, hq => cases hq; exact k6
    | 7, hq => cases hq; exact k7
    | k + 8, hq => simp [vwCl] at hq
  obtain ⟨a0, b0, d0, u0, v0, w0⟩ := Cond.arrayClass_spec (hts (.arrayClass .int) (lw_mem 0 71 rfl))
  obtain ⟨a1, b1, d1, u1, v1, w1⟩ := Cond.arrayClass_spec (hts (.arrayClass .boolean) (lw_mem 4 2 rfl))
  obtain ⟨d2, a2, b2, z2, -, v2, w2, u2⟩ := Cond.arrayOver_spec (hts (.arrayOver (.object "OpenWhileItRains$Text")) (lw_mem 0 115 rfl))
  obtain ⟨d3, a3, b3, z3, -, v3, w3, u3⟩ := Cond.arrayOver_spec (hts (.arrayOver (.object "OpenWhileItRains$Row")) (lw_mem 0 117 rfl))
  have r0 : ArrOfT s a0 .int ∧ va_RA s a0 .int := ⟨fun n z => ⟨fun k h => (by cases h), b0, v0, d0, w0⟩, u0⟩
  have r1 : ArrOfT s a1 .boolean ∧ va_RA s a1 .boolean := ⟨fun n z => ⟨fun k h => (by cases h), b1, v1, d1, w1⟩, u1⟩
  have r2 : ArrOfT s a2 (.object "OpenWhileItRains$Text") ∧ va_RA s a2 (.object "OpenWhileItRains$Text") := ⟨fun n z => ⟨fun k h => (by cases h), b2, v2, d2, w2⟩, b2, d2, v2, w2, z2, u2⟩
  have r3 : ArrOfT s a3 (.object "OpenWhileItRains$Row") ∧ va_RA s a3 (.object "OpenWhileItRains$Row") := ⟨fun n z => ⟨fun k h => (by cases h), b3, v3, d3, w3⟩, b3, d3, v3, w3, z3, u3⟩
  refine ⟨(fun k => match k with | 0 => c0 | 1 => c1 | 2 => c2 | 3 => c3 | 4 => c4 | 5 => c5 | 6 => c6 | _ => c7, fun k => match k with | 0 => i0 | 1 => i1 | 2 => i2 | 3 => i3 | 4 => i4 | 5 => i5 | 6 => i6 | _ => i7), fun k => match k with | 0 => a0 | 1 => a1 | 2 => a2 | _ => a3, ⟨hC, fun k q hq => ?_⟩, ⟨hC, fun k q hq => ?_⟩⟩
  · match k, hq with
    | 0, hq => cases hq; exact r0
    | 1, hq => cases hq; exact r2
    | 2, hq => cases hq; exact r3
    | k + 3, hq => simp [sx_tys] at hq
  · match k, hq with
    | 0, hq => cases hq; exact r0
    | 1, hq => cases hq; exact r1
    | k + 2, hq => simp [sm_tys] at hq
def lz_tm (i : Nat) : Term := match i with
  | 0 => .string "OpenWhileItRains" 57
  | _ => .string "OpenWhileItRains$Reader" 105
set_option maxRecDepth 20000 in
theorem lz_X0 (hts : ∀ w ∈ lw_tbl, w.before #[Value.ref b] s = true) (hgv : (Jvm.Cond.and given_1 narrow_1).before #[Value.ref b] s = true) : ∃ qK qV : Nat → Nat, sx_X2 qK qV (lz_A s) s s.heap := by
  have hA : ∀ a : Nat, a < s.heap.size → ¬ lz_A s a := fun a h z => absurd h (Nat.not_lt.mpr z)
  obtain ⟨qK, qV, hS, hE⟩ := vk_Sof (args := #[Value.ref b]) (s := s) (N := 2) (tm := lz_tm) (len := sx_slen) (byt := sx_sbyt) (A := lz_A s)
    (fun i hi => by
      have hc : i = 0 ∨ i = 1 := by omega
      rcases hc with rfl | rfl <;> decide)
    (fun i hi => by
      have hc : i = 0 ∨ i = 1 := by omega
      rcases hc with rfl | rfl
      · exact lz_fl hgv 42 rfl
      · exact lz_fl hgv 83 rfl)
    (fun i hi => by
      have hc : i = 0 ∨ i = 1 := by omega
      rcases hc with rfl | rfl
      · exact lz_fl hgv 43 rfl
      · exact lz_fl hgv 84 rfl)
    (fun i hi => by
      have hc : i = 0 ∨ i = 1 := by omega
      rcases hc with rfl | rfl
      · exact lz_fl hgv 44 rfl
      · exact lz_fl hgv 85 rfl)
    (fun i hi => by
      have hc : i = 0 ∨ i = 1 := by omega
      rcases hc with rfl | rfl
      · exact lz_fl hgv 45 rfl
      · exact lz_fl hgv 86 rfl)
    (fun i hi j hj => by
      have hc : i = 0 ∨ i = 1 := by omega
      rcases hc with rfl | rfl
      · exact lz_fl hgv (46 + j) (lz_s0 j hj)
      · exact lz_fl hgv (87 + j) (lz_s1 j hj))
    (fun i j hi hj hij => by
      have hc : i = 0 ∨ i = 1 := by omega
      have hc2 : j = 0 ∨ j = 1 := by omega
      rcases hc with rfl | rfl <;> rcases hc2 with rfl | rfl
      · exact absurd rfl hij
      · exact Or.inl (lz_fl hgv 159 rfl)
      · exact Or.inr (lz_fl hgv 159 rfl)
      · exact absurd rfl hij)
    hA
  obtain ⟨tM, eM, hM⟩ := va_Tof (args := #[Value.ref b]) (tm := .static "OpenWhileItRains" "MOST_SET" "[I") (ty := .int) (N := 5) (f := fun j => .int (sx_most j)) (A := lz_A s) (by decide) (lz_fl hgv 10 rfl) (va_eqt (lz_fl hgv 11 rfl)) (fun j hj => va_eqt (lz_fl hgv (12 + j) (lz_most j hj))) hA
  obtain ⟨tU, eU, hU⟩ := va_Tof (args := #[Value.ref b]) (tm := .static "OpenWhileItRains" "UNDER" "[I") (ty := .int) (N := 6) (f := fun j => .int (sx_under j)) (A := lz_A s) (by decide) (lz_fl hgv 18 rfl) (va_eqt (lz_fl hgv 19 rfl)) (fun j hj => va_eqt (lz_fl hgv (20 + j) (lz_under j hj))) hA
  have nN : ∀ w : Cond, w.onTables = true → w ∈ lw_tbl → va_Nw w s := fun w h1 h2 => va_tabs h1 rfl (hts w h2)
  refine ⟨qK, qV, ⟨fun w hw => ?_, ⟨tM, va_Zof (hts _ (lw_mem 1 215 rfl)) (hts _ (lw_mem 0 1 rfl)) eM hA, hM⟩, ⟨tU, va_Zof (hts _ (lw_mem 3 99 rfl)) (hts _ (lw_mem 0 1 rfl)) eU hA, hU⟩, nN _ rfl (lw_mem 3 98 rfl), ⟨hS, ?_, ?_⟩, va_Zof (hts _ (lw_mem 0 238 rfl)) (hts _ (lw_mem 0 7 rfl)) (va_eqi (lz_fl hgv 4 rfl)) hA, va_Zqof (hts _ (lw_mem 1 14 rfl)) (hts _ (lw_mem 0 9 rfl)) (lz_fl hgv 5 rfl) hA⟩, nN _ rfl (lw_mem 1 144 rfl), ?_, ?_⟩
  · obtain ⟨a, i, x, h, rfl⟩ := sx_nest_of w hw
    exact nN _ rfl (lz_nest _ hw)
  · exact vk_R.of (hts _ (lw_mem 0 228 rfl)) (hE 0 (by omega))
  · exact vk_R.of (hts _ (lw_mem 1 71 rfl)) (hE 1 (by omega))
  · exact va_AO.of (hts _ (lw_mem 0 115 rfl))
  · exact va_AO.of (hts _ (lw_mem 0 117 rfl))
end LZS

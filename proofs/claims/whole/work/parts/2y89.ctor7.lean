/-! ===== the class: its constructor, up to the first text ===== -/
def sp_l7 : List sv_Sh := [.inl (6, pkX7), .inl (1, pkX2), .inr (0, 48), .inr (0, 6), .inr (0, 6), .inr (0, 6), .inr (0, 6), .inl (1, pkX2), .inr (0, 48), .inr (0, 6), .inr (0, 6), .inr (0, 6), .inr (0, 6), .inl (3, pkX4), .inr (0, 160), .inr (0, 161), .inr (0, 161), .inr (0, 161), .inr (0, 160), .inr (0, 3), .inr (2, 6), .inr (3, 4), .inl (0, pkX0), .inr (0, 6), .inl (2, pkX3), .inl (0, pkX0), .inr (0, 6), .inr (0, 48), .inr (0, 6), .inr (0, 864), .inr (0, 864), .inr (0, 864), .inr (0, 864), .inr (0, 48), .inl (4, pkX5), .inr (0, 40), .inl (4, pkX5), .inr (0, 40), .inl (4, pkX5), .inr (0, 40), .inl (4, pkX5), .inr (0, 40)]
def sp_sh (i : Nat) : sv_Sh := sp_l7.getD i (.inr (0, 0))
def xs0 : sv_S := (fun _ _ => 0, fun _ _ => 0, fun _ _ => none)
def xs1 : sv_S := xp_X2 xs0 1 2
def xs2 : sv_S := sv_sP (xs1) 0 0 (some 1)
def xs3 : sv_S := xp_X2 xs2 7 8
def xs4 : sv_S := sv_sP (xs3) 0 1 (some 7)
def xs5 : sv_S := xp_X4 xs4 13 14
def xs6 : sv_S := sv_sP (xs5) 0 3 (some 13)
def xs7 : sv_S := sv_sP (xs6) 0 4 (some 20)
def xs8 : sv_S := sv_sP (xs7) 0 6 (some 21)
def xs9 : sv_S := xp_X0 xs8 22 23
def xs10 : sv_S := sv_sP (xs9) 0 7 (some 22)
def xs11 : sv_S := xp_X3 xs10 24 25
def xs12 : sv_S := sv_sP (xs11) 0 8 (some 24)
def xs13 : sv_S := sv_sP (xs12) 0 9 (some 33)
def xs14 : sv_S := xp_X5 xs13 34 35
def xs15 : sv_S := sv_sP xs14 21 0 (some 34)
def xs16 : sv_S := xp_X5 xs15 36 37
def xs17 : sv_S := sv_sP xs16 21 1 (some 36)
def xs18 : sv_S := xp_X5 xs17 38 39
def xs19 : sv_S := sv_sP xs18 21 2 (some 38)
def xs20 : sv_S := xp_X5 xs19 40 41
def xs21 : sv_S := sv_sP xs20 21 3 (some 40)
section CX7
variable {qK qV : Nat → Nat} {l : Launch} {D : va_G} {T : Nat → ClassId} {h : Nat → Nat}
variable {p : Program} {e : Env} {R : Room} {s : State} {m : MethodId} {args : Array Value} {below : List Frame} {meth : Method} {c : Code} {Q : State → Prop} {A : Nat → Prop}
set_option maxRecDepth 100000 in
set_option maxHeartbeats 16000000 in
theorem w_X7_a (hR : R = sv_rmG 63 45 5238 2480) (F : sv_F (sx_X2 qK qV) p m c cX7_init 2 s args wsX7_init RX7 D (sx_tys T) A) (hin : meth.name = "<init>") {ls : Array Slot} {H : Heap} {locs : List Loc} (hl : lv_has ls 2 [(0, .ref (h 0))]) (hW : sv_W D T A s h (1, sp_sh) xs0 H locs) (hn : sv_nw (1, sp_sh) xs0)
    (kk : ∀ (h' : Nat → Nat) (ls : Array Slot) (H : Heap) (locs : List Loc), h' 0 = h 0 → lv_has ls 2 [(1, .int 4), (0, .ref (h' 0))] → sv_W D T A s h' (42, sp_sh) xs21 H locs → W p l e R s m args below meth c H locs 41 4754 Q (F0 m 114 ls [])) :
    W p l e R s m args below meth c H locs 0 0 Q (F0 m 0 ls []) := by
  subst hR
  have hx := F.1.1
  have hb := F.1.2.1
  have hts := F.1.2.2.2.2
  have hown := F.1.2.2.2.1
  have hml := F.1.2.2.1
  have hK := F.2.1
  have hA := F.2.2.2.1
  have hl : lv_has ls 2 [(0, .ref (h 0))] := hl
  have g0 : sp_sh 0 = .inl (6, pkX7) := rfl
  have g1 : sp_sh 1 = .inl (1, pkX2) := rfl
  have g2 : sp_sh 2 = .inr (0, 48) := rfl
  have g3 : sp_sh 3 = .inr (0, 6) := rfl
  have g4 : sp_sh 4 = .inr (0, 6) := rfl
  have g5 : sp_sh 5 = .inr (0, 6) := rfl
  have g6 : sp_sh 6 = .inr (0, 6) := rfl
  have g7 : sp_sh 7 = .inl (1, pkX2) := rfl
  have g8 : sp_sh 8 = .inr (0, 48) := rfl
  have g9 : sp_sh 9 = .inr (0, 6) := rfl
  have g10 : sp_sh 10 = .inr (0, 6) := rfl
  have g11 : sp_sh 11 = .inr (0, 6) := rfl
  have g12 : sp_sh 12 = .inr (0, 6) := rfl
  have g13 : sp_sh 13 = .inl (3, pkX4) := rfl
  have g14 : sp_sh 14 = .inr (0, 160) := rfl
  have g15 : sp_sh 15 = .inr (0, 161) := rfl
  have g16 : sp_sh 16 = .inr (0, 161) := rfl
  have g17 : sp_sh 17 = .inr (0, 161) := rfl
  have g18 : sp_sh 18 = .inr (0, 160) := rfl
  have g19 : sp_sh 19 = .inr (0, 3) := rfl
  have g20 : sp_sh 20 = .inr (2, 6) := rfl
  have g21 : sp_sh 21 = .inr (3, 4) := rfl
  have g22 : sp_sh 22 = .inl (0, pkX0) := rfl
  have g23 : sp_sh 23 = .inr (0, 6) := rfl
  have g24 : sp_sh 24 = .inl (2, pkX3) := rfl
  have g25 : sp_sh 25 = .inl (0, pkX0) := rfl
  have g26 : sp_sh 26 = .inr (0, 6) := rfl
  have g27 : sp_sh 27 = .inr (0, 48) := rfl
  have g28 : sp_sh 28 = .inr (0, 6) := rfl
  have g29 : sp_sh 29 = .inr (0, 864) := rfl
  have g30 : sp_sh 30 = .inr (0, 864) := rfl
  have g31 : sp_sh 31 = .inr (0, 864) := rfl
  have g32 : sp_sh 32 = .inr (0, 864) := rfl
  have g33 : sp_sh 33 = .inr (0, 48) := rfl
  have g34 : sp_sh 34 = .inl (4, pkX5) := rfl
  have g35 : sp_sh 35 = .inr (0, 40) := rfl
  have g36 : sp_sh 36 = .inl (4, pkX5) := rfl
  have g37 : sp_sh 37 = .inr (0, 40) := rfl
  have g38 : sp_sh 38 = .inl (4, pkX5) := rfl
  have g39 : sp_sh 39 = .inr (0, 40) := rfl
  have g40 : sp_sh 40 = .inl (4, pkX5) := rfl
  have g41 : sp_sh 41 = .inr (0, 40) := rfl
  refine lv_aload_n hx hb dX7_init_0 rfl (lv_at hl 0 rfl) ?_
  refine W.objInit hx hb hown (hts (.methodLink RX7 1 objectInit) (by decide +kernel)) (hts (.instanceMethod objectInit) (by decide +kernel)) (hts _ (List.mem_of_getElem? (i := 3) rfl)) rfl (by rw [hml]; exact hl.1) rfl dX7_init_1 (Nat.le_of_ble_eq_true rfl) (Nat.le_of_ble_eq_true rfl) ?_
  refine W.eq (g2 := F0 m 4 ls []) rfl ?_
  refine lv_aload_n hx hb dX7_init_4 rfl (lv_at hl 0 rfl) ?_
  refine sv_newO (own := RX7) (C := RX2) (Tf := TX2) (N := 8) (ci := 1) (ks := pkX2) (fs := [.null, .null, .null, .null, .null, .int 0, .int 0, .null]) hx hb hts (fun _ h => List.mem_cons_of_mem _ (List.mem_append_left _ (List.mem_append_left _ (List.mem_append_left _ (List.mem_append_left _ (List.mem_append_left _ (List.mem_append_left _ (List.mem_append_right _ h)))))))) tyX2 tyX2_ok hown (hts _ (List.mem_of_getElem? (i := 4) rfl)) (hts _ (List.mem_of_getElem? (i := 5) rfl)) (hts _ (List.mem_of_getElem? (i := 6) rfl)) hK hW hA rfl g1 (by show 1 < 1000; omega) hn.1 (fun j hj => by revert j; decide) (fun h' => by obtain ⟨z1, z2, z3⟩ := hn.2 1 (Nat.le_refl _); simp only [sv_vals, sv_val, z1, z2, z3, Option.map_none, va_rf]) (Nat.le_of_ble_eq_true rfl) (Nat.le_of_ble_eq_true rfl) dX7_init_5 (fun h1 H e1 hW => ?_)
  rw [← e1 0 (by show 0 < 1; omega)] at hl
  rw [← e1 0 (by show 0 < 1; omega)]
  have hW : sv_W D T (A) s h1 (2, sp_sh) (xs0) H locs := hW
  have hn := sv_nw_O hn g1 (by decide)
  have hn : sv_nw (2, sp_sh) xs0 := hn
  refine lv_dup hx hb dX7_init_8 rfl ?_
  refine sv_goVG (n' := 7) (σ' := xp_X2 xs0 1 2) hW hA (sv_runING (i := 1) (own := RX7) (host := "OpenWhileItRains") F hW (k_X2_init sx_XP2 (θ := (2, sp_sh)) (kc := 1) (by show 2 ≤ 900; omega) (by show 1 < 2; omega) g1 g2 g3 g4 g5 g6 hn H.size) gX7_init_X2_init_n9 rfl ⟨rfl, rfl⟩ 0 (List.mem_of_getElem? (i := 6) rfl) (F.2.2.1.1.1 _ (List.mem_of_getElem? (i := 0) rfl)) (List.mem_of_getElem? (i := 30) rfl) rfl (by decide +kernel) ⟨Nat.le_of_ble_eq_true rfl, Nat.le_of_ble_eq_true rfl⟩ rfl hl.1 rfl (Nat.le_of_ble_eq_true rfl) dX7_init_9 ⟨Nat.le_of_ble_eq_true rfl, Nat.le_of_ble_eq_true rfl⟩) (fun h2 H locs e2 hW => ?_)
  rw [← e2 0 (by show 0 < 2; omega)] at hl
  rw [← e2 1 (by show 1 < 2; omega)]
  rw [← e2 0 (by show 0 < 2; omega)]
  have hW : sv_W D T (A) s h2 (7, sp_sh) (xp_X2 xs0 1 2) H locs := hW
  have hn : sv_nw (7, sp_sh) (xp_X2 xs0 1 2) := nw_X2_init (θ := (2, sp_sh)) (kc := 1) (by show 1 < 2; omega) g2 g3 g4 g5 g6 hn
  have hW : sv_W D T A s h2 (7, sp_sh) xs1 H locs := hW
  have hn : sv_nw (7, sp_sh) xs1 := hn
  refine sv_putFP (j := 1) (i := 0) (own := RX7) (C := RX7) (Tf := TX7) (N := 10) (index := 10) (ks := pkX7) hx hb hts hown hK hW (fun _ h => List.mem_cons_of_mem _ (List.mem_append_left _ (List.mem_append_left _ (List.mem_append_left _ (List.mem_append_left _ (List.mem_append_left _ (List.mem_append_right _ h))))))) tyX7 tyX7_ok nmX7 (by show 0 < 7; omega) g0 rfl 0 (by decide) rfl rfl hin rfl (ty := .object "OpenWhileItRains$Market") (by decide +kernel) (fun _ => rfl) (fun _ => rfl) (List.mem_of_getElem? (i := 7) rfl) dX7_init_12 (fun H locs hW => ?_)
  have hn := sv_nw_P (k := 0) hn (by show 0 < 7; omega) (by show 1 < 7; omega)
  have hW : sv_W D T A s h2 (7, sp_sh) xs2 H locs := hW
  have hn : sv_nw (7, sp_sh) xs2 := hn
  refine lv_aload_n hx hb dX7_init_15 rfl (lv_at hl 0 rfl) ?_
  refine sv_newO (own := RX7) (C := RX2) (Tf := TX2) (N := 8) (ci := 1) (ks := pkX2) (fs := [.null, .null, .null, .null, .null, .int 0, .int 0, .null]) hx hb hts (fun _ h => List.mem_cons_of_mem _ (List.mem_append_left _ (List.mem_append_left _ (List.mem_append_left _ (List.mem_append_left _ (List.mem_append_left _ (List.mem_append_left _ (List.mem_append_right _ h)))))))) tyX2 tyX2_ok hown (hts _ (List.mem_of_getElem? (i := 4) rfl)) (hts _ (List.mem_of_getElem? (i := 5) rfl)) (hts _ (List.mem_of_getElem? (i := 6) rfl)) hK hW hA rfl g7 (by show 7 < 1000; omega) hn.1 (fun j hj => by revert j; decide) (fun h' => by obtain ⟨z1, z2, z3⟩ := hn.2 7 (Nat.le_refl _); simp only [sv_vals, sv_val, z1, z2, z3, Option.map_none, va_rf]) (Nat.le_of_ble_eq_true rfl) (Nat.le_of_ble_eq_true rfl) dX7_init_16 (fun h3 H e3 hW => ?_)
  rw [← e3 0 (by show 0 < 7; omega)] at hl
  rw [← e3 0 (by show 0 < 7; omega)]
  have hW : sv_W D T (A) s h3 (8, sp_sh) (xs2) H locs := hW
  have hn := sv_nw_O hn g7 (by decide)
  have hn : sv_nw (8, sp_sh) xs2 := hn
  refine lv_dup hx hb dX7_init_19 rfl ?_
  refine sv_goVG (n' := 13) (σ' := xp_X2 xs2 7 8) hW hA (sv_runING (i := 7) (own := RX7) (host := "OpenWhileItRains") F hW (k_X2_init sx_XP2 (θ := (8, sp_sh)) (kc := 7) (by show 8 ≤ 900; omega) (by show 7 < 8; omega) g7 g8 g9 g10 g11 g12 hn H.size) gX7_init_X2_init_n9 rfl ⟨rfl, rfl⟩ 0 (List.mem_of_getElem? (i := 6) rfl) (F.2.2.1.1.1 _ (List.mem_of_getElem? (i := 0) rfl)) (List.mem_of_getElem? (i := 30) rfl) rfl (by decide +kernel) ⟨Nat.le_of_ble_eq_true rfl, Nat.le_of_ble_eq_true rfl⟩ rfl hl.1 rfl (Nat.le_of_ble_eq_true rfl) dX7_init_20 ⟨Nat.le_of_ble_eq_true rfl, Nat.le_of_ble_eq_true rfl⟩) (fun h4 H locs e4 hW => ?_)
  rw [← e4 0 (by show 0 < 8; omega)] at hl
  rw [← e4 7 (by show 7 < 8; omega)]
  rw [← e4 0 (by show 0 < 8; omega)]
  have hW : sv_W D T (A) s h4 (13, sp_sh) (xp_X2 xs2 7 8) H locs := hW
  have hn : sv_nw (13, sp_sh) (xp_X2 xs2 7 8) := nw_X2_init (θ := (8, sp_sh)) (kc := 7) (by show 7 < 8; omega) g8 g9 g10 g11 g12 hn
  have hW : sv_W D T A s h4 (13, sp_sh) xs3 H locs := hW
  have hn : sv_nw (13, sp_sh) xs3 := hn
  refine sv_putFP (j := 7) (i := 0) (own := RX7) (C := RX7) (Tf := TX7) (N := 10) (index := 16) (ks := pkX7) hx hb hts hown hK hW (fun _ h => List.mem_cons_of_mem _ (List.mem_append_left _ (List.mem_append_left _ (List.mem_append_left _ (List.mem_append_left _ (List.mem_append_left _ (List.mem_append_right _ h))))))) tyX7 tyX7_ok nmX7 (by show 0 < 13; omega) g0 rfl 1 (by decide) rfl rfl hin rfl (ty := .object "OpenWhileItRains$Market") (by decide +kernel) (fun _ => rfl) (fun _ => rfl) (List.mem_of_getElem? (i := 8) rfl) dX7_init_23 (fun H locs hW => ?_)
  have hn := sv_nw_P (k := 1) hn (by show 0 < 13; omega) (by show 7 < 13; omega)
  have hW : sv_W D T A s h4 (13, sp_sh) xs4 H locs := hW
  have hn : sv_nw (13, sp_sh) xs4 := hn
  refine lv_aload_n hx hb dX7_init_26 rfl (lv_at hl 0 rfl) ?_
  refine sv_newO (own := RX7) (C := RX4) (Tf := TX4) (N := 11) (ci := 3) (ks := pkX4) (fs := [.int 0, .int 0, .null, .null, .null, .null, .int 0, .int 0, .null, .null, .int 0]) hx hb hts (fun _ h => List.mem_cons_of_mem _ (List.mem_append_left _ (List.mem_append_left _ (List.mem_append_left _ (List.mem_append_left _ (List.mem_append_right _ h)))))) tyX4 tyX4_ok hown (hts _ (List.mem_of_getElem? (i := 9) rfl)) (hts _ (List.mem_of_getElem? (i := 10) rfl)) (hts _ (List.mem_of_getElem? (i := 11) rfl)) hK hW hA rfl g13 (by show 13 < 1000; omega) hn.1 (fun j hj => by revert j; decide) (fun h' => by obtain ⟨z1, z2, z3⟩ := hn.2 13 (Nat.le_refl _); simp only [sv_vals, sv_val, z1, z2, z3, Option.map_none, va_rf]) (Nat.le_of_ble_eq_true rfl) (Nat.le_of_ble_eq_true rfl) dX7_init_27 (fun h5 H e5 hW => ?_)
  rw [← e5 0 (by show 0 < 13; omega)] at hl
  rw [← e5 0 (by show 0 < 13; omega)]
  have hW : sv_W D T (A) s h5 (14, sp_sh) (xs4) H locs := hW
  have hn := sv_nw_O hn g13 (by decide)
  have hn : sv_nw (14, sp_sh) xs4 := hn
  refine lv_dup hx hb dX7_init_30 rfl ?_
  refine sv_goVG (n' := 20) (σ' := xp_X4 xs4 13 14) hW hA (sv_runING (i := 13) (own := RX7) (host := "OpenWhileItRains") F hW (k_X4_init sx_XP2 (θ := (14, sp_sh)) (kc := 13) (by show 14 ≤ 900; omega) (by show 13 < 14; omega) g13 g14 g15 g16 g17 g18 g19 hn H.size) gX7_init_X4_init_n21 rfl ⟨rfl, rfl⟩ 0 (List.mem_of_getElem? (i := 11) rfl) (F.2.2.1.1.1 _ (List.mem_of_getElem? (i := 1) rfl)) (List.mem_of_getElem? (i := 38) rfl) rfl (by decide +kernel) ⟨Nat.le_of_ble_eq_true rfl, Nat.le_of_ble_eq_true rfl⟩ rfl hl.1 rfl (Nat.le_of_ble_eq_true rfl) dX7_init_31 ⟨Nat.le_of_ble_eq_true rfl, Nat.le_of_ble_eq_true rfl⟩) (fun h6 H locs e6 hW => ?_)
  rw [← e6 0 (by show 0 < 14; omega)] at hl
  rw [← e6 13 (by show 13 < 14; omega)]
  rw [← e6 0 (by show 0 < 14; omega)]
  have hW : sv_W D T (A) s h6 (20, sp_sh) (xp_X4 xs4 13 14) H locs := hW
  have hn : sv_nw (20, sp_sh) (xp_X4 xs4 13 14) := nw_X4_init (θ := (14, sp_sh)) (kc := 13) (by show 13 < 14; omega) g14 g15 g16 g17 g18 g19 hn
  have hW : sv_W D T A s h6 (20, sp_sh) xs5 H locs := hW
  have hn : sv_nw (20, sp_sh) xs5 := hn
  refine sv_putFP (j := 13) (i := 0) (own := RX7) (C := RX7) (Tf := TX7) (N := 10) (index := 22) (ks := pkX7) hx hb hts hown hK hW (fun _ h => List.mem_cons_of_mem _ (List.mem_append_left _ (List.mem_append_left _ (List.mem_append_left _ (List.mem_append_left _ (List.mem_append_left _ (List.mem_append_right _ h))))))) tyX7 tyX7_ok nmX7 (by show 0 < 20; omega) g0 rfl 3 (by decide) rfl rfl hin rfl (ty := .object "OpenWhileItRains$Reader") (by decide +kernel) (fun _ => rfl) (fun _ => rfl) (List.mem_of_getElem? (i := 12) rfl) dX7_init_34 (fun H locs hW => ?_)
  have hn := sv_nw_P (k := 3) hn (by show 0 < 20; omega) (by show 13 < 20; omega)
  have hW : sv_W D T A s h6 (20, sp_sh) xs6 H locs := hW
  have hn : sv_nw (20, sp_sh) xs6 := hn
  refine lv_aload_n hx hb dX7_init_37 rfl (lv_at hl 0 rfl) ?_
  refine lv_bipush (v := 6) hx hb dX7_init_38 (by decide) ?_
  refine sv_newR (C := "OpenWhileItRains$Text") (t := 0) hx hb hown (hts _ (List.mem_of_getElem? (i := 13) rfl)) F.2.2.1.2.2.1 hK hW hA (L := 6) g20 (by show 20 < 1000; omega) hn.1 (fun j => (hn.2 _ (Nat.le_refl _)).2.2 j) 1 rfl (by decide) (by decide) (by decide) (Nat.le_of_ble_eq_true rfl) (Nat.le_of_ble_eq_true rfl) dX7_init_40 (fun h7 H e7 hW => ?_)
  rw [← e7 0 (by show 0 < 20; omega)] at hl
  rw [← e7 0 (by show 0 < 20; omega)]
  have hW : sv_W D T (A) s h7 (21, sp_sh) (xs6) H locs := hW
  have hn := sv_nw_A hn g20
  have hn : sv_nw (21, sp_sh) xs6 := hn
  refine sv_putFP (j := 20) (i := 0) (own := RX7) (C := RX7) (Tf := TX7) (N := 10) (index := 28) (ks := pkX7) hx hb hts hown hK hW (fun _ h => List.mem_cons_of_mem _ (List.mem_append_left _ (List.mem_append_left _ (List.mem_append_left _ (List.mem_append_left _ (List.mem_append_left _ (List.mem_append_right _ h))))))) tyX7 tyX7_ok nmX7 (by show 0 < 21; omega) g0 rfl 4 (by decide) rfl rfl hin rfl (ty := .array (.object "OpenWhileItRains$Text")) (by decide +kernel) (fun _ => rfl) (fun _ => rfl) (List.mem_of_getElem? (i := 14) rfl) dX7_init_43 (fun H locs hW => ?_)
  have hn := sv_nw_P (k := 4) hn (by show 0 < 21; omega) (by show 20 < 21; omega)
  have hW : sv_W D T A s h7 (21, sp_sh) xs7 H locs := hW
  have hn : sv_nw (21, sp_sh) xs7 := hn
  refine lv_aload_n hx hb dX7_init_46 rfl (lv_at hl 0 rfl) ?_
  refine lv_iconst (v := 4) hx hb dX7_init_47 (by decide) ?_
  refine sv_newR (C := "OpenWhileItRains$Row") (t := 1) hx hb hown (hts _ (List.mem_of_getElem? (i := 15) rfl)) F.2.2.1.2.2.2 hK hW hA (L := 4) g21 (by show 21 < 1000; omega) hn.1 (fun j => (hn.2 _ (Nat.le_refl _)).2.2 j) 2 rfl (by decide) (by decide) (by decide) (Nat.le_of_ble_eq_true rfl) (Nat.le_of_ble_eq_true rfl) dX7_init_48 (fun h8 H e8 hW => ?_)
  rw [← e8 0 (by show 0 < 21; omega)] at hl
  rw [← e8 0 (by show 0 < 21; omega)]
  have hW : sv_W D T (A) s h8 (22, sp_sh) (xs7) H locs := hW
  have hn := sv_nw_A hn g21
  have hn : sv_nw (22, sp_sh) xs7 := hn
  refine sv_putFP (j := 21) (i := 0) (own := RX7) (C := RX7) (Tf := TX7) (N := 10) (index := 34) (ks := pkX7) hx hb hts hown hK hW (fun _ h => List.mem_cons_of_mem _ (List.mem_append_left _ (List.mem_append_left _ (List.mem_append_left _ (List.mem_append_left _ (List.mem_append_left _ (List.mem_append_right _ h))))))) tyX7 tyX7_ok nmX7 (by show 0 < 22; omega) g0 rfl 6 (by decide) rfl rfl hin rfl (ty := .array (.object "OpenWhileItRains$Row")) (by decide +kernel) (fun _ => rfl) (fun _ => rfl) (List.mem_of_getElem? (i := 16) rfl) dX7_init_51 (fun H locs hW => ?_)
  have hn := sv_nw_P (k := 6) hn (by show 0 < 22; omega) (by show 21 < 22; omega)
  have hW : sv_W D T A s h8 (22, sp_sh) xs8 H locs := hW
  have hn : sv_nw (22, sp_sh) xs8 := hn
  refine lv_aload_n hx hb dX7_init_54 rfl (lv_at hl 0 rfl) ?_
  refine sv_newO (own := RX7) (C := RX0) (Tf := TX0) (N := 4) (ci := 0) (ks := pkX0) (fs := [.null, .int 0, .null, .int 0]) hx hb hts (fun _ h => List.mem_cons_of_mem _ (List.mem_append_left _ (List.mem_append_left _ (List.mem_append_left _ (List.mem_append_right _ h))))) tyX0 tyX0_ok hown (hts _ (List.mem_of_getElem? (i := 17) rfl)) (hts _ (List.mem_of_getElem? (i := 18) rfl)) (hts _ (List.mem_of_getElem? (i := 19) rfl)) hK hW hA rfl g22 (by show 22 < 1000; omega) hn.1 (fun j hj => by revert j; decide) (fun h' => by obtain ⟨z1, z2, z3⟩ := hn.2 22 (Nat.le_refl _); simp only [sv_vals, sv_val, z1, z2, z3, Option.map_none, va_rf]) (Nat.le_of_ble_eq_true rfl) (Nat.le_of_ble_eq_true rfl) dX7_init_55 (fun h9 H e9 hW => ?_)
  rw [← e9 0 (by show 0 < 22; omega)] at hl
  rw [← e9 0 (by show 0 < 22; omega)]
  have hW : sv_W D T (A) s h9 (23, sp_sh) (xs8) H locs := hW
  have hn := sv_nw_O hn g22 (by decide)
  have hn : sv_nw (23, sp_sh) xs8 := hn
  refine lv_dup hx hb dX7_init_58 rfl ?_
  refine sv_goVG (n' := 24) (σ' := xp_X0 xs8 22 23) hW hA (sv_runING (i := 22) (own := RX7) (host := "OpenWhileItRains") F hW (k_X0_init sx_XP2 (θ := (23, sp_sh)) (kc := 22) (by show 23 ≤ 900; omega) (by show 22 < 23; omega) g22 g23 hn H.size) gX7_init_X0_init_n40 rfl ⟨rfl, rfl⟩ 0 (List.mem_of_getElem? (i := 19) rfl) (F.2.2.1.1.1 _ (List.mem_of_getElem? (i := 2) rfl)) (List.mem_of_getElem? (i := 47) rfl) rfl (by decide +kernel) ⟨Nat.le_of_ble_eq_true rfl, Nat.le_of_ble_eq_true rfl⟩ rfl hl.1 rfl (Nat.le_of_ble_eq_true rfl) dX7_init_59 ⟨Nat.le_of_ble_eq_true rfl, Nat.le_of_ble_eq_true rfl⟩) (fun h10 H locs e10 hW => ?_)
  rw [← e10 0 (by show 0 < 23; omega)] at hl
  rw [← e10 22 (by show 22 < 23; omega)]
  rw [← e10 0 (by show 0 < 23; omega)]
  have hW : sv_W D T (A) s h10 (24, sp_sh) (xp_X0 xs8 22 23) H locs := hW
  have hn : sv_nw (24, sp_sh) (xp_X0 xs8 22 23) := nw_X0_init (θ := (23, sp_sh)) (kc := 22) (by show 22 < 23; omega) g23 hn
  have hW : sv_W D T A s h10 (24, sp_sh) xs9 H locs := hW
  have hn : sv_nw (24, sp_sh) xs9 := hn
  refine sv_putFP (j := 22) (i := 0) (own := RX7) (C := RX7) (Tf := TX7) (N := 10) (index := 41) (ks := pkX7) hx hb hts hown hK hW (fun _ h => List.mem_cons_of_mem _ (List.mem_append_left _ (List.mem_append_left _ (List.mem_append_left _ (List.mem_append_left _ (List.mem_append_left _ (List.mem_append_right _ h))))))) tyX7 tyX7_ok nmX7 (by show 0 < 24; omega) g0 rfl 7 (by decide) rfl rfl hin rfl (ty := .object "OpenWhileItRains$Case") (by decide +kernel) (fun _ => rfl) (fun _ => rfl) (List.mem_of_getElem? (i := 20) rfl) dX7_init_62 (fun H locs hW => ?_)
  have hn := sv_nw_P (k := 7) hn (by show 0 < 24; omega) (by show 22 < 24; omega)
  have hW : sv_W D T A s h10 (24, sp_sh) xs10 H locs := hW
  have hn : sv_nw (24, sp_sh) xs10 := hn
  refine lv_aload_n hx hb dX7_init_65 rfl (lv_at hl 0 rfl) ?_
  refine sv_newO (own := RX7) (C := RX3) (Tf := TX3) (N := 17) (ci := 2) (ks := pkX3) (fs := [.null, .null, .null, .int 0, .int 0, .int 0, .int 0, .null, .null, .null, .null, .int 0, .int 0, .int 0, .int 0, .int 0, .int 0]) hx hb hts (fun _ h => List.mem_cons_of_mem _ (List.mem_append_left _ (List.mem_append_left _ (List.mem_append_right _ h)))) tyX3 tyX3_ok hown (hts _ (List.mem_of_getElem? (i := 21) rfl)) (hts _ (List.mem_of_getElem? (i := 22) rfl)) (hts _ (List.mem_of_getElem? (i := 23) rfl)) hK hW hA rfl g24 (by show 24 < 1000; omega) hn.1 (fun j hj => by revert j; decide) (fun h' => by obtain ⟨z1, z2, z3⟩ := hn.2 24 (Nat.le_refl _); simp only [sv_vals, sv_val, z1, z2, z3, Option.map_none, va_rf]) (Nat.le_of_ble_eq_true rfl) (Nat.le_of_ble_eq_true rfl) dX7_init_66 (fun h11 H e11 hW => ?_)
  rw [← e11 0 (by show 0 < 24; omega)] at hl
  rw [← e11 0 (by show 0 < 24; omega)]
  have hW : sv_W D T (A) s h11 (25, sp_sh) (xs10) H locs := hW
  have hn := sv_nw_O hn g24 (by decide)
  have hn : sv_nw (25, sp_sh) xs10 := hn
  refine lv_dup hx hb dX7_init_69 rfl ?_
  refine sv_goVG (n' := 33) (σ' := xp_X3 xs10 24 25) hW hA (sv_runING (i := 24) (own := RX7) (host := "OpenWhileItRains") F hW (k_X3_init (θ := (25, sp_sh)) (kc := 24) (by show 25 ≤ 880; omega) (by show 24 < 25; omega) g24 g25 g26 g27 g28 g29 g30 g31 g32 hn H.size) gX7_init_X3_init_n47 rfl ⟨rfl, rfl⟩ 0 (List.mem_of_getElem? (i := 23) rfl) (F.2.2.1.1.1 _ (List.mem_of_getElem? (i := 3) rfl)) (List.mem_of_getElem? (i := 51) rfl) rfl (by decide +kernel) ⟨Nat.le_of_ble_eq_true rfl, Nat.le_of_ble_eq_true rfl⟩ rfl hl.1 rfl (Nat.le_of_ble_eq_true rfl) dX7_init_70 ⟨Nat.le_of_ble_eq_true rfl, Nat.le_of_ble_eq_true rfl⟩) (fun h12 H locs e12 hW => ?_)
  rw [← e12 0 (by show 0 < 25; omega)] at hl
  rw [← e12 24 (by show 24 < 25; omega)]
  rw [← e12 0 (by show 0 < 25; omega)]
  have hW : sv_W D T (A) s h12 (33, sp_sh) (xp_X3 xs10 24 25) H locs := hW
  have hn : sv_nw (33, sp_sh) (xp_X3 xs10 24 25) := nw_X3_init (θ := (25, sp_sh)) (kc := 24) (by show 24 < 25; omega) g25 g26 g27 g28 g29 g30 g31 g32 hn
  have hW : sv_W D T A s h12 (33, sp_sh) xs11 H locs := hW
  have hn : sv_nw (33, sp_sh) xs11 := hn
  refine sv_putFP (j := 24) (i := 0) (own := RX7) (C := RX7) (Tf := TX7) (N := 10) (index := 48) (ks := pkX7) hx hb hts hown hK hW (fun _ h => List.mem_cons_of_mem _ (List.mem_append_left _ (List.mem_append_left _ (List.mem_append_left _ (List.mem_append_left _ (List.mem_append_left _ (List.mem_append_right _ h))))))) tyX7 tyX7_ok nmX7 (by show 0 < 33; omega) g0 rfl 8 (by decide) rfl rfl hin rfl (ty := .object "OpenWhileItRains$Plan") (by decide +kernel) (fun _ => rfl) (fun _ => rfl) (List.mem_of_getElem? (i := 24) rfl) dX7_init_73 (fun H locs hW => ?_)
  have hn := sv_nw_P (k := 8) hn (by show 0 < 33; omega) (by show 24 < 33; omega)
  have hW : sv_W D T A s h12 (33, sp_sh) xs12 H locs := hW
  have hn : sv_nw (33, sp_sh) xs12 := hn
  refine lv_aload_n hx hb dX7_init_76 rfl (lv_at hl 0 rfl) ?_
  refine lv_bipush (v := 48) hx hb dX7_init_77 (by decide) ?_
  refine sv_newI hx hb (hts _ (List.mem_of_getElem? (i := 25) rfl)) hK hW hA (L := 48) g33 (by show 33 < 1000; omega) hn.1 (fun j => (hn.2 _ (Nat.le_refl _)).1 j) 0 rfl (by decide) (by decide) (by decide) (Nat.le_of_ble_eq_true rfl) (Nat.le_of_ble_eq_true rfl) dX7_init_79 (fun h13 H e13 hW => ?_)
  rw [← e13 0 (by show 0 < 33; omega)] at hl
  rw [← e13 0 (by show 0 < 33; omega)]
  have hW : sv_W D T (A) s h13 (34, sp_sh) (xs12) H locs := hW
  have hn := sv_nw_A hn g33
  have hn : sv_nw (34, sp_sh) xs12 := hn
  refine sv_putFP (j := 33) (i := 0) (own := RX7) (C := RX7) (Tf := TX7) (N := 10) (index := 52) (ks := pkX7) hx hb hts hown hK hW (fun _ h => List.mem_cons_of_mem _ (List.mem_append_left _ (List.mem_append_left _ (List.mem_append_left _ (List.mem_append_left _ (List.mem_append_left _ (List.mem_append_right _ h))))))) tyX7 tyX7_ok nmX7 (by show 0 < 34; omega) g0 rfl 9 (by decide) rfl rfl hin rfl (ty := .array .int) (by decide +kernel) (fun _ => rfl) (fun _ => rfl) (List.mem_of_getElem? (i := 26) rfl) dX7_init_81 (fun H locs hW => ?_)
  have hn := sv_nw_P (k := 9) hn (by show 0 < 34; omega) (by show 33 < 34; omega)
  have hW : sv_W D T A s h13 (34, sp_sh) xs13 H locs := hW
  have hn : sv_nw (34, sp_sh) xs13 := hn
  refine lv_iconst (v := 0) hx hb dX7_init_84 (by decide) ?_
  refine lv_istore_n (lv' := [(1, .int 0), (0, .ref (h13 0))]) hx hb dX7_init_85 rfl hl (by decide) rfl (fun ls hl => ?_)
  refine lv_iload_n hx hb dX7_init_86 rfl (lv_at hl 0 rfl) ?_
  refine lv_aload_n hx hb dX7_init_87 rfl (lv_at hl 1 rfl) ?_
  refine sv_get (i := 0) (own := RX7) (C := RX7) (Tf := TX7) (N := 10) (index := 34) (κ := (2, 0)) (v := .ref (h13 21)) hx hb hts hown hK hW (fun _ h => List.mem_cons_of_mem _ (List.mem_append_left _ (List.mem_append_left _ (List.mem_append_left _ (List.mem_append_left _ (List.mem_append_left _ (List.mem_append_right _ h))))))) (by show 0 < 34; omega) g0 rfl 6 (by decide) rfl rfl (List.mem_of_getElem? (i := 16) rfl) dX7_init_88 ?_
  refine sv_alen (t := 3) (v := (4 : Int32)) hx hb hK hW (a := 21) (by show 21 < 34; omega) g21 2 rfl rfl dX7_init_91 ?_
  refine lv_icmp_ge (tgt := 114) hx hb dX7_init_92 (by decide) (fun q => absurd q (by decide)) (fun _ => ?_)
  refine lv_aload_n hx hb dX7_init_95 rfl (lv_at hl 1 rfl) ?_
  refine sv_get (i := 0) (own := RX7) (C := RX7) (Tf := TX7) (N := 10) (index := 34) (κ := (2, 0)) (v := .ref (h13 21)) hx hb hts hown hK hW (fun _ h => List.mem_cons_of_mem _ (List.mem_append_left _ (List.mem_append_left _ (List.mem_append_left _ (List.mem_append_left _ (List.mem_append_left _ (List.mem_append_right _ h))))))) (by show 0 < 34; omega) g0 rfl 6 (by decide) rfl rfl (List.mem_of_getElem? (i := 16) rfl) dX7_init_96 ?_
  refine lv_iload_n hx hb dX7_init_99 rfl (lv_at hl 0 rfl) ?_
  refine sv_newO (own := RX7) (C := RX5) (Tf := TX5) (N := 3) (ci := 4) (ks := pkX5) (fs := [.null, .int 0, .int 0]) hx hb hts (fun _ h => List.mem_cons_of_mem _ (List.mem_append_left _ (List.mem_append_right _ h))) tyX5 tyX5_ok hown (hts _ (List.mem_of_getElem? (i := 15) rfl)) (hts _ (List.mem_of_getElem? (i := 27) rfl)) (hts _ (List.mem_of_getElem? (i := 28) rfl)) hK hW hA rfl g34 (by show 34 < 1000; omega) hn.1 (fun j hj => by revert j; decide) (fun h' => by obtain ⟨z1, z2, z3⟩ := hn.2 34 (Nat.le_refl _); simp only [sv_vals, sv_val, z1, z2, z3, Option.map_none, va_rf]) (Nat.le_of_ble_eq_true rfl) (Nat.le_of_ble_eq_true rfl) dX7_init_100 (fun h14 H e14 hW => ?_)
  rw [← e14 0 (by show 0 < 34; omega)] at hl
  rw [← e14 21 (by show 21 < 34; omega)]
  have hW : sv_W D T (A) s h14 (35, sp_sh) (xs13) H locs := hW
  have hn := sv_nw_O hn g34 (by decide)
  have hn : sv_nw (35, sp_sh) xs13 := hn
  refine lv_dup hx hb dX7_init_103 rfl ?_
  refine sv_goVG (n' := 36) (σ' := xp_X5 xs13 34 35) hW hA (sv_runING (i := 34) (own := RX7) (host := "OpenWhileItRains") F hW (k_X5_init sx_XP2 (θ := (35, sp_sh)) (kc := 34) (by show 35 ≤ 900; omega) (by show 34 < 35; omega) g34 g35 hn H.size) gX7_init_X5_init_n56 rfl ⟨rfl, rfl⟩ 0 (List.mem_of_getElem? (i := 28) rfl) (F.2.2.1.1.1 _ (List.mem_of_getElem? (i := 5) rfl)) (List.mem_of_getElem? (i := 62) rfl) rfl (by decide +kernel) ⟨Nat.le_of_ble_eq_true rfl, Nat.le_of_ble_eq_true rfl⟩ rfl hl.1 rfl (Nat.le_of_ble_eq_true rfl) dX7_init_104 ⟨Nat.le_of_ble_eq_true rfl, Nat.le_of_ble_eq_true rfl⟩) (fun h15 H locs e15 hW => ?_)
  rw [← e15 0 (by show 0 < 35; omega)] at hl
  rw [← e15 34 (by show 34 < 35; omega)]
  rw [← e15 21 (by show 21 < 35; omega)]
  have hW : sv_W D T (A) s h15 (36, sp_sh) (xp_X5 xs13 34 35) H locs := hW
  have hn : sv_nw (36, sp_sh) (xp_X5 xs13 34 35) := nw_X5_init (θ := (35, sp_sh)) (kc := 34) (by show 34 < 35; omega) g35 hn
  have hW : sv_W D T A s h15 (36, sp_sh) xs14 H locs := hW
  have hn : sv_nw (36, sp_sh) xs14 := hn
  refine sv_aast (a := 21) (b := 34) (t := 1) (r := (RX5, TX5, 3)) (ci := 4) (ks := pkX5) hx hb hK hW (by show 21 < 36; omega) g21 2 rfl (by show 34 < 36; omega) g34 rfl (x := 0) (by decide) dX7_init_107 (fun σz H locs eσz hW => ?_)
  subst eσz
  have hn := sv_nw_P (i := 21) (k := 0) (j := 34) hn (by show 21 < 36; omega) (by show 34 < 36; omega)
  have hW : sv_W D T A s h15 (36, sp_sh) xs15 H locs := hW
  have hn : sv_nw (36, sp_sh) xs15 := hn
  refine lv_iinc (v := 1) (lv' := [(1, .int 1), (0, .ref (h15 0))]) hx hb dX7_init_108 hl (k := 0) rfl rfl (by decide) rfl (fun ls hl => ?_)
  refine lv_goto (tgt := 86) hx hb dX7_init_111 (by decide) ?_
  refine lv_iload_n hx hb dX7_init_86 rfl (lv_at hl 0 rfl) ?_
  refine lv_aload_n hx hb dX7_init_87 rfl (lv_at hl 1 rfl) ?_
  refine sv_get (i := 0) (own := RX7) (C := RX7) (Tf := TX7) (N := 10) (index := 34) (κ := (2, 0)) (v := .ref (h15 21)) hx hb hts hown hK hW (fun _ h => List.mem_cons_of_mem _ (List.mem_append_left _ (List.mem_append_left _ (List.mem_append_left _ (List.mem_append_left _ (List.mem_append_left _ (List.mem_append_right _ h))))))) (by show 0 < 36; omega) g0 rfl 6 (by decide) rfl rfl (List.mem_of_getElem? (i := 16) rfl) dX7_init_88 ?_
  refine sv_alen (t := 3) (v := (4 : Int32)) hx hb hK hW (a := 21) (by show 21 < 36; omega) g21 2 rfl rfl dX7_init_91 ?_
  refine lv_icmp_ge (tgt := 114) hx hb dX7_init_92 (by decide) (fun q => absurd q (by decide)) (fun _ => ?_)
  refine lv_aload_n hx hb dX7_init_95 rfl (lv_at hl 1 rfl) ?_
  refine sv_get (i := 0) (own := RX7) (C := RX7) (Tf := TX7) (N := 10) (index := 34) (κ := (2, 0)) (v := .ref (h15 21)) hx hb hts hown hK hW (fun _ h => List.mem_cons_of_mem _ (List.mem_append_left _ (List.mem_append_left _ (List.mem_append_left _ (List.mem_append_left _ (List.mem_append_left _ (List.mem_append_right _ h))))))) (by show 0 < 36; omega) g0 rfl 6 (by decide) rfl rfl (List.mem_of_getElem? (i := 16) rfl) dX7_init_96 ?_
  refine lv_iload_n hx hb dX7_init_99 rfl (lv_at hl 0 rfl) ?_
  refine sv_newO (own := RX7) (C := RX5) (Tf := TX5) (N := 3) (ci := 4) (ks := pkX5) (fs := [.null, .int 0, .int 0]) hx hb hts (fun _ h => List.mem_cons_of_mem _ (List.mem_append_left _ (List.mem_append_right _ h))) tyX5 tyX5_ok hown (hts _ (List.mem_of_getElem? (i := 15) rfl)) (hts _ (List.mem_of_getElem? (i := 27) rfl)) (hts _ (List.mem_of_getElem? (i := 28) rfl)) hK hW hA rfl g36 (by show 36 < 1000; omega) hn.1 (fun j hj => by revert j; decide) (fun h' => by obtain ⟨z1, z2, z3⟩ := hn.2 36 (Nat.le_refl _); simp only [sv_vals, sv_val, z1, z2, z3, Option.map_none, va_rf]) (Nat.le_of_ble_eq_true rfl) (Nat.le_of_ble_eq_true rfl) dX7_init_100 (fun h16 H e16 hW => ?_)
  rw [← e16 0 (by show 0 < 36; omega)] at hl
  rw [← e16 21 (by show 21 < 36; omega)]
  have hW : sv_W D T (A) s h16 (37, sp_sh) (xs15) H locs := hW
  have hn := sv_nw_O hn g36 (by decide)
  have hn : sv_nw (37, sp_sh) xs15 := hn
  refine lv_dup hx hb dX7_init_103 rfl ?_
  refine sv_goVG (n' := 38) (σ' := xp_X5 xs15 36 37) hW hA (sv_runING (i := 36) (own := RX7) (host := "OpenWhileItRains") F hW (k_X5_init sx_XP2 (θ := (37, sp_sh)) (kc := 36) (by show 37 ≤ 900; omega) (by show 36 < 37; omega) g36 g37 hn H.size) gX7_init_X5_init_n56 rfl ⟨rfl, rfl⟩ 0 (List.mem_of_getElem? (i := 28) rfl) (F.2.2.1.1.1 _ (List.mem_of_getElem? (i := 5) rfl)) (List.mem_of_getElem? (i := 62) rfl) rfl (by decide +kernel) ⟨Nat.le_of_ble_eq_true rfl, Nat.le_of_ble_eq_true rfl⟩ rfl hl.1 rfl (Nat.le_of_ble_eq_true rfl) dX7_init_104 ⟨Nat.le_of_ble_eq_true rfl, Nat.le_of_ble_eq_true rfl⟩) (fun h17 H locs e17 hW => ?_)
  rw [← e17 0 (by show 0 < 37; omega)] at hl
  rw [← e17 36 (by show 36 < 37; omega)]
  rw [← e17 21 (by show 21 < 37; omega)]
  have hW : sv_W D T (A) s h17 (38, sp_sh) (xp_X5 xs15 36 37) H locs := hW
  have hn : sv_nw (38, sp_sh) (xp_X5 xs15 36 37) := nw_X5_init (θ := (37, sp_sh)) (kc := 36) (by show 36 < 37; omega) g37 hn
  have hW : sv_W D T A s h17 (38, sp_sh) xs16 H locs := hW
  have hn : sv_nw (38, sp_sh) xs16 := hn
  refine sv_aast (a := 21) (b := 36) (t := 1) (r := (RX5, TX5, 3)) (ci := 4) (ks := pkX5) hx hb hK hW (by show 21 < 38; omega) g21 2 rfl (by show 36 < 38; omega) g36 rfl (x := 1) (by decide) dX7_init_107 (fun σz H locs eσz hW => ?_)
  subst eσz
  have hn := sv_nw_P (i := 21) (k := 1) (j := 36) hn (by show 21 < 38; omega) (by show 36 < 38; omega)
  have hW : sv_W D T A s h17 (38, sp_sh) xs17 H locs := hW
  have hn : sv_nw (38, sp_sh) xs17 := hn
  refine lv_iinc (v := 2) (lv' := [(1, .int 2), (0, .ref (h17 0))]) hx hb dX7_init_108 hl (k := 0) rfl rfl (by decide) rfl (fun ls hl => ?_)
  refine lv_goto (tgt := 86) hx hb dX7_init_111 (by decide) ?_
  refine lv_iload_n hx hb dX7_init_86 rfl (lv_at hl 0 rfl) ?_
  refine lv_aload_n hx hb dX7_init_87 rfl (lv_at hl 1 rfl) ?_
  refine sv_get (i := 0) (own := RX7) (C := RX7) (Tf := TX7) (N := 10) (index := 34) (κ := (2, 0)) (v := .ref (h17 21)) hx hb hts hown hK hW (fun _ h => List.mem_cons_of_mem _ (List.mem_append_left _ (List.mem_append_left _ (List.mem_append_left _ (List.mem_append_left _ (List.mem_append_left _ (List.mem_append_right _ h))))))) (by show 0 < 38; omega) g0 rfl 6 (by decide) rfl rfl (List.mem_of_getElem? (i := 16) rfl) dX7_init_88 ?_
  refine sv_alen (t := 3) (v := (4 : Int32)) hx hb hK hW (a := 21) (by show 21 < 38; omega) g21 2 rfl rfl dX7_init_91 ?_
  refine lv_icmp_ge (tgt := 114) hx hb dX7_init_92 (by decide) (fun q => absurd q (by decide)) (fun _ => ?_)
  refine lv_aload_n hx hb dX7_init_95 rfl (lv_at hl 1 rfl) ?_
  refine sv_get (i := 0) (own := RX7) (C := RX7) (Tf := TX7) (N := 10) (index := 34) (κ := (2, 0)) (v := .ref (h17 21)) hx hb hts hown hK hW (fun _ h => List.mem_cons_of_mem _ (List.mem_append_left _ (List.mem_append_left _ (List.mem_append_left _ (List.mem_append_left _ (List.mem_append_left _ (List.mem_append_right _ h))))))) (by show 0 < 38; omega) g0 rfl 6 (by decide) rfl rfl (List.mem_of_getElem? (i := 16) rfl) dX7_init_96 ?_
  refine lv_iload_n hx hb dX7_init_99 rfl (lv_at hl 0 rfl) ?_
  refine sv_newO (own := RX7) (C := RX5) (Tf := TX5) (N := 3) (ci := 4) (ks := pkX5) (fs := [.null, .int 0, .int 0]) hx hb hts (fun _ h => List.mem_cons_of_mem _ (List.mem_append_left _ (List.mem_append_right _ h))) tyX5 tyX5_ok hown (hts _ (List.mem_of_getElem? (i := 15) rfl)) (hts _ (List.mem_of_getElem? (i := 27) rfl)) (hts _ (List.mem_of_getElem? (i := 28) rfl)) hK hW hA rfl g38 (by show 38 < 1000; omega) hn.1 (fun j hj => by revert j; decide) (fun h' => by obtain ⟨z1, z2, z3⟩ := hn.2 38 (Nat.le_refl _); simp only [sv_vals, sv_val, z1, z2, z3, Option.map_none, va_rf]) (Nat.le_of_ble_eq_true rfl) (Nat.le_of_ble_eq_true rfl) dX7_init_100 (fun h18 H e18 hW => ?_)
  rw [← e18 0 (by show 0 < 38; omega)] at hl
  rw [← e18 21 (by show 21 < 38; omega)]
  have hW : sv_W D T (A) s h18 (39, sp_sh) (xs17) H locs := hW
  have hn := sv_nw_O hn g38 (by decide)
  have hn : sv_nw (39, sp_sh) xs17 := hn
  refine lv_dup hx hb dX7_init_103 rfl ?_
  refine sv_goVG (n' := 40) (σ' := xp_X5 xs17 38 39) hW hA (sv_runING (i := 38) (own := RX7) (host := "OpenWhileItRains") F hW (k_X5_init sx_XP2 (θ := (39, sp_sh)) (kc := 38) (by show 39 ≤ 900; omega) (by show 38 < 39; omega) g38 g39 hn H.size) gX7_init_X5_init_n56 rfl ⟨rfl, rfl⟩ 0 (List.mem_of_getElem? (i := 28) rfl) (F.2.2.1.1.1 _ (List.mem_of_getElem? (i := 5) rfl)) (List.mem_of_getElem? (i := 62) rfl) rfl (by decide +kernel) ⟨Nat.le_of_ble_eq_true rfl, Nat.le_of_ble_eq_true rfl⟩ rfl hl.1 rfl (Nat.le_of_ble_eq_true rfl) dX7_init_104 ⟨Nat.le_of_ble_eq_true rfl, Nat.le_of_ble_eq_true rfl⟩) (fun h19 H locs e19 hW => ?_)
  rw [← e19 0 (by show 0 < 39; omega)] at hl
  rw [← e19 38 (by show 38 < 39; omega)]
  rw [← e19 21 (by show 21 < 39; omega)]
  have hW : sv_W D T (A) s h19 (40, sp_sh) (xp_X5 xs17 38 39) H locs := hW
  have hn : sv_nw (40, sp_sh) (xp_X5 xs17 38 39) := nw_X5_init (θ := (39, sp_sh)) (kc := 38) (by show 38 < 39; omega) g39 hn
  have hW : sv_W D T A s h19 (40, sp_sh) xs18 H locs := hW
  have hn : sv_nw (40, sp_sh) xs18 := hn
  refine sv_aast (a := 21) (b := 38) (t := 1) (r := (RX5, TX5, 3)) (ci := 4) (ks := pkX5) hx hb hK hW (by show 21 < 40; omega) g21 2 rfl (by show 38 < 40; omega) g38 rfl (x := 2) (by decide) dX7_init_107 (fun σz H locs eσz hW => ?_)
  subst eσz
  have hn := sv_nw_P (i := 21) (k := 2) (j := 38) hn (by show 21 < 40; omega) (by show 38 < 40; omega)
  have hW : sv_W D T A s h19 (40, sp_sh) xs19 H locs := hW
  have hn : sv_nw (40, sp_sh) xs19 := hn
  refine lv_iinc (v := 3) (lv' := [(1, .int 3), (0, .ref (h19 0))]) hx hb dX7_init_108 hl (k := 0) rfl rfl (by decide) rfl (fun ls hl => ?_)
  refine lv_goto (tgt := 86) hx hb dX7_init_111 (by decide) ?_
  refine lv_iload_n hx hb dX7_init_86 rfl (lv_at hl 0 rfl) ?_
  refine lv_aload_n hx hb dX7_init_87 rfl (lv_at hl 1 rfl) ?_
  refine sv_get (i := 0) (own := RX7) (C := RX7) (Tf := TX7) (N := 10) (index := 34) (κ := (2, 0)) (v := .ref (h19 21)) hx hb hts hown hK hW (fun _ h => List.mem_cons_of_mem _ (List.mem_append_left _ (List.mem_append_left _ (List.mem_append_left _ (List.mem_append_left _ (List.mem_append_left _ (List.mem_append_right _ h))))))) (by show 0 < 40; omega) g0 rfl 6 (by decide) rfl rfl (List.mem_of_getElem? (i := 16) rfl) dX7_init_88 ?_
  refine sv_alen (t := 3) (v := (4 : Int32)) hx hb hK hW (a := 21) (by show 21 < 40; omega) g21 2 rfl rfl dX7_init_91 ?_
  refine lv_icmp_ge (tgt := 114) hx hb dX7_init_92 (by decide) (fun q => absurd q (by decide)) (fun _ => ?_)
  refine lv_aload_n hx hb dX7_init_95 rfl (lv_at hl 1 rfl) ?_
  refine sv_get (i := 0) (own := RX7) (C := RX7) (Tf := TX7) (N := 10) (index := 34) (κ := (2, 0)) (v := .ref (h19 21)) hx hb hts hown hK hW (fun _ h => List.mem_cons_of_mem _ (List.mem_append_left _ (List.mem_append_left _ (List.mem_append_left _ (List.mem_append_left _ (List.mem_append_left _ (List.mem_append_right _ h))))))) (by show 0 < 40; omega) g0 rfl 6 (by decide) rfl rfl (List.mem_of_getElem? (i := 16) rfl) dX7_init_96 ?_
  refine lv_iload_n hx hb dX7_init_99 rfl (lv_at hl 0 rfl) ?_
  refine sv_newO (own := RX7) (C := RX5) (Tf := TX5) (N := 3) (ci := 4) (ks := pkX5) (fs := [.null, .int 0, .int 0]) hx hb hts (fun _ h => List.mem_cons_of_mem _ (List.mem_append_left _ (List.mem_append_right _ h))) tyX5 tyX5_ok hown (hts _ (List.mem_of_getElem? (i := 15) rfl)) (hts _ (List.mem_of_getElem? (i := 27) rfl)) (hts _ (List.mem_of_getElem? (i := 28) rfl)) hK hW hA rfl g40 (by show 40 < 1000; omega) hn.1 (fun j hj => by revert j; decide) (fun h' => by obtain ⟨z1, z2, z3⟩ := hn.2 40 (Nat.le_refl _); simp only [sv_vals, sv_val, z1, z2, z3, Option.map_none, va_rf]) (Nat.le_of_ble_eq_true rfl) (Nat.le_of_ble_eq_true rfl) dX7_init_100 (fun h20 H e20 hW => ?_)
  rw [← e20 0 (by show 0 < 40; omega)] at hl
  rw [← e20 21 (by show 21 < 40; omega)]
  have hW : sv_W D T (A) s h20 (41, sp_sh) (xs19) H locs := hW
  have hn := sv_nw_O hn g40 (by decide)
  have hn : sv_nw (41, sp_sh) xs19 := hn
  refine lv_dup hx hb dX7_init_103 rfl ?_
  refine sv_goVG (n' := 42) (σ' := xp_X5 xs19 40 41) hW hA (sv_runING (i := 40) (own := RX7) (host := "OpenWhileItRains") F hW (k_X5_init sx_XP2 (θ := (41, sp_sh)) (kc := 40) (by show 41 ≤ 900; omega) (by show 40 < 41; omega) g40 g41 hn H.size) gX7_init_X5_init_n56 rfl ⟨rfl, rfl⟩ 0 (List.mem_of_getElem? (i := 28) rfl) (F.2.2.1.1.1 _ (List.mem_of_getElem? (i := 5) rfl)) (List.mem_of_getElem? (i := 62) rfl) rfl (by decide +kernel) ⟨Nat.le_of_ble_eq_true rfl, Nat.le_of_ble_eq_true rfl⟩ rfl hl.1 rfl (Nat.le_of_ble_eq_true rfl) dX7_init_104 ⟨Nat.le_of_ble_eq_true rfl, Nat.le_of_ble_eq_true rfl⟩) (fun h21 H locs e21 hW => ?_)
  rw [← e21 0 (by show 0 < 41; omega)] at hl
  rw [← e21 40 (by show 40 < 41; omega)]
  rw [← e21 21 (by show 21 < 41; omega)]
  have hW : sv_W D T (A) s h21 (42, sp_sh) (xp_X5 xs19 40 41) H locs := hW
  have hn : sv_nw (42, sp_sh) (xp_X5 xs19 40 41) := nw_X5_init (θ := (41, sp_sh)) (kc := 40) (by show 40 < 41; omega) g41 hn
  have hW : sv_W D T A s h21 (42, sp_sh) xs20 H locs := hW
  have hn : sv_nw (42, sp_sh) xs20 := hn
  refine sv_aast (a := 21) (b := 40) (t := 1) (r := (RX5, TX5, 3)) (ci := 4) (ks := pkX5) hx hb hK hW (by show 21 < 42; omega) g21 2 rfl (by show 40 < 42; omega) g40 rfl (x := 3) (by decide) dX7_init_107 (fun σz H locs eσz hW => ?_)
  subst eσz
  have hn := sv_nw_P (i := 21) (k := 3) (j := 40) hn (by show 21 < 42; omega) (by show 40 < 42; omega)
  have hW : sv_W D T A s h21 (42, sp_sh) xs21 H locs := hW
  have hn : sv_nw (42, sp_sh) xs21 := hn
  refine lv_iinc (v := 4) (lv' := [(1, .int 4), (0, .ref (h21 0))]) hx hb dX7_init_108 hl (k := 0) rfl rfl (by decide) rfl (fun ls hl => ?_)
  refine lv_goto (tgt := 86) hx hb dX7_init_111 (by decide) ?_
  refine lv_iload_n hx hb dX7_init_86 rfl (lv_at hl 0 rfl) ?_
  refine lv_aload_n hx hb dX7_init_87 rfl (lv_at hl 1 rfl) ?_
  refine sv_get (i := 0) (own := RX7) (C := RX7) (Tf := TX7) (N := 10) (index := 34) (κ := (2, 0)) (v := .ref (h21 21)) hx hb hts hown hK hW (fun _ h => List.mem_cons_of_mem _ (List.mem_append_left _ (List.mem_append_left _ (List.mem_append_left _ (List.mem_append_left _ (List.mem_append_left _ (List.mem_append_right _ h))))))) (by show 0 < 42; omega) g0 rfl 6 (by decide) rfl rfl (List.mem_of_getElem? (i := 16) rfl) dX7_init_88 ?_
  refine sv_alen (t := 3) (v := (4 : Int32)) hx hb hK hW (a := 21) (by show 21 < 42; omega) g21 2 rfl rfl dX7_init_91 ?_
  refine lv_icmp_ge (tgt := 114) hx hb dX7_init_92 (by decide) (fun _ => ?_) (fun q => absurd (show (4 : Int32) ≤ 4 by decide) q)
  exact kk h21 ls H locs (by rw [e21 0 (by show 0 < 41; omega), e20 0 (by show 0 < 40; omega), e19 0 (by show 0 < 39; omega), e18 0 (by show 0 < 38; omega), e17 0 (by show 0 < 37; omega), e16 0 (by show 0 < 36; omega), e15 0 (by show 0 < 35; omega), e14 0 (by show 0 < 34; omega), e13 0 (by show 0 < 33; omega), e12 0 (by show 0 < 25; omega), e11 0 (by show 0 < 24; omega), e10 0 (by show 0 < 23; omega), e9 0 (by show 0 < 22; omega), e8 0 (by show 0 < 21; omega), e7 0 (by show 0 < 20; omega), e6 0 (by show 0 < 14; omega), e5 0 (by show 0 < 13; omega), e4 0 (by show 0 < 8; omega), e3 0 (by show 0 < 7; omega), e2 0 (by show 0 < 2; omega), e1 0 (by show 0 < 1; omega)]) hl hW
end CX7

/-! ===== constructors: Plan, Text ===== -/
def xp_X3 (σ : sv_S) (kc n : Nat) : sv_S := sv_sP (sv_sP (sv_sP (sv_sP (sv_sP (sv_sP (sv_sP (xp_X0 (σ) n (n + 1)) kc 0 (some n)) kc 1 (some (n + 2))) kc 2 (some (n + 3))) kc 7 (some (n + 4))) kc 8 (some (n + 5))) kc 9 (some (n + 6))) kc 10 (some (n + 7))
theorem nw_X3_init {θ : sv_T} {σ : sv_S} {kc : Nat} (hk : kc < θ.1) (gO : θ.2 θ.1 = .inl (0, pkX0)) (gN : θ.2 (θ.1 + 1) = .inr (0, 6)) (g0 : θ.2 (θ.1 + 2) = .inr (0, 48)) (g1 : θ.2 (θ.1 + 3) = .inr (0, 6)) (g2 : θ.2 (θ.1 + 4) = .inr (0, 864)) (g3 : θ.2 (θ.1 + 5) = .inr (0, 864)) (g4 : θ.2 (θ.1 + 6) = .inr (0, 864)) (g5 : θ.2 (θ.1 + 7) = .inr (0, 864)) (hn : sv_nw θ σ) : sv_nw (θ.1 + 8, θ.2) (xp_X3 σ kc θ.1) := by
  have hn := sv_nw_O hn gO (by decide)
  have hn := nw_X0_init (θ := (θ.1 + 1, θ.2)) (kc := θ.1) (by show θ.1 < θ.1 + 1; omega) gN hn
  have hn := sv_nw_P (i := kc) (k := 0) (j := θ.1) hn (by show kc < θ.1 + 2; omega) (by show θ.1 < θ.1 + 2; omega)
  have hn := sv_nw_A hn g0
  have hn := sv_nw_P (i := kc) (k := 1) (j := θ.1 + 2) hn (by show kc < θ.1 + 3; omega) (by show θ.1 + 2 < θ.1 + 3; omega)
  have hn := sv_nw_A hn g1
  have hn := sv_nw_P (i := kc) (k := 2) (j := θ.1 + 3) hn (by show kc < θ.1 + 4; omega) (by show θ.1 + 3 < θ.1 + 4; omega)
  have hn := sv_nw_A hn g2
  have hn := sv_nw_P (i := kc) (k := 7) (j := θ.1 + 4) hn (by show kc < θ.1 + 5; omega) (by show θ.1 + 4 < θ.1 + 5; omega)
  have hn := sv_nw_A hn g3
  have hn := sv_nw_P (i := kc) (k := 8) (j := θ.1 + 5) hn (by show kc < θ.1 + 6; omega) (by show θ.1 + 5 < θ.1 + 6; omega)
  have hn := sv_nw_A hn g4
  have hn := sv_nw_P (i := kc) (k := 9) (j := θ.1 + 6) hn (by show kc < θ.1 + 7; omega) (by show θ.1 + 6 < θ.1 + 7; omega)
  have hn := sv_nw_A hn g5
  have hn := sv_nw_P (i := kc) (k := 10) (j := θ.1 + 7) hn (by show kc < θ.1 + 8; omega) (by show θ.1 + 7 < θ.1 + 8; omega)
  exact hn
set_option maxHeartbeats 4000000 in
theorem k_X3_init {qK qV : Nat → Nat} {l : Launch} {D : va_G} {T : Nat → ClassId} {h : Nat → Nat} {θ : sv_T} {σ : sv_S} {kc : Nat} (hθ : θ.1 ≤ 880) (hk : kc < θ.1) (hsh : θ.2 kc = .inl (2, pkX3)) (gO : θ.2 θ.1 = .inl (0, pkX0)) (gN : θ.2 (θ.1 + 1) = .inr (0, 6)) (g0 : θ.2 (θ.1 + 2) = .inr (0, 48)) (g1 : θ.2 (θ.1 + 3) = .inr (0, 6)) (g2 : θ.2 (θ.1 + 4) = .inr (0, 864)) (g3 : θ.2 (θ.1 + 5) = .inr (0, 864)) (g4 : θ.2 (θ.1 + 6) = .inr (0, 864)) (g5 : θ.2 (θ.1 + 7) = .inr (0, 864)) (hn : sv_nw θ σ) : sv_MvG (sx_X2 qK qV) l D T (sx_tys T) h θ yX3_init wsX3_init { frames := 2, cells := 8, slots := 3520, locals := 40 } [.ref (h kc)] σ (θ.1 + 8) (xp_X3 σ kc θ.1) 8 3520 := by
  intro sz
  refine sv_enterG (cc := cX3_init) (maxL := 1) (ret := none) (Qc := fun sz => va_Qv (fun h' : Nat → Nat => sv_ext h θ.1 (θ.1 + 8) sz h') (fun h' t => va_P D vwCl (sv_ws T h' (θ.1 + 8, θ.2) (xp_X3 σ kc θ.1)) t.heap ∧ va_D (fun _ => True) (sv_ws T h' (θ.1 + 8, θ.2) (xp_X3 σ kc θ.1))) (sv_A h θ sz)) sx_XP2 (by decide) rfl (Nat.le_of_ble_eq_true rfl) ?_
  intro p e s m args below meth c F hr hlk hnm ls H hl hW
  have hx := F.1.1
  have hb := F.1.2.1
  have hts := F.1.2.2.2.2
  have hown := F.1.2.2.2.1
  have hml := F.1.2.2.1
  have hK := F.2.1
  have hA := F.2.2.2.1
  have hin : meth.name = "<init>" := hnm
  obtain ⟨locs, hlocs⟩ : ∃ z : List Loc, z = [] := ⟨_, rfl⟩
  rw [← hlocs] at hW ⊢
  have hl : lv_has ls 1 [(0, .ref (h kc))] := hl
  refine lv_aload_n hx hb dX3_init_0 rfl (lv_at hl 0 rfl) ?_
  refine W.objInit hx hb hown (hts (.methodLink RX3 3 objectInit) (by decide +kernel)) (hts (.instanceMethod objectInit) (by decide +kernel)) (hts _ (List.mem_of_getElem? (i := 3) rfl)) rfl (by rw [hml]; exact hl.1) rfl dX3_init_1 (Nat.le_of_ble_eq_true rfl) (Nat.le_of_ble_eq_true rfl) ?_
  refine W.eq (g2 := F0 m 4 ls []) rfl ?_
  refine lv_aload_n hx hb dX3_init_4 rfl (lv_at hl 0 rfl) ?_
  refine sv_newO (own := RX3) (C := RX0) (Tf := TX0) (N := 4) (ci := 0) (ks := pkX0) (fs := [.null, .int 0, .null, .int 0]) hx hb hts (fun _ h => List.mem_cons_of_mem _ (List.mem_append_left _ (List.mem_append_right _ h))) tyX0 tyX0_ok hown (hts _ (List.mem_of_getElem? (i := 4) rfl)) (hts _ (List.mem_of_getElem? (i := 5) rfl)) (hts _ (List.mem_of_getElem? (i := 6) rfl)) hK hW hA rfl gO (by show θ.1 < 1000; omega) hn.1 (fun j hj => by revert j; decide) (fun h' => by obtain ⟨z1, z2, z3⟩ := hn.2 θ.1 (Nat.le_refl _); simp only [sv_vals, sv_val, z1, z2, z3, Option.map_none, va_rf]) (Nat.le_of_ble_eq_true rfl) (Nat.le_of_ble_eq_true rfl) dX3_init_5 (fun h1 H e1 hW => ?_)
  rw [← e1 kc (by show kc < θ.1; omega)] at hl
  rw [← e1 kc (by show kc < θ.1; omega)]
  have hW : sv_W D T (sv_A h θ s.heap.size) s h1 ((θ.1 + 1), θ.2) (σ) H locs := hW
  have hn := sv_nw_O hn gO (by decide)
  refine lv_dup hx hb dX3_init_8 rfl ?_
  refine sv_goVG (n' := (θ.1 + 2)) (σ' := xp_X0 (σ) θ.1 (θ.1 + 1)) hW hA (sv_runING (i := θ.1) (own := RX3) (host := "OpenWhileItRains") F hW (k_X0_init sx_XP2 (kc := θ.1) (θ := (θ.1 + 1, θ.2)) (by show θ.1 + 1 ≤ 900; omega) (by show θ.1 < θ.1 + 1; omega) gO gN hn H.size) gX3_init_X0_init_n11 rfl ⟨rfl, rfl⟩ 0 (List.mem_of_getElem? (i := 6) rfl) (F.2.2.1.1.1 _ (List.mem_of_getElem? (i := 4) rfl)) (List.mem_of_getElem? (i := 15) rfl) rfl (by decide +kernel) ⟨Nat.le_of_ble_eq_true rfl, Nat.le_of_ble_eq_true rfl⟩ rfl hl.1 rfl (Nat.le_of_ble_eq_true rfl) dX3_init_9 ⟨Nat.le_of_ble_eq_true rfl, Nat.le_of_ble_eq_true rfl⟩) (fun h2 H locs e2 hW => ?_)
  rw [← e2 kc (by show kc < (θ.1 + 1); omega)] at hl
  rw [← e2 θ.1 (by show θ.1 < (θ.1 + 1); omega)]
  rw [← e2 kc (by show kc < (θ.1 + 1); omega)]
  have hW : sv_W D T (sv_A h θ s.heap.size) s h2 ((θ.1 + 2), θ.2) (xp_X0 (σ) θ.1 (θ.1 + 1)) H locs := hW
  have hn := nw_X0_init (θ := (θ.1 + 1, θ.2)) (kc := θ.1) (by show θ.1 < θ.1 + 1; omega) gN hn
  refine sv_putFP (j := θ.1) (i := kc) (own := RX3) (C := RX3) (Tf := TX3) (N := 17) (index := 12) (ks := pkX3) hx hb hts hown hK hW (fun _ h => List.mem_cons_of_mem _ (List.mem_append_right _ h)) tyX3 tyX3_ok nmX3 (by show kc < (θ.1 + 2); omega) hsh rfl 0 (by decide) rfl rfl hin rfl (ty := .object "OpenWhileItRains$Case") (by decide +kernel) (fun _ => rfl) (fun _ => rfl) (List.mem_of_getElem? (i := 7) rfl) dX3_init_12 (fun H locs hW => ?_)
  have hn := sv_nw_P (k := 0) hn (by show kc < (θ.1 + 2); omega) (by show θ.1 < (θ.1 + 2); omega)
  refine lv_aload_n hx hb dX3_init_15 rfl (lv_at hl 0 rfl) ?_
  refine lv_bipush (v := 48) hx hb dX3_init_16 (by decide) ?_
  refine sv_newI hx hb (hts _ (List.mem_of_getElem? (i := 8) rfl)) hK hW hA (L := 48) g0 (by show (θ.1 + 2) < 1000; omega) hn.1 (fun j => (hn.2 _ (Nat.le_refl _)).1 j) 0 rfl (by decide) (by decide) (by decide) (Nat.le_of_ble_eq_true rfl) (Nat.le_of_ble_eq_true rfl) dX3_init_18 (fun h3 H e3 hW => ?_)
  rw [← e3 kc (by show kc < (θ.1 + 2); omega)] at hl
  rw [← e3 kc (by show kc < (θ.1 + 2); omega)]
  have hW : sv_W D T (sv_A h θ s.heap.size) s h3 ((θ.1 + 3), θ.2) (sv_sP (xp_X0 (σ) θ.1 (θ.1 + 1)) kc 0 (some θ.1)) H locs := hW
  have hn := sv_nw_A hn g0
  refine sv_putFP (j := (θ.1 + 2)) (i := kc) (own := RX3) (C := RX3) (Tf := TX3) (N := 17) (index := 18) (ks := pkX3) hx hb hts hown hK hW (fun _ h => List.mem_cons_of_mem _ (List.mem_append_right _ h)) tyX3 tyX3_ok nmX3 (by show kc < (θ.1 + 3); omega) hsh rfl 1 (by decide) rfl rfl hin rfl (ty := .array .int) (by decide +kernel) (fun _ => rfl) (fun _ => rfl) (List.mem_of_getElem? (i := 9) rfl) dX3_init_20 (fun H locs hW => ?_)
  have hn := sv_nw_P (k := 1) hn (by show kc < (θ.1 + 3); omega) (by show (θ.1 + 2) < (θ.1 + 3); omega)
  refine lv_aload_n hx hb dX3_init_23 rfl (lv_at hl 0 rfl) ?_
  refine lv_bipush (v := 6) hx hb dX3_init_24 (by decide) ?_
  refine sv_newI hx hb (hts _ (List.mem_of_getElem? (i := 8) rfl)) hK hW hA (L := 6) g1 (by show (θ.1 + 3) < 1000; omega) hn.1 (fun j => (hn.2 _ (Nat.le_refl _)).1 j) 0 rfl (by decide) (by decide) (by decide) (Nat.le_of_ble_eq_true rfl) (Nat.le_of_ble_eq_true rfl) dX3_init_26 (fun h4 H e4 hW => ?_)
  rw [← e4 kc (by show kc < (θ.1 + 3); omega)] at hl
  rw [← e4 kc (by show kc < (θ.1 + 3); omega)]
  have hW : sv_W D T (sv_A h θ s.heap.size) s h4 ((θ.1 + 4), θ.2) (sv_sP (sv_sP (xp_X0 (σ) θ.1 (θ.1 + 1)) kc 0 (some θ.1)) kc 1 (some (θ.1 + 2))) H locs := hW
  have hn := sv_nw_A hn g1
  refine sv_putFP (j := (θ.1 + 3)) (i := kc) (own := RX3) (C := RX3) (Tf := TX3) (N := 17) (index := 22) (ks := pkX3) hx hb hts hown hK hW (fun _ h => List.mem_cons_of_mem _ (List.mem_append_right _ h)) tyX3 tyX3_ok nmX3 (by show kc < (θ.1 + 4); omega) hsh rfl 2 (by decide) rfl rfl hin rfl (ty := .array .int) (by decide +kernel) (fun _ => rfl) (fun _ => rfl) (List.mem_of_getElem? (i := 10) rfl) dX3_init_28 (fun H locs hW => ?_)
  have hn := sv_nw_P (k := 2) hn (by show kc < (θ.1 + 4); omega) (by show (θ.1 + 3) < (θ.1 + 4); omega)
  refine lv_aload_n hx hb dX3_init_31 rfl (lv_at hl 0 rfl) ?_
  refine lv_sipush (v := 864) hx hb dX3_init_32 (by decide) ?_
  refine sv_newI hx hb (hts _ (List.mem_of_getElem? (i := 8) rfl)) hK hW hA (L := 864) g2 (by show (θ.1 + 4) < 1000; omega) hn.1 (fun j => (hn.2 _ (Nat.le_refl _)).1 j) 0 rfl (by decide) (by decide) (by decide) (Nat.le_of_ble_eq_true rfl) (Nat.le_of_ble_eq_true rfl) dX3_init_35 (fun h5 H e5 hW => ?_)
  rw [← e5 kc (by show kc < (θ.1 + 4); omega)] at hl
  rw [← e5 kc (by show kc < (θ.1 + 4); omega)]
  have hW : sv_W D T (sv_A h θ s.heap.size) s h5 ((θ.1 + 5), θ.2) (sv_sP (sv_sP (sv_sP (xp_X0 (σ) θ.1 (θ.1 + 1)) kc 0 (some θ.1)) kc 1 (some (θ.1 + 2))) kc 2 (some (θ.1 + 3))) H locs := hW
  have hn := sv_nw_A hn g2
  refine sv_putFP (j := (θ.1 + 4)) (i := kc) (own := RX3) (C := RX3) (Tf := TX3) (N := 17) (index := 25) (ks := pkX3) hx hb hts hown hK hW (fun _ h => List.mem_cons_of_mem _ (List.mem_append_right _ h)) tyX3 tyX3_ok nmX3 (by show kc < (θ.1 + 5); omega) hsh rfl 7 (by decide) rfl rfl hin rfl (ty := .array .int) (by decide +kernel) (fun _ => rfl) (fun _ => rfl) (List.mem_of_getElem? (i := 11) rfl) dX3_init_37 (fun H locs hW => ?_)
  have hn := sv_nw_P (k := 7) hn (by show kc < (θ.1 + 5); omega) (by show (θ.1 + 4) < (θ.1 + 5); omega)
  refine lv_aload_n hx hb dX3_init_40 rfl (lv_at hl 0 rfl) ?_
  refine lv_sipush (v := 864) hx hb dX3_init_41 (by decide) ?_
  refine sv_newI hx hb (hts _ (List.mem_of_getElem? (i := 8) rfl)) hK hW hA (L := 864) g3 (by show (θ.1 + 5) < 1000; omega) hn.1 (fun j => (hn.2 _ (Nat.le_refl _)).1 j) 0 rfl (by decide) (by decide) (by decide) (Nat.le_of_ble_eq_true rfl) (Nat.le_of_ble_eq_true rfl) dX3_init_44 (fun h6 H e6 hW => ?_)
  rw [← e6 kc (by show kc < (θ.1 + 5); omega)] at hl
  rw [← e6 kc (by show kc < (θ.1 + 5); omega)]
  have hW : sv_W D T (sv_A h θ s.heap.size) s h6 ((θ.1 + 6), θ.2) (sv_sP (sv_sP (sv_sP (sv_sP (xp_X0 (σ) θ.1 (θ.1 + 1)) kc 0 (some θ.1)) kc 1 (some (θ.1 + 2))) kc 2 (some (θ.1 + 3))) kc 7 (some (θ.1 + 4))) H locs := hW
  have hn := sv_nw_A hn g3
  refine sv_putFP (j := (θ.1 + 5)) (i := kc) (own := RX3) (C := RX3) (Tf := TX3) (N := 17) (index := 28) (ks := pkX3) hx hb hts hown hK hW (fun _ h => List.mem_cons_of_mem _ (List.mem_append_right _ h)) tyX3 tyX3_ok nmX3 (by show kc < (θ.1 + 6); omega) hsh rfl 8 (by decide) rfl rfl hin rfl (ty := .array .int) (by decide +kernel) (fun _ => rfl) (fun _ => rfl) (List.mem_of_getElem? (i := 12) rfl) dX3_init_46 (fun H locs hW => ?_)
  have hn := sv_nw_P (k := 8) hn (by show kc < (θ.1 + 6); omega) (by show (θ.1 + 5) < (θ.1 + 6); omega)
  refine lv_aload_n hx hb dX3_init_49 rfl (lv_at hl 0 rfl) ?_
  refine lv_sipush (v := 864) hx hb dX3_init_50 (by decide) ?_
  refine sv_newI hx hb (hts _ (List.mem_of_getElem? (i := 8) rfl)) hK hW hA (L := 864) g4 (by show (θ.1 + 6) < 1000; omega) hn.1 (fun j => (hn.2 _ (Nat.le_refl _)).1 j) 0 rfl (by decide) (by decide) (by decide) (Nat.le_of_ble_eq_true rfl) (Nat.le_of_ble_eq_true rfl) dX3_init_53 (fun h7 H e7 hW => ?_)
  rw [← e7 kc (by show kc < (θ.1 + 6); omega)] at hl
  rw [← e7 kc (by show kc < (θ.1 + 6); omega)]
  have hW : sv_W D T (sv_A h θ s.heap.size) s h7 ((θ.1 + 7), θ.2) (sv_sP (sv_sP (sv_sP (sv_sP (sv_sP (xp_X0 (σ) θ.1 (θ.1 + 1)) kc 0 (some θ.1)) kc 1 (some (θ.1 + 2))) kc 2 (some (θ.1 + 3))) kc 7 (some (θ.1 + 4))) kc 8 (some (θ.1 + 5))) H locs := hW
  have hn := sv_nw_A hn g4
  refine sv_putFP (j := (θ.1 + 6)) (i := kc) (own := RX3) (C := RX3) (Tf := TX3) (N := 17) (index := 31) (ks := pkX3) hx hb hts hown hK hW (fun _ h => List.mem_cons_of_mem _ (List.mem_append_right _ h)) tyX3 tyX3_ok nmX3 (by show kc < (θ.1 + 7); omega) hsh rfl 9 (by decide) rfl rfl hin rfl (ty := .array .int) (by decide +kernel) (fun _ => rfl) (fun _ => rfl) (List.mem_of_getElem? (i := 13) rfl) dX3_init_55 (fun H locs hW => ?_)
  have hn := sv_nw_P (k := 9) hn (by show kc < (θ.1 + 7); omega) (by show (θ.1 + 6) < (θ.1 + 7); omega)
  refine lv_aload_n hx hb dX3_init_58 rfl (lv_at hl 0 rfl) ?_
  refine lv_sipush (v := 864) hx hb dX3_init_59 (by decide) ?_
  refine sv_newI hx hb (hts _ (List.mem_of_getElem? (i := 8) rfl)) hK hW hA (L := 864) g5 (by show (θ.1 + 7) < 1000; omega) hn.1 (fun j => (hn.2 _ (Nat.le_refl _)).1 j) 0 rfl (by decide) (by decide) (by decide) (Nat.le_of_ble_eq_true rfl) (Nat.le_of_ble_eq_true rfl) dX3_init_62 (fun h8 H e8 hW => ?_)
  rw [← e8 kc (by show kc < (θ.1 + 7); omega)] at hl
  rw [← e8 kc (by show kc < (θ.1 + 7); omega)]
  have hW : sv_W D T (sv_A h θ s.heap.size) s h8 ((θ.1 + 8), θ.2) (sv_sP (sv_sP (sv_sP (sv_sP (sv_sP (sv_sP (xp_X0 (σ) θ.1 (θ.1 + 1)) kc 0 (some θ.1)) kc 1 (some (θ.1 + 2))) kc 2 (some (θ.1 + 3))) kc 7 (some (θ.1 + 4))) kc 8 (some (θ.1 + 5))) kc 9 (some (θ.1 + 6))) H locs := hW
  have hn := sv_nw_A hn g5
  refine sv_putFP (j := (θ.1 + 7)) (i := kc) (own := RX3) (C := RX3) (Tf := TX3) (N := 17) (index := 34) (ks := pkX3) hx hb hts hown hK hW (fun _ h => List.mem_cons_of_mem _ (List.mem_append_right _ h)) tyX3 tyX3_ok nmX3 (by show kc < (θ.1 + 8); omega) hsh rfl 10 (by decide) rfl rfl hin rfl (ty := .array .int) (by decide +kernel) (fun _ => rfl) (fun _ => rfl) (List.mem_of_getElem? (i := 14) rfl) dX3_init_64 (fun H locs hW => ?_)
  have hn := sv_nw_P (k := 10) hn (by show kc < (θ.1 + 8); omega) (by show (θ.1 + 7) < (θ.1 + 8); omega)
  exact sv_vretG h8 (sv_new_ge hW.2.1 (fun i hi => by rw [e8 i (by show i < θ.1 + 7; omega), e7 i (by show i < θ.1 + 6; omega), e6 i (by show i < θ.1 + 5; omega), e5 i (by show i < θ.1 + 4; omega), e4 i (by show i < θ.1 + 3; omega), e3 i (by show i < θ.1 + 2; omega), e2 i (by show i < θ.1 + 1; omega), e1 i hi]) (by show θ.1 ≤ θ.1 + 8; omega)) (fun t ht => ⟨by rw [ht]; exact hW.1, hW.2.1.weaken (fun _ _ _ _ => trivial)⟩) hx hb hr hlk hW dX3_init_67
def xp_X6 (σ : sv_S) (kc n b1 b2 : Nat) (a1 : Int32) : sv_S := sv_sP (sv_sP (sv_sI (sv_sP (σ) kc 3 (some n)) kc 0 (a1)) kc 1 (some b1)) kc 2 (some b2)
set_option maxHeartbeats 4000000 in
theorem k_X6_init {X : sv_X} (hXp : sv_XP X) {l : Launch} {D : va_G} {T : Nat → ClassId} {h : Nat → Nat} {θ : sv_T} {σ : sv_S} {kc b1 b2 : Nat} {a1 : Int32} (hθ : θ.1 ≤ 900) (hk : kc < θ.1) (hb1 : b1 < θ.1) (hb2 : b2 < θ.1) (hsh : θ.2 kc = .inl (5, pkX6)) (g0 : θ.2 θ.1 = .inr (0, 160)) (hn : sv_nw θ σ) : sv_MvG X l D T (sx_tys T) h θ yX6_init wsX6_init { frames := 1, cells := 1, slots := 160, locals := 12 } [.ref (h kc), .int a1, .ref (h b1), .ref (h b2)] σ (θ.1 + 1) (xp_X6 σ kc θ.1 b1 b2 a1) 1 160 := by
  intro sz
  refine sv_enterG (cc := cX6_init) (maxL := 4) (ret := none) (Qc := fun sz => va_Qv (fun h' : Nat → Nat => sv_ext h θ.1 (θ.1 + 1) sz h') (fun h' t => va_P D vwCl (sv_ws T h' (θ.1 + 1, θ.2) (xp_X6 σ kc θ.1 b1 b2 a1)) t.heap ∧ va_D (fun _ => True) (sv_ws T h' (θ.1 + 1, θ.2) (xp_X6 σ kc θ.1 b1 b2 a1))) (sv_A h θ sz)) hXp (by decide) rfl (Nat.le_of_ble_eq_true rfl) ?_
  intro p e s m args below meth c F hr hlk hnm ls H hl hW
  have hx := F.1.1
  have hb := F.1.2.1
  have hts := F.1.2.2.2.2
  have hown := F.1.2.2.2.1
  have hml := F.1.2.2.1
  have hK := F.2.1
  have hA := F.2.2.2.1
  have hin : meth.name = "<init>" := hnm
  obtain ⟨locs, hlocs⟩ : ∃ z : List Loc, z = [] := ⟨_, rfl⟩
  rw [← hlocs] at hW ⊢
  have hl : lv_has ls 4 [(0, .ref (h kc)), (1, .int a1), (2, .ref (h b1)), (3, .ref (h b2))] := hl
  refine lv_aload_n hx hb dX6_init_0 rfl (lv_at hl 0 rfl) ?_
  refine W.objInit hx hb hown (hts (.methodLink RX6 3 objectInit) (by decide +kernel)) (hts (.instanceMethod objectInit) (by decide +kernel)) (hts _ (List.mem_of_getElem? (i := 3) rfl)) rfl (by rw [hml]; exact hl.1) rfl dX6_init_1 (Nat.le_of_ble_eq_true rfl) (Nat.le_of_ble_eq_true rfl) ?_
  refine W.eq (g2 := F0 m 4 ls []) rfl ?_
  refine lv_aload_n hx hb dX6_init_4 rfl (lv_at hl 0 rfl) ?_
  refine lv_sipush (v := 160) hx hb dX6_init_5 (by decide) ?_
  refine sv_newI hx hb (hts _ (List.mem_of_getElem? (i := 4) rfl)) hK hW hA (L := 160) g0 (by show θ.1 < 1000; omega) hn.1 (fun j => (hn.2 _ (Nat.le_refl _)).1 j) 0 rfl (by decide) (by decide) (by decide) (Nat.le_of_ble_eq_true rfl) (Nat.le_of_ble_eq_true rfl) dX6_init_8 (fun h1 H e1 hW => ?_)
  rw [← e1 kc (by show kc < θ.1; omega)] at hl
  rw [← e1 b1 (by show b1 < θ.1; omega)] at hl
  rw [← e1 b2 (by show b2 < θ.1; omega)] at hl
  rw [← e1 kc (by show kc < θ.1; omega)]
  have hW : sv_W D T (sv_A h θ s.heap.size) s h1 ((θ.1 + 1), θ.2) (σ) H locs := hW
  have hn := sv_nw_A hn g0
  refine sv_putFP (j := θ.1) (i := kc) (own := RX6) (C := RX6) (Tf := TX6) (N := 4) (index := 9) (ks := pkX6) hx hb hts hown hK hW (fun _ h => List.mem_cons_of_mem _ (List.mem_append_right _ h)) tyX6 tyX6_ok nmX6 (by show kc < (θ.1 + 1); omega) hsh rfl 3 (by decide) rfl rfl hin rfl (ty := .array .int) (by decide +kernel) (fun _ => rfl) (fun _ => rfl) (List.mem_of_getElem? (i := 5) rfl) dX6_init_10 (fun H locs hW => ?_)
  have hn := sv_nw_P (k := 3) hn (by show kc < (θ.1 + 1); omega) (by show θ.1 < (θ.1 + 1); omega)
  refine lv_aload_n hx hb dX6_init_13 rfl (lv_at hl 0 rfl) ?_
  refine lv_iload_n hx hb dX6_init_14 rfl (lv_at hl 1 rfl) ?_
  refine sv_putFI (i := kc) (own := RX6) (C := RX6) (Tf := TX6) (N := 4) (index := 15) (ks := pkX6) hx hb hts hown hK hW (fun _ h => List.mem_cons_of_mem _ (List.mem_append_right _ h)) tyX6 tyX6_ok nmX6 (by show kc < (θ.1 + 1); omega) hsh rfl 0 (by decide) rfl rfl hin rfl (ty := .int) (by decide +kernel) rfl rfl (List.mem_of_getElem? (i := 6) rfl) dX6_init_15 (fun H locs hW => ?_)
  have hn := sv_nw_I (k := 0) (v := a1) hn (by show kc < (θ.1 + 1); omega)
  refine lv_aload_n hx hb dX6_init_18 rfl (lv_at hl 0 rfl) ?_
  refine lv_aload_n hx hb dX6_init_19 rfl (lv_at hl 2 rfl) ?_
  refine sv_putFP (j := b1) (i := kc) (own := RX6) (C := RX6) (Tf := TX6) (N := 4) (index := 19) (ks := pkX6) hx hb hts hown hK hW (fun _ h => List.mem_cons_of_mem _ (List.mem_append_right _ h)) tyX6 tyX6_ok nmX6 (by show kc < (θ.1 + 1); omega) hsh rfl 1 (by decide) rfl rfl hin rfl (ty := .array .int) (by decide +kernel) (fun _ => rfl) (fun _ => rfl) (List.mem_of_getElem? (i := 7) rfl) dX6_init_20 (fun H locs hW => ?_)
  have hn := sv_nw_P (k := 1) hn (by show kc < (θ.1 + 1); omega) (by show b1 < (θ.1 + 1); omega)
  refine lv_aload_n hx hb dX6_init_23 rfl (lv_at hl 0 rfl) ?_
  refine lv_aload_n hx hb dX6_init_24 rfl (lv_at hl 3 rfl) ?_
  refine sv_putFP (j := b2) (i := kc) (own := RX6) (C := RX6) (Tf := TX6) (N := 4) (index := 22) (ks := pkX6) hx hb hts hown hK hW (fun _ h => List.mem_cons_of_mem _ (List.mem_append_right _ h)) tyX6 tyX6_ok nmX6 (by show kc < (θ.1 + 1); omega) hsh rfl 2 (by decide) rfl rfl hin rfl (ty := .array .int) (by decide +kernel) (fun _ => rfl) (fun _ => rfl) (List.mem_of_getElem? (i := 8) rfl) dX6_init_25 (fun H locs hW => ?_)
  have hn := sv_nw_P (k := 2) hn (by show kc < (θ.1 + 1); omega) (by show b2 < (θ.1 + 1); omega)
  exact sv_vretG h1 (sv_new_ge hW.2.1 (fun i hi => by rw [e1 i hi]) (by show θ.1 ≤ θ.1 + 1; omega)) (fun t ht => ⟨by rw [ht]; exact hW.1, hW.2.1.weaken (fun _ _ _ _ => trivial)⟩) hx hb hr hlk hW dX6_init_28

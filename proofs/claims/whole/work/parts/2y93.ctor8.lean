/-! ===== the reference: its constructor ===== -/
def sq_l8 : List sv_Sh := [.inl (7, pkX8), .inr (0, 960), .inr (0, 6), .inr (0, 160), .inr (0, 48), .inr (0, 6), .inr (0, 18), .inr (0, 48), .inr (0, 48), .inr (0, 18), .inr (1, 4), .inr (0, 4), .inr (0, 4), .inr (0, 160)]
def sq_sh (i : Nat) : sv_Sh := sq_l8.getD i (.inr (0, 0))
def ys1 : sv_S := sv_sP (xs0) 0 1 (some 1)
def ys2 : sv_S := sv_sP (ys1) 0 2 (some 2)
def ys3 : sv_S := sv_sP (ys2) 0 5 (some 3)
def ys4 : sv_S := sv_sP (ys3) 0 8 (some 4)
def ys5 : sv_S := sv_sP (ys4) 0 9 (some 5)
def ys6 : sv_S := sv_sP (ys5) 0 10 (some 6)
def ys7 : sv_S := sv_sP (ys6) 0 34 (some 7)
def ys8 : sv_S := sv_sP (ys7) 0 35 (some 8)
def ys9 : sv_S := sv_sP (ys8) 0 36 (some 9)
def ys10 : sv_S := sv_sI (ys9) 0 37 (-1)
def ys11 : sv_S := sv_sP (ys10) 0 40 (some 10)
def ys12 : sv_S := sv_sP (ys11) 0 41 (some 11)
def ys13 : sv_S := sv_sP (ys12) 0 42 (some 12)
def ys14 : sv_S := sv_sP (ys13) 0 43 (some 13)
def em_T0 : sv_T := (14, sm_sh)
theorem em_B0 : sm_base em_T0 := ⟨Nat.le_refl _, fun i _ => rfl⟩
theorem ys_conv {T : Nat → ClassId} {h : Nat → Nat} : sv_ws T h (14, sm_sh) ys14 = sv_ws T h (14, sq_sh) ys14 := by
  refine sv_ws_congr rfl (fun i hi => ⟨rfl, ?_⟩)
  have hi : i < 14 := hi
  have hc : i = 0 ∨ i = 1 ∨ i = 2 ∨ i = 3 ∨ i = 4 ∨ i = 5 ∨ i = 6 ∨ i = 7 ∨ i = 8 ∨ i = 9 ∨ i = 10 ∨ i = 11 ∨ i = 12 ∨ i = 13 := by omega
  rcases hc with rfl | rfl | rfl | rfl | rfl | rfl | rfl | rfl | rfl | rfl | rfl | rfl | rfl | rfl <;> rfl
def sp8 (k : Nat) (σ : sv_S) (a2 a3 a4 a5 a6 a7 a8 a9 : Int32) : sv_S := sv_sI (sv_sI (sv_sI (sv_sI (sv_sI (sv_sI (sv_sI (sv_sI σ 1 k a2) 1 (k + 1) a3) 1 (k + 2) a4) 1 (k + 3) a5) 1 (k + 4) a6) 1 (k + 5) a7) 1 (k + 6) a8) 1 (k + 7) a9
theorem m_spell {k : Nat} (hk : k < 900) {σ : sv_S} {a2 a3 a4 a5 a6 a7 a8 a9 : Int32} : q_X8_spell em_T0 (nI k) a2 a3 a4 a5 a6 a7 a8 a9 σ = some ((), sp8 k σ a2 a3 a4 a5 a6 a7 a8 a9) := by
  have e : ∀ c : Nat, nI k + nI c = nI (k + c) := fun c => nI_add ..
  unfold q_X8_spell
  rw [if_neg (z_bd (L := 960) (by omega) (by omega)), nI_clamp (by omega), zl,
    show (1 : Int32) = nI 1 from rfl, show (2 : Int32) = nI 2 from rfl, show (3 : Int32) = nI 3 from rfl, show (4 : Int32) = nI 4 from rfl, show (5 : Int32) = nI 5 from rfl, show (6 : Int32) = nI 6 from rfl, show (7 : Int32) = nI 7 from rfl]
  rw [e 1, e 2, e 3, e 4, e 5, e 6, e 7]
  rw [if_neg (z_bd (L := 960) (by omega) (by omega)), nI_clamp (by omega), zl]
  rw [if_neg (z_bd (L := 960) (by omega) (by omega)), nI_clamp (by omega), zl]
  rw [if_neg (z_bd (L := 960) (by omega) (by omega)), nI_clamp (by omega), zl]
  rw [if_neg (z_bd (L := 960) (by omega) (by omega)), nI_clamp (by omega), zl]
  rw [if_neg (z_bd (L := 960) (by omega) (by omega)), nI_clamp (by omega), zl]
  rw [if_neg (z_bd (L := 960) (by omega) (by omega)), nI_clamp (by omega), zl]
  rw [if_neg (z_bd (L := 960) (by omega) (by omega)), nI_clamp (by omega), zl]
  rfl
def yt0 : sv_S := sp8 0 ys14 110 101 101 100 115 32 50 32
def yt1 : sv_S := sp8 8 yt0 59 32 116 97 107 101 115 32
def yt2 : sv_S := sp8 16 yt1 50 32 59 32 118 97 108 117
def yt3 : sv_S := sp8 24 yt2 101 32 50 48 32 45 32 104
def yt4 : sv_S := sp8 32 yt3 111 117 114 32 59 32 32 32
def yu : sv_S := sv_sI (sv_sI yt4 2 0 40) 0 3 1
section CX8
variable {l : Launch} {D : va_G} {T : Nat → ClassId} {h : Nat → Nat}
set_option maxRecDepth 100000 in
set_option maxHeartbeats 16000000 in
theorem k_X8_init (hn0 : sv_nw (1, sq_sh) xs0) (sz : Nat) :
    Met l yX8_init wsX8_init (sv_rmG 2 13 1484 60) (va_Pc [.ref (h 0)] (sv_B sm_X D T (sm_tys T) h (1, sq_sh) xs0 sz)) (va_Qv (fun (h' : Nat → Nat) => sv_ext h 1 14 sz h') (fun h' t => va_P D vwCl (sv_ws T h' em_T0 yu) t.heap ∧ va_D (fun _ => True) (sv_ws T h' em_T0 yu)) (sv_A h (1, sq_sh) sz)) 13 1484 (sv_A h (1, sq_sh) sz) := by
  refine sv_enterG (cc := cX8_init) (maxL := 1) (ret := none) (Qc := fun sz => va_Qv (fun (h' : Nat → Nat) => sv_ext h 1 14 sz h') (fun h' t => va_P D vwCl (sv_ws T h' em_T0 yu) t.heap ∧ va_D (fun _ => True) (sv_ws T h' em_T0 yu)) (sv_A h (1, sq_sh) sz)) sm_XP (by decide) rfl (Nat.le_of_ble_eq_true rfl) ?_
  intro p e s m args below meth c F hr hlk hnm ls H hl hW
  have hx := F.1.1
  have hb := F.1.2.1
  have hts := F.1.2.2.2.2
  have hown := F.1.2.2.2.1
  have hml := F.1.2.2.1
  have hK := F.2.1
  have hA := F.2.2.2.1
  have hin : meth.name = "<init>" := hnm
  have hn := hn0
  obtain ⟨A, eA⟩ : ∃ z, z = sv_A h (1, sq_sh) s.heap.size := ⟨_, rfl⟩
  rw [← eA] at hW hA F
  obtain ⟨locs, hlocs⟩ : ∃ z : List Loc, z = [] := ⟨_, rfl⟩
  rw [← hlocs] at hW ⊢
  have hl : lv_has ls 1 [(0, .ref (h 0))] := hl
  have g0 : sq_sh 0 = .inl (7, pkX8) := rfl
  have g1 : sq_sh 1 = .inr (0, 960) := rfl
  have g2 : sq_sh 2 = .inr (0, 6) := rfl
  have g3 : sq_sh 3 = .inr (0, 160) := rfl
  have g4 : sq_sh 4 = .inr (0, 48) := rfl
  have g5 : sq_sh 5 = .inr (0, 6) := rfl
  have g6 : sq_sh 6 = .inr (0, 18) := rfl
  have g7 : sq_sh 7 = .inr (0, 48) := rfl
  have g8 : sq_sh 8 = .inr (0, 48) := rfl
  have g9 : sq_sh 9 = .inr (0, 18) := rfl
  have g10 : sq_sh 10 = .inr (1, 4) := rfl
  have g11 : sq_sh 11 = .inr (0, 4) := rfl
  have g12 : sq_sh 12 = .inr (0, 4) := rfl
  have g13 : sq_sh 13 = .inr (0, 160) := rfl
  refine lv_aload_n hx hb dX8_init_0 rfl (lv_at hl 0 rfl) ?_
  refine W.objInit hx hb hown (hts (.methodLink RX8 7 objectInit) (by decide +kernel)) (hts (.instanceMethod objectInit) (by decide +kernel)) (hts _ (List.mem_of_getElem? (i := 3) rfl)) rfl (by rw [hml]; exact hl.1) rfl dX8_init_1 (Nat.le_of_ble_eq_true rfl) (Nat.le_of_ble_eq_true rfl) ?_
  refine W.eq (g2 := F0 m 4 ls []) rfl ?_
  refine lv_aload_n hx hb dX8_init_4 rfl (lv_at hl 0 rfl) ?_
  refine lv_sipush (v := 960) hx hb dX8_init_5 (by decide) ?_
  refine sv_newI hx hb (hts _ (List.mem_of_getElem? (i := 4) rfl)) hK hW hA (L := 960) g1 (by show 1 < 1000; omega) hn.1 (fun j => (hn.2 _ (Nat.le_refl _)).1 j) 0 rfl (by decide) (by decide) (by decide) (Nat.le_of_ble_eq_true rfl) (Nat.le_of_ble_eq_true rfl) dX8_init_8 (fun h1 H e1 hW => ?_)
  rw [← e1 0 (by show 0 < 1; omega)] at hl
  rw [← e1 0 (by show 0 < 1; omega)]
  have hW : sv_W D T (A) s h1 (2, sq_sh) (xs0) H locs := hW
  have hn := sv_nw_A hn g1
  have hn : sv_nw (2, sq_sh) xs0 := hn
  refine sv_putFP (j := 1) (i := 0) (own := RX8) (C := RX8) (Tf := TX8) (N := 44) (index := 13) (ks := pkX8) hx hb hts hown hK hW (fun _ h => List.mem_cons_of_mem _ (List.mem_append_right _ h)) tyX8 tyX8_ok nmX8 (by show 0 < 2; omega) g0 rfl 1 (by decide) rfl rfl hin rfl (ty := .array .int) (by decide +kernel) (fun _ => rfl) (fun _ => rfl) (List.mem_of_getElem? (i := 5) rfl) dX8_init_10 (fun H locs hW => ?_)
  have hn := sv_nw_P (k := 1) hn (by show 0 < 2; omega) (by show 1 < 2; omega)
  have hW : sv_W D T A s h1 (2, sq_sh) ys1 H locs := hW
  have hn : sv_nw (2, sq_sh) ys1 := hn
  refine lv_aload_n hx hb dX8_init_13 rfl (lv_at hl 0 rfl) ?_
  refine lv_bipush (v := 6) hx hb dX8_init_14 (by decide) ?_
  refine sv_newI hx hb (hts _ (List.mem_of_getElem? (i := 4) rfl)) hK hW hA (L := 6) g2 (by show 2 < 1000; omega) hn.1 (fun j => (hn.2 _ (Nat.le_refl _)).1 j) 0 rfl (by decide) (by decide) (by decide) (Nat.le_of_ble_eq_true rfl) (Nat.le_of_ble_eq_true rfl) dX8_init_16 (fun h2 H e2 hW => ?_)
  rw [← e2 0 (by show 0 < 2; omega)] at hl
  rw [← e2 0 (by show 0 < 2; omega)]
  have hW : sv_W D T (A) s h2 (3, sq_sh) (ys1) H locs := hW
  have hn := sv_nw_A hn g2
  have hn : sv_nw (3, sq_sh) ys1 := hn
  refine sv_putFP (j := 2) (i := 0) (own := RX8) (C := RX8) (Tf := TX8) (N := 44) (index := 17) (ks := pkX8) hx hb hts hown hK hW (fun _ h => List.mem_cons_of_mem _ (List.mem_append_right _ h)) tyX8 tyX8_ok nmX8 (by show 0 < 3; omega) g0 rfl 2 (by decide) rfl rfl hin rfl (ty := .array .int) (by decide +kernel) (fun _ => rfl) (fun _ => rfl) (List.mem_of_getElem? (i := 6) rfl) dX8_init_18 (fun H locs hW => ?_)
  have hn := sv_nw_P (k := 2) hn (by show 0 < 3; omega) (by show 2 < 3; omega)
  have hW : sv_W D T A s h2 (3, sq_sh) ys2 H locs := hW
  have hn : sv_nw (3, sq_sh) ys2 := hn
  refine lv_aload_n hx hb dX8_init_21 rfl (lv_at hl 0 rfl) ?_
  refine lv_sipush (v := 160) hx hb dX8_init_22 (by decide) ?_
  refine sv_newI hx hb (hts _ (List.mem_of_getElem? (i := 4) rfl)) hK hW hA (L := 160) g3 (by show 3 < 1000; omega) hn.1 (fun j => (hn.2 _ (Nat.le_refl _)).1 j) 0 rfl (by decide) (by decide) (by decide) (Nat.le_of_ble_eq_true rfl) (Nat.le_of_ble_eq_true rfl) dX8_init_25 (fun h3 H e3 hW => ?_)
  rw [← e3 0 (by show 0 < 3; omega)] at hl
  rw [← e3 0 (by show 0 < 3; omega)]
  have hW : sv_W D T (A) s h3 (4, sq_sh) (ys2) H locs := hW
  have hn := sv_nw_A hn g3
  have hn : sv_nw (4, sq_sh) ys2 := hn
  refine sv_putFP (j := 3) (i := 0) (own := RX8) (C := RX8) (Tf := TX8) (N := 44) (index := 20) (ks := pkX8) hx hb hts hown hK hW (fun _ h => List.mem_cons_of_mem _ (List.mem_append_right _ h)) tyX8 tyX8_ok nmX8 (by show 0 < 4; omega) g0 rfl 5 (by decide) rfl rfl hin rfl (ty := .array .int) (by decide +kernel) (fun _ => rfl) (fun _ => rfl) (List.mem_of_getElem? (i := 7) rfl) dX8_init_27 (fun H locs hW => ?_)
  have hn := sv_nw_P (k := 5) hn (by show 0 < 4; omega) (by show 3 < 4; omega)
  have hW : sv_W D T A s h3 (4, sq_sh) ys3 H locs := hW
  have hn : sv_nw (4, sq_sh) ys3 := hn
  refine lv_aload_n hx hb dX8_init_30 rfl (lv_at hl 0 rfl) ?_
  refine lv_bipush (v := 48) hx hb dX8_init_31 (by decide) ?_
  refine sv_newI hx hb (hts _ (List.mem_of_getElem? (i := 4) rfl)) hK hW hA (L := 48) g4 (by show 4 < 1000; omega) hn.1 (fun j => (hn.2 _ (Nat.le_refl _)).1 j) 0 rfl (by decide) (by decide) (by decide) (Nat.le_of_ble_eq_true rfl) (Nat.le_of_ble_eq_true rfl) dX8_init_33 (fun h4 H e4 hW => ?_)
  rw [← e4 0 (by show 0 < 4; omega)] at hl
  rw [← e4 0 (by show 0 < 4; omega)]
  have hW : sv_W D T (A) s h4 (5, sq_sh) (ys3) H locs := hW
  have hn := sv_nw_A hn g4
  have hn : sv_nw (5, sq_sh) ys3 := hn
  refine sv_putFP (j := 4) (i := 0) (own := RX8) (C := RX8) (Tf := TX8) (N := 44) (index := 23) (ks := pkX8) hx hb hts hown hK hW (fun _ h => List.mem_cons_of_mem _ (List.mem_append_right _ h)) tyX8 tyX8_ok nmX8 (by show 0 < 5; omega) g0 rfl 8 (by decide) rfl rfl hin rfl (ty := .array .int) (by decide +kernel) (fun _ => rfl) (fun _ => rfl) (List.mem_of_getElem? (i := 8) rfl) dX8_init_35 (fun H locs hW => ?_)
  have hn := sv_nw_P (k := 8) hn (by show 0 < 5; omega) (by show 4 < 5; omega)
  have hW : sv_W D T A s h4 (5, sq_sh) ys4 H locs := hW
  have hn : sv_nw (5, sq_sh) ys4 := hn
  refine lv_aload_n hx hb dX8_init_38 rfl (lv_at hl 0 rfl) ?_
  refine lv_bipush (v := 6) hx hb dX8_init_39 (by decide) ?_
  refine sv_newI hx hb (hts _ (List.mem_of_getElem? (i := 4) rfl)) hK hW hA (L := 6) g5 (by show 5 < 1000; omega) hn.1 (fun j => (hn.2 _ (Nat.le_refl _)).1 j) 0 rfl (by decide) (by decide) (by decide) (Nat.le_of_ble_eq_true rfl) (Nat.le_of_ble_eq_true rfl) dX8_init_41 (fun h5 H e5 hW => ?_)
  rw [← e5 0 (by show 0 < 5; omega)] at hl
  rw [← e5 0 (by show 0 < 5; omega)]
  have hW : sv_W D T (A) s h5 (6, sq_sh) (ys4) H locs := hW
  have hn := sv_nw_A hn g5
  have hn : sv_nw (6, sq_sh) ys4 := hn
  refine sv_putFP (j := 5) (i := 0) (own := RX8) (C := RX8) (Tf := TX8) (N := 44) (index := 26) (ks := pkX8) hx hb hts hown hK hW (fun _ h => List.mem_cons_of_mem _ (List.mem_append_right _ h)) tyX8 tyX8_ok nmX8 (by show 0 < 6; omega) g0 rfl 9 (by decide) rfl rfl hin rfl (ty := .array .int) (by decide +kernel) (fun _ => rfl) (fun _ => rfl) (List.mem_of_getElem? (i := 9) rfl) dX8_init_43 (fun H locs hW => ?_)
  have hn := sv_nw_P (k := 9) hn (by show 0 < 6; omega) (by show 5 < 6; omega)
  have hW : sv_W D T A s h5 (6, sq_sh) ys5 H locs := hW
  have hn : sv_nw (6, sq_sh) ys5 := hn
  refine lv_aload_n hx hb dX8_init_46 rfl (lv_at hl 0 rfl) ?_
  refine lv_bipush (v := 18) hx hb dX8_init_47 (by decide) ?_
  refine sv_newI hx hb (hts _ (List.mem_of_getElem? (i := 4) rfl)) hK hW hA (L := 18) g6 (by show 6 < 1000; omega) hn.1 (fun j => (hn.2 _ (Nat.le_refl _)).1 j) 0 rfl (by decide) (by decide) (by decide) (Nat.le_of_ble_eq_true rfl) (Nat.le_of_ble_eq_true rfl) dX8_init_49 (fun h6 H e6 hW => ?_)
  rw [← e6 0 (by show 0 < 6; omega)] at hl
  rw [← e6 0 (by show 0 < 6; omega)]
  have hW : sv_W D T (A) s h6 (7, sq_sh) (ys5) H locs := hW
  have hn := sv_nw_A hn g6
  have hn : sv_nw (7, sq_sh) ys5 := hn
  refine sv_putFP (j := 6) (i := 0) (own := RX8) (C := RX8) (Tf := TX8) (N := 44) (index := 29) (ks := pkX8) hx hb hts hown hK hW (fun _ h => List.mem_cons_of_mem _ (List.mem_append_right _ h)) tyX8 tyX8_ok nmX8 (by show 0 < 7; omega) g0 rfl 10 (by decide) rfl rfl hin rfl (ty := .array .int) (by decide +kernel) (fun _ => rfl) (fun _ => rfl) (List.mem_of_getElem? (i := 10) rfl) dX8_init_51 (fun H locs hW => ?_)
  have hn := sv_nw_P (k := 10) hn (by show 0 < 7; omega) (by show 6 < 7; omega)
  have hW : sv_W D T A s h6 (7, sq_sh) ys6 H locs := hW
  have hn : sv_nw (7, sq_sh) ys6 := hn
  refine lv_aload_n hx hb dX8_init_54 rfl (lv_at hl 0 rfl) ?_
  refine lv_bipush (v := 48) hx hb dX8_init_55 (by decide) ?_
  refine sv_newI hx hb (hts _ (List.mem_of_getElem? (i := 4) rfl)) hK hW hA (L := 48) g7 (by show 7 < 1000; omega) hn.1 (fun j => (hn.2 _ (Nat.le_refl _)).1 j) 0 rfl (by decide) (by decide) (by decide) (Nat.le_of_ble_eq_true rfl) (Nat.le_of_ble_eq_true rfl) dX8_init_57 (fun h7 H e7 hW => ?_)
  rw [← e7 0 (by show 0 < 7; omega)] at hl
  rw [← e7 0 (by show 0 < 7; omega)]
  have hW : sv_W D T (A) s h7 (8, sq_sh) (ys6) H locs := hW
  have hn := sv_nw_A hn g7
  have hn : sv_nw (8, sq_sh) ys6 := hn
  refine sv_putFP (j := 7) (i := 0) (own := RX8) (C := RX8) (Tf := TX8) (N := 44) (index := 32) (ks := pkX8) hx hb hts hown hK hW (fun _ h => List.mem_cons_of_mem _ (List.mem_append_right _ h)) tyX8 tyX8_ok nmX8 (by show 0 < 8; omega) g0 rfl 34 (by decide) rfl rfl hin rfl (ty := .array .int) (by decide +kernel) (fun _ => rfl) (fun _ => rfl) (List.mem_of_getElem? (i := 11) rfl) dX8_init_59 (fun H locs hW => ?_)
  have hn := sv_nw_P (k := 34) hn (by show 0 < 8; omega) (by show 7 < 8; omega)
  have hW : sv_W D T A s h7 (8, sq_sh) ys7 H locs := hW
  have hn : sv_nw (8, sq_sh) ys7 := hn
  refine lv_aload_n hx hb dX8_init_62 rfl (lv_at hl 0 rfl) ?_
  refine lv_bipush (v := 48) hx hb dX8_init_63 (by decide) ?_
  refine sv_newI hx hb (hts _ (List.mem_of_getElem? (i := 4) rfl)) hK hW hA (L := 48) g8 (by show 8 < 1000; omega) hn.1 (fun j => (hn.2 _ (Nat.le_refl _)).1 j) 0 rfl (by decide) (by decide) (by decide) (Nat.le_of_ble_eq_true rfl) (Nat.le_of_ble_eq_true rfl) dX8_init_65 (fun h8 H e8 hW => ?_)
  rw [← e8 0 (by show 0 < 8; omega)] at hl
  rw [← e8 0 (by show 0 < 8; omega)]
  have hW : sv_W D T (A) s h8 (9, sq_sh) (ys7) H locs := hW
  have hn := sv_nw_A hn g8
  have hn : sv_nw (9, sq_sh) ys7 := hn
  refine sv_putFP (j := 8) (i := 0) (own := RX8) (C := RX8) (Tf := TX8) (N := 44) (index := 35) (ks := pkX8) hx hb hts hown hK hW (fun _ h => List.mem_cons_of_mem _ (List.mem_append_right _ h)) tyX8 tyX8_ok nmX8 (by show 0 < 9; omega) g0 rfl 35 (by decide) rfl rfl hin rfl (ty := .array .int) (by decide +kernel) (fun _ => rfl) (fun _ => rfl) (List.mem_of_getElem? (i := 12) rfl) dX8_init_67 (fun H locs hW => ?_)
  have hn := sv_nw_P (k := 35) hn (by show 0 < 9; omega) (by show 8 < 9; omega)
  have hW : sv_W D T A s h8 (9, sq_sh) ys8 H locs := hW
  have hn : sv_nw (9, sq_sh) ys8 := hn
  refine lv_aload_n hx hb dX8_init_70 rfl (lv_at hl 0 rfl) ?_
  refine lv_bipush (v := 18) hx hb dX8_init_71 (by decide) ?_
  refine sv_newI hx hb (hts _ (List.mem_of_getElem? (i := 4) rfl)) hK hW hA (L := 18) g9 (by show 9 < 1000; omega) hn.1 (fun j => (hn.2 _ (Nat.le_refl _)).1 j) 0 rfl (by decide) (by decide) (by decide) (Nat.le_of_ble_eq_true rfl) (Nat.le_of_ble_eq_true rfl) dX8_init_73 (fun h9 H e9 hW => ?_)
  rw [← e9 0 (by show 0 < 9; omega)] at hl
  rw [← e9 0 (by show 0 < 9; omega)]
  have hW : sv_W D T (A) s h9 (10, sq_sh) (ys8) H locs := hW
  have hn := sv_nw_A hn g9
  have hn : sv_nw (10, sq_sh) ys8 := hn
  refine sv_putFP (j := 9) (i := 0) (own := RX8) (C := RX8) (Tf := TX8) (N := 44) (index := 38) (ks := pkX8) hx hb hts hown hK hW (fun _ h => List.mem_cons_of_mem _ (List.mem_append_right _ h)) tyX8 tyX8_ok nmX8 (by show 0 < 10; omega) g0 rfl 36 (by decide) rfl rfl hin rfl (ty := .array .int) (by decide +kernel) (fun _ => rfl) (fun _ => rfl) (List.mem_of_getElem? (i := 13) rfl) dX8_init_75 (fun H locs hW => ?_)
  have hn := sv_nw_P (k := 36) hn (by show 0 < 10; omega) (by show 9 < 10; omega)
  have hW : sv_W D T A s h9 (10, sq_sh) ys9 H locs := hW
  have hn : sv_nw (10, sq_sh) ys9 := hn
  refine lv_aload_n hx hb dX8_init_78 rfl (lv_at hl 0 rfl) ?_
  refine lv_iconst (v := -1) hx hb dX8_init_79 (by decide) ?_
  refine sv_putI (i := 0) (own := RX8) (C := RX8) (Tf := TX8) (N := 44) (index := 41) (ks := pkX8) hx hb hts hown hK hW (fun _ h => List.mem_cons_of_mem _ (List.mem_append_right _ h)) tyX8 tyX8_ok nmX8 (by show 0 < 10; omega) g0 rfl 37 (by decide) rfl rfl (ty := .int) (by decide +kernel) rfl rfl (List.mem_of_getElem? (i := 14) rfl) dX8_init_80 (fun σz H locs eσz hW => ?_)
  subst eσz
  have hn := sv_nw_I (k := 37) (v := -1) hn (by show 0 < 10; omega)
  have hW : sv_W D T A s h9 (10, sq_sh) ys10 H locs := hW
  have hn : sv_nw (10, sq_sh) ys10 := hn
  refine lv_aload_n hx hb dX8_init_83 rfl (lv_at hl 0 rfl) ?_
  refine lv_iconst (v := 4) hx hb dX8_init_84 (by decide) ?_
  refine sv_newZ hx hb (hts _ (List.mem_of_getElem? (i := 15) rfl)) hK hW hA (L := 4) g10 (by show 10 < 1000; omega) hn.1 (fun j => (hn.2 _ (Nat.le_refl _)).1 j) 1 rfl (by decide) (by decide) (by decide) (Nat.le_of_ble_eq_true rfl) (Nat.le_of_ble_eq_true rfl) dX8_init_85 (fun h10 H e10 hW => ?_)
  rw [← e10 0 (by show 0 < 10; omega)] at hl
  rw [← e10 0 (by show 0 < 10; omega)]
  have hW : sv_W D T (A) s h10 (11, sq_sh) (ys10) H locs := hW
  have hn := sv_nw_A hn g10
  have hn : sv_nw (11, sq_sh) ys10 := hn
  refine sv_putFP (j := 10) (i := 0) (own := RX8) (C := RX8) (Tf := TX8) (N := 44) (index := 44) (ks := pkX8) hx hb hts hown hK hW (fun _ h => List.mem_cons_of_mem _ (List.mem_append_right _ h)) tyX8 tyX8_ok nmX8 (by show 0 < 11; omega) g0 rfl 40 (by decide) rfl rfl hin rfl (ty := .array .boolean) (by decide +kernel) (fun _ => rfl) (fun _ => rfl) (List.mem_of_getElem? (i := 16) rfl) dX8_init_87 (fun H locs hW => ?_)
  have hn := sv_nw_P (k := 40) hn (by show 0 < 11; omega) (by show 10 < 11; omega)
  have hW : sv_W D T A s h10 (11, sq_sh) ys11 H locs := hW
  have hn : sv_nw (11, sq_sh) ys11 := hn
  refine lv_aload_n hx hb dX8_init_90 rfl (lv_at hl 0 rfl) ?_
  refine lv_iconst (v := 4) hx hb dX8_init_91 (by decide) ?_
  refine sv_newI hx hb (hts _ (List.mem_of_getElem? (i := 4) rfl)) hK hW hA (L := 4) g11 (by show 11 < 1000; omega) hn.1 (fun j => (hn.2 _ (Nat.le_refl _)).1 j) 0 rfl (by decide) (by decide) (by decide) (Nat.le_of_ble_eq_true rfl) (Nat.le_of_ble_eq_true rfl) dX8_init_92 (fun h11 H e11 hW => ?_)
  rw [← e11 0 (by show 0 < 11; omega)] at hl
  rw [← e11 0 (by show 0 < 11; omega)]
  have hW : sv_W D T (A) s h11 (12, sq_sh) (ys11) H locs := hW
  have hn := sv_nw_A hn g11
  have hn : sv_nw (12, sq_sh) ys11 := hn
  refine sv_putFP (j := 11) (i := 0) (own := RX8) (C := RX8) (Tf := TX8) (N := 44) (index := 48) (ks := pkX8) hx hb hts hown hK hW (fun _ h => List.mem_cons_of_mem _ (List.mem_append_right _ h)) tyX8 tyX8_ok nmX8 (by show 0 < 12; omega) g0 rfl 41 (by decide) rfl rfl hin rfl (ty := .array .int) (by decide +kernel) (fun _ => rfl) (fun _ => rfl) (List.mem_of_getElem? (i := 17) rfl) dX8_init_94 (fun H locs hW => ?_)
  have hn := sv_nw_P (k := 41) hn (by show 0 < 12; omega) (by show 11 < 12; omega)
  have hW : sv_W D T A s h11 (12, sq_sh) ys12 H locs := hW
  have hn : sv_nw (12, sq_sh) ys12 := hn
  refine lv_aload_n hx hb dX8_init_97 rfl (lv_at hl 0 rfl) ?_
  refine lv_iconst (v := 4) hx hb dX8_init_98 (by decide) ?_
  refine sv_newI hx hb (hts _ (List.mem_of_getElem? (i := 4) rfl)) hK hW hA (L := 4) g12 (by show 12 < 1000; omega) hn.1 (fun j => (hn.2 _ (Nat.le_refl _)).1 j) 0 rfl (by decide) (by decide) (by decide) (Nat.le_of_ble_eq_true rfl) (Nat.le_of_ble_eq_true rfl) dX8_init_99 (fun h12 H e12 hW => ?_)
  rw [← e12 0 (by show 0 < 12; omega)] at hl
  rw [← e12 0 (by show 0 < 12; omega)]
  have hW : sv_W D T (A) s h12 (13, sq_sh) (ys12) H locs := hW
  have hn := sv_nw_A hn g12
  have hn : sv_nw (13, sq_sh) ys12 := hn
  refine sv_putFP (j := 12) (i := 0) (own := RX8) (C := RX8) (Tf := TX8) (N := 44) (index := 51) (ks := pkX8) hx hb hts hown hK hW (fun _ h => List.mem_cons_of_mem _ (List.mem_append_right _ h)) tyX8 tyX8_ok nmX8 (by show 0 < 13; omega) g0 rfl 42 (by decide) rfl rfl hin rfl (ty := .array .int) (by decide +kernel) (fun _ => rfl) (fun _ => rfl) (List.mem_of_getElem? (i := 18) rfl) dX8_init_101 (fun H locs hW => ?_)
  have hn := sv_nw_P (k := 42) hn (by show 0 < 13; omega) (by show 12 < 13; omega)
  have hW : sv_W D T A s h12 (13, sq_sh) ys13 H locs := hW
  have hn : sv_nw (13, sq_sh) ys13 := hn
  refine lv_aload_n hx hb dX8_init_104 rfl (lv_at hl 0 rfl) ?_
  refine lv_sipush (v := 160) hx hb dX8_init_105 (by decide) ?_
  refine sv_newI hx hb (hts _ (List.mem_of_getElem? (i := 4) rfl)) hK hW hA (L := 160) g13 (by show 13 < 1000; omega) hn.1 (fun j => (hn.2 _ (Nat.le_refl _)).1 j) 0 rfl (by decide) (by decide) (by decide) (Nat.le_of_ble_eq_true rfl) (Nat.le_of_ble_eq_true rfl) dX8_init_108 (fun h13 H e13 hW => ?_)
  rw [← e13 0 (by show 0 < 13; omega)] at hl
  rw [← e13 0 (by show 0 < 13; omega)]
  have hW : sv_W D T (A) s h13 (14, sq_sh) (ys13) H locs := hW
  have hn := sv_nw_A hn g13
  have hn : sv_nw (14, sq_sh) ys13 := hn
  refine sv_putFP (j := 13) (i := 0) (own := RX8) (C := RX8) (Tf := TX8) (N := 44) (index := 54) (ks := pkX8) hx hb hts hown hK hW (fun _ h => List.mem_cons_of_mem _ (List.mem_append_right _ h)) tyX8 tyX8_ok nmX8 (by show 0 < 14; omega) g0 rfl 43 (by decide) rfl rfl hin rfl (ty := .array .int) (by decide +kernel) (fun _ => rfl) (fun _ => rfl) (List.mem_of_getElem? (i := 19) rfl) dX8_init_110 (fun H locs hW => ?_)
  have hn := sv_nw_P (k := 43) hn (by show 0 < 14; omega) (by show 13 < 14; omega)
  have hW : sv_W D T A s h13 (14, sq_sh) ys14 H locs := hW
  have hn : sv_nw (14, sq_sh) ys14 := hn
  have hW : sv_W D T A s h13 em_T0 ys14 H locs := by
    have ew : sv_ws T h13 em_T0 ys14 = sv_ws T h13 (14, sq_sh) ys14 := ys_conv
    exact ⟨by rw [ew]; exact hW.1, by rw [ew]; exact hW.2.1, hW.2.2⟩
  have hB := em_B0
  refine lv_aload_n hx hb dX8_init_113 rfl (lv_at hl 0 rfl) ?_
  refine lv_iconst (v := 0) hx hb dX8_init_114 (by decide) ?_
  refine lv_bipush (v := 110) hx hb dX8_init_115 (by decide) ?_
  refine lv_bipush (v := 101) hx hb dX8_init_117 (by decide) ?_
  refine lv_bipush (v := 101) hx hb dX8_init_119 (by decide) ?_
  refine lv_bipush (v := 100) hx hb dX8_init_121 (by decide) ?_
  refine lv_bipush (v := 115) hx hb dX8_init_123 (by decide) ?_
  refine lv_bipush (v := 32) hx hb dX8_init_125 (by decide) ?_
  refine lv_bipush (v := 50) hx hb dX8_init_127 (by decide) ?_
  refine lv_bipush (v := 32) hx hb dX8_init_129 (by decide) ?_
  refine sv_goV (σ' := yt0) (r := ()) hW hA (sv_runV (C := RX8) F hW (k_X8_spell hB (m_spell (k := 0) (by omega)) H.size) gX8_init_X8_spell rfl ⟨rfl, rfl⟩ 9 (by decide +kernel) ⟨by show 0 + 1 ≤ 2; omega, by show 8 + (10 + 11) + 0 ≤ 60; omega⟩ (sm_i 0 hB (by decide)) (sm_c0 hB) rfl rfl hl.1 rfl (Nat.le_of_ble_eq_true rfl) dX8_init_131 ⟨Nat.le_of_ble_eq_true rfl, Nat.le_of_ble_eq_true rfl⟩) (fun H locs hW => ?_)
  refine lv_aload_n hx hb dX8_init_134 rfl (lv_at hl 0 rfl) ?_
  refine lv_bipush (v := 8) hx hb dX8_init_135 (by decide) ?_
  refine lv_bipush (v := 59) hx hb dX8_init_137 (by decide) ?_
  refine lv_bipush (v := 32) hx hb dX8_init_139 (by decide) ?_
  refine lv_bipush (v := 116) hx hb dX8_init_141 (by decide) ?_
  refine lv_bipush (v := 97) hx hb dX8_init_143 (by decide) ?_
  refine lv_bipush (v := 107) hx hb dX8_init_145 (by decide) ?_
  refine lv_bipush (v := 101) hx hb dX8_init_147 (by decide) ?_
  refine lv_bipush (v := 115) hx hb dX8_init_149 (by decide) ?_
  refine lv_bipush (v := 32) hx hb dX8_init_151 (by decide) ?_
  refine sv_goV (σ' := yt1) (r := ()) hW hA (sv_runV (C := RX8) F hW (k_X8_spell hB (m_spell (k := 8) (by omega)) H.size) gX8_init_X8_spell rfl ⟨rfl, rfl⟩ 9 (by decide +kernel) ⟨by show 0 + 1 ≤ 2; omega, by show 8 + (10 + 11) + 0 ≤ 60; omega⟩ (sm_i 0 hB (by decide)) (sm_c0 hB) rfl rfl hl.1 rfl (Nat.le_of_ble_eq_true rfl) dX8_init_153 ⟨Nat.le_of_ble_eq_true rfl, Nat.le_of_ble_eq_true rfl⟩) (fun H locs hW => ?_)
  refine lv_aload_n hx hb dX8_init_156 rfl (lv_at hl 0 rfl) ?_
  refine lv_bipush (v := 16) hx hb dX8_init_157 (by decide) ?_
  refine lv_bipush (v := 50) hx hb dX8_init_159 (by decide) ?_
  refine lv_bipush (v := 32) hx hb dX8_init_161 (by decide) ?_
  refine lv_bipush (v := 59) hx hb dX8_init_163 (by decide) ?_
  refine lv_bipush (v := 32) hx hb dX8_init_165 (by decide) ?_
  refine lv_bipush (v := 118) hx hb dX8_init_167 (by decide) ?_
  refine lv_bipush (v := 97) hx hb dX8_init_169 (by decide) ?_
  refine lv_bipush (v := 108) hx hb dX8_init_171 (by decide) ?_
  refine lv_bipush (v := 117) hx hb dX8_init_173 (by decide) ?_
  refine sv_goV (σ' := yt2) (r := ()) hW hA (sv_runV (C := RX8) F hW (k_X8_spell hB (m_spell (k := 16) (by omega)) H.size) gX8_init_X8_spell rfl ⟨rfl, rfl⟩ 9 (by decide +kernel) ⟨by show 0 + 1 ≤ 2; omega, by show 8 + (10 + 11) + 0 ≤ 60; omega⟩ (sm_i 0 hB (by decide)) (sm_c0 hB) rfl rfl hl.1 rfl (Nat.le_of_ble_eq_true rfl) dX8_init_175 ⟨Nat.le_of_ble_eq_true rfl, Nat.le_of_ble_eq_true rfl⟩) (fun H locs hW => ?_)
  refine lv_aload_n hx hb dX8_init_178 rfl (lv_at hl 0 rfl) ?_
  refine lv_bipush (v := 24) hx hb dX8_init_179 (by decide) ?_
  refine lv_bipush (v := 101) hx hb dX8_init_181 (by decide) ?_
  refine lv_bipush (v := 32) hx hb dX8_init_183 (by decide) ?_
  refine lv_bipush (v := 50) hx hb dX8_init_185 (by decide) ?_
  refine lv_bipush (v := 48) hx hb dX8_init_187 (by decide) ?_
  refine lv_bipush (v := 32) hx hb dX8_init_189 (by decide) ?_
  refine lv_bipush (v := 45) hx hb dX8_init_191 (by decide) ?_
  refine lv_bipush (v := 32) hx hb dX8_init_193 (by decide) ?_
  refine lv_bipush (v := 104) hx hb dX8_init_195 (by decide) ?_
  refine sv_goV (σ' := yt3) (r := ()) hW hA (sv_runV (C := RX8) F hW (k_X8_spell hB (m_spell (k := 24) (by omega)) H.size) gX8_init_X8_spell rfl ⟨rfl, rfl⟩ 9 (by decide +kernel) ⟨by show 0 + 1 ≤ 2; omega, by show 8 + (10 + 11) + 0 ≤ 60; omega⟩ (sm_i 0 hB (by decide)) (sm_c0 hB) rfl rfl hl.1 rfl (Nat.le_of_ble_eq_true rfl) dX8_init_197 ⟨Nat.le_of_ble_eq_true rfl, Nat.le_of_ble_eq_true rfl⟩) (fun H locs hW => ?_)
  refine lv_aload_n hx hb dX8_init_200 rfl (lv_at hl 0 rfl) ?_
  refine lv_bipush (v := 32) hx hb dX8_init_201 (by decide) ?_
  refine lv_bipush (v := 111) hx hb dX8_init_203 (by decide) ?_
  refine lv_bipush (v := 117) hx hb dX8_init_205 (by decide) ?_
  refine lv_bipush (v := 114) hx hb dX8_init_207 (by decide) ?_
  refine lv_bipush (v := 32) hx hb dX8_init_209 (by decide) ?_
  refine lv_bipush (v := 59) hx hb dX8_init_211 (by decide) ?_
  refine lv_bipush (v := 32) hx hb dX8_init_213 (by decide) ?_
  refine lv_bipush (v := 32) hx hb dX8_init_215 (by decide) ?_
  refine lv_bipush (v := 32) hx hb dX8_init_217 (by decide) ?_
  refine sv_goV (σ' := yt4) (r := ()) hW hA (sv_runV (C := RX8) F hW (k_X8_spell hB (m_spell (k := 32) (by omega)) H.size) gX8_init_X8_spell rfl ⟨rfl, rfl⟩ 9 (by decide +kernel) ⟨by show 0 + 1 ≤ 2; omega, by show 8 + (10 + 11) + 0 ≤ 60; omega⟩ (sm_i 0 hB (by decide)) (sm_c0 hB) rfl rfl hl.1 rfl (Nat.le_of_ble_eq_true rfl) dX8_init_219 ⟨Nat.le_of_ble_eq_true rfl, Nat.le_of_ble_eq_true rfl⟩) (fun H locs hW => ?_)
  refine lv_aload_n hx hb dX8_init_222 rfl (lv_at hl 0 rfl) ?_
  refine sv_get (own := RX8) (C := RX8) (Tf := TX8) (N := 44) (index := 17) (κ := (3, 2)) (v := .ref (h13 2)) hx hb hts hown hK hW (fun _ h => List.mem_cons_of_mem _ (List.mem_append_right _ h)) (sm_i 0 hB (by decide)) (sm_c0 hB) rfl 2 (by decide) rfl rfl (List.mem_of_getElem? (i := 6) rfl) dX8_init_223 ?_
  refine lv_iconst (v := 0) hx hb dX8_init_226 (by decide) ?_
  refine lv_bipush (v := 40) hx hb dX8_init_227 (by decide) ?_
  refine sv_iast (a := 2) (x := 0) (v := 40) hx hb hK hW (sm_i 2 hB (by decide)) (sm_c2 hB) 0 rfl (by decide) dX8_init_229 (fun σz H locs eσz hW => ?_)
  subst eσz
  refine lv_aload_n hx hb dX8_init_230 rfl (lv_at hl 0 rfl) ?_
  refine lv_iconst (v := 1) hx hb dX8_init_231 (by decide) ?_
  refine sv_putI (i := 0) (own := RX8) (C := RX8) (Tf := TX8) (N := 44) (index := 61) (ks := sx_sX8) hx hb hts hown hK hW (fun _ h => List.mem_cons_of_mem _ (List.mem_append_right _ h)) tyX8 tyX8_ok nmX8 (sm_i 0 hB (by decide)) (sm_c0 hB) rfl 3 (by decide) rfl rfl (ty := .int) (by decide +kernel) rfl rfl (List.mem_of_getElem? (i := 20) rfl) dX8_init_232 (fun σz H locs eσz hW => ?_)
  subst eσz
  have hW : sv_W D T A s h13 em_T0 yu H locs := hW
  have hall : sv_ext h 1 14 s.heap.size h13 := by
    subst eA
    exact sv_new_ge (θ := (1, sq_sh)) (θ' := em_T0) hW.2.1 (fun i hi => by
      have hi : i < 1 := hi
      rw [show i = 0 by omega, e13 0 (by show 0 < 13; omega), e12 0 (by show 0 < 12; omega), e11 0 (by show 0 < 11; omega), e10 0 (by show 0 < 10; omega), e9 0 (by show 0 < 9; omega), e8 0 (by show 0 < 8; omega), e7 0 (by show 0 < 7; omega), e6 0 (by show 0 < 6; omega), e5 0 (by show 0 < 5; omega), e4 0 (by show 0 < 4; omega), e3 0 (by show 0 < 3; omega), e2 0 (by show 0 < 2; omega), e1 0 (by show 0 < 1; omega)]) (by show 1 ≤ 14; omega)
  rw [← eA]
  exact sv_vretG h13 hall (fun t ht => ⟨by rw [ht]; exact hW.1, hW.2.1.weaken (fun _ _ _ _ => trivial)⟩) hx hb hr hlk hW dX8_init_235
end CX8

set_option maxRecDepth 100000 in
set_option maxHeartbeats 4000000 in
theorem k_X7_at {qK qV : Nat → Nat} {l : Launch} {D : va_G} {T : Nat → ClassId} {h : Nat → Nat} {θ : sv_T} {b1 : Nat} {a2 : Int32} {σ : sv_S} {r : Int32} {σ' : sv_S} (hB : sx_base θ) (hb1 : sv_oA θ b1) (hs : q_X7_at θ b1 a2 σ = some (r, σ')) : sv_Mi (sx_X qK qV) l D T (sx_tys T) h θ yX7_at wsX7_at (sv_rm 0 0) [.ref (h b1), .int a2] σ r σ' := by
  intro sz
  refine sv_enter (cc := cX7_at) (maxL := 2) (ret := (some .int)) (Qc := fun A => va_Qi (fun r2 (_ : Unit) => r2 = r) (fun _ t => va_P D vwCl (sv_ws T h θ σ') t.heap) A) sx_XP (by decide) rfl (Nat.le_of_ble_eq_true rfl) ?_
  intro p e s m args below meth c A F hr hlk ls H hl hW
  have hx := F.1.1
  have hb := F.1.2.1
  have hts := F.1.2.2.2.2
  have hown := F.1.2.2.2.1
  have hK := F.2.1
  obtain ⟨locs, hlocs⟩ : ∃ z : List Loc, z = [] := ⟨_, rfl⟩
  rw [← hlocs] at hW ⊢
  have hl : lv_has ls 2 [(0, .ref (h b1)), (1, .int a2)] := hl
  unfold q_X7_at at hs
  refine lv_aload_n hx hb dX7_at_0 rfl (lv_at hl 0 rfl) ?_
  refine lv_ifnull hx hb dX7_at_1 ?_
  refine lv_iload_n hx hb dX7_at_4 rfl (lv_at hl 1 rfl) ?_
  refine lv_if_lt (tgt := 20) hx hb dX7_at_5 (by decide) (fun c1 => ?_) (fun c1 => ?_)
  · replace hs := (sp_ite hs).1 c1
    refine lv_iconst (v := 0) hx hb dX7_at_20 (by decide) ?_
    cases hs
    exact sv_iret hx hb hr rfl hlk hW dX7_at_21
  · replace hs := (sp_ite hs).2 c1
    refine lv_iload_n hx hb dX7_at_8 rfl (lv_at hl 1 rfl) ?_
    refine lv_aload_n hx hb dX7_at_9 rfl (lv_at hl 0 rfl) ?_
    refine sv_alen (t := 0) (v := (Int32.ofNat (sv_len θ b1))) hx hb hK hW hb1.1 hb1.2 0 rfl rfl dX7_at_10 ?_
    refine lv_icmp_ge (tgt := 20) hx hb dX7_at_11 (by decide) (fun c2 => ?_) (fun c2 => ?_)
    · replace hs := (sp_ite hs).1 c2
      refine lv_iconst (v := 0) hx hb dX7_at_20 (by decide) ?_
      cases hs
      exact sv_iret hx hb hr rfl hlk hW dX7_at_21
    · replace hs := (sp_ite hs).2 c2
      refine lv_aload_n hx hb dX7_at_14 rfl (lv_at hl 0 rfl) ?_
      refine lv_iload_n hx hb dX7_at_15 rfl (lv_at hl 1 rfl) ?_
      obtain ⟨hi3, hs⟩ := sp_g hs
      refine sv_iald hx hb hK hW hb1.1 hb1.2 0 rfl hi3 dX7_at_16 ?_
      refine lv_goto (tgt := 21) hx hb dX7_at_17 (by decide) ?_
      cases hs
      exact sv_iret hx hb hr rfl hlk hW dX7_at_21
set_option maxRecDepth 100000 in
set_option maxHeartbeats 4000000 in
theorem k_X7_put {qK qV : Nat → Nat} {l : Launch} {D : va_G} {T : Nat → ClassId} {h : Nat → Nat} {θ : sv_T} {b1 : Nat} {a2 : Int32} {a3 : Int32} {σ : sv_S} {r : Unit} {σ' : sv_S} (hB : sx_base θ) (hb1 : sv_oA θ b1) (hs : q_X7_put θ b1 a2 a3 σ = some (r, σ')) : sv_Mv (sx_X qK qV) l D T (sx_tys T) h θ yX7_put wsX7_put (sv_rm 0 0) [.ref (h b1), .int a2, .int a3] σ r σ' := by
  intro sz
  refine sv_enter (cc := cX7_put) (maxL := 3) (ret := none) (Qc := fun A => va_Qv (fun (_ : Unit) => True) (fun _ t => va_P D vwCl (sv_ws T h θ σ') t.heap) A) sx_XP (by decide) rfl (Nat.le_of_ble_eq_true rfl) ?_
  intro p e s m args below meth c A F hr hlk ls H hl hW
  have hx := F.1.1
  have hb := F.1.2.1
  have hts := F.1.2.2.2.2
  have hown := F.1.2.2.2.1
  have hK := F.2.1
  obtain ⟨locs, hlocs⟩ : ∃ z : List Loc, z = [] := ⟨_, rfl⟩
  rw [← hlocs] at hW ⊢
  have hl : lv_has ls 3 [(0, .ref (h b1)), (1, .int a2), (2, .int a3)] := hl
  unfold q_X7_put at hs
  refine lv_aload_n hx hb dX7_put_0 rfl (lv_at hl 0 rfl) ?_
  refine lv_ifnull hx hb dX7_put_1 ?_
  refine lv_iload_n hx hb dX7_put_4 rfl (lv_at hl 1 rfl) ?_
  refine lv_if_lt (tgt := 18) hx hb dX7_put_5 (by decide) (fun c1 => ?_) (fun c1 => ?_)
  · replace hs := (sp_ite hs).1 c1
    cases hs
    exact sv_vret hx hb hr hlk hW dX7_put_18
  · replace hs := (sp_ite hs).2 c1
    refine lv_iload_n hx hb dX7_put_8 rfl (lv_at hl 1 rfl) ?_
    refine lv_aload_n hx hb dX7_put_9 rfl (lv_at hl 0 rfl) ?_
    refine sv_alen (t := 0) (v := (Int32.ofNat (sv_len θ b1))) hx hb hK hW hb1.1 hb1.2 0 rfl rfl dX7_put_10 ?_
    refine lv_icmp_ge (tgt := 18) hx hb dX7_put_11 (by decide) (fun c2 => ?_) (fun c2 => ?_)
    · replace hs := (sp_ite hs).1 c2
      cases hs
      exact sv_vret hx hb hr hlk hW dX7_put_18
    · replace hs := (sp_ite hs).2 c2
      refine lv_aload_n hx hb dX7_put_14 rfl (lv_at hl 0 rfl) ?_
      refine lv_iload_n hx hb dX7_put_15 rfl (lv_at hl 1 rfl) ?_
      refine lv_iload_n hx hb dX7_put_16 rfl (lv_at hl 2 rfl) ?_
      obtain ⟨hi3, hs⟩ := sp_g hs
      refine sv_iast hx hb hK hW hb1.1 hb1.2 0 rfl hi3 dX7_put_17 (fun σ4 H locs eσ4 hW => ?_)
      replace hs := sp_let hs eσ4
      cases hs
      exact sv_vret hx hb hr hlk hW dX7_put_18
set_option maxRecDepth 100000 in
set_option maxHeartbeats 4000000 in
theorem k_X0_regard {qK qV : Nat → Nat} {l : Launch} {D : va_G} {T : Nat → ClassId} {h : Nat → Nat} {θ : sv_T} {kc : Nat} {a2 : Int32} {a3 : Int32} {σ : sv_S} {r : Unit} {σ' : sv_S} (hB : sx_base θ) (hkc : sv_oX0 θ kc) (hs : q_X0_regard θ kc a2 a3 σ = some (r, σ')) : sv_Mv (sx_X qK qV) l D T (sx_tys T) h θ yX0_regard wsX0_regard (sv_rm 1 22) [.ref (h kc), .ref (h 1), .int a2, .int a3] σ r σ' := by
  intro sz
  refine sv_enter (cc := cX0_regard) (maxL := 4) (ret := none) (Qc := fun A => va_Qv (fun (_ : Unit) => True) (fun _ t => va_P D vwCl (sv_ws T h θ σ') t.heap) A) sx_XP (by decide) rfl (Nat.le_of_ble_eq_true rfl) ?_
  intro p e s m args below meth c A F hr hlk ls H hl hW
  have hx := F.1.1
  have hb := F.1.2.1
  have hts := F.1.2.2.2.2
  have hown := F.1.2.2.2.1
  have hK := F.2.1
  obtain ⟨locs, hlocs⟩ : ∃ z : List Loc, z = [] := ⟨_, rfl⟩
  rw [← hlocs] at hW ⊢
  have hl : lv_has ls 4 [(0, .ref (h kc)), (1, .ref (h 1)), (2, .int a2), (3, .int a3)] := hl
  unfold q_X0_regard at hs
  refine lv_aload_n hx hb dX0_regard_0 rfl (lv_at hl 1 rfl) ?_
  refine lv_ifnonnull (tgt := 5) hx hb dX0_regard_1 (by decide) ?_
  refine lv_aload_n hx hb dX0_regard_5 rfl (lv_at hl 0 rfl) ?_
  refine lv_aload_n hx hb dX0_regard_6 rfl (lv_at hl 1 rfl) ?_
  refine sv_get (own := RX0) (C := RX2) (Tf := TX2) (N := 8) (index := 15) (κ := (3, 2)) (v := .ref (h 3)) hx hb hts hown hK hW (fun _ h => List.mem_cons_of_mem _ (List.mem_append_left _ (List.mem_append_right _ h))) (sx_i 1 hB (by decide)) (sx_c1 hB) rfl 1 (by decide) rfl rfl (List.mem_of_getElem? (i := 1) rfl) dX0_regard_7 ?_
  refine lv_iload_n hx hb dX0_regard_10 rfl (lv_at hl 2 rfl) ?_
  obtain ⟨r1, σ2, eσ2, hs⟩ := sp_bind hs
  refine sv_goI (σ' := σ2) (r := r1) hW F.2.2.2.1 (sv_runN (own := RX0) (host := "OpenWhileItRains") F hW (k_X7_at hB (sv_oA_of (sx_i 3 hB (by decide)) (sx_c3 hB)) eσ2 H.size) gX0_regard_X7_at_n20 rfl ⟨rfl, rfl⟩ (F.2.2.1.1 _ (List.mem_of_getElem? (i := 10) rfl)) (List.mem_of_getElem? (i := 11) rfl) (List.mem_of_getElem? (i := 10) rfl) 2 (by decide +kernel) (sv_room2 (by omega) (by omega)) rfl hl.1 rfl (Nat.le_of_ble_eq_true rfl) dX0_regard_11 ⟨Nat.zero_le _, Nat.zero_le _⟩) (fun H locs hW => ?_)
  refine sv_putI (own := RX0) (C := RX0) (Tf := TX0) (N := 4) (index := 24) hx hb hts hown hK hW (fun _ h => List.mem_cons_of_mem _ (List.mem_append_right _ h)) tyX0 tyX0_ok nmX0 hkc.1 hkc.2.1 rfl 1 (by decide) rfl rfl (ty := .int) (by decide +kernel) rfl rfl (List.mem_of_getElem? (i := 2) rfl) dX0_regard_14 (fun σ3 H locs eσ3 hW => ?_)
  replace hs := sp_let hs eσ3
  refine lv_aload_n hx hb dX0_regard_17 rfl (lv_at hl 0 rfl) ?_
  refine lv_aload_n hx hb dX0_regard_18 rfl (lv_at hl 1 rfl) ?_
  refine sv_get (own := RX0) (C := RX2) (Tf := TX2) (N := 8) (index := 28) (κ := (2, 0)) (v := va_rf ((σ3.2.2 1 7).map h)) hx hb hts hown hK hW (fun _ h => List.mem_cons_of_mem _ (List.mem_append_left _ (List.mem_append_right _ h))) (sx_i 1 hB (by decide)) (sx_c1 hB) rfl 7 (by decide) rfl rfl (List.mem_of_getElem? (i := 3) rfl) dX0_regard_19 ?_
  refine sv_putP (r := σ3.2.2 1 7) (hv := rfl) (own := RX0) (C := RX0) (Tf := TX0) (N := 4) (index := 32) hx hb hts hown hK hW (fun _ h => List.mem_cons_of_mem _ (List.mem_append_right _ h)) tyX0 tyX0_ok nmX0 hkc.1 hkc.2.1 rfl 2 (by decide) rfl rfl (C2 := "OpenWhileItRains$Text") (by decide +kernel) (List.mem_of_getElem? (i := 4) rfl) dX0_regard_22 (fun σ4 H locs eσ4 hW => ?_)
  replace hs := sp_let hs eσ4
  refine lv_aload_n hx hb dX0_regard_25 rfl (lv_at hl 0 rfl) ?_
  refine lv_aload_n hx hb dX0_regard_26 rfl (lv_at hl 1 rfl) ?_
  refine sv_get (own := RX0) (C := RX2) (Tf := TX2) (N := 8) (index := 33) (κ := (3, 4)) (v := .ref (h 5)) hx hb hts hown hK hW (fun _ h => List.mem_cons_of_mem _ (List.mem_append_left _ (List.mem_append_right _ h))) (sx_i 1 hB (by decide)) (sx_c1 hB) rfl 3 (by decide) rfl rfl (List.mem_of_getElem? (i := 5) rfl) dX0_regard_27 ?_
  refine lv_iload_n hx hb dX0_regard_30 rfl (lv_at hl 2 rfl) ?_
  obtain ⟨r5, σ6, eσ6, hs⟩ := sp_bind hs
  refine sv_goI (σ' := σ6) (r := r5) hW F.2.2.2.1 (sv_runN (own := RX0) (host := "OpenWhileItRains") F hW (k_X7_at hB (sv_oA_of (sx_i 5 hB (by decide)) (sx_c5 hB)) eσ6 H.size) gX0_regard_X7_at_n20 rfl ⟨rfl, rfl⟩ (F.2.2.1.1 _ (List.mem_of_getElem? (i := 10) rfl)) (List.mem_of_getElem? (i := 11) rfl) (List.mem_of_getElem? (i := 10) rfl) 2 (by decide +kernel) (sv_room2 (by omega) (by omega)) rfl hl.1 rfl (Nat.le_of_ble_eq_true rfl) dX0_regard_31 ⟨Nat.zero_le _, Nat.zero_le _⟩) (fun H locs hW => ?_)
  refine sv_putI (own := RX0) (C := RX0) (Tf := TX0) (N := 4) (index := 36) hx hb hts hown hK hW (fun _ h => List.mem_cons_of_mem _ (List.mem_append_right _ h)) tyX0 tyX0_ok nmX0 hkc.1 hkc.2.1 rfl 3 (by decide) rfl rfl (ty := .int) (by decide +kernel) rfl rfl (List.mem_of_getElem? (i := 6) rfl) dX0_regard_34 (fun σ7 H locs eσ7 hW => ?_)
  replace hs := sp_let hs eσ7
  refine lv_aload_n hx hb dX0_regard_37 rfl (lv_at hl 0 rfl) ?_
  refine sv_get (own := RX0) (C := RX0) (Tf := TX0) (N := 4) (index := 9) (κ := (3, 1)) (v := .ref (h (kc + 1))) hx hb hts hown hK hW (fun _ h => List.mem_cons_of_mem _ (List.mem_append_right _ h)) hkc.1 hkc.2.1 rfl 0 (by decide) rfl rfl (List.mem_of_getElem? (i := 7) rfl) dX0_regard_38 ?_
  refine lv_iconst (v := 2) hx hb dX0_regard_41 (by decide) ?_
  refine lv_aload_n hx hb dX0_regard_42 rfl (lv_at hl 1 rfl) ?_
  refine sv_get (own := RX0) (C := RX2) (Tf := TX2) (N := 8) (index := 39) (κ := (3, 3)) (v := .ref (h 4)) hx hb hts hown hK hW (fun _ h => List.mem_cons_of_mem _ (List.mem_append_left _ (List.mem_append_right _ h))) (sx_i 1 hB (by decide)) (sx_c1 hB) rfl 2 (by decide) rfl rfl (List.mem_of_getElem? (i := 8) rfl) dX0_regard_43 ?_
  refine lv_iload_n hx hb dX0_regard_46 rfl (lv_at hl 2 rfl) ?_
  obtain ⟨r8, σ9, eσ9, hs⟩ := sp_bind hs
  refine sv_goI (σ' := σ9) (r := r8) hW F.2.2.2.1 (sv_runN (own := RX0) (host := "OpenWhileItRains") F hW (k_X7_at hB (sv_oA_of (sx_i 4 hB (by decide)) (sx_c4 hB)) eσ9 H.size) gX0_regard_X7_at_n20 rfl ⟨rfl, rfl⟩ (F.2.2.1.1 _ (List.mem_of_getElem? (i := 10) rfl)) (List.mem_of_getElem? (i := 11) rfl) (List.mem_of_getElem? (i := 10) rfl) 2 (by decide +kernel) (sv_room2 (by omega) (by omega)) rfl hl.1 rfl (Nat.le_of_ble_eq_true rfl) dX0_regard_47 ⟨Nat.zero_le _, Nat.zero_le _⟩) (fun H locs hW => ?_)
  obtain ⟨r10, σ11, eσ11, hs⟩ := sp_bind hs
  refine sv_goV (σ' := σ11) (r := r10) hW F.2.2.2.1 (sv_runN (own := RX0) (host := "OpenWhileItRains") F hW (k_X7_put hB (sv_oA_of hkc.2.2.1 hkc.2.2.2) eσ11 H.size) gX0_regard_X7_put_n42 rfl ⟨rfl, rfl⟩ (F.2.2.1.1 _ (List.mem_of_getElem? (i := 11) rfl)) (List.mem_of_getElem? (i := 11) rfl) (List.mem_of_getElem? (i := 13) rfl) 3 (by decide +kernel) (sv_room2 (by omega) (by omega)) rfl hl.1 rfl (Nat.le_of_ble_eq_true rfl) dX0_regard_50 ⟨Nat.zero_le _, Nat.zero_le _⟩) (fun H locs hW => ?_)
  refine lv_aload_n hx hb dX0_regard_53 rfl (lv_at hl 0 rfl) ?_
  refine sv_get (own := RX0) (C := RX0) (Tf := TX0) (N := 4) (index := 9) (κ := (3, 1)) (v := .ref (h (kc + 1))) hx hb hts hown hK hW (fun _ h => List.mem_cons_of_mem _ (List.mem_append_right _ h)) hkc.1 hkc.2.1 rfl 0 (by decide) rfl rfl (List.mem_of_getElem? (i := 7) rfl) dX0_regard_54 ?_
  refine lv_iconst (v := 3) hx hb dX0_regard_57 (by decide) ?_
  refine lv_iload_n hx hb dX0_regard_58 rfl (lv_at hl 3 rfl) ?_
  obtain ⟨r12, σ13, eσ13, hs⟩ := sp_bind hs
  refine sv_goV (σ' := σ13) (r := r12) hW F.2.2.2.1 (sv_runN (own := RX0) (host := "OpenWhileItRains") F hW (k_X7_put hB (sv_oA_of hkc.2.2.1 hkc.2.2.2) eσ13 H.size) gX0_regard_X7_put_n42 rfl ⟨rfl, rfl⟩ (F.2.2.1.1 _ (List.mem_of_getElem? (i := 11) rfl)) (List.mem_of_getElem? (i := 11) rfl) (List.mem_of_getElem? (i := 13) rfl) 3 (by decide +kernel) (sv_room2 (by omega) (by omega)) rfl hl.1 rfl (Nat.le_of_ble_eq_true rfl) dX0_regard_59 ⟨Nat.zero_le _, Nat.zero_le _⟩) (fun H locs hW => ?_)
  refine lv_aload_n hx hb dX0_regard_62 rfl (lv_at hl 0 rfl) ?_
  refine sv_get (own := RX0) (C := RX0) (Tf := TX0) (N := 4) (index := 9) (κ := (3, 1)) (v := .ref (h (kc + 1))) hx hb hts hown hK hW (fun _ h => List.mem_cons_of_mem _ (List.mem_append_right _ h)) hkc.1 hkc.2.1 rfl 0 (by decide) rfl rfl (List.mem_of_getElem? (i := 7) rfl) dX0_regard_63 ?_
  refine lv_iconst (v := 4) hx hb dX0_regard_66 (by decide) ?_
  refine lv_aload_n hx hb dX0_regard_67 rfl (lv_at hl 0 rfl) ?_
  refine sv_get (own := RX0) (C := RX0) (Tf := TX0) (N := 4) (index := 36) (κ := (0, 0)) (v := .int (σ13.1 kc 3)) hx hb hts hown hK hW (fun _ h => List.mem_cons_of_mem _ (List.mem_append_right _ h)) hkc.1 hkc.2.1 rfl 3 (by decide) rfl rfl (List.mem_of_getElem? (i := 6) rfl) dX0_regard_68 ?_
  obtain ⟨r14, σ15, eσ15, hs⟩ := sp_bind hs
  refine sv_goV (σ' := σ15) (r := r14) hW F.2.2.2.1 (sv_runN (own := RX0) (host := "OpenWhileItRains") F hW (k_X7_put hB (sv_oA_of hkc.2.2.1 hkc.2.2.2) eσ15 H.size) gX0_regard_X7_put_n42 rfl ⟨rfl, rfl⟩ (F.2.2.1.1 _ (List.mem_of_getElem? (i := 11) rfl)) (List.mem_of_getElem? (i := 11) rfl) (List.mem_of_getElem? (i := 13) rfl) 3 (by decide +kernel) (sv_room2 (by omega) (by omega)) rfl hl.1 rfl (Nat.le_of_ble_eq_true rfl) dX0_regard_71 ⟨Nat.zero_le _, Nat.zero_le _⟩) (fun H locs hW => ?_)
  refine lv_aload_n hx hb dX0_regard_74 rfl (lv_at hl 0 rfl) ?_
  refine sv_get (own := RX0) (C := RX0) (Tf := TX0) (N := 4) (index := 9) (κ := (3, 1)) (v := .ref (h (kc + 1))) hx hb hts hown hK hW (fun _ h => List.mem_cons_of_mem _ (List.mem_append_right _ h)) hkc.1 hkc.2.1 rfl 0 (by decide) rfl rfl (List.mem_of_getElem? (i := 7) rfl) dX0_regard_75 ?_
  refine lv_iconst (v := 5) hx hb dX0_regard_78 (by decide) ?_
  refine lv_aload_n hx hb dX0_regard_79 rfl (lv_at hl 1 rfl) ?_
  refine sv_get (own := RX0) (C := RX2) (Tf := TX2) (N := 8) (index := 46) (κ := (0, 0)) (v := .int (σ15.1 1 5)) hx hb hts hown hK hW (fun _ h => List.mem_cons_of_mem _ (List.mem_append_left _ (List.mem_append_right _ h))) (sx_i 1 hB (by decide)) (sx_c1 hB) rfl 5 (by decide) rfl rfl (List.mem_of_getElem? (i := 9) rfl) dX0_regard_80 ?_
  obtain ⟨r16, σ17, eσ17, hs⟩ := sp_bind hs
  refine sv_goV (σ' := σ17) (r := r16) hW F.2.2.2.1 (sv_runN (own := RX0) (host := "OpenWhileItRains") F hW (k_X7_put hB (sv_oA_of hkc.2.2.1 hkc.2.2.2) eσ17 H.size) gX0_regard_X7_put_n42 rfl ⟨rfl, rfl⟩ (F.2.2.1.1 _ (List.mem_of_getElem? (i := 11) rfl)) (List.mem_of_getElem? (i := 11) rfl) (List.mem_of_getElem? (i := 13) rfl) 3 (by decide +kernel) (sv_room2 (by omega) (by omega)) rfl hl.1 rfl (Nat.le_of_ble_eq_true rfl) dX0_regard_83 ⟨Nat.zero_le _, Nat.zero_le _⟩) (fun H locs hW => ?_)
  cases hs
  exact sv_vret hx hb hr hlk hW dX0_regard_86
set_option maxRecDepth 100000 in
set_option maxHeartbeats 4000000 in
theorem k_X0_rainIn {qK qV : Nat → Nat} {l : Launch} {D : va_G} {T : Nat → ClassId} {h : Nat → Nat} {θ : sv_T} {kc : Nat} {b1 : Nat} {a2 : Int32} {σ : sv_S} {r : Int32} {σ' : sv_S} (hB : sx_base θ) (hkc : sv_oX0 θ kc) (hb1 : sv_oA θ b1) (hs : q_X0_rainIn θ kc b1 a2 σ = some (r, σ')) : sv_Mi (sx_X qK qV) l D T (sx_tys T) h θ yX0_rainIn wsX0_rainIn (sv_rm 0 0) [.ref (h kc), .ref (h b1), .int a2] σ r σ' := by
  intro sz
  refine sv_enter (cc := cX0_rainIn) (maxL := 4) (ret := (some .int)) (Qc := fun A => va_Qi (fun r2 (_ : Unit) => r2 = r) (fun _ t => va_P D vwCl (sv_ws T h θ σ') t.heap) A) sx_XP (by decide) rfl (Nat.le_of_ble_eq_true rfl) ?_
  intro p e s m args below meth c A F hr hlk ls H hl hW
  have hx := F.1.1
  have hb := F.1.2.1
  have hts := F.1.2.2.2.2
  have hown := F.1.2.2.2.1
  have hK := F.2.1
  obtain ⟨locs, hlocs⟩ : ∃ z : List Loc, z = [] := ⟨_, rfl⟩
  rw [← hlocs] at hW ⊢
  have hl : lv_has ls 4 [(0, .ref (h kc)), (1, .ref (h b1)), (2, .int a2)] := hl
  unfold q_X0_rainIn at hs
  refine lv_aload_n hx hb dX0_rainIn_0 rfl (lv_at hl 0 rfl) ?_
  refine sv_get (own := RX0) (C := RX0) (Tf := TX0) (N := 4) (index := 36) (κ := (0, 0)) (v := .int (σ.1 kc 3)) hx hb hts hown hK hW (fun _ h => List.mem_cons_of_mem _ (List.mem_append_right _ h)) hkc.1 hkc.2.1 rfl 3 (by decide) rfl rfl (List.mem_of_getElem? (i := 1) rfl) dX0_rainIn_1 ?_
  refine lv_bipush (v := 24) hx hb dX0_rainIn_4 (by decide) ?_
  refine lv_imul hx hb dX0_rainIn_6 ?_
  refine lv_iload_n hx hb dX0_rainIn_7 rfl (lv_at hl 2 rfl) ?_
  refine lv_iadd hx hb dX0_rainIn_8 ?_
  refine lv_topi (fun v1 ev1 => ?_)
  replace hs := sp_let hs ev1
  refine lv_istore_n (lv' := [(3, .int v1), (0, .ref (h kc)), (1, .ref (h b1)), (2, .int a2)]) hx hb dX0_rainIn_9 rfl hl (by decide) rfl (fun ls hl => ?_)
  refine lv_aload_n hx hb dX0_rainIn_10 rfl (lv_at hl 2 rfl) ?_
  refine lv_ifnull hx hb dX0_rainIn_11 ?_
  refine lv_iload_n hx hb dX0_rainIn_14 rfl (lv_at hl 3 rfl) ?_
  refine lv_if_lt (tgt := 40) hx hb dX0_rainIn_15 (by decide) (fun c2 => ?_) (fun c2 => ?_)
  · replace hs := (sp_ite hs).1 c2
    refine lv_iconst (v := 0) hx hb dX0_rainIn_40 (by decide) ?_
    cases hs
    exact sv_iret hx hb hr rfl hlk hW dX0_rainIn_41
  · replace hs := (sp_ite hs).2 c2
    refine lv_iload_n hx hb dX0_rainIn_18 rfl (lv_at hl 3 rfl) ?_
    refine lv_bipush (v := 24) hx hb dX0_rainIn_19 (by decide) ?_
    refine lv_icmp_ge (tgt := 40) hx hb dX0_rainIn_21 (by decide) (fun c3 => ?_) (fun c3 => ?_)
    · replace hs := (sp_ite hs).1 c3
      refine lv_iconst (v := 0) hx hb dX0_rainIn_40 (by decide) ?_
      cases hs
      exact sv_iret hx hb hr rfl hlk hW dX0_rainIn_41
    · replace hs := (sp_ite hs).2 c3
      refine lv_iload_n hx hb dX0_rainIn_24 rfl (lv_at hl 0 rfl) ?_
      refine lv_if_lt (tgt := 40) hx hb dX0_rainIn_25 (by decide) (fun c4 => ?_) (fun c4 => ?_)
      · replace hs := (sp_ite hs).1 c4
        refine lv_iconst (v := 0) hx hb dX0_rainIn_40 (by decide) ?_
        cases hs
        exact sv_iret hx hb hr rfl hlk hW dX0_rainIn_41
      · replace hs := (sp_ite hs).2 c4
        refine lv_iload_n hx hb dX0_rainIn_28 rfl (lv_at hl 0 rfl) ?_
        refine lv_aload_n hx hb dX0_rainIn_29 rfl (lv_at hl 2 rfl) ?_
        refine sv_alen (t := 0) (v := (Int32.ofNat (sv_len θ b1))) hx hb hK hW hb1.1 hb1.2 0 rfl rfl dX0_rainIn_30 ?_
        refine lv_icmp_ge (tgt := 40) hx hb dX0_rainIn_31 (by decide) (fun c5 => ?_) (fun c5 => ?_)
        · replace hs := (sp_ite hs).1 c5
          refine lv_iconst (v := 0) hx hb dX0_rainIn_40 (by decide) ?_
          cases hs
          exact sv_iret hx hb hr rfl hlk hW dX0_rainIn_41
        · replace hs := (sp_ite hs).2 c5
          refine lv_aload_n hx hb dX0_rainIn_34 rfl (lv_at hl 2 rfl) ?_
          refine lv_iload_n hx hb dX0_rainIn_35 rfl (lv_at hl 0 rfl) ?_
          obtain ⟨hi6, hs⟩ := sp_g hs
          refine sv_iald hx hb hK hW hb1.1 hb1.2 0 rfl hi6 dX0_rainIn_36 ?_
          refine lv_goto (tgt := 41) hx hb dX0_rainIn_37 (by decide) ?_
          cases hs
          exact sv_iret hx hb hr rfl hlk hW dX0_rainIn_41
set_option maxRecDepth 100000 in
set_option maxHeartbeats 4000000 in
theorem k_X0_see {qK qV : Nat → Nat} {l : Launch} {D : va_G} {T : Nat → ClassId} {h : Nat → Nat} {θ : sv_T} {kc : Nat} {b1 : Nat} {a2 : Int32} {σ : sv_S} {r : Unit} {σ' : sv_S} (hB : sx_base θ) (hkc : sv_oX0 θ kc) (hb1 : sv_oA θ b1) (hs : q_X0_see θ kc b1 a2 σ = some (r, σ')) : sv_Mv (sx_X qK qV) l D T (sx_tys T) h θ yX0_see wsX0_see (sv_rm 1 23) [.ref (h kc), .ref (h b1), .int a2] σ r σ' := by
  intro sz
  refine sv_enter (cc := cX0_see) (maxL := 3) (ret := none) (Qc := fun A => va_Qv (fun (_ : Unit) => True) (fun _ t => va_P D vwCl (sv_ws T h θ σ') t.heap) A) sx_XP (by decide) rfl (Nat.le_of_ble_eq_true rfl) ?_
  intro p e s m args below meth c A F hr hlk ls H hl hW
  have hx := F.1.1
  have hb := F.1.2.1
  have hts := F.1.2.2.2.2
  have hown := F.1.2.2.2.1
  have hK := F.2.1
  obtain ⟨locs, hlocs⟩ : ∃ z : List Loc, z = [] := ⟨_, rfl⟩
  rw [← hlocs] at hW ⊢
  have hl : lv_has ls 3 [(0, .ref (h kc)), (1, .ref (h b1)), (2, .int a2)] := hl
  unfold q_X0_see at hs
  refine lv_aload_n hx hb dX0_see_0 rfl (lv_at hl 0 rfl) ?_
  refine sv_get (own := RX0) (C := RX0) (Tf := TX0) (N := 4) (index := 9) (κ := (3, 1)) (v := .ref (h (kc + 1))) hx hb hts hown hK hW (fun _ h => List.mem_cons_of_mem _ (List.mem_append_right _ h)) hkc.1 hkc.2.1 rfl 0 (by decide) rfl rfl (List.mem_of_getElem? (i := 1) rfl) dX0_see_1 ?_
  refine lv_iconst (v := 0) hx hb dX0_see_4 (by decide) ?_
  refine lv_aload_n hx hb dX0_see_5 rfl (lv_at hl 0 rfl) ?_
  refine lv_aload_n hx hb dX0_see_6 rfl (lv_at hl 1 rfl) ?_
  refine lv_iload_n hx hb dX0_see_7 rfl (lv_at hl 2 rfl) ?_
  obtain ⟨r1, σ2, eσ2, hs⟩ := sp_bind hs
  refine sv_goI (σ' := σ2) (r := r1) hW F.2.2.2.1 (sv_runV (C := RX0) F hW (k_X0_rainIn hB hkc hb1 eσ2 H.size) gX0_see_X0_rainIn rfl ⟨rfl, rfl⟩ 2 (by decide +kernel) (sv_room2 (by omega) (by omega)) hkc.1 hkc.2.1 rfl rfl hl.1 rfl (Nat.le_of_ble_eq_true rfl) dX0_see_8 ⟨Nat.zero_le _, Nat.zero_le _⟩) (fun H locs hW => ?_)
  obtain ⟨r3, σ4, eσ4, hs⟩ := sp_bind hs
  refine sv_goV (σ' := σ4) (r := r3) hW F.2.2.2.1 (sv_runN (own := RX0) (host := "OpenWhileItRains") F hW (k_X7_put hB (sv_oA_of hkc.2.2.1 hkc.2.2.2) eσ4 H.size) gX0_see_X7_put_n42 rfl ⟨rfl, rfl⟩ (F.2.2.1.1 _ (List.mem_of_getElem? (i := 11) rfl)) (List.mem_of_getElem? (i := 9) rfl) (List.mem_of_getElem? (i := 8) rfl) 3 (by decide +kernel) (sv_room2 (by omega) (by omega)) rfl hl.1 rfl (Nat.le_of_ble_eq_true rfl) dX0_see_11 ⟨Nat.zero_le _, Nat.zero_le _⟩) (fun H locs hW => ?_)
  refine lv_aload_n hx hb dX0_see_14 rfl (lv_at hl 0 rfl) ?_
  refine sv_get (own := RX0) (C := RX0) (Tf := TX0) (N := 4) (index := 9) (κ := (3, 1)) (v := .ref (h (kc + 1))) hx hb hts hown hK hW (fun _ h => List.mem_cons_of_mem _ (List.mem_append_right _ h)) hkc.1 hkc.2.1 rfl 0 (by decide) rfl rfl (List.mem_of_getElem? (i := 1) rfl) dX0_see_15 ?_
  refine lv_iconst (v := 1) hx hb dX0_see_18 (by decide) ?_
  refine lv_iload_n hx hb dX0_see_19 rfl (lv_at hl 2 rfl) ?_
  obtain ⟨r5, σ6, eσ6, hs⟩ := sp_bind hs
  refine sv_goV (σ' := σ6) (r := r5) hW F.2.2.2.1 (sv_runN (own := RX0) (host := "OpenWhileItRains") F hW (k_X7_put hB (sv_oA_of hkc.2.2.1 hkc.2.2.2) eσ6 H.size) gX0_see_X7_put_n42 rfl ⟨rfl, rfl⟩ (F.2.2.1.1 _ (List.mem_of_getElem? (i := 11) rfl)) (List.mem_of_getElem? (i := 9) rfl) (List.mem_of_getElem? (i := 8) rfl) 3 (by decide +kernel) (sv_room2 (by omega) (by omega)) rfl hl.1 rfl (Nat.le_of_ble_eq_true rfl) dX0_see_20 ⟨Nat.zero_le _, Nat.zero_le _⟩) (fun H locs hW => ?_)
  cases hs
  exact sv_vret hx hb hr hlk hW dX0_see_23
set_option maxRecDepth 100000 in
set_option maxHeartbeats 4000000 in
theorem k_X6_joined {qK qV : Nat → Nat} {l : Launch} {D : va_G} {T : Nat → ClassId} {h : Nat → Nat} {θ : sv_T} {a1 : Int32} {a2 : Int32} {a3 : Int32} {σ : sv_S} {r : Int32} {σ' : sv_S} (hB : sx_base θ)  (hs : q_X6_joined θ a1 a2 a3 σ = some (r, σ')) : sv_Mi (sx_X qK qV) l D T (sx_tys T) h θ yX6_joined wsX6_joined (sv_rm 0 0) [.int a1, .int a2, .int a3] σ r σ' := by
  intro sz
  refine sv_enter (cc := cX6_joined) (maxL := 3) (ret := (some .int)) (Qc := fun A => va_Qi (fun r2 (_ : Unit) => r2 = r) (fun _ t => va_P D vwCl (sv_ws T h θ σ') t.heap) A) sx_XP (by decide) rfl (Nat.le_of_ble_eq_true rfl) ?_
  intro p e s m args below meth c A F hr hlk ls H hl hW
  have hx := F.1.1
  have hb := F.1.2.1
  have hts := F.1.2.2.2.2
  have hown := F.1.2.2.2.1
  have hK := F.2.1
  obtain ⟨locs, hlocs⟩ : ∃ z : List Loc, z = [] := ⟨_, rfl⟩
  rw [← hlocs] at hW ⊢
  have hl : lv_has ls 3 [(0, .int a1), (1, .int a2), (2, .int a3)] := hl
  unfold q_X6_joined at hs
  refine lv_iload_n hx hb dX6_joined_0 rfl (lv_at hl 0 rfl) ?_
  by_cases c1 : a1 = 7
  · replace hs := (sp_ite hs).1 c1
    refine lv_lookup (off := 93) (tgt := 94) hx hb dX6_joined_1 (by decide) (by rw [c1]; decide) (by decide) ?_
    refine lv_iload_n hx hb dX6_joined_94 rfl (lv_at hl 1 rfl) ?_
    refine lv_if_eq (tgt := 106) hx hb dX6_joined_95 (by decide) (fun c2 => ?_) (fun c2 => ?_)
    · replace hs := (sp_ite hs).1 c2
      refine lv_iconst (v := 0) hx hb dX6_joined_106 (by decide) ?_
      cases hs
      exact sv_iret hx hb hr rfl hlk hW dX6_joined_107
    · replace hs := (sp_ite hs).2 c2
      refine lv_iload_n hx hb dX6_joined_98 rfl (lv_at hl 2 rfl) ?_
      refine lv_if_eq (tgt := 106) hx hb dX6_joined_99 (by decide) (fun c3 => ?_) (fun c3 => ?_)
      · replace hs := (sp_ite hs).1 c3
        refine lv_iconst (v := 0) hx hb dX6_joined_106 (by decide) ?_
        cases hs
        exact sv_iret hx hb hr rfl hlk hW dX6_joined_107
      · replace hs := (sp_ite hs).2 c3
        refine lv_iconst (v := 1) hx hb dX6_joined_102 (by decide) ?_
        refine lv_goto (tgt := 107) hx hb dX6_joined_103 (by decide) ?_
        cases hs
        exact sv_iret hx hb hr rfl hlk hW dX6_joined_107
  replace hs := (sp_ite hs).2 c1
  by_cases c4 : a1 = 42
  · replace hs := (sp_ite hs).1 c4
    refine lv_lookup (off := 59) (tgt := 60) hx hb dX6_joined_1 (by decide) (by rw [c4]; decide) (by decide) ?_
    refine lv_iload_n hx hb dX6_joined_60 rfl (lv_at hl 1 rfl) ?_
    refine lv_iload_n hx hb dX6_joined_61 rfl (lv_at hl 2 rfl) ?_
    refine lv_imul hx hb dX6_joined_62 ?_
    cases hs
    exact sv_iret hx hb hr rfl hlk hW dX6_joined_63
  replace hs := (sp_ite hs).2 c4
  by_cases c5 : a1 = 43
  · replace hs := (sp_ite hs).1 c5
    refine lv_lookup (off := 63) (tgt := 64) hx hb dX6_joined_1 (by decide) (by rw [c5]; decide) (by decide) ?_
    refine lv_iload_n hx hb dX6_joined_64 rfl (lv_at hl 1 rfl) ?_
    refine lv_iload_n hx hb dX6_joined_65 rfl (lv_at hl 2 rfl) ?_
    refine lv_iadd hx hb dX6_joined_66 ?_
    cases hs
    exact sv_iret hx hb hr rfl hlk hW dX6_joined_67
  replace hs := (sp_ite hs).2 c5
  by_cases c6 : a1 = 45
  · replace hs := (sp_ite hs).1 c6
    refine lv_lookup (off := 67) (tgt := 68) hx hb dX6_joined_1 (by decide) (by rw [c6]; decide) (by decide) ?_
    refine lv_iload_n hx hb dX6_joined_68 rfl (lv_at hl 1 rfl) ?_
    refine lv_iload_n hx hb dX6_joined_69 rfl (lv_at hl 2 rfl) ?_
    refine lv_isub hx hb dX6_joined_70 ?_
    cases hs
    exact sv_iret hx hb hr rfl hlk hW dX6_joined_71
  replace hs := (sp_ite hs).2 c6
  by_cases c7 : a1 = 60
  · replace hs := (sp_ite hs).1 c7
    refine lv_lookup (off := 71) (tgt := 72) hx hb dX6_joined_1 (by decide) (by rw [c7]; decide) (by decide) ?_
    refine lv_iload_n hx hb dX6_joined_72 rfl (lv_at hl 1 rfl) ?_
    refine lv_iload_n hx hb dX6_joined_73 rfl (lv_at hl 2 rfl) ?_
    refine lv_icmp_ge (tgt := 81) hx hb dX6_joined_74 (by decide) (fun c8 => ?_) (fun c8 => ?_)
    · replace hs := (sp_ite hs).1 c8
      refine lv_iconst (v := 0) hx hb dX6_joined_81 (by decide) ?_
      cases hs
      exact sv_iret hx hb hr rfl hlk hW dX6_joined_82
    · replace hs := (sp_ite hs).2 c8
      refine lv_iconst (v := 1) hx hb dX6_joined_77 (by decide) ?_
      refine lv_goto (tgt := 82) hx hb dX6_joined_78 (by decide) ?_
      cases hs
      exact sv_iret hx hb hr rfl hlk hW dX6_joined_82
  replace hs := (sp_ite hs).2 c7
  by_cases c9 : a1 = 61
  · replace hs := (sp_ite hs).1 c9
    refine lv_lookup (off := 82) (tgt := 83) hx hb dX6_joined_1 (by decide) (by rw [c9]; decide) (by decide) ?_
    refine lv_iload_n hx hb dX6_joined_83 rfl (lv_at hl 1 rfl) ?_
    refine lv_iload_n hx hb dX6_joined_84 rfl (lv_at hl 2 rfl) ?_
    refine lv_icmp_ne (tgt := 92) hx hb dX6_joined_85 (by decide) (fun c10 => ?_) (fun c10 => ?_)
    · replace hs := (sp_ite hs).2 c10
      refine lv_iconst (v := 0) hx hb dX6_joined_92 (by decide) ?_
      cases hs
      exact sv_iret hx hb hr rfl hlk hW dX6_joined_93
    · replace hs := (sp_ite hs).1 c10
      refine lv_iconst (v := 1) hx hb dX6_joined_88 (by decide) ?_
      refine lv_goto (tgt := 93) hx hb dX6_joined_89 (by decide) ?_
      cases hs
      exact sv_iret hx hb hr rfl hlk hW dX6_joined_93
  replace hs := (sp_ite hs).2 c9
  refine lv_lookup (off := 107) (tgt := 108) hx hb dX6_joined_1 (by decide) ((lv_osw c1 (by decide)).trans ((lv_osw c4 (by decide)).trans ((lv_osw c5 (by decide)).trans ((lv_osw c6 (by decide)).trans ((lv_osw c7 (by decide)).trans ((lv_osw c9 (by decide)).trans rfl)))))) (by decide) ?_
  refine lv_iload_n hx hb dX6_joined_108 rfl (lv_at hl 1 rfl) ?_
  refine lv_if_ne (tgt := 116) hx hb dX6_joined_109 (by decide) (fun c11 => ?_) (fun c11 => ?_)
  · replace hs := (sp_ite hs).2 c11
    refine lv_iconst (v := 1) hx hb dX6_joined_116 (by decide) ?_
    refine lv_goto (tgt := 121) hx hb dX6_joined_117 (by decide) ?_
    cases hs
    exact sv_iret hx hb hr rfl hlk hW dX6_joined_121
  · replace hs := (sp_ite hs).1 c11
    refine lv_iload_n hx hb dX6_joined_112 rfl (lv_at hl 2 rfl) ?_
    refine lv_if_eq (tgt := 120) hx hb dX6_joined_113 (by decide) (fun c12 => ?_) (fun c12 => ?_)
    · replace hs := (sp_ite hs).1 c12
      refine lv_iconst (v := 0) hx hb dX6_joined_120 (by decide) ?_
      cases hs
      exact sv_iret hx hb hr rfl hlk hW dX6_joined_121
    · replace hs := (sp_ite hs).2 c12
      refine lv_iconst (v := 1) hx hb dX6_joined_116 (by decide) ?_
      refine lv_goto (tgt := 121) hx hb dX6_joined_117 (by decide) ?_
      cases hs
      exact sv_iret hx hb hr rfl hlk hW dX6_joined_121
set_option maxRecDepth 100000 in
set_option maxHeartbeats 4000000 in
theorem b_X6_tell_25 {qK qV : Nat → Nat} {p : Program} {l : Launch} {e : Env} {s : State} {m : MethodId} {args : Array Value} {below : List Frame} {meth : Method} {c : Code} {D : va_G} {T : Nat → ClassId} {A : Nat → Prop} {h : Nat → Nat} {θ : sv_T} {kt : Nat} {a1 : Int32} {b2 : Nat} {r : Int32} {σ' : sv_S} (hB : sx_base θ) (hkt : sv_oX6 θ kt) (hb2 : sv_oA θ b2) (F : sv_F (sx_X qK qV) p m c cX6_tell 6 s args wsX6_tell RX6 D (sx_tys T) A) (hr : meth.sig.returnType = (some .int)) (hlk : meth.locks = false)  : ∀ (n : Nat), ∀ (x3 : Int32) (x4 : Int32) (σ : sv_S) (H : Heap) (locs : List Loc) (ls : Array Slot), lv_has ls 6 [(0, .ref (h kt)), (2, .ref (h b2)), (3, .int x3), (4, .int x4)] → sv_W D T A s h θ σ H locs → q_X6_tell_B25 θ kt a1 b2 n x3 x4 σ = some (r, σ') → W p l e (sv_rm 1 22) s m args below meth c H locs 0 0 (MQ below (va_Qi (fun r2 (_ : Unit) => r2 = r) (fun _ t => va_P D vwCl (sv_ws T h θ σ') t.heap) A) args s 0 0 A) (F0 m 25 ls []) := by
  have hx := F.1.1
  have hb := F.1.2.1
  have hts := F.1.2.2.2.2
  have hown := F.1.2.2.2.1
  have hK := F.2.1
  intro n
  induction n with
  | zero =>
    intro x3 x4 σ H locs ls hl hW hs
    have hs : (none : Option (Int32 × sv_S)) = some (r, σ') := hs
    cases hs
  | succ n ih =>
    intro x3 x4 σ H locs ls hl hW hs
    have hs : q_X6_tell_B25_b θ kt a1 b2 (q_X6_tell_B25 θ kt a1 b2 n) x3 x4 σ = some (r, σ') := hs
    unfold q_X6_tell_B25_b at hs
    refine lv_iload hx hb dX6_tell_25 (lv_at hl 3 rfl) ?_
    refine lv_if_lt (tgt := 226) hx hb dX6_tell_27 (by decide) (fun c3 => ?_) (fun c3 => ?_)
    · replace hs := (sp_ite hs).1 c3
      refine lv_aload_n hx hb dX6_tell_226 rfl (lv_at hl 0 rfl) ?_
      refine sv_get (own := RX6) (C := RX6) (Tf := TX6) (N := 4) (index := 9) (κ := (3, 3)) (v := .ref (h (kt + 3))) hx hb hts hown hK hW (fun _ h => List.mem_cons_of_mem _ (List.mem_append_right _ h)) hkt.1 hkt.2.1 rfl 3 (by decide) rfl rfl (List.mem_of_getElem? (i := 3) rfl) dX6_tell_227 ?_
      refine lv_iconst (v := 0) hx hb dX6_tell_230 (by decide) ?_
      obtain ⟨r4, σ5, eσ5, hs⟩ := sp_bind hs
      refine sv_goI (σ' := σ5) (r := r4) hW F.2.2.2.1 (sv_runN (own := RX6) (host := "OpenWhileItRains") F hW (k_X7_at hB (sv_oA_of hkt.2.2.2.2.1 hkt.2.2.2.2.2) eσ5 H.size) gX6_tell_X7_at_n25 rfl ⟨rfl, rfl⟩ (F.2.2.1.1 _ (List.mem_of_getElem? (i := 12) rfl)) (List.mem_of_getElem? (i := 5) rfl) (List.mem_of_getElem? (i := 4) rfl) 2 (by decide +kernel) (sv_room2 (by omega) (by omega)) rfl hl.1 rfl (Nat.le_of_ble_eq_true rfl) dX6_tell_231 ⟨Nat.zero_le _, Nat.zero_le _⟩) (fun H locs hW => ?_)
      cases hs
      exact sv_iret hx hb hr rfl hlk hW dX6_tell_234
    · replace hs := (sp_ite hs).2 c3
      refine lv_iload hx hb dX6_tell_30 (lv_at hl 3 rfl) ?_
      refine lv_aload_n hx hb dX6_tell_32 rfl (lv_at hl 0 rfl) ?_
      refine sv_get (own := RX6) (C := RX6) (Tf := TX6) (N := 4) (index := 19) (κ := (3, 1)) (v := .ref (h (kt + 1))) hx hb hts hown hK hW (fun _ h => List.mem_cons_of_mem _ (List.mem_append_right _ h)) hkt.1 hkt.2.1 rfl 1 (by decide) rfl rfl (List.mem_of_getElem? (i := 1) rfl) dX6_tell_33 ?_
      refine sv_alen (t := 0) (v := (Int32.ofNat (sv_len θ (kt + 1)))) hx hb hK hW hkt.2.2.1.1 hkt.2.2.1.2 0 rfl rfl dX6_tell_36 ?_
      refine lv_icmp_ge (tgt := 226) hx hb dX6_tell_37 (by decide) (fun c6 => ?_) (fun c6 => ?_)
      · replace hs := (sp_ite hs).1 c6
        refine lv_aload_n hx hb dX6_tell_226 rfl (lv_at hl 0 rfl) ?_
        refine sv_get (own := RX6) (C := RX6) (Tf := TX6) (N := 4) (index := 9) (κ := (3, 3)) (v := .ref (h (kt + 3))) hx hb hts hown hK hW (fun _ h => List.mem_cons_of_mem _ (List.mem_append_right _ h)) hkt.1 hkt.2.1 rfl 3 (by decide) rfl rfl (List.mem_of_getElem? (i := 3) rfl) dX6_tell_227 ?_
        refine lv_iconst (v := 0) hx hb dX6_tell_230 (by decide) ?_
        obtain ⟨r7, σ8, eσ8, hs⟩ := sp_bind hs
        refine sv_goI (σ' := σ8) (r := r7) hW F.2.2.2.1 (sv_runN (own := RX6) (host := "OpenWhileItRains") F hW (k_X7_at hB (sv_oA_of hkt.2.2.2.2.1 hkt.2.2.2.2.2) eσ8 H.size) gX6_tell_X7_at_n25 rfl ⟨rfl, rfl⟩ (F.2.2.1.1 _ (List.mem_of_getElem? (i := 12) rfl)) (List.mem_of_getElem? (i := 5) rfl) (List.mem_of_getElem? (i := 4) rfl) 2 (by decide +kernel) (sv_room2 (by omega) (by omega)) rfl hl.1 rfl (Nat.le_of_ble_eq_true rfl) dX6_tell_231 ⟨Nat.zero_le _, Nat.zero_le _⟩) (fun H locs hW => ?_)
        cases hs
        exact sv_iret hx hb hr rfl hlk hW dX6_tell_234
      · replace hs := (sp_ite hs).2 c6
        refine lv_aload_n hx hb dX6_tell_40 rfl (lv_at hl 0 rfl) ?_
        refine sv_get (own := RX6) (C := RX6) (Tf := TX6) (N := 4) (index := 19) (κ := (3, 1)) (v := .ref (h (kt + 1))) hx hb hts hown hK hW (fun _ h => List.mem_cons_of_mem _ (List.mem_append_right _ h)) hkt.1 hkt.2.1 rfl 1 (by decide) rfl rfl (List.mem_of_getElem? (i := 1) rfl) dX6_tell_41 ?_
        refine lv_iload hx hb dX6_tell_44 (lv_at hl 3 rfl) ?_
        obtain ⟨hi9, hs⟩ := sp_g hs
        refine sv_iald hx hb hK hW hkt.2.2.1.1 hkt.2.2.1.2 0 rfl hi9 dX6_tell_46 ?_
        refine lv_bipush (v := -59) hx hb dX6_tell_47 (by decide) ?_
        refine lv_icmp_eq (tgt := 226) hx hb dX6_tell_49 (by decide) (fun c10 => ?_) (fun c10 => ?_)
        · replace hs := (sp_ite hs).1 c10
          refine lv_aload_n hx hb dX6_tell_226 rfl (lv_at hl 0 rfl) ?_
          refine sv_get (own := RX6) (C := RX6) (Tf := TX6) (N := 4) (index := 9) (κ := (3, 3)) (v := .ref (h (kt + 3))) hx hb hts hown hK hW (fun _ h => List.mem_cons_of_mem _ (List.mem_append_right _ h)) hkt.1 hkt.2.1 rfl 3 (by decide) rfl rfl (List.mem_of_getElem? (i := 3) rfl) dX6_tell_227 ?_
          refine lv_iconst (v := 0) hx hb dX6_tell_230 (by decide) ?_
          obtain ⟨r11, σ12, eσ12, hs⟩ := sp_bind hs
          refine sv_goI (σ' := σ12) (r := r11) hW F.2.2.2.1 (sv_runN (own := RX6) (host := "OpenWhileItRains") F hW (k_X7_at hB (sv_oA_of hkt.2.2.2.2.1 hkt.2.2.2.2.2) eσ12 H.size) gX6_tell_X7_at_n25 rfl ⟨rfl, rfl⟩ (F.2.2.1.1 _ (List.mem_of_getElem? (i := 12) rfl)) (List.mem_of_getElem? (i := 5) rfl) (List.mem_of_getElem? (i := 4) rfl) 2 (by decide +kernel) (sv_room2 (by omega) (by omega)) rfl hl.1 rfl (Nat.le_of_ble_eq_true rfl) dX6_tell_231 ⟨Nat.zero_le _, Nat.zero_le _⟩) (fun H locs hW => ?_)
          cases hs
          exact sv_iret hx hb hr rfl hlk hW dX6_tell_234
        · replace hs := (sp_ite hs).2 c10
          refine lv_aload_n hx hb dX6_tell_52 rfl (lv_at hl 0 rfl) ?_
          refine sv_get (own := RX6) (C := RX6) (Tf := TX6) (N := 4) (index := 19) (κ := (3, 1)) (v := .ref (h (kt + 1))) hx hb hts hown hK hW (fun _ h => List.mem_cons_of_mem _ (List.mem_append_right _ h)) hkt.1 hkt.2.1 rfl 1 (by decide) rfl rfl (List.mem_of_getElem? (i := 1) rfl) dX6_tell_53 ?_
          refine lv_iload hx hb dX6_tell_56 (lv_at hl 3 rfl) ?_
          obtain ⟨hi13, hs⟩ := sp_g hs
          refine sv_iald hx hb hK hW hkt.2.2.1.1 hkt.2.2.1.2 0 rfl hi13 dX6_tell_58 ?_
          refine lv_topi (fun v14 ev14 => ?_)
          replace hs := sp_let hs ev14
          refine lv_istore (lv' := [(5, .int v14), (0, .ref (h kt)), (2, .ref (h b2)), (3, .int x3), (4, .int x4)]) hx hb dX6_tell_59 hl (by decide) rfl (fun ls hl => ?_)
          refine lv_iload hx hb dX6_tell_61 (lv_at hl 0 rfl) ?_
          refine lv_if_lt (tgt := 82) hx hb dX6_tell_63 (by decide) (fun c15 => ?_) (fun c15 => ?_)
          · replace hs := (sp_ite hs).1 c15
            refine lv_iload hx hb dX6_tell_82 (lv_at hl 0 rfl) ?_
            refine lv_bipush (v := -100) hx hb dX6_tell_84 (by decide) ?_
            refine lv_icmp_gt (tgt := 112) hx hb dX6_tell_86 (by decide) (fun c16 => ?_) (fun c16 => ?_)
            · replace hs := (sp_ite hs).1 c16
              refine lv_iload hx hb dX6_tell_112 (lv_at hl 0 rfl) ?_
              refine lv_bipush (v := -9) hx hb dX6_tell_114 (by decide) ?_
              refine lv_icmp_ne (tgt := 143) hx hb dX6_tell_116 (by decide) (fun c17 => ?_) (fun c17 => ?_)
              · replace hs := (sp_ite hs).2 c17
                refine lv_iload hx hb dX6_tell_143 (lv_at hl 0 rfl) ?_
                refine lv_bipush (v := -8) hx hb dX6_tell_145 (by decide) ?_
                refine lv_icmp_ne (tgt := 181) hx hb dX6_tell_147 (by decide) (fun c18 => ?_) (fun c18 => ?_)
                · replace hs := (sp_ite hs).2 c18
                  refine lv_aload_n hx hb dX6_tell_181 rfl (lv_at hl 1 rfl) ?_
                  refine sv_get (own := RX6) (C := RX6) (Tf := TX6) (N := 4) (index := 9) (κ := (3, 3)) (v := .ref (h (kt + 3))) hx hb hts hown hK hW (fun _ h => List.mem_cons_of_mem _ (List.mem_append_right _ h)) hkt.1 hkt.2.1 rfl 3 (by decide) rfl rfl (List.mem_of_getElem? (i := 3) rfl) dX6_tell_182 ?_
                  refine lv_iload_n hx hb dX6_tell_185 rfl (lv_at hl 3 rfl) ?_
                  refine lv_iconst (v := 2) hx hb dX6_tell_186 (by decide) ?_
                  refine lv_isub hx hb dX6_tell_187 ?_
                  refine lv_iload hx hb dX6_tell_188 (lv_at hl 0 rfl) ?_
                  refine lv_ineg hx hb dX6_tell_190 ?_
                  refine lv_aload_n hx hb dX6_tell_191 rfl (lv_at hl 1 rfl) ?_
                  refine sv_get (own := RX6) (C := RX6) (Tf := TX6) (N := 4) (index := 9) (κ := (3, 3)) (v := .ref (h (kt + 3))) hx hb hts hown hK hW (fun _ h => List.mem_cons_of_mem _ (List.mem_append_right _ h)) hkt.1 hkt.2.1 rfl 3 (by decide) rfl rfl (List.mem_of_getElem? (i := 3) rfl) dX6_tell_192 ?_
                  refine lv_iload_n hx hb dX6_tell_195 rfl (lv_at hl 3 rfl) ?_
                  refine lv_iconst (v := 2) hx hb dX6_tell_196 (by decide) ?_
                  refine lv_isub hx hb dX6_tell_197 ?_
                  obtain ⟨r19, σ20, eσ20, hs⟩ := sp_bind hs
                  refine sv_goI (σ' := σ20) (r := r19) hW F.2.2.2.1 (sv_runN (own := RX6) (host := "OpenWhileItRains") F hW (k_X7_at hB (sv_oA_of hkt.2.2.2.2.1 hkt.2.2.2.2.2) eσ20 H.size) gX6_tell_X7_at_n25 rfl ⟨rfl, rfl⟩ (F.2.2.1.1 _ (List.mem_of_getElem? (i := 12) rfl)) (List.mem_of_getElem? (i := 5) rfl) (List.mem_of_getElem? (i := 4) rfl) 2 (by decide +kernel) (sv_room2 (by omega) (by omega)) rfl hl.1 rfl (Nat.le_of_ble_eq_true rfl) dX6_tell_198 ⟨Nat.zero_le _, Nat.zero_le _⟩) (fun H locs hW => ?_)
                  refine lv_aload_n hx hb dX6_tell_201 rfl (lv_at hl 1 rfl) ?_
                  refine sv_get (own := RX6) (C := RX6) (Tf := TX6) (N := 4) (index := 9) (κ := (3, 3)) (v := .ref (h (kt + 3))) hx hb hts hown hK hW (fun _ h => List.mem_cons_of_mem _ (List.mem_append_right _ h)) hkt.1 hkt.2.1 rfl 3 (by decide) rfl rfl (List.mem_of_getElem? (i := 3) rfl) dX6_tell_202 ?_
                  refine lv_iload_n hx hb dX6_tell_205 rfl (lv_at hl 3 rfl) ?_
                  refine lv_iconst (v := 1) hx hb dX6_tell_206 (by decide) ?_
                  refine lv_isub hx hb dX6_tell_207 ?_
                  obtain ⟨r21, σ22, eσ22, hs⟩ := sp_bind hs
                  refine sv_goI (σ' := σ22) (r := r21) hW F.2.2.2.1 (sv_runN (own := RX6) (host := "OpenWhileItRains") F hW (k_X7_at hB (sv_oA_of hkt.2.2.2.2.1 hkt.2.2.2.2.2) eσ22 H.size) gX6_tell_X7_at_n25 rfl ⟨rfl, rfl⟩ (F.2.2.1.1 _ (List.mem_of_getElem? (i := 12) rfl)) (List.mem_of_getElem? (i := 5) rfl) (List.mem_of_getElem? (i := 4) rfl) 2 (by decide +kernel) (sv_room2 (by omega) (by omega)) rfl hl.1 rfl (Nat.le_of_ble_eq_true rfl) dX6_tell_208 ⟨Nat.zero_le _, Nat.zero_le _⟩) (fun H locs hW => ?_)
                  obtain ⟨r23, σ24, eσ24, hs⟩ := sp_bind hs
                  refine sv_goI (σ' := σ24) (r := r23) hW F.2.2.2.1 (sv_runT F hW (k_X6_joined hB eσ24 H.size) gX6_tell_X6_joined rfl ⟨rfl, rfl⟩ 3 (by decide +kernel) (sv_room2 (by omega) (by omega)) rfl hl.1 rfl (Nat.le_of_ble_eq_true rfl) dX6_tell_211 ⟨Nat.zero_le _, Nat.zero_le _⟩) (fun H locs hW => ?_)
                  obtain ⟨r25, σ26, eσ26, hs⟩ := sp_bind hs
                  refine sv_goV (σ' := σ26) (r := r25) hW F.2.2.2.1 (sv_runN (own := RX6) (host := "OpenWhileItRains") F hW (k_X7_put hB (sv_oA_of hkt.2.2.2.2.1 hkt.2.2.2.2.2) eσ26 H.size) gX6_tell_X7_put_n29 rfl ⟨rfl, rfl⟩ (F.2.2.1.1 _ (List.mem_of_getElem? (i := 13) rfl)) (List.mem_of_getElem? (i := 5) rfl) (List.mem_of_getElem? (i := 7) rfl) 3 (by decide +kernel) (sv_room2 (by omega) (by omega)) rfl hl.1 rfl (Nat.le_of_ble_eq_true rfl) dX6_tell_214 ⟨Nat.zero_le _, Nat.zero_le _⟩) (fun H locs hW => ?_)
                  obtain ⟨v27, ev27⟩ : ∃ y : Int32, y = x3 + (-1) := ⟨_, rfl⟩
                  replace hs := sp_let hs ev27
                  refine lv_iinc (v := v27) (lv' := [(3, .int v27), (5, .int v14), (0, .ref (h kt)), (2, .ref (h b2)), (4, .int x4)]) hx hb dX6_tell_217 hl (k := 3) rfl (by rw [ev27]; rfl) (by decide) rfl (fun ls hl => ?_)
                  obtain ⟨v28, ev28⟩ : ∃ y : Int32, y = x4 + 1 := ⟨_, rfl⟩
                  replace hs := sp_let hs ev28
                  refine lv_iinc (v := v28) (lv' := [(4, .int v28), (3, .int v27), (5, .int v14), (0, .ref (h kt)), (2, .ref (h b2))]) hx hb dX6_tell_220 hl (k := 4) rfl (by rw [ev28]; rfl) (by decide) rfl (fun ls hl => ?_)
                  refine lv_goto (tgt := 25) hx hb dX6_tell_223 (by decide) ?_
                  exact ih v27 v28 σ26 H locs ls (lv_sub hl [3, 4, 1, 0] rfl) hW hs
                · replace hs := (sp_ite hs).1 c18
                  refine lv_aload_n hx hb dX6_tell_150 rfl (lv_at hl 1 rfl) ?_
                  refine sv_get (own := RX6) (C := RX6) (Tf := TX6) (N := 4) (index := 9) (κ := (3, 3)) (v := .ref (h (kt + 3))) hx hb hts hown hK hW (fun _ h => List.mem_cons_of_mem _ (List.mem_append_right _ h)) hkt.1 hkt.2.1 rfl 3 (by decide) rfl rfl (List.mem_of_getElem? (i := 3) rfl) dX6_tell_151 ?_
                  refine lv_iload_n hx hb dX6_tell_154 rfl (lv_at hl 3 rfl) ?_
                  refine lv_iconst (v := 1) hx hb dX6_tell_155 (by decide) ?_
                  refine lv_isub hx hb dX6_tell_156 ?_
                  refine lv_aload_n hx hb dX6_tell_157 rfl (lv_at hl 1 rfl) ?_
                  refine sv_get (own := RX6) (C := RX6) (Tf := TX6) (N := 4) (index := 9) (κ := (3, 3)) (v := .ref (h (kt + 3))) hx hb hts hown hK hW (fun _ h => List.mem_cons_of_mem _ (List.mem_append_right _ h)) hkt.1 hkt.2.1 rfl 3 (by decide) rfl rfl (List.mem_of_getElem? (i := 3) rfl) dX6_tell_158 ?_
                  refine lv_iload_n hx hb dX6_tell_161 rfl (lv_at hl 3 rfl) ?_
                  refine lv_iconst (v := 1) hx hb dX6_tell_162 (by decide) ?_
                  refine lv_isub hx hb dX6_tell_163 ?_
                  obtain ⟨r29, σ30, eσ30, hs⟩ := sp_bind hs
                  refine sv_goI (σ' := σ30) (r := r29) hW F.2.2.2.1 (sv_runN (own := RX6) (host := "OpenWhileItRains") F hW (k_X7_at hB (sv_oA_of hkt.2.2.2.2.1 hkt.2.2.2.2.2) eσ30 H.size) gX6_tell_X7_at_n25 rfl ⟨rfl, rfl⟩ (F.2.2.1.1 _ (List.mem_of_getElem? (i := 12) rfl)) (List.mem_of_getElem? (i := 5) rfl) (List.mem_of_getElem? (i := 4) rfl) 2 (by decide +kernel) (sv_room2 (by omega) (by omega)) rfl hl.1 rfl (Nat.le_of_ble_eq_true rfl) dX6_tell_164 ⟨Nat.zero_le _, Nat.zero_le _⟩) (fun H locs hW => ?_)
                  refine lv_if_ne (tgt := 174) hx hb dX6_tell_167 (by decide) (fun c31 => ?_) (fun c31 => ?_)
                  · replace hs := (sp_ite hs).2 c31
                    refine lv_iconst (v := 0) hx hb dX6_tell_174 (by decide) ?_
                    obtain ⟨r32, σ33, eσ33, hs⟩ := sp_bind hs
                    refine sv_goV (σ' := σ33) (r := r32) hW F.2.2.2.1 (sv_runN (own := RX6) (host := "OpenWhileItRains") F hW (k_X7_put hB (sv_oA_of hkt.2.2.2.2.1 hkt.2.2.2.2.2) eσ33 H.size) gX6_tell_X7_put_n29 rfl ⟨rfl, rfl⟩ (F.2.2.1.1 _ (List.mem_of_getElem? (i := 13) rfl)) (List.mem_of_getElem? (i := 5) rfl) (List.mem_of_getElem? (i := 7) rfl) 3 (by decide +kernel) (sv_room2 (by omega) (by omega)) rfl hl.1 rfl (Nat.le_of_ble_eq_true rfl) dX6_tell_175 ⟨Nat.zero_le _, Nat.zero_le _⟩) (fun H locs hW => ?_)
                    refine lv_goto (tgt := 220) hx hb dX6_tell_178 (by decide) ?_
                    obtain ⟨v34, ev34⟩ : ∃ y : Int32, y = x4 + 1 := ⟨_, rfl⟩
                    replace hs := sp_let hs ev34
                    refine lv_iinc (v := v34) (lv' := [(4, .int v34), (5, .int v14), (0, .ref (h kt)), (2, .ref (h b2)), (3, .int x3)]) hx hb dX6_tell_220 hl (k := 4) rfl (by rw [ev34]; rfl) (by decide) rfl (fun ls hl => ?_)
                    refine lv_goto (tgt := 25) hx hb dX6_tell_223 (by decide) ?_
                    exact ih x3 v34 σ33 H locs ls (lv_sub hl [2, 3, 4, 0] rfl) hW hs
                  · replace hs := (sp_ite hs).1 c31
                    refine lv_iconst (v := 1) hx hb dX6_tell_170 (by decide) ?_
                    refine lv_goto (tgt := 175) hx hb dX6_tell_171 (by decide) ?_
                    obtain ⟨r35, σ36, eσ36, hs⟩ := sp_bind hs
                    refine sv_goV (σ' := σ36) (r := r35) hW F.2.2.2.1 (sv_runN (own := RX6) (host := "OpenWhileItRains") F hW (k_X7_put hB (sv_oA_of hkt.2.2.2.2.1 hkt.2.2.2.2.2) eσ36 H.size) gX6_tell_X7_put_n29 rfl ⟨rfl, rfl⟩ (F.2.2.1.1 _ (List.mem_of_getElem? (i := 13) rfl)) (List.mem_of_getElem? (i := 5) rfl) (List.mem_of_getElem? (i := 7) rfl) 3 (by decide +kernel) (sv_room2 (by omega) (by omega)) rfl hl.1 rfl (Nat.le_of_ble_eq_true rfl) dX6_tell_175 ⟨Nat.zero_le _, Nat.zero_le _⟩) (fun H locs hW => ?_)
                    refine lv_goto (tgt := 220) hx hb dX6_tell_178 (by decide) ?_
                    obtain ⟨v37, ev37⟩ : ∃ y : Int32, y = x4 + 1 := ⟨_, rfl⟩
                    replace hs := sp_let hs ev37
                    refine lv_iinc (v := v37) (lv' := [(4, .int v37), (5, .int v14), (0, .ref (h kt)), (2, .ref (h b2)), (3, .int x3)]) hx hb dX6_tell_220 hl (k := 4) rfl (by rw [ev37]; rfl) (by decide) rfl (fun ls hl => ?_)
                    refine lv_goto (tgt := 25) hx hb dX6_tell_223 (by decide) ?_
                    exact ih x3 v37 σ36 H locs ls (lv_sub hl [2, 3, 4, 0] rfl) hW hs
              · replace hs := (sp_ite hs).1 c17
                refine lv_aload_n hx hb dX6_tell_119 rfl (lv_at hl 1 rfl) ?_
                refine sv_get (own := RX6) (C := RX6) (Tf := TX6) (N := 4) (index := 9) (κ := (3, 3)) (v := .ref (h (kt + 3))) hx hb hts hown hK hW (fun _ h => List.mem_cons_of_mem _ (List.mem_append_right _ h)) hkt.1 hkt.2.1 rfl 3 (by decide) rfl rfl (List.mem_of_getElem? (i := 3) rfl) dX6_tell_120 ?_
                refine lv_iload_n hx hb dX6_tell_123 rfl (lv_at hl 3 rfl) ?_
                refine lv_iconst (v := 1) hx hb dX6_tell_124 (by decide) ?_
                refine lv_isub hx hb dX6_tell_125 ?_
                refine lv_aload_n hx hb dX6_tell_126 rfl (lv_at hl 1 rfl) ?_
                refine sv_get (own := RX6) (C := RX6) (Tf := TX6) (N := 4) (index := 9) (κ := (3, 3)) (v := .ref (h (kt + 3))) hx hb hts hown hK hW (fun _ h => List.mem_cons_of_mem _ (List.mem_append_right _ h)) hkt.1 hkt.2.1 rfl 3 (by decide) rfl rfl (List.mem_of_getElem? (i := 3) rfl) dX6_tell_127 ?_
                refine lv_iload_n hx hb dX6_tell_130 rfl (lv_at hl 3 rfl) ?_
                refine lv_iconst (v := 1) hx hb dX6_tell_131 (by decide) ?_
                refine lv_isub hx hb dX6_tell_132 ?_
                obtain ⟨r38, σ39, eσ39, hs⟩ := sp_bind hs
                refine sv_goI (σ' := σ39) (r := r38) hW F.2.2.2.1 (sv_runN (own := RX6) (host := "OpenWhileItRains") F hW (k_X7_at hB (sv_oA_of hkt.2.2.2.2.1 hkt.2.2.2.2.2) eσ39 H.size) gX6_tell_X7_at_n25 rfl ⟨rfl, rfl⟩ (F.2.2.1.1 _ (List.mem_of_getElem? (i := 12) rfl)) (List.mem_of_getElem? (i := 5) rfl) (List.mem_of_getElem? (i := 4) rfl) 2 (by decide +kernel) (sv_room2 (by omega) (by omega)) rfl hl.1 rfl (Nat.le_of_ble_eq_true rfl) dX6_tell_133 ⟨Nat.zero_le _, Nat.zero_le _⟩) (fun H locs hW => ?_)
                refine lv_ineg hx hb dX6_tell_136 ?_
                obtain ⟨r40, σ41, eσ41, hs⟩ := sp_bind hs
                refine sv_goV (σ' := σ41) (r := r40) hW F.2.2.2.1 (sv_runN (own := RX6) (host := "OpenWhileItRains") F hW (k_X7_put hB (sv_oA_of hkt.2.2.2.2.1 hkt.2.2.2.2.2) eσ41 H.size) gX6_tell_X7_put_n29 rfl ⟨rfl, rfl⟩ (F.2.2.1.1 _ (List.mem_of_getElem? (i := 13) rfl)) (List.mem_of_getElem? (i := 5) rfl) (List.mem_of_getElem? (i := 7) rfl) 3 (by decide +kernel) (sv_room2 (by omega) (by omega)) rfl hl.1 rfl (Nat.le_of_ble_eq_true rfl) dX6_tell_137 ⟨Nat.zero_le _, Nat.zero_le _⟩) (fun H locs hW => ?_)
                refine lv_goto (tgt := 220) hx hb dX6_tell_140 (by decide) ?_
                obtain ⟨v42, ev42⟩ : ∃ y : Int32, y = x4 + 1 := ⟨_, rfl⟩
                replace hs := sp_let hs ev42
                refine lv_iinc (v := v42) (lv' := [(4, .int v42), (5, .int v14), (0, .ref (h kt)), (2, .ref (h b2)), (3, .int x3)]) hx hb dX6_tell_220 hl (k := 4) rfl (by rw [ev42]; rfl) (by decide) rfl (fun ls hl => ?_)
                refine lv_goto (tgt := 25) hx hb dX6_tell_223 (by decide) ?_
                exact ih x3 v42 σ41 H locs ls (lv_sub hl [2, 3, 4, 0] rfl) hW hs
            · replace hs := (sp_ite hs).2 c16
              refine lv_aload_n hx hb dX6_tell_89 rfl (lv_at hl 1 rfl) ?_
              refine sv_get (own := RX6) (C := RX6) (Tf := TX6) (N := 4) (index := 9) (κ := (3, 3)) (v := .ref (h (kt + 3))) hx hb hts hown hK hW (fun _ h => List.mem_cons_of_mem _ (List.mem_append_right _ h)) hkt.1 hkt.2.1 rfl 3 (by decide) rfl rfl (List.mem_of_getElem? (i := 3) rfl) dX6_tell_90 ?_
              refine lv_iload_n hx hb dX6_tell_93 rfl (lv_at hl 3 rfl) ?_
              refine lv_aload_n hx hb dX6_tell_94 rfl (lv_at hl 2 rfl) ?_
              refine lv_bipush (v := -100) hx hb dX6_tell_95 (by decide) ?_
              refine lv_iload hx hb dX6_tell_97 (lv_at hl 0 rfl) ?_
              refine lv_isub hx hb dX6_tell_99 ?_
              obtain ⟨r43, σ44, eσ44, hs⟩ := sp_bind hs
              refine sv_goI (σ' := σ44) (r := r43) hW F.2.2.2.1 (sv_runN (own := RX6) (host := "OpenWhileItRains") F hW (k_X7_at hB hb2 eσ44 H.size) gX6_tell_X7_at_n25 rfl ⟨rfl, rfl⟩ (F.2.2.1.1 _ (List.mem_of_getElem? (i := 12) rfl)) (List.mem_of_getElem? (i := 5) rfl) (List.mem_of_getElem? (i := 4) rfl) 2 (by decide +kernel) (sv_room2 (by omega) (by omega)) rfl hl.1 rfl (Nat.le_of_ble_eq_true rfl) dX6_tell_100 ⟨Nat.zero_le _, Nat.zero_le _⟩) (fun H locs hW => ?_)
              obtain ⟨r45, σ46, eσ46, hs⟩ := sp_bind hs
              refine sv_goV (σ' := σ46) (r := r45) hW F.2.2.2.1 (sv_runN (own := RX6) (host := "OpenWhileItRains") F hW (k_X7_put hB (sv_oA_of hkt.2.2.2.2.1 hkt.2.2.2.2.2) eσ46 H.size) gX6_tell_X7_put_n29 rfl ⟨rfl, rfl⟩ (F.2.2.1.1 _ (List.mem_of_getElem? (i := 13) rfl)) (List.mem_of_getElem? (i := 5) rfl) (List.mem_of_getElem? (i := 7) rfl) 3 (by decide +kernel) (sv_room2 (by omega) (by omega)) rfl hl.1 rfl (Nat.le_of_ble_eq_true rfl) dX6_tell_103 ⟨Nat.zero_le _, Nat.zero_le _⟩) (fun H locs hW => ?_)
              obtain ⟨v47, ev47⟩ : ∃ y : Int32, y = x3 + 1 := ⟨_, rfl⟩
              replace hs := sp_let hs ev47
              refine lv_iinc (v := v47) (lv' := [(3, .int v47), (5, .int v14), (0, .ref (h kt)), (2, .ref (h b2)), (4, .int x4)]) hx hb dX6_tell_106 hl (k := 3) rfl (by rw [ev47]; rfl) (by decide) rfl (fun ls hl => ?_)
              refine lv_goto (tgt := 220) hx hb dX6_tell_109 (by decide) ?_
              obtain ⟨v48, ev48⟩ : ∃ y : Int32, y = x4 + 1 := ⟨_, rfl⟩
              replace hs := sp_let hs ev48
              refine lv_iinc (v := v48) (lv' := [(4, .int v48), (3, .int v47), (5, .int v14), (0, .ref (h kt)), (2, .ref (h b2))]) hx hb dX6_tell_220 hl (k := 4) rfl (by rw [ev48]; rfl) (by decide) rfl (fun ls hl => ?_)
              refine lv_goto (tgt := 25) hx hb dX6_tell_223 (by decide) ?_
              exact ih v47 v48 σ46 H locs ls (lv_sub hl [3, 4, 1, 0] rfl) hW hs
          · replace hs := (sp_ite hs).2 c15
            refine lv_aload_n hx hb dX6_tell_66 rfl (lv_at hl 1 rfl) ?_
            refine sv_get (own := RX6) (C := RX6) (Tf := TX6) (N := 4) (index := 9) (κ := (3, 3)) (v := .ref (h (kt + 3))) hx hb hts hown hK hW (fun _ h => List.mem_cons_of_mem _ (List.mem_append_right _ h)) hkt.1 hkt.2.1 rfl 3 (by decide) rfl rfl (List.mem_of_getElem? (i := 3) rfl) dX6_tell_67 ?_
            refine lv_iload_n hx hb dX6_tell_70 rfl (lv_at hl 3 rfl) ?_
            refine lv_iload hx hb dX6_tell_71 (lv_at hl 0 rfl) ?_
            obtain ⟨r49, σ50, eσ50, hs⟩ := sp_bind hs
            refine sv_goV (σ' := σ50) (r := r49) hW F.2.2.2.1 (sv_runN (own := RX6) (host := "OpenWhileItRains") F hW (k_X7_put hB (sv_oA_of hkt.2.2.2.2.1 hkt.2.2.2.2.2) eσ50 H.size) gX6_tell_X7_put_n29 rfl ⟨rfl, rfl⟩ (F.2.2.1.1 _ (List.mem_of_getElem? (i := 13) rfl)) (List.mem_of_getElem? (i := 5) rfl) (List.mem_of_getElem? (i := 7) rfl) 3 (by decide +kernel) (sv_room2 (by omega) (by omega)) rfl hl.1 rfl (Nat.le_of_ble_eq_true rfl) dX6_tell_73 ⟨Nat.zero_le _, Nat.zero_le _⟩) (fun H locs hW => ?_)
            obtain ⟨v51, ev51⟩ : ∃ y : Int32, y = x3 + 1 := ⟨_, rfl⟩
            replace hs := sp_let hs ev51
            refine lv_iinc (v := v51) (lv' := [(3, .int v51), (5, .int v14), (0, .ref (h kt)), (2, .ref (h b2)), (4, .int x4)]) hx hb dX6_tell_76 hl (k := 3) rfl (by rw [ev51]; rfl) (by decide) rfl (fun ls hl => ?_)
            refine lv_goto (tgt := 220) hx hb dX6_tell_79 (by decide) ?_
            obtain ⟨v52, ev52⟩ : ∃ y : Int32, y = x4 + 1 := ⟨_, rfl⟩
            replace hs := sp_let hs ev52
            refine lv_iinc (v := v52) (lv' := [(4, .int v52), (3, .int v51), (5, .int v14), (0, .ref (h kt)), (2, .ref (h b2))]) hx hb dX6_tell_220 hl (k := 4) rfl (by rw [ev52]; rfl) (by decide) rfl (fun ls hl => ?_)
            refine lv_goto (tgt := 25) hx hb dX6_tell_223 (by decide) ?_
            exact ih v51 v52 σ50 H locs ls (lv_sub hl [3, 4, 1, 0] rfl) hW hs
set_option maxRecDepth 100000 in
set_option maxHeartbeats 4000000 in
theorem k_X6_tell {qK qV : Nat → Nat} {l : Launch} {D : va_G} {T : Nat → ClassId} {h : Nat → Nat} {θ : sv_T} {kt : Nat} {a1 : Int32} {b2 : Nat} {σ : sv_S} {r : Int32} {σ' : sv_S} (hB : sx_base θ) (hkt : sv_oX6 θ kt) (hb2 : sv_oA θ b2) (hs : q_X6_tell θ kt a1 b2 σ = some (r, σ')) : sv_Mi (sx_X qK qV) l D T (sx_tys T) h θ yX6_tell wsX6_tell (sv_rm 1 22) [.ref (h kt), .int a1, .ref (h b2)] σ r σ' := by
  intro sz
  refine sv_enter (cc := cX6_tell) (maxL := 6) (ret := (some .int)) (Qc := fun A => va_Qi (fun r2 (_ : Unit) => r2 = r) (fun _ t => va_P D vwCl (sv_ws T h θ σ') t.heap) A) sx_XP (by decide) rfl (Nat.le_of_ble_eq_true rfl) ?_
  intro p e s m args below meth c A F hr hlk ls H hl hW
  have hx := F.1.1
  have hb := F.1.2.1
  have hts := F.1.2.2.2.2
  have hown := F.1.2.2.2.1
  have hK := F.2.1
  obtain ⟨locs, hlocs⟩ : ∃ z : List Loc, z = [] := ⟨_, rfl⟩
  rw [← hlocs] at hW ⊢
  have hl : lv_has ls 6 [(0, .ref (h kt)), (1, .int a1), (2, .ref (h b2))] := hl
  unfold q_X6_tell at hs
  refine lv_iconst (v := 0) hx hb dX6_tell_0 (by decide) ?_
  refine lv_istore_n (lv' := [(3, .int (0 : Int32)), (0, .ref (h kt)), (1, .int a1), (2, .ref (h b2))]) hx hb dX6_tell_1 rfl hl (by decide) rfl (fun ls hl => ?_)
  refine lv_aload_n hx hb dX6_tell_2 rfl (lv_at hl 1 rfl) ?_
  refine sv_get (own := RX6) (C := RX6) (Tf := TX6) (N := 4) (index := 19) (κ := (3, 1)) (v := .ref (h (kt + 1))) hx hb hts hown hK hW (fun _ h => List.mem_cons_of_mem _ (List.mem_append_right _ h)) hkt.1 hkt.2.1 rfl 1 (by decide) rfl rfl (List.mem_of_getElem? (i := 1) rfl) dX6_tell_3 ?_
  refine lv_ifnull hx hb dX6_tell_6 ?_
  refine lv_aload_n hx hb dX6_tell_9 rfl (lv_at hl 3 rfl) ?_
  refine lv_ifnonnull (tgt := 15) hx hb dX6_tell_10 (by decide) ?_
  refine lv_aload_n hx hb dX6_tell_15 rfl (lv_at hl 1 rfl) ?_
  refine sv_get (own := RX6) (C := RX6) (Tf := TX6) (N := 4) (index := 22) (κ := (3, 2)) (v := .ref (h (kt + 2))) hx hb hts hown hK hW (fun _ h => List.mem_cons_of_mem _ (List.mem_append_right _ h)) hkt.1 hkt.2.1 rfl 2 (by decide) rfl rfl (List.mem_of_getElem? (i := 2) rfl) dX6_tell_16 ?_
  refine lv_iload_n hx hb dX6_tell_19 rfl (lv_at hl 2 rfl) ?_
  obtain ⟨r1, σ2, eσ2, hs⟩ := sp_bind hs
  refine sv_goI (σ' := σ2) (r := r1) hW F.2.2.2.1 (sv_runN (own := RX6) (host := "OpenWhileItRains") F hW (k_X7_at hB (sv_oA_of hkt.2.2.2.1.1 hkt.2.2.2.1.2) eσ2 H.size) gX6_tell_X7_at_n25 rfl ⟨rfl, rfl⟩ (F.2.2.1.1 _ (List.mem_of_getElem? (i := 12) rfl)) (List.mem_of_getElem? (i := 5) rfl) (List.mem_of_getElem? (i := 4) rfl) 2 (by decide +kernel) (sv_room2 (by omega) (by omega)) rfl hl.1 rfl (Nat.le_of_ble_eq_true rfl) dX6_tell_20 ⟨Nat.zero_le _, Nat.zero_le _⟩) (fun H locs hW => ?_)
  refine lv_istore (lv' := [(4, .int r1), (3, .int (0 : Int32)), (0, .ref (h kt)), (1, .int a1), (2, .ref (h b2))]) hx hb dX6_tell_23 hl (by decide) rfl (fun ls hl => ?_)
  exact b_X6_tell_25 hB hkt hb2 F hr hlk sv_N (0 : Int32) r1 σ2 H locs ls (lv_sub hl [2, 4, 1, 0] rfl) hW hs
set_option maxRecDepth 100000 in
set_option maxHeartbeats 4000000 in
theorem k_X7_bound {qK qV : Nat → Nat} {l : Launch} {D : va_G} {T : Nat → ClassId} {h : Nat → Nat} {θ : sv_T} {a1 : Int32} {a2 : Int32} {a3 : Int32} {σ : sv_S} {r : Int32} {σ' : sv_S} (hB : sx_base θ)  (hs : q_X7_bound θ a1 a2 a3 σ = some (r, σ')) : sv_Mi (sx_X qK qV) l D T (sx_tys T) h θ yX7_bound wsX7_bound (sv_rm 0 0) [.int a1, .int a2, .int a3] σ r σ' := by
  intro sz
  refine sv_enter (cc := cX7_bound) (maxL := 3) (ret := (some .int)) (Qc := fun A => va_Qi (fun r2 (_ : Unit) => r2 = r) (fun _ t => va_P D vwCl (sv_ws T h θ σ') t.heap) A) sx_XP (by decide) rfl (Nat.le_of_ble_eq_true rfl) ?_
  intro p e s m args below meth c A F hr hlk ls H hl hW
  have hx := F.1.1
  have hb := F.1.2.1
  have hts := F.1.2.2.2.2
  have hown := F.1.2.2.2.1
  have hK := F.2.1
  obtain ⟨locs, hlocs⟩ : ∃ z : List Loc, z = [] := ⟨_, rfl⟩
  rw [← hlocs] at hW ⊢
  have hl : lv_has ls 3 [(0, .int a1), (1, .int a2), (2, .int a3)] := hl
  unfold q_X7_bound at hs
  refine lv_iload_n hx hb dX7_bound_0 rfl (lv_at hl 0 rfl) ?_
  refine lv_iload_n hx hb dX7_bound_1 rfl (lv_at hl 1 rfl) ?_
  refine lv_icmp_ge (tgt := 9) hx hb dX7_bound_2 (by decide) (fun c1 => ?_) (fun c1 => ?_)
  · replace hs := (sp_ite hs).1 c1
    refine lv_iload_n hx hb dX7_bound_9 rfl (lv_at hl 0 rfl) ?_
    refine lv_iload_n hx hb dX7_bound_10 rfl (lv_at hl 2 rfl) ?_
    refine lv_icmp_le (tgt := 18) hx hb dX7_bound_11 (by decide) (fun c2 => ?_) (fun c2 => ?_)
    · replace hs := (sp_ite hs).1 c2
      refine lv_iload_n hx hb dX7_bound_18 rfl (lv_at hl 0 rfl) ?_
      cases hs
      exact sv_iret hx hb hr rfl hlk hW dX7_bound_19
    · replace hs := (sp_ite hs).2 c2
      refine lv_iload_n hx hb dX7_bound_14 rfl (lv_at hl 2 rfl) ?_
      refine lv_goto (tgt := 19) hx hb dX7_bound_15 (by decide) ?_
      cases hs
      exact sv_iret hx hb hr rfl hlk hW dX7_bound_19
  · replace hs := (sp_ite hs).2 c1
    refine lv_iload_n hx hb dX7_bound_5 rfl (lv_at hl 1 rfl) ?_
    refine lv_goto (tgt := 19) hx hb dX7_bound_6 (by decide) ?_
    cases hs
    exact sv_iret hx hb hr rfl hlk hW dX7_bound_19
set_option maxRecDepth 100000 in
set_option maxHeartbeats 4000000 in
theorem k_X1_needs {qK qV : Nat → Nat} {l : Launch} {D : va_G} {T : Nat → ClassId} {h : Nat → Nat} {θ : sv_T} {a1 : Int32} {a2 : Int32} {a3 : Int32} {σ : sv_S} {r : Int32} {σ' : sv_S} (hB : sx_base θ)  (hs : q_X1_needs θ a1 a2 a3 σ = some (r, σ')) : sv_Mi (sx_X qK qV) l D T (sx_tys T) h θ yX1_needs wsX1_needs (sv_rm 0 0) [.int a1, .int a2, .int a3] σ r σ' := by
  intro sz
  refine sv_enter (cc := cX1_needs) (maxL := 3) (ret := (some .int)) (Qc := fun A => va_Qi (fun r2 (_ : Unit) => r2 = r) (fun _ t => va_P D vwCl (sv_ws T h θ σ') t.heap) A) sx_XP (by decide) rfl (Nat.le_of_ble_eq_true rfl) ?_
  intro p e s m args below meth c A F hr hlk ls H hl hW
  have hx := F.1.1
  have hb := F.1.2.1
  have hts := F.1.2.2.2.2
  have hown := F.1.2.2.2.1
  have hK := F.2.1
  obtain ⟨locs, hlocs⟩ : ∃ z : List Loc, z = [] := ⟨_, rfl⟩
  rw [← hlocs] at hW ⊢
  have hl : lv_has ls 3 [(0, .int a1), (1, .int a2), (2, .int a3)] := hl
  unfold q_X1_needs at hs
  refine lv_iload_n hx hb dX1_needs_0 rfl (lv_at hl 0 rfl) ?_
  by_cases c1 : a1 = 1
  · replace hs := (sp_ite hs).1 c1
    refine lv_tableIn (off := 35) (tgt := 36) hx hb dX1_needs_1 (by rw [c1]; decide) (by rw [c1]; decide) (by rw [c1]; decide) (by decide) ?_
    refine lv_iload_n hx hb dX1_needs_36 rfl (lv_at hl 1 rfl) ?_
    refine lv_iconst (v := 2) hx hb dX1_needs_37 (by decide) ?_
    refine lv_idiv hx hb dX1_needs_38 (by decide) ?_
    cases hs
    exact sv_iret hx hb hr rfl hlk hW dX1_needs_39
  replace hs := (sp_ite hs).2 c1
  by_cases c2 : a1 = 2
  · replace hs := (sp_ite hs).1 c2
    refine lv_tableIn (off := 39) (tgt := 40) hx hb dX1_needs_1 (by rw [c2]; decide) (by rw [c2]; decide) (by rw [c2]; decide) (by decide) ?_
    refine lv_iload_n hx hb dX1_needs_40 rfl (lv_at hl 1 rfl) ?_
    refine lv_iconst (v := 2) hx hb dX1_needs_41 (by decide) ?_
    refine lv_iadd hx hb dX1_needs_42 ?_
    cases hs
    exact sv_iret hx hb hr rfl hlk hW dX1_needs_43
  replace hs := (sp_ite hs).2 c2
  by_cases c3 : a1 = 3
  · replace hs := (sp_ite hs).1 c3
    refine lv_tableIn (off := 35) (tgt := 36) hx hb dX1_needs_1 (by rw [c3]; decide) (by rw [c3]; decide) (by rw [c3]; decide) (by decide) ?_
    refine lv_iload_n hx hb dX1_needs_36 rfl (lv_at hl 1 rfl) ?_
    refine lv_iconst (v := 2) hx hb dX1_needs_37 (by decide) ?_
    refine lv_idiv hx hb dX1_needs_38 (by decide) ?_
    cases hs
    exact sv_iret hx hb hr rfl hlk hW dX1_needs_39
  replace hs := (sp_ite hs).2 c3
  by_cases c4 : a1 = 4
  · replace hs := (sp_ite hs).1 c4
    refine lv_tableIn (off := 43) (tgt := 44) hx hb dX1_needs_1 (by rw [c4]; decide) (by rw [c4]; decide) (by rw [c4]; decide) (by decide) ?_
    refine lv_iload_n hx hb dX1_needs_44 rfl (lv_at hl 1 rfl) ?_
    refine lv_iconst (v := 2) hx hb dX1_needs_45 (by decide) ?_
    refine lv_iadd hx hb dX1_needs_46 ?_
    refine lv_iload_n hx hb dX1_needs_47 rfl (lv_at hl 2 rfl) ?_
    refine lv_iconst (v := 3) hx hb dX1_needs_48 (by decide) ?_
    refine lv_idiv hx hb dX1_needs_49 (by decide) ?_
    refine lv_iadd hx hb dX1_needs_50 ?_
    cases hs
    exact sv_iret hx hb hr rfl hlk hW dX1_needs_51
  replace hs := (sp_ite hs).2 c4
  by_cases c5 : a1 = 5
  · replace hs := (sp_ite hs).1 c5
    refine lv_tableIn (off := 51) (tgt := 52) hx hb dX1_needs_1 (by rw [c5]; decide) (by rw [c5]; decide) (by rw [c5]; decide) (by decide) ?_
    refine lv_iconst (v := 1) hx hb dX1_needs_52 (by decide) ?_
    cases hs
    exact sv_iret hx hb hr rfl hlk hW dX1_needs_53
  replace hs := (sp_ite hs).2 c5
  refine lv_tableOut (tgt := 54) hx hb dX1_needs_1 (by have := lv_neT (k := 1) (a := 1) c1 (by decide); have := lv_neT (k := 2) (a := 2) c2 (by decide); have := lv_neT (k := 3) (a := 3) c3 (by decide); have := lv_neT (k := 4) (a := 4) c4 (by decide); have := lv_neT (k := 5) (a := 5) c5 (by decide); omega) (by decide) ?_
  refine lv_iload_n hx hb dX1_needs_54 rfl (lv_at hl 1 rfl) ?_
  cases hs
  exact sv_iret hx hb hr rfl hlk hW dX1_needs_55
set_option maxRecDepth 100000 in
set_option maxHeartbeats 4000000 in
theorem b_X0_needs_29 {qK qV : Nat → Nat} {p : Program} {l : Launch} {e : Env} {s : State} {m : MethodId} {args : Array Value} {below : List Frame} {meth : Method} {c : Code} {D : va_G} {T : Nat → ClassId} {A : Nat → Prop} {h : Nat → Nat} {θ : sv_T} {kc : Nat} {r : Int32} {σ' : sv_S} (hB : sx_base θ) (hkc : sv_oX0 θ kc) (F : sv_F (sx_X qK qV) p m c cX0_needs 2 s args wsX0_needs RX0 D (sx_tys T) A) (hr : meth.sig.returnType = (some .int)) (hlk : meth.locks = false)  : ∀ (w0 : Int32) (σ : sv_S) (H : Heap) (locs : List Loc) (ls : Array Slot), lv_has ls 2 [(0, .ref (h kc))] → sv_W D T A s h θ σ H locs → q_X0_needs_B29 θ kc w0 σ = some (r, σ') → W p l e (sv_rm 2 47) s m args below meth c H locs 0 0 (MQ below (va_Qi (fun r2 (_ : Unit) => r2 = r) (fun _ t => va_P D vwCl (sv_ws T h θ σ') t.heap) A) args s 0 0 A) (F0 m 29 ls [.int w0]) := by
  have hx := F.1.1
  have hb := F.1.2.1
  have hts := F.1.2.2.2.2
  have hown := F.1.2.2.2.1
  have hK := F.2.1
  intro w0 σ H locs ls hl hW hs
  unfold q_X0_needs_B29 at hs
  refine lv_istore_n (lv' := [(1, .int w0), (0, .ref (h kc))]) hx hb dX0_needs_29 rfl hl (by decide) rfl (fun ls hl => ?_)
  refine lv_aload_n hx hb dX0_needs_30 rfl (lv_at hl 1 rfl) ?_
  refine sv_get (own := RX0) (C := RX0) (Tf := TX0) (N := 4) (index := 24) (κ := (0, 0)) (v := .int (σ.1 kc 1)) hx hb hts hown hK hW (fun _ h => List.mem_cons_of_mem _ (List.mem_append_left _ (List.mem_append_right _ h))) hkc.1 hkc.2.1 rfl 1 (by decide) rfl rfl (List.mem_of_getElem? (i := 3) rfl) dX0_needs_31 ?_
  refine lv_iload_n hx hb dX0_needs_34 rfl (lv_at hl 0 rfl) ?_
  refine lv_aload_n hx hb dX0_needs_35 rfl (lv_at hl 1 rfl) ?_
  refine sv_get (own := RX0) (C := RX0) (Tf := TX0) (N := 4) (index := 9) (κ := (3, 1)) (v := .ref (h (kc + 1))) hx hb hts hown hK hW (fun _ h => List.mem_cons_of_mem _ (List.mem_append_left _ (List.mem_append_right _ h))) hkc.1 hkc.2.1 rfl 0 (by decide) rfl rfl (List.mem_of_getElem? (i := 2) rfl) dX0_needs_36 ?_
  refine lv_iconst (v := 2) hx hb dX0_needs_39 (by decide) ?_
  obtain ⟨r2, σ3, eσ3, hs⟩ := sp_bind hs
  refine sv_goI (σ' := σ3) (r := r2) hW F.2.2.2.1 (sv_runN (own := RX0) (host := "OpenWhileItRains") F hW (k_X7_at hB (sv_oA_of hkc.2.2.1 hkc.2.2.2) eσ3 H.size) gX0_needs_X7_at_n20 rfl ⟨rfl, rfl⟩ (F.2.2.1.1 _ (List.mem_of_getElem? (i := 10) rfl)) (List.mem_of_getElem? (i := 13) rfl) (List.mem_of_getElem? (i := 12) rfl) 2 (by decide +kernel) (sv_room2 (by omega) (by omega)) rfl hl.1 rfl (Nat.le_of_ble_eq_true rfl) dX0_needs_40 ⟨Nat.zero_le _, Nat.zero_le _⟩) (fun H locs hW => ?_)
  obtain ⟨r4, σ5, eσ5, hs⟩ := sp_bind hs
  refine sv_goI (σ' := σ5) (r := r4) hW F.2.2.2.1 (sv_runT F hW (k_X1_needs hB eσ5 H.size) gX0_needs_X1_needs rfl ⟨rfl, rfl⟩ 3 (by decide +kernel) (sv_room2 (by omega) (by omega)) rfl hl.1 rfl (Nat.le_of_ble_eq_true rfl) dX0_needs_43 ⟨Nat.zero_le _, Nat.zero_le _⟩) (fun H locs hW => ?_)
  refine lv_iconst (v := 1) hx hb dX0_needs_46 (by decide) ?_
  refine lv_bipush (v := 9) hx hb dX0_needs_47 (by decide) ?_
  obtain ⟨r6, σ7, eσ7, hs⟩ := sp_bind hs
  refine sv_goI (σ' := σ7) (r := r6) hW F.2.2.2.1 (sv_runN (own := RX0) (host := "OpenWhileItRains") F hW (k_X7_bound hB eσ7 H.size) gX0_needs_X7_bound_n58 rfl ⟨rfl, rfl⟩ (F.2.2.1.1 _ (List.mem_of_getElem? (i := 14) rfl)) (List.mem_of_getElem? (i := 13) rfl) (List.mem_of_getElem? (i := 20) rfl) 3 (by decide +kernel) (sv_room2 (by omega) (by omega)) rfl hl.1 rfl (Nat.le_of_ble_eq_true rfl) dX0_needs_49 ⟨Nat.zero_le _, Nat.zero_le _⟩) (fun H locs hW => ?_)
  cases hs
  exact sv_iret hx hb hr rfl hlk hW dX0_needs_52
set_option maxRecDepth 100000 in
set_option maxHeartbeats 4000000 in
theorem k_X0_needs {qK qV : Nat → Nat} {l : Launch} {D : va_G} {T : Nat → ClassId} {h : Nat → Nat} {θ : sv_T} {kc : Nat} {σ : sv_S} {r : Int32} {σ' : sv_S} (hB : sx_base θ) (hkc : sv_oX0 θ kc) (hs : q_X0_needs θ kc σ = some (r, σ')) : sv_Mi (sx_X qK qV) l D T (sx_tys T) h θ yX0_needs wsX0_needs (sv_rm 2 47) [.ref (h kc)] σ r σ' := by
  intro sz
  refine sv_enter (cc := cX0_needs) (maxL := 2) (ret := (some .int)) (Qc := fun A => va_Qi (fun r2 (_ : Unit) => r2 = r) (fun _ t => va_P D vwCl (sv_ws T h θ σ') t.heap) A) sx_XP (by decide) rfl (Nat.le_of_ble_eq_true rfl) ?_
  intro p e s m args below meth c A F hr hlk ls H hl hW
  have hx := F.1.1
  have hb := F.1.2.1
  have hts := F.1.2.2.2.2
  have hown := F.1.2.2.2.1
  have hK := F.2.1
  obtain ⟨locs, hlocs⟩ : ∃ z : List Loc, z = [] := ⟨_, rfl⟩
  rw [← hlocs] at hW ⊢
  have hl : lv_has ls 2 [(0, .ref (h kc))] := hl
  unfold q_X0_needs at hs
  refine lv_aload_n hx hb dX0_needs_0 rfl (lv_at hl 0 rfl) ?_
  refine sv_get (own := RX0) (C := RX0) (Tf := TX0) (N := 4) (index := 32) (κ := (2, 0)) (v := va_rf ((σ.2.2 kc 2).map h)) hx hb hts hown hK hW (fun _ h => List.mem_cons_of_mem _ (List.mem_append_left _ (List.mem_append_right _ h))) hkc.1 hkc.2.1 rfl 2 (by decide) rfl rfl (List.mem_of_getElem? (i := 1) rfl) dX0_needs_1 ?_
  cases et1 : σ.2.2 kc 2 with
  | none =>
    replace hs := sp_on hs et1
    refine W.eq (g2 := F0 m 4 ls [.null]) rfl ?_
    refine lv_ifnonnullN hx hb dX0_needs_4 ?_
    refine lv_iconst (v := 0) hx hb dX0_needs_7 (by decide) ?_
    refine lv_goto (tgt := 29) hx hb dX0_needs_8 (by decide) ?_
    exact b_X0_needs_29 hB hkc F hr hlk (0 : Int32) σ H locs ls (lv_sub hl [0] rfl) hW hs
  | some t1 =>
    replace hs := sp_os hs et1
    obtain ⟨ht1, hs⟩ := sp_p hs
    refine W.eq (g2 := F0 m 4 ls [.ref (h t1)]) rfl ?_
    refine lv_ifnonnull (tgt := 11) hx hb dX0_needs_4 (by decide) ?_
    refine lv_aload_n hx hb dX0_needs_11 rfl (lv_at hl 0 rfl) ?_
    refine sv_get (own := RX0) (C := RX0) (Tf := TX0) (N := 4) (index := 32) (κ := (2, 0)) (v := .ref (h t1)) hx hb hts hown hK hW (fun _ h => List.mem_cons_of_mem _ (List.mem_append_left _ (List.mem_append_right _ h))) hkc.1 hkc.2.1 rfl 2 (by decide) rfl (by show va_rf (Option.map h (σ.2.2 kc 2)) = .ref (h t1); rw [et1]; rfl) (List.mem_of_getElem? (i := 1) rfl) dX0_needs_12 ?_
    refine lv_iconst (v := 0) hx hb dX0_needs_15 (by decide) ?_
    refine lv_aload_n hx hb dX0_needs_16 rfl (lv_at hl 0 rfl) ?_
    refine sv_get (own := RX0) (C := RX0) (Tf := TX0) (N := 4) (index := 9) (κ := (3, 1)) (v := .ref (h (kc + 1))) hx hb hts hown hK hW (fun _ h => List.mem_cons_of_mem _ (List.mem_append_left _ (List.mem_append_right _ h))) hkc.1 hkc.2.1 rfl 0 (by decide) rfl rfl (List.mem_of_getElem? (i := 2) rfl) dX0_needs_17 ?_
    obtain ⟨r8, σ9, eσ9, hs⟩ := sp_bind hs
    refine sv_goI (σ' := σ9) (r := r8) hW F.2.2.2.1 (sv_runV (C := RX6) F hW (k_X6_tell hB ht1 (sv_oA_of hkc.2.2.1 hkc.2.2.2) eσ9 H.size) gX0_needs_X6_tell rfl ⟨rfl, rfl⟩ 2 (by decide +kernel) (sv_room2 (by omega) (by omega)) ht1.1 ht1.2.1 rfl rfl hl.1 rfl (Nat.le_of_ble_eq_true rfl) dX0_needs_20 ⟨Nat.zero_le _, Nat.zero_le _⟩) (fun H locs hW => ?_)
    refine lv_iconst (v := 0) hx hb dX0_needs_23 (by decide) ?_
    refine lv_bipush (v := 9) hx hb dX0_needs_24 (by decide) ?_
    obtain ⟨r10, σ11, eσ11, hs⟩ := sp_bind hs
    refine sv_goI (σ' := σ11) (r := r10) hW F.2.2.2.1 (sv_runN (own := RX0) (host := "OpenWhileItRains") F hW (k_X7_bound hB eσ11 H.size) gX0_needs_X7_bound_n58 rfl ⟨rfl, rfl⟩ (F.2.2.1.1 _ (List.mem_of_getElem? (i := 14) rfl)) (List.mem_of_getElem? (i := 13) rfl) (List.mem_of_getElem? (i := 20) rfl) 3 (by decide +kernel) (sv_room2 (by omega) (by omega)) rfl hl.1 rfl (Nat.le_of_ble_eq_true rfl) dX0_needs_26 ⟨Nat.zero_le _, Nat.zero_le _⟩) (fun H locs hW => ?_)
    exact b_X0_needs_29 hB hkc F hr hlk r10 σ11 H locs ls (lv_sub hl [0] rfl) hW hs
set_option maxRecDepth 100000 in
set_option maxHeartbeats 4000000 in
theorem k_X1_takes {qK qV : Nat → Nat} {l : Launch} {D : va_G} {T : Nat → ClassId} {h : Nat → Nat} {θ : sv_T} {a1 : Int32} {a2 : Int32} {a3 : Int32} {σ : sv_S} {r : Int32} {σ' : sv_S} (hB : sx_base θ)  (hs : q_X1_takes θ a1 a2 a3 σ = some (r, σ')) : sv_Mi (sx_X qK qV) l D T (sx_tys T) h θ yX1_takes wsX1_takes (sv_rm 0 0) [.int a1, .int a2, .int a3] σ r σ' := by
  intro sz
  refine sv_enter (cc := cX1_takes) (maxL := 3) (ret := (some .int)) (Qc := fun A => va_Qi (fun r2 (_ : Unit) => r2 = r) (fun _ t => va_P D vwCl (sv_ws T h θ σ') t.heap) A) sx_XP (by decide) rfl (Nat.le_of_ble_eq_true rfl) ?_
  intro p e s m args below meth c A F hr hlk ls H hl hW
  have hx := F.1.1
  have hb := F.1.2.1
  have hts := F.1.2.2.2.2
  have hown := F.1.2.2.2.1
  have hK := F.2.1
  obtain ⟨locs, hlocs⟩ : ∃ z : List Loc, z = [] := ⟨_, rfl⟩
  rw [← hlocs] at hW ⊢
  have hl : lv_has ls 3 [(0, .int a1), (1, .int a2), (2, .int a3)] := hl
  unfold q_X1_takes at hs
  refine lv_iload_n hx hb dX1_takes_0 rfl (lv_at hl 0 rfl) ?_
  by_cases c1 : a1 = 1
  · replace hs := (sp_ite hs).1 c1
    refine lv_tableIn (off := 35) (tgt := 36) hx hb dX1_takes_1 (by rw [c1]; decide) (by rw [c1]; decide) (by rw [c1]; decide) (by decide) ?_
    refine lv_iload_n hx hb dX1_takes_36 rfl (lv_at hl 1 rfl) ?_
    refine lv_iconst (v := 1) hx hb dX1_takes_37 (by decide) ?_
    refine lv_isub hx hb dX1_takes_38 ?_
    cases hs
    exact sv_iret hx hb hr rfl hlk hW dX1_takes_39
  replace hs := (sp_ite hs).2 c1
  by_cases c2 : a1 = 2
  · replace hs := (sp_ite hs).1 c2
    refine lv_tableIn (off := 47) (tgt := 48) hx hb dX1_takes_1 (by rw [c2]; decide) (by rw [c2]; decide) (by rw [c2]; decide) (by decide) ?_
    refine lv_iload_n hx hb dX1_takes_48 rfl (lv_at hl 1 rfl) ?_
    refine lv_iconst (v := 2) hx hb dX1_takes_49 (by decide) ?_
    refine lv_imul hx hb dX1_takes_50 ?_
    cases hs
    exact sv_iret hx hb hr rfl hlk hW dX1_takes_51
  replace hs := (sp_ite hs).2 c2
  by_cases c3 : a1 = 3
  · replace hs := (sp_ite hs).1 c3
    refine lv_tableIn (off := 39) (tgt := 40) hx hb dX1_takes_1 (by rw [c3]; decide) (by rw [c3]; decide) (by rw [c3]; decide) (by decide) ?_
    refine lv_iload_n hx hb dX1_takes_40 rfl (lv_at hl 1 rfl) ?_
    refine lv_iconst (v := 1) hx hb dX1_takes_41 (by decide) ?_
    refine lv_isub hx hb dX1_takes_42 ?_
    refine lv_iload_n hx hb dX1_takes_43 rfl (lv_at hl 2 rfl) ?_
    refine lv_iconst (v := 3) hx hb dX1_takes_44 (by decide) ?_
    refine lv_irem hx hb dX1_takes_45 (by decide) ?_
    refine lv_iadd hx hb dX1_takes_46 ?_
    cases hs
    exact sv_iret hx hb hr rfl hlk hW dX1_takes_47
  replace hs := (sp_ite hs).2 c3
  by_cases c4 : a1 = 4
  · replace hs := (sp_ite hs).1 c4
    refine lv_tableIn (off := 47) (tgt := 48) hx hb dX1_takes_1 (by rw [c4]; decide) (by rw [c4]; decide) (by rw [c4]; decide) (by decide) ?_
    refine lv_iload_n hx hb dX1_takes_48 rfl (lv_at hl 1 rfl) ?_
    refine lv_iconst (v := 2) hx hb dX1_takes_49 (by decide) ?_
    refine lv_imul hx hb dX1_takes_50 ?_
    cases hs
    exact sv_iret hx hb hr rfl hlk hW dX1_takes_51
  replace hs := (sp_ite hs).2 c4
  by_cases c5 : a1 = 5
  · replace hs := (sp_ite hs).1 c5
    refine lv_tableIn (off := 51) (tgt := 52) hx hb dX1_takes_1 (by rw [c5]; decide) (by rw [c5]; decide) (by rw [c5]; decide) (by decide) ?_
    refine lv_iconst (v := 1) hx hb dX1_takes_52 (by decide) ?_
    cases hs
    exact sv_iret hx hb hr rfl hlk hW dX1_takes_53
  replace hs := (sp_ite hs).2 c5
  refine lv_tableOut (tgt := 54) hx hb dX1_takes_1 (by have := lv_neT (k := 1) (a := 1) c1 (by decide); have := lv_neT (k := 2) (a := 2) c2 (by decide); have := lv_neT (k := 3) (a := 3) c3 (by decide); have := lv_neT (k := 4) (a := 4) c4 (by decide); have := lv_neT (k := 5) (a := 5) c5 (by decide); omega) (by decide) ?_
  refine lv_iload_n hx hb dX1_takes_54 rfl (lv_at hl 1 rfl) ?_
  cases hs
  exact sv_iret hx hb hr rfl hlk hW dX1_takes_55
set_option maxRecDepth 100000 in
set_option maxHeartbeats 4000000 in
theorem b_X0_takes_29 {qK qV : Nat → Nat} {p : Program} {l : Launch} {e : Env} {s : State} {m : MethodId} {args : Array Value} {below : List Frame} {meth : Method} {c : Code} {D : va_G} {T : Nat → ClassId} {A : Nat → Prop} {h : Nat → Nat} {θ : sv_T} {kc : Nat} {r : Int32} {σ' : sv_S} (hB : sx_base θ) (hkc : sv_oX0 θ kc) (F : sv_F (sx_X qK qV) p m c cX0_takes 2 s args wsX0_takes RX0 D (sx_tys T) A) (hr : meth.sig.returnType = (some .int)) (hlk : meth.locks = false)  : ∀ (w0 : Int32) (σ : sv_S) (H : Heap) (locs : List Loc) (ls : Array Slot), lv_has ls 2 [(0, .ref (h kc))] → sv_W D T A s h θ σ H locs → q_X0_takes_B29 θ kc w0 σ = some (r, σ') → W p l e (sv_rm 2 47) s m args below meth c H locs 0 0 (MQ below (va_Qi (fun r2 (_ : Unit) => r2 = r) (fun _ t => va_P D vwCl (sv_ws T h θ σ') t.heap) A) args s 0 0 A) (F0 m 29 ls [.int w0]) := by
  have hx := F.1.1
  have hb := F.1.2.1
  have hts := F.1.2.2.2.2
  have hown := F.1.2.2.2.1
  have hK := F.2.1
  intro w0 σ H locs ls hl hW hs
  unfold q_X0_takes_B29 at hs
  refine lv_istore_n (lv' := [(1, .int w0), (0, .ref (h kc))]) hx hb dX0_takes_29 rfl hl (by decide) rfl (fun ls hl => ?_)
  refine lv_aload_n hx hb dX0_takes_30 rfl (lv_at hl 1 rfl) ?_
  refine sv_get (own := RX0) (C := RX0) (Tf := TX0) (N := 4) (index := 24) (κ := (0, 0)) (v := .int (σ.1 kc 1)) hx hb hts hown hK hW (fun _ h => List.mem_cons_of_mem _ (List.mem_append_left _ (List.mem_append_right _ h))) hkc.1 hkc.2.1 rfl 1 (by decide) rfl rfl (List.mem_of_getElem? (i := 3) rfl) dX0_takes_31 ?_
  refine lv_iload_n hx hb dX0_takes_34 rfl (lv_at hl 0 rfl) ?_
  refine lv_aload_n hx hb dX0_takes_35 rfl (lv_at hl 1 rfl) ?_
  refine sv_get (own := RX0) (C := RX0) (Tf := TX0) (N := 4) (index := 9) (κ := (3, 1)) (v := .ref (h (kc + 1))) hx hb hts hown hK hW (fun _ h => List.mem_cons_of_mem _ (List.mem_append_left _ (List.mem_append_right _ h))) hkc.1 hkc.2.1 rfl 0 (by decide) rfl rfl (List.mem_of_getElem? (i := 2) rfl) dX0_takes_36 ?_
  refine lv_iconst (v := 2) hx hb dX0_takes_39 (by decide) ?_
  obtain ⟨r2, σ3, eσ3, hs⟩ := sp_bind hs
  refine sv_goI (σ' := σ3) (r := r2) hW F.2.2.2.1 (sv_runN (own := RX0) (host := "OpenWhileItRains") F hW (k_X7_at hB (sv_oA_of hkc.2.2.1 hkc.2.2.2) eσ3 H.size) gX0_takes_X7_at_n20 rfl ⟨rfl, rfl⟩ (F.2.2.1.1 _ (List.mem_of_getElem? (i := 10) rfl)) (List.mem_of_getElem? (i := 13) rfl) (List.mem_of_getElem? (i := 12) rfl) 2 (by decide +kernel) (sv_room2 (by omega) (by omega)) rfl hl.1 rfl (Nat.le_of_ble_eq_true rfl) dX0_takes_40 ⟨Nat.zero_le _, Nat.zero_le _⟩) (fun H locs hW => ?_)
  obtain ⟨r4, σ5, eσ5, hs⟩ := sp_bind hs
  refine sv_goI (σ' := σ5) (r := r4) hW F.2.2.2.1 (sv_runT F hW (k_X1_takes hB eσ5 H.size) gX0_takes_X1_takes rfl ⟨rfl, rfl⟩ 3 (by decide +kernel) (sv_room2 (by omega) (by omega)) rfl hl.1 rfl (Nat.le_of_ble_eq_true rfl) dX0_takes_43 ⟨Nat.zero_le _, Nat.zero_le _⟩) (fun H locs hW => ?_)
  refine lv_iconst (v := 1) hx hb dX0_takes_46 (by decide) ?_
  refine lv_bipush (v := 24) hx hb dX0_takes_47 (by decide) ?_
  obtain ⟨r6, σ7, eσ7, hs⟩ := sp_bind hs
  refine sv_goI (σ' := σ7) (r := r6) hW F.2.2.2.1 (sv_runN (own := RX0) (host := "OpenWhileItRains") F hW (k_X7_bound hB eσ7 H.size) gX0_takes_X7_bound_n58 rfl ⟨rfl, rfl⟩ (F.2.2.1.1 _ (List.mem_of_getElem? (i := 14) rfl)) (List.mem_of_getElem? (i := 13) rfl) (List.mem_of_getElem? (i := 20) rfl) 3 (by decide +kernel) (sv_room2 (by omega) (by omega)) rfl hl.1 rfl (Nat.le_of_ble_eq_true rfl) dX0_takes_49 ⟨Nat.zero_le _, Nat.zero_le _⟩) (fun H locs hW => ?_)
  cases hs
  exact sv_iret hx hb hr rfl hlk hW dX0_takes_52
set_option maxRecDepth 100000 in
set_option maxHeartbeats 4000000 in
theorem k_X0_takes {qK qV : Nat → Nat} {l : Launch} {D : va_G} {T : Nat → ClassId} {h : Nat → Nat} {θ : sv_T} {kc : Nat} {σ : sv_S} {r : Int32} {σ' : sv_S} (hB : sx_base θ) (hkc : sv_oX0 θ kc) (hs : q_X0_takes θ kc σ = some (r, σ')) : sv_Mi (sx_X qK qV) l D T (sx_tys T) h θ yX0_takes wsX0_takes (sv_rm 2 47) [.ref (h kc)] σ r σ' := by
  intro sz
  refine sv_enter (cc := cX0_takes) (maxL := 2) (ret := (some .int)) (Qc := fun A => va_Qi (fun r2 (_ : Unit) => r2 = r) (fun _ t => va_P D vwCl (sv_ws T h θ σ') t.heap) A) sx_XP (by decide) rfl (Nat.le_of_ble_eq_true rfl) ?_
  intro p e s m args below meth c A F hr hlk ls H hl hW
  have hx := F.1.1
  have hb := F.1.2.1
  have hts := F.1.2.2.2.2
  have hown := F.1.2.2.2.1
  have hK := F.2.1
  obtain ⟨locs, hlocs⟩ : ∃ z : List Loc, z = [] := ⟨_, rfl⟩
  rw [← hlocs] at hW ⊢
  have hl : lv_has ls 2 [(0, .ref (h kc))] := hl
  unfold q_X0_takes at hs
  refine lv_aload_n hx hb dX0_takes_0 rfl (lv_at hl 0 rfl) ?_
  refine sv_get (own := RX0) (C := RX0) (Tf := TX0) (N := 4) (index := 32) (κ := (2, 0)) (v := va_rf ((σ.2.2 kc 2).map h)) hx hb hts hown hK hW (fun _ h => List.mem_cons_of_mem _ (List.mem_append_left _ (List.mem_append_right _ h))) hkc.1 hkc.2.1 rfl 2 (by decide) rfl rfl (List.mem_of_getElem? (i := 1) rfl) dX0_takes_1 ?_
  cases et1 : σ.2.2 kc 2 with
  | none =>
    replace hs := sp_on hs et1
    refine W.eq (g2 := F0 m 4 ls [.null]) rfl ?_
    refine lv_ifnonnullN hx hb dX0_takes_4 ?_
    refine lv_iconst (v := 0) hx hb dX0_takes_7 (by decide) ?_
    refine lv_goto (tgt := 29) hx hb dX0_takes_8 (by decide) ?_
    exact b_X0_takes_29 hB hkc F hr hlk (0 : Int32) σ H locs ls (lv_sub hl [0] rfl) hW hs
  | some t1 =>
    replace hs := sp_os hs et1
    obtain ⟨ht1, hs⟩ := sp_p hs
    refine W.eq (g2 := F0 m 4 ls [.ref (h t1)]) rfl ?_
    refine lv_ifnonnull (tgt := 11) hx hb dX0_takes_4 (by decide) ?_
    refine lv_aload_n hx hb dX0_takes_11 rfl (lv_at hl 0 rfl) ?_
    refine sv_get (own := RX0) (C := RX0) (Tf := TX0) (N := 4) (index := 32) (κ := (2, 0)) (v := .ref (h t1)) hx hb hts hown hK hW (fun _ h => List.mem_cons_of_mem _ (List.mem_append_left _ (List.mem_append_right _ h))) hkc.1 hkc.2.1 rfl 2 (by decide) rfl (by show va_rf (Option.map h (σ.2.2 kc 2)) = .ref (h t1); rw [et1]; rfl) (List.mem_of_getElem? (i := 1) rfl) dX0_takes_12 ?_
    refine lv_iconst (v := 1) hx hb dX0_takes_15 (by decide) ?_
    refine lv_aload_n hx hb dX0_takes_16 rfl (lv_at hl 0 rfl) ?_
    refine sv_get (own := RX0) (C := RX0) (Tf := TX0) (N := 4) (index := 9) (κ := (3, 1)) (v := .ref (h (kc + 1))) hx hb hts hown hK hW (fun _ h => List.mem_cons_of_mem _ (List.mem_append_left _ (List.mem_append_right _ h))) hkc.1 hkc.2.1 rfl 0 (by decide) rfl rfl (List.mem_of_getElem? (i := 2) rfl) dX0_takes_17 ?_
    obtain ⟨r8, σ9, eσ9, hs⟩ := sp_bind hs
    refine sv_goI (σ' := σ9) (r := r8) hW F.2.2.2.1 (sv_runV (C := RX6) F hW (k_X6_tell hB ht1 (sv_oA_of hkc.2.2.1 hkc.2.2.2) eσ9 H.size) gX0_takes_X6_tell rfl ⟨rfl, rfl⟩ 2 (by decide +kernel) (sv_room2 (by omega) (by omega)) ht1.1 ht1.2.1 rfl rfl hl.1 rfl (Nat.le_of_ble_eq_true rfl) dX0_takes_20 ⟨Nat.zero_le _, Nat.zero_le _⟩) (fun H locs hW => ?_)
    refine lv_iconst (v := 0) hx hb dX0_takes_23 (by decide) ?_
    refine lv_bipush (v := 24) hx hb dX0_takes_24 (by decide) ?_
    obtain ⟨r10, σ11, eσ11, hs⟩ := sp_bind hs
    refine sv_goI (σ' := σ11) (r := r10) hW F.2.2.2.1 (sv_runN (own := RX0) (host := "OpenWhileItRains") F hW (k_X7_bound hB eσ11 H.size) gX0_takes_X7_bound_n58 rfl ⟨rfl, rfl⟩ (F.2.2.1.1 _ (List.mem_of_getElem? (i := 14) rfl)) (List.mem_of_getElem? (i := 13) rfl) (List.mem_of_getElem? (i := 20) rfl) 3 (by decide +kernel) (sv_room2 (by omega) (by omega)) rfl hl.1 rfl (Nat.le_of_ble_eq_true rfl) dX0_takes_26 ⟨Nat.zero_le _, Nat.zero_le _⟩) (fun H locs hW => ?_)
    exact b_X0_takes_29 hB hkc F hr hlk r10 σ11 H locs ls (lv_sub hl [0] rfl) hW hs
set_option maxRecDepth 100000 in
set_option maxHeartbeats 4000000 in
theorem k_X1_worth {qK qV : Nat → Nat} {l : Launch} {D : va_G} {T : Nat → ClassId} {h : Nat → Nat} {θ : sv_T} {a1 : Int32} {a2 : Int32} {a3 : Int32} {a4 : Int32} {σ : sv_S} {r : Int32} {σ' : sv_S} (hB : sx_base θ)  (hs : q_X1_worth θ a1 a2 a3 a4 σ = some (r, σ')) : sv_Mi (sx_X qK qV) l D T (sx_tys T) h θ yX1_worth wsX1_worth (sv_rm 0 0) [.int a1, .int a2, .int a3, .int a4] σ r σ' := by
  intro sz
  refine sv_enter (cc := cX1_worth) (maxL := 4) (ret := (some .int)) (Qc := fun A => va_Qi (fun r2 (_ : Unit) => r2 = r) (fun _ t => va_P D vwCl (sv_ws T h θ σ') t.heap) A) sx_XP (by decide) rfl (Nat.le_of_ble_eq_true rfl) ?_
  intro p e s m args below meth c A F hr hlk ls H hl hW
  have hx := F.1.1
  have hb := F.1.2.1
  have hts := F.1.2.2.2.2
  have hown := F.1.2.2.2.1
  have hK := F.2.1
  obtain ⟨locs, hlocs⟩ : ∃ z : List Loc, z = [] := ⟨_, rfl⟩
  rw [← hlocs] at hW ⊢
  have hl : lv_has ls 4 [(0, .int a1), (1, .int a2), (2, .int a3), (3, .int a4)] := hl
  unfold q_X1_worth at hs
  refine lv_iload_n hx hb dX1_worth_0 rfl (lv_at hl 0 rfl) ?_
  by_cases c1 : a1 = 2
  · replace hs := (sp_ite hs).1 c1
    refine lv_tableIn (off := 31) (tgt := 32) hx hb dX1_worth_1 (by rw [c1]; decide) (by rw [c1]; decide) (by rw [c1]; decide) (by decide) ?_
    refine lv_iload_n hx hb dX1_worth_32 rfl (lv_at hl 1 rfl) ?_
    refine lv_bipush (v := 10) hx hb dX1_worth_33 (by decide) ?_
    refine lv_iadd hx hb dX1_worth_35 ?_
    cases hs
    exact sv_iret hx hb hr rfl hlk hW dX1_worth_36
  replace hs := (sp_ite hs).2 c1
  by_cases c2 : a1 = 3
  · replace hs := (sp_ite hs).1 c2
    refine lv_tableIn (off := 36) (tgt := 37) hx hb dX1_worth_1 (by rw [c2]; decide) (by rw [c2]; decide) (by rw [c2]; decide) (by decide) ?_
    refine lv_iload_n hx hb dX1_worth_37 rfl (lv_at hl 1 rfl) ?_
    refine lv_iload_n hx hb dX1_worth_38 rfl (lv_at hl 3 rfl) ?_
    refine lv_iconst (v := 2) hx hb dX1_worth_39 (by decide) ?_
    refine lv_imul hx hb dX1_worth_40 ?_
    refine lv_isub hx hb dX1_worth_41 ?_
    cases hs
    exact sv_iret hx hb hr rfl hlk hW dX1_worth_42
  replace hs := (sp_ite hs).2 c2
  by_cases c3 : a1 = 4
  · replace hs := (sp_ite hs).1 c3
    refine lv_tableIn (off := 42) (tgt := 43) hx hb dX1_worth_1 (by rw [c3]; decide) (by rw [c3]; decide) (by rw [c3]; decide) (by decide) ?_
    refine lv_iload_n hx hb dX1_worth_43 rfl (lv_at hl 3 rfl) ?_
    refine lv_bipush (v := 12) hx hb dX1_worth_44 (by decide) ?_
    refine lv_icmp_lt (tgt := 58) hx hb dX1_worth_46 (by decide) (fun c4 => ?_) (fun c4 => ?_)
    · replace hs := (sp_ite hs).1 c4
      refine lv_iload_n hx hb dX1_worth_58 rfl (lv_at hl 1 rfl) ?_
      refine lv_bipush (v := 10) hx hb dX1_worth_59 (by decide) ?_
      refine lv_iadd hx hb dX1_worth_61 ?_
      cases hs
      exact sv_iret hx hb hr rfl hlk hW dX1_worth_62
    · replace hs := (sp_ite hs).2 c4
      refine lv_iload_n hx hb dX1_worth_49 rfl (lv_at hl 1 rfl) ?_
      refine lv_bipush (v := 10) hx hb dX1_worth_50 (by decide) ?_
      refine lv_iadd hx hb dX1_worth_52 ?_
      refine lv_iconst (v := 2) hx hb dX1_worth_53 (by decide) ?_
      refine lv_imul hx hb dX1_worth_54 ?_
      refine lv_goto (tgt := 62) hx hb dX1_worth_55 (by decide) ?_
      cases hs
      exact sv_iret hx hb hr rfl hlk hW dX1_worth_62
  replace hs := (sp_ite hs).2 c3
  by_cases c5 : a1 = 5
  · replace hs := (sp_ite hs).1 c5
    refine lv_tableIn (off := 62) (tgt := 63) hx hb dX1_worth_1 (by rw [c5]; decide) (by rw [c5]; decide) (by rw [c5]; decide) (by decide) ?_
    refine lv_iload_n hx hb dX1_worth_63 rfl (lv_at hl 3 rfl) ?_
    refine lv_iconst (v := 3) hx hb dX1_worth_64 (by decide) ?_
    refine lv_icmp_ge (tgt := 72) hx hb dX1_worth_65 (by decide) (fun c6 => ?_) (fun c6 => ?_)
    · replace hs := (sp_ite hs).1 c6
      refine lv_iconst (v := 0) hx hb dX1_worth_72 (by decide) ?_
      cases hs
      exact sv_iret hx hb hr rfl hlk hW dX1_worth_73
    · replace hs := (sp_ite hs).2 c6
      refine lv_iload_n hx hb dX1_worth_68 rfl (lv_at hl 2 rfl) ?_
      refine lv_goto (tgt := 73) hx hb dX1_worth_69 (by decide) ?_
      cases hs
      exact sv_iret hx hb hr rfl hlk hW dX1_worth_73
  replace hs := (sp_ite hs).2 c5
  refine lv_tableOut (tgt := 74) hx hb dX1_worth_1 (by have := lv_neT (k := 2) (a := 2) c1 (by decide); have := lv_neT (k := 3) (a := 3) c2 (by decide); have := lv_neT (k := 4) (a := 4) c3 (by decide); have := lv_neT (k := 5) (a := 5) c5 (by decide); omega) (by decide) ?_
  refine lv_iload_n hx hb dX1_worth_74 rfl (lv_at hl 1 rfl) ?_
  cases hs
  exact sv_iret hx hb hr rfl hlk hW dX1_worth_75
set_option maxRecDepth 100000 in
set_option maxHeartbeats 4000000 in
theorem b_X0_worth_29 {qK qV : Nat → Nat} {p : Program} {l : Launch} {e : Env} {s : State} {m : MethodId} {args : Array Value} {below : List Frame} {meth : Method} {c : Code} {D : va_G} {T : Nat → ClassId} {A : Nat → Prop} {h : Nat → Nat} {θ : sv_T} {kc : Nat} {r : Int32} {σ' : sv_S} (hB : sx_base θ) (hkc : sv_oX0 θ kc) (F : sv_F (sx_X qK qV) p m c cX0_worth 2 s args wsX0_worth RX0 D (sx_tys T) A) (hr : meth.sig.returnType = (some .int)) (hlk : meth.locks = false)  : ∀ (w0 : Int32) (σ : sv_S) (H : Heap) (locs : List Loc) (ls : Array Slot), lv_has ls 2 [(0, .ref (h kc))] → sv_W D T A s h θ σ H locs → q_X0_worth_B29 θ kc w0 σ = some (r, σ') → W p l e (sv_rm 2 47) s m args below meth c H locs 0 0 (MQ below (va_Qi (fun r2 (_ : Unit) => r2 = r) (fun _ t => va_P D vwCl (sv_ws T h θ σ') t.heap) A) args s 0 0 A) (F0 m 29 ls [.int w0]) := by
  have hx := F.1.1
  have hb := F.1.2.1
  have hts := F.1.2.2.2.2
  have hown := F.1.2.2.2.1
  have hK := F.2.1
  intro w0 σ H locs ls hl hW hs
  unfold q_X0_worth_B29 at hs
  refine lv_istore_n (lv' := [(1, .int w0), (0, .ref (h kc))]) hx hb dX0_worth_29 rfl hl (by decide) rfl (fun ls hl => ?_)
  refine lv_aload_n hx hb dX0_worth_30 rfl (lv_at hl 1 rfl) ?_
  refine sv_get (own := RX0) (C := RX0) (Tf := TX0) (N := 4) (index := 24) (κ := (0, 0)) (v := .int (σ.1 kc 1)) hx hb hts hown hK hW (fun _ h => List.mem_cons_of_mem _ (List.mem_append_left _ (List.mem_append_right _ h))) hkc.1 hkc.2.1 rfl 1 (by decide) rfl rfl (List.mem_of_getElem? (i := 3) rfl) dX0_worth_31 ?_
  refine lv_iload_n hx hb dX0_worth_34 rfl (lv_at hl 0 rfl) ?_
  refine lv_aload_n hx hb dX0_worth_35 rfl (lv_at hl 1 rfl) ?_
  refine sv_get (own := RX0) (C := RX0) (Tf := TX0) (N := 4) (index := 9) (κ := (3, 1)) (v := .ref (h (kc + 1))) hx hb hts hown hK hW (fun _ h => List.mem_cons_of_mem _ (List.mem_append_left _ (List.mem_append_right _ h))) hkc.1 hkc.2.1 rfl 0 (by decide) rfl rfl (List.mem_of_getElem? (i := 2) rfl) dX0_worth_36 ?_
  refine lv_iconst (v := 2) hx hb dX0_worth_39 (by decide) ?_
  obtain ⟨r2, σ3, eσ3, hs⟩ := sp_bind hs
  refine sv_goI (σ' := σ3) (r := r2) hW F.2.2.2.1 (sv_runN (own := RX0) (host := "OpenWhileItRains") F hW (k_X7_at hB (sv_oA_of hkc.2.2.1 hkc.2.2.2) eσ3 H.size) gX0_worth_X7_at_n20 rfl ⟨rfl, rfl⟩ (F.2.2.1.1 _ (List.mem_of_getElem? (i := 10) rfl)) (List.mem_of_getElem? (i := 13) rfl) (List.mem_of_getElem? (i := 12) rfl) 2 (by decide +kernel) (sv_room2 (by omega) (by omega)) rfl hl.1 rfl (Nat.le_of_ble_eq_true rfl) dX0_worth_40 ⟨Nat.zero_le _, Nat.zero_le _⟩) (fun H locs hW => ?_)
  refine lv_aload_n hx hb dX0_worth_43 rfl (lv_at hl 1 rfl) ?_
  refine sv_get (own := RX0) (C := RX0) (Tf := TX0) (N := 4) (index := 9) (κ := (3, 1)) (v := .ref (h (kc + 1))) hx hb hts hown hK hW (fun _ h => List.mem_cons_of_mem _ (List.mem_append_left _ (List.mem_append_right _ h))) hkc.1 hkc.2.1 rfl 0 (by decide) rfl rfl (List.mem_of_getElem? (i := 2) rfl) dX0_worth_44 ?_
  refine lv_iconst (v := 1) hx hb dX0_worth_47 (by decide) ?_
  obtain ⟨r4, σ5, eσ5, hs⟩ := sp_bind hs
  refine sv_goI (σ' := σ5) (r := r4) hW F.2.2.2.1 (sv_runN (own := RX0) (host := "OpenWhileItRains") F hW (k_X7_at hB (sv_oA_of hkc.2.2.1 hkc.2.2.2) eσ5 H.size) gX0_worth_X7_at_n20 rfl ⟨rfl, rfl⟩ (F.2.2.1.1 _ (List.mem_of_getElem? (i := 10) rfl)) (List.mem_of_getElem? (i := 13) rfl) (List.mem_of_getElem? (i := 12) rfl) 2 (by decide +kernel) (sv_room2 (by omega) (by omega)) rfl hl.1 rfl (Nat.le_of_ble_eq_true rfl) dX0_worth_48 ⟨Nat.zero_le _, Nat.zero_le _⟩) (fun H locs hW => ?_)
  obtain ⟨r6, σ7, eσ7, hs⟩ := sp_bind hs
  refine sv_goI (σ' := σ7) (r := r6) hW F.2.2.2.1 (sv_runT F hW (k_X1_worth hB eσ7 H.size) gX0_worth_X1_worth rfl ⟨rfl, rfl⟩ 4 (by decide +kernel) (sv_room2 (by omega) (by omega)) rfl hl.1 rfl (Nat.le_of_ble_eq_true rfl) dX0_worth_51 ⟨Nat.zero_le _, Nat.zero_le _⟩) (fun H locs hW => ?_)
  refine lv_iconst (v := 0) hx hb dX0_worth_54 (by decide) ?_
  refine lv_sipush (v := 999) hx hb dX0_worth_55 (by decide) ?_
  obtain ⟨r8, σ9, eσ9, hs⟩ := sp_bind hs
  refine sv_goI (σ' := σ9) (r := r8) hW F.2.2.2.1 (sv_runN (own := RX0) (host := "OpenWhileItRains") F hW (k_X7_bound hB eσ9 H.size) gX0_worth_X7_bound_n58 rfl ⟨rfl, rfl⟩ (F.2.2.1.1 _ (List.mem_of_getElem? (i := 14) rfl)) (List.mem_of_getElem? (i := 13) rfl) (List.mem_of_getElem? (i := 20) rfl) 3 (by decide +kernel) (sv_room2 (by omega) (by omega)) rfl hl.1 rfl (Nat.le_of_ble_eq_true rfl) dX0_worth_58 ⟨Nat.zero_le _, Nat.zero_le _⟩) (fun H locs hW => ?_)
  cases hs
  exact sv_iret hx hb hr rfl hlk hW dX0_worth_61
set_option maxRecDepth 100000 in
set_option maxHeartbeats 4000000 in
theorem k_X0_worth {qK qV : Nat → Nat} {l : Launch} {D : va_G} {T : Nat → ClassId} {h : Nat → Nat} {θ : sv_T} {kc : Nat} {σ : sv_S} {r : Int32} {σ' : sv_S} (hB : sx_base θ) (hkc : sv_oX0 θ kc) (hs : q_X0_worth θ kc σ = some (r, σ')) : sv_Mi (sx_X qK qV) l D T (sx_tys T) h θ yX0_worth wsX0_worth (sv_rm 2 47) [.ref (h kc)] σ r σ' := by
  intro sz
  refine sv_enter (cc := cX0_worth) (maxL := 2) (ret := (some .int)) (Qc := fun A => va_Qi (fun r2 (_ : Unit) => r2 = r) (fun _ t => va_P D vwCl (sv_ws T h θ σ') t.heap) A) sx_XP (by decide) rfl (Nat.le_of_ble_eq_true rfl) ?_
  intro p e s m args below meth c A F hr hlk ls H hl hW
  have hx := F.1.1
  have hb := F.1.2.1
  have hts := F.1.2.2.2.2
  have hown := F.1.2.2.2.1
  have hK := F.2.1
  obtain ⟨locs, hlocs⟩ : ∃ z : List Loc, z = [] := ⟨_, rfl⟩
  rw [← hlocs] at hW ⊢
  have hl : lv_has ls 2 [(0, .ref (h kc))] := hl
  unfold q_X0_worth at hs
  refine lv_aload_n hx hb dX0_worth_0 rfl (lv_at hl 0 rfl) ?_
  refine sv_get (own := RX0) (C := RX0) (Tf := TX0) (N := 4) (index := 32) (κ := (2, 0)) (v := va_rf ((σ.2.2 kc 2).map h)) hx hb hts hown hK hW (fun _ h => List.mem_cons_of_mem _ (List.mem_append_left _ (List.mem_append_right _ h))) hkc.1 hkc.2.1 rfl 2 (by decide) rfl rfl (List.mem_of_getElem? (i := 1) rfl) dX0_worth_1 ?_
  cases et1 : σ.2.2 kc 2 with
  | none =>
    replace hs := sp_on hs et1
    refine W.eq (g2 := F0 m 4 ls [.null]) rfl ?_
    refine lv_ifnonnullN hx hb dX0_worth_4 ?_
    refine lv_iconst (v := 0) hx hb dX0_worth_7 (by decide) ?_
    refine lv_goto (tgt := 29) hx hb dX0_worth_8 (by decide) ?_
    exact b_X0_worth_29 hB hkc F hr hlk (0 : Int32) σ H locs ls (lv_sub hl [0] rfl) hW hs
  | some t1 =>
    replace hs := sp_os hs et1
    obtain ⟨ht1, hs⟩ := sp_p hs
    refine W.eq (g2 := F0 m 4 ls [.ref (h t1)]) rfl ?_
    refine lv_ifnonnull (tgt := 11) hx hb dX0_worth_4 (by decide) ?_
    refine lv_aload_n hx hb dX0_worth_11 rfl (lv_at hl 0 rfl) ?_
    refine sv_get (own := RX0) (C := RX0) (Tf := TX0) (N := 4) (index := 32) (κ := (2, 0)) (v := .ref (h t1)) hx hb hts hown hK hW (fun _ h => List.mem_cons_of_mem _ (List.mem_append_left _ (List.mem_append_right _ h))) hkc.1 hkc.2.1 rfl 2 (by decide) rfl (by show va_rf (Option.map h (σ.2.2 kc 2)) = .ref (h t1); rw [et1]; rfl) (List.mem_of_getElem? (i := 1) rfl) dX0_worth_12 ?_
    refine lv_iconst (v := 2) hx hb dX0_worth_15 (by decide) ?_
    refine lv_aload_n hx hb dX0_worth_16 rfl (lv_at hl 0 rfl) ?_
    refine sv_get (own := RX0) (C := RX0) (Tf := TX0) (N := 4) (index := 9) (κ := (3, 1)) (v := .ref (h (kc + 1))) hx hb hts hown hK hW (fun _ h => List.mem_cons_of_mem _ (List.mem_append_left _ (List.mem_append_right _ h))) hkc.1 hkc.2.1 rfl 0 (by decide) rfl rfl (List.mem_of_getElem? (i := 2) rfl) dX0_worth_17 ?_
    obtain ⟨r10, σ11, eσ11, hs⟩ := sp_bind hs
    refine sv_goI (σ' := σ11) (r := r10) hW F.2.2.2.1 (sv_runV (C := RX6) F hW (k_X6_tell hB ht1 (sv_oA_of hkc.2.2.1 hkc.2.2.2) eσ11 H.size) gX0_worth_X6_tell rfl ⟨rfl, rfl⟩ 2 (by decide +kernel) (sv_room2 (by omega) (by omega)) ht1.1 ht1.2.1 rfl rfl hl.1 rfl (Nat.le_of_ble_eq_true rfl) dX0_worth_20 ⟨Nat.zero_le _, Nat.zero_le _⟩) (fun H locs hW => ?_)
    refine lv_iconst (v := 0) hx hb dX0_worth_23 (by decide) ?_
    refine lv_bipush (v := 99) hx hb dX0_worth_24 (by decide) ?_
    obtain ⟨r12, σ13, eσ13, hs⟩ := sp_bind hs
    refine sv_goI (σ' := σ13) (r := r12) hW F.2.2.2.1 (sv_runN (own := RX0) (host := "OpenWhileItRains") F hW (k_X7_bound hB eσ13 H.size) gX0_worth_X7_bound_n58 rfl ⟨rfl, rfl⟩ (F.2.2.1.1 _ (List.mem_of_getElem? (i := 14) rfl)) (List.mem_of_getElem? (i := 13) rfl) (List.mem_of_getElem? (i := 20) rfl) 3 (by decide +kernel) (sv_room2 (by omega) (by omega)) rfl hl.1 rfl (Nat.le_of_ble_eq_true rfl) dX0_worth_26 ⟨Nat.zero_le _, Nat.zero_le _⟩) (fun H locs hW => ?_)
    exact b_X0_worth_29 hB hkc F hr hlk r12 σ13 H locs ls (lv_sub hl [0] rfl) hW hs

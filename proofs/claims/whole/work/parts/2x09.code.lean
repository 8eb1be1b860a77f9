set_option maxRecDepth 100000 in
set_option maxHeartbeats 4000000 in
theorem k_X7_taken {qK qV : Nat → Nat} {l : Launch} {D : va_G} {T : Nat → ClassId} {h : Nat → Nat} {θ : sv_T} {a1 : Int32} {a2 : Int32} {σ : sv_S} {r : Int32} {σ' : sv_S} (hB : sx_base θ)  (hs : q_X7_taken θ a1 a2 σ = some (r, σ')) : sv_Mi (sx_X qK qV) l D T (sx_tys T) h θ yX7_taken wsX7_taken (sv_rm 1 23) [.ref (h 0), .int a1, .int a2] σ r σ' := by
  intro sz
  refine sv_enter (cc := cX7_taken) (maxL := 3) (ret := (some .int)) (Qc := fun A => va_Qi (fun r2 (_ : Unit) => r2 = r) (fun _ t => va_P D vwCl (sv_ws T h θ σ') t.heap) A) sx_XP (by decide) rfl (Nat.le_of_ble_eq_true rfl) ?_
  intro p e s m args below meth c A F hr hlk ls H hl hW
  have hx := F.1.1
  have hb := F.1.2.1
  have hts := F.1.2.2.2.2
  have hown := F.1.2.2.2.1
  have hK := F.2.1
  obtain ⟨locs, hlocs⟩ : ∃ z : List Loc, z = [] := ⟨_, rfl⟩
  rw [← hlocs] at hW ⊢
  have hl : lv_has ls 3 [(0, .ref (h 0)), (1, .int a1), (2, .int a2)] := hl
  unfold q_X7_taken at hs
  refine lv_iload_n hx hb dX7_taken_0 rfl (lv_at hl 2 rfl) ?_
  refine lv_if_lt (tgt := 10) hx hb dX7_taken_1 (by decide) (fun c1 => ?_) (fun c1 => ?_)
  · replace hs := (sp_ite hs).1 c1
    refine lv_bipush (v := -2) hx hb dX7_taken_10 (by decide) ?_
    cases hs
    exact sv_iret hx hb hr rfl hlk hW dX7_taken_12
  · replace hs := (sp_ite hs).2 c1
    refine lv_iload_n hx hb dX7_taken_4 rfl (lv_at hl 2 rfl) ?_
    refine lv_bipush (v := 6) hx hb dX7_taken_5 (by decide) ?_
    refine lv_icmp_lt (tgt := 13) hx hb dX7_taken_7 (by decide) (fun c2 => ?_) (fun c2 => ?_)
    · replace hs := (sp_ite hs).1 c2
      refine lv_aload_n hx hb dX7_taken_13 rfl (lv_at hl 0 rfl) ?_
      refine sv_get (own := RX7) (C := RX7) (Tf := TX7) (N := 10) (index := 10) (κ := (3, 1)) (v := .ref (h 1)) hx hb hts hown hK hW (fun _ h => List.mem_cons_of_mem _ (List.mem_append_left _ (List.mem_append_right _ h))) (sx_i 0 hB (by decide)) (sx_c0 hB) rfl 0 (by decide) rfl rfl (List.mem_of_getElem? (i := 1) rfl) dX7_taken_14 ?_
      refine lv_iload_n hx hb dX7_taken_17 rfl (lv_at hl 1 rfl) ?_
      obtain ⟨r3, σ4, eσ4, hs⟩ := sp_bind hs
      refine sv_goI (σ' := σ4) (r := r3) hW F.2.2.2.1 (sv_runV (C := RX2) F hW (k_X2_has hB eσ4 H.size) gX7_taken_X2_has rfl ⟨rfl, rfl⟩ 1 (by decide +kernel) (sv_room2 (by omega) (by omega)) (sx_i 1 hB (by decide)) (sx_c1 hB) rfl rfl hl.1 rfl (Nat.le_of_ble_eq_true rfl) dX7_taken_18 ⟨Nat.zero_le _, Nat.zero_le _⟩) (fun H locs hW => ?_)
      refine lv_if_ne (tgt := 27) hx hb dX7_taken_21 (by decide) (fun c5 => ?_) (fun c5 => ?_)
      · replace hs := (sp_ite hs).2 c5
        refine lv_aload_n hx hb dX7_taken_27 rfl (lv_at hl 0 rfl) ?_
        refine sv_get (own := RX7) (C := RX7) (Tf := TX7) (N := 10) (index := 10) (κ := (3, 1)) (v := .ref (h 1)) hx hb hts hown hK hW (fun _ h => List.mem_cons_of_mem _ (List.mem_append_left _ (List.mem_append_right _ h))) (sx_i 0 hB (by decide)) (sx_c0 hB) rfl 0 (by decide) rfl rfl (List.mem_of_getElem? (i := 1) rfl) dX7_taken_28 ?_
        refine sv_get (own := RX7) (C := RX2) (Tf := TX2) (N := 8) (index := 133) (κ := (3, 2)) (v := .ref (h 3)) hx hb hts hown hK hW (fun _ h => List.mem_cons_of_mem _ (List.mem_append_right _ h)) (sx_i 1 hB (by decide)) (sx_c1 hB) rfl 1 (by decide) rfl rfl (List.mem_of_getElem? (i := 2) rfl) dX7_taken_31 ?_
        refine lv_iload_n hx hb dX7_taken_34 rfl (lv_at hl 1 rfl) ?_
        obtain ⟨r6, σ7, eσ7, hs⟩ := sp_bind hs
        refine sv_goI (σ' := σ7) (r := r6) hW F.2.2.2.1 (sv_runT F hW (k_X7_at hB (sv_oA_of (sx_i 3 hB (by decide)) (sx_c3 hB)) eσ7 H.size) gX7_taken_X7_at rfl ⟨rfl, rfl⟩ 2 (by decide +kernel) (sv_room2 (by omega) (by omega)) rfl hl.1 rfl (Nat.le_of_ble_eq_true rfl) dX7_taken_35 ⟨Nat.zero_le _, Nat.zero_le _⟩) (fun H locs hW => ?_)
        refine lv_iload_n hx hb dX7_taken_38 rfl (lv_at hl 2 rfl) ?_
        obtain ⟨r8, σ9, eσ9, hs⟩ := sp_bind hs
        refine sv_goI (σ' := σ9) (r := r8) hW F.2.2.2.1 (sv_runT F hW (k_X1_isUnder hB eσ9 H.size) gX7_taken_X1_isUnder rfl ⟨rfl, rfl⟩ 2 (by decide +kernel) (sv_room2 (by omega) (by omega)) rfl hl.1 rfl (Nat.le_of_ble_eq_true rfl) dX7_taken_39 ⟨Nat.zero_le _, Nat.zero_le _⟩) (fun H locs hW => ?_)
        refine lv_if_eq (tgt := 59) hx hb dX7_taken_42 (by decide) (fun c10 => ?_) (fun c10 => ?_)
        · replace hs := (sp_ite hs).1 c10
          refine lv_bipush (v := -13) hx hb dX7_taken_59 (by decide) ?_
          cases hs
          exact sv_iret hx hb hr rfl hlk hW dX7_taken_61
        · replace hs := (sp_ite hs).2 c10
          refine lv_aload_n hx hb dX7_taken_45 rfl (lv_at hl 0 rfl) ?_
          refine sv_get (own := RX7) (C := RX7) (Tf := TX7) (N := 10) (index := 10) (κ := (3, 1)) (v := .ref (h 1)) hx hb hts hown hK hW (fun _ h => List.mem_cons_of_mem _ (List.mem_append_left _ (List.mem_append_right _ h))) (sx_i 0 hB (by decide)) (sx_c0 hB) rfl 0 (by decide) rfl rfl (List.mem_of_getElem? (i := 1) rfl) dX7_taken_46 ?_
          refine sv_get (own := RX7) (C := RX2) (Tf := TX2) (N := 8) (index := 110) (κ := (3, 3)) (v := .ref (h 4)) hx hb hts hown hK hW (fun _ h => List.mem_cons_of_mem _ (List.mem_append_right _ h)) (sx_i 1 hB (by decide)) (sx_c1 hB) rfl 2 (by decide) rfl rfl (List.mem_of_getElem? (i := 3) rfl) dX7_taken_49 ?_
          refine lv_iload_n hx hb dX7_taken_52 rfl (lv_at hl 1 rfl) ?_
          obtain ⟨r11, σ12, eσ12, hs⟩ := sp_bind hs
          refine sv_goI (σ' := σ12) (r := r11) hW F.2.2.2.1 (sv_runT F hW (k_X7_at hB (sv_oA_of (sx_i 4 hB (by decide)) (sx_c4 hB)) eσ12 H.size) gX7_taken_X7_at rfl ⟨rfl, rfl⟩ 2 (by decide +kernel) (sv_room2 (by omega) (by omega)) rfl hl.1 rfl (Nat.le_of_ble_eq_true rfl) dX7_taken_53 ⟨Nat.zero_le _, Nat.zero_le _⟩) (fun H locs hW => ?_)
          refine lv_goto (tgt := 61) hx hb dX7_taken_56 (by decide) ?_
          cases hs
          exact sv_iret hx hb hr rfl hlk hW dX7_taken_61
      · replace hs := (sp_ite hs).1 c5
        refine lv_bipush (v := -11) hx hb dX7_taken_24 (by decide) ?_
        cases hs
        exact sv_iret hx hb hr rfl hlk hW dX7_taken_26
    · replace hs := (sp_ite hs).2 c2
      refine lv_bipush (v := -2) hx hb dX7_taken_10 (by decide) ?_
      cases hs
      exact sv_iret hx hb hr rfl hlk hW dX7_taken_12
set_option maxRecDepth 100000 in
set_option maxHeartbeats 4000000 in
theorem k_X7_keepText {qK qV : Nat → Nat} {l : Launch} {D : va_G} {T : Nat → ClassId} {h : Nat → Nat} {θ : sv_T} {o1 : Option Nat} {σ : sv_S} {r : Unit} {σ' : sv_S} (hB : sx_base θ)  (hs : q_X7_keepText θ o1 σ = some (r, σ')) : sv_Mv (sx_X qK qV) l D T (sx_tys T) h θ yX7_keepText wsX7_keepText (sv_rm 0 0) [.ref (h 0), va_rf ((o1).map h)] σ r σ' := by
  intro sz
  refine sv_enter (cc := cX7_keepText) (maxL := 2) (ret := none) (Qc := fun A => va_Qv (fun (_ : Unit) => True) (fun _ t => va_P D vwCl (sv_ws T h θ σ') t.heap) A) sx_XP (by decide) rfl (Nat.le_of_ble_eq_true (by cases o1 <;> rfl)) ?_
  intro p e s m args below meth c A F hr hlk ls H hl hW
  have hx := F.1.1
  have hb := F.1.2.1
  have hts := F.1.2.2.2.2
  have hown := F.1.2.2.2.1
  have hK := F.2.1
  obtain ⟨locs, hlocs⟩ : ∃ z : List Loc, z = [] := ⟨_, rfl⟩
  rw [← hlocs] at hW ⊢
  have hl : lv_has ls 2 [(0, .ref (h 0)), (1, va_rf ((o1).map h))] := hl
  unfold q_X7_keepText at hs
  cases et1 : o1 with
  | none =>
    replace hs := sp_on hs et1
    have hl : lv_has ls 2 [(0, .ref (h 0)), (1, .null)] := (by first | exact hl | (rw [et1] at hl; exact hl))
    refine lv_aload_nN hx hb dX7_keepText_0 rfl (lv_at hl 1 rfl) ?_
    refine lv_ifnullN (tgt := 36) hx hb dX7_keepText_1 (by decide) ?_
    cases hs
    exact sv_vret hx hb hr hlk hW dX7_keepText_36
  | some t1 =>
    replace hs := sp_os hs et1
    obtain ⟨ht1, hs⟩ := sp_p hs
    have hl : lv_has ls 2 [(0, .ref (h 0)), (1, .ref (h t1))] := (by first | exact hl | (rw [et1] at hl; exact hl))
    refine lv_aload_n hx hb dX7_keepText_0 rfl (lv_at hl 1 rfl) ?_
    refine lv_ifnull hx hb dX7_keepText_1 ?_
    refine lv_aload_n hx hb dX7_keepText_4 rfl (lv_at hl 0 rfl) ?_
    refine sv_get (own := RX7) (C := RX7) (Tf := TX7) (N := 10) (index := 163) (κ := (0, 0)) (v := .int (σ.1 0 5)) hx hb hts hown hK hW (fun _ h => List.mem_cons_of_mem _ (List.mem_append_right _ h)) (sx_i 0 hB (by decide)) (sx_c0 hB) rfl 5 (by decide) rfl rfl (List.mem_of_getElem? (i := 1) rfl) dX7_keepText_5 ?_
    refine lv_aload_n hx hb dX7_keepText_8 rfl (lv_at hl 0 rfl) ?_
    refine sv_get (own := RX7) (C := RX7) (Tf := TX7) (N := 10) (index := 28) (κ := (3, 20)) (v := .ref (h 20)) hx hb hts hown hK hW (fun _ h => List.mem_cons_of_mem _ (List.mem_append_right _ h)) (sx_i 0 hB (by decide)) (sx_c0 hB) rfl 4 (by decide) rfl rfl (List.mem_of_getElem? (i := 2) rfl) dX7_keepText_9 ?_
    refine sv_alen (t := 2) (v := (6 : Int32)) hx hb hK hW (sx_i 20 hB (by decide)) (sx_c20 hB) 1 rfl rfl dX7_keepText_12 ?_
    refine lv_icmp_ge (tgt := 36) hx hb dX7_keepText_13 (by decide) (fun c2 => ?_) (fun c2 => ?_)
    · replace hs := (sp_ite hs).1 c2
      cases hs
      exact sv_vret hx hb hr hlk hW dX7_keepText_36
    · replace hs := (sp_ite hs).2 c2
      refine lv_aload_n hx hb dX7_keepText_16 rfl (lv_at hl 0 rfl) ?_
      refine sv_get (own := RX7) (C := RX7) (Tf := TX7) (N := 10) (index := 28) (κ := (3, 20)) (v := .ref (h 20)) hx hb hts hown hK hW (fun _ h => List.mem_cons_of_mem _ (List.mem_append_right _ h)) (sx_i 0 hB (by decide)) (sx_c0 hB) rfl 4 (by decide) rfl rfl (List.mem_of_getElem? (i := 2) rfl) dX7_keepText_17 ?_
      refine lv_aload_n hx hb dX7_keepText_20 rfl (lv_at hl 0 rfl) ?_
      refine sv_get (own := RX7) (C := RX7) (Tf := TX7) (N := 10) (index := 163) (κ := (0, 0)) (v := .int (σ.1 0 5)) hx hb hts hown hK hW (fun _ h => List.mem_cons_of_mem _ (List.mem_append_right _ h)) (sx_i 0 hB (by decide)) (sx_c0 hB) rfl 5 (by decide) rfl rfl (List.mem_of_getElem? (i := 1) rfl) dX7_keepText_21 ?_
      refine lv_aload_n hx hb dX7_keepText_24 rfl (lv_at hl 1 rfl) ?_
      obtain ⟨hi3, hs⟩ := sp_g hs
      refine sv_aast (t := 0) (r := (RX6, TX6, 4)) hx hb hK hW (sx_i 20 hB (by decide)) (sx_c20 hB) 1 rfl ht1.1 ht1.2.1 rfl hi3 dX7_keepText_25 (fun σ4 H locs eσ4 hW => ?_)
      replace hs := sp_let hs eσ4
      refine lv_aload_n hx hb dX7_keepText_26 rfl (lv_at hl 0 rfl) ?_
      refine lv_dup hx hb dX7_keepText_27 rfl ?_
      refine sv_get (own := RX7) (C := RX7) (Tf := TX7) (N := 10) (index := 163) (κ := (0, 0)) (v := .int (σ4.1 0 5)) hx hb hts hown hK hW (fun _ h => List.mem_cons_of_mem _ (List.mem_append_right _ h)) (sx_i 0 hB (by decide)) (sx_c0 hB) rfl 5 (by decide) rfl rfl (List.mem_of_getElem? (i := 1) rfl) dX7_keepText_28 ?_
      refine lv_iconst (v := 1) hx hb dX7_keepText_31 (by decide) ?_
      refine lv_iadd hx hb dX7_keepText_32 ?_
      refine sv_putI (own := RX7) (C := RX7) (Tf := TX7) (N := 10) (index := 163) hx hb hts hown hK hW (fun _ h => List.mem_cons_of_mem _ (List.mem_append_right _ h)) tyX7 tyX7_ok nmX7 (sx_i 0 hB (by decide)) (sx_c0 hB) rfl 5 (by decide) rfl rfl (ty := .int) (by decide +kernel) rfl rfl (List.mem_of_getElem? (i := 1) rfl) dX7_keepText_33 (fun σ5 H locs eσ5 hW => ?_)
      replace hs := sp_let hs eσ5
      cases hs
      exact sv_vret hx hb hr hlk hW dX7_keepText_36

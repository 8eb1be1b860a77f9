set_option maxRecDepth 100000 in
set_option maxHeartbeats 4000000 in
theorem k_X8_fail {l : Launch} {D : va_G} {T : Nat → ClassId} {h : Nat → Nat} {θ : sv_T}  {σ : sv_S} {r : Unit} {σ' : sv_S} (hB : sm_base θ)  (hs : q_X8_fail θ  σ = some (r, σ')) : sv_Mv sm_X l D T (sm_tys T) h θ yX8_fail wsX8_fail (sv_rm 0 0) [.ref (h 0)] σ r σ' := by
  intro sz
  refine sv_enter (cc := cX8_fail) (maxL := 1) (ret := none) (Qc := fun A => va_Qv (fun (_ : Unit) => True) (fun _ t => va_P D vwCl (sv_ws T h θ σ') t.heap) A) sm_XP (by decide) rfl (Nat.le_of_ble_eq_true rfl) ?_
  intro p e s m args below meth c A F hr hlk ls H hl hW
  have hx := F.1.1
  have hb := F.1.2.1
  have hts := F.1.2.2.2.2
  have hown := F.1.2.2.2.1
  have hK := F.2.1
  obtain ⟨locs, hlocs⟩ : ∃ z : List Loc, z = [] := ⟨_, rfl⟩
  rw [← hlocs] at hW ⊢
  have hl : lv_has ls 1 [(0, .ref (h 0))] := hl
  unfold q_X8_fail at hs
  refine lv_aload_n hx hb dX8_fail_0 rfl (lv_at hl 0 rfl) ?_
  refine sv_get (own := RX8) (C := RX8) (Tf := TX8) (N := 44) (index := 147) (κ := (0, 0)) (v := .int (σ.1 0 25)) hx hb hts hown hK hW (fun _ h => List.mem_cons_of_mem _ (List.mem_append_right _ h)) (sm_i 0 hB (by decide)) (sm_c0 hB) rfl 25 (by decide) rfl rfl (List.mem_of_getElem? (i := 1) rfl) dX8_fail_1 ?_
  refine lv_if_ne (tgt := 20) hx hb dX8_fail_4 (by decide) (fun c1 => ?_) (fun c1 => ?_)
  · replace hs := (sp_ite hs).2 c1
    cases hs
    exact sv_vret hx hb hr hlk hW dX8_fail_20
  · replace hs := (sp_ite hs).1 c1
    refine lv_aload_n hx hb dX8_fail_7 rfl (lv_at hl 0 rfl) ?_
    refine lv_iconst (v := 1) hx hb dX8_fail_8 (by decide) ?_
    refine sv_putI (own := RX8) (C := RX8) (Tf := TX8) (N := 44) (index := 147) hx hb hts hown hK hW (fun _ h => List.mem_cons_of_mem _ (List.mem_append_right _ h)) tyX8 tyX8_ok nmX8 (sm_i 0 hB (by decide)) (sm_c0 hB) rfl 25 (by decide) rfl rfl (ty := .boolean) (by decide +kernel) rfl rfl (List.mem_of_getElem? (i := 1) rfl) dX8_fail_9 (fun σ2 H locs eσ2 hW => ?_)
    replace hs := sp_let hs eσ2
    refine lv_aload_n hx hb dX8_fail_12 rfl (lv_at hl 0 rfl) ?_
    refine lv_aload_n hx hb dX8_fail_13 rfl (lv_at hl 0 rfl) ?_
    refine sv_get (own := RX8) (C := RX8) (Tf := TX8) (N := 44) (index := 127) (κ := (0, 0)) (v := .int (σ2.1 0 22)) hx hb hts hown hK hW (fun _ h => List.mem_cons_of_mem _ (List.mem_append_right _ h)) (sm_i 0 hB (by decide)) (sm_c0 hB) rfl 22 (by decide) rfl rfl (List.mem_of_getElem? (i := 2) rfl) dX8_fail_14 ?_
    refine sv_putI (own := RX8) (C := RX8) (Tf := TX8) (N := 44) (index := 151) hx hb hts hown hK hW (fun _ h => List.mem_cons_of_mem _ (List.mem_append_right _ h)) tyX8 tyX8_ok nmX8 (sm_i 0 hB (by decide)) (sm_c0 hB) rfl 26 (by decide) rfl rfl (ty := .int) (by decide +kernel) rfl rfl (List.mem_of_getElem? (i := 3) rfl) dX8_fail_17 (fun σ3 H locs eσ3 hW => ?_)
    replace hs := sp_let hs eσ3
    cases hs
    exact sv_vret hx hb hr hlk hW dX8_fail_20
set_option maxRecDepth 100000 in
set_option maxHeartbeats 4000000 in
theorem k_X8_isLetter {l : Launch} {D : va_G} {T : Nat → ClassId} {h : Nat → Nat} {θ : sv_T} {a1 : Int32} {a2 : Int32} {σ : sv_S} {r : Int32} {σ' : sv_S} (hB : sm_base θ)  (hs : q_X8_isLetter θ a1 a2 σ = some (r, σ')) : sv_Mi sm_X l D T (sm_tys T) h θ yX8_isLetter wsX8_isLetter (sv_rm 1 21) [.ref (h 0), .int a1, .int a2] σ r σ' := by
  intro sz
  refine sv_enter (cc := cX8_isLetter) (maxL := 3) (ret := (some .boolean)) (Qc := fun A => va_Qi (fun r2 (_ : Unit) => r2 = r) (fun _ t => va_P D vwCl (sv_ws T h θ σ') t.heap) A) sm_XP (by decide) rfl (Nat.le_of_ble_eq_true rfl) ?_
  intro p e s m args below meth c A F hr hlk ls H hl hW
  have hx := F.1.1
  have hb := F.1.2.1
  have hts := F.1.2.2.2.2
  have hown := F.1.2.2.2.1
  have hK := F.2.1
  obtain ⟨locs, hlocs⟩ : ∃ z : List Loc, z = [] := ⟨_, rfl⟩
  rw [← hlocs] at hW ⊢
  have hl : lv_has ls 3 [(0, .ref (h 0)), (1, .int a1), (2, .int a2)] := hl
  unfold q_X8_isLetter at hs
  refine lv_aload_n hx hb dX8_isLetter_0 rfl (lv_at hl 0 rfl) ?_
  refine sv_get (own := RX8) (C := RX8) (Tf := TX8) (N := 44) (index := 127) (κ := (0, 0)) (v := .int (σ.1 0 22)) hx hb hts hown hK hW (fun _ h => List.mem_cons_of_mem _ (List.mem_append_right _ h)) (sm_i 0 hB (by decide)) (sm_c0 hB) rfl 22 (by decide) rfl rfl (List.mem_of_getElem? (i := 1) rfl) dX8_isLetter_1 ?_
  refine lv_iload_n hx hb dX8_isLetter_4 rfl (lv_at hl 1 rfl) ?_
  refine lv_iadd hx hb dX8_isLetter_5 ?_
  refine lv_aload_n hx hb dX8_isLetter_6 rfl (lv_at hl 0 rfl) ?_
  refine sv_get (own := RX8) (C := RX8) (Tf := TX8) (N := 44) (index := 121) (κ := (0, 0)) (v := .int (σ.1 0 20)) hx hb hts hown hK hW (fun _ h => List.mem_cons_of_mem _ (List.mem_append_right _ h)) (sm_i 0 hB (by decide)) (sm_c0 hB) rfl 20 (by decide) rfl rfl (List.mem_of_getElem? (i := 2) rfl) dX8_isLetter_7 ?_
  refine lv_icmp_ge (tgt := 35) hx hb dX8_isLetter_10 (by decide) (fun c1 => ?_) (fun c1 => ?_)
  · replace hs := (sp_ite hs).1 c1
    refine lv_iload_n hx hb dX8_isLetter_35 rfl (lv_at hl 2 rfl) ?_
    refine lv_if_ne (tgt := 43) hx hb dX8_isLetter_36 (by decide) (fun c2 => ?_) (fun c2 => ?_)
    · replace hs := (sp_ite hs).2 c2
      refine lv_iconst (v := 0) hx hb dX8_isLetter_43 (by decide) ?_
      cases hs
      exact sv_iret hx hb hr rfl hlk hW dX8_isLetter_44
    · replace hs := (sp_ite hs).1 c2
      refine lv_iconst (v := 1) hx hb dX8_isLetter_39 (by decide) ?_
      refine lv_goto (tgt := 44) hx hb dX8_isLetter_40 (by decide) ?_
      cases hs
      exact sv_iret hx hb hr rfl hlk hW dX8_isLetter_44
  · replace hs := (sp_ite hs).2 c1
    refine lv_aload_n hx hb dX8_isLetter_13 rfl (lv_at hl 0 rfl) ?_
    refine lv_aload_n hx hb dX8_isLetter_14 rfl (lv_at hl 0 rfl) ?_
    refine sv_get (own := RX8) (C := RX8) (Tf := TX8) (N := 44) (index := 127) (κ := (0, 0)) (v := .int (σ.1 0 22)) hx hb hts hown hK hW (fun _ h => List.mem_cons_of_mem _ (List.mem_append_right _ h)) (sm_i 0 hB (by decide)) (sm_c0 hB) rfl 22 (by decide) rfl rfl (List.mem_of_getElem? (i := 1) rfl) dX8_isLetter_15 ?_
    refine lv_iload_n hx hb dX8_isLetter_18 rfl (lv_at hl 1 rfl) ?_
    refine lv_iadd hx hb dX8_isLetter_19 ?_
    obtain ⟨r3, σ4, eσ4, hs⟩ := sp_bind hs
    refine sv_goI (σ' := σ4) (r := r3) hW F.2.2.2.1 (sv_runV (C := RX8) F hW (k_X8_byteAt hB eσ4 H.size) gX8_isLetter_X8_byteAt rfl ⟨rfl, rfl⟩ 1 (by decide +kernel) (sv_room2 (by omega) (by omega)) (sm_i 0 hB (by decide)) (sm_c0 hB) rfl rfl hl.1 rfl (Nat.le_of_ble_eq_true rfl) dX8_isLetter_20 ⟨Nat.zero_le _, Nat.zero_le _⟩) (fun H locs hW => ?_)
    refine lv_iload_n hx hb dX8_isLetter_23 rfl (lv_at hl 2 rfl) ?_
    refine lv_icmp_ne (tgt := 31) hx hb dX8_isLetter_24 (by decide) (fun c5 => ?_) (fun c5 => ?_)
    · replace hs := (sp_ite hs).2 c5
      refine lv_iconst (v := 0) hx hb dX8_isLetter_31 (by decide) ?_
      refine lv_goto (tgt := 44) hx hb dX8_isLetter_32 (by decide) ?_
      cases hs
      exact sv_iret hx hb hr rfl hlk hW dX8_isLetter_44
    · replace hs := (sp_ite hs).1 c5
      refine lv_iconst (v := 1) hx hb dX8_isLetter_27 (by decide) ?_
      refine lv_goto (tgt := 44) hx hb dX8_isLetter_28 (by decide) ?_
      cases hs
      exact sv_iret hx hb hr rfl hlk hW dX8_isLetter_44
set_option maxRecDepth 100000 in
set_option maxHeartbeats 4000000 in
theorem k_X8_isWord {l : Launch} {D : va_G} {T : Nat → ClassId} {h : Nat → Nat} {θ : sv_T} {a1 : Int32} {a2 : Int32} {a3 : Int32} {a4 : Int32} {a5 : Int32} {a6 : Int32} {a7 : Int32} {a8 : Int32} {σ : sv_S} {r : Int32} {σ' : sv_S} (hB : sm_base θ)  (hs : q_X8_isWord θ a1 a2 a3 a4 a5 a6 a7 a8 σ = some (r, σ')) : sv_Mi sm_X l D T (sm_tys T) h θ yX8_isWord wsX8_isWord (sv_rm 2 43) [.ref (h 0), .int a1, .int a2, .int a3, .int a4, .int a5, .int a6, .int a7, .int a8] σ r σ' := by
  intro sz
  refine sv_enter (cc := cX8_isWord) (maxL := 9) (ret := (some .boolean)) (Qc := fun A => va_Qi (fun r2 (_ : Unit) => r2 = r) (fun _ t => va_P D vwCl (sv_ws T h θ σ') t.heap) A) sm_XP (by decide) rfl (Nat.le_of_ble_eq_true rfl) ?_
  intro p e s m args below meth c A F hr hlk ls H hl hW
  have hx := F.1.1
  have hb := F.1.2.1
  have hts := F.1.2.2.2.2
  have hown := F.1.2.2.2.1
  have hK := F.2.1
  obtain ⟨locs, hlocs⟩ : ∃ z : List Loc, z = [] := ⟨_, rfl⟩
  rw [← hlocs] at hW ⊢
  have hl : lv_has ls 9 [(0, .ref (h 0)), (1, .int a1), (2, .int a2), (3, .int a3), (4, .int a4), (5, .int a5), (6, .int a6), (7, .int a7), (8, .int a8)] := hl
  unfold q_X8_isWord at hs
  refine lv_aload_n hx hb dX8_isWord_0 rfl (lv_at hl 0 rfl) ?_
  refine sv_get (own := RX8) (C := RX8) (Tf := TX8) (N := 44) (index := 147) (κ := (0, 0)) (v := .int (σ.1 0 25)) hx hb hts hown hK hW (fun _ h => List.mem_cons_of_mem _ (List.mem_append_right _ h)) (sm_i 0 hB (by decide)) (sm_c0 hB) rfl 25 (by decide) rfl rfl (List.mem_of_getElem? (i := 1) rfl) dX8_isWord_1 ?_
  refine lv_if_ne (tgt := 112) hx hb dX8_isWord_4 (by decide) (fun c1 => ?_) (fun c1 => ?_)
  · replace hs := (sp_ite hs).2 c1
    refine lv_iconst (v := 0) hx hb dX8_isWord_112 (by decide) ?_
    cases hs
    exact sv_iret hx hb hr rfl hlk hW dX8_isWord_113
  · replace hs := (sp_ite hs).1 c1
    refine lv_aload_n hx hb dX8_isWord_7 rfl (lv_at hl 0 rfl) ?_
    refine sv_get (own := RX8) (C := RX8) (Tf := TX8) (N := 44) (index := 130) (κ := (0, 0)) (v := .int (σ.1 0 21)) hx hb hts hown hK hW (fun _ h => List.mem_cons_of_mem _ (List.mem_append_right _ h)) (sm_i 0 hB (by decide)) (sm_c0 hB) rfl 21 (by decide) rfl rfl (List.mem_of_getElem? (i := 2) rfl) dX8_isWord_8 ?_
    refine lv_iconst (v := 1) hx hb dX8_isWord_11 (by decide) ?_
    refine lv_icmp_ne (tgt := 112) hx hb dX8_isWord_12 (by decide) (fun c2 => ?_) (fun c2 => ?_)
    · replace hs := (sp_ite hs).2 c2
      refine lv_iconst (v := 0) hx hb dX8_isWord_112 (by decide) ?_
      cases hs
      exact sv_iret hx hb hr rfl hlk hW dX8_isWord_113
    · replace hs := (sp_ite hs).1 c2
      refine lv_aload_n hx hb dX8_isWord_15 rfl (lv_at hl 0 rfl) ?_
      refine sv_get (own := RX8) (C := RX8) (Tf := TX8) (N := 44) (index := 121) (κ := (0, 0)) (v := .int (σ.1 0 20)) hx hb hts hown hK hW (fun _ h => List.mem_cons_of_mem _ (List.mem_append_right _ h)) (sm_i 0 hB (by decide)) (sm_c0 hB) rfl 20 (by decide) rfl rfl (List.mem_of_getElem? (i := 3) rfl) dX8_isWord_16 ?_
      refine lv_aload_n hx hb dX8_isWord_19 rfl (lv_at hl 0 rfl) ?_
      refine sv_get (own := RX8) (C := RX8) (Tf := TX8) (N := 44) (index := 127) (κ := (0, 0)) (v := .int (σ.1 0 22)) hx hb hts hown hK hW (fun _ h => List.mem_cons_of_mem _ (List.mem_append_right _ h)) (sm_i 0 hB (by decide)) (sm_c0 hB) rfl 22 (by decide) rfl rfl (List.mem_of_getElem? (i := 4) rfl) dX8_isWord_20 ?_
      refine lv_bipush (v := 8) hx hb dX8_isWord_23 (by decide) ?_
      refine lv_iadd hx hb dX8_isWord_25 ?_
      refine lv_icmp_gt (tgt := 112) hx hb dX8_isWord_26 (by decide) (fun c3 => ?_) (fun c3 => ?_)
      · replace hs := (sp_ite hs).1 c3
        refine lv_iconst (v := 0) hx hb dX8_isWord_112 (by decide) ?_
        cases hs
        exact sv_iret hx hb hr rfl hlk hW dX8_isWord_113
      · replace hs := (sp_ite hs).2 c3
        refine lv_aload_n hx hb dX8_isWord_29 rfl (lv_at hl 0 rfl) ?_
        refine lv_iconst (v := 0) hx hb dX8_isWord_30 (by decide) ?_
        refine lv_iload_n hx hb dX8_isWord_31 rfl (lv_at hl 1 rfl) ?_
        obtain ⟨r4, σ5, eσ5, hs⟩ := sp_bind hs
        refine sv_goI (σ' := σ5) (r := r4) hW F.2.2.2.1 (sv_runV (C := RX8) F hW (k_X8_isLetter hB eσ5 H.size) gX8_isWord_X8_isLetter rfl ⟨rfl, rfl⟩ 2 (by decide +kernel) (sv_room2 (by omega) (by omega)) (sm_i 0 hB (by decide)) (sm_c0 hB) rfl rfl hl.1 rfl (Nat.le_of_ble_eq_true rfl) dX8_isWord_32 ⟨Nat.zero_le _, Nat.zero_le _⟩) (fun H locs hW => ?_)
        refine lv_if_eq (tgt := 112) hx hb dX8_isWord_35 (by decide) (fun c6 => ?_) (fun c6 => ?_)
        · replace hs := (sp_ite hs).1 c6
          refine lv_iconst (v := 0) hx hb dX8_isWord_112 (by decide) ?_
          cases hs
          exact sv_iret hx hb hr rfl hlk hW dX8_isWord_113
        · replace hs := (sp_ite hs).2 c6
          refine lv_aload_n hx hb dX8_isWord_38 rfl (lv_at hl 0 rfl) ?_
          refine lv_iconst (v := 1) hx hb dX8_isWord_39 (by decide) ?_
          refine lv_iload_n hx hb dX8_isWord_40 rfl (lv_at hl 2 rfl) ?_
          obtain ⟨r7, σ8, eσ8, hs⟩ := sp_bind hs
          refine sv_goI (σ' := σ8) (r := r7) hW F.2.2.2.1 (sv_runV (C := RX8) F hW (k_X8_isLetter hB eσ8 H.size) gX8_isWord_X8_isLetter rfl ⟨rfl, rfl⟩ 2 (by decide +kernel) (sv_room2 (by omega) (by omega)) (sm_i 0 hB (by decide)) (sm_c0 hB) rfl rfl hl.1 rfl (Nat.le_of_ble_eq_true rfl) dX8_isWord_41 ⟨Nat.zero_le _, Nat.zero_le _⟩) (fun H locs hW => ?_)
          refine lv_if_eq (tgt := 112) hx hb dX8_isWord_44 (by decide) (fun c9 => ?_) (fun c9 => ?_)
          · replace hs := (sp_ite hs).1 c9
            refine lv_iconst (v := 0) hx hb dX8_isWord_112 (by decide) ?_
            cases hs
            exact sv_iret hx hb hr rfl hlk hW dX8_isWord_113
          · replace hs := (sp_ite hs).2 c9
            refine lv_aload_n hx hb dX8_isWord_47 rfl (lv_at hl 0 rfl) ?_
            refine lv_iconst (v := 2) hx hb dX8_isWord_48 (by decide) ?_
            refine lv_iload_n hx hb dX8_isWord_49 rfl (lv_at hl 3 rfl) ?_
            obtain ⟨r10, σ11, eσ11, hs⟩ := sp_bind hs
            refine sv_goI (σ' := σ11) (r := r10) hW F.2.2.2.1 (sv_runV (C := RX8) F hW (k_X8_isLetter hB eσ11 H.size) gX8_isWord_X8_isLetter rfl ⟨rfl, rfl⟩ 2 (by decide +kernel) (sv_room2 (by omega) (by omega)) (sm_i 0 hB (by decide)) (sm_c0 hB) rfl rfl hl.1 rfl (Nat.le_of_ble_eq_true rfl) dX8_isWord_50 ⟨Nat.zero_le _, Nat.zero_le _⟩) (fun H locs hW => ?_)
            refine lv_if_eq (tgt := 112) hx hb dX8_isWord_53 (by decide) (fun c12 => ?_) (fun c12 => ?_)
            · replace hs := (sp_ite hs).1 c12
              refine lv_iconst (v := 0) hx hb dX8_isWord_112 (by decide) ?_
              cases hs
              exact sv_iret hx hb hr rfl hlk hW dX8_isWord_113
            · replace hs := (sp_ite hs).2 c12
              refine lv_aload_n hx hb dX8_isWord_56 rfl (lv_at hl 0 rfl) ?_
              refine lv_iconst (v := 3) hx hb dX8_isWord_57 (by decide) ?_
              refine lv_iload hx hb dX8_isWord_58 (lv_at hl 4 rfl) ?_
              obtain ⟨r13, σ14, eσ14, hs⟩ := sp_bind hs
              refine sv_goI (σ' := σ14) (r := r13) hW F.2.2.2.1 (sv_runV (C := RX8) F hW (k_X8_isLetter hB eσ14 H.size) gX8_isWord_X8_isLetter rfl ⟨rfl, rfl⟩ 2 (by decide +kernel) (sv_room2 (by omega) (by omega)) (sm_i 0 hB (by decide)) (sm_c0 hB) rfl rfl hl.1 rfl (Nat.le_of_ble_eq_true rfl) dX8_isWord_60 ⟨Nat.zero_le _, Nat.zero_le _⟩) (fun H locs hW => ?_)
              refine lv_if_eq (tgt := 112) hx hb dX8_isWord_63 (by decide) (fun c15 => ?_) (fun c15 => ?_)
              · replace hs := (sp_ite hs).1 c15
                refine lv_iconst (v := 0) hx hb dX8_isWord_112 (by decide) ?_
                cases hs
                exact sv_iret hx hb hr rfl hlk hW dX8_isWord_113
              · replace hs := (sp_ite hs).2 c15
                refine lv_aload_n hx hb dX8_isWord_66 rfl (lv_at hl 0 rfl) ?_
                refine lv_iconst (v := 4) hx hb dX8_isWord_67 (by decide) ?_
                refine lv_iload hx hb dX8_isWord_68 (lv_at hl 5 rfl) ?_
                obtain ⟨r16, σ17, eσ17, hs⟩ := sp_bind hs
                refine sv_goI (σ' := σ17) (r := r16) hW F.2.2.2.1 (sv_runV (C := RX8) F hW (k_X8_isLetter hB eσ17 H.size) gX8_isWord_X8_isLetter rfl ⟨rfl, rfl⟩ 2 (by decide +kernel) (sv_room2 (by omega) (by omega)) (sm_i 0 hB (by decide)) (sm_c0 hB) rfl rfl hl.1 rfl (Nat.le_of_ble_eq_true rfl) dX8_isWord_70 ⟨Nat.zero_le _, Nat.zero_le _⟩) (fun H locs hW => ?_)
                refine lv_if_eq (tgt := 112) hx hb dX8_isWord_73 (by decide) (fun c18 => ?_) (fun c18 => ?_)
                · replace hs := (sp_ite hs).1 c18
                  refine lv_iconst (v := 0) hx hb dX8_isWord_112 (by decide) ?_
                  cases hs
                  exact sv_iret hx hb hr rfl hlk hW dX8_isWord_113
                · replace hs := (sp_ite hs).2 c18
                  refine lv_aload_n hx hb dX8_isWord_76 rfl (lv_at hl 0 rfl) ?_
                  refine lv_iconst (v := 5) hx hb dX8_isWord_77 (by decide) ?_
                  refine lv_iload hx hb dX8_isWord_78 (lv_at hl 6 rfl) ?_
                  obtain ⟨r19, σ20, eσ20, hs⟩ := sp_bind hs
                  refine sv_goI (σ' := σ20) (r := r19) hW F.2.2.2.1 (sv_runV (C := RX8) F hW (k_X8_isLetter hB eσ20 H.size) gX8_isWord_X8_isLetter rfl ⟨rfl, rfl⟩ 2 (by decide +kernel) (sv_room2 (by omega) (by omega)) (sm_i 0 hB (by decide)) (sm_c0 hB) rfl rfl hl.1 rfl (Nat.le_of_ble_eq_true rfl) dX8_isWord_80 ⟨Nat.zero_le _, Nat.zero_le _⟩) (fun H locs hW => ?_)
                  refine lv_if_eq (tgt := 112) hx hb dX8_isWord_83 (by decide) (fun c21 => ?_) (fun c21 => ?_)
                  · replace hs := (sp_ite hs).1 c21
                    refine lv_iconst (v := 0) hx hb dX8_isWord_112 (by decide) ?_
                    cases hs
                    exact sv_iret hx hb hr rfl hlk hW dX8_isWord_113
                  · replace hs := (sp_ite hs).2 c21
                    refine lv_aload_n hx hb dX8_isWord_86 rfl (lv_at hl 0 rfl) ?_
                    refine lv_bipush (v := 6) hx hb dX8_isWord_87 (by decide) ?_
                    refine lv_iload hx hb dX8_isWord_89 (lv_at hl 7 rfl) ?_
                    obtain ⟨r22, σ23, eσ23, hs⟩ := sp_bind hs
                    refine sv_goI (σ' := σ23) (r := r22) hW F.2.2.2.1 (sv_runV (C := RX8) F hW (k_X8_isLetter hB eσ23 H.size) gX8_isWord_X8_isLetter rfl ⟨rfl, rfl⟩ 2 (by decide +kernel) (sv_room2 (by omega) (by omega)) (sm_i 0 hB (by decide)) (sm_c0 hB) rfl rfl hl.1 rfl (Nat.le_of_ble_eq_true rfl) dX8_isWord_91 ⟨Nat.zero_le _, Nat.zero_le _⟩) (fun H locs hW => ?_)
                    refine lv_if_eq (tgt := 112) hx hb dX8_isWord_94 (by decide) (fun c24 => ?_) (fun c24 => ?_)
                    · replace hs := (sp_ite hs).1 c24
                      refine lv_iconst (v := 0) hx hb dX8_isWord_112 (by decide) ?_
                      cases hs
                      exact sv_iret hx hb hr rfl hlk hW dX8_isWord_113
                    · replace hs := (sp_ite hs).2 c24
                      refine lv_aload_n hx hb dX8_isWord_97 rfl (lv_at hl 0 rfl) ?_
                      refine lv_bipush (v := 7) hx hb dX8_isWord_98 (by decide) ?_
                      refine lv_iload hx hb dX8_isWord_100 (lv_at hl 8 rfl) ?_
                      obtain ⟨r25, σ26, eσ26, hs⟩ := sp_bind hs
                      refine sv_goI (σ' := σ26) (r := r25) hW F.2.2.2.1 (sv_runV (C := RX8) F hW (k_X8_isLetter hB eσ26 H.size) gX8_isWord_X8_isLetter rfl ⟨rfl, rfl⟩ 2 (by decide +kernel) (sv_room2 (by omega) (by omega)) (sm_i 0 hB (by decide)) (sm_c0 hB) rfl rfl hl.1 rfl (Nat.le_of_ble_eq_true rfl) dX8_isWord_102 ⟨Nat.zero_le _, Nat.zero_le _⟩) (fun H locs hW => ?_)
                      refine lv_if_eq (tgt := 112) hx hb dX8_isWord_105 (by decide) (fun c27 => ?_) (fun c27 => ?_)
                      · replace hs := (sp_ite hs).1 c27
                        refine lv_iconst (v := 0) hx hb dX8_isWord_112 (by decide) ?_
                        cases hs
                        exact sv_iret hx hb hr rfl hlk hW dX8_isWord_113
                      · replace hs := (sp_ite hs).2 c27
                        refine lv_iconst (v := 1) hx hb dX8_isWord_108 (by decide) ?_
                        refine lv_goto (tgt := 113) hx hb dX8_isWord_109 (by decide) ?_
                        cases hs
                        exact sv_iret hx hb hr rfl hlk hW dX8_isWord_113
set_option maxRecDepth 100000 in
set_option maxHeartbeats 4000000 in
theorem k_X8_isSign {l : Launch} {D : va_G} {T : Nat → ClassId} {h : Nat → Nat} {θ : sv_T} {a1 : Int32} {σ : sv_S} {r : Int32} {σ' : sv_S} (hB : sm_base θ)  (hs : q_X8_isSign θ a1 σ = some (r, σ')) : sv_Mi sm_X l D T (sm_tys T) h θ yX8_isSign wsX8_isSign (sv_rm 0 0) [.ref (h 0), .int a1] σ r σ' := by
  intro sz
  refine sv_enter (cc := cX8_isSign) (maxL := 2) (ret := (some .boolean)) (Qc := fun A => va_Qi (fun r2 (_ : Unit) => r2 = r) (fun _ t => va_P D vwCl (sv_ws T h θ σ') t.heap) A) sm_XP (by decide) rfl (Nat.le_of_ble_eq_true rfl) ?_
  intro p e s m args below meth c A F hr hlk ls H hl hW
  have hx := F.1.1
  have hb := F.1.2.1
  have hts := F.1.2.2.2.2
  have hown := F.1.2.2.2.1
  have hK := F.2.1
  obtain ⟨locs, hlocs⟩ : ∃ z : List Loc, z = [] := ⟨_, rfl⟩
  rw [← hlocs] at hW ⊢
  have hl : lv_has ls 2 [(0, .ref (h 0)), (1, .int a1)] := hl
  unfold q_X8_isSign at hs
  refine lv_aload_n hx hb dX8_isSign_0 rfl (lv_at hl 0 rfl) ?_
  refine sv_get (own := RX8) (C := RX8) (Tf := TX8) (N := 44) (index := 147) (κ := (0, 0)) (v := .int (σ.1 0 25)) hx hb hts hown hK hW (fun _ h => List.mem_cons_of_mem _ (List.mem_append_right _ h)) (sm_i 0 hB (by decide)) (sm_c0 hB) rfl 25 (by decide) rfl rfl (List.mem_of_getElem? (i := 1) rfl) dX8_isSign_1 ?_
  refine lv_if_ne (tgt := 29) hx hb dX8_isSign_4 (by decide) (fun c1 => ?_) (fun c1 => ?_)
  · replace hs := (sp_ite hs).2 c1
    refine lv_iconst (v := 0) hx hb dX8_isSign_29 (by decide) ?_
    cases hs
    exact sv_iret hx hb hr rfl hlk hW dX8_isSign_30
  · replace hs := (sp_ite hs).1 c1
    refine lv_aload_n hx hb dX8_isSign_7 rfl (lv_at hl 0 rfl) ?_
    refine sv_get (own := RX8) (C := RX8) (Tf := TX8) (N := 44) (index := 130) (κ := (0, 0)) (v := .int (σ.1 0 21)) hx hb hts hown hK hW (fun _ h => List.mem_cons_of_mem _ (List.mem_append_right _ h)) (sm_i 0 hB (by decide)) (sm_c0 hB) rfl 21 (by decide) rfl rfl (List.mem_of_getElem? (i := 2) rfl) dX8_isSign_8 ?_
    refine lv_iconst (v := 3) hx hb dX8_isSign_11 (by decide) ?_
    refine lv_icmp_ne (tgt := 29) hx hb dX8_isSign_12 (by decide) (fun c2 => ?_) (fun c2 => ?_)
    · replace hs := (sp_ite hs).2 c2
      refine lv_iconst (v := 0) hx hb dX8_isSign_29 (by decide) ?_
      cases hs
      exact sv_iret hx hb hr rfl hlk hW dX8_isSign_30
    · replace hs := (sp_ite hs).1 c2
      refine lv_aload_n hx hb dX8_isSign_15 rfl (lv_at hl 0 rfl) ?_
      refine sv_get (own := RX8) (C := RX8) (Tf := TX8) (N := 44) (index := 141) (κ := (1, 0)) (v := .long (σ.2.1 0 23)) hx hb hts hown hK hW (fun _ h => List.mem_cons_of_mem _ (List.mem_append_right _ h)) (sm_i 0 hB (by decide)) (sm_c0 hB) rfl 23 (by decide) rfl rfl (List.mem_of_getElem? (i := 3) rfl) dX8_isSign_16 ?_
      refine lv_iload_n hx hb dX8_isSign_19 rfl (lv_at hl 1 rfl) ?_
      refine lv_i2l (v := a1.toInt64) hx hb dX8_isSign_20 rfl ?_
      refine W.lcmp hx hb dX8_isSign_21 ?_
      refine lv_if_ne (tgt := 29) hx hb dX8_isSign_22 (by decide) (fun c3 => ?_) (fun c3 => ?_)
      · replace hs := (sp_ite hs).2 c3
        refine lv_iconst (v := 0) hx hb dX8_isSign_29 (by decide) ?_
        cases hs
        exact sv_iret hx hb hr rfl hlk hW dX8_isSign_30
      · replace hs := (sp_ite hs).1 c3
        refine lv_iconst (v := 1) hx hb dX8_isSign_25 (by decide) ?_
        refine lv_goto (tgt := 30) hx hb dX8_isSign_26 (by decide) ?_
        cases hs
        exact sv_iret hx hb hr rfl hlk hW dX8_isSign_30
set_option maxRecDepth 100000 in
set_option maxHeartbeats 4000000 in
theorem k_X8_opens {l : Launch} {D : va_G} {T : Nat → ClassId} {h : Nat → Nat} {θ : sv_T}  {σ : sv_S} {r : Int32} {σ' : sv_S} (hB : sm_base θ)  (hs : q_X8_opens θ  σ = some (r, σ')) : sv_Mi sm_X l D T (sm_tys T) h θ yX8_opens wsX8_opens (sv_rm 2 47) [.ref (h 0)] σ r σ' := by
  intro sz
  refine sv_enter (cc := cX8_opens) (maxL := 1) (ret := (some .boolean)) (Qc := fun A => va_Qi (fun r2 (_ : Unit) => r2 = r) (fun _ t => va_P D vwCl (sv_ws T h θ σ') t.heap) A) sm_XP (by decide) rfl (Nat.le_of_ble_eq_true rfl) ?_
  intro p e s m args below meth c A F hr hlk ls H hl hW
  have hx := F.1.1
  have hb := F.1.2.1
  have hts := F.1.2.2.2.2
  have hown := F.1.2.2.2.1
  have hK := F.2.1
  obtain ⟨locs, hlocs⟩ : ∃ z : List Loc, z = [] := ⟨_, rfl⟩
  rw [← hlocs] at hW ⊢
  have hl : lv_has ls 1 [(0, .ref (h 0))] := hl
  unfold q_X8_opens at hs
  refine lv_aload_n hx hb dX8_opens_0 rfl (lv_at hl 0 rfl) ?_
  refine sv_get (own := RX8) (C := RX8) (Tf := TX8) (N := 44) (index := 157) (κ := (0, 0)) (v := .int (σ.1 0 24)) hx hb hts hown hK hW (fun _ h => List.mem_cons_of_mem _ (List.mem_append_right _ h)) (sm_i 0 hB (by decide)) (sm_c0 hB) rfl 24 (by decide) rfl rfl (List.mem_of_getElem? (i := 1) rfl) dX8_opens_1 ?_
  refine lv_iconst (v := 5) hx hb dX8_opens_4 (by decide) ?_
  refine lv_icmp_ne (tgt := 14) hx hb dX8_opens_5 (by decide) (fun c1 => ?_) (fun c1 => ?_)
  · replace hs := (sp_ite hs).2 c1
    refine lv_aload_n hx hb dX8_opens_14 rfl (lv_at hl 0 rfl) ?_
    refine lv_dup hx hb dX8_opens_15 rfl ?_
    refine sv_get (own := RX8) (C := RX8) (Tf := TX8) (N := 44) (index := 157) (κ := (0, 0)) (v := .int (σ.1 0 24)) hx hb hts hown hK hW (fun _ h => List.mem_cons_of_mem _ (List.mem_append_right _ h)) (sm_i 0 hB (by decide)) (sm_c0 hB) rfl 24 (by decide) rfl rfl (List.mem_of_getElem? (i := 1) rfl) dX8_opens_16 ?_
    refine lv_iconst (v := 1) hx hb dX8_opens_19 (by decide) ?_
    refine lv_iadd hx hb dX8_opens_20 ?_
    refine sv_putI (own := RX8) (C := RX8) (Tf := TX8) (N := 44) (index := 157) hx hb hts hown hK hW (fun _ h => List.mem_cons_of_mem _ (List.mem_append_right _ h)) tyX8 tyX8_ok nmX8 (sm_i 0 hB (by decide)) (sm_c0 hB) rfl 24 (by decide) rfl rfl (ty := .int) (by decide +kernel) rfl rfl (List.mem_of_getElem? (i := 1) rfl) dX8_opens_21 (fun σ2 H locs eσ2 hW => ?_)
    replace hs := sp_let hs eσ2
    refine lv_aload_n hx hb dX8_opens_24 rfl (lv_at hl 0 rfl) ?_
    obtain ⟨r3, σ4, eσ4, hs⟩ := sp_bind hs
    refine sv_goV (σ' := σ4) (r := r3) hW F.2.2.2.1 (sv_runV (C := RX8) F hW (k_X8_next hB eσ4 H.size) gX8_opens_X8_next rfl ⟨rfl, rfl⟩ 0 (by decide +kernel) (sv_room2 (by omega) (by omega)) (sm_i 0 hB (by decide)) (sm_c0 hB) rfl rfl hl.1 rfl (Nat.le_of_ble_eq_true rfl) dX8_opens_25 ⟨Nat.zero_le _, Nat.zero_le _⟩) (fun H locs hW => ?_)
    refine lv_iconst (v := 1) hx hb dX8_opens_28 (by decide) ?_
    cases hs
    exact sv_iret hx hb hr rfl hlk hW dX8_opens_29
  · replace hs := (sp_ite hs).1 c1
    refine lv_aload_n hx hb dX8_opens_8 rfl (lv_at hl 0 rfl) ?_
    obtain ⟨r5, σ6, eσ6, hs⟩ := sp_bind hs
    refine sv_goV (σ' := σ6) (r := r5) hW F.2.2.2.1 (sv_runV (C := RX8) F hW (k_X8_fail hB eσ6 H.size) gX8_opens_X8_fail rfl ⟨rfl, rfl⟩ 0 (by decide +kernel) (sv_room2 (by omega) (by omega)) (sm_i 0 hB (by decide)) (sm_c0 hB) rfl rfl hl.1 rfl (Nat.le_of_ble_eq_true rfl) dX8_opens_9 ⟨Nat.zero_le _, Nat.zero_le _⟩) (fun H locs hW => ?_)
    refine lv_iconst (v := 0) hx hb dX8_opens_12 (by decide) ?_
    cases hs
    exact sv_iret hx hb hr rfl hlk hW dX8_opens_13
set_option maxRecDepth 100000 in
set_option maxHeartbeats 4000000 in
theorem k_X8_name {l : Launch} {D : va_G} {T : Nat → ClassId} {h : Nat → Nat} {θ : sv_T}  {σ : sv_S} {r : Int32} {σ' : sv_S} (hB : sm_base θ)  (hs : q_X8_name θ  σ = some (r, σ')) : sv_Mi sm_X l D T (sm_tys T) h θ yX8_name wsX8_name (sv_rm 3 71) [.ref (h 0)] σ r σ' := by
  intro sz
  refine sv_enter (cc := cX8_name) (maxL := 1) (ret := (some .int)) (Qc := fun A => va_Qi (fun r2 (_ : Unit) => r2 = r) (fun _ t => va_P D vwCl (sv_ws T h θ σ') t.heap) A) sm_XP (by decide) rfl (Nat.le_of_ble_eq_true rfl) ?_
  intro p e s m args below meth c A F hr hlk ls H hl hW
  have hx := F.1.1
  have hb := F.1.2.1
  have hts := F.1.2.2.2.2
  have hown := F.1.2.2.2.1
  have hK := F.2.1
  obtain ⟨locs, hlocs⟩ : ∃ z : List Loc, z = [] := ⟨_, rfl⟩
  rw [← hlocs] at hW ⊢
  have hl : lv_has ls 1 [(0, .ref (h 0))] := hl
  unfold q_X8_name at hs
  refine lv_aload_n hx hb dX8_name_0 rfl (lv_at hl 0 rfl) ?_
  refine lv_bipush (v := 114) hx hb dX8_name_1 (by decide) ?_
  refine lv_bipush (v := 97) hx hb dX8_name_3 (by decide) ?_
  refine lv_bipush (v := 105) hx hb dX8_name_5 (by decide) ?_
  refine lv_bipush (v := 110) hx hb dX8_name_7 (by decide) ?_
  refine lv_iconst (v := 0) hx hb dX8_name_9 (by decide) ?_
  refine lv_iconst (v := 0) hx hb dX8_name_10 (by decide) ?_
  refine lv_iconst (v := 0) hx hb dX8_name_11 (by decide) ?_
  refine lv_iconst (v := 0) hx hb dX8_name_12 (by decide) ?_
  obtain ⟨r1, σ2, eσ2, hs⟩ := sp_bind hs
  refine sv_goI (σ' := σ2) (r := r1) hW F.2.2.2.1 (sv_runV (C := RX8) F hW (k_X8_isWord hB eσ2 H.size) gX8_name_X8_isWord rfl ⟨rfl, rfl⟩ 8 (by decide +kernel) (sv_room2 (by omega) (by omega)) (sm_i 0 hB (by decide)) (sm_c0 hB) rfl rfl hl.1 rfl (Nat.le_of_ble_eq_true rfl) dX8_name_13 ⟨Nat.zero_le _, Nat.zero_le _⟩) (fun H locs hW => ?_)
  refine lv_if_eq (tgt := 24) hx hb dX8_name_16 (by decide) (fun c3 => ?_) (fun c3 => ?_)
  · replace hs := (sp_ite hs).1 c3
    refine lv_aload_n hx hb dX8_name_24 rfl (lv_at hl 0 rfl) ?_
    refine lv_bipush (v := 104) hx hb dX8_name_25 (by decide) ?_
    refine lv_bipush (v := 111) hx hb dX8_name_27 (by decide) ?_
    refine lv_bipush (v := 117) hx hb dX8_name_29 (by decide) ?_
    refine lv_bipush (v := 114) hx hb dX8_name_31 (by decide) ?_
    refine lv_iconst (v := 0) hx hb dX8_name_33 (by decide) ?_
    refine lv_iconst (v := 0) hx hb dX8_name_34 (by decide) ?_
    refine lv_iconst (v := 0) hx hb dX8_name_35 (by decide) ?_
    refine lv_iconst (v := 0) hx hb dX8_name_36 (by decide) ?_
    obtain ⟨r4, σ5, eσ5, hs⟩ := sp_bind hs
    refine sv_goI (σ' := σ5) (r := r4) hW F.2.2.2.1 (sv_runV (C := RX8) F hW (k_X8_isWord hB eσ5 H.size) gX8_name_X8_isWord rfl ⟨rfl, rfl⟩ 8 (by decide +kernel) (sv_room2 (by omega) (by omega)) (sm_i 0 hB (by decide)) (sm_c0 hB) rfl rfl hl.1 rfl (Nat.le_of_ble_eq_true rfl) dX8_name_37 ⟨Nat.zero_le _, Nat.zero_le _⟩) (fun H locs hW => ?_)
    refine lv_if_eq (tgt := 48) hx hb dX8_name_40 (by decide) (fun c6 => ?_) (fun c6 => ?_)
    · replace hs := (sp_ite hs).1 c6
      refine lv_aload_n hx hb dX8_name_48 rfl (lv_at hl 0 rfl) ?_
      refine lv_bipush (v := 110) hx hb dX8_name_49 (by decide) ?_
      refine lv_bipush (v := 117) hx hb dX8_name_51 (by decide) ?_
      refine lv_bipush (v := 109) hx hb dX8_name_53 (by decide) ?_
      refine lv_bipush (v := 98) hx hb dX8_name_55 (by decide) ?_
      refine lv_bipush (v := 101) hx hb dX8_name_57 (by decide) ?_
      refine lv_bipush (v := 114) hx hb dX8_name_59 (by decide) ?_
      refine lv_iconst (v := 0) hx hb dX8_name_61 (by decide) ?_
      refine lv_iconst (v := 0) hx hb dX8_name_62 (by decide) ?_
      obtain ⟨r7, σ8, eσ8, hs⟩ := sp_bind hs
      refine sv_goI (σ' := σ8) (r := r7) hW F.2.2.2.1 (sv_runV (C := RX8) F hW (k_X8_isWord hB eσ8 H.size) gX8_name_X8_isWord rfl ⟨rfl, rfl⟩ 8 (by decide +kernel) (sv_room2 (by omega) (by omega)) (sm_i 0 hB (by decide)) (sm_c0 hB) rfl rfl hl.1 rfl (Nat.le_of_ble_eq_true rfl) dX8_name_63 ⟨Nat.zero_le _, Nat.zero_le _⟩) (fun H locs hW => ?_)
      refine lv_if_eq (tgt := 74) hx hb dX8_name_66 (by decide) (fun c9 => ?_) (fun c9 => ?_)
      · replace hs := (sp_ite hs).1 c9
        refine lv_aload_n hx hb dX8_name_74 rfl (lv_at hl 0 rfl) ?_
        refine lv_bipush (v := 100) hx hb dX8_name_75 (by decide) ?_
        refine lv_bipush (v := 111) hx hb dX8_name_77 (by decide) ?_
        refine lv_bipush (v := 110) hx hb dX8_name_79 (by decide) ?_
        refine lv_bipush (v := 101) hx hb dX8_name_81 (by decide) ?_
        refine lv_iconst (v := 0) hx hb dX8_name_83 (by decide) ?_
        refine lv_iconst (v := 0) hx hb dX8_name_84 (by decide) ?_
        refine lv_iconst (v := 0) hx hb dX8_name_85 (by decide) ?_
        refine lv_iconst (v := 0) hx hb dX8_name_86 (by decide) ?_
        obtain ⟨r10, σ11, eσ11, hs⟩ := sp_bind hs
        refine sv_goI (σ' := σ11) (r := r10) hW F.2.2.2.1 (sv_runV (C := RX8) F hW (k_X8_isWord hB eσ11 H.size) gX8_name_X8_isWord rfl ⟨rfl, rfl⟩ 8 (by decide +kernel) (sv_room2 (by omega) (by omega)) (sm_i 0 hB (by decide)) (sm_c0 hB) rfl rfl hl.1 rfl (Nat.le_of_ble_eq_true rfl) dX8_name_87 ⟨Nat.zero_le _, Nat.zero_le _⟩) (fun H locs hW => ?_)
        refine lv_if_eq (tgt := 98) hx hb dX8_name_90 (by decide) (fun c12 => ?_) (fun c12 => ?_)
        · replace hs := (sp_ite hs).1 c12
          refine lv_aload_n hx hb dX8_name_98 rfl (lv_at hl 0 rfl) ?_
          refine lv_bipush (v := 115) hx hb dX8_name_99 (by decide) ?_
          refine lv_bipush (v := 116) hx hb dX8_name_101 (by decide) ?_
          refine lv_bipush (v := 114) hx hb dX8_name_103 (by decide) ?_
          refine lv_bipush (v := 101) hx hb dX8_name_105 (by decide) ?_
          refine lv_bipush (v := 101) hx hb dX8_name_107 (by decide) ?_
          refine lv_bipush (v := 116) hx hb dX8_name_109 (by decide) ?_
          refine lv_iconst (v := 0) hx hb dX8_name_111 (by decide) ?_
          refine lv_iconst (v := 0) hx hb dX8_name_112 (by decide) ?_
          obtain ⟨r13, σ14, eσ14, hs⟩ := sp_bind hs
          refine sv_goI (σ' := σ14) (r := r13) hW F.2.2.2.1 (sv_runV (C := RX8) F hW (k_X8_isWord hB eσ14 H.size) gX8_name_X8_isWord rfl ⟨rfl, rfl⟩ 8 (by decide +kernel) (sv_room2 (by omega) (by omega)) (sm_i 0 hB (by decide)) (sm_c0 hB) rfl rfl hl.1 rfl (Nat.le_of_ble_eq_true rfl) dX8_name_113 ⟨Nat.zero_le _, Nat.zero_le _⟩) (fun H locs hW => ?_)
          refine lv_if_eq (tgt := 124) hx hb dX8_name_116 (by decide) (fun c15 => ?_) (fun c15 => ?_)
          · replace hs := (sp_ite hs).1 c15
            refine lv_aload_n hx hb dX8_name_124 rfl (lv_at hl 0 rfl) ?_
            refine lv_bipush (v := 119) hx hb dX8_name_125 (by decide) ?_
            refine lv_bipush (v := 101) hx hb dX8_name_127 (by decide) ?_
            refine lv_bipush (v := 115) hx hb dX8_name_129 (by decide) ?_
            refine lv_bipush (v := 116) hx hb dX8_name_131 (by decide) ?_
            refine lv_iconst (v := 0) hx hb dX8_name_133 (by decide) ?_
            refine lv_iconst (v := 0) hx hb dX8_name_134 (by decide) ?_
            refine lv_iconst (v := 0) hx hb dX8_name_135 (by decide) ?_
            refine lv_iconst (v := 0) hx hb dX8_name_136 (by decide) ?_
            obtain ⟨r16, σ17, eσ17, hs⟩ := sp_bind hs
            refine sv_goI (σ' := σ17) (r := r16) hW F.2.2.2.1 (sv_runV (C := RX8) F hW (k_X8_isWord hB eσ17 H.size) gX8_name_X8_isWord rfl ⟨rfl, rfl⟩ 8 (by decide +kernel) (sv_room2 (by omega) (by omega)) (sm_i 0 hB (by decide)) (sm_c0 hB) rfl rfl hl.1 rfl (Nat.le_of_ble_eq_true rfl) dX8_name_137 ⟨Nat.zero_le _, Nat.zero_le _⟩) (fun H locs hW => ?_)
            refine lv_if_eq (tgt := 148) hx hb dX8_name_140 (by decide) (fun c18 => ?_) (fun c18 => ?_)
            · replace hs := (sp_ite hs).1 c18
              refine lv_aload_n hx hb dX8_name_148 rfl (lv_at hl 0 rfl) ?_
              obtain ⟨r19, σ20, eσ20, hs⟩ := sp_bind hs
              refine sv_goV (σ' := σ20) (r := r19) hW F.2.2.2.1 (sv_runV (C := RX8) F hW (k_X8_fail hB eσ20 H.size) gX8_name_X8_fail rfl ⟨rfl, rfl⟩ 0 (by decide +kernel) (sv_room2 (by omega) (by omega)) (sm_i 0 hB (by decide)) (sm_c0 hB) rfl rfl hl.1 rfl (Nat.le_of_ble_eq_true rfl) dX8_name_149 ⟨Nat.zero_le _, Nat.zero_le _⟩) (fun H locs hW => ?_)
              refine lv_iconst (v := 0) hx hb dX8_name_152 (by decide) ?_
              cases hs
              exact sv_iret hx hb hr rfl hlk hW dX8_name_153
            · replace hs := (sp_ite hs).2 c18
              refine lv_aload_n hx hb dX8_name_143 rfl (lv_at hl 0 rfl) ?_
              refine sv_get (own := RX8) (C := RX8) (Tf := TX8) (N := 44) (index := 185) (κ := (0, 0)) (v := .int (σ17.1 0 17)) hx hb hts hown hK hW (fun _ h => List.mem_cons_of_mem _ (List.mem_append_right _ h)) (sm_i 0 hB (by decide)) (sm_c0 hB) rfl 17 (by decide) rfl rfl (List.mem_of_getElem? (i := 6) rfl) dX8_name_144 ?_
              cases hs
              exact sv_iret hx hb hr rfl hlk hW dX8_name_147
          · replace hs := (sp_ite hs).2 c15
            refine lv_aload_n hx hb dX8_name_119 rfl (lv_at hl 0 rfl) ?_
            refine sv_get (own := RX8) (C := RX8) (Tf := TX8) (N := 44) (index := 182) (κ := (0, 0)) (v := .int (σ14.1 0 16)) hx hb hts hown hK hW (fun _ h => List.mem_cons_of_mem _ (List.mem_append_right _ h)) (sm_i 0 hB (by decide)) (sm_c0 hB) rfl 16 (by decide) rfl rfl (List.mem_of_getElem? (i := 5) rfl) dX8_name_120 ?_
            cases hs
            exact sv_iret hx hb hr rfl hlk hW dX8_name_123
        · replace hs := (sp_ite hs).2 c12
          refine lv_aload_n hx hb dX8_name_93 rfl (lv_at hl 0 rfl) ?_
          refine sv_get (own := RX8) (C := RX8) (Tf := TX8) (N := 44) (index := 179) (κ := (0, 0)) (v := .int (σ11.1 0 15)) hx hb hts hown hK hW (fun _ h => List.mem_cons_of_mem _ (List.mem_append_right _ h)) (sm_i 0 hB (by decide)) (sm_c0 hB) rfl 15 (by decide) rfl rfl (List.mem_of_getElem? (i := 4) rfl) dX8_name_94 ?_
          cases hs
          exact sv_iret hx hb hr rfl hlk hW dX8_name_97
      · replace hs := (sp_ite hs).2 c9
        refine lv_aload_n hx hb dX8_name_69 rfl (lv_at hl 0 rfl) ?_
        refine sv_get (own := RX8) (C := RX8) (Tf := TX8) (N := 44) (index := 176) (κ := (0, 0)) (v := .int (σ8.1 0 14)) hx hb hts hown hK hW (fun _ h => List.mem_cons_of_mem _ (List.mem_append_right _ h)) (sm_i 0 hB (by decide)) (sm_c0 hB) rfl 14 (by decide) rfl rfl (List.mem_of_getElem? (i := 3) rfl) dX8_name_70 ?_
        cases hs
        exact sv_iret hx hb hr rfl hlk hW dX8_name_73
    · replace hs := (sp_ite hs).2 c6
      refine lv_aload_n hx hb dX8_name_43 rfl (lv_at hl 0 rfl) ?_
      refine sv_get (own := RX8) (C := RX8) (Tf := TX8) (N := 44) (index := 173) (κ := (0, 0)) (v := .int (σ5.1 0 13)) hx hb hts hown hK hW (fun _ h => List.mem_cons_of_mem _ (List.mem_append_right _ h)) (sm_i 0 hB (by decide)) (sm_c0 hB) rfl 13 (by decide) rfl rfl (List.mem_of_getElem? (i := 2) rfl) dX8_name_44 ?_
      cases hs
      exact sv_iret hx hb hr rfl hlk hW dX8_name_47
  · replace hs := (sp_ite hs).2 c3
    refine lv_aload_n hx hb dX8_name_19 rfl (lv_at hl 0 rfl) ?_
    refine sv_get (own := RX8) (C := RX8) (Tf := TX8) (N := 44) (index := 170) (κ := (0, 0)) (v := .int (σ2.1 0 12)) hx hb hts hown hK hW (fun _ h => List.mem_cons_of_mem _ (List.mem_append_right _ h)) (sm_i 0 hB (by decide)) (sm_c0 hB) rfl 12 (by decide) rfl rfl (List.mem_of_getElem? (i := 1) rfl) dX8_name_20 ?_
    cases hs
    exact sv_iret hx hb hr rfl hlk hW dX8_name_23
set_option maxRecDepth 100000 in
set_option maxHeartbeats 4000000 in
theorem b_X8_term_5 {p : Program} {l : Launch} {e : Env} {s : State} {m : MethodId} {args : Array Value} {below : List Frame} {meth : Method} {c : Code} {D : va_G} {T : Nat → ClassId} {A : Nat → Prop} {h : Nat → Nat} {θ : sv_T}  {r : Int32} {σ' : sv_S} (hB : sm_base θ) (G : Nat → sv_T → sv_S → Option (Int32 × sv_S)) (fr lr : Nat) (hf : 20 ≤ fr) (hlr : 800 ≤ lr) (hG0 : ∀  (σ : sv_S) (r : Int32) (σ1 : sv_S), G 0 θ σ = some (r, σ1) → sv_Mi sm_X l D T (sm_tys T) h θ yX8_either wsX8_either (sv_rm fr lr) [.ref (h 0)] σ r σ1) (hG1 : ∀  (σ : sv_S) (r : Int32) (σ1 : sv_S), G 1 θ σ = some (r, σ1) → sv_Mi sm_X l D T (sm_tys T) h θ yX8_both wsX8_both (sv_rm fr lr) [.ref (h 0)] σ r σ1) (hG2 : ∀  (σ : sv_S) (r : Int32) (σ1 : sv_S), G 2 θ σ = some (r, σ1) → sv_Mi sm_X l D T (sm_tys T) h θ yX8_not wsX8_not (sv_rm fr lr) [.ref (h 0)] σ r σ1) (hG3 : ∀  (σ : sv_S) (r : Int32) (σ1 : sv_S), G 3 θ σ = some (r, σ1) → sv_Mi sm_X l D T (sm_tys T) h θ yX8_added wsX8_added (sv_rm fr lr) [.ref (h 0)] σ r σ1) (hG4 : ∀  (σ : sv_S) (r : Int32) (σ1 : sv_S), G 4 θ σ = some (r, σ1) → sv_Mi sm_X l D T (sm_tys T) h θ yX8_term wsX8_term (sv_rm fr lr) [.ref (h 0)] σ r σ1) (hG5 : ∀  (σ : sv_S) (r : Int32) (σ1 : sv_S), G 5 θ σ = some (r, σ1) → sv_Mi sm_X l D T (sm_tys T) h θ yX8_atom wsX8_atom (sv_rm fr lr) [.ref (h 0)] σ r σ1)  (F : sv_F sm_X p m c cX8_term 2 s args wsX8_term RX8 D (sm_tys T) A) (hr : meth.sig.returnType = (some .int)) (hlk : meth.locks = false)  : ∀ (n : Nat), ∀ (x1 : Int32) (σ : sv_S) (H : Heap) (locs : List Loc) (ls : Array Slot), lv_has ls 2 [(0, .ref (h 0)), (1, .int x1)] → sv_W D T A s h θ σ H locs → q_X8_term_B5 θ G  n x1 σ = some (r, σ') → W p l e (sv_rm (fr + 1) (lr + 40)) s m args below meth c H locs 0 0 (MQ below (va_Qi (fun r2 (_ : Unit) => r2 = r) (fun _ t => va_P D vwCl (sv_ws T h θ σ') t.heap) A) args s 0 0 A) (F0 m 5 ls []) := by
  have hx := F.1.1
  have hb := F.1.2.1
  have hts := F.1.2.2.2.2
  have hown := F.1.2.2.2.1
  have hK := F.2.1
  intro n
  induction n with
  | zero =>
    intro x1 σ H locs ls hl hW hs
    have hs : (none : Option (Int32 × sv_S)) = some (r, σ') := hs
    cases hs
  | succ n ih =>
    intro x1 σ H locs ls hl hW hs
    have hs : q_X8_term_B5_b θ G  (q_X8_term_B5 θ G  n) x1 σ = some (r, σ') := hs
    unfold q_X8_term_B5_b at hs
    refine lv_aload_n hx hb dX8_term_5 rfl (lv_at hl 0 rfl) ?_
    refine lv_bipush (v := 42) hx hb dX8_term_6 (by decide) ?_
    obtain ⟨r3, σ4, eσ4, hs⟩ := sp_bind hs
    refine sv_goI (σ' := σ4) (r := r3) hW F.2.2.2.1 (sv_runV (C := RX8) F hW (k_X8_isSign hB eσ4 H.size) gX8_term_X8_isSign rfl ⟨rfl, rfl⟩ 1 (by decide +kernel) (sv_room2 (by omega) (by omega)) (sm_i 0 hB (by decide)) (sm_c0 hB) rfl rfl hl.1 rfl (Nat.le_of_ble_eq_true rfl) dX8_term_8 ⟨Nat.zero_le _, Nat.zero_le _⟩) (fun H locs hW => ?_)
    refine lv_if_eq (tgt := 28) hx hb dX8_term_11 (by decide) (fun c5 => ?_) (fun c5 => ?_)
    · replace hs := (sp_ite hs).1 c5
      refine lv_iload_n hx hb dX8_term_28 rfl (lv_at hl 1 rfl) ?_
      cases hs
      exact sv_iret hx hb hr rfl hlk hW dX8_term_29
    · replace hs := (sp_ite hs).2 c5
      refine lv_aload_n hx hb dX8_term_14 rfl (lv_at hl 0 rfl) ?_
      obtain ⟨r6, σ7, eσ7, hs⟩ := sp_bind hs
      refine sv_goV (σ' := σ7) (r := r6) hW F.2.2.2.1 (sv_runV (C := RX8) F hW (k_X8_next hB eσ7 H.size) gX8_term_X8_next rfl ⟨rfl, rfl⟩ 0 (by decide +kernel) (sv_room2 (by omega) (by omega)) (sm_i 0 hB (by decide)) (sm_c0 hB) rfl rfl hl.1 rfl (Nat.le_of_ble_eq_true rfl) dX8_term_15 ⟨Nat.zero_le _, Nat.zero_le _⟩) (fun H locs hW => ?_)
      refine lv_iload_n hx hb dX8_term_18 rfl (lv_at hl 1 rfl) ?_
      refine lv_aload_n hx hb dX8_term_19 rfl (lv_at hl 0 rfl) ?_
      obtain ⟨r8, σ9, eσ9, hs⟩ := sp_bind hs
      refine sv_goI (σ' := σ9) (r := r8) hW F.2.2.2.1 (sv_runV (C := RX8) F hW (hG5 _ _ _ eσ9 H.size) gX8_term_X8_atom rfl ⟨rfl, rfl⟩ 0 (by decide +kernel) (sv_room2 (by omega) (by omega)) (sm_i 0 hB (by decide)) (sm_c0 hB) rfl rfl hl.1 rfl (Nat.le_of_ble_eq_true rfl) dX8_term_20 ⟨Nat.zero_le _, Nat.zero_le _⟩) (fun H locs hW => ?_)
      refine lv_imul hx hb dX8_term_23 ?_
      refine lv_topi (fun v10 ev10 => ?_)
      replace hs := sp_let hs ev10
      refine lv_istore_n (lv' := [(1, .int v10), (0, .ref (h 0))]) hx hb dX8_term_24 rfl hl (by decide) rfl (fun ls hl => ?_)
      refine lv_goto (tgt := 5) hx hb dX8_term_25 (by decide) ?_
      exact ih v10 σ9 H locs ls (lv_sub hl [1, 0] rfl) hW hs
set_option maxRecDepth 100000 in
set_option maxHeartbeats 4000000 in
theorem k_X8_term_b {l : Launch} {D : va_G} {T : Nat → ClassId} {h : Nat → Nat} {θ : sv_T}  {σ : sv_S} {r : Int32} {σ' : sv_S} (hB : sm_base θ) (G : Nat → sv_T → sv_S → Option (Int32 × sv_S)) (fr lr : Nat) (hf : 20 ≤ fr) (hlr : 800 ≤ lr) (hG0 : ∀  (σ : sv_S) (r : Int32) (σ1 : sv_S), G 0 θ σ = some (r, σ1) → sv_Mi sm_X l D T (sm_tys T) h θ yX8_either wsX8_either (sv_rm fr lr) [.ref (h 0)] σ r σ1) (hG1 : ∀  (σ : sv_S) (r : Int32) (σ1 : sv_S), G 1 θ σ = some (r, σ1) → sv_Mi sm_X l D T (sm_tys T) h θ yX8_both wsX8_both (sv_rm fr lr) [.ref (h 0)] σ r σ1) (hG2 : ∀  (σ : sv_S) (r : Int32) (σ1 : sv_S), G 2 θ σ = some (r, σ1) → sv_Mi sm_X l D T (sm_tys T) h θ yX8_not wsX8_not (sv_rm fr lr) [.ref (h 0)] σ r σ1) (hG3 : ∀  (σ : sv_S) (r : Int32) (σ1 : sv_S), G 3 θ σ = some (r, σ1) → sv_Mi sm_X l D T (sm_tys T) h θ yX8_added wsX8_added (sv_rm fr lr) [.ref (h 0)] σ r σ1) (hG4 : ∀  (σ : sv_S) (r : Int32) (σ1 : sv_S), G 4 θ σ = some (r, σ1) → sv_Mi sm_X l D T (sm_tys T) h θ yX8_term wsX8_term (sv_rm fr lr) [.ref (h 0)] σ r σ1) (hG5 : ∀  (σ : sv_S) (r : Int32) (σ1 : sv_S), G 5 θ σ = some (r, σ1) → sv_Mi sm_X l D T (sm_tys T) h θ yX8_atom wsX8_atom (sv_rm fr lr) [.ref (h 0)] σ r σ1)  (hs : q_X8_term_b θ G  σ = some (r, σ')) : sv_Mi sm_X l D T (sm_tys T) h θ yX8_term wsX8_term (sv_rm (fr + 1) (lr + 40)) [.ref (h 0)] σ r σ' := by
  intro sz
  refine sv_enter (cc := cX8_term) (maxL := 2) (ret := (some .int)) (Qc := fun A => va_Qi (fun r2 (_ : Unit) => r2 = r) (fun _ t => va_P D vwCl (sv_ws T h θ σ') t.heap) A) sm_XP (by decide) rfl (Nat.le_of_ble_eq_true rfl) ?_
  intro p e s m args below meth c A F hr hlk ls H hl hW
  have hx := F.1.1
  have hb := F.1.2.1
  have hts := F.1.2.2.2.2
  have hown := F.1.2.2.2.1
  have hK := F.2.1
  obtain ⟨locs, hlocs⟩ : ∃ z : List Loc, z = [] := ⟨_, rfl⟩
  rw [← hlocs] at hW ⊢
  have hl : lv_has ls 2 [(0, .ref (h 0))] := hl
  unfold q_X8_term_b at hs
  refine lv_aload_n hx hb dX8_term_0 rfl (lv_at hl 0 rfl) ?_
  obtain ⟨r1, σ2, eσ2, hs⟩ := sp_bind hs
  refine sv_goI (σ' := σ2) (r := r1) hW F.2.2.2.1 (sv_runV (C := RX8) F hW (hG5 _ _ _ eσ2 H.size) gX8_term_X8_atom rfl ⟨rfl, rfl⟩ 0 (by decide +kernel) (sv_room2 (by omega) (by omega)) (sm_i 0 hB (by decide)) (sm_c0 hB) rfl rfl hl.1 rfl (Nat.le_of_ble_eq_true rfl) dX8_term_1 ⟨Nat.zero_le _, Nat.zero_le _⟩) (fun H locs hW => ?_)
  refine lv_istore_n (lv' := [(1, .int r1), (0, .ref (h 0))]) hx hb dX8_term_4 rfl hl (by decide) rfl (fun ls hl => ?_)
  exact b_X8_term_5 hB G fr lr hf hlr hG0 hG1 hG2 hG3 hG4 hG5 F hr hlk sv_N r1 σ2 H locs ls (lv_sub hl [1, 0] rfl) hW hs
set_option maxRecDepth 100000 in
set_option maxHeartbeats 4000000 in
theorem b_X8_added_39 {p : Program} {l : Launch} {e : Env} {s : State} {m : MethodId} {args : Array Value} {below : List Frame} {meth : Method} {c : Code} {D : va_G} {T : Nat → ClassId} {A : Nat → Prop} {h : Nat → Nat} {θ : sv_T}  {r : Int32} {σ' : sv_S} (hB : sm_base θ) (G : Nat → sv_T → sv_S → Option (Int32 × sv_S)) (fr lr : Nat) (hf : 20 ≤ fr) (hlr : 800 ≤ lr) (hG0 : ∀  (σ : sv_S) (r : Int32) (σ1 : sv_S), G 0 θ σ = some (r, σ1) → sv_Mi sm_X l D T (sm_tys T) h θ yX8_either wsX8_either (sv_rm fr lr) [.ref (h 0)] σ r σ1) (hG1 : ∀  (σ : sv_S) (r : Int32) (σ1 : sv_S), G 1 θ σ = some (r, σ1) → sv_Mi sm_X l D T (sm_tys T) h θ yX8_both wsX8_both (sv_rm fr lr) [.ref (h 0)] σ r σ1) (hG2 : ∀  (σ : sv_S) (r : Int32) (σ1 : sv_S), G 2 θ σ = some (r, σ1) → sv_Mi sm_X l D T (sm_tys T) h θ yX8_not wsX8_not (sv_rm fr lr) [.ref (h 0)] σ r σ1) (hG3 : ∀  (σ : sv_S) (r : Int32) (σ1 : sv_S), G 3 θ σ = some (r, σ1) → sv_Mi sm_X l D T (sm_tys T) h θ yX8_added wsX8_added (sv_rm fr lr) [.ref (h 0)] σ r σ1) (hG4 : ∀  (σ : sv_S) (r : Int32) (σ1 : sv_S), G 4 θ σ = some (r, σ1) → sv_Mi sm_X l D T (sm_tys T) h θ yX8_term wsX8_term (sv_rm fr lr) [.ref (h 0)] σ r σ1) (hG5 : ∀  (σ : sv_S) (r : Int32) (σ1 : sv_S), G 5 θ σ = some (r, σ1) → sv_Mi sm_X l D T (sm_tys T) h θ yX8_atom wsX8_atom (sv_rm fr lr) [.ref (h 0)] σ r σ1)  (F : sv_F sm_X p m c cX8_added 4 s args wsX8_added RX8 D (sm_tys T) A) (hr : meth.sig.returnType = (some .int)) (hlk : meth.locks = false) (k5 : Int32 → sv_S → Option (Int32 × sv_S)) (hk5 : ∀ (x1 : Int32) (σ : sv_S) (H : Heap) (locs : List Loc) (ls : Array Slot), lv_has ls 4 [(0, .ref (h 0)), (1, .int x1)] → sv_W D T A s h θ σ H locs → k5 x1 σ = some (r, σ') → W p l e (sv_rm (fr + 1) (lr + 40)) s m args below meth c H locs 0 0 (MQ below (va_Qi (fun r2 (_ : Unit) => r2 = r) (fun _ t => va_P D vwCl (sv_ws T h θ σ') t.heap) A) args s 0 0 A) (F0 m 5 ls [])) : ∀ (x1 : Int32) (w0 : Int32) (σ : sv_S) (H : Heap) (locs : List Loc) (ls : Array Slot), lv_has ls 4 [(0, .ref (h 0)), (1, .int x1)] → sv_W D T A s h θ σ H locs → q_X8_added_B39 θ G  k5 x1 w0 σ = some (r, σ') → W p l e (sv_rm (fr + 1) (lr + 40)) s m args below meth c H locs 0 0 (MQ below (va_Qi (fun r2 (_ : Unit) => r2 = r) (fun _ t => va_P D vwCl (sv_ws T h θ σ') t.heap) A) args s 0 0 A) (F0 m 39 ls [.int w0]) := by
  have hx := F.1.1
  have hb := F.1.2.1
  have hts := F.1.2.2.2.2
  have hown := F.1.2.2.2.1
  have hK := F.2.1
  intro x1 w0 σ H locs ls hl hW hs
  unfold q_X8_added_B39 at hs
  refine lv_istore_n (lv' := [(2, .int w0), (0, .ref (h 0)), (1, .int x1)]) hx hb dX8_added_39 rfl hl (by decide) rfl (fun ls hl => ?_)
  refine lv_aload_n hx hb dX8_added_40 rfl (lv_at hl 1 rfl) ?_
  obtain ⟨r7, σ8, eσ8, hs⟩ := sp_bind hs
  refine sv_goV (σ' := σ8) (r := r7) hW F.2.2.2.1 (sv_runV (C := RX8) F hW (k_X8_next hB eσ8 H.size) gX8_added_X8_next rfl ⟨rfl, rfl⟩ 0 (by decide +kernel) (sv_room2 (by omega) (by omega)) (sm_i 0 hB (by decide)) (sm_c0 hB) rfl rfl hl.1 rfl (Nat.le_of_ble_eq_true rfl) dX8_added_41 ⟨Nat.zero_le _, Nat.zero_le _⟩) (fun H locs hW => ?_)
  refine lv_aload_n hx hb dX8_added_44 rfl (lv_at hl 1 rfl) ?_
  obtain ⟨r9, σ10, eσ10, hs⟩ := sp_bind hs
  refine sv_goI (σ' := σ10) (r := r9) hW F.2.2.2.1 (sv_runV (C := RX8) F hW (hG4 _ _ _ eσ10 H.size) gX8_added_X8_term rfl ⟨rfl, rfl⟩ 0 (by decide +kernel) (sv_room2 (by omega) (by omega)) (sm_i 0 hB (by decide)) (sm_c0 hB) rfl rfl hl.1 rfl (Nat.le_of_ble_eq_true rfl) dX8_added_45 ⟨Nat.zero_le _, Nat.zero_le _⟩) (fun H locs hW => ?_)
  refine lv_istore_n (lv' := [(3, .int r9), (2, .int w0), (0, .ref (h 0)), (1, .int x1)]) hx hb dX8_added_48 rfl hl (by decide) rfl (fun ls hl => ?_)
  refine lv_iload_n hx hb dX8_added_49 rfl (lv_at hl 1 rfl) ?_
  refine lv_if_eq (tgt := 59) hx hb dX8_added_50 (by decide) (fun c11 => ?_) (fun c11 => ?_)
  · replace hs := (sp_ite hs).1 c11
    refine lv_iload_n hx hb dX8_added_59 rfl (lv_at hl 3 rfl) ?_
    refine lv_iload_n hx hb dX8_added_60 rfl (lv_at hl 0 rfl) ?_
    refine lv_isub hx hb dX8_added_61 ?_
    refine lv_topi (fun v12 ev12 => ?_)
    replace hs := sp_let hs ev12
    refine lv_istore_n (lv' := [(1, .int v12), (3, .int r9), (2, .int w0), (0, .ref (h 0))]) hx hb dX8_added_62 rfl hl (by decide) rfl (fun ls hl => ?_)
    refine lv_goto (tgt := 5) hx hb dX8_added_63 (by decide) ?_
    exact hk5 v12 σ10 H locs ls (lv_sub hl [3, 0] rfl) hW hs
  · replace hs := (sp_ite hs).2 c11
    refine lv_iload_n hx hb dX8_added_53 rfl (lv_at hl 3 rfl) ?_
    refine lv_iload_n hx hb dX8_added_54 rfl (lv_at hl 0 rfl) ?_
    refine lv_iadd hx hb dX8_added_55 ?_
    refine lv_goto (tgt := 62) hx hb dX8_added_56 (by decide) ?_
    refine lv_topi (fun v13 ev13 => ?_)
    replace hs := sp_let hs ev13
    refine lv_istore_n (lv' := [(1, .int v13), (3, .int r9), (2, .int w0), (0, .ref (h 0))]) hx hb dX8_added_62 rfl hl (by decide) rfl (fun ls hl => ?_)
    refine lv_goto (tgt := 5) hx hb dX8_added_63 (by decide) ?_
    exact hk5 v13 σ10 H locs ls (lv_sub hl [3, 0] rfl) hW hs
set_option maxRecDepth 100000 in
set_option maxHeartbeats 4000000 in
theorem b_X8_added_5 {p : Program} {l : Launch} {e : Env} {s : State} {m : MethodId} {args : Array Value} {below : List Frame} {meth : Method} {c : Code} {D : va_G} {T : Nat → ClassId} {A : Nat → Prop} {h : Nat → Nat} {θ : sv_T}  {r : Int32} {σ' : sv_S} (hB : sm_base θ) (G : Nat → sv_T → sv_S → Option (Int32 × sv_S)) (fr lr : Nat) (hf : 20 ≤ fr) (hlr : 800 ≤ lr) (hG0 : ∀  (σ : sv_S) (r : Int32) (σ1 : sv_S), G 0 θ σ = some (r, σ1) → sv_Mi sm_X l D T (sm_tys T) h θ yX8_either wsX8_either (sv_rm fr lr) [.ref (h 0)] σ r σ1) (hG1 : ∀  (σ : sv_S) (r : Int32) (σ1 : sv_S), G 1 θ σ = some (r, σ1) → sv_Mi sm_X l D T (sm_tys T) h θ yX8_both wsX8_both (sv_rm fr lr) [.ref (h 0)] σ r σ1) (hG2 : ∀  (σ : sv_S) (r : Int32) (σ1 : sv_S), G 2 θ σ = some (r, σ1) → sv_Mi sm_X l D T (sm_tys T) h θ yX8_not wsX8_not (sv_rm fr lr) [.ref (h 0)] σ r σ1) (hG3 : ∀  (σ : sv_S) (r : Int32) (σ1 : sv_S), G 3 θ σ = some (r, σ1) → sv_Mi sm_X l D T (sm_tys T) h θ yX8_added wsX8_added (sv_rm fr lr) [.ref (h 0)] σ r σ1) (hG4 : ∀  (σ : sv_S) (r : Int32) (σ1 : sv_S), G 4 θ σ = some (r, σ1) → sv_Mi sm_X l D T (sm_tys T) h θ yX8_term wsX8_term (sv_rm fr lr) [.ref (h 0)] σ r σ1) (hG5 : ∀  (σ : sv_S) (r : Int32) (σ1 : sv_S), G 5 θ σ = some (r, σ1) → sv_Mi sm_X l D T (sm_tys T) h θ yX8_atom wsX8_atom (sv_rm fr lr) [.ref (h 0)] σ r σ1)  (F : sv_F sm_X p m c cX8_added 4 s args wsX8_added RX8 D (sm_tys T) A) (hr : meth.sig.returnType = (some .int)) (hlk : meth.locks = false)  : ∀ (n : Nat), ∀ (x1 : Int32) (σ : sv_S) (H : Heap) (locs : List Loc) (ls : Array Slot), lv_has ls 4 [(0, .ref (h 0)), (1, .int x1)] → sv_W D T A s h θ σ H locs → q_X8_added_B5 θ G  n x1 σ = some (r, σ') → W p l e (sv_rm (fr + 1) (lr + 40)) s m args below meth c H locs 0 0 (MQ below (va_Qi (fun r2 (_ : Unit) => r2 = r) (fun _ t => va_P D vwCl (sv_ws T h θ σ') t.heap) A) args s 0 0 A) (F0 m 5 ls []) := by
  have hx := F.1.1
  have hb := F.1.2.1
  have hts := F.1.2.2.2.2
  have hown := F.1.2.2.2.1
  have hK := F.2.1
  intro n
  induction n with
  | zero =>
    intro x1 σ H locs ls hl hW hs
    have hs : (none : Option (Int32 × sv_S)) = some (r, σ') := hs
    cases hs
  | succ n ih =>
    intro x1 σ H locs ls hl hW hs
    have hs : q_X8_added_B5_b θ G  (q_X8_added_B5 θ G  n) x1 σ = some (r, σ') := hs
    unfold q_X8_added_B5_b at hs
    refine lv_aload_n hx hb dX8_added_5 rfl (lv_at hl 0 rfl) ?_
    refine lv_bipush (v := 43) hx hb dX8_added_6 (by decide) ?_
    obtain ⟨r3, σ4, eσ4, hs⟩ := sp_bind hs
    refine sv_goI (σ' := σ4) (r := r3) hW F.2.2.2.1 (sv_runV (C := RX8) F hW (k_X8_isSign hB eσ4 H.size) gX8_added_X8_isSign rfl ⟨rfl, rfl⟩ 1 (by decide +kernel) (sv_room2 (by omega) (by omega)) (sm_i 0 hB (by decide)) (sm_c0 hB) rfl rfl hl.1 rfl (Nat.le_of_ble_eq_true rfl) dX8_added_8 ⟨Nat.zero_le _, Nat.zero_le _⟩) (fun H locs hW => ?_)
    refine lv_if_ne (tgt := 23) hx hb dX8_added_11 (by decide) (fun c5 => ?_) (fun c5 => ?_)
    · replace hs := (sp_ite hs).2 c5
      refine lv_aload_n hx hb dX8_added_23 rfl (lv_at hl 0 rfl) ?_
      refine sv_get (own := RX8) (C := RX8) (Tf := TX8) (N := 44) (index := 141) (κ := (1, 0)) (v := .long (σ4.2.1 0 23)) hx hb hts hown hK hW (fun _ h => List.mem_cons_of_mem _ (List.mem_append_right _ h)) (sm_i 0 hB (by decide)) (sm_c0 hB) rfl 23 (by decide) rfl rfl (List.mem_of_getElem? (i := 1) rfl) dX8_added_24 ?_
      refine lv_ldc2 (own := RX8) (index := 208) (v := 43) hx hb hown (hts _ (List.mem_of_getElem? (i := 2) rfl)) dX8_added_27 ?_
      refine W.lcmp hx hb dX8_added_30 ?_
      refine lv_if_ne (tgt := 38) hx hb dX8_added_31 (by decide) (fun c6 => ?_) (fun c6 => ?_)
      · replace hs := (sp_ite hs).2 c6
        refine lv_iconst (v := 0) hx hb dX8_added_38 (by decide) ?_
        exact b_X8_added_39 hB G fr lr hf hlr hG0 hG1 hG2 hG3 hG4 hG5 F hr hlk _ ih x1 (0 : Int32) σ4 H locs ls (lv_sub hl [0, 1] rfl) hW hs
      · replace hs := (sp_ite hs).1 c6
        refine lv_iconst (v := 1) hx hb dX8_added_34 (by decide) ?_
        refine lv_goto (tgt := 39) hx hb dX8_added_35 (by decide) ?_
        exact b_X8_added_39 hB G fr lr hf hlr hG0 hG1 hG2 hG3 hG4 hG5 F hr hlk _ ih x1 (1 : Int32) σ4 H locs ls (lv_sub hl [0, 1] rfl) hW hs
    · replace hs := (sp_ite hs).1 c5
      refine lv_aload_n hx hb dX8_added_14 rfl (lv_at hl 0 rfl) ?_
      refine lv_bipush (v := 45) hx hb dX8_added_15 (by decide) ?_
      obtain ⟨r14, σ15, eσ15, hs⟩ := sp_bind hs
      refine sv_goI (σ' := σ15) (r := r14) hW F.2.2.2.1 (sv_runV (C := RX8) F hW (k_X8_isSign hB eσ15 H.size) gX8_added_X8_isSign rfl ⟨rfl, rfl⟩ 1 (by decide +kernel) (sv_room2 (by omega) (by omega)) (sm_i 0 hB (by decide)) (sm_c0 hB) rfl rfl hl.1 rfl (Nat.le_of_ble_eq_true rfl) dX8_added_17 ⟨Nat.zero_le _, Nat.zero_le _⟩) (fun H locs hW => ?_)
      refine lv_if_eq (tgt := 66) hx hb dX8_added_20 (by decide) (fun c16 => ?_) (fun c16 => ?_)
      · replace hs := (sp_ite hs).1 c16
        refine lv_iload_n hx hb dX8_added_66 rfl (lv_at hl 1 rfl) ?_
        cases hs
        exact sv_iret hx hb hr rfl hlk hW dX8_added_67
      · replace hs := (sp_ite hs).2 c16
        refine lv_aload_n hx hb dX8_added_23 rfl (lv_at hl 0 rfl) ?_
        refine sv_get (own := RX8) (C := RX8) (Tf := TX8) (N := 44) (index := 141) (κ := (1, 0)) (v := .long (σ15.2.1 0 23)) hx hb hts hown hK hW (fun _ h => List.mem_cons_of_mem _ (List.mem_append_right _ h)) (sm_i 0 hB (by decide)) (sm_c0 hB) rfl 23 (by decide) rfl rfl (List.mem_of_getElem? (i := 1) rfl) dX8_added_24 ?_
        refine lv_ldc2 (own := RX8) (index := 208) (v := 43) hx hb hown (hts _ (List.mem_of_getElem? (i := 2) rfl)) dX8_added_27 ?_
        refine W.lcmp hx hb dX8_added_30 ?_
        refine lv_if_ne (tgt := 38) hx hb dX8_added_31 (by decide) (fun c17 => ?_) (fun c17 => ?_)
        · replace hs := (sp_ite hs).2 c17
          refine lv_iconst (v := 0) hx hb dX8_added_38 (by decide) ?_
          exact b_X8_added_39 hB G fr lr hf hlr hG0 hG1 hG2 hG3 hG4 hG5 F hr hlk _ ih x1 (0 : Int32) σ15 H locs ls (lv_sub hl [0, 1] rfl) hW hs
        · replace hs := (sp_ite hs).1 c17
          refine lv_iconst (v := 1) hx hb dX8_added_34 (by decide) ?_
          refine lv_goto (tgt := 39) hx hb dX8_added_35 (by decide) ?_
          exact b_X8_added_39 hB G fr lr hf hlr hG0 hG1 hG2 hG3 hG4 hG5 F hr hlk _ ih x1 (1 : Int32) σ15 H locs ls (lv_sub hl [0, 1] rfl) hW hs
set_option maxRecDepth 100000 in
set_option maxHeartbeats 4000000 in
theorem k_X8_added_b {l : Launch} {D : va_G} {T : Nat → ClassId} {h : Nat → Nat} {θ : sv_T}  {σ : sv_S} {r : Int32} {σ' : sv_S} (hB : sm_base θ) (G : Nat → sv_T → sv_S → Option (Int32 × sv_S)) (fr lr : Nat) (hf : 20 ≤ fr) (hlr : 800 ≤ lr) (hG0 : ∀  (σ : sv_S) (r : Int32) (σ1 : sv_S), G 0 θ σ = some (r, σ1) → sv_Mi sm_X l D T (sm_tys T) h θ yX8_either wsX8_either (sv_rm fr lr) [.ref (h 0)] σ r σ1) (hG1 : ∀  (σ : sv_S) (r : Int32) (σ1 : sv_S), G 1 θ σ = some (r, σ1) → sv_Mi sm_X l D T (sm_tys T) h θ yX8_both wsX8_both (sv_rm fr lr) [.ref (h 0)] σ r σ1) (hG2 : ∀  (σ : sv_S) (r : Int32) (σ1 : sv_S), G 2 θ σ = some (r, σ1) → sv_Mi sm_X l D T (sm_tys T) h θ yX8_not wsX8_not (sv_rm fr lr) [.ref (h 0)] σ r σ1) (hG3 : ∀  (σ : sv_S) (r : Int32) (σ1 : sv_S), G 3 θ σ = some (r, σ1) → sv_Mi sm_X l D T (sm_tys T) h θ yX8_added wsX8_added (sv_rm fr lr) [.ref (h 0)] σ r σ1) (hG4 : ∀  (σ : sv_S) (r : Int32) (σ1 : sv_S), G 4 θ σ = some (r, σ1) → sv_Mi sm_X l D T (sm_tys T) h θ yX8_term wsX8_term (sv_rm fr lr) [.ref (h 0)] σ r σ1) (hG5 : ∀  (σ : sv_S) (r : Int32) (σ1 : sv_S), G 5 θ σ = some (r, σ1) → sv_Mi sm_X l D T (sm_tys T) h θ yX8_atom wsX8_atom (sv_rm fr lr) [.ref (h 0)] σ r σ1)  (hs : q_X8_added_b θ G  σ = some (r, σ')) : sv_Mi sm_X l D T (sm_tys T) h θ yX8_added wsX8_added (sv_rm (fr + 1) (lr + 40)) [.ref (h 0)] σ r σ' := by
  intro sz
  refine sv_enter (cc := cX8_added) (maxL := 4) (ret := (some .int)) (Qc := fun A => va_Qi (fun r2 (_ : Unit) => r2 = r) (fun _ t => va_P D vwCl (sv_ws T h θ σ') t.heap) A) sm_XP (by decide) rfl (Nat.le_of_ble_eq_true rfl) ?_
  intro p e s m args below meth c A F hr hlk ls H hl hW
  have hx := F.1.1
  have hb := F.1.2.1
  have hts := F.1.2.2.2.2
  have hown := F.1.2.2.2.1
  have hK := F.2.1
  obtain ⟨locs, hlocs⟩ : ∃ z : List Loc, z = [] := ⟨_, rfl⟩
  rw [← hlocs] at hW ⊢
  have hl : lv_has ls 4 [(0, .ref (h 0))] := hl
  unfold q_X8_added_b at hs
  refine lv_aload_n hx hb dX8_added_0 rfl (lv_at hl 0 rfl) ?_
  obtain ⟨r1, σ2, eσ2, hs⟩ := sp_bind hs
  refine sv_goI (σ' := σ2) (r := r1) hW F.2.2.2.1 (sv_runV (C := RX8) F hW (hG4 _ _ _ eσ2 H.size) gX8_added_X8_term rfl ⟨rfl, rfl⟩ 0 (by decide +kernel) (sv_room2 (by omega) (by omega)) (sm_i 0 hB (by decide)) (sm_c0 hB) rfl rfl hl.1 rfl (Nat.le_of_ble_eq_true rfl) dX8_added_1 ⟨Nat.zero_le _, Nat.zero_le _⟩) (fun H locs hW => ?_)
  refine lv_istore_n (lv' := [(1, .int r1), (0, .ref (h 0))]) hx hb dX8_added_4 rfl hl (by decide) rfl (fun ls hl => ?_)
  exact b_X8_added_5 hB G fr lr hf hlr hG0 hG1 hG2 hG3 hG4 hG5 F hr hlk sv_N r1 σ2 H locs ls (lv_sub hl [1, 0] rfl) hW hs
set_option maxRecDepth 100000 in
set_option maxHeartbeats 4000000 in
theorem b_X8_not_93 {p : Program} {l : Launch} {e : Env} {s : State} {m : MethodId} {args : Array Value} {below : List Frame} {meth : Method} {c : Code} {D : va_G} {T : Nat → ClassId} {A : Nat → Prop} {h : Nat → Nat} {θ : sv_T}  {r : Int32} {σ' : sv_S} (hB : sm_base θ) (G : Nat → sv_T → sv_S → Option (Int32 × sv_S)) (fr lr : Nat) (hf : 20 ≤ fr) (hlr : 800 ≤ lr) (hG0 : ∀  (σ : sv_S) (r : Int32) (σ1 : sv_S), G 0 θ σ = some (r, σ1) → sv_Mi sm_X l D T (sm_tys T) h θ yX8_either wsX8_either (sv_rm fr lr) [.ref (h 0)] σ r σ1) (hG1 : ∀  (σ : sv_S) (r : Int32) (σ1 : sv_S), G 1 θ σ = some (r, σ1) → sv_Mi sm_X l D T (sm_tys T) h θ yX8_both wsX8_both (sv_rm fr lr) [.ref (h 0)] σ r σ1) (hG2 : ∀  (σ : sv_S) (r : Int32) (σ1 : sv_S), G 2 θ σ = some (r, σ1) → sv_Mi sm_X l D T (sm_tys T) h θ yX8_not wsX8_not (sv_rm fr lr) [.ref (h 0)] σ r σ1) (hG3 : ∀  (σ : sv_S) (r : Int32) (σ1 : sv_S), G 3 θ σ = some (r, σ1) → sv_Mi sm_X l D T (sm_tys T) h θ yX8_added wsX8_added (sv_rm fr lr) [.ref (h 0)] σ r σ1) (hG4 : ∀  (σ : sv_S) (r : Int32) (σ1 : sv_S), G 4 θ σ = some (r, σ1) → sv_Mi sm_X l D T (sm_tys T) h θ yX8_term wsX8_term (sv_rm fr lr) [.ref (h 0)] σ r σ1) (hG5 : ∀  (σ : sv_S) (r : Int32) (σ1 : sv_S), G 5 θ σ = some (r, σ1) → sv_Mi sm_X l D T (sm_tys T) h θ yX8_atom wsX8_atom (sv_rm fr lr) [.ref (h 0)] σ r σ1)  (F : sv_F sm_X p m c cX8_not 4 s args wsX8_not RX8 D (sm_tys T) A) (hr : meth.sig.returnType = (some .int)) (hlk : meth.locks = false)  : ∀ (x1 : Int32) (w0 : Int32) (σ : sv_S) (H : Heap) (locs : List Loc) (ls : Array Slot), lv_has ls 4 [(0, .ref (h 0)), (1, .int x1)] → sv_W D T A s h θ σ H locs → q_X8_not_B93 θ G  x1 w0 σ = some (r, σ') → W p l e (sv_rm (fr + 1) (lr + 40)) s m args below meth c H locs 0 0 (MQ below (va_Qi (fun r2 (_ : Unit) => r2 = r) (fun _ t => va_P D vwCl (sv_ws T h θ σ') t.heap) A) args s 0 0 A) (F0 m 93 ls [.int w0]) := by
  have hx := F.1.1
  have hb := F.1.2.1
  have hts := F.1.2.2.2.2
  have hown := F.1.2.2.2.1
  have hK := F.2.1
  intro x1 w0 σ H locs ls hl hW hs
  unfold q_X8_not_B93 at hs
  refine lv_istore_n (lv' := [(2, .int w0), (0, .ref (h 0)), (1, .int x1)]) hx hb dX8_not_93 rfl hl (by decide) rfl (fun ls hl => ?_)
  refine lv_aload_n hx hb dX8_not_94 rfl (lv_at hl 1 rfl) ?_
  obtain ⟨r10, σ11, eσ11, hs⟩ := sp_bind hs
  refine sv_goV (σ' := σ11) (r := r10) hW F.2.2.2.1 (sv_runV (C := RX8) F hW (k_X8_next hB eσ11 H.size) gX8_not_X8_next rfl ⟨rfl, rfl⟩ 0 (by decide +kernel) (sv_room2 (by omega) (by omega)) (sm_i 0 hB (by decide)) (sm_c0 hB) rfl rfl hl.1 rfl (Nat.le_of_ble_eq_true rfl) dX8_not_95 ⟨Nat.zero_le _, Nat.zero_le _⟩) (fun H locs hW => ?_)
  refine lv_aload_n hx hb dX8_not_98 rfl (lv_at hl 1 rfl) ?_
  obtain ⟨r12, σ13, eσ13, hs⟩ := sp_bind hs
  refine sv_goI (σ' := σ13) (r := r12) hW F.2.2.2.1 (sv_runV (C := RX8) F hW (hG3 _ _ _ eσ13 H.size) gX8_not_X8_added rfl ⟨rfl, rfl⟩ 0 (by decide +kernel) (sv_room2 (by omega) (by omega)) (sm_i 0 hB (by decide)) (sm_c0 hB) rfl rfl hl.1 rfl (Nat.le_of_ble_eq_true rfl) dX8_not_99 ⟨Nat.zero_le _, Nat.zero_le _⟩) (fun H locs hW => ?_)
  refine lv_istore_n (lv' := [(3, .int r12), (2, .int w0), (0, .ref (h 0)), (1, .int x1)]) hx hb dX8_not_102 rfl hl (by decide) rfl (fun ls hl => ?_)
  refine lv_iload_n hx hb dX8_not_103 rfl (lv_at hl 1 rfl) ?_
  refine lv_if_eq (tgt := 115) hx hb dX8_not_104 (by decide) (fun c14 => ?_) (fun c14 => ?_)
  · replace hs := (sp_ite hs).1 c14
    refine lv_iload_n hx hb dX8_not_115 rfl (lv_at hl 3 rfl) ?_
    refine lv_iload_n hx hb dX8_not_116 rfl (lv_at hl 0 rfl) ?_
    refine lv_icmp_ne (tgt := 124) hx hb dX8_not_117 (by decide) (fun c15 => ?_) (fun c15 => ?_)
    · replace hs := (sp_ite hs).2 c15
      refine lv_iconst (v := 0) hx hb dX8_not_124 (by decide) ?_
      cases hs
      exact sv_iret hx hb hr rfl hlk hW dX8_not_125
    · replace hs := (sp_ite hs).1 c15
      refine lv_iconst (v := 1) hx hb dX8_not_120 (by decide) ?_
      refine lv_goto (tgt := 125) hx hb dX8_not_121 (by decide) ?_
      cases hs
      exact sv_iret hx hb hr rfl hlk hW dX8_not_125
  · replace hs := (sp_ite hs).2 c14
    refine lv_iload_n hx hb dX8_not_107 rfl (lv_at hl 3 rfl) ?_
    refine lv_iload_n hx hb dX8_not_108 rfl (lv_at hl 0 rfl) ?_
    refine lv_icmp_ge (tgt := 124) hx hb dX8_not_109 (by decide) (fun c16 => ?_) (fun c16 => ?_)
    · replace hs := (sp_ite hs).1 c16
      refine lv_iconst (v := 0) hx hb dX8_not_124 (by decide) ?_
      cases hs
      exact sv_iret hx hb hr rfl hlk hW dX8_not_125
    · replace hs := (sp_ite hs).2 c16
      refine lv_goto (tgt := 120) hx hb dX8_not_112 (by decide) ?_
      refine lv_iconst (v := 1) hx hb dX8_not_120 (by decide) ?_
      refine lv_goto (tgt := 125) hx hb dX8_not_121 (by decide) ?_
      cases hs
      exact sv_iret hx hb hr rfl hlk hW dX8_not_125
set_option maxRecDepth 100000 in
set_option maxHeartbeats 4000000 in
theorem k_X8_not_b {l : Launch} {D : va_G} {T : Nat → ClassId} {h : Nat → Nat} {θ : sv_T}  {σ : sv_S} {r : Int32} {σ' : sv_S} (hB : sm_base θ) (G : Nat → sv_T → sv_S → Option (Int32 × sv_S)) (fr lr : Nat) (hf : 20 ≤ fr) (hlr : 800 ≤ lr) (hG0 : ∀  (σ : sv_S) (r : Int32) (σ1 : sv_S), G 0 θ σ = some (r, σ1) → sv_Mi sm_X l D T (sm_tys T) h θ yX8_either wsX8_either (sv_rm fr lr) [.ref (h 0)] σ r σ1) (hG1 : ∀  (σ : sv_S) (r : Int32) (σ1 : sv_S), G 1 θ σ = some (r, σ1) → sv_Mi sm_X l D T (sm_tys T) h θ yX8_both wsX8_both (sv_rm fr lr) [.ref (h 0)] σ r σ1) (hG2 : ∀  (σ : sv_S) (r : Int32) (σ1 : sv_S), G 2 θ σ = some (r, σ1) → sv_Mi sm_X l D T (sm_tys T) h θ yX8_not wsX8_not (sv_rm fr lr) [.ref (h 0)] σ r σ1) (hG3 : ∀  (σ : sv_S) (r : Int32) (σ1 : sv_S), G 3 θ σ = some (r, σ1) → sv_Mi sm_X l D T (sm_tys T) h θ yX8_added wsX8_added (sv_rm fr lr) [.ref (h 0)] σ r σ1) (hG4 : ∀  (σ : sv_S) (r : Int32) (σ1 : sv_S), G 4 θ σ = some (r, σ1) → sv_Mi sm_X l D T (sm_tys T) h θ yX8_term wsX8_term (sv_rm fr lr) [.ref (h 0)] σ r σ1) (hG5 : ∀  (σ : sv_S) (r : Int32) (σ1 : sv_S), G 5 θ σ = some (r, σ1) → sv_Mi sm_X l D T (sm_tys T) h θ yX8_atom wsX8_atom (sv_rm fr lr) [.ref (h 0)] σ r σ1)  (hs : q_X8_not_b θ G  σ = some (r, σ')) : sv_Mi sm_X l D T (sm_tys T) h θ yX8_not wsX8_not (sv_rm (fr + 1) (lr + 40)) [.ref (h 0)] σ r σ' := by
  intro sz
  refine sv_enter (cc := cX8_not) (maxL := 4) (ret := (some .int)) (Qc := fun A => va_Qi (fun r2 (_ : Unit) => r2 = r) (fun _ t => va_P D vwCl (sv_ws T h θ σ') t.heap) A) sm_XP (by decide) rfl (Nat.le_of_ble_eq_true rfl) ?_
  intro p e s m args below meth c A F hr hlk ls H hl hW
  have hx := F.1.1
  have hb := F.1.2.1
  have hts := F.1.2.2.2.2
  have hown := F.1.2.2.2.1
  have hK := F.2.1
  obtain ⟨locs, hlocs⟩ : ∃ z : List Loc, z = [] := ⟨_, rfl⟩
  rw [← hlocs] at hW ⊢
  have hl : lv_has ls 4 [(0, .ref (h 0))] := hl
  unfold q_X8_not_b at hs
  refine lv_aload_n hx hb dX8_not_0 rfl (lv_at hl 0 rfl) ?_
  refine lv_bipush (v := 110) hx hb dX8_not_1 (by decide) ?_
  refine lv_bipush (v := 111) hx hb dX8_not_3 (by decide) ?_
  refine lv_bipush (v := 116) hx hb dX8_not_5 (by decide) ?_
  refine lv_iconst (v := 0) hx hb dX8_not_7 (by decide) ?_
  refine lv_iconst (v := 0) hx hb dX8_not_8 (by decide) ?_
  refine lv_iconst (v := 0) hx hb dX8_not_9 (by decide) ?_
  refine lv_iconst (v := 0) hx hb dX8_not_10 (by decide) ?_
  refine lv_iconst (v := 0) hx hb dX8_not_11 (by decide) ?_
  obtain ⟨r1, σ2, eσ2, hs⟩ := sp_bind hs
  refine sv_goI (σ' := σ2) (r := r1) hW F.2.2.2.1 (sv_runV (C := RX8) F hW (k_X8_isWord hB eσ2 H.size) gX8_not_X8_isWord rfl ⟨rfl, rfl⟩ 8 (by decide +kernel) (sv_room2 (by omega) (by omega)) (sm_i 0 hB (by decide)) (sm_c0 hB) rfl rfl hl.1 rfl (Nat.le_of_ble_eq_true rfl) dX8_not_12 ⟨Nat.zero_le _, Nat.zero_le _⟩) (fun H locs hW => ?_)
  refine lv_if_eq (tgt := 52) hx hb dX8_not_15 (by decide) (fun c3 => ?_) (fun c3 => ?_)
  · replace hs := (sp_ite hs).1 c3
    refine lv_aload_n hx hb dX8_not_52 rfl (lv_at hl 0 rfl) ?_
    obtain ⟨r4, σ5, eσ5, hs⟩ := sp_bind hs
    refine sv_goI (σ' := σ5) (r := r4) hW F.2.2.2.1 (sv_runV (C := RX8) F hW (hG3 _ _ _ eσ5 H.size) gX8_not_X8_added rfl ⟨rfl, rfl⟩ 0 (by decide +kernel) (sv_room2 (by omega) (by omega)) (sm_i 0 hB (by decide)) (sm_c0 hB) rfl rfl hl.1 rfl (Nat.le_of_ble_eq_true rfl) dX8_not_53 ⟨Nat.zero_le _, Nat.zero_le _⟩) (fun H locs hW => ?_)
    refine lv_istore_n (lv' := [(1, .int r4), (0, .ref (h 0))]) hx hb dX8_not_56 rfl hl (by decide) rfl (fun ls hl => ?_)
    refine lv_aload_n hx hb dX8_not_57 rfl (lv_at hl 1 rfl) ?_
    refine lv_bipush (v := 60) hx hb dX8_not_58 (by decide) ?_
    obtain ⟨r6, σ7, eσ7, hs⟩ := sp_bind hs
    refine sv_goI (σ' := σ7) (r := r6) hW F.2.2.2.1 (sv_runV (C := RX8) F hW (k_X8_isSign hB eσ7 H.size) gX8_not_X8_isSign rfl ⟨rfl, rfl⟩ 1 (by decide +kernel) (sv_room2 (by omega) (by omega)) (sm_i 0 hB (by decide)) (sm_c0 hB) rfl rfl hl.1 rfl (Nat.le_of_ble_eq_true rfl) dX8_not_60 ⟨Nat.zero_le _, Nat.zero_le _⟩) (fun H locs hW => ?_)
    refine lv_if_ne (tgt := 77) hx hb dX8_not_63 (by decide) (fun c8 => ?_) (fun c8 => ?_)
    · replace hs := (sp_ite hs).2 c8
      refine lv_aload_n hx hb dX8_not_77 rfl (lv_at hl 1 rfl) ?_
      refine sv_get (own := RX8) (C := RX8) (Tf := TX8) (N := 44) (index := 141) (κ := (1, 0)) (v := .long (σ7.2.1 0 23)) hx hb hts hown hK hW (fun _ h => List.mem_cons_of_mem _ (List.mem_append_right _ h)) (sm_i 0 hB (by decide)) (sm_c0 hB) rfl 23 (by decide) rfl rfl (List.mem_of_getElem? (i := 2) rfl) dX8_not_78 ?_
      refine lv_ldc2 (own := RX8) (index := 216) (v := 60) hx hb hown (hts _ (List.mem_of_getElem? (i := 3) rfl)) dX8_not_81 ?_
      refine W.lcmp hx hb dX8_not_84 ?_
      refine lv_if_ne (tgt := 92) hx hb dX8_not_85 (by decide) (fun c9 => ?_) (fun c9 => ?_)
      · replace hs := (sp_ite hs).2 c9
        refine lv_iconst (v := 0) hx hb dX8_not_92 (by decide) ?_
        exact b_X8_not_93 hB G fr lr hf hlr hG0 hG1 hG2 hG3 hG4 hG5 F hr hlk r4 (0 : Int32) σ7 H locs ls (lv_sub hl [1, 0] rfl) hW hs
      · replace hs := (sp_ite hs).1 c9
        refine lv_iconst (v := 1) hx hb dX8_not_88 (by decide) ?_
        refine lv_goto (tgt := 93) hx hb dX8_not_89 (by decide) ?_
        exact b_X8_not_93 hB G fr lr hf hlr hG0 hG1 hG2 hG3 hG4 hG5 F hr hlk r4 (1 : Int32) σ7 H locs ls (lv_sub hl [1, 0] rfl) hW hs
    · replace hs := (sp_ite hs).1 c8
      refine lv_aload_n hx hb dX8_not_66 rfl (lv_at hl 1 rfl) ?_
      refine lv_bipush (v := 61) hx hb dX8_not_67 (by decide) ?_
      obtain ⟨r17, σ18, eσ18, hs⟩ := sp_bind hs
      refine sv_goI (σ' := σ18) (r := r17) hW F.2.2.2.1 (sv_runV (C := RX8) F hW (k_X8_isSign hB eσ18 H.size) gX8_not_X8_isSign rfl ⟨rfl, rfl⟩ 1 (by decide +kernel) (sv_room2 (by omega) (by omega)) (sm_i 0 hB (by decide)) (sm_c0 hB) rfl rfl hl.1 rfl (Nat.le_of_ble_eq_true rfl) dX8_not_69 ⟨Nat.zero_le _, Nat.zero_le _⟩) (fun H locs hW => ?_)
      refine lv_if_ne (tgt := 77) hx hb dX8_not_72 (by decide) (fun c19 => ?_) (fun c19 => ?_)
      · replace hs := (sp_ite hs).2 c19
        refine lv_aload_n hx hb dX8_not_77 rfl (lv_at hl 1 rfl) ?_
        refine sv_get (own := RX8) (C := RX8) (Tf := TX8) (N := 44) (index := 141) (κ := (1, 0)) (v := .long (σ18.2.1 0 23)) hx hb hts hown hK hW (fun _ h => List.mem_cons_of_mem _ (List.mem_append_right _ h)) (sm_i 0 hB (by decide)) (sm_c0 hB) rfl 23 (by decide) rfl rfl (List.mem_of_getElem? (i := 2) rfl) dX8_not_78 ?_
        refine lv_ldc2 (own := RX8) (index := 216) (v := 60) hx hb hown (hts _ (List.mem_of_getElem? (i := 3) rfl)) dX8_not_81 ?_
        refine W.lcmp hx hb dX8_not_84 ?_
        refine lv_if_ne (tgt := 92) hx hb dX8_not_85 (by decide) (fun c20 => ?_) (fun c20 => ?_)
        · replace hs := (sp_ite hs).2 c20
          refine lv_iconst (v := 0) hx hb dX8_not_92 (by decide) ?_
          exact b_X8_not_93 hB G fr lr hf hlr hG0 hG1 hG2 hG3 hG4 hG5 F hr hlk r4 (0 : Int32) σ18 H locs ls (lv_sub hl [1, 0] rfl) hW hs
        · replace hs := (sp_ite hs).1 c20
          refine lv_iconst (v := 1) hx hb dX8_not_88 (by decide) ?_
          refine lv_goto (tgt := 93) hx hb dX8_not_89 (by decide) ?_
          exact b_X8_not_93 hB G fr lr hf hlr hG0 hG1 hG2 hG3 hG4 hG5 F hr hlk r4 (1 : Int32) σ18 H locs ls (lv_sub hl [1, 0] rfl) hW hs
      · replace hs := (sp_ite hs).1 c19
        refine lv_iload_n hx hb dX8_not_75 rfl (lv_at hl 0 rfl) ?_
        cases hs
        exact sv_iret hx hb hr rfl hlk hW dX8_not_76
  · replace hs := (sp_ite hs).2 c3
    refine lv_aload_n hx hb dX8_not_18 rfl (lv_at hl 0 rfl) ?_
    obtain ⟨r21, σ22, eσ22, hs⟩ := sp_bind hs
    refine sv_goI (σ' := σ22) (r := r21) hW F.2.2.2.1 (sv_runV (C := RX8) F hW (k_X8_opens hB eσ22 H.size) gX8_not_X8_opens rfl ⟨rfl, rfl⟩ 0 (by decide +kernel) (sv_room2 (by omega) (by omega)) (sm_i 0 hB (by decide)) (sm_c0 hB) rfl rfl hl.1 rfl (Nat.le_of_ble_eq_true rfl) dX8_not_19 ⟨Nat.zero_le _, Nat.zero_le _⟩) (fun H locs hW => ?_)
    refine lv_if_ne (tgt := 27) hx hb dX8_not_22 (by decide) (fun c23 => ?_) (fun c23 => ?_)
    · replace hs := (sp_ite hs).2 c23
      refine lv_aload_n hx hb dX8_not_27 rfl (lv_at hl 0 rfl) ?_
      obtain ⟨r24, σ25, eσ25, hs⟩ := sp_bind hs
      refine sv_goI (σ' := σ25) (r := r24) hW F.2.2.2.1 (sv_runV (C := RX8) F hW (hG2 _ _ _ eσ25 H.size) gX8_not_X8_not rfl ⟨rfl, rfl⟩ 0 (by decide +kernel) (sv_room2 (by omega) (by omega)) (sm_i 0 hB (by decide)) (sm_c0 hB) rfl rfl hl.1 rfl (Nat.le_of_ble_eq_true rfl) dX8_not_28 ⟨Nat.zero_le _, Nat.zero_le _⟩) (fun H locs hW => ?_)
      refine lv_istore_n (lv' := [(1, .int r24), (0, .ref (h 0))]) hx hb dX8_not_31 rfl hl (by decide) rfl (fun ls hl => ?_)
      refine lv_aload_n hx hb dX8_not_32 rfl (lv_at hl 1 rfl) ?_
      refine lv_dup hx hb dX8_not_33 rfl ?_
      refine sv_get (own := RX8) (C := RX8) (Tf := TX8) (N := 44) (index := 157) (κ := (0, 0)) (v := .int (σ25.1 0 24)) hx hb hts hown hK hW (fun _ h => List.mem_cons_of_mem _ (List.mem_append_right _ h)) (sm_i 0 hB (by decide)) (sm_c0 hB) rfl 24 (by decide) rfl rfl (List.mem_of_getElem? (i := 1) rfl) dX8_not_34 ?_
      refine lv_iconst (v := 1) hx hb dX8_not_37 (by decide) ?_
      refine lv_isub hx hb dX8_not_38 ?_
      refine sv_putI (own := RX8) (C := RX8) (Tf := TX8) (N := 44) (index := 157) hx hb hts hown hK hW (fun _ h => List.mem_cons_of_mem _ (List.mem_append_right _ h)) tyX8 tyX8_ok nmX8 (sm_i 0 hB (by decide)) (sm_c0 hB) rfl 24 (by decide) rfl rfl (ty := .int) (by decide +kernel) rfl rfl (List.mem_of_getElem? (i := 1) rfl) dX8_not_39 (fun σ26 H locs eσ26 hW => ?_)
      replace hs := sp_let hs eσ26
      refine lv_iload_n hx hb dX8_not_42 rfl (lv_at hl 0 rfl) ?_
      refine lv_if_ne (tgt := 50) hx hb dX8_not_43 (by decide) (fun c27 => ?_) (fun c27 => ?_)
      · replace hs := (sp_ite hs).2 c27
        refine lv_iconst (v := 0) hx hb dX8_not_50 (by decide) ?_
        cases hs
        exact sv_iret hx hb hr rfl hlk hW dX8_not_51
      · replace hs := (sp_ite hs).1 c27
        refine lv_iconst (v := 1) hx hb dX8_not_46 (by decide) ?_
        refine lv_goto (tgt := 51) hx hb dX8_not_47 (by decide) ?_
        cases hs
        exact sv_iret hx hb hr rfl hlk hW dX8_not_51
    · replace hs := (sp_ite hs).1 c23
      refine lv_iconst (v := 0) hx hb dX8_not_25 (by decide) ?_
      cases hs
      exact sv_iret hx hb hr rfl hlk hW dX8_not_26
set_option maxRecDepth 100000 in
set_option maxHeartbeats 4000000 in
theorem b_X8_both_5 {p : Program} {l : Launch} {e : Env} {s : State} {m : MethodId} {args : Array Value} {below : List Frame} {meth : Method} {c : Code} {D : va_G} {T : Nat → ClassId} {A : Nat → Prop} {h : Nat → Nat} {θ : sv_T}  {r : Int32} {σ' : sv_S} (hB : sm_base θ) (G : Nat → sv_T → sv_S → Option (Int32 × sv_S)) (fr lr : Nat) (hf : 20 ≤ fr) (hlr : 800 ≤ lr) (hG0 : ∀  (σ : sv_S) (r : Int32) (σ1 : sv_S), G 0 θ σ = some (r, σ1) → sv_Mi sm_X l D T (sm_tys T) h θ yX8_either wsX8_either (sv_rm fr lr) [.ref (h 0)] σ r σ1) (hG1 : ∀  (σ : sv_S) (r : Int32) (σ1 : sv_S), G 1 θ σ = some (r, σ1) → sv_Mi sm_X l D T (sm_tys T) h θ yX8_both wsX8_both (sv_rm fr lr) [.ref (h 0)] σ r σ1) (hG2 : ∀  (σ : sv_S) (r : Int32) (σ1 : sv_S), G 2 θ σ = some (r, σ1) → sv_Mi sm_X l D T (sm_tys T) h θ yX8_not wsX8_not (sv_rm fr lr) [.ref (h 0)] σ r σ1) (hG3 : ∀  (σ : sv_S) (r : Int32) (σ1 : sv_S), G 3 θ σ = some (r, σ1) → sv_Mi sm_X l D T (sm_tys T) h θ yX8_added wsX8_added (sv_rm fr lr) [.ref (h 0)] σ r σ1) (hG4 : ∀  (σ : sv_S) (r : Int32) (σ1 : sv_S), G 4 θ σ = some (r, σ1) → sv_Mi sm_X l D T (sm_tys T) h θ yX8_term wsX8_term (sv_rm fr lr) [.ref (h 0)] σ r σ1) (hG5 : ∀  (σ : sv_S) (r : Int32) (σ1 : sv_S), G 5 θ σ = some (r, σ1) → sv_Mi sm_X l D T (sm_tys T) h θ yX8_atom wsX8_atom (sv_rm fr lr) [.ref (h 0)] σ r σ1)  (F : sv_F sm_X p m c cX8_both 3 s args wsX8_both RX8 D (sm_tys T) A) (hr : meth.sig.returnType = (some .int)) (hlk : meth.locks = false)  : ∀ (n : Nat), ∀ (x1 : Int32) (σ : sv_S) (H : Heap) (locs : List Loc) (ls : Array Slot), lv_has ls 3 [(0, .ref (h 0)), (1, .int x1)] → sv_W D T A s h θ σ H locs → q_X8_both_B5 θ G  n x1 σ = some (r, σ') → W p l e (sv_rm (fr + 1) (lr + 40)) s m args below meth c H locs 0 0 (MQ below (va_Qi (fun r2 (_ : Unit) => r2 = r) (fun _ t => va_P D vwCl (sv_ws T h θ σ') t.heap) A) args s 0 0 A) (F0 m 5 ls []) := by
  have hx := F.1.1
  have hb := F.1.2.1
  have hts := F.1.2.2.2.2
  have hown := F.1.2.2.2.1
  have hK := F.2.1
  intro n
  induction n with
  | zero =>
    intro x1 σ H locs ls hl hW hs
    have hs : (none : Option (Int32 × sv_S)) = some (r, σ') := hs
    cases hs
  | succ n ih =>
    intro x1 σ H locs ls hl hW hs
    have hs : q_X8_both_B5_b θ G  (q_X8_both_B5 θ G  n) x1 σ = some (r, σ') := hs
    unfold q_X8_both_B5_b at hs
    refine lv_aload_n hx hb dX8_both_5 rfl (lv_at hl 0 rfl) ?_
    refine lv_bipush (v := 97) hx hb dX8_both_6 (by decide) ?_
    refine lv_bipush (v := 110) hx hb dX8_both_8 (by decide) ?_
    refine lv_bipush (v := 100) hx hb dX8_both_10 (by decide) ?_
    refine lv_iconst (v := 0) hx hb dX8_both_12 (by decide) ?_
    refine lv_iconst (v := 0) hx hb dX8_both_13 (by decide) ?_
    refine lv_iconst (v := 0) hx hb dX8_both_14 (by decide) ?_
    refine lv_iconst (v := 0) hx hb dX8_both_15 (by decide) ?_
    refine lv_iconst (v := 0) hx hb dX8_both_16 (by decide) ?_
    obtain ⟨r3, σ4, eσ4, hs⟩ := sp_bind hs
    refine sv_goI (σ' := σ4) (r := r3) hW F.2.2.2.1 (sv_runV (C := RX8) F hW (k_X8_isWord hB eσ4 H.size) gX8_both_X8_isWord rfl ⟨rfl, rfl⟩ 8 (by decide +kernel) (sv_room2 (by omega) (by omega)) (sm_i 0 hB (by decide)) (sm_c0 hB) rfl rfl hl.1 rfl (Nat.le_of_ble_eq_true rfl) dX8_both_17 ⟨Nat.zero_le _, Nat.zero_le _⟩) (fun H locs hW => ?_)
    refine lv_if_eq (tgt := 49) hx hb dX8_both_20 (by decide) (fun c5 => ?_) (fun c5 => ?_)
    · replace hs := (sp_ite hs).1 c5
      refine lv_iload_n hx hb dX8_both_49 rfl (lv_at hl 1 rfl) ?_
      cases hs
      exact sv_iret hx hb hr rfl hlk hW dX8_both_50
    · replace hs := (sp_ite hs).2 c5
      refine lv_aload_n hx hb dX8_both_23 rfl (lv_at hl 0 rfl) ?_
      obtain ⟨r6, σ7, eσ7, hs⟩ := sp_bind hs
      refine sv_goV (σ' := σ7) (r := r6) hW F.2.2.2.1 (sv_runV (C := RX8) F hW (k_X8_next hB eσ7 H.size) gX8_both_X8_next rfl ⟨rfl, rfl⟩ 0 (by decide +kernel) (sv_room2 (by omega) (by omega)) (sm_i 0 hB (by decide)) (sm_c0 hB) rfl rfl hl.1 rfl (Nat.le_of_ble_eq_true rfl) dX8_both_24 ⟨Nat.zero_le _, Nat.zero_le _⟩) (fun H locs hW => ?_)
      refine lv_aload_n hx hb dX8_both_27 rfl (lv_at hl 0 rfl) ?_
      obtain ⟨r8, σ9, eσ9, hs⟩ := sp_bind hs
      refine sv_goI (σ' := σ9) (r := r8) hW F.2.2.2.1 (sv_runV (C := RX8) F hW (hG2 _ _ _ eσ9 H.size) gX8_both_X8_not rfl ⟨rfl, rfl⟩ 0 (by decide +kernel) (sv_room2 (by omega) (by omega)) (sm_i 0 hB (by decide)) (sm_c0 hB) rfl rfl hl.1 rfl (Nat.le_of_ble_eq_true rfl) dX8_both_28 ⟨Nat.zero_le _, Nat.zero_le _⟩) (fun H locs hW => ?_)
      refine lv_istore_n (lv' := [(2, .int r8), (0, .ref (h 0)), (1, .int x1)]) hx hb dX8_both_31 rfl hl (by decide) rfl (fun ls hl => ?_)
      refine lv_iload_n hx hb dX8_both_32 rfl (lv_at hl 2 rfl) ?_
      refine lv_if_eq (tgt := 44) hx hb dX8_both_33 (by decide) (fun c10 => ?_) (fun c10 => ?_)
      · replace hs := (sp_ite hs).1 c10
        refine lv_iconst (v := 0) hx hb dX8_both_44 (by decide) ?_
        refine lv_istore_n (lv' := [(1, .int (0 : Int32)), (2, .int r8), (0, .ref (h 0))]) hx hb dX8_both_45 rfl hl (by decide) rfl (fun ls hl => ?_)
        refine lv_goto (tgt := 5) hx hb dX8_both_46 (by decide) ?_
        exact ih (0 : Int32) σ9 H locs ls (lv_sub hl [2, 0] rfl) hW hs
      · replace hs := (sp_ite hs).2 c10
        refine lv_iload_n hx hb dX8_both_36 rfl (lv_at hl 0 rfl) ?_
        refine lv_if_eq (tgt := 44) hx hb dX8_both_37 (by decide) (fun c11 => ?_) (fun c11 => ?_)
        · replace hs := (sp_ite hs).1 c11
          refine lv_iconst (v := 0) hx hb dX8_both_44 (by decide) ?_
          refine lv_istore_n (lv' := [(1, .int (0 : Int32)), (2, .int r8), (0, .ref (h 0))]) hx hb dX8_both_45 rfl hl (by decide) rfl (fun ls hl => ?_)
          refine lv_goto (tgt := 5) hx hb dX8_both_46 (by decide) ?_
          exact ih (0 : Int32) σ9 H locs ls (lv_sub hl [2, 0] rfl) hW hs
        · replace hs := (sp_ite hs).2 c11
          refine lv_iconst (v := 1) hx hb dX8_both_40 (by decide) ?_
          refine lv_goto (tgt := 45) hx hb dX8_both_41 (by decide) ?_
          refine lv_istore_n (lv' := [(1, .int (1 : Int32)), (2, .int r8), (0, .ref (h 0))]) hx hb dX8_both_45 rfl hl (by decide) rfl (fun ls hl => ?_)
          refine lv_goto (tgt := 5) hx hb dX8_both_46 (by decide) ?_
          exact ih (1 : Int32) σ9 H locs ls (lv_sub hl [2, 0] rfl) hW hs
set_option maxRecDepth 100000 in
set_option maxHeartbeats 4000000 in
theorem k_X8_both_b {l : Launch} {D : va_G} {T : Nat → ClassId} {h : Nat → Nat} {θ : sv_T}  {σ : sv_S} {r : Int32} {σ' : sv_S} (hB : sm_base θ) (G : Nat → sv_T → sv_S → Option (Int32 × sv_S)) (fr lr : Nat) (hf : 20 ≤ fr) (hlr : 800 ≤ lr) (hG0 : ∀  (σ : sv_S) (r : Int32) (σ1 : sv_S), G 0 θ σ = some (r, σ1) → sv_Mi sm_X l D T (sm_tys T) h θ yX8_either wsX8_either (sv_rm fr lr) [.ref (h 0)] σ r σ1) (hG1 : ∀  (σ : sv_S) (r : Int32) (σ1 : sv_S), G 1 θ σ = some (r, σ1) → sv_Mi sm_X l D T (sm_tys T) h θ yX8_both wsX8_both (sv_rm fr lr) [.ref (h 0)] σ r σ1) (hG2 : ∀  (σ : sv_S) (r : Int32) (σ1 : sv_S), G 2 θ σ = some (r, σ1) → sv_Mi sm_X l D T (sm_tys T) h θ yX8_not wsX8_not (sv_rm fr lr) [.ref (h 0)] σ r σ1) (hG3 : ∀  (σ : sv_S) (r : Int32) (σ1 : sv_S), G 3 θ σ = some (r, σ1) → sv_Mi sm_X l D T (sm_tys T) h θ yX8_added wsX8_added (sv_rm fr lr) [.ref (h 0)] σ r σ1) (hG4 : ∀  (σ : sv_S) (r : Int32) (σ1 : sv_S), G 4 θ σ = some (r, σ1) → sv_Mi sm_X l D T (sm_tys T) h θ yX8_term wsX8_term (sv_rm fr lr) [.ref (h 0)] σ r σ1) (hG5 : ∀  (σ : sv_S) (r : Int32) (σ1 : sv_S), G 5 θ σ = some (r, σ1) → sv_Mi sm_X l D T (sm_tys T) h θ yX8_atom wsX8_atom (sv_rm fr lr) [.ref (h 0)] σ r σ1)  (hs : q_X8_both_b θ G  σ = some (r, σ')) : sv_Mi sm_X l D T (sm_tys T) h θ yX8_both wsX8_both (sv_rm (fr + 1) (lr + 40)) [.ref (h 0)] σ r σ' := by
  intro sz
  refine sv_enter (cc := cX8_both) (maxL := 3) (ret := (some .int)) (Qc := fun A => va_Qi (fun r2 (_ : Unit) => r2 = r) (fun _ t => va_P D vwCl (sv_ws T h θ σ') t.heap) A) sm_XP (by decide) rfl (Nat.le_of_ble_eq_true rfl) ?_
  intro p e s m args below meth c A F hr hlk ls H hl hW
  have hx := F.1.1
  have hb := F.1.2.1
  have hts := F.1.2.2.2.2
  have hown := F.1.2.2.2.1
  have hK := F.2.1
  obtain ⟨locs, hlocs⟩ : ∃ z : List Loc, z = [] := ⟨_, rfl⟩
  rw [← hlocs] at hW ⊢
  have hl : lv_has ls 3 [(0, .ref (h 0))] := hl
  unfold q_X8_both_b at hs
  refine lv_aload_n hx hb dX8_both_0 rfl (lv_at hl 0 rfl) ?_
  obtain ⟨r1, σ2, eσ2, hs⟩ := sp_bind hs
  refine sv_goI (σ' := σ2) (r := r1) hW F.2.2.2.1 (sv_runV (C := RX8) F hW (hG2 _ _ _ eσ2 H.size) gX8_both_X8_not rfl ⟨rfl, rfl⟩ 0 (by decide +kernel) (sv_room2 (by omega) (by omega)) (sm_i 0 hB (by decide)) (sm_c0 hB) rfl rfl hl.1 rfl (Nat.le_of_ble_eq_true rfl) dX8_both_1 ⟨Nat.zero_le _, Nat.zero_le _⟩) (fun H locs hW => ?_)
  refine lv_istore_n (lv' := [(1, .int r1), (0, .ref (h 0))]) hx hb dX8_both_4 rfl hl (by decide) rfl (fun ls hl => ?_)
  exact b_X8_both_5 hB G fr lr hf hlr hG0 hG1 hG2 hG3 hG4 hG5 F hr hlk sv_N r1 σ2 H locs ls (lv_sub hl [1, 0] rfl) hW hs
set_option maxRecDepth 100000 in
set_option maxHeartbeats 4000000 in
theorem b_X8_either_5 {p : Program} {l : Launch} {e : Env} {s : State} {m : MethodId} {args : Array Value} {below : List Frame} {meth : Method} {c : Code} {D : va_G} {T : Nat → ClassId} {A : Nat → Prop} {h : Nat → Nat} {θ : sv_T}  {r : Int32} {σ' : sv_S} (hB : sm_base θ) (G : Nat → sv_T → sv_S → Option (Int32 × sv_S)) (fr lr : Nat) (hf : 20 ≤ fr) (hlr : 800 ≤ lr) (hG0 : ∀  (σ : sv_S) (r : Int32) (σ1 : sv_S), G 0 θ σ = some (r, σ1) → sv_Mi sm_X l D T (sm_tys T) h θ yX8_either wsX8_either (sv_rm fr lr) [.ref (h 0)] σ r σ1) (hG1 : ∀  (σ : sv_S) (r : Int32) (σ1 : sv_S), G 1 θ σ = some (r, σ1) → sv_Mi sm_X l D T (sm_tys T) h θ yX8_both wsX8_both (sv_rm fr lr) [.ref (h 0)] σ r σ1) (hG2 : ∀  (σ : sv_S) (r : Int32) (σ1 : sv_S), G 2 θ σ = some (r, σ1) → sv_Mi sm_X l D T (sm_tys T) h θ yX8_not wsX8_not (sv_rm fr lr) [.ref (h 0)] σ r σ1) (hG3 : ∀  (σ : sv_S) (r : Int32) (σ1 : sv_S), G 3 θ σ = some (r, σ1) → sv_Mi sm_X l D T (sm_tys T) h θ yX8_added wsX8_added (sv_rm fr lr) [.ref (h 0)] σ r σ1) (hG4 : ∀  (σ : sv_S) (r : Int32) (σ1 : sv_S), G 4 θ σ = some (r, σ1) → sv_Mi sm_X l D T (sm_tys T) h θ yX8_term wsX8_term (sv_rm fr lr) [.ref (h 0)] σ r σ1) (hG5 : ∀  (σ : sv_S) (r : Int32) (σ1 : sv_S), G 5 θ σ = some (r, σ1) → sv_Mi sm_X l D T (sm_tys T) h θ yX8_atom wsX8_atom (sv_rm fr lr) [.ref (h 0)] σ r σ1)  (F : sv_F sm_X p m c cX8_either 3 s args wsX8_either RX8 D (sm_tys T) A) (hr : meth.sig.returnType = (some .int)) (hlk : meth.locks = false)  : ∀ (n : Nat), ∀ (x1 : Int32) (σ : sv_S) (H : Heap) (locs : List Loc) (ls : Array Slot), lv_has ls 3 [(0, .ref (h 0)), (1, .int x1)] → sv_W D T A s h θ σ H locs → q_X8_either_B5 θ G  n x1 σ = some (r, σ') → W p l e (sv_rm (fr + 1) (lr + 40)) s m args below meth c H locs 0 0 (MQ below (va_Qi (fun r2 (_ : Unit) => r2 = r) (fun _ t => va_P D vwCl (sv_ws T h θ σ') t.heap) A) args s 0 0 A) (F0 m 5 ls []) := by
  have hx := F.1.1
  have hb := F.1.2.1
  have hts := F.1.2.2.2.2
  have hown := F.1.2.2.2.1
  have hK := F.2.1
  intro n
  induction n with
  | zero =>
    intro x1 σ H locs ls hl hW hs
    have hs : (none : Option (Int32 × sv_S)) = some (r, σ') := hs
    cases hs
  | succ n ih =>
    intro x1 σ H locs ls hl hW hs
    have hs : q_X8_either_B5_b θ G  (q_X8_either_B5 θ G  n) x1 σ = some (r, σ') := hs
    unfold q_X8_either_B5_b at hs
    refine lv_aload_n hx hb dX8_either_5 rfl (lv_at hl 0 rfl) ?_
    refine lv_bipush (v := 111) hx hb dX8_either_6 (by decide) ?_
    refine lv_bipush (v := 114) hx hb dX8_either_8 (by decide) ?_
    refine lv_iconst (v := 0) hx hb dX8_either_10 (by decide) ?_
    refine lv_iconst (v := 0) hx hb dX8_either_11 (by decide) ?_
    refine lv_iconst (v := 0) hx hb dX8_either_12 (by decide) ?_
    refine lv_iconst (v := 0) hx hb dX8_either_13 (by decide) ?_
    refine lv_iconst (v := 0) hx hb dX8_either_14 (by decide) ?_
    refine lv_iconst (v := 0) hx hb dX8_either_15 (by decide) ?_
    obtain ⟨r3, σ4, eσ4, hs⟩ := sp_bind hs
    refine sv_goI (σ' := σ4) (r := r3) hW F.2.2.2.1 (sv_runV (C := RX8) F hW (k_X8_isWord hB eσ4 H.size) gX8_either_X8_isWord rfl ⟨rfl, rfl⟩ 8 (by decide +kernel) (sv_room2 (by omega) (by omega)) (sm_i 0 hB (by decide)) (sm_c0 hB) rfl rfl hl.1 rfl (Nat.le_of_ble_eq_true rfl) dX8_either_16 ⟨Nat.zero_le _, Nat.zero_le _⟩) (fun H locs hW => ?_)
    refine lv_if_eq (tgt := 48) hx hb dX8_either_19 (by decide) (fun c5 => ?_) (fun c5 => ?_)
    · replace hs := (sp_ite hs).1 c5
      refine lv_iload_n hx hb dX8_either_48 rfl (lv_at hl 1 rfl) ?_
      cases hs
      exact sv_iret hx hb hr rfl hlk hW dX8_either_49
    · replace hs := (sp_ite hs).2 c5
      refine lv_aload_n hx hb dX8_either_22 rfl (lv_at hl 0 rfl) ?_
      obtain ⟨r6, σ7, eσ7, hs⟩ := sp_bind hs
      refine sv_goV (σ' := σ7) (r := r6) hW F.2.2.2.1 (sv_runV (C := RX8) F hW (k_X8_next hB eσ7 H.size) gX8_either_X8_next rfl ⟨rfl, rfl⟩ 0 (by decide +kernel) (sv_room2 (by omega) (by omega)) (sm_i 0 hB (by decide)) (sm_c0 hB) rfl rfl hl.1 rfl (Nat.le_of_ble_eq_true rfl) dX8_either_23 ⟨Nat.zero_le _, Nat.zero_le _⟩) (fun H locs hW => ?_)
      refine lv_aload_n hx hb dX8_either_26 rfl (lv_at hl 0 rfl) ?_
      obtain ⟨r8, σ9, eσ9, hs⟩ := sp_bind hs
      refine sv_goI (σ' := σ9) (r := r8) hW F.2.2.2.1 (sv_runV (C := RX8) F hW (hG1 _ _ _ eσ9 H.size) gX8_either_X8_both rfl ⟨rfl, rfl⟩ 0 (by decide +kernel) (sv_room2 (by omega) (by omega)) (sm_i 0 hB (by decide)) (sm_c0 hB) rfl rfl hl.1 rfl (Nat.le_of_ble_eq_true rfl) dX8_either_27 ⟨Nat.zero_le _, Nat.zero_le _⟩) (fun H locs hW => ?_)
      refine lv_istore_n (lv' := [(2, .int r8), (0, .ref (h 0)), (1, .int x1)]) hx hb dX8_either_30 rfl hl (by decide) rfl (fun ls hl => ?_)
      refine lv_iload_n hx hb dX8_either_31 rfl (lv_at hl 2 rfl) ?_
      refine lv_if_ne (tgt := 39) hx hb dX8_either_32 (by decide) (fun c10 => ?_) (fun c10 => ?_)
      · replace hs := (sp_ite hs).2 c10
        refine lv_iconst (v := 1) hx hb dX8_either_39 (by decide) ?_
        refine lv_goto (tgt := 44) hx hb dX8_either_40 (by decide) ?_
        refine lv_istore_n (lv' := [(1, .int (1 : Int32)), (2, .int r8), (0, .ref (h 0))]) hx hb dX8_either_44 rfl hl (by decide) rfl (fun ls hl => ?_)
        refine lv_goto (tgt := 5) hx hb dX8_either_45 (by decide) ?_
        exact ih (1 : Int32) σ9 H locs ls (lv_sub hl [2, 0] rfl) hW hs
      · replace hs := (sp_ite hs).1 c10
        refine lv_iload_n hx hb dX8_either_35 rfl (lv_at hl 0 rfl) ?_
        refine lv_if_eq (tgt := 43) hx hb dX8_either_36 (by decide) (fun c11 => ?_) (fun c11 => ?_)
        · replace hs := (sp_ite hs).1 c11
          refine lv_iconst (v := 0) hx hb dX8_either_43 (by decide) ?_
          refine lv_istore_n (lv' := [(1, .int (0 : Int32)), (2, .int r8), (0, .ref (h 0))]) hx hb dX8_either_44 rfl hl (by decide) rfl (fun ls hl => ?_)
          refine lv_goto (tgt := 5) hx hb dX8_either_45 (by decide) ?_
          exact ih (0 : Int32) σ9 H locs ls (lv_sub hl [2, 0] rfl) hW hs
        · replace hs := (sp_ite hs).2 c11
          refine lv_iconst (v := 1) hx hb dX8_either_39 (by decide) ?_
          refine lv_goto (tgt := 44) hx hb dX8_either_40 (by decide) ?_
          refine lv_istore_n (lv' := [(1, .int (1 : Int32)), (2, .int r8), (0, .ref (h 0))]) hx hb dX8_either_44 rfl hl (by decide) rfl (fun ls hl => ?_)
          refine lv_goto (tgt := 5) hx hb dX8_either_45 (by decide) ?_
          exact ih (1 : Int32) σ9 H locs ls (lv_sub hl [2, 0] rfl) hW hs
set_option maxRecDepth 100000 in
set_option maxHeartbeats 4000000 in
theorem k_X8_either_b {l : Launch} {D : va_G} {T : Nat → ClassId} {h : Nat → Nat} {θ : sv_T}  {σ : sv_S} {r : Int32} {σ' : sv_S} (hB : sm_base θ) (G : Nat → sv_T → sv_S → Option (Int32 × sv_S)) (fr lr : Nat) (hf : 20 ≤ fr) (hlr : 800 ≤ lr) (hG0 : ∀  (σ : sv_S) (r : Int32) (σ1 : sv_S), G 0 θ σ = some (r, σ1) → sv_Mi sm_X l D T (sm_tys T) h θ yX8_either wsX8_either (sv_rm fr lr) [.ref (h 0)] σ r σ1) (hG1 : ∀  (σ : sv_S) (r : Int32) (σ1 : sv_S), G 1 θ σ = some (r, σ1) → sv_Mi sm_X l D T (sm_tys T) h θ yX8_both wsX8_both (sv_rm fr lr) [.ref (h 0)] σ r σ1) (hG2 : ∀  (σ : sv_S) (r : Int32) (σ1 : sv_S), G 2 θ σ = some (r, σ1) → sv_Mi sm_X l D T (sm_tys T) h θ yX8_not wsX8_not (sv_rm fr lr) [.ref (h 0)] σ r σ1) (hG3 : ∀  (σ : sv_S) (r : Int32) (σ1 : sv_S), G 3 θ σ = some (r, σ1) → sv_Mi sm_X l D T (sm_tys T) h θ yX8_added wsX8_added (sv_rm fr lr) [.ref (h 0)] σ r σ1) (hG4 : ∀  (σ : sv_S) (r : Int32) (σ1 : sv_S), G 4 θ σ = some (r, σ1) → sv_Mi sm_X l D T (sm_tys T) h θ yX8_term wsX8_term (sv_rm fr lr) [.ref (h 0)] σ r σ1) (hG5 : ∀  (σ : sv_S) (r : Int32) (σ1 : sv_S), G 5 θ σ = some (r, σ1) → sv_Mi sm_X l D T (sm_tys T) h θ yX8_atom wsX8_atom (sv_rm fr lr) [.ref (h 0)] σ r σ1)  (hs : q_X8_either_b θ G  σ = some (r, σ')) : sv_Mi sm_X l D T (sm_tys T) h θ yX8_either wsX8_either (sv_rm (fr + 1) (lr + 40)) [.ref (h 0)] σ r σ' := by
  intro sz
  refine sv_enter (cc := cX8_either) (maxL := 3) (ret := (some .int)) (Qc := fun A => va_Qi (fun r2 (_ : Unit) => r2 = r) (fun _ t => va_P D vwCl (sv_ws T h θ σ') t.heap) A) sm_XP (by decide) rfl (Nat.le_of_ble_eq_true rfl) ?_
  intro p e s m args below meth c A F hr hlk ls H hl hW
  have hx := F.1.1
  have hb := F.1.2.1
  have hts := F.1.2.2.2.2
  have hown := F.1.2.2.2.1
  have hK := F.2.1
  obtain ⟨locs, hlocs⟩ : ∃ z : List Loc, z = [] := ⟨_, rfl⟩
  rw [← hlocs] at hW ⊢
  have hl : lv_has ls 3 [(0, .ref (h 0))] := hl
  unfold q_X8_either_b at hs
  refine lv_aload_n hx hb dX8_either_0 rfl (lv_at hl 0 rfl) ?_
  obtain ⟨r1, σ2, eσ2, hs⟩ := sp_bind hs
  refine sv_goI (σ' := σ2) (r := r1) hW F.2.2.2.1 (sv_runV (C := RX8) F hW (hG1 _ _ _ eσ2 H.size) gX8_either_X8_both rfl ⟨rfl, rfl⟩ 0 (by decide +kernel) (sv_room2 (by omega) (by omega)) (sm_i 0 hB (by decide)) (sm_c0 hB) rfl rfl hl.1 rfl (Nat.le_of_ble_eq_true rfl) dX8_either_1 ⟨Nat.zero_le _, Nat.zero_le _⟩) (fun H locs hW => ?_)
  refine lv_istore_n (lv' := [(1, .int r1), (0, .ref (h 0))]) hx hb dX8_either_4 rfl hl (by decide) rfl (fun ls hl => ?_)
  exact b_X8_either_5 hB G fr lr hf hlr hG0 hG1 hG2 hG3 hG4 hG5 F hr hlk sv_N r1 σ2 H locs ls (lv_sub hl [1, 0] rfl) hW hs

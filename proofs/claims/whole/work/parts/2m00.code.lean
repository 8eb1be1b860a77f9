set_option maxRecDepth 100000 in
set_option maxHeartbeats 4000000 in
theorem k_X8_in {l : Launch} {D : va_G} {T : Nat → ClassId} {h : Nat → Nat} {θ : sv_T} {l1 : Int64} {l2 : Int64} {l3 : Int64} {σ : sv_S} {r : Int32} {σ' : sv_S} (hB : sm_base θ)  (hs : q_X8_in θ l1 l2 l3 σ = some (r, σ')) : sv_Mi sm_X l D T (sm_tys T) h θ yX8_in wsX8_in (sv_rm 0 0) [.long l1, .long l2, .long l3] σ r σ' := by
  intro sz
  refine sv_enter (cc := cX8_in) (maxL := 6) (ret := (some .boolean)) (Qc := fun A => va_Qi (fun r2 (_ : Unit) => r2 = r) (fun _ t => va_P D vwCl (sv_ws T h θ σ') t.heap) A) sm_XP (by decide) rfl (Nat.le_of_ble_eq_true rfl) ?_
  intro p e s m args below meth c A F hr hlk ls H hl hW
  have hx := F.1.1
  have hb := F.1.2.1
  have hts := F.1.2.2.2.2
  have hown := F.1.2.2.2.1
  have hK := F.2.1
  obtain ⟨locs, hlocs⟩ : ∃ z : List Loc, z = [] := ⟨_, rfl⟩
  rw [← hlocs] at hW ⊢
  have hl : lv_has ls 6 [(0, .long l1), (2, .long l2), (4, .long l3)] := hl
  unfold q_X8_in at hs
  refine lv_lload_n hx hb dX8_in_0 rfl (lv_at hl 0 rfl) ?_
  refine lv_lload_n hx hb dX8_in_1 rfl (lv_at hl 1 rfl) ?_
  refine W.lcmp hx hb dX8_in_2 ?_
  refine lv_if_lt (tgt := 17) hx hb dX8_in_3 (by decide) (fun c1 => ?_) (fun c1 => ?_)
  · replace hs := (sp_ite hs).1 c1
    refine lv_iconst (v := 0) hx hb dX8_in_17 (by decide) ?_
    cases hs
    exact sv_iret hx hb hr rfl hlk hW dX8_in_18
  · replace hs := (sp_ite hs).2 c1
    refine lv_lload_n hx hb dX8_in_6 rfl (lv_at hl 0 rfl) ?_
    refine lv_lload hx hb dX8_in_7 (lv_at hl 2 rfl) ?_
    refine W.lcmp hx hb dX8_in_9 ?_
    refine lv_if_gt (tgt := 17) hx hb dX8_in_10 (by decide) (fun c2 => ?_) (fun c2 => ?_)
    · replace hs := (sp_ite hs).1 c2
      refine lv_iconst (v := 0) hx hb dX8_in_17 (by decide) ?_
      cases hs
      exact sv_iret hx hb hr rfl hlk hW dX8_in_18
    · replace hs := (sp_ite hs).2 c2
      refine lv_iconst (v := 1) hx hb dX8_in_13 (by decide) ?_
      refine lv_goto (tgt := 18) hx hb dX8_in_14 (by decide) ?_
      cases hs
      exact sv_iret hx hb hr rfl hlk hW dX8_in_18
set_option maxRecDepth 100000 in
set_option maxHeartbeats 4000000 in
theorem k_X8_within {l : Launch} {D : va_G} {T : Nat → ClassId} {h : Nat → Nat} {θ : sv_T} {a1 : Int32} {a2 : Int32} {a3 : Int32} {σ : sv_S} {r : Int32} {σ' : sv_S} (hB : sm_base θ)  (hs : q_X8_within θ a1 a2 a3 σ = some (r, σ')) : sv_Mi sm_X l D T (sm_tys T) h θ yX8_within wsX8_within (sv_rm 0 0) [.int a1, .int a2, .int a3] σ r σ' := by
  intro sz
  refine sv_enter (cc := cX8_within) (maxL := 3) (ret := (some .int)) (Qc := fun A => va_Qi (fun r2 (_ : Unit) => r2 = r) (fun _ t => va_P D vwCl (sv_ws T h θ σ') t.heap) A) sm_XP (by decide) rfl (Nat.le_of_ble_eq_true rfl) ?_
  intro p e s m args below meth c A F hr hlk ls H hl hW
  have hx := F.1.1
  have hb := F.1.2.1
  have hts := F.1.2.2.2.2
  have hown := F.1.2.2.2.1
  have hK := F.2.1
  obtain ⟨locs, hlocs⟩ : ∃ z : List Loc, z = [] := ⟨_, rfl⟩
  rw [← hlocs] at hW ⊢
  have hl : lv_has ls 3 [(0, .int a1), (1, .int a2), (2, .int a3)] := hl
  unfold q_X8_within at hs
  refine lv_iload_n hx hb dX8_within_0 rfl (lv_at hl 0 rfl) ?_
  refine lv_iload_n hx hb dX8_within_1 rfl (lv_at hl 1 rfl) ?_
  refine lv_icmp_ge (tgt := 9) hx hb dX8_within_2 (by decide) (fun c1 => ?_) (fun c1 => ?_)
  · replace hs := (sp_ite hs).1 c1
    refine lv_iload_n hx hb dX8_within_9 rfl (lv_at hl 0 rfl) ?_
    refine lv_iload_n hx hb dX8_within_10 rfl (lv_at hl 2 rfl) ?_
    refine lv_icmp_le (tgt := 18) hx hb dX8_within_11 (by decide) (fun c2 => ?_) (fun c2 => ?_)
    · replace hs := (sp_ite hs).1 c2
      refine lv_iload_n hx hb dX8_within_18 rfl (lv_at hl 0 rfl) ?_
      cases hs
      exact sv_iret hx hb hr rfl hlk hW dX8_within_19
    · replace hs := (sp_ite hs).2 c2
      refine lv_iload_n hx hb dX8_within_14 rfl (lv_at hl 2 rfl) ?_
      refine lv_goto (tgt := 19) hx hb dX8_within_15 (by decide) ?_
      cases hs
      exact sv_iret hx hb hr rfl hlk hW dX8_within_19
  · replace hs := (sp_ite hs).2 c1
    refine lv_iload_n hx hb dX8_within_5 rfl (lv_at hl 1 rfl) ?_
    refine lv_goto (tgt := 19) hx hb dX8_within_6 (by decide) ?_
    cases hs
    exact sv_iret hx hb hr rfl hlk hW dX8_within_19
set_option maxRecDepth 100000 in
set_option maxHeartbeats 4000000 in
theorem k_X8_spell {l : Launch} {D : va_G} {T : Nat → ClassId} {h : Nat → Nat} {θ : sv_T} {a1 : Int32} {a2 : Int32} {a3 : Int32} {a4 : Int32} {a5 : Int32} {a6 : Int32} {a7 : Int32} {a8 : Int32} {a9 : Int32} {σ : sv_S} {r : Unit} {σ' : sv_S} (hB : sm_base θ)  (hs : q_X8_spell θ a1 a2 a3 a4 a5 a6 a7 a8 a9 σ = some (r, σ')) : sv_Mv sm_X l D T (sm_tys T) h θ yX8_spell wsX8_spell (sv_rm 0 0) [.ref (h 0), .int a1, .int a2, .int a3, .int a4, .int a5, .int a6, .int a7, .int a8, .int a9] σ r σ' := by
  intro sz
  refine sv_enter (cc := cX8_spell) (maxL := 10) (ret := none) (Qc := fun A => va_Qv (fun (_ : Unit) => True) (fun _ t => va_P D vwCl (sv_ws T h θ σ') t.heap) A) sm_XP (by decide) rfl (Nat.le_of_ble_eq_true rfl) ?_
  intro p e s m args below meth c A F hr hlk ls H hl hW
  have hx := F.1.1
  have hb := F.1.2.1
  have hts := F.1.2.2.2.2
  have hown := F.1.2.2.2.1
  have hK := F.2.1
  obtain ⟨locs, hlocs⟩ : ∃ z : List Loc, z = [] := ⟨_, rfl⟩
  rw [← hlocs] at hW ⊢
  have hl : lv_has ls 10 [(0, .ref (h 0)), (1, .int a1), (2, .int a2), (3, .int a3), (4, .int a4), (5, .int a5), (6, .int a6), (7, .int a7), (8, .int a8), (9, .int a9)] := hl
  unfold q_X8_spell at hs
  refine lv_aload_n hx hb dX8_spell_0 rfl (lv_at hl 0 rfl) ?_
  refine sv_get (own := RX8) (C := RX8) (Tf := TX8) (N := 44) (index := 13) (κ := (3, 1)) (v := .ref (h 1)) hx hb hts hown hK hW (fun _ h => List.mem_cons_of_mem _ (List.mem_append_right _ h)) (sm_i 0 hB (by decide)) (sm_c0 hB) rfl 1 (by decide) rfl rfl (List.mem_of_getElem? (i := 1) rfl) dX8_spell_1 ?_
  refine lv_iload_n hx hb dX8_spell_4 rfl (lv_at hl 1 rfl) ?_
  refine lv_iload_n hx hb dX8_spell_5 rfl (lv_at hl 2 rfl) ?_
  obtain ⟨hi1, hs⟩ := sp_g hs
  refine sv_iast hx hb hK hW (sm_i 1 hB (by decide)) (sm_c1 hB) 0 rfl hi1 dX8_spell_6 (fun σ2 H locs eσ2 hW => ?_)
  replace hs := sp_let hs eσ2
  refine lv_aload_n hx hb dX8_spell_7 rfl (lv_at hl 0 rfl) ?_
  refine sv_get (own := RX8) (C := RX8) (Tf := TX8) (N := 44) (index := 13) (κ := (3, 1)) (v := .ref (h 1)) hx hb hts hown hK hW (fun _ h => List.mem_cons_of_mem _ (List.mem_append_right _ h)) (sm_i 0 hB (by decide)) (sm_c0 hB) rfl 1 (by decide) rfl rfl (List.mem_of_getElem? (i := 1) rfl) dX8_spell_8 ?_
  refine lv_iload_n hx hb dX8_spell_11 rfl (lv_at hl 1 rfl) ?_
  refine lv_iconst (v := 1) hx hb dX8_spell_12 (by decide) ?_
  refine lv_iadd hx hb dX8_spell_13 ?_
  refine lv_iload_n hx hb dX8_spell_14 rfl (lv_at hl 3 rfl) ?_
  obtain ⟨hi3, hs⟩ := sp_g hs
  refine sv_iast hx hb hK hW (sm_i 1 hB (by decide)) (sm_c1 hB) 0 rfl hi3 dX8_spell_15 (fun σ4 H locs eσ4 hW => ?_)
  replace hs := sp_let hs eσ4
  refine lv_aload_n hx hb dX8_spell_16 rfl (lv_at hl 0 rfl) ?_
  refine sv_get (own := RX8) (C := RX8) (Tf := TX8) (N := 44) (index := 13) (κ := (3, 1)) (v := .ref (h 1)) hx hb hts hown hK hW (fun _ h => List.mem_cons_of_mem _ (List.mem_append_right _ h)) (sm_i 0 hB (by decide)) (sm_c0 hB) rfl 1 (by decide) rfl rfl (List.mem_of_getElem? (i := 1) rfl) dX8_spell_17 ?_
  refine lv_iload_n hx hb dX8_spell_20 rfl (lv_at hl 1 rfl) ?_
  refine lv_iconst (v := 2) hx hb dX8_spell_21 (by decide) ?_
  refine lv_iadd hx hb dX8_spell_22 ?_
  refine lv_iload hx hb dX8_spell_23 (lv_at hl 4 rfl) ?_
  obtain ⟨hi5, hs⟩ := sp_g hs
  refine sv_iast hx hb hK hW (sm_i 1 hB (by decide)) (sm_c1 hB) 0 rfl hi5 dX8_spell_25 (fun σ6 H locs eσ6 hW => ?_)
  replace hs := sp_let hs eσ6
  refine lv_aload_n hx hb dX8_spell_26 rfl (lv_at hl 0 rfl) ?_
  refine sv_get (own := RX8) (C := RX8) (Tf := TX8) (N := 44) (index := 13) (κ := (3, 1)) (v := .ref (h 1)) hx hb hts hown hK hW (fun _ h => List.mem_cons_of_mem _ (List.mem_append_right _ h)) (sm_i 0 hB (by decide)) (sm_c0 hB) rfl 1 (by decide) rfl rfl (List.mem_of_getElem? (i := 1) rfl) dX8_spell_27 ?_
  refine lv_iload_n hx hb dX8_spell_30 rfl (lv_at hl 1 rfl) ?_
  refine lv_iconst (v := 3) hx hb dX8_spell_31 (by decide) ?_
  refine lv_iadd hx hb dX8_spell_32 ?_
  refine lv_iload hx hb dX8_spell_33 (lv_at hl 5 rfl) ?_
  obtain ⟨hi7, hs⟩ := sp_g hs
  refine sv_iast hx hb hK hW (sm_i 1 hB (by decide)) (sm_c1 hB) 0 rfl hi7 dX8_spell_35 (fun σ8 H locs eσ8 hW => ?_)
  replace hs := sp_let hs eσ8
  refine lv_aload_n hx hb dX8_spell_36 rfl (lv_at hl 0 rfl) ?_
  refine sv_get (own := RX8) (C := RX8) (Tf := TX8) (N := 44) (index := 13) (κ := (3, 1)) (v := .ref (h 1)) hx hb hts hown hK hW (fun _ h => List.mem_cons_of_mem _ (List.mem_append_right _ h)) (sm_i 0 hB (by decide)) (sm_c0 hB) rfl 1 (by decide) rfl rfl (List.mem_of_getElem? (i := 1) rfl) dX8_spell_37 ?_
  refine lv_iload_n hx hb dX8_spell_40 rfl (lv_at hl 1 rfl) ?_
  refine lv_iconst (v := 4) hx hb dX8_spell_41 (by decide) ?_
  refine lv_iadd hx hb dX8_spell_42 ?_
  refine lv_iload hx hb dX8_spell_43 (lv_at hl 6 rfl) ?_
  obtain ⟨hi9, hs⟩ := sp_g hs
  refine sv_iast hx hb hK hW (sm_i 1 hB (by decide)) (sm_c1 hB) 0 rfl hi9 dX8_spell_45 (fun σ10 H locs eσ10 hW => ?_)
  replace hs := sp_let hs eσ10
  refine lv_aload_n hx hb dX8_spell_46 rfl (lv_at hl 0 rfl) ?_
  refine sv_get (own := RX8) (C := RX8) (Tf := TX8) (N := 44) (index := 13) (κ := (3, 1)) (v := .ref (h 1)) hx hb hts hown hK hW (fun _ h => List.mem_cons_of_mem _ (List.mem_append_right _ h)) (sm_i 0 hB (by decide)) (sm_c0 hB) rfl 1 (by decide) rfl rfl (List.mem_of_getElem? (i := 1) rfl) dX8_spell_47 ?_
  refine lv_iload_n hx hb dX8_spell_50 rfl (lv_at hl 1 rfl) ?_
  refine lv_iconst (v := 5) hx hb dX8_spell_51 (by decide) ?_
  refine lv_iadd hx hb dX8_spell_52 ?_
  refine lv_iload hx hb dX8_spell_53 (lv_at hl 7 rfl) ?_
  obtain ⟨hi11, hs⟩ := sp_g hs
  refine sv_iast hx hb hK hW (sm_i 1 hB (by decide)) (sm_c1 hB) 0 rfl hi11 dX8_spell_55 (fun σ12 H locs eσ12 hW => ?_)
  replace hs := sp_let hs eσ12
  refine lv_aload_n hx hb dX8_spell_56 rfl (lv_at hl 0 rfl) ?_
  refine sv_get (own := RX8) (C := RX8) (Tf := TX8) (N := 44) (index := 13) (κ := (3, 1)) (v := .ref (h 1)) hx hb hts hown hK hW (fun _ h => List.mem_cons_of_mem _ (List.mem_append_right _ h)) (sm_i 0 hB (by decide)) (sm_c0 hB) rfl 1 (by decide) rfl rfl (List.mem_of_getElem? (i := 1) rfl) dX8_spell_57 ?_
  refine lv_iload_n hx hb dX8_spell_60 rfl (lv_at hl 1 rfl) ?_
  refine lv_bipush (v := 6) hx hb dX8_spell_61 (by decide) ?_
  refine lv_iadd hx hb dX8_spell_63 ?_
  refine lv_iload hx hb dX8_spell_64 (lv_at hl 8 rfl) ?_
  obtain ⟨hi13, hs⟩ := sp_g hs
  refine sv_iast hx hb hK hW (sm_i 1 hB (by decide)) (sm_c1 hB) 0 rfl hi13 dX8_spell_66 (fun σ14 H locs eσ14 hW => ?_)
  replace hs := sp_let hs eσ14
  refine lv_aload_n hx hb dX8_spell_67 rfl (lv_at hl 0 rfl) ?_
  refine sv_get (own := RX8) (C := RX8) (Tf := TX8) (N := 44) (index := 13) (κ := (3, 1)) (v := .ref (h 1)) hx hb hts hown hK hW (fun _ h => List.mem_cons_of_mem _ (List.mem_append_right _ h)) (sm_i 0 hB (by decide)) (sm_c0 hB) rfl 1 (by decide) rfl rfl (List.mem_of_getElem? (i := 1) rfl) dX8_spell_68 ?_
  refine lv_iload_n hx hb dX8_spell_71 rfl (lv_at hl 1 rfl) ?_
  refine lv_bipush (v := 7) hx hb dX8_spell_72 (by decide) ?_
  refine lv_iadd hx hb dX8_spell_74 ?_
  refine lv_iload hx hb dX8_spell_75 (lv_at hl 9 rfl) ?_
  obtain ⟨hi15, hs⟩ := sp_g hs
  refine sv_iast hx hb hK hW (sm_i 1 hB (by decide)) (sm_c1 hB) 0 rfl hi15 dX8_spell_77 (fun σ16 H locs eσ16 hW => ?_)
  replace hs := sp_let hs eσ16
  cases hs
  exact sv_vret hx hb hr hlk hW dX8_spell_78
set_option maxRecDepth 100000 in
set_option maxHeartbeats 4000000 in
theorem k_X8_isOne {l : Launch} {D : va_G} {T : Nat → ClassId} {h : Nat → Nat} {θ : sv_T} {a1 : Int32} {σ : sv_S} {r : Int32} {σ' : sv_S} (hB : sm_base θ)  (hs : q_X8_isOne θ a1 σ = some (r, σ')) : sv_Mi sm_X l D T (sm_tys T) h θ yX8_isOne wsX8_isOne (sv_rm 1 25) [.ref (h 0), .int a1] σ r σ' := by
  intro sz
  refine sv_enter (cc := cX8_isOne) (maxL := 2) (ret := (some .boolean)) (Qc := fun A => va_Qi (fun r2 (_ : Unit) => r2 = r) (fun _ t => va_P D vwCl (sv_ws T h θ σ') t.heap) A) sm_XP (by decide) rfl (Nat.le_of_ble_eq_true rfl) ?_
  intro p e s m args below meth c A F hr hlk ls H hl hW
  have hx := F.1.1
  have hb := F.1.2.1
  have hts := F.1.2.2.2.2
  have hown := F.1.2.2.2.1
  have hK := F.2.1
  obtain ⟨locs, hlocs⟩ : ∃ z : List Loc, z = [] := ⟨_, rfl⟩
  rw [← hlocs] at hW ⊢
  have hl : lv_has ls 2 [(0, .ref (h 0)), (1, .int a1)] := hl
  unfold q_X8_isOne at hs
  refine lv_iload_n hx hb dX8_isOne_0 rfl (lv_at hl 1 rfl) ?_
  refine lv_i2l (v := a1.toInt64) hx hb dX8_isOne_1 rfl ?_
  refine lv_lconst (v := 0) hx hb dX8_isOne_2 (by decide) ?_
  refine lv_aload_n hx hb dX8_isOne_3 rfl (lv_at hl 0 rfl) ?_
  refine sv_get (own := RX8) (C := RX8) (Tf := TX8) (N := 44) (index := 64) (κ := (0, 0)) (v := .int (σ.1 0 11)) hx hb hts hown hK hW (fun _ h => List.mem_cons_of_mem _ (List.mem_append_right _ h)) (sm_i 0 hB (by decide)) (sm_c0 hB) rfl 11 (by decide) rfl rfl (List.mem_of_getElem? (i := 1) rfl) dX8_isOne_4 ?_
  refine lv_iconst (v := 1) hx hb dX8_isOne_7 (by decide) ?_
  refine lv_isub hx hb dX8_isOne_8 ?_
  refine lv_i2l (v := ((σ.1 0 11) - (1 : Int32)).toInt64) hx hb dX8_isOne_9 rfl ?_
  obtain ⟨r1, σ2, eσ2, hs⟩ := sp_bind hs
  refine sv_goI (σ' := σ2) (r := r1) hW F.2.2.2.1 (sv_runT F hW (k_X8_in hB eσ2 H.size) gX8_isOne_X8_in rfl ⟨rfl, rfl⟩ 3 (by decide +kernel) (sv_room2 (by omega) (by omega)) rfl hl.1 rfl (Nat.le_of_ble_eq_true rfl) dX8_isOne_10 ⟨Nat.zero_le _, Nat.zero_le _⟩) (fun H locs hW => ?_)
  obtain ⟨hn3, hs⟩ := sp_p hs
  cases hs
  exact sv_iret hx hb hr (by show Value.int _ = _; rw [hn3]) hlk hW dX8_isOne_13
set_option maxRecDepth 100000 in
set_option maxHeartbeats 4000000 in
theorem k_X8_isHour {l : Launch} {D : va_G} {T : Nat → ClassId} {h : Nat → Nat} {θ : sv_T} {a1 : Int32} {σ : sv_S} {r : Int32} {σ' : sv_S} (hB : sm_base θ)  (hs : q_X8_isHour θ a1 σ = some (r, σ')) : sv_Mi sm_X l D T (sm_tys T) h θ yX8_isHour wsX8_isHour (sv_rm 1 25) [.int a1] σ r σ' := by
  intro sz
  refine sv_enter (cc := cX8_isHour) (maxL := 1) (ret := (some .boolean)) (Qc := fun A => va_Qi (fun r2 (_ : Unit) => r2 = r) (fun _ t => va_P D vwCl (sv_ws T h θ σ') t.heap) A) sm_XP (by decide) rfl (Nat.le_of_ble_eq_true rfl) ?_
  intro p e s m args below meth c A F hr hlk ls H hl hW
  have hx := F.1.1
  have hb := F.1.2.1
  have hts := F.1.2.2.2.2
  have hown := F.1.2.2.2.1
  have hK := F.2.1
  obtain ⟨locs, hlocs⟩ : ∃ z : List Loc, z = [] := ⟨_, rfl⟩
  rw [← hlocs] at hW ⊢
  have hl : lv_has ls 1 [(0, .int a1)] := hl
  unfold q_X8_isHour at hs
  refine lv_iload_n hx hb dX8_isHour_0 rfl (lv_at hl 0 rfl) ?_
  refine lv_i2l (v := a1.toInt64) hx hb dX8_isHour_1 rfl ?_
  refine lv_lconst (v := 0) hx hb dX8_isHour_2 (by decide) ?_
  refine lv_ldc2 (own := RX8) (index := 71) (v := 23) hx hb hown (hts _ (List.mem_of_getElem? (i := 1) rfl)) dX8_isHour_3 ?_
  obtain ⟨r1, σ2, eσ2, hs⟩ := sp_bind hs
  refine sv_goI (σ' := σ2) (r := r1) hW F.2.2.2.1 (sv_runT F hW (k_X8_in hB eσ2 H.size) gX8_isHour_X8_in rfl ⟨rfl, rfl⟩ 3 (by decide +kernel) (sv_room2 (by omega) (by omega)) rfl hl.1 rfl (Nat.le_of_ble_eq_true rfl) dX8_isHour_6 ⟨Nat.zero_le _, Nat.zero_le _⟩) (fun H locs hW => ?_)
  obtain ⟨hn3, hs⟩ := sp_p hs
  cases hs
  exact sv_iret hx hb hr (by show Value.int _ = _; rw [hn3]) hlk hW dX8_isHour_9
set_option maxRecDepth 100000 in
set_option maxHeartbeats 4000000 in
theorem k_X8_placeOf {l : Launch} {D : va_G} {T : Nat → ClassId} {h : Nat → Nat} {θ : sv_T} {a1 : Int32} {σ : sv_S} {r : Int32} {σ' : sv_S} (hB : sm_base θ)  (hs : q_X8_placeOf θ a1 σ = some (r, σ')) : sv_Mi sm_X l D T (sm_tys T) h θ yX8_placeOf wsX8_placeOf (sv_rm 0 0) [.int a1] σ r σ' := by
  intro sz
  refine sv_enter (cc := cX8_placeOf) (maxL := 1) (ret := (some .int)) (Qc := fun A => va_Qi (fun r2 (_ : Unit) => r2 = r) (fun _ t => va_P D vwCl (sv_ws T h θ σ') t.heap) A) sm_XP (by decide) rfl (Nat.le_of_ble_eq_true rfl) ?_
  intro p e s m args below meth c A F hr hlk ls H hl hW
  have hx := F.1.1
  have hb := F.1.2.1
  have hts := F.1.2.2.2.2
  have hown := F.1.2.2.2.1
  have hK := F.2.1
  obtain ⟨locs, hlocs⟩ : ∃ z : List Loc, z = [] := ⟨_, rfl⟩
  rw [← hlocs] at hW ⊢
  have hl : lv_has ls 1 [(0, .int a1)] := hl
  unfold q_X8_placeOf at hs
  refine lv_bipush (v := 24) hx hb dX8_placeOf_0 (by decide) ?_
  refine lv_iload_n hx hb dX8_placeOf_2 rfl (lv_at hl 0 rfl) ?_
  refine lv_bipush (v := 100) hx hb dX8_placeOf_3 (by decide) ?_
  refine lv_idiv hx hb dX8_placeOf_5 (by decide) ?_
  refine lv_imul hx hb dX8_placeOf_6 ?_
  refine lv_iload_n hx hb dX8_placeOf_7 rfl (lv_at hl 0 rfl) ?_
  refine lv_bipush (v := 100) hx hb dX8_placeOf_8 (by decide) ?_
  refine lv_irem hx hb dX8_placeOf_10 (by decide) ?_
  refine lv_iadd hx hb dX8_placeOf_11 ?_
  cases hs
  exact sv_iret hx hb hr rfl hlk hW dX8_placeOf_12
set_option maxRecDepth 100000 in
set_option maxHeartbeats 4000000 in
theorem k_X8_isOf {l : Launch} {D : va_G} {T : Nat → ClassId} {h : Nat → Nat} {θ : sv_T} {a1 : Int32} {a2 : Int32} {σ : sv_S} {r : Int32} {σ' : sv_S} (hB : sm_base θ)  (hs : q_X8_isOf θ a1 a2 σ = some (r, σ')) : sv_Mi sm_X l D T (sm_tys T) h θ yX8_isOf wsX8_isOf (sv_rm 2 46) [.ref (h 0), .int a1, .int a2] σ r σ' := by
  intro sz
  refine sv_enter (cc := cX8_isOf) (maxL := 3) (ret := (some .boolean)) (Qc := fun A => va_Qi (fun r2 (_ : Unit) => r2 = r) (fun _ t => va_P D vwCl (sv_ws T h θ σ') t.heap) A) sm_XP (by decide) rfl (Nat.le_of_ble_eq_true rfl) ?_
  intro p e s m args below meth c A F hr hlk ls H hl hW
  have hx := F.1.1
  have hb := F.1.2.1
  have hts := F.1.2.2.2.2
  have hown := F.1.2.2.2.1
  have hK := F.2.1
  obtain ⟨locs, hlocs⟩ : ∃ z : List Loc, z = [] := ⟨_, rfl⟩
  rw [← hlocs] at hW ⊢
  have hl : lv_has ls 3 [(0, .ref (h 0)), (1, .int a1), (2, .int a2)] := hl
  unfold q_X8_isOf at hs
  refine lv_iload_n hx hb dX8_isOf_0 rfl (lv_at hl 1 rfl) ?_
  refine lv_iconst (v := 1) hx hb dX8_isOf_1 (by decide) ?_
  refine lv_icmp_ne (tgt := 32) hx hb dX8_isOf_2 (by decide) (fun c1 => ?_) (fun c1 => ?_)
  · replace hs := (sp_ite hs).2 c1
    refine lv_iload_n hx hb dX8_isOf_32 rfl (lv_at hl 1 rfl) ?_
    refine lv_if_eq (tgt := 44) hx hb dX8_isOf_33 (by decide) (fun c2 => ?_) (fun c2 => ?_)
    · replace hs := (sp_ite hs).1 c2
      refine lv_iconst (v := 1) hx hb dX8_isOf_44 (by decide) ?_
      refine lv_goto (tgt := 49) hx hb dX8_isOf_45 (by decide) ?_
      cases hs
      exact sv_iret hx hb hr rfl hlk hW dX8_isOf_49
    · replace hs := (sp_ite hs).2 c2
      refine lv_aload_n hx hb dX8_isOf_36 rfl (lv_at hl 0 rfl) ?_
      refine lv_iload_n hx hb dX8_isOf_37 rfl (lv_at hl 2 rfl) ?_
      obtain ⟨r3, σ4, eσ4, hs⟩ := sp_bind hs
      refine sv_goI (σ' := σ4) (r := r3) hW F.2.2.2.1 (sv_runV (C := RX8) F hW (k_X8_isOne hB eσ4 H.size) gX8_isOf_X8_isOne rfl ⟨rfl, rfl⟩ 1 (by decide +kernel) (sv_room2 (by omega) (by omega)) (sm_i 0 hB (by decide)) (sm_c0 hB) rfl rfl hl.1 rfl (Nat.le_of_ble_eq_true rfl) dX8_isOf_38 ⟨Nat.zero_le _, Nat.zero_le _⟩) (fun H locs hW => ?_)
      refine lv_if_eq (tgt := 48) hx hb dX8_isOf_41 (by decide) (fun c5 => ?_) (fun c5 => ?_)
      · replace hs := (sp_ite hs).1 c5
        refine lv_iconst (v := 0) hx hb dX8_isOf_48 (by decide) ?_
        cases hs
        exact sv_iret hx hb hr rfl hlk hW dX8_isOf_49
      · replace hs := (sp_ite hs).2 c5
        refine lv_iconst (v := 1) hx hb dX8_isOf_44 (by decide) ?_
        refine lv_goto (tgt := 49) hx hb dX8_isOf_45 (by decide) ?_
        cases hs
        exact sv_iret hx hb hr rfl hlk hW dX8_isOf_49
  · replace hs := (sp_ite hs).1 c1
    refine lv_iload_n hx hb dX8_isOf_5 rfl (lv_at hl 2 rfl) ?_
    refine lv_i2l (v := a2.toInt64) hx hb dX8_isOf_6 rfl ?_
    refine lv_lconst (v := 0) hx hb dX8_isOf_7 (by decide) ?_
    refine lv_ldc2 (own := RX8) (index := 73) (v := 123) hx hb hown (hts _ (List.mem_of_getElem? (i := 1) rfl)) dX8_isOf_8 ?_
    obtain ⟨r6, σ7, eσ7, hs⟩ := sp_bind hs
    refine sv_goI (σ' := σ7) (r := r6) hW F.2.2.2.1 (sv_runT F hW (k_X8_in hB eσ7 H.size) gX8_isOf_X8_in rfl ⟨rfl, rfl⟩ 3 (by decide +kernel) (sv_room2 (by omega) (by omega)) rfl hl.1 rfl (Nat.le_of_ble_eq_true rfl) dX8_isOf_11 ⟨Nat.zero_le _, Nat.zero_le _⟩) (fun H locs hW => ?_)
    refine lv_if_eq (tgt := 30) hx hb dX8_isOf_14 (by decide) (fun c8 => ?_) (fun c8 => ?_)
    · replace hs := (sp_ite hs).1 c8
      refine lv_iconst (v := 0) hx hb dX8_isOf_30 (by decide) ?_
      cases hs
      exact sv_iret hx hb hr rfl hlk hW dX8_isOf_31
    · replace hs := (sp_ite hs).2 c8
      refine lv_iload_n hx hb dX8_isOf_17 rfl (lv_at hl 2 rfl) ?_
      refine lv_bipush (v := 100) hx hb dX8_isOf_18 (by decide) ?_
      refine lv_irem hx hb dX8_isOf_20 (by decide) ?_
      refine lv_bipush (v := 24) hx hb dX8_isOf_21 (by decide) ?_
      refine lv_icmp_ge (tgt := 30) hx hb dX8_isOf_23 (by decide) (fun c9 => ?_) (fun c9 => ?_)
      · replace hs := (sp_ite hs).1 c9
        refine lv_iconst (v := 0) hx hb dX8_isOf_30 (by decide) ?_
        cases hs
        exact sv_iret hx hb hr rfl hlk hW dX8_isOf_31
      · replace hs := (sp_ite hs).2 c9
        refine lv_iconst (v := 1) hx hb dX8_isOf_26 (by decide) ?_
        refine lv_goto (tgt := 31) hx hb dX8_isOf_27 (by decide) ?_
        cases hs
        exact sv_iret hx hb hr rfl hlk hW dX8_isOf_31
set_option maxRecDepth 100000 in
set_option maxHeartbeats 4000000 in
theorem k_X8_mostOf {l : Launch} {D : va_G} {T : Nat → ClassId} {h : Nat → Nat} {θ : sv_T} {a1 : Int32} {σ : sv_S} {r : Int32} {σ' : sv_S} (hB : sm_base θ)  (hs : q_X8_mostOf θ a1 σ = some (r, σ')) : sv_Mi sm_X l D T (sm_tys T) h θ yX8_mostOf wsX8_mostOf (sv_rm 0 0) [.int a1] σ r σ' := by
  intro sz
  refine sv_enter (cc := cX8_mostOf) (maxL := 1) (ret := (some .int)) (Qc := fun A => va_Qi (fun r2 (_ : Unit) => r2 = r) (fun _ t => va_P D vwCl (sv_ws T h θ σ') t.heap) A) sm_XP (by decide) rfl (Nat.le_of_ble_eq_true rfl) ?_
  intro p e s m args below meth c A F hr hlk ls H hl hW
  have hx := F.1.1
  have hb := F.1.2.1
  have hts := F.1.2.2.2.2
  have hown := F.1.2.2.2.1
  have hK := F.2.1
  obtain ⟨locs, hlocs⟩ : ∃ z : List Loc, z = [] := ⟨_, rfl⟩
  rw [← hlocs] at hW ⊢
  have hl : lv_has ls 1 [(0, .int a1)] := hl
  unfold q_X8_mostOf at hs
  refine lv_iload_n hx hb dX8_mostOf_0 rfl (lv_at hl 0 rfl) ?_
  refine lv_iconst (v := 2) hx hb dX8_mostOf_1 (by decide) ?_
  refine lv_icmp_le (tgt := 9) hx hb dX8_mostOf_2 (by decide) (fun c1 => ?_) (fun c1 => ?_)
  · replace hs := (sp_ite hs).1 c1
    refine lv_bipush (v := 9) hx hb dX8_mostOf_9 (by decide) ?_
    cases hs
    exact sv_iret hx hb hr rfl hlk hW dX8_mostOf_11
  · replace hs := (sp_ite hs).2 c1
    refine lv_iconst (v := 1) hx hb dX8_mostOf_5 (by decide) ?_
    refine lv_goto (tgt := 11) hx hb dX8_mostOf_6 (by decide) ?_
    cases hs
    exact sv_iret hx hb hr rfl hlk hW dX8_mostOf_11
set_option maxRecDepth 100000 in
set_option maxHeartbeats 4000000 in
theorem k_X8_told {l : Launch} {D : va_G} {T : Nat → ClassId} {h : Nat → Nat} {θ : sv_T} {a1 : Int32} {a2 : Int32} {σ : sv_S} {r : Int32} {σ' : sv_S} (hB : sm_base θ)  (hs : q_X8_told θ a1 a2 σ = some (r, σ')) : sv_Mi sm_X l D T (sm_tys T) h θ yX8_told wsX8_told (sv_rm 3 68) [.ref (h 0), .int a1, .int a2] σ r σ' := by
  intro sz
  refine sv_enter (cc := cX8_told) (maxL := 3) (ret := (some .int)) (Qc := fun A => va_Qi (fun r2 (_ : Unit) => r2 = r) (fun _ t => va_P D vwCl (sv_ws T h θ σ') t.heap) A) sm_XP (by decide) rfl (Nat.le_of_ble_eq_true rfl) ?_
  intro p e s m args below meth c A F hr hlk ls H hl hW
  have hx := F.1.1
  have hb := F.1.2.1
  have hts := F.1.2.2.2.2
  have hown := F.1.2.2.2.1
  have hK := F.2.1
  obtain ⟨locs, hlocs⟩ : ∃ z : List Loc, z = [] := ⟨_, rfl⟩
  rw [← hlocs] at hW ⊢
  have hl : lv_has ls 3 [(0, .ref (h 0)), (1, .int a1), (2, .int a2)] := hl
  unfold q_X8_told at hs
  refine lv_iload_n hx hb dX8_told_0 rfl (lv_at hl 2 rfl) ?_
  refine lv_i2l (v := a2.toInt64) hx hb dX8_told_1 rfl ?_
  refine lv_lconst (v := 0) hx hb dX8_told_2 (by decide) ?_
  refine lv_ldc2 (own := RX8) (index := 106) (v := 5) hx hb hown (hts _ (List.mem_of_getElem? (i := 1) rfl)) dX8_told_3 ?_
  obtain ⟨r1, σ2, eσ2, hs⟩ := sp_bind hs
  refine sv_goI (σ' := σ2) (r := r1) hW F.2.2.2.1 (sv_runT F hW (k_X8_in hB eσ2 H.size) gX8_told_X8_in rfl ⟨rfl, rfl⟩ 3 (by decide +kernel) (sv_room2 (by omega) (by omega)) rfl hl.1 rfl (Nat.le_of_ble_eq_true rfl) dX8_told_6 ⟨Nat.zero_le _, Nat.zero_le _⟩) (fun H locs hW => ?_)
  refine lv_if_eq (tgt := 21) hx hb dX8_told_9 (by decide) (fun c3 => ?_) (fun c3 => ?_)
  · replace hs := (sp_ite hs).1 c3
    refine lv_bipush (v := -2) hx hb dX8_told_21 (by decide) ?_
    cases hs
    exact sv_iret hx hb hr rfl hlk hW dX8_told_23
  · replace hs := (sp_ite hs).2 c3
    refine lv_aload_n hx hb dX8_told_12 rfl (lv_at hl 0 rfl) ?_
    refine lv_iload_n hx hb dX8_told_13 rfl (lv_at hl 2 rfl) ?_
    refine lv_iload_n hx hb dX8_told_14 rfl (lv_at hl 1 rfl) ?_
    obtain ⟨r4, σ5, eσ5, hs⟩ := sp_bind hs
    refine sv_goI (σ' := σ5) (r := r4) hW F.2.2.2.1 (sv_runV (C := RX8) F hW (k_X8_isOf hB eσ5 H.size) gX8_told_X8_isOf rfl ⟨rfl, rfl⟩ 2 (by decide +kernel) (sv_room2 (by omega) (by omega)) (sm_i 0 hB (by decide)) (sm_c0 hB) rfl rfl hl.1 rfl (Nat.le_of_ble_eq_true rfl) dX8_told_15 ⟨Nat.zero_le _, Nat.zero_le _⟩) (fun H locs hW => ?_)
    refine lv_if_ne (tgt := 24) hx hb dX8_told_18 (by decide) (fun c6 => ?_) (fun c6 => ?_)
    · replace hs := (sp_ite hs).2 c6
      refine lv_iload_n hx hb dX8_told_24 rfl (lv_at hl 2 rfl) ?_
      refine lv_if_ne (tgt := 35) hx hb dX8_told_25 (by decide) (fun c7 => ?_) (fun c7 => ?_)
      · replace hs := (sp_ite hs).2 c7
        refine lv_iload_n hx hb dX8_told_35 rfl (lv_at hl 2 rfl) ?_
        refine lv_iconst (v := 1) hx hb dX8_told_36 (by decide) ?_
        refine lv_icmp_ne (tgt := 52) hx hb dX8_told_37 (by decide) (fun c8 => ?_) (fun c8 => ?_)
        · replace hs := (sp_ite hs).2 c8
          refine lv_iload_n hx hb dX8_told_52 rfl (lv_at hl 2 rfl) ?_
          refine lv_iconst (v := 5) hx hb dX8_told_53 (by decide) ?_
          refine lv_icmp_ge (tgt := 72) hx hb dX8_told_54 (by decide) (fun c9 => ?_) (fun c9 => ?_)
          · replace hs := (sp_ite hs).1 c9
            refine lv_aload_n hx hb dX8_told_72 rfl (lv_at hl 0 rfl) ?_
            refine sv_get (own := RX8) (C := RX8) (Tf := TX8) (N := 44) (index := 26) (κ := (3, 5)) (v := .ref (h 5)) hx hb hts hown hK hW (fun _ h => List.mem_cons_of_mem _ (List.mem_append_right _ h)) (sm_i 0 hB (by decide)) (sm_c0 hB) rfl 9 (by decide) rfl rfl (List.mem_of_getElem? (i := 5) rfl) dX8_told_73 ?_
            refine lv_iload_n hx hb dX8_told_76 rfl (lv_at hl 1 rfl) ?_
            obtain ⟨hi10, hs⟩ := sp_g hs
            refine sv_iald hx hb hK hW (sm_i 5 hB (by decide)) (sm_c5 hB) 0 rfl hi10 dX8_told_77 ?_
            cases hs
            exact sv_iret hx hb hr rfl hlk hW dX8_told_78
          · replace hs := (sp_ite hs).2 c9
            refine lv_aload_n hx hb dX8_told_57 rfl (lv_at hl 0 rfl) ?_
            refine sv_get (own := RX8) (C := RX8) (Tf := TX8) (N := 44) (index := 29) (κ := (3, 6)) (v := .ref (h 6)) hx hb hts hown hK hW (fun _ h => List.mem_cons_of_mem _ (List.mem_append_right _ h)) (sm_i 0 hB (by decide)) (sm_c0 hB) rfl 10 (by decide) rfl rfl (List.mem_of_getElem? (i := 4) rfl) dX8_told_58 ?_
            refine lv_iconst (v := 3) hx hb dX8_told_61 (by decide) ?_
            refine lv_iload_n hx hb dX8_told_62 rfl (lv_at hl 1 rfl) ?_
            refine lv_imul hx hb dX8_told_63 ?_
            refine lv_iload_n hx hb dX8_told_64 rfl (lv_at hl 2 rfl) ?_
            refine lv_iadd hx hb dX8_told_65 ?_
            refine lv_iconst (v := 2) hx hb dX8_told_66 (by decide) ?_
            refine lv_isub hx hb dX8_told_67 ?_
            obtain ⟨hi11, hs⟩ := sp_g hs
            refine sv_iald hx hb hK hW (sm_i 6 hB (by decide)) (sm_c6 hB) 0 rfl hi11 dX8_told_68 ?_
            refine lv_goto (tgt := 78) hx hb dX8_told_69 (by decide) ?_
            cases hs
            exact sv_iret hx hb hr rfl hlk hW dX8_told_78
        · replace hs := (sp_ite hs).1 c8
          refine lv_aload_n hx hb dX8_told_40 rfl (lv_at hl 0 rfl) ?_
          refine sv_get (own := RX8) (C := RX8) (Tf := TX8) (N := 44) (index := 23) (κ := (3, 4)) (v := .ref (h 4)) hx hb hts hown hK hW (fun _ h => List.mem_cons_of_mem _ (List.mem_append_right _ h)) (sm_i 0 hB (by decide)) (sm_c0 hB) rfl 8 (by decide) rfl rfl (List.mem_of_getElem? (i := 3) rfl) dX8_told_41 ?_
          refine lv_iload_n hx hb dX8_told_44 rfl (lv_at hl 1 rfl) ?_
          obtain ⟨r12, σ13, eσ13, hs⟩ := sp_bind hs
          refine sv_goI (σ' := σ13) (r := r12) hW F.2.2.2.1 (sv_runT F hW (k_X8_placeOf hB eσ13 H.size) gX8_told_X8_placeOf rfl ⟨rfl, rfl⟩ 1 (by decide +kernel) (sv_room2 (by omega) (by omega)) rfl hl.1 rfl (Nat.le_of_ble_eq_true rfl) dX8_told_45 ⟨Nat.zero_le _, Nat.zero_le _⟩) (fun H locs hW => ?_)
          obtain ⟨hi14, hs⟩ := sp_g hs
          refine sv_iald hx hb hK hW (sm_i 4 hB (by decide)) (sm_c4 hB) 0 rfl hi14 dX8_told_48 ?_
          refine lv_goto (tgt := 78) hx hb dX8_told_49 (by decide) ?_
          cases hs
          exact sv_iret hx hb hr rfl hlk hW dX8_told_78
      · replace hs := (sp_ite hs).1 c7
        refine lv_aload_n hx hb dX8_told_28 rfl (lv_at hl 0 rfl) ?_
        refine sv_get (own := RX8) (C := RX8) (Tf := TX8) (N := 44) (index := 97) (κ := (0, 0)) (v := .int (σ5.1 0 7)) hx hb hts hown hK hW (fun _ h => List.mem_cons_of_mem _ (List.mem_append_right _ h)) (sm_i 0 hB (by decide)) (sm_c0 hB) rfl 7 (by decide) rfl rfl (List.mem_of_getElem? (i := 2) rfl) dX8_told_29 ?_
        refine lv_goto (tgt := 78) hx hb dX8_told_32 (by decide) ?_
        cases hs
        exact sv_iret hx hb hr rfl hlk hW dX8_told_78
    · replace hs := (sp_ite hs).1 c6
      refine lv_bipush (v := -2) hx hb dX8_told_21 (by decide) ?_
      cases hs
      exact sv_iret hx hb hr rfl hlk hW dX8_told_23
set_option maxRecDepth 100000 in
set_option maxHeartbeats 4000000 in
theorem k_X8_lays {l : Launch} {D : va_G} {T : Nat → ClassId} {h : Nat → Nat} {θ : sv_T} {a1 : Int32} {a2 : Int32} {a3 : Int32} {σ : sv_S} {r : Unit} {σ' : sv_S} (hB : sm_base θ)  (hs : q_X8_lays θ a1 a2 a3 σ = some (r, σ')) : sv_Mv sm_X l D T (sm_tys T) h θ yX8_lays wsX8_lays (sv_rm 1 20) [.ref (h 0), .int a1, .int a2, .int a3] σ r σ' := by
  intro sz
  refine sv_enter (cc := cX8_lays) (maxL := 4) (ret := none) (Qc := fun A => va_Qv (fun (_ : Unit) => True) (fun _ t => va_P D vwCl (sv_ws T h θ σ') t.heap) A) sm_XP (by decide) rfl (Nat.le_of_ble_eq_true rfl) ?_
  intro p e s m args below meth c A F hr hlk ls H hl hW
  have hx := F.1.1
  have hb := F.1.2.1
  have hts := F.1.2.2.2.2
  have hown := F.1.2.2.2.1
  have hK := F.2.1
  obtain ⟨locs, hlocs⟩ : ∃ z : List Loc, z = [] := ⟨_, rfl⟩
  rw [← hlocs] at hW ⊢
  have hl : lv_has ls 4 [(0, .ref (h 0)), (1, .int a1), (2, .int a2), (3, .int a3)] := hl
  unfold q_X8_lays at hs
  refine lv_iload_n hx hb dX8_lays_0 rfl (lv_at hl 1 rfl) ?_
  refine lv_if_ne (tgt := 12) hx hb dX8_lays_1 (by decide) (fun c1 => ?_) (fun c1 => ?_)
  · replace hs := (sp_ite hs).2 c1
    refine lv_iload_n hx hb dX8_lays_12 rfl (lv_at hl 1 rfl) ?_
    refine lv_iconst (v := 1) hx hb dX8_lays_13 (by decide) ?_
    refine lv_icmp_ne (tgt := 30) hx hb dX8_lays_14 (by decide) (fun c2 => ?_) (fun c2 => ?_)
    · replace hs := (sp_ite hs).2 c2
      refine lv_iload_n hx hb dX8_lays_30 rfl (lv_at hl 1 rfl) ?_
      refine lv_iconst (v := 5) hx hb dX8_lays_31 (by decide) ?_
      refine lv_icmp_ge (tgt := 51) hx hb dX8_lays_32 (by decide) (fun c3 => ?_) (fun c3 => ?_)
      · replace hs := (sp_ite hs).1 c3
        refine lv_iload_n hx hb dX8_lays_51 rfl (lv_at hl 1 rfl) ?_
        refine lv_iconst (v := 5) hx hb dX8_lays_52 (by decide) ?_
        refine lv_icmp_ne (tgt := 66) hx hb dX8_lays_53 (by decide) (fun c4 => ?_) (fun c4 => ?_)
        · replace hs := (sp_ite hs).2 c4
          refine lv_aload_n hx hb dX8_lays_66 rfl (lv_at hl 0 rfl) ?_
          refine lv_iload_n hx hb dX8_lays_67 rfl (lv_at hl 3 rfl) ?_
          refine sv_putI (own := RX8) (C := RX8) (Tf := TX8) (N := 44) (index := 103) hx hb hts hown hK hW (fun _ h => List.mem_cons_of_mem _ (List.mem_append_right _ h)) tyX8 tyX8_ok nmX8 (sm_i 0 hB (by decide)) (sm_c0 hB) rfl 4 (by decide) rfl rfl (ty := .int) (by decide +kernel) rfl rfl (List.mem_of_getElem? (i := 5) rfl) dX8_lays_68 (fun σ5 H locs eσ5 hW => ?_)
          replace hs := sp_let hs eσ5
          cases hs
          exact sv_vret hx hb hr hlk hW dX8_lays_71
        · replace hs := (sp_ite hs).1 c4
          refine lv_aload_n hx hb dX8_lays_56 rfl (lv_at hl 0 rfl) ?_
          refine sv_get (own := RX8) (C := RX8) (Tf := TX8) (N := 44) (index := 26) (κ := (3, 5)) (v := .ref (h 5)) hx hb hts hown hK hW (fun _ h => List.mem_cons_of_mem _ (List.mem_append_right _ h)) (sm_i 0 hB (by decide)) (sm_c0 hB) rfl 9 (by decide) rfl rfl (List.mem_of_getElem? (i := 4) rfl) dX8_lays_57 ?_
          refine lv_iload_n hx hb dX8_lays_60 rfl (lv_at hl 2 rfl) ?_
          refine lv_iload_n hx hb dX8_lays_61 rfl (lv_at hl 3 rfl) ?_
          obtain ⟨hi6, hs⟩ := sp_g hs
          refine sv_iast hx hb hK hW (sm_i 5 hB (by decide)) (sm_c5 hB) 0 rfl hi6 dX8_lays_62 (fun σ7 H locs eσ7 hW => ?_)
          replace hs := sp_let hs eσ7
          refine lv_goto (tgt := 71) hx hb dX8_lays_63 (by decide) ?_
          cases hs
          exact sv_vret hx hb hr hlk hW dX8_lays_71
      · replace hs := (sp_ite hs).2 c3
        refine lv_aload_n hx hb dX8_lays_35 rfl (lv_at hl 0 rfl) ?_
        refine sv_get (own := RX8) (C := RX8) (Tf := TX8) (N := 44) (index := 29) (κ := (3, 6)) (v := .ref (h 6)) hx hb hts hown hK hW (fun _ h => List.mem_cons_of_mem _ (List.mem_append_right _ h)) (sm_i 0 hB (by decide)) (sm_c0 hB) rfl 10 (by decide) rfl rfl (List.mem_of_getElem? (i := 3) rfl) dX8_lays_36 ?_
        refine lv_iconst (v := 3) hx hb dX8_lays_39 (by decide) ?_
        refine lv_iload_n hx hb dX8_lays_40 rfl (lv_at hl 2 rfl) ?_
        refine lv_imul hx hb dX8_lays_41 ?_
        refine lv_iload_n hx hb dX8_lays_42 rfl (lv_at hl 1 rfl) ?_
        refine lv_iadd hx hb dX8_lays_43 ?_
        refine lv_iconst (v := 2) hx hb dX8_lays_44 (by decide) ?_
        refine lv_isub hx hb dX8_lays_45 ?_
        refine lv_iload_n hx hb dX8_lays_46 rfl (lv_at hl 3 rfl) ?_
        obtain ⟨hi8, hs⟩ := sp_g hs
        refine sv_iast hx hb hK hW (sm_i 6 hB (by decide)) (sm_c6 hB) 0 rfl hi8 dX8_lays_47 (fun σ9 H locs eσ9 hW => ?_)
        replace hs := sp_let hs eσ9
        refine lv_goto (tgt := 71) hx hb dX8_lays_48 (by decide) ?_
        cases hs
        exact sv_vret hx hb hr hlk hW dX8_lays_71
    · replace hs := (sp_ite hs).1 c2
      refine lv_aload_n hx hb dX8_lays_17 rfl (lv_at hl 0 rfl) ?_
      refine sv_get (own := RX8) (C := RX8) (Tf := TX8) (N := 44) (index := 23) (κ := (3, 4)) (v := .ref (h 4)) hx hb hts hown hK hW (fun _ h => List.mem_cons_of_mem _ (List.mem_append_right _ h)) (sm_i 0 hB (by decide)) (sm_c0 hB) rfl 8 (by decide) rfl rfl (List.mem_of_getElem? (i := 2) rfl) dX8_lays_18 ?_
      refine lv_iload_n hx hb dX8_lays_21 rfl (lv_at hl 2 rfl) ?_
      obtain ⟨r10, σ11, eσ11, hs⟩ := sp_bind hs
      refine sv_goI (σ' := σ11) (r := r10) hW F.2.2.2.1 (sv_runT F hW (k_X8_placeOf hB eσ11 H.size) gX8_lays_X8_placeOf rfl ⟨rfl, rfl⟩ 1 (by decide +kernel) (sv_room2 (by omega) (by omega)) rfl hl.1 rfl (Nat.le_of_ble_eq_true rfl) dX8_lays_22 ⟨Nat.zero_le _, Nat.zero_le _⟩) (fun H locs hW => ?_)
      refine lv_iload_n hx hb dX8_lays_25 rfl (lv_at hl 3 rfl) ?_
      obtain ⟨hi12, hs⟩ := sp_g hs
      refine sv_iast hx hb hK hW (sm_i 4 hB (by decide)) (sm_c4 hB) 0 rfl hi12 dX8_lays_26 (fun σ13 H locs eσ13 hW => ?_)
      replace hs := sp_let hs eσ13
      refine lv_goto (tgt := 71) hx hb dX8_lays_27 (by decide) ?_
      cases hs
      exact sv_vret hx hb hr hlk hW dX8_lays_71
  · replace hs := (sp_ite hs).1 c1
    refine lv_aload_n hx hb dX8_lays_4 rfl (lv_at hl 0 rfl) ?_
    refine lv_iload_n hx hb dX8_lays_5 rfl (lv_at hl 3 rfl) ?_
    refine sv_putI (own := RX8) (C := RX8) (Tf := TX8) (N := 44) (index := 97) hx hb hts hown hK hW (fun _ h => List.mem_cons_of_mem _ (List.mem_append_right _ h)) tyX8 tyX8_ok nmX8 (sm_i 0 hB (by decide)) (sm_c0 hB) rfl 7 (by decide) rfl rfl (ty := .int) (by decide +kernel) rfl rfl (List.mem_of_getElem? (i := 1) rfl) dX8_lays_6 (fun σ14 H locs eσ14 hW => ?_)
    replace hs := sp_let hs eσ14
    refine lv_goto (tgt := 71) hx hb dX8_lays_9 (by decide) ?_
    cases hs
    exact sv_vret hx hb hr hlk hW dX8_lays_71
set_option maxRecDepth 100000 in
set_option maxHeartbeats 4000000 in
theorem k_X8_set {l : Launch} {D : va_G} {T : Nat → ClassId} {h : Nat → Nat} {θ : sv_T} {a1 : Int32} {a2 : Int32} {a3 : Int32} {σ : sv_S} {r : Int32} {σ' : sv_S} (hB : sm_base θ)  (hs : q_X8_set θ a1 a2 a3 σ = some (r, σ')) : sv_Mi sm_X l D T (sm_tys T) h θ yX8_set wsX8_set (sv_rm 4 90) [.ref (h 0), .int a1, .int a2, .int a3] σ r σ' := by
  intro sz
  refine sv_enter (cc := cX8_set) (maxL := 5) (ret := (some .int)) (Qc := fun A => va_Qi (fun r2 (_ : Unit) => r2 = r) (fun _ t => va_P D vwCl (sv_ws T h θ σ') t.heap) A) sm_XP (by decide) rfl (Nat.le_of_ble_eq_true rfl) ?_
  intro p e s m args below meth c A F hr hlk ls H hl hW
  have hx := F.1.1
  have hb := F.1.2.1
  have hts := F.1.2.2.2.2
  have hown := F.1.2.2.2.1
  have hK := F.2.1
  obtain ⟨locs, hlocs⟩ : ∃ z : List Loc, z = [] := ⟨_, rfl⟩
  rw [← hlocs] at hW ⊢
  have hl : lv_has ls 5 [(0, .ref (h 0)), (1, .int a1), (2, .int a2), (3, .int a3)] := hl
  unfold q_X8_set at hs
  refine lv_iload_n hx hb dX8_set_0 rfl (lv_at hl 1 rfl) ?_
  refine lv_i2l (v := a1.toInt64) hx hb dX8_set_1 rfl ?_
  refine lv_lconst (v := 0) hx hb dX8_set_2 (by decide) ?_
  refine lv_ldc2 (own := RX8) (index := 79) (v := 4) hx hb hown (hts _ (List.mem_of_getElem? (i := 1) rfl)) dX8_set_3 ?_
  obtain ⟨r1, σ2, eσ2, hs⟩ := sp_bind hs
  refine sv_goI (σ' := σ2) (r := r1) hW F.2.2.2.1 (sv_runT F hW (k_X8_in hB eσ2 H.size) gX8_set_X8_in rfl ⟨rfl, rfl⟩ 3 (by decide +kernel) (sv_room2 (by omega) (by omega)) rfl hl.1 rfl (Nat.le_of_ble_eq_true rfl) dX8_set_6 ⟨Nat.zero_le _, Nat.zero_le _⟩) (fun H locs hW => ?_)
  refine lv_if_eq (tgt := 35) hx hb dX8_set_9 (by decide) (fun c3 => ?_) (fun c3 => ?_)
  · replace hs := (sp_ite hs).1 c3
    refine lv_bipush (v := -2) hx hb dX8_set_35 (by decide) ?_
    cases hs
    exact sv_iret hx hb hr rfl hlk hW dX8_set_37
  · replace hs := (sp_ite hs).2 c3
    refine lv_aload_n hx hb dX8_set_12 rfl (lv_at hl 0 rfl) ?_
    refine lv_iload_n hx hb dX8_set_13 rfl (lv_at hl 1 rfl) ?_
    refine lv_iload_n hx hb dX8_set_14 rfl (lv_at hl 2 rfl) ?_
    obtain ⟨r4, σ5, eσ5, hs⟩ := sp_bind hs
    refine sv_goI (σ' := σ5) (r := r4) hW F.2.2.2.1 (sv_runV (C := RX8) F hW (k_X8_isOf hB eσ5 H.size) gX8_set_X8_isOf rfl ⟨rfl, rfl⟩ 2 (by decide +kernel) (sv_room2 (by omega) (by omega)) (sm_i 0 hB (by decide)) (sm_c0 hB) rfl rfl hl.1 rfl (Nat.le_of_ble_eq_true rfl) dX8_set_15 ⟨Nat.zero_le _, Nat.zero_le _⟩) (fun H locs hW => ?_)
    refine lv_if_eq (tgt := 35) hx hb dX8_set_18 (by decide) (fun c6 => ?_) (fun c6 => ?_)
    · replace hs := (sp_ite hs).1 c6
      refine lv_bipush (v := -2) hx hb dX8_set_35 (by decide) ?_
      cases hs
      exact sv_iret hx hb hr rfl hlk hW dX8_set_37
    · replace hs := (sp_ite hs).2 c6
      refine lv_iload_n hx hb dX8_set_21 rfl (lv_at hl 3 rfl) ?_
      refine lv_i2l (v := a3.toInt64) hx hb dX8_set_22 rfl ?_
      refine lv_lconst (v := 0) hx hb dX8_set_23 (by decide) ?_
      refine lv_iload_n hx hb dX8_set_24 rfl (lv_at hl 1 rfl) ?_
      obtain ⟨r7, σ8, eσ8, hs⟩ := sp_bind hs
      refine sv_goI (σ' := σ8) (r := r7) hW F.2.2.2.1 (sv_runT F hW (k_X8_mostOf hB eσ8 H.size) gX8_set_X8_mostOf rfl ⟨rfl, rfl⟩ 1 (by decide +kernel) (sv_room2 (by omega) (by omega)) rfl hl.1 rfl (Nat.le_of_ble_eq_true rfl) dX8_set_25 ⟨Nat.zero_le _, Nat.zero_le _⟩) (fun H locs hW => ?_)
      refine lv_i2l (v := r7.toInt64) hx hb dX8_set_28 rfl ?_
      obtain ⟨r9, σ10, eσ10, hs⟩ := sp_bind hs
      refine sv_goI (σ' := σ10) (r := r9) hW F.2.2.2.1 (sv_runT F hW (k_X8_in hB eσ10 H.size) gX8_set_X8_in rfl ⟨rfl, rfl⟩ 3 (by decide +kernel) (sv_room2 (by omega) (by omega)) rfl hl.1 rfl (Nat.le_of_ble_eq_true rfl) dX8_set_29 ⟨Nat.zero_le _, Nat.zero_le _⟩) (fun H locs hW => ?_)
      refine lv_if_ne (tgt := 38) hx hb dX8_set_32 (by decide) (fun c11 => ?_) (fun c11 => ?_)
      · replace hs := (sp_ite hs).2 c11
        refine lv_aload_n hx hb dX8_set_38 rfl (lv_at hl 0 rfl) ?_
        refine lv_iload_n hx hb dX8_set_39 rfl (lv_at hl 2 rfl) ?_
        refine lv_iload_n hx hb dX8_set_40 rfl (lv_at hl 1 rfl) ?_
        obtain ⟨r12, σ13, eσ13, hs⟩ := sp_bind hs
        refine sv_goI (σ' := σ13) (r := r12) hW F.2.2.2.1 (sv_runV (C := RX8) F hW (k_X8_told hB eσ13 H.size) gX8_set_X8_told rfl ⟨rfl, rfl⟩ 2 (by decide +kernel) (sv_room2 (by omega) (by omega)) (sm_i 0 hB (by decide)) (sm_c0 hB) rfl rfl hl.1 rfl (Nat.le_of_ble_eq_true rfl) dX8_set_41 ⟨Nat.zero_le _, Nat.zero_le _⟩) (fun H locs hW => ?_)
        refine lv_istore (lv' := [(4, .int r12), (0, .ref (h 0)), (1, .int a1), (2, .int a2), (3, .int a3)]) hx hb dX8_set_44 hl (by decide) rfl (fun ls hl => ?_)
        refine lv_aload_n hx hb dX8_set_46 rfl (lv_at hl 1 rfl) ?_
        refine lv_iload_n hx hb dX8_set_47 rfl (lv_at hl 2 rfl) ?_
        refine lv_iload_n hx hb dX8_set_48 rfl (lv_at hl 3 rfl) ?_
        refine lv_iload_n hx hb dX8_set_49 rfl (lv_at hl 4 rfl) ?_
        obtain ⟨r14, σ15, eσ15, hs⟩ := sp_bind hs
        refine sv_goV (σ' := σ15) (r := r14) hW F.2.2.2.1 (sv_runV (C := RX8) F hW (k_X8_lays hB eσ15 H.size) gX8_set_X8_lays rfl ⟨rfl, rfl⟩ 3 (by decide +kernel) (sv_room2 (by omega) (by omega)) (sm_i 0 hB (by decide)) (sm_c0 hB) rfl rfl hl.1 rfl (Nat.le_of_ble_eq_true rfl) dX8_set_50 ⟨Nat.zero_le _, Nat.zero_le _⟩) (fun H locs hW => ?_)
        refine lv_iload hx hb dX8_set_53 (lv_at hl 0 rfl) ?_
        cases hs
        exact sv_iret hx hb hr rfl hlk hW dX8_set_55
      · replace hs := (sp_ite hs).1 c11
        refine lv_bipush (v := -2) hx hb dX8_set_35 (by decide) ?_
        cases hs
        exact sv_iret hx hb hr rfl hlk hW dX8_set_37
set_option maxRecDepth 100000 in
set_option maxHeartbeats 4000000 in
theorem k_X8_bargain {l : Launch} {D : va_G} {T : Nat → ClassId} {h : Nat → Nat} {θ : sv_T} {a1 : Int32} {a2 : Int32} {a3 : Int32} {σ : sv_S} {r : Int32} {σ' : sv_S} (hB : sm_base θ)  (hs : q_X8_bargain θ a1 a2 a3 σ = some (r, σ')) : sv_Mi sm_X l D T (sm_tys T) h θ yX8_bargain wsX8_bargain (sv_rm 1 25) [.ref (h 0), .int a1, .int a2, .int a3] σ r σ' := by
  intro sz
  refine sv_enter (cc := cX8_bargain) (maxL := 4) (ret := (some .int)) (Qc := fun A => va_Qi (fun r2 (_ : Unit) => r2 = r) (fun _ t => va_P D vwCl (sv_ws T h θ σ') t.heap) A) sm_XP (by decide) rfl (Nat.le_of_ble_eq_true rfl) ?_
  intro p e s m args below meth c A F hr hlk ls H hl hW
  have hx := F.1.1
  have hb := F.1.2.1
  have hts := F.1.2.2.2.2
  have hown := F.1.2.2.2.1
  have hK := F.2.1
  obtain ⟨locs, hlocs⟩ : ∃ z : List Loc, z = [] := ⟨_, rfl⟩
  rw [← hlocs] at hW ⊢
  have hl : lv_has ls 4 [(0, .ref (h 0)), (1, .int a1), (2, .int a2), (3, .int a3)] := hl
  unfold q_X8_bargain at hs
  refine lv_iload_n hx hb dX8_bargain_0 rfl (lv_at hl 1 rfl) ?_
  refine lv_i2l (v := a1.toInt64) hx hb dX8_bargain_1 rfl ?_
  refine lv_lconst (v := 0) hx hb dX8_bargain_2 (by decide) ?_
  refine lv_ldc2 (own := RX8) (index := 106) (v := 5) hx hb hown (hts _ (List.mem_of_getElem? (i := 1) rfl)) dX8_bargain_3 ?_
  obtain ⟨r1, σ2, eσ2, hs⟩ := sp_bind hs
  refine sv_goI (σ' := σ2) (r := r1) hW F.2.2.2.1 (sv_runT F hW (k_X8_in hB eσ2 H.size) gX8_bargain_X8_in rfl ⟨rfl, rfl⟩ 3 (by decide +kernel) (sv_room2 (by omega) (by omega)) rfl hl.1 rfl (Nat.le_of_ble_eq_true rfl) dX8_bargain_6 ⟨Nat.zero_le _, Nat.zero_le _⟩) (fun H locs hW => ?_)
  refine lv_if_eq (tgt := 34) hx hb dX8_bargain_9 (by decide) (fun c3 => ?_) (fun c3 => ?_)
  · replace hs := (sp_ite hs).1 c3
    refine lv_bipush (v := -2) hx hb dX8_bargain_34 (by decide) ?_
    cases hs
    exact sv_iret hx hb hr rfl hlk hW dX8_bargain_36
  · replace hs := (sp_ite hs).2 c3
    refine lv_iload_n hx hb dX8_bargain_12 rfl (lv_at hl 2 rfl) ?_
    refine lv_i2l (v := a2.toInt64) hx hb dX8_bargain_13 rfl ?_
    refine lv_lconst (v := 0) hx hb dX8_bargain_14 (by decide) ?_
    refine lv_ldc2 (own := RX8) (index := 108) (v := 9) hx hb hown (hts _ (List.mem_of_getElem? (i := 2) rfl)) dX8_bargain_15 ?_
    obtain ⟨r4, σ5, eσ5, hs⟩ := sp_bind hs
    refine sv_goI (σ' := σ5) (r := r4) hW F.2.2.2.1 (sv_runT F hW (k_X8_in hB eσ5 H.size) gX8_bargain_X8_in rfl ⟨rfl, rfl⟩ 3 (by decide +kernel) (sv_room2 (by omega) (by omega)) rfl hl.1 rfl (Nat.le_of_ble_eq_true rfl) dX8_bargain_18 ⟨Nat.zero_le _, Nat.zero_le _⟩) (fun H locs hW => ?_)
    refine lv_if_eq (tgt := 34) hx hb dX8_bargain_21 (by decide) (fun c6 => ?_) (fun c6 => ?_)
    · replace hs := (sp_ite hs).1 c6
      refine lv_bipush (v := -2) hx hb dX8_bargain_34 (by decide) ?_
      cases hs
      exact sv_iret hx hb hr rfl hlk hW dX8_bargain_36
    · replace hs := (sp_ite hs).2 c6
      refine lv_iload_n hx hb dX8_bargain_24 rfl (lv_at hl 3 rfl) ?_
      refine lv_i2l (v := a3.toInt64) hx hb dX8_bargain_25 rfl ?_
      refine lv_lconst (v := 0) hx hb dX8_bargain_26 (by decide) ?_
      refine lv_lconst (v := 1) hx hb dX8_bargain_27 (by decide) ?_
      obtain ⟨r7, σ8, eσ8, hs⟩ := sp_bind hs
      refine sv_goI (σ' := σ8) (r := r7) hW F.2.2.2.1 (sv_runT F hW (k_X8_in hB eσ8 H.size) gX8_bargain_X8_in rfl ⟨rfl, rfl⟩ 3 (by decide +kernel) (sv_room2 (by omega) (by omega)) rfl hl.1 rfl (Nat.le_of_ble_eq_true rfl) dX8_bargain_28 ⟨Nat.zero_le _, Nat.zero_le _⟩) (fun H locs hW => ?_)
      refine lv_if_ne (tgt := 37) hx hb dX8_bargain_31 (by decide) (fun c9 => ?_) (fun c9 => ?_)
      · replace hs := (sp_ite hs).2 c9
        refine lv_aload_n hx hb dX8_bargain_37 rfl (lv_at hl 0 rfl) ?_
        refine sv_get (own := RX8) (C := RX8) (Tf := TX8) (N := 44) (index := 64) (κ := (0, 0)) (v := .int (σ8.1 0 11)) hx hb hts hown hK hW (fun _ h => List.mem_cons_of_mem _ (List.mem_append_right _ h)) (sm_i 0 hB (by decide)) (sm_c0 hB) rfl 11 (by decide) rfl rfl (List.mem_of_getElem? (i := 3) rfl) dX8_bargain_38 ?_
        refine lv_bipush (v := 6) hx hb dX8_bargain_41 (by decide) ?_
        refine lv_icmp_ne (tgt := 49) hx hb dX8_bargain_43 (by decide) (fun c10 => ?_) (fun c10 => ?_)
        · replace hs := (sp_ite hs).2 c10
          refine lv_aload_n hx hb dX8_bargain_49 rfl (lv_at hl 0 rfl) ?_
          refine sv_get (own := RX8) (C := RX8) (Tf := TX8) (N := 44) (index := 26) (κ := (3, 5)) (v := .ref (h 5)) hx hb hts hown hK hW (fun _ h => List.mem_cons_of_mem _ (List.mem_append_right _ h)) (sm_i 0 hB (by decide)) (sm_c0 hB) rfl 9 (by decide) rfl rfl (List.mem_of_getElem? (i := 4) rfl) dX8_bargain_50 ?_
          refine lv_aload_n hx hb dX8_bargain_53 rfl (lv_at hl 0 rfl) ?_
          refine sv_get (own := RX8) (C := RX8) (Tf := TX8) (N := 44) (index := 64) (κ := (0, 0)) (v := .int (σ8.1 0 11)) hx hb hts hown hK hW (fun _ h => List.mem_cons_of_mem _ (List.mem_append_right _ h)) (sm_i 0 hB (by decide)) (sm_c0 hB) rfl 11 (by decide) rfl rfl (List.mem_of_getElem? (i := 3) rfl) dX8_bargain_54 ?_
          refine lv_iload_n hx hb dX8_bargain_57 rfl (lv_at hl 1 rfl) ?_
          obtain ⟨hi11, hs⟩ := sp_g hs
          refine sv_iast hx hb hK hW (sm_i 5 hB (by decide)) (sm_c5 hB) 0 rfl hi11 dX8_bargain_58 (fun σ12 H locs eσ12 hW => ?_)
          replace hs := sp_let hs eσ12
          refine lv_aload_n hx hb dX8_bargain_59 rfl (lv_at hl 0 rfl) ?_
          refine sv_get (own := RX8) (C := RX8) (Tf := TX8) (N := 44) (index := 29) (κ := (3, 6)) (v := .ref (h 6)) hx hb hts hown hK hW (fun _ h => List.mem_cons_of_mem _ (List.mem_append_right _ h)) (sm_i 0 hB (by decide)) (sm_c0 hB) rfl 10 (by decide) rfl rfl (List.mem_of_getElem? (i := 5) rfl) dX8_bargain_60 ?_
          refine lv_iconst (v := 3) hx hb dX8_bargain_63 (by decide) ?_
          refine lv_aload_n hx hb dX8_bargain_64 rfl (lv_at hl 0 rfl) ?_
          refine sv_get (own := RX8) (C := RX8) (Tf := TX8) (N := 44) (index := 64) (κ := (0, 0)) (v := .int (σ12.1 0 11)) hx hb hts hown hK hW (fun _ h => List.mem_cons_of_mem _ (List.mem_append_right _ h)) (sm_i 0 hB (by decide)) (sm_c0 hB) rfl 11 (by decide) rfl rfl (List.mem_of_getElem? (i := 3) rfl) dX8_bargain_65 ?_
          refine lv_imul hx hb dX8_bargain_68 ?_
          refine lv_iload_n hx hb dX8_bargain_69 rfl (lv_at hl 2 rfl) ?_
          obtain ⟨hi13, hs⟩ := sp_g hs
          refine sv_iast hx hb hK hW (sm_i 6 hB (by decide)) (sm_c6 hB) 0 rfl hi13 dX8_bargain_70 (fun σ14 H locs eσ14 hW => ?_)
          replace hs := sp_let hs eσ14
          refine lv_aload_n hx hb dX8_bargain_71 rfl (lv_at hl 0 rfl) ?_
          refine sv_get (own := RX8) (C := RX8) (Tf := TX8) (N := 44) (index := 29) (κ := (3, 6)) (v := .ref (h 6)) hx hb hts hown hK hW (fun _ h => List.mem_cons_of_mem _ (List.mem_append_right _ h)) (sm_i 0 hB (by decide)) (sm_c0 hB) rfl 10 (by decide) rfl rfl (List.mem_of_getElem? (i := 5) rfl) dX8_bargain_72 ?_
          refine lv_iconst (v := 3) hx hb dX8_bargain_75 (by decide) ?_
          refine lv_aload_n hx hb dX8_bargain_76 rfl (lv_at hl 0 rfl) ?_
          refine sv_get (own := RX8) (C := RX8) (Tf := TX8) (N := 44) (index := 64) (κ := (0, 0)) (v := .int (σ14.1 0 11)) hx hb hts hown hK hW (fun _ h => List.mem_cons_of_mem _ (List.mem_append_right _ h)) (sm_i 0 hB (by decide)) (sm_c0 hB) rfl 11 (by decide) rfl rfl (List.mem_of_getElem? (i := 3) rfl) dX8_bargain_77 ?_
          refine lv_imul hx hb dX8_bargain_80 ?_
          refine lv_iconst (v := 1) hx hb dX8_bargain_81 (by decide) ?_
          refine lv_iadd hx hb dX8_bargain_82 ?_
          refine lv_iload_n hx hb dX8_bargain_83 rfl (lv_at hl 3 rfl) ?_
          obtain ⟨hi15, hs⟩ := sp_g hs
          refine sv_iast hx hb hK hW (sm_i 6 hB (by decide)) (sm_c6 hB) 0 rfl hi15 dX8_bargain_84 (fun σ16 H locs eσ16 hW => ?_)
          replace hs := sp_let hs eσ16
          refine lv_aload_n hx hb dX8_bargain_85 rfl (lv_at hl 0 rfl) ?_
          refine sv_get (own := RX8) (C := RX8) (Tf := TX8) (N := 44) (index := 29) (κ := (3, 6)) (v := .ref (h 6)) hx hb hts hown hK hW (fun _ h => List.mem_cons_of_mem _ (List.mem_append_right _ h)) (sm_i 0 hB (by decide)) (sm_c0 hB) rfl 10 (by decide) rfl rfl (List.mem_of_getElem? (i := 5) rfl) dX8_bargain_86 ?_
          refine lv_iconst (v := 3) hx hb dX8_bargain_89 (by decide) ?_
          refine lv_aload_n hx hb dX8_bargain_90 rfl (lv_at hl 0 rfl) ?_
          refine sv_get (own := RX8) (C := RX8) (Tf := TX8) (N := 44) (index := 64) (κ := (0, 0)) (v := .int (σ16.1 0 11)) hx hb hts hown hK hW (fun _ h => List.mem_cons_of_mem _ (List.mem_append_right _ h)) (sm_i 0 hB (by decide)) (sm_c0 hB) rfl 11 (by decide) rfl rfl (List.mem_of_getElem? (i := 3) rfl) dX8_bargain_91 ?_
          refine lv_imul hx hb dX8_bargain_94 ?_
          refine lv_iconst (v := 2) hx hb dX8_bargain_95 (by decide) ?_
          refine lv_iadd hx hb dX8_bargain_96 ?_
          refine lv_iconst (v := 0) hx hb dX8_bargain_97 (by decide) ?_
          obtain ⟨hi17, hs⟩ := sp_g hs
          refine sv_iast hx hb hK hW (sm_i 6 hB (by decide)) (sm_c6 hB) 0 rfl hi17 dX8_bargain_98 (fun σ18 H locs eσ18 hW => ?_)
          replace hs := sp_let hs eσ18
          refine lv_aload_n hx hb dX8_bargain_99 rfl (lv_at hl 0 rfl) ?_
          refine lv_dup hx hb dX8_bargain_100 rfl ?_
          refine sv_get (own := RX8) (C := RX8) (Tf := TX8) (N := 44) (index := 64) (κ := (0, 0)) (v := .int (σ18.1 0 11)) hx hb hts hown hK hW (fun _ h => List.mem_cons_of_mem _ (List.mem_append_right _ h)) (sm_i 0 hB (by decide)) (sm_c0 hB) rfl 11 (by decide) rfl rfl (List.mem_of_getElem? (i := 3) rfl) dX8_bargain_101 ?_
          refine lv_iconst (v := 1) hx hb dX8_bargain_104 (by decide) ?_
          refine lv_iadd hx hb dX8_bargain_105 ?_
          refine sv_putI (own := RX8) (C := RX8) (Tf := TX8) (N := 44) (index := 64) hx hb hts hown hK hW (fun _ h => List.mem_cons_of_mem _ (List.mem_append_right _ h)) tyX8 tyX8_ok nmX8 (sm_i 0 hB (by decide)) (sm_c0 hB) rfl 11 (by decide) rfl rfl (ty := .int) (by decide +kernel) rfl rfl (List.mem_of_getElem? (i := 3) rfl) dX8_bargain_106 (fun σ19 H locs eσ19 hW => ?_)
          replace hs := sp_let hs eσ19
          refine lv_aload_n hx hb dX8_bargain_109 rfl (lv_at hl 0 rfl) ?_
          refine sv_get (own := RX8) (C := RX8) (Tf := TX8) (N := 44) (index := 64) (κ := (0, 0)) (v := .int (σ19.1 0 11)) hx hb hts hown hK hW (fun _ h => List.mem_cons_of_mem _ (List.mem_append_right _ h)) (sm_i 0 hB (by decide)) (sm_c0 hB) rfl 11 (by decide) rfl rfl (List.mem_of_getElem? (i := 3) rfl) dX8_bargain_110 ?_
          refine lv_iconst (v := 1) hx hb dX8_bargain_113 (by decide) ?_
          refine lv_isub hx hb dX8_bargain_114 ?_
          cases hs
          exact sv_iret hx hb hr rfl hlk hW dX8_bargain_115
        · replace hs := (sp_ite hs).1 c10
          refine lv_bipush (v := -4) hx hb dX8_bargain_46 (by decide) ?_
          cases hs
          exact sv_iret hx hb hr rfl hlk hW dX8_bargain_48
      · replace hs := (sp_ite hs).1 c9
        refine lv_bipush (v := -2) hx hb dX8_bargain_34 (by decide) ?_
        cases hs
        exact sv_iret hx hb hr rfl hlk hW dX8_bargain_36
set_option maxRecDepth 100000 in
set_option maxHeartbeats 4000000 in
theorem k_X8_feed {l : Launch} {D : va_G} {T : Nat → ClassId} {h : Nat → Nat} {θ : sv_T} {a1 : Int32} {σ : sv_S} {r : Int32} {σ' : sv_S} (hB : sm_base θ)  (hs : q_X8_feed θ a1 σ = some (r, σ')) : sv_Mi sm_X l D T (sm_tys T) h θ yX8_feed wsX8_feed (sv_rm 1 25) [.ref (h 0), .int a1] σ r σ' := by
  intro sz
  refine sv_enter (cc := cX8_feed) (maxL := 2) (ret := (some .int)) (Qc := fun A => va_Qi (fun r2 (_ : Unit) => r2 = r) (fun _ t => va_P D vwCl (sv_ws T h θ σ') t.heap) A) sm_XP (by decide) rfl (Nat.le_of_ble_eq_true rfl) ?_
  intro p e s m args below meth c A F hr hlk ls H hl hW
  have hx := F.1.1
  have hb := F.1.2.1
  have hts := F.1.2.2.2.2
  have hown := F.1.2.2.2.1
  have hK := F.2.1
  obtain ⟨locs, hlocs⟩ : ∃ z : List Loc, z = [] := ⟨_, rfl⟩
  rw [← hlocs] at hW ⊢
  have hl : lv_has ls 2 [(0, .ref (h 0)), (1, .int a1)] := hl
  unfold q_X8_feed at hs
  refine lv_iload_n hx hb dX8_feed_0 rfl (lv_at hl 1 rfl) ?_
  refine lv_i2l (v := a1.toInt64) hx hb dX8_feed_1 rfl ?_
  refine lv_lconst (v := 0) hx hb dX8_feed_2 (by decide) ?_
  refine lv_ldc2 (own := RX8) (index := 110) (v := 255) hx hb hown (hts _ (List.mem_of_getElem? (i := 1) rfl)) dX8_feed_3 ?_
  obtain ⟨r1, σ2, eσ2, hs⟩ := sp_bind hs
  refine sv_goI (σ' := σ2) (r := r1) hW F.2.2.2.1 (sv_runT F hW (k_X8_in hB eσ2 H.size) gX8_feed_X8_in rfl ⟨rfl, rfl⟩ 3 (by decide +kernel) (sv_room2 (by omega) (by omega)) rfl hl.1 rfl (Nat.le_of_ble_eq_true rfl) dX8_feed_6 ⟨Nat.zero_le _, Nat.zero_le _⟩) (fun H locs hW => ?_)
  refine lv_if_ne (tgt := 15) hx hb dX8_feed_9 (by decide) (fun c3 => ?_) (fun c3 => ?_)
  · replace hs := (sp_ite hs).2 c3
    refine lv_aload_n hx hb dX8_feed_15 rfl (lv_at hl 0 rfl) ?_
    refine sv_get (own := RX8) (C := RX8) (Tf := TX8) (N := 44) (index := 112) (κ := (0, 0)) (v := .int (σ2.1 0 6)) hx hb hts hown hK hW (fun _ h => List.mem_cons_of_mem _ (List.mem_append_right _ h)) (sm_i 0 hB (by decide)) (sm_c0 hB) rfl 6 (by decide) rfl rfl (List.mem_of_getElem? (i := 2) rfl) dX8_feed_16 ?_
    refine lv_sipush (v := 160) hx hb dX8_feed_19 (by decide) ?_
    refine lv_icmp_ne (tgt := 28) hx hb dX8_feed_22 (by decide) (fun c4 => ?_) (fun c4 => ?_)
    · replace hs := (sp_ite hs).2 c4
      refine lv_aload_n hx hb dX8_feed_28 rfl (lv_at hl 0 rfl) ?_
      refine sv_get (own := RX8) (C := RX8) (Tf := TX8) (N := 44) (index := 20) (κ := (3, 3)) (v := .ref (h 3)) hx hb hts hown hK hW (fun _ h => List.mem_cons_of_mem _ (List.mem_append_right _ h)) (sm_i 0 hB (by decide)) (sm_c0 hB) rfl 5 (by decide) rfl rfl (List.mem_of_getElem? (i := 3) rfl) dX8_feed_29 ?_
      refine lv_aload_n hx hb dX8_feed_32 rfl (lv_at hl 0 rfl) ?_
      refine sv_get (own := RX8) (C := RX8) (Tf := TX8) (N := 44) (index := 112) (κ := (0, 0)) (v := .int (σ2.1 0 6)) hx hb hts hown hK hW (fun _ h => List.mem_cons_of_mem _ (List.mem_append_right _ h)) (sm_i 0 hB (by decide)) (sm_c0 hB) rfl 6 (by decide) rfl rfl (List.mem_of_getElem? (i := 2) rfl) dX8_feed_33 ?_
      refine lv_iload_n hx hb dX8_feed_36 rfl (lv_at hl 1 rfl) ?_
      obtain ⟨hi5, hs⟩ := sp_g hs
      refine sv_iast hx hb hK hW (sm_i 3 hB (by decide)) (sm_c3 hB) 0 rfl hi5 dX8_feed_37 (fun σ6 H locs eσ6 hW => ?_)
      replace hs := sp_let hs eσ6
      refine lv_aload_n hx hb dX8_feed_38 rfl (lv_at hl 0 rfl) ?_
      refine lv_dup hx hb dX8_feed_39 rfl ?_
      refine sv_get (own := RX8) (C := RX8) (Tf := TX8) (N := 44) (index := 112) (κ := (0, 0)) (v := .int (σ6.1 0 6)) hx hb hts hown hK hW (fun _ h => List.mem_cons_of_mem _ (List.mem_append_right _ h)) (sm_i 0 hB (by decide)) (sm_c0 hB) rfl 6 (by decide) rfl rfl (List.mem_of_getElem? (i := 2) rfl) dX8_feed_40 ?_
      refine lv_iconst (v := 1) hx hb dX8_feed_43 (by decide) ?_
      refine lv_iadd hx hb dX8_feed_44 ?_
      refine sv_putI (own := RX8) (C := RX8) (Tf := TX8) (N := 44) (index := 112) hx hb hts hown hK hW (fun _ h => List.mem_cons_of_mem _ (List.mem_append_right _ h)) tyX8 tyX8_ok nmX8 (sm_i 0 hB (by decide)) (sm_c0 hB) rfl 6 (by decide) rfl rfl (ty := .int) (by decide +kernel) rfl rfl (List.mem_of_getElem? (i := 2) rfl) dX8_feed_45 (fun σ7 H locs eσ7 hW => ?_)
      replace hs := sp_let hs eσ7
      refine lv_aload_n hx hb dX8_feed_48 rfl (lv_at hl 0 rfl) ?_
      refine sv_get (own := RX8) (C := RX8) (Tf := TX8) (N := 44) (index := 112) (κ := (0, 0)) (v := .int (σ7.1 0 6)) hx hb hts hown hK hW (fun _ h => List.mem_cons_of_mem _ (List.mem_append_right _ h)) (sm_i 0 hB (by decide)) (sm_c0 hB) rfl 6 (by decide) rfl rfl (List.mem_of_getElem? (i := 2) rfl) dX8_feed_49 ?_
      cases hs
      exact sv_iret hx hb hr rfl hlk hW dX8_feed_52
    · replace hs := (sp_ite hs).1 c4
      refine lv_bipush (v := -4) hx hb dX8_feed_25 (by decide) ?_
      cases hs
      exact sv_iret hx hb hr rfl hlk hW dX8_feed_27
  · replace hs := (sp_ite hs).1 c3
    refine lv_bipush (v := -2) hx hb dX8_feed_12 (by decide) ?_
    cases hs
    exact sv_iret hx hb hr rfl hlk hW dX8_feed_14
set_option maxRecDepth 100000 in
set_option maxHeartbeats 4000000 in
theorem k_X8_byteAt {l : Launch} {D : va_G} {T : Nat → ClassId} {h : Nat → Nat} {θ : sv_T} {a1 : Int32} {σ : sv_S} {r : Int32} {σ' : sv_S} (hB : sm_base θ)  (hs : q_X8_byteAt θ a1 σ = some (r, σ')) : sv_Mi sm_X l D T (sm_tys T) h θ yX8_byteAt wsX8_byteAt (sv_rm 0 0) [.ref (h 0), .int a1] σ r σ' := by
  intro sz
  refine sv_enter (cc := cX8_byteAt) (maxL := 2) (ret := (some .int)) (Qc := fun A => va_Qi (fun r2 (_ : Unit) => r2 = r) (fun _ t => va_P D vwCl (sv_ws T h θ σ') t.heap) A) sm_XP (by decide) rfl (Nat.le_of_ble_eq_true rfl) ?_
  intro p e s m args below meth c A F hr hlk ls H hl hW
  have hx := F.1.1
  have hb := F.1.2.1
  have hts := F.1.2.2.2.2
  have hown := F.1.2.2.2.1
  have hK := F.2.1
  obtain ⟨locs, hlocs⟩ : ∃ z : List Loc, z = [] := ⟨_, rfl⟩
  rw [← hlocs] at hW ⊢
  have hl : lv_has ls 2 [(0, .ref (h 0)), (1, .int a1)] := hl
  unfold q_X8_byteAt at hs
  refine lv_iload_n hx hb dX8_byteAt_0 rfl (lv_at hl 1 rfl) ?_
  refine lv_aload_n hx hb dX8_byteAt_1 rfl (lv_at hl 0 rfl) ?_
  refine sv_get (own := RX8) (C := RX8) (Tf := TX8) (N := 44) (index := 115) (κ := (0, 0)) (v := .int (σ.1 0 19)) hx hb hts hown hK hW (fun _ h => List.mem_cons_of_mem _ (List.mem_append_right _ h)) (sm_i 0 hB (by decide)) (sm_c0 hB) rfl 19 (by decide) rfl rfl (List.mem_of_getElem? (i := 1) rfl) dX8_byteAt_2 ?_
  refine lv_icmp_ge (tgt := 22) hx hb dX8_byteAt_5 (by decide) (fun c1 => ?_) (fun c1 => ?_)
  · replace hs := (sp_ite hs).1 c1
    refine lv_iconst (v := -1) hx hb dX8_byteAt_22 (by decide) ?_
    cases hs
    exact sv_iret hx hb hr rfl hlk hW dX8_byteAt_23
  · replace hs := (sp_ite hs).2 c1
    refine lv_aload_n hx hb dX8_byteAt_8 rfl (lv_at hl 0 rfl) ?_
    refine sv_get (own := RX8) (C := RX8) (Tf := TX8) (N := 44) (index := 13) (κ := (3, 1)) (v := .ref (h 1)) hx hb hts hown hK hW (fun _ h => List.mem_cons_of_mem _ (List.mem_append_right _ h)) (sm_i 0 hB (by decide)) (sm_c0 hB) rfl 1 (by decide) rfl rfl (List.mem_of_getElem? (i := 2) rfl) dX8_byteAt_9 ?_
    refine lv_aload_n hx hb dX8_byteAt_12 rfl (lv_at hl 0 rfl) ?_
    refine sv_get (own := RX8) (C := RX8) (Tf := TX8) (N := 44) (index := 118) (κ := (0, 0)) (v := .int (σ.1 0 18)) hx hb hts hown hK hW (fun _ h => List.mem_cons_of_mem _ (List.mem_append_right _ h)) (sm_i 0 hB (by decide)) (sm_c0 hB) rfl 18 (by decide) rfl rfl (List.mem_of_getElem? (i := 3) rfl) dX8_byteAt_13 ?_
    refine lv_iload_n hx hb dX8_byteAt_16 rfl (lv_at hl 1 rfl) ?_
    refine lv_iadd hx hb dX8_byteAt_17 ?_
    obtain ⟨hi2, hs⟩ := sp_g hs
    refine sv_iald hx hb hK hW (sm_i 1 hB (by decide)) (sm_c1 hB) 0 rfl hi2 dX8_byteAt_18 ?_
    refine lv_goto (tgt := 23) hx hb dX8_byteAt_19 (by decide) ?_
    cases hs
    exact sv_iret hx hb hr rfl hlk hW dX8_byteAt_23
set_option maxRecDepth 100000 in
set_option maxHeartbeats 4000000 in
theorem b_X8_next_100 {p : Program} {l : Launch} {e : Env} {s : State} {m : MethodId} {args : Array Value} {below : List Frame} {meth : Method} {c : Code} {D : va_G} {T : Nat → ClassId} {A : Nat → Prop} {h : Nat → Nat} {θ : sv_T}  {r : Unit} {σ' : sv_S} (hB : sm_base θ)  (F : sv_F sm_X p m c cX8_next 3 s args wsX8_next RX8 D (sm_tys T) A) (hr : meth.sig.returnType = none) (hlk : meth.locks = false)  : ∀ (n : Nat), ∀  (σ : sv_S) (H : Heap) (locs : List Loc) (ls : Array Slot), lv_has ls 3 [(0, .ref (h 0))] → sv_W D T A s h θ σ H locs → q_X8_next_B100 θ  n σ = some (r, σ') → W p l e (sv_rm 1 25) s m args below meth c H locs 0 0 (MQ below (va_Qv (fun (_ : Unit) => True) (fun _ t => va_P D vwCl (sv_ws T h θ σ') t.heap) A) args s 0 0 A) (F0 m 100 ls []) := by
  have hx := F.1.1
  have hb := F.1.2.1
  have hts := F.1.2.2.2.2
  have hown := F.1.2.2.2.1
  have hK := F.2.1
  intro n
  induction n with
  | zero =>
    intro σ H locs ls hl hW hs
    have hs : (none : Option (Unit × sv_S)) = some (r, σ') := hs
    cases hs
  | succ n ih =>
    intro σ H locs ls hl hW hs
    have hs : q_X8_next_B100_b θ  (q_X8_next_B100 θ  n) σ = some (r, σ') := hs
    unfold q_X8_next_B100_b at hs
    refine lv_aload_n hx hb dX8_next_100 rfl (lv_at hl 0 rfl) ?_
    refine lv_aload_n hx hb dX8_next_101 rfl (lv_at hl 0 rfl) ?_
    refine sv_get (own := RX8) (C := RX8) (Tf := TX8) (N := 44) (index := 121) (κ := (0, 0)) (v := .int (σ.1 0 20)) hx hb hts hown hK hW (fun _ h => List.mem_cons_of_mem _ (List.mem_append_right _ h)) (sm_i 0 hB (by decide)) (sm_c0 hB) rfl 20 (by decide) rfl rfl (List.mem_of_getElem? (i := 1) rfl) dX8_next_102 ?_
    obtain ⟨r50, σ51, eσ51, hs⟩ := sp_bind hs
    refine sv_goI (σ' := σ51) (r := r50) hW F.2.2.2.1 (sv_runV (C := RX8) F hW (k_X8_byteAt hB eσ51 H.size) gX8_next_X8_byteAt rfl ⟨rfl, rfl⟩ 1 (by decide +kernel) (sv_room2 (by omega) (by omega)) (sm_i 0 hB (by decide)) (sm_c0 hB) rfl rfl hl.1 rfl (Nat.le_of_ble_eq_true rfl) dX8_next_105 ⟨Nat.zero_le _, Nat.zero_le _⟩) (fun H locs hW => ?_)
    refine lv_i2l (v := r50.toInt64) hx hb dX8_next_108 rfl ?_
    refine lv_ldc2 (own := RX8) (index := 133) (v := 97) hx hb hown (hts _ (List.mem_of_getElem? (i := 5) rfl)) dX8_next_109 ?_
    refine lv_ldc2 (own := RX8) (index := 135) (v := 122) hx hb hown (hts _ (List.mem_of_getElem? (i := 6) rfl)) dX8_next_112 ?_
    obtain ⟨r52, σ53, eσ53, hs⟩ := sp_bind hs
    refine sv_goI (σ' := σ53) (r := r52) hW F.2.2.2.1 (sv_runT F hW (k_X8_in hB eσ53 H.size) gX8_next_X8_in rfl ⟨rfl, rfl⟩ 3 (by decide +kernel) (sv_room2 (by omega) (by omega)) rfl hl.1 rfl (Nat.le_of_ble_eq_true rfl) dX8_next_115 ⟨Nat.zero_le _, Nat.zero_le _⟩) (fun H locs hW => ?_)
    refine lv_if_eq (tgt := 321) hx hb dX8_next_118 (by decide) (fun c54 => ?_) (fun c54 => ?_)
    · replace hs := (sp_ite hs).1 c54
      cases hs
      exact sv_vret hx hb hr hlk hW dX8_next_321
    · replace hs := (sp_ite hs).2 c54
      refine lv_aload_n hx hb dX8_next_121 rfl (lv_at hl 0 rfl) ?_
      refine lv_dup hx hb dX8_next_122 rfl ?_
      refine sv_get (own := RX8) (C := RX8) (Tf := TX8) (N := 44) (index := 121) (κ := (0, 0)) (v := .int (σ53.1 0 20)) hx hb hts hown hK hW (fun _ h => List.mem_cons_of_mem _ (List.mem_append_right _ h)) (sm_i 0 hB (by decide)) (sm_c0 hB) rfl 20 (by decide) rfl rfl (List.mem_of_getElem? (i := 1) rfl) dX8_next_123 ?_
      refine lv_iconst (v := 1) hx hb dX8_next_126 (by decide) ?_
      refine lv_iadd hx hb dX8_next_127 ?_
      refine sv_putI (own := RX8) (C := RX8) (Tf := TX8) (N := 44) (index := 121) hx hb hts hown hK hW (fun _ h => List.mem_cons_of_mem _ (List.mem_append_right _ h)) tyX8 tyX8_ok nmX8 (sm_i 0 hB (by decide)) (sm_c0 hB) rfl 20 (by decide) rfl rfl (ty := .int) (by decide +kernel) rfl rfl (List.mem_of_getElem? (i := 1) rfl) dX8_next_128 (fun σ55 H locs eσ55 hW => ?_)
      replace hs := sp_let hs eσ55
      refine lv_goto (tgt := 100) hx hb dX8_next_131 (by decide) ?_
      exact ih σ55 H locs ls (lv_sub hl [0] rfl) hW hs
set_option maxRecDepth 100000 in
set_option maxHeartbeats 4000000 in
theorem b_X8_next_160 {p : Program} {l : Launch} {e : Env} {s : State} {m : MethodId} {args : Array Value} {below : List Frame} {meth : Method} {c : Code} {D : va_G} {T : Nat → ClassId} {A : Nat → Prop} {h : Nat → Nat} {θ : sv_T}  {r : Unit} {σ' : sv_S} (hB : sm_base θ)  (F : sv_F sm_X p m c cX8_next 3 s args wsX8_next RX8 D (sm_tys T) A) (hr : meth.sig.returnType = none) (hlk : meth.locks = false)  : ∀ (n : Nat), ∀ (x2 : Int32) (σ : sv_S) (H : Heap) (locs : List Loc) (ls : Array Slot), lv_has ls 3 [(0, .ref (h 0)), (2, .int x2)] → sv_W D T A s h θ σ H locs → q_X8_next_B160 θ  n x2 σ = some (r, σ') → W p l e (sv_rm 1 25) s m args below meth c H locs 0 0 (MQ below (va_Qv (fun (_ : Unit) => True) (fun _ t => va_P D vwCl (sv_ws T h θ σ') t.heap) A) args s 0 0 A) (F0 m 160 ls []) := by
  have hx := F.1.1
  have hb := F.1.2.1
  have hts := F.1.2.2.2.2
  have hown := F.1.2.2.2.1
  have hK := F.2.1
  intro n
  induction n with
  | zero =>
    intro x2 σ H locs ls hl hW hs
    have hs : (none : Option (Unit × sv_S)) = some (r, σ') := hs
    cases hs
  | succ n ih =>
    intro x2 σ H locs ls hl hW hs
    have hs : q_X8_next_B160_b θ  (q_X8_next_B160 θ  n) x2 σ = some (r, σ') := hs
    unfold q_X8_next_B160_b at hs
    refine lv_aload_n hx hb dX8_next_160 rfl (lv_at hl 0 rfl) ?_
    refine lv_aload_n hx hb dX8_next_161 rfl (lv_at hl 0 rfl) ?_
    refine sv_get (own := RX8) (C := RX8) (Tf := TX8) (N := 44) (index := 121) (κ := (0, 0)) (v := .int (σ.1 0 20)) hx hb hts hown hK hW (fun _ h => List.mem_cons_of_mem _ (List.mem_append_right _ h)) (sm_i 0 hB (by decide)) (sm_c0 hB) rfl 20 (by decide) rfl rfl (List.mem_of_getElem? (i := 1) rfl) dX8_next_162 ?_
    obtain ⟨r32, σ33, eσ33, hs⟩ := sp_bind hs
    refine sv_goI (σ' := σ33) (r := r32) hW F.2.2.2.1 (sv_runV (C := RX8) F hW (k_X8_byteAt hB eσ33 H.size) gX8_next_X8_byteAt rfl ⟨rfl, rfl⟩ 1 (by decide +kernel) (sv_room2 (by omega) (by omega)) (sm_i 0 hB (by decide)) (sm_c0 hB) rfl rfl hl.1 rfl (Nat.le_of_ble_eq_true rfl) dX8_next_165 ⟨Nat.zero_le _, Nat.zero_le _⟩) (fun H locs hW => ?_)
    refine lv_i2l (v := r32.toInt64) hx hb dX8_next_168 rfl ?_
    refine lv_ldc2 (own := RX8) (index := 137) (v := 48) hx hb hown (hts _ (List.mem_of_getElem? (i := 7) rfl)) dX8_next_169 ?_
    refine lv_ldc2 (own := RX8) (index := 139) (v := 57) hx hb hown (hts _ (List.mem_of_getElem? (i := 8) rfl)) dX8_next_172 ?_
    obtain ⟨r34, σ35, eσ35, hs⟩ := sp_bind hs
    refine sv_goI (σ' := σ35) (r := r34) hW F.2.2.2.1 (sv_runT F hW (k_X8_in hB eσ35 H.size) gX8_next_X8_in rfl ⟨rfl, rfl⟩ 3 (by decide +kernel) (sv_room2 (by omega) (by omega)) rfl hl.1 rfl (Nat.le_of_ble_eq_true rfl) dX8_next_175 ⟨Nat.zero_le _, Nat.zero_le _⟩) (fun H locs hW => ?_)
    refine lv_if_eq (tgt := 235) hx hb dX8_next_178 (by decide) (fun c36 => ?_) (fun c36 => ?_)
    · replace hs := (sp_ite hs).1 c36
      refine lv_aload_n hx hb dX8_next_235 rfl (lv_at hl 0 rfl) ?_
      refine lv_iload_n hx hb dX8_next_236 rfl (lv_at hl 1 rfl) ?_
      refine lv_iconst (v := 4) hx hb dX8_next_237 (by decide) ?_
      refine lv_icmp_le (tgt := 245) hx hb dX8_next_238 (by decide) (fun c37 => ?_) (fun c37 => ?_)
      · replace hs := (sp_ite hs).1 c37
        refine lv_iconst (v := 2) hx hb dX8_next_245 (by decide) ?_
        refine sv_putI (own := RX8) (C := RX8) (Tf := TX8) (N := 44) (index := 130) hx hb hts hown hK hW (fun _ h => List.mem_cons_of_mem _ (List.mem_append_right _ h)) tyX8 tyX8_ok nmX8 (sm_i 0 hB (by decide)) (sm_c0 hB) rfl 21 (by decide) rfl rfl (ty := .int) (by decide +kernel) rfl rfl (List.mem_of_getElem? (i := 3) rfl) dX8_next_246 (fun σ38 H locs eσ38 hW => ?_)
        replace hs := sp_let hs eσ38
        refine lv_goto (tgt := 321) hx hb dX8_next_249 (by decide) ?_
        cases hs
        exact sv_vret hx hb hr hlk hW dX8_next_321
      · replace hs := (sp_ite hs).2 c37
        refine lv_iconst (v := 4) hx hb dX8_next_241 (by decide) ?_
        refine lv_goto (tgt := 246) hx hb dX8_next_242 (by decide) ?_
        refine sv_putI (own := RX8) (C := RX8) (Tf := TX8) (N := 44) (index := 130) hx hb hts hown hK hW (fun _ h => List.mem_cons_of_mem _ (List.mem_append_right _ h)) tyX8 tyX8_ok nmX8 (sm_i 0 hB (by decide)) (sm_c0 hB) rfl 21 (by decide) rfl rfl (ty := .int) (by decide +kernel) rfl rfl (List.mem_of_getElem? (i := 3) rfl) dX8_next_246 (fun σ39 H locs eσ39 hW => ?_)
        replace hs := sp_let hs eσ39
        refine lv_goto (tgt := 321) hx hb dX8_next_249 (by decide) ?_
        cases hs
        exact sv_vret hx hb hr hlk hW dX8_next_321
    · replace hs := (sp_ite hs).2 c36
      refine lv_aload_n hx hb dX8_next_181 rfl (lv_at hl 0 rfl) ?_
      refine lv_iload_n hx hb dX8_next_182 rfl (lv_at hl 1 rfl) ?_
      refine lv_iconst (v := 4) hx hb dX8_next_183 (by decide) ?_
      refine lv_icmp_ge (tgt := 212) hx hb dX8_next_184 (by decide) (fun c40 => ?_) (fun c40 => ?_)
      · replace hs := (sp_ite hs).1 c40
        refine lv_aload_n hx hb dX8_next_212 rfl (lv_at hl 0 rfl) ?_
        refine sv_get (own := RX8) (C := RX8) (Tf := TX8) (N := 44) (index := 141) (κ := (1, 0)) (v := .long (σ35.2.1 0 23)) hx hb hts hown hK hW (fun _ h => List.mem_cons_of_mem _ (List.mem_append_right _ h)) (sm_i 0 hB (by decide)) (sm_c0 hB) rfl 23 (by decide) rfl rfl (List.mem_of_getElem? (i := 9) rfl) dX8_next_213 ?_
        refine sv_putJ (own := RX8) (C := RX8) (Tf := TX8) (N := 44) (index := 141) hx hb hts hown hK hW (fun _ h => List.mem_cons_of_mem _ (List.mem_append_right _ h)) tyX8 tyX8_ok nmX8 (sm_i 0 hB (by decide)) (sm_c0 hB) rfl 23 (by decide) rfl rfl (by decide +kernel) (List.mem_of_getElem? (i := 9) rfl) dX8_next_216 (fun σ41 H locs eσ41 hW => ?_)
        replace hs := sp_let hs eσ41
        obtain ⟨v42, ev42⟩ : ∃ y : Int32, y = x2 + 1 := ⟨_, rfl⟩
        replace hs := sp_let hs ev42
        refine lv_iinc (v := v42) (lv' := [(2, .int v42), (0, .ref (h 0))]) hx hb dX8_next_219 hl (k := 1) rfl (by rw [ev42]; rfl) (by decide) rfl (fun ls hl => ?_)
        refine lv_aload_n hx hb dX8_next_222 rfl (lv_at hl 1 rfl) ?_
        refine lv_dup hx hb dX8_next_223 rfl ?_
        refine sv_get (own := RX8) (C := RX8) (Tf := TX8) (N := 44) (index := 121) (κ := (0, 0)) (v := .int (σ41.1 0 20)) hx hb hts hown hK hW (fun _ h => List.mem_cons_of_mem _ (List.mem_append_right _ h)) (sm_i 0 hB (by decide)) (sm_c0 hB) rfl 20 (by decide) rfl rfl (List.mem_of_getElem? (i := 1) rfl) dX8_next_224 ?_
        refine lv_iconst (v := 1) hx hb dX8_next_227 (by decide) ?_
        refine lv_iadd hx hb dX8_next_228 ?_
        refine sv_putI (own := RX8) (C := RX8) (Tf := TX8) (N := 44) (index := 121) hx hb hts hown hK hW (fun _ h => List.mem_cons_of_mem _ (List.mem_append_right _ h)) tyX8 tyX8_ok nmX8 (sm_i 0 hB (by decide)) (sm_c0 hB) rfl 20 (by decide) rfl rfl (ty := .int) (by decide +kernel) rfl rfl (List.mem_of_getElem? (i := 1) rfl) dX8_next_229 (fun σ43 H locs eσ43 hW => ?_)
        replace hs := sp_let hs eσ43
        refine lv_goto (tgt := 160) hx hb dX8_next_232 (by decide) ?_
        exact ih v42 σ43 H locs ls (lv_sub hl [1, 0] rfl) hW hs
      · replace hs := (sp_ite hs).2 c40
        refine lv_ldc2 (own := RX8) (index := 145) (v := 10) hx hb hown (hts _ (List.mem_of_getElem? (i := 10) rfl)) dX8_next_187 ?_
        refine lv_aload_n hx hb dX8_next_190 rfl (lv_at hl 0 rfl) ?_
        refine sv_get (own := RX8) (C := RX8) (Tf := TX8) (N := 44) (index := 141) (κ := (1, 0)) (v := .long (σ35.2.1 0 23)) hx hb hts hown hK hW (fun _ h => List.mem_cons_of_mem _ (List.mem_append_right _ h)) (sm_i 0 hB (by decide)) (sm_c0 hB) rfl 23 (by decide) rfl rfl (List.mem_of_getElem? (i := 9) rfl) dX8_next_191 ?_
        refine lv_lmul hx hb dX8_next_194 ?_
        refine lv_aload_n hx hb dX8_next_195 rfl (lv_at hl 0 rfl) ?_
        refine lv_aload_n hx hb dX8_next_196 rfl (lv_at hl 0 rfl) ?_
        refine sv_get (own := RX8) (C := RX8) (Tf := TX8) (N := 44) (index := 121) (κ := (0, 0)) (v := .int (σ35.1 0 20)) hx hb hts hown hK hW (fun _ h => List.mem_cons_of_mem _ (List.mem_append_right _ h)) (sm_i 0 hB (by decide)) (sm_c0 hB) rfl 20 (by decide) rfl rfl (List.mem_of_getElem? (i := 1) rfl) dX8_next_197 ?_
        obtain ⟨r44, σ45, eσ45, hs⟩ := sp_bind hs
        refine sv_goI (σ' := σ45) (r := r44) hW F.2.2.2.1 (sv_runV (C := RX8) F hW (k_X8_byteAt hB eσ45 H.size) gX8_next_X8_byteAt rfl ⟨rfl, rfl⟩ 1 (by decide +kernel) (sv_room2 (by omega) (by omega)) (sm_i 0 hB (by decide)) (sm_c0 hB) rfl rfl hl.1 rfl (Nat.le_of_ble_eq_true rfl) dX8_next_200 ⟨Nat.zero_le _, Nat.zero_le _⟩) (fun H locs hW => ?_)
        refine lv_i2l (v := r44.toInt64) hx hb dX8_next_203 rfl ?_
        refine lv_ladd hx hb dX8_next_204 ?_
        refine lv_ldc2 (own := RX8) (index := 137) (v := 48) hx hb hown (hts _ (List.mem_of_getElem? (i := 7) rfl)) dX8_next_205 ?_
        refine lv_lsub hx hb dX8_next_208 ?_
        refine lv_goto (tgt := 216) hx hb dX8_next_209 (by decide) ?_
        refine sv_putJ (own := RX8) (C := RX8) (Tf := TX8) (N := 44) (index := 141) hx hb hts hown hK hW (fun _ h => List.mem_cons_of_mem _ (List.mem_append_right _ h)) tyX8 tyX8_ok nmX8 (sm_i 0 hB (by decide)) (sm_c0 hB) rfl 23 (by decide) rfl rfl (by decide +kernel) (List.mem_of_getElem? (i := 9) rfl) dX8_next_216 (fun σ46 H locs eσ46 hW => ?_)
        replace hs := sp_let hs eσ46
        obtain ⟨v47, ev47⟩ : ∃ y : Int32, y = x2 + 1 := ⟨_, rfl⟩
        replace hs := sp_let hs ev47
        refine lv_iinc (v := v47) (lv' := [(2, .int v47), (0, .ref (h 0))]) hx hb dX8_next_219 hl (k := 1) rfl (by rw [ev47]; rfl) (by decide) rfl (fun ls hl => ?_)
        refine lv_aload_n hx hb dX8_next_222 rfl (lv_at hl 1 rfl) ?_
        refine lv_dup hx hb dX8_next_223 rfl ?_
        refine sv_get (own := RX8) (C := RX8) (Tf := TX8) (N := 44) (index := 121) (κ := (0, 0)) (v := .int (σ46.1 0 20)) hx hb hts hown hK hW (fun _ h => List.mem_cons_of_mem _ (List.mem_append_right _ h)) (sm_i 0 hB (by decide)) (sm_c0 hB) rfl 20 (by decide) rfl rfl (List.mem_of_getElem? (i := 1) rfl) dX8_next_224 ?_
        refine lv_iconst (v := 1) hx hb dX8_next_227 (by decide) ?_
        refine lv_iadd hx hb dX8_next_228 ?_
        refine sv_putI (own := RX8) (C := RX8) (Tf := TX8) (N := 44) (index := 121) hx hb hts hown hK hW (fun _ h => List.mem_cons_of_mem _ (List.mem_append_right _ h)) tyX8 tyX8_ok nmX8 (sm_i 0 hB (by decide)) (sm_c0 hB) rfl 20 (by decide) rfl rfl (ty := .int) (by decide +kernel) rfl rfl (List.mem_of_getElem? (i := 1) rfl) dX8_next_229 (fun σ48 H locs eσ48 hW => ?_)
        replace hs := sp_let hs eσ48
        refine lv_goto (tgt := 160) hx hb dX8_next_232 (by decide) ?_
        exact ih v47 σ48 H locs ls (lv_sub hl [1, 0] rfl) hW hs
set_option maxRecDepth 100000 in
set_option maxHeartbeats 4000000 in
theorem b_X8_next_300 {p : Program} {l : Launch} {e : Env} {s : State} {m : MethodId} {args : Array Value} {below : List Frame} {meth : Method} {c : Code} {D : va_G} {T : Nat → ClassId} {A : Nat → Prop} {h : Nat → Nat} {θ : sv_T}  {r : Unit} {σ' : sv_S} (hB : sm_base θ)  (F : sv_F sm_X p m c cX8_next 3 s args wsX8_next RX8 D (sm_tys T) A) (hr : meth.sig.returnType = none) (hlk : meth.locks = false)  : ∀ (x1 : Int32) (σ : sv_S) (H : Heap) (locs : List Loc) (ls : Array Slot), lv_has ls 3 [(0, .ref (h 0)), (1, .int x1)] → sv_W D T A s h θ σ H locs → q_X8_next_B300 θ  x1 σ = some (r, σ') → W p l e (sv_rm 1 25) s m args below meth c H locs 0 0 (MQ below (va_Qv (fun (_ : Unit) => True) (fun _ t => va_P D vwCl (sv_ws T h θ σ') t.heap) A) args s 0 0 A) (F0 m 300 ls []) := by
  have hx := F.1.1
  have hb := F.1.2.1
  have hts := F.1.2.2.2.2
  have hown := F.1.2.2.2.1
  have hK := F.2.1
  intro x1 σ H locs ls hl hW hs
  unfold q_X8_next_B300 at hs
  refine lv_aload_n hx hb dX8_next_300 rfl (lv_at hl 0 rfl) ?_
  refine lv_iconst (v := 3) hx hb dX8_next_301 (by decide) ?_
  refine sv_putI (own := RX8) (C := RX8) (Tf := TX8) (N := 44) (index := 130) hx hb hts hown hK hW (fun _ h => List.mem_cons_of_mem _ (List.mem_append_right _ h)) tyX8 tyX8_ok nmX8 (sm_i 0 hB (by decide)) (sm_c0 hB) rfl 21 (by decide) rfl rfl (ty := .int) (by decide +kernel) rfl rfl (List.mem_of_getElem? (i := 3) rfl) dX8_next_302 (fun σ20 H locs eσ20 hW => ?_)
  replace hs := sp_let hs eσ20
  refine lv_aload_n hx hb dX8_next_305 rfl (lv_at hl 0 rfl) ?_
  refine lv_iload_n hx hb dX8_next_306 rfl (lv_at hl 1 rfl) ?_
  refine lv_i2l (v := x1.toInt64) hx hb dX8_next_307 rfl ?_
  refine sv_putJ (own := RX8) (C := RX8) (Tf := TX8) (N := 44) (index := 141) hx hb hts hown hK hW (fun _ h => List.mem_cons_of_mem _ (List.mem_append_right _ h)) tyX8 tyX8_ok nmX8 (sm_i 0 hB (by decide)) (sm_c0 hB) rfl 23 (by decide) rfl rfl (by decide +kernel) (List.mem_of_getElem? (i := 9) rfl) dX8_next_308 (fun σ21 H locs eσ21 hW => ?_)
  replace hs := sp_let hs eσ21
  refine lv_aload_n hx hb dX8_next_311 rfl (lv_at hl 0 rfl) ?_
  refine lv_dup hx hb dX8_next_312 rfl ?_
  refine sv_get (own := RX8) (C := RX8) (Tf := TX8) (N := 44) (index := 121) (κ := (0, 0)) (v := .int (σ21.1 0 20)) hx hb hts hown hK hW (fun _ h => List.mem_cons_of_mem _ (List.mem_append_right _ h)) (sm_i 0 hB (by decide)) (sm_c0 hB) rfl 20 (by decide) rfl rfl (List.mem_of_getElem? (i := 1) rfl) dX8_next_313 ?_
  refine lv_iconst (v := 1) hx hb dX8_next_316 (by decide) ?_
  refine lv_iadd hx hb dX8_next_317 ?_
  refine sv_putI (own := RX8) (C := RX8) (Tf := TX8) (N := 44) (index := 121) hx hb hts hown hK hW (fun _ h => List.mem_cons_of_mem _ (List.mem_append_right _ h)) tyX8 tyX8_ok nmX8 (sm_i 0 hB (by decide)) (sm_c0 hB) rfl 20 (by decide) rfl rfl (ty := .int) (by decide +kernel) rfl rfl (List.mem_of_getElem? (i := 1) rfl) dX8_next_318 (fun σ22 H locs eσ22 hW => ?_)
  replace hs := sp_let hs eσ22
  cases hs
  exact sv_vret hx hb hr hlk hW dX8_next_321
set_option maxRecDepth 100000 in
set_option maxHeartbeats 4000000 in
theorem b_X8_next_0 {p : Program} {l : Launch} {e : Env} {s : State} {m : MethodId} {args : Array Value} {below : List Frame} {meth : Method} {c : Code} {D : va_G} {T : Nat → ClassId} {A : Nat → Prop} {h : Nat → Nat} {θ : sv_T}  {r : Unit} {σ' : sv_S} (hB : sm_base θ)  (F : sv_F sm_X p m c cX8_next 3 s args wsX8_next RX8 D (sm_tys T) A) (hr : meth.sig.returnType = none) (hlk : meth.locks = false)  : ∀ (n : Nat), ∀  (σ : sv_S) (H : Heap) (locs : List Loc) (ls : Array Slot), lv_has ls 3 [(0, .ref (h 0))] → sv_W D T A s h θ σ H locs → q_X8_next_B0 θ  n σ = some (r, σ') → W p l e (sv_rm 1 25) s m args below meth c H locs 0 0 (MQ below (va_Qv (fun (_ : Unit) => True) (fun _ t => va_P D vwCl (sv_ws T h θ σ') t.heap) A) args s 0 0 A) (F0 m 0 ls []) := by
  have hx := F.1.1
  have hb := F.1.2.1
  have hts := F.1.2.2.2.2
  have hown := F.1.2.2.2.1
  have hK := F.2.1
  intro n
  induction n with
  | zero =>
    intro σ H locs ls hl hW hs
    have hs : (none : Option (Unit × sv_S)) = some (r, σ') := hs
    cases hs
  | succ n ih =>
    intro σ H locs ls hl hW hs
    have hs : q_X8_next_B0_b θ  (q_X8_next_B0 θ  n) σ = some (r, σ') := hs
    unfold q_X8_next_B0_b at hs
    refine lv_aload_n hx hb dX8_next_0 rfl (lv_at hl 0 rfl) ?_
    refine lv_aload_n hx hb dX8_next_1 rfl (lv_at hl 0 rfl) ?_
    refine sv_get (own := RX8) (C := RX8) (Tf := TX8) (N := 44) (index := 121) (κ := (0, 0)) (v := .int (σ.1 0 20)) hx hb hts hown hK hW (fun _ h => List.mem_cons_of_mem _ (List.mem_append_right _ h)) (sm_i 0 hB (by decide)) (sm_c0 hB) rfl 20 (by decide) rfl rfl (List.mem_of_getElem? (i := 1) rfl) dX8_next_2 ?_
    obtain ⟨r1, σ2, eσ2, hs⟩ := sp_bind hs
    refine sv_goI (σ' := σ2) (r := r1) hW F.2.2.2.1 (sv_runV (C := RX8) F hW (k_X8_byteAt hB eσ2 H.size) gX8_next_X8_byteAt rfl ⟨rfl, rfl⟩ 1 (by decide +kernel) (sv_room2 (by omega) (by omega)) (sm_i 0 hB (by decide)) (sm_c0 hB) rfl rfl hl.1 rfl (Nat.le_of_ble_eq_true rfl) dX8_next_5 ⟨Nat.zero_le _, Nat.zero_le _⟩) (fun H locs hW => ?_)
    refine lv_bipush (v := 32) hx hb dX8_next_8 (by decide) ?_
    refine lv_icmp_eq (tgt := 26) hx hb dX8_next_10 (by decide) (fun c3 => ?_) (fun c3 => ?_)
    · replace hs := (sp_ite hs).1 c3
      refine lv_aload_n hx hb dX8_next_26 rfl (lv_at hl 0 rfl) ?_
      refine lv_dup hx hb dX8_next_27 rfl ?_
      refine sv_get (own := RX8) (C := RX8) (Tf := TX8) (N := 44) (index := 121) (κ := (0, 0)) (v := .int (σ2.1 0 20)) hx hb hts hown hK hW (fun _ h => List.mem_cons_of_mem _ (List.mem_append_right _ h)) (sm_i 0 hB (by decide)) (sm_c0 hB) rfl 20 (by decide) rfl rfl (List.mem_of_getElem? (i := 1) rfl) dX8_next_28 ?_
      refine lv_iconst (v := 1) hx hb dX8_next_31 (by decide) ?_
      refine lv_iadd hx hb dX8_next_32 ?_
      refine sv_putI (own := RX8) (C := RX8) (Tf := TX8) (N := 44) (index := 121) hx hb hts hown hK hW (fun _ h => List.mem_cons_of_mem _ (List.mem_append_right _ h)) tyX8 tyX8_ok nmX8 (sm_i 0 hB (by decide)) (sm_c0 hB) rfl 20 (by decide) rfl rfl (ty := .int) (by decide +kernel) rfl rfl (List.mem_of_getElem? (i := 1) rfl) dX8_next_33 (fun σ4 H locs eσ4 hW => ?_)
      replace hs := sp_let hs eσ4
      refine lv_goto (tgt := 0) hx hb dX8_next_36 (by decide) ?_
      exact ih σ4 H locs ls (lv_sub hl [0] rfl) hW hs
    · replace hs := (sp_ite hs).2 c3
      refine lv_aload_n hx hb dX8_next_13 rfl (lv_at hl 0 rfl) ?_
      refine lv_aload_n hx hb dX8_next_14 rfl (lv_at hl 0 rfl) ?_
      refine sv_get (own := RX8) (C := RX8) (Tf := TX8) (N := 44) (index := 121) (κ := (0, 0)) (v := .int (σ2.1 0 20)) hx hb hts hown hK hW (fun _ h => List.mem_cons_of_mem _ (List.mem_append_right _ h)) (sm_i 0 hB (by decide)) (sm_c0 hB) rfl 20 (by decide) rfl rfl (List.mem_of_getElem? (i := 1) rfl) dX8_next_15 ?_
      obtain ⟨r5, σ6, eσ6, hs⟩ := sp_bind hs
      refine sv_goI (σ' := σ6) (r := r5) hW F.2.2.2.1 (sv_runV (C := RX8) F hW (k_X8_byteAt hB eσ6 H.size) gX8_next_X8_byteAt rfl ⟨rfl, rfl⟩ 1 (by decide +kernel) (sv_room2 (by omega) (by omega)) (sm_i 0 hB (by decide)) (sm_c0 hB) rfl rfl hl.1 rfl (Nat.le_of_ble_eq_true rfl) dX8_next_18 ⟨Nat.zero_le _, Nat.zero_le _⟩) (fun H locs hW => ?_)
      refine lv_bipush (v := 10) hx hb dX8_next_21 (by decide) ?_
      refine lv_icmp_ne (tgt := 39) hx hb dX8_next_23 (by decide) (fun c7 => ?_) (fun c7 => ?_)
      · replace hs := (sp_ite hs).2 c7
        refine lv_aload_n hx hb dX8_next_39 rfl (lv_at hl 0 rfl) ?_
        refine lv_aload_n hx hb dX8_next_40 rfl (lv_at hl 0 rfl) ?_
        refine sv_get (own := RX8) (C := RX8) (Tf := TX8) (N := 44) (index := 121) (κ := (0, 0)) (v := .int (σ6.1 0 20)) hx hb hts hown hK hW (fun _ h => List.mem_cons_of_mem _ (List.mem_append_right _ h)) (sm_i 0 hB (by decide)) (sm_c0 hB) rfl 20 (by decide) rfl rfl (List.mem_of_getElem? (i := 1) rfl) dX8_next_41 ?_
        refine sv_putI (own := RX8) (C := RX8) (Tf := TX8) (N := 44) (index := 127) hx hb hts hown hK hW (fun _ h => List.mem_cons_of_mem _ (List.mem_append_right _ h)) tyX8 tyX8_ok nmX8 (sm_i 0 hB (by decide)) (sm_c0 hB) rfl 22 (by decide) rfl rfl (ty := .int) (by decide +kernel) rfl rfl (List.mem_of_getElem? (i := 2) rfl) dX8_next_44 (fun σ8 H locs eσ8 hW => ?_)
        replace hs := sp_let hs eσ8
        refine lv_aload_n hx hb dX8_next_47 rfl (lv_at hl 0 rfl) ?_
        refine lv_aload_n hx hb dX8_next_48 rfl (lv_at hl 0 rfl) ?_
        refine sv_get (own := RX8) (C := RX8) (Tf := TX8) (N := 44) (index := 121) (κ := (0, 0)) (v := .int (σ8.1 0 20)) hx hb hts hown hK hW (fun _ h => List.mem_cons_of_mem _ (List.mem_append_right _ h)) (sm_i 0 hB (by decide)) (sm_c0 hB) rfl 20 (by decide) rfl rfl (List.mem_of_getElem? (i := 1) rfl) dX8_next_49 ?_
        obtain ⟨r9, σ10, eσ10, hs⟩ := sp_bind hs
        refine sv_goI (σ' := σ10) (r := r9) hW F.2.2.2.1 (sv_runV (C := RX8) F hW (k_X8_byteAt hB eσ10 H.size) gX8_next_X8_byteAt rfl ⟨rfl, rfl⟩ 1 (by decide +kernel) (sv_room2 (by omega) (by omega)) (sm_i 0 hB (by decide)) (sm_c0 hB) rfl rfl hl.1 rfl (Nat.le_of_ble_eq_true rfl) dX8_next_52 ⟨Nat.zero_le _, Nat.zero_le _⟩) (fun H locs hW => ?_)
        refine lv_istore_n (lv' := [(1, .int r9), (0, .ref (h 0))]) hx hb dX8_next_55 rfl hl (by decide) rfl (fun ls hl => ?_)
        refine lv_aload_n hx hb dX8_next_56 rfl (lv_at hl 1 rfl) ?_
        refine lv_iconst (v := 4) hx hb dX8_next_57 (by decide) ?_
        refine sv_putI (own := RX8) (C := RX8) (Tf := TX8) (N := 44) (index := 130) hx hb hts hown hK hW (fun _ h => List.mem_cons_of_mem _ (List.mem_append_right _ h)) tyX8 tyX8_ok nmX8 (sm_i 0 hB (by decide)) (sm_c0 hB) rfl 21 (by decide) rfl rfl (ty := .int) (by decide +kernel) rfl rfl (List.mem_of_getElem? (i := 3) rfl) dX8_next_58 (fun σ11 H locs eσ11 hW => ?_)
        replace hs := sp_let hs eσ11
        refine lv_iload_n hx hb dX8_next_61 rfl (lv_at hl 0 rfl) ?_
        refine lv_if_ge (tgt := 81) hx hb dX8_next_62 (by decide) (fun c12 => ?_) (fun c12 => ?_)
        · replace hs := (sp_ite hs).1 c12
          refine lv_iload_n hx hb dX8_next_81 rfl (lv_at hl 0 rfl) ?_
          refine lv_i2l (v := r9.toInt64) hx hb dX8_next_82 rfl ?_
          refine lv_ldc2 (own := RX8) (index := 133) (v := 97) hx hb hown (hts _ (List.mem_of_getElem? (i := 5) rfl)) dX8_next_83 ?_
          refine lv_ldc2 (own := RX8) (index := 135) (v := 122) hx hb hown (hts _ (List.mem_of_getElem? (i := 6) rfl)) dX8_next_86 ?_
          obtain ⟨r13, σ14, eσ14, hs⟩ := sp_bind hs
          refine sv_goI (σ' := σ14) (r := r13) hW F.2.2.2.1 (sv_runT F hW (k_X8_in hB eσ14 H.size) gX8_next_X8_in rfl ⟨rfl, rfl⟩ 3 (by decide +kernel) (sv_room2 (by omega) (by omega)) rfl hl.1 rfl (Nat.le_of_ble_eq_true rfl) dX8_next_89 ⟨Nat.zero_le _, Nat.zero_le _⟩) (fun H locs hW => ?_)
          refine lv_if_eq (tgt := 134) hx hb dX8_next_92 (by decide) (fun c15 => ?_) (fun c15 => ?_)
          · replace hs := (sp_ite hs).1 c15
            refine lv_iload_n hx hb dX8_next_134 rfl (lv_at hl 0 rfl) ?_
            refine lv_i2l (v := r9.toInt64) hx hb dX8_next_135 rfl ?_
            refine lv_ldc2 (own := RX8) (index := 137) (v := 48) hx hb hown (hts _ (List.mem_of_getElem? (i := 7) rfl)) dX8_next_136 ?_
            refine lv_ldc2 (own := RX8) (index := 139) (v := 57) hx hb hown (hts _ (List.mem_of_getElem? (i := 8) rfl)) dX8_next_139 ?_
            obtain ⟨r16, σ17, eσ17, hs⟩ := sp_bind hs
            refine sv_goI (σ' := σ17) (r := r16) hW F.2.2.2.1 (sv_runT F hW (k_X8_in hB eσ17 H.size) gX8_next_X8_in rfl ⟨rfl, rfl⟩ 3 (by decide +kernel) (sv_room2 (by omega) (by omega)) rfl hl.1 rfl (Nat.le_of_ble_eq_true rfl) dX8_next_142 ⟨Nat.zero_le _, Nat.zero_le _⟩) (fun H locs hW => ?_)
            refine lv_if_eq (tgt := 252) hx hb dX8_next_145 (by decide) (fun c18 => ?_) (fun c18 => ?_)
            · replace hs := (sp_ite hs).1 c18
              refine lv_iload_n hx hb dX8_next_252 rfl (lv_at hl 0 rfl) ?_
              refine lv_bipush (v := 40) hx hb dX8_next_253 (by decide) ?_
              refine lv_icmp_eq (tgt := 300) hx hb dX8_next_255 (by decide) (fun c19 => ?_) (fun c19 => ?_)
              · replace hs := (sp_ite hs).1 c19
                exact b_X8_next_300 hB F hr hlk r9 σ17 H locs ls (lv_sub hl [1, 0] rfl) hW hs
              · replace hs := (sp_ite hs).2 c19
                refine lv_iload_n hx hb dX8_next_258 rfl (lv_at hl 0 rfl) ?_
                refine lv_bipush (v := 41) hx hb dX8_next_259 (by decide) ?_
                refine lv_icmp_eq (tgt := 300) hx hb dX8_next_261 (by decide) (fun c23 => ?_) (fun c23 => ?_)
                · replace hs := (sp_ite hs).1 c23
                  exact b_X8_next_300 hB F hr hlk r9 σ17 H locs ls (lv_sub hl [1, 0] rfl) hW hs
                · replace hs := (sp_ite hs).2 c23
                  refine lv_iload_n hx hb dX8_next_264 rfl (lv_at hl 0 rfl) ?_
                  refine lv_bipush (v := 59) hx hb dX8_next_265 (by decide) ?_
                  refine lv_icmp_eq (tgt := 300) hx hb dX8_next_267 (by decide) (fun c24 => ?_) (fun c24 => ?_)
                  · replace hs := (sp_ite hs).1 c24
                    exact b_X8_next_300 hB F hr hlk r9 σ17 H locs ls (lv_sub hl [1, 0] rfl) hW hs
                  · replace hs := (sp_ite hs).2 c24
                    refine lv_iload_n hx hb dX8_next_270 rfl (lv_at hl 0 rfl) ?_
                    refine lv_bipush (v := 43) hx hb dX8_next_271 (by decide) ?_
                    refine lv_icmp_eq (tgt := 300) hx hb dX8_next_273 (by decide) (fun c25 => ?_) (fun c25 => ?_)
                    · replace hs := (sp_ite hs).1 c25
                      exact b_X8_next_300 hB F hr hlk r9 σ17 H locs ls (lv_sub hl [1, 0] rfl) hW hs
                    · replace hs := (sp_ite hs).2 c25
                      refine lv_iload_n hx hb dX8_next_276 rfl (lv_at hl 0 rfl) ?_
                      refine lv_bipush (v := 45) hx hb dX8_next_277 (by decide) ?_
                      refine lv_icmp_eq (tgt := 300) hx hb dX8_next_279 (by decide) (fun c26 => ?_) (fun c26 => ?_)
                      · replace hs := (sp_ite hs).1 c26
                        exact b_X8_next_300 hB F hr hlk r9 σ17 H locs ls (lv_sub hl [1, 0] rfl) hW hs
                      · replace hs := (sp_ite hs).2 c26
                        refine lv_iload_n hx hb dX8_next_282 rfl (lv_at hl 0 rfl) ?_
                        refine lv_bipush (v := 42) hx hb dX8_next_283 (by decide) ?_
                        refine lv_icmp_eq (tgt := 300) hx hb dX8_next_285 (by decide) (fun c27 => ?_) (fun c27 => ?_)
                        · replace hs := (sp_ite hs).1 c27
                          exact b_X8_next_300 hB F hr hlk r9 σ17 H locs ls (lv_sub hl [1, 0] rfl) hW hs
                        · replace hs := (sp_ite hs).2 c27
                          refine lv_iload_n hx hb dX8_next_288 rfl (lv_at hl 0 rfl) ?_
                          refine lv_bipush (v := 60) hx hb dX8_next_289 (by decide) ?_
                          refine lv_icmp_eq (tgt := 300) hx hb dX8_next_291 (by decide) (fun c28 => ?_) (fun c28 => ?_)
                          · replace hs := (sp_ite hs).1 c28
                            exact b_X8_next_300 hB F hr hlk r9 σ17 H locs ls (lv_sub hl [1, 0] rfl) hW hs
                          · replace hs := (sp_ite hs).2 c28
                            refine lv_iload_n hx hb dX8_next_294 rfl (lv_at hl 0 rfl) ?_
                            refine lv_bipush (v := 61) hx hb dX8_next_295 (by decide) ?_
                            refine lv_icmp_ne (tgt := 321) hx hb dX8_next_297 (by decide) (fun c29 => ?_) (fun c29 => ?_)
                            · replace hs := (sp_ite hs).2 c29
                              cases hs
                              exact sv_vret hx hb hr hlk hW dX8_next_321
                            · replace hs := (sp_ite hs).1 c29
                              exact b_X8_next_300 hB F hr hlk r9 σ17 H locs ls (lv_sub hl [1, 0] rfl) hW hs
            · replace hs := (sp_ite hs).2 c18
              refine lv_aload_n hx hb dX8_next_148 rfl (lv_at hl 1 rfl) ?_
              refine lv_iconst (v := 2) hx hb dX8_next_149 (by decide) ?_
              refine sv_putI (own := RX8) (C := RX8) (Tf := TX8) (N := 44) (index := 130) hx hb hts hown hK hW (fun _ h => List.mem_cons_of_mem _ (List.mem_append_right _ h)) tyX8 tyX8_ok nmX8 (sm_i 0 hB (by decide)) (sm_c0 hB) rfl 21 (by decide) rfl rfl (ty := .int) (by decide +kernel) rfl rfl (List.mem_of_getElem? (i := 3) rfl) dX8_next_150 (fun σ30 H locs eσ30 hW => ?_)
              replace hs := sp_let hs eσ30
              refine lv_aload_n hx hb dX8_next_153 rfl (lv_at hl 1 rfl) ?_
              refine lv_lconst (v := 0) hx hb dX8_next_154 (by decide) ?_
              refine sv_putJ (own := RX8) (C := RX8) (Tf := TX8) (N := 44) (index := 141) hx hb hts hown hK hW (fun _ h => List.mem_cons_of_mem _ (List.mem_append_right _ h)) tyX8 tyX8_ok nmX8 (sm_i 0 hB (by decide)) (sm_c0 hB) rfl 23 (by decide) rfl rfl (by decide +kernel) (List.mem_of_getElem? (i := 9) rfl) dX8_next_155 (fun σ31 H locs eσ31 hW => ?_)
              replace hs := sp_let hs eσ31
              refine lv_iconst (v := 0) hx hb dX8_next_158 (by decide) ?_
              refine lv_istore_n (lv' := [(2, .int (0 : Int32)), (1, .int r9), (0, .ref (h 0))]) hx hb dX8_next_159 rfl hl (by decide) rfl (fun ls hl => ?_)
              exact b_X8_next_160 hB F hr hlk sv_N (0 : Int32) σ31 H locs ls (lv_sub hl [2, 0] rfl) hW hs
          · replace hs := (sp_ite hs).2 c15
            refine lv_aload_n hx hb dX8_next_95 rfl (lv_at hl 1 rfl) ?_
            refine lv_iconst (v := 1) hx hb dX8_next_96 (by decide) ?_
            refine sv_putI (own := RX8) (C := RX8) (Tf := TX8) (N := 44) (index := 130) hx hb hts hown hK hW (fun _ h => List.mem_cons_of_mem _ (List.mem_append_right _ h)) tyX8 tyX8_ok nmX8 (sm_i 0 hB (by decide)) (sm_c0 hB) rfl 21 (by decide) rfl rfl (ty := .int) (by decide +kernel) rfl rfl (List.mem_of_getElem? (i := 3) rfl) dX8_next_97 (fun σ49 H locs eσ49 hW => ?_)
            replace hs := sp_let hs eσ49
            exact b_X8_next_100 hB F hr hlk sv_N σ49 H locs ls (lv_sub hl [1] rfl) hW hs
        · replace hs := (sp_ite hs).2 c12
          refine lv_aload_n hx hb dX8_next_65 rfl (lv_at hl 1 rfl) ?_
          refine lv_iconst (v := 0) hx hb dX8_next_66 (by decide) ?_
          refine sv_putI (own := RX8) (C := RX8) (Tf := TX8) (N := 44) (index := 130) hx hb hts hown hK hW (fun _ h => List.mem_cons_of_mem _ (List.mem_append_right _ h)) tyX8 tyX8_ok nmX8 (sm_i 0 hB (by decide)) (sm_c0 hB) rfl 21 (by decide) rfl rfl (ty := .int) (by decide +kernel) rfl rfl (List.mem_of_getElem? (i := 3) rfl) dX8_next_67 (fun σ56 H locs eσ56 hW => ?_)
          replace hs := sp_let hs eσ56
          refine lv_aload_n hx hb dX8_next_70 rfl (lv_at hl 1 rfl) ?_
          refine lv_aload_n hx hb dX8_next_71 rfl (lv_at hl 1 rfl) ?_
          refine sv_get (own := RX8) (C := RX8) (Tf := TX8) (N := 44) (index := 115) (κ := (0, 0)) (v := .int (σ56.1 0 19)) hx hb hts hown hK hW (fun _ h => List.mem_cons_of_mem _ (List.mem_append_right _ h)) (sm_i 0 hB (by decide)) (sm_c0 hB) rfl 19 (by decide) rfl rfl (List.mem_of_getElem? (i := 4) rfl) dX8_next_72 ?_
          refine sv_putI (own := RX8) (C := RX8) (Tf := TX8) (N := 44) (index := 127) hx hb hts hown hK hW (fun _ h => List.mem_cons_of_mem _ (List.mem_append_right _ h)) tyX8 tyX8_ok nmX8 (sm_i 0 hB (by decide)) (sm_c0 hB) rfl 22 (by decide) rfl rfl (ty := .int) (by decide +kernel) rfl rfl (List.mem_of_getElem? (i := 2) rfl) dX8_next_75 (fun σ57 H locs eσ57 hW => ?_)
          replace hs := sp_let hs eσ57
          refine lv_goto (tgt := 321) hx hb dX8_next_78 (by decide) ?_
          cases hs
          exact sv_vret hx hb hr hlk hW dX8_next_321
      · replace hs := (sp_ite hs).1 c7
        refine lv_aload_n hx hb dX8_next_26 rfl (lv_at hl 0 rfl) ?_
        refine lv_dup hx hb dX8_next_27 rfl ?_
        refine sv_get (own := RX8) (C := RX8) (Tf := TX8) (N := 44) (index := 121) (κ := (0, 0)) (v := .int (σ6.1 0 20)) hx hb hts hown hK hW (fun _ h => List.mem_cons_of_mem _ (List.mem_append_right _ h)) (sm_i 0 hB (by decide)) (sm_c0 hB) rfl 20 (by decide) rfl rfl (List.mem_of_getElem? (i := 1) rfl) dX8_next_28 ?_
        refine lv_iconst (v := 1) hx hb dX8_next_31 (by decide) ?_
        refine lv_iadd hx hb dX8_next_32 ?_
        refine sv_putI (own := RX8) (C := RX8) (Tf := TX8) (N := 44) (index := 121) hx hb hts hown hK hW (fun _ h => List.mem_cons_of_mem _ (List.mem_append_right _ h)) tyX8 tyX8_ok nmX8 (sm_i 0 hB (by decide)) (sm_c0 hB) rfl 20 (by decide) rfl rfl (ty := .int) (by decide +kernel) rfl rfl (List.mem_of_getElem? (i := 1) rfl) dX8_next_33 (fun σ58 H locs eσ58 hW => ?_)
        replace hs := sp_let hs eσ58
        refine lv_goto (tgt := 0) hx hb dX8_next_36 (by decide) ?_
        exact ih σ58 H locs ls (lv_sub hl [0] rfl) hW hs
set_option maxRecDepth 100000 in
set_option maxHeartbeats 4000000 in
theorem k_X8_next {l : Launch} {D : va_G} {T : Nat → ClassId} {h : Nat → Nat} {θ : sv_T}  {σ : sv_S} {r : Unit} {σ' : sv_S} (hB : sm_base θ)  (hs : q_X8_next θ  σ = some (r, σ')) : sv_Mv sm_X l D T (sm_tys T) h θ yX8_next wsX8_next (sv_rm 1 25) [.ref (h 0)] σ r σ' := by
  intro sz
  refine sv_enter (cc := cX8_next) (maxL := 3) (ret := none) (Qc := fun A => va_Qv (fun (_ : Unit) => True) (fun _ t => va_P D vwCl (sv_ws T h θ σ') t.heap) A) sm_XP (by decide) rfl (Nat.le_of_ble_eq_true rfl) ?_
  intro p e s m args below meth c A F hr hlk ls H hl hW
  have hx := F.1.1
  have hb := F.1.2.1
  have hts := F.1.2.2.2.2
  have hown := F.1.2.2.2.1
  have hK := F.2.1
  obtain ⟨locs, hlocs⟩ : ∃ z : List Loc, z = [] := ⟨_, rfl⟩
  rw [← hlocs] at hW ⊢
  have hl : lv_has ls 3 [(0, .ref (h 0))] := hl
  unfold q_X8_next at hs
  exact b_X8_next_0 hB F hr hlk sv_N σ H locs ls (lv_sub hl [0] rfl) hW hs

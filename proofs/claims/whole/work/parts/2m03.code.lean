set_option maxRecDepth 100000 in
set_option maxHeartbeats 4000000 in
theorem k_X8_needsOf {l : Launch} {D : va_G} {T : Nat → ClassId} {h : Nat → Nat} {θ : sv_T} {a1 : Int32} {a2 : Int32} {a3 : Int32} {σ : sv_S} {r : Int32} {σ' : sv_S} (hB : sm_base θ)  (hs : q_X8_needsOf θ a1 a2 a3 σ = some (r, σ')) : sv_Mi sm_X l D T (sm_tys T) h θ yX8_needsOf wsX8_needsOf (sv_rm 64 2493) [.ref (h 0), .int a1, .int a2, .int a3] σ r σ' := by
  intro sz
  refine sv_enter (cc := cX8_needsOf) (maxL := 6) (ret := (some .int)) (Qc := fun A => va_Qi (fun r2 (_ : Unit) => r2 = r) (fun _ t => va_P D vwCl (sv_ws T h θ σ') t.heap) A) sm_XP (by decide) rfl (Nat.le_of_ble_eq_true rfl) ?_
  intro p e s m args below meth c A F hr hlk ls H hl hW
  have hx := F.1.1
  have hb := F.1.2.1
  have hts := F.1.2.2.2.2
  have hown := F.1.2.2.2.1
  have hK := F.2.1
  obtain ⟨locs, hlocs⟩ : ∃ z : List Loc, z = [] := ⟨_, rfl⟩
  rw [← hlocs] at hW ⊢
  have hl : lv_has ls 6 [(0, .ref (h 0)), (1, .int a1), (2, .int a2), (3, .int a3)] := hl
  unfold q_X8_needsOf at hs
  refine lv_aload_n hx hb dX8_needsOf_0 rfl (lv_at hl 0 rfl) ?_
  refine sv_get (own := RX8) (C := RX8) (Tf := TX8) (N := 44) (index := 26) (κ := (3, 5)) (v := .ref (h 5)) hx hb hts hown hK hW (fun _ h => List.mem_cons_of_mem _ (List.mem_append_right _ h)) (sm_i 0 hB (by decide)) (sm_c0 hB) rfl 9 (by decide) rfl rfl (List.mem_of_getElem? (i := 1) rfl) dX8_needsOf_1 ?_
  refine lv_iload_n hx hb dX8_needsOf_4 rfl (lv_at hl 1 rfl) ?_
  obtain ⟨hi1, hs⟩ := sp_g hs
  refine sv_iald hx hb hK hW (sm_i 5 hB (by decide)) (sm_c5 hB) 0 rfl hi1 dX8_needsOf_5 ?_
  refine lv_topi (fun v2 ev2 => ?_)
  replace hs := sp_let hs ev2
  refine lv_istore (lv' := [(4, .int v2), (0, .ref (h 0)), (1, .int a1), (2, .int a2), (3, .int a3)]) hx hb dX8_needsOf_6 hl (by decide) rfl (fun ls hl => ?_)
  refine lv_iload hx hb dX8_needsOf_8 (lv_at hl 0 rfl) ?_
  refine lv_iconst (v := 5) hx hb dX8_needsOf_10 (by decide) ?_
  refine lv_icmp_ne (tgt := 16) hx hb dX8_needsOf_11 (by decide) (fun c3 => ?_) (fun c3 => ?_)
  · replace hs := (sp_ite hs).2 c3
    refine lv_aload_n hx hb dX8_needsOf_16 rfl (lv_at hl 1 rfl) ?_
    refine lv_iconst (v := 0) hx hb dX8_needsOf_17 (by decide) ?_
    refine lv_iload_n hx hb dX8_needsOf_18 rfl (lv_at hl 2 rfl) ?_
    refine lv_iload_n hx hb dX8_needsOf_19 rfl (lv_at hl 3 rfl) ?_
    refine lv_iload_n hx hb dX8_needsOf_20 rfl (lv_at hl 4 rfl) ?_
    obtain ⟨r4, σ5, eσ5, hs⟩ := sp_bind hs
    refine sv_goI (σ' := σ5) (r := r4) hW F.2.2.2.1 (sv_runV (C := RX8) F hW (k_X8_says hB eσ5 H.size) gX8_needsOf_X8_says rfl ⟨rfl, rfl⟩ 4 (by decide +kernel) (sv_room2 (by omega) (by omega)) (sm_i 0 hB (by decide)) (sm_c0 hB) rfl rfl hl.1 rfl (Nat.le_of_ble_eq_true rfl) dX8_needsOf_21 ⟨Nat.zero_le _, Nat.zero_le _⟩) (fun H locs hW => ?_)
    refine lv_istore (lv' := [(5, .int r4), (4, .int v2), (0, .ref (h 0)), (1, .int a1), (2, .int a2), (3, .int a3)]) hx hb dX8_needsOf_24 hl (by decide) rfl (fun ls hl => ?_)
    refine lv_iload hx hb dX8_needsOf_26 (lv_at hl 1 rfl) ?_
    refine lv_iconst (v := 1) hx hb dX8_needsOf_28 (by decide) ?_
    refine lv_icmp_eq (tgt := 38) hx hb dX8_needsOf_29 (by decide) (fun c6 => ?_) (fun c6 => ?_)
    · replace hs := (sp_ite hs).1 c6
      refine lv_iload hx hb dX8_needsOf_38 (lv_at hl 0 rfl) ?_
      refine lv_iconst (v := 2) hx hb dX8_needsOf_40 (by decide) ?_
      refine lv_idiv hx hb dX8_needsOf_41 (by decide) ?_
      refine lv_goto (tgt := 84) hx hb dX8_needsOf_42 (by decide) ?_
      refine lv_iconst (v := 1) hx hb dX8_needsOf_84 (by decide) ?_
      refine lv_bipush (v := 9) hx hb dX8_needsOf_85 (by decide) ?_
      obtain ⟨r7, σ8, eσ8, hs⟩ := sp_bind hs
      refine sv_goI (σ' := σ8) (r := r7) hW F.2.2.2.1 (sv_runT F hW (k_X8_within hB eσ8 H.size) gX8_needsOf_X8_within rfl ⟨rfl, rfl⟩ 3 (by decide +kernel) (sv_room2 (by omega) (by omega)) rfl hl.1 rfl (Nat.le_of_ble_eq_true rfl) dX8_needsOf_87 ⟨Nat.zero_le _, Nat.zero_le _⟩) (fun H locs hW => ?_)
      cases hs
      exact sv_iret hx hb hr rfl hlk hW dX8_needsOf_90
    · replace hs := (sp_ite hs).2 c6
      refine lv_iload hx hb dX8_needsOf_32 (lv_at hl 1 rfl) ?_
      refine lv_iconst (v := 3) hx hb dX8_needsOf_34 (by decide) ?_
      refine lv_icmp_ne (tgt := 45) hx hb dX8_needsOf_35 (by decide) (fun c9 => ?_) (fun c9 => ?_)
      · replace hs := (sp_ite hs).2 c9
        refine lv_iload hx hb dX8_needsOf_45 (lv_at hl 1 rfl) ?_
        refine lv_iconst (v := 2) hx hb dX8_needsOf_47 (by decide) ?_
        refine lv_icmp_ne (tgt := 58) hx hb dX8_needsOf_48 (by decide) (fun c10 => ?_) (fun c10 => ?_)
        · replace hs := (sp_ite hs).2 c10
          refine lv_iload hx hb dX8_needsOf_58 (lv_at hl 1 rfl) ?_
          refine lv_iconst (v := 4) hx hb dX8_needsOf_60 (by decide) ?_
          refine lv_icmp_ne (tgt := 82) hx hb dX8_needsOf_61 (by decide) (fun c11 => ?_) (fun c11 => ?_)
          · replace hs := (sp_ite hs).2 c11
            refine lv_iload hx hb dX8_needsOf_82 (lv_at hl 0 rfl) ?_
            refine lv_iconst (v := 1) hx hb dX8_needsOf_84 (by decide) ?_
            refine lv_bipush (v := 9) hx hb dX8_needsOf_85 (by decide) ?_
            obtain ⟨r12, σ13, eσ13, hs⟩ := sp_bind hs
            refine sv_goI (σ' := σ13) (r := r12) hW F.2.2.2.1 (sv_runT F hW (k_X8_within hB eσ13 H.size) gX8_needsOf_X8_within rfl ⟨rfl, rfl⟩ 3 (by decide +kernel) (sv_room2 (by omega) (by omega)) rfl hl.1 rfl (Nat.le_of_ble_eq_true rfl) dX8_needsOf_87 ⟨Nat.zero_le _, Nat.zero_le _⟩) (fun H locs hW => ?_)
            cases hs
            exact sv_iret hx hb hr rfl hlk hW dX8_needsOf_90
          · replace hs := (sp_ite hs).1 c11
            refine lv_iload hx hb dX8_needsOf_64 (lv_at hl 0 rfl) ?_
            refine lv_iconst (v := 2) hx hb dX8_needsOf_66 (by decide) ?_
            refine lv_iadd hx hb dX8_needsOf_67 ?_
            refine lv_aload_n hx hb dX8_needsOf_68 rfl (lv_at hl 2 rfl) ?_
            refine sv_get (own := RX8) (C := RX8) (Tf := TX8) (N := 44) (index := 29) (κ := (3, 6)) (v := .ref (h 6)) hx hb hts hown hK hW (fun _ h => List.mem_cons_of_mem _ (List.mem_append_right _ h)) (sm_i 0 hB (by decide)) (sm_c0 hB) rfl 10 (by decide) rfl rfl (List.mem_of_getElem? (i := 2) rfl) dX8_needsOf_69 ?_
            refine lv_iconst (v := 3) hx hb dX8_needsOf_72 (by decide) ?_
            refine lv_iload_n hx hb dX8_needsOf_73 rfl (lv_at hl 3 rfl) ?_
            refine lv_imul hx hb dX8_needsOf_74 ?_
            obtain ⟨hi14, hs⟩ := sp_g hs
            refine sv_iald hx hb hK hW (sm_i 6 hB (by decide)) (sm_c6 hB) 0 rfl hi14 dX8_needsOf_75 ?_
            refine lv_iconst (v := 3) hx hb dX8_needsOf_76 (by decide) ?_
            refine lv_idiv hx hb dX8_needsOf_77 (by decide) ?_
            refine lv_iadd hx hb dX8_needsOf_78 ?_
            refine lv_goto (tgt := 84) hx hb dX8_needsOf_79 (by decide) ?_
            refine lv_iconst (v := 1) hx hb dX8_needsOf_84 (by decide) ?_
            refine lv_bipush (v := 9) hx hb dX8_needsOf_85 (by decide) ?_
            obtain ⟨r15, σ16, eσ16, hs⟩ := sp_bind hs
            refine sv_goI (σ' := σ16) (r := r15) hW F.2.2.2.1 (sv_runT F hW (k_X8_within hB eσ16 H.size) gX8_needsOf_X8_within rfl ⟨rfl, rfl⟩ 3 (by decide +kernel) (sv_room2 (by omega) (by omega)) rfl hl.1 rfl (Nat.le_of_ble_eq_true rfl) dX8_needsOf_87 ⟨Nat.zero_le _, Nat.zero_le _⟩) (fun H locs hW => ?_)
            cases hs
            exact sv_iret hx hb hr rfl hlk hW dX8_needsOf_90
        · replace hs := (sp_ite hs).1 c10
          refine lv_iload hx hb dX8_needsOf_51 (lv_at hl 0 rfl) ?_
          refine lv_iconst (v := 2) hx hb dX8_needsOf_53 (by decide) ?_
          refine lv_iadd hx hb dX8_needsOf_54 ?_
          refine lv_goto (tgt := 84) hx hb dX8_needsOf_55 (by decide) ?_
          refine lv_iconst (v := 1) hx hb dX8_needsOf_84 (by decide) ?_
          refine lv_bipush (v := 9) hx hb dX8_needsOf_85 (by decide) ?_
          obtain ⟨r17, σ18, eσ18, hs⟩ := sp_bind hs
          refine sv_goI (σ' := σ18) (r := r17) hW F.2.2.2.1 (sv_runT F hW (k_X8_within hB eσ18 H.size) gX8_needsOf_X8_within rfl ⟨rfl, rfl⟩ 3 (by decide +kernel) (sv_room2 (by omega) (by omega)) rfl hl.1 rfl (Nat.le_of_ble_eq_true rfl) dX8_needsOf_87 ⟨Nat.zero_le _, Nat.zero_le _⟩) (fun H locs hW => ?_)
          cases hs
          exact sv_iret hx hb hr rfl hlk hW dX8_needsOf_90
      · replace hs := (sp_ite hs).1 c9
        refine lv_iload hx hb dX8_needsOf_38 (lv_at hl 0 rfl) ?_
        refine lv_iconst (v := 2) hx hb dX8_needsOf_40 (by decide) ?_
        refine lv_idiv hx hb dX8_needsOf_41 (by decide) ?_
        refine lv_goto (tgt := 84) hx hb dX8_needsOf_42 (by decide) ?_
        refine lv_iconst (v := 1) hx hb dX8_needsOf_84 (by decide) ?_
        refine lv_bipush (v := 9) hx hb dX8_needsOf_85 (by decide) ?_
        obtain ⟨r19, σ20, eσ20, hs⟩ := sp_bind hs
        refine sv_goI (σ' := σ20) (r := r19) hW F.2.2.2.1 (sv_runT F hW (k_X8_within hB eσ20 H.size) gX8_needsOf_X8_within rfl ⟨rfl, rfl⟩ 3 (by decide +kernel) (sv_room2 (by omega) (by omega)) rfl hl.1 rfl (Nat.le_of_ble_eq_true rfl) dX8_needsOf_87 ⟨Nat.zero_le _, Nat.zero_le _⟩) (fun H locs hW => ?_)
        cases hs
        exact sv_iret hx hb hr rfl hlk hW dX8_needsOf_90
  · replace hs := (sp_ite hs).1 c3
    refine lv_iconst (v := 1) hx hb dX8_needsOf_14 (by decide) ?_
    cases hs
    exact sv_iret hx hb hr rfl hlk hW dX8_needsOf_15
set_option maxRecDepth 100000 in
set_option maxHeartbeats 4000000 in
theorem k_X8_takesOf {l : Launch} {D : va_G} {T : Nat → ClassId} {h : Nat → Nat} {θ : sv_T} {a1 : Int32} {a2 : Int32} {a3 : Int32} {σ : sv_S} {r : Int32} {σ' : sv_S} (hB : sm_base θ)  (hs : q_X8_takesOf θ a1 a2 a3 σ = some (r, σ')) : sv_Mi sm_X l D T (sm_tys T) h θ yX8_takesOf wsX8_takesOf (sv_rm 64 2493) [.ref (h 0), .int a1, .int a2, .int a3] σ r σ' := by
  intro sz
  refine sv_enter (cc := cX8_takesOf) (maxL := 6) (ret := (some .int)) (Qc := fun A => va_Qi (fun r2 (_ : Unit) => r2 = r) (fun _ t => va_P D vwCl (sv_ws T h θ σ') t.heap) A) sm_XP (by decide) rfl (Nat.le_of_ble_eq_true rfl) ?_
  intro p e s m args below meth c A F hr hlk ls H hl hW
  have hx := F.1.1
  have hb := F.1.2.1
  have hts := F.1.2.2.2.2
  have hown := F.1.2.2.2.1
  have hK := F.2.1
  obtain ⟨locs, hlocs⟩ : ∃ z : List Loc, z = [] := ⟨_, rfl⟩
  rw [← hlocs] at hW ⊢
  have hl : lv_has ls 6 [(0, .ref (h 0)), (1, .int a1), (2, .int a2), (3, .int a3)] := hl
  unfold q_X8_takesOf at hs
  refine lv_aload_n hx hb dX8_takesOf_0 rfl (lv_at hl 0 rfl) ?_
  refine sv_get (own := RX8) (C := RX8) (Tf := TX8) (N := 44) (index := 26) (κ := (3, 5)) (v := .ref (h 5)) hx hb hts hown hK hW (fun _ h => List.mem_cons_of_mem _ (List.mem_append_right _ h)) (sm_i 0 hB (by decide)) (sm_c0 hB) rfl 9 (by decide) rfl rfl (List.mem_of_getElem? (i := 1) rfl) dX8_takesOf_1 ?_
  refine lv_iload_n hx hb dX8_takesOf_4 rfl (lv_at hl 1 rfl) ?_
  obtain ⟨hi1, hs⟩ := sp_g hs
  refine sv_iald hx hb hK hW (sm_i 5 hB (by decide)) (sm_c5 hB) 0 rfl hi1 dX8_takesOf_5 ?_
  refine lv_topi (fun v2 ev2 => ?_)
  replace hs := sp_let hs ev2
  refine lv_istore (lv' := [(4, .int v2), (0, .ref (h 0)), (1, .int a1), (2, .int a2), (3, .int a3)]) hx hb dX8_takesOf_6 hl (by decide) rfl (fun ls hl => ?_)
  refine lv_iload hx hb dX8_takesOf_8 (lv_at hl 0 rfl) ?_
  refine lv_iconst (v := 5) hx hb dX8_takesOf_10 (by decide) ?_
  refine lv_icmp_ne (tgt := 16) hx hb dX8_takesOf_11 (by decide) (fun c3 => ?_) (fun c3 => ?_)
  · replace hs := (sp_ite hs).2 c3
    refine lv_aload_n hx hb dX8_takesOf_16 rfl (lv_at hl 1 rfl) ?_
    refine lv_iconst (v := 1) hx hb dX8_takesOf_17 (by decide) ?_
    refine lv_iload_n hx hb dX8_takesOf_18 rfl (lv_at hl 2 rfl) ?_
    refine lv_iload_n hx hb dX8_takesOf_19 rfl (lv_at hl 3 rfl) ?_
    refine lv_iload_n hx hb dX8_takesOf_20 rfl (lv_at hl 4 rfl) ?_
    obtain ⟨r4, σ5, eσ5, hs⟩ := sp_bind hs
    refine sv_goI (σ' := σ5) (r := r4) hW F.2.2.2.1 (sv_runV (C := RX8) F hW (k_X8_says hB eσ5 H.size) gX8_takesOf_X8_says rfl ⟨rfl, rfl⟩ 4 (by decide +kernel) (sv_room2 (by omega) (by omega)) (sm_i 0 hB (by decide)) (sm_c0 hB) rfl rfl hl.1 rfl (Nat.le_of_ble_eq_true rfl) dX8_takesOf_21 ⟨Nat.zero_le _, Nat.zero_le _⟩) (fun H locs hW => ?_)
    refine lv_istore (lv' := [(5, .int r4), (4, .int v2), (0, .ref (h 0)), (1, .int a1), (2, .int a2), (3, .int a3)]) hx hb dX8_takesOf_24 hl (by decide) rfl (fun ls hl => ?_)
    refine lv_iload hx hb dX8_takesOf_26 (lv_at hl 1 rfl) ?_
    refine lv_iconst (v := 1) hx hb dX8_takesOf_28 (by decide) ?_
    refine lv_icmp_ne (tgt := 39) hx hb dX8_takesOf_29 (by decide) (fun c6 => ?_) (fun c6 => ?_)
    · replace hs := (sp_ite hs).2 c6
      refine lv_iload hx hb dX8_takesOf_39 (lv_at hl 1 rfl) ?_
      refine lv_iconst (v := 3) hx hb dX8_takesOf_41 (by decide) ?_
      refine lv_icmp_ne (tgt := 63) hx hb dX8_takesOf_42 (by decide) (fun c7 => ?_) (fun c7 => ?_)
      · replace hs := (sp_ite hs).2 c7
        refine lv_iload hx hb dX8_takesOf_63 (lv_at hl 1 rfl) ?_
        refine lv_iconst (v := 2) hx hb dX8_takesOf_65 (by decide) ?_
        refine lv_icmp_eq (tgt := 75) hx hb dX8_takesOf_66 (by decide) (fun c8 => ?_) (fun c8 => ?_)
        · replace hs := (sp_ite hs).1 c8
          refine lv_iconst (v := 2) hx hb dX8_takesOf_75 (by decide) ?_
          refine lv_iload hx hb dX8_takesOf_76 (lv_at hl 0 rfl) ?_
          refine lv_imul hx hb dX8_takesOf_78 ?_
          refine lv_goto (tgt := 84) hx hb dX8_takesOf_79 (by decide) ?_
          refine lv_iconst (v := 1) hx hb dX8_takesOf_84 (by decide) ?_
          refine lv_bipush (v := 24) hx hb dX8_takesOf_85 (by decide) ?_
          obtain ⟨r9, σ10, eσ10, hs⟩ := sp_bind hs
          refine sv_goI (σ' := σ10) (r := r9) hW F.2.2.2.1 (sv_runT F hW (k_X8_within hB eσ10 H.size) gX8_takesOf_X8_within rfl ⟨rfl, rfl⟩ 3 (by decide +kernel) (sv_room2 (by omega) (by omega)) rfl hl.1 rfl (Nat.le_of_ble_eq_true rfl) dX8_takesOf_87 ⟨Nat.zero_le _, Nat.zero_le _⟩) (fun H locs hW => ?_)
          cases hs
          exact sv_iret hx hb hr rfl hlk hW dX8_takesOf_90
        · replace hs := (sp_ite hs).2 c8
          refine lv_iload hx hb dX8_takesOf_69 (lv_at hl 1 rfl) ?_
          refine lv_iconst (v := 4) hx hb dX8_takesOf_71 (by decide) ?_
          refine lv_icmp_ne (tgt := 82) hx hb dX8_takesOf_72 (by decide) (fun c11 => ?_) (fun c11 => ?_)
          · replace hs := (sp_ite hs).2 c11
            refine lv_iload hx hb dX8_takesOf_82 (lv_at hl 0 rfl) ?_
            refine lv_iconst (v := 1) hx hb dX8_takesOf_84 (by decide) ?_
            refine lv_bipush (v := 24) hx hb dX8_takesOf_85 (by decide) ?_
            obtain ⟨r12, σ13, eσ13, hs⟩ := sp_bind hs
            refine sv_goI (σ' := σ13) (r := r12) hW F.2.2.2.1 (sv_runT F hW (k_X8_within hB eσ13 H.size) gX8_takesOf_X8_within rfl ⟨rfl, rfl⟩ 3 (by decide +kernel) (sv_room2 (by omega) (by omega)) rfl hl.1 rfl (Nat.le_of_ble_eq_true rfl) dX8_takesOf_87 ⟨Nat.zero_le _, Nat.zero_le _⟩) (fun H locs hW => ?_)
            cases hs
            exact sv_iret hx hb hr rfl hlk hW dX8_takesOf_90
          · replace hs := (sp_ite hs).1 c11
            refine lv_iconst (v := 2) hx hb dX8_takesOf_75 (by decide) ?_
            refine lv_iload hx hb dX8_takesOf_76 (lv_at hl 0 rfl) ?_
            refine lv_imul hx hb dX8_takesOf_78 ?_
            refine lv_goto (tgt := 84) hx hb dX8_takesOf_79 (by decide) ?_
            refine lv_iconst (v := 1) hx hb dX8_takesOf_84 (by decide) ?_
            refine lv_bipush (v := 24) hx hb dX8_takesOf_85 (by decide) ?_
            obtain ⟨r14, σ15, eσ15, hs⟩ := sp_bind hs
            refine sv_goI (σ' := σ15) (r := r14) hW F.2.2.2.1 (sv_runT F hW (k_X8_within hB eσ15 H.size) gX8_takesOf_X8_within rfl ⟨rfl, rfl⟩ 3 (by decide +kernel) (sv_room2 (by omega) (by omega)) rfl hl.1 rfl (Nat.le_of_ble_eq_true rfl) dX8_takesOf_87 ⟨Nat.zero_le _, Nat.zero_le _⟩) (fun H locs hW => ?_)
            cases hs
            exact sv_iret hx hb hr rfl hlk hW dX8_takesOf_90
      · replace hs := (sp_ite hs).1 c7
        refine lv_iload hx hb dX8_takesOf_45 (lv_at hl 0 rfl) ?_
        refine lv_iconst (v := 1) hx hb dX8_takesOf_47 (by decide) ?_
        refine lv_isub hx hb dX8_takesOf_48 ?_
        refine lv_aload_n hx hb dX8_takesOf_49 rfl (lv_at hl 2 rfl) ?_
        refine sv_get (own := RX8) (C := RX8) (Tf := TX8) (N := 44) (index := 29) (κ := (3, 6)) (v := .ref (h 6)) hx hb hts hown hK hW (fun _ h => List.mem_cons_of_mem _ (List.mem_append_right _ h)) (sm_i 0 hB (by decide)) (sm_c0 hB) rfl 10 (by decide) rfl rfl (List.mem_of_getElem? (i := 2) rfl) dX8_takesOf_50 ?_
        refine lv_iconst (v := 3) hx hb dX8_takesOf_53 (by decide) ?_
        refine lv_iload_n hx hb dX8_takesOf_54 rfl (lv_at hl 3 rfl) ?_
        refine lv_imul hx hb dX8_takesOf_55 ?_
        obtain ⟨hi16, hs⟩ := sp_g hs
        refine sv_iald hx hb hK hW (sm_i 6 hB (by decide)) (sm_c6 hB) 0 rfl hi16 dX8_takesOf_56 ?_
        refine lv_iconst (v := 3) hx hb dX8_takesOf_57 (by decide) ?_
        refine lv_irem hx hb dX8_takesOf_58 (by decide) ?_
        refine lv_iadd hx hb dX8_takesOf_59 ?_
        refine lv_goto (tgt := 84) hx hb dX8_takesOf_60 (by decide) ?_
        refine lv_iconst (v := 1) hx hb dX8_takesOf_84 (by decide) ?_
        refine lv_bipush (v := 24) hx hb dX8_takesOf_85 (by decide) ?_
        obtain ⟨r17, σ18, eσ18, hs⟩ := sp_bind hs
        refine sv_goI (σ' := σ18) (r := r17) hW F.2.2.2.1 (sv_runT F hW (k_X8_within hB eσ18 H.size) gX8_takesOf_X8_within rfl ⟨rfl, rfl⟩ 3 (by decide +kernel) (sv_room2 (by omega) (by omega)) rfl hl.1 rfl (Nat.le_of_ble_eq_true rfl) dX8_takesOf_87 ⟨Nat.zero_le _, Nat.zero_le _⟩) (fun H locs hW => ?_)
        cases hs
        exact sv_iret hx hb hr rfl hlk hW dX8_takesOf_90
    · replace hs := (sp_ite hs).1 c6
      refine lv_iload hx hb dX8_takesOf_32 (lv_at hl 0 rfl) ?_
      refine lv_iconst (v := 1) hx hb dX8_takesOf_34 (by decide) ?_
      refine lv_isub hx hb dX8_takesOf_35 ?_
      refine lv_goto (tgt := 84) hx hb dX8_takesOf_36 (by decide) ?_
      refine lv_iconst (v := 1) hx hb dX8_takesOf_84 (by decide) ?_
      refine lv_bipush (v := 24) hx hb dX8_takesOf_85 (by decide) ?_
      obtain ⟨r19, σ20, eσ20, hs⟩ := sp_bind hs
      refine sv_goI (σ' := σ20) (r := r19) hW F.2.2.2.1 (sv_runT F hW (k_X8_within hB eσ20 H.size) gX8_takesOf_X8_within rfl ⟨rfl, rfl⟩ 3 (by decide +kernel) (sv_room2 (by omega) (by omega)) rfl hl.1 rfl (Nat.le_of_ble_eq_true rfl) dX8_takesOf_87 ⟨Nat.zero_le _, Nat.zero_le _⟩) (fun H locs hW => ?_)
      cases hs
      exact sv_iret hx hb hr rfl hlk hW dX8_takesOf_90
  · replace hs := (sp_ite hs).1 c3
    refine lv_iconst (v := 1) hx hb dX8_takesOf_14 (by decide) ?_
    cases hs
    exact sv_iret hx hb hr rfl hlk hW dX8_takesOf_15
set_option maxRecDepth 100000 in
set_option maxHeartbeats 4000000 in
theorem k_X8_worthOf {l : Launch} {D : va_G} {T : Nat → ClassId} {h : Nat → Nat} {θ : sv_T} {a1 : Int32} {a2 : Int32} {a3 : Int32} {σ : sv_S} {r : Int32} {σ' : sv_S} (hB : sm_base θ)  (hs : q_X8_worthOf θ a1 a2 a3 σ = some (r, σ')) : sv_Mi sm_X l D T (sm_tys T) h θ yX8_worthOf wsX8_worthOf (sv_rm 64 2493) [.ref (h 0), .int a1, .int a2, .int a3] σ r σ' := by
  intro sz
  refine sv_enter (cc := cX8_worthOf) (maxL := 6) (ret := (some .int)) (Qc := fun A => va_Qi (fun r2 (_ : Unit) => r2 = r) (fun _ t => va_P D vwCl (sv_ws T h θ σ') t.heap) A) sm_XP (by decide) rfl (Nat.le_of_ble_eq_true rfl) ?_
  intro p e s m args below meth c A F hr hlk ls H hl hW
  have hx := F.1.1
  have hb := F.1.2.1
  have hts := F.1.2.2.2.2
  have hown := F.1.2.2.2.1
  have hK := F.2.1
  obtain ⟨locs, hlocs⟩ : ∃ z : List Loc, z = [] := ⟨_, rfl⟩
  rw [← hlocs] at hW ⊢
  have hl : lv_has ls 6 [(0, .ref (h 0)), (1, .int a1), (2, .int a2), (3, .int a3)] := hl
  unfold q_X8_worthOf at hs
  refine lv_aload_n hx hb dX8_worthOf_0 rfl (lv_at hl 0 rfl) ?_
  refine sv_get (own := RX8) (C := RX8) (Tf := TX8) (N := 44) (index := 26) (κ := (3, 5)) (v := .ref (h 5)) hx hb hts hown hK hW (fun _ h => List.mem_cons_of_mem _ (List.mem_append_right _ h)) (sm_i 0 hB (by decide)) (sm_c0 hB) rfl 9 (by decide) rfl rfl (List.mem_of_getElem? (i := 1) rfl) dX8_worthOf_1 ?_
  refine lv_iload_n hx hb dX8_worthOf_4 rfl (lv_at hl 1 rfl) ?_
  obtain ⟨hi1, hs⟩ := sp_g hs
  refine sv_iald hx hb hK hW (sm_i 5 hB (by decide)) (sm_c5 hB) 0 rfl hi1 dX8_worthOf_5 ?_
  refine lv_topi (fun v2 ev2 => ?_)
  replace hs := sp_let hs ev2
  refine lv_istore (lv' := [(4, .int v2), (0, .ref (h 0)), (1, .int a1), (2, .int a2), (3, .int a3)]) hx hb dX8_worthOf_6 hl (by decide) rfl (fun ls hl => ?_)
  refine lv_iload hx hb dX8_worthOf_8 (lv_at hl 0 rfl) ?_
  refine lv_iconst (v := 5) hx hb dX8_worthOf_10 (by decide) ?_
  refine lv_icmp_ne (tgt := 32) hx hb dX8_worthOf_11 (by decide) (fun c3 => ?_) (fun c3 => ?_)
  · replace hs := (sp_ite hs).2 c3
    refine lv_aload_n hx hb dX8_worthOf_32 rfl (lv_at hl 1 rfl) ?_
    refine lv_iconst (v := 2) hx hb dX8_worthOf_33 (by decide) ?_
    refine lv_iload_n hx hb dX8_worthOf_34 rfl (lv_at hl 2 rfl) ?_
    refine lv_iload_n hx hb dX8_worthOf_35 rfl (lv_at hl 3 rfl) ?_
    refine lv_iload_n hx hb dX8_worthOf_36 rfl (lv_at hl 4 rfl) ?_
    obtain ⟨r4, σ5, eσ5, hs⟩ := sp_bind hs
    refine sv_goI (σ' := σ5) (r := r4) hW F.2.2.2.1 (sv_runV (C := RX8) F hW (k_X8_says hB eσ5 H.size) gX8_worthOf_X8_says rfl ⟨rfl, rfl⟩ 4 (by decide +kernel) (sv_room2 (by omega) (by omega)) (sm_i 0 hB (by decide)) (sm_c0 hB) rfl rfl hl.1 rfl (Nat.le_of_ble_eq_true rfl) dX8_worthOf_37 ⟨Nat.zero_le _, Nat.zero_le _⟩) (fun H locs hW => ?_)
    refine lv_istore (lv' := [(5, .int r4), (4, .int v2), (0, .ref (h 0)), (1, .int a1), (2, .int a2), (3, .int a3)]) hx hb dX8_worthOf_40 hl (by decide) rfl (fun ls hl => ?_)
    refine lv_iload hx hb dX8_worthOf_42 (lv_at hl 1 rfl) ?_
    refine lv_iconst (v := 2) hx hb dX8_worthOf_44 (by decide) ?_
    refine lv_icmp_ne (tgt := 56) hx hb dX8_worthOf_45 (by decide) (fun c6 => ?_) (fun c6 => ?_)
    · replace hs := (sp_ite hs).2 c6
      refine lv_iload hx hb dX8_worthOf_56 (lv_at hl 1 rfl) ?_
      refine lv_iconst (v := 3) hx hb dX8_worthOf_58 (by decide) ?_
      refine lv_icmp_ne (tgt := 71) hx hb dX8_worthOf_59 (by decide) (fun c7 => ?_) (fun c7 => ?_)
      · replace hs := (sp_ite hs).2 c7
        refine lv_iload hx hb dX8_worthOf_71 (lv_at hl 1 rfl) ?_
        refine lv_iconst (v := 4) hx hb dX8_worthOf_73 (by decide) ?_
        refine lv_icmp_ne (tgt := 101) hx hb dX8_worthOf_74 (by decide) (fun c8 => ?_) (fun c8 => ?_)
        · replace hs := (sp_ite hs).2 c8
          refine lv_iload hx hb dX8_worthOf_101 (lv_at hl 0 rfl) ?_
          refine lv_iconst (v := 0) hx hb dX8_worthOf_103 (by decide) ?_
          refine lv_sipush (v := 999) hx hb dX8_worthOf_104 (by decide) ?_
          obtain ⟨r9, σ10, eσ10, hs⟩ := sp_bind hs
          refine sv_goI (σ' := σ10) (r := r9) hW F.2.2.2.1 (sv_runT F hW (k_X8_within hB eσ10 H.size) gX8_worthOf_X8_within rfl ⟨rfl, rfl⟩ 3 (by decide +kernel) (sv_room2 (by omega) (by omega)) rfl hl.1 rfl (Nat.le_of_ble_eq_true rfl) dX8_worthOf_107 ⟨Nat.zero_le _, Nat.zero_le _⟩) (fun H locs hW => ?_)
          cases hs
          exact sv_iret hx hb hr rfl hlk hW dX8_worthOf_110
        · replace hs := (sp_ite hs).1 c8
          refine lv_iload_n hx hb dX8_worthOf_77 rfl (lv_at hl 4 rfl) ?_
          refine lv_bipush (v := 11) hx hb dX8_worthOf_78 (by decide) ?_
          refine lv_icmp_le (tgt := 93) hx hb dX8_worthOf_80 (by decide) (fun c11 => ?_) (fun c11 => ?_)
          · replace hs := (sp_ite hs).1 c11
            refine lv_iload hx hb dX8_worthOf_93 (lv_at hl 0 rfl) ?_
            refine lv_bipush (v := 10) hx hb dX8_worthOf_95 (by decide) ?_
            refine lv_iadd hx hb dX8_worthOf_97 ?_
            refine lv_goto (tgt := 103) hx hb dX8_worthOf_98 (by decide) ?_
            refine lv_iconst (v := 0) hx hb dX8_worthOf_103 (by decide) ?_
            refine lv_sipush (v := 999) hx hb dX8_worthOf_104 (by decide) ?_
            obtain ⟨r12, σ13, eσ13, hs⟩ := sp_bind hs
            refine sv_goI (σ' := σ13) (r := r12) hW F.2.2.2.1 (sv_runT F hW (k_X8_within hB eσ13 H.size) gX8_worthOf_X8_within rfl ⟨rfl, rfl⟩ 3 (by decide +kernel) (sv_room2 (by omega) (by omega)) rfl hl.1 rfl (Nat.le_of_ble_eq_true rfl) dX8_worthOf_107 ⟨Nat.zero_le _, Nat.zero_le _⟩) (fun H locs hW => ?_)
            cases hs
            exact sv_iret hx hb hr rfl hlk hW dX8_worthOf_110
          · replace hs := (sp_ite hs).2 c11
            refine lv_iconst (v := 2) hx hb dX8_worthOf_83 (by decide) ?_
            refine lv_iload hx hb dX8_worthOf_84 (lv_at hl 0 rfl) ?_
            refine lv_bipush (v := 10) hx hb dX8_worthOf_86 (by decide) ?_
            refine lv_iadd hx hb dX8_worthOf_88 ?_
            refine lv_imul hx hb dX8_worthOf_89 ?_
            refine lv_goto (tgt := 103) hx hb dX8_worthOf_90 (by decide) ?_
            refine lv_iconst (v := 0) hx hb dX8_worthOf_103 (by decide) ?_
            refine lv_sipush (v := 999) hx hb dX8_worthOf_104 (by decide) ?_
            obtain ⟨r14, σ15, eσ15, hs⟩ := sp_bind hs
            refine sv_goI (σ' := σ15) (r := r14) hW F.2.2.2.1 (sv_runT F hW (k_X8_within hB eσ15 H.size) gX8_worthOf_X8_within rfl ⟨rfl, rfl⟩ 3 (by decide +kernel) (sv_room2 (by omega) (by omega)) rfl hl.1 rfl (Nat.le_of_ble_eq_true rfl) dX8_worthOf_107 ⟨Nat.zero_le _, Nat.zero_le _⟩) (fun H locs hW => ?_)
            cases hs
            exact sv_iret hx hb hr rfl hlk hW dX8_worthOf_110
      · replace hs := (sp_ite hs).1 c7
        refine lv_iload hx hb dX8_worthOf_62 (lv_at hl 0 rfl) ?_
        refine lv_iconst (v := 2) hx hb dX8_worthOf_64 (by decide) ?_
        refine lv_iload_n hx hb dX8_worthOf_65 rfl (lv_at hl 4 rfl) ?_
        refine lv_imul hx hb dX8_worthOf_66 ?_
        refine lv_isub hx hb dX8_worthOf_67 ?_
        refine lv_goto (tgt := 103) hx hb dX8_worthOf_68 (by decide) ?_
        refine lv_iconst (v := 0) hx hb dX8_worthOf_103 (by decide) ?_
        refine lv_sipush (v := 999) hx hb dX8_worthOf_104 (by decide) ?_
        obtain ⟨r16, σ17, eσ17, hs⟩ := sp_bind hs
        refine sv_goI (σ' := σ17) (r := r16) hW F.2.2.2.1 (sv_runT F hW (k_X8_within hB eσ17 H.size) gX8_worthOf_X8_within rfl ⟨rfl, rfl⟩ 3 (by decide +kernel) (sv_room2 (by omega) (by omega)) rfl hl.1 rfl (Nat.le_of_ble_eq_true rfl) dX8_worthOf_107 ⟨Nat.zero_le _, Nat.zero_le _⟩) (fun H locs hW => ?_)
        cases hs
        exact sv_iret hx hb hr rfl hlk hW dX8_worthOf_110
    · replace hs := (sp_ite hs).1 c6
      refine lv_iload hx hb dX8_worthOf_48 (lv_at hl 0 rfl) ?_
      refine lv_bipush (v := 10) hx hb dX8_worthOf_50 (by decide) ?_
      refine lv_iadd hx hb dX8_worthOf_52 ?_
      refine lv_goto (tgt := 103) hx hb dX8_worthOf_53 (by decide) ?_
      refine lv_iconst (v := 0) hx hb dX8_worthOf_103 (by decide) ?_
      refine lv_sipush (v := 999) hx hb dX8_worthOf_104 (by decide) ?_
      obtain ⟨r18, σ19, eσ19, hs⟩ := sp_bind hs
      refine sv_goI (σ' := σ19) (r := r18) hW F.2.2.2.1 (sv_runT F hW (k_X8_within hB eσ19 H.size) gX8_worthOf_X8_within rfl ⟨rfl, rfl⟩ 3 (by decide +kernel) (sv_room2 (by omega) (by omega)) rfl hl.1 rfl (Nat.le_of_ble_eq_true rfl) dX8_worthOf_107 ⟨Nat.zero_le _, Nat.zero_le _⟩) (fun H locs hW => ?_)
      cases hs
      exact sv_iret hx hb hr rfl hlk hW dX8_worthOf_110
  · replace hs := (sp_ite hs).1 c3
    refine lv_iload_n hx hb dX8_worthOf_14 rfl (lv_at hl 3 rfl) ?_
    refine lv_iconst (v := 3) hx hb dX8_worthOf_15 (by decide) ?_
    refine lv_icmp_ge (tgt := 30) hx hb dX8_worthOf_16 (by decide) (fun c20 => ?_) (fun c20 => ?_)
    · replace hs := (sp_ite hs).1 c20
      refine lv_iconst (v := 0) hx hb dX8_worthOf_30 (by decide) ?_
      cases hs
      exact sv_iret hx hb hr rfl hlk hW dX8_worthOf_31
    · replace hs := (sp_ite hs).2 c20
      refine lv_aload_n hx hb dX8_worthOf_19 rfl (lv_at hl 1 rfl) ?_
      refine sv_get (own := RX8) (C := RX8) (Tf := TX8) (N := 44) (index := 29) (κ := (3, 6)) (v := .ref (h 6)) hx hb hts hown hK hW (fun _ h => List.mem_cons_of_mem _ (List.mem_append_right _ h)) (sm_i 0 hB (by decide)) (sm_c0 hB) rfl 10 (by decide) rfl rfl (List.mem_of_getElem? (i := 2) rfl) dX8_worthOf_20 ?_
      refine lv_iconst (v := 3) hx hb dX8_worthOf_23 (by decide) ?_
      refine lv_iload_n hx hb dX8_worthOf_24 rfl (lv_at hl 2 rfl) ?_
      refine lv_imul hx hb dX8_worthOf_25 ?_
      obtain ⟨hi21, hs⟩ := sp_g hs
      refine sv_iald hx hb hK hW (sm_i 6 hB (by decide)) (sm_c6 hB) 0 rfl hi21 dX8_worthOf_26 ?_
      refine lv_goto (tgt := 31) hx hb dX8_worthOf_27 (by decide) ?_
      cases hs
      exact sv_iret hx hb hr rfl hlk hW dX8_worthOf_31
set_option maxRecDepth 100000 in
set_option maxHeartbeats 4000000 in
theorem b_X8_holds_34 {p : Program} {l : Launch} {e : Env} {s : State} {m : MethodId} {args : Array Value} {below : List Frame} {meth : Method} {c : Code} {D : va_G} {T : Nat → ClassId} {A : Nat → Prop} {h : Nat → Nat} {θ : sv_T} {a1 : Int32} {a2 : Int32} {a3 : Int32} {r : Int32} {σ' : sv_S} (hB : sm_base θ)  (F : sv_F sm_X p m c cX8_holds 7 s args wsX8_holds RX8 D (sm_tys T) A) (hr : meth.sig.returnType = (some .boolean)) (hlk : meth.locks = false)  : ∀ (n : Nat), ∀ (x1 : Int32) (x4 : Int32) (x5 : Int32) (x6 : Int32) (σ : sv_S) (H : Heap) (locs : List Loc) (ls : Array Slot), lv_has ls 7 [(0, .ref (h 0)), (1, .int x1), (4, .int x4), (5, .int x5), (6, .int x6)] → sv_W D T A s h θ σ H locs → q_X8_holds_B34 θ a1 a2 a3 n x1 x4 x5 x6 σ = some (r, σ') → W p l e (sv_rm 65 2518) s m args below meth c H locs 0 0 (MQ below (va_Qi (fun r2 (_ : Unit) => r2 = r) (fun _ t => va_P D vwCl (sv_ws T h θ σ') t.heap) A) args s 0 0 A) (F0 m 34 ls []) := by
  have hx := F.1.1
  have hb := F.1.2.1
  have hts := F.1.2.2.2.2
  have hown := F.1.2.2.2.1
  have hK := F.2.1
  intro n
  induction n with
  | zero =>
    intro x1 x4 x5 x6 σ H locs ls hl hW hs
    have hs : (none : Option (Int32 × sv_S)) = some (r, σ') := hs
    cases hs
  | succ n ih =>
    intro x1 x4 x5 x6 σ H locs ls hl hW hs
    have hs : q_X8_holds_B34_b θ a1 a2 a3 (q_X8_holds_B34 θ a1 a2 a3 n) x1 x4 x5 x6 σ = some (r, σ') := hs
    unfold q_X8_holds_B34_b at hs
    refine lv_iload hx hb dX8_holds_34 (lv_at hl 4 rfl) ?_
    refine lv_iload hx hb dX8_holds_36 (lv_at hl 3 rfl) ?_
    refine lv_icmp_gt (tgt := 61) hx hb dX8_holds_38 (by decide) (fun c7 => ?_) (fun c7 => ?_)
    · replace hs := (sp_ite hs).1 c7
      refine lv_iconst (v := 1) hx hb dX8_holds_61 (by decide) ?_
      cases hs
      exact sv_iret hx hb hr rfl hlk hW dX8_holds_62
    · replace hs := (sp_ite hs).2 c7
      refine lv_aload_n hx hb dX8_holds_41 rfl (lv_at hl 0 rfl) ?_
      refine lv_iload_n hx hb dX8_holds_42 rfl (lv_at hl 1 rfl) ?_
      refine lv_iload hx hb dX8_holds_43 (lv_at hl 4 rfl) ?_
      obtain ⟨r8, σ9, eσ9, hs⟩ := sp_bind hs
      refine sv_goI (σ' := σ9) (r := r8) hW F.2.2.2.1 (sv_runV (C := RX8) F hW (k_X8_rainOf hB eσ9 H.size) gX8_holds_X8_rainOf rfl ⟨rfl, rfl⟩ 2 (by decide +kernel) (sv_room2 (by omega) (by omega)) (sm_i 0 hB (by decide)) (sm_c0 hB) rfl rfl hl.1 rfl (Nat.le_of_ble_eq_true rfl) dX8_holds_45 ⟨Nat.zero_le _, Nat.zero_le _⟩) (fun H locs hW => ?_)
      refine lv_iload hx hb dX8_holds_48 (lv_at hl 2 rfl) ?_
      refine lv_icmp_ge (tgt := 55) hx hb dX8_holds_50 (by decide) (fun c10 => ?_) (fun c10 => ?_)
      · replace hs := (sp_ite hs).1 c10
        obtain ⟨v11, ev11⟩ : ∃ y : Int32, y = x6 + 1 := ⟨_, rfl⟩
        replace hs := sp_let hs ev11
        refine lv_iinc (v := v11) (lv' := [(6, .int v11), (0, .ref (h 0)), (1, .int x1), (4, .int x4), (5, .int x5)]) hx hb dX8_holds_55 hl (k := 4) rfl (by rw [ev11]; rfl) (by decide) rfl (fun ls hl => ?_)
        refine lv_goto (tgt := 34) hx hb dX8_holds_58 (by decide) ?_
        exact ih x1 x4 x5 v11 σ9 H locs ls (lv_sub hl [1, 2, 3, 4, 0] rfl) hW hs
      · replace hs := (sp_ite hs).2 c10
        refine lv_iconst (v := 0) hx hb dX8_holds_53 (by decide) ?_
        cases hs
        exact sv_iret hx hb hr rfl hlk hW dX8_holds_54
set_option maxRecDepth 100000 in
set_option maxHeartbeats 4000000 in
theorem k_X8_holds {l : Launch} {D : va_G} {T : Nat → ClassId} {h : Nat → Nat} {θ : sv_T} {a1 : Int32} {a2 : Int32} {a3 : Int32} {σ : sv_S} {r : Int32} {σ' : sv_S} (hB : sm_base θ)  (hs : q_X8_holds θ a1 a2 a3 σ = some (r, σ')) : sv_Mi sm_X l D T (sm_tys T) h θ yX8_holds wsX8_holds (sv_rm 65 2518) [.ref (h 0), .int a1, .int a2, .int a3] σ r σ' := by
  intro sz
  refine sv_enter (cc := cX8_holds) (maxL := 7) (ret := (some .boolean)) (Qc := fun A => va_Qi (fun r2 (_ : Unit) => r2 = r) (fun _ t => va_P D vwCl (sv_ws T h θ σ') t.heap) A) sm_XP (by decide) rfl (Nat.le_of_ble_eq_true rfl) ?_
  intro p e s m args below meth c A F hr hlk ls H hl hW
  have hx := F.1.1
  have hb := F.1.2.1
  have hts := F.1.2.2.2.2
  have hown := F.1.2.2.2.1
  have hK := F.2.1
  obtain ⟨locs, hlocs⟩ : ∃ z : List Loc, z = [] := ⟨_, rfl⟩
  rw [← hlocs] at hW ⊢
  have hl : lv_has ls 7 [(0, .ref (h 0)), (1, .int a1), (2, .int a2), (3, .int a3)] := hl
  unfold q_X8_holds at hs
  refine lv_aload_n hx hb dX8_holds_0 rfl (lv_at hl 0 rfl) ?_
  refine lv_iload_n hx hb dX8_holds_1 rfl (lv_at hl 1 rfl) ?_
  refine lv_iload_n hx hb dX8_holds_2 rfl (lv_at hl 2 rfl) ?_
  refine lv_iload_n hx hb dX8_holds_3 rfl (lv_at hl 3 rfl) ?_
  obtain ⟨r1, σ2, eσ2, hs⟩ := sp_bind hs
  refine sv_goI (σ' := σ2) (r := r1) hW F.2.2.2.1 (sv_runV (C := RX8) F hW (k_X8_needsOf hB eσ2 H.size) gX8_holds_X8_needsOf rfl ⟨rfl, rfl⟩ 3 (by decide +kernel) (sv_room2 (by omega) (by omega)) (sm_i 0 hB (by decide)) (sm_c0 hB) rfl rfl hl.1 rfl (Nat.le_of_ble_eq_true rfl) dX8_holds_4 ⟨Nat.zero_le _, Nat.zero_le _⟩) (fun H locs hW => ?_)
  refine lv_istore (lv' := [(4, .int r1), (0, .ref (h 0)), (1, .int a1), (2, .int a2), (3, .int a3)]) hx hb dX8_holds_7 hl (by decide) rfl (fun ls hl => ?_)
  refine lv_iload_n hx hb dX8_holds_9 rfl (lv_at hl 3 rfl) ?_
  refine lv_aload_n hx hb dX8_holds_10 rfl (lv_at hl 1 rfl) ?_
  refine lv_iload_n hx hb dX8_holds_11 rfl (lv_at hl 2 rfl) ?_
  refine lv_iload_n hx hb dX8_holds_12 rfl (lv_at hl 3 rfl) ?_
  refine lv_iload_n hx hb dX8_holds_13 rfl (lv_at hl 4 rfl) ?_
  obtain ⟨r3, σ4, eσ4, hs⟩ := sp_bind hs
  refine sv_goI (σ' := σ4) (r := r3) hW F.2.2.2.1 (sv_runV (C := RX8) F hW (k_X8_takesOf hB eσ4 H.size) gX8_holds_X8_takesOf rfl ⟨rfl, rfl⟩ 3 (by decide +kernel) (sv_room2 (by omega) (by omega)) (sm_i 0 hB (by decide)) (sm_c0 hB) rfl rfl hl.1 rfl (Nat.le_of_ble_eq_true rfl) dX8_holds_14 ⟨Nat.zero_le _, Nat.zero_le _⟩) (fun H locs hW => ?_)
  refine lv_iadd hx hb dX8_holds_17 ?_
  refine lv_iconst (v := 1) hx hb dX8_holds_18 (by decide) ?_
  refine lv_isub hx hb dX8_holds_19 ?_
  refine lv_topi (fun v5 ev5 => ?_)
  replace hs := sp_let hs ev5
  refine lv_istore (lv' := [(5, .int v5), (4, .int r1), (0, .ref (h 0)), (1, .int a1), (2, .int a2), (3, .int a3)]) hx hb dX8_holds_20 hl (by decide) rfl (fun ls hl => ?_)
  refine lv_iload hx hb dX8_holds_22 (lv_at hl 0 rfl) ?_
  refine lv_bipush (v := 24) hx hb dX8_holds_24 (by decide) ?_
  refine lv_icmp_lt (tgt := 31) hx hb dX8_holds_26 (by decide) (fun c6 => ?_) (fun c6 => ?_)
  · replace hs := (sp_ite hs).1 c6
    refine lv_iload_n hx hb dX8_holds_31 rfl (lv_at hl 4 rfl) ?_
    refine lv_istore (lv' := [(6, .int a2), (5, .int v5), (4, .int r1), (0, .ref (h 0)), (1, .int a1), (2, .int a2), (3, .int a3)]) hx hb dX8_holds_32 hl (by decide) rfl (fun ls hl => ?_)
    exact b_X8_holds_34 hB F hr hlk sv_N a1 r1 v5 a2 σ4 H locs ls (lv_sub hl [3, 4, 2, 1, 0] rfl) hW hs
  · replace hs := (sp_ite hs).2 c6
    refine lv_iconst (v := 0) hx hb dX8_holds_29 (by decide) ?_
    cases hs
    exact sv_iret hx hb hr rfl hlk hW dX8_holds_30
set_option maxRecDepth 100000 in
set_option maxHeartbeats 4000000 in
theorem b_X8_shakes_3 {p : Program} {l : Launch} {e : Env} {s : State} {m : MethodId} {args : Array Value} {below : List Frame} {meth : Method} {c : Code} {D : va_G} {T : Nat → ClassId} {A : Nat → Prop} {h : Nat → Nat} {θ : sv_T} {a1 : Int32} {a2 : Int32} {a3 : Int32} {r : Int32} {σ' : sv_S} (hB : sm_base θ)  (F : sv_F sm_X p m c cX8_shakes 5 s args wsX8_shakes RX8 D (sm_tys T) A) (hr : meth.sig.returnType = (some .int)) (hlk : meth.locks = false)  : ∀ (n : Nat), ∀ (x1 : Int32) (x3 : Int32) (x4 : Int32) (σ : sv_S) (H : Heap) (locs : List Loc) (ls : Array Slot), lv_has ls 5 [(0, .ref (h 0)), (1, .int x1), (3, .int x3), (4, .int x4)] → sv_W D T A s h θ σ H locs → q_X8_shakes_B3 θ a1 a2 a3 n x1 x3 x4 σ = some (r, σ') → W p l e (sv_rm 66 2544) s m args below meth c H locs 0 0 (MQ below (va_Qi (fun r2 (_ : Unit) => r2 = r) (fun _ t => va_P D vwCl (sv_ws T h θ σ') t.heap) A) args s 0 0 A) (F0 m 3 ls []) := by
  have hx := F.1.1
  have hb := F.1.2.1
  have hts := F.1.2.2.2.2
  have hown := F.1.2.2.2.1
  have hK := F.2.1
  intro n
  induction n with
  | zero =>
    intro x1 x3 x4 σ H locs ls hl hW hs
    have hs : (none : Option (Int32 × sv_S)) = some (r, σ') := hs
    cases hs
  | succ n ih =>
    intro x1 x3 x4 σ H locs ls hl hW hs
    have hs : q_X8_shakes_B3_b θ a1 a2 a3 (q_X8_shakes_B3 θ a1 a2 a3 n) x1 x3 x4 σ = some (r, σ') := hs
    unfold q_X8_shakes_B3_b at hs
    refine lv_iload hx hb dX8_shakes_3 (lv_at hl 3 rfl) ?_
    refine lv_bipush (v := 24) hx hb dX8_shakes_5 (by decide) ?_
    refine lv_icmp_ge (tgt := 41) hx hb dX8_shakes_7 (by decide) (fun c1 => ?_) (fun c1 => ?_)
    · replace hs := (sp_ite hs).1 c1
      refine lv_iconst (v := -1) hx hb dX8_shakes_41 (by decide) ?_
      cases hs
      exact sv_iret hx hb hr rfl hlk hW dX8_shakes_42
    · replace hs := (sp_ite hs).2 c1
      refine lv_aload_n hx hb dX8_shakes_10 rfl (lv_at hl 0 rfl) ?_
      refine lv_iload_n hx hb dX8_shakes_11 rfl (lv_at hl 1 rfl) ?_
      refine lv_iload hx hb dX8_shakes_12 (lv_at hl 3 rfl) ?_
      refine lv_iload_n hx hb dX8_shakes_14 rfl (lv_at hl 2 rfl) ?_
      obtain ⟨r2, σ3, eσ3, hs⟩ := sp_bind hs
      refine sv_goI (σ' := σ3) (r := r2) hW F.2.2.2.1 (sv_runV (C := RX8) F hW (k_X8_holds hB eσ3 H.size) gX8_shakes_X8_holds rfl ⟨rfl, rfl⟩ 3 (by decide +kernel) (sv_room2 (by omega) (by omega)) (sm_i 0 hB (by decide)) (sm_c0 hB) rfl rfl hl.1 rfl (Nat.le_of_ble_eq_true rfl) dX8_shakes_15 ⟨Nat.zero_le _, Nat.zero_le _⟩) (fun H locs hW => ?_)
      refine lv_if_eq (tgt := 35) hx hb dX8_shakes_18 (by decide) (fun c4 => ?_) (fun c4 => ?_)
      · replace hs := (sp_ite hs).1 c4
        obtain ⟨v5, ev5⟩ : ∃ y : Int32, y = x4 + 1 := ⟨_, rfl⟩
        replace hs := sp_let hs ev5
        refine lv_iinc (v := v5) (lv' := [(4, .int v5), (0, .ref (h 0)), (1, .int x1), (3, .int x3)]) hx hb dX8_shakes_35 hl (k := 3) rfl (by rw [ev5]; rfl) (by decide) rfl (fun ls hl => ?_)
        refine lv_goto (tgt := 3) hx hb dX8_shakes_38 (by decide) ?_
        exact ih x1 x3 v5 σ3 H locs ls (lv_sub hl [1, 2, 3, 0] rfl) hW hs
      · replace hs := (sp_ite hs).2 c4
        refine lv_iload hx hb dX8_shakes_21 (lv_at hl 3 rfl) ?_
        refine lv_aload_n hx hb dX8_shakes_23 rfl (lv_at hl 0 rfl) ?_
        refine lv_iload_n hx hb dX8_shakes_24 rfl (lv_at hl 1 rfl) ?_
        refine lv_iload hx hb dX8_shakes_25 (lv_at hl 3 rfl) ?_
        refine lv_iload_n hx hb dX8_shakes_27 rfl (lv_at hl 2 rfl) ?_
        obtain ⟨r6, σ7, eσ7, hs⟩ := sp_bind hs
        refine sv_goI (σ' := σ7) (r := r6) hW F.2.2.2.1 (sv_runV (C := RX8) F hW (k_X8_takesOf hB eσ7 H.size) gX8_shakes_X8_takesOf rfl ⟨rfl, rfl⟩ 3 (by decide +kernel) (sv_room2 (by omega) (by omega)) (sm_i 0 hB (by decide)) (sm_c0 hB) rfl rfl hl.1 rfl (Nat.le_of_ble_eq_true rfl) dX8_shakes_28 ⟨Nat.zero_le _, Nat.zero_le _⟩) (fun H locs hW => ?_)
        refine lv_iadd hx hb dX8_shakes_31 ?_
        refine lv_iconst (v := 1) hx hb dX8_shakes_32 (by decide) ?_
        refine lv_isub hx hb dX8_shakes_33 ?_
        cases hs
        exact sv_iret hx hb hr rfl hlk hW dX8_shakes_34
set_option maxRecDepth 100000 in
set_option maxHeartbeats 4000000 in
theorem k_X8_shakes {l : Launch} {D : va_G} {T : Nat → ClassId} {h : Nat → Nat} {θ : sv_T} {a1 : Int32} {a2 : Int32} {a3 : Int32} {σ : sv_S} {r : Int32} {σ' : sv_S} (hB : sm_base θ)  (hs : q_X8_shakes θ a1 a2 a3 σ = some (r, σ')) : sv_Mi sm_X l D T (sm_tys T) h θ yX8_shakes wsX8_shakes (sv_rm 66 2544) [.ref (h 0), .int a1, .int a2, .int a3] σ r σ' := by
  intro sz
  refine sv_enter (cc := cX8_shakes) (maxL := 5) (ret := (some .int)) (Qc := fun A => va_Qi (fun r2 (_ : Unit) => r2 = r) (fun _ t => va_P D vwCl (sv_ws T h θ σ') t.heap) A) sm_XP (by decide) rfl (Nat.le_of_ble_eq_true rfl) ?_
  intro p e s m args below meth c A F hr hlk ls H hl hW
  have hx := F.1.1
  have hb := F.1.2.1
  have hts := F.1.2.2.2.2
  have hown := F.1.2.2.2.1
  have hK := F.2.1
  obtain ⟨locs, hlocs⟩ : ∃ z : List Loc, z = [] := ⟨_, rfl⟩
  rw [← hlocs] at hW ⊢
  have hl : lv_has ls 5 [(0, .ref (h 0)), (1, .int a1), (2, .int a2), (3, .int a3)] := hl
  unfold q_X8_shakes at hs
  refine lv_iload_n hx hb dX8_shakes_0 rfl (lv_at hl 2 rfl) ?_
  refine lv_istore (lv' := [(4, .int a2), (0, .ref (h 0)), (1, .int a1), (2, .int a2), (3, .int a3)]) hx hb dX8_shakes_1 hl (by decide) rfl (fun ls hl => ?_)
  exact b_X8_shakes_3 hB F hr hlk sv_N a1 a3 a2 σ H locs ls (lv_sub hl [1, 2, 4, 0] rfl) hW hs
set_option maxRecDepth 100000 in
set_option maxHeartbeats 4000000 in
theorem k_X8_asks {l : Launch} {D : va_G} {T : Nat → ClassId} {h : Nat → Nat} {θ : sv_T} {a1 : Int32} {a2 : Int32} {a3 : Int32} {σ : sv_S} {r : Int32} {σ' : sv_S} (hB : sm_base θ)  (hs : q_X8_asks θ a1 a2 a3 σ = some (r, σ')) : sv_Mi sm_X l D T (sm_tys T) h θ yX8_asks wsX8_asks (sv_rm 67 2568) [.ref (h 0), .int a1, .int a2, .int a3] σ r σ' := by
  intro sz
  refine sv_enter (cc := cX8_asks) (maxL := 5) (ret := (some .int)) (Qc := fun A => va_Qi (fun r2 (_ : Unit) => r2 = r) (fun _ t => va_P D vwCl (sv_ws T h θ σ') t.heap) A) sm_XP (by decide) rfl (Nat.le_of_ble_eq_true rfl) ?_
  intro p e s m args below meth c A F hr hlk ls H hl hW
  have hx := F.1.1
  have hb := F.1.2.1
  have hts := F.1.2.2.2.2
  have hown := F.1.2.2.2.1
  have hK := F.2.1
  obtain ⟨locs, hlocs⟩ : ∃ z : List Loc, z = [] := ⟨_, rfl⟩
  rw [← hlocs] at hW ⊢
  have hl : lv_has ls 5 [(0, .ref (h 0)), (1, .int a1), (2, .int a2), (3, .int a3)] := hl
  unfold q_X8_asks at hs
  refine lv_aload_n hx hb dX8_asks_0 rfl (lv_at hl 0 rfl) ?_
  refine lv_iload_n hx hb dX8_asks_1 rfl (lv_at hl 1 rfl) ?_
  obtain ⟨r1, σ2, eσ2, hs⟩ := sp_bind hs
  refine sv_goI (σ' := σ2) (r := r1) hW F.2.2.2.1 (sv_runV (C := RX8) F hW (k_X8_isOne hB eσ2 H.size) gX8_asks_X8_isOne rfl ⟨rfl, rfl⟩ 1 (by decide +kernel) (sv_room2 (by omega) (by omega)) (sm_i 0 hB (by decide)) (sm_c0 hB) rfl rfl hl.1 rfl (Nat.le_of_ble_eq_true rfl) dX8_asks_2 ⟨Nat.zero_le _, Nat.zero_le _⟩) (fun H locs hW => ?_)
  refine lv_if_eq (tgt := 27) hx hb dX8_asks_5 (by decide) (fun c3 => ?_) (fun c3 => ?_)
  · replace hs := (sp_ite hs).1 c3
    refine lv_bipush (v := -2) hx hb dX8_asks_27 (by decide) ?_
    cases hs
    exact sv_iret hx hb hr rfl hlk hW dX8_asks_29
  · replace hs := (sp_ite hs).2 c3
    refine lv_iload_n hx hb dX8_asks_8 rfl (lv_at hl 2 rfl) ?_
    obtain ⟨r4, σ5, eσ5, hs⟩ := sp_bind hs
    refine sv_goI (σ' := σ5) (r := r4) hW F.2.2.2.1 (sv_runT F hW (k_X8_isHour hB eσ5 H.size) gX8_asks_X8_isHour rfl ⟨rfl, rfl⟩ 1 (by decide +kernel) (sv_room2 (by omega) (by omega)) rfl hl.1 rfl (Nat.le_of_ble_eq_true rfl) dX8_asks_9 ⟨Nat.zero_le _, Nat.zero_le _⟩) (fun H locs hW => ?_)
    refine lv_if_eq (tgt := 27) hx hb dX8_asks_12 (by decide) (fun c6 => ?_) (fun c6 => ?_)
    · replace hs := (sp_ite hs).1 c6
      refine lv_bipush (v := -2) hx hb dX8_asks_27 (by decide) ?_
      cases hs
      exact sv_iret hx hb hr rfl hlk hW dX8_asks_29
    · replace hs := (sp_ite hs).2 c6
      refine lv_iload_n hx hb dX8_asks_15 rfl (lv_at hl 3 rfl) ?_
      refine lv_i2l (v := a3.toInt64) hx hb dX8_asks_16 rfl ?_
      refine lv_lconst (v := 0) hx hb dX8_asks_17 (by decide) ?_
      refine lv_ldc2 (own := RX8) (index := 79) (v := 4) hx hb hown (hts _ (List.mem_of_getElem? (i := 1) rfl)) dX8_asks_18 ?_
      obtain ⟨r7, σ8, eσ8, hs⟩ := sp_bind hs
      refine sv_goI (σ' := σ8) (r := r7) hW F.2.2.2.1 (sv_runT F hW (k_X8_in hB eσ8 H.size) gX8_asks_X8_in rfl ⟨rfl, rfl⟩ 3 (by decide +kernel) (sv_room2 (by omega) (by omega)) rfl hl.1 rfl (Nat.le_of_ble_eq_true rfl) dX8_asks_21 ⟨Nat.zero_le _, Nat.zero_le _⟩) (fun H locs hW => ?_)
      refine lv_if_ne (tgt := 30) hx hb dX8_asks_24 (by decide) (fun c9 => ?_) (fun c9 => ?_)
      · replace hs := (sp_ite hs).2 c9
        refine lv_aload_n hx hb dX8_asks_30 rfl (lv_at hl 0 rfl) ?_
        obtain ⟨r10, σ11, eσ11, hs⟩ := sp_bind hs
        refine sv_goI (σ' := σ11) (r := r10) hW F.2.2.2.1 (sv_runV (C := RX8) F hW (k_X8_shakenMany hB eσ11 H.size) gX8_asks_X8_shakenMany rfl ⟨rfl, rfl⟩ 0 (by decide +kernel) (sv_room2 (by omega) (by omega)) (sm_i 0 hB (by decide)) (sm_c0 hB) rfl rfl hl.1 rfl (Nat.le_of_ble_eq_true rfl) dX8_asks_31 ⟨Nat.zero_le _, Nat.zero_le _⟩) (fun H locs hW => ?_)
        refine lv_istore (lv' := [(4, .int r10), (0, .ref (h 0)), (1, .int a1), (2, .int a2), (3, .int a3)]) hx hb dX8_asks_34 hl (by decide) rfl (fun ls hl => ?_)
        refine lv_iload_n hx hb dX8_asks_36 rfl (lv_at hl 4 rfl) ?_
        refine lv_iconst (v := 2) hx hb dX8_asks_37 (by decide) ?_
        refine lv_icmp_ge (tgt := 65) hx hb dX8_asks_38 (by decide) (fun c12 => ?_) (fun c12 => ?_)
        · replace hs := (sp_ite hs).1 c12
          refine lv_iload_n hx hb dX8_asks_65 rfl (lv_at hl 4 rfl) ?_
          refine lv_iconst (v := 2) hx hb dX8_asks_66 (by decide) ?_
          refine lv_icmp_ne (tgt := 89) hx hb dX8_asks_67 (by decide) (fun c13 => ?_) (fun c13 => ?_)
          · replace hs := (sp_ite hs).2 c13
            refine lv_iload_n hx hb dX8_asks_89 rfl (lv_at hl 4 rfl) ?_
            refine lv_iconst (v := 3) hx hb dX8_asks_90 (by decide) ?_
            refine lv_icmp_ne (tgt := 105) hx hb dX8_asks_91 (by decide) (fun c14 => ?_) (fun c14 => ?_)
            · replace hs := (sp_ite hs).2 c14
              refine lv_aload_n hx hb dX8_asks_105 rfl (lv_at hl 1 rfl) ?_
              refine lv_iload_n hx hb dX8_asks_106 rfl (lv_at hl 2 rfl) ?_
              refine lv_iload_n hx hb dX8_asks_107 rfl (lv_at hl 3 rfl) ?_
              refine lv_iload hx hb dX8_asks_108 (lv_at hl 0 rfl) ?_
              obtain ⟨r15, σ16, eσ16, hs⟩ := sp_bind hs
              refine sv_goI (σ' := σ16) (r := r15) hW F.2.2.2.1 (sv_runV (C := RX8) F hW (k_X8_shakes hB eσ16 H.size) gX8_asks_X8_shakes rfl ⟨rfl, rfl⟩ 3 (by decide +kernel) (sv_room2 (by omega) (by omega)) (sm_i 0 hB (by decide)) (sm_c0 hB) rfl rfl hl.1 rfl (Nat.le_of_ble_eq_true rfl) dX8_asks_110 ⟨Nat.zero_le _, Nat.zero_le _⟩) (fun H locs hW => ?_)
              cases hs
              exact sv_iret hx hb hr rfl hlk hW dX8_asks_113
            · replace hs := (sp_ite hs).1 c14
              refine lv_aload_n hx hb dX8_asks_94 rfl (lv_at hl 1 rfl) ?_
              refine lv_iload_n hx hb dX8_asks_95 rfl (lv_at hl 2 rfl) ?_
              refine lv_iload_n hx hb dX8_asks_96 rfl (lv_at hl 3 rfl) ?_
              refine lv_iload hx hb dX8_asks_97 (lv_at hl 0 rfl) ?_
              obtain ⟨r17, σ18, eσ18, hs⟩ := sp_bind hs
              refine sv_goI (σ' := σ18) (r := r17) hW F.2.2.2.1 (sv_runV (C := RX8) F hW (k_X8_worthOf hB eσ18 H.size) gX8_asks_X8_worthOf rfl ⟨rfl, rfl⟩ 3 (by decide +kernel) (sv_room2 (by omega) (by omega)) (sm_i 0 hB (by decide)) (sm_c0 hB) rfl rfl hl.1 rfl (Nat.le_of_ble_eq_true rfl) dX8_asks_99 ⟨Nat.zero_le _, Nat.zero_le _⟩) (fun H locs hW => ?_)
              refine lv_goto (tgt := 113) hx hb dX8_asks_102 (by decide) ?_
              cases hs
              exact sv_iret hx hb hr rfl hlk hW dX8_asks_113
          · replace hs := (sp_ite hs).1 c13
            refine lv_aload_n hx hb dX8_asks_70 rfl (lv_at hl 1 rfl) ?_
            refine lv_iload_n hx hb dX8_asks_71 rfl (lv_at hl 2 rfl) ?_
            refine lv_iload_n hx hb dX8_asks_72 rfl (lv_at hl 3 rfl) ?_
            refine lv_iload hx hb dX8_asks_73 (lv_at hl 0 rfl) ?_
            obtain ⟨r19, σ20, eσ20, hs⟩ := sp_bind hs
            refine sv_goI (σ' := σ20) (r := r19) hW F.2.2.2.1 (sv_runV (C := RX8) F hW (k_X8_holds hB eσ20 H.size) gX8_asks_X8_holds rfl ⟨rfl, rfl⟩ 3 (by decide +kernel) (sv_room2 (by omega) (by omega)) (sm_i 0 hB (by decide)) (sm_c0 hB) rfl rfl hl.1 rfl (Nat.le_of_ble_eq_true rfl) dX8_asks_75 ⟨Nat.zero_le _, Nat.zero_le _⟩) (fun H locs hW => ?_)
            refine lv_if_eq (tgt := 85) hx hb dX8_asks_78 (by decide) (fun c21 => ?_) (fun c21 => ?_)
            · replace hs := (sp_ite hs).1 c21
              refine lv_iconst (v := 0) hx hb dX8_asks_85 (by decide) ?_
              refine lv_goto (tgt := 113) hx hb dX8_asks_86 (by decide) ?_
              cases hs
              exact sv_iret hx hb hr rfl hlk hW dX8_asks_113
            · replace hs := (sp_ite hs).2 c21
              refine lv_iconst (v := 1) hx hb dX8_asks_81 (by decide) ?_
              refine lv_goto (tgt := 113) hx hb dX8_asks_82 (by decide) ?_
              cases hs
              exact sv_iret hx hb hr rfl hlk hW dX8_asks_113
        · replace hs := (sp_ite hs).2 c12
          refine lv_iload_n hx hb dX8_asks_41 rfl (lv_at hl 4 rfl) ?_
          refine lv_if_ne (tgt := 56) hx hb dX8_asks_42 (by decide) (fun c22 => ?_) (fun c22 => ?_)
          · replace hs := (sp_ite hs).2 c22
            refine lv_aload_n hx hb dX8_asks_56 rfl (lv_at hl 1 rfl) ?_
            refine lv_iload_n hx hb dX8_asks_57 rfl (lv_at hl 2 rfl) ?_
            refine lv_iload_n hx hb dX8_asks_58 rfl (lv_at hl 3 rfl) ?_
            refine lv_iload hx hb dX8_asks_59 (lv_at hl 0 rfl) ?_
            obtain ⟨r23, σ24, eσ24, hs⟩ := sp_bind hs
            refine sv_goI (σ' := σ24) (r := r23) hW F.2.2.2.1 (sv_runV (C := RX8) F hW (k_X8_takesOf hB eσ24 H.size) gX8_asks_X8_takesOf rfl ⟨rfl, rfl⟩ 3 (by decide +kernel) (sv_room2 (by omega) (by omega)) (sm_i 0 hB (by decide)) (sm_c0 hB) rfl rfl hl.1 rfl (Nat.le_of_ble_eq_true rfl) dX8_asks_61 ⟨Nat.zero_le _, Nat.zero_le _⟩) (fun H locs hW => ?_)
            cases hs
            exact sv_iret hx hb hr rfl hlk hW dX8_asks_64
          · replace hs := (sp_ite hs).1 c22
            refine lv_aload_n hx hb dX8_asks_45 rfl (lv_at hl 1 rfl) ?_
            refine lv_iload_n hx hb dX8_asks_46 rfl (lv_at hl 2 rfl) ?_
            refine lv_iload_n hx hb dX8_asks_47 rfl (lv_at hl 3 rfl) ?_
            refine lv_iload hx hb dX8_asks_48 (lv_at hl 0 rfl) ?_
            obtain ⟨r25, σ26, eσ26, hs⟩ := sp_bind hs
            refine sv_goI (σ' := σ26) (r := r25) hW F.2.2.2.1 (sv_runV (C := RX8) F hW (k_X8_needsOf hB eσ26 H.size) gX8_asks_X8_needsOf rfl ⟨rfl, rfl⟩ 3 (by decide +kernel) (sv_room2 (by omega) (by omega)) (sm_i 0 hB (by decide)) (sm_c0 hB) rfl rfl hl.1 rfl (Nat.le_of_ble_eq_true rfl) dX8_asks_50 ⟨Nat.zero_le _, Nat.zero_le _⟩) (fun H locs hW => ?_)
            refine lv_goto (tgt := 64) hx hb dX8_asks_53 (by decide) ?_
            cases hs
            exact sv_iret hx hb hr rfl hlk hW dX8_asks_64
      · replace hs := (sp_ite hs).1 c9
        refine lv_bipush (v := -2) hx hb dX8_asks_27 (by decide) ?_
        cases hs
        exact sv_iret hx hb hr rfl hlk hW dX8_asks_29
set_option maxRecDepth 100000 in
set_option maxHeartbeats 4000000 in
theorem k_X8_begins {l : Launch} {D : va_G} {T : Nat → ClassId} {h : Nat → Nat} {θ : sv_T}  {σ : sv_S} {r : Unit} {σ' : sv_S} (hB : sm_base θ)  (hs : q_X8_begins θ  σ = some (r, σ')) : sv_Mv sm_X l D T (sm_tys T) h θ yX8_begins wsX8_begins (sv_rm 0 0) [.ref (h 0)] σ r σ' := by
  intro sz
  refine sv_enter (cc := cX8_begins) (maxL := 1) (ret := none) (Qc := fun A => va_Qv (fun (_ : Unit) => True) (fun _ t => va_P D vwCl (sv_ws T h θ σ') t.heap) A) sm_XP (by decide) rfl (Nat.le_of_ble_eq_true rfl) ?_
  intro p e s m args below meth c A F hr hlk ls H hl hW
  have hx := F.1.1
  have hb := F.1.2.1
  have hts := F.1.2.2.2.2
  have hown := F.1.2.2.2.1
  have hK := F.2.1
  obtain ⟨locs, hlocs⟩ : ∃ z : List Loc, z = [] := ⟨_, rfl⟩
  rw [← hlocs] at hW ⊢
  have hl : lv_has ls 1 [(0, .ref (h 0))] := hl
  unfold q_X8_begins at hs
  refine lv_aload_n hx hb dX8_begins_0 rfl (lv_at hl 0 rfl) ?_
  refine lv_iconst (v := 0) hx hb dX8_begins_1 (by decide) ?_
  refine sv_putI (own := RX8) (C := RX8) (Tf := TX8) (N := 44) (index := 261) hx hb hts hown hK hW (fun _ h => List.mem_cons_of_mem _ (List.mem_append_right _ h)) tyX8 tyX8_ok nmX8 (sm_i 0 hB (by decide)) (sm_c0 hB) rfl 27 (by decide) rfl rfl (ty := .int) (by decide +kernel) rfl rfl (List.mem_of_getElem? (i := 1) rfl) dX8_begins_2 (fun σ1 H locs eσ1 hW => ?_)
  replace hs := sp_let hs eσ1
  refine lv_aload_n hx hb dX8_begins_5 rfl (lv_at hl 0 rfl) ?_
  refine lv_iconst (v := 0) hx hb dX8_begins_6 (by decide) ?_
  refine sv_putI (own := RX8) (C := RX8) (Tf := TX8) (N := 44) (index := 264) hx hb hts hown hK hW (fun _ h => List.mem_cons_of_mem _ (List.mem_append_right _ h)) tyX8 tyX8_ok nmX8 (sm_i 0 hB (by decide)) (sm_c0 hB) rfl 28 (by decide) rfl rfl (ty := .int) (by decide +kernel) rfl rfl (List.mem_of_getElem? (i := 2) rfl) dX8_begins_7 (fun σ2 H locs eσ2 hW => ?_)
  replace hs := sp_let hs eσ2
  refine lv_aload_n hx hb dX8_begins_10 rfl (lv_at hl 0 rfl) ?_
  refine lv_iconst (v := -1) hx hb dX8_begins_11 (by decide) ?_
  refine sv_putI (own := RX8) (C := RX8) (Tf := TX8) (N := 44) (index := 267) hx hb hts hown hK hW (fun _ h => List.mem_cons_of_mem _ (List.mem_append_right _ h)) tyX8 tyX8_ok nmX8 (sm_i 0 hB (by decide)) (sm_c0 hB) rfl 29 (by decide) rfl rfl (ty := .int) (by decide +kernel) rfl rfl (List.mem_of_getElem? (i := 3) rfl) dX8_begins_12 (fun σ3 H locs eσ3 hW => ?_)
  replace hs := sp_let hs eσ3
  refine lv_aload_n hx hb dX8_begins_15 rfl (lv_at hl 0 rfl) ?_
  refine lv_iconst (v := 0) hx hb dX8_begins_16 (by decide) ?_
  refine sv_putI (own := RX8) (C := RX8) (Tf := TX8) (N := 44) (index := 270) hx hb hts hown hK hW (fun _ h => List.mem_cons_of_mem _ (List.mem_append_right _ h)) tyX8 tyX8_ok nmX8 (sm_i 0 hB (by decide)) (sm_c0 hB) rfl 30 (by decide) rfl rfl (ty := .int) (by decide +kernel) rfl rfl (List.mem_of_getElem? (i := 4) rfl) dX8_begins_17 (fun σ4 H locs eσ4 hW => ?_)
  replace hs := sp_let hs eσ4
  refine lv_aload_n hx hb dX8_begins_20 rfl (lv_at hl 0 rfl) ?_
  refine lv_iconst (v := 0) hx hb dX8_begins_21 (by decide) ?_
  refine sv_putI (own := RX8) (C := RX8) (Tf := TX8) (N := 44) (index := 273) hx hb hts hown hK hW (fun _ h => List.mem_cons_of_mem _ (List.mem_append_right _ h)) tyX8 tyX8_ok nmX8 (sm_i 0 hB (by decide)) (sm_c0 hB) rfl 31 (by decide) rfl rfl (ty := .int) (by decide +kernel) rfl rfl (List.mem_of_getElem? (i := 5) rfl) dX8_begins_22 (fun σ5 H locs eσ5 hW => ?_)
  replace hs := sp_let hs eσ5
  cases hs
  exact sv_vret hx hb hr hlk hW dX8_begins_25
set_option maxRecDepth 100000 in
set_option maxHeartbeats 4000000 in
theorem k_X8_deals {l : Launch} {D : va_G} {T : Nat → ClassId} {h : Nat → Nat} {θ : sv_T} {a1 : Int32} {σ : sv_S} {r : Unit} {σ' : sv_S} (hB : sm_base θ)  (hs : q_X8_deals θ a1 σ = some (r, σ')) : sv_Mv sm_X l D T (sm_tys T) h θ yX8_deals wsX8_deals (sv_rm 67 2568) [.ref (h 0), .int a1] σ r σ' := by
  intro sz
  refine sv_enter (cc := cX8_deals) (maxL := 4) (ret := none) (Qc := fun A => va_Qv (fun (_ : Unit) => True) (fun _ t => va_P D vwCl (sv_ws T h θ σ') t.heap) A) sm_XP (by decide) rfl (Nat.le_of_ble_eq_true rfl) ?_
  intro p e s m args below meth c A F hr hlk ls H hl hW
  have hx := F.1.1
  have hb := F.1.2.1
  have hts := F.1.2.2.2.2
  have hown := F.1.2.2.2.1
  have hK := F.2.1
  obtain ⟨locs, hlocs⟩ : ∃ z : List Loc, z = [] := ⟨_, rfl⟩
  rw [← hlocs] at hW ⊢
  have hl : lv_has ls 4 [(0, .ref (h 0)), (1, .int a1)] := hl
  unfold q_X8_deals at hs
  refine lv_aload_n hx hb dX8_deals_0 rfl (lv_at hl 0 rfl) ?_
  obtain ⟨r1, σ2, eσ2, hs⟩ := sp_bind hs
  refine sv_goI (σ' := σ2) (r := r1) hW F.2.2.2.1 (sv_runV (C := RX8) F hW (k_X8_shakenMany hB eσ2 H.size) gX8_deals_X8_shakenMany rfl ⟨rfl, rfl⟩ 0 (by decide +kernel) (sv_room2 (by omega) (by omega)) (sm_i 0 hB (by decide)) (sm_c0 hB) rfl rfl hl.1 rfl (Nat.le_of_ble_eq_true rfl) dX8_deals_1 ⟨Nat.zero_le _, Nat.zero_le _⟩) (fun H locs hW => ?_)
  refine lv_aload_n hx hb dX8_deals_4 rfl (lv_at hl 0 rfl) ?_
  refine sv_get (own := RX8) (C := RX8) (Tf := TX8) (N := 44) (index := 264) (κ := (0, 0)) (v := .int (σ2.1 0 28)) hx hb hts hown hK hW (fun _ h => List.mem_cons_of_mem _ (List.mem_append_right _ h)) (sm_i 0 hB (by decide)) (sm_c0 hB) rfl 28 (by decide) rfl rfl (List.mem_of_getElem? (i := 1) rfl) dX8_deals_5 ?_
  refine lv_iadd hx hb dX8_deals_8 ?_
  refine lv_topi (fun v3 ev3 => ?_)
  replace hs := sp_let hs ev3
  refine lv_istore_n (lv' := [(2, .int v3), (0, .ref (h 0)), (1, .int a1)]) hx hb dX8_deals_9 rfl hl (by decide) rfl (fun ls hl => ?_)
  refine lv_aload_n hx hb dX8_deals_10 rfl (lv_at hl 1 rfl) ?_
  refine lv_iload_n hx hb dX8_deals_11 rfl (lv_at hl 2 rfl) ?_
  refine lv_aload_n hx hb dX8_deals_12 rfl (lv_at hl 1 rfl) ?_
  refine sv_get (own := RX8) (C := RX8) (Tf := TX8) (N := 44) (index := 267) (κ := (0, 0)) (v := .int (σ2.1 0 29)) hx hb hts hown hK hW (fun _ h => List.mem_cons_of_mem _ (List.mem_append_right _ h)) (sm_i 0 hB (by decide)) (sm_c0 hB) rfl 29 (by decide) rfl rfl (List.mem_of_getElem? (i := 2) rfl) dX8_deals_13 ?_
  refine lv_iconst (v := 1) hx hb dX8_deals_16 (by decide) ?_
  refine lv_iadd hx hb dX8_deals_17 ?_
  refine lv_iload_n hx hb dX8_deals_18 rfl (lv_at hl 0 rfl) ?_
  obtain ⟨r4, σ5, eσ5, hs⟩ := sp_bind hs
  refine sv_goI (σ' := σ5) (r := r4) hW F.2.2.2.1 (sv_runV (C := RX8) F hW (k_X8_shakes hB eσ5 H.size) gX8_deals_X8_shakes rfl ⟨rfl, rfl⟩ 3 (by decide +kernel) (sv_room2 (by omega) (by omega)) (sm_i 0 hB (by decide)) (sm_c0 hB) rfl rfl hl.1 rfl (Nat.le_of_ble_eq_true rfl) dX8_deals_19 ⟨Nat.zero_le _, Nat.zero_le _⟩) (fun H locs hW => ?_)
  refine lv_istore_n (lv' := [(3, .int r4), (2, .int v3), (0, .ref (h 0)), (1, .int a1)]) hx hb dX8_deals_22 rfl hl (by decide) rfl (fun ls hl => ?_)
  refine lv_iload_n hx hb dX8_deals_23 rfl (lv_at hl 0 rfl) ?_
  refine lv_iconst (v := -1) hx hb dX8_deals_24 (by decide) ?_
  refine lv_icmp_ne (tgt := 43) hx hb dX8_deals_25 (by decide) (fun c6 => ?_) (fun c6 => ?_)
  · replace hs := (sp_ite hs).2 c6
    refine lv_aload_n hx hb dX8_deals_43 rfl (lv_at hl 2 rfl) ?_
    refine lv_dup hx hb dX8_deals_44 rfl ?_
    refine sv_get (own := RX8) (C := RX8) (Tf := TX8) (N := 44) (index := 261) (κ := (0, 0)) (v := .int (σ5.1 0 27)) hx hb hts hown hK hW (fun _ h => List.mem_cons_of_mem _ (List.mem_append_right _ h)) (sm_i 0 hB (by decide)) (sm_c0 hB) rfl 27 (by decide) rfl rfl (List.mem_of_getElem? (i := 4) rfl) dX8_deals_45 ?_
    refine lv_aload_n hx hb dX8_deals_48 rfl (lv_at hl 2 rfl) ?_
    refine lv_iload_n hx hb dX8_deals_49 rfl (lv_at hl 3 rfl) ?_
    refine lv_iload_n hx hb dX8_deals_50 rfl (lv_at hl 0 rfl) ?_
    refine lv_iload_n hx hb dX8_deals_51 rfl (lv_at hl 1 rfl) ?_
    obtain ⟨r7, σ8, eσ8, hs⟩ := sp_bind hs
    refine sv_goI (σ' := σ8) (r := r7) hW F.2.2.2.1 (sv_runV (C := RX8) F hW (k_X8_worthOf hB eσ8 H.size) gX8_deals_X8_worthOf rfl ⟨rfl, rfl⟩ 3 (by decide +kernel) (sv_room2 (by omega) (by omega)) (sm_i 0 hB (by decide)) (sm_c0 hB) rfl rfl hl.1 rfl (Nat.le_of_ble_eq_true rfl) dX8_deals_52 ⟨Nat.zero_le _, Nat.zero_le _⟩) (fun H locs hW => ?_)
    refine lv_iadd hx hb dX8_deals_55 ?_
    refine sv_putI (own := RX8) (C := RX8) (Tf := TX8) (N := 44) (index := 261) hx hb hts hown hK hW (fun _ h => List.mem_cons_of_mem _ (List.mem_append_right _ h)) tyX8 tyX8_ok nmX8 (sm_i 0 hB (by decide)) (sm_c0 hB) rfl 27 (by decide) rfl rfl (ty := .int) (by decide +kernel) rfl rfl (List.mem_of_getElem? (i := 4) rfl) dX8_deals_56 (fun σ9 H locs eσ9 hW => ?_)
    replace hs := sp_let hs eσ9
    refine lv_aload_n hx hb dX8_deals_59 rfl (lv_at hl 2 rfl) ?_
    refine lv_iload_n hx hb dX8_deals_60 rfl (lv_at hl 0 rfl) ?_
    refine sv_putI (own := RX8) (C := RX8) (Tf := TX8) (N := 44) (index := 267) hx hb hts hown hK hW (fun _ h => List.mem_cons_of_mem _ (List.mem_append_right _ h)) tyX8 tyX8_ok nmX8 (sm_i 0 hB (by decide)) (sm_c0 hB) rfl 29 (by decide) rfl rfl (ty := .int) (by decide +kernel) rfl rfl (List.mem_of_getElem? (i := 2) rfl) dX8_deals_61 (fun σ10 H locs eσ10 hW => ?_)
    replace hs := sp_let hs eσ10
    refine lv_aload_n hx hb dX8_deals_64 rfl (lv_at hl 2 rfl) ?_
    refine lv_dup hx hb dX8_deals_65 rfl ?_
    refine sv_get (own := RX8) (C := RX8) (Tf := TX8) (N := 44) (index := 264) (κ := (0, 0)) (v := .int (σ10.1 0 28)) hx hb hts hown hK hW (fun _ h => List.mem_cons_of_mem _ (List.mem_append_right _ h)) (sm_i 0 hB (by decide)) (sm_c0 hB) rfl 28 (by decide) rfl rfl (List.mem_of_getElem? (i := 1) rfl) dX8_deals_66 ?_
    refine lv_iconst (v := 1) hx hb dX8_deals_69 (by decide) ?_
    refine lv_iadd hx hb dX8_deals_70 ?_
    refine sv_putI (own := RX8) (C := RX8) (Tf := TX8) (N := 44) (index := 264) hx hb hts hown hK hW (fun _ h => List.mem_cons_of_mem _ (List.mem_append_right _ h)) tyX8 tyX8_ok nmX8 (sm_i 0 hB (by decide)) (sm_c0 hB) rfl 28 (by decide) rfl rfl (ty := .int) (by decide +kernel) rfl rfl (List.mem_of_getElem? (i := 1) rfl) dX8_deals_71 (fun σ11 H locs eσ11 hW => ?_)
    replace hs := sp_let hs eσ11
    refine lv_aload_n hx hb dX8_deals_74 rfl (lv_at hl 2 rfl) ?_
    refine lv_dup hx hb dX8_deals_75 rfl ?_
    refine sv_get (own := RX8) (C := RX8) (Tf := TX8) (N := 44) (index := 273) (κ := (0, 0)) (v := .int (σ11.1 0 31)) hx hb hts hown hK hW (fun _ h => List.mem_cons_of_mem _ (List.mem_append_right _ h)) (sm_i 0 hB (by decide)) (sm_c0 hB) rfl 31 (by decide) rfl rfl (List.mem_of_getElem? (i := 5) rfl) dX8_deals_76 ?_
    refine lv_iconst (v := 1) hx hb dX8_deals_79 (by decide) ?_
    refine lv_iload_n hx hb dX8_deals_80 rfl (lv_at hl 3 rfl) ?_
    refine lv_ishl hx hb dX8_deals_81 ?_
    refine lv_ior hx hb dX8_deals_82 ?_
    refine sv_putI (own := RX8) (C := RX8) (Tf := TX8) (N := 44) (index := 273) hx hb hts hown hK hW (fun _ h => List.mem_cons_of_mem _ (List.mem_append_right _ h)) tyX8 tyX8_ok nmX8 (sm_i 0 hB (by decide)) (sm_c0 hB) rfl 31 (by decide) rfl rfl (ty := .int) (by decide +kernel) rfl rfl (List.mem_of_getElem? (i := 5) rfl) dX8_deals_83 (fun σ12 H locs eσ12 hW => ?_)
    replace hs := sp_let hs eσ12
    cases hs
    exact sv_vret hx hb hr hlk hW dX8_deals_86
  · replace hs := (sp_ite hs).1 c6
    refine lv_aload_n hx hb dX8_deals_28 rfl (lv_at hl 2 rfl) ?_
    refine lv_dup hx hb dX8_deals_29 rfl ?_
    refine sv_get (own := RX8) (C := RX8) (Tf := TX8) (N := 44) (index := 270) (κ := (0, 0)) (v := .int (σ5.1 0 30)) hx hb hts hown hK hW (fun _ h => List.mem_cons_of_mem _ (List.mem_append_right _ h)) (sm_i 0 hB (by decide)) (sm_c0 hB) rfl 30 (by decide) rfl rfl (List.mem_of_getElem? (i := 3) rfl) dX8_deals_30 ?_
    refine lv_iconst (v := 1) hx hb dX8_deals_33 (by decide) ?_
    refine lv_iload_n hx hb dX8_deals_34 rfl (lv_at hl 3 rfl) ?_
    refine lv_ishl hx hb dX8_deals_35 ?_
    refine lv_ior hx hb dX8_deals_36 ?_
    refine sv_putI (own := RX8) (C := RX8) (Tf := TX8) (N := 44) (index := 270) hx hb hts hown hK hW (fun _ h => List.mem_cons_of_mem _ (List.mem_append_right _ h)) tyX8 tyX8_ok nmX8 (sm_i 0 hB (by decide)) (sm_c0 hB) rfl 30 (by decide) rfl rfl (ty := .int) (by decide +kernel) rfl rfl (List.mem_of_getElem? (i := 3) rfl) dX8_deals_37 (fun σ13 H locs eσ13 hW => ?_)
    replace hs := sp_let hs eσ13
    refine lv_goto (tgt := 86) hx hb dX8_deals_40 (by decide) ?_
    cases hs
    exact sv_vret hx hb hr hlk hW dX8_deals_86
set_option maxRecDepth 100000 in
set_option maxHeartbeats 4000000 in
theorem b_X8_tourBad_16 {p : Program} {l : Launch} {e : Env} {s : State} {m : MethodId} {args : Array Value} {below : List Frame} {meth : Method} {c : Code} {D : va_G} {T : Nat → ClassId} {A : Nat → Prop} {h : Nat → Nat} {θ : sv_T} {a1 : Int32} {r : Int32} {σ' : sv_S} (hB : sm_base θ)  (F : sv_F sm_X p m c cX8_tourBad 5 s args wsX8_tourBad RX8 D (sm_tys T) A) (hr : meth.sig.returnType = (some .int)) (hlk : meth.locks = false)  : ∀ (n : Nat), ∀ (x1 : Int32) (x2 : Int32) (x3 : Int32) (σ : sv_S) (H : Heap) (locs : List Loc) (ls : Array Slot), lv_has ls 5 [(0, .ref (h 0)), (1, .int x1), (2, .int x2), (3, .int x3)] → sv_W D T A s h θ σ H locs → q_X8_tourBad_B16 θ a1 n x1 x2 x3 σ = some (r, σ') → W p l e (sv_rm 2 46) s m args below meth c H locs 0 0 (MQ below (va_Qi (fun r2 (_ : Unit) => r2 = r) (fun _ t => va_P D vwCl (sv_ws T h θ σ') t.heap) A) args s 0 0 A) (F0 m 16 ls []) := by
  have hx := F.1.1
  have hb := F.1.2.1
  have hts := F.1.2.2.2.2
  have hown := F.1.2.2.2.1
  have hK := F.2.1
  intro n
  induction n with
  | zero =>
    intro x1 x2 x3 σ H locs ls hl hW hs
    have hs : (none : Option (Int32 × sv_S)) = some (r, σ') := hs
    cases hs
  | succ n ih =>
    intro x1 x2 x3 σ H locs ls hl hW hs
    have hs : q_X8_tourBad_B16_b θ a1 (q_X8_tourBad_B16 θ a1 n) x1 x2 x3 σ = some (r, σ') := hs
    unfold q_X8_tourBad_B16_b at hs
    refine lv_iload_n hx hb dX8_tourBad_16 rfl (lv_at hl 3 rfl) ?_
    refine lv_aload_n hx hb dX8_tourBad_17 rfl (lv_at hl 0 rfl) ?_
    refine sv_get (own := RX8) (C := RX8) (Tf := TX8) (N := 44) (index := 51) (κ := (3, 12)) (v := .ref (h 12)) hx hb hts hown hK hW (fun _ h => List.mem_cons_of_mem _ (List.mem_append_right _ h)) (sm_i 0 hB (by decide)) (sm_c0 hB) rfl 42 (by decide) rfl rfl (List.mem_of_getElem? (i := 2) rfl) dX8_tourBad_18 ?_
    refine lv_iload_n hx hb dX8_tourBad_21 rfl (lv_at hl 1 rfl) ?_
    obtain ⟨hi3, hs⟩ := sp_g hs
    refine sv_iald hx hb hK hW (sm_i 12 hB (by decide)) (sm_c12 hB) 0 rfl hi3 dX8_tourBad_22 ?_
    refine lv_icmp_ge (tgt := 83) hx hb dX8_tourBad_23 (by decide) (fun c4 => ?_) (fun c4 => ?_)
    · replace hs := (sp_ite hs).1 c4
      refine lv_iconst (v := 0) hx hb dX8_tourBad_83 (by decide) ?_
      cases hs
      exact sv_iret hx hb hr rfl hlk hW dX8_tourBad_84
    · replace hs := (sp_ite hs).2 c4
      refine lv_aload_n hx hb dX8_tourBad_26 rfl (lv_at hl 0 rfl) ?_
      refine sv_get (own := RX8) (C := RX8) (Tf := TX8) (N := 44) (index := 54) (κ := (3, 13)) (v := .ref (h 13)) hx hb hts hown hK hW (fun _ h => List.mem_cons_of_mem _ (List.mem_append_right _ h)) (sm_i 0 hB (by decide)) (sm_c0 hB) rfl 43 (by decide) rfl rfl (List.mem_of_getElem? (i := 3) rfl) dX8_tourBad_27 ?_
      refine lv_bipush (v := 40) hx hb dX8_tourBad_30 (by decide) ?_
      refine lv_iload_n hx hb dX8_tourBad_32 rfl (lv_at hl 1 rfl) ?_
      refine lv_imul hx hb dX8_tourBad_33 ?_
      refine lv_iload_n hx hb dX8_tourBad_34 rfl (lv_at hl 3 rfl) ?_
      refine lv_iadd hx hb dX8_tourBad_35 ?_
      obtain ⟨hi5, hs⟩ := sp_g hs
      refine sv_iald hx hb hK hW (sm_i 13 hB (by decide)) (sm_c13 hB) 0 rfl hi5 dX8_tourBad_36 ?_
      refine lv_topi (fun v6 ev6 => ?_)
      replace hs := sp_let hs ev6
      refine lv_istore (lv' := [(4, .int v6), (0, .ref (h 0)), (1, .int x1), (2, .int x2), (3, .int x3)]) hx hb dX8_tourBad_37 hl (by decide) rfl (fun ls hl => ?_)
      refine lv_aload_n hx hb dX8_tourBad_39 rfl (lv_at hl 1 rfl) ?_
      refine lv_iload hx hb dX8_tourBad_40 (lv_at hl 0 rfl) ?_
      obtain ⟨r7, σ8, eσ8, hs⟩ := sp_bind hs
      refine sv_goI (σ' := σ8) (r := r7) hW F.2.2.2.1 (sv_runV (C := RX8) F hW (k_X8_isOne hB eσ8 H.size) gX8_tourBad_X8_isOne rfl ⟨rfl, rfl⟩ 1 (by decide +kernel) (sv_room2 (by omega) (by omega)) (sm_i 0 hB (by decide)) (sm_c0 hB) rfl rfl hl.1 rfl (Nat.le_of_ble_eq_true rfl) dX8_tourBad_42 ⟨Nat.zero_le _, Nat.zero_le _⟩) (fun H locs hW => ?_)
      refine lv_if_eq (tgt := 67) hx hb dX8_tourBad_45 (by decide) (fun c9 => ?_) (fun c9 => ?_)
      · replace hs := (sp_ite hs).1 c9
        refine lv_bipush (v := -2) hx hb dX8_tourBad_67 (by decide) ?_
        cases hs
        exact sv_iret hx hb hr rfl hlk hW dX8_tourBad_69
      · replace hs := (sp_ite hs).2 c9
        refine lv_aload_n hx hb dX8_tourBad_48 rfl (lv_at hl 1 rfl) ?_
        refine lv_iload hx hb dX8_tourBad_49 (lv_at hl 0 rfl) ?_
        obtain ⟨r10, σ11, eσ11, hs⟩ := sp_bind hs
        refine sv_goI (σ' := σ11) (r := r10) hW F.2.2.2.1 (sv_runV (C := RX8) F hW (k_X8_isShaken hB eσ11 H.size) gX8_tourBad_X8_isShaken rfl ⟨rfl, rfl⟩ 1 (by decide +kernel) (sv_room2 (by omega) (by omega)) (sm_i 0 hB (by decide)) (sm_c0 hB) rfl rfl hl.1 rfl (Nat.le_of_ble_eq_true rfl) dX8_tourBad_51 ⟨Nat.zero_le _, Nat.zero_le _⟩) (fun H locs hW => ?_)
        refine lv_if_ne (tgt := 67) hx hb dX8_tourBad_54 (by decide) (fun c12 => ?_) (fun c12 => ?_)
        · replace hs := (sp_ite hs).2 c12
          refine lv_bipush (v := -2) hx hb dX8_tourBad_67 (by decide) ?_
          cases hs
          exact sv_iret hx hb hr rfl hlk hW dX8_tourBad_69
        · replace hs := (sp_ite hs).1 c12
          refine lv_iload_n hx hb dX8_tourBad_57 rfl (lv_at hl 3 rfl) ?_
          refine lv_iload hx hb dX8_tourBad_58 (lv_at hl 0 rfl) ?_
          refine lv_ishr hx hb dX8_tourBad_60 ?_
          refine lv_iconst (v := 1) hx hb dX8_tourBad_61 (by decide) ?_
          refine lv_iand hx hb dX8_tourBad_62 ?_
          refine lv_iconst (v := 1) hx hb dX8_tourBad_63 (by decide) ?_
          refine lv_icmp_ne (tgt := 70) hx hb dX8_tourBad_64 (by decide) (fun c13 => ?_) (fun c13 => ?_)
          · replace hs := (sp_ite hs).2 c13
            refine lv_iload_n hx hb dX8_tourBad_70 rfl (lv_at hl 3 rfl) ?_
            refine lv_iconst (v := 1) hx hb dX8_tourBad_71 (by decide) ?_
            refine lv_iload hx hb dX8_tourBad_72 (lv_at hl 0 rfl) ?_
            refine lv_ishl hx hb dX8_tourBad_74 ?_
            refine lv_ior hx hb dX8_tourBad_75 ?_
            refine lv_topi (fun v14 ev14 => ?_)
            replace hs := sp_let hs ev14
            refine lv_istore_n (lv' := [(2, .int v14), (4, .int v6), (0, .ref (h 0)), (1, .int x1), (3, .int x3)]) hx hb dX8_tourBad_76 rfl hl (by decide) rfl (fun ls hl => ?_)
            obtain ⟨v15, ev15⟩ : ∃ y : Int32, y = x3 + 1 := ⟨_, rfl⟩
            replace hs := sp_let hs ev15
            refine lv_iinc (v := v15) (lv' := [(3, .int v15), (2, .int v14), (4, .int v6), (0, .ref (h 0)), (1, .int x1)]) hx hb dX8_tourBad_77 hl (k := 4) rfl (by rw [ev15]; rfl) (by decide) rfl (fun ls hl => ?_)
            refine lv_goto (tgt := 16) hx hb dX8_tourBad_80 (by decide) ?_
            exact ih x1 v14 v15 σ11 H locs ls (lv_sub hl [3, 4, 1, 0] rfl) hW hs
          · replace hs := (sp_ite hs).1 c13
            refine lv_bipush (v := -2) hx hb dX8_tourBad_67 (by decide) ?_
            cases hs
            exact sv_iret hx hb hr rfl hlk hW dX8_tourBad_69
set_option maxRecDepth 100000 in
set_option maxHeartbeats 4000000 in
theorem k_X8_tourBad {l : Launch} {D : va_G} {T : Nat → ClassId} {h : Nat → Nat} {θ : sv_T} {a1 : Int32} {σ : sv_S} {r : Int32} {σ' : sv_S} (hB : sm_base θ)  (hs : q_X8_tourBad θ a1 σ = some (r, σ')) : sv_Mi sm_X l D T (sm_tys T) h θ yX8_tourBad wsX8_tourBad (sv_rm 2 46) [.ref (h 0), .int a1] σ r σ' := by
  intro sz
  refine sv_enter (cc := cX8_tourBad) (maxL := 5) (ret := (some .int)) (Qc := fun A => va_Qi (fun r2 (_ : Unit) => r2 = r) (fun _ t => va_P D vwCl (sv_ws T h θ σ') t.heap) A) sm_XP (by decide) rfl (Nat.le_of_ble_eq_true rfl) ?_
  intro p e s m args below meth c A F hr hlk ls H hl hW
  have hx := F.1.1
  have hb := F.1.2.1
  have hts := F.1.2.2.2.2
  have hown := F.1.2.2.2.1
  have hK := F.2.1
  obtain ⟨locs, hlocs⟩ : ∃ z : List Loc, z = [] := ⟨_, rfl⟩
  rw [← hlocs] at hW ⊢
  have hl : lv_has ls 5 [(0, .ref (h 0)), (1, .int a1)] := hl
  unfold q_X8_tourBad at hs
  refine lv_aload_n hx hb dX8_tourBad_0 rfl (lv_at hl 0 rfl) ?_
  refine sv_get (own := RX8) (C := RX8) (Tf := TX8) (N := 44) (index := 44) (κ := (3, 10)) (v := .ref (h 10)) hx hb hts hown hK hW (fun _ h => List.mem_cons_of_mem _ (List.mem_append_right _ h)) (sm_i 0 hB (by decide)) (sm_c0 hB) rfl 40 (by decide) rfl rfl (List.mem_of_getElem? (i := 1) rfl) dX8_tourBad_1 ?_
  refine lv_iload_n hx hb dX8_tourBad_4 rfl (lv_at hl 1 rfl) ?_
  obtain ⟨hi1, hs⟩ := sp_g hs
  refine sv_zald hx hb hK hW (sm_i 10 hB (by decide)) (sm_c10 hB) 1 rfl hi1 dX8_tourBad_5 ?_
  refine lv_if_ne (tgt := 12) hx hb dX8_tourBad_6 (by decide) (fun c2 => ?_) (fun c2 => ?_)
  · replace hs := (sp_ite hs).2 c2
    refine lv_iconst (v := 0) hx hb dX8_tourBad_12 (by decide) ?_
    refine lv_istore_n (lv' := [(2, .int (0 : Int32)), (0, .ref (h 0)), (1, .int a1)]) hx hb dX8_tourBad_13 rfl hl (by decide) rfl (fun ls hl => ?_)
    refine lv_iconst (v := 0) hx hb dX8_tourBad_14 (by decide) ?_
    refine lv_istore_n (lv' := [(3, .int (0 : Int32)), (2, .int (0 : Int32)), (0, .ref (h 0)), (1, .int a1)]) hx hb dX8_tourBad_15 rfl hl (by decide) rfl (fun ls hl => ?_)
    exact b_X8_tourBad_16 hB F hr hlk sv_N a1 (0 : Int32) (0 : Int32) σ H locs ls (lv_sub hl [2, 3, 1, 0] rfl) hW hs
  · replace hs := (sp_ite hs).1 c2
    refine lv_bipush (v := -11) hx hb dX8_tourBad_9 (by decide) ?_
    cases hs
    exact sv_iret hx hb hr rfl hlk hW dX8_tourBad_11
set_option maxRecDepth 100000 in
set_option maxHeartbeats 4000000 in
theorem b_X8_goes_6 {p : Program} {l : Launch} {e : Env} {s : State} {m : MethodId} {args : Array Value} {below : List Frame} {meth : Method} {c : Code} {D : va_G} {T : Nat → ClassId} {A : Nat → Prop} {h : Nat → Nat} {θ : sv_T} {a1 : Int32} {r : Unit} {σ' : sv_S} (hB : sm_base θ)  (F : sv_F sm_X p m c cX8_goes 3 s args wsX8_goes RX8 D (sm_tys T) A) (hr : meth.sig.returnType = none) (hlk : meth.locks = false)  : ∀ (n : Nat), ∀ (x1 : Int32) (x2 : Int32) (σ : sv_S) (H : Heap) (locs : List Loc) (ls : Array Slot), lv_has ls 3 [(0, .ref (h 0)), (1, .int x1), (2, .int x2)] → sv_W D T A s h θ σ H locs → q_X8_goes_B6 θ a1 n x1 x2 σ = some (r, σ') → W p l e (sv_rm 68 2591) s m args below meth c H locs 0 0 (MQ below (va_Qv (fun (_ : Unit) => True) (fun _ t => va_P D vwCl (sv_ws T h θ σ') t.heap) A) args s 0 0 A) (F0 m 6 ls []) := by
  have hx := F.1.1
  have hb := F.1.2.1
  have hts := F.1.2.2.2.2
  have hown := F.1.2.2.2.1
  have hK := F.2.1
  intro n
  induction n with
  | zero =>
    intro x1 x2 σ H locs ls hl hW hs
    have hs : (none : Option (Unit × sv_S)) = some (r, σ') := hs
    cases hs
  | succ n ih =>
    intro x1 x2 σ H locs ls hl hW hs
    have hs : q_X8_goes_B6_b θ a1 (q_X8_goes_B6 θ a1 n) x1 x2 σ = some (r, σ') := hs
    unfold q_X8_goes_B6_b at hs
    refine lv_iload_n hx hb dX8_goes_6 rfl (lv_at hl 2 rfl) ?_
    refine lv_aload_n hx hb dX8_goes_7 rfl (lv_at hl 0 rfl) ?_
    refine sv_get (own := RX8) (C := RX8) (Tf := TX8) (N := 44) (index := 51) (κ := (3, 12)) (v := .ref (h 12)) hx hb hts hown hK hW (fun _ h => List.mem_cons_of_mem _ (List.mem_append_right _ h)) (sm_i 0 hB (by decide)) (sm_c0 hB) rfl 42 (by decide) rfl rfl (List.mem_of_getElem? (i := 1) rfl) dX8_goes_8 ?_
    refine lv_iload_n hx hb dX8_goes_11 rfl (lv_at hl 1 rfl) ?_
    obtain ⟨hi3, hs⟩ := sp_g hs
    refine sv_iald hx hb hK hW (sm_i 12 hB (by decide)) (sm_c12 hB) 0 rfl hi3 dX8_goes_12 ?_
    refine lv_icmp_ge (tgt := 37) hx hb dX8_goes_13 (by decide) (fun c4 => ?_) (fun c4 => ?_)
    · replace hs := (sp_ite hs).1 c4
      cases hs
      exact sv_vret hx hb hr hlk hW dX8_goes_37
    · replace hs := (sp_ite hs).2 c4
      refine lv_aload_n hx hb dX8_goes_16 rfl (lv_at hl 0 rfl) ?_
      refine lv_aload_n hx hb dX8_goes_17 rfl (lv_at hl 0 rfl) ?_
      refine sv_get (own := RX8) (C := RX8) (Tf := TX8) (N := 44) (index := 54) (κ := (3, 13)) (v := .ref (h 13)) hx hb hts hown hK hW (fun _ h => List.mem_cons_of_mem _ (List.mem_append_right _ h)) (sm_i 0 hB (by decide)) (sm_c0 hB) rfl 43 (by decide) rfl rfl (List.mem_of_getElem? (i := 2) rfl) dX8_goes_18 ?_
      refine lv_bipush (v := 40) hx hb dX8_goes_21 (by decide) ?_
      refine lv_iload_n hx hb dX8_goes_23 rfl (lv_at hl 1 rfl) ?_
      refine lv_imul hx hb dX8_goes_24 ?_
      refine lv_iload_n hx hb dX8_goes_25 rfl (lv_at hl 2 rfl) ?_
      refine lv_iadd hx hb dX8_goes_26 ?_
      obtain ⟨hi5, hs⟩ := sp_g hs
      refine sv_iald hx hb hK hW (sm_i 13 hB (by decide)) (sm_c13 hB) 0 rfl hi5 dX8_goes_27 ?_
      obtain ⟨r6, σ7, eσ7, hs⟩ := sp_bind hs
      refine sv_goV (σ' := σ7) (r := r6) hW F.2.2.2.1 (sv_runV (C := RX8) F hW (k_X8_deals hB eσ7 H.size) gX8_goes_X8_deals rfl ⟨rfl, rfl⟩ 1 (by decide +kernel) (sv_room2 (by omega) (by omega)) (sm_i 0 hB (by decide)) (sm_c0 hB) rfl rfl hl.1 rfl (Nat.le_of_ble_eq_true rfl) dX8_goes_28 ⟨Nat.zero_le _, Nat.zero_le _⟩) (fun H locs hW => ?_)
      obtain ⟨v8, ev8⟩ : ∃ y : Int32, y = x2 + 1 := ⟨_, rfl⟩
      replace hs := sp_let hs ev8
      refine lv_iinc (v := v8) (lv' := [(2, .int v8), (0, .ref (h 0)), (1, .int x1)]) hx hb dX8_goes_31 hl (k := 2) rfl (by rw [ev8]; rfl) (by decide) rfl (fun ls hl => ?_)
      refine lv_goto (tgt := 6) hx hb dX8_goes_34 (by decide) ?_
      exact ih x1 v8 σ7 H locs ls (lv_sub hl [1, 2, 0] rfl) hW hs
set_option maxRecDepth 100000 in
set_option maxHeartbeats 4000000 in
theorem k_X8_goes {l : Launch} {D : va_G} {T : Nat → ClassId} {h : Nat → Nat} {θ : sv_T} {a1 : Int32} {σ : sv_S} {r : Unit} {σ' : sv_S} (hB : sm_base θ)  (hs : q_X8_goes θ a1 σ = some (r, σ')) : sv_Mv sm_X l D T (sm_tys T) h θ yX8_goes wsX8_goes (sv_rm 68 2591) [.ref (h 0), .int a1] σ r σ' := by
  intro sz
  refine sv_enter (cc := cX8_goes) (maxL := 3) (ret := none) (Qc := fun A => va_Qv (fun (_ : Unit) => True) (fun _ t => va_P D vwCl (sv_ws T h θ σ') t.heap) A) sm_XP (by decide) rfl (Nat.le_of_ble_eq_true rfl) ?_
  intro p e s m args below meth c A F hr hlk ls H hl hW
  have hx := F.1.1
  have hb := F.1.2.1
  have hts := F.1.2.2.2.2
  have hown := F.1.2.2.2.1
  have hK := F.2.1
  obtain ⟨locs, hlocs⟩ : ∃ z : List Loc, z = [] := ⟨_, rfl⟩
  rw [← hlocs] at hW ⊢
  have hl : lv_has ls 3 [(0, .ref (h 0)), (1, .int a1)] := hl
  unfold q_X8_goes at hs
  refine lv_aload_n hx hb dX8_goes_0 rfl (lv_at hl 0 rfl) ?_
  obtain ⟨r1, σ2, eσ2, hs⟩ := sp_bind hs
  refine sv_goV (σ' := σ2) (r := r1) hW F.2.2.2.1 (sv_runV (C := RX8) F hW (k_X8_begins hB eσ2 H.size) gX8_goes_X8_begins rfl ⟨rfl, rfl⟩ 0 (by decide +kernel) (sv_room2 (by omega) (by omega)) (sm_i 0 hB (by decide)) (sm_c0 hB) rfl rfl hl.1 rfl (Nat.le_of_ble_eq_true rfl) dX8_goes_1 ⟨Nat.zero_le _, Nat.zero_le _⟩) (fun H locs hW => ?_)
  refine lv_iconst (v := 0) hx hb dX8_goes_4 (by decide) ?_
  refine lv_istore_n (lv' := [(2, .int (0 : Int32)), (0, .ref (h 0)), (1, .int a1)]) hx hb dX8_goes_5 rfl hl (by decide) rfl (fun ls hl => ?_)
  exact b_X8_goes_6 hB F hr hlk sv_N a1 (0 : Int32) σ2 H locs ls (lv_sub hl [1, 2, 0] rfl) hW hs
set_option maxRecDepth 100000 in
set_option maxHeartbeats 4000000 in
theorem k_X8_isSheet {l : Launch} {D : va_G} {T : Nat → ClassId} {h : Nat → Nat} {θ : sv_T} {a1 : Int32} {σ : sv_S} {r : Int32} {σ' : sv_S} (hB : sm_base θ)  (hs : q_X8_isSheet θ a1 σ = some (r, σ')) : sv_Mi sm_X l D T (sm_tys T) h θ yX8_isSheet wsX8_isSheet (sv_rm 1 25) [.int a1] σ r σ' := by
  intro sz
  refine sv_enter (cc := cX8_isSheet) (maxL := 1) (ret := (some .boolean)) (Qc := fun A => va_Qi (fun r2 (_ : Unit) => r2 = r) (fun _ t => va_P D vwCl (sv_ws T h θ σ') t.heap) A) sm_XP (by decide) rfl (Nat.le_of_ble_eq_true rfl) ?_
  intro p e s m args below meth c A F hr hlk ls H hl hW
  have hx := F.1.1
  have hb := F.1.2.1
  have hts := F.1.2.2.2.2
  have hown := F.1.2.2.2.1
  have hK := F.2.1
  obtain ⟨locs, hlocs⟩ : ∃ z : List Loc, z = [] := ⟨_, rfl⟩
  rw [← hlocs] at hW ⊢
  have hl : lv_has ls 1 [(0, .int a1)] := hl
  unfold q_X8_isSheet at hs
  refine lv_iload_n hx hb dX8_isSheet_0 rfl (lv_at hl 0 rfl) ?_
  refine lv_i2l (v := a1.toInt64) hx hb dX8_isSheet_1 rfl ?_
  refine lv_lconst (v := 0) hx hb dX8_isSheet_2 (by decide) ?_
  refine lv_ldc2 (own := RX8) (index := 289) (v := 3) hx hb hown (hts _ (List.mem_of_getElem? (i := 1) rfl)) dX8_isSheet_3 ?_
  obtain ⟨r1, σ2, eσ2, hs⟩ := sp_bind hs
  refine sv_goI (σ' := σ2) (r := r1) hW F.2.2.2.1 (sv_runT F hW (k_X8_in hB eσ2 H.size) gX8_isSheet_X8_in rfl ⟨rfl, rfl⟩ 3 (by decide +kernel) (sv_room2 (by omega) (by omega)) rfl hl.1 rfl (Nat.le_of_ble_eq_true rfl) dX8_isSheet_6 ⟨Nat.zero_le _, Nat.zero_le _⟩) (fun H locs hW => ?_)
  obtain ⟨hn3, hs⟩ := sp_p hs
  cases hs
  exact sv_iret hx hb hr (by show Value.int _ = _; rw [hn3]) hlk hW dX8_isSheet_9
set_option maxRecDepth 100000 in
set_option maxHeartbeats 4000000 in
theorem k_X8_tour {l : Launch} {D : va_G} {T : Nat → ClassId} {h : Nat → Nat} {θ : sv_T} {a1 : Int32} {a2 : Int32} {σ : sv_S} {r : Int32} {σ' : sv_S} (hB : sm_base θ)  (hs : q_X8_tour θ a1 a2 σ = some (r, σ')) : sv_Mi sm_X l D T (sm_tys T) h θ yX8_tour wsX8_tour (sv_rm 69 2613) [.ref (h 0), .int a1, .int a2] σ r σ' := by
  intro sz
  refine sv_enter (cc := cX8_tour) (maxL := 4) (ret := (some .int)) (Qc := fun A => va_Qi (fun r2 (_ : Unit) => r2 = r) (fun _ t => va_P D vwCl (sv_ws T h θ σ') t.heap) A) sm_XP (by decide) rfl (Nat.le_of_ble_eq_true rfl) ?_
  intro p e s m args below meth c A F hr hlk ls H hl hW
  have hx := F.1.1
  have hb := F.1.2.1
  have hts := F.1.2.2.2.2
  have hown := F.1.2.2.2.1
  have hK := F.2.1
  obtain ⟨locs, hlocs⟩ : ∃ z : List Loc, z = [] := ⟨_, rfl⟩
  rw [← hlocs] at hW ⊢
  have hl : lv_has ls 4 [(0, .ref (h 0)), (1, .int a1), (2, .int a2)] := hl
  unfold q_X8_tour at hs
  refine lv_iload_n hx hb dX8_tour_0 rfl (lv_at hl 1 rfl) ?_
  obtain ⟨r1, σ2, eσ2, hs⟩ := sp_bind hs
  refine sv_goI (σ' := σ2) (r := r1) hW F.2.2.2.1 (sv_runT F hW (k_X8_isSheet hB eσ2 H.size) gX8_tour_X8_isSheet rfl ⟨rfl, rfl⟩ 1 (by decide +kernel) (sv_room2 (by omega) (by omega)) rfl hl.1 rfl (Nat.le_of_ble_eq_true rfl) dX8_tour_1 ⟨Nat.zero_le _, Nat.zero_le _⟩) (fun H locs hW => ?_)
  refine lv_if_eq (tgt := 19) hx hb dX8_tour_4 (by decide) (fun c3 => ?_) (fun c3 => ?_)
  · replace hs := (sp_ite hs).1 c3
    refine lv_bipush (v := -2) hx hb dX8_tour_19 (by decide) ?_
    cases hs
    exact sv_iret hx hb hr rfl hlk hW dX8_tour_21
  · replace hs := (sp_ite hs).2 c3
    refine lv_iload_n hx hb dX8_tour_7 rfl (lv_at hl 2 rfl) ?_
    refine lv_i2l (v := a2.toInt64) hx hb dX8_tour_8 rfl ?_
    refine lv_lconst (v := 0) hx hb dX8_tour_9 (by decide) ?_
    refine lv_ldc2 (own := RX8) (index := 289) (v := 3) hx hb hown (hts _ (List.mem_of_getElem? (i := 1) rfl)) dX8_tour_10 ?_
    obtain ⟨r4, σ5, eσ5, hs⟩ := sp_bind hs
    refine sv_goI (σ' := σ5) (r := r4) hW F.2.2.2.1 (sv_runT F hW (k_X8_in hB eσ5 H.size) gX8_tour_X8_in rfl ⟨rfl, rfl⟩ 3 (by decide +kernel) (sv_room2 (by omega) (by omega)) rfl hl.1 rfl (Nat.le_of_ble_eq_true rfl) dX8_tour_13 ⟨Nat.zero_le _, Nat.zero_le _⟩) (fun H locs hW => ?_)
    refine lv_if_ne (tgt := 22) hx hb dX8_tour_16 (by decide) (fun c6 => ?_) (fun c6 => ?_)
    · replace hs := (sp_ite hs).2 c6
      refine lv_aload_n hx hb dX8_tour_22 rfl (lv_at hl 0 rfl) ?_
      refine lv_iload_n hx hb dX8_tour_23 rfl (lv_at hl 1 rfl) ?_
      obtain ⟨r7, σ8, eσ8, hs⟩ := sp_bind hs
      refine sv_goI (σ' := σ8) (r := r7) hW F.2.2.2.1 (sv_runV (C := RX8) F hW (k_X8_tourBad hB eσ8 H.size) gX8_tour_X8_tourBad rfl ⟨rfl, rfl⟩ 1 (by decide +kernel) (sv_room2 (by omega) (by omega)) (sm_i 0 hB (by decide)) (sm_c0 hB) rfl rfl hl.1 rfl (Nat.le_of_ble_eq_true rfl) dX8_tour_24 ⟨Nat.zero_le _, Nat.zero_le _⟩) (fun H locs hW => ?_)
      refine lv_istore_n (lv' := [(3, .int r7), (0, .ref (h 0)), (1, .int a1), (2, .int a2)]) hx hb dX8_tour_27 rfl hl (by decide) rfl (fun ls hl => ?_)
      refine lv_iload_n hx hb dX8_tour_28 rfl (lv_at hl 0 rfl) ?_
      refine lv_if_eq (tgt := 34) hx hb dX8_tour_29 (by decide) (fun c9 => ?_) (fun c9 => ?_)
      · replace hs := (sp_ite hs).1 c9
        refine lv_aload_n hx hb dX8_tour_34 rfl (lv_at hl 1 rfl) ?_
        refine lv_iload_n hx hb dX8_tour_35 rfl (lv_at hl 2 rfl) ?_
        obtain ⟨r10, σ11, eσ11, hs⟩ := sp_bind hs
        refine sv_goV (σ' := σ11) (r := r10) hW F.2.2.2.1 (sv_runV (C := RX8) F hW (k_X8_goes hB eσ11 H.size) gX8_tour_X8_goes rfl ⟨rfl, rfl⟩ 1 (by decide +kernel) (sv_room2 (by omega) (by omega)) (sm_i 0 hB (by decide)) (sm_c0 hB) rfl rfl hl.1 rfl (Nat.le_of_ble_eq_true rfl) dX8_tour_36 ⟨Nat.zero_le _, Nat.zero_le _⟩) (fun H locs hW => ?_)
        refine lv_iload_n hx hb dX8_tour_39 rfl (lv_at hl 3 rfl) ?_
        refine lv_if_ne (tgt := 50) hx hb dX8_tour_40 (by decide) (fun c12 => ?_) (fun c12 => ?_)
        · replace hs := (sp_ite hs).2 c12
          refine lv_iload_n hx hb dX8_tour_50 rfl (lv_at hl 3 rfl) ?_
          refine lv_iconst (v := 1) hx hb dX8_tour_51 (by decide) ?_
          refine lv_icmp_ne (tgt := 62) hx hb dX8_tour_52 (by decide) (fun c13 => ?_) (fun c13 => ?_)
          · replace hs := (sp_ite hs).2 c13
            refine lv_iload_n hx hb dX8_tour_62 rfl (lv_at hl 3 rfl) ?_
            refine lv_iconst (v := 2) hx hb dX8_tour_63 (by decide) ?_
            refine lv_icmp_ne (tgt := 74) hx hb dX8_tour_64 (by decide) (fun c14 => ?_) (fun c14 => ?_)
            · replace hs := (sp_ite hs).2 c14
              refine lv_aload_n hx hb dX8_tour_74 rfl (lv_at hl 1 rfl) ?_
              refine sv_get (own := RX8) (C := RX8) (Tf := TX8) (N := 44) (index := 270) (κ := (0, 0)) (v := .int (σ11.1 0 30)) hx hb hts hown hK hW (fun _ h => List.mem_cons_of_mem _ (List.mem_append_right _ h)) (sm_i 0 hB (by decide)) (sm_c0 hB) rfl 30 (by decide) rfl rfl (List.mem_of_getElem? (i := 5) rfl) dX8_tour_75 ?_
              cases hs
              exact sv_iret hx hb hr rfl hlk hW dX8_tour_78
            · replace hs := (sp_ite hs).1 c14
              refine lv_aload_n hx hb dX8_tour_67 rfl (lv_at hl 1 rfl) ?_
              refine sv_get (own := RX8) (C := RX8) (Tf := TX8) (N := 44) (index := 267) (κ := (0, 0)) (v := .int (σ11.1 0 29)) hx hb hts hown hK hW (fun _ h => List.mem_cons_of_mem _ (List.mem_append_right _ h)) (sm_i 0 hB (by decide)) (sm_c0 hB) rfl 29 (by decide) rfl rfl (List.mem_of_getElem? (i := 4) rfl) dX8_tour_68 ?_
              refine lv_goto (tgt := 78) hx hb dX8_tour_71 (by decide) ?_
              cases hs
              exact sv_iret hx hb hr rfl hlk hW dX8_tour_78
          · replace hs := (sp_ite hs).1 c13
            refine lv_aload_n hx hb dX8_tour_55 rfl (lv_at hl 1 rfl) ?_
            refine sv_get (own := RX8) (C := RX8) (Tf := TX8) (N := 44) (index := 264) (κ := (0, 0)) (v := .int (σ11.1 0 28)) hx hb hts hown hK hW (fun _ h => List.mem_cons_of_mem _ (List.mem_append_right _ h)) (sm_i 0 hB (by decide)) (sm_c0 hB) rfl 28 (by decide) rfl rfl (List.mem_of_getElem? (i := 3) rfl) dX8_tour_56 ?_
            refine lv_goto (tgt := 78) hx hb dX8_tour_59 (by decide) ?_
            cases hs
            exact sv_iret hx hb hr rfl hlk hW dX8_tour_78
        · replace hs := (sp_ite hs).1 c12
          refine lv_aload_n hx hb dX8_tour_43 rfl (lv_at hl 1 rfl) ?_
          refine sv_get (own := RX8) (C := RX8) (Tf := TX8) (N := 44) (index := 261) (κ := (0, 0)) (v := .int (σ11.1 0 27)) hx hb hts hown hK hW (fun _ h => List.mem_cons_of_mem _ (List.mem_append_right _ h)) (sm_i 0 hB (by decide)) (sm_c0 hB) rfl 27 (by decide) rfl rfl (List.mem_of_getElem? (i := 2) rfl) dX8_tour_44 ?_
          refine lv_goto (tgt := 78) hx hb dX8_tour_47 (by decide) ?_
          cases hs
          exact sv_iret hx hb hr rfl hlk hW dX8_tour_78
      · replace hs := (sp_ite hs).2 c9
        refine lv_iload_n hx hb dX8_tour_32 rfl (lv_at hl 0 rfl) ?_
        cases hs
        exact sv_iret hx hb hr rfl hlk hW dX8_tour_33
    · replace hs := (sp_ite hs).1 c6
      refine lv_bipush (v := -2) hx hb dX8_tour_19 (by decide) ?_
      cases hs
      exact sv_iret hx hb hr rfl hlk hW dX8_tour_21
set_option maxRecDepth 100000 in
set_option maxHeartbeats 4000000 in
theorem b_X8_deal_29 {p : Program} {l : Launch} {e : Env} {s : State} {m : MethodId} {args : Array Value} {below : List Frame} {meth : Method} {c : Code} {D : va_G} {T : Nat → ClassId} {A : Nat → Prop} {h : Nat → Nat} {θ : sv_T} {a1 : Int32} {r : Int32} {σ' : sv_S} (hB : sm_base θ)  (F : sv_F sm_X p m c cX8_deal 4 s args wsX8_deal RX8 D (sm_tys T) A) (hr : meth.sig.returnType = (some .int)) (hlk : meth.locks = false)  : ∀ (n : Nat), ∀ (x3 : Int32) (σ : sv_S) (H : Heap) (locs : List Loc) (ls : Array Slot), lv_has ls 4 [(0, .ref (h 0)), (3, .int x3)] → sv_W D T A s h θ σ H locs → q_X8_deal_B29 θ a1 n x3 σ = some (r, σ') → W p l e (sv_rm 69 2613) s m args below meth c H locs 0 0 (MQ below (va_Qi (fun r2 (_ : Unit) => r2 = r) (fun _ t => va_P D vwCl (sv_ws T h θ σ') t.heap) A) args s 0 0 A) (F0 m 29 ls []) := by
  have hx := F.1.1
  have hb := F.1.2.1
  have hts := F.1.2.2.2.2
  have hown := F.1.2.2.2.1
  have hK := F.2.1
  intro n
  induction n with
  | zero =>
    intro x3 σ H locs ls hl hW hs
    have hs : (none : Option (Int32 × sv_S)) = some (r, σ') := hs
    cases hs
  | succ n ih =>
    intro x3 σ H locs ls hl hW hs
    have hs : q_X8_deal_B29_b θ a1 (q_X8_deal_B29 θ a1 n) x3 σ = some (r, σ') := hs
    unfold q_X8_deal_B29_b at hs
    refine lv_iload_n hx hb dX8_deal_29 rfl (lv_at hl 1 rfl) ?_
    refine lv_aload_n hx hb dX8_deal_30 rfl (lv_at hl 0 rfl) ?_
    refine sv_get (own := RX8) (C := RX8) (Tf := TX8) (N := 44) (index := 64) (κ := (0, 0)) (v := .int (σ.1 0 11)) hx hb hts hown hK hW (fun _ h => List.mem_cons_of_mem _ (List.mem_append_right _ h)) (sm_i 0 hB (by decide)) (sm_c0 hB) rfl 11 (by decide) rfl rfl (List.mem_of_getElem? (i := 1) rfl) dX8_deal_31 ?_
    refine lv_icmp_ge (tgt := 66) hx hb dX8_deal_34 (by decide) (fun c9 => ?_) (fun c9 => ?_)
    · replace hs := (sp_ite hs).1 c9
      refine lv_aload_n hx hb dX8_deal_66 rfl (lv_at hl 0 rfl) ?_
      refine sv_get (own := RX8) (C := RX8) (Tf := TX8) (N := 44) (index := 261) (κ := (0, 0)) (v := .int (σ.1 0 27)) hx hb hts hown hK hW (fun _ h => List.mem_cons_of_mem _ (List.mem_append_right _ h)) (sm_i 0 hB (by decide)) (sm_c0 hB) rfl 27 (by decide) rfl rfl (List.mem_of_getElem? (i := 4) rfl) dX8_deal_67 ?_
      cases hs
      exact sv_iret hx hb hr rfl hlk hW dX8_deal_70
    · replace hs := (sp_ite hs).2 c9
      refine lv_aload_n hx hb dX8_deal_37 rfl (lv_at hl 0 rfl) ?_
      refine sv_get (own := RX8) (C := RX8) (Tf := TX8) (N := 44) (index := 273) (κ := (0, 0)) (v := .int (σ.1 0 31)) hx hb hts hown hK hW (fun _ h => List.mem_cons_of_mem _ (List.mem_append_right _ h)) (sm_i 0 hB (by decide)) (sm_c0 hB) rfl 31 (by decide) rfl rfl (List.mem_of_getElem? (i := 2) rfl) dX8_deal_38 ?_
      refine lv_iload_n hx hb dX8_deal_41 rfl (lv_at hl 1 rfl) ?_
      refine lv_ishr hx hb dX8_deal_42 ?_
      refine lv_iconst (v := 1) hx hb dX8_deal_43 (by decide) ?_
      refine lv_iand hx hb dX8_deal_44 ?_
      refine lv_iconst (v := 1) hx hb dX8_deal_45 (by decide) ?_
      refine lv_icmp_ne (tgt := 60) hx hb dX8_deal_46 (by decide) (fun c10 => ?_) (fun c10 => ?_)
      · replace hs := (sp_ite hs).2 c10
        obtain ⟨v11, ev11⟩ : ∃ y : Int32, y = x3 + 1 := ⟨_, rfl⟩
        replace hs := sp_let hs ev11
        refine lv_iinc (v := v11) (lv' := [(3, .int v11), (0, .ref (h 0))]) hx hb dX8_deal_60 hl (k := 1) rfl (by rw [ev11]; rfl) (by decide) rfl (fun ls hl => ?_)
        refine lv_goto (tgt := 29) hx hb dX8_deal_63 (by decide) ?_
        exact ih v11 σ H locs ls (lv_sub hl [1, 0] rfl) hW hs
      · replace hs := (sp_ite hs).1 c10
        refine lv_aload_n hx hb dX8_deal_49 rfl (lv_at hl 0 rfl) ?_
        refine sv_get (own := RX8) (C := RX8) (Tf := TX8) (N := 44) (index := 29) (κ := (3, 6)) (v := .ref (h 6)) hx hb hts hown hK hW (fun _ h => List.mem_cons_of_mem _ (List.mem_append_right _ h)) (sm_i 0 hB (by decide)) (sm_c0 hB) rfl 10 (by decide) rfl rfl (List.mem_of_getElem? (i := 3) rfl) dX8_deal_50 ?_
        refine lv_iconst (v := 3) hx hb dX8_deal_53 (by decide) ?_
        refine lv_iload_n hx hb dX8_deal_54 rfl (lv_at hl 1 rfl) ?_
        refine lv_imul hx hb dX8_deal_55 ?_
        refine lv_iconst (v := 2) hx hb dX8_deal_56 (by decide) ?_
        refine lv_iadd hx hb dX8_deal_57 ?_
        refine lv_iconst (v := 1) hx hb dX8_deal_58 (by decide) ?_
        obtain ⟨hi12, hs⟩ := sp_g hs
        refine sv_iast hx hb hK hW (sm_i 6 hB (by decide)) (sm_c6 hB) 0 rfl hi12 dX8_deal_59 (fun σ13 H locs eσ13 hW => ?_)
        replace hs := sp_let hs eσ13
        obtain ⟨v14, ev14⟩ : ∃ y : Int32, y = x3 + 1 := ⟨_, rfl⟩
        replace hs := sp_let hs ev14
        refine lv_iinc (v := v14) (lv' := [(3, .int v14), (0, .ref (h 0))]) hx hb dX8_deal_60 hl (k := 1) rfl (by rw [ev14]; rfl) (by decide) rfl (fun ls hl => ?_)
        refine lv_goto (tgt := 29) hx hb dX8_deal_63 (by decide) ?_
        exact ih v14 σ13 H locs ls (lv_sub hl [1, 0] rfl) hW hs
set_option maxRecDepth 100000 in
set_option maxHeartbeats 4000000 in
theorem k_X8_deal {l : Launch} {D : va_G} {T : Nat → ClassId} {h : Nat → Nat} {θ : sv_T} {a1 : Int32} {σ : sv_S} {r : Int32} {σ' : sv_S} (hB : sm_base θ)  (hs : q_X8_deal θ a1 σ = some (r, σ')) : sv_Mi sm_X l D T (sm_tys T) h θ yX8_deal wsX8_deal (sv_rm 69 2613) [.ref (h 0), .int a1] σ r σ' := by
  intro sz
  refine sv_enter (cc := cX8_deal) (maxL := 4) (ret := (some .int)) (Qc := fun A => va_Qi (fun r2 (_ : Unit) => r2 = r) (fun _ t => va_P D vwCl (sv_ws T h θ σ') t.heap) A) sm_XP (by decide) rfl (Nat.le_of_ble_eq_true rfl) ?_
  intro p e s m args below meth c A F hr hlk ls H hl hW
  have hx := F.1.1
  have hb := F.1.2.1
  have hts := F.1.2.2.2.2
  have hown := F.1.2.2.2.1
  have hK := F.2.1
  obtain ⟨locs, hlocs⟩ : ∃ z : List Loc, z = [] := ⟨_, rfl⟩
  rw [← hlocs] at hW ⊢
  have hl : lv_has ls 4 [(0, .ref (h 0)), (1, .int a1)] := hl
  unfold q_X8_deal at hs
  refine lv_iload_n hx hb dX8_deal_0 rfl (lv_at hl 1 rfl) ?_
  obtain ⟨r1, σ2, eσ2, hs⟩ := sp_bind hs
  refine sv_goI (σ' := σ2) (r := r1) hW F.2.2.2.1 (sv_runT F hW (k_X8_isSheet hB eσ2 H.size) gX8_deal_X8_isSheet rfl ⟨rfl, rfl⟩ 1 (by decide +kernel) (sv_room2 (by omega) (by omega)) rfl hl.1 rfl (Nat.le_of_ble_eq_true rfl) dX8_deal_1 ⟨Nat.zero_le _, Nat.zero_le _⟩) (fun H locs hW => ?_)
  refine lv_if_ne (tgt := 10) hx hb dX8_deal_4 (by decide) (fun c3 => ?_) (fun c3 => ?_)
  · replace hs := (sp_ite hs).2 c3
    refine lv_aload_n hx hb dX8_deal_10 rfl (lv_at hl 0 rfl) ?_
    refine lv_iload_n hx hb dX8_deal_11 rfl (lv_at hl 1 rfl) ?_
    obtain ⟨r4, σ5, eσ5, hs⟩ := sp_bind hs
    refine sv_goI (σ' := σ5) (r := r4) hW F.2.2.2.1 (sv_runV (C := RX8) F hW (k_X8_tourBad hB eσ5 H.size) gX8_deal_X8_tourBad rfl ⟨rfl, rfl⟩ 1 (by decide +kernel) (sv_room2 (by omega) (by omega)) (sm_i 0 hB (by decide)) (sm_c0 hB) rfl rfl hl.1 rfl (Nat.le_of_ble_eq_true rfl) dX8_deal_12 ⟨Nat.zero_le _, Nat.zero_le _⟩) (fun H locs hW => ?_)
    refine lv_istore_n (lv' := [(2, .int r4), (0, .ref (h 0)), (1, .int a1)]) hx hb dX8_deal_15 rfl hl (by decide) rfl (fun ls hl => ?_)
    refine lv_iload_n hx hb dX8_deal_16 rfl (lv_at hl 0 rfl) ?_
    refine lv_if_eq (tgt := 22) hx hb dX8_deal_17 (by decide) (fun c6 => ?_) (fun c6 => ?_)
    · replace hs := (sp_ite hs).1 c6
      refine lv_aload_n hx hb dX8_deal_22 rfl (lv_at hl 1 rfl) ?_
      refine lv_iload_n hx hb dX8_deal_23 rfl (lv_at hl 2 rfl) ?_
      obtain ⟨r7, σ8, eσ8, hs⟩ := sp_bind hs
      refine sv_goV (σ' := σ8) (r := r7) hW F.2.2.2.1 (sv_runV (C := RX8) F hW (k_X8_goes hB eσ8 H.size) gX8_deal_X8_goes rfl ⟨rfl, rfl⟩ 1 (by decide +kernel) (sv_room2 (by omega) (by omega)) (sm_i 0 hB (by decide)) (sm_c0 hB) rfl rfl hl.1 rfl (Nat.le_of_ble_eq_true rfl) dX8_deal_24 ⟨Nat.zero_le _, Nat.zero_le _⟩) (fun H locs hW => ?_)
      refine lv_iconst (v := 0) hx hb dX8_deal_27 (by decide) ?_
      refine lv_istore_n (lv' := [(3, .int (0 : Int32)), (2, .int r4), (0, .ref (h 0)), (1, .int a1)]) hx hb dX8_deal_28 rfl hl (by decide) rfl (fun ls hl => ?_)
      exact b_X8_deal_29 hB F hr hlk sv_N (0 : Int32) σ8 H locs ls (lv_sub hl [2, 0] rfl) hW hs
    · replace hs := (sp_ite hs).2 c6
      refine lv_iload_n hx hb dX8_deal_20 rfl (lv_at hl 0 rfl) ?_
      cases hs
      exact sv_iret hx hb hr rfl hlk hW dX8_deal_21
  · replace hs := (sp_ite hs).1 c3
    refine lv_bipush (v := -2) hx hb dX8_deal_7 (by decide) ?_
    cases hs
    exact sv_iret hx hb hr rfl hlk hW dX8_deal_9

set_option maxRecDepth 100000 in
set_option maxHeartbeats 4000000 in
theorem k_X5_spans {qK qV : Nat → Nat} {l : Launch} {D : va_G} {T : Nat → ClassId} {h : Nat → Nat} {θ : sv_T} {kr : Nat} {a1 : Int32} {a2 : Int32} {σ : sv_S} {r : Int32} {σ' : sv_S} (hB : sx_base θ) (hkr : sv_oX5 θ kr) (hs : q_X5_spans θ kr a1 a2 σ = some (r, σ')) : sv_Mi (sx_X qK qV) l D T (sx_tys T) h θ yX5_spans wsX5_spans (sv_rm 0 0) [.ref (h kr), .int a1, .int a2] σ r σ' := by
  intro sz
  refine sv_enter (cc := cX5_spans) (maxL := 3) (ret := (some .boolean)) (Qc := fun A => va_Qi (fun r2 (_ : Unit) => r2 = r) (fun _ t => va_P D vwCl (sv_ws T h θ σ') t.heap) A) sx_XP (by decide) rfl (Nat.le_of_ble_eq_true rfl) ?_
  intro p e s m args below meth c A F hr hlk ls H hl hW
  have hx := F.1.1
  have hb := F.1.2.1
  have hts := F.1.2.2.2.2
  have hown := F.1.2.2.2.1
  have hK := F.2.1
  obtain ⟨locs, hlocs⟩ : ∃ z : List Loc, z = [] := ⟨_, rfl⟩
  rw [← hlocs] at hW ⊢
  have hl : lv_has ls 3 [(0, .ref (h kr)), (1, .int a1), (2, .int a2)] := hl
  unfold q_X5_spans at hs
  refine lv_iload_n hx hb dX5_spans_0 rfl (lv_at hl 1 rfl) ?_
  refine lv_if_lt (tgt := 30) hx hb dX5_spans_1 (by decide) (fun c1 => ?_) (fun c1 => ?_)
  · replace hs := (sp_ite hs).1 c1
    refine lv_iconst (v := 0) hx hb dX5_spans_30 (by decide) ?_
    cases hs
    exact sv_iret hx hb hr rfl hlk hW dX5_spans_31
  · replace hs := (sp_ite hs).2 c1
    refine lv_iload_n hx hb dX5_spans_4 rfl (lv_at hl 2 rfl) ?_
    refine lv_if_lt (tgt := 30) hx hb dX5_spans_5 (by decide) (fun c2 => ?_) (fun c2 => ?_)
    · replace hs := (sp_ite hs).1 c2
      refine lv_iconst (v := 0) hx hb dX5_spans_30 (by decide) ?_
      cases hs
      exact sv_iret hx hb hr rfl hlk hW dX5_spans_31
    · replace hs := (sp_ite hs).2 c2
      refine lv_iload_n hx hb dX5_spans_8 rfl (lv_at hl 1 rfl) ?_
      refine lv_aload_n hx hb dX5_spans_9 rfl (lv_at hl 0 rfl) ?_
      refine sv_get (own := RX5) (C := RX5) (Tf := TX5) (N := 3) (index := 23) (κ := (0, 0)) (v := .int (σ.1 kr 2)) hx hb hts hown hK hW (fun _ h => List.mem_cons_of_mem _ (List.mem_append_right _ h)) hkr.1 hkr.2.1 rfl 2 (by decide) rfl rfl (List.mem_of_getElem? (i := 1) rfl) dX5_spans_10 ?_
      refine lv_icmp_gt (tgt := 30) hx hb dX5_spans_13 (by decide) (fun c3 => ?_) (fun c3 => ?_)
      · replace hs := (sp_ite hs).1 c3
        refine lv_iconst (v := 0) hx hb dX5_spans_30 (by decide) ?_
        cases hs
        exact sv_iret hx hb hr rfl hlk hW dX5_spans_31
      · replace hs := (sp_ite hs).2 c3
        refine lv_iload_n hx hb dX5_spans_16 rfl (lv_at hl 2 rfl) ?_
        refine lv_aload_n hx hb dX5_spans_17 rfl (lv_at hl 0 rfl) ?_
        refine sv_get (own := RX5) (C := RX5) (Tf := TX5) (N := 3) (index := 23) (κ := (0, 0)) (v := .int (σ.1 kr 2)) hx hb hts hown hK hW (fun _ h => List.mem_cons_of_mem _ (List.mem_append_right _ h)) hkr.1 hkr.2.1 rfl 2 (by decide) rfl rfl (List.mem_of_getElem? (i := 1) rfl) dX5_spans_18 ?_
        refine lv_iload_n hx hb dX5_spans_21 rfl (lv_at hl 1 rfl) ?_
        refine lv_isub hx hb dX5_spans_22 ?_
        refine lv_icmp_gt (tgt := 30) hx hb dX5_spans_23 (by decide) (fun c4 => ?_) (fun c4 => ?_)
        · replace hs := (sp_ite hs).1 c4
          refine lv_iconst (v := 0) hx hb dX5_spans_30 (by decide) ?_
          cases hs
          exact sv_iret hx hb hr rfl hlk hW dX5_spans_31
        · replace hs := (sp_ite hs).2 c4
          refine lv_iconst (v := 1) hx hb dX5_spans_26 (by decide) ?_
          refine lv_goto (tgt := 31) hx hb dX5_spans_27 (by decide) ?_
          cases hs
          exact sv_iret hx hb hr rfl hlk hW dX5_spans_31
set_option maxRecDepth 100000 in
set_option maxHeartbeats 4000000 in
theorem k_X7_rainPlace {qK qV : Nat → Nat} {l : Launch} {D : va_G} {T : Nat → ClassId} {h : Nat → Nat} {θ : sv_T} {a1 : Int32} {σ : sv_S} {r : Int32} {σ' : sv_S} (hB : sx_base θ)  (hs : q_X7_rainPlace θ a1 σ = some (r, σ')) : sv_Mi (sx_X qK qV) l D T (sx_tys T) h θ yX7_rainPlace wsX7_rainPlace (sv_rm 0 0) [.int a1] σ r σ' := by
  intro sz
  refine sv_enter (cc := cX7_rainPlace) (maxL := 3) (ret := (some .int)) (Qc := fun A => va_Qi (fun r2 (_ : Unit) => r2 = r) (fun _ t => va_P D vwCl (sv_ws T h θ σ') t.heap) A) sx_XP (by decide) rfl (Nat.le_of_ble_eq_true rfl) ?_
  intro p e s m args below meth c A F hr hlk ls H hl hW
  have hx := F.1.1
  have hb := F.1.2.1
  have hts := F.1.2.2.2.2
  have hown := F.1.2.2.2.1
  have hK := F.2.1
  obtain ⟨locs, hlocs⟩ : ∃ z : List Loc, z = [] := ⟨_, rfl⟩
  rw [← hlocs] at hW ⊢
  have hl : lv_has ls 3 [(0, .int a1)] := hl
  unfold q_X7_rainPlace at hs
  refine lv_iload_n hx hb dX7_rainPlace_0 rfl (lv_at hl 0 rfl) ?_
  refine lv_bipush (v := 100) hx hb dX7_rainPlace_1 (by decide) ?_
  refine lv_idiv hx hb dX7_rainPlace_3 (by decide) ?_
  refine lv_topi (fun v1 ev1 => ?_)
  replace hs := sp_let hs ev1
  refine lv_istore_n (lv' := [(1, .int v1), (0, .int a1)]) hx hb dX7_rainPlace_4 rfl hl (by decide) rfl (fun ls hl => ?_)
  refine lv_iload_n hx hb dX7_rainPlace_5 rfl (lv_at hl 1 rfl) ?_
  refine lv_bipush (v := 100) hx hb dX7_rainPlace_6 (by decide) ?_
  refine lv_irem hx hb dX7_rainPlace_8 (by decide) ?_
  refine lv_topi (fun v2 ev2 => ?_)
  replace hs := sp_let hs ev2
  refine lv_istore_n (lv' := [(2, .int v2), (1, .int v1), (0, .int a1)]) hx hb dX7_rainPlace_9 rfl hl (by decide) rfl (fun ls hl => ?_)
  refine lv_iload_n hx hb dX7_rainPlace_10 rfl (lv_at hl 2 rfl) ?_
  refine lv_if_lt (tgt := 25) hx hb dX7_rainPlace_11 (by decide) (fun c3 => ?_) (fun c3 => ?_)
  · replace hs := (sp_ite hs).1 c3
    refine lv_iconst (v := -1) hx hb dX7_rainPlace_25 (by decide) ?_
    refine lv_goto (tgt := 35) hx hb dX7_rainPlace_26 (by decide) ?_
    cases hs
    exact sv_iret hx hb hr rfl hlk hW dX7_rainPlace_35
  · replace hs := (sp_ite hs).2 c3
    refine lv_iload_n hx hb dX7_rainPlace_14 rfl (lv_at hl 1 rfl) ?_
    refine lv_iconst (v := 2) hx hb dX7_rainPlace_15 (by decide) ?_
    refine lv_icmp_ge (tgt := 25) hx hb dX7_rainPlace_16 (by decide) (fun c4 => ?_) (fun c4 => ?_)
    · replace hs := (sp_ite hs).1 c4
      refine lv_iconst (v := -1) hx hb dX7_rainPlace_25 (by decide) ?_
      refine lv_goto (tgt := 35) hx hb dX7_rainPlace_26 (by decide) ?_
      cases hs
      exact sv_iret hx hb hr rfl hlk hW dX7_rainPlace_35
    · replace hs := (sp_ite hs).2 c4
      refine lv_iload_n hx hb dX7_rainPlace_19 rfl (lv_at hl 0 rfl) ?_
      refine lv_bipush (v := 24) hx hb dX7_rainPlace_20 (by decide) ?_
      refine lv_icmp_lt (tgt := 29) hx hb dX7_rainPlace_22 (by decide) (fun c5 => ?_) (fun c5 => ?_)
      · replace hs := (sp_ite hs).1 c5
        refine lv_iload_n hx hb dX7_rainPlace_29 rfl (lv_at hl 1 rfl) ?_
        refine lv_bipush (v := 24) hx hb dX7_rainPlace_30 (by decide) ?_
        refine lv_imul hx hb dX7_rainPlace_32 ?_
        refine lv_iload_n hx hb dX7_rainPlace_33 rfl (lv_at hl 0 rfl) ?_
        refine lv_iadd hx hb dX7_rainPlace_34 ?_
        cases hs
        exact sv_iret hx hb hr rfl hlk hW dX7_rainPlace_35
      · replace hs := (sp_ite hs).2 c5
        refine lv_iconst (v := -1) hx hb dX7_rainPlace_25 (by decide) ?_
        refine lv_goto (tgt := 35) hx hb dX7_rainPlace_26 (by decide) ?_
        cases hs
        exact sv_iret hx hb hr rfl hlk hW dX7_rainPlace_35
set_option maxRecDepth 100000 in
set_option maxHeartbeats 4000000 in
theorem k_X7_told {qK qV : Nat → Nat} {l : Launch} {D : va_G} {T : Nat → ClassId} {h : Nat → Nat} {θ : sv_T} {a1 : Int32} {a2 : Int32} {σ : sv_S} {r : Int32} {σ' : sv_S} (hB : sx_base θ)  (hs : q_X7_told θ a1 a2 σ = some (r, σ')) : sv_Mi (sx_X qK qV) l D T (sx_tys T) h θ yX7_told wsX7_told (sv_rm 1 22) [.ref (h 0), .int a1, .int a2] σ r σ' := by
  intro sz
  refine sv_enter (cc := cX7_told) (maxL := 4) (ret := (some .int)) (Qc := fun A => va_Qi (fun r2 (_ : Unit) => r2 = r) (fun _ t => va_P D vwCl (sv_ws T h θ σ') t.heap) A) sx_XP (by decide) rfl (Nat.le_of_ble_eq_true rfl) ?_
  intro p e s m args below meth c A F hr hlk ls H hl hW
  have hx := F.1.1
  have hb := F.1.2.1
  have hts := F.1.2.2.2.2
  have hown := F.1.2.2.2.1
  have hK := F.2.1
  obtain ⟨locs, hlocs⟩ : ∃ z : List Loc, z = [] := ⟨_, rfl⟩
  rw [← hlocs] at hW ⊢
  have hl : lv_has ls 4 [(0, .ref (h 0)), (1, .int a1), (2, .int a2)] := hl
  unfold q_X7_told at hs
  refine lv_iload_n hx hb dX7_told_0 rfl (lv_at hl 2 rfl) ?_
  refine lv_if_ne (tgt := 12) hx hb dX7_told_1 (by decide) (fun c1 => ?_) (fun c1 => ?_)
  · replace hs := (sp_ite hs).2 c1
    refine lv_iload_n hx hb dX7_told_12 rfl (lv_at hl 2 rfl) ?_
    refine lv_iconst (v := 1) hx hb dX7_told_13 (by decide) ?_
    refine lv_icmp_ne (tgt := 44) hx hb dX7_told_14 (by decide) (fun c2 => ?_) (fun c2 => ?_)
    · replace hs := (sp_ite hs).2 c2
      refine lv_aload_n hx hb dX7_told_44 rfl (lv_at hl 0 rfl) ?_
      refine sv_get (own := RX7) (C := RX7) (Tf := TX7) (N := 10) (index := 10) (κ := (3, 1)) (v := .ref (h 1)) hx hb hts hown hK hW (fun _ h => List.mem_cons_of_mem _ (List.mem_append_left _ (List.mem_append_right _ h))) (sx_i 0 hB (by decide)) (sx_c0 hB) rfl 0 (by decide) rfl rfl (List.mem_of_getElem? (i := 1) rfl) dX7_told_45 ?_
      refine lv_iload_n hx hb dX7_told_48 rfl (lv_at hl 1 rfl) ?_
      obtain ⟨r3, σ4, eσ4, hs⟩ := sp_bind hs
      refine sv_goI (σ' := σ4) (r := r3) hW F.2.2.2.1 (sv_runV (C := RX2) F hW (k_X2_has hB eσ4 H.size) gX7_told_X2_has rfl ⟨rfl, rfl⟩ 1 (by decide +kernel) (sv_room2 (by omega) (by omega)) (sx_i 1 hB (by decide)) (sx_c1 hB) rfl rfl hl.1 rfl (Nat.le_of_ble_eq_true rfl) dX7_told_49 ⟨Nat.zero_le _, Nat.zero_le _⟩) (fun H locs hW => ?_)
      refine lv_if_ne (tgt := 58) hx hb dX7_told_52 (by decide) (fun c5 => ?_) (fun c5 => ?_)
      · replace hs := (sp_ite hs).2 c5
        refine lv_iload_n hx hb dX7_told_58 rfl (lv_at hl 2 rfl) ?_
        by_cases c6 : a2 = 2
        · replace hs := (sp_ite hs).1 c6
          refine lv_tableIn (off := 29) (tgt := 88) hx hb dX7_told_59 (by rw [c6]; decide) (by rw [c6]; decide) (by rw [c6]; decide) (by decide) ?_
          refine lv_aload_n hx hb dX7_told_88 rfl (lv_at hl 0 rfl) ?_
          refine sv_get (own := RX7) (C := RX7) (Tf := TX7) (N := 10) (index := 10) (κ := (3, 1)) (v := .ref (h 1)) hx hb hts hown hK hW (fun _ h => List.mem_cons_of_mem _ (List.mem_append_left _ (List.mem_append_right _ h))) (sx_i 0 hB (by decide)) (sx_c0 hB) rfl 0 (by decide) rfl rfl (List.mem_of_getElem? (i := 1) rfl) dX7_told_89 ?_
          refine sv_get (own := RX7) (C := RX2) (Tf := TX2) (N := 8) (index := 110) (κ := (3, 3)) (v := .ref (h 4)) hx hb hts hown hK hW (fun _ h => List.mem_cons_of_mem _ (List.mem_append_right _ h)) (sx_i 1 hB (by decide)) (sx_c1 hB) rfl 2 (by decide) rfl rfl (List.mem_of_getElem? (i := 4) rfl) dX7_told_92 ?_
          refine lv_iload_n hx hb dX7_told_95 rfl (lv_at hl 1 rfl) ?_
          obtain ⟨r7, σ8, eσ8, hs⟩ := sp_bind hs
          refine sv_goI (σ' := σ8) (r := r7) hW F.2.2.2.1 (sv_runT F hW (k_X7_at hB (sv_oA_of (sx_i 4 hB (by decide)) (sx_c4 hB)) eσ8 H.size) gX7_told_X7_at rfl ⟨rfl, rfl⟩ 2 (by decide +kernel) (sv_room2 (by omega) (by omega)) rfl hl.1 rfl (Nat.le_of_ble_eq_true rfl) dX7_told_96 ⟨Nat.zero_le _, Nat.zero_le _⟩) (fun H locs hW => ?_)
          cases hs
          exact sv_iret hx hb hr rfl hlk hW dX7_told_99
        replace hs := (sp_ite hs).2 c6
        by_cases c9 : a2 = 3
        · replace hs := (sp_ite hs).1 c9
          refine lv_tableIn (off := 41) (tgt := 100) hx hb dX7_told_59 (by rw [c9]; decide) (by rw [c9]; decide) (by rw [c9]; decide) (by decide) ?_
          refine lv_aload_n hx hb dX7_told_100 rfl (lv_at hl 0 rfl) ?_
          refine sv_get (own := RX7) (C := RX7) (Tf := TX7) (N := 10) (index := 10) (κ := (3, 1)) (v := .ref (h 1)) hx hb hts hown hK hW (fun _ h => List.mem_cons_of_mem _ (List.mem_append_left _ (List.mem_append_right _ h))) (sx_i 0 hB (by decide)) (sx_c0 hB) rfl 0 (by decide) rfl rfl (List.mem_of_getElem? (i := 1) rfl) dX7_told_101 ?_
          refine sv_get (own := RX7) (C := RX2) (Tf := TX2) (N := 8) (index := 113) (κ := (3, 4)) (v := .ref (h 5)) hx hb hts hown hK hW (fun _ h => List.mem_cons_of_mem _ (List.mem_append_right _ h)) (sx_i 1 hB (by decide)) (sx_c1 hB) rfl 3 (by decide) rfl rfl (List.mem_of_getElem? (i := 5) rfl) dX7_told_104 ?_
          refine lv_iload_n hx hb dX7_told_107 rfl (lv_at hl 1 rfl) ?_
          obtain ⟨r10, σ11, eσ11, hs⟩ := sp_bind hs
          refine sv_goI (σ' := σ11) (r := r10) hW F.2.2.2.1 (sv_runT F hW (k_X7_at hB (sv_oA_of (sx_i 5 hB (by decide)) (sx_c5 hB)) eσ11 H.size) gX7_told_X7_at rfl ⟨rfl, rfl⟩ 2 (by decide +kernel) (sv_room2 (by omega) (by omega)) rfl hl.1 rfl (Nat.le_of_ble_eq_true rfl) dX7_told_108 ⟨Nat.zero_le _, Nat.zero_le _⟩) (fun H locs hW => ?_)
          cases hs
          exact sv_iret hx hb hr rfl hlk hW dX7_told_111
        replace hs := (sp_ite hs).2 c9
        by_cases c12 : a2 = 4
        · replace hs := (sp_ite hs).1 c12
          refine lv_tableIn (off := 53) (tgt := 112) hx hb dX7_told_59 (by rw [c12]; decide) (by rw [c12]; decide) (by rw [c12]; decide) (by decide) ?_
          refine lv_aload_n hx hb dX7_told_112 rfl (lv_at hl 0 rfl) ?_
          refine sv_get (own := RX7) (C := RX7) (Tf := TX7) (N := 10) (index := 10) (κ := (3, 1)) (v := .ref (h 1)) hx hb hts hown hK hW (fun _ h => List.mem_cons_of_mem _ (List.mem_append_left _ (List.mem_append_right _ h))) (sx_i 0 hB (by decide)) (sx_c0 hB) rfl 0 (by decide) rfl rfl (List.mem_of_getElem? (i := 1) rfl) dX7_told_113 ?_
          refine sv_get (own := RX7) (C := RX2) (Tf := TX2) (N := 8) (index := 116) (κ := (3, 5)) (v := .ref (h 6)) hx hb hts hown hK hW (fun _ h => List.mem_cons_of_mem _ (List.mem_append_right _ h)) (sx_i 1 hB (by decide)) (sx_c1 hB) rfl 4 (by decide) rfl rfl (List.mem_of_getElem? (i := 6) rfl) dX7_told_116 ?_
          refine lv_iload_n hx hb dX7_told_119 rfl (lv_at hl 1 rfl) ?_
          obtain ⟨r13, σ14, eσ14, hs⟩ := sp_bind hs
          refine sv_goI (σ' := σ14) (r := r13) hW F.2.2.2.1 (sv_runT F hW (k_X7_at hB (sv_oA_of (sx_i 6 hB (by decide)) (sx_c6 hB)) eσ14 H.size) gX7_told_X7_at rfl ⟨rfl, rfl⟩ 2 (by decide +kernel) (sv_room2 (by omega) (by omega)) rfl hl.1 rfl (Nat.le_of_ble_eq_true rfl) dX7_told_120 ⟨Nat.zero_le _, Nat.zero_le _⟩) (fun H locs hW => ?_)
          cases hs
          exact sv_iret hx hb hr rfl hlk hW dX7_told_123
        replace hs := (sp_ite hs).2 c12
        by_cases c15 : a2 = 5
        · replace hs := (sp_ite hs).1 c15
          refine lv_tableIn (off := 65) (tgt := 124) hx hb dX7_told_59 (by rw [c15]; decide) (by rw [c15]; decide) (by rw [c15]; decide) (by decide) ?_
          refine lv_aload_n hx hb dX7_told_124 rfl (lv_at hl 0 rfl) ?_
          refine sv_get (own := RX7) (C := RX7) (Tf := TX7) (N := 10) (index := 10) (κ := (3, 1)) (v := .ref (h 1)) hx hb hts hown hK hW (fun _ h => List.mem_cons_of_mem _ (List.mem_append_left _ (List.mem_append_right _ h))) (sx_i 0 hB (by decide)) (sx_c0 hB) rfl 0 (by decide) rfl rfl (List.mem_of_getElem? (i := 1) rfl) dX7_told_125 ?_
          refine sv_get (own := RX7) (C := RX2) (Tf := TX2) (N := 8) (index := 133) (κ := (3, 2)) (v := .ref (h 3)) hx hb hts hown hK hW (fun _ h => List.mem_cons_of_mem _ (List.mem_append_right _ h)) (sx_i 1 hB (by decide)) (sx_c1 hB) rfl 1 (by decide) rfl rfl (List.mem_of_getElem? (i := 7) rfl) dX7_told_128 ?_
          refine lv_iload_n hx hb dX7_told_131 rfl (lv_at hl 1 rfl) ?_
          obtain ⟨r16, σ17, eσ17, hs⟩ := sp_bind hs
          refine sv_goI (σ' := σ17) (r := r16) hW F.2.2.2.1 (sv_runT F hW (k_X7_at hB (sv_oA_of (sx_i 3 hB (by decide)) (sx_c3 hB)) eσ17 H.size) gX7_told_X7_at rfl ⟨rfl, rfl⟩ 2 (by decide +kernel) (sv_room2 (by omega) (by omega)) rfl hl.1 rfl (Nat.le_of_ble_eq_true rfl) dX7_told_132 ⟨Nat.zero_le _, Nat.zero_le _⟩) (fun H locs hW => ?_)
          cases hs
          exact sv_iret hx hb hr rfl hlk hW dX7_told_135
        replace hs := (sp_ite hs).2 c15
        refine lv_tableOut (tgt := 136) hx hb dX7_told_59 (by have := lv_neT (k := 2) (a := 2) c6 (by decide); have := lv_neT (k := 3) (a := 3) c9 (by decide); have := lv_neT (k := 4) (a := 4) c12 (by decide); have := lv_neT (k := 5) (a := 5) c15 (by decide); omega) (by decide) ?_
        refine lv_bipush (v := -2) hx hb dX7_told_136 (by decide) ?_
        cases hs
        exact sv_iret hx hb hr rfl hlk hW dX7_told_138
      · replace hs := (sp_ite hs).1 c5
        refine lv_bipush (v := -2) hx hb dX7_told_55 (by decide) ?_
        cases hs
        exact sv_iret hx hb hr rfl hlk hW dX7_told_57
    · replace hs := (sp_ite hs).1 c2
      refine lv_iload_n hx hb dX7_told_17 rfl (lv_at hl 1 rfl) ?_
      obtain ⟨r18, σ19, eσ19, hs⟩ := sp_bind hs
      refine sv_goI (σ' := σ19) (r := r18) hW F.2.2.2.1 (sv_runT F hW (k_X7_rainPlace hB eσ19 H.size) gX7_told_X7_rainPlace rfl ⟨rfl, rfl⟩ 1 (by decide +kernel) (sv_room2 (by omega) (by omega)) rfl hl.1 rfl (Nat.le_of_ble_eq_true rfl) dX7_told_18 ⟨Nat.zero_le _, Nat.zero_le _⟩) (fun H locs hW => ?_)
      refine lv_istore_n (lv' := [(3, .int r18), (0, .ref (h 0)), (1, .int a1), (2, .int a2)]) hx hb dX7_told_21 rfl hl (by decide) rfl (fun ls hl => ?_)
      refine lv_iload_n hx hb dX7_told_22 rfl (lv_at hl 0 rfl) ?_
      refine lv_iconst (v := -1) hx hb dX7_told_23 (by decide) ?_
      refine lv_icmp_ne (tgt := 32) hx hb dX7_told_24 (by decide) (fun c20 => ?_) (fun c20 => ?_)
      · replace hs := (sp_ite hs).2 c20
        refine lv_aload_n hx hb dX7_told_32 rfl (lv_at hl 1 rfl) ?_
        refine sv_get (own := RX7) (C := RX7) (Tf := TX7) (N := 10) (index := 10) (κ := (3, 1)) (v := .ref (h 1)) hx hb hts hown hK hW (fun _ h => List.mem_cons_of_mem _ (List.mem_append_left _ (List.mem_append_right _ h))) (sx_i 0 hB (by decide)) (sx_c0 hB) rfl 0 (by decide) rfl rfl (List.mem_of_getElem? (i := 1) rfl) dX7_told_33 ?_
        refine sv_get (own := RX7) (C := RX2) (Tf := TX2) (N := 8) (index := 99) (κ := (3, 1)) (v := .ref (h 2)) hx hb hts hown hK hW (fun _ h => List.mem_cons_of_mem _ (List.mem_append_right _ h)) (sx_i 1 hB (by decide)) (sx_c1 hB) rfl 0 (by decide) rfl rfl (List.mem_of_getElem? (i := 3) rfl) dX7_told_36 ?_
        refine lv_iload_n hx hb dX7_told_39 rfl (lv_at hl 0 rfl) ?_
        obtain ⟨r21, σ22, eσ22, hs⟩ := sp_bind hs
        refine sv_goI (σ' := σ22) (r := r21) hW F.2.2.2.1 (sv_runT F hW (k_X7_at hB (sv_oA_of (sx_i 2 hB (by decide)) (sx_c2 hB)) eσ22 H.size) gX7_told_X7_at rfl ⟨rfl, rfl⟩ 2 (by decide +kernel) (sv_room2 (by omega) (by omega)) rfl hl.1 rfl (Nat.le_of_ble_eq_true rfl) dX7_told_40 ⟨Nat.zero_le _, Nat.zero_le _⟩) (fun H locs hW => ?_)
        cases hs
        exact sv_iret hx hb hr rfl hlk hW dX7_told_43
      · replace hs := (sp_ite hs).1 c20
        refine lv_bipush (v := -2) hx hb dX7_told_27 (by decide) ?_
        refine lv_goto (tgt := 43) hx hb dX7_told_29 (by decide) ?_
        cases hs
        exact sv_iret hx hb hr rfl hlk hW dX7_told_43
  · replace hs := (sp_ite hs).1 c1
    refine lv_aload_n hx hb dX7_told_4 rfl (lv_at hl 0 rfl) ?_
    refine sv_get (own := RX7) (C := RX7) (Tf := TX7) (N := 10) (index := 10) (κ := (3, 1)) (v := .ref (h 1)) hx hb hts hown hK hW (fun _ h => List.mem_cons_of_mem _ (List.mem_append_left _ (List.mem_append_right _ h))) (sx_i 0 hB (by decide)) (sx_c0 hB) rfl 0 (by decide) rfl rfl (List.mem_of_getElem? (i := 1) rfl) dX7_told_5 ?_
    refine sv_get (own := RX7) (C := RX2) (Tf := TX2) (N := 8) (index := 95) (κ := (0, 0)) (v := .int (σ.1 1 5)) hx hb hts hown hK hW (fun _ h => List.mem_cons_of_mem _ (List.mem_append_right _ h)) (sx_i 1 hB (by decide)) (sx_c1 hB) rfl 5 (by decide) rfl rfl (List.mem_of_getElem? (i := 2) rfl) dX7_told_8 ?_
    cases hs
    exact sv_iret hx hb hr rfl hlk hW dX7_told_11
set_option maxRecDepth 100000 in
set_option maxHeartbeats 4000000 in
theorem k_X7_set {qK qV : Nat → Nat} {l : Launch} {D : va_G} {T : Nat → ClassId} {h : Nat → Nat} {θ : sv_T} {a1 : Int32} {a2 : Int32} {a3 : Int32} {σ : sv_S} {r : Int32} {σ' : sv_S} (hB : sx_base θ)  (hs : q_X7_set θ a1 a2 a3 σ = some (r, σ')) : sv_Mi (sx_X qK qV) l D T (sx_tys T) h θ yX7_set wsX7_set (sv_rm 2 45) [.ref (h 0), .int a1, .int a2, .int a3] σ r σ' := by
  intro sz
  refine sv_enter (cc := cX7_set) (maxL := 5) (ret := (some .int)) (Qc := fun A => va_Qi (fun r2 (_ : Unit) => r2 = r) (fun _ t => va_P D vwCl (sv_ws T h θ σ') t.heap) A) sx_XP (by decide) rfl (Nat.le_of_ble_eq_true rfl) ?_
  intro p e s m args below meth c A F hr hlk ls H hl hW
  have hx := F.1.1
  have hb := F.1.2.1
  have hts := F.1.2.2.2.2
  have hown := F.1.2.2.2.1
  have hK := F.2.1
  obtain ⟨locs, hlocs⟩ : ∃ z : List Loc, z = [] := ⟨_, rfl⟩
  rw [← hlocs] at hW ⊢
  have hl : lv_has ls 5 [(0, .ref (h 0)), (1, .int a1), (2, .int a2), (3, .int a3)] := hl
  unfold q_X7_set at hs
  refine lv_iload_n hx hb dX7_set_0 rfl (lv_at hl 1 rfl) ?_
  refine lv_if_lt (tgt := 25) hx hb dX7_set_1 (by decide) (fun c1 => ?_) (fun c1 => ?_)
  · replace hs := (sp_ite hs).1 c1
    refine lv_bipush (v := -2) hx hb dX7_set_25 (by decide) ?_
    cases hs
    exact sv_iret hx hb hr rfl hlk hW dX7_set_27
  · replace hs := (sp_ite hs).2 c1
    refine lv_iload_n hx hb dX7_set_4 rfl (lv_at hl 1 rfl) ?_
    obtain ⟨q2, hZq2, hTq2⟩ := F.2.2.1.2.1
    refine va_gets (C := "OpenWhileItRains") (n := "MOST_SET") (d := "[I") (own := RX7) (ref := "OpenWhileItRains") hx hb hZq2 hW.2.2 hown (hts _ (List.mem_of_getElem? (i := 1) rfl)) (fun _ h9 => h9) dX7_set_5 ?_
    refine va_tlen (v := 5) hx hb hTq2 hW.2.2 (by decide) dX7_set_8 ?_
    refine lv_icmp_ge (tgt := 25) hx hb dX7_set_9 (by decide) (fun c3 => ?_) (fun c3 => ?_)
    · replace hs := (sp_ite hs).1 c3
      refine lv_bipush (v := -2) hx hb dX7_set_25 (by decide) ?_
      cases hs
      exact sv_iret hx hb hr rfl hlk hW dX7_set_27
    · replace hs := (sp_ite hs).2 c3
      refine lv_iload_n hx hb dX7_set_12 rfl (lv_at hl 3 rfl) ?_
      refine lv_if_lt (tgt := 25) hx hb dX7_set_13 (by decide) (fun c4 => ?_) (fun c4 => ?_)
      · replace hs := (sp_ite hs).1 c4
        refine lv_bipush (v := -2) hx hb dX7_set_25 (by decide) ?_
        cases hs
        exact sv_iret hx hb hr rfl hlk hW dX7_set_27
      · replace hs := (sp_ite hs).2 c4
        refine lv_iload_n hx hb dX7_set_16 rfl (lv_at hl 3 rfl) ?_
        obtain ⟨q5, hZq5, hTq5⟩ := F.2.2.1.2.1
        refine va_gets (C := "OpenWhileItRains") (n := "MOST_SET") (d := "[I") (own := RX7) (ref := "OpenWhileItRains") hx hb hZq5 hW.2.2 hown (hts _ (List.mem_of_getElem? (i := 1) rfl)) (fun _ h9 => h9) dX7_set_17 ?_
        refine lv_iload_n hx hb dX7_set_20 rfl (lv_at hl 1 rfl) ?_
        obtain ⟨hi6, hs⟩ := sp_g hs
        refine va_ti hx hb hTq5 hW.2.2 hi6 rfl dX7_set_21 ?_
        refine lv_icmp_le (tgt := 28) hx hb dX7_set_22 (by decide) (fun c7 => ?_) (fun c7 => ?_)
        · replace hs := (sp_ite hs).1 c7
          refine lv_aload_n hx hb dX7_set_28 rfl (lv_at hl 0 rfl) ?_
          refine lv_iload_n hx hb dX7_set_29 rfl (lv_at hl 2 rfl) ?_
          refine lv_iload_n hx hb dX7_set_30 rfl (lv_at hl 1 rfl) ?_
          obtain ⟨r8, σ9, eσ9, hs⟩ := sp_bind hs
          refine sv_goI (σ' := σ9) (r := r8) hW F.2.2.2.1 (sv_runV (C := RX7) F hW (k_X7_told hB eσ9 H.size) gX7_set_X7_told rfl ⟨rfl, rfl⟩ 2 (by decide +kernel) (sv_room2 (by omega) (by omega)) (sx_i 0 hB (by decide)) (sx_c0 hB) rfl rfl hl.1 rfl (Nat.le_of_ble_eq_true rfl) dX7_set_31 ⟨Nat.zero_le _, Nat.zero_le _⟩) (fun H locs hW => ?_)
          refine lv_istore (lv' := [(4, .int r8), (0, .ref (h 0)), (1, .int a1), (2, .int a2), (3, .int a3)]) hx hb dX7_set_34 hl (by decide) rfl (fun ls hl => ?_)
          refine lv_iload hx hb dX7_set_36 (lv_at hl 0 rfl) ?_
          refine lv_bipush (v := -2) hx hb dX7_set_38 (by decide) ?_
          refine lv_icmp_ne (tgt := 46) hx hb dX7_set_40 (by decide) (fun c10 => ?_) (fun c10 => ?_)
          · replace hs := (sp_ite hs).2 c10
            refine lv_iload_n hx hb dX7_set_46 rfl (lv_at hl 2 rfl) ?_
            by_cases c11 : a1 = 0
            · replace hs := (sp_ite hs).1 c11
              refine lv_tableIn (off := 29) (tgt := 76) hx hb dX7_set_47 (by rw [c11]; decide) (by rw [c11]; decide) (by rw [c11]; decide) (by decide) ?_
              refine lv_aload_n hx hb dX7_set_76 rfl (lv_at hl 1 rfl) ?_
              refine sv_get (own := RX7) (C := RX7) (Tf := TX7) (N := 10) (index := 10) (κ := (3, 1)) (v := .ref (h 1)) hx hb hts hown hK hW (fun _ h => List.mem_cons_of_mem _ (List.mem_append_left _ (List.mem_append_right _ h))) (sx_i 0 hB (by decide)) (sx_c0 hB) rfl 0 (by decide) rfl rfl (List.mem_of_getElem? (i := 2) rfl) dX7_set_77 ?_
              refine lv_iload_n hx hb dX7_set_80 rfl (lv_at hl 4 rfl) ?_
              refine sv_putI (own := RX7) (C := RX2) (Tf := TX2) (N := 8) (index := 95) hx hb hts hown hK hW (fun _ h => List.mem_cons_of_mem _ (List.mem_append_right _ h)) tyX2 tyX2_ok nmX2 (sx_i 1 hB (by decide)) (sx_c1 hB) rfl 5 (by decide) rfl rfl (ty := .int) (by decide +kernel) rfl rfl (List.mem_of_getElem? (i := 3) rfl) dX7_set_81 (fun σ12 H locs eσ12 hW => ?_)
              replace hs := sp_let hs eσ12
              refine lv_goto (tgt := 147) hx hb dX7_set_84 (by decide) ?_
              refine lv_iload hx hb dX7_set_147 (lv_at hl 0 rfl) ?_
              cases hs
              exact sv_iret hx hb hr rfl hlk hW dX7_set_149
            replace hs := (sp_ite hs).2 c11
            by_cases c13 : a1 = 1
            · replace hs := (sp_ite hs).1 c13
              refine lv_tableIn (off := 40) (tgt := 87) hx hb dX7_set_47 (by rw [c13]; decide) (by rw [c13]; decide) (by rw [c13]; decide) (by decide) ?_
              refine lv_aload_n hx hb dX7_set_87 rfl (lv_at hl 1 rfl) ?_
              refine sv_get (own := RX7) (C := RX7) (Tf := TX7) (N := 10) (index := 10) (κ := (3, 1)) (v := .ref (h 1)) hx hb hts hown hK hW (fun _ h => List.mem_cons_of_mem _ (List.mem_append_left _ (List.mem_append_right _ h))) (sx_i 0 hB (by decide)) (sx_c0 hB) rfl 0 (by decide) rfl rfl (List.mem_of_getElem? (i := 2) rfl) dX7_set_88 ?_
              refine sv_get (own := RX7) (C := RX2) (Tf := TX2) (N := 8) (index := 99) (κ := (3, 1)) (v := .ref (h 2)) hx hb hts hown hK hW (fun _ h => List.mem_cons_of_mem _ (List.mem_append_right _ h)) (sx_i 1 hB (by decide)) (sx_c1 hB) rfl 0 (by decide) rfl rfl (List.mem_of_getElem? (i := 4) rfl) dX7_set_91 ?_
              refine lv_iload_n hx hb dX7_set_94 rfl (lv_at hl 3 rfl) ?_
              obtain ⟨r14, σ15, eσ15, hs⟩ := sp_bind hs
              refine sv_goI (σ' := σ15) (r := r14) hW F.2.2.2.1 (sv_runT F hW (k_X7_rainPlace hB eσ15 H.size) gX7_set_X7_rainPlace rfl ⟨rfl, rfl⟩ 1 (by decide +kernel) (sv_room2 (by omega) (by omega)) rfl hl.1 rfl (Nat.le_of_ble_eq_true rfl) dX7_set_95 ⟨Nat.zero_le _, Nat.zero_le _⟩) (fun H locs hW => ?_)
              refine lv_iload_n hx hb dX7_set_98 rfl (lv_at hl 4 rfl) ?_
              obtain ⟨r16, σ17, eσ17, hs⟩ := sp_bind hs
              refine sv_goV (σ' := σ17) (r := r16) hW F.2.2.2.1 (sv_runT F hW (k_X7_put hB (sv_oA_of (sx_i 2 hB (by decide)) (sx_c2 hB)) eσ17 H.size) gX7_set_X7_put rfl ⟨rfl, rfl⟩ 3 (by decide +kernel) (sv_room2 (by omega) (by omega)) rfl hl.1 rfl (Nat.le_of_ble_eq_true rfl) dX7_set_99 ⟨Nat.zero_le _, Nat.zero_le _⟩) (fun H locs hW => ?_)
              refine lv_goto (tgt := 147) hx hb dX7_set_102 (by decide) ?_
              refine lv_iload hx hb dX7_set_147 (lv_at hl 0 rfl) ?_
              cases hs
              exact sv_iret hx hb hr rfl hlk hW dX7_set_149
            replace hs := (sp_ite hs).2 c13
            by_cases c18 : a1 = 2
            · replace hs := (sp_ite hs).1 c18
              refine lv_tableIn (off := 58) (tgt := 105) hx hb dX7_set_47 (by rw [c18]; decide) (by rw [c18]; decide) (by rw [c18]; decide) (by decide) ?_
              refine lv_aload_n hx hb dX7_set_105 rfl (lv_at hl 1 rfl) ?_
              refine sv_get (own := RX7) (C := RX7) (Tf := TX7) (N := 10) (index := 10) (κ := (3, 1)) (v := .ref (h 1)) hx hb hts hown hK hW (fun _ h => List.mem_cons_of_mem _ (List.mem_append_left _ (List.mem_append_right _ h))) (sx_i 0 hB (by decide)) (sx_c0 hB) rfl 0 (by decide) rfl rfl (List.mem_of_getElem? (i := 2) rfl) dX7_set_106 ?_
              refine sv_get (own := RX7) (C := RX2) (Tf := TX2) (N := 8) (index := 110) (κ := (3, 3)) (v := .ref (h 4)) hx hb hts hown hK hW (fun _ h => List.mem_cons_of_mem _ (List.mem_append_right _ h)) (sx_i 1 hB (by decide)) (sx_c1 hB) rfl 2 (by decide) rfl rfl (List.mem_of_getElem? (i := 5) rfl) dX7_set_109 ?_
              refine lv_iload_n hx hb dX7_set_112 rfl (lv_at hl 3 rfl) ?_
              refine lv_iload_n hx hb dX7_set_113 rfl (lv_at hl 4 rfl) ?_
              obtain ⟨r19, σ20, eσ20, hs⟩ := sp_bind hs
              refine sv_goV (σ' := σ20) (r := r19) hW F.2.2.2.1 (sv_runT F hW (k_X7_put hB (sv_oA_of (sx_i 4 hB (by decide)) (sx_c4 hB)) eσ20 H.size) gX7_set_X7_put rfl ⟨rfl, rfl⟩ 3 (by decide +kernel) (sv_room2 (by omega) (by omega)) rfl hl.1 rfl (Nat.le_of_ble_eq_true rfl) dX7_set_114 ⟨Nat.zero_le _, Nat.zero_le _⟩) (fun H locs hW => ?_)
              refine lv_goto (tgt := 147) hx hb dX7_set_117 (by decide) ?_
              refine lv_iload hx hb dX7_set_147 (lv_at hl 0 rfl) ?_
              cases hs
              exact sv_iret hx hb hr rfl hlk hW dX7_set_149
            replace hs := (sp_ite hs).2 c18
            by_cases c21 : a1 = 3
            · replace hs := (sp_ite hs).1 c21
              refine lv_tableIn (off := 73) (tgt := 120) hx hb dX7_set_47 (by rw [c21]; decide) (by rw [c21]; decide) (by rw [c21]; decide) (by decide) ?_
              refine lv_aload_n hx hb dX7_set_120 rfl (lv_at hl 1 rfl) ?_
              refine sv_get (own := RX7) (C := RX7) (Tf := TX7) (N := 10) (index := 10) (κ := (3, 1)) (v := .ref (h 1)) hx hb hts hown hK hW (fun _ h => List.mem_cons_of_mem _ (List.mem_append_left _ (List.mem_append_right _ h))) (sx_i 0 hB (by decide)) (sx_c0 hB) rfl 0 (by decide) rfl rfl (List.mem_of_getElem? (i := 2) rfl) dX7_set_121 ?_
              refine sv_get (own := RX7) (C := RX2) (Tf := TX2) (N := 8) (index := 113) (κ := (3, 4)) (v := .ref (h 5)) hx hb hts hown hK hW (fun _ h => List.mem_cons_of_mem _ (List.mem_append_right _ h)) (sx_i 1 hB (by decide)) (sx_c1 hB) rfl 3 (by decide) rfl rfl (List.mem_of_getElem? (i := 6) rfl) dX7_set_124 ?_
              refine lv_iload_n hx hb dX7_set_127 rfl (lv_at hl 3 rfl) ?_
              refine lv_iload_n hx hb dX7_set_128 rfl (lv_at hl 4 rfl) ?_
              obtain ⟨r22, σ23, eσ23, hs⟩ := sp_bind hs
              refine sv_goV (σ' := σ23) (r := r22) hW F.2.2.2.1 (sv_runT F hW (k_X7_put hB (sv_oA_of (sx_i 5 hB (by decide)) (sx_c5 hB)) eσ23 H.size) gX7_set_X7_put rfl ⟨rfl, rfl⟩ 3 (by decide +kernel) (sv_room2 (by omega) (by omega)) rfl hl.1 rfl (Nat.le_of_ble_eq_true rfl) dX7_set_129 ⟨Nat.zero_le _, Nat.zero_le _⟩) (fun H locs hW => ?_)
              refine lv_goto (tgt := 147) hx hb dX7_set_132 (by decide) ?_
              refine lv_iload hx hb dX7_set_147 (lv_at hl 0 rfl) ?_
              cases hs
              exact sv_iret hx hb hr rfl hlk hW dX7_set_149
            replace hs := (sp_ite hs).2 c21
            refine lv_tableOut (tgt := 135) hx hb dX7_set_47 (by have := lv_neT (k := 0) (a := 0) c11 (by decide); have := lv_neT (k := 1) (a := 1) c13 (by decide); have := lv_neT (k := 2) (a := 2) c18 (by decide); have := lv_neT (k := 3) (a := 3) c21 (by decide); omega) (by decide) ?_
            refine lv_aload_n hx hb dX7_set_135 rfl (lv_at hl 1 rfl) ?_
            refine sv_get (own := RX7) (C := RX7) (Tf := TX7) (N := 10) (index := 10) (κ := (3, 1)) (v := .ref (h 1)) hx hb hts hown hK hW (fun _ h => List.mem_cons_of_mem _ (List.mem_append_left _ (List.mem_append_right _ h))) (sx_i 0 hB (by decide)) (sx_c0 hB) rfl 0 (by decide) rfl rfl (List.mem_of_getElem? (i := 2) rfl) dX7_set_136 ?_
            refine sv_get (own := RX7) (C := RX2) (Tf := TX2) (N := 8) (index := 116) (κ := (3, 5)) (v := .ref (h 6)) hx hb hts hown hK hW (fun _ h => List.mem_cons_of_mem _ (List.mem_append_right _ h)) (sx_i 1 hB (by decide)) (sx_c1 hB) rfl 4 (by decide) rfl rfl (List.mem_of_getElem? (i := 7) rfl) dX7_set_139 ?_
            refine lv_iload_n hx hb dX7_set_142 rfl (lv_at hl 3 rfl) ?_
            refine lv_iload_n hx hb dX7_set_143 rfl (lv_at hl 4 rfl) ?_
            obtain ⟨r24, σ25, eσ25, hs⟩ := sp_bind hs
            refine sv_goV (σ' := σ25) (r := r24) hW F.2.2.2.1 (sv_runT F hW (k_X7_put hB (sv_oA_of (sx_i 6 hB (by decide)) (sx_c6 hB)) eσ25 H.size) gX7_set_X7_put rfl ⟨rfl, rfl⟩ 3 (by decide +kernel) (sv_room2 (by omega) (by omega)) rfl hl.1 rfl (Nat.le_of_ble_eq_true rfl) dX7_set_144 ⟨Nat.zero_le _, Nat.zero_le _⟩) (fun H locs hW => ?_)
            refine lv_iload hx hb dX7_set_147 (lv_at hl 0 rfl) ?_
            cases hs
            exact sv_iret hx hb hr rfl hlk hW dX7_set_149
          · replace hs := (sp_ite hs).1 c10
            refine lv_bipush (v := -2) hx hb dX7_set_43 (by decide) ?_
            cases hs
            exact sv_iret hx hb hr rfl hlk hW dX7_set_45
        · replace hs := (sp_ite hs).2 c7
          refine lv_bipush (v := -2) hx hb dX7_set_25 (by decide) ?_
          cases hs
          exact sv_iret hx hb hr rfl hlk hW dX7_set_27
set_option maxRecDepth 100000 in
set_option maxHeartbeats 4000000 in
theorem k_X7_bargain {qK qV : Nat → Nat} {l : Launch} {D : va_G} {T : Nat → ClassId} {h : Nat → Nat} {θ : sv_T} {a1 : Int32} {a2 : Int32} {a3 : Int32} {σ : sv_S} {r : Int32} {σ' : sv_S} (hB : sx_base θ)  (hs : q_X7_bargain θ a1 a2 a3 σ = some (r, σ')) : sv_Mi (sx_X qK qV) l D T (sx_tys T) h θ yX7_bargain wsX7_bargain (sv_rm 2 45) [.ref (h 0), .int a1, .int a2, .int a3] σ r σ' := by
  intro sz
  refine sv_enter (cc := cX7_bargain) (maxL := 4) (ret := (some .int)) (Qc := fun A => va_Qi (fun r2 (_ : Unit) => r2 = r) (fun _ t => va_P D vwCl (sv_ws T h θ σ') t.heap) A) sx_XP (by decide) rfl (Nat.le_of_ble_eq_true rfl) ?_
  intro p e s m args below meth c A F hr hlk ls H hl hW
  have hx := F.1.1
  have hb := F.1.2.1
  have hts := F.1.2.2.2.2
  have hown := F.1.2.2.2.1
  have hK := F.2.1
  obtain ⟨locs, hlocs⟩ : ∃ z : List Loc, z = [] := ⟨_, rfl⟩
  rw [← hlocs] at hW ⊢
  have hl : lv_has ls 4 [(0, .ref (h 0)), (1, .int a1), (2, .int a2), (3, .int a3)] := hl
  unfold q_X7_bargain at hs
  refine lv_iload_n hx hb dX7_bargain_0 rfl (lv_at hl 1 rfl) ?_
  refine lv_if_lt (tgt := 29) hx hb dX7_bargain_1 (by decide) (fun c1 => ?_) (fun c1 => ?_)
  · replace hs := (sp_ite hs).1 c1
    refine lv_bipush (v := -2) hx hb dX7_bargain_29 (by decide) ?_
    cases hs
    exact sv_iret hx hb hr rfl hlk hW dX7_bargain_31
  · replace hs := (sp_ite hs).2 c1
    refine lv_iload_n hx hb dX7_bargain_4 rfl (lv_at hl 1 rfl) ?_
    refine lv_bipush (v := 6) hx hb dX7_bargain_5 (by decide) ?_
    refine lv_icmp_ge (tgt := 29) hx hb dX7_bargain_7 (by decide) (fun c2 => ?_) (fun c2 => ?_)
    · replace hs := (sp_ite hs).1 c2
      refine lv_bipush (v := -2) hx hb dX7_bargain_29 (by decide) ?_
      cases hs
      exact sv_iret hx hb hr rfl hlk hW dX7_bargain_31
    · replace hs := (sp_ite hs).2 c2
      refine lv_iload_n hx hb dX7_bargain_10 rfl (lv_at hl 2 rfl) ?_
      refine lv_if_lt (tgt := 29) hx hb dX7_bargain_11 (by decide) (fun c3 => ?_) (fun c3 => ?_)
      · replace hs := (sp_ite hs).1 c3
        refine lv_bipush (v := -2) hx hb dX7_bargain_29 (by decide) ?_
        cases hs
        exact sv_iret hx hb hr rfl hlk hW dX7_bargain_31
      · replace hs := (sp_ite hs).2 c3
        refine lv_iload_n hx hb dX7_bargain_14 rfl (lv_at hl 2 rfl) ?_
        refine lv_bipush (v := 10) hx hb dX7_bargain_15 (by decide) ?_
        refine lv_icmp_ge (tgt := 29) hx hb dX7_bargain_17 (by decide) (fun c4 => ?_) (fun c4 => ?_)
        · replace hs := (sp_ite hs).1 c4
          refine lv_bipush (v := -2) hx hb dX7_bargain_29 (by decide) ?_
          cases hs
          exact sv_iret hx hb hr rfl hlk hW dX7_bargain_31
        · replace hs := (sp_ite hs).2 c4
          refine lv_iload_n hx hb dX7_bargain_20 rfl (lv_at hl 3 rfl) ?_
          refine lv_if_lt (tgt := 29) hx hb dX7_bargain_21 (by decide) (fun c5 => ?_) (fun c5 => ?_)
          · replace hs := (sp_ite hs).1 c5
            refine lv_bipush (v := -2) hx hb dX7_bargain_29 (by decide) ?_
            cases hs
            exact sv_iret hx hb hr rfl hlk hW dX7_bargain_31
          · replace hs := (sp_ite hs).2 c5
            refine lv_iload_n hx hb dX7_bargain_24 rfl (lv_at hl 3 rfl) ?_
            refine lv_iconst (v := 2) hx hb dX7_bargain_25 (by decide) ?_
            refine lv_icmp_lt (tgt := 32) hx hb dX7_bargain_26 (by decide) (fun c6 => ?_) (fun c6 => ?_)
            · replace hs := (sp_ite hs).1 c6
              refine lv_aload_n hx hb dX7_bargain_32 rfl (lv_at hl 0 rfl) ?_
              refine sv_get (own := RX7) (C := RX7) (Tf := TX7) (N := 10) (index := 10) (κ := (3, 1)) (v := .ref (h 1)) hx hb hts hown hK hW (fun _ h => List.mem_cons_of_mem _ (List.mem_append_left _ (List.mem_append_right _ h))) (sx_i 0 hB (by decide)) (sx_c0 hB) rfl 0 (by decide) rfl rfl (List.mem_of_getElem? (i := 1) rfl) dX7_bargain_33 ?_
              refine lv_iload_n hx hb dX7_bargain_36 rfl (lv_at hl 1 rfl) ?_
              refine lv_iload_n hx hb dX7_bargain_37 rfl (lv_at hl 2 rfl) ?_
              refine lv_iload_n hx hb dX7_bargain_38 rfl (lv_at hl 3 rfl) ?_
              obtain ⟨r7, σ8, eσ8, hs⟩ := sp_bind hs
              refine sv_goI (σ' := σ8) (r := r7) hW F.2.2.2.1 (sv_runV (C := RX2) F hW (k_X2_add hB eσ8 H.size) gX7_bargain_X2_add rfl ⟨rfl, rfl⟩ 3 (by decide +kernel) (sv_room2 (by omega) (by omega)) (sx_i 1 hB (by decide)) (sx_c1 hB) rfl rfl hl.1 rfl (Nat.le_of_ble_eq_true rfl) dX7_bargain_39 ⟨Nat.zero_le _, Nat.zero_le _⟩) (fun H locs hW => ?_)
              refine lv_if_eq (tgt := 57) hx hb dX7_bargain_42 (by decide) (fun c9 => ?_) (fun c9 => ?_)
              · replace hs := (sp_ite hs).1 c9
                refine lv_bipush (v := -4) hx hb dX7_bargain_57 (by decide) ?_
                cases hs
                exact sv_iret hx hb hr rfl hlk hW dX7_bargain_59
              · replace hs := (sp_ite hs).2 c9
                refine lv_aload_n hx hb dX7_bargain_45 rfl (lv_at hl 0 rfl) ?_
                refine sv_get (own := RX7) (C := RX7) (Tf := TX7) (N := 10) (index := 10) (κ := (3, 1)) (v := .ref (h 1)) hx hb hts hown hK hW (fun _ h => List.mem_cons_of_mem _ (List.mem_append_left _ (List.mem_append_right _ h))) (sx_i 0 hB (by decide)) (sx_c0 hB) rfl 0 (by decide) rfl rfl (List.mem_of_getElem? (i := 1) rfl) dX7_bargain_46 ?_
                refine sv_get (own := RX7) (C := RX2) (Tf := TX2) (N := 8) (index := 123) (κ := (0, 0)) (v := .int (σ8.1 1 6)) hx hb hts hown hK hW (fun _ h => List.mem_cons_of_mem _ (List.mem_append_right _ h)) (sx_i 1 hB (by decide)) (sx_c1 hB) rfl 6 (by decide) rfl rfl (List.mem_of_getElem? (i := 2) rfl) dX7_bargain_49 ?_
                refine lv_iconst (v := 1) hx hb dX7_bargain_52 (by decide) ?_
                refine lv_isub hx hb dX7_bargain_53 ?_
                refine lv_goto (tgt := 59) hx hb dX7_bargain_54 (by decide) ?_
                cases hs
                exact sv_iret hx hb hr rfl hlk hW dX7_bargain_59
            · replace hs := (sp_ite hs).2 c6
              refine lv_bipush (v := -2) hx hb dX7_bargain_29 (by decide) ?_
              cases hs
              exact sv_iret hx hb hr rfl hlk hW dX7_bargain_31
set_option maxRecDepth 100000 in
set_option maxHeartbeats 4000000 in
theorem k_X7_asks {qK qV : Nat → Nat} {l : Launch} {D : va_G} {T : Nat → ClassId} {h : Nat → Nat} {θ : sv_T} {a1 : Int32} {a2 : Int32} {a3 : Int32} {σ : sv_S} {r : Int32} {σ' : sv_S} (hB : sx_base θ)  (hs : q_X7_asks θ a1 a2 a3 σ = some (r, σ')) : sv_Mi (sx_X qK qV) l D T (sx_tys T) h θ yX7_asks wsX7_asks (sv_rm 5 114) [.ref (h 0), .int a1, .int a2, .int a3] σ r σ' := by
  intro sz
  refine sv_enter (cc := cX7_asks) (maxL := 4) (ret := (some .int)) (Qc := fun A => va_Qi (fun r2 (_ : Unit) => r2 = r) (fun _ t => va_P D vwCl (sv_ws T h θ σ') t.heap) A) sx_XP (by decide) rfl (Nat.le_of_ble_eq_true rfl) ?_
  intro p e s m args below meth c A F hr hlk ls H hl hW
  have hx := F.1.1
  have hb := F.1.2.1
  have hts := F.1.2.2.2.2
  have hown := F.1.2.2.2.1
  have hK := F.2.1
  obtain ⟨locs, hlocs⟩ : ∃ z : List Loc, z = [] := ⟨_, rfl⟩
  rw [← hlocs] at hW ⊢
  have hl : lv_has ls 4 [(0, .ref (h 0)), (1, .int a1), (2, .int a2), (3, .int a3)] := hl
  unfold q_X7_asks at hs
  refine lv_aload_n hx hb dX7_asks_0 rfl (lv_at hl 0 rfl) ?_
  refine sv_get (own := RX7) (C := RX7) (Tf := TX7) (N := 10) (index := 10) (κ := (3, 1)) (v := .ref (h 1)) hx hb hts hown hK hW (fun _ h => List.mem_cons_of_mem _ (List.mem_append_left _ (List.mem_append_left _ (List.mem_append_left _ (List.mem_append_right _ h))))) (sx_i 0 hB (by decide)) (sx_c0 hB) rfl 0 (by decide) rfl rfl (List.mem_of_getElem? (i := 1) rfl) dX7_asks_1 ?_
  refine lv_iload_n hx hb dX7_asks_4 rfl (lv_at hl 1 rfl) ?_
  obtain ⟨r1, σ2, eσ2, hs⟩ := sp_bind hs
  refine sv_goI (σ' := σ2) (r := r1) hW F.2.2.2.1 (sv_runV (C := RX2) F hW (k_X2_has hB eσ2 H.size) gX7_asks_X2_has rfl ⟨rfl, rfl⟩ 1 (by decide +kernel) (sv_room2 (by omega) (by omega)) (sx_i 1 hB (by decide)) (sx_c1 hB) rfl rfl hl.1 rfl (Nat.le_of_ble_eq_true rfl) dX7_asks_5 ⟨Nat.zero_le _, Nat.zero_le _⟩) (fun H locs hW => ?_)
  refine lv_if_eq (tgt := 30) hx hb dX7_asks_8 (by decide) (fun c3 => ?_) (fun c3 => ?_)
  · replace hs := (sp_ite hs).1 c3
    refine lv_bipush (v := -2) hx hb dX7_asks_30 (by decide) ?_
    cases hs
    exact sv_iret hx hb hr rfl hlk hW dX7_asks_32
  · replace hs := (sp_ite hs).2 c3
    refine lv_iload_n hx hb dX7_asks_11 rfl (lv_at hl 2 rfl) ?_
    refine lv_if_lt (tgt := 30) hx hb dX7_asks_12 (by decide) (fun c4 => ?_) (fun c4 => ?_)
    · replace hs := (sp_ite hs).1 c4
      refine lv_bipush (v := -2) hx hb dX7_asks_30 (by decide) ?_
      cases hs
      exact sv_iret hx hb hr rfl hlk hW dX7_asks_32
    · replace hs := (sp_ite hs).2 c4
      refine lv_iload_n hx hb dX7_asks_15 rfl (lv_at hl 2 rfl) ?_
      refine lv_bipush (v := 24) hx hb dX7_asks_16 (by decide) ?_
      refine lv_icmp_ge (tgt := 30) hx hb dX7_asks_18 (by decide) (fun c5 => ?_) (fun c5 => ?_)
      · replace hs := (sp_ite hs).1 c5
        refine lv_bipush (v := -2) hx hb dX7_asks_30 (by decide) ?_
        cases hs
        exact sv_iret hx hb hr rfl hlk hW dX7_asks_32
      · replace hs := (sp_ite hs).2 c5
        refine lv_iload_n hx hb dX7_asks_21 rfl (lv_at hl 3 rfl) ?_
        refine lv_if_lt (tgt := 30) hx hb dX7_asks_22 (by decide) (fun c6 => ?_) (fun c6 => ?_)
        · replace hs := (sp_ite hs).1 c6
          refine lv_bipush (v := -2) hx hb dX7_asks_30 (by decide) ?_
          cases hs
          exact sv_iret hx hb hr rfl hlk hW dX7_asks_32
        · replace hs := (sp_ite hs).2 c6
          refine lv_iload_n hx hb dX7_asks_25 rfl (lv_at hl 3 rfl) ?_
          refine lv_iconst (v := 4) hx hb dX7_asks_26 (by decide) ?_
          refine lv_icmp_le (tgt := 33) hx hb dX7_asks_27 (by decide) (fun c7 => ?_) (fun c7 => ?_)
          · replace hs := (sp_ite hs).1 c7
            refine lv_aload_n hx hb dX7_asks_33 rfl (lv_at hl 0 rfl) ?_
            refine sv_get (own := RX7) (C := RX7) (Tf := TX7) (N := 10) (index := 41) (κ := (3, 22)) (v := .ref (h 22)) hx hb hts hown hK hW (fun _ h => List.mem_cons_of_mem _ (List.mem_append_left _ (List.mem_append_left _ (List.mem_append_left _ (List.mem_append_right _ h))))) (sx_i 0 hB (by decide)) (sx_c0 hB) rfl 7 (by decide) rfl rfl (List.mem_of_getElem? (i := 2) rfl) dX7_asks_34 ?_
            refine lv_aload_n hx hb dX7_asks_37 rfl (lv_at hl 0 rfl) ?_
            refine sv_get (own := RX7) (C := RX7) (Tf := TX7) (N := 10) (index := 10) (κ := (3, 1)) (v := .ref (h 1)) hx hb hts hown hK hW (fun _ h => List.mem_cons_of_mem _ (List.mem_append_left _ (List.mem_append_left _ (List.mem_append_left _ (List.mem_append_right _ h))))) (sx_i 0 hB (by decide)) (sx_c0 hB) rfl 0 (by decide) rfl rfl (List.mem_of_getElem? (i := 1) rfl) dX7_asks_38 ?_
            refine lv_iload_n hx hb dX7_asks_41 rfl (lv_at hl 1 rfl) ?_
            refine lv_aload_n hx hb dX7_asks_42 rfl (lv_at hl 0 rfl) ?_
            refine sv_get (own := RX7) (C := RX7) (Tf := TX7) (N := 10) (index := 10) (κ := (3, 1)) (v := .ref (h 1)) hx hb hts hown hK hW (fun _ h => List.mem_cons_of_mem _ (List.mem_append_left _ (List.mem_append_left _ (List.mem_append_left _ (List.mem_append_right _ h))))) (sx_i 0 hB (by decide)) (sx_c0 hB) rfl 0 (by decide) rfl rfl (List.mem_of_getElem? (i := 1) rfl) dX7_asks_43 ?_
            obtain ⟨r8, σ9, eσ9, hs⟩ := sp_bind hs
            refine sv_goI (σ' := σ9) (r := r8) hW F.2.2.2.1 (sv_runV (C := RX2) F hW (k_X2_shakenCount hB eσ9 H.size) gX7_asks_X2_shakenCount rfl ⟨rfl, rfl⟩ 0 (by decide +kernel) (sv_room2 (by omega) (by omega)) (sx_i 1 hB (by decide)) (sx_c1 hB) rfl rfl hl.1 rfl (Nat.le_of_ble_eq_true rfl) dX7_asks_46 ⟨Nat.zero_le _, Nat.zero_le _⟩) (fun H locs hW => ?_)
            obtain ⟨r10, σ11, eσ11, hs⟩ := sp_bind hs
            refine sv_goV (σ' := σ11) (r := r10) hW F.2.2.2.1 (sv_runV (C := RX0) F hW (k_X0_regard hB (sx_o22 hB) eσ11 H.size) gX7_asks_X0_regard rfl ⟨rfl, rfl⟩ 3 (by decide +kernel) (sv_room2 (by omega) (by omega)) (sx_i 22 hB (by decide)) (sx_c22 hB) rfl rfl hl.1 rfl (Nat.le_of_ble_eq_true rfl) dX7_asks_49 ⟨Nat.zero_le _, Nat.zero_le _⟩) (fun H locs hW => ?_)
            refine lv_aload_n hx hb dX7_asks_52 rfl (lv_at hl 0 rfl) ?_
            refine sv_get (own := RX7) (C := RX7) (Tf := TX7) (N := 10) (index := 41) (κ := (3, 22)) (v := .ref (h 22)) hx hb hts hown hK hW (fun _ h => List.mem_cons_of_mem _ (List.mem_append_left _ (List.mem_append_left _ (List.mem_append_left _ (List.mem_append_right _ h))))) (sx_i 0 hB (by decide)) (sx_c0 hB) rfl 7 (by decide) rfl rfl (List.mem_of_getElem? (i := 2) rfl) dX7_asks_53 ?_
            refine lv_aload_n hx hb dX7_asks_56 rfl (lv_at hl 0 rfl) ?_
            refine sv_get (own := RX7) (C := RX7) (Tf := TX7) (N := 10) (index := 10) (κ := (3, 1)) (v := .ref (h 1)) hx hb hts hown hK hW (fun _ h => List.mem_cons_of_mem _ (List.mem_append_left _ (List.mem_append_left _ (List.mem_append_left _ (List.mem_append_right _ h))))) (sx_i 0 hB (by decide)) (sx_c0 hB) rfl 0 (by decide) rfl rfl (List.mem_of_getElem? (i := 1) rfl) dX7_asks_57 ?_
            refine sv_get (own := RX7) (C := RX2) (Tf := TX2) (N := 8) (index := 99) (κ := (3, 1)) (v := .ref (h 2)) hx hb hts hown hK hW (fun _ h => List.mem_cons_of_mem _ (List.mem_append_left _ (List.mem_append_left _ (List.mem_append_right _ h)))) (sx_i 1 hB (by decide)) (sx_c1 hB) rfl 0 (by decide) rfl rfl (List.mem_of_getElem? (i := 3) rfl) dX7_asks_60 ?_
            refine lv_iload_n hx hb dX7_asks_63 rfl (lv_at hl 2 rfl) ?_
            obtain ⟨r12, σ13, eσ13, hs⟩ := sp_bind hs
            refine sv_goV (σ' := σ13) (r := r12) hW F.2.2.2.1 (sv_runV (C := RX0) F hW (k_X0_see hB (sx_o22 hB) (sv_oA_of (sx_i 2 hB (by decide)) (sx_c2 hB)) eσ13 H.size) gX7_asks_X0_see rfl ⟨rfl, rfl⟩ 2 (by decide +kernel) (sv_room2 (by omega) (by omega)) (sx_i 22 hB (by decide)) (sx_c22 hB) rfl rfl hl.1 rfl (Nat.le_of_ble_eq_true rfl) dX7_asks_64 ⟨Nat.zero_le _, Nat.zero_le _⟩) (fun H locs hW => ?_)
            refine lv_iload_n hx hb dX7_asks_67 rfl (lv_at hl 3 rfl) ?_
            by_cases c14 : a3 = 0
            · replace hs := (sp_ite hs).1 c14
              refine lv_tableIn (off := 32) (tgt := 100) hx hb dX7_asks_68 (by rw [c14]; decide) (by rw [c14]; decide) (by rw [c14]; decide) (by decide) ?_
              refine lv_aload_n hx hb dX7_asks_100 rfl (lv_at hl 0 rfl) ?_
              refine sv_get (own := RX7) (C := RX7) (Tf := TX7) (N := 10) (index := 41) (κ := (3, 22)) (v := .ref (h 22)) hx hb hts hown hK hW (fun _ h => List.mem_cons_of_mem _ (List.mem_append_left _ (List.mem_append_left _ (List.mem_append_left _ (List.mem_append_right _ h))))) (sx_i 0 hB (by decide)) (sx_c0 hB) rfl 7 (by decide) rfl rfl (List.mem_of_getElem? (i := 2) rfl) dX7_asks_101 ?_
              obtain ⟨r15, σ16, eσ16, hs⟩ := sp_bind hs
              refine sv_goI (σ' := σ16) (r := r15) hW F.2.2.2.1 (sv_runV (C := RX0) F hW (k_X0_needs hB (sx_o22 hB) eσ16 H.size) gX7_asks_X0_needs rfl ⟨rfl, rfl⟩ 0 (by decide +kernel) (sv_room2 (by omega) (by omega)) (sx_i 22 hB (by decide)) (sx_c22 hB) rfl rfl hl.1 rfl (Nat.le_of_ble_eq_true rfl) dX7_asks_104 ⟨Nat.zero_le _, Nat.zero_le _⟩) (fun H locs hW => ?_)
              cases hs
              exact sv_iret hx hb hr rfl hlk hW dX7_asks_107
            replace hs := (sp_ite hs).2 c14
            by_cases c17 : a3 = 1
            · replace hs := (sp_ite hs).1 c17
              refine lv_tableIn (off := 40) (tgt := 108) hx hb dX7_asks_68 (by rw [c17]; decide) (by rw [c17]; decide) (by rw [c17]; decide) (by decide) ?_
              refine lv_aload_n hx hb dX7_asks_108 rfl (lv_at hl 0 rfl) ?_
              refine sv_get (own := RX7) (C := RX7) (Tf := TX7) (N := 10) (index := 41) (κ := (3, 22)) (v := .ref (h 22)) hx hb hts hown hK hW (fun _ h => List.mem_cons_of_mem _ (List.mem_append_left _ (List.mem_append_left _ (List.mem_append_left _ (List.mem_append_right _ h))))) (sx_i 0 hB (by decide)) (sx_c0 hB) rfl 7 (by decide) rfl rfl (List.mem_of_getElem? (i := 2) rfl) dX7_asks_109 ?_
              obtain ⟨r18, σ19, eσ19, hs⟩ := sp_bind hs
              refine sv_goI (σ' := σ19) (r := r18) hW F.2.2.2.1 (sv_runV (C := RX0) F hW (k_X0_takes hB (sx_o22 hB) eσ19 H.size) gX7_asks_X0_takes rfl ⟨rfl, rfl⟩ 0 (by decide +kernel) (sv_room2 (by omega) (by omega)) (sx_i 22 hB (by decide)) (sx_c22 hB) rfl rfl hl.1 rfl (Nat.le_of_ble_eq_true rfl) dX7_asks_112 ⟨Nat.zero_le _, Nat.zero_le _⟩) (fun H locs hW => ?_)
              cases hs
              exact sv_iret hx hb hr rfl hlk hW dX7_asks_115
            replace hs := (sp_ite hs).2 c17
            by_cases c20 : a3 = 2
            · replace hs := (sp_ite hs).1 c20
              refine lv_tableIn (off := 48) (tgt := 116) hx hb dX7_asks_68 (by rw [c20]; decide) (by rw [c20]; decide) (by rw [c20]; decide) (by decide) ?_
              refine lv_aload_n hx hb dX7_asks_116 rfl (lv_at hl 0 rfl) ?_
              refine sv_get (own := RX7) (C := RX7) (Tf := TX7) (N := 10) (index := 41) (κ := (3, 22)) (v := .ref (h 22)) hx hb hts hown hK hW (fun _ h => List.mem_cons_of_mem _ (List.mem_append_left _ (List.mem_append_left _ (List.mem_append_left _ (List.mem_append_right _ h))))) (sx_i 0 hB (by decide)) (sx_c0 hB) rfl 7 (by decide) rfl rfl (List.mem_of_getElem? (i := 2) rfl) dX7_asks_117 ?_
              refine lv_aload_n hx hb dX7_asks_120 rfl (lv_at hl 0 rfl) ?_
              refine sv_get (own := RX7) (C := RX7) (Tf := TX7) (N := 10) (index := 10) (κ := (3, 1)) (v := .ref (h 1)) hx hb hts hown hK hW (fun _ h => List.mem_cons_of_mem _ (List.mem_append_left _ (List.mem_append_left _ (List.mem_append_left _ (List.mem_append_right _ h))))) (sx_i 0 hB (by decide)) (sx_c0 hB) rfl 0 (by decide) rfl rfl (List.mem_of_getElem? (i := 1) rfl) dX7_asks_121 ?_
              refine sv_get (own := RX7) (C := RX2) (Tf := TX2) (N := 8) (index := 99) (κ := (3, 1)) (v := .ref (h 2)) hx hb hts hown hK hW (fun _ h => List.mem_cons_of_mem _ (List.mem_append_left _ (List.mem_append_left _ (List.mem_append_right _ h)))) (sx_i 1 hB (by decide)) (sx_c1 hB) rfl 0 (by decide) rfl rfl (List.mem_of_getElem? (i := 3) rfl) dX7_asks_124 ?_
              refine lv_iload_n hx hb dX7_asks_127 rfl (lv_at hl 2 rfl) ?_
              obtain ⟨r21, σ22, eσ22, hs⟩ := sp_bind hs
              refine sv_goI (σ' := σ22) (r := r21) hW F.2.2.2.1 (sv_runV (C := RX0) F hW (k_X0_lastHour hB (sx_o22 hB) (sv_oA_of (sx_i 2 hB (by decide)) (sx_c2 hB)) eσ22 H.size) gX7_asks_X0_lastHour rfl ⟨rfl, rfl⟩ 2 (by decide +kernel) (sv_room2 (by omega) (by omega)) (sx_i 22 hB (by decide)) (sx_c22 hB) rfl rfl hl.1 rfl (Nat.le_of_ble_eq_true rfl) dX7_asks_128 ⟨Nat.zero_le _, Nat.zero_le _⟩) (fun H locs hW => ?_)
              refine lv_iconst (v := -1) hx hb dX7_asks_131 (by decide) ?_
              refine lv_icmp_ne (tgt := 139) hx hb dX7_asks_132 (by decide) (fun c23 => ?_) (fun c23 => ?_)
              · replace hs := (sp_ite hs).2 c23
                refine lv_iconst (v := 1) hx hb dX7_asks_139 (by decide) ?_
                cases hs
                exact sv_iret hx hb hr rfl hlk hW dX7_asks_140
              · replace hs := (sp_ite hs).1 c23
                refine lv_iconst (v := 0) hx hb dX7_asks_135 (by decide) ?_
                refine lv_goto (tgt := 140) hx hb dX7_asks_136 (by decide) ?_
                cases hs
                exact sv_iret hx hb hr rfl hlk hW dX7_asks_140
            replace hs := (sp_ite hs).2 c20
            by_cases c24 : a3 = 3
            · replace hs := (sp_ite hs).1 c24
              refine lv_tableIn (off := 73) (tgt := 141) hx hb dX7_asks_68 (by rw [c24]; decide) (by rw [c24]; decide) (by rw [c24]; decide) (by decide) ?_
              refine lv_aload_n hx hb dX7_asks_141 rfl (lv_at hl 0 rfl) ?_
              refine sv_get (own := RX7) (C := RX7) (Tf := TX7) (N := 10) (index := 41) (κ := (3, 22)) (v := .ref (h 22)) hx hb hts hown hK hW (fun _ h => List.mem_cons_of_mem _ (List.mem_append_left _ (List.mem_append_left _ (List.mem_append_left _ (List.mem_append_right _ h))))) (sx_i 0 hB (by decide)) (sx_c0 hB) rfl 7 (by decide) rfl rfl (List.mem_of_getElem? (i := 2) rfl) dX7_asks_142 ?_
              obtain ⟨r25, σ26, eσ26, hs⟩ := sp_bind hs
              refine sv_goI (σ' := σ26) (r := r25) hW F.2.2.2.1 (sv_runV (C := RX0) F hW (k_X0_worth hB (sx_o22 hB) eσ26 H.size) gX7_asks_X0_worth rfl ⟨rfl, rfl⟩ 0 (by decide +kernel) (sv_room2 (by omega) (by omega)) (sx_i 22 hB (by decide)) (sx_c22 hB) rfl rfl hl.1 rfl (Nat.le_of_ble_eq_true rfl) dX7_asks_145 ⟨Nat.zero_le _, Nat.zero_le _⟩) (fun H locs hW => ?_)
              cases hs
              exact sv_iret hx hb hr rfl hlk hW dX7_asks_148
            replace hs := (sp_ite hs).2 c24
            refine lv_tableOut (tgt := 149) hx hb dX7_asks_68 (by have := lv_neT (k := 0) (a := 0) c14 (by decide); have := lv_neT (k := 1) (a := 1) c17 (by decide); have := lv_neT (k := 2) (a := 2) c20 (by decide); have := lv_neT (k := 3) (a := 3) c24 (by decide); omega) (by decide) ?_
            refine lv_aload_n hx hb dX7_asks_149 rfl (lv_at hl 0 rfl) ?_
            refine sv_get (own := RX7) (C := RX7) (Tf := TX7) (N := 10) (index := 41) (κ := (3, 22)) (v := .ref (h 22)) hx hb hts hown hK hW (fun _ h => List.mem_cons_of_mem _ (List.mem_append_left _ (List.mem_append_left _ (List.mem_append_left _ (List.mem_append_right _ h))))) (sx_i 0 hB (by decide)) (sx_c0 hB) rfl 7 (by decide) rfl rfl (List.mem_of_getElem? (i := 2) rfl) dX7_asks_150 ?_
            refine lv_aload_n hx hb dX7_asks_153 rfl (lv_at hl 0 rfl) ?_
            refine sv_get (own := RX7) (C := RX7) (Tf := TX7) (N := 10) (index := 10) (κ := (3, 1)) (v := .ref (h 1)) hx hb hts hown hK hW (fun _ h => List.mem_cons_of_mem _ (List.mem_append_left _ (List.mem_append_left _ (List.mem_append_left _ (List.mem_append_right _ h))))) (sx_i 0 hB (by decide)) (sx_c0 hB) rfl 0 (by decide) rfl rfl (List.mem_of_getElem? (i := 1) rfl) dX7_asks_154 ?_
            refine sv_get (own := RX7) (C := RX2) (Tf := TX2) (N := 8) (index := 99) (κ := (3, 1)) (v := .ref (h 2)) hx hb hts hown hK hW (fun _ h => List.mem_cons_of_mem _ (List.mem_append_left _ (List.mem_append_left _ (List.mem_append_right _ h)))) (sx_i 1 hB (by decide)) (sx_c1 hB) rfl 0 (by decide) rfl rfl (List.mem_of_getElem? (i := 3) rfl) dX7_asks_157 ?_
            refine lv_iload_n hx hb dX7_asks_160 rfl (lv_at hl 2 rfl) ?_
            obtain ⟨r27, σ28, eσ28, hs⟩ := sp_bind hs
            refine sv_goI (σ' := σ28) (r := r27) hW F.2.2.2.1 (sv_runV (C := RX0) F hW (k_X0_shakenHour hB (sx_o22 hB) (sv_oA_of (sx_i 2 hB (by decide)) (sx_c2 hB)) eσ28 H.size) gX7_asks_X0_shakenHour rfl ⟨rfl, rfl⟩ 2 (by decide +kernel) (sv_room2 (by omega) (by omega)) (sx_i 22 hB (by decide)) (sx_c22 hB) rfl rfl hl.1 rfl (Nat.le_of_ble_eq_true rfl) dX7_asks_161 ⟨Nat.zero_le _, Nat.zero_le _⟩) (fun H locs hW => ?_)
            cases hs
            exact sv_iret hx hb hr rfl hlk hW dX7_asks_164
          · replace hs := (sp_ite hs).2 c7
            refine lv_bipush (v := -2) hx hb dX7_asks_30 (by decide) ?_
            cases hs
            exact sv_iret hx hb hr rfl hlk hW dX7_asks_32
set_option maxRecDepth 100000 in
set_option maxHeartbeats 4000000 in
theorem k_X7_feed {qK qV : Nat → Nat} {l : Launch} {D : va_G} {T : Nat → ClassId} {h : Nat → Nat} {θ : sv_T} {a1 : Int32} {σ : sv_S} {r : Int32} {σ' : sv_S} (hB : sx_base θ)  (hs : q_X7_feed θ a1 σ = some (r, σ')) : sv_Mi (sx_X qK qV) l D T (sx_tys T) h θ yX7_feed wsX7_feed (sv_rm 2 43) [.ref (h 0), .int a1] σ r σ' := by
  intro sz
  refine sv_enter (cc := cX7_feed) (maxL := 2) (ret := (some .int)) (Qc := fun A => va_Qi (fun r2 (_ : Unit) => r2 = r) (fun _ t => va_P D vwCl (sv_ws T h θ σ') t.heap) A) sx_XP (by decide) rfl (Nat.le_of_ble_eq_true rfl) ?_
  intro p e s m args below meth c A F hr hlk ls H hl hW
  have hx := F.1.1
  have hb := F.1.2.1
  have hts := F.1.2.2.2.2
  have hown := F.1.2.2.2.1
  have hK := F.2.1
  obtain ⟨locs, hlocs⟩ : ∃ z : List Loc, z = [] := ⟨_, rfl⟩
  rw [← hlocs] at hW ⊢
  have hl : lv_has ls 2 [(0, .ref (h 0)), (1, .int a1)] := hl
  unfold q_X7_feed at hs
  refine lv_iload_n hx hb dX7_feed_0 rfl (lv_at hl 1 rfl) ?_
  refine lv_if_lt (tgt := 11) hx hb dX7_feed_1 (by decide) (fun c1 => ?_) (fun c1 => ?_)
  · replace hs := (sp_ite hs).1 c1
    refine lv_bipush (v := -2) hx hb dX7_feed_11 (by decide) ?_
    cases hs
    exact sv_iret hx hb hr rfl hlk hW dX7_feed_13
  · replace hs := (sp_ite hs).2 c1
    refine lv_iload_n hx hb dX7_feed_4 rfl (lv_at hl 1 rfl) ?_
    refine lv_sipush (v := 255) hx hb dX7_feed_5 (by decide) ?_
    refine lv_icmp_le (tgt := 14) hx hb dX7_feed_8 (by decide) (fun c2 => ?_) (fun c2 => ?_)
    · replace hs := (sp_ite hs).1 c2
      refine lv_aload_n hx hb dX7_feed_14 rfl (lv_at hl 0 rfl) ?_
      refine sv_get (own := RX7) (C := RX7) (Tf := TX7) (N := 10) (index := 22) (κ := (3, 13)) (v := .ref (h 13)) hx hb hts hown hK hW (fun _ h => List.mem_cons_of_mem _ (List.mem_append_left _ (List.mem_append_right _ h))) (sx_i 0 hB (by decide)) (sx_c0 hB) rfl 3 (by decide) rfl rfl (List.mem_of_getElem? (i := 1) rfl) dX7_feed_15 ?_
      refine lv_iload_n hx hb dX7_feed_18 rfl (lv_at hl 1 rfl) ?_
      obtain ⟨r3, σ4, eσ4, hs⟩ := sp_bind hs
      refine sv_goI (σ' := σ4) (r := r3) hW F.2.2.2.1 (sv_runV (C := RX4) F hW (k_X4_append hB eσ4 H.size) gX7_feed_X4_append rfl ⟨rfl, rfl⟩ 1 (by decide +kernel) (sv_room2 (by omega) (by omega)) (sx_i 13 hB (by decide)) (sx_c13 hB) rfl rfl hl.1 rfl (Nat.le_of_ble_eq_true rfl) dX7_feed_19 ⟨Nat.zero_le _, Nat.zero_le _⟩) (fun H locs hW => ?_)
      refine lv_if_eq (tgt := 35) hx hb dX7_feed_22 (by decide) (fun c5 => ?_) (fun c5 => ?_)
      · replace hs := (sp_ite hs).1 c5
        refine lv_bipush (v := -4) hx hb dX7_feed_35 (by decide) ?_
        cases hs
        exact sv_iret hx hb hr rfl hlk hW dX7_feed_37
      · replace hs := (sp_ite hs).2 c5
        refine lv_aload_n hx hb dX7_feed_25 rfl (lv_at hl 0 rfl) ?_
        refine sv_get (own := RX7) (C := RX7) (Tf := TX7) (N := 10) (index := 22) (κ := (3, 13)) (v := .ref (h 13)) hx hb hts hown hK hW (fun _ h => List.mem_cons_of_mem _ (List.mem_append_left _ (List.mem_append_right _ h))) (sx_i 0 hB (by decide)) (sx_c0 hB) rfl 3 (by decide) rfl rfl (List.mem_of_getElem? (i := 1) rfl) dX7_feed_26 ?_
        refine sv_get (own := RX7) (C := RX4) (Tf := TX4) (N := 11) (index := 162) (κ := (0, 0)) (v := .int (σ4.1 13 0)) hx hb hts hown hK hW (fun _ h => List.mem_cons_of_mem _ (List.mem_append_right _ h)) (sx_i 13 hB (by decide)) (sx_c13 hB) rfl 0 (by decide) rfl rfl (List.mem_of_getElem? (i := 2) rfl) dX7_feed_29 ?_
        refine lv_goto (tgt := 37) hx hb dX7_feed_32 (by decide) ?_
        cases hs
        exact sv_iret hx hb hr rfl hlk hW dX7_feed_37
    · replace hs := (sp_ite hs).2 c2
      refine lv_bipush (v := -2) hx hb dX7_feed_11 (by decide) ?_
      cases hs
      exact sv_iret hx hb hr rfl hlk hW dX7_feed_13
set_option maxRecDepth 100000 in
set_option maxHeartbeats 4000000 in
theorem k_X7_textAt {qK qV : Nat → Nat} {l : Launch} {D : va_G} {T : Nat → ClassId} {h : Nat → Nat} {θ : sv_T} {a1 : Int32} {σ : sv_S} {r : Option Nat} {σ' : sv_S} (hB : sx_base θ)  (hs : q_X7_textAt θ a1 σ = some (r, σ')) : sv_Mq (sx_X qK qV) l D T (sx_tys T) h θ yX7_textAt wsX7_textAt (sv_rm 0 0) [.ref (h 0), .int a1] σ r σ' := by
  intro sz
  refine sv_enter (cc := cX7_textAt) (maxL := 2) (ret := (some (.object "OpenWhileItRains$Text"))) (Qc := fun A => va_Qq (fun r2 (_ : Unit) => r2 = r.map h) (fun _ t => va_P D vwCl (sv_ws T h θ σ') t.heap) A) sx_XP (by decide) rfl (Nat.le_of_ble_eq_true rfl) ?_
  intro p e s m args below meth c A F hr hlk ls H hl hW
  have hx := F.1.1
  have hb := F.1.2.1
  have hts := F.1.2.2.2.2
  have hown := F.1.2.2.2.1
  have hK := F.2.1
  obtain ⟨locs, hlocs⟩ : ∃ z : List Loc, z = [] := ⟨_, rfl⟩
  rw [← hlocs] at hW ⊢
  have hl : lv_has ls 2 [(0, .ref (h 0)), (1, .int a1)] := hl
  unfold q_X7_textAt at hs
  refine lv_iload_n hx hb dX7_textAt_0 rfl (lv_at hl 1 rfl) ?_
  refine lv_if_lt (tgt := 30) hx hb dX7_textAt_1 (by decide) (fun c1 => ?_) (fun c1 => ?_)
  · replace hs := (sp_ite hs).1 c1
    refine lv_null hx hb dX7_textAt_30 ?_
    cases hs
    exact sv_aret (r := none) rfl hx hb hr hlk hW dX7_textAt_31
  · replace hs := (sp_ite hs).2 c1
    refine lv_iload_n hx hb dX7_textAt_4 rfl (lv_at hl 1 rfl) ?_
    refine lv_aload_n hx hb dX7_textAt_5 rfl (lv_at hl 0 rfl) ?_
    refine sv_get (own := RX7) (C := RX7) (Tf := TX7) (N := 10) (index := 163) (κ := (0, 0)) (v := .int (σ.1 0 5)) hx hb hts hown hK hW (fun _ h => List.mem_cons_of_mem _ (List.mem_append_right _ h)) (sx_i 0 hB (by decide)) (sx_c0 hB) rfl 5 (by decide) rfl rfl (List.mem_of_getElem? (i := 1) rfl) dX7_textAt_6 ?_
    refine lv_icmp_ge (tgt := 30) hx hb dX7_textAt_9 (by decide) (fun c2 => ?_) (fun c2 => ?_)
    · replace hs := (sp_ite hs).1 c2
      refine lv_null hx hb dX7_textAt_30 ?_
      cases hs
      exact sv_aret (r := none) rfl hx hb hr hlk hW dX7_textAt_31
    · replace hs := (sp_ite hs).2 c2
      refine lv_iload_n hx hb dX7_textAt_12 rfl (lv_at hl 1 rfl) ?_
      refine lv_aload_n hx hb dX7_textAt_13 rfl (lv_at hl 0 rfl) ?_
      refine sv_get (own := RX7) (C := RX7) (Tf := TX7) (N := 10) (index := 28) (κ := (3, 20)) (v := .ref (h 20)) hx hb hts hown hK hW (fun _ h => List.mem_cons_of_mem _ (List.mem_append_right _ h)) (sx_i 0 hB (by decide)) (sx_c0 hB) rfl 4 (by decide) rfl rfl (List.mem_of_getElem? (i := 2) rfl) dX7_textAt_14 ?_
      refine sv_alen (t := 2) (v := (6 : Int32)) hx hb hK hW (sx_i 20 hB (by decide)) (sx_c20 hB) 1 rfl rfl dX7_textAt_17 ?_
      refine lv_icmp_ge (tgt := 30) hx hb dX7_textAt_18 (by decide) (fun c3 => ?_) (fun c3 => ?_)
      · replace hs := (sp_ite hs).1 c3
        refine lv_null hx hb dX7_textAt_30 ?_
        cases hs
        exact sv_aret (r := none) rfl hx hb hr hlk hW dX7_textAt_31
      · replace hs := (sp_ite hs).2 c3
        refine lv_aload_n hx hb dX7_textAt_21 rfl (lv_at hl 0 rfl) ?_
        refine sv_get (own := RX7) (C := RX7) (Tf := TX7) (N := 10) (index := 28) (κ := (3, 20)) (v := .ref (h 20)) hx hb hts hown hK hW (fun _ h => List.mem_cons_of_mem _ (List.mem_append_right _ h)) (sx_i 0 hB (by decide)) (sx_c0 hB) rfl 4 (by decide) rfl rfl (List.mem_of_getElem? (i := 2) rfl) dX7_textAt_22 ?_
        refine lv_iload_n hx hb dX7_textAt_25 rfl (lv_at hl 1 rfl) ?_
        obtain ⟨hi4, hs⟩ := sp_g hs
        refine sv_aald (t := 0) hx hb hK hW (sx_i 20 hB (by decide)) (sx_c20 hB) 1 rfl hi4 dX7_textAt_26 ?_
        cases et5 : σ.2.2 20 a1.toNatClampNeg with
        | none =>
          replace hs := sp_on hs et5
          refine W.eq (g2 := F0 m 27 ls [.null]) rfl ?_
          refine lv_goto (tgt := 31) hx hb dX7_textAt_27 (by decide) ?_
          cases hs
          exact sv_aret (r := none) rfl hx hb hr hlk hW dX7_textAt_31
        | some t5 =>
          replace hs := sp_os hs et5
          obtain ⟨ht5, hs⟩ := sp_p hs
          refine W.eq (g2 := F0 m 27 ls [.ref (h t5)]) rfl ?_
          refine lv_goto (tgt := 31) hx hb dX7_textAt_27 (by decide) ?_
          cases hs
          exact sv_aret (r := some t5) rfl hx hb hr hlk hW dX7_textAt_31
set_option maxRecDepth 100000 in
set_option maxHeartbeats 4000000 in
theorem k_X7_ruleNumber {qK qV : Nat → Nat} {l : Launch} {D : va_G} {T : Nat → ClassId} {h : Nat → Nat} {θ : sv_T}  {σ : sv_S} {r : Int32} {σ' : sv_S} (hB : sx_base θ)  (hs : q_X7_ruleNumber θ  σ = some (r, σ')) : sv_Mi (sx_X qK qV) l D T (sx_tys T) h θ yX7_ruleNumber wsX7_ruleNumber (sv_rm 0 0) [.ref (h 0)] σ r σ' := by
  intro sz
  refine sv_enter (cc := cX7_ruleNumber) (maxL := 1) (ret := (some .int)) (Qc := fun A => va_Qi (fun r2 (_ : Unit) => r2 = r) (fun _ t => va_P D vwCl (sv_ws T h θ σ') t.heap) A) sx_XP (by decide) rfl (Nat.le_of_ble_eq_true rfl) ?_
  intro p e s m args below meth c A F hr hlk ls H hl hW
  have hx := F.1.1
  have hb := F.1.2.1
  have hts := F.1.2.2.2.2
  have hown := F.1.2.2.2.1
  have hK := F.2.1
  obtain ⟨locs, hlocs⟩ : ∃ z : List Loc, z = [] := ⟨_, rfl⟩
  rw [← hlocs] at hW ⊢
  have hl : lv_has ls 1 [(0, .ref (h 0))] := hl
  unfold q_X7_ruleNumber at hs
  refine lv_aload_n hx hb dX7_ruleNumber_0 rfl (lv_at hl 0 rfl) ?_
  refine sv_get (own := RX7) (C := RX7) (Tf := TX7) (N := 10) (index := 10) (κ := (3, 1)) (v := .ref (h 1)) hx hb hts hown hK hW (fun _ h => List.mem_cons_of_mem _ (List.mem_append_left _ (List.mem_append_left _ (List.mem_append_right _ h)))) (sx_i 0 hB (by decide)) (sx_c0 hB) rfl 0 (by decide) rfl rfl (List.mem_of_getElem? (i := 1) rfl) dX7_ruleNumber_1 ?_
  refine sv_get (own := RX7) (C := RX2) (Tf := TX2) (N := 8) (index := 84) (κ := (2, 0)) (v := va_rf ((σ.2.2 1 7).map h)) hx hb hts hown hK hW (fun _ h => List.mem_cons_of_mem _ (List.mem_append_left _ (List.mem_append_right _ h))) (sx_i 1 hB (by decide)) (sx_c1 hB) rfl 7 (by decide) rfl rfl (List.mem_of_getElem? (i := 2) rfl) dX7_ruleNumber_4 ?_
  cases et1 : σ.2.2 1 7 with
  | none =>
    replace hs := sp_on hs et1
    refine W.eq (g2 := F0 m 7 ls [.null]) rfl ?_
    refine lv_ifnonnullN hx hb dX7_ruleNumber_7 ?_
    refine lv_iconst (v := 0) hx hb dX7_ruleNumber_10 (by decide) ?_
    refine lv_goto (tgt := 24) hx hb dX7_ruleNumber_11 (by decide) ?_
    cases hs
    exact sv_iret hx hb hr rfl hlk hW dX7_ruleNumber_24
  | some t1 =>
    replace hs := sp_os hs et1
    obtain ⟨ht1, hs⟩ := sp_p hs
    refine W.eq (g2 := F0 m 7 ls [.ref (h t1)]) rfl ?_
    refine lv_ifnonnull (tgt := 14) hx hb dX7_ruleNumber_7 (by decide) ?_
    refine lv_aload_n hx hb dX7_ruleNumber_14 rfl (lv_at hl 0 rfl) ?_
    refine sv_get (own := RX7) (C := RX7) (Tf := TX7) (N := 10) (index := 10) (κ := (3, 1)) (v := .ref (h 1)) hx hb hts hown hK hW (fun _ h => List.mem_cons_of_mem _ (List.mem_append_left _ (List.mem_append_left _ (List.mem_append_right _ h)))) (sx_i 0 hB (by decide)) (sx_c0 hB) rfl 0 (by decide) rfl rfl (List.mem_of_getElem? (i := 1) rfl) dX7_ruleNumber_15 ?_
    refine sv_get (own := RX7) (C := RX2) (Tf := TX2) (N := 8) (index := 84) (κ := (2, 0)) (v := .ref (h t1)) hx hb hts hown hK hW (fun _ h => List.mem_cons_of_mem _ (List.mem_append_left _ (List.mem_append_right _ h))) (sx_i 1 hB (by decide)) (sx_c1 hB) rfl 7 (by decide) rfl (by show va_rf (Option.map h (σ.2.2 1 7)) = .ref (h t1); rw [et1]; rfl) (List.mem_of_getElem? (i := 2) rfl) dX7_ruleNumber_18 ?_
    refine sv_get (own := RX7) (C := RX6) (Tf := TX6) (N := 4) (index := 169) (κ := (0, 0)) (v := .int (σ.1 t1 0)) hx hb hts hown hK hW (fun _ h => List.mem_cons_of_mem _ (List.mem_append_right _ h)) ht1.1 ht1.2.1 rfl 0 (by decide) rfl rfl (List.mem_of_getElem? (i := 3) rfl) dX7_ruleNumber_21 ?_
    cases hs
    exact sv_iret hx hb hr rfl hlk hW dX7_ruleNumber_24
set_option maxRecDepth 100000 in
set_option maxHeartbeats 4000000 in
theorem k_X7_force {qK qV : Nat → Nat} {l : Launch} {D : va_G} {T : Nat → ClassId} {h : Nat → Nat} {θ : sv_T} {a1 : Int32} {σ : sv_S} {r : Int32} {σ' : sv_S} (hB : sx_base θ)  (hs : q_X7_force θ a1 σ = some (r, σ')) : sv_Mi (sx_X qK qV) l D T (sx_tys T) h θ yX7_force wsX7_force (sv_rm 1 21) [.ref (h 0), .int a1] σ r σ' := by
  intro sz
  refine sv_enter (cc := cX7_force) (maxL := 4) (ret := (some .int)) (Qc := fun A => va_Qi (fun r2 (_ : Unit) => r2 = r) (fun _ t => va_P D vwCl (sv_ws T h θ σ') t.heap) A) sx_XP (by decide) rfl (Nat.le_of_ble_eq_true rfl) ?_
  intro p e s m args below meth c A F hr hlk ls H hl hW
  have hx := F.1.1
  have hb := F.1.2.1
  have hts := F.1.2.2.2.2
  have hown := F.1.2.2.2.1
  have hK := F.2.1
  obtain ⟨locs, hlocs⟩ : ∃ z : List Loc, z = [] := ⟨_, rfl⟩
  rw [← hlocs] at hW ⊢
  have hl : lv_has ls 4 [(0, .ref (h 0)), (1, .int a1)] := hl
  unfold q_X7_force at hs
  refine lv_aload_n hx hb dX7_force_0 rfl (lv_at hl 0 rfl) ?_
  refine lv_iload_n hx hb dX7_force_1 rfl (lv_at hl 1 rfl) ?_
  obtain ⟨r1, σ2, eσ2, hs⟩ := sp_bind hs
  refine sv_goQ (σ' := σ2) (r := r1) hW F.2.2.2.1 (sv_runV (C := RX7) F hW (k_X7_textAt hB eσ2 H.size) gX7_force_X7_textAt rfl ⟨rfl, rfl⟩ 1 (by decide +kernel) (sv_room2 (by omega) (by omega)) (sx_i 0 hB (by decide)) (sx_c0 hB) rfl rfl hl.1 rfl (Nat.le_of_ble_eq_true rfl) dX7_force_2 ⟨Nat.zero_le _, Nat.zero_le _⟩) (fun H locs hW => ?_)
  cases et3 : r1 with
  | none =>
    replace hs := sp_on hs et3
    refine W.eq (g2 := F0 m 5 ls [.null]) rfl ?_
    refine lv_astore_nN (lv' := [(2, .null), (0, .ref (h 0)), (1, .int a1)]) hx hb dX7_force_5 rfl hl (by decide) rfl (fun ls hl => ?_)
    refine lv_aload_nN hx hb dX7_force_6 rfl (lv_at hl 0 rfl) ?_
    refine lv_ifnonnullN hx hb dX7_force_7 ?_
    refine lv_bipush (v := -2) hx hb dX7_force_10 (by decide) ?_
    cases hs
    exact sv_iret hx hb hr rfl hlk hW dX7_force_12
  | some t3 =>
    replace hs := sp_os hs et3
    obtain ⟨ht3, hs⟩ := sp_p hs
    refine W.eq (g2 := F0 m 5 ls [.ref (h t3)]) rfl ?_
    refine lv_astore_n (lv' := [(2, .ref (h t3)), (0, .ref (h 0)), (1, .int a1)]) hx hb dX7_force_5 rfl hl (by decide) rfl (fun ls hl => ?_)
    refine lv_aload_n hx hb dX7_force_6 rfl (lv_at hl 0 rfl) ?_
    refine lv_ifnonnull (tgt := 13) hx hb dX7_force_7 (by decide) ?_
    refine lv_aload_n hx hb dX7_force_13 rfl (lv_at hl 1 rfl) ?_
    obtain ⟨r4, σ5, eσ5, hs⟩ := sp_bind hs
    refine sv_goI (σ' := σ5) (r := r4) hW F.2.2.2.1 (sv_runV (C := RX7) F hW (k_X7_ruleNumber hB eσ5 H.size) gX7_force_X7_ruleNumber rfl ⟨rfl, rfl⟩ 0 (by decide +kernel) (sv_room2 (by omega) (by omega)) (sx_i 0 hB (by decide)) (sx_c0 hB) rfl rfl hl.1 rfl (Nat.le_of_ble_eq_true rfl) dX7_force_14 ⟨Nat.zero_le _, Nat.zero_le _⟩) (fun H locs hW => ?_)
    refine lv_istore_n (lv' := [(3, .int r4), (2, .ref (h t3)), (0, .ref (h 0)), (1, .int a1)]) hx hb dX7_force_17 rfl hl (by decide) rfl (fun ls hl => ?_)
    refine lv_aload_n hx hb dX7_force_18 rfl (lv_at hl 2 rfl) ?_
    refine sv_get (own := RX7) (C := RX7) (Tf := TX7) (N := 10) (index := 10) (κ := (3, 1)) (v := .ref (h 1)) hx hb hts hown hK hW (fun _ h => List.mem_cons_of_mem _ (List.mem_append_left _ (List.mem_append_left _ (List.mem_append_right _ h)))) (sx_i 0 hB (by decide)) (sx_c0 hB) rfl 0 (by decide) rfl rfl (List.mem_of_getElem? (i := 1) rfl) dX7_force_19 ?_
    refine lv_aload_n hx hb dX7_force_22 rfl (lv_at hl 1 rfl) ?_
    refine sv_putP (r := some t3) (hv := rfl) (own := RX7) (C := RX2) (Tf := TX2) (N := 8) (index := 84) hx hb hts hown hK hW (fun _ h => List.mem_cons_of_mem _ (List.mem_append_left _ (List.mem_append_right _ h))) tyX2 tyX2_ok nmX2 (sx_i 1 hB (by decide)) (sx_c1 hB) rfl 7 (by decide) rfl rfl (C2 := "OpenWhileItRains$Text") (by decide +kernel) (List.mem_of_getElem? (i := 2) rfl) dX7_force_23 (fun σ6 H locs eσ6 hW => ?_)
    replace hs := sp_let hs eσ6
    refine lv_iload_n hx hb dX7_force_26 rfl (lv_at hl 0 rfl) ?_
    cases hs
    exact sv_iret hx hb hr rfl hlk hW dX7_force_27
set_option maxRecDepth 100000 in
set_option maxHeartbeats 4000000 in
theorem k_X7_rowAt {qK qV : Nat → Nat} {l : Launch} {D : va_G} {T : Nat → ClassId} {h : Nat → Nat} {θ : sv_T} {a1 : Int32} {σ : sv_S} {r : Option Nat} {σ' : sv_S} (hB : sx_base θ)  (hs : q_X7_rowAt θ a1 σ = some (r, σ')) : sv_Mq (sx_X qK qV) l D T (sx_tys T) h θ yX7_rowAt wsX7_rowAt (sv_rm 0 0) [.ref (h 0), .int a1] σ r σ' := by
  intro sz
  refine sv_enter (cc := cX7_rowAt) (maxL := 2) (ret := (some (.object "OpenWhileItRains$Row"))) (Qc := fun A => va_Qq (fun r2 (_ : Unit) => r2 = r.map h) (fun _ t => va_P D vwCl (sv_ws T h θ σ') t.heap) A) sx_XP (by decide) rfl (Nat.le_of_ble_eq_true rfl) ?_
  intro p e s m args below meth c A F hr hlk ls H hl hW
  have hx := F.1.1
  have hb := F.1.2.1
  have hts := F.1.2.2.2.2
  have hown := F.1.2.2.2.1
  have hK := F.2.1
  obtain ⟨locs, hlocs⟩ : ∃ z : List Loc, z = [] := ⟨_, rfl⟩
  rw [← hlocs] at hW ⊢
  have hl : lv_has ls 2 [(0, .ref (h 0)), (1, .int a1)] := hl
  unfold q_X7_rowAt at hs
  refine lv_iload_n hx hb dX7_rowAt_0 rfl (lv_at hl 1 rfl) ?_
  refine lv_if_lt (tgt := 22) hx hb dX7_rowAt_1 (by decide) (fun c1 => ?_) (fun c1 => ?_)
  · replace hs := (sp_ite hs).1 c1
    refine lv_null hx hb dX7_rowAt_22 ?_
    cases hs
    exact sv_aret (r := none) rfl hx hb hr hlk hW dX7_rowAt_23
  · replace hs := (sp_ite hs).2 c1
    refine lv_iload_n hx hb dX7_rowAt_4 rfl (lv_at hl 1 rfl) ?_
    refine lv_aload_n hx hb dX7_rowAt_5 rfl (lv_at hl 0 rfl) ?_
    refine sv_get (own := RX7) (C := RX7) (Tf := TX7) (N := 10) (index := 34) (κ := (3, 21)) (v := .ref (h 21)) hx hb hts hown hK hW (fun _ h => List.mem_cons_of_mem _ (List.mem_append_right _ h)) (sx_i 0 hB (by decide)) (sx_c0 hB) rfl 6 (by decide) rfl rfl (List.mem_of_getElem? (i := 1) rfl) dX7_rowAt_6 ?_
    refine sv_alen (t := 3) (v := (4 : Int32)) hx hb hK hW (sx_i 21 hB (by decide)) (sx_c21 hB) 2 rfl rfl dX7_rowAt_9 ?_
    refine lv_icmp_ge (tgt := 22) hx hb dX7_rowAt_10 (by decide) (fun c2 => ?_) (fun c2 => ?_)
    · replace hs := (sp_ite hs).1 c2
      refine lv_null hx hb dX7_rowAt_22 ?_
      cases hs
      exact sv_aret (r := none) rfl hx hb hr hlk hW dX7_rowAt_23
    · replace hs := (sp_ite hs).2 c2
      refine lv_aload_n hx hb dX7_rowAt_13 rfl (lv_at hl 0 rfl) ?_
      refine sv_get (own := RX7) (C := RX7) (Tf := TX7) (N := 10) (index := 34) (κ := (3, 21)) (v := .ref (h 21)) hx hb hts hown hK hW (fun _ h => List.mem_cons_of_mem _ (List.mem_append_right _ h)) (sx_i 0 hB (by decide)) (sx_c0 hB) rfl 6 (by decide) rfl rfl (List.mem_of_getElem? (i := 1) rfl) dX7_rowAt_14 ?_
      refine lv_iload_n hx hb dX7_rowAt_17 rfl (lv_at hl 1 rfl) ?_
      obtain ⟨hi3, hs⟩ := sp_g hs
      refine sv_aald (t := 1) hx hb hK hW (sx_i 21 hB (by decide)) (sx_c21 hB) 2 rfl hi3 dX7_rowAt_18 ?_
      cases et4 : σ.2.2 21 a1.toNatClampNeg with
      | none =>
        replace hs := sp_on hs et4
        refine W.eq (g2 := F0 m 19 ls [.null]) rfl ?_
        refine lv_goto (tgt := 23) hx hb dX7_rowAt_19 (by decide) ?_
        cases hs
        exact sv_aret (r := none) rfl hx hb hr hlk hW dX7_rowAt_23
      | some t4 =>
        replace hs := sp_os hs et4
        obtain ⟨ht4, hs⟩ := sp_p hs
        refine W.eq (g2 := F0 m 19 ls [.ref (h t4)]) rfl ?_
        refine lv_goto (tgt := 23) hx hb dX7_rowAt_19 (by decide) ?_
        cases hs
        exact sv_aret (r := some t4) rfl hx hb hr hlk hW dX7_rowAt_23
set_option maxRecDepth 100000 in
set_option maxHeartbeats 4000000 in
theorem b_X7_tourRefusal_22 {qK qV : Nat → Nat} {p : Program} {l : Launch} {e : Env} {s : State} {m : MethodId} {args : Array Value} {below : List Frame} {meth : Method} {c : Code} {D : va_G} {T : Nat → ClassId} {A : Nat → Prop} {h : Nat → Nat} {θ : sv_T} {o1 : Option Nat} {r : Int32} {σ' : sv_S} (hB : sx_base θ)  (F : sv_F (sx_X qK qV) p m c cX7_tourRefusal 5 s args wsX7_tourRefusal RX7 D (sx_tys T) A) (hr : meth.sig.returnType = (some .int)) (hlk : meth.locks = false)  : ∀ (n : Nat), ∀ (z1 : Nat) (x2 : Int32) (x3 : Int32) (σ : sv_S) (H : Heap) (locs : List Loc) (ls : Array Slot), sv_oX5 θ z1 → lv_has ls 5 [(0, .ref (h 0)), (1, .ref (h z1)), (2, .int x2), (3, .int x3)] → sv_W D T A s h θ σ H locs → q_X7_tourRefusal_B22 θ o1 n z1 x2 x3 σ = some (r, σ') → W p l e (sv_rm 2 42) s m args below meth c H locs 0 0 (MQ below (va_Qi (fun r2 (_ : Unit) => r2 = r) (fun _ t => va_P D vwCl (sv_ws T h θ σ') t.heap) A) args s 0 0 A) (F0 m 22 ls []) := by
  have hx := F.1.1
  have hb := F.1.2.1
  have hts := F.1.2.2.2.2
  have hown := F.1.2.2.2.1
  have hK := F.2.1
  intro n
  induction n with
  | zero =>
    intro z1 x2 x3 σ H locs ls hz1 hl hW hs
    have hs : (none : Option (Int32 × sv_S)) = some (r, σ') := hs
    cases hs
  | succ n ih =>
    intro z1 x2 x3 σ H locs ls hz1 hl hW hs
    have hs : q_X7_tourRefusal_B22_b θ o1 (q_X7_tourRefusal_B22 θ o1 n) z1 x2 x3 σ = some (r, σ') := hs
    unfold q_X7_tourRefusal_B22_b at hs
    refine lv_iload_n hx hb dX7_tourRefusal_22 rfl (lv_at hl 3 rfl) ?_
    refine lv_aload_n hx hb dX7_tourRefusal_23 rfl (lv_at hl 1 rfl) ?_
    refine sv_get (own := RX7) (C := RX5) (Tf := TX5) (N := 3) (index := 190) (κ := (0, 0)) (v := .int (σ.1 z1 2)) hx hb hts hown hK hW (fun _ h => List.mem_cons_of_mem _ (List.mem_append_left _ (List.mem_append_left _ (List.mem_append_right _ h)))) hz1.1 hz1.2.1 rfl 2 (by decide) rfl rfl (List.mem_of_getElem? (i := 2) rfl) dX7_tourRefusal_24 ?_
    refine lv_icmp_ge (tgt := 89) hx hb dX7_tourRefusal_27 (by decide) (fun c3 => ?_) (fun c3 => ?_)
    · replace hs := (sp_ite hs).1 c3
      refine lv_iconst (v := 0) hx hb dX7_tourRefusal_89 (by decide) ?_
      cases hs
      exact sv_iret hx hb hr rfl hlk hW dX7_tourRefusal_90
    · replace hs := (sp_ite hs).2 c3
      refine lv_aload_n hx hb dX7_tourRefusal_30 rfl (lv_at hl 1 rfl) ?_
      refine lv_iload_n hx hb dX7_tourRefusal_31 rfl (lv_at hl 3 rfl) ?_
      obtain ⟨r4, σ5, eσ5, hs⟩ := sp_bind hs
      refine sv_goI (σ' := σ5) (r := r4) hW F.2.2.2.1 (sv_runV (C := RX5) F hW (k_X5_read hB hz1 eσ5 H.size) gX7_tourRefusal_X5_read rfl ⟨rfl, rfl⟩ 1 (by decide +kernel) (sv_room2 (by omega) (by omega)) hz1.1 hz1.2.1 rfl rfl hl.1 rfl (Nat.le_of_ble_eq_true rfl) dX7_tourRefusal_32 ⟨Nat.zero_le _, Nat.zero_le _⟩) (fun H locs hW => ?_)
      refine lv_istore (lv' := [(4, .int r4), (0, .ref (h 0)), (1, .ref (h z1)), (2, .int x2), (3, .int x3)]) hx hb dX7_tourRefusal_35 hl (by decide) rfl (fun ls hl => ?_)
      refine lv_aload_n hx hb dX7_tourRefusal_37 rfl (lv_at hl 1 rfl) ?_
      refine sv_get (own := RX7) (C := RX7) (Tf := TX7) (N := 10) (index := 10) (κ := (3, 1)) (v := .ref (h 1)) hx hb hts hown hK hW (fun _ h => List.mem_cons_of_mem _ (List.mem_append_left _ (List.mem_append_right _ h))) (sx_i 0 hB (by decide)) (sx_c0 hB) rfl 0 (by decide) rfl rfl (List.mem_of_getElem? (i := 3) rfl) dX7_tourRefusal_38 ?_
      refine lv_iload hx hb dX7_tourRefusal_41 (lv_at hl 0 rfl) ?_
      obtain ⟨r6, σ7, eσ7, hs⟩ := sp_bind hs
      refine sv_goI (σ' := σ7) (r := r6) hW F.2.2.2.1 (sv_runV (C := RX2) F hW (k_X2_has hB eσ7 H.size) gX7_tourRefusal_X2_has rfl ⟨rfl, rfl⟩ 1 (by decide +kernel) (sv_room2 (by omega) (by omega)) (sx_i 1 hB (by decide)) (sx_c1 hB) rfl rfl hl.1 rfl (Nat.le_of_ble_eq_true rfl) dX7_tourRefusal_43 ⟨Nat.zero_le _, Nat.zero_le _⟩) (fun H locs hW => ?_)
      refine lv_if_eq (tgt := 73) hx hb dX7_tourRefusal_46 (by decide) (fun c8 => ?_) (fun c8 => ?_)
      · replace hs := (sp_ite hs).1 c8
        refine lv_bipush (v := -2) hx hb dX7_tourRefusal_73 (by decide) ?_
        cases hs
        exact sv_iret hx hb hr rfl hlk hW dX7_tourRefusal_75
      · replace hs := (sp_ite hs).2 c8
        refine lv_aload_n hx hb dX7_tourRefusal_49 rfl (lv_at hl 1 rfl) ?_
        refine sv_get (own := RX7) (C := RX7) (Tf := TX7) (N := 10) (index := 10) (κ := (3, 1)) (v := .ref (h 1)) hx hb hts hown hK hW (fun _ h => List.mem_cons_of_mem _ (List.mem_append_left _ (List.mem_append_right _ h))) (sx_i 0 hB (by decide)) (sx_c0 hB) rfl 0 (by decide) rfl rfl (List.mem_of_getElem? (i := 3) rfl) dX7_tourRefusal_50 ?_
        refine sv_get (own := RX7) (C := RX2) (Tf := TX2) (N := 8) (index := 116) (κ := (3, 5)) (v := .ref (h 6)) hx hb hts hown hK hW (fun _ h => List.mem_cons_of_mem _ (List.mem_append_right _ h)) (sx_i 1 hB (by decide)) (sx_c1 hB) rfl 4 (by decide) rfl rfl (List.mem_of_getElem? (i := 4) rfl) dX7_tourRefusal_53 ?_
        refine lv_iload hx hb dX7_tourRefusal_56 (lv_at hl 0 rfl) ?_
        obtain ⟨r9, σ10, eσ10, hs⟩ := sp_bind hs
        refine sv_goI (σ' := σ10) (r := r9) hW F.2.2.2.1 (sv_runT F hW (k_X7_at hB (sv_oA_of (sx_i 6 hB (by decide)) (sx_c6 hB)) eσ10 H.size) gX7_tourRefusal_X7_at rfl ⟨rfl, rfl⟩ 2 (by decide +kernel) (sv_room2 (by omega) (by omega)) rfl hl.1 rfl (Nat.le_of_ble_eq_true rfl) dX7_tourRefusal_58 ⟨Nat.zero_le _, Nat.zero_le _⟩) (fun H locs hW => ?_)
        refine lv_if_ne (tgt := 73) hx hb dX7_tourRefusal_61 (by decide) (fun c11 => ?_) (fun c11 => ?_)
        · replace hs := (sp_ite hs).2 c11
          refine lv_bipush (v := -2) hx hb dX7_tourRefusal_73 (by decide) ?_
          cases hs
          exact sv_iret hx hb hr rfl hlk hW dX7_tourRefusal_75
        · replace hs := (sp_ite hs).1 c11
          refine lv_iload_n hx hb dX7_tourRefusal_64 rfl (lv_at hl 3 rfl) ?_
          refine lv_iload hx hb dX7_tourRefusal_65 (lv_at hl 0 rfl) ?_
          obtain ⟨r12, σ13, eσ13, hs⟩ := sp_bind hs
          refine sv_goI (σ' := σ13) (r := r12) hW F.2.2.2.1 (sv_runT F hW (k_X7_hasBit hB eσ13 H.size) gX7_tourRefusal_X7_hasBit rfl ⟨rfl, rfl⟩ 2 (by decide +kernel) (sv_room2 (by omega) (by omega)) rfl hl.1 rfl (Nat.le_of_ble_eq_true rfl) dX7_tourRefusal_67 ⟨Nat.zero_le _, Nat.zero_le _⟩) (fun H locs hW => ?_)
          refine lv_if_eq (tgt := 76) hx hb dX7_tourRefusal_70 (by decide) (fun c14 => ?_) (fun c14 => ?_)
          · replace hs := (sp_ite hs).1 c14
            refine lv_iload_n hx hb dX7_tourRefusal_76 rfl (lv_at hl 3 rfl) ?_
            refine lv_iconst (v := 1) hx hb dX7_tourRefusal_77 (by decide) ?_
            refine lv_iload hx hb dX7_tourRefusal_78 (lv_at hl 0 rfl) ?_
            refine lv_ishl hx hb dX7_tourRefusal_80 ?_
            refine lv_ior hx hb dX7_tourRefusal_81 ?_
            refine lv_topi (fun v15 ev15 => ?_)
            replace hs := sp_let hs ev15
            refine lv_istore_n (lv' := [(2, .int v15), (4, .int r4), (0, .ref (h 0)), (1, .ref (h z1)), (3, .int x3)]) hx hb dX7_tourRefusal_82 rfl hl (by decide) rfl (fun ls hl => ?_)
            obtain ⟨v16, ev16⟩ : ∃ y : Int32, y = x3 + 1 := ⟨_, rfl⟩
            replace hs := sp_let hs ev16
            refine lv_iinc (v := v16) (lv' := [(3, .int v16), (2, .int v15), (4, .int r4), (0, .ref (h 0)), (1, .ref (h z1))]) hx hb dX7_tourRefusal_83 hl (k := 4) rfl (by rw [ev16]; rfl) (by decide) rfl (fun ls hl => ?_)
            refine lv_goto (tgt := 22) hx hb dX7_tourRefusal_86 (by decide) ?_
            exact ih z1 v15 v16 σ13 H locs ls hz1 (lv_sub hl [3, 4, 1, 0] rfl) hW hs
          · replace hs := (sp_ite hs).2 c14
            refine lv_bipush (v := -2) hx hb dX7_tourRefusal_73 (by decide) ?_
            cases hs
            exact sv_iret hx hb hr rfl hlk hW dX7_tourRefusal_75
set_option maxRecDepth 100000 in
set_option maxHeartbeats 4000000 in
theorem k_X7_tourRefusal {qK qV : Nat → Nat} {l : Launch} {D : va_G} {T : Nat → ClassId} {h : Nat → Nat} {θ : sv_T} {o1 : Option Nat} {σ : sv_S} {r : Int32} {σ' : sv_S} (hB : sx_base θ)  (hs : q_X7_tourRefusal θ o1 σ = some (r, σ')) : sv_Mi (sx_X qK qV) l D T (sx_tys T) h θ yX7_tourRefusal wsX7_tourRefusal (sv_rm 2 42) [.ref (h 0), va_rf ((o1).map h)] σ r σ' := by
  intro sz
  refine sv_enter (cc := cX7_tourRefusal) (maxL := 5) (ret := (some .int)) (Qc := fun A => va_Qi (fun r2 (_ : Unit) => r2 = r) (fun _ t => va_P D vwCl (sv_ws T h θ σ') t.heap) A) sx_XP (by decide) rfl (Nat.le_of_ble_eq_true (by cases o1 <;> rfl)) ?_
  intro p e s m args below meth c A F hr hlk ls H hl hW
  have hx := F.1.1
  have hb := F.1.2.1
  have hts := F.1.2.2.2.2
  have hown := F.1.2.2.2.1
  have hK := F.2.1
  obtain ⟨locs, hlocs⟩ : ∃ z : List Loc, z = [] := ⟨_, rfl⟩
  rw [← hlocs] at hW ⊢
  have hl : lv_has ls 5 [(0, .ref (h 0)), (1, va_rf ((o1).map h))] := hl
  unfold q_X7_tourRefusal at hs
  cases et1 : o1 with
  | none =>
    replace hs := sp_on hs et1
    have hl : lv_has ls 5 [(0, .ref (h 0)), (1, .null)] := (by first | exact hl | (rw [et1] at hl; exact hl))
    refine lv_aload_nN hx hb dX7_tourRefusal_0 rfl (lv_at hl 1 rfl) ?_
    refine lv_ifnonnullN hx hb dX7_tourRefusal_1 ?_
    refine lv_bipush (v := -2) hx hb dX7_tourRefusal_4 (by decide) ?_
    cases hs
    exact sv_iret hx hb hr rfl hlk hW dX7_tourRefusal_6
  | some t1 =>
    replace hs := sp_os hs et1
    obtain ⟨ht1, hs⟩ := sp_p hs
    have hl : lv_has ls 5 [(0, .ref (h 0)), (1, .ref (h t1))] := (by first | exact hl | (rw [et1] at hl; exact hl))
    refine lv_aload_n hx hb dX7_tourRefusal_0 rfl (lv_at hl 1 rfl) ?_
    refine lv_ifnonnull (tgt := 7) hx hb dX7_tourRefusal_1 (by decide) ?_
    refine lv_aload_n hx hb dX7_tourRefusal_7 rfl (lv_at hl 1 rfl) ?_
    refine sv_get (own := RX7) (C := RX5) (Tf := TX5) (N := 3) (index := 259) (κ := (0, 0)) (v := .int (σ.1 t1 1)) hx hb hts hown hK hW (fun _ h => List.mem_cons_of_mem _ (List.mem_append_left _ (List.mem_append_left _ (List.mem_append_right _ h)))) ht1.1 ht1.2.1 rfl 1 (by decide) rfl rfl (List.mem_of_getElem? (i := 1) rfl) dX7_tourRefusal_8 ?_
    refine lv_iconst (v := -1) hx hb dX7_tourRefusal_11 (by decide) ?_
    refine lv_icmp_ne (tgt := 18) hx hb dX7_tourRefusal_12 (by decide) (fun c2 => ?_) (fun c2 => ?_)
    · replace hs := (sp_ite hs).2 c2
      refine lv_iconst (v := 0) hx hb dX7_tourRefusal_18 (by decide) ?_
      refine lv_istore_n (lv' := [(2, .int (0 : Int32)), (0, .ref (h 0)), (1, .ref (h t1))]) hx hb dX7_tourRefusal_19 rfl hl (by decide) rfl (fun ls hl => ?_)
      refine lv_iconst (v := 0) hx hb dX7_tourRefusal_20 (by decide) ?_
      refine lv_istore_n (lv' := [(3, .int (0 : Int32)), (2, .int (0 : Int32)), (0, .ref (h 0)), (1, .ref (h t1))]) hx hb dX7_tourRefusal_21 rfl hl (by decide) rfl (fun ls hl => ?_)
      exact b_X7_tourRefusal_22 hB F hr hlk sv_N t1 (0 : Int32) (0 : Int32) σ H locs ls ht1 (lv_sub hl [2, 3, 1, 0] rfl) hW hs
    · replace hs := (sp_ite hs).1 c2
      refine lv_bipush (v := -11) hx hb dX7_tourRefusal_15 (by decide) ?_
      cases hs
      exact sv_iret hx hb hr rfl hlk hW dX7_tourRefusal_17
set_option maxRecDepth 100000 in
set_option maxHeartbeats 4000000 in
theorem k_X7_tour {qK qV : Nat → Nat} {l : Launch} {D : va_G} {T : Nat → ClassId} {h : Nat → Nat} {θ : sv_T} {a1 : Int32} {a2 : Int32} {σ : sv_S} {r : Int32} {σ' : sv_S} (hB : sx_base θ)  (hs : q_X7_tour θ a1 a2 σ = some (r, σ')) : sv_Mi (sx_X qK qV) l D T (sx_tys T) h θ yX7_tour wsX7_tour (sv_rm 6 141) [.ref (h 0), .int a1, .int a2] σ r σ' := by
  intro sz
  refine sv_enter (cc := cX7_tour) (maxL := 5) (ret := (some .int)) (Qc := fun A => va_Qi (fun r2 (_ : Unit) => r2 = r) (fun _ t => va_P D vwCl (sv_ws T h θ σ') t.heap) A) sx_XP (by decide) rfl (Nat.le_of_ble_eq_true rfl) ?_
  intro p e s m args below meth c A F hr hlk ls H hl hW
  have hx := F.1.1
  have hb := F.1.2.1
  have hts := F.1.2.2.2.2
  have hown := F.1.2.2.2.1
  have hK := F.2.1
  obtain ⟨locs, hlocs⟩ : ∃ z : List Loc, z = [] := ⟨_, rfl⟩
  rw [← hlocs] at hW ⊢
  have hl : lv_has ls 5 [(0, .ref (h 0)), (1, .int a1), (2, .int a2)] := hl
  unfold q_X7_tour at hs
  refine lv_iload_n hx hb dX7_tour_0 rfl (lv_at hl 2 rfl) ?_
  refine lv_if_lt (tgt := 9) hx hb dX7_tour_1 (by decide) (fun c1 => ?_) (fun c1 => ?_)
  · replace hs := (sp_ite hs).1 c1
    refine lv_bipush (v := -2) hx hb dX7_tour_9 (by decide) ?_
    cases hs
    exact sv_iret hx hb hr rfl hlk hW dX7_tour_11
  · replace hs := (sp_ite hs).2 c1
    refine lv_iload_n hx hb dX7_tour_4 rfl (lv_at hl 2 rfl) ?_
    refine lv_iconst (v := 3) hx hb dX7_tour_5 (by decide) ?_
    refine lv_icmp_le (tgt := 12) hx hb dX7_tour_6 (by decide) (fun c2 => ?_) (fun c2 => ?_)
    · replace hs := (sp_ite hs).1 c2
      refine lv_aload_n hx hb dX7_tour_12 rfl (lv_at hl 0 rfl) ?_
      refine lv_iload_n hx hb dX7_tour_13 rfl (lv_at hl 1 rfl) ?_
      obtain ⟨r3, σ4, eσ4, hs⟩ := sp_bind hs
      refine sv_goQ (σ' := σ4) (r := r3) hW F.2.2.2.1 (sv_runV (C := RX7) F hW (k_X7_rowAt hB eσ4 H.size) gX7_tour_X7_rowAt rfl ⟨rfl, rfl⟩ 1 (by decide +kernel) (sv_room2 (by omega) (by omega)) (sx_i 0 hB (by decide)) (sx_c0 hB) rfl rfl hl.1 rfl (Nat.le_of_ble_eq_true rfl) dX7_tour_14 ⟨Nat.zero_le _, Nat.zero_le _⟩) (fun H locs hW => ?_)
      cases et5 : r3 with
      | none =>
        replace hs := sp_on hs et5
        refine W.eq (g2 := F0 m 17 ls [.null]) rfl ?_
        refine lv_astore_nN (lv' := [(3, .null), (0, .ref (h 0)), (1, .int a1), (2, .int a2)]) hx hb dX7_tour_17 rfl hl (by decide) rfl (fun ls hl => ?_)
        refine lv_aload_n hx hb dX7_tour_18 rfl (lv_at hl 1 rfl) ?_
        refine lv_aload_nN hx hb dX7_tour_19 rfl (lv_at hl 0 rfl) ?_
        obtain ⟨r6, σ7, eσ7, hs⟩ := sp_bind hs
        refine sv_goI (σ' := σ7) (r := r6) hW F.2.2.2.1 (sv_runV (C := RX7) F hW (k_X7_tourRefusal hB eσ7 H.size) gX7_tour_X7_tourRefusal rfl ⟨rfl, rfl⟩ 1 (by decide +kernel) (sv_room2 (by omega) (by omega)) (sx_i 0 hB (by decide)) (sx_c0 hB) rfl rfl hl.1 rfl (Nat.le_of_ble_eq_true rfl) dX7_tour_20 ⟨Nat.zero_le _, Nat.zero_le _⟩) (fun H locs hW => ?_)
        refine lv_istore (lv' := [(4, .int r6), (3, .null), (0, .ref (h 0)), (1, .int a1), (2, .int a2)]) hx hb dX7_tour_23 hl (by decide) rfl (fun ls hl => ?_)
        refine lv_aload_nN hx hb dX7_tour_25 rfl (lv_at hl 1 rfl) ?_
        refine lv_ifnullN (tgt := 34) hx hb dX7_tour_26 (by decide) ?_
        refine lv_iload hx hb dX7_tour_34 (lv_at hl 0 rfl) ?_
        cases hs
        exact sv_iret hx hb hr rfl hlk hW dX7_tour_36
      | some t5 =>
        replace hs := sp_os hs et5
        obtain ⟨ht5, hs⟩ := sp_p hs
        refine W.eq (g2 := F0 m 17 ls [.ref (h t5)]) rfl ?_
        refine lv_astore_n (lv' := [(3, .ref (h t5)), (0, .ref (h 0)), (1, .int a1), (2, .int a2)]) hx hb dX7_tour_17 rfl hl (by decide) rfl (fun ls hl => ?_)
        refine lv_aload_n hx hb dX7_tour_18 rfl (lv_at hl 1 rfl) ?_
        refine lv_aload_n hx hb dX7_tour_19 rfl (lv_at hl 0 rfl) ?_
        obtain ⟨r8, σ9, eσ9, hs⟩ := sp_bind hs
        refine sv_goI (σ' := σ9) (r := r8) hW F.2.2.2.1 (sv_runV (C := RX7) F hW (k_X7_tourRefusal hB eσ9 H.size) gX7_tour_X7_tourRefusal rfl ⟨rfl, rfl⟩ 1 (by decide +kernel) (sv_room2 (by omega) (by omega)) (sx_i 0 hB (by decide)) (sx_c0 hB) rfl rfl hl.1 rfl (Nat.le_of_ble_eq_true rfl) dX7_tour_20 ⟨Nat.zero_le _, Nat.zero_le _⟩) (fun H locs hW => ?_)
        refine lv_istore (lv' := [(4, .int r8), (3, .ref (h t5)), (0, .ref (h 0)), (1, .int a1), (2, .int a2)]) hx hb dX7_tour_23 hl (by decide) rfl (fun ls hl => ?_)
        refine lv_aload_n hx hb dX7_tour_25 rfl (lv_at hl 1 rfl) ?_
        refine lv_ifnull hx hb dX7_tour_26 ?_
        refine lv_iload hx hb dX7_tour_29 (lv_at hl 0 rfl) ?_
        refine lv_if_eq (tgt := 37) hx hb dX7_tour_31 (by decide) (fun c10 => ?_) (fun c10 => ?_)
        · replace hs := (sp_ite hs).1 c10
          refine lv_aload_n hx hb dX7_tour_37 rfl (lv_at hl 2 rfl) ?_
          refine sv_get (own := RX7) (C := RX7) (Tf := TX7) (N := 10) (index := 48) (κ := (3, 24)) (v := .ref (h 24)) hx hb hts hown hK hW (fun _ h => List.mem_cons_of_mem _ (List.mem_append_left _ (List.mem_append_left _ (List.mem_append_left _ (List.mem_append_left _ (List.mem_append_left _ (List.mem_append_right _ h))))))) (sx_i 0 hB (by decide)) (sx_c0 hB) rfl 8 (by decide) rfl rfl (List.mem_of_getElem? (i := 1) rfl) dX7_tour_38 ?_
          refine lv_aload_n hx hb dX7_tour_41 rfl (lv_at hl 2 rfl) ?_
          refine sv_get (own := RX7) (C := RX7) (Tf := TX7) (N := 10) (index := 10) (κ := (3, 1)) (v := .ref (h 1)) hx hb hts hown hK hW (fun _ h => List.mem_cons_of_mem _ (List.mem_append_left _ (List.mem_append_left _ (List.mem_append_left _ (List.mem_append_left _ (List.mem_append_left _ (List.mem_append_right _ h))))))) (sx_i 0 hB (by decide)) (sx_c0 hB) rfl 0 (by decide) rfl rfl (List.mem_of_getElem? (i := 2) rfl) dX7_tour_42 ?_
          refine sv_get (own := RX7) (C := RX2) (Tf := TX2) (N := 8) (index := 99) (κ := (3, 1)) (v := .ref (h 2)) hx hb hts hown hK hW (fun _ h => List.mem_cons_of_mem _ (List.mem_append_left _ (List.mem_append_left _ (List.mem_append_left _ (List.mem_append_left _ (List.mem_append_right _ h)))))) (sx_i 1 hB (by decide)) (sx_c1 hB) rfl 0 (by decide) rfl rfl (List.mem_of_getElem? (i := 3) rfl) dX7_tour_45 ?_
          obtain ⟨r11, σ12, eσ12, hs⟩ := sp_bind hs
          refine sv_goV (σ' := σ12) (r := r11) hW F.2.2.2.1 (sv_runV (C := RX3) F hW (k_X3_useRain hB (sv_oA_of (sx_i 2 hB (by decide)) (sx_c2 hB)) eσ12 H.size) gX7_tour_X3_useRain rfl ⟨rfl, rfl⟩ 1 (by decide +kernel) (sv_room2 (by omega) (by omega)) (sx_i 24 hB (by decide)) (sx_c24 hB) rfl rfl hl.1 rfl (Nat.le_of_ble_eq_true rfl) dX7_tour_48 ⟨Nat.zero_le _, Nat.zero_le _⟩) (fun H locs hW => ?_)
          refine lv_aload_n hx hb dX7_tour_51 rfl (lv_at hl 2 rfl) ?_
          refine sv_get (own := RX7) (C := RX7) (Tf := TX7) (N := 10) (index := 48) (κ := (3, 24)) (v := .ref (h 24)) hx hb hts hown hK hW (fun _ h => List.mem_cons_of_mem _ (List.mem_append_left _ (List.mem_append_left _ (List.mem_append_left _ (List.mem_append_left _ (List.mem_append_left _ (List.mem_append_right _ h))))))) (sx_i 0 hB (by decide)) (sx_c0 hB) rfl 8 (by decide) rfl rfl (List.mem_of_getElem? (i := 1) rfl) dX7_tour_52 ?_
          refine lv_aload_n hx hb dX7_tour_55 rfl (lv_at hl 2 rfl) ?_
          refine sv_get (own := RX7) (C := RX7) (Tf := TX7) (N := 10) (index := 10) (κ := (3, 1)) (v := .ref (h 1)) hx hb hts hown hK hW (fun _ h => List.mem_cons_of_mem _ (List.mem_append_left _ (List.mem_append_left _ (List.mem_append_left _ (List.mem_append_left _ (List.mem_append_left _ (List.mem_append_right _ h))))))) (sx_i 0 hB (by decide)) (sx_c0 hB) rfl 0 (by decide) rfl rfl (List.mem_of_getElem? (i := 2) rfl) dX7_tour_56 ?_
          refine lv_aload_n hx hb dX7_tour_59 rfl (lv_at hl 1 rfl) ?_
          refine sv_get (own := RX7) (C := RX5) (Tf := TX5) (N := 3) (index := 187) (κ := (3, 1)) (v := .ref (h (t5 + 1))) hx hb hts hown hK hW (fun _ h => List.mem_cons_of_mem _ (List.mem_append_left _ (List.mem_append_left _ (List.mem_append_left _ (List.mem_append_right _ h))))) ht5.1 ht5.2.1 rfl 0 (by decide) rfl rfl (List.mem_of_getElem? (i := 4) rfl) dX7_tour_60 ?_
          refine lv_aload_n hx hb dX7_tour_63 rfl (lv_at hl 1 rfl) ?_
          refine sv_get (own := RX7) (C := RX5) (Tf := TX5) (N := 3) (index := 190) (κ := (0, 0)) (v := .int (σ12.1 t5 2)) hx hb hts hown hK hW (fun _ h => List.mem_cons_of_mem _ (List.mem_append_left _ (List.mem_append_left _ (List.mem_append_left _ (List.mem_append_right _ h))))) ht5.1 ht5.2.1 rfl 2 (by decide) rfl rfl (List.mem_of_getElem? (i := 5) rfl) dX7_tour_64 ?_
          obtain ⟨r13, σ14, eσ14, hs⟩ := sp_bind hs
          refine sv_goV (σ' := σ14) (r := r13) hW F.2.2.2.1 (sv_runV (C := RX3) F hW (k_X3_run hB (sv_oA_of ht5.2.2.1 ht5.2.2.2) eσ14 H.size) gX7_tour_X3_run rfl ⟨rfl, rfl⟩ 3 (by decide +kernel) (sv_room2 (by omega) (by omega)) (sx_i 24 hB (by decide)) (sx_c24 hB) rfl rfl hl.1 rfl (Nat.le_of_ble_eq_true rfl) dX7_tour_67 ⟨Nat.zero_le _, Nat.zero_le _⟩) (fun H locs hW => ?_)
          refine lv_iload_n hx hb dX7_tour_70 rfl (lv_at hl 4 rfl) ?_
          by_cases c15 : a2 = 0
          · replace hs := (sp_ite hs).1 c15
            refine lv_tableIn (off := 25) (tgt := 96) hx hb dX7_tour_71 (by rw [c15]; decide) (by rw [c15]; decide) (by rw [c15]; decide) (by decide) ?_
            refine lv_aload_n hx hb dX7_tour_96 rfl (lv_at hl 2 rfl) ?_
            refine sv_get (own := RX7) (C := RX7) (Tf := TX7) (N := 10) (index := 48) (κ := (3, 24)) (v := .ref (h 24)) hx hb hts hown hK hW (fun _ h => List.mem_cons_of_mem _ (List.mem_append_left _ (List.mem_append_left _ (List.mem_append_left _ (List.mem_append_left _ (List.mem_append_left _ (List.mem_append_right _ h))))))) (sx_i 0 hB (by decide)) (sx_c0 hB) rfl 8 (by decide) rfl rfl (List.mem_of_getElem? (i := 1) rfl) dX7_tour_97 ?_
            refine sv_get (own := RX7) (C := RX3) (Tf := TX3) (N := 17) (index := 195) (κ := (0, 0)) (v := .int (σ14.1 24 3)) hx hb hts hown hK hW (fun _ h => List.mem_cons_of_mem _ (List.mem_append_left _ (List.mem_append_left _ (List.mem_append_right _ h)))) (sx_i 24 hB (by decide)) (sx_c24 hB) rfl 3 (by decide) rfl rfl (List.mem_of_getElem? (i := 6) rfl) dX7_tour_100 ?_
            cases hs
            exact sv_iret hx hb hr rfl hlk hW dX7_tour_103
          replace hs := (sp_ite hs).2 c15
          by_cases c16 : a2 = 1
          · replace hs := (sp_ite hs).1 c16
            refine lv_tableIn (off := 33) (tgt := 104) hx hb dX7_tour_71 (by rw [c16]; decide) (by rw [c16]; decide) (by rw [c16]; decide) (by decide) ?_
            refine lv_aload_n hx hb dX7_tour_104 rfl (lv_at hl 2 rfl) ?_
            refine sv_get (own := RX7) (C := RX7) (Tf := TX7) (N := 10) (index := 48) (κ := (3, 24)) (v := .ref (h 24)) hx hb hts hown hK hW (fun _ h => List.mem_cons_of_mem _ (List.mem_append_left _ (List.mem_append_left _ (List.mem_append_left _ (List.mem_append_left _ (List.mem_append_left _ (List.mem_append_right _ h))))))) (sx_i 0 hB (by decide)) (sx_c0 hB) rfl 8 (by decide) rfl rfl (List.mem_of_getElem? (i := 1) rfl) dX7_tour_105 ?_
            refine sv_get (own := RX7) (C := RX3) (Tf := TX3) (N := 17) (index := 198) (κ := (0, 0)) (v := .int (σ14.1 24 4)) hx hb hts hown hK hW (fun _ h => List.mem_cons_of_mem _ (List.mem_append_left _ (List.mem_append_left _ (List.mem_append_right _ h)))) (sx_i 24 hB (by decide)) (sx_c24 hB) rfl 4 (by decide) rfl rfl (List.mem_of_getElem? (i := 7) rfl) dX7_tour_108 ?_
            obtain ⟨r17, σ18, eσ18, hs⟩ := sp_bind hs
            refine sv_goI (σ' := σ18) (r := r17) hW F.2.2.2.1 (sv_runT F hW (k_J6_bitCount_0f7a4 hB eσ18 H.size) gX7_tour_J6_bitCount_0f7a4 rfl ⟨rfl, rfl⟩ 1 (by decide +kernel) (sv_room2 (by omega) (by omega)) rfl hl.1 rfl (Nat.le_of_ble_eq_true rfl) dX7_tour_111 ⟨Nat.zero_le _, Nat.zero_le _⟩) (fun H locs hW => ?_)
            cases hs
            exact sv_iret hx hb hr rfl hlk hW dX7_tour_114
          replace hs := (sp_ite hs).2 c16
          by_cases c19 : a2 = 2
          · replace hs := (sp_ite hs).1 c19
            refine lv_tableIn (off := 44) (tgt := 115) hx hb dX7_tour_71 (by rw [c19]; decide) (by rw [c19]; decide) (by rw [c19]; decide) (by decide) ?_
            refine lv_aload_n hx hb dX7_tour_115 rfl (lv_at hl 2 rfl) ?_
            refine sv_get (own := RX7) (C := RX7) (Tf := TX7) (N := 10) (index := 48) (κ := (3, 24)) (v := .ref (h 24)) hx hb hts hown hK hW (fun _ h => List.mem_cons_of_mem _ (List.mem_append_left _ (List.mem_append_left _ (List.mem_append_left _ (List.mem_append_left _ (List.mem_append_left _ (List.mem_append_right _ h))))))) (sx_i 0 hB (by decide)) (sx_c0 hB) rfl 8 (by decide) rfl rfl (List.mem_of_getElem? (i := 1) rfl) dX7_tour_116 ?_
            refine sv_get (own := RX7) (C := RX3) (Tf := TX3) (N := 17) (index := 206) (κ := (0, 0)) (v := .int (σ14.1 24 5)) hx hb hts hown hK hW (fun _ h => List.mem_cons_of_mem _ (List.mem_append_left _ (List.mem_append_left _ (List.mem_append_right _ h)))) (sx_i 24 hB (by decide)) (sx_c24 hB) rfl 5 (by decide) rfl rfl (List.mem_of_getElem? (i := 8) rfl) dX7_tour_119 ?_
            cases hs
            exact sv_iret hx hb hr rfl hlk hW dX7_tour_122
          replace hs := (sp_ite hs).2 c19
          refine lv_tableOut (tgt := 123) hx hb dX7_tour_71 (by have := lv_neT (k := 0) (a := 0) c15 (by decide); have := lv_neT (k := 1) (a := 1) c16 (by decide); have := lv_neT (k := 2) (a := 2) c19 (by decide); omega) (by decide) ?_
          refine lv_aload_n hx hb dX7_tour_123 rfl (lv_at hl 2 rfl) ?_
          refine sv_get (own := RX7) (C := RX7) (Tf := TX7) (N := 10) (index := 48) (κ := (3, 24)) (v := .ref (h 24)) hx hb hts hown hK hW (fun _ h => List.mem_cons_of_mem _ (List.mem_append_left _ (List.mem_append_left _ (List.mem_append_left _ (List.mem_append_left _ (List.mem_append_left _ (List.mem_append_right _ h))))))) (sx_i 0 hB (by decide)) (sx_c0 hB) rfl 8 (by decide) rfl rfl (List.mem_of_getElem? (i := 1) rfl) dX7_tour_124 ?_
          refine sv_get (own := RX7) (C := RX3) (Tf := TX3) (N := 17) (index := 209) (κ := (0, 0)) (v := .int (σ14.1 24 6)) hx hb hts hown hK hW (fun _ h => List.mem_cons_of_mem _ (List.mem_append_left _ (List.mem_append_left _ (List.mem_append_right _ h)))) (sx_i 24 hB (by decide)) (sx_c24 hB) rfl 6 (by decide) rfl rfl (List.mem_of_getElem? (i := 9) rfl) dX7_tour_127 ?_
          cases hs
          exact sv_iret hx hb hr rfl hlk hW dX7_tour_130
        · replace hs := (sp_ite hs).2 c10
          refine lv_iload hx hb dX7_tour_34 (lv_at hl 0 rfl) ?_
          cases hs
          exact sv_iret hx hb hr rfl hlk hW dX7_tour_36
    · replace hs := (sp_ite hs).2 c2
      refine lv_bipush (v := -2) hx hb dX7_tour_9 (by decide) ?_
      cases hs
      exact sv_iret hx hb hr rfl hlk hW dX7_tour_11

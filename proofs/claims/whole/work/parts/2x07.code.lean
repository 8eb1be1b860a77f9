set_option maxRecDepth 100000 in
set_option maxHeartbeats 4000000 in
theorem b_X7_deal_58 {qK qV : Nat → Nat} {p : Program} {l : Launch} {e : Env} {s : State} {m : MethodId} {args : Array Value} {below : List Frame} {meth : Method} {c : Code} {D : va_G} {T : Nat → ClassId} {A : Nat → Prop} {h : Nat → Nat} {θ : sv_T} {a1 : Int32} {r : Int32} {σ' : sv_S} (hB : sx_base θ)  (F : sv_F (sx_X qK qV) p m c cX7_deal 5 s args wsX7_deal RX7 D (sx_tys T) A) (hr : meth.sig.returnType = (some .int)) (hlk : meth.locks = false)  : ∀ (n : Nat), ∀ (x4 : Int32) (σ : sv_S) (H : Heap) (locs : List Loc) (ls : Array Slot), lv_has ls 5 [(0, .ref (h 0)), (4, .int x4)] → sv_W D T A s h θ σ H locs → q_X7_deal_B58 θ a1 n x4 σ = some (r, σ') → W p l e (sv_rm 6 141) s m args below meth c H locs 0 0 (MQ below (va_Qi (fun r2 (_ : Unit) => r2 = r) (fun _ t => va_P D vwCl (sv_ws T h θ σ') t.heap) A) args s 0 0 A) (F0 m 58 ls []) := by
  have hx := F.1.1
  have hb := F.1.2.1
  have hts := F.1.2.2.2.2
  have hown := F.1.2.2.2.1
  have hK := F.2.1
  intro n
  induction n with
  | zero =>
    intro x4 σ H locs ls hl hW hs
    have hs : (none : Option (Int32 × sv_S)) = some (r, σ') := hs
    cases hs
  | succ n ih =>
    intro x4 σ H locs ls hl hW hs
    have hs : q_X7_deal_B58_b θ a1 (q_X7_deal_B58 θ a1 n) x4 σ = some (r, σ') := hs
    unfold q_X7_deal_B58_b at hs
    refine lv_iload hx hb dX7_deal_58 (lv_at hl 1 rfl) ?_
    refine lv_aload_n hx hb dX7_deal_60 rfl (lv_at hl 0 rfl) ?_
    refine sv_get (own := RX7) (C := RX7) (Tf := TX7) (N := 10) (index := 10) (κ := (3, 1)) (v := .ref (h 1)) hx hb hts hown hK hW (fun _ h => List.mem_cons_of_mem _ (List.mem_append_left _ (List.mem_append_left _ (List.mem_append_left _ (List.mem_append_left _ (List.mem_append_left _ (List.mem_append_right _ h))))))) (sx_i 0 hB (by decide)) (sx_c0 hB) rfl 0 (by decide) rfl rfl (List.mem_of_getElem? (i := 2) rfl) dX7_deal_61 ?_
    refine sv_get (own := RX7) (C := RX2) (Tf := TX2) (N := 8) (index := 116) (κ := (3, 5)) (v := .ref (h 6)) hx hb hts hown hK hW (fun _ h => List.mem_cons_of_mem _ (List.mem_append_left _ (List.mem_append_left _ (List.mem_append_left _ (List.mem_append_left _ (List.mem_append_right _ h)))))) (sx_i 1 hB (by decide)) (sx_c1 hB) rfl 4 (by decide) rfl rfl (List.mem_of_getElem? (i := 6) rfl) dX7_deal_64 ?_
    refine sv_alen (t := 0) (v := (6 : Int32)) hx hb hK hW (sx_i 6 hB (by decide)) (sx_c6 hB) 0 rfl rfl dX7_deal_67 ?_
    refine lv_icmp_ge (tgt := 103) hx hb dX7_deal_68 (by decide) (fun c13 => ?_) (fun c13 => ?_)
    · replace hs := (sp_ite hs).1 c13
      refine lv_aload_n hx hb dX7_deal_103 rfl (lv_at hl 0 rfl) ?_
      refine sv_get (own := RX7) (C := RX7) (Tf := TX7) (N := 10) (index := 48) (κ := (3, 24)) (v := .ref (h 24)) hx hb hts hown hK hW (fun _ h => List.mem_cons_of_mem _ (List.mem_append_left _ (List.mem_append_left _ (List.mem_append_left _ (List.mem_append_left _ (List.mem_append_left _ (List.mem_append_right _ h))))))) (sx_i 0 hB (by decide)) (sx_c0 hB) rfl 8 (by decide) rfl rfl (List.mem_of_getElem? (i := 1) rfl) dX7_deal_104 ?_
      refine sv_get (own := RX7) (C := RX3) (Tf := TX3) (N := 17) (index := 195) (κ := (0, 0)) (v := .int (σ.1 24 3)) hx hb hts hown hK hW (fun _ h => List.mem_cons_of_mem _ (List.mem_append_left _ (List.mem_append_left _ (List.mem_append_right _ h)))) (sx_i 24 hB (by decide)) (sx_c24 hB) rfl 3 (by decide) rfl rfl (List.mem_of_getElem? (i := 8) rfl) dX7_deal_107 ?_
      cases hs
      exact sv_iret hx hb hr rfl hlk hW dX7_deal_110
    · replace hs := (sp_ite hs).2 c13
      refine lv_aload_n hx hb dX7_deal_71 rfl (lv_at hl 0 rfl) ?_
      refine sv_get (own := RX7) (C := RX7) (Tf := TX7) (N := 10) (index := 48) (κ := (3, 24)) (v := .ref (h 24)) hx hb hts hown hK hW (fun _ h => List.mem_cons_of_mem _ (List.mem_append_left _ (List.mem_append_left _ (List.mem_append_left _ (List.mem_append_left _ (List.mem_append_left _ (List.mem_append_right _ h))))))) (sx_i 0 hB (by decide)) (sx_c0 hB) rfl 8 (by decide) rfl rfl (List.mem_of_getElem? (i := 1) rfl) dX7_deal_72 ?_
      refine sv_get (own := RX7) (C := RX3) (Tf := TX3) (N := 17) (index := 198) (κ := (0, 0)) (v := .int (σ.1 24 4)) hx hb hts hown hK hW (fun _ h => List.mem_cons_of_mem _ (List.mem_append_left _ (List.mem_append_left _ (List.mem_append_right _ h)))) (sx_i 24 hB (by decide)) (sx_c24 hB) rfl 4 (by decide) rfl rfl (List.mem_of_getElem? (i := 7) rfl) dX7_deal_75 ?_
      refine lv_iload hx hb dX7_deal_78 (lv_at hl 1 rfl) ?_
      obtain ⟨r14, σ15, eσ15, hs⟩ := sp_bind hs
      refine sv_goI (σ' := σ15) (r := r14) hW F.2.2.2.1 (sv_runT F hW (k_X7_hasBit hB eσ15 H.size) gX7_deal_X7_hasBit rfl ⟨rfl, rfl⟩ 2 (by decide +kernel) (sv_room2 (by omega) (by omega)) rfl hl.1 rfl (Nat.le_of_ble_eq_true rfl) dX7_deal_80 ⟨Nat.zero_le _, Nat.zero_le _⟩) (fun H locs hW => ?_)
      refine lv_if_eq (tgt := 97) hx hb dX7_deal_83 (by decide) (fun c16 => ?_) (fun c16 => ?_)
      · replace hs := (sp_ite hs).1 c16
        obtain ⟨v17, ev17⟩ : ∃ y : Int32, y = x4 + 1 := ⟨_, rfl⟩
        replace hs := sp_let hs ev17
        refine lv_iinc (v := v17) (lv' := [(4, .int v17), (0, .ref (h 0))]) hx hb dX7_deal_97 hl (k := 1) rfl (by rw [ev17]; rfl) (by decide) rfl (fun ls hl => ?_)
        refine lv_goto (tgt := 58) hx hb dX7_deal_100 (by decide) ?_
        exact ih v17 σ15 H locs ls (lv_sub hl [1, 0] rfl) hW hs
      · replace hs := (sp_ite hs).2 c16
        refine lv_aload_n hx hb dX7_deal_86 rfl (lv_at hl 0 rfl) ?_
        refine sv_get (own := RX7) (C := RX7) (Tf := TX7) (N := 10) (index := 10) (κ := (3, 1)) (v := .ref (h 1)) hx hb hts hown hK hW (fun _ h => List.mem_cons_of_mem _ (List.mem_append_left _ (List.mem_append_left _ (List.mem_append_left _ (List.mem_append_left _ (List.mem_append_left _ (List.mem_append_right _ h))))))) (sx_i 0 hB (by decide)) (sx_c0 hB) rfl 0 (by decide) rfl rfl (List.mem_of_getElem? (i := 2) rfl) dX7_deal_87 ?_
        refine sv_get (own := RX7) (C := RX2) (Tf := TX2) (N := 8) (index := 116) (κ := (3, 5)) (v := .ref (h 6)) hx hb hts hown hK hW (fun _ h => List.mem_cons_of_mem _ (List.mem_append_left _ (List.mem_append_left _ (List.mem_append_left _ (List.mem_append_left _ (List.mem_append_right _ h)))))) (sx_i 1 hB (by decide)) (sx_c1 hB) rfl 4 (by decide) rfl rfl (List.mem_of_getElem? (i := 6) rfl) dX7_deal_90 ?_
        refine lv_iload hx hb dX7_deal_93 (lv_at hl 1 rfl) ?_
        refine lv_iconst (v := 1) hx hb dX7_deal_95 (by decide) ?_
        obtain ⟨hi18, hs⟩ := sp_g hs
        refine sv_iast hx hb hK hW (sx_i 6 hB (by decide)) (sx_c6 hB) 0 rfl hi18 dX7_deal_96 (fun σ19 H locs eσ19 hW => ?_)
        replace hs := sp_let hs eσ19
        obtain ⟨v20, ev20⟩ : ∃ y : Int32, y = x4 + 1 := ⟨_, rfl⟩
        replace hs := sp_let hs ev20
        refine lv_iinc (v := v20) (lv' := [(4, .int v20), (0, .ref (h 0))]) hx hb dX7_deal_97 hl (k := 1) rfl (by rw [ev20]; rfl) (by decide) rfl (fun ls hl => ?_)
        refine lv_goto (tgt := 58) hx hb dX7_deal_100 (by decide) ?_
        exact ih v20 σ19 H locs ls (lv_sub hl [1, 0] rfl) hW hs
set_option maxRecDepth 100000 in
set_option maxHeartbeats 4000000 in
theorem k_X7_deal {qK qV : Nat → Nat} {l : Launch} {D : va_G} {T : Nat → ClassId} {h : Nat → Nat} {θ : sv_T} {a1 : Int32} {σ : sv_S} {r : Int32} {σ' : sv_S} (hB : sx_base θ)  (hs : q_X7_deal θ a1 σ = some (r, σ')) : sv_Mi (sx_X qK qV) l D T (sx_tys T) h θ yX7_deal wsX7_deal (sv_rm 6 141) [.ref (h 0), .int a1] σ r σ' := by
  intro sz
  refine sv_enter (cc := cX7_deal) (maxL := 5) (ret := (some .int)) (Qc := fun A => va_Qi (fun r2 (_ : Unit) => r2 = r) (fun _ t => va_P D vwCl (sv_ws T h θ σ') t.heap) A) sx_XP (by decide) rfl (Nat.le_of_ble_eq_true rfl) ?_
  intro p e s m args below meth c A F hr hlk ls H hl hW
  have hx := F.1.1
  have hb := F.1.2.1
  have hts := F.1.2.2.2.2
  have hown := F.1.2.2.2.1
  have hK := F.2.1
  obtain ⟨locs, hlocs⟩ : ∃ z : List Loc, z = [] := ⟨_, rfl⟩
  rw [← hlocs] at hW ⊢
  have hl : lv_has ls 5 [(0, .ref (h 0)), (1, .int a1)] := hl
  unfold q_X7_deal at hs
  refine lv_aload_n hx hb dX7_deal_0 rfl (lv_at hl 0 rfl) ?_
  refine lv_iload_n hx hb dX7_deal_1 rfl (lv_at hl 1 rfl) ?_
  obtain ⟨r1, σ2, eσ2, hs⟩ := sp_bind hs
  refine sv_goQ (σ' := σ2) (r := r1) hW F.2.2.2.1 (sv_runV (C := RX7) F hW (k_X7_rowAt hB eσ2 H.size) gX7_deal_X7_rowAt rfl ⟨rfl, rfl⟩ 1 (by decide +kernel) (sv_room2 (by omega) (by omega)) (sx_i 0 hB (by decide)) (sx_c0 hB) rfl rfl hl.1 rfl (Nat.le_of_ble_eq_true rfl) dX7_deal_2 ⟨Nat.zero_le _, Nat.zero_le _⟩) (fun H locs hW => ?_)
  cases et3 : r1 with
  | none =>
    replace hs := sp_on hs et3
    refine W.eq (g2 := F0 m 5 ls [.null]) rfl ?_
    refine lv_astore_nN (lv' := [(2, .null), (0, .ref (h 0)), (1, .int a1)]) hx hb dX7_deal_5 rfl hl (by decide) rfl (fun ls hl => ?_)
    refine lv_aload_n hx hb dX7_deal_6 rfl (lv_at hl 1 rfl) ?_
    refine lv_aload_nN hx hb dX7_deal_7 rfl (lv_at hl 0 rfl) ?_
    obtain ⟨r4, σ5, eσ5, hs⟩ := sp_bind hs
    refine sv_goI (σ' := σ5) (r := r4) hW F.2.2.2.1 (sv_runV (C := RX7) F hW (k_X7_tourRefusal hB eσ5 H.size) gX7_deal_X7_tourRefusal rfl ⟨rfl, rfl⟩ 1 (by decide +kernel) (sv_room2 (by omega) (by omega)) (sx_i 0 hB (by decide)) (sx_c0 hB) rfl rfl hl.1 rfl (Nat.le_of_ble_eq_true rfl) dX7_deal_8 ⟨Nat.zero_le _, Nat.zero_le _⟩) (fun H locs hW => ?_)
    refine lv_istore_n (lv' := [(3, .int r4), (2, .null), (0, .ref (h 0)), (1, .int a1)]) hx hb dX7_deal_11 rfl hl (by decide) rfl (fun ls hl => ?_)
    refine lv_aload_nN hx hb dX7_deal_12 rfl (lv_at hl 1 rfl) ?_
    refine lv_ifnullN (tgt := 20) hx hb dX7_deal_13 (by decide) ?_
    refine lv_iload_n hx hb dX7_deal_20 rfl (lv_at hl 0 rfl) ?_
    cases hs
    exact sv_iret hx hb hr rfl hlk hW dX7_deal_21
  | some t3 =>
    replace hs := sp_os hs et3
    obtain ⟨ht3, hs⟩ := sp_p hs
    refine W.eq (g2 := F0 m 5 ls [.ref (h t3)]) rfl ?_
    refine lv_astore_n (lv' := [(2, .ref (h t3)), (0, .ref (h 0)), (1, .int a1)]) hx hb dX7_deal_5 rfl hl (by decide) rfl (fun ls hl => ?_)
    refine lv_aload_n hx hb dX7_deal_6 rfl (lv_at hl 1 rfl) ?_
    refine lv_aload_n hx hb dX7_deal_7 rfl (lv_at hl 0 rfl) ?_
    obtain ⟨r6, σ7, eσ7, hs⟩ := sp_bind hs
    refine sv_goI (σ' := σ7) (r := r6) hW F.2.2.2.1 (sv_runV (C := RX7) F hW (k_X7_tourRefusal hB eσ7 H.size) gX7_deal_X7_tourRefusal rfl ⟨rfl, rfl⟩ 1 (by decide +kernel) (sv_room2 (by omega) (by omega)) (sx_i 0 hB (by decide)) (sx_c0 hB) rfl rfl hl.1 rfl (Nat.le_of_ble_eq_true rfl) dX7_deal_8 ⟨Nat.zero_le _, Nat.zero_le _⟩) (fun H locs hW => ?_)
    refine lv_istore_n (lv' := [(3, .int r6), (2, .ref (h t3)), (0, .ref (h 0)), (1, .int a1)]) hx hb dX7_deal_11 rfl hl (by decide) rfl (fun ls hl => ?_)
    refine lv_aload_n hx hb dX7_deal_12 rfl (lv_at hl 1 rfl) ?_
    refine lv_ifnull hx hb dX7_deal_13 ?_
    refine lv_iload_n hx hb dX7_deal_16 rfl (lv_at hl 0 rfl) ?_
    refine lv_if_eq (tgt := 22) hx hb dX7_deal_17 (by decide) (fun c8 => ?_) (fun c8 => ?_)
    · replace hs := (sp_ite hs).1 c8
      refine lv_aload_n hx hb dX7_deal_22 rfl (lv_at hl 2 rfl) ?_
      refine sv_get (own := RX7) (C := RX7) (Tf := TX7) (N := 10) (index := 48) (κ := (3, 24)) (v := .ref (h 24)) hx hb hts hown hK hW (fun _ h => List.mem_cons_of_mem _ (List.mem_append_left _ (List.mem_append_left _ (List.mem_append_left _ (List.mem_append_left _ (List.mem_append_left _ (List.mem_append_right _ h))))))) (sx_i 0 hB (by decide)) (sx_c0 hB) rfl 8 (by decide) rfl rfl (List.mem_of_getElem? (i := 1) rfl) dX7_deal_23 ?_
      refine lv_aload_n hx hb dX7_deal_26 rfl (lv_at hl 2 rfl) ?_
      refine sv_get (own := RX7) (C := RX7) (Tf := TX7) (N := 10) (index := 10) (κ := (3, 1)) (v := .ref (h 1)) hx hb hts hown hK hW (fun _ h => List.mem_cons_of_mem _ (List.mem_append_left _ (List.mem_append_left _ (List.mem_append_left _ (List.mem_append_left _ (List.mem_append_left _ (List.mem_append_right _ h))))))) (sx_i 0 hB (by decide)) (sx_c0 hB) rfl 0 (by decide) rfl rfl (List.mem_of_getElem? (i := 2) rfl) dX7_deal_27 ?_
      refine sv_get (own := RX7) (C := RX2) (Tf := TX2) (N := 8) (index := 99) (κ := (3, 1)) (v := .ref (h 2)) hx hb hts hown hK hW (fun _ h => List.mem_cons_of_mem _ (List.mem_append_left _ (List.mem_append_left _ (List.mem_append_left _ (List.mem_append_left _ (List.mem_append_right _ h)))))) (sx_i 1 hB (by decide)) (sx_c1 hB) rfl 0 (by decide) rfl rfl (List.mem_of_getElem? (i := 3) rfl) dX7_deal_30 ?_
      obtain ⟨r9, σ10, eσ10, hs⟩ := sp_bind hs
      refine sv_goV (σ' := σ10) (r := r9) hW F.2.2.2.1 (sv_runV (C := RX3) F hW (k_X3_useRain hB (sv_oA_of (sx_i 2 hB (by decide)) (sx_c2 hB)) eσ10 H.size) gX7_deal_X3_useRain rfl ⟨rfl, rfl⟩ 1 (by decide +kernel) (sv_room2 (by omega) (by omega)) (sx_i 24 hB (by decide)) (sx_c24 hB) rfl rfl hl.1 rfl (Nat.le_of_ble_eq_true rfl) dX7_deal_33 ⟨Nat.zero_le _, Nat.zero_le _⟩) (fun H locs hW => ?_)
      refine lv_aload_n hx hb dX7_deal_36 rfl (lv_at hl 2 rfl) ?_
      refine sv_get (own := RX7) (C := RX7) (Tf := TX7) (N := 10) (index := 48) (κ := (3, 24)) (v := .ref (h 24)) hx hb hts hown hK hW (fun _ h => List.mem_cons_of_mem _ (List.mem_append_left _ (List.mem_append_left _ (List.mem_append_left _ (List.mem_append_left _ (List.mem_append_left _ (List.mem_append_right _ h))))))) (sx_i 0 hB (by decide)) (sx_c0 hB) rfl 8 (by decide) rfl rfl (List.mem_of_getElem? (i := 1) rfl) dX7_deal_37 ?_
      refine lv_aload_n hx hb dX7_deal_40 rfl (lv_at hl 2 rfl) ?_
      refine sv_get (own := RX7) (C := RX7) (Tf := TX7) (N := 10) (index := 10) (κ := (3, 1)) (v := .ref (h 1)) hx hb hts hown hK hW (fun _ h => List.mem_cons_of_mem _ (List.mem_append_left _ (List.mem_append_left _ (List.mem_append_left _ (List.mem_append_left _ (List.mem_append_left _ (List.mem_append_right _ h))))))) (sx_i 0 hB (by decide)) (sx_c0 hB) rfl 0 (by decide) rfl rfl (List.mem_of_getElem? (i := 2) rfl) dX7_deal_41 ?_
      refine lv_aload_n hx hb dX7_deal_44 rfl (lv_at hl 1 rfl) ?_
      refine sv_get (own := RX7) (C := RX5) (Tf := TX5) (N := 3) (index := 187) (κ := (3, 1)) (v := .ref (h (t3 + 1))) hx hb hts hown hK hW (fun _ h => List.mem_cons_of_mem _ (List.mem_append_left _ (List.mem_append_left _ (List.mem_append_left _ (List.mem_append_right _ h))))) ht3.1 ht3.2.1 rfl 0 (by decide) rfl rfl (List.mem_of_getElem? (i := 4) rfl) dX7_deal_45 ?_
      refine lv_aload_n hx hb dX7_deal_48 rfl (lv_at hl 1 rfl) ?_
      refine sv_get (own := RX7) (C := RX5) (Tf := TX5) (N := 3) (index := 190) (κ := (0, 0)) (v := .int (σ10.1 t3 2)) hx hb hts hown hK hW (fun _ h => List.mem_cons_of_mem _ (List.mem_append_left _ (List.mem_append_left _ (List.mem_append_left _ (List.mem_append_right _ h))))) ht3.1 ht3.2.1 rfl 2 (by decide) rfl rfl (List.mem_of_getElem? (i := 5) rfl) dX7_deal_49 ?_
      obtain ⟨r11, σ12, eσ12, hs⟩ := sp_bind hs
      refine sv_goV (σ' := σ12) (r := r11) hW F.2.2.2.1 (sv_runV (C := RX3) F hW (k_X3_run hB (sv_oA_of ht3.2.2.1 ht3.2.2.2) eσ12 H.size) gX7_deal_X3_run rfl ⟨rfl, rfl⟩ 3 (by decide +kernel) (sv_room2 (by omega) (by omega)) (sx_i 24 hB (by decide)) (sx_c24 hB) rfl rfl hl.1 rfl (Nat.le_of_ble_eq_true rfl) dX7_deal_52 ⟨Nat.zero_le _, Nat.zero_le _⟩) (fun H locs hW => ?_)
      refine lv_iconst (v := 0) hx hb dX7_deal_55 (by decide) ?_
      refine lv_istore (lv' := [(4, .int (0 : Int32)), (3, .int r6), (2, .ref (h t3)), (0, .ref (h 0)), (1, .int a1)]) hx hb dX7_deal_56 hl (by decide) rfl (fun ls hl => ?_)
      exact b_X7_deal_58 hB F hr hlk sv_N (0 : Int32) σ12 H locs ls (lv_sub hl [3, 0] rfl) hW hs
    · replace hs := (sp_ite hs).2 c8
      refine lv_iload_n hx hb dX7_deal_20 rfl (lv_at hl 0 rfl) ?_
      cases hs
      exact sv_iret hx hb hr rfl hlk hW dX7_deal_21
set_option maxRecDepth 100000 in
set_option maxHeartbeats 4000000 in
theorem k_X7_best {qK qV : Nat → Nat} {l : Launch} {D : va_G} {T : Nat → ClassId} {h : Nat → Nat} {θ : sv_T} {a1 : Int32} {σ : sv_S} {r : Int32} {σ' : sv_S} (hB : sx_base θ)  (hs : q_X7_best θ a1 σ = some (r, σ')) : sv_Mi (sx_X qK qV) l D T (sx_tys T) h θ yX7_best wsX7_best (sv_rm 31 1195) [.ref (h 0), .int a1] σ r σ' := by
  intro sz
  refine sv_enter (cc := cX7_best) (maxL := 3) (ret := (some .int)) (Qc := fun A => va_Qi (fun r2 (_ : Unit) => r2 = r) (fun _ t => va_P D vwCl (sv_ws T h θ σ') t.heap) A) sx_XP (by decide) rfl (Nat.le_of_ble_eq_true rfl) ?_
  intro p e s m args below meth c A F hr hlk ls H hl hW
  have hx := F.1.1
  have hb := F.1.2.1
  have hts := F.1.2.2.2.2
  have hown := F.1.2.2.2.1
  have hK := F.2.1
  obtain ⟨locs, hlocs⟩ : ∃ z : List Loc, z = [] := ⟨_, rfl⟩
  rw [← hlocs] at hW ⊢
  have hl : lv_has ls 3 [(0, .ref (h 0)), (1, .int a1)] := hl
  unfold q_X7_best at hs
  refine lv_iload_n hx hb dX7_best_0 rfl (lv_at hl 1 rfl) ?_
  refine lv_if_lt (tgt := 9) hx hb dX7_best_1 (by decide) (fun c1 => ?_) (fun c1 => ?_)
  · replace hs := (sp_ite hs).1 c1
    refine lv_bipush (v := -2) hx hb dX7_best_9 (by decide) ?_
    cases hs
    exact sv_iret hx hb hr rfl hlk hW dX7_best_11
  · replace hs := (sp_ite hs).2 c1
    refine lv_iload_n hx hb dX7_best_4 rfl (lv_at hl 1 rfl) ?_
    refine lv_iconst (v := 3) hx hb dX7_best_5 (by decide) ?_
    refine lv_icmp_le (tgt := 12) hx hb dX7_best_6 (by decide) (fun c2 => ?_) (fun c2 => ?_)
    · replace hs := (sp_ite hs).1 c2
      refine lv_aload_n hx hb dX7_best_12 rfl (lv_at hl 0 rfl) ?_
      refine sv_get (own := RX7) (C := RX7) (Tf := TX7) (N := 10) (index := 48) (κ := (3, 24)) (v := .ref (h 24)) hx hb hts hown hK hW (fun _ h => List.mem_cons_of_mem _ (List.mem_append_left _ (List.mem_append_left _ (List.mem_append_left _ (List.mem_append_left _ (List.mem_append_right _ h)))))) (sx_i 0 hB (by decide)) (sx_c0 hB) rfl 8 (by decide) rfl rfl (List.mem_of_getElem? (i := 1) rfl) dX7_best_13 ?_
      refine lv_aload_n hx hb dX7_best_16 rfl (lv_at hl 0 rfl) ?_
      refine sv_get (own := RX7) (C := RX7) (Tf := TX7) (N := 10) (index := 10) (κ := (3, 1)) (v := .ref (h 1)) hx hb hts hown hK hW (fun _ h => List.mem_cons_of_mem _ (List.mem_append_left _ (List.mem_append_left _ (List.mem_append_left _ (List.mem_append_left _ (List.mem_append_right _ h)))))) (sx_i 0 hB (by decide)) (sx_c0 hB) rfl 0 (by decide) rfl rfl (List.mem_of_getElem? (i := 2) rfl) dX7_best_17 ?_
      obtain ⟨r3, σ4, eσ4, hs⟩ := sp_bind hs
      refine sv_goV (σ' := σ4) (r := r3) hW F.2.2.2.1 (sv_runV (C := RX3) F hW (k_X3_prepare hB eσ4 H.size) gX7_best_X3_prepare rfl ⟨rfl, rfl⟩ 1 (by decide +kernel) (sv_room2 (by omega) (by omega)) (sx_i 24 hB (by decide)) (sx_c24 hB) rfl rfl hl.1 rfl (Nat.le_of_ble_eq_true rfl) dX7_best_20 ⟨Nat.zero_le _, Nat.zero_le _⟩) (fun H locs hW => ?_)
      refine lv_aload_n hx hb dX7_best_23 rfl (lv_at hl 0 rfl) ?_
      refine sv_get (own := RX7) (C := RX7) (Tf := TX7) (N := 10) (index := 48) (κ := (3, 24)) (v := .ref (h 24)) hx hb hts hown hK hW (fun _ h => List.mem_cons_of_mem _ (List.mem_append_left _ (List.mem_append_left _ (List.mem_append_left _ (List.mem_append_left _ (List.mem_append_right _ h)))))) (sx_i 0 hB (by decide)) (sx_c0 hB) rfl 8 (by decide) rfl rfl (List.mem_of_getElem? (i := 1) rfl) dX7_best_24 ?_
      refine lv_aload_n hx hb dX7_best_27 rfl (lv_at hl 0 rfl) ?_
      refine sv_get (own := RX7) (C := RX7) (Tf := TX7) (N := 10) (index := 48) (κ := (3, 24)) (v := .ref (h 24)) hx hb hts hown hK hW (fun _ h => List.mem_cons_of_mem _ (List.mem_append_left _ (List.mem_append_left _ (List.mem_append_left _ (List.mem_append_left _ (List.mem_append_right _ h)))))) (sx_i 0 hB (by decide)) (sx_c0 hB) rfl 8 (by decide) rfl rfl (List.mem_of_getElem? (i := 1) rfl) dX7_best_28 ?_
      refine sv_get (own := RX7) (C := RX3) (Tf := TX3) (N := 17) (index := 220) (κ := (0, 0)) (v := .int (σ4.1 24 11)) hx hb hts hown hK hW (fun _ h => List.mem_cons_of_mem _ (List.mem_append_left _ (List.mem_append_left _ (List.mem_append_left _ (List.mem_append_right _ h))))) (sx_i 24 hB (by decide)) (sx_c24 hB) rfl 11 (by decide) rfl rfl (List.mem_of_getElem? (i := 3) rfl) dX7_best_31 ?_
      refine lv_bipush (v := 6) hx hb dX7_best_34 (by decide) ?_
      obtain ⟨r5, σ6, eσ6, hs⟩ := sp_bind hs
      refine sv_goI (σ' := σ6) (r := r5) hW F.2.2.2.1 (sv_runV (C := RX3) F hW (k_X3_seek hB eσ6 H.size) gX7_best_X3_seek rfl ⟨rfl, rfl⟩ 2 (by decide +kernel) (sv_room2 (by omega) (by omega)) (sx_i 24 hB (by decide)) (sx_c24 hB) rfl rfl hl.1 rfl (Nat.le_of_ble_eq_true rfl) dX7_best_36 ⟨Nat.zero_le _, Nat.zero_le _⟩) (fun H locs hW => ?_)
      refine lv_istore_n (lv' := [(2, .int r5), (0, .ref (h 0)), (1, .int a1)]) hx hb dX7_best_39 rfl hl (by decide) rfl (fun ls hl => ?_)
      refine lv_iload_n hx hb dX7_best_40 rfl (lv_at hl 2 rfl) ?_
      by_cases c7 : a1 = 0
      · replace hs := (sp_ite hs).1 c7
        refine lv_lookup (off := 27) (tgt := 68) hx hb dX7_best_41 (by decide) (by rw [c7]; decide) (by decide) ?_
        refine lv_aload_n hx hb dX7_best_68 rfl (lv_at hl 1 rfl) ?_
        refine sv_get (own := RX7) (C := RX7) (Tf := TX7) (N := 10) (index := 48) (κ := (3, 24)) (v := .ref (h 24)) hx hb hts hown hK hW (fun _ h => List.mem_cons_of_mem _ (List.mem_append_left _ (List.mem_append_left _ (List.mem_append_left _ (List.mem_append_left _ (List.mem_append_right _ h)))))) (sx_i 0 hB (by decide)) (sx_c0 hB) rfl 8 (by decide) rfl rfl (List.mem_of_getElem? (i := 1) rfl) dX7_best_69 ?_
        refine sv_get (own := RX7) (C := RX3) (Tf := TX3) (N := 17) (index := 226) (κ := (0, 0)) (v := .int (σ6.1 24 14)) hx hb hts hown hK hW (fun _ h => List.mem_cons_of_mem _ (List.mem_append_left _ (List.mem_append_left _ (List.mem_append_left _ (List.mem_append_right _ h))))) (sx_i 24 hB (by decide)) (sx_c24 hB) rfl 14 (by decide) rfl rfl (List.mem_of_getElem? (i := 4) rfl) dX7_best_72 ?_
        cases hs
        exact sv_iret hx hb hr rfl hlk hW dX7_best_75
      replace hs := (sp_ite hs).2 c7
      by_cases c8 : a1 = 2
      · replace hs := (sp_ite hs).1 c8
        refine lv_lookup (off := 35) (tgt := 76) hx hb dX7_best_41 (by decide) (by rw [c8]; decide) (by decide) ?_
        refine lv_aload_n hx hb dX7_best_76 rfl (lv_at hl 1 rfl) ?_
        refine sv_get (own := RX7) (C := RX7) (Tf := TX7) (N := 10) (index := 48) (κ := (3, 24)) (v := .ref (h 24)) hx hb hts hown hK hW (fun _ h => List.mem_cons_of_mem _ (List.mem_append_left _ (List.mem_append_left _ (List.mem_append_left _ (List.mem_append_left _ (List.mem_append_right _ h)))))) (sx_i 0 hB (by decide)) (sx_c0 hB) rfl 8 (by decide) rfl rfl (List.mem_of_getElem? (i := 1) rfl) dX7_best_77 ?_
        refine lv_iload_n hx hb dX7_best_80 rfl (lv_at hl 0 rfl) ?_
        obtain ⟨r9, σ10, eσ10, hs⟩ := sp_bind hs
        refine sv_goI (σ' := σ10) (r := r9) hW F.2.2.2.1 (sv_runV (C := RX3) F hW (k_X3_leave hB eσ10 H.size) gX7_best_X3_leave rfl ⟨rfl, rfl⟩ 1 (by decide +kernel) (sv_room2 (by omega) (by omega)) (sx_i 24 hB (by decide)) (sx_c24 hB) rfl rfl hl.1 rfl (Nat.le_of_ble_eq_true rfl) dX7_best_81 ⟨Nat.zero_le _, Nat.zero_le _⟩) (fun H locs hW => ?_)
        cases hs
        exact sv_iret hx hb hr rfl hlk hW dX7_best_84
      replace hs := (sp_ite hs).2 c8
      refine lv_lookup (off := 44) (tgt := 85) hx hb dX7_best_41 (by decide) ((lv_osw c7 (by decide)).trans ((lv_osw c8 (by decide)).trans rfl)) (by decide) ?_
      refine lv_iload_n hx hb dX7_best_85 rfl (lv_at hl 0 rfl) ?_
      cases hs
      exact sv_iret hx hb hr rfl hlk hW dX7_best_86
    · replace hs := (sp_ite hs).2 c2
      refine lv_bipush (v := -2) hx hb dX7_best_9 (by decide) ?_
      cases hs
      exact sv_iret hx hb hr rfl hlk hW dX7_best_11
set_option maxRecDepth 100000 in
set_option maxHeartbeats 4000000 in
theorem k_X7_few {qK qV : Nat → Nat} {l : Launch} {D : va_G} {T : Nat → ClassId} {h : Nat → Nat} {θ : sv_T} {a1 : Int32} {σ : sv_S} {r : Int32} {σ' : sv_S} (hB : sx_base θ)  (hs : q_X7_few θ a1 σ = some (r, σ')) : sv_Mi (sx_X qK qV) l D T (sx_tys T) h θ yX7_few wsX7_few (sv_rm 30 1173) [.ref (h 0), .int a1] σ r σ' := by
  intro sz
  refine sv_enter (cc := cX7_few) (maxL := 2) (ret := (some .int)) (Qc := fun A => va_Qi (fun r2 (_ : Unit) => r2 = r) (fun _ t => va_P D vwCl (sv_ws T h θ σ') t.heap) A) sx_XP (by decide) rfl (Nat.le_of_ble_eq_true rfl) ?_
  intro p e s m args below meth c A F hr hlk ls H hl hW
  have hx := F.1.1
  have hb := F.1.2.1
  have hts := F.1.2.2.2.2
  have hown := F.1.2.2.2.1
  have hK := F.2.1
  obtain ⟨locs, hlocs⟩ : ∃ z : List Loc, z = [] := ⟨_, rfl⟩
  rw [← hlocs] at hW ⊢
  have hl : lv_has ls 2 [(0, .ref (h 0)), (1, .int a1)] := hl
  unfold q_X7_few at hs
  refine lv_iload_n hx hb dX7_few_0 rfl (lv_at hl 1 rfl) ?_
  refine lv_if_lt (tgt := 10) hx hb dX7_few_1 (by decide) (fun c1 => ?_) (fun c1 => ?_)
  · replace hs := (sp_ite hs).1 c1
    refine lv_bipush (v := -2) hx hb dX7_few_10 (by decide) ?_
    cases hs
    exact sv_iret hx hb hr rfl hlk hW dX7_few_12
  · replace hs := (sp_ite hs).2 c1
    refine lv_iload_n hx hb dX7_few_4 rfl (lv_at hl 1 rfl) ?_
    refine lv_bipush (v := 6) hx hb dX7_few_5 (by decide) ?_
    refine lv_icmp_le (tgt := 13) hx hb dX7_few_7 (by decide) (fun c2 => ?_) (fun c2 => ?_)
    · replace hs := (sp_ite hs).1 c2
      refine lv_aload_n hx hb dX7_few_13 rfl (lv_at hl 0 rfl) ?_
      refine sv_get (own := RX7) (C := RX7) (Tf := TX7) (N := 10) (index := 48) (κ := (3, 24)) (v := .ref (h 24)) hx hb hts hown hK hW (fun _ h => List.mem_cons_of_mem _ (List.mem_append_left _ (List.mem_append_left _ (List.mem_append_left _ (List.mem_append_left _ (List.mem_append_right _ h)))))) (sx_i 0 hB (by decide)) (sx_c0 hB) rfl 8 (by decide) rfl rfl (List.mem_of_getElem? (i := 1) rfl) dX7_few_14 ?_
      refine lv_aload_n hx hb dX7_few_17 rfl (lv_at hl 0 rfl) ?_
      refine sv_get (own := RX7) (C := RX7) (Tf := TX7) (N := 10) (index := 10) (κ := (3, 1)) (v := .ref (h 1)) hx hb hts hown hK hW (fun _ h => List.mem_cons_of_mem _ (List.mem_append_left _ (List.mem_append_left _ (List.mem_append_left _ (List.mem_append_left _ (List.mem_append_right _ h)))))) (sx_i 0 hB (by decide)) (sx_c0 hB) rfl 0 (by decide) rfl rfl (List.mem_of_getElem? (i := 2) rfl) dX7_few_18 ?_
      obtain ⟨r3, σ4, eσ4, hs⟩ := sp_bind hs
      refine sv_goV (σ' := σ4) (r := r3) hW F.2.2.2.1 (sv_runV (C := RX3) F hW (k_X3_prepare hB eσ4 H.size) gX7_few_X3_prepare rfl ⟨rfl, rfl⟩ 1 (by decide +kernel) (sv_room2 (by omega) (by omega)) (sx_i 24 hB (by decide)) (sx_c24 hB) rfl rfl hl.1 rfl (Nat.le_of_ble_eq_true rfl) dX7_few_21 ⟨Nat.zero_le _, Nat.zero_le _⟩) (fun H locs hW => ?_)
      refine lv_aload_n hx hb dX7_few_24 rfl (lv_at hl 0 rfl) ?_
      refine sv_get (own := RX7) (C := RX7) (Tf := TX7) (N := 10) (index := 48) (κ := (3, 24)) (v := .ref (h 24)) hx hb hts hown hK hW (fun _ h => List.mem_cons_of_mem _ (List.mem_append_left _ (List.mem_append_left _ (List.mem_append_left _ (List.mem_append_left _ (List.mem_append_right _ h)))))) (sx_i 0 hB (by decide)) (sx_c0 hB) rfl 8 (by decide) rfl rfl (List.mem_of_getElem? (i := 1) rfl) dX7_few_25 ?_
      refine lv_aload_n hx hb dX7_few_28 rfl (lv_at hl 0 rfl) ?_
      refine sv_get (own := RX7) (C := RX7) (Tf := TX7) (N := 10) (index := 48) (κ := (3, 24)) (v := .ref (h 24)) hx hb hts hown hK hW (fun _ h => List.mem_cons_of_mem _ (List.mem_append_left _ (List.mem_append_left _ (List.mem_append_left _ (List.mem_append_left _ (List.mem_append_right _ h)))))) (sx_i 0 hB (by decide)) (sx_c0 hB) rfl 8 (by decide) rfl rfl (List.mem_of_getElem? (i := 1) rfl) dX7_few_29 ?_
      refine sv_get (own := RX7) (C := RX3) (Tf := TX3) (N := 17) (index := 220) (κ := (0, 0)) (v := .int (σ4.1 24 11)) hx hb hts hown hK hW (fun _ h => List.mem_cons_of_mem _ (List.mem_append_left _ (List.mem_append_left _ (List.mem_append_left _ (List.mem_append_right _ h))))) (sx_i 24 hB (by decide)) (sx_c24 hB) rfl 11 (by decide) rfl rfl (List.mem_of_getElem? (i := 3) rfl) dX7_few_32 ?_
      refine lv_iload_n hx hb dX7_few_35 rfl (lv_at hl 1 rfl) ?_
      obtain ⟨r5, σ6, eσ6, hs⟩ := sp_bind hs
      refine sv_goI (σ' := σ6) (r := r5) hW F.2.2.2.1 (sv_runV (C := RX3) F hW (k_X3_seek hB eσ6 H.size) gX7_few_X3_seek rfl ⟨rfl, rfl⟩ 2 (by decide +kernel) (sv_room2 (by omega) (by omega)) (sx_i 24 hB (by decide)) (sx_c24 hB) rfl rfl hl.1 rfl (Nat.le_of_ble_eq_true rfl) dX7_few_36 ⟨Nat.zero_le _, Nat.zero_le _⟩) (fun H locs hW => ?_)
      cases hs
      exact sv_iret hx hb hr rfl hlk hW dX7_few_39
    · replace hs := (sp_ite hs).2 c2
      refine lv_bipush (v := -2) hx hb dX7_few_10 (by decide) ?_
      cases hs
      exact sv_iret hx hb hr rfl hlk hW dX7_few_12
set_option maxRecDepth 100000 in
set_option maxHeartbeats 4000000 in
theorem k_X7_water {qK qV : Nat → Nat} {l : Launch} {D : va_G} {T : Nat → ClassId} {h : Nat → Nat} {θ : sv_T} {a1 : Int32} {σ : sv_S} {r : Int32} {σ' : sv_S} (hB : sx_base θ)  (hs : q_X7_water θ a1 σ = some (r, σ')) : sv_Mi (sx_X qK qV) l D T (sx_tys T) h θ yX7_water wsX7_water (sv_rm 32 1223) [.ref (h 0), .int a1] σ r σ' := by
  intro sz
  refine sv_enter (cc := cX7_water) (maxL := 2) (ret := (some .int)) (Qc := fun A => va_Qi (fun r2 (_ : Unit) => r2 = r) (fun _ t => va_P D vwCl (sv_ws T h θ σ') t.heap) A) sx_XP (by decide) rfl (Nat.le_of_ble_eq_true rfl) ?_
  intro p e s m args below meth c A F hr hlk ls H hl hW
  have hx := F.1.1
  have hb := F.1.2.1
  have hts := F.1.2.2.2.2
  have hown := F.1.2.2.2.1
  have hK := F.2.1
  obtain ⟨locs, hlocs⟩ : ∃ z : List Loc, z = [] := ⟨_, rfl⟩
  rw [← hlocs] at hW ⊢
  have hl : lv_has ls 2 [(0, .ref (h 0)), (1, .int a1)] := hl
  unfold q_X7_water at hs
  refine lv_iload_n hx hb dX7_water_0 rfl (lv_at hl 1 rfl) ?_
  refine lv_if_lt (tgt := 9) hx hb dX7_water_1 (by decide) (fun c1 => ?_) (fun c1 => ?_)
  · replace hs := (sp_ite hs).1 c1
    refine lv_bipush (v := -2) hx hb dX7_water_9 (by decide) ?_
    cases hs
    exact sv_iret hx hb hr rfl hlk hW dX7_water_11
  · replace hs := (sp_ite hs).2 c1
    refine lv_iload_n hx hb dX7_water_4 rfl (lv_at hl 1 rfl) ?_
    refine lv_iconst (v := 1) hx hb dX7_water_5 (by decide) ?_
    refine lv_icmp_le (tgt := 12) hx hb dX7_water_6 (by decide) (fun c2 => ?_) (fun c2 => ?_)
    · replace hs := (sp_ite hs).1 c2
      refine lv_aload_n hx hb dX7_water_12 rfl (lv_at hl 0 rfl) ?_
      refine sv_get (own := RX7) (C := RX7) (Tf := TX7) (N := 10) (index := 10) (κ := (3, 1)) (v := .ref (h 1)) hx hb hts hown hK hW (fun _ h => List.mem_cons_of_mem _ (List.mem_append_left _ (List.mem_append_left _ (List.mem_append_left _ (List.mem_append_left _ (List.mem_append_right _ h)))))) (sx_i 0 hB (by decide)) (sx_c0 hB) rfl 0 (by decide) rfl rfl (List.mem_of_getElem? (i := 1) rfl) dX7_water_13 ?_
      refine sv_get (own := RX7) (C := RX2) (Tf := TX2) (N := 8) (index := 123) (κ := (0, 0)) (v := .int (σ.1 1 6)) hx hb hts hown hK hW (fun _ h => List.mem_cons_of_mem _ (List.mem_append_left _ (List.mem_append_left _ (List.mem_append_left _ (List.mem_append_right _ h))))) (sx_i 1 hB (by decide)) (sx_c1 hB) rfl 6 (by decide) rfl rfl (List.mem_of_getElem? (i := 2) rfl) dX7_water_16 ?_
      refine lv_aload_n hx hb dX7_water_19 rfl (lv_at hl 0 rfl) ?_
      refine sv_get (own := RX7) (C := RX7) (Tf := TX7) (N := 10) (index := 10) (κ := (3, 1)) (v := .ref (h 1)) hx hb hts hown hK hW (fun _ h => List.mem_cons_of_mem _ (List.mem_append_left _ (List.mem_append_left _ (List.mem_append_left _ (List.mem_append_left _ (List.mem_append_right _ h)))))) (sx_i 0 hB (by decide)) (sx_c0 hB) rfl 0 (by decide) rfl rfl (List.mem_of_getElem? (i := 1) rfl) dX7_water_20 ?_
      obtain ⟨r3, σ4, eσ4, hs⟩ := sp_bind hs
      refine sv_goI (σ' := σ4) (r := r3) hW F.2.2.2.1 (sv_runV (C := RX2) F hW (k_X2_shakenCount hB eσ4 H.size) gX7_water_X2_shakenCount rfl ⟨rfl, rfl⟩ 0 (by decide +kernel) (sv_room2 (by omega) (by omega)) (sx_i 1 hB (by decide)) (sx_c1 hB) rfl rfl hl.1 rfl (Nat.le_of_ble_eq_true rfl) dX7_water_23 ⟨Nat.zero_le _, Nat.zero_le _⟩) (fun H locs hW => ?_)
      refine lv_isub hx hb dX7_water_26 ?_
      refine lv_iconst (v := 4) hx hb dX7_water_27 (by decide) ?_
      refine lv_icmp_le (tgt := 34) hx hb dX7_water_28 (by decide) (fun c5 => ?_) (fun c5 => ?_)
      · replace hs := (sp_ite hs).1 c5
        refine lv_aload_n hx hb dX7_water_34 rfl (lv_at hl 0 rfl) ?_
        refine sv_get (own := RX7) (C := RX7) (Tf := TX7) (N := 10) (index := 48) (κ := (3, 24)) (v := .ref (h 24)) hx hb hts hown hK hW (fun _ h => List.mem_cons_of_mem _ (List.mem_append_left _ (List.mem_append_left _ (List.mem_append_left _ (List.mem_append_left _ (List.mem_append_right _ h)))))) (sx_i 0 hB (by decide)) (sx_c0 hB) rfl 8 (by decide) rfl rfl (List.mem_of_getElem? (i := 3) rfl) dX7_water_35 ?_
        refine lv_aload_n hx hb dX7_water_38 rfl (lv_at hl 0 rfl) ?_
        refine sv_get (own := RX7) (C := RX7) (Tf := TX7) (N := 10) (index := 10) (κ := (3, 1)) (v := .ref (h 1)) hx hb hts hown hK hW (fun _ h => List.mem_cons_of_mem _ (List.mem_append_left _ (List.mem_append_left _ (List.mem_append_left _ (List.mem_append_left _ (List.mem_append_right _ h)))))) (sx_i 0 hB (by decide)) (sx_c0 hB) rfl 0 (by decide) rfl rfl (List.mem_of_getElem? (i := 1) rfl) dX7_water_39 ?_
        obtain ⟨r6, σ7, eσ7, hs⟩ := sp_bind hs
        refine sv_goV (σ' := σ7) (r := r6) hW F.2.2.2.1 (sv_runV (C := RX3) F hW (k_X3_prepare hB eσ7 H.size) gX7_water_X3_prepare rfl ⟨rfl, rfl⟩ 1 (by decide +kernel) (sv_room2 (by omega) (by omega)) (sx_i 24 hB (by decide)) (sx_c24 hB) rfl rfl hl.1 rfl (Nat.le_of_ble_eq_true rfl) dX7_water_42 ⟨Nat.zero_le _, Nat.zero_le _⟩) (fun H locs hW => ?_)
        refine lv_aload_n hx hb dX7_water_45 rfl (lv_at hl 0 rfl) ?_
        refine sv_get (own := RX7) (C := RX7) (Tf := TX7) (N := 10) (index := 48) (κ := (3, 24)) (v := .ref (h 24)) hx hb hts hown hK hW (fun _ h => List.mem_cons_of_mem _ (List.mem_append_left _ (List.mem_append_left _ (List.mem_append_left _ (List.mem_append_left _ (List.mem_append_right _ h)))))) (sx_i 0 hB (by decide)) (sx_c0 hB) rfl 8 (by decide) rfl rfl (List.mem_of_getElem? (i := 3) rfl) dX7_water_46 ?_
        refine lv_aload_n hx hb dX7_water_49 rfl (lv_at hl 0 rfl) ?_
        refine sv_get (own := RX7) (C := RX7) (Tf := TX7) (N := 10) (index := 10) (κ := (3, 1)) (v := .ref (h 1)) hx hb hts hown hK hW (fun _ h => List.mem_cons_of_mem _ (List.mem_append_left _ (List.mem_append_left _ (List.mem_append_left _ (List.mem_append_left _ (List.mem_append_right _ h)))))) (sx_i 0 hB (by decide)) (sx_c0 hB) rfl 0 (by decide) rfl rfl (List.mem_of_getElem? (i := 1) rfl) dX7_water_50 ?_
        obtain ⟨r8, σ9, eσ9, hs⟩ := sp_bind hs
        refine sv_goV (σ' := σ9) (r := r8) hW F.2.2.2.1 (sv_runV (C := RX3) F hW (k_X3_waterAll hB eσ9 H.size) gX7_water_X3_waterAll rfl ⟨rfl, rfl⟩ 1 (by decide +kernel) (sv_room2 (by omega) (by omega)) (sx_i 24 hB (by decide)) (sx_c24 hB) rfl rfl hl.1 rfl (Nat.le_of_ble_eq_true rfl) dX7_water_53 ⟨Nat.zero_le _, Nat.zero_le _⟩) (fun H locs hW => ?_)
        refine lv_iload_n hx hb dX7_water_56 rfl (lv_at hl 1 rfl) ?_
        refine lv_if_ne (tgt := 70) hx hb dX7_water_57 (by decide) (fun c10 => ?_) (fun c10 => ?_)
        · replace hs := (sp_ite hs).2 c10
          refine lv_aload_n hx hb dX7_water_70 rfl (lv_at hl 0 rfl) ?_
          refine sv_get (own := RX7) (C := RX7) (Tf := TX7) (N := 10) (index := 48) (κ := (3, 24)) (v := .ref (h 24)) hx hb hts hown hK hW (fun _ h => List.mem_cons_of_mem _ (List.mem_append_left _ (List.mem_append_left _ (List.mem_append_left _ (List.mem_append_left _ (List.mem_append_right _ h)))))) (sx_i 0 hB (by decide)) (sx_c0 hB) rfl 8 (by decide) rfl rfl (List.mem_of_getElem? (i := 3) rfl) dX7_water_71 ?_
          refine sv_get (own := RX7) (C := RX3) (Tf := TX3) (N := 17) (index := 238) (κ := (0, 0)) (v := .int (σ9.1 24 16)) hx hb hts hown hK hW (fun _ h => List.mem_cons_of_mem _ (List.mem_append_left _ (List.mem_append_left _ (List.mem_append_right _ h)))) (sx_i 24 hB (by decide)) (sx_c24 hB) rfl 16 (by decide) rfl rfl (List.mem_of_getElem? (i := 5) rfl) dX7_water_74 ?_
          cases hs
          exact sv_iret hx hb hr rfl hlk hW dX7_water_77
        · replace hs := (sp_ite hs).1 c10
          refine lv_aload_n hx hb dX7_water_60 rfl (lv_at hl 0 rfl) ?_
          refine sv_get (own := RX7) (C := RX7) (Tf := TX7) (N := 10) (index := 48) (κ := (3, 24)) (v := .ref (h 24)) hx hb hts hown hK hW (fun _ h => List.mem_cons_of_mem _ (List.mem_append_left _ (List.mem_append_left _ (List.mem_append_left _ (List.mem_append_left _ (List.mem_append_right _ h)))))) (sx_i 0 hB (by decide)) (sx_c0 hB) rfl 8 (by decide) rfl rfl (List.mem_of_getElem? (i := 3) rfl) dX7_water_61 ?_
          refine sv_get (own := RX7) (C := RX3) (Tf := TX3) (N := 17) (index := 235) (κ := (0, 0)) (v := .int (σ9.1 24 15)) hx hb hts hown hK hW (fun _ h => List.mem_cons_of_mem _ (List.mem_append_left _ (List.mem_append_left _ (List.mem_append_right _ h)))) (sx_i 24 hB (by decide)) (sx_c24 hB) rfl 15 (by decide) rfl rfl (List.mem_of_getElem? (i := 4) rfl) dX7_water_64 ?_
          refine lv_goto (tgt := 77) hx hb dX7_water_67 (by decide) ?_
          cases hs
          exact sv_iret hx hb hr rfl hlk hW dX7_water_77
      · replace hs := (sp_ite hs).2 c5
        refine lv_bipush (v := -3) hx hb dX7_water_31 (by decide) ?_
        cases hs
        exact sv_iret hx hb hr rfl hlk hW dX7_water_33
    · replace hs := (sp_ite hs).2 c2
      refine lv_bipush (v := -2) hx hb dX7_water_9 (by decide) ?_
      cases hs
      exact sv_iret hx hb hr rfl hlk hW dX7_water_11
set_option maxRecDepth 100000 in
set_option maxHeartbeats 4000000 in
theorem k_X7_sky {qK qV : Nat → Nat} {l : Launch} {D : va_G} {T : Nat → ClassId} {h : Nat → Nat} {θ : sv_T} {a1 : Int32} {a2 : Int32} {σ : sv_S} {r : Int32} {σ' : sv_S} (hB : sx_base θ)  (hs : q_X7_sky θ a1 a2 σ = some (r, σ')) : sv_Mi (sx_X qK qV) l D T (sx_tys T) h θ yX7_sky wsX7_sky (sv_rm 4 91) [.ref (h 0), .int a1, .int a2] σ r σ' := by
  intro sz
  refine sv_enter (cc := cX7_sky) (maxL := 3) (ret := (some .int)) (Qc := fun A => va_Qi (fun r2 (_ : Unit) => r2 = r) (fun _ t => va_P D vwCl (sv_ws T h θ σ') t.heap) A) sx_XP (by decide) rfl (Nat.le_of_ble_eq_true rfl) ?_
  intro p e s m args below meth c A F hr hlk ls H hl hW
  have hx := F.1.1
  have hb := F.1.2.1
  have hts := F.1.2.2.2.2
  have hown := F.1.2.2.2.1
  have hK := F.2.1
  obtain ⟨locs, hlocs⟩ : ∃ z : List Loc, z = [] := ⟨_, rfl⟩
  rw [← hlocs] at hW ⊢
  have hl : lv_has ls 3 [(0, .ref (h 0)), (1, .int a1), (2, .int a2)] := hl
  unfold q_X7_sky at hs
  refine lv_iload_n hx hb dX7_sky_0 rfl (lv_at hl 1 rfl) ?_
  refine lv_if_lt (tgt := 18) hx hb dX7_sky_1 (by decide) (fun c1 => ?_) (fun c1 => ?_)
  · replace hs := (sp_ite hs).1 c1
    refine lv_bipush (v := -2) hx hb dX7_sky_18 (by decide) ?_
    cases hs
    exact sv_iret hx hb hr rfl hlk hW dX7_sky_20
  · replace hs := (sp_ite hs).2 c1
    refine lv_iload_n hx hb dX7_sky_4 rfl (lv_at hl 1 rfl) ?_
    refine lv_iconst (v := 2) hx hb dX7_sky_5 (by decide) ?_
    refine lv_icmp_ge (tgt := 18) hx hb dX7_sky_6 (by decide) (fun c2 => ?_) (fun c2 => ?_)
    · replace hs := (sp_ite hs).1 c2
      refine lv_bipush (v := -2) hx hb dX7_sky_18 (by decide) ?_
      cases hs
      exact sv_iret hx hb hr rfl hlk hW dX7_sky_20
    · replace hs := (sp_ite hs).2 c2
      refine lv_iload_n hx hb dX7_sky_9 rfl (lv_at hl 2 rfl) ?_
      refine lv_if_lt (tgt := 18) hx hb dX7_sky_10 (by decide) (fun c3 => ?_) (fun c3 => ?_)
      · replace hs := (sp_ite hs).1 c3
        refine lv_bipush (v := -2) hx hb dX7_sky_18 (by decide) ?_
        cases hs
        exact sv_iret hx hb hr rfl hlk hW dX7_sky_20
      · replace hs := (sp_ite hs).2 c3
        refine lv_iload_n hx hb dX7_sky_13 rfl (lv_at hl 2 rfl) ?_
        refine lv_iconst (v := 4) hx hb dX7_sky_14 (by decide) ?_
        refine lv_icmp_le (tgt := 21) hx hb dX7_sky_15 (by decide) (fun c4 => ?_) (fun c4 => ?_)
        · replace hs := (sp_ite hs).1 c4
          refine lv_iload_n hx hb dX7_sky_21 rfl (lv_at hl 2 rfl) ?_
          by_cases c5 : a2 = 0
          · replace hs := (sp_ite hs).1 c5
            refine lv_tableIn (off := 30) (tgt := 52) hx hb dX7_sky_22 (by rw [c5]; decide) (by rw [c5]; decide) (by rw [c5]; decide) (by decide) ?_
            refine lv_aload_n hx hb dX7_sky_52 rfl (lv_at hl 0 rfl) ?_
            refine sv_get (own := RX7) (C := RX7) (Tf := TX7) (N := 10) (index := 10) (κ := (3, 1)) (v := .ref (h 1)) hx hb hts hown hK hW (fun _ h => List.mem_cons_of_mem _ (List.mem_append_left _ (List.mem_append_right _ h))) (sx_i 0 hB (by decide)) (sx_c0 hB) rfl 0 (by decide) rfl rfl (List.mem_of_getElem? (i := 1) rfl) dX7_sky_53 ?_
            refine lv_iload_n hx hb dX7_sky_56 rfl (lv_at hl 1 rfl) ?_
            obtain ⟨r6, σ7, eσ7, hs⟩ := sp_bind hs
            refine sv_goI (σ' := σ7) (r := r6) hW F.2.2.2.1 (sv_runV (C := RX2) F hW (k_X2_showerLength hB eσ7 H.size) gX7_sky_X2_showerLength rfl ⟨rfl, rfl⟩ 1 (by decide +kernel) (sv_room2 (by omega) (by omega)) (sx_i 1 hB (by decide)) (sx_c1 hB) rfl rfl hl.1 rfl (Nat.le_of_ble_eq_true rfl) dX7_sky_57 ⟨Nat.zero_le _, Nat.zero_le _⟩) (fun H locs hW => ?_)
            cases hs
            exact sv_iret hx hb hr rfl hlk hW dX7_sky_60
          replace hs := (sp_ite hs).2 c5
          by_cases c8 : a2 = 1
          · replace hs := (sp_ite hs).1 c8
            refine lv_tableIn (off := 39) (tgt := 61) hx hb dX7_sky_22 (by rw [c8]; decide) (by rw [c8]; decide) (by rw [c8]; decide) (by decide) ?_
            refine lv_aload_n hx hb dX7_sky_61 rfl (lv_at hl 0 rfl) ?_
            refine sv_get (own := RX7) (C := RX7) (Tf := TX7) (N := 10) (index := 10) (κ := (3, 1)) (v := .ref (h 1)) hx hb hts hown hK hW (fun _ h => List.mem_cons_of_mem _ (List.mem_append_left _ (List.mem_append_right _ h))) (sx_i 0 hB (by decide)) (sx_c0 hB) rfl 0 (by decide) rfl rfl (List.mem_of_getElem? (i := 1) rfl) dX7_sky_62 ?_
            refine lv_iload_n hx hb dX7_sky_65 rfl (lv_at hl 1 rfl) ?_
            obtain ⟨r9, σ10, eσ10, hs⟩ := sp_bind hs
            refine sv_goI (σ' := σ10) (r := r9) hW F.2.2.2.1 (sv_runV (C := RX2) F hW (k_X2_showerStart hB eσ10 H.size) gX7_sky_X2_showerStart rfl ⟨rfl, rfl⟩ 1 (by decide +kernel) (sv_room2 (by omega) (by omega)) (sx_i 1 hB (by decide)) (sx_c1 hB) rfl rfl hl.1 rfl (Nat.le_of_ble_eq_true rfl) dX7_sky_66 ⟨Nat.zero_le _, Nat.zero_le _⟩) (fun H locs hW => ?_)
            cases hs
            exact sv_iret hx hb hr rfl hlk hW dX7_sky_69
          replace hs := (sp_ite hs).2 c8
          by_cases c11 : a2 = 2
          · replace hs := (sp_ite hs).1 c11
            refine lv_tableIn (off := 48) (tgt := 70) hx hb dX7_sky_22 (by rw [c11]; decide) (by rw [c11]; decide) (by rw [c11]; decide) (by decide) ?_
            refine lv_aload_n hx hb dX7_sky_70 rfl (lv_at hl 0 rfl) ?_
            refine sv_get (own := RX7) (C := RX7) (Tf := TX7) (N := 10) (index := 10) (κ := (3, 1)) (v := .ref (h 1)) hx hb hts hown hK hW (fun _ h => List.mem_cons_of_mem _ (List.mem_append_left _ (List.mem_append_right _ h))) (sx_i 0 hB (by decide)) (sx_c0 hB) rfl 0 (by decide) rfl rfl (List.mem_of_getElem? (i := 1) rfl) dX7_sky_71 ?_
            refine lv_iload_n hx hb dX7_sky_74 rfl (lv_at hl 1 rfl) ?_
            obtain ⟨r12, σ13, eσ13, hs⟩ := sp_bind hs
            refine sv_goI (σ' := σ13) (r := r12) hW F.2.2.2.1 (sv_runV (C := RX2) F hW (k_X2_wetHours hB eσ13 H.size) gX7_sky_X2_wetHours rfl ⟨rfl, rfl⟩ 1 (by decide +kernel) (sv_room2 (by omega) (by omega)) (sx_i 1 hB (by decide)) (sx_c1 hB) rfl rfl hl.1 rfl (Nat.le_of_ble_eq_true rfl) dX7_sky_75 ⟨Nat.zero_le _, Nat.zero_le _⟩) (fun H locs hW => ?_)
            cases hs
            exact sv_iret hx hb hr rfl hlk hW dX7_sky_78
          replace hs := (sp_ite hs).2 c11
          by_cases c14 : a2 = 3
          · replace hs := (sp_ite hs).1 c14
            refine lv_tableIn (off := 57) (tgt := 79) hx hb dX7_sky_22 (by rw [c14]; decide) (by rw [c14]; decide) (by rw [c14]; decide) (by decide) ?_
            refine lv_aload_n hx hb dX7_sky_79 rfl (lv_at hl 0 rfl) ?_
            refine sv_get (own := RX7) (C := RX7) (Tf := TX7) (N := 10) (index := 10) (κ := (3, 1)) (v := .ref (h 1)) hx hb hts hown hK hW (fun _ h => List.mem_cons_of_mem _ (List.mem_append_left _ (List.mem_append_right _ h))) (sx_i 0 hB (by decide)) (sx_c0 hB) rfl 0 (by decide) rfl rfl (List.mem_of_getElem? (i := 1) rfl) dX7_sky_80 ?_
            refine lv_iload_n hx hb dX7_sky_83 rfl (lv_at hl 1 rfl) ?_
            obtain ⟨r15, σ16, eσ16, hs⟩ := sp_bind hs
            refine sv_goI (σ' := σ16) (r := r15) hW F.2.2.2.1 (sv_runV (C := RX2) F hW (k_X2_allRain hB eσ16 H.size) gX7_sky_X2_allRain rfl ⟨rfl, rfl⟩ 1 (by decide +kernel) (sv_room2 (by omega) (by omega)) (sx_i 1 hB (by decide)) (sx_c1 hB) rfl rfl hl.1 rfl (Nat.le_of_ble_eq_true rfl) dX7_sky_84 ⟨Nat.zero_le _, Nat.zero_le _⟩) (fun H locs hW => ?_)
            cases hs
            exact sv_iret hx hb hr rfl hlk hW dX7_sky_87
          replace hs := (sp_ite hs).2 c14
          refine lv_tableOut (tgt := 88) hx hb dX7_sky_22 (by have := lv_neT (k := 0) (a := 0) c5 (by decide); have := lv_neT (k := 1) (a := 1) c8 (by decide); have := lv_neT (k := 2) (a := 2) c11 (by decide); have := lv_neT (k := 3) (a := 3) c14 (by decide); omega) (by decide) ?_
          refine lv_aload_n hx hb dX7_sky_88 rfl (lv_at hl 0 rfl) ?_
          refine sv_get (own := RX7) (C := RX7) (Tf := TX7) (N := 10) (index := 10) (κ := (3, 1)) (v := .ref (h 1)) hx hb hts hown hK hW (fun _ h => List.mem_cons_of_mem _ (List.mem_append_left _ (List.mem_append_right _ h))) (sx_i 0 hB (by decide)) (sx_c0 hB) rfl 0 (by decide) rfl rfl (List.mem_of_getElem? (i := 1) rfl) dX7_sky_89 ?_
          obtain ⟨r17, σ18, eσ18, hs⟩ := sp_bind hs
          refine sv_goI (σ' := σ18) (r := r17) hW F.2.2.2.1 (sv_runV (C := RX2) F hW (k_X2_shutHours hB eσ18 H.size) gX7_sky_X2_shutHours rfl ⟨rfl, rfl⟩ 0 (by decide +kernel) (sv_room2 (by omega) (by omega)) (sx_i 1 hB (by decide)) (sx_c1 hB) rfl rfl hl.1 rfl (Nat.le_of_ble_eq_true rfl) dX7_sky_92 ⟨Nat.zero_le _, Nat.zero_le _⟩) (fun H locs hW => ?_)
          cases hs
          exact sv_iret hx hb hr rfl hlk hW dX7_sky_95
        · replace hs := (sp_ite hs).2 c4
          refine lv_bipush (v := -2) hx hb dX7_sky_18 (by decide) ?_
          cases hs
          exact sv_iret hx hb hr rfl hlk hW dX7_sky_20
set_option maxRecDepth 100000 in
set_option maxHeartbeats 4000000 in
theorem k_X7_canTell {qK qV : Nat → Nat} {l : Launch} {D : va_G} {T : Nat → ClassId} {h : Nat → Nat} {θ : sv_T} {a1 : Int32} {σ : sv_S} {r : Int32} {σ' : sv_S} (hB : sx_base θ)  (hs : q_X7_canTell θ a1 σ = some (r, σ')) : sv_Mi (sx_X qK qV) l D T (sx_tys T) h θ yX7_canTell wsX7_canTell (sv_rm 0 0) [.ref (h 0), .int a1] σ r σ' := by
  intro sz
  refine sv_enter (cc := cX7_canTell) (maxL := 2) (ret := (some .boolean)) (Qc := fun A => va_Qi (fun r2 (_ : Unit) => r2 = r) (fun _ t => va_P D vwCl (sv_ws T h θ σ') t.heap) A) sx_XP (by decide) rfl (Nat.le_of_ble_eq_true rfl) ?_
  intro p e s m args below meth c A F hr hlk ls H hl hW
  have hx := F.1.1
  have hb := F.1.2.1
  have hts := F.1.2.2.2.2
  have hown := F.1.2.2.2.1
  have hK := F.2.1
  obtain ⟨locs, hlocs⟩ : ∃ z : List Loc, z = [] := ⟨_, rfl⟩
  rw [← hlocs] at hW ⊢
  have hl : lv_has ls 2 [(0, .ref (h 0)), (1, .int a1)] := hl
  unfold q_X7_canTell at hs
  refine lv_iload_n hx hb dX7_canTell_0 rfl (lv_at hl 1 rfl) ?_
  refine lv_if_lt (tgt := 9) hx hb dX7_canTell_1 (by decide) (fun c1 => ?_) (fun c1 => ?_)
  · replace hs := (sp_ite hs).1 c1
    refine lv_iload_n hx hb dX7_canTell_9 rfl (lv_at hl 1 rfl) ?_
    refine lv_bipush (v := 10) hx hb dX7_canTell_10 (by decide) ?_
    refine lv_icmp_lt (tgt := 25) hx hb dX7_canTell_12 (by decide) (fun c2 => ?_) (fun c2 => ?_)
    · replace hs := (sp_ite hs).1 c2
      refine lv_iconst (v := 0) hx hb dX7_canTell_25 (by decide) ?_
      cases hs
      exact sv_iret hx hb hr rfl hlk hW dX7_canTell_26
    · replace hs := (sp_ite hs).2 c2
      refine lv_iload_n hx hb dX7_canTell_15 rfl (lv_at hl 1 rfl) ?_
      refine lv_bipush (v := 34) hx hb dX7_canTell_16 (by decide) ?_
      refine lv_icmp_ge (tgt := 25) hx hb dX7_canTell_18 (by decide) (fun c3 => ?_) (fun c3 => ?_)
      · replace hs := (sp_ite hs).1 c3
        refine lv_iconst (v := 0) hx hb dX7_canTell_25 (by decide) ?_
        cases hs
        exact sv_iret hx hb hr rfl hlk hW dX7_canTell_26
      · replace hs := (sp_ite hs).2 c3
        refine lv_iconst (v := 1) hx hb dX7_canTell_21 (by decide) ?_
        refine lv_goto (tgt := 26) hx hb dX7_canTell_22 (by decide) ?_
        cases hs
        exact sv_iret hx hb hr rfl hlk hW dX7_canTell_26
  · replace hs := (sp_ite hs).2 c1
    refine lv_iload_n hx hb dX7_canTell_4 rfl (lv_at hl 1 rfl) ?_
    refine lv_iconst (v := 5) hx hb dX7_canTell_5 (by decide) ?_
    refine lv_icmp_le (tgt := 21) hx hb dX7_canTell_6 (by decide) (fun c4 => ?_) (fun c4 => ?_)
    · replace hs := (sp_ite hs).1 c4
      refine lv_iconst (v := 1) hx hb dX7_canTell_21 (by decide) ?_
      refine lv_goto (tgt := 26) hx hb dX7_canTell_22 (by decide) ?_
      cases hs
      exact sv_iret hx hb hr rfl hlk hW dX7_canTell_26
    · replace hs := (sp_ite hs).2 c4
      refine lv_iload_n hx hb dX7_canTell_9 rfl (lv_at hl 1 rfl) ?_
      refine lv_bipush (v := 10) hx hb dX7_canTell_10 (by decide) ?_
      refine lv_icmp_lt (tgt := 25) hx hb dX7_canTell_12 (by decide) (fun c5 => ?_) (fun c5 => ?_)
      · replace hs := (sp_ite hs).1 c5
        refine lv_iconst (v := 0) hx hb dX7_canTell_25 (by decide) ?_
        cases hs
        exact sv_iret hx hb hr rfl hlk hW dX7_canTell_26
      · replace hs := (sp_ite hs).2 c5
        refine lv_iload_n hx hb dX7_canTell_15 rfl (lv_at hl 1 rfl) ?_
        refine lv_bipush (v := 34) hx hb dX7_canTell_16 (by decide) ?_
        refine lv_icmp_ge (tgt := 25) hx hb dX7_canTell_18 (by decide) (fun c6 => ?_) (fun c6 => ?_)
        · replace hs := (sp_ite hs).1 c6
          refine lv_iconst (v := 0) hx hb dX7_canTell_25 (by decide) ?_
          cases hs
          exact sv_iret hx hb hr rfl hlk hW dX7_canTell_26
        · replace hs := (sp_ite hs).2 c6
          refine lv_iconst (v := 1) hx hb dX7_canTell_21 (by decide) ?_
          refine lv_goto (tgt := 26) hx hb dX7_canTell_22 (by decide) ?_
          cases hs
          exact sv_iret hx hb hr rfl hlk hW dX7_canTell_26
set_option maxRecDepth 100000 in
set_option maxHeartbeats 4000000 in
theorem k_X7_choicesOf {qK qV : Nat → Nat} {l : Launch} {D : va_G} {T : Nat → ClassId} {h : Nat → Nat} {θ : sv_T} {a1 : Int32} {σ : sv_S} {r : Int32} {σ' : sv_S} (hB : sx_base θ)  (hs : q_X7_choicesOf θ a1 σ = some (r, σ')) : sv_Mi (sx_X qK qV) l D T (sx_tys T) h θ yX7_choicesOf wsX7_choicesOf (sv_rm 0 0) [.ref (h 0), .int a1] σ r σ' := by
  intro sz
  refine sv_enter (cc := cX7_choicesOf) (maxL := 2) (ret := (some .int)) (Qc := fun A => va_Qi (fun r2 (_ : Unit) => r2 = r) (fun _ t => va_P D vwCl (sv_ws T h θ σ') t.heap) A) sx_XP (by decide) rfl (Nat.le_of_ble_eq_true rfl) ?_
  intro p e s m args below meth c A F hr hlk ls H hl hW
  have hx := F.1.1
  have hb := F.1.2.1
  have hts := F.1.2.2.2.2
  have hown := F.1.2.2.2.1
  have hK := F.2.1
  obtain ⟨locs, hlocs⟩ : ∃ z : List Loc, z = [] := ⟨_, rfl⟩
  rw [← hlocs] at hW ⊢
  have hl : lv_has ls 2 [(0, .ref (h 0)), (1, .int a1)] := hl
  unfold q_X7_choicesOf at hs
  refine lv_iload_n hx hb dX7_choicesOf_0 rfl (lv_at hl 1 rfl) ?_
  by_cases c1 : a1 = 1
  · replace hs := (sp_ite hs).1 c1
    refine lv_tableIn (off := 35) (tgt := 36) hx hb dX7_choicesOf_1 (by rw [c1]; decide) (by rw [c1]; decide) (by rw [c1]; decide) (by decide) ?_
    refine lv_bipush (v := 6) hx hb dX7_choicesOf_36 (by decide) ?_
    cases hs
    exact sv_iret hx hb hr rfl hlk hW dX7_choicesOf_38
  replace hs := (sp_ite hs).2 c1
  by_cases c2 : a1 = 2
  · replace hs := (sp_ite hs).1 c2
    refine lv_tableIn (off := 46) (tgt := 47) hx hb dX7_choicesOf_1 (by rw [c2]; decide) (by rw [c2]; decide) (by rw [c2]; decide) (by decide) ?_
    refine lv_bipush (v := 10) hx hb dX7_choicesOf_47 (by decide) ?_
    cases hs
    exact sv_iret hx hb hr rfl hlk hW dX7_choicesOf_49
  replace hs := (sp_ite hs).2 c2
  by_cases c3 : a1 = 3
  · replace hs := (sp_ite hs).1 c3
    refine lv_tableIn (off := 46) (tgt := 47) hx hb dX7_choicesOf_1 (by rw [c3]; decide) (by rw [c3]; decide) (by rw [c3]; decide) (by decide) ?_
    refine lv_bipush (v := 10) hx hb dX7_choicesOf_47 (by decide) ?_
    cases hs
    exact sv_iret hx hb hr rfl hlk hW dX7_choicesOf_49
  replace hs := (sp_ite hs).2 c3
  by_cases c4 : a1 = 4
  · replace hs := (sp_ite hs).1 c4
    refine lv_tableIn (off := 38) (tgt := 39) hx hb dX7_choicesOf_1 (by rw [c4]; decide) (by rw [c4]; decide) (by rw [c4]; decide) (by decide) ?_
    refine lv_bipush (v := 7) hx hb dX7_choicesOf_39 (by decide) ?_
    cases hs
    exact sv_iret hx hb hr rfl hlk hW dX7_choicesOf_41
  replace hs := (sp_ite hs).2 c4
  by_cases c5 : a1 = 5
  · replace hs := (sp_ite hs).1 c5
    refine lv_tableIn (off := 41) (tgt := 42) hx hb dX7_choicesOf_1 (by rw [c5]; decide) (by rw [c5]; decide) (by rw [c5]; decide) (by decide) ?_
    refine lv_aload_n hx hb dX7_choicesOf_42 rfl (lv_at hl 0 rfl) ?_
    refine sv_get (own := RX7) (C := RX7) (Tf := TX7) (N := 10) (index := 163) (κ := (0, 0)) (v := .int (σ.1 0 5)) hx hb hts hown hK hW (fun _ h => List.mem_cons_of_mem _ (List.mem_append_right _ h)) (sx_i 0 hB (by decide)) (sx_c0 hB) rfl 5 (by decide) rfl rfl (List.mem_of_getElem? (i := 1) rfl) dX7_choicesOf_43 ?_
    cases hs
    exact sv_iret hx hb hr rfl hlk hW dX7_choicesOf_46
  replace hs := (sp_ite hs).2 c5
  refine lv_tableOut (tgt := 47) hx hb dX7_choicesOf_1 (by have := lv_neT (k := 1) (a := 1) c1 (by decide); have := lv_neT (k := 2) (a := 2) c2 (by decide); have := lv_neT (k := 3) (a := 3) c3 (by decide); have := lv_neT (k := 4) (a := 4) c4 (by decide); have := lv_neT (k := 5) (a := 5) c5 (by decide); omega) (by decide) ?_
  refine lv_bipush (v := 10) hx hb dX7_choicesOf_47 (by decide) ?_
  cases hs
  exact sv_iret hx hb hr rfl hlk hW dX7_choicesOf_49
set_option maxRecDepth 100000 in
set_option maxHeartbeats 4000000 in
theorem k_X7_suppose {qK qV : Nat → Nat} {l : Launch} {D : va_G} {T : Nat → ClassId} {h : Nat → Nat} {θ : sv_T} {a1 : Int32} {a2 : Int32} {a3 : Int32} {σ : sv_S} {r : Unit} {σ' : sv_S} (hB : sx_base θ)  (hs : q_X7_suppose θ a1 a2 a3 σ = some (r, σ')) : sv_Mv (sx_X qK qV) l D T (sx_tys T) h θ yX7_suppose wsX7_suppose (sv_rm 1 22) [.ref (h 0), .int a1, .int a2, .int a3] σ r σ' := by
  intro sz
  refine sv_enter (cc := cX7_suppose) (maxL := 4) (ret := none) (Qc := fun A => va_Qv (fun (_ : Unit) => True) (fun _ t => va_P D vwCl (sv_ws T h θ σ') t.heap) A) sx_XP (by decide) rfl (Nat.le_of_ble_eq_true rfl) ?_
  intro p e s m args below meth c A F hr hlk ls H hl hW
  have hx := F.1.1
  have hb := F.1.2.1
  have hts := F.1.2.2.2.2
  have hown := F.1.2.2.2.1
  have hK := F.2.1
  obtain ⟨locs, hlocs⟩ : ∃ z : List Loc, z = [] := ⟨_, rfl⟩
  rw [← hlocs] at hW ⊢
  have hl : lv_has ls 4 [(0, .ref (h 0)), (1, .int a1), (2, .int a2), (3, .int a3)] := hl
  unfold q_X7_suppose at hs
  refine lv_iload_n hx hb dX7_suppose_0 rfl (lv_at hl 2 rfl) ?_
  by_cases c1 : a2 = 1
  · replace hs := (sp_ite hs).1 c1
    refine lv_tableIn (off := 35) (tgt := 36) hx hb dX7_suppose_1 (by rw [c1]; decide) (by rw [c1]; decide) (by rw [c1]; decide) (by decide) ?_
    refine lv_aload_n hx hb dX7_suppose_36 rfl (lv_at hl 0 rfl) ?_
    refine sv_get (own := RX7) (C := RX7) (Tf := TX7) (N := 10) (index := 41) (κ := (3, 22)) (v := .ref (h 22)) hx hb hts hown hK hW (fun _ h => List.mem_cons_of_mem _ (List.mem_append_left _ (List.mem_append_left _ (List.mem_append_right _ h)))) (sx_i 0 hB (by decide)) (sx_c0 hB) rfl 7 (by decide) rfl rfl (List.mem_of_getElem? (i := 1) rfl) dX7_suppose_37 ?_
    refine lv_iload_n hx hb dX7_suppose_40 rfl (lv_at hl 3 rfl) ?_
    refine sv_putI (own := RX7) (C := RX0) (Tf := TX0) (N := 4) (index := 327) hx hb hts hown hK hW (fun _ h => List.mem_cons_of_mem _ (List.mem_append_left _ (List.mem_append_right _ h))) tyX0 tyX0_ok nmX0 (sx_i 22 hB (by decide)) (sx_c22 hB) rfl 1 (by decide) rfl rfl (ty := .int) (by decide +kernel) rfl rfl (List.mem_of_getElem? (i := 2) rfl) dX7_suppose_41 (fun σ2 H locs eσ2 hW => ?_)
    replace hs := sp_let hs eσ2
    refine lv_goto (tgt := 134) hx hb dX7_suppose_44 (by decide) ?_
    cases hs
    exact sv_vret hx hb hr hlk hW dX7_suppose_134
  replace hs := (sp_ite hs).2 c1
  by_cases c3 : a2 = 2
  · replace hs := (sp_ite hs).1 c3
    refine lv_tableIn (off := 46) (tgt := 47) hx hb dX7_suppose_1 (by rw [c3]; decide) (by rw [c3]; decide) (by rw [c3]; decide) (by decide) ?_
    refine lv_aload_n hx hb dX7_suppose_47 rfl (lv_at hl 0 rfl) ?_
    refine sv_get (own := RX7) (C := RX7) (Tf := TX7) (N := 10) (index := 41) (κ := (3, 22)) (v := .ref (h 22)) hx hb hts hown hK hW (fun _ h => List.mem_cons_of_mem _ (List.mem_append_left _ (List.mem_append_left _ (List.mem_append_right _ h)))) (sx_i 0 hB (by decide)) (sx_c0 hB) rfl 7 (by decide) rfl rfl (List.mem_of_getElem? (i := 1) rfl) dX7_suppose_48 ?_
    refine sv_get (own := RX7) (C := RX0) (Tf := TX0) (N := 4) (index := 330) (κ := (3, 1)) (v := .ref (h 23)) hx hb hts hown hK hW (fun _ h => List.mem_cons_of_mem _ (List.mem_append_left _ (List.mem_append_right _ h))) (sx_i 22 hB (by decide)) (sx_c22 hB) rfl 0 (by decide) rfl rfl (List.mem_of_getElem? (i := 3) rfl) dX7_suppose_51 ?_
    refine lv_iconst (v := 2) hx hb dX7_suppose_54 (by decide) ?_
    refine lv_iload_n hx hb dX7_suppose_55 rfl (lv_at hl 3 rfl) ?_
    obtain ⟨r4, σ5, eσ5, hs⟩ := sp_bind hs
    refine sv_goV (σ' := σ5) (r := r4) hW F.2.2.2.1 (sv_runT F hW (k_X7_put hB (sv_oA_of (sx_i 23 hB (by decide)) (sx_c23 hB)) eσ5 H.size) gX7_suppose_X7_put rfl ⟨rfl, rfl⟩ 3 (by decide +kernel) (sv_room2 (by omega) (by omega)) rfl hl.1 rfl (Nat.le_of_ble_eq_true rfl) dX7_suppose_56 ⟨Nat.zero_le _, Nat.zero_le _⟩) (fun H locs hW => ?_)
    refine lv_goto (tgt := 134) hx hb dX7_suppose_59 (by decide) ?_
    cases hs
    exact sv_vret hx hb hr hlk hW dX7_suppose_134
  replace hs := (sp_ite hs).2 c3
  by_cases c6 : a2 = 3
  · replace hs := (sp_ite hs).1 c6
    refine lv_tableIn (off := 61) (tgt := 62) hx hb dX7_suppose_1 (by rw [c6]; decide) (by rw [c6]; decide) (by rw [c6]; decide) (by decide) ?_
    refine lv_aload_n hx hb dX7_suppose_62 rfl (lv_at hl 0 rfl) ?_
    refine sv_get (own := RX7) (C := RX7) (Tf := TX7) (N := 10) (index := 41) (κ := (3, 22)) (v := .ref (h 22)) hx hb hts hown hK hW (fun _ h => List.mem_cons_of_mem _ (List.mem_append_left _ (List.mem_append_left _ (List.mem_append_right _ h)))) (sx_i 0 hB (by decide)) (sx_c0 hB) rfl 7 (by decide) rfl rfl (List.mem_of_getElem? (i := 1) rfl) dX7_suppose_63 ?_
    refine sv_get (own := RX7) (C := RX0) (Tf := TX0) (N := 4) (index := 330) (κ := (3, 1)) (v := .ref (h 23)) hx hb hts hown hK hW (fun _ h => List.mem_cons_of_mem _ (List.mem_append_left _ (List.mem_append_right _ h))) (sx_i 22 hB (by decide)) (sx_c22 hB) rfl 0 (by decide) rfl rfl (List.mem_of_getElem? (i := 3) rfl) dX7_suppose_66 ?_
    refine lv_iconst (v := 5) hx hb dX7_suppose_69 (by decide) ?_
    refine lv_iload_n hx hb dX7_suppose_70 rfl (lv_at hl 3 rfl) ?_
    obtain ⟨r7, σ8, eσ8, hs⟩ := sp_bind hs
    refine sv_goV (σ' := σ8) (r := r7) hW F.2.2.2.1 (sv_runT F hW (k_X7_put hB (sv_oA_of (sx_i 23 hB (by decide)) (sx_c23 hB)) eσ8 H.size) gX7_suppose_X7_put rfl ⟨rfl, rfl⟩ 3 (by decide +kernel) (sv_room2 (by omega) (by omega)) rfl hl.1 rfl (Nat.le_of_ble_eq_true rfl) dX7_suppose_71 ⟨Nat.zero_le _, Nat.zero_le _⟩) (fun H locs hW => ?_)
    refine lv_goto (tgt := 134) hx hb dX7_suppose_74 (by decide) ?_
    cases hs
    exact sv_vret hx hb hr hlk hW dX7_suppose_134
  replace hs := (sp_ite hs).2 c6
  by_cases c9 : a2 = 4
  · replace hs := (sp_ite hs).1 c9
    refine lv_tableIn (off := 76) (tgt := 77) hx hb dX7_suppose_1 (by rw [c9]; decide) (by rw [c9]; decide) (by rw [c9]; decide) (by decide) ?_
    refine lv_aload_n hx hb dX7_suppose_77 rfl (lv_at hl 0 rfl) ?_
    refine sv_get (own := RX7) (C := RX7) (Tf := TX7) (N := 10) (index := 41) (κ := (3, 22)) (v := .ref (h 22)) hx hb hts hown hK hW (fun _ h => List.mem_cons_of_mem _ (List.mem_append_left _ (List.mem_append_left _ (List.mem_append_right _ h)))) (sx_i 0 hB (by decide)) (sx_c0 hB) rfl 7 (by decide) rfl rfl (List.mem_of_getElem? (i := 1) rfl) dX7_suppose_78 ?_
    refine sv_get (own := RX7) (C := RX0) (Tf := TX0) (N := 4) (index := 330) (κ := (3, 1)) (v := .ref (h 23)) hx hb hts hown hK hW (fun _ h => List.mem_cons_of_mem _ (List.mem_append_left _ (List.mem_append_right _ h))) (sx_i 22 hB (by decide)) (sx_c22 hB) rfl 0 (by decide) rfl rfl (List.mem_of_getElem? (i := 3) rfl) dX7_suppose_81 ?_
    refine lv_iconst (v := 3) hx hb dX7_suppose_84 (by decide) ?_
    refine lv_iload_n hx hb dX7_suppose_85 rfl (lv_at hl 3 rfl) ?_
    obtain ⟨r10, σ11, eσ11, hs⟩ := sp_bind hs
    refine sv_goV (σ' := σ11) (r := r10) hW F.2.2.2.1 (sv_runT F hW (k_X7_put hB (sv_oA_of (sx_i 23 hB (by decide)) (sx_c23 hB)) eσ11 H.size) gX7_suppose_X7_put rfl ⟨rfl, rfl⟩ 3 (by decide +kernel) (sv_room2 (by omega) (by omega)) rfl hl.1 rfl (Nat.le_of_ble_eq_true rfl) dX7_suppose_86 ⟨Nat.zero_le _, Nat.zero_le _⟩) (fun H locs hW => ?_)
    refine lv_goto (tgt := 134) hx hb dX7_suppose_89 (by decide) ?_
    cases hs
    exact sv_vret hx hb hr hlk hW dX7_suppose_134
  replace hs := (sp_ite hs).2 c9
  by_cases c12 : a2 = 5
  · replace hs := (sp_ite hs).1 c12
    refine lv_tableIn (off := 91) (tgt := 92) hx hb dX7_suppose_1 (by rw [c12]; decide) (by rw [c12]; decide) (by rw [c12]; decide) (by decide) ?_
    refine lv_aload_n hx hb dX7_suppose_92 rfl (lv_at hl 0 rfl) ?_
    refine sv_get (own := RX7) (C := RX7) (Tf := TX7) (N := 10) (index := 41) (κ := (3, 22)) (v := .ref (h 22)) hx hb hts hown hK hW (fun _ h => List.mem_cons_of_mem _ (List.mem_append_left _ (List.mem_append_left _ (List.mem_append_right _ h)))) (sx_i 0 hB (by decide)) (sx_c0 hB) rfl 7 (by decide) rfl rfl (List.mem_of_getElem? (i := 1) rfl) dX7_suppose_93 ?_
    refine lv_aload_n hx hb dX7_suppose_96 rfl (lv_at hl 0 rfl) ?_
    refine lv_iload_n hx hb dX7_suppose_97 rfl (lv_at hl 3 rfl) ?_
    obtain ⟨r13, σ14, eσ14, hs⟩ := sp_bind hs
    refine sv_goQ (σ' := σ14) (r := r13) hW F.2.2.2.1 (sv_runV (C := RX7) F hW (k_X7_textAt hB eσ14 H.size) gX7_suppose_X7_textAt rfl ⟨rfl, rfl⟩ 1 (by decide +kernel) (sv_room2 (by omega) (by omega)) (sx_i 0 hB (by decide)) (sx_c0 hB) rfl rfl hl.1 rfl (Nat.le_of_ble_eq_true rfl) dX7_suppose_98 ⟨Nat.zero_le _, Nat.zero_le _⟩) (fun H locs hW => ?_)
    refine sv_putP (r := r13) (hv := rfl) (own := RX7) (C := RX0) (Tf := TX0) (N := 4) (index := 333) hx hb hts hown hK hW (fun _ h => List.mem_cons_of_mem _ (List.mem_append_left _ (List.mem_append_right _ h))) tyX0 tyX0_ok nmX0 (sx_i 22 hB (by decide)) (sx_c22 hB) rfl 2 (by decide) rfl rfl (C2 := "OpenWhileItRains$Text") (by decide +kernel) (List.mem_of_getElem? (i := 4) rfl) dX7_suppose_101 (fun σ15 H locs eσ15 hW => ?_)
    replace hs := sp_let hs eσ15
    refine lv_goto (tgt := 134) hx hb dX7_suppose_104 (by decide) ?_
    cases hs
    exact sv_vret hx hb hr hlk hW dX7_suppose_134
  replace hs := (sp_ite hs).2 c12
  refine lv_tableOut (tgt := 107) hx hb dX7_suppose_1 (by have := lv_neT (k := 1) (a := 1) c1 (by decide); have := lv_neT (k := 2) (a := 2) c3 (by decide); have := lv_neT (k := 3) (a := 3) c6 (by decide); have := lv_neT (k := 4) (a := 4) c9 (by decide); have := lv_neT (k := 5) (a := 5) c12 (by decide); omega) (by decide) ?_
  refine lv_aload_n hx hb dX7_suppose_107 rfl (lv_at hl 0 rfl) ?_
  refine sv_get (own := RX7) (C := RX7) (Tf := TX7) (N := 10) (index := 52) (κ := (3, 33)) (v := .ref (h 33)) hx hb hts hown hK hW (fun _ h => List.mem_cons_of_mem _ (List.mem_append_left _ (List.mem_append_left _ (List.mem_append_right _ h)))) (sx_i 0 hB (by decide)) (sx_c0 hB) rfl 9 (by decide) rfl rfl (List.mem_of_getElem? (i := 5) rfl) dX7_suppose_108 ?_
  refine lv_aload_n hx hb dX7_suppose_111 rfl (lv_at hl 0 rfl) ?_
  refine sv_get (own := RX7) (C := RX7) (Tf := TX7) (N := 10) (index := 10) (κ := (3, 1)) (v := .ref (h 1)) hx hb hts hown hK hW (fun _ h => List.mem_cons_of_mem _ (List.mem_append_left _ (List.mem_append_left _ (List.mem_append_right _ h)))) (sx_i 0 hB (by decide)) (sx_c0 hB) rfl 0 (by decide) rfl rfl (List.mem_of_getElem? (i := 6) rfl) dX7_suppose_112 ?_
  refine sv_get (own := RX7) (C := RX2) (Tf := TX2) (N := 8) (index := 113) (κ := (3, 4)) (v := .ref (h 5)) hx hb hts hown hK hW (fun _ h => List.mem_cons_of_mem _ (List.mem_append_right _ h)) (sx_i 1 hB (by decide)) (sx_c1 hB) rfl 3 (by decide) rfl rfl (List.mem_of_getElem? (i := 7) rfl) dX7_suppose_115 ?_
  refine lv_iload_n hx hb dX7_suppose_118 rfl (lv_at hl 1 rfl) ?_
  obtain ⟨r16, σ17, eσ17, hs⟩ := sp_bind hs
  refine sv_goI (σ' := σ17) (r := r16) hW F.2.2.2.1 (sv_runT F hW (k_X7_at hB (sv_oA_of (sx_i 5 hB (by decide)) (sx_c5 hB)) eσ17 H.size) gX7_suppose_X7_at rfl ⟨rfl, rfl⟩ 2 (by decide +kernel) (sv_room2 (by omega) (by omega)) rfl hl.1 rfl (Nat.le_of_ble_eq_true rfl) dX7_suppose_119 ⟨Nat.zero_le _, Nat.zero_le _⟩) (fun H locs hW => ?_)
  refine lv_bipush (v := 24) hx hb dX7_suppose_122 (by decide) ?_
  refine lv_imul hx hb dX7_suppose_124 ?_
  refine lv_iload_n hx hb dX7_suppose_125 rfl (lv_at hl 2 rfl) ?_
  refine lv_iadd hx hb dX7_suppose_126 ?_
  refine lv_bipush (v := 10) hx hb dX7_suppose_127 (by decide) ?_
  refine lv_isub hx hb dX7_suppose_129 ?_
  refine lv_iload_n hx hb dX7_suppose_130 rfl (lv_at hl 3 rfl) ?_
  obtain ⟨r18, σ19, eσ19, hs⟩ := sp_bind hs
  refine sv_goV (σ' := σ19) (r := r18) hW F.2.2.2.1 (sv_runT F hW (k_X7_put hB (sv_oA_of (sx_i 33 hB (by decide)) (sx_c33 hB)) eσ19 H.size) gX7_suppose_X7_put rfl ⟨rfl, rfl⟩ 3 (by decide +kernel) (sv_room2 (by omega) (by omega)) rfl hl.1 rfl (Nat.le_of_ble_eq_true rfl) dX7_suppose_131 ⟨Nat.zero_le _, Nat.zero_le _⟩) (fun H locs hW => ?_)
  cases hs
  exact sv_vret hx hb hr hlk hW dX7_suppose_134
set_option maxRecDepth 100000 in
set_option maxHeartbeats 4000000 in
theorem b_X7_fitting_34 {qK qV : Nat → Nat} {p : Program} {l : Launch} {e : Env} {s : State} {m : MethodId} {args : Array Value} {below : List Frame} {meth : Method} {c : Code} {D : va_G} {T : Nat → ClassId} {A : Nat → Prop} {h : Nat → Nat} {θ : sv_T} {b1 : Nat} {a2 : Int32} {a3 : Int32} {r : Int32} {σ' : sv_S} (hB : sx_base θ) (hb1 : sv_oX5 θ b1) (F : sv_F (sx_X qK qV) p m c cX7_fitting 7 s args wsX7_fitting RX7 D (sx_tys T) A) (hr : meth.sig.returnType = (some .int)) (hlk : meth.locks = false)  : ∀ (n : Nat), ∀ (x2 : Int32) (x3 : Int32) (x4 : Int32) (x5 : Int32) (x6 : Int32) (σ : sv_S) (H : Heap) (locs : List Loc) (ls : Array Slot), lv_has ls 7 [(0, .ref (h 0)), (1, .ref (h b1)), (2, .int x2), (3, .int x3), (4, .int x4), (5, .int x5), (6, .int x6)] → sv_W D T A s h θ σ H locs → q_X7_fitting_B34 θ b1 a2 a3 n x2 x3 x4 x5 x6 σ = some (r, σ') → W p l e (sv_rm 4 91) s m args below meth c H locs 0 0 (MQ below (va_Qi (fun r2 (_ : Unit) => r2 = r) (fun _ t => va_P D vwCl (sv_ws T h θ σ') t.heap) A) args s 0 0 A) (F0 m 34 ls []) := by
  have hx := F.1.1
  have hb := F.1.2.1
  have hts := F.1.2.2.2.2
  have hown := F.1.2.2.2.1
  have hK := F.2.1
  intro n
  induction n with
  | zero =>
    intro x2 x3 x4 x5 x6 σ H locs ls hl hW hs
    have hs : (none : Option (Int32 × sv_S)) = some (r, σ') := hs
    cases hs
  | succ n ih =>
    intro x2 x3 x4 x5 x6 σ H locs ls hl hW hs
    have hs : q_X7_fitting_B34_b θ b1 a2 a3 (q_X7_fitting_B34 θ b1 a2 a3 n) x2 x3 x4 x5 x6 σ = some (r, σ') := hs
    unfold q_X7_fitting_B34_b at hs
    refine lv_iload hx hb dX7_fitting_34 (lv_at hl 6 rfl) ?_
    refine lv_iload hx hb dX7_fitting_36 (lv_at hl 4 rfl) ?_
    refine lv_icmp_ge (tgt := 99) hx hb dX7_fitting_38 (by decide) (fun c5 => ?_) (fun c5 => ?_)
    · replace hs := (sp_ite hs).1 c5
      refine lv_iload hx hb dX7_fitting_99 (lv_at hl 5 rfl) ?_
      cases hs
      exact sv_iret hx hb hr rfl hlk hW dX7_fitting_101
    · replace hs := (sp_ite hs).2 c5
      refine lv_aload_n hx hb dX7_fitting_41 rfl (lv_at hl 0 rfl) ?_
      refine sv_get (own := RX7) (C := RX7) (Tf := TX7) (N := 10) (index := 41) (κ := (3, 22)) (v := .ref (h 22)) hx hb hts hown hK hW (fun _ h => List.mem_cons_of_mem _ (List.mem_append_left _ (List.mem_append_left _ (List.mem_append_left _ (List.mem_append_left _ (List.mem_append_right _ h)))))) (sx_i 0 hB (by decide)) (sx_c0 hB) rfl 7 (by decide) rfl rfl (List.mem_of_getElem? (i := 8) rfl) dX7_fitting_42 ?_
      refine lv_aload_n hx hb dX7_fitting_45 rfl (lv_at hl 0 rfl) ?_
      refine sv_get (own := RX7) (C := RX7) (Tf := TX7) (N := 10) (index := 10) (κ := (3, 1)) (v := .ref (h 1)) hx hb hts hown hK hW (fun _ h => List.mem_cons_of_mem _ (List.mem_append_left _ (List.mem_append_left _ (List.mem_append_left _ (List.mem_append_left _ (List.mem_append_right _ h)))))) (sx_i 0 hB (by decide)) (sx_c0 hB) rfl 0 (by decide) rfl rfl (List.mem_of_getElem? (i := 1) rfl) dX7_fitting_46 ?_
      refine lv_iload_n hx hb dX7_fitting_49 rfl (lv_at hl 2 rfl) ?_
      refine lv_aload_n hx hb dX7_fitting_50 rfl (lv_at hl 0 rfl) ?_
      refine sv_get (own := RX7) (C := RX7) (Tf := TX7) (N := 10) (index := 10) (κ := (3, 1)) (v := .ref (h 1)) hx hb hts hown hK hW (fun _ h => List.mem_cons_of_mem _ (List.mem_append_left _ (List.mem_append_left _ (List.mem_append_left _ (List.mem_append_left _ (List.mem_append_right _ h)))))) (sx_i 0 hB (by decide)) (sx_c0 hB) rfl 0 (by decide) rfl rfl (List.mem_of_getElem? (i := 1) rfl) dX7_fitting_51 ?_
      obtain ⟨r6, σ7, eσ7, hs⟩ := sp_bind hs
      refine sv_goI (σ' := σ7) (r := r6) hW F.2.2.2.1 (sv_runV (C := RX2) F hW (k_X2_shakenCount hB eσ7 H.size) gX7_fitting_X2_shakenCount rfl ⟨rfl, rfl⟩ 0 (by decide +kernel) (sv_room2 (by omega) (by omega)) (sx_i 1 hB (by decide)) (sx_c1 hB) rfl rfl hl.1 rfl (Nat.le_of_ble_eq_true rfl) dX7_fitting_54 ⟨Nat.zero_le _, Nat.zero_le _⟩) (fun H locs hW => ?_)
      obtain ⟨r8, σ9, eσ9, hs⟩ := sp_bind hs
      refine sv_goV (σ' := σ9) (r := r8) hW F.2.2.2.1 (sv_runV (C := RX0) F hW (k_X0_regard hB (sx_o22 hB) eσ9 H.size) gX7_fitting_X0_regard rfl ⟨rfl, rfl⟩ 3 (by decide +kernel) (sv_room2 (by omega) (by omega)) (sx_i 22 hB (by decide)) (sx_c22 hB) rfl rfl hl.1 rfl (Nat.le_of_ble_eq_true rfl) dX7_fitting_57 ⟨Nat.zero_le _, Nat.zero_le _⟩) (fun H locs hW => ?_)
      refine lv_aload_n hx hb dX7_fitting_60 rfl (lv_at hl 0 rfl) ?_
      refine lv_iload_n hx hb dX7_fitting_61 rfl (lv_at hl 2 rfl) ?_
      refine lv_iload_n hx hb dX7_fitting_62 rfl (lv_at hl 3 rfl) ?_
      refine lv_iload hx hb dX7_fitting_63 (lv_at hl 6 rfl) ?_
      obtain ⟨r10, σ11, eσ11, hs⟩ := sp_bind hs
      refine sv_goV (σ' := σ11) (r := r10) hW F.2.2.2.1 (sv_runV (C := RX7) F hW (k_X7_suppose hB eσ11 H.size) gX7_fitting_X7_suppose rfl ⟨rfl, rfl⟩ 3 (by decide +kernel) (sv_room2 (by omega) (by omega)) (sx_i 0 hB (by decide)) (sx_c0 hB) rfl rfl hl.1 rfl (Nat.le_of_ble_eq_true rfl) dX7_fitting_65 ⟨Nat.zero_le _, Nat.zero_le _⟩) (fun H locs hW => ?_)
      refine lv_aload_n hx hb dX7_fitting_68 rfl (lv_at hl 0 rfl) ?_
      refine sv_get (own := RX7) (C := RX7) (Tf := TX7) (N := 10) (index := 41) (κ := (3, 22)) (v := .ref (h 22)) hx hb hts hown hK hW (fun _ h => List.mem_cons_of_mem _ (List.mem_append_left _ (List.mem_append_left _ (List.mem_append_left _ (List.mem_append_left _ (List.mem_append_right _ h)))))) (sx_i 0 hB (by decide)) (sx_c0 hB) rfl 7 (by decide) rfl rfl (List.mem_of_getElem? (i := 8) rfl) dX7_fitting_69 ?_
      refine lv_aload_n hx hb dX7_fitting_72 rfl (lv_at hl 1 rfl) ?_
      refine lv_aload_n hx hb dX7_fitting_73 rfl (lv_at hl 0 rfl) ?_
      refine sv_get (own := RX7) (C := RX7) (Tf := TX7) (N := 10) (index := 52) (κ := (3, 33)) (v := .ref (h 33)) hx hb hts hown hK hW (fun _ h => List.mem_cons_of_mem _ (List.mem_append_left _ (List.mem_append_left _ (List.mem_append_left _ (List.mem_append_left _ (List.mem_append_right _ h)))))) (sx_i 0 hB (by decide)) (sx_c0 hB) rfl 9 (by decide) rfl rfl (List.mem_of_getElem? (i := 3) rfl) dX7_fitting_74 ?_
      obtain ⟨r12, σ13, eσ13, hs⟩ := sp_bind hs
      refine sv_goI (σ' := σ13) (r := r12) hW F.2.2.2.1 (sv_runV (C := RX0) F hW (k_X0_firstOther hB (sx_o22 hB) hb1 (sv_oA_of (sx_i 33 hB (by decide)) (sx_c33 hB)) eσ13 H.size) gX7_fitting_X0_firstOther rfl ⟨rfl, rfl⟩ 2 (by decide +kernel) (sv_room2 (by omega) (by omega)) (sx_i 22 hB (by decide)) (sx_c22 hB) rfl rfl hl.1 rfl (Nat.le_of_ble_eq_true rfl) dX7_fitting_77 ⟨Nat.zero_le _, Nat.zero_le _⟩) (fun H locs hW => ?_)
      refine lv_iconst (v := -1) hx hb dX7_fitting_80 (by decide) ?_
      refine lv_icmp_ne (tgt := 93) hx hb dX7_fitting_81 (by decide) (fun c14 => ?_) (fun c14 => ?_)
      · replace hs := (sp_ite hs).2 c14
        obtain ⟨v15, ev15⟩ : ∃ y : Int32, y = x6 + 1 := ⟨_, rfl⟩
        replace hs := sp_let hs ev15
        refine lv_iinc (v := v15) (lv' := [(6, .int v15), (0, .ref (h 0)), (1, .ref (h b1)), (2, .int x2), (3, .int x3), (4, .int x4), (5, .int x5)]) hx hb dX7_fitting_93 hl (k := 6) rfl (by rw [ev15]; rfl) (by decide) rfl (fun ls hl => ?_)
        refine lv_goto (tgt := 34) hx hb dX7_fitting_96 (by decide) ?_
        exact ih x2 x3 x4 x5 v15 σ13 H locs ls (lv_sub hl [1, 2, 3, 4, 5, 6, 0] rfl) hW hs
      · replace hs := (sp_ite hs).1 c14
        refine lv_iload hx hb dX7_fitting_84 (lv_at hl 5 rfl) ?_
        refine lv_iconst (v := 1) hx hb dX7_fitting_86 (by decide) ?_
        refine lv_iload hx hb dX7_fitting_87 (lv_at hl 6 rfl) ?_
        refine lv_ishl hx hb dX7_fitting_89 ?_
        refine lv_ior hx hb dX7_fitting_90 ?_
        refine lv_topi (fun v16 ev16 => ?_)
        replace hs := sp_let hs ev16
        refine lv_istore (lv' := [(5, .int v16), (0, .ref (h 0)), (1, .ref (h b1)), (2, .int x2), (3, .int x3), (4, .int x4), (6, .int x6)]) hx hb dX7_fitting_91 hl (by decide) rfl (fun ls hl => ?_)
        obtain ⟨v17, ev17⟩ : ∃ y : Int32, y = x6 + 1 := ⟨_, rfl⟩
        replace hs := sp_let hs ev17
        refine lv_iinc (v := v17) (lv' := [(6, .int v17), (5, .int v16), (0, .ref (h 0)), (1, .ref (h b1)), (2, .int x2), (3, .int x3), (4, .int x4)]) hx hb dX7_fitting_93 hl (k := 6) rfl (by rw [ev17]; rfl) (by decide) rfl (fun ls hl => ?_)
        refine lv_goto (tgt := 34) hx hb dX7_fitting_96 (by decide) ?_
        exact ih x2 x3 x4 v16 v17 σ13 H locs ls (lv_sub hl [2, 3, 4, 5, 6, 1, 0] rfl) hW hs
set_option maxRecDepth 100000 in
set_option maxHeartbeats 4000000 in
theorem k_X7_fitting {qK qV : Nat → Nat} {l : Launch} {D : va_G} {T : Nat → ClassId} {h : Nat → Nat} {θ : sv_T} {b1 : Nat} {a2 : Int32} {a3 : Int32} {σ : sv_S} {r : Int32} {σ' : sv_S} (hB : sx_base θ) (hb1 : sv_oX5 θ b1) (hs : q_X7_fitting θ b1 a2 a3 σ = some (r, σ')) : sv_Mi (sx_X qK qV) l D T (sx_tys T) h θ yX7_fitting wsX7_fitting (sv_rm 4 91) [.ref (h 0), .ref (h b1), .int a2, .int a3] σ r σ' := by
  intro sz
  refine sv_enter (cc := cX7_fitting) (maxL := 7) (ret := (some .int)) (Qc := fun A => va_Qi (fun r2 (_ : Unit) => r2 = r) (fun _ t => va_P D vwCl (sv_ws T h θ σ') t.heap) A) sx_XP (by decide) rfl (Nat.le_of_ble_eq_true rfl) ?_
  intro p e s m args below meth c A F hr hlk ls H hl hW
  have hx := F.1.1
  have hb := F.1.2.1
  have hts := F.1.2.2.2.2
  have hown := F.1.2.2.2.1
  have hK := F.2.1
  obtain ⟨locs, hlocs⟩ : ∃ z : List Loc, z = [] := ⟨_, rfl⟩
  rw [← hlocs] at hW ⊢
  have hl : lv_has ls 7 [(0, .ref (h 0)), (1, .ref (h b1)), (2, .int a2), (3, .int a3)] := hl
  unfold q_X7_fitting at hs
  refine lv_aload_n hx hb dX7_fitting_0 rfl (lv_at hl 0 rfl) ?_
  refine sv_get (own := RX7) (C := RX7) (Tf := TX7) (N := 10) (index := 10) (κ := (3, 1)) (v := .ref (h 1)) hx hb hts hown hK hW (fun _ h => List.mem_cons_of_mem _ (List.mem_append_left _ (List.mem_append_left _ (List.mem_append_left _ (List.mem_append_left _ (List.mem_append_right _ h)))))) (sx_i 0 hB (by decide)) (sx_c0 hB) rfl 0 (by decide) rfl rfl (List.mem_of_getElem? (i := 1) rfl) dX7_fitting_1 ?_
  refine sv_get (own := RX7) (C := RX2) (Tf := TX2) (N := 8) (index := 99) (κ := (3, 1)) (v := .ref (h 2)) hx hb hts hown hK hW (fun _ h => List.mem_cons_of_mem _ (List.mem_append_left _ (List.mem_append_left _ (List.mem_append_left _ (List.mem_append_right _ h))))) (sx_i 1 hB (by decide)) (sx_c1 hB) rfl 0 (by decide) rfl rfl (List.mem_of_getElem? (i := 2) rfl) dX7_fitting_4 ?_
  refine lv_iconst (v := 0) hx hb dX7_fitting_7 (by decide) ?_
  refine lv_aload_n hx hb dX7_fitting_8 rfl (lv_at hl 0 rfl) ?_
  refine sv_get (own := RX7) (C := RX7) (Tf := TX7) (N := 10) (index := 52) (κ := (3, 33)) (v := .ref (h 33)) hx hb hts hown hK hW (fun _ h => List.mem_cons_of_mem _ (List.mem_append_left _ (List.mem_append_left _ (List.mem_append_left _ (List.mem_append_left _ (List.mem_append_right _ h)))))) (sx_i 0 hB (by decide)) (sx_c0 hB) rfl 9 (by decide) rfl rfl (List.mem_of_getElem? (i := 3) rfl) dX7_fitting_9 ?_
  refine lv_iconst (v := 0) hx hb dX7_fitting_12 (by decide) ?_
  refine lv_aload_n hx hb dX7_fitting_13 rfl (lv_at hl 0 rfl) ?_
  refine sv_get (own := RX7) (C := RX7) (Tf := TX7) (N := 10) (index := 52) (κ := (3, 33)) (v := .ref (h 33)) hx hb hts hown hK hW (fun _ h => List.mem_cons_of_mem _ (List.mem_append_left _ (List.mem_append_left _ (List.mem_append_left _ (List.mem_append_left _ (List.mem_append_right _ h)))))) (sx_i 0 hB (by decide)) (sx_c0 hB) rfl 9 (by decide) rfl rfl (List.mem_of_getElem? (i := 3) rfl) dX7_fitting_14 ?_
  refine sv_alen (t := 0) (v := (48 : Int32)) hx hb hK hW (sx_i 33 hB (by decide)) (sx_c33 hB) 0 rfl rfl dX7_fitting_17 ?_
  obtain ⟨hc2, hs⟩ := sp_p hs
  refine sv_copy (own := RX7) (index := 303) hx hb (F.1.2.2.1.trans hl.1.symm) hown (hts _ (List.mem_of_getElem? (i := 4) rfl)) (hts _ (List.mem_of_getElem? (i := 5) rfl)) (hts _ (List.mem_of_getElem? (i := 6) rfl)) (hts _ (List.mem_of_getElem? (i := 7) rfl)) hK hW (sx_i 2 hB (by decide)) (sx_c2 hB) (sx_i 33 hB (by decide)) (sx_c33 hB) 0 rfl hc2 (Nat.le_of_ble_eq_true rfl) (Nat.le_of_ble_eq_true rfl) dX7_fitting_18 (fun σ1 H locs eσ1 hW => ?_)
  replace hs := sp_let hs eσ1
  refine lv_aload_n hx hb dX7_fitting_21 rfl (lv_at hl 0 rfl) ?_
  refine lv_iload_n hx hb dX7_fitting_22 rfl (lv_at hl 3 rfl) ?_
  obtain ⟨r3, σ4, eσ4, hs⟩ := sp_bind hs
  refine sv_goI (σ' := σ4) (r := r3) hW F.2.2.2.1 (sv_runV (C := RX7) F hW (k_X7_choicesOf hB eσ4 H.size) gX7_fitting_X7_choicesOf rfl ⟨rfl, rfl⟩ 1 (by decide +kernel) (sv_room2 (by omega) (by omega)) (sx_i 0 hB (by decide)) (sx_c0 hB) rfl rfl hl.1 rfl (Nat.le_of_ble_eq_true rfl) dX7_fitting_23 ⟨Nat.zero_le _, Nat.zero_le _⟩) (fun H locs hW => ?_)
  refine lv_istore (lv' := [(4, .int r3), (0, .ref (h 0)), (1, .ref (h b1)), (2, .int a2), (3, .int a3)]) hx hb dX7_fitting_26 hl (by decide) rfl (fun ls hl => ?_)
  refine lv_iconst (v := 0) hx hb dX7_fitting_28 (by decide) ?_
  refine lv_istore (lv' := [(5, .int (0 : Int32)), (4, .int r3), (0, .ref (h 0)), (1, .ref (h b1)), (2, .int a2), (3, .int a3)]) hx hb dX7_fitting_29 hl (by decide) rfl (fun ls hl => ?_)
  refine lv_iconst (v := 0) hx hb dX7_fitting_31 (by decide) ?_
  refine lv_istore (lv' := [(6, .int (0 : Int32)), (5, .int (0 : Int32)), (4, .int r3), (0, .ref (h 0)), (1, .ref (h b1)), (2, .int a2), (3, .int a3)]) hx hb dX7_fitting_32 hl (by decide) rfl (fun ls hl => ?_)
  exact b_X7_fitting_34 hB hb1 F hr hlk sv_N a2 a3 r3 (0 : Int32) (0 : Int32) σ4 H locs ls (lv_sub hl [3, 4, 5, 6, 2, 1, 0] rfl) hW hs
set_option maxRecDepth 100000 in
set_option maxHeartbeats 4000000 in
theorem k_X7_tells {qK qV : Nat → Nat} {l : Launch} {D : va_G} {T : Nat → ClassId} {h : Nat → Nat} {θ : sv_T} {a1 : Int32} {a2 : Int32} {a3 : Int32} {σ : sv_S} {r : Int32} {σ' : sv_S} (hB : sx_base θ)  (hs : q_X7_tells θ a1 a2 a3 σ = some (r, σ')) : sv_Mi (sx_X qK qV) l D T (sx_tys T) h θ yX7_tells wsX7_tells (sv_rm 5 117) [.ref (h 0), .int a1, .int a2, .int a3] σ r σ' := by
  intro sz
  refine sv_enter (cc := cX7_tells) (maxL := 5) (ret := (some .int)) (Qc := fun A => va_Qi (fun r2 (_ : Unit) => r2 = r) (fun _ t => va_P D vwCl (sv_ws T h θ σ') t.heap) A) sx_XP (by decide) rfl (Nat.le_of_ble_eq_true rfl) ?_
  intro p e s m args below meth c A F hr hlk ls H hl hW
  have hx := F.1.1
  have hb := F.1.2.1
  have hts := F.1.2.2.2.2
  have hown := F.1.2.2.2.1
  have hK := F.2.1
  obtain ⟨locs, hlocs⟩ : ∃ z : List Loc, z = [] := ⟨_, rfl⟩
  rw [← hlocs] at hW ⊢
  have hl : lv_has ls 5 [(0, .ref (h 0)), (1, .int a1), (2, .int a2), (3, .int a3)] := hl
  unfold q_X7_tells at hs
  refine lv_aload_n hx hb dX7_tells_0 rfl (lv_at hl 0 rfl) ?_
  refine lv_iload_n hx hb dX7_tells_1 rfl (lv_at hl 1 rfl) ?_
  obtain ⟨r1, σ2, eσ2, hs⟩ := sp_bind hs
  refine sv_goQ (σ' := σ2) (r := r1) hW F.2.2.2.1 (sv_runV (C := RX7) F hW (k_X7_rowAt hB eσ2 H.size) gX7_tells_X7_rowAt rfl ⟨rfl, rfl⟩ 1 (by decide +kernel) (sv_room2 (by omega) (by omega)) (sx_i 0 hB (by decide)) (sx_c0 hB) rfl rfl hl.1 rfl (Nat.le_of_ble_eq_true rfl) dX7_tells_2 ⟨Nat.zero_le _, Nat.zero_le _⟩) (fun H locs hW => ?_)
  cases et3 : r1 with
  | none =>
    replace hs := sp_on hs et3
    refine W.eq (g2 := F0 m 5 ls [.null]) rfl ?_
    refine lv_astoreN (lv' := [(4, .null), (0, .ref (h 0)), (1, .int a1), (2, .int a2), (3, .int a3)]) hx hb dX7_tells_5 hl (by decide) rfl (fun ls hl => ?_)
    refine lv_aloadN hx hb dX7_tells_7 (lv_at hl 0 rfl) ?_
    refine lv_ifnullN (tgt := 31) hx hb dX7_tells_9 (by decide) ?_
    refine lv_bipush (v := -2) hx hb dX7_tells_31 (by decide) ?_
    cases hs
    exact sv_iret hx hb hr rfl hlk hW dX7_tells_33
  | some t3 =>
    replace hs := sp_os hs et3
    obtain ⟨ht3, hs⟩ := sp_p hs
    refine W.eq (g2 := F0 m 5 ls [.ref (h t3)]) rfl ?_
    refine lv_astore (lv' := [(4, .ref (h t3)), (0, .ref (h 0)), (1, .int a1), (2, .int a2), (3, .int a3)]) hx hb dX7_tells_5 hl (by decide) rfl (fun ls hl => ?_)
    refine lv_aload hx hb dX7_tells_7 (lv_at hl 0 rfl) ?_
    refine lv_ifnull hx hb dX7_tells_9 ?_
    refine lv_aload_n hx hb dX7_tells_12 rfl (lv_at hl 1 rfl) ?_
    refine sv_get (own := RX7) (C := RX7) (Tf := TX7) (N := 10) (index := 10) (κ := (3, 1)) (v := .ref (h 1)) hx hb hts hown hK hW (fun _ h => List.mem_cons_of_mem _ (List.mem_append_left _ (List.mem_append_left _ (List.mem_append_left _ (List.mem_append_left _ (List.mem_append_right _ h)))))) (sx_i 0 hB (by decide)) (sx_c0 hB) rfl 0 (by decide) rfl rfl (List.mem_of_getElem? (i := 1) rfl) dX7_tells_13 ?_
    refine lv_iload_n hx hb dX7_tells_16 rfl (lv_at hl 3 rfl) ?_
    obtain ⟨r4, σ5, eσ5, hs⟩ := sp_bind hs
    refine sv_goI (σ' := σ5) (r := r4) hW F.2.2.2.1 (sv_runV (C := RX2) F hW (k_X2_has hB eσ5 H.size) gX7_tells_X2_has rfl ⟨rfl, rfl⟩ 1 (by decide +kernel) (sv_room2 (by omega) (by omega)) (sx_i 1 hB (by decide)) (sx_c1 hB) rfl rfl hl.1 rfl (Nat.le_of_ble_eq_true rfl) dX7_tells_17 ⟨Nat.zero_le _, Nat.zero_le _⟩) (fun H locs hW => ?_)
    refine lv_if_eq (tgt := 31) hx hb dX7_tells_20 (by decide) (fun c6 => ?_) (fun c6 => ?_)
    · replace hs := (sp_ite hs).1 c6
      refine lv_bipush (v := -2) hx hb dX7_tells_31 (by decide) ?_
      cases hs
      exact sv_iret hx hb hr rfl hlk hW dX7_tells_33
    · replace hs := (sp_ite hs).2 c6
      refine lv_aload_n hx hb dX7_tells_23 rfl (lv_at hl 1 rfl) ?_
      refine lv_iload_n hx hb dX7_tells_24 rfl (lv_at hl 4 rfl) ?_
      obtain ⟨r7, σ8, eσ8, hs⟩ := sp_bind hs
      refine sv_goI (σ' := σ8) (r := r7) hW F.2.2.2.1 (sv_runV (C := RX7) F hW (k_X7_canTell hB eσ8 H.size) gX7_tells_X7_canTell rfl ⟨rfl, rfl⟩ 1 (by decide +kernel) (sv_room2 (by omega) (by omega)) (sx_i 0 hB (by decide)) (sx_c0 hB) rfl rfl hl.1 rfl (Nat.le_of_ble_eq_true rfl) dX7_tells_25 ⟨Nat.zero_le _, Nat.zero_le _⟩) (fun H locs hW => ?_)
      refine lv_if_ne (tgt := 34) hx hb dX7_tells_28 (by decide) (fun c9 => ?_) (fun c9 => ?_)
      · replace hs := (sp_ite hs).2 c9
        refine lv_aload hx hb dX7_tells_34 (lv_at hl 0 rfl) ?_
        refine sv_get (own := RX7) (C := RX5) (Tf := TX5) (N := 3) (index := 259) (κ := (0, 0)) (v := .int (σ8.1 t3 1)) hx hb hts hown hK hW (fun _ h => List.mem_cons_of_mem _ (List.mem_append_left _ (List.mem_append_left _ (List.mem_append_left _ (List.mem_append_right _ h))))) ht3.1 ht3.2.1 rfl 1 (by decide) rfl rfl (List.mem_of_getElem? (i := 2) rfl) dX7_tells_36 ?_
        refine lv_iconst (v := -1) hx hb dX7_tells_39 (by decide) ?_
        refine lv_icmp_ne (tgt := 46) hx hb dX7_tells_40 (by decide) (fun c10 => ?_) (fun c10 => ?_)
        · replace hs := (sp_ite hs).2 c10
          refine lv_aload hx hb dX7_tells_46 (lv_at hl 0 rfl) ?_
          refine sv_get (own := RX7) (C := RX5) (Tf := TX5) (N := 3) (index := 190) (κ := (0, 0)) (v := .int (σ8.1 t3 2)) hx hb hts hown hK hW (fun _ h => List.mem_cons_of_mem _ (List.mem_append_left _ (List.mem_append_left _ (List.mem_append_left _ (List.mem_append_right _ h))))) ht3.1 ht3.2.1 rfl 2 (by decide) rfl rfl (List.mem_of_getElem? (i := 3) rfl) dX7_tells_48 ?_
          refine lv_bipush (v := 24) hx hb dX7_tells_51 (by decide) ?_
          refine lv_icmp_le (tgt := 59) hx hb dX7_tells_53 (by decide) (fun c11 => ?_) (fun c11 => ?_)
          · replace hs := (sp_ite hs).1 c11
            refine lv_iload_n hx hb dX7_tells_59 rfl (lv_at hl 4 rfl) ?_
            refine lv_if_eq (tgt := 72) hx hb dX7_tells_60 (by decide) (fun c12 => ?_) (fun c12 => ?_)
            · replace hs := (sp_ite hs).1 c12
              refine lv_aload_n hx hb dX7_tells_72 rfl (lv_at hl 1 rfl) ?_
              refine sv_get (own := RX7) (C := RX7) (Tf := TX7) (N := 10) (index := 41) (κ := (3, 22)) (v := .ref (h 22)) hx hb hts hown hK hW (fun _ h => List.mem_cons_of_mem _ (List.mem_append_left _ (List.mem_append_left _ (List.mem_append_left _ (List.mem_append_left _ (List.mem_append_right _ h)))))) (sx_i 0 hB (by decide)) (sx_c0 hB) rfl 7 (by decide) rfl rfl (List.mem_of_getElem? (i := 4) rfl) dX7_tells_73 ?_
              refine lv_aload_n hx hb dX7_tells_76 rfl (lv_at hl 1 rfl) ?_
              refine sv_get (own := RX7) (C := RX7) (Tf := TX7) (N := 10) (index := 10) (κ := (3, 1)) (v := .ref (h 1)) hx hb hts hown hK hW (fun _ h => List.mem_cons_of_mem _ (List.mem_append_left _ (List.mem_append_left _ (List.mem_append_left _ (List.mem_append_left _ (List.mem_append_right _ h)))))) (sx_i 0 hB (by decide)) (sx_c0 hB) rfl 0 (by decide) rfl rfl (List.mem_of_getElem? (i := 1) rfl) dX7_tells_77 ?_
              refine lv_iload_n hx hb dX7_tells_80 rfl (lv_at hl 3 rfl) ?_
              refine lv_aload_n hx hb dX7_tells_81 rfl (lv_at hl 1 rfl) ?_
              refine sv_get (own := RX7) (C := RX7) (Tf := TX7) (N := 10) (index := 10) (κ := (3, 1)) (v := .ref (h 1)) hx hb hts hown hK hW (fun _ h => List.mem_cons_of_mem _ (List.mem_append_left _ (List.mem_append_left _ (List.mem_append_left _ (List.mem_append_left _ (List.mem_append_right _ h)))))) (sx_i 0 hB (by decide)) (sx_c0 hB) rfl 0 (by decide) rfl rfl (List.mem_of_getElem? (i := 1) rfl) dX7_tells_82 ?_
              obtain ⟨r13, σ14, eσ14, hs⟩ := sp_bind hs
              refine sv_goI (σ' := σ14) (r := r13) hW F.2.2.2.1 (sv_runV (C := RX2) F hW (k_X2_shakenCount hB eσ14 H.size) gX7_tells_X2_shakenCount rfl ⟨rfl, rfl⟩ 0 (by decide +kernel) (sv_room2 (by omega) (by omega)) (sx_i 1 hB (by decide)) (sx_c1 hB) rfl rfl hl.1 rfl (Nat.le_of_ble_eq_true rfl) dX7_tells_85 ⟨Nat.zero_le _, Nat.zero_le _⟩) (fun H locs hW => ?_)
              obtain ⟨r15, σ16, eσ16, hs⟩ := sp_bind hs
              refine sv_goV (σ' := σ16) (r := r15) hW F.2.2.2.1 (sv_runV (C := RX0) F hW (k_X0_regard hB (sx_o22 hB) eσ16 H.size) gX7_tells_X0_regard rfl ⟨rfl, rfl⟩ 3 (by decide +kernel) (sv_room2 (by omega) (by omega)) (sx_i 22 hB (by decide)) (sx_c22 hB) rfl rfl hl.1 rfl (Nat.le_of_ble_eq_true rfl) dX7_tells_88 ⟨Nat.zero_le _, Nat.zero_le _⟩) (fun H locs hW => ?_)
              refine lv_aload_n hx hb dX7_tells_91 rfl (lv_at hl 1 rfl) ?_
              refine sv_get (own := RX7) (C := RX7) (Tf := TX7) (N := 10) (index := 41) (κ := (3, 22)) (v := .ref (h 22)) hx hb hts hown hK hW (fun _ h => List.mem_cons_of_mem _ (List.mem_append_left _ (List.mem_append_left _ (List.mem_append_left _ (List.mem_append_left _ (List.mem_append_right _ h)))))) (sx_i 0 hB (by decide)) (sx_c0 hB) rfl 7 (by decide) rfl rfl (List.mem_of_getElem? (i := 4) rfl) dX7_tells_92 ?_
              refine lv_aload hx hb dX7_tells_95 (lv_at hl 0 rfl) ?_
              refine lv_aload_n hx hb dX7_tells_97 rfl (lv_at hl 1 rfl) ?_
              refine sv_get (own := RX7) (C := RX7) (Tf := TX7) (N := 10) (index := 10) (κ := (3, 1)) (v := .ref (h 1)) hx hb hts hown hK hW (fun _ h => List.mem_cons_of_mem _ (List.mem_append_left _ (List.mem_append_left _ (List.mem_append_left _ (List.mem_append_left _ (List.mem_append_right _ h)))))) (sx_i 0 hB (by decide)) (sx_c0 hB) rfl 0 (by decide) rfl rfl (List.mem_of_getElem? (i := 1) rfl) dX7_tells_98 ?_
              refine sv_get (own := RX7) (C := RX2) (Tf := TX2) (N := 8) (index := 99) (κ := (3, 1)) (v := .ref (h 2)) hx hb hts hown hK hW (fun _ h => List.mem_cons_of_mem _ (List.mem_append_left _ (List.mem_append_left _ (List.mem_append_right _ h)))) (sx_i 1 hB (by decide)) (sx_c1 hB) rfl 0 (by decide) rfl rfl (List.mem_of_getElem? (i := 5) rfl) dX7_tells_101 ?_
              obtain ⟨r17, σ18, eσ18, hs⟩ := sp_bind hs
              refine sv_goI (σ' := σ18) (r := r17) hW F.2.2.2.1 (sv_runV (C := RX0) F hW (k_X0_firstOther hB (sx_o22 hB) ht3 (sv_oA_of (sx_i 2 hB (by decide)) (sx_c2 hB)) eσ18 H.size) gX7_tells_X0_firstOther rfl ⟨rfl, rfl⟩ 2 (by decide +kernel) (sv_room2 (by omega) (by omega)) (sx_i 22 hB (by decide)) (sx_c22 hB) rfl rfl hl.1 rfl (Nat.le_of_ble_eq_true rfl) dX7_tells_104 ⟨Nat.zero_le _, Nat.zero_le _⟩) (fun H locs hW => ?_)
              cases hs
              exact sv_iret hx hb hr rfl hlk hW dX7_tells_107
            · replace hs := (sp_ite hs).2 c12
              refine lv_aload_n hx hb dX7_tells_63 rfl (lv_at hl 1 rfl) ?_
              refine lv_aload hx hb dX7_tells_64 (lv_at hl 0 rfl) ?_
              refine lv_iload_n hx hb dX7_tells_66 rfl (lv_at hl 3 rfl) ?_
              refine lv_iload_n hx hb dX7_tells_67 rfl (lv_at hl 4 rfl) ?_
              obtain ⟨r19, σ20, eσ20, hs⟩ := sp_bind hs
              refine sv_goI (σ' := σ20) (r := r19) hW F.2.2.2.1 (sv_runV (C := RX7) F hW (k_X7_fitting hB ht3 eσ20 H.size) gX7_tells_X7_fitting rfl ⟨rfl, rfl⟩ 3 (by decide +kernel) (sv_room2 (by omega) (by omega)) (sx_i 0 hB (by decide)) (sx_c0 hB) rfl rfl hl.1 rfl (Nat.le_of_ble_eq_true rfl) dX7_tells_68 ⟨Nat.zero_le _, Nat.zero_le _⟩) (fun H locs hW => ?_)
              cases hs
              exact sv_iret hx hb hr rfl hlk hW dX7_tells_71
          · replace hs := (sp_ite hs).2 c11
            refine lv_bipush (v := -2) hx hb dX7_tells_56 (by decide) ?_
            cases hs
            exact sv_iret hx hb hr rfl hlk hW dX7_tells_58
        · replace hs := (sp_ite hs).1 c10
          refine lv_bipush (v := -11) hx hb dX7_tells_43 (by decide) ?_
          cases hs
          exact sv_iret hx hb hr rfl hlk hW dX7_tells_45
      · replace hs := (sp_ite hs).1 c9
        refine lv_bipush (v := -2) hx hb dX7_tells_31 (by decide) ?_
        cases hs
        exact sv_iret hx hb hr rfl hlk hW dX7_tells_33

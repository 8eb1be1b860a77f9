set_option maxRecDepth 100000 in
set_option maxHeartbeats 4000000 in
theorem b_X7_film_65 {qK qV : Nat → Nat} {p : Program} {l : Launch} {e : Env} {s : State} {m : MethodId} {args : Array Value} {below : List Frame} {meth : Method} {c : Code} {D : va_G} {T : Nat → ClassId} {A : Nat → Prop} {h : Nat → Nat} {θ : sv_T} {a1 : Int32} {a2 : Int32} {a3 : Int32} {r : Int32} {σ' : sv_S} (hB : sx_base θ)  (F : sv_F (sx_X qK qV) p m c cX7_film 6 s args wsX7_film RX7 D (sx_tys T) A) (hr : meth.sig.returnType = (some .int)) (hlk : meth.locks = false)  : ∀ (n : Nat), ∀ (x3 : Int32) (z4 : Nat) (x5 : Int32) (σ : sv_S) (H : Heap) (locs : List Loc) (ls : Array Slot), sv_oX5 θ z4 → lv_has ls 6 [(0, .ref (h 0)), (3, .int x3), (4, .ref (h z4)), (5, .int x5)] → sv_W D T A s h θ σ H locs → q_X7_film_B65 θ a1 a2 a3 n x3 z4 x5 σ = some (r, σ') → W p l e (sv_rm 3 68) s m args below meth c H locs 0 0 (MQ below (va_Qi (fun r2 (_ : Unit) => r2 = r) (fun _ t => va_P D vwCl (sv_ws T h θ σ') t.heap) A) args s 0 0 A) (F0 m 65 ls []) := by
  have hx := F.1.1
  have hb := F.1.2.1
  have hts := F.1.2.2.2.2
  have hown := F.1.2.2.2.1
  have hK := F.2.1
  intro n
  induction n with
  | zero =>
    intro x3 z4 x5 σ H locs ls hz4 hl hW hs
    have hs : (none : Option (Int32 × sv_S)) = some (r, σ') := hs
    cases hs
  | succ n ih =>
    intro x3 z4 x5 σ H locs ls hz4 hl hW hs
    have hs : q_X7_film_B65_b θ a1 a2 a3 (q_X7_film_B65 θ a1 a2 a3 n) x3 z4 x5 σ = some (r, σ') := hs
    unfold q_X7_film_B65_b at hs
    refine lv_iload hx hb dX7_film_65 (lv_at hl 3 rfl) ?_
    refine lv_iload_n hx hb dX7_film_67 rfl (lv_at hl 1 rfl) ?_
    refine lv_icmp_ge (tgt := 108) hx hb dX7_film_68 (by decide) (fun c15 => ?_) (fun c15 => ?_)
    · replace hs := (sp_ite hs).1 c15
      refine lv_iload_n hx hb dX7_film_108 rfl (lv_at hl 1 rfl) ?_
      cases hs
      exact sv_iret hx hb hr rfl hlk hW dX7_film_109
    · replace hs := (sp_ite hs).2 c15
      refine lv_aload_n hx hb dX7_film_71 rfl (lv_at hl 0 rfl) ?_
      refine sv_get (own := RX7) (C := RX7) (Tf := TX7) (N := 10) (index := 41) (κ := (3, 22)) (v := .ref (h 22)) hx hb hts hown hK hW (fun _ h => List.mem_cons_of_mem _ (List.mem_append_left _ (List.mem_append_left _ (List.mem_append_left _ (List.mem_append_left _ (List.mem_append_right _ h)))))) (sx_i 0 hB (by decide)) (sx_c0 hB) rfl 7 (by decide) rfl rfl (List.mem_of_getElem? (i := 2) rfl) dX7_film_72 ?_
      refine lv_aload_n hx hb dX7_film_75 rfl (lv_at hl 0 rfl) ?_
      refine sv_get (own := RX7) (C := RX7) (Tf := TX7) (N := 10) (index := 10) (κ := (3, 1)) (v := .ref (h 1)) hx hb hts hown hK hW (fun _ h => List.mem_cons_of_mem _ (List.mem_append_left _ (List.mem_append_left _ (List.mem_append_left _ (List.mem_append_left _ (List.mem_append_right _ h)))))) (sx_i 0 hB (by decide)) (sx_c0 hB) rfl 0 (by decide) rfl rfl (List.mem_of_getElem? (i := 1) rfl) dX7_film_76 ?_
      refine sv_get (own := RX7) (C := RX2) (Tf := TX2) (N := 8) (index := 99) (κ := (3, 1)) (v := .ref (h 2)) hx hb hts hown hK hW (fun _ h => List.mem_cons_of_mem _ (List.mem_append_left _ (List.mem_append_left _ (List.mem_append_left _ (List.mem_append_right _ h))))) (sx_i 1 hB (by decide)) (sx_c1 hB) rfl 0 (by decide) rfl rfl (List.mem_of_getElem? (i := 3) rfl) dX7_film_79 ?_
      refine lv_iload hx hb dX7_film_82 (lv_at hl 3 rfl) ?_
      obtain ⟨r16, σ17, eσ17, hs⟩ := sp_bind hs
      refine sv_goV (σ' := σ17) (r := r16) hW F.2.2.2.1 (sv_runV (C := RX0) F hW (k_X0_see hB (sx_o22 hB) (sv_oA_of (sx_i 2 hB (by decide)) (sx_c2 hB)) eσ17 H.size) gX7_film_X0_see rfl ⟨rfl, rfl⟩ 2 (by decide +kernel) (sv_room2 (by omega) (by omega)) (sx_i 22 hB (by decide)) (sx_c22 hB) rfl rfl hl.1 rfl (Nat.le_of_ble_eq_true rfl) dX7_film_84 ⟨Nat.zero_le _, Nat.zero_le _⟩) (fun H locs hW => ?_)
      refine lv_aload hx hb dX7_film_87 (lv_at hl 2 rfl) ?_
      refine lv_iload hx hb dX7_film_89 (lv_at hl 3 rfl) ?_
      refine lv_aload_n hx hb dX7_film_91 rfl (lv_at hl 0 rfl) ?_
      refine sv_get (own := RX7) (C := RX7) (Tf := TX7) (N := 10) (index := 41) (κ := (3, 22)) (v := .ref (h 22)) hx hb hts hown hK hW (fun _ h => List.mem_cons_of_mem _ (List.mem_append_left _ (List.mem_append_left _ (List.mem_append_left _ (List.mem_append_left _ (List.mem_append_right _ h)))))) (sx_i 0 hB (by decide)) (sx_c0 hB) rfl 7 (by decide) rfl rfl (List.mem_of_getElem? (i := 2) rfl) dX7_film_92 ?_
      obtain ⟨r18, σ19, eσ19, hs⟩ := sp_bind hs
      refine sv_goI (σ' := σ19) (r := r18) hW F.2.2.2.1 (sv_runV (C := RX0) F hW (k_X0_worth hB (sx_o22 hB) eσ19 H.size) gX7_film_X0_worth rfl ⟨rfl, rfl⟩ 0 (by decide +kernel) (sv_room2 (by omega) (by omega)) (sx_i 22 hB (by decide)) (sx_c22 hB) rfl rfl hl.1 rfl (Nat.le_of_ble_eq_true rfl) dX7_film_95 ⟨Nat.zero_le _, Nat.zero_le _⟩) (fun H locs hW => ?_)
      obtain ⟨r20, σ21, eσ21, hs⟩ := sp_bind hs
      refine sv_goI (σ' := σ21) (r := r20) hW F.2.2.2.1 (sv_runV (C := RX5) F hW (k_X5_write hB hz4 eσ21 H.size) gX7_film_X5_write rfl ⟨rfl, rfl⟩ 2 (by decide +kernel) (sv_room2 (by omega) (by omega)) hz4.1 hz4.2.1 rfl rfl hl.1 rfl (Nat.le_of_ble_eq_true rfl) dX7_film_98 ⟨Nat.zero_le _, Nat.zero_le _⟩) (fun H locs hW => ?_)
      refine lv_pop hx hb dX7_film_101 rfl ?_
      obtain ⟨v22, ev22⟩ : ∃ y : Int32, y = x5 + 1 := ⟨_, rfl⟩
      replace hs := sp_let hs ev22
      refine lv_iinc (v := v22) (lv' := [(5, .int v22), (0, .ref (h 0)), (3, .int x3), (4, .ref (h z4))]) hx hb dX7_film_102 hl (k := 3) rfl (by rw [ev22]; rfl) (by decide) rfl (fun ls hl => ?_)
      refine lv_goto (tgt := 65) hx hb dX7_film_105 (by decide) ?_
      exact ih x3 z4 v22 σ21 H locs ls hz4 (lv_sub hl [1, 2, 3, 0] rfl) hW hs
set_option maxRecDepth 100000 in
set_option maxHeartbeats 4000000 in
theorem k_X7_film {qK qV : Nat → Nat} {l : Launch} {D : va_G} {T : Nat → ClassId} {h : Nat → Nat} {θ : sv_T} {a1 : Int32} {a2 : Int32} {a3 : Int32} {σ : sv_S} {r : Int32} {σ' : sv_S} (hB : sx_base θ)  (hs : q_X7_film θ a1 a2 a3 σ = some (r, σ')) : sv_Mi (sx_X qK qV) l D T (sx_tys T) h θ yX7_film wsX7_film (sv_rm 3 68) [.ref (h 0), .int a1, .int a2, .int a3] σ r σ' := by
  intro sz
  refine sv_enter (cc := cX7_film) (maxL := 6) (ret := (some .int)) (Qc := fun A => va_Qi (fun r2 (_ : Unit) => r2 = r) (fun _ t => va_P D vwCl (sv_ws T h θ σ') t.heap) A) sx_XP (by decide) rfl (Nat.le_of_ble_eq_true rfl) ?_
  intro p e s m args below meth c A F hr hlk ls H hl hW
  have hx := F.1.1
  have hb := F.1.2.1
  have hts := F.1.2.2.2.2
  have hown := F.1.2.2.2.1
  have hK := F.2.1
  obtain ⟨locs, hlocs⟩ : ∃ z : List Loc, z = [] := ⟨_, rfl⟩
  rw [← hlocs] at hW ⊢
  have hl : lv_has ls 6 [(0, .ref (h 0)), (1, .int a1), (2, .int a2), (3, .int a3)] := hl
  unfold q_X7_film at hs
  refine lv_aload_n hx hb dX7_film_0 rfl (lv_at hl 0 rfl) ?_
  refine lv_iload_n hx hb dX7_film_1 rfl (lv_at hl 1 rfl) ?_
  obtain ⟨r1, σ2, eσ2, hs⟩ := sp_bind hs
  refine sv_goQ (σ' := σ2) (r := r1) hW F.2.2.2.1 (sv_runV (C := RX7) F hW (k_X7_rowAt hB eσ2 H.size) gX7_film_X7_rowAt rfl ⟨rfl, rfl⟩ 1 (by decide +kernel) (sv_room2 (by omega) (by omega)) (sx_i 0 hB (by decide)) (sx_c0 hB) rfl rfl hl.1 rfl (Nat.le_of_ble_eq_true rfl) dX7_film_2 ⟨Nat.zero_le _, Nat.zero_le _⟩) (fun H locs hW => ?_)
  cases et3 : r1 with
  | none =>
    replace hs := sp_on hs et3
    refine W.eq (g2 := F0 m 5 ls [.null]) rfl ?_
    refine lv_astoreN (lv' := [(4, .null), (0, .ref (h 0)), (1, .int a1), (2, .int a2), (3, .int a3)]) hx hb dX7_film_5 hl (by decide) rfl (fun ls hl => ?_)
    refine lv_aloadN hx hb dX7_film_7 (lv_at hl 0 rfl) ?_
    refine lv_ifnullN (tgt := 33) hx hb dX7_film_9 (by decide) ?_
    refine lv_bipush (v := -2) hx hb dX7_film_33 (by decide) ?_
    cases hs
    exact sv_iret hx hb hr rfl hlk hW dX7_film_35
  | some t3 =>
    replace hs := sp_os hs et3
    obtain ⟨ht3, hs⟩ := sp_p hs
    refine W.eq (g2 := F0 m 5 ls [.ref (h t3)]) rfl ?_
    refine lv_astore (lv' := [(4, .ref (h t3)), (0, .ref (h 0)), (1, .int a1), (2, .int a2), (3, .int a3)]) hx hb dX7_film_5 hl (by decide) rfl (fun ls hl => ?_)
    refine lv_aload hx hb dX7_film_7 (lv_at hl 0 rfl) ?_
    refine lv_ifnull hx hb dX7_film_9 ?_
    refine lv_aload_n hx hb dX7_film_12 rfl (lv_at hl 1 rfl) ?_
    refine sv_get (own := RX7) (C := RX7) (Tf := TX7) (N := 10) (index := 10) (κ := (3, 1)) (v := .ref (h 1)) hx hb hts hown hK hW (fun _ h => List.mem_cons_of_mem _ (List.mem_append_left _ (List.mem_append_left _ (List.mem_append_left _ (List.mem_append_left _ (List.mem_append_right _ h)))))) (sx_i 0 hB (by decide)) (sx_c0 hB) rfl 0 (by decide) rfl rfl (List.mem_of_getElem? (i := 1) rfl) dX7_film_13 ?_
    refine lv_iload_n hx hb dX7_film_16 rfl (lv_at hl 3 rfl) ?_
    obtain ⟨r4, σ5, eσ5, hs⟩ := sp_bind hs
    refine sv_goI (σ' := σ5) (r := r4) hW F.2.2.2.1 (sv_runV (C := RX2) F hW (k_X2_has hB eσ5 H.size) gX7_film_X2_has rfl ⟨rfl, rfl⟩ 1 (by decide +kernel) (sv_room2 (by omega) (by omega)) (sx_i 1 hB (by decide)) (sx_c1 hB) rfl rfl hl.1 rfl (Nat.le_of_ble_eq_true rfl) dX7_film_17 ⟨Nat.zero_le _, Nat.zero_le _⟩) (fun H locs hW => ?_)
    refine lv_if_eq (tgt := 33) hx hb dX7_film_20 (by decide) (fun c6 => ?_) (fun c6 => ?_)
    · replace hs := (sp_ite hs).1 c6
      refine lv_bipush (v := -2) hx hb dX7_film_33 (by decide) ?_
      cases hs
      exact sv_iret hx hb hr rfl hlk hW dX7_film_35
    · replace hs := (sp_ite hs).2 c6
      refine lv_iload_n hx hb dX7_film_23 rfl (lv_at hl 4 rfl) ?_
      refine lv_if_lt (tgt := 33) hx hb dX7_film_24 (by decide) (fun c7 => ?_) (fun c7 => ?_)
      · replace hs := (sp_ite hs).1 c7
        refine lv_bipush (v := -2) hx hb dX7_film_33 (by decide) ?_
        cases hs
        exact sv_iret hx hb hr rfl hlk hW dX7_film_35
      · replace hs := (sp_ite hs).2 c7
        refine lv_iload_n hx hb dX7_film_27 rfl (lv_at hl 4 rfl) ?_
        refine lv_bipush (v := 24) hx hb dX7_film_28 (by decide) ?_
        refine lv_icmp_le (tgt := 36) hx hb dX7_film_30 (by decide) (fun c8 => ?_) (fun c8 => ?_)
        · replace hs := (sp_ite hs).1 c8
          refine lv_aload hx hb dX7_film_36 (lv_at hl 0 rfl) ?_
          refine lv_iconst (v := 1) hx hb dX7_film_38 (by decide) ?_
          refine lv_iload_n hx hb dX7_film_39 rfl (lv_at hl 4 rfl) ?_
          obtain ⟨r9, σ10, eσ10, hs⟩ := sp_bind hs
          refine sv_goV (σ' := σ10) (r := r9) hW F.2.2.2.1 (sv_runV (C := RX5) F hW (k_X5_renew hB ht3 eσ10 H.size) gX7_film_X5_renew rfl ⟨rfl, rfl⟩ 2 (by decide +kernel) (sv_room2 (by omega) (by omega)) ht3.1 ht3.2.1 rfl rfl hl.1 rfl (Nat.le_of_ble_eq_true rfl) dX7_film_40 ⟨Nat.zero_le _, Nat.zero_le _⟩) (fun H locs hW => ?_)
          refine lv_aload_n hx hb dX7_film_43 rfl (lv_at hl 1 rfl) ?_
          refine sv_get (own := RX7) (C := RX7) (Tf := TX7) (N := 10) (index := 41) (κ := (3, 22)) (v := .ref (h 22)) hx hb hts hown hK hW (fun _ h => List.mem_cons_of_mem _ (List.mem_append_left _ (List.mem_append_left _ (List.mem_append_left _ (List.mem_append_left _ (List.mem_append_right _ h)))))) (sx_i 0 hB (by decide)) (sx_c0 hB) rfl 7 (by decide) rfl rfl (List.mem_of_getElem? (i := 2) rfl) dX7_film_44 ?_
          refine lv_aload_n hx hb dX7_film_47 rfl (lv_at hl 1 rfl) ?_
          refine sv_get (own := RX7) (C := RX7) (Tf := TX7) (N := 10) (index := 10) (κ := (3, 1)) (v := .ref (h 1)) hx hb hts hown hK hW (fun _ h => List.mem_cons_of_mem _ (List.mem_append_left _ (List.mem_append_left _ (List.mem_append_left _ (List.mem_append_left _ (List.mem_append_right _ h)))))) (sx_i 0 hB (by decide)) (sx_c0 hB) rfl 0 (by decide) rfl rfl (List.mem_of_getElem? (i := 1) rfl) dX7_film_48 ?_
          refine lv_iload_n hx hb dX7_film_51 rfl (lv_at hl 3 rfl) ?_
          refine lv_aload_n hx hb dX7_film_52 rfl (lv_at hl 1 rfl) ?_
          refine sv_get (own := RX7) (C := RX7) (Tf := TX7) (N := 10) (index := 10) (κ := (3, 1)) (v := .ref (h 1)) hx hb hts hown hK hW (fun _ h => List.mem_cons_of_mem _ (List.mem_append_left _ (List.mem_append_left _ (List.mem_append_left _ (List.mem_append_left _ (List.mem_append_right _ h)))))) (sx_i 0 hB (by decide)) (sx_c0 hB) rfl 0 (by decide) rfl rfl (List.mem_of_getElem? (i := 1) rfl) dX7_film_53 ?_
          obtain ⟨r11, σ12, eσ12, hs⟩ := sp_bind hs
          refine sv_goI (σ' := σ12) (r := r11) hW F.2.2.2.1 (sv_runV (C := RX2) F hW (k_X2_shakenCount hB eσ12 H.size) gX7_film_X2_shakenCount rfl ⟨rfl, rfl⟩ 0 (by decide +kernel) (sv_room2 (by omega) (by omega)) (sx_i 1 hB (by decide)) (sx_c1 hB) rfl rfl hl.1 rfl (Nat.le_of_ble_eq_true rfl) dX7_film_56 ⟨Nat.zero_le _, Nat.zero_le _⟩) (fun H locs hW => ?_)
          obtain ⟨r13, σ14, eσ14, hs⟩ := sp_bind hs
          refine sv_goV (σ' := σ14) (r := r13) hW F.2.2.2.1 (sv_runV (C := RX0) F hW (k_X0_regard hB (sx_o22 hB) eσ14 H.size) gX7_film_X0_regard rfl ⟨rfl, rfl⟩ 3 (by decide +kernel) (sv_room2 (by omega) (by omega)) (sx_i 22 hB (by decide)) (sx_c22 hB) rfl rfl hl.1 rfl (Nat.le_of_ble_eq_true rfl) dX7_film_59 ⟨Nat.zero_le _, Nat.zero_le _⟩) (fun H locs hW => ?_)
          refine lv_iconst (v := 0) hx hb dX7_film_62 (by decide) ?_
          refine lv_istore (lv' := [(5, .int (0 : Int32)), (4, .ref (h t3)), (0, .ref (h 0)), (1, .int a1), (2, .int a2), (3, .int a3)]) hx hb dX7_film_63 hl (by decide) rfl (fun ls hl => ?_)
          exact b_X7_film_65 hB F hr hlk sv_N a3 t3 (0 : Int32) σ14 H locs ls ht3 (lv_sub hl [2, 5, 1, 0] rfl) hW hs
        · replace hs := (sp_ite hs).2 c8
          refine lv_bipush (v := -2) hx hb dX7_film_33 (by decide) ?_
          cases hs
          exact sv_iret hx hb hr rfl hlk hW dX7_film_35
set_option maxRecDepth 100000 in
set_option maxHeartbeats 4000000 in
theorem k_X7_drawn {qK qV : Nat → Nat} {l : Launch} {D : va_G} {T : Nat → ClassId} {h : Nat → Nat} {θ : sv_T} {a1 : Int32} {σ : sv_S} {r : Int32} {σ' : sv_S} (hB : sx_base θ)  (hs : q_X7_drawn θ a1 σ = some (r, σ')) : sv_Mi (sx_X qK qV) l D T (sx_tys T) h θ yX7_drawn wsX7_drawn (sv_rm 6 141) [.ref (h 0), .int a1] σ r σ' := by
  intro sz
  refine sv_enter (cc := cX7_drawn) (maxL := 2) (ret := (some .int)) (Qc := fun A => va_Qi (fun r2 (_ : Unit) => r2 = r) (fun _ t => va_P D vwCl (sv_ws T h θ σ') t.heap) A) sx_XP (by decide) rfl (Nat.le_of_ble_eq_true rfl) ?_
  intro p e s m args below meth c A F hr hlk ls H hl hW
  have hx := F.1.1
  have hb := F.1.2.1
  have hts := F.1.2.2.2.2
  have hown := F.1.2.2.2.1
  have hK := F.2.1
  obtain ⟨locs, hlocs⟩ : ∃ z : List Loc, z = [] := ⟨_, rfl⟩
  rw [← hlocs] at hW ⊢
  have hl : lv_has ls 2 [(0, .ref (h 0)), (1, .int a1)] := hl
  unfold q_X7_drawn at hs
  refine lv_aload_n hx hb dX7_drawn_0 rfl (lv_at hl 0 rfl) ?_
  refine sv_get (own := RX7) (C := RX7) (Tf := TX7) (N := 10) (index := 48) (κ := (3, 24)) (v := .ref (h 24)) hx hb hts hown hK hW (fun _ h => List.mem_cons_of_mem _ (List.mem_append_left _ (List.mem_append_left _ (List.mem_append_left _ (List.mem_append_left _ (List.mem_append_right _ h)))))) (sx_i 0 hB (by decide)) (sx_c0 hB) rfl 8 (by decide) rfl rfl (List.mem_of_getElem? (i := 1) rfl) dX7_drawn_1 ?_
  refine lv_iload_n hx hb dX7_drawn_4 rfl (lv_at hl 1 rfl) ?_
  obtain ⟨r1, σ2, eσ2, hs⟩ := sp_bind hs
  refine sv_goV (σ' := σ2) (r := r1) hW F.2.2.2.1 (sv_runV (C := RX3) F hW (k_X3_draw hB eσ2 H.size) gX7_drawn_X3_draw rfl ⟨rfl, rfl⟩ 1 (by decide +kernel) (sv_room2 (by omega) (by omega)) (sx_i 24 hB (by decide)) (sx_c24 hB) rfl rfl hl.1 rfl (Nat.le_of_ble_eq_true rfl) dX7_drawn_5 ⟨Nat.zero_le _, Nat.zero_le _⟩) (fun H locs hW => ?_)
  refine lv_aload_n hx hb dX7_drawn_8 rfl (lv_at hl 0 rfl) ?_
  refine sv_get (own := RX7) (C := RX7) (Tf := TX7) (N := 10) (index := 48) (κ := (3, 24)) (v := .ref (h 24)) hx hb hts hown hK hW (fun _ h => List.mem_cons_of_mem _ (List.mem_append_left _ (List.mem_append_left _ (List.mem_append_left _ (List.mem_append_left _ (List.mem_append_right _ h)))))) (sx_i 0 hB (by decide)) (sx_c0 hB) rfl 8 (by decide) rfl rfl (List.mem_of_getElem? (i := 1) rfl) dX7_drawn_9 ?_
  refine lv_aload_n hx hb dX7_drawn_12 rfl (lv_at hl 0 rfl) ?_
  refine sv_get (own := RX7) (C := RX7) (Tf := TX7) (N := 10) (index := 10) (κ := (3, 1)) (v := .ref (h 1)) hx hb hts hown hK hW (fun _ h => List.mem_cons_of_mem _ (List.mem_append_left _ (List.mem_append_left _ (List.mem_append_left _ (List.mem_append_left _ (List.mem_append_right _ h)))))) (sx_i 0 hB (by decide)) (sx_c0 hB) rfl 0 (by decide) rfl rfl (List.mem_of_getElem? (i := 2) rfl) dX7_drawn_13 ?_
  refine lv_aload_n hx hb dX7_drawn_16 rfl (lv_at hl 0 rfl) ?_
  refine sv_get (own := RX7) (C := RX7) (Tf := TX7) (N := 10) (index := 48) (κ := (3, 24)) (v := .ref (h 24)) hx hb hts hown hK hW (fun _ h => List.mem_cons_of_mem _ (List.mem_append_left _ (List.mem_append_left _ (List.mem_append_left _ (List.mem_append_left _ (List.mem_append_right _ h)))))) (sx_i 0 hB (by decide)) (sx_c0 hB) rfl 8 (by decide) rfl rfl (List.mem_of_getElem? (i := 1) rfl) dX7_drawn_17 ?_
  refine sv_get (own := RX7) (C := RX3) (Tf := TX3) (N := 17) (index := 281) (κ := (3, 4)) (v := .ref (h 28)) hx hb hts hown hK hW (fun _ h => List.mem_cons_of_mem _ (List.mem_append_left _ (List.mem_append_left _ (List.mem_append_left _ (List.mem_append_right _ h))))) (sx_i 24 hB (by decide)) (sx_c24 hB) rfl 2 (by decide) rfl rfl (List.mem_of_getElem? (i := 3) rfl) dX7_drawn_20 ?_
  refine lv_aload_n hx hb dX7_drawn_23 rfl (lv_at hl 0 rfl) ?_
  refine sv_get (own := RX7) (C := RX7) (Tf := TX7) (N := 10) (index := 48) (κ := (3, 24)) (v := .ref (h 24)) hx hb hts hown hK hW (fun _ h => List.mem_cons_of_mem _ (List.mem_append_left _ (List.mem_append_left _ (List.mem_append_left _ (List.mem_append_left _ (List.mem_append_right _ h)))))) (sx_i 0 hB (by decide)) (sx_c0 hB) rfl 8 (by decide) rfl rfl (List.mem_of_getElem? (i := 1) rfl) dX7_drawn_24 ?_
  refine lv_aload_n hx hb dX7_drawn_27 rfl (lv_at hl 0 rfl) ?_
  refine sv_get (own := RX7) (C := RX7) (Tf := TX7) (N := 10) (index := 10) (κ := (3, 1)) (v := .ref (h 1)) hx hb hts hown hK hW (fun _ h => List.mem_cons_of_mem _ (List.mem_append_left _ (List.mem_append_left _ (List.mem_append_left _ (List.mem_append_left _ (List.mem_append_right _ h)))))) (sx_i 0 hB (by decide)) (sx_c0 hB) rfl 0 (by decide) rfl rfl (List.mem_of_getElem? (i := 2) rfl) dX7_drawn_28 ?_
  obtain ⟨r3, σ4, eσ4, hs⟩ := sp_bind hs
  refine sv_goI (σ' := σ4) (r := r3) hW F.2.2.2.1 (sv_runV (C := RX3) F hW (k_X3_lineUp hB eσ4 H.size) gX7_drawn_X3_lineUp rfl ⟨rfl, rfl⟩ 1 (by decide +kernel) (sv_room2 (by omega) (by omega)) (sx_i 24 hB (by decide)) (sx_c24 hB) rfl rfl hl.1 rfl (Nat.le_of_ble_eq_true rfl) dX7_drawn_31 ⟨Nat.zero_le _, Nat.zero_le _⟩) (fun H locs hW => ?_)
  obtain ⟨r5, σ6, eσ6, hs⟩ := sp_bind hs
  refine sv_goV (σ' := σ6) (r := r5) hW F.2.2.2.1 (sv_runV (C := RX3) F hW (k_X3_run hB (sv_oA_of (sx_i 28 hB (by decide)) (sx_c28 hB)) eσ6 H.size) gX7_drawn_X3_run rfl ⟨rfl, rfl⟩ 3 (by decide +kernel) (sv_room2 (by omega) (by omega)) (sx_i 24 hB (by decide)) (sx_c24 hB) rfl rfl hl.1 rfl (Nat.le_of_ble_eq_true rfl) dX7_drawn_34 ⟨Nat.zero_le _, Nat.zero_le _⟩) (fun H locs hW => ?_)
  refine lv_aload_n hx hb dX7_drawn_37 rfl (lv_at hl 0 rfl) ?_
  refine sv_get (own := RX7) (C := RX7) (Tf := TX7) (N := 10) (index := 48) (κ := (3, 24)) (v := .ref (h 24)) hx hb hts hown hK hW (fun _ h => List.mem_cons_of_mem _ (List.mem_append_left _ (List.mem_append_left _ (List.mem_append_left _ (List.mem_append_left _ (List.mem_append_right _ h)))))) (sx_i 0 hB (by decide)) (sx_c0 hB) rfl 8 (by decide) rfl rfl (List.mem_of_getElem? (i := 1) rfl) dX7_drawn_38 ?_
  refine sv_get (own := RX7) (C := RX3) (Tf := TX3) (N := 17) (index := 195) (κ := (0, 0)) (v := .int (σ6.1 24 3)) hx hb hts hown hK hW (fun _ h => List.mem_cons_of_mem _ (List.mem_append_left _ (List.mem_append_left _ (List.mem_append_left _ (List.mem_append_right _ h))))) (sx_i 24 hB (by decide)) (sx_c24 hB) rfl 3 (by decide) rfl rfl (List.mem_of_getElem? (i := 4) rfl) dX7_drawn_41 ?_
  cases hs
  exact sv_iret hx hb hr rfl hlk hW dX7_drawn_44
set_option maxRecDepth 100000 in
set_option maxHeartbeats 4000000 in
theorem b_X7_commonDivisor_7 {qK qV : Nat → Nat} {p : Program} {l : Launch} {e : Env} {s : State} {m : MethodId} {args : Array Value} {below : List Frame} {meth : Method} {c : Code} {D : va_G} {T : Nat → ClassId} {A : Nat → Prop} {h : Nat → Nat} {θ : sv_T} {a1 : Int32} {a2 : Int32} {r : Int32} {σ' : sv_S} (hB : sx_base θ)  (F : sv_F (sx_X qK qV) p m c cX7_commonDivisor 6 s args wsX7_commonDivisor RX7 D (sx_tys T) A) (hr : meth.sig.returnType = (some .int)) (hlk : meth.locks = false)  : ∀ (n : Nat), ∀ (x2 : Int32) (x3 : Int32) (x4 : Int32) (σ : sv_S) (H : Heap) (locs : List Loc) (ls : Array Slot), lv_has ls 6 [(2, .int x2), (3, .int x3), (4, .int x4)] → sv_W D T A s h θ σ H locs → q_X7_commonDivisor_B7 θ a1 a2 n x2 x3 x4 σ = some (r, σ') → W p l e (sv_rm 0 0) s m args below meth c H locs 0 0 (MQ below (va_Qi (fun r2 (_ : Unit) => r2 = r) (fun _ t => va_P D vwCl (sv_ws T h θ σ') t.heap) A) args s 0 0 A) (F0 m 7 ls []) := by
  have hx := F.1.1
  have hb := F.1.2.1
  have hts := F.1.2.2.2.2
  have hown := F.1.2.2.2.1
  have hK := F.2.1
  intro n
  induction n with
  | zero =>
    intro x2 x3 x4 σ H locs ls hl hW hs
    have hs : (none : Option (Int32 × sv_S)) = some (r, σ') := hs
    cases hs
  | succ n ih =>
    intro x2 x3 x4 σ H locs ls hl hW hs
    have hs : q_X7_commonDivisor_B7_b θ a1 a2 (q_X7_commonDivisor_B7 θ a1 a2 n) x2 x3 x4 σ = some (r, σ') := hs
    unfold q_X7_commonDivisor_B7_b at hs
    refine lv_iload hx hb dX7_commonDivisor_7 (lv_at hl 2 rfl) ?_
    refine lv_bipush (v := 50) hx hb dX7_commonDivisor_9 (by decide) ?_
    refine lv_icmp_ge (tgt := 34) hx hb dX7_commonDivisor_11 (by decide) (fun c1 => ?_) (fun c1 => ?_)
    · replace hs := (sp_ite hs).1 c1
      refine lv_iload_n hx hb dX7_commonDivisor_34 rfl (lv_at hl 0 rfl) ?_
      cases hs
      exact sv_iret hx hb hr rfl hlk hW dX7_commonDivisor_35
    · replace hs := (sp_ite hs).2 c1
      refine lv_iload_n hx hb dX7_commonDivisor_14 rfl (lv_at hl 1 rfl) ?_
      refine lv_if_eq (tgt := 34) hx hb dX7_commonDivisor_15 (by decide) (fun c2 => ?_) (fun c2 => ?_)
      · replace hs := (sp_ite hs).1 c2
        refine lv_iload_n hx hb dX7_commonDivisor_34 rfl (lv_at hl 0 rfl) ?_
        cases hs
        exact sv_iret hx hb hr rfl hlk hW dX7_commonDivisor_35
      · replace hs := (sp_ite hs).2 c2
        refine lv_iload_n hx hb dX7_commonDivisor_18 rfl (lv_at hl 0 rfl) ?_
        refine lv_iload_n hx hb dX7_commonDivisor_19 rfl (lv_at hl 1 rfl) ?_
        obtain ⟨hz3, hs⟩ := sp_g hs
        refine lv_irem hx hb dX7_commonDivisor_20 hz3 ?_
        refine lv_topi (fun v4 ev4 => ?_)
        replace hs := sp_let hs ev4
        refine lv_istore (lv' := [(5, .int v4), (2, .int x2), (3, .int x3), (4, .int x4)]) hx hb dX7_commonDivisor_21 hl (by decide) rfl (fun ls hl => ?_)
        refine lv_iload_n hx hb dX7_commonDivisor_23 rfl (lv_at hl 2 rfl) ?_
        refine lv_istore_n (lv' := [(2, .int x3), (5, .int v4), (3, .int x3), (4, .int x4)]) hx hb dX7_commonDivisor_24 rfl hl (by decide) rfl (fun ls hl => ?_)
        refine lv_iload hx hb dX7_commonDivisor_25 (lv_at hl 1 rfl) ?_
        refine lv_istore_n (lv' := [(3, .int v4), (2, .int x3), (5, .int v4), (4, .int x4)]) hx hb dX7_commonDivisor_27 rfl hl (by decide) rfl (fun ls hl => ?_)
        obtain ⟨v5, ev5⟩ : ∃ y : Int32, y = x4 + 1 := ⟨_, rfl⟩
        replace hs := sp_let hs ev5
        refine lv_iinc (v := v5) (lv' := [(4, .int v5), (3, .int v4), (2, .int x3), (5, .int v4)]) hx hb dX7_commonDivisor_28 hl (k := 3) rfl (by rw [ev5]; rfl) (by decide) rfl (fun ls hl => ?_)
        refine lv_goto (tgt := 7) hx hb dX7_commonDivisor_31 (by decide) ?_
        exact ih x3 v4 v5 σ H locs ls (lv_sub hl [2, 1, 0] rfl) hW hs
set_option maxRecDepth 100000 in
set_option maxHeartbeats 4000000 in
theorem k_X7_commonDivisor {qK qV : Nat → Nat} {l : Launch} {D : va_G} {T : Nat → ClassId} {h : Nat → Nat} {θ : sv_T} {a1 : Int32} {a2 : Int32} {σ : sv_S} {r : Int32} {σ' : sv_S} (hB : sx_base θ)  (hs : q_X7_commonDivisor θ a1 a2 σ = some (r, σ')) : sv_Mi (sx_X qK qV) l D T (sx_tys T) h θ yX7_commonDivisor wsX7_commonDivisor (sv_rm 0 0) [.int a1, .int a2] σ r σ' := by
  intro sz
  refine sv_enter (cc := cX7_commonDivisor) (maxL := 6) (ret := (some .int)) (Qc := fun A => va_Qi (fun r2 (_ : Unit) => r2 = r) (fun _ t => va_P D vwCl (sv_ws T h θ σ') t.heap) A) sx_XP (by decide) rfl (Nat.le_of_ble_eq_true rfl) ?_
  intro p e s m args below meth c A F hr hlk ls H hl hW
  have hx := F.1.1
  have hb := F.1.2.1
  have hts := F.1.2.2.2.2
  have hown := F.1.2.2.2.1
  have hK := F.2.1
  obtain ⟨locs, hlocs⟩ : ∃ z : List Loc, z = [] := ⟨_, rfl⟩
  rw [← hlocs] at hW ⊢
  have hl : lv_has ls 6 [(0, .int a1), (1, .int a2)] := hl
  unfold q_X7_commonDivisor at hs
  refine lv_iload_n hx hb dX7_commonDivisor_0 rfl (lv_at hl 1 rfl) ?_
  refine lv_istore_n (lv' := [(2, .int a2), (0, .int a1), (1, .int a2)]) hx hb dX7_commonDivisor_1 rfl hl (by decide) rfl (fun ls hl => ?_)
  refine lv_iload_n hx hb dX7_commonDivisor_2 rfl (lv_at hl 1 rfl) ?_
  refine lv_istore_n (lv' := [(3, .int a1), (2, .int a2), (0, .int a1), (1, .int a2)]) hx hb dX7_commonDivisor_3 rfl hl (by decide) rfl (fun ls hl => ?_)
  refine lv_iconst (v := 0) hx hb dX7_commonDivisor_4 (by decide) ?_
  refine lv_istore (lv' := [(4, .int (0 : Int32)), (3, .int a1), (2, .int a2), (0, .int a1), (1, .int a2)]) hx hb dX7_commonDivisor_5 hl (by decide) rfl (fun ls hl => ?_)
  exact b_X7_commonDivisor_7 hB F hr hlk sv_N a2 a1 (0 : Int32) σ H locs ls (lv_sub hl [2, 1, 0] rfl) hW hs
set_option maxRecDepth 100000 in
set_option maxHeartbeats 4000000 in
theorem b_X7_chance_43 {qK qV : Nat → Nat} {p : Program} {l : Launch} {e : Env} {s : State} {m : MethodId} {args : Array Value} {below : List Frame} {meth : Method} {c : Code} {D : va_G} {T : Nat → ClassId} {A : Nat → Prop} {h : Nat → Nat} {θ : sv_T} {a1 : Int32} {a2 : Int32} {a3 : Int32} {a4 : Int32} {r : Int64} {σ' : sv_S} (hB : sx_base θ)  (F : sv_F (sx_X qK qV) p m c cX7_chance 7 s args wsX7_chance RX7 D (sx_tys T) A) (hr : meth.sig.returnType = (some .long)) (hlk : meth.locks = false)  : ∀ (n : Nat), ∀ (x1 : Int32) (x2 : Int32) (x3 : Int32) (x4 : Int32) (x5 : Int32) (x6 : Int32) (σ : sv_S) (H : Heap) (locs : List Loc) (ls : Array Slot), lv_has ls 7 [(0, .ref (h 0)), (1, .int x1), (2, .int x2), (3, .int x3), (4, .int x4), (5, .int x5), (6, .int x6)] → sv_W D T A s h θ σ H locs → q_X7_chance_B43 θ a1 a2 a3 a4 n x1 x2 x3 x4 x5 x6 σ = some (r, σ') → W p l e (sv_rm 6 141) s m args below meth c H locs 0 0 (MQ below (va_Ql (fun r2 (_ : Unit) => r2 = r) (fun _ t => va_P D vwCl (sv_ws T h θ σ') t.heap) A) args s 0 0 A) (F0 m 43 ls []) := by
  have hx := F.1.1
  have hb := F.1.2.1
  have hts := F.1.2.2.2.2
  have hown := F.1.2.2.2.1
  have hK := F.2.1
  intro n
  induction n with
  | zero =>
    intro x1 x2 x3 x4 x5 x6 σ H locs ls hl hW hs
    have hs : (none : Option (Int64 × sv_S)) = some (r, σ') := hs
    cases hs
  | succ n ih =>
    intro x1 x2 x3 x4 x5 x6 σ H locs ls hl hW hs
    have hs : q_X7_chance_B43_b θ a1 a2 a3 a4 (q_X7_chance_B43 θ a1 a2 a3 a4 n) x1 x2 x3 x4 x5 x6 σ = some (r, σ') := hs
    unfold q_X7_chance_B43_b at hs
    refine lv_iload hx hb dX7_chance_43 (lv_at hl 6 rfl) ?_
    refine lv_iload_n hx hb dX7_chance_45 rfl (lv_at hl 2 rfl) ?_
    refine lv_icmp_ge (tgt := 116) hx hb dX7_chance_46 (by decide) (fun c7 => ?_) (fun c7 => ?_)
    · replace hs := (sp_ite hs).1 c7
      refine lv_iload hx hb dX7_chance_116 (lv_at hl 5 rfl) ?_
      refine lv_iload_n hx hb dX7_chance_118 rfl (lv_at hl 2 rfl) ?_
      obtain ⟨r8, σ9, eσ9, hs⟩ := sp_bind hs
      refine sv_goI (σ' := σ9) (r := r8) hW F.2.2.2.1 (sv_runT F hW (k_X7_commonDivisor hB eσ9 H.size) gX7_chance_X7_commonDivisor rfl ⟨rfl, rfl⟩ 2 (by decide +kernel) (sv_room2 (by omega) (by omega)) rfl hl.1 rfl (Nat.le_of_ble_eq_true rfl) dX7_chance_119 ⟨Nat.zero_le _, Nat.zero_le _⟩) (fun H locs hW => ?_)
      refine lv_istore (lv' := [(6, .int r8), (0, .ref (h 0)), (1, .int x1), (2, .int x2), (3, .int x3), (4, .int x4), (5, .int x5)]) hx hb dX7_chance_122 hl (by decide) rfl (fun ls hl => ?_)
      refine lv_iload hx hb dX7_chance_124 (lv_at hl 0 rfl) ?_
      refine lv_iconst (v := 1) hx hb dX7_chance_126 (by decide) ?_
      refine lv_icmp_ge (tgt := 134) hx hb dX7_chance_127 (by decide) (fun c10 => ?_) (fun c10 => ?_)
      · replace hs := (sp_ite hs).1 c10
        refine lv_iload hx hb dX7_chance_134 (lv_at hl 5 rfl) ?_
        refine lv_if_ne (tgt := 148) hx hb dX7_chance_136 (by decide) (fun c11 => ?_) (fun c11 => ?_)
        · replace hs := (sp_ite hs).2 c11
          refine lv_iload_n hx hb dX7_chance_148 rfl (lv_at hl 3 rfl) ?_
          refine lv_iload hx hb dX7_chance_149 (lv_at hl 0 rfl) ?_
          obtain ⟨hz12, hs⟩ := sp_g hs
          refine lv_idiv hx hb dX7_chance_151 hz12 ?_
          refine lv_i2l (v := (x2 / r8).toInt64) hx hb dX7_chance_152 rfl ?_
          cases hs
          exact sv_lret hx hb hr hlk hW dX7_chance_153
        · replace hs := (sp_ite hs).1 c11
          refine lv_iload hx hb dX7_chance_139 (lv_at hl 6 rfl) ?_
          refine lv_iload hx hb dX7_chance_141 (lv_at hl 0 rfl) ?_
          obtain ⟨hz13, hs⟩ := sp_g hs
          refine lv_idiv hx hb dX7_chance_143 hz13 ?_
          refine lv_i2l (v := (x5 / r8).toInt64) hx hb dX7_chance_144 rfl ?_
          refine lv_goto (tgt := 153) hx hb dX7_chance_145 (by decide) ?_
          cases hs
          exact sv_lret hx hb hr hlk hW dX7_chance_153
      · replace hs := (sp_ite hs).2 c10
        refine lv_ldc2 (own := RX7) (index := 288) (v := -4611686018427387904) hx hb hown (hts _ (List.mem_of_getElem? (i := 1) rfl)) dX7_chance_130 ?_
        cases hs
        exact sv_lret hx hb hr hlk hW dX7_chance_133
    · replace hs := (sp_ite hs).2 c7
      refine lv_aload_n hx hb dX7_chance_49 rfl (lv_at hl 0 rfl) ?_
      refine sv_get (own := RX7) (C := RX7) (Tf := TX7) (N := 10) (index := 48) (κ := (3, 24)) (v := .ref (h 24)) hx hb hts hown hK hW (fun _ h => List.mem_cons_of_mem _ (List.mem_append_left _ (List.mem_append_left _ (List.mem_append_left _ (List.mem_append_left _ (List.mem_append_right _ h)))))) (sx_i 0 hB (by decide)) (sx_c0 hB) rfl 8 (by decide) rfl rfl (List.mem_of_getElem? (i := 2) rfl) dX7_chance_50 ?_
      refine lv_iload_n hx hb dX7_chance_53 rfl (lv_at hl 1 rfl) ?_
      refine lv_iload hx hb dX7_chance_54 (lv_at hl 6 rfl) ?_
      refine lv_iadd hx hb dX7_chance_56 ?_
      obtain ⟨r14, σ15, eσ15, hs⟩ := sp_bind hs
      refine sv_goV (σ' := σ15) (r := r14) hW F.2.2.2.1 (sv_runV (C := RX3) F hW (k_X3_draw hB eσ15 H.size) gX7_chance_X3_draw rfl ⟨rfl, rfl⟩ 1 (by decide +kernel) (sv_room2 (by omega) (by omega)) (sx_i 24 hB (by decide)) (sx_c24 hB) rfl rfl hl.1 rfl (Nat.le_of_ble_eq_true rfl) dX7_chance_57 ⟨Nat.zero_le _, Nat.zero_le _⟩) (fun H locs hW => ?_)
      refine lv_aload_n hx hb dX7_chance_60 rfl (lv_at hl 0 rfl) ?_
      refine sv_get (own := RX7) (C := RX7) (Tf := TX7) (N := 10) (index := 48) (κ := (3, 24)) (v := .ref (h 24)) hx hb hts hown hK hW (fun _ h => List.mem_cons_of_mem _ (List.mem_append_left _ (List.mem_append_left _ (List.mem_append_left _ (List.mem_append_left _ (List.mem_append_right _ h)))))) (sx_i 0 hB (by decide)) (sx_c0 hB) rfl 8 (by decide) rfl rfl (List.mem_of_getElem? (i := 2) rfl) dX7_chance_61 ?_
      refine lv_aload_n hx hb dX7_chance_64 rfl (lv_at hl 0 rfl) ?_
      refine sv_get (own := RX7) (C := RX7) (Tf := TX7) (N := 10) (index := 10) (κ := (3, 1)) (v := .ref (h 1)) hx hb hts hown hK hW (fun _ h => List.mem_cons_of_mem _ (List.mem_append_left _ (List.mem_append_left _ (List.mem_append_left _ (List.mem_append_left _ (List.mem_append_right _ h)))))) (sx_i 0 hB (by decide)) (sx_c0 hB) rfl 0 (by decide) rfl rfl (List.mem_of_getElem? (i := 3) rfl) dX7_chance_65 ?_
      refine lv_aload_n hx hb dX7_chance_68 rfl (lv_at hl 0 rfl) ?_
      refine sv_get (own := RX7) (C := RX7) (Tf := TX7) (N := 10) (index := 48) (κ := (3, 24)) (v := .ref (h 24)) hx hb hts hown hK hW (fun _ h => List.mem_cons_of_mem _ (List.mem_append_left _ (List.mem_append_left _ (List.mem_append_left _ (List.mem_append_left _ (List.mem_append_right _ h)))))) (sx_i 0 hB (by decide)) (sx_c0 hB) rfl 8 (by decide) rfl rfl (List.mem_of_getElem? (i := 2) rfl) dX7_chance_69 ?_
      refine sv_get (own := RX7) (C := RX3) (Tf := TX3) (N := 17) (index := 281) (κ := (3, 4)) (v := .ref (h 28)) hx hb hts hown hK hW (fun _ h => List.mem_cons_of_mem _ (List.mem_append_left _ (List.mem_append_left _ (List.mem_append_left _ (List.mem_append_right _ h))))) (sx_i 24 hB (by decide)) (sx_c24 hB) rfl 2 (by decide) rfl rfl (List.mem_of_getElem? (i := 4) rfl) dX7_chance_72 ?_
      refine lv_aload_n hx hb dX7_chance_75 rfl (lv_at hl 0 rfl) ?_
      refine sv_get (own := RX7) (C := RX7) (Tf := TX7) (N := 10) (index := 48) (κ := (3, 24)) (v := .ref (h 24)) hx hb hts hown hK hW (fun _ h => List.mem_cons_of_mem _ (List.mem_append_left _ (List.mem_append_left _ (List.mem_append_left _ (List.mem_append_left _ (List.mem_append_right _ h)))))) (sx_i 0 hB (by decide)) (sx_c0 hB) rfl 8 (by decide) rfl rfl (List.mem_of_getElem? (i := 2) rfl) dX7_chance_76 ?_
      refine lv_aload_n hx hb dX7_chance_79 rfl (lv_at hl 0 rfl) ?_
      refine sv_get (own := RX7) (C := RX7) (Tf := TX7) (N := 10) (index := 10) (κ := (3, 1)) (v := .ref (h 1)) hx hb hts hown hK hW (fun _ h => List.mem_cons_of_mem _ (List.mem_append_left _ (List.mem_append_left _ (List.mem_append_left _ (List.mem_append_left _ (List.mem_append_right _ h)))))) (sx_i 0 hB (by decide)) (sx_c0 hB) rfl 0 (by decide) rfl rfl (List.mem_of_getElem? (i := 3) rfl) dX7_chance_80 ?_
      obtain ⟨r16, σ17, eσ17, hs⟩ := sp_bind hs
      refine sv_goI (σ' := σ17) (r := r16) hW F.2.2.2.1 (sv_runV (C := RX3) F hW (k_X3_lineUp hB eσ17 H.size) gX7_chance_X3_lineUp rfl ⟨rfl, rfl⟩ 1 (by decide +kernel) (sv_room2 (by omega) (by omega)) (sx_i 24 hB (by decide)) (sx_c24 hB) rfl rfl hl.1 rfl (Nat.le_of_ble_eq_true rfl) dX7_chance_83 ⟨Nat.zero_le _, Nat.zero_le _⟩) (fun H locs hW => ?_)
      obtain ⟨r18, σ19, eσ19, hs⟩ := sp_bind hs
      refine sv_goV (σ' := σ19) (r := r18) hW F.2.2.2.1 (sv_runV (C := RX3) F hW (k_X3_run hB (sv_oA_of (sx_i 28 hB (by decide)) (sx_c28 hB)) eσ19 H.size) gX7_chance_X3_run rfl ⟨rfl, rfl⟩ 3 (by decide +kernel) (sv_room2 (by omega) (by omega)) (sx_i 24 hB (by decide)) (sx_c24 hB) rfl rfl hl.1 rfl (Nat.le_of_ble_eq_true rfl) dX7_chance_86 ⟨Nat.zero_le _, Nat.zero_le _⟩) (fun H locs hW => ?_)
      refine lv_iload hx hb dX7_chance_89 (lv_at hl 5 rfl) ?_
      refine lv_aload_n hx hb dX7_chance_91 rfl (lv_at hl 0 rfl) ?_
      refine sv_get (own := RX7) (C := RX7) (Tf := TX7) (N := 10) (index := 48) (κ := (3, 24)) (v := .ref (h 24)) hx hb hts hown hK hW (fun _ h => List.mem_cons_of_mem _ (List.mem_append_left _ (List.mem_append_left _ (List.mem_append_left _ (List.mem_append_left _ (List.mem_append_right _ h)))))) (sx_i 0 hB (by decide)) (sx_c0 hB) rfl 8 (by decide) rfl rfl (List.mem_of_getElem? (i := 2) rfl) dX7_chance_92 ?_
      refine sv_get (own := RX7) (C := RX3) (Tf := TX3) (N := 17) (index := 195) (κ := (0, 0)) (v := .int (σ19.1 24 3)) hx hb hts hown hK hW (fun _ h => List.mem_cons_of_mem _ (List.mem_append_left _ (List.mem_append_left _ (List.mem_append_left _ (List.mem_append_right _ h))))) (sx_i 24 hB (by decide)) (sx_c24 hB) rfl 3 (by decide) rfl rfl (List.mem_of_getElem? (i := 5) rfl) dX7_chance_95 ?_
      refine lv_iload_n hx hb dX7_chance_98 rfl (lv_at hl 3 rfl) ?_
      refine lv_icmp_lt (tgt := 106) hx hb dX7_chance_99 (by decide) (fun c20 => ?_) (fun c20 => ?_)
      · replace hs := (sp_ite hs).1 c20
        refine lv_iconst (v := 0) hx hb dX7_chance_106 (by decide) ?_
        refine lv_iadd hx hb dX7_chance_107 ?_
        refine lv_topi (fun v21 ev21 => ?_)
        replace hs := sp_let hs ev21
        refine lv_istore (lv' := [(5, .int v21), (0, .ref (h 0)), (1, .int x1), (2, .int x2), (3, .int x3), (4, .int x4), (6, .int x6)]) hx hb dX7_chance_108 hl (by decide) rfl (fun ls hl => ?_)
        obtain ⟨v22, ev22⟩ : ∃ y : Int32, y = x6 + 1 := ⟨_, rfl⟩
        replace hs := sp_let hs ev22
        refine lv_iinc (v := v22) (lv' := [(6, .int v22), (5, .int v21), (0, .ref (h 0)), (1, .int x1), (2, .int x2), (3, .int x3), (4, .int x4)]) hx hb dX7_chance_110 hl (k := 6) rfl (by rw [ev22]; rfl) (by decide) rfl (fun ls hl => ?_)
        refine lv_goto (tgt := 43) hx hb dX7_chance_113 (by decide) ?_
        exact ih x1 x2 x3 x4 v21 v22 σ19 H locs ls (lv_sub hl [2, 3, 4, 5, 6, 1, 0] rfl) hW hs
      · replace hs := (sp_ite hs).2 c20
        refine lv_iconst (v := 1) hx hb dX7_chance_102 (by decide) ?_
        refine lv_goto (tgt := 107) hx hb dX7_chance_103 (by decide) ?_
        refine lv_iadd hx hb dX7_chance_107 ?_
        refine lv_topi (fun v23 ev23 => ?_)
        replace hs := sp_let hs ev23
        refine lv_istore (lv' := [(5, .int v23), (0, .ref (h 0)), (1, .int x1), (2, .int x2), (3, .int x3), (4, .int x4), (6, .int x6)]) hx hb dX7_chance_108 hl (by decide) rfl (fun ls hl => ?_)
        obtain ⟨v24, ev24⟩ : ∃ y : Int32, y = x6 + 1 := ⟨_, rfl⟩
        replace hs := sp_let hs ev24
        refine lv_iinc (v := v24) (lv' := [(6, .int v24), (5, .int v23), (0, .ref (h 0)), (1, .int x1), (2, .int x2), (3, .int x3), (4, .int x4)]) hx hb dX7_chance_110 hl (k := 6) rfl (by rw [ev24]; rfl) (by decide) rfl (fun ls hl => ?_)
        refine lv_goto (tgt := 43) hx hb dX7_chance_113 (by decide) ?_
        exact ih x1 x2 x3 x4 v23 v24 σ19 H locs ls (lv_sub hl [2, 3, 4, 5, 6, 1, 0] rfl) hW hs
set_option maxRecDepth 100000 in
set_option maxHeartbeats 4000000 in
theorem k_X7_chance {qK qV : Nat → Nat} {l : Launch} {D : va_G} {T : Nat → ClassId} {h : Nat → Nat} {θ : sv_T} {a1 : Int32} {a2 : Int32} {a3 : Int32} {a4 : Int32} {σ : sv_S} {r : Int64} {σ' : sv_S} (hB : sx_base θ)  (hs : q_X7_chance θ a1 a2 a3 a4 σ = some (r, σ')) : sv_Ml (sx_X qK qV) l D T (sx_tys T) h θ yX7_chance wsX7_chance (sv_rm 6 141) [.ref (h 0), .int a1, .int a2, .int a3, .int a4] σ r σ' := by
  intro sz
  refine sv_enter (cc := cX7_chance) (maxL := 7) (ret := (some .long)) (Qc := fun A => va_Ql (fun r2 (_ : Unit) => r2 = r) (fun _ t => va_P D vwCl (sv_ws T h θ σ') t.heap) A) sx_XP (by decide) rfl (Nat.le_of_ble_eq_true rfl) ?_
  intro p e s m args below meth c A F hr hlk ls H hl hW
  have hx := F.1.1
  have hb := F.1.2.1
  have hts := F.1.2.2.2.2
  have hown := F.1.2.2.2.1
  have hK := F.2.1
  obtain ⟨locs, hlocs⟩ : ∃ z : List Loc, z = [] := ⟨_, rfl⟩
  rw [← hlocs] at hW ⊢
  have hl : lv_has ls 7 [(0, .ref (h 0)), (1, .int a1), (2, .int a2), (3, .int a3), (4, .int a4)] := hl
  unfold q_X7_chance at hs
  refine lv_iload_n hx hb dX7_chance_0 rfl (lv_at hl 2 rfl) ?_
  refine lv_iconst (v := 1) hx hb dX7_chance_1 (by decide) ?_
  refine lv_icmp_lt (tgt := 33) hx hb dX7_chance_2 (by decide) (fun c1 => ?_) (fun c1 => ?_)
  · replace hs := (sp_ite hs).1 c1
    refine lv_ldc2 (own := RX7) (index := 288) (v := -4611686018427387904) hx hb hown (hts _ (List.mem_of_getElem? (i := 1) rfl)) dX7_chance_33 ?_
    cases hs
    exact sv_lret hx hb hr hlk hW dX7_chance_36
  · replace hs := (sp_ite hs).2 c1
    refine lv_iload_n hx hb dX7_chance_5 rfl (lv_at hl 2 rfl) ?_
    refine lv_bipush (v := 20) hx hb dX7_chance_6 (by decide) ?_
    refine lv_icmp_gt (tgt := 33) hx hb dX7_chance_8 (by decide) (fun c2 => ?_) (fun c2 => ?_)
    · replace hs := (sp_ite hs).1 c2
      refine lv_ldc2 (own := RX7) (index := 288) (v := -4611686018427387904) hx hb hown (hts _ (List.mem_of_getElem? (i := 1) rfl)) dX7_chance_33 ?_
      cases hs
      exact sv_lret hx hb hr hlk hW dX7_chance_36
    · replace hs := (sp_ite hs).2 c2
      refine lv_iload_n hx hb dX7_chance_11 rfl (lv_at hl 3 rfl) ?_
      refine lv_if_lt (tgt := 33) hx hb dX7_chance_12 (by decide) (fun c3 => ?_) (fun c3 => ?_)
      · replace hs := (sp_ite hs).1 c3
        refine lv_ldc2 (own := RX7) (index := 288) (v := -4611686018427387904) hx hb hown (hts _ (List.mem_of_getElem? (i := 1) rfl)) dX7_chance_33 ?_
        cases hs
        exact sv_lret hx hb hr hlk hW dX7_chance_36
      · replace hs := (sp_ite hs).2 c3
        refine lv_iload_n hx hb dX7_chance_15 rfl (lv_at hl 3 rfl) ?_
        refine lv_sipush (v := 9999) hx hb dX7_chance_16 (by decide) ?_
        refine lv_icmp_gt (tgt := 33) hx hb dX7_chance_19 (by decide) (fun c4 => ?_) (fun c4 => ?_)
        · replace hs := (sp_ite hs).1 c4
          refine lv_ldc2 (own := RX7) (index := 288) (v := -4611686018427387904) hx hb hown (hts _ (List.mem_of_getElem? (i := 1) rfl)) dX7_chance_33 ?_
          cases hs
          exact sv_lret hx hb hr hlk hW dX7_chance_36
        · replace hs := (sp_ite hs).2 c4
          refine lv_iload hx hb dX7_chance_22 (lv_at hl 4 rfl) ?_
          refine lv_if_lt (tgt := 33) hx hb dX7_chance_24 (by decide) (fun c5 => ?_) (fun c5 => ?_)
          · replace hs := (sp_ite hs).1 c5
            refine lv_ldc2 (own := RX7) (index := 288) (v := -4611686018427387904) hx hb hown (hts _ (List.mem_of_getElem? (i := 1) rfl)) dX7_chance_33 ?_
            cases hs
            exact sv_lret hx hb hr hlk hW dX7_chance_36
          · replace hs := (sp_ite hs).2 c5
            refine lv_iload hx hb dX7_chance_27 (lv_at hl 4 rfl) ?_
            refine lv_iconst (v := 1) hx hb dX7_chance_29 (by decide) ?_
            refine lv_icmp_le (tgt := 37) hx hb dX7_chance_30 (by decide) (fun c6 => ?_) (fun c6 => ?_)
            · replace hs := (sp_ite hs).1 c6
              refine lv_iconst (v := 0) hx hb dX7_chance_37 (by decide) ?_
              refine lv_istore (lv' := [(5, .int (0 : Int32)), (0, .ref (h 0)), (1, .int a1), (2, .int a2), (3, .int a3), (4, .int a4)]) hx hb dX7_chance_38 hl (by decide) rfl (fun ls hl => ?_)
              refine lv_iconst (v := 0) hx hb dX7_chance_40 (by decide) ?_
              refine lv_istore (lv' := [(6, .int (0 : Int32)), (5, .int (0 : Int32)), (0, .ref (h 0)), (1, .int a1), (2, .int a2), (3, .int a3), (4, .int a4)]) hx hb dX7_chance_41 hl (by decide) rfl (fun ls hl => ?_)
              exact b_X7_chance_43 hB F hr hlk sv_N a1 a2 a3 a4 (0 : Int32) (0 : Int32) σ H locs ls (lv_sub hl [2, 3, 4, 5, 6, 1, 0] rfl) hW hs
            · replace hs := (sp_ite hs).2 c6
              refine lv_ldc2 (own := RX7) (index := 288) (v := -4611686018427387904) hx hb hown (hts _ (List.mem_of_getElem? (i := 1) rfl)) dX7_chance_33 ?_
              cases hs
              exact sv_lret hx hb hr hlk hW dX7_chance_36
set_option maxRecDepth 100000 in
set_option maxHeartbeats 4000000 in
theorem k_X7_image {qK qV : Nat → Nat} {l : Launch} {D : va_G} {T : Nat → ClassId} {h : Nat → Nat} {θ : sv_T}  {σ : sv_S} {r : Int32} {σ' : sv_S} (hB : sx_base θ)  (hs : q_X7_image θ  σ = some (r, σ')) : sv_Mi (sx_X qK qV) l D T (sx_tys T) h θ yX7_image wsX7_image (sv_rm 2 101) [.ref (h 0)] σ r σ' := by
  intro sz
  refine sv_enter (cc := cX7_image) (maxL := 1) (ret := (some .int)) (Qc := fun A => va_Qi (fun r2 (_ : Unit) => r2 = r) (fun _ t => va_P D vwCl (sv_ws T h θ σ') t.heap) A) sx_XP (by decide) rfl (Nat.le_of_ble_eq_true rfl) ?_
  intro p e s m args below meth c A F hr hlk ls H hl hW
  have hx := F.1.1
  have hb := F.1.2.1
  have hts := F.1.2.2.2.2
  have hown := F.1.2.2.2.1
  have hK := F.2.1
  obtain ⟨locs, hlocs⟩ : ∃ z : List Loc, z = [] := ⟨_, rfl⟩
  rw [← hlocs] at hW ⊢
  have hl : lv_has ls 1 [(0, .ref (h 0))] := hl
  unfold q_X7_image at hs
  refine lv_aload_n hx hb dX7_image_0 rfl (lv_at hl 0 rfl) ?_
  refine sv_get (own := RX7) (C := RX7) (Tf := TX7) (N := 10) (index := 16) (κ := (3, 7)) (v := .ref (h 7)) hx hb hts hown hK hW (fun _ h => List.mem_cons_of_mem _ (List.mem_append_left _ (List.mem_append_right _ h))) (sx_i 0 hB (by decide)) (sx_c0 hB) rfl 1 (by decide) rfl rfl (List.mem_of_getElem? (i := 1) rfl) dX7_image_1 ?_
  refine lv_aload_n hx hb dX7_image_4 rfl (lv_at hl 0 rfl) ?_
  refine sv_get (own := RX7) (C := RX7) (Tf := TX7) (N := 10) (index := 10) (κ := (3, 1)) (v := .ref (h 1)) hx hb hts hown hK hW (fun _ h => List.mem_cons_of_mem _ (List.mem_append_left _ (List.mem_append_right _ h))) (sx_i 0 hB (by decide)) (sx_c0 hB) rfl 0 (by decide) rfl rfl (List.mem_of_getElem? (i := 2) rfl) dX7_image_5 ?_
  obtain ⟨r1, σ2, eσ2, hs⟩ := sp_bind hs
  refine sv_goV (σ' := σ2) (r := r1) hW F.2.2.2.1 (sv_runV (C := RX2) F hW (k_X2_become hB (sx_o7 hB) (sx_o1 hB) eσ2 H.size) gX7_image_X2_become rfl ⟨rfl, rfl⟩ 1 (by decide +kernel) (sv_room2 (by omega) (by omega)) (sx_i 7 hB (by decide)) (sx_c7 hB) rfl rfl hl.1 rfl (Nat.le_of_ble_eq_true rfl) dX7_image_8 ⟨Nat.zero_le _, Nat.zero_le _⟩) (fun H locs hW => ?_)
  refine lv_aload_n hx hb dX7_image_11 rfl (lv_at hl 0 rfl) ?_
  refine lv_iconst (v := 1) hx hb dX7_image_12 (by decide) ?_
  refine sv_putI (own := RX7) (C := RX7) (Tf := TX7) (N := 10) (index := 296) hx hb hts hown hK hW (fun _ h => List.mem_cons_of_mem _ (List.mem_append_left _ (List.mem_append_right _ h))) tyX7 tyX7_ok nmX7 (sx_i 0 hB (by decide)) (sx_c0 hB) rfl 2 (by decide) rfl rfl (ty := .boolean) (by decide +kernel) rfl rfl (List.mem_of_getElem? (i := 3) rfl) dX7_image_13 (fun σ3 H locs eσ3 hW => ?_)
  replace hs := sp_let hs eσ3
  refine lv_aload_n hx hb dX7_image_16 rfl (lv_at hl 0 rfl) ?_
  refine sv_get (own := RX7) (C := RX7) (Tf := TX7) (N := 10) (index := 10) (κ := (3, 1)) (v := .ref (h 1)) hx hb hts hown hK hW (fun _ h => List.mem_cons_of_mem _ (List.mem_append_left _ (List.mem_append_right _ h))) (sx_i 0 hB (by decide)) (sx_c0 hB) rfl 0 (by decide) rfl rfl (List.mem_of_getElem? (i := 2) rfl) dX7_image_17 ?_
  refine sv_get (own := RX7) (C := RX2) (Tf := TX2) (N := 8) (index := 123) (κ := (0, 0)) (v := .int (σ3.1 1 6)) hx hb hts hown hK hW (fun _ h => List.mem_cons_of_mem _ (List.mem_append_right _ h)) (sx_i 1 hB (by decide)) (sx_c1 hB) rfl 6 (by decide) rfl rfl (List.mem_of_getElem? (i := 4) rfl) dX7_image_20 ?_
  cases hs
  exact sv_iret hx hb hr rfl hlk hW dX7_image_23
set_option maxRecDepth 100000 in
set_option maxHeartbeats 4000000 in
theorem k_X7_back {qK qV : Nat → Nat} {l : Launch} {D : va_G} {T : Nat → ClassId} {h : Nat → Nat} {θ : sv_T}  {σ : sv_S} {r : Int32} {σ' : sv_S} (hB : sx_base θ)  (hs : q_X7_back θ  σ = some (r, σ')) : sv_Mi (sx_X qK qV) l D T (sx_tys T) h θ yX7_back wsX7_back (sv_rm 2 101) [.ref (h 0)] σ r σ' := by
  intro sz
  refine sv_enter (cc := cX7_back) (maxL := 1) (ret := (some .int)) (Qc := fun A => va_Qi (fun r2 (_ : Unit) => r2 = r) (fun _ t => va_P D vwCl (sv_ws T h θ σ') t.heap) A) sx_XP (by decide) rfl (Nat.le_of_ble_eq_true rfl) ?_
  intro p e s m args below meth c A F hr hlk ls H hl hW
  have hx := F.1.1
  have hb := F.1.2.1
  have hts := F.1.2.2.2.2
  have hown := F.1.2.2.2.1
  have hK := F.2.1
  obtain ⟨locs, hlocs⟩ : ∃ z : List Loc, z = [] := ⟨_, rfl⟩
  rw [← hlocs] at hW ⊢
  have hl : lv_has ls 1 [(0, .ref (h 0))] := hl
  unfold q_X7_back at hs
  refine lv_aload_n hx hb dX7_back_0 rfl (lv_at hl 0 rfl) ?_
  refine sv_get (own := RX7) (C := RX7) (Tf := TX7) (N := 10) (index := 296) (κ := (0, 0)) (v := .int (σ.1 0 2)) hx hb hts hown hK hW (fun _ h => List.mem_cons_of_mem _ (List.mem_append_left _ (List.mem_append_right _ h))) (sx_i 0 hB (by decide)) (sx_c0 hB) rfl 2 (by decide) rfl rfl (List.mem_of_getElem? (i := 1) rfl) dX7_back_1 ?_
  refine lv_if_ne (tgt := 10) hx hb dX7_back_4 (by decide) (fun c1 => ?_) (fun c1 => ?_)
  · replace hs := (sp_ite hs).2 c1
    refine lv_aload_n hx hb dX7_back_10 rfl (lv_at hl 0 rfl) ?_
    refine sv_get (own := RX7) (C := RX7) (Tf := TX7) (N := 10) (index := 10) (κ := (3, 1)) (v := .ref (h 1)) hx hb hts hown hK hW (fun _ h => List.mem_cons_of_mem _ (List.mem_append_left _ (List.mem_append_right _ h))) (sx_i 0 hB (by decide)) (sx_c0 hB) rfl 0 (by decide) rfl rfl (List.mem_of_getElem? (i := 2) rfl) dX7_back_11 ?_
    refine lv_aload_n hx hb dX7_back_14 rfl (lv_at hl 0 rfl) ?_
    refine sv_get (own := RX7) (C := RX7) (Tf := TX7) (N := 10) (index := 16) (κ := (3, 7)) (v := .ref (h 7)) hx hb hts hown hK hW (fun _ h => List.mem_cons_of_mem _ (List.mem_append_left _ (List.mem_append_right _ h))) (sx_i 0 hB (by decide)) (sx_c0 hB) rfl 1 (by decide) rfl rfl (List.mem_of_getElem? (i := 3) rfl) dX7_back_15 ?_
    obtain ⟨r2, σ3, eσ3, hs⟩ := sp_bind hs
    refine sv_goV (σ' := σ3) (r := r2) hW F.2.2.2.1 (sv_runV (C := RX2) F hW (k_X2_become hB (sx_o1 hB) (sx_o7 hB) eσ3 H.size) gX7_back_X2_become rfl ⟨rfl, rfl⟩ 1 (by decide +kernel) (sv_room2 (by omega) (by omega)) (sx_i 1 hB (by decide)) (sx_c1 hB) rfl rfl hl.1 rfl (Nat.le_of_ble_eq_true rfl) dX7_back_18 ⟨Nat.zero_le _, Nat.zero_le _⟩) (fun H locs hW => ?_)
    refine lv_aload_n hx hb dX7_back_21 rfl (lv_at hl 0 rfl) ?_
    refine sv_get (own := RX7) (C := RX7) (Tf := TX7) (N := 10) (index := 10) (κ := (3, 1)) (v := .ref (h 1)) hx hb hts hown hK hW (fun _ h => List.mem_cons_of_mem _ (List.mem_append_left _ (List.mem_append_right _ h))) (sx_i 0 hB (by decide)) (sx_c0 hB) rfl 0 (by decide) rfl rfl (List.mem_of_getElem? (i := 2) rfl) dX7_back_22 ?_
    refine sv_get (own := RX7) (C := RX2) (Tf := TX2) (N := 8) (index := 123) (κ := (0, 0)) (v := .int (σ3.1 1 6)) hx hb hts hown hK hW (fun _ h => List.mem_cons_of_mem _ (List.mem_append_right _ h)) (sx_i 1 hB (by decide)) (sx_c1 hB) rfl 6 (by decide) rfl rfl (List.mem_of_getElem? (i := 4) rfl) dX7_back_25 ?_
    cases hs
    exact sv_iret hx hb hr rfl hlk hW dX7_back_28
  · replace hs := (sp_ite hs).1 c1
    refine lv_bipush (v := -3) hx hb dX7_back_7 (by decide) ?_
    cases hs
    exact sv_iret hx hb hr rfl hlk hW dX7_back_9
set_option maxRecDepth 100000 in
set_option maxHeartbeats 4000000 in
theorem k_X7_count {qK qV : Nat → Nat} {l : Launch} {D : va_G} {T : Nat → ClassId} {h : Nat → Nat} {θ : sv_T} {a1 : Int32} {σ : sv_S} {r : Int32} {σ' : sv_S} (hB : sx_base θ)  (hs : q_X7_count θ a1 σ = some (r, σ')) : sv_Mi (sx_X qK qV) l D T (sx_tys T) h θ yX7_count wsX7_count (sv_rm 3 66) [.ref (h 0), .int a1] σ r σ' := by
  intro sz
  refine sv_enter (cc := cX7_count) (maxL := 2) (ret := (some .int)) (Qc := fun A => va_Qi (fun r2 (_ : Unit) => r2 = r) (fun _ t => va_P D vwCl (sv_ws T h θ σ') t.heap) A) sx_XP (by decide) rfl (Nat.le_of_ble_eq_true rfl) ?_
  intro p e s m args below meth c A F hr hlk ls H hl hW
  have hx := F.1.1
  have hb := F.1.2.1
  have hts := F.1.2.2.2.2
  have hown := F.1.2.2.2.1
  have hK := F.2.1
  obtain ⟨locs, hlocs⟩ : ∃ z : List Loc, z = [] := ⟨_, rfl⟩
  rw [← hlocs] at hW ⊢
  have hl : lv_has ls 2 [(0, .ref (h 0)), (1, .int a1)] := hl
  unfold q_X7_count at hs
  refine lv_iload_n hx hb dX7_count_0 rfl (lv_at hl 1 rfl) ?_
  by_cases c1 : a1 = 0
  · replace hs := (sp_ite hs).1 c1
    refine lv_tableIn (off := 39) (tgt := 40) hx hb dX7_count_1 (by rw [c1]; decide) (by rw [c1]; decide) (by rw [c1]; decide) (by decide) ?_
    refine lv_aload_n hx hb dX7_count_40 rfl (lv_at hl 0 rfl) ?_
    refine sv_get (own := RX7) (C := RX7) (Tf := TX7) (N := 10) (index := 10) (κ := (3, 1)) (v := .ref (h 1)) hx hb hts hown hK hW (fun _ h => List.mem_cons_of_mem _ (List.mem_append_left _ (List.mem_append_left _ (List.mem_append_left _ (List.mem_append_right _ h))))) (sx_i 0 hB (by decide)) (sx_c0 hB) rfl 0 (by decide) rfl rfl (List.mem_of_getElem? (i := 1) rfl) dX7_count_41 ?_
    refine sv_get (own := RX7) (C := RX2) (Tf := TX2) (N := 8) (index := 123) (κ := (0, 0)) (v := .int (σ.1 1 6)) hx hb hts hown hK hW (fun _ h => List.mem_cons_of_mem _ (List.mem_append_left _ (List.mem_append_left _ (List.mem_append_right _ h)))) (sx_i 1 hB (by decide)) (sx_c1 hB) rfl 6 (by decide) rfl rfl (List.mem_of_getElem? (i := 2) rfl) dX7_count_44 ?_
    cases hs
    exact sv_iret hx hb hr rfl hlk hW dX7_count_47
  replace hs := (sp_ite hs).2 c1
  by_cases c2 : a1 = 1
  · replace hs := (sp_ite hs).1 c2
    refine lv_tableIn (off := 47) (tgt := 48) hx hb dX7_count_1 (by rw [c2]; decide) (by rw [c2]; decide) (by rw [c2]; decide) (by decide) ?_
    refine lv_aload_n hx hb dX7_count_48 rfl (lv_at hl 0 rfl) ?_
    refine sv_get (own := RX7) (C := RX7) (Tf := TX7) (N := 10) (index := 10) (κ := (3, 1)) (v := .ref (h 1)) hx hb hts hown hK hW (fun _ h => List.mem_cons_of_mem _ (List.mem_append_left _ (List.mem_append_left _ (List.mem_append_left _ (List.mem_append_right _ h))))) (sx_i 0 hB (by decide)) (sx_c0 hB) rfl 0 (by decide) rfl rfl (List.mem_of_getElem? (i := 1) rfl) dX7_count_49 ?_
    obtain ⟨r3, σ4, eσ4, hs⟩ := sp_bind hs
    refine sv_goI (σ' := σ4) (r := r3) hW F.2.2.2.1 (sv_runV (C := RX2) F hW (k_X2_shakenCount hB eσ4 H.size) gX7_count_X2_shakenCount rfl ⟨rfl, rfl⟩ 0 (by decide +kernel) (sv_room2 (by omega) (by omega)) (sx_i 1 hB (by decide)) (sx_c1 hB) rfl rfl hl.1 rfl (Nat.le_of_ble_eq_true rfl) dX7_count_52 ⟨Nat.zero_le _, Nat.zero_le _⟩) (fun H locs hW => ?_)
    cases hs
    exact sv_iret hx hb hr rfl hlk hW dX7_count_55
  replace hs := (sp_ite hs).2 c2
  by_cases c5 : a1 = 2
  · replace hs := (sp_ite hs).1 c5
    refine lv_tableIn (off := 55) (tgt := 56) hx hb dX7_count_1 (by rw [c5]; decide) (by rw [c5]; decide) (by rw [c5]; decide) (by decide) ?_
    refine lv_aload_n hx hb dX7_count_56 rfl (lv_at hl 0 rfl) ?_
    refine sv_get (own := RX7) (C := RX7) (Tf := TX7) (N := 10) (index := 10) (κ := (3, 1)) (v := .ref (h 1)) hx hb hts hown hK hW (fun _ h => List.mem_cons_of_mem _ (List.mem_append_left _ (List.mem_append_left _ (List.mem_append_left _ (List.mem_append_right _ h))))) (sx_i 0 hB (by decide)) (sx_c0 hB) rfl 0 (by decide) rfl rfl (List.mem_of_getElem? (i := 1) rfl) dX7_count_57 ?_
    refine lv_iconst (v := 0) hx hb dX7_count_60 (by decide) ?_
    obtain ⟨r6, σ7, eσ7, hs⟩ := sp_bind hs
    refine sv_goI (σ' := σ7) (r := r6) hW F.2.2.2.1 (sv_runV (C := RX2) F hW (k_X2_wetHours hB eσ7 H.size) gX7_count_X2_wetHours rfl ⟨rfl, rfl⟩ 1 (by decide +kernel) (sv_room2 (by omega) (by omega)) (sx_i 1 hB (by decide)) (sx_c1 hB) rfl rfl hl.1 rfl (Nat.le_of_ble_eq_true rfl) dX7_count_61 ⟨Nat.zero_le _, Nat.zero_le _⟩) (fun H locs hW => ?_)
    refine lv_aload_n hx hb dX7_count_64 rfl (lv_at hl 0 rfl) ?_
    refine sv_get (own := RX7) (C := RX7) (Tf := TX7) (N := 10) (index := 10) (κ := (3, 1)) (v := .ref (h 1)) hx hb hts hown hK hW (fun _ h => List.mem_cons_of_mem _ (List.mem_append_left _ (List.mem_append_left _ (List.mem_append_left _ (List.mem_append_right _ h))))) (sx_i 0 hB (by decide)) (sx_c0 hB) rfl 0 (by decide) rfl rfl (List.mem_of_getElem? (i := 1) rfl) dX7_count_65 ?_
    refine lv_iconst (v := 1) hx hb dX7_count_68 (by decide) ?_
    obtain ⟨r8, σ9, eσ9, hs⟩ := sp_bind hs
    refine sv_goI (σ' := σ9) (r := r8) hW F.2.2.2.1 (sv_runV (C := RX2) F hW (k_X2_wetHours hB eσ9 H.size) gX7_count_X2_wetHours rfl ⟨rfl, rfl⟩ 1 (by decide +kernel) (sv_room2 (by omega) (by omega)) (sx_i 1 hB (by decide)) (sx_c1 hB) rfl rfl hl.1 rfl (Nat.le_of_ble_eq_true rfl) dX7_count_69 ⟨Nat.zero_le _, Nat.zero_le _⟩) (fun H locs hW => ?_)
    refine lv_iadd hx hb dX7_count_72 ?_
    cases hs
    exact sv_iret hx hb hr rfl hlk hW dX7_count_73
  replace hs := (sp_ite hs).2 c5
  by_cases c10 : a1 = 3
  · replace hs := (sp_ite hs).1 c10
    refine lv_tableIn (off := 73) (tgt := 74) hx hb dX7_count_1 (by rw [c10]; decide) (by rw [c10]; decide) (by rw [c10]; decide) (by decide) ?_
    refine lv_aload_n hx hb dX7_count_74 rfl (lv_at hl 0 rfl) ?_
    refine sv_get (own := RX7) (C := RX7) (Tf := TX7) (N := 10) (index := 163) (κ := (0, 0)) (v := .int (σ.1 0 5)) hx hb hts hown hK hW (fun _ h => List.mem_cons_of_mem _ (List.mem_append_left _ (List.mem_append_left _ (List.mem_append_left _ (List.mem_append_right _ h))))) (sx_i 0 hB (by decide)) (sx_c0 hB) rfl 5 (by decide) rfl rfl (List.mem_of_getElem? (i := 3) rfl) dX7_count_75 ?_
    cases hs
    exact sv_iret hx hb hr rfl hlk hW dX7_count_78
  replace hs := (sp_ite hs).2 c10
  by_cases c11 : a1 = 4
  · replace hs := (sp_ite hs).1 c11
    refine lv_tableIn (off := 78) (tgt := 79) hx hb dX7_count_1 (by rw [c11]; decide) (by rw [c11]; decide) (by rw [c11]; decide) (by decide) ?_
    refine lv_aload_n hx hb dX7_count_79 rfl (lv_at hl 0 rfl) ?_
    refine sv_get (own := RX7) (C := RX7) (Tf := TX7) (N := 10) (index := 22) (κ := (3, 13)) (v := .ref (h 13)) hx hb hts hown hK hW (fun _ h => List.mem_cons_of_mem _ (List.mem_append_left _ (List.mem_append_left _ (List.mem_append_left _ (List.mem_append_right _ h))))) (sx_i 0 hB (by decide)) (sx_c0 hB) rfl 3 (by decide) rfl rfl (List.mem_of_getElem? (i := 4) rfl) dX7_count_80 ?_
    refine sv_get (own := RX7) (C := RX4) (Tf := TX4) (N := 11) (index := 162) (κ := (0, 0)) (v := .int (σ.1 13 0)) hx hb hts hown hK hW (fun _ h => List.mem_cons_of_mem _ (List.mem_append_left _ (List.mem_append_right _ h))) (sx_i 13 hB (by decide)) (sx_c13 hB) rfl 0 (by decide) rfl rfl (List.mem_of_getElem? (i := 5) rfl) dX7_count_83 ?_
    cases hs
    exact sv_iret hx hb hr rfl hlk hW dX7_count_86
  replace hs := (sp_ite hs).2 c11
  by_cases c12 : a1 = 5
  · replace hs := (sp_ite hs).1 c12
    refine lv_tableIn (off := 86) (tgt := 87) hx hb dX7_count_1 (by rw [c12]; decide) (by rw [c12]; decide) (by rw [c12]; decide) (by decide) ?_
    refine lv_aload_n hx hb dX7_count_87 rfl (lv_at hl 0 rfl) ?_
    obtain ⟨r13, σ14, eσ14, hs⟩ := sp_bind hs
    refine sv_goI (σ' := σ14) (r := r13) hW F.2.2.2.1 (sv_runV (C := RX7) F hW (k_X7_ruleNumber hB eσ14 H.size) gX7_count_X7_ruleNumber rfl ⟨rfl, rfl⟩ 0 (by decide +kernel) (sv_room2 (by omega) (by omega)) (sx_i 0 hB (by decide)) (sx_c0 hB) rfl rfl hl.1 rfl (Nat.le_of_ble_eq_true rfl) dX7_count_88 ⟨Nat.zero_le _, Nat.zero_le _⟩) (fun H locs hW => ?_)
    cases hs
    exact sv_iret hx hb hr rfl hlk hW dX7_count_91
  replace hs := (sp_ite hs).2 c12
  refine lv_tableOut (tgt := 92) hx hb dX7_count_1 (by have := lv_neT (k := 0) (a := 0) c1 (by decide); have := lv_neT (k := 1) (a := 1) c2 (by decide); have := lv_neT (k := 2) (a := 2) c5 (by decide); have := lv_neT (k := 3) (a := 3) c10 (by decide); have := lv_neT (k := 4) (a := 4) c11 (by decide); have := lv_neT (k := 5) (a := 5) c12 (by decide); omega) (by decide) ?_
  refine lv_bipush (v := -2) hx hb dX7_count_92 (by decide) ?_
  cases hs
  exact sv_iret hx hb hr rfl hlk hW dX7_count_94
set_option maxRecDepth 100000 in
set_option maxHeartbeats 4000000 in
theorem k_X7_sheet {qK qV : Nat → Nat} {l : Launch} {D : va_G} {T : Nat → ClassId} {h : Nat → Nat} {θ : sv_T} {a1 : Int32} {a2 : Int32} {a3 : Int32} {σ : sv_S} {r : Int32} {σ' : sv_S} (hB : sx_base θ)  (hs : q_X7_sheet θ a1 a2 a3 σ = some (r, σ')) : sv_Mi (sx_X qK qV) l D T (sx_tys T) h θ yX7_sheet wsX7_sheet (sv_rm 2 45) [.ref (h 0), .int a1, .int a2, .int a3] σ r σ' := by
  intro sz
  refine sv_enter (cc := cX7_sheet) (maxL := 5) (ret := (some .int)) (Qc := fun A => va_Qi (fun r2 (_ : Unit) => r2 = r) (fun _ t => va_P D vwCl (sv_ws T h θ σ') t.heap) A) sx_XP (by decide) rfl (Nat.le_of_ble_eq_true rfl) ?_
  intro p e s m args below meth c A F hr hlk ls H hl hW
  have hx := F.1.1
  have hb := F.1.2.1
  have hts := F.1.2.2.2.2
  have hown := F.1.2.2.2.1
  have hK := F.2.1
  obtain ⟨locs, hlocs⟩ : ∃ z : List Loc, z = [] := ⟨_, rfl⟩
  rw [← hlocs] at hW ⊢
  have hl : lv_has ls 5 [(0, .ref (h 0)), (1, .int a1), (2, .int a2), (3, .int a3)] := hl
  unfold q_X7_sheet at hs
  refine lv_aload_n hx hb dX7_sheet_0 rfl (lv_at hl 0 rfl) ?_
  refine lv_iload_n hx hb dX7_sheet_1 rfl (lv_at hl 1 rfl) ?_
  obtain ⟨r1, σ2, eσ2, hs⟩ := sp_bind hs
  refine sv_goQ (σ' := σ2) (r := r1) hW F.2.2.2.1 (sv_runV (C := RX7) F hW (k_X7_rowAt hB eσ2 H.size) gX7_sheet_X7_rowAt rfl ⟨rfl, rfl⟩ 1 (by decide +kernel) (sv_room2 (by omega) (by omega)) (sx_i 0 hB (by decide)) (sx_c0 hB) rfl rfl hl.1 rfl (Nat.le_of_ble_eq_true rfl) dX7_sheet_2 ⟨Nat.zero_le _, Nat.zero_le _⟩) (fun H locs hW => ?_)
  cases et3 : r1 with
  | none =>
    replace hs := sp_on hs et3
    refine W.eq (g2 := F0 m 5 ls [.null]) rfl ?_
    refine lv_astoreN (lv' := [(4, .null), (0, .ref (h 0)), (1, .int a1), (2, .int a2), (3, .int a3)]) hx hb dX7_sheet_5 hl (by decide) rfl (fun ls hl => ?_)
    refine lv_aloadN hx hb dX7_sheet_7 (lv_at hl 0 rfl) ?_
    refine lv_ifnullN (tgt := 22) hx hb dX7_sheet_9 (by decide) ?_
    refine lv_bipush (v := -2) hx hb dX7_sheet_22 (by decide) ?_
    cases hs
    exact sv_iret hx hb hr rfl hlk hW dX7_sheet_24
  | some t3 =>
    replace hs := sp_os hs et3
    obtain ⟨ht3, hs⟩ := sp_p hs
    refine W.eq (g2 := F0 m 5 ls [.ref (h t3)]) rfl ?_
    refine lv_astore (lv' := [(4, .ref (h t3)), (0, .ref (h 0)), (1, .int a1), (2, .int a2), (3, .int a3)]) hx hb dX7_sheet_5 hl (by decide) rfl (fun ls hl => ?_)
    refine lv_aload hx hb dX7_sheet_7 (lv_at hl 0 rfl) ?_
    refine lv_ifnull hx hb dX7_sheet_9 ?_
    refine lv_iload_n hx hb dX7_sheet_12 rfl (lv_at hl 3 rfl) ?_
    refine lv_iconst (v := -1) hx hb dX7_sheet_13 (by decide) ?_
    refine lv_icmp_lt (tgt := 22) hx hb dX7_sheet_14 (by decide) (fun c4 => ?_) (fun c4 => ?_)
    · replace hs := (sp_ite hs).1 c4
      refine lv_bipush (v := -2) hx hb dX7_sheet_22 (by decide) ?_
      cases hs
      exact sv_iret hx hb hr rfl hlk hW dX7_sheet_24
    · replace hs := (sp_ite hs).2 c4
      refine lv_iload_n hx hb dX7_sheet_17 rfl (lv_at hl 3 rfl) ?_
      refine lv_iconst (v := 2) hx hb dX7_sheet_18 (by decide) ?_
      refine lv_icmp_le (tgt := 25) hx hb dX7_sheet_19 (by decide) (fun c5 => ?_) (fun c5 => ?_)
      · replace hs := (sp_ite hs).1 c5
        refine lv_iload_n hx hb dX7_sheet_25 rfl (lv_at hl 3 rfl) ?_
        refine lv_iconst (v := -1) hx hb dX7_sheet_26 (by decide) ?_
        refine lv_icmp_ne (tgt := 39) hx hb dX7_sheet_27 (by decide) (fun c6 => ?_) (fun c6 => ?_)
        · replace hs := (sp_ite hs).2 c6
          refine lv_iload_n hx hb dX7_sheet_39 rfl (lv_at hl 4 rfl) ?_
          refine lv_bipush (v := 40) hx hb dX7_sheet_40 (by decide) ?_
          refine lv_icmp_le (tgt := 48) hx hb dX7_sheet_42 (by decide) (fun c7 => ?_) (fun c7 => ?_)
          · replace hs := (sp_ite hs).1 c7
            refine lv_iload_n hx hb dX7_sheet_48 rfl (lv_at hl 4 rfl) ?_
            refine lv_if_ge (tgt := 55) hx hb dX7_sheet_49 (by decide) (fun c8 => ?_) (fun c8 => ?_)
            · replace hs := (sp_ite hs).1 c8
              refine lv_aload hx hb dX7_sheet_55 (lv_at hl 0 rfl) ?_
              refine lv_iload_n hx hb dX7_sheet_57 rfl (lv_at hl 3 rfl) ?_
              refine lv_iload_n hx hb dX7_sheet_58 rfl (lv_at hl 4 rfl) ?_
              obtain ⟨r9, σ10, eσ10, hs⟩ := sp_bind hs
              refine sv_goV (σ' := σ10) (r := r9) hW F.2.2.2.1 (sv_runV (C := RX5) F hW (k_X5_renew hB ht3 eσ10 H.size) gX7_sheet_X5_renew rfl ⟨rfl, rfl⟩ 2 (by decide +kernel) (sv_room2 (by omega) (by omega)) ht3.1 ht3.2.1 rfl rfl hl.1 rfl (Nat.le_of_ble_eq_true rfl) dX7_sheet_59 ⟨Nat.zero_le _, Nat.zero_le _⟩) (fun H locs hW => ?_)
              refine lv_iconst (v := 1) hx hb dX7_sheet_62 (by decide) ?_
              cases hs
              exact sv_iret hx hb hr rfl hlk hW dX7_sheet_63
            · replace hs := (sp_ite hs).2 c8
              refine lv_bipush (v := -14) hx hb dX7_sheet_52 (by decide) ?_
              cases hs
              exact sv_iret hx hb hr rfl hlk hW dX7_sheet_54
          · replace hs := (sp_ite hs).2 c7
            refine lv_bipush (v := -2) hx hb dX7_sheet_45 (by decide) ?_
            cases hs
            exact sv_iret hx hb hr rfl hlk hW dX7_sheet_47
        · replace hs := (sp_ite hs).1 c6
          refine lv_aload hx hb dX7_sheet_30 (lv_at hl 0 rfl) ?_
          refine lv_iconst (v := -1) hx hb dX7_sheet_32 (by decide) ?_
          refine lv_iconst (v := 0) hx hb dX7_sheet_33 (by decide) ?_
          obtain ⟨r11, σ12, eσ12, hs⟩ := sp_bind hs
          refine sv_goV (σ' := σ12) (r := r11) hW F.2.2.2.1 (sv_runV (C := RX5) F hW (k_X5_renew hB ht3 eσ12 H.size) gX7_sheet_X5_renew rfl ⟨rfl, rfl⟩ 2 (by decide +kernel) (sv_room2 (by omega) (by omega)) ht3.1 ht3.2.1 rfl rfl hl.1 rfl (Nat.le_of_ble_eq_true rfl) dX7_sheet_34 ⟨Nat.zero_le _, Nat.zero_le _⟩) (fun H locs hW => ?_)
          refine lv_iconst (v := 1) hx hb dX7_sheet_37 (by decide) ?_
          cases hs
          exact sv_iret hx hb hr rfl hlk hW dX7_sheet_38
      · replace hs := (sp_ite hs).2 c5
        refine lv_bipush (v := -2) hx hb dX7_sheet_22 (by decide) ?_
        cases hs
        exact sv_iret hx hb hr rfl hlk hW dX7_sheet_24
set_option maxRecDepth 100000 in
set_option maxHeartbeats 4000000 in
theorem k_X7_cell {qK qV : Nat → Nat} {l : Launch} {D : va_G} {T : Nat → ClassId} {h : Nat → Nat} {θ : sv_T} {a1 : Int32} {a2 : Int32} {a3 : Int32} {σ : sv_S} {r : Int32} {σ' : sv_S} (hB : sx_base θ)  (hs : q_X7_cell θ a1 a2 a3 σ = some (r, σ')) : sv_Mi (sx_X qK qV) l D T (sx_tys T) h θ yX7_cell wsX7_cell (sv_rm 1 22) [.ref (h 0), .int a1, .int a2, .int a3] σ r σ' := by
  intro sz
  refine sv_enter (cc := cX7_cell) (maxL := 5) (ret := (some .int)) (Qc := fun A => va_Qi (fun r2 (_ : Unit) => r2 = r) (fun _ t => va_P D vwCl (sv_ws T h θ σ') t.heap) A) sx_XP (by decide) rfl (Nat.le_of_ble_eq_true rfl) ?_
  intro p e s m args below meth c A F hr hlk ls H hl hW
  have hx := F.1.1
  have hb := F.1.2.1
  have hts := F.1.2.2.2.2
  have hown := F.1.2.2.2.1
  have hK := F.2.1
  obtain ⟨locs, hlocs⟩ : ∃ z : List Loc, z = [] := ⟨_, rfl⟩
  rw [← hlocs] at hW ⊢
  have hl : lv_has ls 5 [(0, .ref (h 0)), (1, .int a1), (2, .int a2), (3, .int a3)] := hl
  unfold q_X7_cell at hs
  refine lv_aload_n hx hb dX7_cell_0 rfl (lv_at hl 0 rfl) ?_
  refine lv_iload_n hx hb dX7_cell_1 rfl (lv_at hl 1 rfl) ?_
  obtain ⟨r1, σ2, eσ2, hs⟩ := sp_bind hs
  refine sv_goQ (σ' := σ2) (r := r1) hW F.2.2.2.1 (sv_runV (C := RX7) F hW (k_X7_rowAt hB eσ2 H.size) gX7_cell_X7_rowAt rfl ⟨rfl, rfl⟩ 1 (by decide +kernel) (sv_room2 (by omega) (by omega)) (sx_i 0 hB (by decide)) (sx_c0 hB) rfl rfl hl.1 rfl (Nat.le_of_ble_eq_true rfl) dX7_cell_2 ⟨Nat.zero_le _, Nat.zero_le _⟩) (fun H locs hW => ?_)
  cases et3 : r1 with
  | none =>
    replace hs := sp_on hs et3
    refine W.eq (g2 := F0 m 5 ls [.null]) rfl ?_
    refine lv_astoreN (lv' := [(4, .null), (0, .ref (h 0)), (1, .int a1), (2, .int a2), (3, .int a3)]) hx hb dX7_cell_5 hl (by decide) rfl (fun ls hl => ?_)
    refine lv_aloadN hx hb dX7_cell_7 (lv_at hl 0 rfl) ?_
    refine lv_ifnonnullN hx hb dX7_cell_9 ?_
    refine lv_bipush (v := -2) hx hb dX7_cell_12 (by decide) ?_
    cases hs
    exact sv_iret hx hb hr rfl hlk hW dX7_cell_14
  | some t3 =>
    replace hs := sp_os hs et3
    obtain ⟨ht3, hs⟩ := sp_p hs
    refine W.eq (g2 := F0 m 5 ls [.ref (h t3)]) rfl ?_
    refine lv_astore (lv' := [(4, .ref (h t3)), (0, .ref (h 0)), (1, .int a1), (2, .int a2), (3, .int a3)]) hx hb dX7_cell_5 hl (by decide) rfl (fun ls hl => ?_)
    refine lv_aload hx hb dX7_cell_7 (lv_at hl 0 rfl) ?_
    refine lv_ifnonnull (tgt := 15) hx hb dX7_cell_9 (by decide) ?_
    refine lv_aload hx hb dX7_cell_15 (lv_at hl 0 rfl) ?_
    refine sv_get (own := RX7) (C := RX5) (Tf := TX5) (N := 3) (index := 259) (κ := (0, 0)) (v := .int (σ2.1 t3 1)) hx hb hts hown hK hW (fun _ h => List.mem_cons_of_mem _ (List.mem_append_left _ (List.mem_append_right _ h))) ht3.1 ht3.2.1 rfl 1 (by decide) rfl rfl (List.mem_of_getElem? (i := 1) rfl) dX7_cell_17 ?_
    refine lv_iconst (v := -1) hx hb dX7_cell_20 (by decide) ?_
    refine lv_icmp_ne (tgt := 27) hx hb dX7_cell_21 (by decide) (fun c4 => ?_) (fun c4 => ?_)
    · replace hs := (sp_ite hs).2 c4
      refine lv_aload hx hb dX7_cell_27 (lv_at hl 0 rfl) ?_
      refine lv_iload_n hx hb dX7_cell_29 rfl (lv_at hl 3 rfl) ?_
      refine lv_iload_n hx hb dX7_cell_30 rfl (lv_at hl 4 rfl) ?_
      obtain ⟨r5, σ6, eσ6, hs⟩ := sp_bind hs
      refine sv_goI (σ' := σ6) (r := r5) hW F.2.2.2.1 (sv_runV (C := RX5) F hW (k_X5_write hB ht3 eσ6 H.size) gX7_cell_X5_write rfl ⟨rfl, rfl⟩ 2 (by decide +kernel) (sv_room2 (by omega) (by omega)) ht3.1 ht3.2.1 rfl rfl hl.1 rfl (Nat.le_of_ble_eq_true rfl) dX7_cell_31 ⟨Nat.zero_le _, Nat.zero_le _⟩) (fun H locs hW => ?_)
      refine lv_if_eq (tgt := 41) hx hb dX7_cell_34 (by decide) (fun c7 => ?_) (fun c7 => ?_)
      · replace hs := (sp_ite hs).1 c7
        refine lv_bipush (v := -12) hx hb dX7_cell_41 (by decide) ?_
        cases hs
        exact sv_iret hx hb hr rfl hlk hW dX7_cell_43
      · replace hs := (sp_ite hs).2 c7
        refine lv_iconst (v := 1) hx hb dX7_cell_37 (by decide) ?_
        refine lv_goto (tgt := 43) hx hb dX7_cell_38 (by decide) ?_
        cases hs
        exact sv_iret hx hb hr rfl hlk hW dX7_cell_43
    · replace hs := (sp_ite hs).1 c4
      refine lv_bipush (v := -11) hx hb dX7_cell_24 (by decide) ?_
      cases hs
      exact sv_iret hx hb hr rfl hlk hW dX7_cell_26
set_option maxRecDepth 100000 in
set_option maxHeartbeats 4000000 in
theorem k_X7_copy {qK qV : Nat → Nat} {l : Launch} {D : va_G} {T : Nat → ClassId} {h : Nat → Nat} {θ : sv_T} {a1 : Int32} {a2 : Int32} {a3 : Int32} {a4 : Int32} {a5 : Int32} {σ : sv_S} {r : Int32} {σ' : sv_S} (hB : sx_base θ)  (hs : q_X7_copy θ a1 a2 a3 a4 a5 σ = some (r, σ')) : sv_Mi (sx_X qK qV) l D T (sx_tys T) h θ yX7_copy wsX7_copy (sv_rm 1 80) [.ref (h 0), .int a1, .int a2, .int a3, .int a4, .int a5] σ r σ' := by
  intro sz
  refine sv_enter (cc := cX7_copy) (maxL := 8) (ret := (some .int)) (Qc := fun A => va_Qi (fun r2 (_ : Unit) => r2 = r) (fun _ t => va_P D vwCl (sv_ws T h θ σ') t.heap) A) sx_XP (by decide) rfl (Nat.le_of_ble_eq_true rfl) ?_
  intro p e s m args below meth c A F hr hlk ls H hl hW
  have hx := F.1.1
  have hb := F.1.2.1
  have hts := F.1.2.2.2.2
  have hown := F.1.2.2.2.1
  have hK := F.2.1
  obtain ⟨locs, hlocs⟩ : ∃ z : List Loc, z = [] := ⟨_, rfl⟩
  rw [← hlocs] at hW ⊢
  have hl : lv_has ls 8 [(0, .ref (h 0)), (1, .int a1), (2, .int a2), (3, .int a3), (4, .int a4), (5, .int a5)] := hl
  unfold q_X7_copy at hs
  refine lv_aload_n hx hb dX7_copy_0 rfl (lv_at hl 0 rfl) ?_
  refine lv_iload_n hx hb dX7_copy_1 rfl (lv_at hl 1 rfl) ?_
  obtain ⟨r1, σ2, eσ2, hs⟩ := sp_bind hs
  refine sv_goQ (σ' := σ2) (r := r1) hW F.2.2.2.1 (sv_runV (C := RX7) F hW (k_X7_rowAt hB eσ2 H.size) gX7_copy_X7_rowAt rfl ⟨rfl, rfl⟩ 1 (by decide +kernel) (sv_room2 (by omega) (by omega)) (sx_i 0 hB (by decide)) (sx_c0 hB) rfl rfl hl.1 rfl (Nat.le_of_ble_eq_true rfl) dX7_copy_2 ⟨Nat.zero_le _, Nat.zero_le _⟩) (fun H locs hW => ?_)
  cases et3 : r1 with
  | none =>
    replace hs := sp_on hs et3
    refine W.eq (g2 := F0 m 5 ls [.null]) rfl ?_
    refine lv_astoreN (lv' := [(6, .null), (0, .ref (h 0)), (1, .int a1), (2, .int a2), (3, .int a3), (4, .int a4), (5, .int a5)]) hx hb dX7_copy_5 hl (by decide) rfl (fun ls hl => ?_)
    refine lv_aload_n hx hb dX7_copy_7 rfl (lv_at hl 1 rfl) ?_
    refine lv_iload_n hx hb dX7_copy_8 rfl (lv_at hl 4 rfl) ?_
    obtain ⟨r4, σ5, eσ5, hs⟩ := sp_bind hs
    refine sv_goQ (σ' := σ5) (r := r4) hW F.2.2.2.1 (sv_runV (C := RX7) F hW (k_X7_rowAt hB eσ5 H.size) gX7_copy_X7_rowAt rfl ⟨rfl, rfl⟩ 1 (by decide +kernel) (sv_room2 (by omega) (by omega)) (sx_i 0 hB (by decide)) (sx_c0 hB) rfl rfl hl.1 rfl (Nat.le_of_ble_eq_true rfl) dX7_copy_9 ⟨Nat.zero_le _, Nat.zero_le _⟩) (fun H locs hW => ?_)
    cases et6 : r4 with
    | none =>
      replace hs := sp_on hs et6
      refine W.eq (g2 := F0 m 12 ls [.null]) rfl ?_
      refine lv_astoreN (lv' := [(7, .null), (6, .null), (0, .ref (h 0)), (1, .int a1), (2, .int a2), (3, .int a3), (4, .int a4), (5, .int a5)]) hx hb dX7_copy_12 hl (by decide) rfl (fun ls hl => ?_)
      refine lv_aloadN hx hb dX7_copy_14 (lv_at hl 1 rfl) ?_
      refine lv_ifnullN (tgt := 24) hx hb dX7_copy_16 (by decide) ?_
      refine lv_bipush (v := -2) hx hb dX7_copy_24 (by decide) ?_
      cases hs
      exact sv_iret hx hb hr rfl hlk hW dX7_copy_26
    | some t6 =>
      replace hs := sp_os hs et6
      obtain ⟨ht6, hs⟩ := sp_p hs
      refine W.eq (g2 := F0 m 12 ls [.ref (h t6)]) rfl ?_
      refine lv_astore (lv' := [(7, .ref (h t6)), (6, .null), (0, .ref (h 0)), (1, .int a1), (2, .int a2), (3, .int a3), (4, .int a4), (5, .int a5)]) hx hb dX7_copy_12 hl (by decide) rfl (fun ls hl => ?_)
      refine lv_aloadN hx hb dX7_copy_14 (lv_at hl 1 rfl) ?_
      refine lv_ifnullN (tgt := 24) hx hb dX7_copy_16 (by decide) ?_
      refine lv_bipush (v := -2) hx hb dX7_copy_24 (by decide) ?_
      cases hs
      exact sv_iret hx hb hr rfl hlk hW dX7_copy_26
  | some t3 =>
    replace hs := sp_os hs et3
    obtain ⟨ht3, hs⟩ := sp_p hs
    refine W.eq (g2 := F0 m 5 ls [.ref (h t3)]) rfl ?_
    refine lv_astore (lv' := [(6, .ref (h t3)), (0, .ref (h 0)), (1, .int a1), (2, .int a2), (3, .int a3), (4, .int a4), (5, .int a5)]) hx hb dX7_copy_5 hl (by decide) rfl (fun ls hl => ?_)
    refine lv_aload_n hx hb dX7_copy_7 rfl (lv_at hl 1 rfl) ?_
    refine lv_iload_n hx hb dX7_copy_8 rfl (lv_at hl 4 rfl) ?_
    obtain ⟨r7, σ8, eσ8, hs⟩ := sp_bind hs
    refine sv_goQ (σ' := σ8) (r := r7) hW F.2.2.2.1 (sv_runV (C := RX7) F hW (k_X7_rowAt hB eσ8 H.size) gX7_copy_X7_rowAt rfl ⟨rfl, rfl⟩ 1 (by decide +kernel) (sv_room2 (by omega) (by omega)) (sx_i 0 hB (by decide)) (sx_c0 hB) rfl rfl hl.1 rfl (Nat.le_of_ble_eq_true rfl) dX7_copy_9 ⟨Nat.zero_le _, Nat.zero_le _⟩) (fun H locs hW => ?_)
    cases et9 : r7 with
    | none =>
      replace hs := sp_on hs et9
      refine W.eq (g2 := F0 m 12 ls [.null]) rfl ?_
      refine lv_astoreN (lv' := [(7, .null), (6, .ref (h t3)), (0, .ref (h 0)), (1, .int a1), (2, .int a2), (3, .int a3), (4, .int a4), (5, .int a5)]) hx hb dX7_copy_12 hl (by decide) rfl (fun ls hl => ?_)
      refine lv_aload hx hb dX7_copy_14 (lv_at hl 1 rfl) ?_
      refine lv_ifnull hx hb dX7_copy_16 ?_
      refine lv_aloadN hx hb dX7_copy_19 (lv_at hl 0 rfl) ?_
      refine lv_ifnonnullN hx hb dX7_copy_21 ?_
      refine lv_bipush (v := -2) hx hb dX7_copy_24 (by decide) ?_
      cases hs
      exact sv_iret hx hb hr rfl hlk hW dX7_copy_26
    | some t9 =>
      replace hs := sp_os hs et9
      obtain ⟨ht9, hs⟩ := sp_p hs
      refine W.eq (g2 := F0 m 12 ls [.ref (h t9)]) rfl ?_
      refine lv_astore (lv' := [(7, .ref (h t9)), (6, .ref (h t3)), (0, .ref (h 0)), (1, .int a1), (2, .int a2), (3, .int a3), (4, .int a4), (5, .int a5)]) hx hb dX7_copy_12 hl (by decide) rfl (fun ls hl => ?_)
      refine lv_aload hx hb dX7_copy_14 (lv_at hl 1 rfl) ?_
      refine lv_ifnull hx hb dX7_copy_16 ?_
      refine lv_aload hx hb dX7_copy_19 (lv_at hl 0 rfl) ?_
      refine lv_ifnonnull (tgt := 27) hx hb dX7_copy_21 (by decide) ?_
      refine lv_aload hx hb dX7_copy_27 (lv_at hl 1 rfl) ?_
      refine sv_get (own := RX7) (C := RX5) (Tf := TX5) (N := 3) (index := 259) (κ := (0, 0)) (v := .int (σ8.1 t3 1)) hx hb hts hown hK hW (fun _ h => List.mem_cons_of_mem _ (List.mem_append_left _ (List.mem_append_right _ h))) ht3.1 ht3.2.1 rfl 1 (by decide) rfl rfl (List.mem_of_getElem? (i := 1) rfl) dX7_copy_29 ?_
      refine lv_iconst (v := -1) hx hb dX7_copy_32 (by decide) ?_
      refine lv_icmp_eq (tgt := 45) hx hb dX7_copy_33 (by decide) (fun c10 => ?_) (fun c10 => ?_)
      · replace hs := (sp_ite hs).1 c10
        refine lv_bipush (v := -11) hx hb dX7_copy_45 (by decide) ?_
        cases hs
        exact sv_iret hx hb hr rfl hlk hW dX7_copy_47
      · replace hs := (sp_ite hs).2 c10
        refine lv_aload hx hb dX7_copy_36 (lv_at hl 0 rfl) ?_
        refine sv_get (own := RX7) (C := RX5) (Tf := TX5) (N := 3) (index := 259) (κ := (0, 0)) (v := .int (σ8.1 t9 1)) hx hb hts hown hK hW (fun _ h => List.mem_cons_of_mem _ (List.mem_append_left _ (List.mem_append_right _ h))) ht9.1 ht9.2.1 rfl 1 (by decide) rfl rfl (List.mem_of_getElem? (i := 1) rfl) dX7_copy_38 ?_
        refine lv_iconst (v := -1) hx hb dX7_copy_41 (by decide) ?_
        refine lv_icmp_ne (tgt := 48) hx hb dX7_copy_42 (by decide) (fun c11 => ?_) (fun c11 => ?_)
        · replace hs := (sp_ite hs).2 c11
          refine lv_aload hx hb dX7_copy_48 (lv_at hl 1 rfl) ?_
          refine sv_get (own := RX7) (C := RX5) (Tf := TX5) (N := 3) (index := 259) (κ := (0, 0)) (v := .int (σ8.1 t3 1)) hx hb hts hown hK hW (fun _ h => List.mem_cons_of_mem _ (List.mem_append_left _ (List.mem_append_right _ h))) ht3.1 ht3.2.1 rfl 1 (by decide) rfl rfl (List.mem_of_getElem? (i := 1) rfl) dX7_copy_50 ?_
          refine lv_aload hx hb dX7_copy_53 (lv_at hl 0 rfl) ?_
          refine sv_get (own := RX7) (C := RX5) (Tf := TX5) (N := 3) (index := 259) (κ := (0, 0)) (v := .int (σ8.1 t9 1)) hx hb hts hown hK hW (fun _ h => List.mem_cons_of_mem _ (List.mem_append_left _ (List.mem_append_right _ h))) ht9.1 ht9.2.1 rfl 1 (by decide) rfl rfl (List.mem_of_getElem? (i := 1) rfl) dX7_copy_55 ?_
          refine lv_icmp_eq (tgt := 64) hx hb dX7_copy_58 (by decide) (fun c12 => ?_) (fun c12 => ?_)
          · replace hs := (sp_ite hs).1 c12
            refine lv_aload hx hb dX7_copy_64 (lv_at hl 1 rfl) ?_
            refine lv_iload_n hx hb dX7_copy_66 rfl (lv_at hl 4 rfl) ?_
            refine lv_iload hx hb dX7_copy_67 (lv_at hl 7 rfl) ?_
            obtain ⟨r13, σ14, eσ14, hs⟩ := sp_bind hs
            refine sv_goI (σ' := σ14) (r := r13) hW F.2.2.2.1 (sv_runV (C := RX5) F hW (k_X5_spans hB ht3 eσ14 H.size) gX7_copy_X5_spans rfl ⟨rfl, rfl⟩ 2 (by decide +kernel) (sv_room2 (by omega) (by omega)) ht3.1 ht3.2.1 rfl rfl hl.1 rfl (Nat.le_of_ble_eq_true rfl) dX7_copy_69 ⟨Nat.zero_le _, Nat.zero_le _⟩) (fun H locs hW => ?_)
            refine lv_if_eq (tgt := 87) hx hb dX7_copy_72 (by decide) (fun c15 => ?_) (fun c15 => ?_)
            · replace hs := (sp_ite hs).1 c15
              refine lv_bipush (v := -12) hx hb dX7_copy_87 (by decide) ?_
              cases hs
              exact sv_iret hx hb hr rfl hlk hW dX7_copy_89
            · replace hs := (sp_ite hs).2 c15
              refine lv_aload hx hb dX7_copy_75 (lv_at hl 0 rfl) ?_
              refine lv_iload hx hb dX7_copy_77 (lv_at hl 6 rfl) ?_
              refine lv_iload hx hb dX7_copy_79 (lv_at hl 7 rfl) ?_
              obtain ⟨r16, σ17, eσ17, hs⟩ := sp_bind hs
              refine sv_goI (σ' := σ17) (r := r16) hW F.2.2.2.1 (sv_runV (C := RX5) F hW (k_X5_spans hB ht9 eσ17 H.size) gX7_copy_X5_spans rfl ⟨rfl, rfl⟩ 2 (by decide +kernel) (sv_room2 (by omega) (by omega)) ht9.1 ht9.2.1 rfl rfl hl.1 rfl (Nat.le_of_ble_eq_true rfl) dX7_copy_81 ⟨Nat.zero_le _, Nat.zero_le _⟩) (fun H locs hW => ?_)
              refine lv_if_ne (tgt := 90) hx hb dX7_copy_84 (by decide) (fun c18 => ?_) (fun c18 => ?_)
              · replace hs := (sp_ite hs).2 c18
                refine lv_aload hx hb dX7_copy_90 (lv_at hl 1 rfl) ?_
                refine sv_get (own := RX7) (C := RX5) (Tf := TX5) (N := 3) (index := 187) (κ := (3, 1)) (v := .ref (h (t3 + 1))) hx hb hts hown hK hW (fun _ h => List.mem_cons_of_mem _ (List.mem_append_left _ (List.mem_append_right _ h))) ht3.1 ht3.2.1 rfl 0 (by decide) rfl rfl (List.mem_of_getElem? (i := 2) rfl) dX7_copy_92 ?_
                refine lv_iload_n hx hb dX7_copy_95 rfl (lv_at hl 4 rfl) ?_
                refine lv_aload hx hb dX7_copy_96 (lv_at hl 0 rfl) ?_
                refine sv_get (own := RX7) (C := RX5) (Tf := TX5) (N := 3) (index := 187) (κ := (3, 1)) (v := .ref (h (t9 + 1))) hx hb hts hown hK hW (fun _ h => List.mem_cons_of_mem _ (List.mem_append_left _ (List.mem_append_right _ h))) ht9.1 ht9.2.1 rfl 0 (by decide) rfl rfl (List.mem_of_getElem? (i := 2) rfl) dX7_copy_98 ?_
                refine lv_iload hx hb dX7_copy_101 (lv_at hl 6 rfl) ?_
                refine lv_iload hx hb dX7_copy_103 (lv_at hl 7 rfl) ?_
                obtain ⟨hc20, hs⟩ := sp_p hs
                refine sv_copy (own := RX7) (index := 303) hx hb (F.1.2.2.1.trans hl.1.symm) hown (hts _ (List.mem_of_getElem? (i := 3) rfl)) (hts _ (List.mem_of_getElem? (i := 4) rfl)) (hts _ (List.mem_of_getElem? (i := 5) rfl)) (hts _ (List.mem_of_getElem? (i := 6) rfl)) hK hW ht3.2.2.1 ht3.2.2.2 ht9.2.2.1 ht9.2.2.2 0 rfl hc20 (Nat.le_of_ble_eq_true rfl) (Nat.le_of_ble_eq_true rfl) dX7_copy_105 (fun σ19 H locs eσ19 hW => ?_)
                replace hs := sp_let hs eσ19
                refine lv_iload hx hb dX7_copy_108 (lv_at hl 7 rfl) ?_
                cases hs
                exact sv_iret hx hb hr rfl hlk hW dX7_copy_110
              · replace hs := (sp_ite hs).1 c18
                refine lv_bipush (v := -12) hx hb dX7_copy_87 (by decide) ?_
                cases hs
                exact sv_iret hx hb hr rfl hlk hW dX7_copy_89
          · replace hs := (sp_ite hs).2 c12
            refine lv_bipush (v := -13) hx hb dX7_copy_61 (by decide) ?_
            cases hs
            exact sv_iret hx hb hr rfl hlk hW dX7_copy_63
        · replace hs := (sp_ite hs).1 c11
          refine lv_bipush (v := -11) hx hb dX7_copy_45 (by decide) ?_
          cases hs
          exact sv_iret hx hb hr rfl hlk hW dX7_copy_47
set_option maxRecDepth 100000 in
set_option maxHeartbeats 4000000 in
theorem b_X7_bargains_66 {qK qV : Nat → Nat} {p : Program} {l : Launch} {e : Env} {s : State} {m : MethodId} {args : Array Value} {below : List Frame} {meth : Method} {c : Code} {D : va_G} {T : Nat → ClassId} {A : Nat → Prop} {h : Nat → Nat} {θ : sv_T} {a1 : Int32} {a2 : Int32} {a3 : Int32} {a4 : Int32} {r : Int32} {σ' : sv_S} (hB : sx_base θ)  (F : sv_F (sx_X qK qV) p m c cX7_bargains 9 s args wsX7_bargains RX7 D (sx_tys T) A) (hr : meth.sig.returnType = (some .int)) (hlk : meth.locks = false)  : ∀ (n : Nat), ∀ (x3 : Int32) (x4 : Int32) (z5 : Nat) (x6 : Int32) (x7 : Int32) (σ : sv_S) (H : Heap) (locs : List Loc) (ls : Array Slot), sv_oX5 θ z5 → lv_has ls 9 [(0, .ref (h 0)), (3, .int x3), (4, .int x4), (5, .ref (h z5)), (6, .int x6), (7, .int x7)] → sv_W D T A s h θ σ H locs → q_X7_bargains_B66 θ a1 a2 a3 a4 n x3 x4 z5 x6 x7 σ = some (r, σ') → W p l e (sv_rm 3 68) s m args below meth c H locs 0 0 (MQ below (va_Qi (fun r2 (_ : Unit) => r2 = r) (fun _ t => va_P D vwCl (sv_ws T h θ σ') t.heap) A) args s 0 0 A) (F0 m 66 ls []) := by
  have hx := F.1.1
  have hb := F.1.2.1
  have hts := F.1.2.2.2.2
  have hown := F.1.2.2.2.1
  have hK := F.2.1
  intro n
  induction n with
  | zero =>
    intro x3 x4 z5 x6 x7 σ H locs ls hz5 hl hW hs
    have hs : (none : Option (Int32 × sv_S)) = some (r, σ') := hs
    cases hs
  | succ n ih =>
    intro x3 x4 z5 x6 x7 σ H locs ls hz5 hl hW hs
    have hs : q_X7_bargains_B66_b θ a1 a2 a3 a4 (q_X7_bargains_B66 θ a1 a2 a3 a4 n) x3 x4 z5 x6 x7 σ = some (r, σ') := hs
    unfold q_X7_bargains_B66_b at hs
    refine lv_iload hx hb dX7_bargains_66 (lv_at hl 5 rfl) ?_
    refine lv_iload hx hb dX7_bargains_68 (lv_at hl 2 rfl) ?_
    refine lv_icmp_ge (tgt := 136) hx hb dX7_bargains_70 (by decide) (fun c10 => ?_) (fun c10 => ?_)
    · replace hs := (sp_ite hs).1 c10
      refine lv_iload hx hb dX7_bargains_136 (lv_at hl 4 rfl) ?_
      cases hs
      exact sv_iret hx hb hr rfl hlk hW dX7_bargains_138
    · replace hs := (sp_ite hs).2 c10
      refine lv_iload_n hx hb dX7_bargains_73 rfl (lv_at hl 1 rfl) ?_
      refine lv_iconst (v := 3) hx hb dX7_bargains_74 (by decide) ?_
      refine lv_iload hx hb dX7_bargains_75 (lv_at hl 5 rfl) ?_
      refine lv_imul hx hb dX7_bargains_77 ?_
      refine lv_iadd hx hb dX7_bargains_78 ?_
      refine lv_topi (fun v11 ev11 => ?_)
      replace hs := sp_let hs ev11
      refine lv_istore (lv' := [(8, .int v11), (0, .ref (h 0)), (3, .int x3), (4, .int x4), (5, .ref (h z5)), (6, .int x6), (7, .int x7)]) hx hb dX7_bargains_79 hl (by decide) rfl (fun ls hl => ?_)
      refine lv_aload hx hb dX7_bargains_81 (lv_at hl 4 rfl) ?_
      refine lv_iload hx hb dX7_bargains_83 (lv_at hl 0 rfl) ?_
      refine lv_iconst (v := 3) hx hb dX7_bargains_85 (by decide) ?_
      obtain ⟨r12, σ13, eσ13, hs⟩ := sp_bind hs
      refine sv_goI (σ' := σ13) (r := r12) hW F.2.2.2.1 (sv_runV (C := RX5) F hW (k_X5_spans hB hz5 eσ13 H.size) gX7_bargains_X5_spans rfl ⟨rfl, rfl⟩ 2 (by decide +kernel) (sv_room2 (by omega) (by omega)) hz5.1 hz5.2.1 rfl rfl hl.1 rfl (Nat.le_of_ble_eq_true rfl) dX7_bargains_86 ⟨Nat.zero_le _, Nat.zero_le _⟩) (fun H locs hW => ?_)
      refine lv_if_ne (tgt := 95) hx hb dX7_bargains_89 (by decide) (fun c14 => ?_) (fun c14 => ?_)
      · replace hs := (sp_ite hs).2 c14
        refine lv_aload_n hx hb dX7_bargains_95 rfl (lv_at hl 1 rfl) ?_
        refine lv_aload hx hb dX7_bargains_96 (lv_at hl 4 rfl) ?_
        refine lv_iload hx hb dX7_bargains_98 (lv_at hl 0 rfl) ?_
        obtain ⟨r15, σ16, eσ16, hs⟩ := sp_bind hs
        refine sv_goI (σ' := σ16) (r := r15) hW F.2.2.2.1 (sv_runV (C := RX5) F hW (k_X5_read hB hz5 eσ16 H.size) gX7_bargains_X5_read rfl ⟨rfl, rfl⟩ 1 (by decide +kernel) (sv_room2 (by omega) (by omega)) hz5.1 hz5.2.1 rfl rfl hl.1 rfl (Nat.le_of_ble_eq_true rfl) dX7_bargains_100 ⟨Nat.zero_le _, Nat.zero_le _⟩) (fun H locs hW => ?_)
        refine lv_aload hx hb dX7_bargains_103 (lv_at hl 4 rfl) ?_
        refine lv_iload hx hb dX7_bargains_105 (lv_at hl 0 rfl) ?_
        refine lv_iconst (v := 1) hx hb dX7_bargains_107 (by decide) ?_
        refine lv_iadd hx hb dX7_bargains_108 ?_
        obtain ⟨r17, σ18, eσ18, hs⟩ := sp_bind hs
        refine sv_goI (σ' := σ18) (r := r17) hW F.2.2.2.1 (sv_runV (C := RX5) F hW (k_X5_read hB hz5 eσ18 H.size) gX7_bargains_X5_read rfl ⟨rfl, rfl⟩ 1 (by decide +kernel) (sv_room2 (by omega) (by omega)) hz5.1 hz5.2.1 rfl rfl hl.1 rfl (Nat.le_of_ble_eq_true rfl) dX7_bargains_109 ⟨Nat.zero_le _, Nat.zero_le _⟩) (fun H locs hW => ?_)
        refine lv_aload hx hb dX7_bargains_112 (lv_at hl 4 rfl) ?_
        refine lv_iload hx hb dX7_bargains_114 (lv_at hl 0 rfl) ?_
        refine lv_iconst (v := 2) hx hb dX7_bargains_116 (by decide) ?_
        refine lv_iadd hx hb dX7_bargains_117 ?_
        obtain ⟨r19, σ20, eσ20, hs⟩ := sp_bind hs
        refine sv_goI (σ' := σ20) (r := r19) hW F.2.2.2.1 (sv_runV (C := RX5) F hW (k_X5_read hB hz5 eσ20 H.size) gX7_bargains_X5_read rfl ⟨rfl, rfl⟩ 1 (by decide +kernel) (sv_room2 (by omega) (by omega)) hz5.1 hz5.2.1 rfl rfl hl.1 rfl (Nat.le_of_ble_eq_true rfl) dX7_bargains_118 ⟨Nat.zero_le _, Nat.zero_le _⟩) (fun H locs hW => ?_)
        obtain ⟨r21, σ22, eσ22, hs⟩ := sp_bind hs
        refine sv_goI (σ' := σ22) (r := r21) hW F.2.2.2.1 (sv_runV (C := RX7) F hW (k_X7_bargain hB eσ22 H.size) gX7_bargains_X7_bargain rfl ⟨rfl, rfl⟩ 3 (by decide +kernel) (sv_room2 (by omega) (by omega)) (sx_i 0 hB (by decide)) (sx_c0 hB) rfl rfl hl.1 rfl (Nat.le_of_ble_eq_true rfl) dX7_bargains_121 ⟨Nat.zero_le _, Nat.zero_le _⟩) (fun H locs hW => ?_)
        refine lv_if_lt (tgt := 130) hx hb dX7_bargains_124 (by decide) (fun c23 => ?_) (fun c23 => ?_)
        · replace hs := (sp_ite hs).1 c23
          obtain ⟨v24, ev24⟩ : ∃ y : Int32, y = x7 + 1 := ⟨_, rfl⟩
          replace hs := sp_let hs ev24
          refine lv_iinc (v := v24) (lv' := [(7, .int v24), (8, .int v11), (0, .ref (h 0)), (3, .int x3), (4, .int x4), (5, .ref (h z5)), (6, .int x6)]) hx hb dX7_bargains_130 hl (k := 6) rfl (by rw [ev24]; rfl) (by decide) rfl (fun ls hl => ?_)
          refine lv_goto (tgt := 66) hx hb dX7_bargains_133 (by decide) ?_
          exact ih x3 x4 z5 x6 v24 σ22 H locs ls hz5 (lv_sub hl [2, 3, 4, 5, 6, 0] rfl) hW hs
        · replace hs := (sp_ite hs).2 c23
          obtain ⟨v25, ev25⟩ : ∃ y : Int32, y = x6 + 1 := ⟨_, rfl⟩
          replace hs := sp_let hs ev25
          refine lv_iinc (v := v25) (lv' := [(6, .int v25), (8, .int v11), (0, .ref (h 0)), (3, .int x3), (4, .int x4), (5, .ref (h z5)), (7, .int x7)]) hx hb dX7_bargains_127 hl (k := 5) rfl (by rw [ev25]; rfl) (by decide) rfl (fun ls hl => ?_)
          obtain ⟨v26, ev26⟩ : ∃ y : Int32, y = x7 + 1 := ⟨_, rfl⟩
          replace hs := sp_let hs ev26
          refine lv_iinc (v := v26) (lv' := [(7, .int v26), (6, .int v25), (8, .int v11), (0, .ref (h 0)), (3, .int x3), (4, .int x4), (5, .ref (h z5))]) hx hb dX7_bargains_130 hl (k := 6) rfl (by rw [ev26]; rfl) (by decide) rfl (fun ls hl => ?_)
          refine lv_goto (tgt := 66) hx hb dX7_bargains_133 (by decide) ?_
          exact ih x3 x4 z5 v25 v26 σ22 H locs ls hz5 (lv_sub hl [3, 4, 5, 6, 1, 0] rfl) hW hs
      · replace hs := (sp_ite hs).1 c14
        refine lv_bipush (v := -12) hx hb dX7_bargains_92 (by decide) ?_
        cases hs
        exact sv_iret hx hb hr rfl hlk hW dX7_bargains_94
set_option maxRecDepth 100000 in
set_option maxHeartbeats 4000000 in
theorem k_X7_bargains {qK qV : Nat → Nat} {l : Launch} {D : va_G} {T : Nat → ClassId} {h : Nat → Nat} {θ : sv_T} {a1 : Int32} {a2 : Int32} {a3 : Int32} {a4 : Int32} {σ : sv_S} {r : Int32} {σ' : sv_S} (hB : sx_base θ)  (hs : q_X7_bargains θ a1 a2 a3 a4 σ = some (r, σ')) : sv_Mi (sx_X qK qV) l D T (sx_tys T) h θ yX7_bargains wsX7_bargains (sv_rm 3 68) [.ref (h 0), .int a1, .int a2, .int a3, .int a4] σ r σ' := by
  intro sz
  refine sv_enter (cc := cX7_bargains) (maxL := 9) (ret := (some .int)) (Qc := fun A => va_Qi (fun r2 (_ : Unit) => r2 = r) (fun _ t => va_P D vwCl (sv_ws T h θ σ') t.heap) A) sx_XP (by decide) rfl (Nat.le_of_ble_eq_true rfl) ?_
  intro p e s m args below meth c A F hr hlk ls H hl hW
  have hx := F.1.1
  have hb := F.1.2.1
  have hts := F.1.2.2.2.2
  have hown := F.1.2.2.2.1
  have hK := F.2.1
  obtain ⟨locs, hlocs⟩ : ∃ z : List Loc, z = [] := ⟨_, rfl⟩
  rw [← hlocs] at hW ⊢
  have hl : lv_has ls 9 [(0, .ref (h 0)), (1, .int a1), (2, .int a2), (3, .int a3), (4, .int a4)] := hl
  unfold q_X7_bargains at hs
  refine lv_aload_n hx hb dX7_bargains_0 rfl (lv_at hl 0 rfl) ?_
  refine lv_iload_n hx hb dX7_bargains_1 rfl (lv_at hl 1 rfl) ?_
  obtain ⟨r1, σ2, eσ2, hs⟩ := sp_bind hs
  refine sv_goQ (σ' := σ2) (r := r1) hW F.2.2.2.1 (sv_runV (C := RX7) F hW (k_X7_rowAt hB eσ2 H.size) gX7_bargains_X7_rowAt rfl ⟨rfl, rfl⟩ 1 (by decide +kernel) (sv_room2 (by omega) (by omega)) (sx_i 0 hB (by decide)) (sx_c0 hB) rfl rfl hl.1 rfl (Nat.le_of_ble_eq_true rfl) dX7_bargains_2 ⟨Nat.zero_le _, Nat.zero_le _⟩) (fun H locs hW => ?_)
  cases et3 : r1 with
  | none =>
    replace hs := sp_on hs et3
    refine W.eq (g2 := F0 m 5 ls [.null]) rfl ?_
    refine lv_astoreN (lv' := [(5, .null), (0, .ref (h 0)), (1, .int a1), (2, .int a2), (3, .int a3), (4, .int a4)]) hx hb dX7_bargains_5 hl (by decide) rfl (fun ls hl => ?_)
    refine lv_aloadN hx hb dX7_bargains_7 (lv_at hl 0 rfl) ?_
    refine lv_ifnullN (tgt := 33) hx hb dX7_bargains_9 (by decide) ?_
    refine lv_bipush (v := -2) hx hb dX7_bargains_33 (by decide) ?_
    cases hs
    exact sv_iret hx hb hr rfl hlk hW dX7_bargains_35
  | some t3 =>
    replace hs := sp_os hs et3
    obtain ⟨ht3, hs⟩ := sp_p hs
    refine W.eq (g2 := F0 m 5 ls [.ref (h t3)]) rfl ?_
    refine lv_astore (lv' := [(5, .ref (h t3)), (0, .ref (h 0)), (1, .int a1), (2, .int a2), (3, .int a3), (4, .int a4)]) hx hb dX7_bargains_5 hl (by decide) rfl (fun ls hl => ?_)
    refine lv_aload hx hb dX7_bargains_7 (lv_at hl 0 rfl) ?_
    refine lv_ifnull hx hb dX7_bargains_9 ?_
    refine lv_iload_n hx hb dX7_bargains_12 rfl (lv_at hl 3 rfl) ?_
    refine lv_if_lt (tgt := 33) hx hb dX7_bargains_13 (by decide) (fun c4 => ?_) (fun c4 => ?_)
    · replace hs := (sp_ite hs).1 c4
      refine lv_bipush (v := -2) hx hb dX7_bargains_33 (by decide) ?_
      cases hs
      exact sv_iret hx hb hr rfl hlk hW dX7_bargains_35
    · replace hs := (sp_ite hs).2 c4
      refine lv_iload_n hx hb dX7_bargains_16 rfl (lv_at hl 3 rfl) ?_
      refine lv_iconst (v := 2) hx hb dX7_bargains_17 (by decide) ?_
      refine lv_icmp_gt (tgt := 33) hx hb dX7_bargains_18 (by decide) (fun c5 => ?_) (fun c5 => ?_)
      · replace hs := (sp_ite hs).1 c5
        refine lv_bipush (v := -2) hx hb dX7_bargains_33 (by decide) ?_
        cases hs
        exact sv_iret hx hb hr rfl hlk hW dX7_bargains_35
      · replace hs := (sp_ite hs).2 c5
        refine lv_iload hx hb dX7_bargains_21 (lv_at hl 5 rfl) ?_
        refine lv_if_lt (tgt := 33) hx hb dX7_bargains_23 (by decide) (fun c6 => ?_) (fun c6 => ?_)
        · replace hs := (sp_ite hs).1 c6
          refine lv_bipush (v := -2) hx hb dX7_bargains_33 (by decide) ?_
          cases hs
          exact sv_iret hx hb hr rfl hlk hW dX7_bargains_35
        · replace hs := (sp_ite hs).2 c6
          refine lv_iload hx hb dX7_bargains_26 (lv_at hl 5 rfl) ?_
          refine lv_bipush (v := 6) hx hb dX7_bargains_28 (by decide) ?_
          refine lv_icmp_le (tgt := 36) hx hb dX7_bargains_30 (by decide) (fun c7 => ?_) (fun c7 => ?_)
          · replace hs := (sp_ite hs).1 c7
            refine lv_aload hx hb dX7_bargains_36 (lv_at hl 0 rfl) ?_
            refine sv_get (own := RX7) (C := RX5) (Tf := TX5) (N := 3) (index := 259) (κ := (0, 0)) (v := .int (σ2.1 t3 1)) hx hb hts hown hK hW (fun _ h => List.mem_cons_of_mem _ (List.mem_append_left _ (List.mem_append_left _ (List.mem_append_right _ h)))) ht3.1 ht3.2.1 rfl 1 (by decide) rfl rfl (List.mem_of_getElem? (i := 1) rfl) dX7_bargains_38 ?_
            refine lv_iconst (v := -1) hx hb dX7_bargains_41 (by decide) ?_
            refine lv_icmp_ne (tgt := 48) hx hb dX7_bargains_42 (by decide) (fun c8 => ?_) (fun c8 => ?_)
            · replace hs := (sp_ite hs).2 c8
              refine lv_aload hx hb dX7_bargains_48 (lv_at hl 0 rfl) ?_
              refine sv_get (own := RX7) (C := RX5) (Tf := TX5) (N := 3) (index := 259) (κ := (0, 0)) (v := .int (σ2.1 t3 1)) hx hb hts hown hK hW (fun _ h => List.mem_cons_of_mem _ (List.mem_append_left _ (List.mem_append_left _ (List.mem_append_right _ h)))) ht3.1 ht3.2.1 rfl 1 (by decide) rfl rfl (List.mem_of_getElem? (i := 1) rfl) dX7_bargains_50 ?_
              refine lv_iload_n hx hb dX7_bargains_53 rfl (lv_at hl 3 rfl) ?_
              refine lv_icmp_eq (tgt := 60) hx hb dX7_bargains_54 (by decide) (fun c9 => ?_) (fun c9 => ?_)
              · replace hs := (sp_ite hs).1 c9
                refine lv_iconst (v := 0) hx hb dX7_bargains_60 (by decide) ?_
                refine lv_istore (lv' := [(6, .int (0 : Int32)), (5, .ref (h t3)), (0, .ref (h 0)), (1, .int a1), (2, .int a2), (3, .int a3), (4, .int a4)]) hx hb dX7_bargains_61 hl (by decide) rfl (fun ls hl => ?_)
                refine lv_iconst (v := 0) hx hb dX7_bargains_63 (by decide) ?_
                refine lv_istore (lv' := [(7, .int (0 : Int32)), (6, .int (0 : Int32)), (5, .ref (h t3)), (0, .ref (h 0)), (1, .int a1), (2, .int a2), (3, .int a3), (4, .int a4)]) hx hb dX7_bargains_64 hl (by decide) rfl (fun ls hl => ?_)
                exact b_X7_bargains_66 hB F hr hlk sv_N a3 a4 t3 (0 : Int32) (0 : Int32) σ2 H locs ls ht3 (lv_sub hl [3, 6, 7, 2, 1, 0] rfl) hW hs
              · replace hs := (sp_ite hs).2 c9
                refine lv_bipush (v := -13) hx hb dX7_bargains_57 (by decide) ?_
                cases hs
                exact sv_iret hx hb hr rfl hlk hW dX7_bargains_59
            · replace hs := (sp_ite hs).1 c8
              refine lv_bipush (v := -11) hx hb dX7_bargains_45 (by decide) ?_
              cases hs
              exact sv_iret hx hb hr rfl hlk hW dX7_bargains_47
          · replace hs := (sp_ite hs).2 c7
            refine lv_bipush (v := -2) hx hb dX7_bargains_33 (by decide) ?_
            cases hs
            exact sv_iret hx hb hr rfl hlk hW dX7_bargains_35

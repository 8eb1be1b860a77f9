set_option maxRecDepth 100000 in
set_option maxHeartbeats 4000000 in
theorem b_X3_fillEnds_29 {qK qV : Nat → Nat} {p : Program} {l : Launch} {e : Env} {s : State} {m : MethodId} {args : Array Value} {below : List Frame} {meth : Method} {c : Code} {D : va_G} {T : Nat → ClassId} {A : Nat → Prop} {h : Nat → Nat} {θ : sv_T} {a2 : Int32} {r : Unit} {σ' : sv_S} (hB : sx_base θ)  (F : sv_F (sx_X qK qV) p m c cX3_fillEnds 6 s args wsX3_fillEnds RX3 D (sx_tys T) A) (hr : meth.sig.returnType = none) (hlk : meth.locks = false) (k16 : Int32 → Int32 → Int32 → sv_S → Option (Unit × sv_S)) (hk16 : ∀ (x2 : Int32) (x3 : Int32) (x4 : Int32) (σ : sv_S) (H : Heap) (locs : List Loc) (ls : Array Slot), lv_has ls 6 [(0, .ref (h 24)), (1, .ref (h 1)), (2, .int x2), (3, .int x3), (4, .int x4)] → sv_W D T A s h θ σ H locs → k16 x2 x3 x4 σ = some (r, σ') → W p l e (sv_rm 3 73) s m args below meth c H locs 0 0 (MQ below (va_Qv (fun (_ : Unit) => True) (fun _ t => va_P D vwCl (sv_ws T h θ σ') t.heap) A) args s 0 0 A) (F0 m 16 ls [])) : ∀ (n : Nat), ∀ (x2 : Int32) (x3 : Int32) (x4 : Int32) (x5 : Int32) (σ : sv_S) (H : Heap) (locs : List Loc) (ls : Array Slot), lv_has ls 6 [(0, .ref (h 24)), (1, .ref (h 1)), (2, .int x2), (3, .int x3), (4, .int x4), (5, .int x5)] → sv_W D T A s h θ σ H locs → q_X3_fillEnds_B29 θ a2 k16 n x2 x3 x4 x5 σ = some (r, σ') → W p l e (sv_rm 3 73) s m args below meth c H locs 0 0 (MQ below (va_Qv (fun (_ : Unit) => True) (fun _ t => va_P D vwCl (sv_ws T h θ σ') t.heap) A) args s 0 0 A) (F0 m 29 ls []) := by
  have hx := F.1.1
  have hb := F.1.2.1
  have hts := F.1.2.2.2.2
  have hown := F.1.2.2.2.1
  have hK := F.2.1
  intro n
  induction n with
  | zero =>
    intro x2 x3 x4 x5 σ H locs ls hl hW hs
    have hs : (none : Option (Unit × sv_S)) = some (r, σ') := hs
    cases hs
  | succ n ih =>
    intro x2 x3 x4 x5 σ H locs ls hl hW hs
    have hs : q_X3_fillEnds_B29_b θ a2 k16 (q_X3_fillEnds_B29 θ a2 k16 n) x2 x3 x4 x5 σ = some (r, σ') := hs
    unfold q_X3_fillEnds_B29_b at hs
    refine lv_iload hx hb dX3_fillEnds_29 (lv_at hl 5 rfl) ?_
    refine lv_iload_n hx hb dX3_fillEnds_31 rfl (lv_at hl 3 rfl) ?_
    refine lv_icmp_ge (tgt := 75) hx hb dX3_fillEnds_32 (by decide) (fun c6 => ?_) (fun c6 => ?_)
    · replace hs := (sp_ite hs).1 c6
      obtain ⟨v7, ev7⟩ : ∃ y : Int32, y = x4 + 1 := ⟨_, rfl⟩
      replace hs := sp_let hs ev7
      refine lv_iinc (v := v7) (lv' := [(4, .int v7), (0, .ref (h 24)), (1, .ref (h 1)), (2, .int x2), (3, .int x3), (5, .int x5)]) hx hb dX3_fillEnds_75 hl (k := 4) rfl (by rw [ev7]; rfl) (by decide) rfl (fun ls hl => ?_)
      refine lv_goto (tgt := 16) hx hb dX3_fillEnds_78 (by decide) ?_
      exact hk16 x2 x3 v7 σ H locs ls (lv_sub hl [1, 2, 3, 4, 0] rfl) hW hs
    · replace hs := (sp_ite hs).2 c6
      refine lv_iload_n hx hb dX3_fillEnds_35 rfl (lv_at hl 2 rfl) ?_
      refine lv_iload hx hb dX3_fillEnds_36 (lv_at hl 4 rfl) ?_
      obtain ⟨r8, σ9, eσ9, hs⟩ := sp_bind hs
      refine sv_goI (σ' := σ9) (r := r8) hW F.2.2.2.1 (sv_runN (own := RX3) (host := "OpenWhileItRains") F hW (k_X7_hasBit hB eσ9 H.size) gX3_fillEnds_X7_hasBit_n90 rfl ⟨rfl, rfl⟩ (F.2.2.1.1 _ (List.mem_of_getElem? (i := 17) rfl)) (List.mem_of_getElem? (i := 12) rfl) (List.mem_of_getElem? (i := 11) rfl) 2 (by decide +kernel) (sv_room2 (by omega) (by omega)) rfl hl.1 rfl (Nat.le_of_ble_eq_true rfl) dX3_fillEnds_38 ⟨Nat.zero_le _, Nat.zero_le _⟩) (fun H locs hW => ?_)
      refine lv_if_eq (tgt := 75) hx hb dX3_fillEnds_41 (by decide) (fun c10 => ?_) (fun c10 => ?_)
      · replace hs := (sp_ite hs).1 c10
        obtain ⟨v11, ev11⟩ : ∃ y : Int32, y = x4 + 1 := ⟨_, rfl⟩
        replace hs := sp_let hs ev11
        refine lv_iinc (v := v11) (lv' := [(4, .int v11), (0, .ref (h 24)), (1, .ref (h 1)), (2, .int x2), (3, .int x3), (5, .int x5)]) hx hb dX3_fillEnds_75 hl (k := 4) rfl (by rw [ev11]; rfl) (by decide) rfl (fun ls hl => ?_)
        refine lv_goto (tgt := 16) hx hb dX3_fillEnds_78 (by decide) ?_
        exact hk16 x2 x3 v11 σ9 H locs ls (lv_sub hl [1, 2, 3, 4, 0] rfl) hW hs
      · replace hs := (sp_ite hs).2 c10
        refine lv_aload_n hx hb dX3_fillEnds_44 rfl (lv_at hl 0 rfl) ?_
        refine sv_get (own := RX3) (C := RX3) (Tf := TX3) (N := 17) (index := 12) (κ := (3, 1)) (v := .ref (h 25)) hx hb hts hown hK hW (fun _ h => List.mem_cons_of_mem _ (List.mem_append_left _ (List.mem_append_left _ (List.mem_append_right _ h)))) (sx_i 24 hB (by decide)) (sx_c24 hB) rfl 0 (by decide) rfl rfl (List.mem_of_getElem? (i := 3) rfl) dX3_fillEnds_45 ?_
        refine lv_aload_n hx hb dX3_fillEnds_48 rfl (lv_at hl 1 rfl) ?_
        refine lv_iload hx hb dX3_fillEnds_49 (lv_at hl 4 rfl) ?_
        refine lv_iload hx hb dX3_fillEnds_51 (lv_at hl 5 rfl) ?_
        obtain ⟨r12, σ13, eσ13, hs⟩ := sp_bind hs
        refine sv_goV (σ' := σ13) (r := r12) hW F.2.2.2.1 (sv_runV (C := RX0) F hW (k_X0_regard hB (sx_o25 hB) eσ13 H.size) gX3_fillEnds_X0_regard rfl ⟨rfl, rfl⟩ 3 (by decide +kernel) (sv_room2 (by omega) (by omega)) (sx_i 25 hB (by decide)) (sx_c25 hB) rfl rfl hl.1 rfl (Nat.le_of_ble_eq_true rfl) dX3_fillEnds_53 ⟨Nat.zero_le _, Nat.zero_le _⟩) (fun H locs hW => ?_)
        refine lv_aload_n hx hb dX3_fillEnds_56 rfl (lv_at hl 0 rfl) ?_
        refine lv_aload_n hx hb dX3_fillEnds_57 rfl (lv_at hl 0 rfl) ?_
        refine lv_iload hx hb dX3_fillEnds_58 (lv_at hl 4 rfl) ?_
        refine lv_iload hx hb dX3_fillEnds_60 (lv_at hl 5 rfl) ?_
        refine lv_iconst (v := 0) hx hb dX3_fillEnds_62 (by decide) ?_
        obtain ⟨r14, σ15, eσ15, hs⟩ := sp_bind hs
        refine sv_goI (σ' := σ15) (r := r14) hW F.2.2.2.1 (sv_runV (C := RX3) F hW (k_X3_entry hB eσ15 H.size) gX3_fillEnds_X3_entry rfl ⟨rfl, rfl⟩ 3 (by decide +kernel) (sv_room2 (by omega) (by omega)) (sx_i 24 hB (by decide)) (sx_c24 hB) rfl rfl hl.1 rfl (Nat.le_of_ble_eq_true rfl) dX3_fillEnds_63 ⟨Nat.zero_le _, Nat.zero_le _⟩) (fun H locs hW => ?_)
        obtain ⟨r16, σ17, eσ17, hs⟩ := sp_bind hs
        refine sv_goV (σ' := σ17) (r := r16) hW F.2.2.2.1 (sv_runV (C := RX3) F hW (k_X3_fillRow hB eσ17 H.size) gX3_fillEnds_X3_fillRow rfl ⟨rfl, rfl⟩ 1 (by decide +kernel) (sv_room2 (by omega) (by omega)) (sx_i 24 hB (by decide)) (sx_c24 hB) rfl rfl hl.1 rfl (Nat.le_of_ble_eq_true rfl) dX3_fillEnds_66 ⟨Nat.zero_le _, Nat.zero_le _⟩) (fun H locs hW => ?_)
        obtain ⟨v18, ev18⟩ : ∃ y : Int32, y = x5 + 1 := ⟨_, rfl⟩
        replace hs := sp_let hs ev18
        refine lv_iinc (v := v18) (lv' := [(5, .int v18), (0, .ref (h 24)), (1, .ref (h 1)), (2, .int x2), (3, .int x3), (4, .int x4)]) hx hb dX3_fillEnds_69 hl (k := 5) rfl (by rw [ev18]; rfl) (by decide) rfl (fun ls hl => ?_)
        refine lv_goto (tgt := 29) hx hb dX3_fillEnds_72 (by decide) ?_
        exact ih x2 x3 x4 v18 σ17 H locs ls (lv_sub hl [1, 2, 3, 4, 5, 0] rfl) hW hs
set_option maxRecDepth 100000 in
set_option maxHeartbeats 4000000 in
theorem b_X3_fillEnds_16 {qK qV : Nat → Nat} {p : Program} {l : Launch} {e : Env} {s : State} {m : MethodId} {args : Array Value} {below : List Frame} {meth : Method} {c : Code} {D : va_G} {T : Nat → ClassId} {A : Nat → Prop} {h : Nat → Nat} {θ : sv_T} {a2 : Int32} {r : Unit} {σ' : sv_S} (hB : sx_base θ)  (F : sv_F (sx_X qK qV) p m c cX3_fillEnds 6 s args wsX3_fillEnds RX3 D (sx_tys T) A) (hr : meth.sig.returnType = none) (hlk : meth.locks = false)  : ∀ (n : Nat), ∀ (x2 : Int32) (x3 : Int32) (x4 : Int32) (σ : sv_S) (H : Heap) (locs : List Loc) (ls : Array Slot), lv_has ls 6 [(0, .ref (h 24)), (1, .ref (h 1)), (2, .int x2), (3, .int x3), (4, .int x4)] → sv_W D T A s h θ σ H locs → q_X3_fillEnds_B16 θ a2 n x2 x3 x4 σ = some (r, σ') → W p l e (sv_rm 3 73) s m args below meth c H locs 0 0 (MQ below (va_Qv (fun (_ : Unit) => True) (fun _ t => va_P D vwCl (sv_ws T h θ σ') t.heap) A) args s 0 0 A) (F0 m 16 ls []) := by
  have hx := F.1.1
  have hb := F.1.2.1
  have hts := F.1.2.2.2.2
  have hown := F.1.2.2.2.1
  have hK := F.2.1
  intro n
  induction n with
  | zero =>
    intro x2 x3 x4 σ H locs ls hl hW hs
    have hs : (none : Option (Unit × sv_S)) = some (r, σ') := hs
    cases hs
  | succ n ih =>
    intro x2 x3 x4 σ H locs ls hl hW hs
    have hs : q_X3_fillEnds_B16_b θ a2 (q_X3_fillEnds_B16 θ a2 n) x2 x3 x4 σ = some (r, σ') := hs
    unfold q_X3_fillEnds_B16_b at hs
    refine lv_iload hx hb dX3_fillEnds_16 (lv_at hl 4 rfl) ?_
    refine lv_bipush (v := 6) hx hb dX3_fillEnds_18 (by decide) ?_
    refine lv_icmp_ge (tgt := 81) hx hb dX3_fillEnds_20 (by decide) (fun c4 => ?_) (fun c4 => ?_)
    · replace hs := (sp_ite hs).1 c4
      cases hs
      exact sv_vret hx hb hr hlk hW dX3_fillEnds_81
    · replace hs := (sp_ite hs).2 c4
      refine lv_aload_n hx hb dX3_fillEnds_23 rfl (lv_at hl 0 rfl) ?_
      refine sv_get (own := RX3) (C := RX3) (Tf := TX3) (N := 17) (index := 106) (κ := (0, 0)) (v := .int (σ.1 24 12)) hx hb hts hown hK hW (fun _ h => List.mem_cons_of_mem _ (List.mem_append_left _ (List.mem_append_left _ (List.mem_append_right _ h)))) (sx_i 24 hB (by decide)) (sx_c24 hB) rfl 12 (by decide) rfl rfl (List.mem_of_getElem? (i := 1) rfl) dX3_fillEnds_24 ?_
      refine lv_topi (fun v5 ev5 => ?_)
      replace hs := sp_let hs ev5
      refine lv_istore (lv' := [(5, .int v5), (0, .ref (h 24)), (1, .ref (h 1)), (2, .int x2), (3, .int x3), (4, .int x4)]) hx hb dX3_fillEnds_27 hl (by decide) rfl (fun ls hl => ?_)
      exact b_X3_fillEnds_29 hB F hr hlk _ ih sv_N x2 x3 x4 v5 σ H locs ls (lv_sub hl [1, 2, 3, 4, 5, 0] rfl) hW hs
set_option maxRecDepth 100000 in
set_option maxHeartbeats 4000000 in
theorem k_X3_fillEnds {qK qV : Nat → Nat} {l : Launch} {D : va_G} {T : Nat → ClassId} {h : Nat → Nat} {θ : sv_T} {a2 : Int32} {σ : sv_S} {r : Unit} {σ' : sv_S} (hB : sx_base θ)  (hs : q_X3_fillEnds θ a2 σ = some (r, σ')) : sv_Mv (sx_X qK qV) l D T (sx_tys T) h θ yX3_fillEnds wsX3_fillEnds (sv_rm 3 73) [.ref (h 24), .ref (h 1), .int a2] σ r σ' := by
  intro sz
  refine sv_enter (cc := cX3_fillEnds) (maxL := 6) (ret := none) (Qc := fun A => va_Qv (fun (_ : Unit) => True) (fun _ t => va_P D vwCl (sv_ws T h θ σ') t.heap) A) sx_XP (by decide) rfl (Nat.le_of_ble_eq_true rfl) ?_
  intro p e s m args below meth c A F hr hlk ls H hl hW
  have hx := F.1.1
  have hb := F.1.2.1
  have hts := F.1.2.2.2.2
  have hown := F.1.2.2.2.1
  have hK := F.2.1
  obtain ⟨locs, hlocs⟩ : ∃ z : List Loc, z = [] := ⟨_, rfl⟩
  rw [← hlocs] at hW ⊢
  have hl : lv_has ls 6 [(0, .ref (h 24)), (1, .ref (h 1)), (2, .int a2)] := hl
  unfold q_X3_fillEnds at hs
  refine lv_aload_n hx hb dX3_fillEnds_0 rfl (lv_at hl 0 rfl) ?_
  refine sv_get (own := RX3) (C := RX3) (Tf := TX3) (N := 17) (index := 106) (κ := (0, 0)) (v := .int (σ.1 24 12)) hx hb hts hown hK hW (fun _ h => List.mem_cons_of_mem _ (List.mem_append_left _ (List.mem_append_left _ (List.mem_append_right _ h)))) (sx_i 24 hB (by decide)) (sx_c24 hB) rfl 12 (by decide) rfl rfl (List.mem_of_getElem? (i := 1) rfl) dX3_fillEnds_1 ?_
  refine lv_aload_n hx hb dX3_fillEnds_4 rfl (lv_at hl 0 rfl) ?_
  refine sv_get (own := RX3) (C := RX3) (Tf := TX3) (N := 17) (index := 103) (κ := (0, 0)) (v := .int (σ.1 24 11)) hx hb hts hown hK hW (fun _ h => List.mem_cons_of_mem _ (List.mem_append_left _ (List.mem_append_left _ (List.mem_append_right _ h)))) (sx_i 24 hB (by decide)) (sx_c24 hB) rfl 11 (by decide) rfl rfl (List.mem_of_getElem? (i := 2) rfl) dX3_fillEnds_5 ?_
  obtain ⟨r1, σ2, eσ2, hs⟩ := sp_bind hs
  refine sv_goI (σ' := σ2) (r := r1) hW F.2.2.2.1 (sv_runT F hW (k_J6_bitCount_0f7a4 hB eσ2 H.size) gX3_fillEnds_J6_bitCount_0f7a4 rfl ⟨rfl, rfl⟩ 1 (by decide +kernel) (sv_room2 (by omega) (by omega)) rfl hl.1 rfl (Nat.le_of_ble_eq_true rfl) dX3_fillEnds_8 ⟨Nat.zero_le _, Nat.zero_le _⟩) (fun H locs hW => ?_)
  refine lv_iadd hx hb dX3_fillEnds_11 ?_
  refine lv_topi (fun v3 ev3 => ?_)
  replace hs := sp_let hs ev3
  refine lv_istore_n (lv' := [(3, .int v3), (0, .ref (h 24)), (1, .ref (h 1)), (2, .int a2)]) hx hb dX3_fillEnds_12 rfl hl (by decide) rfl (fun ls hl => ?_)
  refine lv_iconst (v := 0) hx hb dX3_fillEnds_13 (by decide) ?_
  refine lv_istore (lv' := [(4, .int (0 : Int32)), (3, .int v3), (0, .ref (h 24)), (1, .ref (h 1)), (2, .int a2)]) hx hb dX3_fillEnds_14 hl (by decide) rfl (fun ls hl => ?_)
  exact b_X3_fillEnds_16 hB F hr hlk sv_N a2 v3 (0 : Int32) σ2 H locs ls (lv_sub hl [2, 3, 4, 1, 0] rfl) hW hs
set_option maxRecDepth 100000 in
set_option maxHeartbeats 4000000 in
theorem b_X3_prepare_31 {qK qV : Nat → Nat} {p : Program} {l : Launch} {e : Env} {s : State} {m : MethodId} {args : Array Value} {below : List Frame} {meth : Method} {c : Code} {D : va_G} {T : Nat → ClassId} {A : Nat → Prop} {h : Nat → Nat} {θ : sv_T}  {r : Unit} {σ' : sv_S} (hB : sx_base θ)  (F : sv_F (sx_X qK qV) p m c cX3_prepare 3 s args wsX3_prepare RX3 D (sx_tys T) A) (hr : meth.sig.returnType = none) (hlk : meth.locks = false)  : ∀ (n : Nat), ∀ (x2 : Int32) (σ : sv_S) (H : Heap) (locs : List Loc) (ls : Array Slot), lv_has ls 3 [(0, .ref (h 24)), (1, .ref (h 1)), (2, .int x2)] → sv_W D T A s h θ σ H locs → q_X3_prepare_B31 θ  n x2 σ = some (r, σ') → W p l e (sv_rm 4 101) s m args below meth c H locs 0 0 (MQ below (va_Qv (fun (_ : Unit) => True) (fun _ t => va_P D vwCl (sv_ws T h θ σ') t.heap) A) args s 0 0 A) (F0 m 31 ls []) := by
  have hx := F.1.1
  have hb := F.1.2.1
  have hts := F.1.2.2.2.2
  have hown := F.1.2.2.2.1
  have hK := F.2.1
  intro n
  induction n with
  | zero =>
    intro x2 σ H locs ls hl hW hs
    have hs : (none : Option (Unit × sv_S)) = some (r, σ') := hs
    cases hs
  | succ n ih =>
    intro x2 σ H locs ls hl hW hs
    have hs : q_X3_prepare_B31_b θ  (q_X3_prepare_B31 θ  n) x2 σ = some (r, σ') := hs
    unfold q_X3_prepare_B31_b at hs
    refine lv_iload_n hx hb dX3_prepare_31 rfl (lv_at hl 2 rfl) ?_
    refine lv_bipush (v := 24) hx hb dX3_prepare_32 (by decide) ?_
    refine lv_icmp_ge (tgt := 53) hx hb dX3_prepare_34 (by decide) (fun c9 => ?_) (fun c9 => ?_)
    · replace hs := (sp_ite hs).1 c9
      refine lv_aload_n hx hb dX3_prepare_53 rfl (lv_at hl 0 rfl) ?_
      refine lv_aload_n hx hb dX3_prepare_54 rfl (lv_at hl 1 rfl) ?_
      refine lv_aload_n hx hb dX3_prepare_55 rfl (lv_at hl 0 rfl) ?_
      refine sv_get (own := RX3) (C := RX3) (Tf := TX3) (N := 17) (index := 103) (κ := (0, 0)) (v := .int (σ.1 24 11)) hx hb hts hown hK hW (fun _ h => List.mem_cons_of_mem _ (List.mem_append_left _ (List.mem_append_left _ (List.mem_append_right _ h)))) (sx_i 24 hB (by decide)) (sx_c24 hB) rfl 11 (by decide) rfl rfl (List.mem_of_getElem? (i := 2) rfl) dX3_prepare_56 ?_
      obtain ⟨r10, σ11, eσ11, hs⟩ := sp_bind hs
      refine sv_goV (σ' := σ11) (r := r10) hW F.2.2.2.1 (sv_runV (C := RX3) F hW (k_X3_fillEnds hB eσ11 H.size) gX3_prepare_X3_fillEnds rfl ⟨rfl, rfl⟩ 2 (by decide +kernel) (sv_room2 (by omega) (by omega)) (sx_i 24 hB (by decide)) (sx_c24 hB) rfl rfl hl.1 rfl (Nat.le_of_ble_eq_true rfl) dX3_prepare_59 ⟨Nat.zero_le _, Nat.zero_le _⟩) (fun H locs hW => ?_)
      cases hs
      exact sv_vret hx hb hr hlk hW dX3_prepare_62
    · replace hs := (sp_ite hs).2 c9
      refine lv_aload_n hx hb dX3_prepare_37 rfl (lv_at hl 0 rfl) ?_
      refine lv_aload_n hx hb dX3_prepare_38 rfl (lv_at hl 1 rfl) ?_
      refine lv_aload_n hx hb dX3_prepare_39 rfl (lv_at hl 0 rfl) ?_
      refine sv_get (own := RX3) (C := RX3) (Tf := TX3) (N := 17) (index := 103) (κ := (0, 0)) (v := .int (σ.1 24 11)) hx hb hts hown hK hW (fun _ h => List.mem_cons_of_mem _ (List.mem_append_left _ (List.mem_append_left _ (List.mem_append_right _ h)))) (sx_i 24 hB (by decide)) (sx_c24 hB) rfl 11 (by decide) rfl rfl (List.mem_of_getElem? (i := 2) rfl) dX3_prepare_40 ?_
      refine lv_iload_n hx hb dX3_prepare_43 rfl (lv_at hl 2 rfl) ?_
      obtain ⟨r12, σ13, eσ13, hs⟩ := sp_bind hs
      refine sv_goV (σ' := σ13) (r := r12) hW F.2.2.2.1 (sv_runV (C := RX3) F hW (k_X3_learn hB eσ13 H.size) gX3_prepare_X3_learn rfl ⟨rfl, rfl⟩ 3 (by decide +kernel) (sv_room2 (by omega) (by omega)) (sx_i 24 hB (by decide)) (sx_c24 hB) rfl rfl hl.1 rfl (Nat.le_of_ble_eq_true rfl) dX3_prepare_44 ⟨Nat.zero_le _, Nat.zero_le _⟩) (fun H locs hW => ?_)
      obtain ⟨v14, ev14⟩ : ∃ y : Int32, y = x2 + 1 := ⟨_, rfl⟩
      replace hs := sp_let hs ev14
      refine lv_iinc (v := v14) (lv' := [(2, .int v14), (0, .ref (h 24)), (1, .ref (h 1))]) hx hb dX3_prepare_47 hl (k := 2) rfl (by rw [ev14]; rfl) (by decide) rfl (fun ls hl => ?_)
      refine lv_goto (tgt := 31) hx hb dX3_prepare_50 (by decide) ?_
      exact ih v14 σ13 H locs ls (lv_sub hl [1, 2, 0] rfl) hW hs
set_option maxRecDepth 100000 in
set_option maxHeartbeats 4000000 in
theorem k_X3_prepare {qK qV : Nat → Nat} {l : Launch} {D : va_G} {T : Nat → ClassId} {h : Nat → Nat} {θ : sv_T}  {σ : sv_S} {r : Unit} {σ' : sv_S} (hB : sx_base θ)  (hs : q_X3_prepare θ  σ = some (r, σ')) : sv_Mv (sx_X qK qV) l D T (sx_tys T) h θ yX3_prepare wsX3_prepare (sv_rm 4 101) [.ref (h 24), .ref (h 1)] σ r σ' := by
  intro sz
  refine sv_enter (cc := cX3_prepare) (maxL := 3) (ret := none) (Qc := fun A => va_Qv (fun (_ : Unit) => True) (fun _ t => va_P D vwCl (sv_ws T h θ σ') t.heap) A) sx_XP (by decide) rfl (Nat.le_of_ble_eq_true rfl) ?_
  intro p e s m args below meth c A F hr hlk ls H hl hW
  have hx := F.1.1
  have hb := F.1.2.1
  have hts := F.1.2.2.2.2
  have hown := F.1.2.2.2.1
  have hK := F.2.1
  obtain ⟨locs, hlocs⟩ : ∃ z : List Loc, z = [] := ⟨_, rfl⟩
  rw [← hlocs] at hW ⊢
  have hl : lv_has ls 3 [(0, .ref (h 24)), (1, .ref (h 1))] := hl
  unfold q_X3_prepare at hs
  refine lv_aload_n hx hb dX3_prepare_0 rfl (lv_at hl 1 rfl) ?_
  refine lv_ifnonnull (tgt := 5) hx hb dX3_prepare_1 (by decide) ?_
  refine lv_aload_n hx hb dX3_prepare_5 rfl (lv_at hl 0 rfl) ?_
  refine lv_aload_n hx hb dX3_prepare_6 rfl (lv_at hl 1 rfl) ?_
  refine sv_get (own := RX3) (C := RX2) (Tf := TX2) (N := 8) (index := 98) (κ := (3, 1)) (v := .ref (h 2)) hx hb hts hown hK hW (fun _ h => List.mem_cons_of_mem _ (List.mem_append_left _ (List.mem_append_left _ (List.mem_append_left _ (List.mem_append_right _ h))))) (sx_i 1 hB (by decide)) (sx_c1 hB) rfl 0 (by decide) rfl rfl (List.mem_of_getElem? (i := 1) rfl) dX3_prepare_7 ?_
  obtain ⟨r1, σ2, eσ2, hs⟩ := sp_bind hs
  refine sv_goV (σ' := σ2) (r := r1) hW F.2.2.2.1 (sv_runV (C := RX3) F hW (k_X3_useRain hB (sv_oA_of (sx_i 2 hB (by decide)) (sx_c2 hB)) eσ2 H.size) gX3_prepare_X3_useRain rfl ⟨rfl, rfl⟩ 1 (by decide +kernel) (sv_room2 (by omega) (by omega)) (sx_i 24 hB (by decide)) (sx_c24 hB) rfl rfl hl.1 rfl (Nat.le_of_ble_eq_true rfl) dX3_prepare_10 ⟨Nat.zero_le _, Nat.zero_le _⟩) (fun H locs hW => ?_)
  refine lv_aload_n hx hb dX3_prepare_13 rfl (lv_at hl 0 rfl) ?_
  refine lv_aload_n hx hb dX3_prepare_14 rfl (lv_at hl 1 rfl) ?_
  obtain ⟨r3, σ4, eσ4, hs⟩ := sp_bind hs
  refine sv_goI (σ' := σ4) (r := r3) hW F.2.2.2.1 (sv_runV (C := RX2) F hW (k_X2_unshaken hB eσ4 H.size) gX3_prepare_X2_unshaken rfl ⟨rfl, rfl⟩ 0 (by decide +kernel) (sv_room2 (by omega) (by omega)) (sx_i 1 hB (by decide)) (sx_c1 hB) rfl rfl hl.1 rfl (Nat.le_of_ble_eq_true rfl) dX3_prepare_15 ⟨Nat.zero_le _, Nat.zero_le _⟩) (fun H locs hW => ?_)
  refine sv_putI (own := RX3) (C := RX3) (Tf := TX3) (N := 17) (index := 103) hx hb hts hown hK hW (fun _ h => List.mem_cons_of_mem _ (List.mem_append_left _ (List.mem_append_left _ (List.mem_append_right _ h)))) tyX3 tyX3_ok nmX3 (sx_i 24 hB (by decide)) (sx_c24 hB) rfl 11 (by decide) rfl rfl (ty := .int) (by decide +kernel) rfl rfl (List.mem_of_getElem? (i := 2) rfl) dX3_prepare_18 (fun σ5 H locs eσ5 hW => ?_)
  replace hs := sp_let hs eσ5
  refine lv_aload_n hx hb dX3_prepare_21 rfl (lv_at hl 0 rfl) ?_
  refine lv_aload_n hx hb dX3_prepare_22 rfl (lv_at hl 1 rfl) ?_
  obtain ⟨r6, σ7, eσ7, hs⟩ := sp_bind hs
  refine sv_goI (σ' := σ7) (r := r6) hW F.2.2.2.1 (sv_runV (C := RX2) F hW (k_X2_shakenCount hB eσ7 H.size) gX3_prepare_X2_shakenCount rfl ⟨rfl, rfl⟩ 0 (by decide +kernel) (sv_room2 (by omega) (by omega)) (sx_i 1 hB (by decide)) (sx_c1 hB) rfl rfl hl.1 rfl (Nat.le_of_ble_eq_true rfl) dX3_prepare_23 ⟨Nat.zero_le _, Nat.zero_le _⟩) (fun H locs hW => ?_)
  refine sv_putI (own := RX3) (C := RX3) (Tf := TX3) (N := 17) (index := 106) hx hb hts hown hK hW (fun _ h => List.mem_cons_of_mem _ (List.mem_append_left _ (List.mem_append_left _ (List.mem_append_right _ h)))) tyX3 tyX3_ok nmX3 (sx_i 24 hB (by decide)) (sx_c24 hB) rfl 12 (by decide) rfl rfl (ty := .int) (by decide +kernel) rfl rfl (List.mem_of_getElem? (i := 3) rfl) dX3_prepare_26 (fun σ8 H locs eσ8 hW => ?_)
  replace hs := sp_let hs eσ8
  refine lv_iconst (v := 0) hx hb dX3_prepare_29 (by decide) ?_
  refine lv_istore_n (lv' := [(2, .int (0 : Int32)), (0, .ref (h 24)), (1, .ref (h 1))]) hx hb dX3_prepare_30 rfl hl (by decide) rfl (fun ls hl => ?_)
  exact b_X3_prepare_31 hB F hr hlk sv_N (0 : Int32) σ8 H locs ls (lv_sub hl [1, 2, 0] rfl) hW hs
set_option maxRecDepth 100000 in
set_option maxHeartbeats 4000000 in
theorem b_X3_walk_35 {qK qV : Nat → Nat} {p : Program} {l : Launch} {e : Env} {s : State} {m : MethodId} {args : Array Value} {below : List Frame} {meth : Method} {c : Code} {D : va_G} {T : Nat → ClassId} {A : Nat → Prop} {h : Nat → Nat} {θ : sv_T} {a1 : Int32} {a2 : Int32} {a3 : Int32} {a4 : Int32} {a5 : Int32} {a6 : Int32} {r : Unit} {σ' : sv_S} (hB : sx_base θ) (G : Nat → sv_T → Int32 → Int32 → Int32 → Int32 → Int32 → Int32 → sv_S → Option (Unit × sv_S)) (fr lr : Nat) (hf : 20 ≤ fr) (hlr : 800 ≤ lr) (hG0 : ∀ (a1 : Int32) (a2 : Int32) (a3 : Int32) (a4 : Int32) (a5 : Int32) (a6 : Int32) (σ : sv_S) (r : Unit) (σ1 : sv_S), G 0 θ a1 a2 a3 a4 a5 a6 σ = some (r, σ1) → sv_Mv (sx_X qK qV) l D T (sx_tys T) h θ yX3_walk wsX3_walk (sv_rm fr lr) [.ref (h 24), .int a1, .int a2, .int a3, .int a4, .int a5, .int a6] σ r σ1)  (F : sv_F (sx_X qK qV) p m c cX3_walk 12 s args wsX3_walk RX3 D (sx_tys T) A) (hr : meth.sig.returnType = none) (hlk : meth.locks = false)  : ∀ (n : Nat), ∀ (x1 : Int32) (x2 : Int32) (x3 : Int32) (x4 : Int32) (x5 : Int32) (x6 : Int32) (x7 : Int32) (σ : sv_S) (H : Heap) (locs : List Loc) (ls : Array Slot), lv_has ls 12 [(0, .ref (h 24)), (1, .int x1), (2, .int x2), (3, .int x3), (4, .int x4), (5, .int x5), (6, .int x6), (7, .int x7)] → sv_W D T A s h θ σ H locs → q_X3_walk_B35 θ G a1 a2 a3 a4 a5 a6 n x1 x2 x3 x4 x5 x6 x7 σ = some (r, σ') → W p l e (sv_rm (fr + 1) (lr + 40)) s m args below meth c H locs 0 0 (MQ below (va_Qv (fun (_ : Unit) => True) (fun _ t => va_P D vwCl (sv_ws T h θ σ') t.heap) A) args s 0 0 A) (F0 m 35 ls []) := by
  have hx := F.1.1
  have hb := F.1.2.1
  have hts := F.1.2.2.2.2
  have hown := F.1.2.2.2.1
  have hK := F.2.1
  intro n
  induction n with
  | zero =>
    intro x1 x2 x3 x4 x5 x6 x7 σ H locs ls hl hW hs
    have hs : (none : Option (Unit × sv_S)) = some (r, σ') := hs
    cases hs
  | succ n ih =>
    intro x1 x2 x3 x4 x5 x6 x7 σ H locs ls hl hW hs
    have hs : q_X3_walk_B35_b θ G a1 a2 a3 a4 a5 a6 (q_X3_walk_B35 θ G a1 a2 a3 a4 a5 a6 n) x1 x2 x3 x4 x5 x6 x7 σ = some (r, σ') := hs
    unfold q_X3_walk_B35_b at hs
    refine lv_iload hx hb dX3_walk_35 (lv_at hl 7 rfl) ?_
    refine lv_bipush (v := 6) hx hb dX3_walk_37 (by decide) ?_
    refine lv_icmp_ge (tgt := 175) hx hb dX3_walk_39 (by decide) (fun c4 => ?_) (fun c4 => ?_)
    · replace hs := (sp_ite hs).1 c4
      cases hs
      exact sv_vret hx hb hr hlk hW dX3_walk_175
    · replace hs := (sp_ite hs).2 c4
      refine lv_iload_n hx hb dX3_walk_42 rfl (lv_at hl 1 rfl) ?_
      refine lv_iload hx hb dX3_walk_43 (lv_at hl 7 rfl) ?_
      obtain ⟨r5, σ6, eσ6, hs⟩ := sp_bind hs
      refine sv_goI (σ' := σ6) (r := r5) hW F.2.2.2.1 (sv_runN (own := RX3) (host := "OpenWhileItRains") F hW (k_X7_hasBit hB eσ6 H.size) gX3_walk_X7_hasBit_n90 rfl ⟨rfl, rfl⟩ (F.2.2.1.1 _ (List.mem_of_getElem? (i := 17) rfl)) (List.mem_of_getElem? (i := 7) rfl) (List.mem_of_getElem? (i := 6) rfl) 2 (by decide +kernel) (sv_room2 (by omega) (by omega)) rfl hl.1 rfl (Nat.le_of_ble_eq_true rfl) dX3_walk_45 ⟨Nat.zero_le _, Nat.zero_le _⟩) (fun H locs hW => ?_)
      refine lv_if_eq (tgt := 169) hx hb dX3_walk_48 (by decide) (fun c7 => ?_) (fun c7 => ?_)
      · replace hs := (sp_ite hs).1 c7
        obtain ⟨v8, ev8⟩ : ∃ y : Int32, y = x7 + 1 := ⟨_, rfl⟩
        replace hs := sp_let hs ev8
        refine lv_iinc (v := v8) (lv' := [(7, .int v8), (0, .ref (h 24)), (1, .int x1), (2, .int x2), (3, .int x3), (4, .int x4), (5, .int x5), (6, .int x6)]) hx hb dX3_walk_169 hl (k := 7) rfl (by rw [ev8]; rfl) (by decide) rfl (fun ls hl => ?_)
        refine lv_goto (tgt := 35) hx hb dX3_walk_172 (by decide) ?_
        exact ih x1 x2 x3 x4 x5 x6 v8 σ6 H locs ls (lv_sub hl [1, 2, 3, 4, 5, 6, 7, 0] rfl) hW hs
      · replace hs := (sp_ite hs).2 c7
        refine lv_iload_n hx hb dX3_walk_51 rfl (lv_at hl 1 rfl) ?_
        refine lv_iconst (v := 1) hx hb dX3_walk_52 (by decide) ?_
        refine lv_iload hx hb dX3_walk_53 (lv_at hl 7 rfl) ?_
        refine lv_ishl hx hb dX3_walk_55 ?_
        refine lv_iconst (v := -1) hx hb dX3_walk_56 (by decide) ?_
        refine lv_ixor hx hb dX3_walk_57 ?_
        refine lv_iand hx hb dX3_walk_58 ?_
        refine lv_topi (fun v9 ev9 => ?_)
        replace hs := sp_let hs ev9
        refine lv_istore (lv' := [(8, .int v9), (0, .ref (h 24)), (1, .int x1), (2, .int x2), (3, .int x3), (4, .int x4), (5, .int x5), (6, .int x6), (7, .int x7)]) hx hb dX3_walk_59 hl (by decide) rfl (fun ls hl => ?_)
        refine lv_iload hx hb dX3_walk_61 (lv_at hl 7 rfl) ?_
        refine lv_bipush (v := 10) hx hb dX3_walk_63 (by decide) ?_
        refine lv_imul hx hb dX3_walk_65 ?_
        refine lv_iload hx hb dX3_walk_66 (lv_at hl 8 rfl) ?_
        refine lv_iadd hx hb dX3_walk_68 ?_
        refine lv_iconst (v := 1) hx hb dX3_walk_69 (by decide) ?_
        refine lv_iadd hx hb dX3_walk_70 ?_
        refine lv_topi (fun v10 ev10 => ?_)
        replace hs := sp_let hs ev10
        refine lv_istore (lv' := [(9, .int v10), (8, .int v9), (0, .ref (h 24)), (1, .int x1), (2, .int x2), (3, .int x3), (4, .int x4), (5, .int x5), (6, .int x6), (7, .int x7)]) hx hb dX3_walk_71 hl (by decide) rfl (fun ls hl => ?_)
        refine lv_aload_n hx hb dX3_walk_73 rfl (lv_at hl 2 rfl) ?_
        refine sv_get (own := RX3) (C := RX3) (Tf := TX3) (N := 17) (index := 34) (κ := (3, 8)) (v := .ref (h 32)) hx hb hts hown hK hW (fun _ h => List.mem_cons_of_mem _ (List.mem_append_right _ h)) (sx_i 24 hB (by decide)) (sx_c24 hB) rfl 10 (by decide) rfl rfl (List.mem_of_getElem? (i := 3) rfl) dX3_walk_74 ?_
        refine lv_aload_n hx hb dX3_walk_77 rfl (lv_at hl 2 rfl) ?_
        refine lv_iload hx hb dX3_walk_78 (lv_at hl 9 rfl) ?_
        refine lv_aload_n hx hb dX3_walk_80 rfl (lv_at hl 2 rfl) ?_
        refine sv_get (own := RX3) (C := RX3) (Tf := TX3) (N := 17) (index := 106) (κ := (0, 0)) (v := .int (σ6.1 24 12)) hx hb hts hown hK hW (fun _ h => List.mem_cons_of_mem _ (List.mem_append_right _ h)) (sx_i 24 hB (by decide)) (sx_c24 hB) rfl 12 (by decide) rfl rfl (List.mem_of_getElem? (i := 4) rfl) dX3_walk_81 ?_
        refine lv_iload hx hb dX3_walk_84 (lv_at hl 6 rfl) ?_
        refine lv_iadd hx hb dX3_walk_86 ?_
        refine lv_iload_n hx hb dX3_walk_87 rfl (lv_at hl 5 rfl) ?_
        refine lv_iconst (v := 1) hx hb dX3_walk_88 (by decide) ?_
        refine lv_iadd hx hb dX3_walk_89 ?_
        obtain ⟨r11, σ12, eσ12, hs⟩ := sp_bind hs
        refine sv_goI (σ' := σ12) (r := r11) hW F.2.2.2.1 (sv_runV (C := RX3) F hW (k_X3_entry hB eσ12 H.size) gX3_walk_X3_entry rfl ⟨rfl, rfl⟩ 3 (by decide +kernel) (sv_room2 (by omega) (by omega)) (sx_i 24 hB (by decide)) (sx_c24 hB) rfl rfl hl.1 rfl (Nat.le_of_ble_eq_true rfl) dX3_walk_90 ⟨Nat.zero_le _, Nat.zero_le _⟩) (fun H locs hW => ?_)
        obtain ⟨r13, σ14, eσ14, hs⟩ := sp_bind hs
        refine sv_goI (σ' := σ14) (r := r13) hW F.2.2.2.1 (sv_runN (own := RX3) (host := "OpenWhileItRains") F hW (k_X7_at hB (sv_oA_of (sx_i 32 hB (by decide)) (sx_c32 hB)) eσ14 H.size) gX3_walk_X7_at_n63 rfl ⟨rfl, rfl⟩ (F.2.2.1.1 _ (List.mem_of_getElem? (i := 16) rfl)) (List.mem_of_getElem? (i := 7) rfl) (List.mem_of_getElem? (i := 14) rfl) 2 (by decide +kernel) (sv_room2 (by omega) (by omega)) rfl hl.1 rfl (Nat.le_of_ble_eq_true rfl) dX3_walk_93 ⟨Nat.zero_le _, Nat.zero_le _⟩) (fun H locs hW => ?_)
        refine lv_istore (lv' := [(10, .int r13), (9, .int v10), (8, .int v9), (0, .ref (h 24)), (1, .int x1), (2, .int x2), (3, .int x3), (4, .int x4), (5, .int x5), (6, .int x6), (7, .int x7)]) hx hb dX3_walk_96 hl (by decide) rfl (fun ls hl => ?_)
        refine lv_iload hx hb dX3_walk_98 (lv_at hl 0 rfl) ?_
        refine lv_iconst (v := -1) hx hb dX3_walk_100 (by decide) ?_
        refine lv_icmp_ne (tgt := 123) hx hb dX3_walk_101 (by decide) (fun c15 => ?_) (fun c15 => ?_)
        · replace hs := (sp_ite hs).2 c15
          refine lv_aload_n hx hb dX3_walk_123 rfl (lv_at hl 3 rfl) ?_
          refine sv_get (own := RX3) (C := RX3) (Tf := TX3) (N := 17) (index := 31) (κ := (3, 7)) (v := .ref (h 31)) hx hb hts hown hK hW (fun _ h => List.mem_cons_of_mem _ (List.mem_append_right _ h)) (sx_i 24 hB (by decide)) (sx_c24 hB) rfl 9 (by decide) rfl rfl (List.mem_of_getElem? (i := 5) rfl) dX3_walk_124 ?_
          refine lv_aload_n hx hb dX3_walk_127 rfl (lv_at hl 3 rfl) ?_
          refine lv_iload hx hb dX3_walk_128 (lv_at hl 10 rfl) ?_
          refine lv_aload_n hx hb dX3_walk_130 rfl (lv_at hl 3 rfl) ?_
          refine sv_get (own := RX3) (C := RX3) (Tf := TX3) (N := 17) (index := 106) (κ := (0, 0)) (v := .int (σ14.1 24 12)) hx hb hts hown hK hW (fun _ h => List.mem_cons_of_mem _ (List.mem_append_right _ h)) (sx_i 24 hB (by decide)) (sx_c24 hB) rfl 12 (by decide) rfl rfl (List.mem_of_getElem? (i := 4) rfl) dX3_walk_131 ?_
          refine lv_iload hx hb dX3_walk_134 (lv_at hl 7 rfl) ?_
          refine lv_iadd hx hb dX3_walk_136 ?_
          refine lv_iload hx hb dX3_walk_137 (lv_at hl 0 rfl) ?_
          obtain ⟨r16, σ17, eσ17, hs⟩ := sp_bind hs
          refine sv_goI (σ' := σ17) (r := r16) hW F.2.2.2.1 (sv_runV (C := RX3) F hW (k_X3_entry hB eσ17 H.size) gX3_walk_X3_entry rfl ⟨rfl, rfl⟩ 3 (by decide +kernel) (sv_room2 (by omega) (by omega)) (sx_i 24 hB (by decide)) (sx_c24 hB) rfl rfl hl.1 rfl (Nat.le_of_ble_eq_true rfl) dX3_walk_139 ⟨Nat.zero_le _, Nat.zero_le _⟩) (fun H locs hW => ?_)
          obtain ⟨r18, σ19, eσ19, hs⟩ := sp_bind hs
          refine sv_goI (σ' := σ19) (r := r18) hW F.2.2.2.1 (sv_runN (own := RX3) (host := "OpenWhileItRains") F hW (k_X7_at hB (sv_oA_of (sx_i 31 hB (by decide)) (sx_c31 hB)) eσ19 H.size) gX3_walk_X7_at_n63 rfl ⟨rfl, rfl⟩ (F.2.2.1.1 _ (List.mem_of_getElem? (i := 16) rfl)) (List.mem_of_getElem? (i := 7) rfl) (List.mem_of_getElem? (i := 14) rfl) 2 (by decide +kernel) (sv_room2 (by omega) (by omega)) rfl hl.1 rfl (Nat.le_of_ble_eq_true rfl) dX3_walk_142 ⟨Nat.zero_le _, Nat.zero_le _⟩) (fun H locs hW => ?_)
          refine lv_istore (lv' := [(11, .int r18), (10, .int r13), (9, .int v10), (8, .int v9), (0, .ref (h 24)), (1, .int x1), (2, .int x2), (3, .int x3), (4, .int x4), (5, .int x5), (6, .int x6), (7, .int x7)]) hx hb dX3_walk_145 hl (by decide) rfl (fun ls hl => ?_)
          refine lv_aload_n hx hb dX3_walk_147 rfl (lv_at hl 4 rfl) ?_
          refine lv_iload hx hb dX3_walk_148 (lv_at hl 3 rfl) ?_
          refine lv_iload_n hx hb dX3_walk_150 rfl (lv_at hl 6 rfl) ?_
          refine lv_iconst (v := 1) hx hb dX3_walk_151 (by decide) ?_
          refine lv_isub hx hb dX3_walk_152 ?_
          refine lv_iload hx hb dX3_walk_153 (lv_at hl 1 rfl) ?_
          refine lv_iload hx hb dX3_walk_155 (lv_at hl 8 rfl) ?_
          refine lv_iconst (v := 1) hx hb dX3_walk_157 (by decide) ?_
          refine lv_iadd hx hb dX3_walk_158 ?_
          refine lv_iload hx hb dX3_walk_159 (lv_at hl 9 rfl) ?_
          refine lv_iload hx hb dX3_walk_161 (lv_at hl 0 rfl) ?_
          refine lv_iadd hx hb dX3_walk_163 ?_
          refine lv_iload hx hb dX3_walk_164 (lv_at hl 2 rfl) ?_
          obtain ⟨r20, σ21, eσ21, hs⟩ := sp_bind hs
          refine sv_goV (σ' := σ21) (r := r20) hW F.2.2.2.1 (sv_runV (C := RX3) F hW (hG0 v9 (x2 - (1 : Int32)) r13 (x4 + (1 : Int32)) (x5 + r18) v10 _ _ _ eσ21 H.size) gX3_walk_X3_walk rfl ⟨rfl, rfl⟩ 6 (by decide +kernel) (sv_room2 (by omega) (by omega)) (sx_i 24 hB (by decide)) (sx_c24 hB) rfl rfl hl.1 rfl (Nat.le_of_ble_eq_true rfl) dX3_walk_166 ⟨Nat.zero_le _, Nat.zero_le _⟩) (fun H locs hW => ?_)
          obtain ⟨v22, ev22⟩ : ∃ y : Int32, y = x7 + 1 := ⟨_, rfl⟩
          replace hs := sp_let hs ev22
          refine lv_iinc (v := v22) (lv' := [(7, .int v22), (11, .int r18), (10, .int r13), (9, .int v10), (8, .int v9), (0, .ref (h 24)), (1, .int x1), (2, .int x2), (3, .int x3), (4, .int x4), (5, .int x5), (6, .int x6)]) hx hb dX3_walk_169 hl (k := 11) rfl (by rw [ev22]; rfl) (by decide) rfl (fun ls hl => ?_)
          refine lv_goto (tgt := 35) hx hb dX3_walk_172 (by decide) ?_
          exact ih x1 x2 x3 x4 x5 x6 v22 σ21 H locs ls (lv_sub hl [5, 6, 7, 8, 9, 10, 11, 0] rfl) hW hs
        · replace hs := (sp_ite hs).1 c15
          refine lv_aload_n hx hb dX3_walk_104 rfl (lv_at hl 3 rfl) ?_
          refine lv_iload hx hb dX3_walk_105 (lv_at hl 2 rfl) ?_
          refine lv_iload_n hx hb dX3_walk_107 rfl (lv_at hl 5 rfl) ?_
          refine lv_iconst (v := 1) hx hb dX3_walk_108 (by decide) ?_
          refine lv_isub hx hb dX3_walk_109 ?_
          refine lv_iload_n hx hb dX3_walk_110 rfl (lv_at hl 6 rfl) ?_
          refine lv_iload hx hb dX3_walk_111 (lv_at hl 7 rfl) ?_
          refine lv_iload hx hb dX3_walk_113 (lv_at hl 8 rfl) ?_
          refine lv_iload hx hb dX3_walk_115 (lv_at hl 1 rfl) ?_
          obtain ⟨r23, σ24, eσ24, hs⟩ := sp_bind hs
          refine sv_goV (σ' := σ24) (r := r23) hW F.2.2.2.1 (sv_runV (C := RX3) F hW (hG0 v9 (x2 - (1 : Int32)) x3 x4 x5 v10 _ _ _ eσ24 H.size) gX3_walk_X3_walk rfl ⟨rfl, rfl⟩ 6 (by decide +kernel) (sv_room2 (by omega) (by omega)) (sx_i 24 hB (by decide)) (sx_c24 hB) rfl rfl hl.1 rfl (Nat.le_of_ble_eq_true rfl) dX3_walk_117 ⟨Nat.zero_le _, Nat.zero_le _⟩) (fun H locs hW => ?_)
          refine lv_goto (tgt := 169) hx hb dX3_walk_120 (by decide) ?_
          obtain ⟨v25, ev25⟩ : ∃ y : Int32, y = x7 + 1 := ⟨_, rfl⟩
          replace hs := sp_let hs ev25
          refine lv_iinc (v := v25) (lv' := [(7, .int v25), (10, .int r13), (9, .int v10), (8, .int v9), (0, .ref (h 24)), (1, .int x1), (2, .int x2), (3, .int x3), (4, .int x4), (5, .int x5), (6, .int x6)]) hx hb dX3_walk_169 hl (k := 10) rfl (by rw [ev25]; rfl) (by decide) rfl (fun ls hl => ?_)
          refine lv_goto (tgt := 35) hx hb dX3_walk_172 (by decide) ?_
          exact ih x1 x2 x3 x4 x5 x6 v25 σ24 H locs ls (lv_sub hl [4, 5, 6, 7, 8, 9, 10, 0] rfl) hW hs
set_option maxRecDepth 100000 in
set_option maxHeartbeats 4000000 in
theorem k_X3_walk_b {qK qV : Nat → Nat} {l : Launch} {D : va_G} {T : Nat → ClassId} {h : Nat → Nat} {θ : sv_T} {a1 : Int32} {a2 : Int32} {a3 : Int32} {a4 : Int32} {a5 : Int32} {a6 : Int32} {σ : sv_S} {r : Unit} {σ' : sv_S} (hB : sx_base θ) (G : Nat → sv_T → Int32 → Int32 → Int32 → Int32 → Int32 → Int32 → sv_S → Option (Unit × sv_S)) (fr lr : Nat) (hf : 20 ≤ fr) (hlr : 800 ≤ lr) (hG0 : ∀ (a1 : Int32) (a2 : Int32) (a3 : Int32) (a4 : Int32) (a5 : Int32) (a6 : Int32) (σ : sv_S) (r : Unit) (σ1 : sv_S), G 0 θ a1 a2 a3 a4 a5 a6 σ = some (r, σ1) → sv_Mv (sx_X qK qV) l D T (sx_tys T) h θ yX3_walk wsX3_walk (sv_rm fr lr) [.ref (h 24), .int a1, .int a2, .int a3, .int a4, .int a5, .int a6] σ r σ1)  (hs : q_X3_walk_b θ G a1 a2 a3 a4 a5 a6 σ = some (r, σ')) : sv_Mv (sx_X qK qV) l D T (sx_tys T) h θ yX3_walk wsX3_walk (sv_rm (fr + 1) (lr + 40)) [.ref (h 24), .int a1, .int a2, .int a3, .int a4, .int a5, .int a6] σ r σ' := by
  intro sz
  refine sv_enter (cc := cX3_walk) (maxL := 12) (ret := none) (Qc := fun A => va_Qv (fun (_ : Unit) => True) (fun _ t => va_P D vwCl (sv_ws T h θ σ') t.heap) A) sx_XP (by decide) rfl (Nat.le_of_ble_eq_true rfl) ?_
  intro p e s m args below meth c A F hr hlk ls H hl hW
  have hx := F.1.1
  have hb := F.1.2.1
  have hts := F.1.2.2.2.2
  have hown := F.1.2.2.2.1
  have hK := F.2.1
  obtain ⟨locs, hlocs⟩ : ∃ z : List Loc, z = [] := ⟨_, rfl⟩
  rw [← hlocs] at hW ⊢
  have hl : lv_has ls 12 [(0, .ref (h 24)), (1, .int a1), (2, .int a2), (3, .int a3), (4, .int a4), (5, .int a5), (6, .int a6)] := hl
  unfold q_X3_walk_b at hs
  refine lv_iload hx hb dX3_walk_0 (lv_at hl 5 rfl) ?_
  refine lv_aload_n hx hb dX3_walk_2 rfl (lv_at hl 0 rfl) ?_
  refine sv_get (own := RX3) (C := RX3) (Tf := TX3) (N := 17) (index := 116) (κ := (0, 0)) (v := .int (σ.1 24 13)) hx hb hts hown hK hW (fun _ h => List.mem_cons_of_mem _ (List.mem_append_right _ h)) (sx_i 24 hB (by decide)) (sx_c24 hB) rfl 13 (by decide) rfl rfl (List.mem_of_getElem? (i := 1) rfl) dX3_walk_3 ?_
  refine lv_icmp_le (tgt := 21) hx hb dX3_walk_6 (by decide) (fun c1 => ?_) (fun c1 => ?_)
  · replace hs := (sp_ite hs).1 c1
    refine lv_iload_n hx hb dX3_walk_21 rfl (lv_at hl 2 rfl) ?_
    refine lv_if_le (tgt := 31) hx hb dX3_walk_22 (by decide) (fun c2 => ?_) (fun c2 => ?_)
    · replace hs := (sp_ite hs).1 c2
      cases hs
      exact sv_vret hx hb hr hlk hW dX3_walk_31
    · replace hs := (sp_ite hs).2 c2
      refine lv_iload_n hx hb dX3_walk_25 rfl (lv_at hl 3 rfl) ?_
      refine lv_bipush (v := 23) hx hb dX3_walk_26 (by decide) ?_
      refine lv_icmp_lt (tgt := 32) hx hb dX3_walk_28 (by decide) (fun c3 => ?_) (fun c3 => ?_)
      · replace hs := (sp_ite hs).1 c3
        refine lv_iconst (v := 0) hx hb dX3_walk_32 (by decide) ?_
        refine lv_istore (lv' := [(7, .int (0 : Int32)), (0, .ref (h 24)), (1, .int a1), (2, .int a2), (3, .int a3), (4, .int a4), (5, .int a5), (6, .int a6)]) hx hb dX3_walk_33 hl (by decide) rfl (fun ls hl => ?_)
        exact b_X3_walk_35 hB G fr lr hf hlr hG0 F hr hlk sv_N a1 a2 a3 a4 a5 a6 (0 : Int32) σ H locs ls (lv_sub hl [1, 2, 3, 4, 5, 6, 7, 0] rfl) hW hs
      · replace hs := (sp_ite hs).2 c3
        cases hs
        exact sv_vret hx hb hr hlk hW dX3_walk_31
  · replace hs := (sp_ite hs).2 c1
    refine lv_aload_n hx hb dX3_walk_9 rfl (lv_at hl 0 rfl) ?_
    refine lv_iload hx hb dX3_walk_10 (lv_at hl 5 rfl) ?_
    refine sv_putI (own := RX3) (C := RX3) (Tf := TX3) (N := 17) (index := 116) hx hb hts hown hK hW (fun _ h => List.mem_cons_of_mem _ (List.mem_append_right _ h)) tyX3 tyX3_ok nmX3 (sx_i 24 hB (by decide)) (sx_c24 hB) rfl 13 (by decide) rfl rfl (ty := .int) (by decide +kernel) rfl rfl (List.mem_of_getElem? (i := 1) rfl) dX3_walk_12 (fun σ26 H locs eσ26 hW => ?_)
    replace hs := sp_let hs eσ26
    refine lv_aload_n hx hb dX3_walk_15 rfl (lv_at hl 0 rfl) ?_
    refine lv_iload hx hb dX3_walk_16 (lv_at hl 6 rfl) ?_
    refine sv_putI (own := RX3) (C := RX3) (Tf := TX3) (N := 17) (index := 119) hx hb hts hown hK hW (fun _ h => List.mem_cons_of_mem _ (List.mem_append_right _ h)) tyX3 tyX3_ok nmX3 (sx_i 24 hB (by decide)) (sx_c24 hB) rfl 14 (by decide) rfl rfl (ty := .int) (by decide +kernel) rfl rfl (List.mem_of_getElem? (i := 2) rfl) dX3_walk_18 (fun σ27 H locs eσ27 hW => ?_)
    replace hs := sp_let hs eσ27
    refine lv_iload_n hx hb dX3_walk_21 rfl (lv_at hl 2 rfl) ?_
    refine lv_if_le (tgt := 31) hx hb dX3_walk_22 (by decide) (fun c28 => ?_) (fun c28 => ?_)
    · replace hs := (sp_ite hs).1 c28
      cases hs
      exact sv_vret hx hb hr hlk hW dX3_walk_31
    · replace hs := (sp_ite hs).2 c28
      refine lv_iload_n hx hb dX3_walk_25 rfl (lv_at hl 3 rfl) ?_
      refine lv_bipush (v := 23) hx hb dX3_walk_26 (by decide) ?_
      refine lv_icmp_lt (tgt := 32) hx hb dX3_walk_28 (by decide) (fun c29 => ?_) (fun c29 => ?_)
      · replace hs := (sp_ite hs).1 c29
        refine lv_iconst (v := 0) hx hb dX3_walk_32 (by decide) ?_
        refine lv_istore (lv' := [(7, .int (0 : Int32)), (0, .ref (h 24)), (1, .int a1), (2, .int a2), (3, .int a3), (4, .int a4), (5, .int a5), (6, .int a6)]) hx hb dX3_walk_33 hl (by decide) rfl (fun ls hl => ?_)
        exact b_X3_walk_35 hB G fr lr hf hlr hG0 F hr hlk sv_N a1 a2 a3 a4 a5 a6 (0 : Int32) σ27 H locs ls (lv_sub hl [1, 2, 3, 4, 5, 6, 7, 0] rfl) hW hs
      · replace hs := (sp_ite hs).2 c29
        cases hs
        exact sv_vret hx hb hr hlk hW dX3_walk_31
set_option maxRecDepth 100000 in
set_option maxHeartbeats 4000000 in
theorem k_G3 {qK qV : Nat → Nat} {l : Launch} {D : va_G} {T : Nat → ClassId} {h : Nat → Nat} {θ : sv_T} (hB : sx_base θ) : ∀ d : Nat, (∀ (a1 : Int32) (a2 : Int32) (a3 : Int32) (a4 : Int32) (a5 : Int32) (a6 : Int32) (σ : sv_S) (r : Unit) (σ1 : sv_S), q_G3 d 0 θ a1 a2 a3 a4 a5 a6 σ = some (r, σ1) → sv_Mv (sx_X qK qV) l D T (sx_tys T) h θ yX3_walk wsX3_walk (sv_rm (1 * d + 20) (40 * d + 800)) [.ref (h 24), .int a1, .int a2, .int a3, .int a4, .int a5, .int a6] σ r σ1) := by
  intro d
  induction d with
  | zero =>
    intro a1 a2 a3 a4 a5 a6 σ r σ1 hs
    have hs : (none : Option (Unit × sv_S)) = some (r, σ1) := hs
    cases hs
  | succ d ih =>
    have ih0 := ih
    intro a1 a2 a3 a4 a5 a6 σ r σ1 hs
    have hq := k_X3_walk_b hB (q_G3 d) (1 * d + 20) (40 * d + 800) (by omega) (by omega) ih0 hs
    rw [show 1 * (d + 1) + 20 = 1 * d + 20 + 1 by omega, show 40 * (d + 1) + 800 = 40 * d + 800 + 40 by omega]
    exact hq
theorem k_X3_walk {qK qV : Nat → Nat} {l : Launch} {D : va_G} {T : Nat → ClassId} {h : Nat → Nat} {θ : sv_T} {a1 : Int32} {a2 : Int32} {a3 : Int32} {a4 : Int32} {a5 : Int32} {a6 : Int32} {σ : sv_S} {r : Unit} {σ' : sv_S} (hB : sx_base θ) (hs : q_X3_walk θ 8 a1 a2 a3 a4 a5 a6 σ = some (r, σ')) : sv_Mv (sx_X qK qV) l D T (sx_tys T) h θ yX3_walk wsX3_walk (sv_rm 28 1120) [.ref (h 24), .int a1, .int a2, .int a3, .int a4, .int a5, .int a6] σ r σ' := (k_G3 hB 8) a1 a2 a3 a4 a5 a6 _ _ _ hs
set_option maxRecDepth 100000 in
set_option maxHeartbeats 4000000 in
theorem k_X3_seek {qK qV : Nat → Nat} {l : Launch} {D : va_G} {T : Nat → ClassId} {h : Nat → Nat} {θ : sv_T} {a1 : Int32} {a2 : Int32} {σ : sv_S} {r : Int32} {σ' : sv_S} (hB : sx_base θ)  (hs : q_X3_seek θ a1 a2 σ = some (r, σ')) : sv_Mi (sx_X qK qV) l D T (sx_tys T) h θ yX3_seek wsX3_seek (sv_rm 29 1151) [.ref (h 24), .int a1, .int a2] σ r σ' := by
  intro sz
  refine sv_enter (cc := cX3_seek) (maxL := 3) (ret := (some .int)) (Qc := fun A => va_Qi (fun r2 (_ : Unit) => r2 = r) (fun _ t => va_P D vwCl (sv_ws T h θ σ') t.heap) A) sx_XP (by decide) rfl (Nat.le_of_ble_eq_true rfl) ?_
  intro p e s m args below meth c A F hr hlk ls H hl hW
  have hx := F.1.1
  have hb := F.1.2.1
  have hts := F.1.2.2.2.2
  have hown := F.1.2.2.2.1
  have hK := F.2.1
  obtain ⟨locs, hlocs⟩ : ∃ z : List Loc, z = [] := ⟨_, rfl⟩
  rw [← hlocs] at hW ⊢
  have hl : lv_has ls 3 [(0, .ref (h 24)), (1, .int a1), (2, .int a2)] := hl
  unfold q_X3_seek at hs
  refine lv_aload_n hx hb dX3_seek_0 rfl (lv_at hl 0 rfl) ?_
  refine lv_iconst (v := 0) hx hb dX3_seek_1 (by decide) ?_
  refine sv_putI (own := RX3) (C := RX3) (Tf := TX3) (N := 17) (index := 116) hx hb hts hown hK hW (fun _ h => List.mem_cons_of_mem _ (List.mem_append_right _ h)) tyX3 tyX3_ok nmX3 (sx_i 24 hB (by decide)) (sx_c24 hB) rfl 13 (by decide) rfl rfl (ty := .int) (by decide +kernel) rfl rfl (List.mem_of_getElem? (i := 1) rfl) dX3_seek_2 (fun σ1 H locs eσ1 hW => ?_)
  replace hs := sp_let hs eσ1
  refine lv_aload_n hx hb dX3_seek_5 rfl (lv_at hl 0 rfl) ?_
  refine lv_iconst (v := 0) hx hb dX3_seek_6 (by decide) ?_
  refine sv_putI (own := RX3) (C := RX3) (Tf := TX3) (N := 17) (index := 119) hx hb hts hown hK hW (fun _ h => List.mem_cons_of_mem _ (List.mem_append_right _ h)) tyX3 tyX3_ok nmX3 (sx_i 24 hB (by decide)) (sx_c24 hB) rfl 14 (by decide) rfl rfl (ty := .int) (by decide +kernel) rfl rfl (List.mem_of_getElem? (i := 2) rfl) dX3_seek_7 (fun σ2 H locs eσ2 hW => ?_)
  replace hs := sp_let hs eσ2
  refine lv_aload_n hx hb dX3_seek_10 rfl (lv_at hl 0 rfl) ?_
  refine lv_iload_n hx hb dX3_seek_11 rfl (lv_at hl 1 rfl) ?_
  refine lv_iload_n hx hb dX3_seek_12 rfl (lv_at hl 2 rfl) ?_
  refine lv_iconst (v := -1) hx hb dX3_seek_13 (by decide) ?_
  refine lv_iconst (v := 0) hx hb dX3_seek_14 (by decide) ?_
  refine lv_iconst (v := 0) hx hb dX3_seek_15 (by decide) ?_
  refine lv_iconst (v := 0) hx hb dX3_seek_16 (by decide) ?_
  obtain ⟨r3, σ4, eσ4, hs⟩ := sp_bind hs
  refine sv_goV (σ' := σ4) (r := r3) hW F.2.2.2.1 (sv_runV (C := RX3) F hW (k_X3_walk hB eσ4 H.size) gX3_seek_X3_walk rfl ⟨rfl, rfl⟩ 6 (by decide +kernel) (sv_room2 (by omega) (by omega)) (sx_i 24 hB (by decide)) (sx_c24 hB) rfl rfl hl.1 rfl (Nat.le_of_ble_eq_true rfl) dX3_seek_17 ⟨Nat.zero_le _, Nat.zero_le _⟩) (fun H locs hW => ?_)
  refine lv_aload_n hx hb dX3_seek_20 rfl (lv_at hl 0 rfl) ?_
  refine sv_get (own := RX3) (C := RX3) (Tf := TX3) (N := 17) (index := 116) (κ := (0, 0)) (v := .int (σ4.1 24 13)) hx hb hts hown hK hW (fun _ h => List.mem_cons_of_mem _ (List.mem_append_right _ h)) (sx_i 24 hB (by decide)) (sx_c24 hB) rfl 13 (by decide) rfl rfl (List.mem_of_getElem? (i := 1) rfl) dX3_seek_21 ?_
  cases hs
  exact sv_iret hx hb hr rfl hlk hW dX3_seek_24
set_option maxRecDepth 100000 in
set_option maxHeartbeats 4000000 in
theorem b_X3_leave_2 {qK qV : Nat → Nat} {p : Program} {l : Launch} {e : Env} {s : State} {m : MethodId} {args : Array Value} {below : List Frame} {meth : Method} {c : Code} {D : va_G} {T : Nat → ClassId} {A : Nat → Prop} {h : Nat → Nat} {θ : sv_T} {a1 : Int32} {r : Int32} {σ' : sv_S} (hB : sx_base θ)  (F : sv_F (sx_X qK qV) p m c cX3_leave 3 s args wsX3_leave RX3 D (sx_tys T) A) (hr : meth.sig.returnType = (some .int)) (hlk : meth.locks = false)  : ∀ (n : Nat), ∀ (x1 : Int32) (x2 : Int32) (σ : sv_S) (H : Heap) (locs : List Loc) (ls : Array Slot), lv_has ls 3 [(0, .ref (h 24)), (1, .int x1), (2, .int x2)] → sv_W D T A s h θ σ H locs → q_X3_leave_B2 θ a1 n x1 x2 σ = some (r, σ') → W p l e (sv_rm 30 1173) s m args below meth c H locs 0 0 (MQ below (va_Qi (fun r2 (_ : Unit) => r2 = r) (fun _ t => va_P D vwCl (sv_ws T h θ σ') t.heap) A) args s 0 0 A) (F0 m 2 ls []) := by
  have hx := F.1.1
  have hb := F.1.2.1
  have hts := F.1.2.2.2.2
  have hown := F.1.2.2.2.1
  have hK := F.2.1
  intro n
  induction n with
  | zero =>
    intro x1 x2 σ H locs ls hl hW hs
    have hs : (none : Option (Int32 × sv_S)) = some (r, σ') := hs
    cases hs
  | succ n ih =>
    intro x1 x2 σ H locs ls hl hW hs
    have hs : q_X3_leave_B2_b θ a1 (q_X3_leave_B2 θ a1 n) x1 x2 σ = some (r, σ') := hs
    unfold q_X3_leave_B2_b at hs
    refine lv_iload_n hx hb dX3_leave_2 rfl (lv_at hl 2 rfl) ?_
    refine lv_bipush (v := 6) hx hb dX3_leave_3 (by decide) ?_
    refine lv_icmp_ge (tgt := 47) hx hb dX3_leave_5 (by decide) (fun c1 => ?_) (fun c1 => ?_)
    · replace hs := (sp_ite hs).1 c1
      refine lv_iconst (v := -1) hx hb dX3_leave_47 (by decide) ?_
      cases hs
      exact sv_iret hx hb hr rfl hlk hW dX3_leave_48
    · replace hs := (sp_ite hs).2 c1
      refine lv_aload_n hx hb dX3_leave_8 rfl (lv_at hl 0 rfl) ?_
      refine sv_get (own := RX3) (C := RX3) (Tf := TX3) (N := 17) (index := 103) (κ := (0, 0)) (v := .int (σ.1 24 11)) hx hb hts hown hK hW (fun _ h => List.mem_cons_of_mem _ (List.mem_append_right _ h)) (sx_i 24 hB (by decide)) (sx_c24 hB) rfl 11 (by decide) rfl rfl (List.mem_of_getElem? (i := 1) rfl) dX3_leave_9 ?_
      refine lv_iload_n hx hb dX3_leave_12 rfl (lv_at hl 2 rfl) ?_
      obtain ⟨r2, σ3, eσ3, hs⟩ := sp_bind hs
      refine sv_goI (σ' := σ3) (r := r2) hW F.2.2.2.1 (sv_runN (own := RX3) (host := "OpenWhileItRains") F hW (k_X7_hasBit hB eσ3 H.size) gX3_leave_X7_hasBit_n90 rfl ⟨rfl, rfl⟩ (F.2.2.1.1 _ (List.mem_of_getElem? (i := 17) rfl)) (List.mem_of_getElem? (i := 3) rfl) (List.mem_of_getElem? (i := 2) rfl) 2 (by decide +kernel) (sv_room2 (by omega) (by omega)) rfl hl.1 rfl (Nat.le_of_ble_eq_true rfl) dX3_leave_13 ⟨Nat.zero_le _, Nat.zero_le _⟩) (fun H locs hW => ?_)
      refine lv_if_eq (tgt := 41) hx hb dX3_leave_16 (by decide) (fun c4 => ?_) (fun c4 => ?_)
      · replace hs := (sp_ite hs).1 c4
        obtain ⟨v5, ev5⟩ : ∃ y : Int32, y = x2 + 1 := ⟨_, rfl⟩
        replace hs := sp_let hs ev5
        refine lv_iinc (v := v5) (lv' := [(2, .int v5), (0, .ref (h 24)), (1, .int x1)]) hx hb dX3_leave_41 hl (k := 2) rfl (by rw [ev5]; rfl) (by decide) rfl (fun ls hl => ?_)
        refine lv_goto (tgt := 2) hx hb dX3_leave_44 (by decide) ?_
        exact ih x1 v5 σ3 H locs ls (lv_sub hl [1, 2, 0] rfl) hW hs
      · replace hs := (sp_ite hs).2 c4
        refine lv_aload_n hx hb dX3_leave_19 rfl (lv_at hl 0 rfl) ?_
        refine lv_aload_n hx hb dX3_leave_20 rfl (lv_at hl 0 rfl) ?_
        refine sv_get (own := RX3) (C := RX3) (Tf := TX3) (N := 17) (index := 103) (κ := (0, 0)) (v := .int (σ3.1 24 11)) hx hb hts hown hK hW (fun _ h => List.mem_cons_of_mem _ (List.mem_append_right _ h)) (sx_i 24 hB (by decide)) (sx_c24 hB) rfl 11 (by decide) rfl rfl (List.mem_of_getElem? (i := 1) rfl) dX3_leave_21 ?_
        refine lv_iconst (v := 1) hx hb dX3_leave_24 (by decide) ?_
        refine lv_iload_n hx hb dX3_leave_25 rfl (lv_at hl 2 rfl) ?_
        refine lv_ishl hx hb dX3_leave_26 ?_
        refine lv_iconst (v := -1) hx hb dX3_leave_27 (by decide) ?_
        refine lv_ixor hx hb dX3_leave_28 ?_
        refine lv_iand hx hb dX3_leave_29 ?_
        refine lv_bipush (v := 6) hx hb dX3_leave_30 (by decide) ?_
        obtain ⟨r6, σ7, eσ7, hs⟩ := sp_bind hs
        refine sv_goI (σ' := σ7) (r := r6) hW F.2.2.2.1 (sv_runV (C := RX3) F hW (k_X3_seek hB eσ7 H.size) gX3_leave_X3_seek rfl ⟨rfl, rfl⟩ 2 (by decide +kernel) (sv_room2 (by omega) (by omega)) (sx_i 24 hB (by decide)) (sx_c24 hB) rfl rfl hl.1 rfl (Nat.le_of_ble_eq_true rfl) dX3_leave_32 ⟨Nat.zero_le _, Nat.zero_le _⟩) (fun H locs hW => ?_)
        refine lv_iload_n hx hb dX3_leave_35 rfl (lv_at hl 1 rfl) ?_
        refine lv_icmp_lt (tgt := 41) hx hb dX3_leave_36 (by decide) (fun c8 => ?_) (fun c8 => ?_)
        · replace hs := (sp_ite hs).1 c8
          obtain ⟨v9, ev9⟩ : ∃ y : Int32, y = x2 + 1 := ⟨_, rfl⟩
          replace hs := sp_let hs ev9
          refine lv_iinc (v := v9) (lv' := [(2, .int v9), (0, .ref (h 24)), (1, .int x1)]) hx hb dX3_leave_41 hl (k := 2) rfl (by rw [ev9]; rfl) (by decide) rfl (fun ls hl => ?_)
          refine lv_goto (tgt := 2) hx hb dX3_leave_44 (by decide) ?_
          exact ih x1 v9 σ7 H locs ls (lv_sub hl [1, 2, 0] rfl) hW hs
        · replace hs := (sp_ite hs).2 c8
          refine lv_iload_n hx hb dX3_leave_39 rfl (lv_at hl 2 rfl) ?_
          cases hs
          exact sv_iret hx hb hr rfl hlk hW dX3_leave_40
set_option maxRecDepth 100000 in
set_option maxHeartbeats 4000000 in
theorem k_X3_leave {qK qV : Nat → Nat} {l : Launch} {D : va_G} {T : Nat → ClassId} {h : Nat → Nat} {θ : sv_T} {a1 : Int32} {σ : sv_S} {r : Int32} {σ' : sv_S} (hB : sx_base θ)  (hs : q_X3_leave θ a1 σ = some (r, σ')) : sv_Mi (sx_X qK qV) l D T (sx_tys T) h θ yX3_leave wsX3_leave (sv_rm 30 1173) [.ref (h 24), .int a1] σ r σ' := by
  intro sz
  refine sv_enter (cc := cX3_leave) (maxL := 3) (ret := (some .int)) (Qc := fun A => va_Qi (fun r2 (_ : Unit) => r2 = r) (fun _ t => va_P D vwCl (sv_ws T h θ σ') t.heap) A) sx_XP (by decide) rfl (Nat.le_of_ble_eq_true rfl) ?_
  intro p e s m args below meth c A F hr hlk ls H hl hW
  have hx := F.1.1
  have hb := F.1.2.1
  have hts := F.1.2.2.2.2
  have hown := F.1.2.2.2.1
  have hK := F.2.1
  obtain ⟨locs, hlocs⟩ : ∃ z : List Loc, z = [] := ⟨_, rfl⟩
  rw [← hlocs] at hW ⊢
  have hl : lv_has ls 3 [(0, .ref (h 24)), (1, .int a1)] := hl
  unfold q_X3_leave at hs
  refine lv_iconst (v := 0) hx hb dX3_leave_0 (by decide) ?_
  refine lv_istore_n (lv' := [(2, .int (0 : Int32)), (0, .ref (h 24)), (1, .int a1)]) hx hb dX3_leave_1 rfl hl (by decide) rfl (fun ls hl => ?_)
  exact b_X3_leave_2 hB F hr hlk sv_N a1 (0 : Int32) σ H locs ls (lv_sub hl [1, 2, 0] rfl) hW hs
set_option maxRecDepth 100000 in
set_option maxHeartbeats 4000000 in
theorem b_X3_waterOne_84 {qK qV : Nat → Nat} {p : Program} {l : Launch} {e : Env} {s : State} {m : MethodId} {args : Array Value} {below : List Frame} {meth : Method} {c : Code} {D : va_G} {T : Nat → ClassId} {A : Nat → Prop} {h : Nat → Nat} {θ : sv_T} {a2 : Int32} {a3 : Int32} {a4 : Int32} {r : Unit} {σ' : sv_S} (hB : sx_base θ)  (F : sv_F (sx_X qK qV) p m c cX3_waterOne 7 s args wsX3_waterOne RX3 D (sx_tys T) A) (hr : meth.sig.returnType = none) (hlk : meth.locks = false)  : ∀ (x2 : Int32) (x3 : Int32) (x4 : Int32) (x5 : Int32) (σ : sv_S) (H : Heap) (locs : List Loc) (ls : Array Slot), lv_has ls 7 [(0, .ref (h 24)), (1, .ref (h 1)), (2, .int x2), (3, .int x3), (4, .int x4), (5, .int x5)] → sv_W D T A s h θ σ H locs → q_X3_waterOne_B84 θ a2 a3 a4 x2 x3 x4 x5 σ = some (r, σ') → W p l e (sv_rm 30 1173) s m args below meth c H locs 0 0 (MQ below (va_Qv (fun (_ : Unit) => True) (fun _ t => va_P D vwCl (sv_ws T h θ σ') t.heap) A) args s 0 0 A) (F0 m 84 ls []) := by
  have hx := F.1.1
  have hb := F.1.2.1
  have hts := F.1.2.2.2.2
  have hown := F.1.2.2.2.1
  have hK := F.2.1
  intro x2 x3 x4 x5 σ H locs ls hl hW hs
  unfold q_X3_waterOne_B84 at hs
  refine lv_aload_n hx hb dX3_waterOne_84 rfl (lv_at hl 0 rfl) ?_
  refine sv_get (own := RX3) (C := RX3) (Tf := TX3) (N := 17) (index := 18) (κ := (3, 3)) (v := .ref (h 27)) hx hb hts hown hK hW (fun _ h => List.mem_cons_of_mem _ (List.mem_append_left _ (List.mem_append_left _ (List.mem_append_left _ (List.mem_append_right _ h))))) (sx_i 24 hB (by decide)) (sx_c24 hB) rfl 1 (by decide) rfl rfl (List.mem_of_getElem? (i := 1) rfl) dX3_waterOne_85 ?_
  refine lv_iload_n hx hb dX3_waterOne_88 rfl (lv_at hl 3 rfl) ?_
  refine lv_bipush (v := 24) hx hb dX3_waterOne_89 (by decide) ?_
  refine lv_imul hx hb dX3_waterOne_91 ?_
  refine lv_iload hx hb dX3_waterOne_92 (lv_at hl 4 rfl) ?_
  refine lv_iadd hx hb dX3_waterOne_94 ?_
  refine lv_iload hx hb dX3_waterOne_95 (lv_at hl 5 rfl) ?_
  obtain ⟨r12, σ13, eσ13, hs⟩ := sp_bind hs
  refine sv_goV (σ' := σ13) (r := r12) hW F.2.2.2.1 (sv_runN (own := RX3) (host := "OpenWhileItRains") F hW (k_X7_put hB (sv_oA_of (sx_i 27 hB (by decide)) (sx_c27 hB)) eσ13 H.size) gX3_waterOne_X7_put_n94 rfl ⟨rfl, rfl⟩ (F.2.2.1.1 _ (List.mem_of_getElem? (i := 18) rfl)) (List.mem_of_getElem? (i := 6) rfl) (List.mem_of_getElem? (i := 8) rfl) 3 (by decide +kernel) (sv_room2 (by omega) (by omega)) rfl hl.1 rfl (Nat.le_of_ble_eq_true rfl) dX3_waterOne_97 ⟨Nat.zero_le _, Nat.zero_le _⟩) (fun H locs hW => ?_)
  refine lv_aload_n hx hb dX3_waterOne_100 rfl (lv_at hl 0 rfl) ?_
  refine lv_aload_n hx hb dX3_waterOne_101 rfl (lv_at hl 1 rfl) ?_
  refine lv_iload_n hx hb dX3_waterOne_102 rfl (lv_at hl 2 rfl) ?_
  refine lv_iload hx hb dX3_waterOne_103 (lv_at hl 4 rfl) ?_
  obtain ⟨r14, σ15, eσ15, hs⟩ := sp_bind hs
  refine sv_goV (σ' := σ15) (r := r14) hW F.2.2.2.1 (sv_runV (C := RX3) F hW (k_X3_learn hB eσ15 H.size) gX3_waterOne_X3_learn rfl ⟨rfl, rfl⟩ 3 (by decide +kernel) (sv_room2 (by omega) (by omega)) (sx_i 24 hB (by decide)) (sx_c24 hB) rfl rfl hl.1 rfl (Nat.le_of_ble_eq_true rfl) dX3_waterOne_105 ⟨Nat.zero_le _, Nat.zero_le _⟩) (fun H locs hW => ?_)
  cases hs
  exact sv_vret hx hb hr hlk hW dX3_waterOne_108
set_option maxRecDepth 100000 in
set_option maxHeartbeats 4000000 in
theorem k_X3_waterOne {qK qV : Nat → Nat} {l : Launch} {D : va_G} {T : Nat → ClassId} {h : Nat → Nat} {θ : sv_T} {a2 : Int32} {a3 : Int32} {a4 : Int32} {σ : sv_S} {r : Unit} {σ' : sv_S} (hB : sx_base θ)  (hs : q_X3_waterOne θ a2 a3 a4 σ = some (r, σ')) : sv_Mv (sx_X qK qV) l D T (sx_tys T) h θ yX3_waterOne wsX3_waterOne (sv_rm 30 1173) [.ref (h 24), .ref (h 1), .int a2, .int a3, .int a4] σ r σ' := by
  intro sz
  refine sv_enter (cc := cX3_waterOne) (maxL := 7) (ret := none) (Qc := fun A => va_Qv (fun (_ : Unit) => True) (fun _ t => va_P D vwCl (sv_ws T h θ σ') t.heap) A) sx_XP (by decide) rfl (Nat.le_of_ble_eq_true rfl) ?_
  intro p e s m args below meth c A F hr hlk ls H hl hW
  have hx := F.1.1
  have hb := F.1.2.1
  have hts := F.1.2.2.2.2
  have hown := F.1.2.2.2.1
  have hK := F.2.1
  obtain ⟨locs, hlocs⟩ : ∃ z : List Loc, z = [] := ⟨_, rfl⟩
  rw [← hlocs] at hW ⊢
  have hl : lv_has ls 7 [(0, .ref (h 24)), (1, .ref (h 1)), (2, .int a2), (3, .int a3), (4, .int a4)] := hl
  unfold q_X3_waterOne at hs
  refine lv_aload_n hx hb dX3_waterOne_0 rfl (lv_at hl 0 rfl) ?_
  refine sv_get (own := RX3) (C := RX3) (Tf := TX3) (N := 17) (index := 18) (κ := (3, 3)) (v := .ref (h 27)) hx hb hts hown hK hW (fun _ h => List.mem_cons_of_mem _ (List.mem_append_left _ (List.mem_append_left _ (List.mem_append_left _ (List.mem_append_right _ h))))) (sx_i 24 hB (by decide)) (sx_c24 hB) rfl 1 (by decide) rfl rfl (List.mem_of_getElem? (i := 1) rfl) dX3_waterOne_1 ?_
  refine lv_iload_n hx hb dX3_waterOne_4 rfl (lv_at hl 3 rfl) ?_
  refine lv_bipush (v := 24) hx hb dX3_waterOne_5 (by decide) ?_
  refine lv_imul hx hb dX3_waterOne_7 ?_
  refine lv_iload hx hb dX3_waterOne_8 (lv_at hl 4 rfl) ?_
  refine lv_iadd hx hb dX3_waterOne_10 ?_
  obtain ⟨r1, σ2, eσ2, hs⟩ := sp_bind hs
  refine sv_goI (σ' := σ2) (r := r1) hW F.2.2.2.1 (sv_runN (own := RX3) (host := "OpenWhileItRains") F hW (k_X7_at hB (sv_oA_of (sx_i 27 hB (by decide)) (sx_c27 hB)) eσ2 H.size) gX3_waterOne_X7_at_n63 rfl ⟨rfl, rfl⟩ (F.2.2.1.1 _ (List.mem_of_getElem? (i := 16) rfl)) (List.mem_of_getElem? (i := 6) rfl) (List.mem_of_getElem? (i := 5) rfl) 2 (by decide +kernel) (sv_room2 (by omega) (by omega)) rfl hl.1 rfl (Nat.le_of_ble_eq_true rfl) dX3_waterOne_11 ⟨Nat.zero_le _, Nat.zero_le _⟩) (fun H locs hW => ?_)
  refine lv_istore (lv' := [(5, .int r1), (0, .ref (h 24)), (1, .ref (h 1)), (2, .int a2), (3, .int a3), (4, .int a4)]) hx hb dX3_waterOne_14 hl (by decide) rfl (fun ls hl => ?_)
  refine lv_aload_n hx hb dX3_waterOne_16 rfl (lv_at hl 1 rfl) ?_
  refine sv_get (own := RX3) (C := RX3) (Tf := TX3) (N := 17) (index := 18) (κ := (3, 3)) (v := .ref (h 27)) hx hb hts hown hK hW (fun _ h => List.mem_cons_of_mem _ (List.mem_append_left _ (List.mem_append_left _ (List.mem_append_left _ (List.mem_append_right _ h))))) (sx_i 24 hB (by decide)) (sx_c24 hB) rfl 1 (by decide) rfl rfl (List.mem_of_getElem? (i := 1) rfl) dX3_waterOne_17 ?_
  refine lv_iload_n hx hb dX3_waterOne_20 rfl (lv_at hl 4 rfl) ?_
  refine lv_bipush (v := 24) hx hb dX3_waterOne_21 (by decide) ?_
  refine lv_imul hx hb dX3_waterOne_23 ?_
  refine lv_iload hx hb dX3_waterOne_24 (lv_at hl 5 rfl) ?_
  refine lv_iadd hx hb dX3_waterOne_26 ?_
  refine lv_bipush (v := 9) hx hb dX3_waterOne_27 (by decide) ?_
  obtain ⟨r3, σ4, eσ4, hs⟩ := sp_bind hs
  refine sv_goV (σ' := σ4) (r := r3) hW F.2.2.2.1 (sv_runN (own := RX3) (host := "OpenWhileItRains") F hW (k_X7_put hB (sv_oA_of (sx_i 27 hB (by decide)) (sx_c27 hB)) eσ4 H.size) gX3_waterOne_X7_put_n94 rfl ⟨rfl, rfl⟩ (F.2.2.1.1 _ (List.mem_of_getElem? (i := 18) rfl)) (List.mem_of_getElem? (i := 6) rfl) (List.mem_of_getElem? (i := 8) rfl) 3 (by decide +kernel) (sv_room2 (by omega) (by omega)) rfl hl.1 rfl (Nat.le_of_ble_eq_true rfl) dX3_waterOne_29 ⟨Nat.zero_le _, Nat.zero_le _⟩) (fun H locs hW => ?_)
  refine lv_aload_n hx hb dX3_waterOne_32 rfl (lv_at hl 1 rfl) ?_
  refine lv_aload_n hx hb dX3_waterOne_33 rfl (lv_at hl 2 rfl) ?_
  refine lv_iload_n hx hb dX3_waterOne_34 rfl (lv_at hl 3 rfl) ?_
  refine lv_iload hx hb dX3_waterOne_35 (lv_at hl 5 rfl) ?_
  obtain ⟨r5, σ6, eσ6, hs⟩ := sp_bind hs
  refine sv_goV (σ' := σ6) (r := r5) hW F.2.2.2.1 (sv_runV (C := RX3) F hW (k_X3_learn hB eσ6 H.size) gX3_waterOne_X3_learn rfl ⟨rfl, rfl⟩ 3 (by decide +kernel) (sv_room2 (by omega) (by omega)) (sx_i 24 hB (by decide)) (sx_c24 hB) rfl rfl hl.1 rfl (Nat.le_of_ble_eq_true rfl) dX3_waterOne_37 ⟨Nat.zero_le _, Nat.zero_le _⟩) (fun H locs hW => ?_)
  refine lv_aload_n hx hb dX3_waterOne_40 rfl (lv_at hl 1 rfl) ?_
  refine lv_aload_n hx hb dX3_waterOne_41 rfl (lv_at hl 2 rfl) ?_
  refine lv_iload_n hx hb dX3_waterOne_42 rfl (lv_at hl 3 rfl) ?_
  obtain ⟨r7, σ8, eσ8, hs⟩ := sp_bind hs
  refine sv_goV (σ' := σ8) (r := r7) hW F.2.2.2.1 (sv_runV (C := RX3) F hW (k_X3_fillEnds hB eσ8 H.size) gX3_waterOne_X3_fillEnds rfl ⟨rfl, rfl⟩ 2 (by decide +kernel) (sv_room2 (by omega) (by omega)) (sx_i 24 hB (by decide)) (sx_c24 hB) rfl rfl hl.1 rfl (Nat.le_of_ble_eq_true rfl) dX3_waterOne_43 ⟨Nat.zero_le _, Nat.zero_le _⟩) (fun H locs hW => ?_)
  refine lv_aload_n hx hb dX3_waterOne_46 rfl (lv_at hl 1 rfl) ?_
  refine lv_aload_n hx hb dX3_waterOne_47 rfl (lv_at hl 1 rfl) ?_
  refine sv_get (own := RX3) (C := RX3) (Tf := TX3) (N := 17) (index := 103) (κ := (0, 0)) (v := .int (σ8.1 24 11)) hx hb hts hown hK hW (fun _ h => List.mem_cons_of_mem _ (List.mem_append_left _ (List.mem_append_left _ (List.mem_append_left _ (List.mem_append_right _ h))))) (sx_i 24 hB (by decide)) (sx_c24 hB) rfl 11 (by decide) rfl rfl (List.mem_of_getElem? (i := 2) rfl) dX3_waterOne_48 ?_
  refine lv_bipush (v := 6) hx hb dX3_waterOne_51 (by decide) ?_
  obtain ⟨r9, σ10, eσ10, hs⟩ := sp_bind hs
  refine sv_goI (σ' := σ10) (r := r9) hW F.2.2.2.1 (sv_runV (C := RX3) F hW (k_X3_seek hB eσ10 H.size) gX3_waterOne_X3_seek rfl ⟨rfl, rfl⟩ 2 (by decide +kernel) (sv_room2 (by omega) (by omega)) (sx_i 24 hB (by decide)) (sx_c24 hB) rfl rfl hl.1 rfl (Nat.le_of_ble_eq_true rfl) dX3_waterOne_53 ⟨Nat.zero_le _, Nat.zero_le _⟩) (fun H locs hW => ?_)
  refine lv_istore (lv' := [(6, .int r9), (5, .int r1), (0, .ref (h 24)), (1, .ref (h 1)), (2, .int a2), (3, .int a3), (4, .int a4)]) hx hb dX3_waterOne_56 hl (by decide) rfl (fun ls hl => ?_)
  refine lv_iload hx hb dX3_waterOne_58 (lv_at hl 0 rfl) ?_
  refine lv_aload_n hx hb dX3_waterOne_60 rfl (lv_at hl 2 rfl) ?_
  refine sv_get (own := RX3) (C := RX3) (Tf := TX3) (N := 17) (index := 133) (κ := (0, 0)) (v := .int (σ10.1 24 16)) hx hb hts hown hK hW (fun _ h => List.mem_cons_of_mem _ (List.mem_append_left _ (List.mem_append_left _ (List.mem_append_left _ (List.mem_append_right _ h))))) (sx_i 24 hB (by decide)) (sx_c24 hB) rfl 16 (by decide) rfl rfl (List.mem_of_getElem? (i := 3) rfl) dX3_waterOne_61 ?_
  refine lv_icmp_le (tgt := 84) hx hb dX3_waterOne_64 (by decide) (fun c11 => ?_) (fun c11 => ?_)
  · replace hs := (sp_ite hs).1 c11
    exact b_X3_waterOne_84 hB F hr hlk a2 a3 a4 r1 σ10 H locs ls (lv_sub hl [2, 3, 4, 5, 6, 1] rfl) hW hs
  · replace hs := (sp_ite hs).2 c11
    refine lv_aload_n hx hb dX3_waterOne_67 rfl (lv_at hl 2 rfl) ?_
    refine lv_iload hx hb dX3_waterOne_68 (lv_at hl 0 rfl) ?_
    refine sv_putI (own := RX3) (C := RX3) (Tf := TX3) (N := 17) (index := 133) hx hb hts hown hK hW (fun _ h => List.mem_cons_of_mem _ (List.mem_append_left _ (List.mem_append_left _ (List.mem_append_left _ (List.mem_append_right _ h))))) tyX3 tyX3_ok nmX3 (sx_i 24 hB (by decide)) (sx_c24 hB) rfl 16 (by decide) rfl rfl (ty := .int) (by decide +kernel) rfl rfl (List.mem_of_getElem? (i := 3) rfl) dX3_waterOne_70 (fun σ16 H locs eσ16 hW => ?_)
    replace hs := sp_let hs eσ16
    refine lv_aload_n hx hb dX3_waterOne_73 rfl (lv_at hl 2 rfl) ?_
    refine lv_bipush (v := 100) hx hb dX3_waterOne_74 (by decide) ?_
    refine lv_iload_n hx hb dX3_waterOne_76 rfl (lv_at hl 5 rfl) ?_
    refine lv_imul hx hb dX3_waterOne_77 ?_
    refine lv_iload hx hb dX3_waterOne_78 (lv_at hl 6 rfl) ?_
    refine lv_iadd hx hb dX3_waterOne_80 ?_
    refine sv_putI (own := RX3) (C := RX3) (Tf := TX3) (N := 17) (index := 130) hx hb hts hown hK hW (fun _ h => List.mem_cons_of_mem _ (List.mem_append_left _ (List.mem_append_left _ (List.mem_append_left _ (List.mem_append_right _ h))))) tyX3 tyX3_ok nmX3 (sx_i 24 hB (by decide)) (sx_c24 hB) rfl 15 (by decide) rfl rfl (ty := .int) (by decide +kernel) rfl rfl (List.mem_of_getElem? (i := 4) rfl) dX3_waterOne_81 (fun σ17 H locs eσ17 hW => ?_)
    replace hs := sp_let hs eσ17
    exact b_X3_waterOne_84 hB F hr hlk a2 a3 a4 r1 σ17 H locs ls (lv_sub hl [2, 3, 4, 5, 6, 1] rfl) hW hs
set_option maxRecDepth 100000 in
set_option maxHeartbeats 4000000 in
theorem b_X3_waterAll_48 {qK qV : Nat → Nat} {p : Program} {l : Launch} {e : Env} {s : State} {m : MethodId} {args : Array Value} {below : List Frame} {meth : Method} {c : Code} {D : va_G} {T : Nat → ClassId} {A : Nat → Prop} {h : Nat → Nat} {θ : sv_T}  {r : Unit} {σ' : sv_S} (hB : sx_base θ)  (F : sv_F (sx_X qK qV) p m c cX3_waterAll 5 s args wsX3_waterAll RX3 D (sx_tys T) A) (hr : meth.sig.returnType = none) (hlk : meth.locks = false) (k21 : Int32 → sv_S → Option (Unit × sv_S)) (hk21 : ∀ (x2 : Int32) (σ : sv_S) (H : Heap) (locs : List Loc) (ls : Array Slot), lv_has ls 5 [(0, .ref (h 24)), (1, .ref (h 1)), (2, .int x2)] → sv_W D T A s h θ σ H locs → k21 x2 σ = some (r, σ') → W p l e (sv_rm 31 1199) s m args below meth c H locs 0 0 (MQ below (va_Qv (fun (_ : Unit) => True) (fun _ t => va_P D vwCl (sv_ws T h θ σ') t.heap) A) args s 0 0 A) (F0 m 21 ls [])) : ∀ (n : Nat), ∀ (x2 : Int32) (x3 : Int32) (x4 : Int32) (σ : sv_S) (H : Heap) (locs : List Loc) (ls : Array Slot), lv_has ls 5 [(0, .ref (h 24)), (1, .ref (h 1)), (2, .int x2), (3, .int x3), (4, .int x4)] → sv_W D T A s h θ σ H locs → q_X3_waterAll_B48 θ  k21 n x2 x3 x4 σ = some (r, σ') → W p l e (sv_rm 31 1199) s m args below meth c H locs 0 0 (MQ below (va_Qv (fun (_ : Unit) => True) (fun _ t => va_P D vwCl (sv_ws T h θ σ') t.heap) A) args s 0 0 A) (F0 m 48 ls []) := by
  have hx := F.1.1
  have hb := F.1.2.1
  have hts := F.1.2.2.2.2
  have hown := F.1.2.2.2.1
  have hK := F.2.1
  intro n
  induction n with
  | zero =>
    intro x2 x3 x4 σ H locs ls hl hW hs
    have hs : (none : Option (Unit × sv_S)) = some (r, σ') := hs
    cases hs
  | succ n ih =>
    intro x2 x3 x4 σ H locs ls hl hW hs
    have hs : q_X3_waterAll_B48_b θ  k21 (q_X3_waterAll_B48 θ  k21 n) x2 x3 x4 σ = some (r, σ') := hs
    unfold q_X3_waterAll_B48_b at hs
    refine lv_iload hx hb dX3_waterAll_48 (lv_at hl 4 rfl) ?_
    refine lv_bipush (v := 24) hx hb dX3_waterAll_50 (by decide) ?_
    refine lv_icmp_ge (tgt := 74) hx hb dX3_waterAll_52 (by decide) (fun c9 => ?_) (fun c9 => ?_)
    · replace hs := (sp_ite hs).1 c9
      refine lv_aload_n hx hb dX3_waterAll_74 rfl (lv_at hl 0 rfl) ?_
      refine lv_aload_n hx hb dX3_waterAll_75 rfl (lv_at hl 1 rfl) ?_
      refine lv_iload_n hx hb dX3_waterAll_76 rfl (lv_at hl 3 rfl) ?_
      obtain ⟨r10, σ11, eσ11, hs⟩ := sp_bind hs
      refine sv_goV (σ' := σ11) (r := r10) hW F.2.2.2.1 (sv_runV (C := RX3) F hW (k_X3_fillEnds hB eσ11 H.size) gX3_waterAll_X3_fillEnds rfl ⟨rfl, rfl⟩ 2 (by decide +kernel) (sv_room2 (by omega) (by omega)) (sx_i 24 hB (by decide)) (sx_c24 hB) rfl rfl hl.1 rfl (Nat.le_of_ble_eq_true rfl) dX3_waterAll_77 ⟨Nat.zero_le _, Nat.zero_le _⟩) (fun H locs hW => ?_)
      obtain ⟨v12, ev12⟩ : ∃ y : Int32, y = x2 + 1 := ⟨_, rfl⟩
      replace hs := sp_let hs ev12
      refine lv_iinc (v := v12) (lv' := [(2, .int v12), (0, .ref (h 24)), (1, .ref (h 1)), (3, .int x3), (4, .int x4)]) hx hb dX3_waterAll_80 hl (k := 2) rfl (by rw [ev12]; rfl) (by decide) rfl (fun ls hl => ?_)
      refine lv_goto (tgt := 21) hx hb dX3_waterAll_83 (by decide) ?_
      exact hk21 v12 σ11 H locs ls (lv_sub hl [1, 2, 0] rfl) hW hs
    · replace hs := (sp_ite hs).2 c9
      refine lv_iload_n hx hb dX3_waterAll_55 rfl (lv_at hl 3 rfl) ?_
      refine lv_if_eq (tgt := 74) hx hb dX3_waterAll_56 (by decide) (fun c13 => ?_) (fun c13 => ?_)
      · replace hs := (sp_ite hs).1 c13
        refine lv_aload_n hx hb dX3_waterAll_74 rfl (lv_at hl 0 rfl) ?_
        refine lv_aload_n hx hb dX3_waterAll_75 rfl (lv_at hl 1 rfl) ?_
        refine lv_iload_n hx hb dX3_waterAll_76 rfl (lv_at hl 3 rfl) ?_
        obtain ⟨r14, σ15, eσ15, hs⟩ := sp_bind hs
        refine sv_goV (σ' := σ15) (r := r14) hW F.2.2.2.1 (sv_runV (C := RX3) F hW (k_X3_fillEnds hB eσ15 H.size) gX3_waterAll_X3_fillEnds rfl ⟨rfl, rfl⟩ 2 (by decide +kernel) (sv_room2 (by omega) (by omega)) (sx_i 24 hB (by decide)) (sx_c24 hB) rfl rfl hl.1 rfl (Nat.le_of_ble_eq_true rfl) dX3_waterAll_77 ⟨Nat.zero_le _, Nat.zero_le _⟩) (fun H locs hW => ?_)
        obtain ⟨v16, ev16⟩ : ∃ y : Int32, y = x2 + 1 := ⟨_, rfl⟩
        replace hs := sp_let hs ev16
        refine lv_iinc (v := v16) (lv' := [(2, .int v16), (0, .ref (h 24)), (1, .ref (h 1)), (3, .int x3), (4, .int x4)]) hx hb dX3_waterAll_80 hl (k := 2) rfl (by rw [ev16]; rfl) (by decide) rfl (fun ls hl => ?_)
        refine lv_goto (tgt := 21) hx hb dX3_waterAll_83 (by decide) ?_
        exact hk21 v16 σ15 H locs ls (lv_sub hl [1, 2, 0] rfl) hW hs
      · replace hs := (sp_ite hs).2 c13
        refine lv_aload_n hx hb dX3_waterAll_59 rfl (lv_at hl 0 rfl) ?_
        refine lv_aload_n hx hb dX3_waterAll_60 rfl (lv_at hl 1 rfl) ?_
        refine lv_iload_n hx hb dX3_waterAll_61 rfl (lv_at hl 3 rfl) ?_
        refine lv_iload_n hx hb dX3_waterAll_62 rfl (lv_at hl 2 rfl) ?_
        refine lv_iload hx hb dX3_waterAll_63 (lv_at hl 4 rfl) ?_
        obtain ⟨r17, σ18, eσ18, hs⟩ := sp_bind hs
        refine sv_goV (σ' := σ18) (r := r17) hW F.2.2.2.1 (sv_runV (C := RX3) F hW (k_X3_waterOne hB eσ18 H.size) gX3_waterAll_X3_waterOne rfl ⟨rfl, rfl⟩ 4 (by decide +kernel) (sv_room2 (by omega) (by omega)) (sx_i 24 hB (by decide)) (sx_c24 hB) rfl rfl hl.1 rfl (Nat.le_of_ble_eq_true rfl) dX3_waterAll_65 ⟨Nat.zero_le _, Nat.zero_le _⟩) (fun H locs hW => ?_)
        obtain ⟨v19, ev19⟩ : ∃ y : Int32, y = x4 + 1 := ⟨_, rfl⟩
        replace hs := sp_let hs ev19
        refine lv_iinc (v := v19) (lv' := [(4, .int v19), (0, .ref (h 24)), (1, .ref (h 1)), (2, .int x2), (3, .int x3)]) hx hb dX3_waterAll_68 hl (k := 4) rfl (by rw [ev19]; rfl) (by decide) rfl (fun ls hl => ?_)
        refine lv_goto (tgt := 48) hx hb dX3_waterAll_71 (by decide) ?_
        exact ih x2 x3 v19 σ18 H locs ls (lv_sub hl [1, 2, 3, 4, 0] rfl) hW hs
set_option maxRecDepth 100000 in
set_option maxHeartbeats 4000000 in
theorem b_X3_waterAll_21 {qK qV : Nat → Nat} {p : Program} {l : Launch} {e : Env} {s : State} {m : MethodId} {args : Array Value} {below : List Frame} {meth : Method} {c : Code} {D : va_G} {T : Nat → ClassId} {A : Nat → Prop} {h : Nat → Nat} {θ : sv_T}  {r : Unit} {σ' : sv_S} (hB : sx_base θ)  (F : sv_F (sx_X qK qV) p m c cX3_waterAll 5 s args wsX3_waterAll RX3 D (sx_tys T) A) (hr : meth.sig.returnType = none) (hlk : meth.locks = false)  : ∀ (n : Nat), ∀ (x2 : Int32) (σ : sv_S) (H : Heap) (locs : List Loc) (ls : Array Slot), lv_has ls 5 [(0, .ref (h 24)), (1, .ref (h 1)), (2, .int x2)] → sv_W D T A s h θ σ H locs → q_X3_waterAll_B21 θ  n x2 σ = some (r, σ') → W p l e (sv_rm 31 1199) s m args below meth c H locs 0 0 (MQ below (va_Qv (fun (_ : Unit) => True) (fun _ t => va_P D vwCl (sv_ws T h θ σ') t.heap) A) args s 0 0 A) (F0 m 21 ls []) := by
  have hx := F.1.1
  have hb := F.1.2.1
  have hts := F.1.2.2.2.2
  have hown := F.1.2.2.2.1
  have hK := F.2.1
  intro n
  induction n with
  | zero =>
    intro x2 σ H locs ls hl hW hs
    have hs : (none : Option (Unit × sv_S)) = some (r, σ') := hs
    cases hs
  | succ n ih =>
    intro x2 σ H locs ls hl hW hs
    have hs : q_X3_waterAll_B21_b θ  (q_X3_waterAll_B21 θ  n) x2 σ = some (r, σ') := hs
    unfold q_X3_waterAll_B21_b at hs
    refine lv_iload_n hx hb dX3_waterAll_21 rfl (lv_at hl 2 rfl) ?_
    refine lv_iconst (v := 2) hx hb dX3_waterAll_22 (by decide) ?_
    refine lv_icmp_ge (tgt := 86) hx hb dX3_waterAll_23 (by decide) (fun c5 => ?_) (fun c5 => ?_)
    · replace hs := (sp_ite hs).1 c5
      cases hs
      exact sv_vret hx hb hr hlk hW dX3_waterAll_86
    · replace hs := (sp_ite hs).2 c5
      refine lv_aload_n hx hb dX3_waterAll_26 rfl (lv_at hl 1 rfl) ?_
      refine lv_ifnonnull (tgt := 34) hx hb dX3_waterAll_27 (by decide) ?_
      refine lv_aload_n hx hb dX3_waterAll_34 rfl (lv_at hl 0 rfl) ?_
      refine sv_get (own := RX3) (C := RX3) (Tf := TX3) (N := 17) (index := 103) (κ := (0, 0)) (v := .int (σ.1 24 11)) hx hb hts hown hK hW (fun _ h => List.mem_cons_of_mem _ (List.mem_append_left _ (List.mem_append_left _ (List.mem_append_left _ (List.mem_append_right _ h))))) (sx_i 24 hB (by decide)) (sx_c24 hB) rfl 11 (by decide) rfl rfl (List.mem_of_getElem? (i := 2) rfl) dX3_waterAll_35 ?_
      refine lv_aload_n hx hb dX3_waterAll_38 rfl (lv_at hl 1 rfl) ?_
      refine lv_iload_n hx hb dX3_waterAll_39 rfl (lv_at hl 2 rfl) ?_
      obtain ⟨r6, σ7, eσ7, hs⟩ := sp_bind hs
      refine sv_goI (σ' := σ7) (r := r6) hW F.2.2.2.1 (sv_runV (C := RX2) F hW (k_X2_inStreet hB eσ7 H.size) gX3_waterAll_X2_inStreet rfl ⟨rfl, rfl⟩ 1 (by decide +kernel) (sv_room2 (by omega) (by omega)) (sx_i 1 hB (by decide)) (sx_c1 hB) rfl rfl hl.1 rfl (Nat.le_of_ble_eq_true rfl) dX3_waterAll_40 ⟨Nat.zero_le _, Nat.zero_le _⟩) (fun H locs hW => ?_)
      refine lv_iand hx hb dX3_waterAll_43 ?_
      refine lv_topi (fun v8 ev8 => ?_)
      replace hs := sp_let hs ev8
      refine lv_istore_n (lv' := [(3, .int v8), (0, .ref (h 24)), (1, .ref (h 1)), (2, .int x2)]) hx hb dX3_waterAll_44 rfl hl (by decide) rfl (fun ls hl => ?_)
      refine lv_iconst (v := 0) hx hb dX3_waterAll_45 (by decide) ?_
      refine lv_istore (lv' := [(4, .int (0 : Int32)), (3, .int v8), (0, .ref (h 24)), (1, .ref (h 1)), (2, .int x2)]) hx hb dX3_waterAll_46 hl (by decide) rfl (fun ls hl => ?_)
      exact b_X3_waterAll_48 hB F hr hlk _ ih sv_N x2 v8 (0 : Int32) σ7 H locs ls (lv_sub hl [2, 3, 4, 1, 0] rfl) hW hs
set_option maxRecDepth 100000 in
set_option maxHeartbeats 4000000 in
theorem k_X3_waterAll {qK qV : Nat → Nat} {l : Launch} {D : va_G} {T : Nat → ClassId} {h : Nat → Nat} {θ : sv_T}  {σ : sv_S} {r : Unit} {σ' : sv_S} (hB : sx_base θ)  (hs : q_X3_waterAll θ  σ = some (r, σ')) : sv_Mv (sx_X qK qV) l D T (sx_tys T) h θ yX3_waterAll wsX3_waterAll (sv_rm 31 1199) [.ref (h 24), .ref (h 1)] σ r σ' := by
  intro sz
  refine sv_enter (cc := cX3_waterAll) (maxL := 5) (ret := none) (Qc := fun A => va_Qv (fun (_ : Unit) => True) (fun _ t => va_P D vwCl (sv_ws T h θ σ') t.heap) A) sx_XP (by decide) rfl (Nat.le_of_ble_eq_true rfl) ?_
  intro p e s m args below meth c A F hr hlk ls H hl hW
  have hx := F.1.1
  have hb := F.1.2.1
  have hts := F.1.2.2.2.2
  have hown := F.1.2.2.2.1
  have hK := F.2.1
  obtain ⟨locs, hlocs⟩ : ∃ z : List Loc, z = [] := ⟨_, rfl⟩
  rw [← hlocs] at hW ⊢
  have hl : lv_has ls 5 [(0, .ref (h 24)), (1, .ref (h 1))] := hl
  unfold q_X3_waterAll at hs
  refine lv_aload_n hx hb dX3_waterAll_0 rfl (lv_at hl 0 rfl) ?_
  refine lv_iconst (v := -1) hx hb dX3_waterAll_1 (by decide) ?_
  refine sv_putI (own := RX3) (C := RX3) (Tf := TX3) (N := 17) (index := 130) hx hb hts hown hK hW (fun _ h => List.mem_cons_of_mem _ (List.mem_append_left _ (List.mem_append_left _ (List.mem_append_left _ (List.mem_append_right _ h))))) tyX3 tyX3_ok nmX3 (sx_i 24 hB (by decide)) (sx_c24 hB) rfl 15 (by decide) rfl rfl (ty := .int) (by decide +kernel) rfl rfl (List.mem_of_getElem? (i := 1) rfl) dX3_waterAll_2 (fun σ1 H locs eσ1 hW => ?_)
  replace hs := sp_let hs eσ1
  refine lv_aload_n hx hb dX3_waterAll_5 rfl (lv_at hl 0 rfl) ?_
  refine lv_aload_n hx hb dX3_waterAll_6 rfl (lv_at hl 0 rfl) ?_
  refine lv_aload_n hx hb dX3_waterAll_7 rfl (lv_at hl 0 rfl) ?_
  refine sv_get (own := RX3) (C := RX3) (Tf := TX3) (N := 17) (index := 103) (κ := (0, 0)) (v := .int (σ1.1 24 11)) hx hb hts hown hK hW (fun _ h => List.mem_cons_of_mem _ (List.mem_append_left _ (List.mem_append_left _ (List.mem_append_left _ (List.mem_append_right _ h))))) (sx_i 24 hB (by decide)) (sx_c24 hB) rfl 11 (by decide) rfl rfl (List.mem_of_getElem? (i := 2) rfl) dX3_waterAll_8 ?_
  refine lv_bipush (v := 6) hx hb dX3_waterAll_11 (by decide) ?_
  obtain ⟨r2, σ3, eσ3, hs⟩ := sp_bind hs
  refine sv_goI (σ' := σ3) (r := r2) hW F.2.2.2.1 (sv_runV (C := RX3) F hW (k_X3_seek hB eσ3 H.size) gX3_waterAll_X3_seek rfl ⟨rfl, rfl⟩ 2 (by decide +kernel) (sv_room2 (by omega) (by omega)) (sx_i 24 hB (by decide)) (sx_c24 hB) rfl rfl hl.1 rfl (Nat.le_of_ble_eq_true rfl) dX3_waterAll_13 ⟨Nat.zero_le _, Nat.zero_le _⟩) (fun H locs hW => ?_)
  refine sv_putI (own := RX3) (C := RX3) (Tf := TX3) (N := 17) (index := 133) hx hb hts hown hK hW (fun _ h => List.mem_cons_of_mem _ (List.mem_append_left _ (List.mem_append_left _ (List.mem_append_left _ (List.mem_append_right _ h))))) tyX3 tyX3_ok nmX3 (sx_i 24 hB (by decide)) (sx_c24 hB) rfl 16 (by decide) rfl rfl (ty := .int) (by decide +kernel) rfl rfl (List.mem_of_getElem? (i := 3) rfl) dX3_waterAll_16 (fun σ4 H locs eσ4 hW => ?_)
  replace hs := sp_let hs eσ4
  refine lv_iconst (v := 0) hx hb dX3_waterAll_19 (by decide) ?_
  refine lv_istore_n (lv' := [(2, .int (0 : Int32)), (0, .ref (h 24)), (1, .ref (h 1))]) hx hb dX3_waterAll_20 rfl hl (by decide) rfl (fun ls hl => ?_)
  exact b_X3_waterAll_21 hB F hr hlk sv_N (0 : Int32) σ4 H locs ls (lv_sub hl [1, 2, 0] rfl) hW hs
set_option maxRecDepth 100000 in
set_option maxHeartbeats 4000000 in
theorem k_X4_append {qK qV : Nat → Nat} {l : Launch} {D : va_G} {T : Nat → ClassId} {h : Nat → Nat} {θ : sv_T} {a1 : Int32} {σ : sv_S} {r : Int32} {σ' : sv_S} (hB : sx_base θ)  (hs : q_X4_append θ a1 σ = some (r, σ')) : sv_Mi (sx_X qK qV) l D T (sx_tys T) h θ yX4_append wsX4_append (sv_rm 1 22) [.ref (h 13), .int a1] σ r σ' := by
  intro sz
  refine sv_enter (cc := cX4_append) (maxL := 2) (ret := (some .boolean)) (Qc := fun A => va_Qi (fun r2 (_ : Unit) => r2 = r) (fun _ t => va_P D vwCl (sv_ws T h θ σ') t.heap) A) sx_XP (by decide) rfl (Nat.le_of_ble_eq_true rfl) ?_
  intro p e s m args below meth c A F hr hlk ls H hl hW
  have hx := F.1.1
  have hb := F.1.2.1
  have hts := F.1.2.2.2.2
  have hown := F.1.2.2.2.1
  have hK := F.2.1
  obtain ⟨locs, hlocs⟩ : ∃ z : List Loc, z = [] := ⟨_, rfl⟩
  rw [← hlocs] at hW ⊢
  have hl : lv_has ls 2 [(0, .ref (h 13)), (1, .int a1)] := hl
  unfold q_X4_append at hs
  refine lv_aload_n hx hb dX4_append_0 rfl (lv_at hl 0 rfl) ?_
  refine sv_get (own := RX4) (C := RX4) (Tf := TX4) (N := 11) (index := 30) (κ := (0, 0)) (v := .int (σ.1 13 0)) hx hb hts hown hK hW (fun _ h => List.mem_cons_of_mem _ (List.mem_append_right _ h)) (sx_i 13 hB (by decide)) (sx_c13 hB) rfl 0 (by decide) rfl rfl (List.mem_of_getElem? (i := 1) rfl) dX4_append_1 ?_
  refine lv_aload_n hx hb dX4_append_4 rfl (lv_at hl 0 rfl) ?_
  refine sv_get (own := RX4) (C := RX4) (Tf := TX4) (N := 11) (index := 9) (κ := (3, 1)) (v := .ref (h 14)) hx hb hts hown hK hW (fun _ h => List.mem_cons_of_mem _ (List.mem_append_right _ h)) (sx_i 13 hB (by decide)) (sx_c13 hB) rfl 2 (by decide) rfl rfl (List.mem_of_getElem? (i := 2) rfl) dX4_append_5 ?_
  refine sv_alen (t := 0) (v := (160 : Int32)) hx hb hK hW (sx_i 14 hB (by decide)) (sx_c14 hB) 0 rfl rfl dX4_append_8 ?_
  refine lv_icmp_lt (tgt := 14) hx hb dX4_append_9 (by decide) (fun c1 => ?_) (fun c1 => ?_)
  · replace hs := (sp_ite hs).1 c1
    refine lv_aload_n hx hb dX4_append_14 rfl (lv_at hl 0 rfl) ?_
    refine sv_get (own := RX4) (C := RX4) (Tf := TX4) (N := 11) (index := 9) (κ := (3, 1)) (v := .ref (h 14)) hx hb hts hown hK hW (fun _ h => List.mem_cons_of_mem _ (List.mem_append_right _ h)) (sx_i 13 hB (by decide)) (sx_c13 hB) rfl 2 (by decide) rfl rfl (List.mem_of_getElem? (i := 2) rfl) dX4_append_15 ?_
    refine lv_aload_n hx hb dX4_append_18 rfl (lv_at hl 0 rfl) ?_
    refine sv_get (own := RX4) (C := RX4) (Tf := TX4) (N := 11) (index := 30) (κ := (0, 0)) (v := .int (σ.1 13 0)) hx hb hts hown hK hW (fun _ h => List.mem_cons_of_mem _ (List.mem_append_right _ h)) (sx_i 13 hB (by decide)) (sx_c13 hB) rfl 0 (by decide) rfl rfl (List.mem_of_getElem? (i := 1) rfl) dX4_append_19 ?_
    refine lv_iload_n hx hb dX4_append_22 rfl (lv_at hl 1 rfl) ?_
    obtain ⟨r2, σ3, eσ3, hs⟩ := sp_bind hs
    refine sv_goV (σ' := σ3) (r := r2) hW F.2.2.2.1 (sv_runN (own := RX4) (host := "OpenWhileItRains") F hW (k_X7_put hB (sv_oA_of (sx_i 14 hB (by decide)) (sx_c14 hB)) eσ3 H.size) gX4_append_X7_put_n34 rfl ⟨rfl, rfl⟩ (F.2.2.1.1 _ (List.mem_of_getElem? (i := 6) rfl)) (List.mem_of_getElem? (i := 4) rfl) (List.mem_of_getElem? (i := 3) rfl) 3 (by decide +kernel) (sv_room2 (by omega) (by omega)) rfl hl.1 rfl (Nat.le_of_ble_eq_true rfl) dX4_append_23 ⟨Nat.zero_le _, Nat.zero_le _⟩) (fun H locs hW => ?_)
    refine lv_aload_n hx hb dX4_append_26 rfl (lv_at hl 0 rfl) ?_
    refine lv_dup hx hb dX4_append_27 rfl ?_
    refine sv_get (own := RX4) (C := RX4) (Tf := TX4) (N := 11) (index := 30) (κ := (0, 0)) (v := .int (σ3.1 13 0)) hx hb hts hown hK hW (fun _ h => List.mem_cons_of_mem _ (List.mem_append_right _ h)) (sx_i 13 hB (by decide)) (sx_c13 hB) rfl 0 (by decide) rfl rfl (List.mem_of_getElem? (i := 1) rfl) dX4_append_28 ?_
    refine lv_iconst (v := 1) hx hb dX4_append_31 (by decide) ?_
    refine lv_iadd hx hb dX4_append_32 ?_
    refine sv_putI (own := RX4) (C := RX4) (Tf := TX4) (N := 11) (index := 30) hx hb hts hown hK hW (fun _ h => List.mem_cons_of_mem _ (List.mem_append_right _ h)) tyX4 tyX4_ok nmX4 (sx_i 13 hB (by decide)) (sx_c13 hB) rfl 0 (by decide) rfl rfl (ty := .int) (by decide +kernel) rfl rfl (List.mem_of_getElem? (i := 1) rfl) dX4_append_33 (fun σ4 H locs eσ4 hW => ?_)
    replace hs := sp_let hs eσ4
    refine lv_iconst (v := 1) hx hb dX4_append_36 (by decide) ?_
    cases hs
    exact sv_iret hx hb hr rfl hlk hW dX4_append_37
  · replace hs := (sp_ite hs).2 c1
    refine lv_iconst (v := 0) hx hb dX4_append_12 (by decide) ?_
    cases hs
    exact sv_iret hx hb hr rfl hlk hW dX4_append_13
set_option maxRecDepth 100000 in
set_option maxHeartbeats 4000000 in
theorem k_X4_byteAt {qK qV : Nat → Nat} {l : Launch} {D : va_G} {T : Nat → ClassId} {h : Nat → Nat} {θ : sv_T} {a1 : Int32} {σ : sv_S} {r : Int32} {σ' : sv_S} (hB : sx_base θ)  (hs : q_X4_byteAt θ a1 σ = some (r, σ')) : sv_Mi (sx_X qK qV) l D T (sx_tys T) h θ yX4_byteAt wsX4_byteAt (sv_rm 0 0) [.ref (h 13), .int a1] σ r σ' := by
  intro sz
  refine sv_enter (cc := cX4_byteAt) (maxL := 2) (ret := (some .int)) (Qc := fun A => va_Qi (fun r2 (_ : Unit) => r2 = r) (fun _ t => va_P D vwCl (sv_ws T h θ σ') t.heap) A) sx_XP (by decide) rfl (Nat.le_of_ble_eq_true rfl) ?_
  intro p e s m args below meth c A F hr hlk ls H hl hW
  have hx := F.1.1
  have hb := F.1.2.1
  have hts := F.1.2.2.2.2
  have hown := F.1.2.2.2.1
  have hK := F.2.1
  obtain ⟨locs, hlocs⟩ : ∃ z : List Loc, z = [] := ⟨_, rfl⟩
  rw [← hlocs] at hW ⊢
  have hl : lv_has ls 2 [(0, .ref (h 13)), (1, .int a1)] := hl
  unfold q_X4_byteAt at hs
  refine lv_iload_n hx hb dX4_byteAt_0 rfl (lv_at hl 1 rfl) ?_
  refine lv_if_lt (tgt := 30) hx hb dX4_byteAt_1 (by decide) (fun c1 => ?_) (fun c1 => ?_)
  · replace hs := (sp_ite hs).1 c1
    refine lv_iconst (v := -1) hx hb dX4_byteAt_30 (by decide) ?_
    cases hs
    exact sv_iret hx hb hr rfl hlk hW dX4_byteAt_31
  · replace hs := (sp_ite hs).2 c1
    refine lv_iload_n hx hb dX4_byteAt_4 rfl (lv_at hl 1 rfl) ?_
    refine lv_aload_n hx hb dX4_byteAt_5 rfl (lv_at hl 0 rfl) ?_
    refine sv_get (own := RX4) (C := RX4) (Tf := TX4) (N := 11) (index := 30) (κ := (0, 0)) (v := .int (σ.1 13 0)) hx hb hts hown hK hW (fun _ h => List.mem_cons_of_mem _ (List.mem_append_right _ h)) (sx_i 13 hB (by decide)) (sx_c13 hB) rfl 0 (by decide) rfl rfl (List.mem_of_getElem? (i := 1) rfl) dX4_byteAt_6 ?_
    refine lv_icmp_ge (tgt := 30) hx hb dX4_byteAt_9 (by decide) (fun c2 => ?_) (fun c2 => ?_)
    · replace hs := (sp_ite hs).1 c2
      refine lv_iconst (v := -1) hx hb dX4_byteAt_30 (by decide) ?_
      cases hs
      exact sv_iret hx hb hr rfl hlk hW dX4_byteAt_31
    · replace hs := (sp_ite hs).2 c2
      refine lv_iload_n hx hb dX4_byteAt_12 rfl (lv_at hl 1 rfl) ?_
      refine lv_aload_n hx hb dX4_byteAt_13 rfl (lv_at hl 0 rfl) ?_
      refine sv_get (own := RX4) (C := RX4) (Tf := TX4) (N := 11) (index := 9) (κ := (3, 1)) (v := .ref (h 14)) hx hb hts hown hK hW (fun _ h => List.mem_cons_of_mem _ (List.mem_append_right _ h)) (sx_i 13 hB (by decide)) (sx_c13 hB) rfl 2 (by decide) rfl rfl (List.mem_of_getElem? (i := 2) rfl) dX4_byteAt_14 ?_
      refine sv_alen (t := 0) (v := (160 : Int32)) hx hb hK hW (sx_i 14 hB (by decide)) (sx_c14 hB) 0 rfl rfl dX4_byteAt_17 ?_
      refine lv_icmp_ge (tgt := 30) hx hb dX4_byteAt_18 (by decide) (fun c3 => ?_) (fun c3 => ?_)
      · replace hs := (sp_ite hs).1 c3
        refine lv_iconst (v := -1) hx hb dX4_byteAt_30 (by decide) ?_
        cases hs
        exact sv_iret hx hb hr rfl hlk hW dX4_byteAt_31
      · replace hs := (sp_ite hs).2 c3
        refine lv_aload_n hx hb dX4_byteAt_21 rfl (lv_at hl 0 rfl) ?_
        refine sv_get (own := RX4) (C := RX4) (Tf := TX4) (N := 11) (index := 9) (κ := (3, 1)) (v := .ref (h 14)) hx hb hts hown hK hW (fun _ h => List.mem_cons_of_mem _ (List.mem_append_right _ h)) (sx_i 13 hB (by decide)) (sx_c13 hB) rfl 2 (by decide) rfl rfl (List.mem_of_getElem? (i := 2) rfl) dX4_byteAt_22 ?_
        refine lv_iload_n hx hb dX4_byteAt_25 rfl (lv_at hl 1 rfl) ?_
        obtain ⟨hi4, hs⟩ := sp_g hs
        refine sv_iald hx hb hK hW (sx_i 14 hB (by decide)) (sx_c14 hB) 0 rfl hi4 dX4_byteAt_26 ?_
        refine lv_goto (tgt := 31) hx hb dX4_byteAt_27 (by decide) ?_
        cases hs
        exact sv_iret hx hb hr rfl hlk hW dX4_byteAt_31
set_option maxRecDepth 100000 in
set_option maxHeartbeats 4000000 in
theorem k_X4_isLetter {qK qV : Nat → Nat} {l : Launch} {D : va_G} {T : Nat → ClassId} {h : Nat → Nat} {θ : sv_T} {a1 : Int32} {σ : sv_S} {r : Int32} {σ' : sv_S} (hB : sx_base θ)  (hs : q_X4_isLetter θ a1 σ = some (r, σ')) : sv_Mi (sx_X qK qV) l D T (sx_tys T) h θ yX4_isLetter wsX4_isLetter (sv_rm 0 0) [.int a1] σ r σ' := by
  intro sz
  refine sv_enter (cc := cX4_isLetter) (maxL := 1) (ret := (some .boolean)) (Qc := fun A => va_Qi (fun r2 (_ : Unit) => r2 = r) (fun _ t => va_P D vwCl (sv_ws T h θ σ') t.heap) A) sx_XP (by decide) rfl (Nat.le_of_ble_eq_true rfl) ?_
  intro p e s m args below meth c A F hr hlk ls H hl hW
  have hx := F.1.1
  have hb := F.1.2.1
  have hts := F.1.2.2.2.2
  have hown := F.1.2.2.2.1
  have hK := F.2.1
  obtain ⟨locs, hlocs⟩ : ∃ z : List Loc, z = [] := ⟨_, rfl⟩
  rw [← hlocs] at hW ⊢
  have hl : lv_has ls 1 [(0, .int a1)] := hl
  unfold q_X4_isLetter at hs
  refine lv_iload_n hx hb dX4_isLetter_0 rfl (lv_at hl 0 rfl) ?_
  refine lv_bipush (v := 97) hx hb dX4_isLetter_1 (by decide) ?_
  refine lv_icmp_lt (tgt := 16) hx hb dX4_isLetter_3 (by decide) (fun c1 => ?_) (fun c1 => ?_)
  · replace hs := (sp_ite hs).1 c1
    refine lv_iconst (v := 0) hx hb dX4_isLetter_16 (by decide) ?_
    cases hs
    exact sv_iret hx hb hr rfl hlk hW dX4_isLetter_17
  · replace hs := (sp_ite hs).2 c1
    refine lv_iload_n hx hb dX4_isLetter_6 rfl (lv_at hl 0 rfl) ?_
    refine lv_bipush (v := 122) hx hb dX4_isLetter_7 (by decide) ?_
    refine lv_icmp_gt (tgt := 16) hx hb dX4_isLetter_9 (by decide) (fun c2 => ?_) (fun c2 => ?_)
    · replace hs := (sp_ite hs).1 c2
      refine lv_iconst (v := 0) hx hb dX4_isLetter_16 (by decide) ?_
      cases hs
      exact sv_iret hx hb hr rfl hlk hW dX4_isLetter_17
    · replace hs := (sp_ite hs).2 c2
      refine lv_iconst (v := 1) hx hb dX4_isLetter_12 (by decide) ?_
      refine lv_goto (tgt := 17) hx hb dX4_isLetter_13 (by decide) ?_
      cases hs
      exact sv_iret hx hb hr rfl hlk hW dX4_isLetter_17
set_option maxRecDepth 100000 in
set_option maxHeartbeats 4000000 in
theorem k_J0_coder_7d493 {qK qV : Nat → Nat} {l : Launch} {D : va_G} {T : Nat → ClassId} {h : Nat → Nat} {θ : sv_T} {kq : Nat} {σ : sv_S} {r : Int32} {σ' : sv_S} (hB : sx_base θ) (hkq : kq < 2) (hs : q_J0_coder_7d493 θ kq σ = some (r, σ')) : sv_Mi (sx_X qK qV) l D T (sx_tys T) h θ yJ0_coder_7d493 wsJ0_coder_7d493 (sv_rm 0 0) [.ref (qK kq)] σ r σ' := by
  intro sz
  refine sv_enter (cc := cJ0_coder_7d493) (maxL := 1) (ret := (some .byte)) (Qc := fun A => va_Qi (fun r2 (_ : Unit) => r2 = r) (fun _ t => va_P D vwCl (sv_ws T h θ σ') t.heap) A) sx_XP (by decide) rfl (Nat.le_of_ble_eq_true rfl) ?_
  intro p e s m args below meth c A F hr hlk ls H hl hW
  have hx := F.1.1
  have hb := F.1.2.1
  have hts := F.1.2.2.2.2
  have hown := F.1.2.2.2.1
  have hK := F.2.1
  obtain ⟨locs, hlocs⟩ : ∃ z : List Loc, z = [] := ⟨_, rfl⟩
  rw [← hlocs] at hW ⊢
  have hl : lv_has ls 1 [(0, .ref (qK kq))] := hl
  unfold q_J0_coder_7d493 at hs
  refine va_gets (C := "java/lang/String") (n := "COMPACT_STRINGS") (d := "Z") (own := RJ0) (ref := "java/lang/String") hx hb F.2.2.1.2.2.2.2.2.1 hW.2.2 hown (hts _ (List.mem_of_getElem? (i := 1) rfl)) (fun _ h9 => h9) dJ0_coder_7d493_0 ?_
  refine lv_if_eq (tgt := 13) hx hb dJ0_coder_7d493_3 (by decide) (fun c2 => absurd c2 (by decide)) (fun c2 => ?_)
  refine lv_aload_n hx hb dJ0_coder_7d493_6 rfl (lv_at hl 0 rfl) ?_
  refine vk_getf (own := RJ0) (ref := "java/lang/String") hx hb (F.2.2.1.2.2.2.2.1.1.1 kq hkq).2.1 hW.2.2 hown (hts _ (List.mem_of_getElem? (i := 2) rfl)) (fun _ h9 => h9) dJ0_coder_7d493_7 ?_
  refine lv_goto (tgt := 14) hx hb dJ0_coder_7d493_10 (by decide) ?_
  cases hs
  exact sv_iret hx hb hr rfl hlk hW dJ0_coder_7d493_14
set_option maxRecDepth 100000 in
set_option maxHeartbeats 4000000 in
theorem k_J0_length_8abf5 {qK qV : Nat → Nat} {l : Launch} {D : va_G} {T : Nat → ClassId} {h : Nat → Nat} {θ : sv_T} {kq : Nat} {σ : sv_S} {r : Int32} {σ' : sv_S} (hB : sx_base θ) (hkq : kq < 2) (hs : q_J0_length_8abf5 θ kq σ = some (r, σ')) : sv_Mi (sx_X qK qV) l D T (sx_tys T) h θ yJ0_length_8abf5 wsJ0_length_8abf5 (sv_rm 1 20) [.ref (qK kq)] σ r σ' := by
  intro sz
  refine sv_enter (cc := cJ0_length_8abf5) (maxL := 1) (ret := (some .int)) (Qc := fun A => va_Qi (fun r2 (_ : Unit) => r2 = r) (fun _ t => va_P D vwCl (sv_ws T h θ σ') t.heap) A) sx_XP (by decide) rfl (Nat.le_of_ble_eq_true rfl) ?_
  intro p e s m args below meth c A F hr hlk ls H hl hW
  have hx := F.1.1
  have hb := F.1.2.1
  have hts := F.1.2.2.2.2
  have hown := F.1.2.2.2.1
  have hK := F.2.1
  obtain ⟨locs, hlocs⟩ : ∃ z : List Loc, z = [] := ⟨_, rfl⟩
  rw [← hlocs] at hW ⊢
  have hl : lv_has ls 1 [(0, .ref (qK kq))] := hl
  unfold q_J0_length_8abf5 at hs
  refine lv_aload_n hx hb dJ0_length_8abf5_0 rfl (lv_at hl 0 rfl) ?_
  refine vk_getf (own := RJ0) (ref := "java/lang/String") hx hb (F.2.2.1.2.2.2.2.1.1.1 kq hkq).2.2.1 hW.2.2 hown (hts _ (List.mem_of_getElem? (i := 1) rfl)) (fun _ h9 => h9) dJ0_length_8abf5_1 ?_
  refine va_tlen (v := (Int32.ofNat (sx_slen.getD kq 0))) hx hb (F.2.2.1.2.2.2.2.1.1.1 kq hkq).2.2.2 hW.2.2 rfl dJ0_length_8abf5_4 ?_
  refine lv_aload_n hx hb dJ0_length_8abf5_5 rfl (lv_at hl 0 rfl) ?_
  obtain ⟨r1, σ2, eσ2, hs⟩ := sp_bind hs
  refine sv_goI (σ' := σ2) (r := r1) hW F.2.2.2.1 (sv_runR (C := "java/lang/String") F hW (k_J0_coder_7d493 hB hkq eσ2 H.size) gJ0_length_8abf5_J0_coder_7d493 rfl ⟨rfl, rfl⟩ 0 (by decide +kernel) (sv_room2 (by omega) (by omega)) (vk_recv F.2.2.1.2.2.2.2.1.1 hkq hW.2.2) rfl hl.1 rfl (Nat.le_of_ble_eq_true rfl) dJ0_length_8abf5_6 ⟨Nat.zero_le _, Nat.zero_le _⟩) (fun H locs hW => ?_)
  refine lv_ishr hx hb dJ0_length_8abf5_9 ?_
  cases hs
  exact sv_iret hx hb hr rfl hlk hW dJ0_length_8abf5_10

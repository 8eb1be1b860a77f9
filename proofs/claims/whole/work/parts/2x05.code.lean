set_option maxRecDepth 100000 in
set_option maxHeartbeats 4000000 in
theorem b_X4_readOne_15 {qK qV : Nat → Nat} {p : Program} {l : Launch} {e : Env} {s : State} {m : MethodId} {args : Array Value} {below : List Frame} {meth : Method} {c : Code} {D : va_G} {T : Nat → ClassId} {A : Nat → Prop} {h : Nat → Nat} {θ : sv_T} {a1 : Int32} {r : Unit} {σ' : sv_S} (hB : sx_base θ) (G : Nat → sv_T → Int32 → sv_S → Option (Unit × sv_S)) (fr lr : Nat) (hf : 20 ≤ fr) (hlr : 800 ≤ lr) (hG0 : ∀ (a1 : Int32) (σ : sv_S) (r : Unit) (σ1 : sv_S), G 0 θ a1 σ = some (r, σ1) → sv_Mv (sx_X qK qV) l D T (sx_tys T) h θ yX4_readOr wsX4_readOr (sv_rm fr lr) [.ref (h 13), .int a1] σ r σ1) (hG1 : ∀ (a1 : Int32) (σ : sv_S) (r : Unit) (σ1 : sv_S), G 1 θ a1 σ = some (r, σ1) → sv_Mv (sx_X qK qV) l D T (sx_tys T) h θ yX4_readAnd wsX4_readAnd (sv_rm fr lr) [.ref (h 13), .int a1] σ r σ1) (hG2 : ∀ (a1 : Int32) (σ : sv_S) (r : Unit) (σ1 : sv_S), G 2 θ a1 σ = some (r, σ1) → sv_Mv (sx_X qK qV) l D T (sx_tys T) h θ yX4_readNot wsX4_readNot (sv_rm fr lr) [.ref (h 13), .int a1] σ r σ1) (hG3 : ∀ (a1 : Int32) (σ : sv_S) (r : Unit) (σ1 : sv_S), G 3 θ a1 σ = some (r, σ1) → sv_Mv (sx_X qK qV) l D T (sx_tys T) h θ yX4_readSum wsX4_readSum (sv_rm fr lr) [.ref (h 13), .int a1] σ r σ1) (hG4 : ∀ (a1 : Int32) (σ : sv_S) (r : Unit) (σ1 : sv_S), G 4 θ a1 σ = some (r, σ1) → sv_Mv (sx_X qK qV) l D T (sx_tys T) h θ yX4_readTerm wsX4_readTerm (sv_rm fr lr) [.ref (h 13), .int a1] σ r σ1) (hG5 : ∀ (a1 : Int32) (σ : sv_S) (r : Unit) (σ1 : sv_S), G 5 θ a1 σ = some (r, σ1) → sv_Mv (sx_X qK qV) l D T (sx_tys T) h θ yX4_readOne wsX4_readOne (sv_rm fr lr) [.ref (h 13), .int a1] σ r σ1)  (F : sv_F (sx_X qK qV) p m c cX4_readOne 3 s args wsX4_readOne RX4 D (sx_tys T) A) (hr : meth.sig.returnType = none) (hlk : meth.locks = false)  : ∀  (σ : sv_S) (H : Heap) (locs : List Loc) (ls : Array Slot), lv_has ls 3 [(0, .ref (h 13))] → sv_W D T A s h θ σ H locs → q_X4_readOne_B15 θ G a1 σ = some (r, σ') → W p l e (sv_rm (fr + 1) (lr + 40)) s m args below meth c H locs 0 0 (MQ below (va_Qv (fun (_ : Unit) => True) (fun _ t => va_P D vwCl (sv_ws T h θ σ') t.heap) A) args s 0 0 A) (F0 m 15 ls []) := by
  have hx := F.1.1
  have hb := F.1.2.1
  have hts := F.1.2.2.2.2
  have hown := F.1.2.2.2.1
  have hK := F.2.1
  intro σ H locs ls hl hW hs
  unfold q_X4_readOne_B15 at hs
  refine lv_aload_n hx hb dX4_readOne_15 rfl (lv_at hl 0 rfl) ?_
  refine lv_aload_n hx hb dX4_readOne_16 rfl (lv_at hl 0 rfl) ?_
  refine sv_get (own := RX4) (C := RX4) (Tf := TX4) (N := 11) (index := 21) (κ := (3, 4)) (v := .ref (h 17)) hx hb hts hown hK hW (fun _ h => List.mem_cons_of_mem _ (List.mem_append_right _ h)) (sx_i 13 hB (by decide)) (sx_c13 hB) rfl 5 (by decide) rfl rfl (List.mem_of_getElem? (i := 1) rfl) dX4_readOne_17 ?_
  refine lv_aload_n hx hb dX4_readOne_20 rfl (lv_at hl 0 rfl) ?_
  refine sv_get (own := RX4) (C := RX4) (Tf := TX4) (N := 11) (index := 41) (κ := (0, 0)) (v := .int (σ.1 13 7)) hx hb hts hown hK hW (fun _ h => List.mem_cons_of_mem _ (List.mem_append_right _ h)) (sx_i 13 hB (by decide)) (sx_c13 hB) rfl 7 (by decide) rfl rfl (List.mem_of_getElem? (i := 2) rfl) dX4_readOne_21 ?_
  obtain ⟨r4, σ5, eσ5, hs⟩ := sp_bind hs
  refine sv_goI (σ' := σ5) (r := r4) hW F.2.2.2.1 (sv_runN (own := RX4) (host := "OpenWhileItRains") F hW (k_X7_at hB (sv_oA_of (sx_i 17 hB (by decide)) (sx_c17 hB)) eσ5 H.size) gX4_readOne_X7_at_n119 rfl ⟨rfl, rfl⟩ (F.2.2.1.1 _ (List.mem_of_getElem? (i := 7) rfl)) (List.mem_of_getElem? (i := 11) rfl) (List.mem_of_getElem? (i := 10) rfl) 2 (by decide +kernel) (sv_room2 (by omega) (by omega)) rfl hl.1 rfl (Nat.le_of_ble_eq_true rfl) dX4_readOne_24 ⟨Nat.zero_le _, Nat.zero_le _⟩) (fun H locs hW => ?_)
  obtain ⟨r6, σ7, eσ7, hs⟩ := sp_bind hs
  refine sv_goV (σ' := σ7) (r := r6) hW F.2.2.2.1 (sv_runV (C := RX4) F hW (k_X4_emit hB eσ7 H.size) gX4_readOne_X4_emit rfl ⟨rfl, rfl⟩ 1 (by decide +kernel) (sv_room2 (by omega) (by omega)) (sx_i 13 hB (by decide)) (sx_c13 hB) rfl rfl hl.1 rfl (Nat.le_of_ble_eq_true rfl) dX4_readOne_27 ⟨Nat.zero_le _, Nat.zero_le _⟩) (fun H locs hW => ?_)
  refine lv_aload_n hx hb dX4_readOne_30 rfl (lv_at hl 0 rfl) ?_
  refine lv_dup hx hb dX4_readOne_31 rfl ?_
  refine sv_get (own := RX4) (C := RX4) (Tf := TX4) (N := 11) (index := 41) (κ := (0, 0)) (v := .int (σ7.1 13 7)) hx hb hts hown hK hW (fun _ h => List.mem_cons_of_mem _ (List.mem_append_right _ h)) (sx_i 13 hB (by decide)) (sx_c13 hB) rfl 7 (by decide) rfl rfl (List.mem_of_getElem? (i := 2) rfl) dX4_readOne_32 ?_
  refine lv_iconst (v := 1) hx hb dX4_readOne_35 (by decide) ?_
  refine lv_iadd hx hb dX4_readOne_36 ?_
  refine sv_putI (own := RX4) (C := RX4) (Tf := TX4) (N := 11) (index := 41) hx hb hts hown hK hW (fun _ h => List.mem_cons_of_mem _ (List.mem_append_right _ h)) tyX4 tyX4_ok nmX4 (sx_i 13 hB (by decide)) (sx_c13 hB) rfl 7 (by decide) rfl rfl (ty := .int) (by decide +kernel) rfl rfl (List.mem_of_getElem? (i := 2) rfl) dX4_readOne_37 (fun σ8 H locs eσ8 hW => ?_)
  replace hs := sp_let hs eσ8
  refine lv_goto (tgt := 121) hx hb dX4_readOne_40 (by decide) ?_
  cases hs
  exact sv_vret hx hb hr hlk hW dX4_readOne_121
set_option maxRecDepth 100000 in
set_option maxHeartbeats 4000000 in
theorem b_X4_readOne_80 {qK qV : Nat → Nat} {p : Program} {l : Launch} {e : Env} {s : State} {m : MethodId} {args : Array Value} {below : List Frame} {meth : Method} {c : Code} {D : va_G} {T : Nat → ClassId} {A : Nat → Prop} {h : Nat → Nat} {θ : sv_T} {a1 : Int32} {r : Unit} {σ' : sv_S} (hB : sx_base θ) (G : Nat → sv_T → Int32 → sv_S → Option (Unit × sv_S)) (fr lr : Nat) (hf : 20 ≤ fr) (hlr : 800 ≤ lr) (hG0 : ∀ (a1 : Int32) (σ : sv_S) (r : Unit) (σ1 : sv_S), G 0 θ a1 σ = some (r, σ1) → sv_Mv (sx_X qK qV) l D T (sx_tys T) h θ yX4_readOr wsX4_readOr (sv_rm fr lr) [.ref (h 13), .int a1] σ r σ1) (hG1 : ∀ (a1 : Int32) (σ : sv_S) (r : Unit) (σ1 : sv_S), G 1 θ a1 σ = some (r, σ1) → sv_Mv (sx_X qK qV) l D T (sx_tys T) h θ yX4_readAnd wsX4_readAnd (sv_rm fr lr) [.ref (h 13), .int a1] σ r σ1) (hG2 : ∀ (a1 : Int32) (σ : sv_S) (r : Unit) (σ1 : sv_S), G 2 θ a1 σ = some (r, σ1) → sv_Mv (sx_X qK qV) l D T (sx_tys T) h θ yX4_readNot wsX4_readNot (sv_rm fr lr) [.ref (h 13), .int a1] σ r σ1) (hG3 : ∀ (a1 : Int32) (σ : sv_S) (r : Unit) (σ1 : sv_S), G 3 θ a1 σ = some (r, σ1) → sv_Mv (sx_X qK qV) l D T (sx_tys T) h θ yX4_readSum wsX4_readSum (sv_rm fr lr) [.ref (h 13), .int a1] σ r σ1) (hG4 : ∀ (a1 : Int32) (σ : sv_S) (r : Unit) (σ1 : sv_S), G 4 θ a1 σ = some (r, σ1) → sv_Mv (sx_X qK qV) l D T (sx_tys T) h θ yX4_readTerm wsX4_readTerm (sv_rm fr lr) [.ref (h 13), .int a1] σ r σ1) (hG5 : ∀ (a1 : Int32) (σ : sv_S) (r : Unit) (σ1 : sv_S), G 5 θ a1 σ = some (r, σ1) → sv_Mv (sx_X qK qV) l D T (sx_tys T) h θ yX4_readOne wsX4_readOne (sv_rm fr lr) [.ref (h 13), .int a1] σ r σ1)  (F : sv_F (sx_X qK qV) p m c cX4_readOne 3 s args wsX4_readOne RX4 D (sx_tys T) A) (hr : meth.sig.returnType = none) (hlk : meth.locks = false)  : ∀ (x1 : Int32) (x2 : Int32) (σ : sv_S) (H : Heap) (locs : List Loc) (ls : Array Slot), lv_has ls 3 [(0, .ref (h 13)), (1, .int x1), (2, .int x2)] → sv_W D T A s h θ σ H locs → q_X4_readOne_B80 θ G a1 x1 x2 σ = some (r, σ') → W p l e (sv_rm (fr + 1) (lr + 40)) s m args below meth c H locs 0 0 (MQ below (va_Qv (fun (_ : Unit) => True) (fun _ t => va_P D vwCl (sv_ws T h θ σ') t.heap) A) args s 0 0 A) (F0 m 80 ls []) := by
  have hx := F.1.1
  have hb := F.1.2.1
  have hts := F.1.2.2.2.2
  have hown := F.1.2.2.2.1
  have hK := F.2.1
  intro x1 x2 σ H locs ls hl hW hs
  unfold q_X4_readOne_B80 at hs
  refine lv_iload_n hx hb dX4_readOne_80 rfl (lv_at hl 1 rfl) ?_
  refine lv_iconst (v := 5) hx hb dX4_readOne_81 (by decide) ?_
  refine lv_icmp_ge (tgt := 117) hx hb dX4_readOne_82 (by decide) (fun c11 => ?_) (fun c11 => ?_)
  · replace hs := (sp_ite hs).1 c11
    refine lv_aload_n hx hb dX4_readOne_117 rfl (lv_at hl 0 rfl) ?_
    obtain ⟨r12, σ13, eσ13, hs⟩ := sp_bind hs
    refine sv_goV (σ' := σ13) (r := r12) hW F.2.2.2.1 (sv_runV (C := RX4) F hW (k_X4_fail hB eσ13 H.size) gX4_readOne_X4_fail rfl ⟨rfl, rfl⟩ 0 (by decide +kernel) (sv_room2 (by omega) (by omega)) (sx_i 13 hB (by decide)) (sx_c13 hB) rfl rfl hl.1 rfl (Nat.le_of_ble_eq_true rfl) dX4_readOne_118 ⟨Nat.zero_le _, Nat.zero_le _⟩) (fun H locs hW => ?_)
    cases hs
    exact sv_vret hx hb hr hlk hW dX4_readOne_121
  · replace hs := (sp_ite hs).2 c11
    refine lv_iload_n hx hb dX4_readOne_85 rfl (lv_at hl 2 rfl) ?_
    refine lv_bipush (v := 40) hx hb dX4_readOne_86 (by decide) ?_
    refine lv_icmp_ne (tgt := 117) hx hb dX4_readOne_88 (by decide) (fun c14 => ?_) (fun c14 => ?_)
    · replace hs := (sp_ite hs).2 c14
      refine lv_aload_n hx hb dX4_readOne_117 rfl (lv_at hl 0 rfl) ?_
      obtain ⟨r15, σ16, eσ16, hs⟩ := sp_bind hs
      refine sv_goV (σ' := σ16) (r := r15) hW F.2.2.2.1 (sv_runV (C := RX4) F hW (k_X4_fail hB eσ16 H.size) gX4_readOne_X4_fail rfl ⟨rfl, rfl⟩ 0 (by decide +kernel) (sv_room2 (by omega) (by omega)) (sx_i 13 hB (by decide)) (sx_c13 hB) rfl rfl hl.1 rfl (Nat.le_of_ble_eq_true rfl) dX4_readOne_118 ⟨Nat.zero_le _, Nat.zero_le _⟩) (fun H locs hW => ?_)
      cases hs
      exact sv_vret hx hb hr hlk hW dX4_readOne_121
    · replace hs := (sp_ite hs).1 c14
      refine lv_aload_n hx hb dX4_readOne_91 rfl (lv_at hl 0 rfl) ?_
      refine lv_dup hx hb dX4_readOne_92 rfl ?_
      refine sv_get (own := RX4) (C := RX4) (Tf := TX4) (N := 11) (index := 41) (κ := (0, 0)) (v := .int (σ.1 13 7)) hx hb hts hown hK hW (fun _ h => List.mem_cons_of_mem _ (List.mem_append_right _ h)) (sx_i 13 hB (by decide)) (sx_c13 hB) rfl 7 (by decide) rfl rfl (List.mem_of_getElem? (i := 2) rfl) dX4_readOne_93 ?_
      refine lv_iconst (v := 1) hx hb dX4_readOne_96 (by decide) ?_
      refine lv_iadd hx hb dX4_readOne_97 ?_
      refine sv_putI (own := RX4) (C := RX4) (Tf := TX4) (N := 11) (index := 41) hx hb hts hown hK hW (fun _ h => List.mem_cons_of_mem _ (List.mem_append_right _ h)) tyX4 tyX4_ok nmX4 (sx_i 13 hB (by decide)) (sx_c13 hB) rfl 7 (by decide) rfl rfl (ty := .int) (by decide +kernel) rfl rfl (List.mem_of_getElem? (i := 2) rfl) dX4_readOne_98 (fun σ17 H locs eσ17 hW => ?_)
      replace hs := sp_let hs eσ17
      refine lv_aload_n hx hb dX4_readOne_101 rfl (lv_at hl 0 rfl) ?_
      refine lv_iload_n hx hb dX4_readOne_102 rfl (lv_at hl 1 rfl) ?_
      refine lv_iconst (v := 1) hx hb dX4_readOne_103 (by decide) ?_
      refine lv_iadd hx hb dX4_readOne_104 ?_
      obtain ⟨r18, σ19, eσ19, hs⟩ := sp_bind hs
      refine sv_goV (σ' := σ19) (r := r18) hW F.2.2.2.1 (sv_runV (C := RX4) F hW (hG0 (x1 + (1 : Int32)) _ _ _ eσ19 H.size) gX4_readOne_X4_readOr rfl ⟨rfl, rfl⟩ 1 (by decide +kernel) (sv_room2 (by omega) (by omega)) (sx_i 13 hB (by decide)) (sx_c13 hB) rfl rfl hl.1 rfl (Nat.le_of_ble_eq_true rfl) dX4_readOne_105 ⟨Nat.zero_le _, Nat.zero_le _⟩) (fun H locs hW => ?_)
      refine lv_aload_n hx hb dX4_readOne_108 rfl (lv_at hl 0 rfl) ?_
      refine lv_bipush (v := 41) hx hb dX4_readOne_109 (by decide) ?_
      obtain ⟨r20, σ21, eσ21, hs⟩ := sp_bind hs
      refine sv_goV (σ' := σ21) (r := r20) hW F.2.2.2.1 (sv_runV (C := RX4) F hW (k_X4_expect hB eσ21 H.size) gX4_readOne_X4_expect rfl ⟨rfl, rfl⟩ 1 (by decide +kernel) (sv_room2 (by omega) (by omega)) (sx_i 13 hB (by decide)) (sx_c13 hB) rfl rfl hl.1 rfl (Nat.le_of_ble_eq_true rfl) dX4_readOne_111 ⟨Nat.zero_le _, Nat.zero_le _⟩) (fun H locs hW => ?_)
      refine lv_goto (tgt := 121) hx hb dX4_readOne_114 (by decide) ?_
      cases hs
      exact sv_vret hx hb hr hlk hW dX4_readOne_121
set_option maxRecDepth 100000 in
set_option maxHeartbeats 4000000 in
theorem k_X4_readOne_b {qK qV : Nat → Nat} {l : Launch} {D : va_G} {T : Nat → ClassId} {h : Nat → Nat} {θ : sv_T} {a1 : Int32} {σ : sv_S} {r : Unit} {σ' : sv_S} (hB : sx_base θ) (G : Nat → sv_T → Int32 → sv_S → Option (Unit × sv_S)) (fr lr : Nat) (hf : 20 ≤ fr) (hlr : 800 ≤ lr) (hG0 : ∀ (a1 : Int32) (σ : sv_S) (r : Unit) (σ1 : sv_S), G 0 θ a1 σ = some (r, σ1) → sv_Mv (sx_X qK qV) l D T (sx_tys T) h θ yX4_readOr wsX4_readOr (sv_rm fr lr) [.ref (h 13), .int a1] σ r σ1) (hG1 : ∀ (a1 : Int32) (σ : sv_S) (r : Unit) (σ1 : sv_S), G 1 θ a1 σ = some (r, σ1) → sv_Mv (sx_X qK qV) l D T (sx_tys T) h θ yX4_readAnd wsX4_readAnd (sv_rm fr lr) [.ref (h 13), .int a1] σ r σ1) (hG2 : ∀ (a1 : Int32) (σ : sv_S) (r : Unit) (σ1 : sv_S), G 2 θ a1 σ = some (r, σ1) → sv_Mv (sx_X qK qV) l D T (sx_tys T) h θ yX4_readNot wsX4_readNot (sv_rm fr lr) [.ref (h 13), .int a1] σ r σ1) (hG3 : ∀ (a1 : Int32) (σ : sv_S) (r : Unit) (σ1 : sv_S), G 3 θ a1 σ = some (r, σ1) → sv_Mv (sx_X qK qV) l D T (sx_tys T) h θ yX4_readSum wsX4_readSum (sv_rm fr lr) [.ref (h 13), .int a1] σ r σ1) (hG4 : ∀ (a1 : Int32) (σ : sv_S) (r : Unit) (σ1 : sv_S), G 4 θ a1 σ = some (r, σ1) → sv_Mv (sx_X qK qV) l D T (sx_tys T) h θ yX4_readTerm wsX4_readTerm (sv_rm fr lr) [.ref (h 13), .int a1] σ r σ1) (hG5 : ∀ (a1 : Int32) (σ : sv_S) (r : Unit) (σ1 : sv_S), G 5 θ a1 σ = some (r, σ1) → sv_Mv (sx_X qK qV) l D T (sx_tys T) h θ yX4_readOne wsX4_readOne (sv_rm fr lr) [.ref (h 13), .int a1] σ r σ1)  (hs : q_X4_readOne_b θ G a1 σ = some (r, σ')) : sv_Mv (sx_X qK qV) l D T (sx_tys T) h θ yX4_readOne wsX4_readOne (sv_rm (fr + 1) (lr + 40)) [.ref (h 13), .int a1] σ r σ' := by
  intro sz
  refine sv_enter (cc := cX4_readOne) (maxL := 3) (ret := none) (Qc := fun A => va_Qv (fun (_ : Unit) => True) (fun _ t => va_P D vwCl (sv_ws T h θ σ') t.heap) A) sx_XP (by decide) rfl (Nat.le_of_ble_eq_true rfl) ?_
  intro p e s m args below meth c A F hr hlk ls H hl hW
  have hx := F.1.1
  have hb := F.1.2.1
  have hts := F.1.2.2.2.2
  have hown := F.1.2.2.2.1
  have hK := F.2.1
  obtain ⟨locs, hlocs⟩ : ∃ z : List Loc, z = [] := ⟨_, rfl⟩
  rw [← hlocs] at hW ⊢
  have hl : lv_has ls 3 [(0, .ref (h 13)), (1, .int a1)] := hl
  unfold q_X4_readOne_b at hs
  refine lv_aload_n hx hb dX4_readOne_0 rfl (lv_at hl 0 rfl) ?_
  obtain ⟨r1, σ2, eσ2, hs⟩ := sp_bind hs
  refine sv_goI (σ' := σ2) (r := r1) hW F.2.2.2.1 (sv_runV (C := RX4) F hW (k_X4_token hB eσ2 H.size) gX4_readOne_X4_token rfl ⟨rfl, rfl⟩ 0 (by decide +kernel) (sv_room2 (by omega) (by omega)) (sx_i 13 hB (by decide)) (sx_c13 hB) rfl rfl hl.1 rfl (Nat.le_of_ble_eq_true rfl) dX4_readOne_1 ⟨Nat.zero_le _, Nat.zero_le _⟩) (fun H locs hW => ?_)
  refine lv_istore_n (lv' := [(2, .int r1), (0, .ref (h 13)), (1, .int a1)]) hx hb dX4_readOne_4 rfl hl (by decide) rfl (fun ls hl => ?_)
  refine lv_iload_n hx hb dX4_readOne_5 rfl (lv_at hl 0 rfl) ?_
  refine lv_iconst (v := 1) hx hb dX4_readOne_6 (by decide) ?_
  refine lv_icmp_eq (tgt := 15) hx hb dX4_readOne_7 (by decide) (fun c3 => ?_) (fun c3 => ?_)
  · replace hs := (sp_ite hs).1 c3
    exact b_X4_readOne_15 hB G fr lr hf hlr hG0 hG1 hG2 hG3 hG4 hG5 F hr hlk σ2 H locs ls (lv_sub hl [1] rfl) hW hs
  · replace hs := (sp_ite hs).2 c3
    refine lv_iload_n hx hb dX4_readOne_10 rfl (lv_at hl 0 rfl) ?_
    refine lv_iconst (v := 2) hx hb dX4_readOne_11 (by decide) ?_
    refine lv_icmp_ne (tgt := 43) hx hb dX4_readOne_12 (by decide) (fun c9 => ?_) (fun c9 => ?_)
    · replace hs := (sp_ite hs).2 c9
      refine lv_iload_n hx hb dX4_readOne_43 rfl (lv_at hl 2 rfl) ?_
      refine lv_iconst (v := 5) hx hb dX4_readOne_44 (by decide) ?_
      refine lv_icmp_ge (tgt := 80) hx hb dX4_readOne_45 (by decide) (fun c10 => ?_) (fun c10 => ?_)
      · replace hs := (sp_ite hs).1 c10
        exact b_X4_readOne_80 hB G fr lr hf hlr hG0 hG1 hG2 hG3 hG4 hG5 F hr hlk a1 r1 σ2 H locs ls (lv_sub hl [1, 2, 0] rfl) hW hs
      · replace hs := (sp_ite hs).2 c10
        refine lv_iload_n hx hb dX4_readOne_48 rfl (lv_at hl 0 rfl) ?_
        refine lv_bipush (v := 45) hx hb dX4_readOne_49 (by decide) ?_
        refine lv_icmp_ne (tgt := 80) hx hb dX4_readOne_51 (by decide) (fun c22 => ?_) (fun c22 => ?_)
        · replace hs := (sp_ite hs).2 c22
          exact b_X4_readOne_80 hB G fr lr hf hlr hG0 hG1 hG2 hG3 hG4 hG5 F hr hlk a1 r1 σ2 H locs ls (lv_sub hl [1, 2, 0] rfl) hW hs
        · replace hs := (sp_ite hs).1 c22
          refine lv_aload_n hx hb dX4_readOne_54 rfl (lv_at hl 1 rfl) ?_
          refine lv_dup hx hb dX4_readOne_55 rfl ?_
          refine sv_get (own := RX4) (C := RX4) (Tf := TX4) (N := 11) (index := 41) (κ := (0, 0)) (v := .int (σ2.1 13 7)) hx hb hts hown hK hW (fun _ h => List.mem_cons_of_mem _ (List.mem_append_right _ h)) (sx_i 13 hB (by decide)) (sx_c13 hB) rfl 7 (by decide) rfl rfl (List.mem_of_getElem? (i := 2) rfl) dX4_readOne_56 ?_
          refine lv_iconst (v := 1) hx hb dX4_readOne_59 (by decide) ?_
          refine lv_iadd hx hb dX4_readOne_60 ?_
          refine sv_putI (own := RX4) (C := RX4) (Tf := TX4) (N := 11) (index := 41) hx hb hts hown hK hW (fun _ h => List.mem_cons_of_mem _ (List.mem_append_right _ h)) tyX4 tyX4_ok nmX4 (sx_i 13 hB (by decide)) (sx_c13 hB) rfl 7 (by decide) rfl rfl (ty := .int) (by decide +kernel) rfl rfl (List.mem_of_getElem? (i := 2) rfl) dX4_readOne_61 (fun σ23 H locs eσ23 hW => ?_)
          replace hs := sp_let hs eσ23
          refine lv_aload_n hx hb dX4_readOne_64 rfl (lv_at hl 1 rfl) ?_
          refine lv_iload_n hx hb dX4_readOne_65 rfl (lv_at hl 2 rfl) ?_
          refine lv_iconst (v := 1) hx hb dX4_readOne_66 (by decide) ?_
          refine lv_iadd hx hb dX4_readOne_67 ?_
          obtain ⟨r24, σ25, eσ25, hs⟩ := sp_bind hs
          refine sv_goV (σ' := σ25) (r := r24) hW F.2.2.2.1 (sv_runV (C := RX4) F hW (hG5 (a1 + (1 : Int32)) _ _ _ eσ25 H.size) gX4_readOne_X4_readOne rfl ⟨rfl, rfl⟩ 1 (by decide +kernel) (sv_room2 (by omega) (by omega)) (sx_i 13 hB (by decide)) (sx_c13 hB) rfl rfl hl.1 rfl (Nat.le_of_ble_eq_true rfl) dX4_readOne_68 ⟨Nat.zero_le _, Nat.zero_le _⟩) (fun H locs hW => ?_)
          refine lv_aload_n hx hb dX4_readOne_71 rfl (lv_at hl 1 rfl) ?_
          refine lv_bipush (v := -9) hx hb dX4_readOne_72 (by decide) ?_
          obtain ⟨r26, σ27, eσ27, hs⟩ := sp_bind hs
          refine sv_goV (σ' := σ27) (r := r26) hW F.2.2.2.1 (sv_runV (C := RX4) F hW (k_X4_emit hB eσ27 H.size) gX4_readOne_X4_emit rfl ⟨rfl, rfl⟩ 1 (by decide +kernel) (sv_room2 (by omega) (by omega)) (sx_i 13 hB (by decide)) (sx_c13 hB) rfl rfl hl.1 rfl (Nat.le_of_ble_eq_true rfl) dX4_readOne_74 ⟨Nat.zero_le _, Nat.zero_le _⟩) (fun H locs hW => ?_)
          refine lv_goto (tgt := 121) hx hb dX4_readOne_77 (by decide) ?_
          cases hs
          exact sv_vret hx hb hr hlk hW dX4_readOne_121
    · replace hs := (sp_ite hs).1 c9
      exact b_X4_readOne_15 hB G fr lr hf hlr hG0 hG1 hG2 hG3 hG4 hG5 F hr hlk σ2 H locs ls (lv_sub hl [1] rfl) hW hs
set_option maxRecDepth 100000 in
set_option maxHeartbeats 4000000 in
theorem b_X4_readTerm_7 {qK qV : Nat → Nat} {p : Program} {l : Launch} {e : Env} {s : State} {m : MethodId} {args : Array Value} {below : List Frame} {meth : Method} {c : Code} {D : va_G} {T : Nat → ClassId} {A : Nat → Prop} {h : Nat → Nat} {θ : sv_T} {a1 : Int32} {r : Unit} {σ' : sv_S} (hB : sx_base θ) (G : Nat → sv_T → Int32 → sv_S → Option (Unit × sv_S)) (fr lr : Nat) (hf : 20 ≤ fr) (hlr : 800 ≤ lr) (hG0 : ∀ (a1 : Int32) (σ : sv_S) (r : Unit) (σ1 : sv_S), G 0 θ a1 σ = some (r, σ1) → sv_Mv (sx_X qK qV) l D T (sx_tys T) h θ yX4_readOr wsX4_readOr (sv_rm fr lr) [.ref (h 13), .int a1] σ r σ1) (hG1 : ∀ (a1 : Int32) (σ : sv_S) (r : Unit) (σ1 : sv_S), G 1 θ a1 σ = some (r, σ1) → sv_Mv (sx_X qK qV) l D T (sx_tys T) h θ yX4_readAnd wsX4_readAnd (sv_rm fr lr) [.ref (h 13), .int a1] σ r σ1) (hG2 : ∀ (a1 : Int32) (σ : sv_S) (r : Unit) (σ1 : sv_S), G 2 θ a1 σ = some (r, σ1) → sv_Mv (sx_X qK qV) l D T (sx_tys T) h θ yX4_readNot wsX4_readNot (sv_rm fr lr) [.ref (h 13), .int a1] σ r σ1) (hG3 : ∀ (a1 : Int32) (σ : sv_S) (r : Unit) (σ1 : sv_S), G 3 θ a1 σ = some (r, σ1) → sv_Mv (sx_X qK qV) l D T (sx_tys T) h θ yX4_readSum wsX4_readSum (sv_rm fr lr) [.ref (h 13), .int a1] σ r σ1) (hG4 : ∀ (a1 : Int32) (σ : sv_S) (r : Unit) (σ1 : sv_S), G 4 θ a1 σ = some (r, σ1) → sv_Mv (sx_X qK qV) l D T (sx_tys T) h θ yX4_readTerm wsX4_readTerm (sv_rm fr lr) [.ref (h 13), .int a1] σ r σ1) (hG5 : ∀ (a1 : Int32) (σ : sv_S) (r : Unit) (σ1 : sv_S), G 5 θ a1 σ = some (r, σ1) → sv_Mv (sx_X qK qV) l D T (sx_tys T) h θ yX4_readOne wsX4_readOne (sv_rm fr lr) [.ref (h 13), .int a1] σ r σ1)  (F : sv_F (sx_X qK qV) p m c cX4_readTerm 3 s args wsX4_readTerm RX4 D (sx_tys T) A) (hr : meth.sig.returnType = none) (hlk : meth.locks = false)  : ∀ (n : Nat), ∀ (x1 : Int32) (x2 : Int32) (σ : sv_S) (H : Heap) (locs : List Loc) (ls : Array Slot), lv_has ls 3 [(0, .ref (h 13)), (1, .int x1), (2, .int x2)] → sv_W D T A s h θ σ H locs → q_X4_readTerm_B7 θ G a1 n x1 x2 σ = some (r, σ') → W p l e (sv_rm (fr + 1) (lr + 40)) s m args below meth c H locs 0 0 (MQ below (va_Qv (fun (_ : Unit) => True) (fun _ t => va_P D vwCl (sv_ws T h θ σ') t.heap) A) args s 0 0 A) (F0 m 7 ls []) := by
  have hx := F.1.1
  have hb := F.1.2.1
  have hts := F.1.2.2.2.2
  have hown := F.1.2.2.2.1
  have hK := F.2.1
  intro n
  induction n with
  | zero =>
    intro x1 x2 σ H locs ls hl hW hs
    have hs : (none : Option (Unit × sv_S)) = some (r, σ') := hs
    cases hs
  | succ n ih =>
    intro x1 x2 σ H locs ls hl hW hs
    have hs : q_X4_readTerm_B7_b θ G a1 (q_X4_readTerm_B7 θ G a1 n) x1 x2 σ = some (r, σ') := hs
    unfold q_X4_readTerm_B7_b at hs
    refine lv_iload_n hx hb dX4_readTerm_7 rfl (lv_at hl 2 rfl) ?_
    refine lv_sipush (v := 160) hx hb dX4_readTerm_8 (by decide) ?_
    refine lv_icmp_ge (tgt := 50) hx hb dX4_readTerm_11 (by decide) (fun c3 => ?_) (fun c3 => ?_)
    · replace hs := (sp_ite hs).1 c3
      cases hs
      exact sv_vret hx hb hr hlk hW dX4_readTerm_50
    · replace hs := (sp_ite hs).2 c3
      refine lv_aload_n hx hb dX4_readTerm_14 rfl (lv_at hl 0 rfl) ?_
      obtain ⟨r4, σ5, eσ5, hs⟩ := sp_bind hs
      refine sv_goI (σ' := σ5) (r := r4) hW F.2.2.2.1 (sv_runV (C := RX4) F hW (k_X4_token hB eσ5 H.size) gX4_readTerm_X4_token rfl ⟨rfl, rfl⟩ 0 (by decide +kernel) (sv_room2 (by omega) (by omega)) (sx_i 13 hB (by decide)) (sx_c13 hB) rfl rfl hl.1 rfl (Nat.le_of_ble_eq_true rfl) dX4_readTerm_15 ⟨Nat.zero_le _, Nat.zero_le _⟩) (fun H locs hW => ?_)
      refine lv_bipush (v := 42) hx hb dX4_readTerm_18 (by decide) ?_
      refine lv_icmp_ne (tgt := 50) hx hb dX4_readTerm_20 (by decide) (fun c6 => ?_) (fun c6 => ?_)
      · replace hs := (sp_ite hs).2 c6
        cases hs
        exact sv_vret hx hb hr hlk hW dX4_readTerm_50
      · replace hs := (sp_ite hs).1 c6
        refine lv_aload_n hx hb dX4_readTerm_23 rfl (lv_at hl 0 rfl) ?_
        refine lv_dup hx hb dX4_readTerm_24 rfl ?_
        refine sv_get (own := RX4) (C := RX4) (Tf := TX4) (N := 11) (index := 41) (κ := (0, 0)) (v := .int (σ5.1 13 7)) hx hb hts hown hK hW (fun _ h => List.mem_cons_of_mem _ (List.mem_append_right _ h)) (sx_i 13 hB (by decide)) (sx_c13 hB) rfl 7 (by decide) rfl rfl (List.mem_of_getElem? (i := 1) rfl) dX4_readTerm_25 ?_
        refine lv_iconst (v := 1) hx hb dX4_readTerm_28 (by decide) ?_
        refine lv_iadd hx hb dX4_readTerm_29 ?_
        refine sv_putI (own := RX4) (C := RX4) (Tf := TX4) (N := 11) (index := 41) hx hb hts hown hK hW (fun _ h => List.mem_cons_of_mem _ (List.mem_append_right _ h)) tyX4 tyX4_ok nmX4 (sx_i 13 hB (by decide)) (sx_c13 hB) rfl 7 (by decide) rfl rfl (ty := .int) (by decide +kernel) rfl rfl (List.mem_of_getElem? (i := 1) rfl) dX4_readTerm_30 (fun σ7 H locs eσ7 hW => ?_)
        replace hs := sp_let hs eσ7
        refine lv_aload_n hx hb dX4_readTerm_33 rfl (lv_at hl 0 rfl) ?_
        refine lv_iload_n hx hb dX4_readTerm_34 rfl (lv_at hl 1 rfl) ?_
        obtain ⟨r8, σ9, eσ9, hs⟩ := sp_bind hs
        refine sv_goV (σ' := σ9) (r := r8) hW F.2.2.2.1 (sv_runV (C := RX4) F hW (hG5 x1 _ _ _ eσ9 H.size) gX4_readTerm_X4_readOne rfl ⟨rfl, rfl⟩ 1 (by decide +kernel) (sv_room2 (by omega) (by omega)) (sx_i 13 hB (by decide)) (sx_c13 hB) rfl rfl hl.1 rfl (Nat.le_of_ble_eq_true rfl) dX4_readTerm_35 ⟨Nat.zero_le _, Nat.zero_le _⟩) (fun H locs hW => ?_)
        refine lv_aload_n hx hb dX4_readTerm_38 rfl (lv_at hl 0 rfl) ?_
        refine lv_bipush (v := -42) hx hb dX4_readTerm_39 (by decide) ?_
        obtain ⟨r10, σ11, eσ11, hs⟩ := sp_bind hs
        refine sv_goV (σ' := σ11) (r := r10) hW F.2.2.2.1 (sv_runV (C := RX4) F hW (k_X4_emit hB eσ11 H.size) gX4_readTerm_X4_emit rfl ⟨rfl, rfl⟩ 1 (by decide +kernel) (sv_room2 (by omega) (by omega)) (sx_i 13 hB (by decide)) (sx_c13 hB) rfl rfl hl.1 rfl (Nat.le_of_ble_eq_true rfl) dX4_readTerm_41 ⟨Nat.zero_le _, Nat.zero_le _⟩) (fun H locs hW => ?_)
        obtain ⟨v12, ev12⟩ : ∃ y : Int32, y = x2 + 1 := ⟨_, rfl⟩
        replace hs := sp_let hs ev12
        refine lv_iinc (v := v12) (lv' := [(2, .int v12), (0, .ref (h 13)), (1, .int x1)]) hx hb dX4_readTerm_44 hl (k := 2) rfl (by rw [ev12]; rfl) (by decide) rfl (fun ls hl => ?_)
        refine lv_goto (tgt := 7) hx hb dX4_readTerm_47 (by decide) ?_
        exact ih x1 v12 σ11 H locs ls (lv_sub hl [1, 2, 0] rfl) hW hs
set_option maxRecDepth 100000 in
set_option maxHeartbeats 4000000 in
theorem k_X4_readTerm_b {qK qV : Nat → Nat} {l : Launch} {D : va_G} {T : Nat → ClassId} {h : Nat → Nat} {θ : sv_T} {a1 : Int32} {σ : sv_S} {r : Unit} {σ' : sv_S} (hB : sx_base θ) (G : Nat → sv_T → Int32 → sv_S → Option (Unit × sv_S)) (fr lr : Nat) (hf : 20 ≤ fr) (hlr : 800 ≤ lr) (hG0 : ∀ (a1 : Int32) (σ : sv_S) (r : Unit) (σ1 : sv_S), G 0 θ a1 σ = some (r, σ1) → sv_Mv (sx_X qK qV) l D T (sx_tys T) h θ yX4_readOr wsX4_readOr (sv_rm fr lr) [.ref (h 13), .int a1] σ r σ1) (hG1 : ∀ (a1 : Int32) (σ : sv_S) (r : Unit) (σ1 : sv_S), G 1 θ a1 σ = some (r, σ1) → sv_Mv (sx_X qK qV) l D T (sx_tys T) h θ yX4_readAnd wsX4_readAnd (sv_rm fr lr) [.ref (h 13), .int a1] σ r σ1) (hG2 : ∀ (a1 : Int32) (σ : sv_S) (r : Unit) (σ1 : sv_S), G 2 θ a1 σ = some (r, σ1) → sv_Mv (sx_X qK qV) l D T (sx_tys T) h θ yX4_readNot wsX4_readNot (sv_rm fr lr) [.ref (h 13), .int a1] σ r σ1) (hG3 : ∀ (a1 : Int32) (σ : sv_S) (r : Unit) (σ1 : sv_S), G 3 θ a1 σ = some (r, σ1) → sv_Mv (sx_X qK qV) l D T (sx_tys T) h θ yX4_readSum wsX4_readSum (sv_rm fr lr) [.ref (h 13), .int a1] σ r σ1) (hG4 : ∀ (a1 : Int32) (σ : sv_S) (r : Unit) (σ1 : sv_S), G 4 θ a1 σ = some (r, σ1) → sv_Mv (sx_X qK qV) l D T (sx_tys T) h θ yX4_readTerm wsX4_readTerm (sv_rm fr lr) [.ref (h 13), .int a1] σ r σ1) (hG5 : ∀ (a1 : Int32) (σ : sv_S) (r : Unit) (σ1 : sv_S), G 5 θ a1 σ = some (r, σ1) → sv_Mv (sx_X qK qV) l D T (sx_tys T) h θ yX4_readOne wsX4_readOne (sv_rm fr lr) [.ref (h 13), .int a1] σ r σ1)  (hs : q_X4_readTerm_b θ G a1 σ = some (r, σ')) : sv_Mv (sx_X qK qV) l D T (sx_tys T) h θ yX4_readTerm wsX4_readTerm (sv_rm (fr + 1) (lr + 40)) [.ref (h 13), .int a1] σ r σ' := by
  intro sz
  refine sv_enter (cc := cX4_readTerm) (maxL := 3) (ret := none) (Qc := fun A => va_Qv (fun (_ : Unit) => True) (fun _ t => va_P D vwCl (sv_ws T h θ σ') t.heap) A) sx_XP (by decide) rfl (Nat.le_of_ble_eq_true rfl) ?_
  intro p e s m args below meth c A F hr hlk ls H hl hW
  have hx := F.1.1
  have hb := F.1.2.1
  have hts := F.1.2.2.2.2
  have hown := F.1.2.2.2.1
  have hK := F.2.1
  obtain ⟨locs, hlocs⟩ : ∃ z : List Loc, z = [] := ⟨_, rfl⟩
  rw [← hlocs] at hW ⊢
  have hl : lv_has ls 3 [(0, .ref (h 13)), (1, .int a1)] := hl
  unfold q_X4_readTerm_b at hs
  refine lv_aload_n hx hb dX4_readTerm_0 rfl (lv_at hl 0 rfl) ?_
  refine lv_iload_n hx hb dX4_readTerm_1 rfl (lv_at hl 1 rfl) ?_
  obtain ⟨r1, σ2, eσ2, hs⟩ := sp_bind hs
  refine sv_goV (σ' := σ2) (r := r1) hW F.2.2.2.1 (sv_runV (C := RX4) F hW (hG5 a1 _ _ _ eσ2 H.size) gX4_readTerm_X4_readOne rfl ⟨rfl, rfl⟩ 1 (by decide +kernel) (sv_room2 (by omega) (by omega)) (sx_i 13 hB (by decide)) (sx_c13 hB) rfl rfl hl.1 rfl (Nat.le_of_ble_eq_true rfl) dX4_readTerm_2 ⟨Nat.zero_le _, Nat.zero_le _⟩) (fun H locs hW => ?_)
  refine lv_iconst (v := 0) hx hb dX4_readTerm_5 (by decide) ?_
  refine lv_istore_n (lv' := [(2, .int (0 : Int32)), (0, .ref (h 13)), (1, .int a1)]) hx hb dX4_readTerm_6 rfl hl (by decide) rfl (fun ls hl => ?_)
  exact b_X4_readTerm_7 hB G fr lr hf hlr hG0 hG1 hG2 hG3 hG4 hG5 F hr hlk sv_N a1 (0 : Int32) σ2 H locs ls (lv_sub hl [1, 2, 0] rfl) hW hs
set_option maxRecDepth 100000 in
set_option maxHeartbeats 4000000 in
theorem b_X4_readSum_31 {qK qV : Nat → Nat} {p : Program} {l : Launch} {e : Env} {s : State} {m : MethodId} {args : Array Value} {below : List Frame} {meth : Method} {c : Code} {D : va_G} {T : Nat → ClassId} {A : Nat → Prop} {h : Nat → Nat} {θ : sv_T} {a1 : Int32} {r : Unit} {σ' : sv_S} (hB : sx_base θ) (G : Nat → sv_T → Int32 → sv_S → Option (Unit × sv_S)) (fr lr : Nat) (hf : 20 ≤ fr) (hlr : 800 ≤ lr) (hG0 : ∀ (a1 : Int32) (σ : sv_S) (r : Unit) (σ1 : sv_S), G 0 θ a1 σ = some (r, σ1) → sv_Mv (sx_X qK qV) l D T (sx_tys T) h θ yX4_readOr wsX4_readOr (sv_rm fr lr) [.ref (h 13), .int a1] σ r σ1) (hG1 : ∀ (a1 : Int32) (σ : sv_S) (r : Unit) (σ1 : sv_S), G 1 θ a1 σ = some (r, σ1) → sv_Mv (sx_X qK qV) l D T (sx_tys T) h θ yX4_readAnd wsX4_readAnd (sv_rm fr lr) [.ref (h 13), .int a1] σ r σ1) (hG2 : ∀ (a1 : Int32) (σ : sv_S) (r : Unit) (σ1 : sv_S), G 2 θ a1 σ = some (r, σ1) → sv_Mv (sx_X qK qV) l D T (sx_tys T) h θ yX4_readNot wsX4_readNot (sv_rm fr lr) [.ref (h 13), .int a1] σ r σ1) (hG3 : ∀ (a1 : Int32) (σ : sv_S) (r : Unit) (σ1 : sv_S), G 3 θ a1 σ = some (r, σ1) → sv_Mv (sx_X qK qV) l D T (sx_tys T) h θ yX4_readSum wsX4_readSum (sv_rm fr lr) [.ref (h 13), .int a1] σ r σ1) (hG4 : ∀ (a1 : Int32) (σ : sv_S) (r : Unit) (σ1 : sv_S), G 4 θ a1 σ = some (r, σ1) → sv_Mv (sx_X qK qV) l D T (sx_tys T) h θ yX4_readTerm wsX4_readTerm (sv_rm fr lr) [.ref (h 13), .int a1] σ r σ1) (hG5 : ∀ (a1 : Int32) (σ : sv_S) (r : Unit) (σ1 : sv_S), G 5 θ a1 σ = some (r, σ1) → sv_Mv (sx_X qK qV) l D T (sx_tys T) h θ yX4_readOne wsX4_readOne (sv_rm fr lr) [.ref (h 13), .int a1] σ r σ1)  (F : sv_F (sx_X qK qV) p m c cX4_readSum 4 s args wsX4_readSum RX4 D (sx_tys T) A) (hr : meth.sig.returnType = none) (hlk : meth.locks = false) (k12 : Int32 → Int32 → Int32 → sv_S → Option (Unit × sv_S)) (hk12 : ∀ (x1 : Int32) (x2 : Int32) (x3 : Int32) (σ : sv_S) (H : Heap) (locs : List Loc) (ls : Array Slot), lv_has ls 4 [(0, .ref (h 13)), (1, .int x1), (2, .int x2), (3, .int x3)] → sv_W D T A s h θ σ H locs → k12 x1 x2 x3 σ = some (r, σ') → W p l e (sv_rm (fr + 1) (lr + 40)) s m args below meth c H locs 0 0 (MQ below (va_Qv (fun (_ : Unit) => True) (fun _ t => va_P D vwCl (sv_ws T h θ σ') t.heap) A) args s 0 0 A) (F0 m 12 ls [])) : ∀ (x1 : Int32) (x2 : Int32) (x3 : Int32) (σ : sv_S) (H : Heap) (locs : List Loc) (ls : Array Slot), lv_has ls 4 [(0, .ref (h 13)), (1, .int x1), (2, .int x2), (3, .int x3)] → sv_W D T A s h θ σ H locs → q_X4_readSum_B31 θ G a1 k12 x1 x2 x3 σ = some (r, σ') → W p l e (sv_rm (fr + 1) (lr + 40)) s m args below meth c H locs 0 0 (MQ below (va_Qv (fun (_ : Unit) => True) (fun _ t => va_P D vwCl (sv_ws T h θ σ') t.heap) A) args s 0 0 A) (F0 m 31 ls []) := by
  have hx := F.1.1
  have hb := F.1.2.1
  have hts := F.1.2.2.2.2
  have hown := F.1.2.2.2.1
  have hK := F.2.1
  intro x1 x2 x3 σ H locs ls hl hW hs
  unfold q_X4_readSum_B31 at hs
  refine lv_aload_n hx hb dX4_readSum_31 rfl (lv_at hl 0 rfl) ?_
  refine lv_dup hx hb dX4_readSum_32 rfl ?_
  refine sv_get (own := RX4) (C := RX4) (Tf := TX4) (N := 11) (index := 41) (κ := (0, 0)) (v := .int (σ.1 13 7)) hx hb hts hown hK hW (fun _ h => List.mem_cons_of_mem _ (List.mem_append_right _ h)) (sx_i 13 hB (by decide)) (sx_c13 hB) rfl 7 (by decide) rfl rfl (List.mem_of_getElem? (i := 1) rfl) dX4_readSum_33 ?_
  refine lv_iconst (v := 1) hx hb dX4_readSum_36 (by decide) ?_
  refine lv_iadd hx hb dX4_readSum_37 ?_
  refine sv_putI (own := RX4) (C := RX4) (Tf := TX4) (N := 11) (index := 41) hx hb hts hown hK hW (fun _ h => List.mem_cons_of_mem _ (List.mem_append_right _ h)) tyX4 tyX4_ok nmX4 (sx_i 13 hB (by decide)) (sx_c13 hB) rfl 7 (by decide) rfl rfl (ty := .int) (by decide +kernel) rfl rfl (List.mem_of_getElem? (i := 1) rfl) dX4_readSum_38 (fun σ7 H locs eσ7 hW => ?_)
  replace hs := sp_let hs eσ7
  refine lv_aload_n hx hb dX4_readSum_41 rfl (lv_at hl 0 rfl) ?_
  refine lv_iload_n hx hb dX4_readSum_42 rfl (lv_at hl 1 rfl) ?_
  obtain ⟨r8, σ9, eσ9, hs⟩ := sp_bind hs
  refine sv_goV (σ' := σ9) (r := r8) hW F.2.2.2.1 (sv_runV (C := RX4) F hW (hG4 x1 _ _ _ eσ9 H.size) gX4_readSum_X4_readTerm rfl ⟨rfl, rfl⟩ 1 (by decide +kernel) (sv_room2 (by omega) (by omega)) (sx_i 13 hB (by decide)) (sx_c13 hB) rfl rfl hl.1 rfl (Nat.le_of_ble_eq_true rfl) dX4_readSum_43 ⟨Nat.zero_le _, Nat.zero_le _⟩) (fun H locs hW => ?_)
  refine lv_aload_n hx hb dX4_readSum_46 rfl (lv_at hl 0 rfl) ?_
  refine lv_iload_n hx hb dX4_readSum_47 rfl (lv_at hl 2 rfl) ?_
  refine lv_ineg hx hb dX4_readSum_48 ?_
  obtain ⟨r10, σ11, eσ11, hs⟩ := sp_bind hs
  refine sv_goV (σ' := σ11) (r := r10) hW F.2.2.2.1 (sv_runV (C := RX4) F hW (k_X4_emit hB eσ11 H.size) gX4_readSum_X4_emit rfl ⟨rfl, rfl⟩ 1 (by decide +kernel) (sv_room2 (by omega) (by omega)) (sx_i 13 hB (by decide)) (sx_c13 hB) rfl rfl hl.1 rfl (Nat.le_of_ble_eq_true rfl) dX4_readSum_49 ⟨Nat.zero_le _, Nat.zero_le _⟩) (fun H locs hW => ?_)
  refine lv_aload_n hx hb dX4_readSum_52 rfl (lv_at hl 0 rfl) ?_
  obtain ⟨r12, σ13, eσ13, hs⟩ := sp_bind hs
  refine sv_goI (σ' := σ13) (r := r12) hW F.2.2.2.1 (sv_runV (C := RX4) F hW (k_X4_token hB eσ13 H.size) gX4_readSum_X4_token rfl ⟨rfl, rfl⟩ 0 (by decide +kernel) (sv_room2 (by omega) (by omega)) (sx_i 13 hB (by decide)) (sx_c13 hB) rfl rfl hl.1 rfl (Nat.le_of_ble_eq_true rfl) dX4_readSum_53 ⟨Nat.zero_le _, Nat.zero_le _⟩) (fun H locs hW => ?_)
  refine lv_istore_n (lv' := [(2, .int r12), (0, .ref (h 13)), (1, .int x1), (3, .int x3)]) hx hb dX4_readSum_56 rfl hl (by decide) rfl (fun ls hl => ?_)
  obtain ⟨v14, ev14⟩ : ∃ y : Int32, y = x3 + 1 := ⟨_, rfl⟩
  replace hs := sp_let hs ev14
  refine lv_iinc (v := v14) (lv' := [(3, .int v14), (2, .int r12), (0, .ref (h 13)), (1, .int x1)]) hx hb dX4_readSum_57 hl (k := 3) rfl (by rw [ev14]; rfl) (by decide) rfl (fun ls hl => ?_)
  refine lv_goto (tgt := 12) hx hb dX4_readSum_60 (by decide) ?_
  exact hk12 x1 r12 v14 σ13 H locs ls (lv_sub hl [2, 3, 1, 0] rfl) hW hs
set_option maxRecDepth 100000 in
set_option maxHeartbeats 4000000 in
theorem b_X4_readSum_12 {qK qV : Nat → Nat} {p : Program} {l : Launch} {e : Env} {s : State} {m : MethodId} {args : Array Value} {below : List Frame} {meth : Method} {c : Code} {D : va_G} {T : Nat → ClassId} {A : Nat → Prop} {h : Nat → Nat} {θ : sv_T} {a1 : Int32} {r : Unit} {σ' : sv_S} (hB : sx_base θ) (G : Nat → sv_T → Int32 → sv_S → Option (Unit × sv_S)) (fr lr : Nat) (hf : 20 ≤ fr) (hlr : 800 ≤ lr) (hG0 : ∀ (a1 : Int32) (σ : sv_S) (r : Unit) (σ1 : sv_S), G 0 θ a1 σ = some (r, σ1) → sv_Mv (sx_X qK qV) l D T (sx_tys T) h θ yX4_readOr wsX4_readOr (sv_rm fr lr) [.ref (h 13), .int a1] σ r σ1) (hG1 : ∀ (a1 : Int32) (σ : sv_S) (r : Unit) (σ1 : sv_S), G 1 θ a1 σ = some (r, σ1) → sv_Mv (sx_X qK qV) l D T (sx_tys T) h θ yX4_readAnd wsX4_readAnd (sv_rm fr lr) [.ref (h 13), .int a1] σ r σ1) (hG2 : ∀ (a1 : Int32) (σ : sv_S) (r : Unit) (σ1 : sv_S), G 2 θ a1 σ = some (r, σ1) → sv_Mv (sx_X qK qV) l D T (sx_tys T) h θ yX4_readNot wsX4_readNot (sv_rm fr lr) [.ref (h 13), .int a1] σ r σ1) (hG3 : ∀ (a1 : Int32) (σ : sv_S) (r : Unit) (σ1 : sv_S), G 3 θ a1 σ = some (r, σ1) → sv_Mv (sx_X qK qV) l D T (sx_tys T) h θ yX4_readSum wsX4_readSum (sv_rm fr lr) [.ref (h 13), .int a1] σ r σ1) (hG4 : ∀ (a1 : Int32) (σ : sv_S) (r : Unit) (σ1 : sv_S), G 4 θ a1 σ = some (r, σ1) → sv_Mv (sx_X qK qV) l D T (sx_tys T) h θ yX4_readTerm wsX4_readTerm (sv_rm fr lr) [.ref (h 13), .int a1] σ r σ1) (hG5 : ∀ (a1 : Int32) (σ : sv_S) (r : Unit) (σ1 : sv_S), G 5 θ a1 σ = some (r, σ1) → sv_Mv (sx_X qK qV) l D T (sx_tys T) h θ yX4_readOne wsX4_readOne (sv_rm fr lr) [.ref (h 13), .int a1] σ r σ1)  (F : sv_F (sx_X qK qV) p m c cX4_readSum 4 s args wsX4_readSum RX4 D (sx_tys T) A) (hr : meth.sig.returnType = none) (hlk : meth.locks = false)  : ∀ (n : Nat), ∀ (x1 : Int32) (x2 : Int32) (x3 : Int32) (σ : sv_S) (H : Heap) (locs : List Loc) (ls : Array Slot), lv_has ls 4 [(0, .ref (h 13)), (1, .int x1), (2, .int x2), (3, .int x3)] → sv_W D T A s h θ σ H locs → q_X4_readSum_B12 θ G a1 n x1 x2 x3 σ = some (r, σ') → W p l e (sv_rm (fr + 1) (lr + 40)) s m args below meth c H locs 0 0 (MQ below (va_Qv (fun (_ : Unit) => True) (fun _ t => va_P D vwCl (sv_ws T h θ σ') t.heap) A) args s 0 0 A) (F0 m 12 ls []) := by
  have hx := F.1.1
  have hb := F.1.2.1
  have hts := F.1.2.2.2.2
  have hown := F.1.2.2.2.1
  have hK := F.2.1
  intro n
  induction n with
  | zero =>
    intro x1 x2 x3 σ H locs ls hl hW hs
    have hs : (none : Option (Unit × sv_S)) = some (r, σ') := hs
    cases hs
  | succ n ih =>
    intro x1 x2 x3 σ H locs ls hl hW hs
    have hs : q_X4_readSum_B12_b θ G a1 (q_X4_readSum_B12 θ G a1 n) x1 x2 x3 σ = some (r, σ') := hs
    unfold q_X4_readSum_B12_b at hs
    refine lv_iload_n hx hb dX4_readSum_12 rfl (lv_at hl 3 rfl) ?_
    refine lv_sipush (v := 160) hx hb dX4_readSum_13 (by decide) ?_
    refine lv_icmp_ge (tgt := 63) hx hb dX4_readSum_16 (by decide) (fun c5 => ?_) (fun c5 => ?_)
    · replace hs := (sp_ite hs).1 c5
      cases hs
      exact sv_vret hx hb hr hlk hW dX4_readSum_63
    · replace hs := (sp_ite hs).2 c5
      refine lv_iload_n hx hb dX4_readSum_19 rfl (lv_at hl 2 rfl) ?_
      refine lv_bipush (v := 43) hx hb dX4_readSum_20 (by decide) ?_
      refine lv_icmp_eq (tgt := 31) hx hb dX4_readSum_22 (by decide) (fun c6 => ?_) (fun c6 => ?_)
      · replace hs := (sp_ite hs).1 c6
        exact b_X4_readSum_31 hB G fr lr hf hlr hG0 hG1 hG2 hG3 hG4 hG5 F hr hlk _ ih x1 x2 x3 σ H locs ls (lv_sub hl [0, 1, 2, 3] rfl) hW hs
      · replace hs := (sp_ite hs).2 c6
        refine lv_iload_n hx hb dX4_readSum_25 rfl (lv_at hl 2 rfl) ?_
        refine lv_bipush (v := 45) hx hb dX4_readSum_26 (by decide) ?_
        refine lv_icmp_ne (tgt := 63) hx hb dX4_readSum_28 (by decide) (fun c15 => ?_) (fun c15 => ?_)
        · replace hs := (sp_ite hs).2 c15
          cases hs
          exact sv_vret hx hb hr hlk hW dX4_readSum_63
        · replace hs := (sp_ite hs).1 c15
          exact b_X4_readSum_31 hB G fr lr hf hlr hG0 hG1 hG2 hG3 hG4 hG5 F hr hlk _ ih x1 x2 x3 σ H locs ls (lv_sub hl [0, 1, 2, 3] rfl) hW hs
set_option maxRecDepth 100000 in
set_option maxHeartbeats 4000000 in
theorem k_X4_readSum_b {qK qV : Nat → Nat} {l : Launch} {D : va_G} {T : Nat → ClassId} {h : Nat → Nat} {θ : sv_T} {a1 : Int32} {σ : sv_S} {r : Unit} {σ' : sv_S} (hB : sx_base θ) (G : Nat → sv_T → Int32 → sv_S → Option (Unit × sv_S)) (fr lr : Nat) (hf : 20 ≤ fr) (hlr : 800 ≤ lr) (hG0 : ∀ (a1 : Int32) (σ : sv_S) (r : Unit) (σ1 : sv_S), G 0 θ a1 σ = some (r, σ1) → sv_Mv (sx_X qK qV) l D T (sx_tys T) h θ yX4_readOr wsX4_readOr (sv_rm fr lr) [.ref (h 13), .int a1] σ r σ1) (hG1 : ∀ (a1 : Int32) (σ : sv_S) (r : Unit) (σ1 : sv_S), G 1 θ a1 σ = some (r, σ1) → sv_Mv (sx_X qK qV) l D T (sx_tys T) h θ yX4_readAnd wsX4_readAnd (sv_rm fr lr) [.ref (h 13), .int a1] σ r σ1) (hG2 : ∀ (a1 : Int32) (σ : sv_S) (r : Unit) (σ1 : sv_S), G 2 θ a1 σ = some (r, σ1) → sv_Mv (sx_X qK qV) l D T (sx_tys T) h θ yX4_readNot wsX4_readNot (sv_rm fr lr) [.ref (h 13), .int a1] σ r σ1) (hG3 : ∀ (a1 : Int32) (σ : sv_S) (r : Unit) (σ1 : sv_S), G 3 θ a1 σ = some (r, σ1) → sv_Mv (sx_X qK qV) l D T (sx_tys T) h θ yX4_readSum wsX4_readSum (sv_rm fr lr) [.ref (h 13), .int a1] σ r σ1) (hG4 : ∀ (a1 : Int32) (σ : sv_S) (r : Unit) (σ1 : sv_S), G 4 θ a1 σ = some (r, σ1) → sv_Mv (sx_X qK qV) l D T (sx_tys T) h θ yX4_readTerm wsX4_readTerm (sv_rm fr lr) [.ref (h 13), .int a1] σ r σ1) (hG5 : ∀ (a1 : Int32) (σ : sv_S) (r : Unit) (σ1 : sv_S), G 5 θ a1 σ = some (r, σ1) → sv_Mv (sx_X qK qV) l D T (sx_tys T) h θ yX4_readOne wsX4_readOne (sv_rm fr lr) [.ref (h 13), .int a1] σ r σ1)  (hs : q_X4_readSum_b θ G a1 σ = some (r, σ')) : sv_Mv (sx_X qK qV) l D T (sx_tys T) h θ yX4_readSum wsX4_readSum (sv_rm (fr + 1) (lr + 40)) [.ref (h 13), .int a1] σ r σ' := by
  intro sz
  refine sv_enter (cc := cX4_readSum) (maxL := 4) (ret := none) (Qc := fun A => va_Qv (fun (_ : Unit) => True) (fun _ t => va_P D vwCl (sv_ws T h θ σ') t.heap) A) sx_XP (by decide) rfl (Nat.le_of_ble_eq_true rfl) ?_
  intro p e s m args below meth c A F hr hlk ls H hl hW
  have hx := F.1.1
  have hb := F.1.2.1
  have hts := F.1.2.2.2.2
  have hown := F.1.2.2.2.1
  have hK := F.2.1
  obtain ⟨locs, hlocs⟩ : ∃ z : List Loc, z = [] := ⟨_, rfl⟩
  rw [← hlocs] at hW ⊢
  have hl : lv_has ls 4 [(0, .ref (h 13)), (1, .int a1)] := hl
  unfold q_X4_readSum_b at hs
  refine lv_aload_n hx hb dX4_readSum_0 rfl (lv_at hl 0 rfl) ?_
  refine lv_iload_n hx hb dX4_readSum_1 rfl (lv_at hl 1 rfl) ?_
  obtain ⟨r1, σ2, eσ2, hs⟩ := sp_bind hs
  refine sv_goV (σ' := σ2) (r := r1) hW F.2.2.2.1 (sv_runV (C := RX4) F hW (hG4 a1 _ _ _ eσ2 H.size) gX4_readSum_X4_readTerm rfl ⟨rfl, rfl⟩ 1 (by decide +kernel) (sv_room2 (by omega) (by omega)) (sx_i 13 hB (by decide)) (sx_c13 hB) rfl rfl hl.1 rfl (Nat.le_of_ble_eq_true rfl) dX4_readSum_2 ⟨Nat.zero_le _, Nat.zero_le _⟩) (fun H locs hW => ?_)
  refine lv_aload_n hx hb dX4_readSum_5 rfl (lv_at hl 0 rfl) ?_
  obtain ⟨r3, σ4, eσ4, hs⟩ := sp_bind hs
  refine sv_goI (σ' := σ4) (r := r3) hW F.2.2.2.1 (sv_runV (C := RX4) F hW (k_X4_token hB eσ4 H.size) gX4_readSum_X4_token rfl ⟨rfl, rfl⟩ 0 (by decide +kernel) (sv_room2 (by omega) (by omega)) (sx_i 13 hB (by decide)) (sx_c13 hB) rfl rfl hl.1 rfl (Nat.le_of_ble_eq_true rfl) dX4_readSum_6 ⟨Nat.zero_le _, Nat.zero_le _⟩) (fun H locs hW => ?_)
  refine lv_istore_n (lv' := [(2, .int r3), (0, .ref (h 13)), (1, .int a1)]) hx hb dX4_readSum_9 rfl hl (by decide) rfl (fun ls hl => ?_)
  refine lv_iconst (v := 0) hx hb dX4_readSum_10 (by decide) ?_
  refine lv_istore_n (lv' := [(3, .int (0 : Int32)), (2, .int r3), (0, .ref (h 13)), (1, .int a1)]) hx hb dX4_readSum_11 rfl hl (by decide) rfl (fun ls hl => ?_)
  exact b_X4_readSum_12 hB G fr lr hf hlr hG0 hG1 hG2 hG3 hG4 hG5 F hr hlk sv_N a1 r3 (0 : Int32) σ4 H locs ls (lv_sub hl [2, 3, 1, 0] rfl) hW hs
set_option maxRecDepth 100000 in
set_option maxHeartbeats 4000000 in
theorem b_X4_readNot_65 {qK qV : Nat → Nat} {p : Program} {l : Launch} {e : Env} {s : State} {m : MethodId} {args : Array Value} {below : List Frame} {meth : Method} {c : Code} {D : va_G} {T : Nat → ClassId} {A : Nat → Prop} {h : Nat → Nat} {θ : sv_T} {a1 : Int32} {r : Unit} {σ' : sv_S} (hB : sx_base θ) (G : Nat → sv_T → Int32 → sv_S → Option (Unit × sv_S)) (fr lr : Nat) (hf : 20 ≤ fr) (hlr : 800 ≤ lr) (hG0 : ∀ (a1 : Int32) (σ : sv_S) (r : Unit) (σ1 : sv_S), G 0 θ a1 σ = some (r, σ1) → sv_Mv (sx_X qK qV) l D T (sx_tys T) h θ yX4_readOr wsX4_readOr (sv_rm fr lr) [.ref (h 13), .int a1] σ r σ1) (hG1 : ∀ (a1 : Int32) (σ : sv_S) (r : Unit) (σ1 : sv_S), G 1 θ a1 σ = some (r, σ1) → sv_Mv (sx_X qK qV) l D T (sx_tys T) h θ yX4_readAnd wsX4_readAnd (sv_rm fr lr) [.ref (h 13), .int a1] σ r σ1) (hG2 : ∀ (a1 : Int32) (σ : sv_S) (r : Unit) (σ1 : sv_S), G 2 θ a1 σ = some (r, σ1) → sv_Mv (sx_X qK qV) l D T (sx_tys T) h θ yX4_readNot wsX4_readNot (sv_rm fr lr) [.ref (h 13), .int a1] σ r σ1) (hG3 : ∀ (a1 : Int32) (σ : sv_S) (r : Unit) (σ1 : sv_S), G 3 θ a1 σ = some (r, σ1) → sv_Mv (sx_X qK qV) l D T (sx_tys T) h θ yX4_readSum wsX4_readSum (sv_rm fr lr) [.ref (h 13), .int a1] σ r σ1) (hG4 : ∀ (a1 : Int32) (σ : sv_S) (r : Unit) (σ1 : sv_S), G 4 θ a1 σ = some (r, σ1) → sv_Mv (sx_X qK qV) l D T (sx_tys T) h θ yX4_readTerm wsX4_readTerm (sv_rm fr lr) [.ref (h 13), .int a1] σ r σ1) (hG5 : ∀ (a1 : Int32) (σ : sv_S) (r : Unit) (σ1 : sv_S), G 5 θ a1 σ = some (r, σ1) → sv_Mv (sx_X qK qV) l D T (sx_tys T) h θ yX4_readOne wsX4_readOne (sv_rm fr lr) [.ref (h 13), .int a1] σ r σ1)  (F : sv_F (sx_X qK qV) p m c cX4_readNot 3 s args wsX4_readNot RX4 D (sx_tys T) A) (hr : meth.sig.returnType = none) (hlk : meth.locks = false)  : ∀ (x1 : Int32) (x2 : Int32) (σ : sv_S) (H : Heap) (locs : List Loc) (ls : Array Slot), lv_has ls 3 [(0, .ref (h 13)), (1, .int x1), (2, .int x2)] → sv_W D T A s h θ σ H locs → q_X4_readNot_B65 θ G a1 x1 x2 σ = some (r, σ') → W p l e (sv_rm (fr + 1) (lr + 40)) s m args below meth c H locs 0 0 (MQ below (va_Qv (fun (_ : Unit) => True) (fun _ t => va_P D vwCl (sv_ws T h θ σ') t.heap) A) args s 0 0 A) (F0 m 65 ls []) := by
  have hx := F.1.1
  have hb := F.1.2.1
  have hts := F.1.2.2.2.2
  have hown := F.1.2.2.2.1
  have hK := F.2.1
  intro x1 x2 σ H locs ls hl hW hs
  unfold q_X4_readNot_B65 at hs
  refine lv_aload_n hx hb dX4_readNot_65 rfl (lv_at hl 0 rfl) ?_
  refine lv_dup hx hb dX4_readNot_66 rfl ?_
  refine sv_get (own := RX4) (C := RX4) (Tf := TX4) (N := 11) (index := 41) (κ := (0, 0)) (v := .int (σ.1 13 7)) hx hb hts hown hK hW (fun _ h => List.mem_cons_of_mem _ (List.mem_append_right _ h)) (sx_i 13 hB (by decide)) (sx_c13 hB) rfl 7 (by decide) rfl rfl (List.mem_of_getElem? (i := 1) rfl) dX4_readNot_67 ?_
  refine lv_iconst (v := 1) hx hb dX4_readNot_70 (by decide) ?_
  refine lv_iadd hx hb dX4_readNot_71 ?_
  refine sv_putI (own := RX4) (C := RX4) (Tf := TX4) (N := 11) (index := 41) hx hb hts hown hK hW (fun _ h => List.mem_cons_of_mem _ (List.mem_append_right _ h)) tyX4 tyX4_ok nmX4 (sx_i 13 hB (by decide)) (sx_c13 hB) rfl 7 (by decide) rfl rfl (ty := .int) (by decide +kernel) rfl rfl (List.mem_of_getElem? (i := 1) rfl) dX4_readNot_72 (fun σ9 H locs eσ9 hW => ?_)
  replace hs := sp_let hs eσ9
  refine lv_aload_n hx hb dX4_readNot_75 rfl (lv_at hl 0 rfl) ?_
  refine lv_iload_n hx hb dX4_readNot_76 rfl (lv_at hl 1 rfl) ?_
  obtain ⟨r10, σ11, eσ11, hs⟩ := sp_bind hs
  refine sv_goV (σ' := σ11) (r := r10) hW F.2.2.2.1 (sv_runV (C := RX4) F hW (hG3 x1 _ _ _ eσ11 H.size) gX4_readNot_X4_readSum rfl ⟨rfl, rfl⟩ 1 (by decide +kernel) (sv_room2 (by omega) (by omega)) (sx_i 13 hB (by decide)) (sx_c13 hB) rfl rfl hl.1 rfl (Nat.le_of_ble_eq_true rfl) dX4_readNot_77 ⟨Nat.zero_le _, Nat.zero_le _⟩) (fun H locs hW => ?_)
  refine lv_aload_n hx hb dX4_readNot_80 rfl (lv_at hl 0 rfl) ?_
  refine lv_iload_n hx hb dX4_readNot_81 rfl (lv_at hl 2 rfl) ?_
  refine lv_ineg hx hb dX4_readNot_82 ?_
  obtain ⟨r12, σ13, eσ13, hs⟩ := sp_bind hs
  refine sv_goV (σ' := σ13) (r := r12) hW F.2.2.2.1 (sv_runV (C := RX4) F hW (k_X4_emit hB eσ13 H.size) gX4_readNot_X4_emit rfl ⟨rfl, rfl⟩ 1 (by decide +kernel) (sv_room2 (by omega) (by omega)) (sx_i 13 hB (by decide)) (sx_c13 hB) rfl rfl hl.1 rfl (Nat.le_of_ble_eq_true rfl) dX4_readNot_83 ⟨Nat.zero_le _, Nat.zero_le _⟩) (fun H locs hW => ?_)
  cases hs
  exact sv_vret hx hb hr hlk hW dX4_readNot_86
set_option maxRecDepth 100000 in
set_option maxHeartbeats 4000000 in
theorem k_X4_readNot_b {qK qV : Nat → Nat} {l : Launch} {D : va_G} {T : Nat → ClassId} {h : Nat → Nat} {θ : sv_T} {a1 : Int32} {σ : sv_S} {r : Unit} {σ' : sv_S} (hB : sx_base θ) (G : Nat → sv_T → Int32 → sv_S → Option (Unit × sv_S)) (fr lr : Nat) (hf : 20 ≤ fr) (hlr : 800 ≤ lr) (hG0 : ∀ (a1 : Int32) (σ : sv_S) (r : Unit) (σ1 : sv_S), G 0 θ a1 σ = some (r, σ1) → sv_Mv (sx_X qK qV) l D T (sx_tys T) h θ yX4_readOr wsX4_readOr (sv_rm fr lr) [.ref (h 13), .int a1] σ r σ1) (hG1 : ∀ (a1 : Int32) (σ : sv_S) (r : Unit) (σ1 : sv_S), G 1 θ a1 σ = some (r, σ1) → sv_Mv (sx_X qK qV) l D T (sx_tys T) h θ yX4_readAnd wsX4_readAnd (sv_rm fr lr) [.ref (h 13), .int a1] σ r σ1) (hG2 : ∀ (a1 : Int32) (σ : sv_S) (r : Unit) (σ1 : sv_S), G 2 θ a1 σ = some (r, σ1) → sv_Mv (sx_X qK qV) l D T (sx_tys T) h θ yX4_readNot wsX4_readNot (sv_rm fr lr) [.ref (h 13), .int a1] σ r σ1) (hG3 : ∀ (a1 : Int32) (σ : sv_S) (r : Unit) (σ1 : sv_S), G 3 θ a1 σ = some (r, σ1) → sv_Mv (sx_X qK qV) l D T (sx_tys T) h θ yX4_readSum wsX4_readSum (sv_rm fr lr) [.ref (h 13), .int a1] σ r σ1) (hG4 : ∀ (a1 : Int32) (σ : sv_S) (r : Unit) (σ1 : sv_S), G 4 θ a1 σ = some (r, σ1) → sv_Mv (sx_X qK qV) l D T (sx_tys T) h θ yX4_readTerm wsX4_readTerm (sv_rm fr lr) [.ref (h 13), .int a1] σ r σ1) (hG5 : ∀ (a1 : Int32) (σ : sv_S) (r : Unit) (σ1 : sv_S), G 5 θ a1 σ = some (r, σ1) → sv_Mv (sx_X qK qV) l D T (sx_tys T) h θ yX4_readOne wsX4_readOne (sv_rm fr lr) [.ref (h 13), .int a1] σ r σ1)  (hs : q_X4_readNot_b θ G a1 σ = some (r, σ')) : sv_Mv (sx_X qK qV) l D T (sx_tys T) h θ yX4_readNot wsX4_readNot (sv_rm (fr + 1) (lr + 40)) [.ref (h 13), .int a1] σ r σ' := by
  intro sz
  refine sv_enter (cc := cX4_readNot) (maxL := 3) (ret := none) (Qc := fun A => va_Qv (fun (_ : Unit) => True) (fun _ t => va_P D vwCl (sv_ws T h θ σ') t.heap) A) sx_XP (by decide) rfl (Nat.le_of_ble_eq_true rfl) ?_
  intro p e s m args below meth c A F hr hlk ls H hl hW
  have hx := F.1.1
  have hb := F.1.2.1
  have hts := F.1.2.2.2.2
  have hown := F.1.2.2.2.1
  have hK := F.2.1
  obtain ⟨locs, hlocs⟩ : ∃ z : List Loc, z = [] := ⟨_, rfl⟩
  rw [← hlocs] at hW ⊢
  have hl : lv_has ls 3 [(0, .ref (h 13)), (1, .int a1)] := hl
  unfold q_X4_readNot_b at hs
  refine lv_aload_n hx hb dX4_readNot_0 rfl (lv_at hl 0 rfl) ?_
  obtain ⟨r1, σ2, eσ2, hs⟩ := sp_bind hs
  refine sv_goI (σ' := σ2) (r := r1) hW F.2.2.2.1 (sv_runV (C := RX4) F hW (k_X4_token hB eσ2 H.size) gX4_readNot_X4_token rfl ⟨rfl, rfl⟩ 0 (by decide +kernel) (sv_room2 (by omega) (by omega)) (sx_i 13 hB (by decide)) (sx_c13 hB) rfl rfl hl.1 rfl (Nat.le_of_ble_eq_true rfl) dX4_readNot_1 ⟨Nat.zero_le _, Nat.zero_le _⟩) (fun H locs hW => ?_)
  refine lv_bipush (v := 8) hx hb dX4_readNot_4 (by decide) ?_
  refine lv_icmp_ne (tgt := 43) hx hb dX4_readNot_6 (by decide) (fun c3 => ?_) (fun c3 => ?_)
  · replace hs := (sp_ite hs).2 c3
    refine lv_aload_n hx hb dX4_readNot_43 rfl (lv_at hl 0 rfl) ?_
    refine lv_iload_n hx hb dX4_readNot_44 rfl (lv_at hl 1 rfl) ?_
    obtain ⟨r4, σ5, eσ5, hs⟩ := sp_bind hs
    refine sv_goV (σ' := σ5) (r := r4) hW F.2.2.2.1 (sv_runV (C := RX4) F hW (hG3 a1 _ _ _ eσ5 H.size) gX4_readNot_X4_readSum rfl ⟨rfl, rfl⟩ 1 (by decide +kernel) (sv_room2 (by omega) (by omega)) (sx_i 13 hB (by decide)) (sx_c13 hB) rfl rfl hl.1 rfl (Nat.le_of_ble_eq_true rfl) dX4_readNot_45 ⟨Nat.zero_le _, Nat.zero_le _⟩) (fun H locs hW => ?_)
    refine lv_aload_n hx hb dX4_readNot_48 rfl (lv_at hl 0 rfl) ?_
    obtain ⟨r6, σ7, eσ7, hs⟩ := sp_bind hs
    refine sv_goI (σ' := σ7) (r := r6) hW F.2.2.2.1 (sv_runV (C := RX4) F hW (k_X4_token hB eσ7 H.size) gX4_readNot_X4_token rfl ⟨rfl, rfl⟩ 0 (by decide +kernel) (sv_room2 (by omega) (by omega)) (sx_i 13 hB (by decide)) (sx_c13 hB) rfl rfl hl.1 rfl (Nat.le_of_ble_eq_true rfl) dX4_readNot_49 ⟨Nat.zero_le _, Nat.zero_le _⟩) (fun H locs hW => ?_)
    refine lv_istore_n (lv' := [(2, .int r6), (0, .ref (h 13)), (1, .int a1)]) hx hb dX4_readNot_52 rfl hl (by decide) rfl (fun ls hl => ?_)
    refine lv_iload_n hx hb dX4_readNot_53 rfl (lv_at hl 0 rfl) ?_
    refine lv_bipush (v := 60) hx hb dX4_readNot_54 (by decide) ?_
    refine lv_icmp_eq (tgt := 65) hx hb dX4_readNot_56 (by decide) (fun c8 => ?_) (fun c8 => ?_)
    · replace hs := (sp_ite hs).1 c8
      exact b_X4_readNot_65 hB G fr lr hf hlr hG0 hG1 hG2 hG3 hG4 hG5 F hr hlk a1 r6 σ7 H locs ls (lv_sub hl [1, 2, 0] rfl) hW hs
    · replace hs := (sp_ite hs).2 c8
      refine lv_iload_n hx hb dX4_readNot_59 rfl (lv_at hl 0 rfl) ?_
      refine lv_bipush (v := 61) hx hb dX4_readNot_60 (by decide) ?_
      refine lv_icmp_ne (tgt := 86) hx hb dX4_readNot_62 (by decide) (fun c14 => ?_) (fun c14 => ?_)
      · replace hs := (sp_ite hs).2 c14
        cases hs
        exact sv_vret hx hb hr hlk hW dX4_readNot_86
      · replace hs := (sp_ite hs).1 c14
        exact b_X4_readNot_65 hB G fr lr hf hlr hG0 hG1 hG2 hG3 hG4 hG5 F hr hlk a1 r6 σ7 H locs ls (lv_sub hl [1, 2, 0] rfl) hW hs
  · replace hs := (sp_ite hs).1 c3
    refine lv_iload_n hx hb dX4_readNot_9 rfl (lv_at hl 1 rfl) ?_
    refine lv_iconst (v := 5) hx hb dX4_readNot_10 (by decide) ?_
    refine lv_icmp_lt (tgt := 19) hx hb dX4_readNot_11 (by decide) (fun c15 => ?_) (fun c15 => ?_)
    · replace hs := (sp_ite hs).1 c15
      refine lv_aload_n hx hb dX4_readNot_19 rfl (lv_at hl 0 rfl) ?_
      refine lv_dup hx hb dX4_readNot_20 rfl ?_
      refine sv_get (own := RX4) (C := RX4) (Tf := TX4) (N := 11) (index := 41) (κ := (0, 0)) (v := .int (σ2.1 13 7)) hx hb hts hown hK hW (fun _ h => List.mem_cons_of_mem _ (List.mem_append_right _ h)) (sx_i 13 hB (by decide)) (sx_c13 hB) rfl 7 (by decide) rfl rfl (List.mem_of_getElem? (i := 1) rfl) dX4_readNot_21 ?_
      refine lv_iconst (v := 1) hx hb dX4_readNot_24 (by decide) ?_
      refine lv_iadd hx hb dX4_readNot_25 ?_
      refine sv_putI (own := RX4) (C := RX4) (Tf := TX4) (N := 11) (index := 41) hx hb hts hown hK hW (fun _ h => List.mem_cons_of_mem _ (List.mem_append_right _ h)) tyX4 tyX4_ok nmX4 (sx_i 13 hB (by decide)) (sx_c13 hB) rfl 7 (by decide) rfl rfl (ty := .int) (by decide +kernel) rfl rfl (List.mem_of_getElem? (i := 1) rfl) dX4_readNot_26 (fun σ16 H locs eσ16 hW => ?_)
      replace hs := sp_let hs eσ16
      refine lv_aload_n hx hb dX4_readNot_29 rfl (lv_at hl 0 rfl) ?_
      refine lv_iload_n hx hb dX4_readNot_30 rfl (lv_at hl 1 rfl) ?_
      refine lv_iconst (v := 1) hx hb dX4_readNot_31 (by decide) ?_
      refine lv_iadd hx hb dX4_readNot_32 ?_
      obtain ⟨r17, σ18, eσ18, hs⟩ := sp_bind hs
      refine sv_goV (σ' := σ18) (r := r17) hW F.2.2.2.1 (sv_runV (C := RX4) F hW (hG2 (a1 + (1 : Int32)) _ _ _ eσ18 H.size) gX4_readNot_X4_readNot rfl ⟨rfl, rfl⟩ 1 (by decide +kernel) (sv_room2 (by omega) (by omega)) (sx_i 13 hB (by decide)) (sx_c13 hB) rfl rfl hl.1 rfl (Nat.le_of_ble_eq_true rfl) dX4_readNot_33 ⟨Nat.zero_le _, Nat.zero_le _⟩) (fun H locs hW => ?_)
      refine lv_aload_n hx hb dX4_readNot_36 rfl (lv_at hl 0 rfl) ?_
      refine lv_bipush (v := -8) hx hb dX4_readNot_37 (by decide) ?_
      obtain ⟨r19, σ20, eσ20, hs⟩ := sp_bind hs
      refine sv_goV (σ' := σ20) (r := r19) hW F.2.2.2.1 (sv_runV (C := RX4) F hW (k_X4_emit hB eσ20 H.size) gX4_readNot_X4_emit rfl ⟨rfl, rfl⟩ 1 (by decide +kernel) (sv_room2 (by omega) (by omega)) (sx_i 13 hB (by decide)) (sx_c13 hB) rfl rfl hl.1 rfl (Nat.le_of_ble_eq_true rfl) dX4_readNot_39 ⟨Nat.zero_le _, Nat.zero_le _⟩) (fun H locs hW => ?_)
      cases hs
      exact sv_vret hx hb hr hlk hW dX4_readNot_42
    · replace hs := (sp_ite hs).2 c15
      refine lv_aload_n hx hb dX4_readNot_14 rfl (lv_at hl 0 rfl) ?_
      obtain ⟨r21, σ22, eσ22, hs⟩ := sp_bind hs
      refine sv_goV (σ' := σ22) (r := r21) hW F.2.2.2.1 (sv_runV (C := RX4) F hW (k_X4_fail hB eσ22 H.size) gX4_readNot_X4_fail rfl ⟨rfl, rfl⟩ 0 (by decide +kernel) (sv_room2 (by omega) (by omega)) (sx_i 13 hB (by decide)) (sx_c13 hB) rfl rfl hl.1 rfl (Nat.le_of_ble_eq_true rfl) dX4_readNot_15 ⟨Nat.zero_le _, Nat.zero_le _⟩) (fun H locs hW => ?_)
      cases hs
      exact sv_vret hx hb hr hlk hW dX4_readNot_18
set_option maxRecDepth 100000 in
set_option maxHeartbeats 4000000 in
theorem b_X4_readAnd_7 {qK qV : Nat → Nat} {p : Program} {l : Launch} {e : Env} {s : State} {m : MethodId} {args : Array Value} {below : List Frame} {meth : Method} {c : Code} {D : va_G} {T : Nat → ClassId} {A : Nat → Prop} {h : Nat → Nat} {θ : sv_T} {a1 : Int32} {r : Unit} {σ' : sv_S} (hB : sx_base θ) (G : Nat → sv_T → Int32 → sv_S → Option (Unit × sv_S)) (fr lr : Nat) (hf : 20 ≤ fr) (hlr : 800 ≤ lr) (hG0 : ∀ (a1 : Int32) (σ : sv_S) (r : Unit) (σ1 : sv_S), G 0 θ a1 σ = some (r, σ1) → sv_Mv (sx_X qK qV) l D T (sx_tys T) h θ yX4_readOr wsX4_readOr (sv_rm fr lr) [.ref (h 13), .int a1] σ r σ1) (hG1 : ∀ (a1 : Int32) (σ : sv_S) (r : Unit) (σ1 : sv_S), G 1 θ a1 σ = some (r, σ1) → sv_Mv (sx_X qK qV) l D T (sx_tys T) h θ yX4_readAnd wsX4_readAnd (sv_rm fr lr) [.ref (h 13), .int a1] σ r σ1) (hG2 : ∀ (a1 : Int32) (σ : sv_S) (r : Unit) (σ1 : sv_S), G 2 θ a1 σ = some (r, σ1) → sv_Mv (sx_X qK qV) l D T (sx_tys T) h θ yX4_readNot wsX4_readNot (sv_rm fr lr) [.ref (h 13), .int a1] σ r σ1) (hG3 : ∀ (a1 : Int32) (σ : sv_S) (r : Unit) (σ1 : sv_S), G 3 θ a1 σ = some (r, σ1) → sv_Mv (sx_X qK qV) l D T (sx_tys T) h θ yX4_readSum wsX4_readSum (sv_rm fr lr) [.ref (h 13), .int a1] σ r σ1) (hG4 : ∀ (a1 : Int32) (σ : sv_S) (r : Unit) (σ1 : sv_S), G 4 θ a1 σ = some (r, σ1) → sv_Mv (sx_X qK qV) l D T (sx_tys T) h θ yX4_readTerm wsX4_readTerm (sv_rm fr lr) [.ref (h 13), .int a1] σ r σ1) (hG5 : ∀ (a1 : Int32) (σ : sv_S) (r : Unit) (σ1 : sv_S), G 5 θ a1 σ = some (r, σ1) → sv_Mv (sx_X qK qV) l D T (sx_tys T) h θ yX4_readOne wsX4_readOne (sv_rm fr lr) [.ref (h 13), .int a1] σ r σ1)  (F : sv_F (sx_X qK qV) p m c cX4_readAnd 3 s args wsX4_readAnd RX4 D (sx_tys T) A) (hr : meth.sig.returnType = none) (hlk : meth.locks = false)  : ∀ (n : Nat), ∀ (x1 : Int32) (x2 : Int32) (σ : sv_S) (H : Heap) (locs : List Loc) (ls : Array Slot), lv_has ls 3 [(0, .ref (h 13)), (1, .int x1), (2, .int x2)] → sv_W D T A s h θ σ H locs → q_X4_readAnd_B7 θ G a1 n x1 x2 σ = some (r, σ') → W p l e (sv_rm (fr + 1) (lr + 40)) s m args below meth c H locs 0 0 (MQ below (va_Qv (fun (_ : Unit) => True) (fun _ t => va_P D vwCl (sv_ws T h θ σ') t.heap) A) args s 0 0 A) (F0 m 7 ls []) := by
  have hx := F.1.1
  have hb := F.1.2.1
  have hts := F.1.2.2.2.2
  have hown := F.1.2.2.2.1
  have hK := F.2.1
  intro n
  induction n with
  | zero =>
    intro x1 x2 σ H locs ls hl hW hs
    have hs : (none : Option (Unit × sv_S)) = some (r, σ') := hs
    cases hs
  | succ n ih =>
    intro x1 x2 σ H locs ls hl hW hs
    have hs : q_X4_readAnd_B7_b θ G a1 (q_X4_readAnd_B7 θ G a1 n) x1 x2 σ = some (r, σ') := hs
    unfold q_X4_readAnd_B7_b at hs
    refine lv_iload_n hx hb dX4_readAnd_7 rfl (lv_at hl 2 rfl) ?_
    refine lv_sipush (v := 160) hx hb dX4_readAnd_8 (by decide) ?_
    refine lv_icmp_ge (tgt := 50) hx hb dX4_readAnd_11 (by decide) (fun c3 => ?_) (fun c3 => ?_)
    · replace hs := (sp_ite hs).1 c3
      cases hs
      exact sv_vret hx hb hr hlk hW dX4_readAnd_50
    · replace hs := (sp_ite hs).2 c3
      refine lv_aload_n hx hb dX4_readAnd_14 rfl (lv_at hl 0 rfl) ?_
      obtain ⟨r4, σ5, eσ5, hs⟩ := sp_bind hs
      refine sv_goI (σ' := σ5) (r := r4) hW F.2.2.2.1 (sv_runV (C := RX4) F hW (k_X4_token hB eσ5 H.size) gX4_readAnd_X4_token rfl ⟨rfl, rfl⟩ 0 (by decide +kernel) (sv_room2 (by omega) (by omega)) (sx_i 13 hB (by decide)) (sx_c13 hB) rfl rfl hl.1 rfl (Nat.le_of_ble_eq_true rfl) dX4_readAnd_15 ⟨Nat.zero_le _, Nat.zero_le _⟩) (fun H locs hW => ?_)
      refine lv_bipush (v := 7) hx hb dX4_readAnd_18 (by decide) ?_
      refine lv_icmp_ne (tgt := 50) hx hb dX4_readAnd_20 (by decide) (fun c6 => ?_) (fun c6 => ?_)
      · replace hs := (sp_ite hs).2 c6
        cases hs
        exact sv_vret hx hb hr hlk hW dX4_readAnd_50
      · replace hs := (sp_ite hs).1 c6
        refine lv_aload_n hx hb dX4_readAnd_23 rfl (lv_at hl 0 rfl) ?_
        refine lv_dup hx hb dX4_readAnd_24 rfl ?_
        refine sv_get (own := RX4) (C := RX4) (Tf := TX4) (N := 11) (index := 41) (κ := (0, 0)) (v := .int (σ5.1 13 7)) hx hb hts hown hK hW (fun _ h => List.mem_cons_of_mem _ (List.mem_append_right _ h)) (sx_i 13 hB (by decide)) (sx_c13 hB) rfl 7 (by decide) rfl rfl (List.mem_of_getElem? (i := 1) rfl) dX4_readAnd_25 ?_
        refine lv_iconst (v := 1) hx hb dX4_readAnd_28 (by decide) ?_
        refine lv_iadd hx hb dX4_readAnd_29 ?_
        refine sv_putI (own := RX4) (C := RX4) (Tf := TX4) (N := 11) (index := 41) hx hb hts hown hK hW (fun _ h => List.mem_cons_of_mem _ (List.mem_append_right _ h)) tyX4 tyX4_ok nmX4 (sx_i 13 hB (by decide)) (sx_c13 hB) rfl 7 (by decide) rfl rfl (ty := .int) (by decide +kernel) rfl rfl (List.mem_of_getElem? (i := 1) rfl) dX4_readAnd_30 (fun σ7 H locs eσ7 hW => ?_)
        replace hs := sp_let hs eσ7
        refine lv_aload_n hx hb dX4_readAnd_33 rfl (lv_at hl 0 rfl) ?_
        refine lv_iload_n hx hb dX4_readAnd_34 rfl (lv_at hl 1 rfl) ?_
        obtain ⟨r8, σ9, eσ9, hs⟩ := sp_bind hs
        refine sv_goV (σ' := σ9) (r := r8) hW F.2.2.2.1 (sv_runV (C := RX4) F hW (hG2 x1 _ _ _ eσ9 H.size) gX4_readAnd_X4_readNot rfl ⟨rfl, rfl⟩ 1 (by decide +kernel) (sv_room2 (by omega) (by omega)) (sx_i 13 hB (by decide)) (sx_c13 hB) rfl rfl hl.1 rfl (Nat.le_of_ble_eq_true rfl) dX4_readAnd_35 ⟨Nat.zero_le _, Nat.zero_le _⟩) (fun H locs hW => ?_)
        refine lv_aload_n hx hb dX4_readAnd_38 rfl (lv_at hl 0 rfl) ?_
        refine lv_bipush (v := -7) hx hb dX4_readAnd_39 (by decide) ?_
        obtain ⟨r10, σ11, eσ11, hs⟩ := sp_bind hs
        refine sv_goV (σ' := σ11) (r := r10) hW F.2.2.2.1 (sv_runV (C := RX4) F hW (k_X4_emit hB eσ11 H.size) gX4_readAnd_X4_emit rfl ⟨rfl, rfl⟩ 1 (by decide +kernel) (sv_room2 (by omega) (by omega)) (sx_i 13 hB (by decide)) (sx_c13 hB) rfl rfl hl.1 rfl (Nat.le_of_ble_eq_true rfl) dX4_readAnd_41 ⟨Nat.zero_le _, Nat.zero_le _⟩) (fun H locs hW => ?_)
        obtain ⟨v12, ev12⟩ : ∃ y : Int32, y = x2 + 1 := ⟨_, rfl⟩
        replace hs := sp_let hs ev12
        refine lv_iinc (v := v12) (lv' := [(2, .int v12), (0, .ref (h 13)), (1, .int x1)]) hx hb dX4_readAnd_44 hl (k := 2) rfl (by rw [ev12]; rfl) (by decide) rfl (fun ls hl => ?_)
        refine lv_goto (tgt := 7) hx hb dX4_readAnd_47 (by decide) ?_
        exact ih x1 v12 σ11 H locs ls (lv_sub hl [1, 2, 0] rfl) hW hs
set_option maxRecDepth 100000 in
set_option maxHeartbeats 4000000 in
theorem k_X4_readAnd_b {qK qV : Nat → Nat} {l : Launch} {D : va_G} {T : Nat → ClassId} {h : Nat → Nat} {θ : sv_T} {a1 : Int32} {σ : sv_S} {r : Unit} {σ' : sv_S} (hB : sx_base θ) (G : Nat → sv_T → Int32 → sv_S → Option (Unit × sv_S)) (fr lr : Nat) (hf : 20 ≤ fr) (hlr : 800 ≤ lr) (hG0 : ∀ (a1 : Int32) (σ : sv_S) (r : Unit) (σ1 : sv_S), G 0 θ a1 σ = some (r, σ1) → sv_Mv (sx_X qK qV) l D T (sx_tys T) h θ yX4_readOr wsX4_readOr (sv_rm fr lr) [.ref (h 13), .int a1] σ r σ1) (hG1 : ∀ (a1 : Int32) (σ : sv_S) (r : Unit) (σ1 : sv_S), G 1 θ a1 σ = some (r, σ1) → sv_Mv (sx_X qK qV) l D T (sx_tys T) h θ yX4_readAnd wsX4_readAnd (sv_rm fr lr) [.ref (h 13), .int a1] σ r σ1) (hG2 : ∀ (a1 : Int32) (σ : sv_S) (r : Unit) (σ1 : sv_S), G 2 θ a1 σ = some (r, σ1) → sv_Mv (sx_X qK qV) l D T (sx_tys T) h θ yX4_readNot wsX4_readNot (sv_rm fr lr) [.ref (h 13), .int a1] σ r σ1) (hG3 : ∀ (a1 : Int32) (σ : sv_S) (r : Unit) (σ1 : sv_S), G 3 θ a1 σ = some (r, σ1) → sv_Mv (sx_X qK qV) l D T (sx_tys T) h θ yX4_readSum wsX4_readSum (sv_rm fr lr) [.ref (h 13), .int a1] σ r σ1) (hG4 : ∀ (a1 : Int32) (σ : sv_S) (r : Unit) (σ1 : sv_S), G 4 θ a1 σ = some (r, σ1) → sv_Mv (sx_X qK qV) l D T (sx_tys T) h θ yX4_readTerm wsX4_readTerm (sv_rm fr lr) [.ref (h 13), .int a1] σ r σ1) (hG5 : ∀ (a1 : Int32) (σ : sv_S) (r : Unit) (σ1 : sv_S), G 5 θ a1 σ = some (r, σ1) → sv_Mv (sx_X qK qV) l D T (sx_tys T) h θ yX4_readOne wsX4_readOne (sv_rm fr lr) [.ref (h 13), .int a1] σ r σ1)  (hs : q_X4_readAnd_b θ G a1 σ = some (r, σ')) : sv_Mv (sx_X qK qV) l D T (sx_tys T) h θ yX4_readAnd wsX4_readAnd (sv_rm (fr + 1) (lr + 40)) [.ref (h 13), .int a1] σ r σ' := by
  intro sz
  refine sv_enter (cc := cX4_readAnd) (maxL := 3) (ret := none) (Qc := fun A => va_Qv (fun (_ : Unit) => True) (fun _ t => va_P D vwCl (sv_ws T h θ σ') t.heap) A) sx_XP (by decide) rfl (Nat.le_of_ble_eq_true rfl) ?_
  intro p e s m args below meth c A F hr hlk ls H hl hW
  have hx := F.1.1
  have hb := F.1.2.1
  have hts := F.1.2.2.2.2
  have hown := F.1.2.2.2.1
  have hK := F.2.1
  obtain ⟨locs, hlocs⟩ : ∃ z : List Loc, z = [] := ⟨_, rfl⟩
  rw [← hlocs] at hW ⊢
  have hl : lv_has ls 3 [(0, .ref (h 13)), (1, .int a1)] := hl
  unfold q_X4_readAnd_b at hs
  refine lv_aload_n hx hb dX4_readAnd_0 rfl (lv_at hl 0 rfl) ?_
  refine lv_iload_n hx hb dX4_readAnd_1 rfl (lv_at hl 1 rfl) ?_
  obtain ⟨r1, σ2, eσ2, hs⟩ := sp_bind hs
  refine sv_goV (σ' := σ2) (r := r1) hW F.2.2.2.1 (sv_runV (C := RX4) F hW (hG2 a1 _ _ _ eσ2 H.size) gX4_readAnd_X4_readNot rfl ⟨rfl, rfl⟩ 1 (by decide +kernel) (sv_room2 (by omega) (by omega)) (sx_i 13 hB (by decide)) (sx_c13 hB) rfl rfl hl.1 rfl (Nat.le_of_ble_eq_true rfl) dX4_readAnd_2 ⟨Nat.zero_le _, Nat.zero_le _⟩) (fun H locs hW => ?_)
  refine lv_iconst (v := 0) hx hb dX4_readAnd_5 (by decide) ?_
  refine lv_istore_n (lv' := [(2, .int (0 : Int32)), (0, .ref (h 13)), (1, .int a1)]) hx hb dX4_readAnd_6 rfl hl (by decide) rfl (fun ls hl => ?_)
  exact b_X4_readAnd_7 hB G fr lr hf hlr hG0 hG1 hG2 hG3 hG4 hG5 F hr hlk sv_N a1 (0 : Int32) σ2 H locs ls (lv_sub hl [1, 2, 0] rfl) hW hs
set_option maxRecDepth 100000 in
set_option maxHeartbeats 4000000 in
theorem b_X4_readOr_7 {qK qV : Nat → Nat} {p : Program} {l : Launch} {e : Env} {s : State} {m : MethodId} {args : Array Value} {below : List Frame} {meth : Method} {c : Code} {D : va_G} {T : Nat → ClassId} {A : Nat → Prop} {h : Nat → Nat} {θ : sv_T} {a1 : Int32} {r : Unit} {σ' : sv_S} (hB : sx_base θ) (G : Nat → sv_T → Int32 → sv_S → Option (Unit × sv_S)) (fr lr : Nat) (hf : 20 ≤ fr) (hlr : 800 ≤ lr) (hG0 : ∀ (a1 : Int32) (σ : sv_S) (r : Unit) (σ1 : sv_S), G 0 θ a1 σ = some (r, σ1) → sv_Mv (sx_X qK qV) l D T (sx_tys T) h θ yX4_readOr wsX4_readOr (sv_rm fr lr) [.ref (h 13), .int a1] σ r σ1) (hG1 : ∀ (a1 : Int32) (σ : sv_S) (r : Unit) (σ1 : sv_S), G 1 θ a1 σ = some (r, σ1) → sv_Mv (sx_X qK qV) l D T (sx_tys T) h θ yX4_readAnd wsX4_readAnd (sv_rm fr lr) [.ref (h 13), .int a1] σ r σ1) (hG2 : ∀ (a1 : Int32) (σ : sv_S) (r : Unit) (σ1 : sv_S), G 2 θ a1 σ = some (r, σ1) → sv_Mv (sx_X qK qV) l D T (sx_tys T) h θ yX4_readNot wsX4_readNot (sv_rm fr lr) [.ref (h 13), .int a1] σ r σ1) (hG3 : ∀ (a1 : Int32) (σ : sv_S) (r : Unit) (σ1 : sv_S), G 3 θ a1 σ = some (r, σ1) → sv_Mv (sx_X qK qV) l D T (sx_tys T) h θ yX4_readSum wsX4_readSum (sv_rm fr lr) [.ref (h 13), .int a1] σ r σ1) (hG4 : ∀ (a1 : Int32) (σ : sv_S) (r : Unit) (σ1 : sv_S), G 4 θ a1 σ = some (r, σ1) → sv_Mv (sx_X qK qV) l D T (sx_tys T) h θ yX4_readTerm wsX4_readTerm (sv_rm fr lr) [.ref (h 13), .int a1] σ r σ1) (hG5 : ∀ (a1 : Int32) (σ : sv_S) (r : Unit) (σ1 : sv_S), G 5 θ a1 σ = some (r, σ1) → sv_Mv (sx_X qK qV) l D T (sx_tys T) h θ yX4_readOne wsX4_readOne (sv_rm fr lr) [.ref (h 13), .int a1] σ r σ1)  (F : sv_F (sx_X qK qV) p m c cX4_readOr 3 s args wsX4_readOr RX4 D (sx_tys T) A) (hr : meth.sig.returnType = none) (hlk : meth.locks = false)  : ∀ (n : Nat), ∀ (x1 : Int32) (x2 : Int32) (σ : sv_S) (H : Heap) (locs : List Loc) (ls : Array Slot), lv_has ls 3 [(0, .ref (h 13)), (1, .int x1), (2, .int x2)] → sv_W D T A s h θ σ H locs → q_X4_readOr_B7 θ G a1 n x1 x2 σ = some (r, σ') → W p l e (sv_rm (fr + 1) (lr + 40)) s m args below meth c H locs 0 0 (MQ below (va_Qv (fun (_ : Unit) => True) (fun _ t => va_P D vwCl (sv_ws T h θ σ') t.heap) A) args s 0 0 A) (F0 m 7 ls []) := by
  have hx := F.1.1
  have hb := F.1.2.1
  have hts := F.1.2.2.2.2
  have hown := F.1.2.2.2.1
  have hK := F.2.1
  intro n
  induction n with
  | zero =>
    intro x1 x2 σ H locs ls hl hW hs
    have hs : (none : Option (Unit × sv_S)) = some (r, σ') := hs
    cases hs
  | succ n ih =>
    intro x1 x2 σ H locs ls hl hW hs
    have hs : q_X4_readOr_B7_b θ G a1 (q_X4_readOr_B7 θ G a1 n) x1 x2 σ = some (r, σ') := hs
    unfold q_X4_readOr_B7_b at hs
    refine lv_iload_n hx hb dX4_readOr_7 rfl (lv_at hl 2 rfl) ?_
    refine lv_sipush (v := 160) hx hb dX4_readOr_8 (by decide) ?_
    refine lv_icmp_ge (tgt := 50) hx hb dX4_readOr_11 (by decide) (fun c3 => ?_) (fun c3 => ?_)
    · replace hs := (sp_ite hs).1 c3
      cases hs
      exact sv_vret hx hb hr hlk hW dX4_readOr_50
    · replace hs := (sp_ite hs).2 c3
      refine lv_aload_n hx hb dX4_readOr_14 rfl (lv_at hl 0 rfl) ?_
      obtain ⟨r4, σ5, eσ5, hs⟩ := sp_bind hs
      refine sv_goI (σ' := σ5) (r := r4) hW F.2.2.2.1 (sv_runV (C := RX4) F hW (k_X4_token hB eσ5 H.size) gX4_readOr_X4_token rfl ⟨rfl, rfl⟩ 0 (by decide +kernel) (sv_room2 (by omega) (by omega)) (sx_i 13 hB (by decide)) (sx_c13 hB) rfl rfl hl.1 rfl (Nat.le_of_ble_eq_true rfl) dX4_readOr_15 ⟨Nat.zero_le _, Nat.zero_le _⟩) (fun H locs hW => ?_)
      refine lv_bipush (v := 6) hx hb dX4_readOr_18 (by decide) ?_
      refine lv_icmp_ne (tgt := 50) hx hb dX4_readOr_20 (by decide) (fun c6 => ?_) (fun c6 => ?_)
      · replace hs := (sp_ite hs).2 c6
        cases hs
        exact sv_vret hx hb hr hlk hW dX4_readOr_50
      · replace hs := (sp_ite hs).1 c6
        refine lv_aload_n hx hb dX4_readOr_23 rfl (lv_at hl 0 rfl) ?_
        refine lv_dup hx hb dX4_readOr_24 rfl ?_
        refine sv_get (own := RX4) (C := RX4) (Tf := TX4) (N := 11) (index := 41) (κ := (0, 0)) (v := .int (σ5.1 13 7)) hx hb hts hown hK hW (fun _ h => List.mem_cons_of_mem _ (List.mem_append_right _ h)) (sx_i 13 hB (by decide)) (sx_c13 hB) rfl 7 (by decide) rfl rfl (List.mem_of_getElem? (i := 1) rfl) dX4_readOr_25 ?_
        refine lv_iconst (v := 1) hx hb dX4_readOr_28 (by decide) ?_
        refine lv_iadd hx hb dX4_readOr_29 ?_
        refine sv_putI (own := RX4) (C := RX4) (Tf := TX4) (N := 11) (index := 41) hx hb hts hown hK hW (fun _ h => List.mem_cons_of_mem _ (List.mem_append_right _ h)) tyX4 tyX4_ok nmX4 (sx_i 13 hB (by decide)) (sx_c13 hB) rfl 7 (by decide) rfl rfl (ty := .int) (by decide +kernel) rfl rfl (List.mem_of_getElem? (i := 1) rfl) dX4_readOr_30 (fun σ7 H locs eσ7 hW => ?_)
        replace hs := sp_let hs eσ7
        refine lv_aload_n hx hb dX4_readOr_33 rfl (lv_at hl 0 rfl) ?_
        refine lv_iload_n hx hb dX4_readOr_34 rfl (lv_at hl 1 rfl) ?_
        obtain ⟨r8, σ9, eσ9, hs⟩ := sp_bind hs
        refine sv_goV (σ' := σ9) (r := r8) hW F.2.2.2.1 (sv_runV (C := RX4) F hW (hG1 x1 _ _ _ eσ9 H.size) gX4_readOr_X4_readAnd rfl ⟨rfl, rfl⟩ 1 (by decide +kernel) (sv_room2 (by omega) (by omega)) (sx_i 13 hB (by decide)) (sx_c13 hB) rfl rfl hl.1 rfl (Nat.le_of_ble_eq_true rfl) dX4_readOr_35 ⟨Nat.zero_le _, Nat.zero_le _⟩) (fun H locs hW => ?_)
        refine lv_aload_n hx hb dX4_readOr_38 rfl (lv_at hl 0 rfl) ?_
        refine lv_bipush (v := -6) hx hb dX4_readOr_39 (by decide) ?_
        obtain ⟨r10, σ11, eσ11, hs⟩ := sp_bind hs
        refine sv_goV (σ' := σ11) (r := r10) hW F.2.2.2.1 (sv_runV (C := RX4) F hW (k_X4_emit hB eσ11 H.size) gX4_readOr_X4_emit rfl ⟨rfl, rfl⟩ 1 (by decide +kernel) (sv_room2 (by omega) (by omega)) (sx_i 13 hB (by decide)) (sx_c13 hB) rfl rfl hl.1 rfl (Nat.le_of_ble_eq_true rfl) dX4_readOr_41 ⟨Nat.zero_le _, Nat.zero_le _⟩) (fun H locs hW => ?_)
        obtain ⟨v12, ev12⟩ : ∃ y : Int32, y = x2 + 1 := ⟨_, rfl⟩
        replace hs := sp_let hs ev12
        refine lv_iinc (v := v12) (lv' := [(2, .int v12), (0, .ref (h 13)), (1, .int x1)]) hx hb dX4_readOr_44 hl (k := 2) rfl (by rw [ev12]; rfl) (by decide) rfl (fun ls hl => ?_)
        refine lv_goto (tgt := 7) hx hb dX4_readOr_47 (by decide) ?_
        exact ih x1 v12 σ11 H locs ls (lv_sub hl [1, 2, 0] rfl) hW hs
set_option maxRecDepth 100000 in
set_option maxHeartbeats 4000000 in
theorem k_X4_readOr_b {qK qV : Nat → Nat} {l : Launch} {D : va_G} {T : Nat → ClassId} {h : Nat → Nat} {θ : sv_T} {a1 : Int32} {σ : sv_S} {r : Unit} {σ' : sv_S} (hB : sx_base θ) (G : Nat → sv_T → Int32 → sv_S → Option (Unit × sv_S)) (fr lr : Nat) (hf : 20 ≤ fr) (hlr : 800 ≤ lr) (hG0 : ∀ (a1 : Int32) (σ : sv_S) (r : Unit) (σ1 : sv_S), G 0 θ a1 σ = some (r, σ1) → sv_Mv (sx_X qK qV) l D T (sx_tys T) h θ yX4_readOr wsX4_readOr (sv_rm fr lr) [.ref (h 13), .int a1] σ r σ1) (hG1 : ∀ (a1 : Int32) (σ : sv_S) (r : Unit) (σ1 : sv_S), G 1 θ a1 σ = some (r, σ1) → sv_Mv (sx_X qK qV) l D T (sx_tys T) h θ yX4_readAnd wsX4_readAnd (sv_rm fr lr) [.ref (h 13), .int a1] σ r σ1) (hG2 : ∀ (a1 : Int32) (σ : sv_S) (r : Unit) (σ1 : sv_S), G 2 θ a1 σ = some (r, σ1) → sv_Mv (sx_X qK qV) l D T (sx_tys T) h θ yX4_readNot wsX4_readNot (sv_rm fr lr) [.ref (h 13), .int a1] σ r σ1) (hG3 : ∀ (a1 : Int32) (σ : sv_S) (r : Unit) (σ1 : sv_S), G 3 θ a1 σ = some (r, σ1) → sv_Mv (sx_X qK qV) l D T (sx_tys T) h θ yX4_readSum wsX4_readSum (sv_rm fr lr) [.ref (h 13), .int a1] σ r σ1) (hG4 : ∀ (a1 : Int32) (σ : sv_S) (r : Unit) (σ1 : sv_S), G 4 θ a1 σ = some (r, σ1) → sv_Mv (sx_X qK qV) l D T (sx_tys T) h θ yX4_readTerm wsX4_readTerm (sv_rm fr lr) [.ref (h 13), .int a1] σ r σ1) (hG5 : ∀ (a1 : Int32) (σ : sv_S) (r : Unit) (σ1 : sv_S), G 5 θ a1 σ = some (r, σ1) → sv_Mv (sx_X qK qV) l D T (sx_tys T) h θ yX4_readOne wsX4_readOne (sv_rm fr lr) [.ref (h 13), .int a1] σ r σ1)  (hs : q_X4_readOr_b θ G a1 σ = some (r, σ')) : sv_Mv (sx_X qK qV) l D T (sx_tys T) h θ yX4_readOr wsX4_readOr (sv_rm (fr + 1) (lr + 40)) [.ref (h 13), .int a1] σ r σ' := by
  intro sz
  refine sv_enter (cc := cX4_readOr) (maxL := 3) (ret := none) (Qc := fun A => va_Qv (fun (_ : Unit) => True) (fun _ t => va_P D vwCl (sv_ws T h θ σ') t.heap) A) sx_XP (by decide) rfl (Nat.le_of_ble_eq_true rfl) ?_
  intro p e s m args below meth c A F hr hlk ls H hl hW
  have hx := F.1.1
  have hb := F.1.2.1
  have hts := F.1.2.2.2.2
  have hown := F.1.2.2.2.1
  have hK := F.2.1
  obtain ⟨locs, hlocs⟩ : ∃ z : List Loc, z = [] := ⟨_, rfl⟩
  rw [← hlocs] at hW ⊢
  have hl : lv_has ls 3 [(0, .ref (h 13)), (1, .int a1)] := hl
  unfold q_X4_readOr_b at hs
  refine lv_aload_n hx hb dX4_readOr_0 rfl (lv_at hl 0 rfl) ?_
  refine lv_iload_n hx hb dX4_readOr_1 rfl (lv_at hl 1 rfl) ?_
  obtain ⟨r1, σ2, eσ2, hs⟩ := sp_bind hs
  refine sv_goV (σ' := σ2) (r := r1) hW F.2.2.2.1 (sv_runV (C := RX4) F hW (hG1 a1 _ _ _ eσ2 H.size) gX4_readOr_X4_readAnd rfl ⟨rfl, rfl⟩ 1 (by decide +kernel) (sv_room2 (by omega) (by omega)) (sx_i 13 hB (by decide)) (sx_c13 hB) rfl rfl hl.1 rfl (Nat.le_of_ble_eq_true rfl) dX4_readOr_2 ⟨Nat.zero_le _, Nat.zero_le _⟩) (fun H locs hW => ?_)
  refine lv_iconst (v := 0) hx hb dX4_readOr_5 (by decide) ?_
  refine lv_istore_n (lv' := [(2, .int (0 : Int32)), (0, .ref (h 13)), (1, .int a1)]) hx hb dX4_readOr_6 rfl hl (by decide) rfl (fun ls hl => ?_)
  exact b_X4_readOr_7 hB G fr lr hf hlr hG0 hG1 hG2 hG3 hG4 hG5 F hr hlk sv_N a1 (0 : Int32) σ2 H locs ls (lv_sub hl [1, 2, 0] rfl) hW hs
set_option maxRecDepth 100000 in
set_option maxHeartbeats 4000000 in
theorem k_G4 {qK qV : Nat → Nat} {l : Launch} {D : va_G} {T : Nat → ClassId} {h : Nat → Nat} {θ : sv_T} (hB : sx_base θ) : ∀ d : Nat, (∀ (a1 : Int32) (σ : sv_S) (r : Unit) (σ1 : sv_S), q_G4 d 0 θ a1 σ = some (r, σ1) → sv_Mv (sx_X qK qV) l D T (sx_tys T) h θ yX4_readOr wsX4_readOr (sv_rm (1 * d + 20) (40 * d + 800)) [.ref (h 13), .int a1] σ r σ1) ∧ (∀ (a1 : Int32) (σ : sv_S) (r : Unit) (σ1 : sv_S), q_G4 d 1 θ a1 σ = some (r, σ1) → sv_Mv (sx_X qK qV) l D T (sx_tys T) h θ yX4_readAnd wsX4_readAnd (sv_rm (1 * d + 20) (40 * d + 800)) [.ref (h 13), .int a1] σ r σ1) ∧ (∀ (a1 : Int32) (σ : sv_S) (r : Unit) (σ1 : sv_S), q_G4 d 2 θ a1 σ = some (r, σ1) → sv_Mv (sx_X qK qV) l D T (sx_tys T) h θ yX4_readNot wsX4_readNot (sv_rm (1 * d + 20) (40 * d + 800)) [.ref (h 13), .int a1] σ r σ1) ∧ (∀ (a1 : Int32) (σ : sv_S) (r : Unit) (σ1 : sv_S), q_G4 d 3 θ a1 σ = some (r, σ1) → sv_Mv (sx_X qK qV) l D T (sx_tys T) h θ yX4_readSum wsX4_readSum (sv_rm (1 * d + 20) (40 * d + 800)) [.ref (h 13), .int a1] σ r σ1) ∧ (∀ (a1 : Int32) (σ : sv_S) (r : Unit) (σ1 : sv_S), q_G4 d 4 θ a1 σ = some (r, σ1) → sv_Mv (sx_X qK qV) l D T (sx_tys T) h θ yX4_readTerm wsX4_readTerm (sv_rm (1 * d + 20) (40 * d + 800)) [.ref (h 13), .int a1] σ r σ1) ∧ (∀ (a1 : Int32) (σ : sv_S) (r : Unit) (σ1 : sv_S), q_G4 d 5 θ a1 σ = some (r, σ1) → sv_Mv (sx_X qK qV) l D T (sx_tys T) h θ yX4_readOne wsX4_readOne (sv_rm (1 * d + 20) (40 * d + 800)) [.ref (h 13), .int a1] σ r σ1) := by
  intro d
  induction d with
  | zero =>
    refine ⟨?_, ?_, ?_, ?_, ?_, ?_⟩
    · intro a1 σ r σ1 hs
      have hs : (none : Option (Unit × sv_S)) = some (r, σ1) := hs
      cases hs
    · intro a1 σ r σ1 hs
      have hs : (none : Option (Unit × sv_S)) = some (r, σ1) := hs
      cases hs
    · intro a1 σ r σ1 hs
      have hs : (none : Option (Unit × sv_S)) = some (r, σ1) := hs
      cases hs
    · intro a1 σ r σ1 hs
      have hs : (none : Option (Unit × sv_S)) = some (r, σ1) := hs
      cases hs
    · intro a1 σ r σ1 hs
      have hs : (none : Option (Unit × sv_S)) = some (r, σ1) := hs
      cases hs
    · intro a1 σ r σ1 hs
      have hs : (none : Option (Unit × sv_S)) = some (r, σ1) := hs
      cases hs
  | succ d ih =>
    obtain ⟨ih0, ih1, ih2, ih3, ih4, ih5⟩ := ih
    refine ⟨?_, ?_, ?_, ?_, ?_, ?_⟩
    · intro a1 σ r σ1 hs
      have hq := k_X4_readOr_b hB (q_G4 d) (1 * d + 20) (40 * d + 800) (by omega) (by omega) ih0 ih1 ih2 ih3 ih4 ih5 hs
      rw [show 1 * (d + 1) + 20 = 1 * d + 20 + 1 by omega, show 40 * (d + 1) + 800 = 40 * d + 800 + 40 by omega]
      exact hq
    · intro a1 σ r σ1 hs
      have hq := k_X4_readAnd_b hB (q_G4 d) (1 * d + 20) (40 * d + 800) (by omega) (by omega) ih0 ih1 ih2 ih3 ih4 ih5 hs
      rw [show 1 * (d + 1) + 20 = 1 * d + 20 + 1 by omega, show 40 * (d + 1) + 800 = 40 * d + 800 + 40 by omega]
      exact hq
    · intro a1 σ r σ1 hs
      have hq := k_X4_readNot_b hB (q_G4 d) (1 * d + 20) (40 * d + 800) (by omega) (by omega) ih0 ih1 ih2 ih3 ih4 ih5 hs
      rw [show 1 * (d + 1) + 20 = 1 * d + 20 + 1 by omega, show 40 * (d + 1) + 800 = 40 * d + 800 + 40 by omega]
      exact hq
    · intro a1 σ r σ1 hs
      have hq := k_X4_readSum_b hB (q_G4 d) (1 * d + 20) (40 * d + 800) (by omega) (by omega) ih0 ih1 ih2 ih3 ih4 ih5 hs
      rw [show 1 * (d + 1) + 20 = 1 * d + 20 + 1 by omega, show 40 * (d + 1) + 800 = 40 * d + 800 + 40 by omega]
      exact hq
    · intro a1 σ r σ1 hs
      have hq := k_X4_readTerm_b hB (q_G4 d) (1 * d + 20) (40 * d + 800) (by omega) (by omega) ih0 ih1 ih2 ih3 ih4 ih5 hs
      rw [show 1 * (d + 1) + 20 = 1 * d + 20 + 1 by omega, show 40 * (d + 1) + 800 = 40 * d + 800 + 40 by omega]
      exact hq
    · intro a1 σ r σ1 hs
      have hq := k_X4_readOne_b hB (q_G4 d) (1 * d + 20) (40 * d + 800) (by omega) (by omega) ih0 ih1 ih2 ih3 ih4 ih5 hs
      rw [show 1 * (d + 1) + 20 = 1 * d + 20 + 1 by omega, show 40 * (d + 1) + 800 = 40 * d + 800 + 40 by omega]
      exact hq
theorem k_X4_readOr {qK qV : Nat → Nat} {l : Launch} {D : va_G} {T : Nat → ClassId} {h : Nat → Nat} {θ : sv_T} {a1 : Int32} {σ : sv_S} {r : Unit} {σ' : sv_S} (hB : sx_base θ) (hs : q_X4_readOr θ 40 a1 σ = some (r, σ')) : sv_Mv (sx_X qK qV) l D T (sx_tys T) h θ yX4_readOr wsX4_readOr (sv_rm 60 2400) [.ref (h 13), .int a1] σ r σ' := (k_G4 hB 40).1 a1 _ _ _ hs
theorem k_X4_readAnd {qK qV : Nat → Nat} {l : Launch} {D : va_G} {T : Nat → ClassId} {h : Nat → Nat} {θ : sv_T} {a1 : Int32} {σ : sv_S} {r : Unit} {σ' : sv_S} (hB : sx_base θ) (hs : q_X4_readAnd θ 40 a1 σ = some (r, σ')) : sv_Mv (sx_X qK qV) l D T (sx_tys T) h θ yX4_readAnd wsX4_readAnd (sv_rm 60 2400) [.ref (h 13), .int a1] σ r σ' := (k_G4 hB 40).2.1 a1 _ _ _ hs
theorem k_X4_readNot {qK qV : Nat → Nat} {l : Launch} {D : va_G} {T : Nat → ClassId} {h : Nat → Nat} {θ : sv_T} {a1 : Int32} {σ : sv_S} {r : Unit} {σ' : sv_S} (hB : sx_base θ) (hs : q_X4_readNot θ 40 a1 σ = some (r, σ')) : sv_Mv (sx_X qK qV) l D T (sx_tys T) h θ yX4_readNot wsX4_readNot (sv_rm 60 2400) [.ref (h 13), .int a1] σ r σ' := (k_G4 hB 40).2.2.1 a1 _ _ _ hs
theorem k_X4_readSum {qK qV : Nat → Nat} {l : Launch} {D : va_G} {T : Nat → ClassId} {h : Nat → Nat} {θ : sv_T} {a1 : Int32} {σ : sv_S} {r : Unit} {σ' : sv_S} (hB : sx_base θ) (hs : q_X4_readSum θ 40 a1 σ = some (r, σ')) : sv_Mv (sx_X qK qV) l D T (sx_tys T) h θ yX4_readSum wsX4_readSum (sv_rm 60 2400) [.ref (h 13), .int a1] σ r σ' := (k_G4 hB 40).2.2.2.1 a1 _ _ _ hs
theorem k_X4_readTerm {qK qV : Nat → Nat} {l : Launch} {D : va_G} {T : Nat → ClassId} {h : Nat → Nat} {θ : sv_T} {a1 : Int32} {σ : sv_S} {r : Unit} {σ' : sv_S} (hB : sx_base θ) (hs : q_X4_readTerm θ 40 a1 σ = some (r, σ')) : sv_Mv (sx_X qK qV) l D T (sx_tys T) h θ yX4_readTerm wsX4_readTerm (sv_rm 60 2400) [.ref (h 13), .int a1] σ r σ' := (k_G4 hB 40).2.2.2.2.1 a1 _ _ _ hs
theorem k_X4_readOne {qK qV : Nat → Nat} {l : Launch} {D : va_G} {T : Nat → ClassId} {h : Nat → Nat} {θ : sv_T} {a1 : Int32} {σ : sv_S} {r : Unit} {σ' : sv_S} (hB : sx_base θ) (hs : q_X4_readOne θ 40 a1 σ = some (r, σ')) : sv_Mv (sx_X qK qV) l D T (sx_tys T) h θ yX4_readOne wsX4_readOne (sv_rm 60 2400) [.ref (h 13), .int a1] σ r σ' := (k_G4 hB 40).2.2.2.2.2 a1 _ _ _ hs
set_option maxRecDepth 100000 in
set_option maxHeartbeats 4000000 in
theorem b_J7_fill_53178_5 {qK qV : Nat → Nat} {p : Program} {l : Launch} {e : Env} {s : State} {m : MethodId} {args : Array Value} {below : List Frame} {meth : Method} {c : Code} {D : va_G} {T : Nat → ClassId} {A : Nat → Prop} {h : Nat → Nat} {θ : sv_T} {b1 : Nat} {a2 : Int32} {r : Unit} {σ' : sv_S} (hB : sx_base θ) (hb1 : sv_oA θ b1) (F : sv_F (sx_X qK qV) p m c cJ7_fill_53178 4 s args wsJ7_fill_53178 RJ7 D (sx_tys T) A) (hr : meth.sig.returnType = none) (hlk : meth.locks = false)  : ∀ (n : Nat), ∀ (x1 : Int32) (x2 : Int32) (x3 : Int32) (σ : sv_S) (H : Heap) (locs : List Loc) (ls : Array Slot), lv_has ls 4 [(0, .ref (h b1)), (1, .int x1), (2, .int x2), (3, .int x3)] → sv_W D T A s h θ σ H locs → q_J7_fill_53178_B5 θ b1 a2 n x1 x2 x3 σ = some (r, σ') → W p l e (sv_rm 0 0) s m args below meth c H locs 0 0 (MQ below (va_Qv (fun (_ : Unit) => True) (fun _ t => va_P D vwCl (sv_ws T h θ σ') t.heap) A) args s 0 0 A) (F0 m 5 ls []) := by
  have hx := F.1.1
  have hb := F.1.2.1
  have hts := F.1.2.2.2.2
  have hown := F.1.2.2.2.1
  have hK := F.2.1
  intro n
  induction n with
  | zero =>
    intro x1 x2 x3 σ H locs ls hl hW hs
    have hs : (none : Option (Unit × sv_S)) = some (r, σ') := hs
    cases hs
  | succ n ih =>
    intro x1 x2 x3 σ H locs ls hl hW hs
    have hs : q_J7_fill_53178_B5_b θ b1 a2 (q_J7_fill_53178_B5 θ b1 a2 n) x1 x2 x3 σ = some (r, σ') := hs
    unfold q_J7_fill_53178_B5_b at hs
    refine lv_iload_n hx hb dJ7_fill_53178_5 rfl (lv_at hl 2 rfl) ?_
    refine lv_iload_n hx hb dJ7_fill_53178_6 rfl (lv_at hl 3 rfl) ?_
    refine lv_icmp_ge (tgt := 20) hx hb dJ7_fill_53178_7 (by decide) (fun c2 => ?_) (fun c2 => ?_)
    · replace hs := (sp_ite hs).1 c2
      cases hs
      exact sv_vret hx hb hr hlk hW dJ7_fill_53178_20
    · replace hs := (sp_ite hs).2 c2
      refine lv_aload_n hx hb dJ7_fill_53178_10 rfl (lv_at hl 0 rfl) ?_
      refine lv_iload_n hx hb dJ7_fill_53178_11 rfl (lv_at hl 2 rfl) ?_
      refine lv_iload_n hx hb dJ7_fill_53178_12 rfl (lv_at hl 1 rfl) ?_
      obtain ⟨hi3, hs⟩ := sp_g hs
      refine sv_iast hx hb hK hW hb1.1 hb1.2 0 rfl hi3 dJ7_fill_53178_13 (fun σ4 H locs eσ4 hW => ?_)
      replace hs := sp_let hs eσ4
      obtain ⟨v5, ev5⟩ : ∃ y : Int32, y = x2 + 1 := ⟨_, rfl⟩
      replace hs := sp_let hs ev5
      refine lv_iinc (v := v5) (lv' := [(2, .int v5), (0, .ref (h b1)), (1, .int x1), (3, .int x3)]) hx hb dJ7_fill_53178_14 hl (k := 2) rfl (by rw [ev5]; rfl) (by decide) rfl (fun ls hl => ?_)
      refine lv_goto (tgt := 5) hx hb dJ7_fill_53178_17 (by decide) ?_
      exact ih x1 v5 x3 σ4 H locs ls (lv_sub hl [1, 2, 0, 3] rfl) hW hs
set_option maxRecDepth 100000 in
set_option maxHeartbeats 4000000 in
theorem k_J7_fill_53178 {qK qV : Nat → Nat} {l : Launch} {D : va_G} {T : Nat → ClassId} {h : Nat → Nat} {θ : sv_T} {b1 : Nat} {a2 : Int32} {σ : sv_S} {r : Unit} {σ' : sv_S} (hB : sx_base θ) (hb1 : sv_oA θ b1) (hs : q_J7_fill_53178 θ b1 a2 σ = some (r, σ')) : sv_Mv (sx_X qK qV) l D T (sx_tys T) h θ yJ7_fill_53178 wsJ7_fill_53178 (sv_rm 0 0) [.ref (h b1), .int a2] σ r σ' := by
  intro sz
  refine sv_enter (cc := cJ7_fill_53178) (maxL := 4) (ret := none) (Qc := fun A => va_Qv (fun (_ : Unit) => True) (fun _ t => va_P D vwCl (sv_ws T h θ σ') t.heap) A) sx_XP (by decide) rfl (Nat.le_of_ble_eq_true rfl) ?_
  intro p e s m args below meth c A F hr hlk ls H hl hW
  have hx := F.1.1
  have hb := F.1.2.1
  have hts := F.1.2.2.2.2
  have hown := F.1.2.2.2.1
  have hK := F.2.1
  obtain ⟨locs, hlocs⟩ : ∃ z : List Loc, z = [] := ⟨_, rfl⟩
  rw [← hlocs] at hW ⊢
  have hl : lv_has ls 4 [(0, .ref (h b1)), (1, .int a2)] := hl
  unfold q_J7_fill_53178 at hs
  refine lv_iconst (v := 0) hx hb dJ7_fill_53178_0 (by decide) ?_
  refine lv_istore_n (lv' := [(2, .int (0 : Int32)), (0, .ref (h b1)), (1, .int a2)]) hx hb dJ7_fill_53178_1 rfl hl (by decide) rfl (fun ls hl => ?_)
  refine lv_aload_n hx hb dJ7_fill_53178_2 rfl (lv_at hl 1 rfl) ?_
  refine sv_alen (t := 0) (v := (Int32.ofNat (sv_len θ b1))) hx hb hK hW hb1.1 hb1.2 0 rfl rfl dJ7_fill_53178_3 ?_
  refine lv_topi (fun v1 ev1 => ?_)
  replace hs := sp_let hs ev1
  refine lv_istore_n (lv' := [(3, .int v1), (2, .int (0 : Int32)), (0, .ref (h b1)), (1, .int a2)]) hx hb dJ7_fill_53178_4 rfl hl (by decide) rfl (fun ls hl => ?_)
  exact b_J7_fill_53178_5 hB hb1 F hr hlk sv_N a2 (0 : Int32) v1 σ H locs ls (lv_sub hl [2, 3, 1, 0] rfl) hW hs
set_option maxRecDepth 100000 in
set_option maxHeartbeats 4000000 in
theorem k_X5_renew {qK qV : Nat → Nat} {l : Launch} {D : va_G} {T : Nat → ClassId} {h : Nat → Nat} {θ : sv_T} {kr : Nat} {a1 : Int32} {a2 : Int32} {σ : sv_S} {r : Unit} {σ' : sv_S} (hB : sx_base θ) (hkr : sv_oX5 θ kr) (hs : q_X5_renew θ kr a1 a2 σ = some (r, σ')) : sv_Mv (sx_X qK qV) l D T (sx_tys T) h θ yX5_renew wsX5_renew (sv_rm 1 23) [.ref (h kr), .int a1, .int a2] σ r σ' := by
  intro sz
  refine sv_enter (cc := cX5_renew) (maxL := 3) (ret := none) (Qc := fun A => va_Qv (fun (_ : Unit) => True) (fun _ t => va_P D vwCl (sv_ws T h θ σ') t.heap) A) sx_XP (by decide) rfl (Nat.le_of_ble_eq_true rfl) ?_
  intro p e s m args below meth c A F hr hlk ls H hl hW
  have hx := F.1.1
  have hb := F.1.2.1
  have hts := F.1.2.2.2.2
  have hown := F.1.2.2.2.1
  have hK := F.2.1
  obtain ⟨locs, hlocs⟩ : ∃ z : List Loc, z = [] := ⟨_, rfl⟩
  rw [← hlocs] at hW ⊢
  have hl : lv_has ls 3 [(0, .ref (h kr)), (1, .int a1), (2, .int a2)] := hl
  unfold q_X5_renew at hs
  refine lv_aload_n hx hb dX5_renew_0 rfl (lv_at hl 0 rfl) ?_
  refine lv_iload_n hx hb dX5_renew_1 rfl (lv_at hl 1 rfl) ?_
  refine sv_putI (own := RX5) (C := RX5) (Tf := TX5) (N := 3) (index := 15) hx hb hts hown hK hW (fun _ h => List.mem_cons_of_mem _ (List.mem_append_right _ h)) tyX5 tyX5_ok nmX5 hkr.1 hkr.2.1 rfl 1 (by decide) rfl rfl (ty := .int) (by decide +kernel) rfl rfl (List.mem_of_getElem? (i := 1) rfl) dX5_renew_2 (fun σ1 H locs eσ1 hW => ?_)
  replace hs := sp_let hs eσ1
  refine lv_aload_n hx hb dX5_renew_5 rfl (lv_at hl 0 rfl) ?_
  refine lv_iload_n hx hb dX5_renew_6 rfl (lv_at hl 2 rfl) ?_
  refine lv_iconst (v := 0) hx hb dX5_renew_7 (by decide) ?_
  refine lv_aload_n hx hb dX5_renew_8 rfl (lv_at hl 0 rfl) ?_
  refine sv_get (own := RX5) (C := RX5) (Tf := TX5) (N := 3) (index := 9) (κ := (3, 1)) (v := .ref (h (kr + 1))) hx hb hts hown hK hW (fun _ h => List.mem_cons_of_mem _ (List.mem_append_right _ h)) hkr.1 hkr.2.1 rfl 0 (by decide) rfl rfl (List.mem_of_getElem? (i := 2) rfl) dX5_renew_9 ?_
  refine sv_alen (t := 0) (v := (40 : Int32)) hx hb hK hW hkr.2.2.1 hkr.2.2.2 0 rfl rfl dX5_renew_12 ?_
  obtain ⟨r2, σ3, eσ3, hs⟩ := sp_bind hs
  refine sv_goI (σ' := σ3) (r := r2) hW F.2.2.2.1 (sv_runN (own := RX5) (host := "OpenWhileItRains") F hW (k_X7_bound hB eσ3 H.size) gX5_renew_X7_bound_n19 rfl ⟨rfl, rfl⟩ (F.2.2.1.1 _ (List.mem_of_getElem? (i := 19) rfl)) (List.mem_of_getElem? (i := 5) rfl) (List.mem_of_getElem? (i := 4) rfl) 3 (by decide +kernel) (sv_room2 (by omega) (by omega)) rfl hl.1 rfl (Nat.le_of_ble_eq_true rfl) dX5_renew_13 ⟨Nat.zero_le _, Nat.zero_le _⟩) (fun H locs hW => ?_)
  refine sv_putI (own := RX5) (C := RX5) (Tf := TX5) (N := 3) (index := 23) hx hb hts hown hK hW (fun _ h => List.mem_cons_of_mem _ (List.mem_append_right _ h)) tyX5 tyX5_ok nmX5 hkr.1 hkr.2.1 rfl 2 (by decide) rfl rfl (ty := .int) (by decide +kernel) rfl rfl (List.mem_of_getElem? (i := 3) rfl) dX5_renew_16 (fun σ4 H locs eσ4 hW => ?_)
  replace hs := sp_let hs eσ4
  refine lv_aload_n hx hb dX5_renew_19 rfl (lv_at hl 0 rfl) ?_
  refine sv_get (own := RX5) (C := RX5) (Tf := TX5) (N := 3) (index := 9) (κ := (3, 1)) (v := .ref (h (kr + 1))) hx hb hts hown hK hW (fun _ h => List.mem_cons_of_mem _ (List.mem_append_right _ h)) hkr.1 hkr.2.1 rfl 0 (by decide) rfl rfl (List.mem_of_getElem? (i := 2) rfl) dX5_renew_20 ?_
  refine lv_iconst (v := 0) hx hb dX5_renew_23 (by decide) ?_
  obtain ⟨r5, σ6, eσ6, hs⟩ := sp_bind hs
  refine sv_goV (σ' := σ6) (r := r5) hW F.2.2.2.1 (sv_runT F hW (k_J7_fill_53178 hB (sv_oA_of hkr.2.2.1 hkr.2.2.2) eσ6 H.size) gX5_renew_J7_fill_53178 rfl ⟨rfl, rfl⟩ 2 (by decide +kernel) (sv_room2 (by omega) (by omega)) rfl hl.1 rfl (Nat.le_of_ble_eq_true rfl) dX5_renew_24 ⟨Nat.zero_le _, Nat.zero_le _⟩) (fun H locs hW => ?_)
  cases hs
  exact sv_vret hx hb hr hlk hW dX5_renew_27
set_option maxRecDepth 100000 in
set_option maxHeartbeats 4000000 in
theorem k_X5_write {qK qV : Nat → Nat} {l : Launch} {D : va_G} {T : Nat → ClassId} {h : Nat → Nat} {θ : sv_T} {kr : Nat} {a1 : Int32} {a2 : Int32} {σ : sv_S} {r : Int32} {σ' : sv_S} (hB : sx_base θ) (hkr : sv_oX5 θ kr) (hs : q_X5_write θ kr a1 a2 σ = some (r, σ')) : sv_Mi (sx_X qK qV) l D T (sx_tys T) h θ yX5_write wsX5_write (sv_rm 0 0) [.ref (h kr), .int a1, .int a2] σ r σ' := by
  intro sz
  refine sv_enter (cc := cX5_write) (maxL := 3) (ret := (some .boolean)) (Qc := fun A => va_Qi (fun r2 (_ : Unit) => r2 = r) (fun _ t => va_P D vwCl (sv_ws T h θ σ') t.heap) A) sx_XP (by decide) rfl (Nat.le_of_ble_eq_true rfl) ?_
  intro p e s m args below meth c A F hr hlk ls H hl hW
  have hx := F.1.1
  have hb := F.1.2.1
  have hts := F.1.2.2.2.2
  have hown := F.1.2.2.2.1
  have hK := F.2.1
  obtain ⟨locs, hlocs⟩ : ∃ z : List Loc, z = [] := ⟨_, rfl⟩
  rw [← hlocs] at hW ⊢
  have hl : lv_has ls 3 [(0, .ref (h kr)), (1, .int a1), (2, .int a2)] := hl
  unfold q_X5_write at hs
  refine lv_iload_n hx hb dX5_write_0 rfl (lv_at hl 1 rfl) ?_
  refine lv_if_lt (tgt := 21) hx hb dX5_write_1 (by decide) (fun c1 => ?_) (fun c1 => ?_)
  · replace hs := (sp_ite hs).1 c1
    refine lv_iconst (v := 0) hx hb dX5_write_21 (by decide) ?_
    cases hs
    exact sv_iret hx hb hr rfl hlk hW dX5_write_22
  · replace hs := (sp_ite hs).2 c1
    refine lv_iload_n hx hb dX5_write_4 rfl (lv_at hl 1 rfl) ?_
    refine lv_aload_n hx hb dX5_write_5 rfl (lv_at hl 0 rfl) ?_
    refine sv_get (own := RX5) (C := RX5) (Tf := TX5) (N := 3) (index := 23) (κ := (0, 0)) (v := .int (σ.1 kr 2)) hx hb hts hown hK hW (fun _ h => List.mem_cons_of_mem _ (List.mem_append_right _ h)) hkr.1 hkr.2.1 rfl 2 (by decide) rfl rfl (List.mem_of_getElem? (i := 1) rfl) dX5_write_6 ?_
    refine lv_icmp_ge (tgt := 21) hx hb dX5_write_9 (by decide) (fun c2 => ?_) (fun c2 => ?_)
    · replace hs := (sp_ite hs).1 c2
      refine lv_iconst (v := 0) hx hb dX5_write_21 (by decide) ?_
      cases hs
      exact sv_iret hx hb hr rfl hlk hW dX5_write_22
    · replace hs := (sp_ite hs).2 c2
      refine lv_iload_n hx hb dX5_write_12 rfl (lv_at hl 1 rfl) ?_
      refine lv_aload_n hx hb dX5_write_13 rfl (lv_at hl 0 rfl) ?_
      refine sv_get (own := RX5) (C := RX5) (Tf := TX5) (N := 3) (index := 9) (κ := (3, 1)) (v := .ref (h (kr + 1))) hx hb hts hown hK hW (fun _ h => List.mem_cons_of_mem _ (List.mem_append_right _ h)) hkr.1 hkr.2.1 rfl 0 (by decide) rfl rfl (List.mem_of_getElem? (i := 2) rfl) dX5_write_14 ?_
      refine sv_alen (t := 0) (v := (40 : Int32)) hx hb hK hW hkr.2.2.1 hkr.2.2.2 0 rfl rfl dX5_write_17 ?_
      refine lv_icmp_lt (tgt := 23) hx hb dX5_write_18 (by decide) (fun c3 => ?_) (fun c3 => ?_)
      · replace hs := (sp_ite hs).1 c3
        refine lv_aload_n hx hb dX5_write_23 rfl (lv_at hl 0 rfl) ?_
        refine sv_get (own := RX5) (C := RX5) (Tf := TX5) (N := 3) (index := 9) (κ := (3, 1)) (v := .ref (h (kr + 1))) hx hb hts hown hK hW (fun _ h => List.mem_cons_of_mem _ (List.mem_append_right _ h)) hkr.1 hkr.2.1 rfl 0 (by decide) rfl rfl (List.mem_of_getElem? (i := 2) rfl) dX5_write_24 ?_
        refine lv_iload_n hx hb dX5_write_27 rfl (lv_at hl 1 rfl) ?_
        refine lv_aload_n hx hb dX5_write_28 rfl (lv_at hl 0 rfl) ?_
        refine sv_get (own := RX5) (C := RX5) (Tf := TX5) (N := 3) (index := 15) (κ := (0, 0)) (v := .int (σ.1 kr 1)) hx hb hts hown hK hW (fun _ h => List.mem_cons_of_mem _ (List.mem_append_right _ h)) hkr.1 hkr.2.1 rfl 1 (by decide) rfl rfl (List.mem_of_getElem? (i := 3) rfl) dX5_write_29 ?_
        refine lv_if_ne (tgt := 40) hx hb dX5_write_32 (by decide) (fun c4 => ?_) (fun c4 => ?_)
        · replace hs := (sp_ite hs).2 c4
          refine lv_aload_n hx hb dX5_write_40 rfl (lv_at hl 0 rfl) ?_
          refine sv_get (own := RX5) (C := RX5) (Tf := TX5) (N := 3) (index := 15) (κ := (0, 0)) (v := .int (σ.1 kr 1)) hx hb hts hown hK hW (fun _ h => List.mem_cons_of_mem _ (List.mem_append_right _ h)) hkr.1 hkr.2.1 rfl 1 (by decide) rfl rfl (List.mem_of_getElem? (i := 3) rfl) dX5_write_41 ?_
          refine lv_iconst (v := 1) hx hb dX5_write_44 (by decide) ?_
          refine lv_icmp_ne (tgt := 53) hx hb dX5_write_45 (by decide) (fun c5 => ?_) (fun c5 => ?_)
          · replace hs := (sp_ite hs).2 c5
            refine lv_iload_n hx hb dX5_write_53 rfl (lv_at hl 2 rfl) ?_
            obtain ⟨hi6, hs⟩ := sp_g hs
            refine sv_iast hx hb hK hW hkr.2.2.1 hkr.2.2.2 0 rfl hi6 dX5_write_54 (fun σ7 H locs eσ7 hW => ?_)
            replace hs := sp_let hs eσ7
            refine lv_iconst (v := 1) hx hb dX5_write_55 (by decide) ?_
            cases hs
            exact sv_iret hx hb hr rfl hlk hW dX5_write_56
          · replace hs := (sp_ite hs).1 c5
            refine lv_iload_n hx hb dX5_write_48 rfl (lv_at hl 2 rfl) ?_
            refine lv_i2s (v := a2.toInt16.toInt32) hx hb dX5_write_49 rfl ?_
            refine lv_goto (tgt := 54) hx hb dX5_write_50 (by decide) ?_
            obtain ⟨hi8, hs⟩ := sp_g hs
            refine sv_iast hx hb hK hW hkr.2.2.1 hkr.2.2.2 0 rfl hi8 dX5_write_54 (fun σ9 H locs eσ9 hW => ?_)
            replace hs := sp_let hs eσ9
            refine lv_iconst (v := 1) hx hb dX5_write_55 (by decide) ?_
            cases hs
            exact sv_iret hx hb hr rfl hlk hW dX5_write_56
        · replace hs := (sp_ite hs).1 c4
          refine lv_iload_n hx hb dX5_write_35 rfl (lv_at hl 2 rfl) ?_
          refine lv_i2b (v := a2.toInt8.toInt32) hx hb dX5_write_36 rfl ?_
          refine lv_goto (tgt := 54) hx hb dX5_write_37 (by decide) ?_
          obtain ⟨hi10, hs⟩ := sp_g hs
          refine sv_iast hx hb hK hW hkr.2.2.1 hkr.2.2.2 0 rfl hi10 dX5_write_54 (fun σ11 H locs eσ11 hW => ?_)
          replace hs := sp_let hs eσ11
          refine lv_iconst (v := 1) hx hb dX5_write_55 (by decide) ?_
          cases hs
          exact sv_iret hx hb hr rfl hlk hW dX5_write_56
      · replace hs := (sp_ite hs).2 c3
        refine lv_iconst (v := 0) hx hb dX5_write_21 (by decide) ?_
        cases hs
        exact sv_iret hx hb hr rfl hlk hW dX5_write_22

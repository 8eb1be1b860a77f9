set_option maxRecDepth 100000 in
set_option maxHeartbeats 4000000 in
theorem b_X0_lastHeld_20 {qK qV : Nat → Nat} {p : Program} {l : Launch} {e : Env} {s : State} {m : MethodId} {args : Array Value} {below : List Frame} {meth : Method} {c : Code} {D : va_G} {T : Nat → ClassId} {A : Nat → Prop} {h : Nat → Nat} {θ : sv_T} {kc : Nat} {b1 : Nat} {a2 : Int32} {a3 : Int32} {a4 : Int32} {r : Int32} {σ' : sv_S} (hB : sx_base θ) (hkc : sv_oX0 θ kc) (hb1 : sv_oA θ b1) (F : sv_F (sx_X qK qV) p m c cX0_lastHeld 7 s args wsX0_lastHeld RX0 D (sx_tys T) A) (hr : meth.sig.returnType = (some .int)) (hlk : meth.locks = false)  : ∀ (n : Nat), ∀ (x3 : Int32) (x5 : Int32) (x6 : Int32) (σ : sv_S) (H : Heap) (locs : List Loc) (ls : Array Slot), lv_has ls 7 [(0, .ref (h kc)), (1, .ref (h b1)), (3, .int x3), (5, .int x5), (6, .int x6)] → sv_W D T A s h θ σ H locs → q_X0_lastHeld_B20 θ kc b1 a2 a3 a4 n x3 x5 x6 σ = some (r, σ') → W p l e (sv_rm 1 23) s m args below meth c H locs 0 0 (MQ below (va_Qi (fun r2 (_ : Unit) => r2 = r) (fun _ t => va_P D vwCl (sv_ws T h θ σ') t.heap) A) args s 0 0 A) (F0 m 20 ls []) := by
  have hx := F.1.1
  have hb := F.1.2.1
  have hts := F.1.2.2.2.2
  have hown := F.1.2.2.2.1
  have hK := F.2.1
  intro n
  induction n with
  | zero =>
    intro x3 x5 x6 σ H locs ls hl hW hs
    have hs : (none : Option (Int32 × sv_S)) = some (r, σ') := hs
    cases hs
  | succ n ih =>
    intro x3 x5 x6 σ H locs ls hl hW hs
    have hs : q_X0_lastHeld_B20_b θ kc b1 a2 a3 a4 (q_X0_lastHeld_B20 θ kc b1 a2 a3 a4 n) x3 x5 x6 σ = some (r, σ') := hs
    unfold q_X0_lastHeld_B20_b at hs
    refine lv_iload hx hb dX0_lastHeld_20 (lv_at hl 4 rfl) ?_
    refine lv_iload hx hb dX0_lastHeld_22 (lv_at hl 3 rfl) ?_
    refine lv_icmp_gt (tgt := 46) hx hb dX0_lastHeld_24 (by decide) (fun c3 => ?_) (fun c3 => ?_)
    · replace hs := (sp_ite hs).1 c3
      refine lv_iload hx hb dX0_lastHeld_46 (lv_at hl 3 rfl) ?_
      cases hs
      exact sv_iret hx hb hr rfl hlk hW dX0_lastHeld_48
    · replace hs := (sp_ite hs).2 c3
      refine lv_aload_n hx hb dX0_lastHeld_27 rfl (lv_at hl 0 rfl) ?_
      refine lv_aload_n hx hb dX0_lastHeld_28 rfl (lv_at hl 1 rfl) ?_
      refine lv_iload hx hb dX0_lastHeld_29 (lv_at hl 4 rfl) ?_
      obtain ⟨r4, σ5, eσ5, hs⟩ := sp_bind hs
      refine sv_goI (σ' := σ5) (r := r4) hW F.2.2.2.1 (sv_runV (C := RX0) F hW (k_X0_rainIn hB hkc hb1 eσ5 H.size) gX0_lastHeld_X0_rainIn rfl ⟨rfl, rfl⟩ 2 (by decide +kernel) (sv_room2 (by omega) (by omega)) hkc.1 hkc.2.1 rfl rfl hl.1 rfl (Nat.le_of_ble_eq_true rfl) dX0_lastHeld_31 ⟨Nat.zero_le _, Nat.zero_le _⟩) (fun H locs hW => ?_)
      refine lv_iload_n hx hb dX0_lastHeld_34 rfl (lv_at hl 2 rfl) ?_
      refine lv_icmp_ge (tgt := 40) hx hb dX0_lastHeld_35 (by decide) (fun c6 => ?_) (fun c6 => ?_)
      · replace hs := (sp_ite hs).1 c6
        obtain ⟨v7, ev7⟩ : ∃ y : Int32, y = x6 + 1 := ⟨_, rfl⟩
        replace hs := sp_let hs ev7
        refine lv_iinc (v := v7) (lv' := [(6, .int v7), (0, .ref (h kc)), (1, .ref (h b1)), (3, .int x3), (5, .int x5)]) hx hb dX0_lastHeld_40 hl (k := 4) rfl (by rw [ev7]; rfl) (by decide) rfl (fun ls hl => ?_)
        refine lv_goto (tgt := 20) hx hb dX0_lastHeld_43 (by decide) ?_
        exact ih x3 x5 v7 σ5 H locs ls (lv_sub hl [1, 2, 3, 4, 0] rfl) hW hs
      · replace hs := (sp_ite hs).2 c6
        refine lv_iconst (v := -1) hx hb dX0_lastHeld_38 (by decide) ?_
        cases hs
        exact sv_iret hx hb hr rfl hlk hW dX0_lastHeld_39
set_option maxRecDepth 100000 in
set_option maxHeartbeats 4000000 in
theorem k_X0_lastHeld {qK qV : Nat → Nat} {l : Launch} {D : va_G} {T : Nat → ClassId} {h : Nat → Nat} {θ : sv_T} {kc : Nat} {b1 : Nat} {a2 : Int32} {a3 : Int32} {a4 : Int32} {σ : sv_S} {r : Int32} {σ' : sv_S} (hB : sx_base θ) (hkc : sv_oX0 θ kc) (hb1 : sv_oA θ b1) (hs : q_X0_lastHeld θ kc b1 a2 a3 a4 σ = some (r, σ')) : sv_Mi (sx_X qK qV) l D T (sx_tys T) h θ yX0_lastHeld wsX0_lastHeld (sv_rm 1 23) [.ref (h kc), .ref (h b1), .int a2, .int a3, .int a4] σ r σ' := by
  intro sz
  refine sv_enter (cc := cX0_lastHeld) (maxL := 7) (ret := (some .int)) (Qc := fun A => va_Qi (fun r2 (_ : Unit) => r2 = r) (fun _ t => va_P D vwCl (sv_ws T h θ σ') t.heap) A) sx_XP (by decide) rfl (Nat.le_of_ble_eq_true rfl) ?_
  intro p e s m args below meth c A F hr hlk ls H hl hW
  have hx := F.1.1
  have hb := F.1.2.1
  have hts := F.1.2.2.2.2
  have hown := F.1.2.2.2.1
  have hK := F.2.1
  obtain ⟨locs, hlocs⟩ : ∃ z : List Loc, z = [] := ⟨_, rfl⟩
  rw [← hlocs] at hW ⊢
  have hl : lv_has ls 7 [(0, .ref (h kc)), (1, .ref (h b1)), (2, .int a2), (3, .int a3), (4, .int a4)] := hl
  unfold q_X0_lastHeld at hs
  refine lv_iload_n hx hb dX0_lastHeld_0 rfl (lv_at hl 2 rfl) ?_
  refine lv_iload hx hb dX0_lastHeld_1 (lv_at hl 4 rfl) ?_
  refine lv_iadd hx hb dX0_lastHeld_3 ?_
  refine lv_iconst (v := 1) hx hb dX0_lastHeld_4 (by decide) ?_
  refine lv_isub hx hb dX0_lastHeld_5 ?_
  refine lv_topi (fun v1 ev1 => ?_)
  replace hs := sp_let hs ev1
  refine lv_istore (lv' := [(5, .int v1), (0, .ref (h kc)), (1, .ref (h b1)), (2, .int a2), (3, .int a3), (4, .int a4)]) hx hb dX0_lastHeld_6 hl (by decide) rfl (fun ls hl => ?_)
  refine lv_iload hx hb dX0_lastHeld_8 (lv_at hl 0 rfl) ?_
  refine lv_bipush (v := 24) hx hb dX0_lastHeld_10 (by decide) ?_
  refine lv_icmp_lt (tgt := 17) hx hb dX0_lastHeld_12 (by decide) (fun c2 => ?_) (fun c2 => ?_)
  · replace hs := (sp_ite hs).1 c2
    refine lv_iload_n hx hb dX0_lastHeld_17 rfl (lv_at hl 3 rfl) ?_
    refine lv_istore (lv' := [(6, .int a2), (5, .int v1), (0, .ref (h kc)), (1, .ref (h b1)), (2, .int a2), (3, .int a3), (4, .int a4)]) hx hb dX0_lastHeld_18 hl (by decide) rfl (fun ls hl => ?_)
    exact b_X0_lastHeld_20 hB hkc hb1 F hr hlk sv_N a3 v1 a2 σ H locs ls (lv_sub hl [2, 3, 5, 1, 0] rfl) hW hs
  · replace hs := (sp_ite hs).2 c2
    refine lv_iconst (v := -1) hx hb dX0_lastHeld_15 (by decide) ?_
    cases hs
    exact sv_iret hx hb hr rfl hlk hW dX0_lastHeld_16
set_option maxRecDepth 100000 in
set_option maxHeartbeats 4000000 in
theorem k_X0_lastHour {qK qV : Nat → Nat} {l : Launch} {D : va_G} {T : Nat → ClassId} {h : Nat → Nat} {θ : sv_T} {kc : Nat} {b1 : Nat} {a2 : Int32} {σ : sv_S} {r : Int32} {σ' : sv_S} (hB : sx_base θ) (hkc : sv_oX0 θ kc) (hb1 : sv_oA θ b1) (hs : q_X0_lastHour θ kc b1 a2 σ = some (r, σ')) : sv_Mi (sx_X qK qV) l D T (sx_tys T) h θ yX0_lastHour wsX0_lastHour (sv_rm 3 68) [.ref (h kc), .ref (h b1), .int a2] σ r σ' := by
  intro sz
  refine sv_enter (cc := cX0_lastHour) (maxL := 3) (ret := (some .int)) (Qc := fun A => va_Qi (fun r2 (_ : Unit) => r2 = r) (fun _ t => va_P D vwCl (sv_ws T h θ σ') t.heap) A) sx_XP (by decide) rfl (Nat.le_of_ble_eq_true rfl) ?_
  intro p e s m args below meth c A F hr hlk ls H hl hW
  have hx := F.1.1
  have hb := F.1.2.1
  have hts := F.1.2.2.2.2
  have hown := F.1.2.2.2.1
  have hK := F.2.1
  obtain ⟨locs, hlocs⟩ : ∃ z : List Loc, z = [] := ⟨_, rfl⟩
  rw [← hlocs] at hW ⊢
  have hl : lv_has ls 3 [(0, .ref (h kc)), (1, .ref (h b1)), (2, .int a2)] := hl
  unfold q_X0_lastHour at hs
  refine lv_aload_n hx hb dX0_lastHour_0 rfl (lv_at hl 0 rfl) ?_
  refine lv_aload_n hx hb dX0_lastHour_1 rfl (lv_at hl 1 rfl) ?_
  refine lv_iload_n hx hb dX0_lastHour_2 rfl (lv_at hl 2 rfl) ?_
  obtain ⟨r1, σ2, eσ2, hs⟩ := sp_bind hs
  refine sv_goI (σ' := σ2) (r := r1) hW F.2.2.2.1 (sv_runV (C := RX0) F hW (k_X0_rainIn hB hkc hb1 eσ2 H.size) gX0_lastHour_X0_rainIn rfl ⟨rfl, rfl⟩ 2 (by decide +kernel) (sv_room2 (by omega) (by omega)) hkc.1 hkc.2.1 rfl rfl hl.1 rfl (Nat.le_of_ble_eq_true rfl) dX0_lastHour_3 ⟨Nat.zero_le _, Nat.zero_le _⟩) (fun H locs hW => ?_)
  refine lv_if_ne (tgt := 11) hx hb dX0_lastHour_6 (by decide) (fun c3 => ?_) (fun c3 => ?_)
  · replace hs := (sp_ite hs).2 c3
    refine lv_aload_n hx hb dX0_lastHour_11 rfl (lv_at hl 0 rfl) ?_
    refine lv_aload_n hx hb dX0_lastHour_12 rfl (lv_at hl 1 rfl) ?_
    refine lv_iload_n hx hb dX0_lastHour_13 rfl (lv_at hl 2 rfl) ?_
    obtain ⟨r4, σ5, eσ5, hs⟩ := sp_bind hs
    refine sv_goV (σ' := σ5) (r := r4) hW F.2.2.2.1 (sv_runV (C := RX0) F hW (k_X0_see hB hkc hb1 eσ5 H.size) gX0_lastHour_X0_see rfl ⟨rfl, rfl⟩ 2 (by decide +kernel) (sv_room2 (by omega) (by omega)) hkc.1 hkc.2.1 rfl rfl hl.1 rfl (Nat.le_of_ble_eq_true rfl) dX0_lastHour_14 ⟨Nat.zero_le _, Nat.zero_le _⟩) (fun H locs hW => ?_)
    refine lv_aload_n hx hb dX0_lastHour_17 rfl (lv_at hl 0 rfl) ?_
    refine lv_aload_n hx hb dX0_lastHour_18 rfl (lv_at hl 1 rfl) ?_
    refine lv_iload_n hx hb dX0_lastHour_19 rfl (lv_at hl 2 rfl) ?_
    refine lv_aload_n hx hb dX0_lastHour_20 rfl (lv_at hl 0 rfl) ?_
    obtain ⟨r6, σ7, eσ7, hs⟩ := sp_bind hs
    refine sv_goI (σ' := σ7) (r := r6) hW F.2.2.2.1 (sv_runV (C := RX0) F hW (k_X0_needs hB hkc eσ7 H.size) gX0_lastHour_X0_needs rfl ⟨rfl, rfl⟩ 0 (by decide +kernel) (sv_room2 (by omega) (by omega)) hkc.1 hkc.2.1 rfl rfl hl.1 rfl (Nat.le_of_ble_eq_true rfl) dX0_lastHour_21 ⟨Nat.zero_le _, Nat.zero_le _⟩) (fun H locs hW => ?_)
    refine lv_aload_n hx hb dX0_lastHour_24 rfl (lv_at hl 0 rfl) ?_
    obtain ⟨r8, σ9, eσ9, hs⟩ := sp_bind hs
    refine sv_goI (σ' := σ9) (r := r8) hW F.2.2.2.1 (sv_runV (C := RX0) F hW (k_X0_takes hB hkc eσ9 H.size) gX0_lastHour_X0_takes rfl ⟨rfl, rfl⟩ 0 (by decide +kernel) (sv_room2 (by omega) (by omega)) hkc.1 hkc.2.1 rfl rfl hl.1 rfl (Nat.le_of_ble_eq_true rfl) dX0_lastHour_25 ⟨Nat.zero_le _, Nat.zero_le _⟩) (fun H locs hW => ?_)
    obtain ⟨r10, σ11, eσ11, hs⟩ := sp_bind hs
    refine sv_goI (σ' := σ11) (r := r10) hW F.2.2.2.1 (sv_runV (C := RX0) F hW (k_X0_lastHeld hB hkc hb1 eσ11 H.size) gX0_lastHour_X0_lastHeld rfl ⟨rfl, rfl⟩ 4 (by decide +kernel) (sv_room2 (by omega) (by omega)) hkc.1 hkc.2.1 rfl rfl hl.1 rfl (Nat.le_of_ble_eq_true rfl) dX0_lastHour_28 ⟨Nat.zero_le _, Nat.zero_le _⟩) (fun H locs hW => ?_)
    cases hs
    exact sv_iret hx hb hr rfl hlk hW dX0_lastHour_31
  · replace hs := (sp_ite hs).1 c3
    refine lv_iconst (v := -1) hx hb dX0_lastHour_9 (by decide) ?_
    cases hs
    exact sv_iret hx hb hr rfl hlk hW dX0_lastHour_10
set_option maxRecDepth 100000 in
set_option maxHeartbeats 4000000 in
theorem b_X0_shakenHour_2 {qK qV : Nat → Nat} {p : Program} {l : Launch} {e : Env} {s : State} {m : MethodId} {args : Array Value} {below : List Frame} {meth : Method} {c : Code} {D : va_G} {T : Nat → ClassId} {A : Nat → Prop} {h : Nat → Nat} {θ : sv_T} {kc : Nat} {b1 : Nat} {a2 : Int32} {r : Int32} {σ' : sv_S} (hB : sx_base θ) (hkc : sv_oX0 θ kc) (hb1 : sv_oA θ b1) (F : sv_F (sx_X qK qV) p m c cX0_shakenHour 5 s args wsX0_shakenHour RX0 D (sx_tys T) A) (hr : meth.sig.returnType = (some .int)) (hlk : meth.locks = false)  : ∀ (n : Nat), ∀ (x3 : Int32) (σ : sv_S) (H : Heap) (locs : List Loc) (ls : Array Slot), lv_has ls 5 [(0, .ref (h kc)), (1, .ref (h b1)), (3, .int x3)] → sv_W D T A s h θ σ H locs → q_X0_shakenHour_B2 θ kc b1 a2 n x3 σ = some (r, σ') → W p l e (sv_rm 4 90) s m args below meth c H locs 0 0 (MQ below (va_Qi (fun r2 (_ : Unit) => r2 = r) (fun _ t => va_P D vwCl (sv_ws T h θ σ') t.heap) A) args s 0 0 A) (F0 m 2 ls []) := by
  have hx := F.1.1
  have hb := F.1.2.1
  have hts := F.1.2.2.2.2
  have hown := F.1.2.2.2.1
  have hK := F.2.1
  intro n
  induction n with
  | zero =>
    intro x3 σ H locs ls hl hW hs
    have hs : (none : Option (Int32 × sv_S)) = some (r, σ') := hs
    cases hs
  | succ n ih =>
    intro x3 σ H locs ls hl hW hs
    have hs : q_X0_shakenHour_B2_b θ kc b1 a2 (q_X0_shakenHour_B2 θ kc b1 a2 n) x3 σ = some (r, σ') := hs
    unfold q_X0_shakenHour_B2_b at hs
    refine lv_iload_n hx hb dX0_shakenHour_2 rfl (lv_at hl 2 rfl) ?_
    refine lv_bipush (v := 24) hx hb dX0_shakenHour_3 (by decide) ?_
    refine lv_icmp_ge (tgt := 31) hx hb dX0_shakenHour_5 (by decide) (fun c1 => ?_) (fun c1 => ?_)
    · replace hs := (sp_ite hs).1 c1
      refine lv_iconst (v := -1) hx hb dX0_shakenHour_31 (by decide) ?_
      cases hs
      exact sv_iret hx hb hr rfl hlk hW dX0_shakenHour_32
    · replace hs := (sp_ite hs).2 c1
      refine lv_aload_n hx hb dX0_shakenHour_8 rfl (lv_at hl 0 rfl) ?_
      refine lv_aload_n hx hb dX0_shakenHour_9 rfl (lv_at hl 1 rfl) ?_
      refine lv_iload_n hx hb dX0_shakenHour_10 rfl (lv_at hl 2 rfl) ?_
      obtain ⟨r2, σ3, eσ3, hs⟩ := sp_bind hs
      refine sv_goI (σ' := σ3) (r := r2) hW F.2.2.2.1 (sv_runV (C := RX0) F hW (k_X0_lastHour hB hkc hb1 eσ3 H.size) gX0_shakenHour_X0_lastHour rfl ⟨rfl, rfl⟩ 2 (by decide +kernel) (sv_room2 (by omega) (by omega)) hkc.1 hkc.2.1 rfl rfl hl.1 rfl (Nat.le_of_ble_eq_true rfl) dX0_shakenHour_11 ⟨Nat.zero_le _, Nat.zero_le _⟩) (fun H locs hW => ?_)
      refine lv_istore (lv' := [(4, .int r2), (0, .ref (h kc)), (1, .ref (h b1)), (3, .int x3)]) hx hb dX0_shakenHour_14 hl (by decide) rfl (fun ls hl => ?_)
      refine lv_iload hx hb dX0_shakenHour_16 (lv_at hl 0 rfl) ?_
      refine lv_iconst (v := -1) hx hb dX0_shakenHour_18 (by decide) ?_
      refine lv_icmp_eq (tgt := 25) hx hb dX0_shakenHour_19 (by decide) (fun c4 => ?_) (fun c4 => ?_)
      · replace hs := (sp_ite hs).1 c4
        obtain ⟨v5, ev5⟩ : ∃ y : Int32, y = x3 + 1 := ⟨_, rfl⟩
        replace hs := sp_let hs ev5
        refine lv_iinc (v := v5) (lv' := [(3, .int v5), (4, .int r2), (0, .ref (h kc)), (1, .ref (h b1))]) hx hb dX0_shakenHour_25 hl (k := 3) rfl (by rw [ev5]; rfl) (by decide) rfl (fun ls hl => ?_)
        refine lv_goto (tgt := 2) hx hb dX0_shakenHour_28 (by decide) ?_
        exact ih v5 σ3 H locs ls (lv_sub hl [2, 3, 0] rfl) hW hs
      · replace hs := (sp_ite hs).2 c4
        refine lv_iload hx hb dX0_shakenHour_22 (lv_at hl 0 rfl) ?_
        cases hs
        exact sv_iret hx hb hr rfl hlk hW dX0_shakenHour_24
set_option maxRecDepth 100000 in
set_option maxHeartbeats 4000000 in
theorem k_X0_shakenHour {qK qV : Nat → Nat} {l : Launch} {D : va_G} {T : Nat → ClassId} {h : Nat → Nat} {θ : sv_T} {kc : Nat} {b1 : Nat} {a2 : Int32} {σ : sv_S} {r : Int32} {σ' : sv_S} (hB : sx_base θ) (hkc : sv_oX0 θ kc) (hb1 : sv_oA θ b1) (hs : q_X0_shakenHour θ kc b1 a2 σ = some (r, σ')) : sv_Mi (sx_X qK qV) l D T (sx_tys T) h θ yX0_shakenHour wsX0_shakenHour (sv_rm 4 90) [.ref (h kc), .ref (h b1), .int a2] σ r σ' := by
  intro sz
  refine sv_enter (cc := cX0_shakenHour) (maxL := 5) (ret := (some .int)) (Qc := fun A => va_Qi (fun r2 (_ : Unit) => r2 = r) (fun _ t => va_P D vwCl (sv_ws T h θ σ') t.heap) A) sx_XP (by decide) rfl (Nat.le_of_ble_eq_true rfl) ?_
  intro p e s m args below meth c A F hr hlk ls H hl hW
  have hx := F.1.1
  have hb := F.1.2.1
  have hts := F.1.2.2.2.2
  have hown := F.1.2.2.2.1
  have hK := F.2.1
  obtain ⟨locs, hlocs⟩ : ∃ z : List Loc, z = [] := ⟨_, rfl⟩
  rw [← hlocs] at hW ⊢
  have hl : lv_has ls 5 [(0, .ref (h kc)), (1, .ref (h b1)), (2, .int a2)] := hl
  unfold q_X0_shakenHour at hs
  refine lv_iload_n hx hb dX0_shakenHour_0 rfl (lv_at hl 2 rfl) ?_
  refine lv_istore_n (lv' := [(3, .int a2), (0, .ref (h kc)), (1, .ref (h b1)), (2, .int a2)]) hx hb dX0_shakenHour_1 rfl hl (by decide) rfl (fun ls hl => ?_)
  exact b_X0_shakenHour_2 hB hkc hb1 F hr hlk sv_N a2 σ H locs ls (lv_sub hl [1, 2, 0] rfl) hW hs
set_option maxRecDepth 100000 in
set_option maxHeartbeats 4000000 in
theorem k_X5_read {qK qV : Nat → Nat} {l : Launch} {D : va_G} {T : Nat → ClassId} {h : Nat → Nat} {θ : sv_T} {kr : Nat} {a1 : Int32} {σ : sv_S} {r : Int32} {σ' : sv_S} (hB : sx_base θ) (hkr : sv_oX5 θ kr) (hs : q_X5_read θ kr a1 σ = some (r, σ')) : sv_Mi (sx_X qK qV) l D T (sx_tys T) h θ yX5_read wsX5_read (sv_rm 1 21) [.ref (h kr), .int a1] σ r σ' := by
  intro sz
  refine sv_enter (cc := cX5_read) (maxL := 2) (ret := (some .int)) (Qc := fun A => va_Qi (fun r2 (_ : Unit) => r2 = r) (fun _ t => va_P D vwCl (sv_ws T h θ σ') t.heap) A) sx_XP (by decide) rfl (Nat.le_of_ble_eq_true rfl) ?_
  intro p e s m args below meth c A F hr hlk ls H hl hW
  have hx := F.1.1
  have hb := F.1.2.1
  have hts := F.1.2.2.2.2
  have hown := F.1.2.2.2.1
  have hK := F.2.1
  obtain ⟨locs, hlocs⟩ : ∃ z : List Loc, z = [] := ⟨_, rfl⟩
  rw [← hlocs] at hW ⊢
  have hl : lv_has ls 2 [(0, .ref (h kr)), (1, .int a1)] := hl
  unfold q_X5_read at hs
  refine lv_aload_n hx hb dX5_read_0 rfl (lv_at hl 0 rfl) ?_
  refine sv_get (own := RX5) (C := RX5) (Tf := TX5) (N := 3) (index := 9) (κ := (3, 1)) (v := .ref (h (kr + 1))) hx hb hts hown hK hW (fun _ h => List.mem_cons_of_mem _ (List.mem_append_right _ h)) hkr.1 hkr.2.1 rfl 0 (by decide) rfl rfl (List.mem_of_getElem? (i := 1) rfl) dX5_read_1 ?_
  refine lv_iload_n hx hb dX5_read_4 rfl (lv_at hl 1 rfl) ?_
  obtain ⟨r1, σ2, eσ2, hs⟩ := sp_bind hs
  refine sv_goI (σ' := σ2) (r := r1) hW F.2.2.2.1 (sv_runN (own := RX5) (host := "OpenWhileItRains") F hW (k_X7_at hB (sv_oA_of hkr.2.2.1 hkr.2.2.2) eσ2 H.size) gX5_read_X7_at_n32 rfl ⟨rfl, rfl⟩ (F.2.2.1.1 _ (List.mem_of_getElem? (i := 15) rfl)) (List.mem_of_getElem? (i := 3) rfl) (List.mem_of_getElem? (i := 2) rfl) 2 (by decide +kernel) (sv_room2 (by omega) (by omega)) rfl hl.1 rfl (Nat.le_of_ble_eq_true rfl) dX5_read_5 ⟨Nat.zero_le _, Nat.zero_le _⟩) (fun H locs hW => ?_)
  cases hs
  exact sv_iret hx hb hr rfl hlk hW dX5_read_8
set_option maxRecDepth 100000 in
set_option maxHeartbeats 4000000 in
theorem b_X0_firstOther_8 {qK qV : Nat → Nat} {p : Program} {l : Launch} {e : Env} {s : State} {m : MethodId} {args : Array Value} {below : List Frame} {meth : Method} {c : Code} {D : va_G} {T : Nat → ClassId} {A : Nat → Prop} {h : Nat → Nat} {θ : sv_T} {kc : Nat} {b1 : Nat} {b2 : Nat} {r : Int32} {σ' : sv_S} (hB : sx_base θ) (hkc : sv_oX0 θ kc) (hb1 : sv_oX5 θ b1) (hb2 : sv_oA θ b2) (F : sv_F (sx_X qK qV) p m c cX0_firstOther 4 s args wsX0_firstOther RX0 D (sx_tys T) A) (hr : meth.sig.returnType = (some .int)) (hlk : meth.locks = false)  : ∀ (n : Nat), ∀ (x3 : Int32) (σ : sv_S) (H : Heap) (locs : List Loc) (ls : Array Slot), lv_has ls 4 [(0, .ref (h kc)), (1, .ref (h b1)), (2, .ref (h b2)), (3, .int x3)] → sv_W D T A s h θ σ H locs → q_X0_firstOther_B8 θ kc b1 b2 n x3 σ = some (r, σ') → W p l e (sv_rm 3 68) s m args below meth c H locs 0 0 (MQ below (va_Qi (fun r2 (_ : Unit) => r2 = r) (fun _ t => va_P D vwCl (sv_ws T h θ σ') t.heap) A) args s 0 0 A) (F0 m 8 ls []) := by
  have hx := F.1.1
  have hb := F.1.2.1
  have hts := F.1.2.2.2.2
  have hown := F.1.2.2.2.1
  have hK := F.2.1
  intro n
  induction n with
  | zero =>
    intro x3 σ H locs ls hl hW hs
    have hs : (none : Option (Int32 × sv_S)) = some (r, σ') := hs
    cases hs
  | succ n ih =>
    intro x3 σ H locs ls hl hW hs
    have hs : q_X0_firstOther_B8_b θ kc b1 b2 (q_X0_firstOther_B8 θ kc b1 b2 n) x3 σ = some (r, σ') := hs
    unfold q_X0_firstOther_B8_b at hs
    refine lv_iload_n hx hb dX0_firstOther_8 rfl (lv_at hl 3 rfl) ?_
    refine lv_aload_n hx hb dX0_firstOther_9 rfl (lv_at hl 1 rfl) ?_
    refine sv_get (own := RX0) (C := RX5) (Tf := TX5) (N := 3) (index := 90) (κ := (0, 0)) (v := .int (σ.1 b1 2)) hx hb hts hown hK hW (fun _ h => List.mem_cons_of_mem _ (List.mem_append_left _ (List.mem_append_left _ (List.mem_append_right _ h)))) hb1.1 hb1.2.1 rfl 2 (by decide) rfl rfl (List.mem_of_getElem? (i := 1) rfl) dX0_firstOther_10 ?_
    refine lv_icmp_ge (tgt := 42) hx hb dX0_firstOther_13 (by decide) (fun c1 => ?_) (fun c1 => ?_)
    · replace hs := (sp_ite hs).1 c1
      refine lv_iconst (v := -1) hx hb dX0_firstOther_42 (by decide) ?_
      cases hs
      exact sv_iret hx hb hr rfl hlk hW dX0_firstOther_43
    · replace hs := (sp_ite hs).2 c1
      refine lv_aload_n hx hb dX0_firstOther_16 rfl (lv_at hl 0 rfl) ?_
      refine lv_aload_n hx hb dX0_firstOther_17 rfl (lv_at hl 2 rfl) ?_
      refine lv_iload_n hx hb dX0_firstOther_18 rfl (lv_at hl 3 rfl) ?_
      obtain ⟨r2, σ3, eσ3, hs⟩ := sp_bind hs
      refine sv_goV (σ' := σ3) (r := r2) hW F.2.2.2.1 (sv_runV (C := RX0) F hW (k_X0_see hB hkc hb2 eσ3 H.size) gX0_firstOther_X0_see rfl ⟨rfl, rfl⟩ 2 (by decide +kernel) (sv_room2 (by omega) (by omega)) hkc.1 hkc.2.1 rfl rfl hl.1 rfl (Nat.le_of_ble_eq_true rfl) dX0_firstOther_19 ⟨Nat.zero_le _, Nat.zero_le _⟩) (fun H locs hW => ?_)
      refine lv_aload_n hx hb dX0_firstOther_22 rfl (lv_at hl 1 rfl) ?_
      refine lv_iload_n hx hb dX0_firstOther_23 rfl (lv_at hl 3 rfl) ?_
      obtain ⟨r4, σ5, eσ5, hs⟩ := sp_bind hs
      refine sv_goI (σ' := σ5) (r := r4) hW F.2.2.2.1 (sv_runV (C := RX5) F hW (k_X5_read hB hb1 eσ5 H.size) gX0_firstOther_X5_read rfl ⟨rfl, rfl⟩ 1 (by decide +kernel) (sv_room2 (by omega) (by omega)) hb1.1 hb1.2.1 rfl rfl hl.1 rfl (Nat.le_of_ble_eq_true rfl) dX0_firstOther_24 ⟨Nat.zero_le _, Nat.zero_le _⟩) (fun H locs hW => ?_)
      refine lv_aload_n hx hb dX0_firstOther_27 rfl (lv_at hl 0 rfl) ?_
      obtain ⟨r6, σ7, eσ7, hs⟩ := sp_bind hs
      refine sv_goI (σ' := σ7) (r := r6) hW F.2.2.2.1 (sv_runV (C := RX0) F hW (k_X0_worth hB hkc eσ7 H.size) gX0_firstOther_X0_worth rfl ⟨rfl, rfl⟩ 0 (by decide +kernel) (sv_room2 (by omega) (by omega)) hkc.1 hkc.2.1 rfl rfl hl.1 rfl (Nat.le_of_ble_eq_true rfl) dX0_firstOther_28 ⟨Nat.zero_le _, Nat.zero_le _⟩) (fun H locs hW => ?_)
      refine lv_icmp_eq (tgt := 36) hx hb dX0_firstOther_31 (by decide) (fun c8 => ?_) (fun c8 => ?_)
      · replace hs := (sp_ite hs).1 c8
        obtain ⟨v9, ev9⟩ : ∃ y : Int32, y = x3 + 1 := ⟨_, rfl⟩
        replace hs := sp_let hs ev9
        refine lv_iinc (v := v9) (lv' := [(3, .int v9), (0, .ref (h kc)), (1, .ref (h b1)), (2, .ref (h b2))]) hx hb dX0_firstOther_36 hl (k := 3) rfl (by rw [ev9]; rfl) (by decide) rfl (fun ls hl => ?_)
        refine lv_goto (tgt := 8) hx hb dX0_firstOther_39 (by decide) ?_
        exact ih v9 σ7 H locs ls (lv_sub hl [1, 2, 3, 0] rfl) hW hs
      · replace hs := (sp_ite hs).2 c8
        refine lv_iload_n hx hb dX0_firstOther_34 rfl (lv_at hl 3 rfl) ?_
        cases hs
        exact sv_iret hx hb hr rfl hlk hW dX0_firstOther_35
set_option maxRecDepth 100000 in
set_option maxHeartbeats 4000000 in
theorem k_X0_firstOther {qK qV : Nat → Nat} {l : Launch} {D : va_G} {T : Nat → ClassId} {h : Nat → Nat} {θ : sv_T} {kc : Nat} {b1 : Nat} {b2 : Nat} {σ : sv_S} {r : Int32} {σ' : sv_S} (hB : sx_base θ) (hkc : sv_oX0 θ kc) (hb1 : sv_oX5 θ b1) (hb2 : sv_oA θ b2) (hs : q_X0_firstOther θ kc b1 b2 σ = some (r, σ')) : sv_Mi (sx_X qK qV) l D T (sx_tys T) h θ yX0_firstOther wsX0_firstOther (sv_rm 3 68) [.ref (h kc), .ref (h b1), .ref (h b2)] σ r σ' := by
  intro sz
  refine sv_enter (cc := cX0_firstOther) (maxL := 4) (ret := (some .int)) (Qc := fun A => va_Qi (fun r2 (_ : Unit) => r2 = r) (fun _ t => va_P D vwCl (sv_ws T h θ σ') t.heap) A) sx_XP (by decide) rfl (Nat.le_of_ble_eq_true rfl) ?_
  intro p e s m args below meth c A F hr hlk ls H hl hW
  have hx := F.1.1
  have hb := F.1.2.1
  have hts := F.1.2.2.2.2
  have hown := F.1.2.2.2.1
  have hK := F.2.1
  obtain ⟨locs, hlocs⟩ : ∃ z : List Loc, z = [] := ⟨_, rfl⟩
  rw [← hlocs] at hW ⊢
  have hl : lv_has ls 4 [(0, .ref (h kc)), (1, .ref (h b1)), (2, .ref (h b2))] := hl
  unfold q_X0_firstOther at hs
  refine lv_aload_n hx hb dX0_firstOther_0 rfl (lv_at hl 1 rfl) ?_
  refine lv_ifnonnull (tgt := 6) hx hb dX0_firstOther_1 (by decide) ?_
  refine lv_iconst (v := 0) hx hb dX0_firstOther_6 (by decide) ?_
  refine lv_istore_n (lv' := [(3, .int (0 : Int32)), (0, .ref (h kc)), (1, .ref (h b1)), (2, .ref (h b2))]) hx hb dX0_firstOther_7 rfl hl (by decide) rfl (fun ls hl => ?_)
  exact b_X0_firstOther_8 hB hkc hb1 hb2 F hr hlk sv_N (0 : Int32) σ H locs ls (lv_sub hl [1, 2, 3, 0] rfl) hW hs
set_option maxRecDepth 100000 in
set_option maxHeartbeats 4000000 in
theorem b_X1_isUnder_4 {qK qV : Nat → Nat} {p : Program} {l : Launch} {e : Env} {s : State} {m : MethodId} {args : Array Value} {below : List Frame} {meth : Method} {c : Code} {D : va_G} {T : Nat → ClassId} {A : Nat → Prop} {h : Nat → Nat} {θ : sv_T} {a1 : Int32} {a2 : Int32} {r : Int32} {σ' : sv_S} (hB : sx_base θ)  (F : sv_F (sx_X qK qV) p m c cX1_isUnder 4 s args wsX1_isUnder RX1 D (sx_tys T) A) (hr : meth.sig.returnType = (some .boolean)) (hlk : meth.locks = false)  : ∀ (n : Nat), ∀ (x1 : Int32) (x2 : Int32) (x3 : Int32) (σ : sv_S) (H : Heap) (locs : List Loc) (ls : Array Slot), lv_has ls 4 [(1, .int x1), (2, .int x2), (3, .int x3)] → sv_W D T A s h θ σ H locs → q_X1_isUnder_B4 θ a1 a2 n x1 x2 x3 σ = some (r, σ') → W p l e (sv_rm 0 0) s m args below meth c H locs 0 0 (MQ below (va_Qi (fun r2 (_ : Unit) => r2 = r) (fun _ t => va_P D vwCl (sv_ws T h θ σ') t.heap) A) args s 0 0 A) (F0 m 4 ls []) := by
  have hx := F.1.1
  have hb := F.1.2.1
  have hts := F.1.2.2.2.2
  have hown := F.1.2.2.2.1
  have hK := F.2.1
  intro n
  induction n with
  | zero =>
    intro x1 x2 x3 σ H locs ls hl hW hs
    have hs : (none : Option (Int32 × sv_S)) = some (r, σ') := hs
    cases hs
  | succ n ih =>
    intro x1 x2 x3 σ H locs ls hl hW hs
    have hs : q_X1_isUnder_B4_b θ a1 a2 (q_X1_isUnder_B4 θ a1 a2 n) x1 x2 x3 σ = some (r, σ') := hs
    unfold q_X1_isUnder_B4_b at hs
    refine lv_iload_n hx hb dX1_isUnder_4 rfl (lv_at hl 2 rfl) ?_
    refine lv_bipush (v := 6) hx hb dX1_isUnder_5 (by decide) ?_
    refine lv_icmp_ge (tgt := 41) hx hb dX1_isUnder_7 (by decide) (fun c1 => ?_) (fun c1 => ?_)
    · replace hs := (sp_ite hs).1 c1
      refine lv_iconst (v := 0) hx hb dX1_isUnder_41 (by decide) ?_
      cases hs
      exact sv_iret hx hb hr rfl hlk hW dX1_isUnder_42
    · replace hs := (sp_ite hs).2 c1
      refine lv_iload_n hx hb dX1_isUnder_10 rfl (lv_at hl 1 rfl) ?_
      refine lv_if_lt (tgt := 41) hx hb dX1_isUnder_11 (by decide) (fun c2 => ?_) (fun c2 => ?_)
      · replace hs := (sp_ite hs).1 c2
        refine lv_iconst (v := 0) hx hb dX1_isUnder_41 (by decide) ?_
        cases hs
        exact sv_iret hx hb hr rfl hlk hW dX1_isUnder_42
      · replace hs := (sp_ite hs).2 c2
        refine lv_iload_n hx hb dX1_isUnder_14 rfl (lv_at hl 1 rfl) ?_
        obtain ⟨q3, hZq3, hTq3⟩ := F.2.2.1.2.2.1
        refine va_getsN (C := "OpenWhileItRains") (n := "UNDER") (d := "[I") (own := RX1) (ref := "OpenWhileItRains") (host := "OpenWhileItRains") hx hb hZq3 hW.2.2 hown (va_Nw.use rfl F.2.2.1.2.2.2.1) (fun _ h9 => h9) dX1_isUnder_15 ?_
        refine va_tlen (v := 6) hx hb hTq3 hW.2.2 (by decide) dX1_isUnder_18 ?_
        refine lv_icmp_ge (tgt := 41) hx hb dX1_isUnder_19 (by decide) (fun c4 => ?_) (fun c4 => ?_)
        · replace hs := (sp_ite hs).1 c4
          refine lv_iconst (v := 0) hx hb dX1_isUnder_41 (by decide) ?_
          cases hs
          exact sv_iret hx hb hr rfl hlk hW dX1_isUnder_42
        · replace hs := (sp_ite hs).2 c4
          refine lv_iload_n hx hb dX1_isUnder_22 rfl (lv_at hl 1 rfl) ?_
          refine lv_iload_n hx hb dX1_isUnder_23 rfl (lv_at hl 0 rfl) ?_
          refine lv_icmp_ne (tgt := 29) hx hb dX1_isUnder_24 (by decide) (fun c5 => ?_) (fun c5 => ?_)
          · replace hs := (sp_ite hs).2 c5
            obtain ⟨q6, hZq6, hTq6⟩ := F.2.2.1.2.2.1
            refine va_getsN (C := "OpenWhileItRains") (n := "UNDER") (d := "[I") (own := RX1) (ref := "OpenWhileItRains") (host := "OpenWhileItRains") hx hb hZq6 hW.2.2 hown (va_Nw.use rfl F.2.2.1.2.2.2.1) (fun _ h9 => h9) dX1_isUnder_29 ?_
            refine lv_iload_n hx hb dX1_isUnder_32 rfl (lv_at hl 1 rfl) ?_
            obtain ⟨hi7, hs⟩ := sp_g hs
            refine va_ti hx hb hTq6 hW.2.2 hi7 rfl dX1_isUnder_33 ?_
            refine lv_topi (fun v8 ev8 => ?_)
            replace hs := sp_let hs ev8
            refine lv_istore_n (lv' := [(2, .int v8), (1, .int x1), (3, .int x3)]) hx hb dX1_isUnder_34 rfl hl (by decide) rfl (fun ls hl => ?_)
            obtain ⟨v9, ev9⟩ : ∃ y : Int32, y = x3 + 1 := ⟨_, rfl⟩
            replace hs := sp_let hs ev9
            refine lv_iinc (v := v9) (lv' := [(3, .int v9), (2, .int v8), (1, .int x1)]) hx hb dX1_isUnder_35 hl (k := 2) rfl (by rw [ev9]; rfl) (by decide) rfl (fun ls hl => ?_)
            refine lv_goto (tgt := 4) hx hb dX1_isUnder_38 (by decide) ?_
            exact ih x1 v8 v9 σ H locs ls (lv_sub hl [2, 1, 0] rfl) hW hs
          · replace hs := (sp_ite hs).1 c5
            refine lv_iconst (v := 1) hx hb dX1_isUnder_27 (by decide) ?_
            cases hs
            exact sv_iret hx hb hr rfl hlk hW dX1_isUnder_28
set_option maxRecDepth 100000 in
set_option maxHeartbeats 4000000 in
theorem k_X1_isUnder {qK qV : Nat → Nat} {l : Launch} {D : va_G} {T : Nat → ClassId} {h : Nat → Nat} {θ : sv_T} {a1 : Int32} {a2 : Int32} {σ : sv_S} {r : Int32} {σ' : sv_S} (hB : sx_base θ)  (hs : q_X1_isUnder θ a1 a2 σ = some (r, σ')) : sv_Mi (sx_X qK qV) l D T (sx_tys T) h θ yX1_isUnder wsX1_isUnder (sv_rm 0 0) [.int a1, .int a2] σ r σ' := by
  intro sz
  refine sv_enter (cc := cX1_isUnder) (maxL := 4) (ret := (some .boolean)) (Qc := fun A => va_Qi (fun r2 (_ : Unit) => r2 = r) (fun _ t => va_P D vwCl (sv_ws T h θ σ') t.heap) A) sx_XP (by decide) rfl (Nat.le_of_ble_eq_true rfl) ?_
  intro p e s m args below meth c A F hr hlk ls H hl hW
  have hx := F.1.1
  have hb := F.1.2.1
  have hts := F.1.2.2.2.2
  have hown := F.1.2.2.2.1
  have hK := F.2.1
  obtain ⟨locs, hlocs⟩ : ∃ z : List Loc, z = [] := ⟨_, rfl⟩
  rw [← hlocs] at hW ⊢
  have hl : lv_has ls 4 [(0, .int a1), (1, .int a2)] := hl
  unfold q_X1_isUnder at hs
  refine lv_iload_n hx hb dX1_isUnder_0 rfl (lv_at hl 0 rfl) ?_
  refine lv_istore_n (lv' := [(2, .int a1), (0, .int a1), (1, .int a2)]) hx hb dX1_isUnder_1 rfl hl (by decide) rfl (fun ls hl => ?_)
  refine lv_iconst (v := 0) hx hb dX1_isUnder_2 (by decide) ?_
  refine lv_istore_n (lv' := [(3, .int (0 : Int32)), (2, .int a1), (0, .int a1), (1, .int a2)]) hx hb dX1_isUnder_3 rfl hl (by decide) rfl (fun ls hl => ?_)
  exact b_X1_isUnder_4 hB F hr hlk sv_N a2 a1 (0 : Int32) σ H locs ls (lv_sub hl [3, 1, 0] rfl) hW hs
set_option maxRecDepth 100000 in
set_option maxHeartbeats 4000000 in
theorem k_X2_become {qK qV : Nat → Nat} {l : Launch} {D : va_G} {T : Nat → ClassId} {h : Nat → Nat} {θ : sv_T} {km : Nat} {b1 : Nat} {σ : sv_S} {r : Unit} {σ' : sv_S} (hB : sx_base θ) (hkm : sv_oX2 θ km) (hb1 : sv_oX2 θ b1) (hs : q_X2_become θ km b1 σ = some (r, σ')) : sv_Mv (sx_X qK qV) l D T (sx_tys T) h θ yX2_become wsX2_become (sv_rm 1 80) [.ref (h km), .ref (h b1)] σ r σ' := by
  intro sz
  refine sv_enter (cc := cX2_become) (maxL := 2) (ret := none) (Qc := fun A => va_Qv (fun (_ : Unit) => True) (fun _ t => va_P D vwCl (sv_ws T h θ σ') t.heap) A) sx_XP (by decide) rfl (Nat.le_of_ble_eq_true rfl) ?_
  intro p e s m args below meth c A F hr hlk ls H hl hW
  have hx := F.1.1
  have hb := F.1.2.1
  have hts := F.1.2.2.2.2
  have hown := F.1.2.2.2.1
  have hK := F.2.1
  obtain ⟨locs, hlocs⟩ : ∃ z : List Loc, z = [] := ⟨_, rfl⟩
  rw [← hlocs] at hW ⊢
  have hl : lv_has ls 2 [(0, .ref (h km)), (1, .ref (h b1))] := hl
  unfold q_X2_become at hs
  refine lv_aload_n hx hb dX2_become_0 rfl (lv_at hl 1 rfl) ?_
  refine lv_ifnonnull (tgt := 5) hx hb dX2_become_1 (by decide) ?_
  refine lv_aload_n hx hb dX2_become_5 rfl (lv_at hl 1 rfl) ?_
  refine sv_get (own := RX2) (C := RX2) (Tf := TX2) (N := 8) (index := 9) (κ := (3, 1)) (v := .ref (h (b1 + 1))) hx hb hts hown hK hW (fun _ h => List.mem_cons_of_mem _ (List.mem_append_right _ h)) hb1.1 hb1.2.1 rfl 0 (by decide) rfl rfl (List.mem_of_getElem? (i := 1) rfl) dX2_become_6 ?_
  refine lv_iconst (v := 0) hx hb dX2_become_9 (by decide) ?_
  refine lv_aload_n hx hb dX2_become_10 rfl (lv_at hl 0 rfl) ?_
  refine sv_get (own := RX2) (C := RX2) (Tf := TX2) (N := 8) (index := 9) (κ := (3, 1)) (v := .ref (h (km + 1))) hx hb hts hown hK hW (fun _ h => List.mem_cons_of_mem _ (List.mem_append_right _ h)) hkm.1 hkm.2.1 rfl 0 (by decide) rfl rfl (List.mem_of_getElem? (i := 1) rfl) dX2_become_11 ?_
  refine lv_iconst (v := 0) hx hb dX2_become_14 (by decide) ?_
  refine lv_aload_n hx hb dX2_become_15 rfl (lv_at hl 0 rfl) ?_
  refine sv_get (own := RX2) (C := RX2) (Tf := TX2) (N := 8) (index := 9) (κ := (3, 1)) (v := .ref (h (km + 1))) hx hb hts hown hK hW (fun _ h => List.mem_cons_of_mem _ (List.mem_append_right _ h)) hkm.1 hkm.2.1 rfl 0 (by decide) rfl rfl (List.mem_of_getElem? (i := 1) rfl) dX2_become_16 ?_
  refine sv_alen (t := 0) (v := (48 : Int32)) hx hb hK hW hkm.2.2.1.1 hkm.2.2.1.2 0 rfl rfl dX2_become_19 ?_
  obtain ⟨hc2, hs⟩ := sp_p hs
  refine sv_copy (own := RX2) (index := 27) hx hb (F.1.2.2.1.trans hl.1.symm) hown (hts _ (List.mem_of_getElem? (i := 2) rfl)) (hts _ (List.mem_of_getElem? (i := 3) rfl)) (hts _ (List.mem_of_getElem? (i := 4) rfl)) (hts _ (List.mem_of_getElem? (i := 5) rfl)) hK hW hb1.2.2.1.1 hb1.2.2.1.2 hkm.2.2.1.1 hkm.2.2.1.2 0 rfl hc2 (Nat.le_of_ble_eq_true rfl) (Nat.le_of_ble_eq_true rfl) dX2_become_20 (fun σ1 H locs eσ1 hW => ?_)
  replace hs := sp_let hs eσ1
  refine lv_aload_n hx hb dX2_become_23 rfl (lv_at hl 1 rfl) ?_
  refine sv_get (own := RX2) (C := RX2) (Tf := TX2) (N := 8) (index := 15) (κ := (3, 2)) (v := .ref (h (b1 + 2))) hx hb hts hown hK hW (fun _ h => List.mem_cons_of_mem _ (List.mem_append_right _ h)) hb1.1 hb1.2.1 rfl 1 (by decide) rfl rfl (List.mem_of_getElem? (i := 6) rfl) dX2_become_24 ?_
  refine lv_iconst (v := 0) hx hb dX2_become_27 (by decide) ?_
  refine lv_aload_n hx hb dX2_become_28 rfl (lv_at hl 0 rfl) ?_
  refine sv_get (own := RX2) (C := RX2) (Tf := TX2) (N := 8) (index := 15) (κ := (3, 2)) (v := .ref (h (km + 2))) hx hb hts hown hK hW (fun _ h => List.mem_cons_of_mem _ (List.mem_append_right _ h)) hkm.1 hkm.2.1 rfl 1 (by decide) rfl rfl (List.mem_of_getElem? (i := 6) rfl) dX2_become_29 ?_
  refine lv_iconst (v := 0) hx hb dX2_become_32 (by decide) ?_
  refine lv_aload_n hx hb dX2_become_33 rfl (lv_at hl 0 rfl) ?_
  refine sv_get (own := RX2) (C := RX2) (Tf := TX2) (N := 8) (index := 15) (κ := (3, 2)) (v := .ref (h (km + 2))) hx hb hts hown hK hW (fun _ h => List.mem_cons_of_mem _ (List.mem_append_right _ h)) hkm.1 hkm.2.1 rfl 1 (by decide) rfl rfl (List.mem_of_getElem? (i := 6) rfl) dX2_become_34 ?_
  refine sv_alen (t := 0) (v := (6 : Int32)) hx hb hK hW hkm.2.2.2.1.1 hkm.2.2.2.1.2 0 rfl rfl dX2_become_37 ?_
  obtain ⟨hc4, hs⟩ := sp_p hs
  refine sv_copy (own := RX2) (index := 27) hx hb (F.1.2.2.1.trans hl.1.symm) hown (hts _ (List.mem_of_getElem? (i := 2) rfl)) (hts _ (List.mem_of_getElem? (i := 3) rfl)) (hts _ (List.mem_of_getElem? (i := 4) rfl)) (hts _ (List.mem_of_getElem? (i := 5) rfl)) hK hW hb1.2.2.2.1.1 hb1.2.2.2.1.2 hkm.2.2.2.1.1 hkm.2.2.2.1.2 0 rfl hc4 (Nat.le_of_ble_eq_true rfl) (Nat.le_of_ble_eq_true rfl) dX2_become_38 (fun σ3 H locs eσ3 hW => ?_)
  replace hs := sp_let hs eσ3
  refine lv_aload_n hx hb dX2_become_41 rfl (lv_at hl 1 rfl) ?_
  refine sv_get (own := RX2) (C := RX2) (Tf := TX2) (N := 8) (index := 18) (κ := (3, 3)) (v := .ref (h (b1 + 3))) hx hb hts hown hK hW (fun _ h => List.mem_cons_of_mem _ (List.mem_append_right _ h)) hb1.1 hb1.2.1 rfl 2 (by decide) rfl rfl (List.mem_of_getElem? (i := 7) rfl) dX2_become_42 ?_
  refine lv_iconst (v := 0) hx hb dX2_become_45 (by decide) ?_
  refine lv_aload_n hx hb dX2_become_46 rfl (lv_at hl 0 rfl) ?_
  refine sv_get (own := RX2) (C := RX2) (Tf := TX2) (N := 8) (index := 18) (κ := (3, 3)) (v := .ref (h (km + 3))) hx hb hts hown hK hW (fun _ h => List.mem_cons_of_mem _ (List.mem_append_right _ h)) hkm.1 hkm.2.1 rfl 2 (by decide) rfl rfl (List.mem_of_getElem? (i := 7) rfl) dX2_become_47 ?_
  refine lv_iconst (v := 0) hx hb dX2_become_50 (by decide) ?_
  refine lv_aload_n hx hb dX2_become_51 rfl (lv_at hl 0 rfl) ?_
  refine sv_get (own := RX2) (C := RX2) (Tf := TX2) (N := 8) (index := 18) (κ := (3, 3)) (v := .ref (h (km + 3))) hx hb hts hown hK hW (fun _ h => List.mem_cons_of_mem _ (List.mem_append_right _ h)) hkm.1 hkm.2.1 rfl 2 (by decide) rfl rfl (List.mem_of_getElem? (i := 7) rfl) dX2_become_52 ?_
  refine sv_alen (t := 0) (v := (6 : Int32)) hx hb hK hW hkm.2.2.2.2.1.1 hkm.2.2.2.2.1.2 0 rfl rfl dX2_become_55 ?_
  obtain ⟨hc6, hs⟩ := sp_p hs
  refine sv_copy (own := RX2) (index := 27) hx hb (F.1.2.2.1.trans hl.1.symm) hown (hts _ (List.mem_of_getElem? (i := 2) rfl)) (hts _ (List.mem_of_getElem? (i := 3) rfl)) (hts _ (List.mem_of_getElem? (i := 4) rfl)) (hts _ (List.mem_of_getElem? (i := 5) rfl)) hK hW hb1.2.2.2.2.1.1 hb1.2.2.2.2.1.2 hkm.2.2.2.2.1.1 hkm.2.2.2.2.1.2 0 rfl hc6 (Nat.le_of_ble_eq_true rfl) (Nat.le_of_ble_eq_true rfl) dX2_become_56 (fun σ5 H locs eσ5 hW => ?_)
  replace hs := sp_let hs eσ5
  refine lv_aload_n hx hb dX2_become_59 rfl (lv_at hl 1 rfl) ?_
  refine sv_get (own := RX2) (C := RX2) (Tf := TX2) (N := 8) (index := 21) (κ := (3, 4)) (v := .ref (h (b1 + 4))) hx hb hts hown hK hW (fun _ h => List.mem_cons_of_mem _ (List.mem_append_right _ h)) hb1.1 hb1.2.1 rfl 3 (by decide) rfl rfl (List.mem_of_getElem? (i := 8) rfl) dX2_become_60 ?_
  refine lv_iconst (v := 0) hx hb dX2_become_63 (by decide) ?_
  refine lv_aload_n hx hb dX2_become_64 rfl (lv_at hl 0 rfl) ?_
  refine sv_get (own := RX2) (C := RX2) (Tf := TX2) (N := 8) (index := 21) (κ := (3, 4)) (v := .ref (h (km + 4))) hx hb hts hown hK hW (fun _ h => List.mem_cons_of_mem _ (List.mem_append_right _ h)) hkm.1 hkm.2.1 rfl 3 (by decide) rfl rfl (List.mem_of_getElem? (i := 8) rfl) dX2_become_65 ?_
  refine lv_iconst (v := 0) hx hb dX2_become_68 (by decide) ?_
  refine lv_aload_n hx hb dX2_become_69 rfl (lv_at hl 0 rfl) ?_
  refine sv_get (own := RX2) (C := RX2) (Tf := TX2) (N := 8) (index := 21) (κ := (3, 4)) (v := .ref (h (km + 4))) hx hb hts hown hK hW (fun _ h => List.mem_cons_of_mem _ (List.mem_append_right _ h)) hkm.1 hkm.2.1 rfl 3 (by decide) rfl rfl (List.mem_of_getElem? (i := 8) rfl) dX2_become_70 ?_
  refine sv_alen (t := 0) (v := (6 : Int32)) hx hb hK hW hkm.2.2.2.2.2.1.1 hkm.2.2.2.2.2.1.2 0 rfl rfl dX2_become_73 ?_
  obtain ⟨hc8, hs⟩ := sp_p hs
  refine sv_copy (own := RX2) (index := 27) hx hb (F.1.2.2.1.trans hl.1.symm) hown (hts _ (List.mem_of_getElem? (i := 2) rfl)) (hts _ (List.mem_of_getElem? (i := 3) rfl)) (hts _ (List.mem_of_getElem? (i := 4) rfl)) (hts _ (List.mem_of_getElem? (i := 5) rfl)) hK hW hb1.2.2.2.2.2.1.1 hb1.2.2.2.2.2.1.2 hkm.2.2.2.2.2.1.1 hkm.2.2.2.2.2.1.2 0 rfl hc8 (Nat.le_of_ble_eq_true rfl) (Nat.le_of_ble_eq_true rfl) dX2_become_74 (fun σ7 H locs eσ7 hW => ?_)
  replace hs := sp_let hs eσ7
  refine lv_aload_n hx hb dX2_become_77 rfl (lv_at hl 1 rfl) ?_
  refine sv_get (own := RX2) (C := RX2) (Tf := TX2) (N := 8) (index := 24) (κ := (3, 5)) (v := .ref (h (b1 + 5))) hx hb hts hown hK hW (fun _ h => List.mem_cons_of_mem _ (List.mem_append_right _ h)) hb1.1 hb1.2.1 rfl 4 (by decide) rfl rfl (List.mem_of_getElem? (i := 9) rfl) dX2_become_78 ?_
  refine lv_iconst (v := 0) hx hb dX2_become_81 (by decide) ?_
  refine lv_aload_n hx hb dX2_become_82 rfl (lv_at hl 0 rfl) ?_
  refine sv_get (own := RX2) (C := RX2) (Tf := TX2) (N := 8) (index := 24) (κ := (3, 5)) (v := .ref (h (km + 5))) hx hb hts hown hK hW (fun _ h => List.mem_cons_of_mem _ (List.mem_append_right _ h)) hkm.1 hkm.2.1 rfl 4 (by decide) rfl rfl (List.mem_of_getElem? (i := 9) rfl) dX2_become_83 ?_
  refine lv_iconst (v := 0) hx hb dX2_become_86 (by decide) ?_
  refine lv_aload_n hx hb dX2_become_87 rfl (lv_at hl 0 rfl) ?_
  refine sv_get (own := RX2) (C := RX2) (Tf := TX2) (N := 8) (index := 24) (κ := (3, 5)) (v := .ref (h (km + 5))) hx hb hts hown hK hW (fun _ h => List.mem_cons_of_mem _ (List.mem_append_right _ h)) hkm.1 hkm.2.1 rfl 4 (by decide) rfl rfl (List.mem_of_getElem? (i := 9) rfl) dX2_become_88 ?_
  refine sv_alen (t := 0) (v := (6 : Int32)) hx hb hK hW hkm.2.2.2.2.2.2.1 hkm.2.2.2.2.2.2.2 0 rfl rfl dX2_become_91 ?_
  obtain ⟨hc10, hs⟩ := sp_p hs
  refine sv_copy (own := RX2) (index := 27) hx hb (F.1.2.2.1.trans hl.1.symm) hown (hts _ (List.mem_of_getElem? (i := 2) rfl)) (hts _ (List.mem_of_getElem? (i := 3) rfl)) (hts _ (List.mem_of_getElem? (i := 4) rfl)) (hts _ (List.mem_of_getElem? (i := 5) rfl)) hK hW hb1.2.2.2.2.2.2.1 hb1.2.2.2.2.2.2.2 hkm.2.2.2.2.2.2.1 hkm.2.2.2.2.2.2.2 0 rfl hc10 (Nat.le_of_ble_eq_true rfl) (Nat.le_of_ble_eq_true rfl) dX2_become_92 (fun σ9 H locs eσ9 hW => ?_)
  replace hs := sp_let hs eσ9
  refine lv_aload_n hx hb dX2_become_95 rfl (lv_at hl 0 rfl) ?_
  refine lv_aload_n hx hb dX2_become_96 rfl (lv_at hl 1 rfl) ?_
  refine sv_get (own := RX2) (C := RX2) (Tf := TX2) (N := 8) (index := 33) (κ := (0, 0)) (v := .int (σ9.1 b1 5)) hx hb hts hown hK hW (fun _ h => List.mem_cons_of_mem _ (List.mem_append_right _ h)) hb1.1 hb1.2.1 rfl 5 (by decide) rfl rfl (List.mem_of_getElem? (i := 10) rfl) dX2_become_97 ?_
  refine sv_putI (own := RX2) (C := RX2) (Tf := TX2) (N := 8) (index := 33) hx hb hts hown hK hW (fun _ h => List.mem_cons_of_mem _ (List.mem_append_right _ h)) tyX2 tyX2_ok nmX2 hkm.1 hkm.2.1 rfl 5 (by decide) rfl rfl (ty := .int) (by decide +kernel) rfl rfl (List.mem_of_getElem? (i := 10) rfl) dX2_become_100 (fun σ11 H locs eσ11 hW => ?_)
  replace hs := sp_let hs eσ11
  refine lv_aload_n hx hb dX2_become_103 rfl (lv_at hl 0 rfl) ?_
  refine lv_aload_n hx hb dX2_become_104 rfl (lv_at hl 1 rfl) ?_
  refine sv_get (own := RX2) (C := RX2) (Tf := TX2) (N := 8) (index := 37) (κ := (0, 0)) (v := .int (σ11.1 b1 6)) hx hb hts hown hK hW (fun _ h => List.mem_cons_of_mem _ (List.mem_append_right _ h)) hb1.1 hb1.2.1 rfl 6 (by decide) rfl rfl (List.mem_of_getElem? (i := 11) rfl) dX2_become_105 ?_
  refine sv_putI (own := RX2) (C := RX2) (Tf := TX2) (N := 8) (index := 37) hx hb hts hown hK hW (fun _ h => List.mem_cons_of_mem _ (List.mem_append_right _ h)) tyX2 tyX2_ok nmX2 hkm.1 hkm.2.1 rfl 6 (by decide) rfl rfl (ty := .int) (by decide +kernel) rfl rfl (List.mem_of_getElem? (i := 11) rfl) dX2_become_108 (fun σ12 H locs eσ12 hW => ?_)
  replace hs := sp_let hs eσ12
  refine lv_aload_n hx hb dX2_become_111 rfl (lv_at hl 0 rfl) ?_
  refine lv_aload_n hx hb dX2_become_112 rfl (lv_at hl 1 rfl) ?_
  refine sv_get (own := RX2) (C := RX2) (Tf := TX2) (N := 8) (index := 40) (κ := (2, 0)) (v := va_rf ((σ12.2.2 b1 7).map h)) hx hb hts hown hK hW (fun _ h => List.mem_cons_of_mem _ (List.mem_append_right _ h)) hb1.1 hb1.2.1 rfl 7 (by decide) rfl rfl (List.mem_of_getElem? (i := 12) rfl) dX2_become_113 ?_
  refine sv_putP (r := σ12.2.2 b1 7) (hv := rfl) (own := RX2) (C := RX2) (Tf := TX2) (N := 8) (index := 40) hx hb hts hown hK hW (fun _ h => List.mem_cons_of_mem _ (List.mem_append_right _ h)) tyX2 tyX2_ok nmX2 hkm.1 hkm.2.1 rfl 7 (by decide) rfl rfl (C2 := "OpenWhileItRains$Text") (by decide +kernel) (List.mem_of_getElem? (i := 12) rfl) dX2_become_116 (fun σ13 H locs eσ13 hW => ?_)
  replace hs := sp_let hs eσ13
  cases hs
  exact sv_vret hx hb hr hlk hW dX2_become_119
set_option maxRecDepth 100000 in
set_option maxHeartbeats 4000000 in
theorem k_X2_has {qK qV : Nat → Nat} {l : Launch} {D : va_G} {T : Nat → ClassId} {h : Nat → Nat} {θ : sv_T} {a1 : Int32} {σ : sv_S} {r : Int32} {σ' : sv_S} (hB : sx_base θ)  (hs : q_X2_has θ a1 σ = some (r, σ')) : sv_Mi (sx_X qK qV) l D T (sx_tys T) h θ yX2_has wsX2_has (sv_rm 0 0) [.ref (h 1), .int a1] σ r σ' := by
  intro sz
  refine sv_enter (cc := cX2_has) (maxL := 2) (ret := (some .boolean)) (Qc := fun A => va_Qi (fun r2 (_ : Unit) => r2 = r) (fun _ t => va_P D vwCl (sv_ws T h θ σ') t.heap) A) sx_XP (by decide) rfl (Nat.le_of_ble_eq_true rfl) ?_
  intro p e s m args below meth c A F hr hlk ls H hl hW
  have hx := F.1.1
  have hb := F.1.2.1
  have hts := F.1.2.2.2.2
  have hown := F.1.2.2.2.1
  have hK := F.2.1
  obtain ⟨locs, hlocs⟩ : ∃ z : List Loc, z = [] := ⟨_, rfl⟩
  rw [← hlocs] at hW ⊢
  have hl : lv_has ls 2 [(0, .ref (h 1)), (1, .int a1)] := hl
  unfold q_X2_has at hs
  refine lv_iload_n hx hb dX2_has_0 rfl (lv_at hl 1 rfl) ?_
  refine lv_if_lt (tgt := 16) hx hb dX2_has_1 (by decide) (fun c1 => ?_) (fun c1 => ?_)
  · replace hs := (sp_ite hs).1 c1
    refine lv_iconst (v := 0) hx hb dX2_has_16 (by decide) ?_
    cases hs
    exact sv_iret hx hb hr rfl hlk hW dX2_has_17
  · replace hs := (sp_ite hs).2 c1
    refine lv_iload_n hx hb dX2_has_4 rfl (lv_at hl 1 rfl) ?_
    refine lv_aload_n hx hb dX2_has_5 rfl (lv_at hl 0 rfl) ?_
    refine sv_get (own := RX2) (C := RX2) (Tf := TX2) (N := 8) (index := 37) (κ := (0, 0)) (v := .int (σ.1 1 6)) hx hb hts hown hK hW (fun _ h => List.mem_cons_of_mem _ (List.mem_append_right _ h)) (sx_i 1 hB (by decide)) (sx_c1 hB) rfl 6 (by decide) rfl rfl (List.mem_of_getElem? (i := 1) rfl) dX2_has_6 ?_
    refine lv_icmp_ge (tgt := 16) hx hb dX2_has_9 (by decide) (fun c2 => ?_) (fun c2 => ?_)
    · replace hs := (sp_ite hs).1 c2
      refine lv_iconst (v := 0) hx hb dX2_has_16 (by decide) ?_
      cases hs
      exact sv_iret hx hb hr rfl hlk hW dX2_has_17
    · replace hs := (sp_ite hs).2 c2
      refine lv_iconst (v := 1) hx hb dX2_has_12 (by decide) ?_
      refine lv_goto (tgt := 17) hx hb dX2_has_13 (by decide) ?_
      cases hs
      exact sv_iret hx hb hr rfl hlk hW dX2_has_17
set_option maxRecDepth 100000 in
set_option maxHeartbeats 4000000 in
theorem k_X2_add {qK qV : Nat → Nat} {l : Launch} {D : va_G} {T : Nat → ClassId} {h : Nat → Nat} {θ : sv_T} {a1 : Int32} {a2 : Int32} {a3 : Int32} {σ : sv_S} {r : Int32} {σ' : sv_S} (hB : sx_base θ)  (hs : q_X2_add θ a1 a2 a3 σ = some (r, σ')) : sv_Mi (sx_X qK qV) l D T (sx_tys T) h θ yX2_add wsX2_add (sv_rm 1 22) [.ref (h 1), .int a1, .int a2, .int a3] σ r σ' := by
  intro sz
  refine sv_enter (cc := cX2_add) (maxL := 4) (ret := (some .boolean)) (Qc := fun A => va_Qi (fun r2 (_ : Unit) => r2 = r) (fun _ t => va_P D vwCl (sv_ws T h θ σ') t.heap) A) sx_XP (by decide) rfl (Nat.le_of_ble_eq_true rfl) ?_
  intro p e s m args below meth c A F hr hlk ls H hl hW
  have hx := F.1.1
  have hb := F.1.2.1
  have hts := F.1.2.2.2.2
  have hown := F.1.2.2.2.1
  have hK := F.2.1
  obtain ⟨locs, hlocs⟩ : ∃ z : List Loc, z = [] := ⟨_, rfl⟩
  rw [← hlocs] at hW ⊢
  have hl : lv_has ls 4 [(0, .ref (h 1)), (1, .int a1), (2, .int a2), (3, .int a3)] := hl
  unfold q_X2_add at hs
  refine lv_aload_n hx hb dX2_add_0 rfl (lv_at hl 0 rfl) ?_
  refine sv_get (own := RX2) (C := RX2) (Tf := TX2) (N := 8) (index := 37) (κ := (0, 0)) (v := .int (σ.1 1 6)) hx hb hts hown hK hW (fun _ h => List.mem_cons_of_mem _ (List.mem_append_right _ h)) (sx_i 1 hB (by decide)) (sx_c1 hB) rfl 6 (by decide) rfl rfl (List.mem_of_getElem? (i := 1) rfl) dX2_add_1 ?_
  refine lv_bipush (v := 6) hx hb dX2_add_4 (by decide) ?_
  refine lv_icmp_lt (tgt := 11) hx hb dX2_add_6 (by decide) (fun c1 => ?_) (fun c1 => ?_)
  · replace hs := (sp_ite hs).1 c1
    refine lv_aload_n hx hb dX2_add_11 rfl (lv_at hl 0 rfl) ?_
    refine sv_get (own := RX2) (C := RX2) (Tf := TX2) (N := 8) (index := 15) (κ := (3, 2)) (v := .ref (h 3)) hx hb hts hown hK hW (fun _ h => List.mem_cons_of_mem _ (List.mem_append_right _ h)) (sx_i 1 hB (by decide)) (sx_c1 hB) rfl 1 (by decide) rfl rfl (List.mem_of_getElem? (i := 2) rfl) dX2_add_12 ?_
    refine lv_aload_n hx hb dX2_add_15 rfl (lv_at hl 0 rfl) ?_
    refine sv_get (own := RX2) (C := RX2) (Tf := TX2) (N := 8) (index := 37) (κ := (0, 0)) (v := .int (σ.1 1 6)) hx hb hts hown hK hW (fun _ h => List.mem_cons_of_mem _ (List.mem_append_right _ h)) (sx_i 1 hB (by decide)) (sx_c1 hB) rfl 6 (by decide) rfl rfl (List.mem_of_getElem? (i := 1) rfl) dX2_add_16 ?_
    refine lv_iload_n hx hb dX2_add_19 rfl (lv_at hl 1 rfl) ?_
    obtain ⟨r2, σ3, eσ3, hs⟩ := sp_bind hs
    refine sv_goV (σ' := σ3) (r := r2) hW F.2.2.2.1 (sv_runN (own := RX2) (host := "OpenWhileItRains") F hW (k_X7_put hB (sv_oA_of (sx_i 3 hB (by decide)) (sx_c3 hB)) eσ3 H.size) gX2_add_X7_put_n44 rfl ⟨rfl, rfl⟩ (F.2.2.1.1 _ (List.mem_of_getElem? (i := 8) rfl)) (List.mem_of_getElem? (i := 7) rfl) (List.mem_of_getElem? (i := 6) rfl) 3 (by decide +kernel) (sv_room2 (by omega) (by omega)) rfl hl.1 rfl (Nat.le_of_ble_eq_true rfl) dX2_add_20 ⟨Nat.zero_le _, Nat.zero_le _⟩) (fun H locs hW => ?_)
    refine lv_aload_n hx hb dX2_add_23 rfl (lv_at hl 0 rfl) ?_
    refine sv_get (own := RX2) (C := RX2) (Tf := TX2) (N := 8) (index := 18) (κ := (3, 3)) (v := .ref (h 4)) hx hb hts hown hK hW (fun _ h => List.mem_cons_of_mem _ (List.mem_append_right _ h)) (sx_i 1 hB (by decide)) (sx_c1 hB) rfl 2 (by decide) rfl rfl (List.mem_of_getElem? (i := 3) rfl) dX2_add_24 ?_
    refine lv_aload_n hx hb dX2_add_27 rfl (lv_at hl 0 rfl) ?_
    refine sv_get (own := RX2) (C := RX2) (Tf := TX2) (N := 8) (index := 37) (κ := (0, 0)) (v := .int (σ3.1 1 6)) hx hb hts hown hK hW (fun _ h => List.mem_cons_of_mem _ (List.mem_append_right _ h)) (sx_i 1 hB (by decide)) (sx_c1 hB) rfl 6 (by decide) rfl rfl (List.mem_of_getElem? (i := 1) rfl) dX2_add_28 ?_
    refine lv_iload_n hx hb dX2_add_31 rfl (lv_at hl 2 rfl) ?_
    obtain ⟨r4, σ5, eσ5, hs⟩ := sp_bind hs
    refine sv_goV (σ' := σ5) (r := r4) hW F.2.2.2.1 (sv_runN (own := RX2) (host := "OpenWhileItRains") F hW (k_X7_put hB (sv_oA_of (sx_i 4 hB (by decide)) (sx_c4 hB)) eσ5 H.size) gX2_add_X7_put_n44 rfl ⟨rfl, rfl⟩ (F.2.2.1.1 _ (List.mem_of_getElem? (i := 8) rfl)) (List.mem_of_getElem? (i := 7) rfl) (List.mem_of_getElem? (i := 6) rfl) 3 (by decide +kernel) (sv_room2 (by omega) (by omega)) rfl hl.1 rfl (Nat.le_of_ble_eq_true rfl) dX2_add_32 ⟨Nat.zero_le _, Nat.zero_le _⟩) (fun H locs hW => ?_)
    refine lv_aload_n hx hb dX2_add_35 rfl (lv_at hl 0 rfl) ?_
    refine sv_get (own := RX2) (C := RX2) (Tf := TX2) (N := 8) (index := 21) (κ := (3, 4)) (v := .ref (h 5)) hx hb hts hown hK hW (fun _ h => List.mem_cons_of_mem _ (List.mem_append_right _ h)) (sx_i 1 hB (by decide)) (sx_c1 hB) rfl 3 (by decide) rfl rfl (List.mem_of_getElem? (i := 4) rfl) dX2_add_36 ?_
    refine lv_aload_n hx hb dX2_add_39 rfl (lv_at hl 0 rfl) ?_
    refine sv_get (own := RX2) (C := RX2) (Tf := TX2) (N := 8) (index := 37) (κ := (0, 0)) (v := .int (σ5.1 1 6)) hx hb hts hown hK hW (fun _ h => List.mem_cons_of_mem _ (List.mem_append_right _ h)) (sx_i 1 hB (by decide)) (sx_c1 hB) rfl 6 (by decide) rfl rfl (List.mem_of_getElem? (i := 1) rfl) dX2_add_40 ?_
    refine lv_iload_n hx hb dX2_add_43 rfl (lv_at hl 3 rfl) ?_
    obtain ⟨r6, σ7, eσ7, hs⟩ := sp_bind hs
    refine sv_goV (σ' := σ7) (r := r6) hW F.2.2.2.1 (sv_runN (own := RX2) (host := "OpenWhileItRains") F hW (k_X7_put hB (sv_oA_of (sx_i 5 hB (by decide)) (sx_c5 hB)) eσ7 H.size) gX2_add_X7_put_n44 rfl ⟨rfl, rfl⟩ (F.2.2.1.1 _ (List.mem_of_getElem? (i := 8) rfl)) (List.mem_of_getElem? (i := 7) rfl) (List.mem_of_getElem? (i := 6) rfl) 3 (by decide +kernel) (sv_room2 (by omega) (by omega)) rfl hl.1 rfl (Nat.le_of_ble_eq_true rfl) dX2_add_44 ⟨Nat.zero_le _, Nat.zero_le _⟩) (fun H locs hW => ?_)
    refine lv_aload_n hx hb dX2_add_47 rfl (lv_at hl 0 rfl) ?_
    refine sv_get (own := RX2) (C := RX2) (Tf := TX2) (N := 8) (index := 24) (κ := (3, 5)) (v := .ref (h 6)) hx hb hts hown hK hW (fun _ h => List.mem_cons_of_mem _ (List.mem_append_right _ h)) (sx_i 1 hB (by decide)) (sx_c1 hB) rfl 4 (by decide) rfl rfl (List.mem_of_getElem? (i := 5) rfl) dX2_add_48 ?_
    refine lv_aload_n hx hb dX2_add_51 rfl (lv_at hl 0 rfl) ?_
    refine sv_get (own := RX2) (C := RX2) (Tf := TX2) (N := 8) (index := 37) (κ := (0, 0)) (v := .int (σ7.1 1 6)) hx hb hts hown hK hW (fun _ h => List.mem_cons_of_mem _ (List.mem_append_right _ h)) (sx_i 1 hB (by decide)) (sx_c1 hB) rfl 6 (by decide) rfl rfl (List.mem_of_getElem? (i := 1) rfl) dX2_add_52 ?_
    refine lv_iconst (v := 0) hx hb dX2_add_55 (by decide) ?_
    obtain ⟨r8, σ9, eσ9, hs⟩ := sp_bind hs
    refine sv_goV (σ' := σ9) (r := r8) hW F.2.2.2.1 (sv_runN (own := RX2) (host := "OpenWhileItRains") F hW (k_X7_put hB (sv_oA_of (sx_i 6 hB (by decide)) (sx_c6 hB)) eσ9 H.size) gX2_add_X7_put_n44 rfl ⟨rfl, rfl⟩ (F.2.2.1.1 _ (List.mem_of_getElem? (i := 8) rfl)) (List.mem_of_getElem? (i := 7) rfl) (List.mem_of_getElem? (i := 6) rfl) 3 (by decide +kernel) (sv_room2 (by omega) (by omega)) rfl hl.1 rfl (Nat.le_of_ble_eq_true rfl) dX2_add_56 ⟨Nat.zero_le _, Nat.zero_le _⟩) (fun H locs hW => ?_)
    refine lv_aload_n hx hb dX2_add_59 rfl (lv_at hl 0 rfl) ?_
    refine lv_dup hx hb dX2_add_60 rfl ?_
    refine sv_get (own := RX2) (C := RX2) (Tf := TX2) (N := 8) (index := 37) (κ := (0, 0)) (v := .int (σ9.1 1 6)) hx hb hts hown hK hW (fun _ h => List.mem_cons_of_mem _ (List.mem_append_right _ h)) (sx_i 1 hB (by decide)) (sx_c1 hB) rfl 6 (by decide) rfl rfl (List.mem_of_getElem? (i := 1) rfl) dX2_add_61 ?_
    refine lv_iconst (v := 1) hx hb dX2_add_64 (by decide) ?_
    refine lv_iadd hx hb dX2_add_65 ?_
    refine sv_putI (own := RX2) (C := RX2) (Tf := TX2) (N := 8) (index := 37) hx hb hts hown hK hW (fun _ h => List.mem_cons_of_mem _ (List.mem_append_right _ h)) tyX2 tyX2_ok nmX2 (sx_i 1 hB (by decide)) (sx_c1 hB) rfl 6 (by decide) rfl rfl (ty := .int) (by decide +kernel) rfl rfl (List.mem_of_getElem? (i := 1) rfl) dX2_add_66 (fun σ10 H locs eσ10 hW => ?_)
    replace hs := sp_let hs eσ10
    refine lv_iconst (v := 1) hx hb dX2_add_69 (by decide) ?_
    cases hs
    exact sv_iret hx hb hr rfl hlk hW dX2_add_70
  · replace hs := (sp_ite hs).2 c1
    refine lv_iconst (v := 0) hx hb dX2_add_9 (by decide) ?_
    cases hs
    exact sv_iret hx hb hr rfl hlk hW dX2_add_10
set_option maxRecDepth 100000 in
set_option maxHeartbeats 4000000 in
theorem b_X2_shakenCount_4 {qK qV : Nat → Nat} {p : Program} {l : Launch} {e : Env} {s : State} {m : MethodId} {args : Array Value} {below : List Frame} {meth : Method} {c : Code} {D : va_G} {T : Nat → ClassId} {A : Nat → Prop} {h : Nat → Nat} {θ : sv_T}  {r : Int32} {σ' : sv_S} (hB : sx_base θ)  (F : sv_F (sx_X qK qV) p m c cX2_shakenCount 3 s args wsX2_shakenCount RX2 D (sx_tys T) A) (hr : meth.sig.returnType = (some .int)) (hlk : meth.locks = false)  : ∀ (n : Nat), ∀ (x1 : Int32) (x2 : Int32) (σ : sv_S) (H : Heap) (locs : List Loc) (ls : Array Slot), lv_has ls 3 [(0, .ref (h 1)), (1, .int x1), (2, .int x2)] → sv_W D T A s h θ σ H locs → q_X2_shakenCount_B4 θ  n x1 x2 σ = some (r, σ') → W p l e (sv_rm 1 21) s m args below meth c H locs 0 0 (MQ below (va_Qi (fun r2 (_ : Unit) => r2 = r) (fun _ t => va_P D vwCl (sv_ws T h θ σ') t.heap) A) args s 0 0 A) (F0 m 4 ls []) := by
  have hx := F.1.1
  have hb := F.1.2.1
  have hts := F.1.2.2.2.2
  have hown := F.1.2.2.2.1
  have hK := F.2.1
  intro n
  induction n with
  | zero =>
    intro x1 x2 σ H locs ls hl hW hs
    have hs : (none : Option (Int32 × sv_S)) = some (r, σ') := hs
    cases hs
  | succ n ih =>
    intro x1 x2 σ H locs ls hl hW hs
    have hs : q_X2_shakenCount_B4_b θ  (q_X2_shakenCount_B4 θ  n) x1 x2 σ = some (r, σ') := hs
    unfold q_X2_shakenCount_B4_b at hs
    refine lv_iload_n hx hb dX2_shakenCount_4 rfl (lv_at hl 2 rfl) ?_
    refine lv_aload_n hx hb dX2_shakenCount_5 rfl (lv_at hl 0 rfl) ?_
    refine sv_get (own := RX2) (C := RX2) (Tf := TX2) (N := 8) (index := 37) (κ := (0, 0)) (v := .int (σ.1 1 6)) hx hb hts hown hK hW (fun _ h => List.mem_cons_of_mem _ (List.mem_append_right _ h)) (sx_i 1 hB (by decide)) (sx_c1 hB) rfl 6 (by decide) rfl rfl (List.mem_of_getElem? (i := 1) rfl) dX2_shakenCount_6 ?_
    refine lv_icmp_ge (tgt := 29) hx hb dX2_shakenCount_9 (by decide) (fun c1 => ?_) (fun c1 => ?_)
    · replace hs := (sp_ite hs).1 c1
      refine lv_iload_n hx hb dX2_shakenCount_29 rfl (lv_at hl 1 rfl) ?_
      cases hs
      exact sv_iret hx hb hr rfl hlk hW dX2_shakenCount_30
    · replace hs := (sp_ite hs).2 c1
      refine lv_iload_n hx hb dX2_shakenCount_12 rfl (lv_at hl 1 rfl) ?_
      refine lv_aload_n hx hb dX2_shakenCount_13 rfl (lv_at hl 0 rfl) ?_
      refine sv_get (own := RX2) (C := RX2) (Tf := TX2) (N := 8) (index := 24) (κ := (3, 5)) (v := .ref (h 6)) hx hb hts hown hK hW (fun _ h => List.mem_cons_of_mem _ (List.mem_append_right _ h)) (sx_i 1 hB (by decide)) (sx_c1 hB) rfl 4 (by decide) rfl rfl (List.mem_of_getElem? (i := 2) rfl) dX2_shakenCount_14 ?_
      refine lv_iload_n hx hb dX2_shakenCount_17 rfl (lv_at hl 2 rfl) ?_
      obtain ⟨r2, σ3, eσ3, hs⟩ := sp_bind hs
      refine sv_goI (σ' := σ3) (r := r2) hW F.2.2.2.1 (sv_runN (own := RX2) (host := "OpenWhileItRains") F hW (k_X7_at hB (sv_oA_of (sx_i 6 hB (by decide)) (sx_c6 hB)) eσ3 H.size) gX2_shakenCount_X7_at_n48 rfl ⟨rfl, rfl⟩ (F.2.2.1.1 _ (List.mem_of_getElem? (i := 9) rfl)) (List.mem_of_getElem? (i := 4) rfl) (List.mem_of_getElem? (i := 3) rfl) 2 (by decide +kernel) (sv_room2 (by omega) (by omega)) rfl hl.1 rfl (Nat.le_of_ble_eq_true rfl) dX2_shakenCount_18 ⟨Nat.zero_le _, Nat.zero_le _⟩) (fun H locs hW => ?_)
      refine lv_iadd hx hb dX2_shakenCount_21 ?_
      refine lv_topi (fun v4 ev4 => ?_)
      replace hs := sp_let hs ev4
      refine lv_istore_n (lv' := [(1, .int v4), (0, .ref (h 1)), (2, .int x2)]) hx hb dX2_shakenCount_22 rfl hl (by decide) rfl (fun ls hl => ?_)
      obtain ⟨v5, ev5⟩ : ∃ y : Int32, y = x2 + 1 := ⟨_, rfl⟩
      replace hs := sp_let hs ev5
      refine lv_iinc (v := v5) (lv' := [(2, .int v5), (1, .int v4), (0, .ref (h 1))]) hx hb dX2_shakenCount_23 hl (k := 2) rfl (by rw [ev5]; rfl) (by decide) rfl (fun ls hl => ?_)
      refine lv_goto (tgt := 4) hx hb dX2_shakenCount_26 (by decide) ?_
      exact ih v4 v5 σ3 H locs ls (lv_sub hl [2, 1, 0] rfl) hW hs
set_option maxRecDepth 100000 in
set_option maxHeartbeats 4000000 in
theorem k_X2_shakenCount {qK qV : Nat → Nat} {l : Launch} {D : va_G} {T : Nat → ClassId} {h : Nat → Nat} {θ : sv_T}  {σ : sv_S} {r : Int32} {σ' : sv_S} (hB : sx_base θ)  (hs : q_X2_shakenCount θ  σ = some (r, σ')) : sv_Mi (sx_X qK qV) l D T (sx_tys T) h θ yX2_shakenCount wsX2_shakenCount (sv_rm 1 21) [.ref (h 1)] σ r σ' := by
  intro sz
  refine sv_enter (cc := cX2_shakenCount) (maxL := 3) (ret := (some .int)) (Qc := fun A => va_Qi (fun r2 (_ : Unit) => r2 = r) (fun _ t => va_P D vwCl (sv_ws T h θ σ') t.heap) A) sx_XP (by decide) rfl (Nat.le_of_ble_eq_true rfl) ?_
  intro p e s m args below meth c A F hr hlk ls H hl hW
  have hx := F.1.1
  have hb := F.1.2.1
  have hts := F.1.2.2.2.2
  have hown := F.1.2.2.2.1
  have hK := F.2.1
  obtain ⟨locs, hlocs⟩ : ∃ z : List Loc, z = [] := ⟨_, rfl⟩
  rw [← hlocs] at hW ⊢
  have hl : lv_has ls 3 [(0, .ref (h 1))] := hl
  unfold q_X2_shakenCount at hs
  refine lv_iconst (v := 0) hx hb dX2_shakenCount_0 (by decide) ?_
  refine lv_istore_n (lv' := [(1, .int (0 : Int32)), (0, .ref (h 1))]) hx hb dX2_shakenCount_1 rfl hl (by decide) rfl (fun ls hl => ?_)
  refine lv_iconst (v := 0) hx hb dX2_shakenCount_2 (by decide) ?_
  refine lv_istore_n (lv' := [(2, .int (0 : Int32)), (1, .int (0 : Int32)), (0, .ref (h 1))]) hx hb dX2_shakenCount_3 rfl hl (by decide) rfl (fun ls hl => ?_)
  exact b_X2_shakenCount_4 hB F hr hlk sv_N (0 : Int32) (0 : Int32) σ H locs ls (lv_sub hl [2, 1, 0] rfl) hW hs
set_option maxRecDepth 100000 in
set_option maxHeartbeats 4000000 in
theorem b_X2_unshaken_4 {qK qV : Nat → Nat} {p : Program} {l : Launch} {e : Env} {s : State} {m : MethodId} {args : Array Value} {below : List Frame} {meth : Method} {c : Code} {D : va_G} {T : Nat → ClassId} {A : Nat → Prop} {h : Nat → Nat} {θ : sv_T}  {r : Int32} {σ' : sv_S} (hB : sx_base θ)  (F : sv_F (sx_X qK qV) p m c cX2_unshaken 3 s args wsX2_unshaken RX2 D (sx_tys T) A) (hr : meth.sig.returnType = (some .int)) (hlk : meth.locks = false)  : ∀ (n : Nat), ∀ (x1 : Int32) (x2 : Int32) (σ : sv_S) (H : Heap) (locs : List Loc) (ls : Array Slot), lv_has ls 3 [(0, .ref (h 1)), (1, .int x1), (2, .int x2)] → sv_W D T A s h θ σ H locs → q_X2_unshaken_B4 θ  n x1 x2 σ = some (r, σ') → W p l e (sv_rm 1 21) s m args below meth c H locs 0 0 (MQ below (va_Qi (fun r2 (_ : Unit) => r2 = r) (fun _ t => va_P D vwCl (sv_ws T h θ σ') t.heap) A) args s 0 0 A) (F0 m 4 ls []) := by
  have hx := F.1.1
  have hb := F.1.2.1
  have hts := F.1.2.2.2.2
  have hown := F.1.2.2.2.1
  have hK := F.2.1
  intro n
  induction n with
  | zero =>
    intro x1 x2 σ H locs ls hl hW hs
    have hs : (none : Option (Int32 × sv_S)) = some (r, σ') := hs
    cases hs
  | succ n ih =>
    intro x1 x2 σ H locs ls hl hW hs
    have hs : q_X2_unshaken_B4_b θ  (q_X2_unshaken_B4 θ  n) x1 x2 σ = some (r, σ') := hs
    unfold q_X2_unshaken_B4_b at hs
    refine lv_iload_n hx hb dX2_unshaken_4 rfl (lv_at hl 2 rfl) ?_
    refine lv_aload_n hx hb dX2_unshaken_5 rfl (lv_at hl 0 rfl) ?_
    refine sv_get (own := RX2) (C := RX2) (Tf := TX2) (N := 8) (index := 37) (κ := (0, 0)) (v := .int (σ.1 1 6)) hx hb hts hown hK hW (fun _ h => List.mem_cons_of_mem _ (List.mem_append_right _ h)) (sx_i 1 hB (by decide)) (sx_c1 hB) rfl 6 (by decide) rfl rfl (List.mem_of_getElem? (i := 1) rfl) dX2_unshaken_6 ?_
    refine lv_icmp_ge (tgt := 39) hx hb dX2_unshaken_9 (by decide) (fun c1 => ?_) (fun c1 => ?_)
    · replace hs := (sp_ite hs).1 c1
      refine lv_iload_n hx hb dX2_unshaken_39 rfl (lv_at hl 1 rfl) ?_
      cases hs
      exact sv_iret hx hb hr rfl hlk hW dX2_unshaken_40
    · replace hs := (sp_ite hs).2 c1
      refine lv_iload_n hx hb dX2_unshaken_12 rfl (lv_at hl 1 rfl) ?_
      refine lv_aload_n hx hb dX2_unshaken_13 rfl (lv_at hl 0 rfl) ?_
      refine sv_get (own := RX2) (C := RX2) (Tf := TX2) (N := 8) (index := 24) (κ := (3, 5)) (v := .ref (h 6)) hx hb hts hown hK hW (fun _ h => List.mem_cons_of_mem _ (List.mem_append_right _ h)) (sx_i 1 hB (by decide)) (sx_c1 hB) rfl 4 (by decide) rfl rfl (List.mem_of_getElem? (i := 2) rfl) dX2_unshaken_14 ?_
      refine lv_iload_n hx hb dX2_unshaken_17 rfl (lv_at hl 2 rfl) ?_
      obtain ⟨r2, σ3, eσ3, hs⟩ := sp_bind hs
      refine sv_goI (σ' := σ3) (r := r2) hW F.2.2.2.1 (sv_runN (own := RX2) (host := "OpenWhileItRains") F hW (k_X7_at hB (sv_oA_of (sx_i 6 hB (by decide)) (sx_c6 hB)) eσ3 H.size) gX2_unshaken_X7_at_n48 rfl ⟨rfl, rfl⟩ (F.2.2.1.1 _ (List.mem_of_getElem? (i := 9) rfl)) (List.mem_of_getElem? (i := 4) rfl) (List.mem_of_getElem? (i := 3) rfl) 2 (by decide +kernel) (sv_room2 (by omega) (by omega)) rfl hl.1 rfl (Nat.le_of_ble_eq_true rfl) dX2_unshaken_18 ⟨Nat.zero_le _, Nat.zero_le _⟩) (fun H locs hW => ?_)
      refine lv_if_ne (tgt := 30) hx hb dX2_unshaken_21 (by decide) (fun c4 => ?_) (fun c4 => ?_)
      · replace hs := (sp_ite hs).2 c4
        refine lv_iconst (v := 0) hx hb dX2_unshaken_30 (by decide) ?_
        refine lv_ior hx hb dX2_unshaken_31 ?_
        refine lv_topi (fun v5 ev5 => ?_)
        replace hs := sp_let hs ev5
        refine lv_istore_n (lv' := [(1, .int v5), (0, .ref (h 1)), (2, .int x2)]) hx hb dX2_unshaken_32 rfl hl (by decide) rfl (fun ls hl => ?_)
        obtain ⟨v6, ev6⟩ : ∃ y : Int32, y = x2 + 1 := ⟨_, rfl⟩
        replace hs := sp_let hs ev6
        refine lv_iinc (v := v6) (lv' := [(2, .int v6), (1, .int v5), (0, .ref (h 1))]) hx hb dX2_unshaken_33 hl (k := 2) rfl (by rw [ev6]; rfl) (by decide) rfl (fun ls hl => ?_)
        refine lv_goto (tgt := 4) hx hb dX2_unshaken_36 (by decide) ?_
        exact ih v5 v6 σ3 H locs ls (lv_sub hl [2, 1, 0] rfl) hW hs
      · replace hs := (sp_ite hs).1 c4
        refine lv_iconst (v := 1) hx hb dX2_unshaken_24 (by decide) ?_
        refine lv_iload_n hx hb dX2_unshaken_25 rfl (lv_at hl 2 rfl) ?_
        refine lv_ishl hx hb dX2_unshaken_26 ?_
        refine lv_goto (tgt := 31) hx hb dX2_unshaken_27 (by decide) ?_
        refine lv_ior hx hb dX2_unshaken_31 ?_
        refine lv_topi (fun v7 ev7 => ?_)
        replace hs := sp_let hs ev7
        refine lv_istore_n (lv' := [(1, .int v7), (0, .ref (h 1)), (2, .int x2)]) hx hb dX2_unshaken_32 rfl hl (by decide) rfl (fun ls hl => ?_)
        obtain ⟨v8, ev8⟩ : ∃ y : Int32, y = x2 + 1 := ⟨_, rfl⟩
        replace hs := sp_let hs ev8
        refine lv_iinc (v := v8) (lv' := [(2, .int v8), (1, .int v7), (0, .ref (h 1))]) hx hb dX2_unshaken_33 hl (k := 2) rfl (by rw [ev8]; rfl) (by decide) rfl (fun ls hl => ?_)
        refine lv_goto (tgt := 4) hx hb dX2_unshaken_36 (by decide) ?_
        exact ih v7 v8 σ3 H locs ls (lv_sub hl [2, 1, 0] rfl) hW hs
set_option maxRecDepth 100000 in
set_option maxHeartbeats 4000000 in
theorem k_X2_unshaken {qK qV : Nat → Nat} {l : Launch} {D : va_G} {T : Nat → ClassId} {h : Nat → Nat} {θ : sv_T}  {σ : sv_S} {r : Int32} {σ' : sv_S} (hB : sx_base θ)  (hs : q_X2_unshaken θ  σ = some (r, σ')) : sv_Mi (sx_X qK qV) l D T (sx_tys T) h θ yX2_unshaken wsX2_unshaken (sv_rm 1 21) [.ref (h 1)] σ r σ' := by
  intro sz
  refine sv_enter (cc := cX2_unshaken) (maxL := 3) (ret := (some .int)) (Qc := fun A => va_Qi (fun r2 (_ : Unit) => r2 = r) (fun _ t => va_P D vwCl (sv_ws T h θ σ') t.heap) A) sx_XP (by decide) rfl (Nat.le_of_ble_eq_true rfl) ?_
  intro p e s m args below meth c A F hr hlk ls H hl hW
  have hx := F.1.1
  have hb := F.1.2.1
  have hts := F.1.2.2.2.2
  have hown := F.1.2.2.2.1
  have hK := F.2.1
  obtain ⟨locs, hlocs⟩ : ∃ z : List Loc, z = [] := ⟨_, rfl⟩
  rw [← hlocs] at hW ⊢
  have hl : lv_has ls 3 [(0, .ref (h 1))] := hl
  unfold q_X2_unshaken at hs
  refine lv_iconst (v := 0) hx hb dX2_unshaken_0 (by decide) ?_
  refine lv_istore_n (lv' := [(1, .int (0 : Int32)), (0, .ref (h 1))]) hx hb dX2_unshaken_1 rfl hl (by decide) rfl (fun ls hl => ?_)
  refine lv_iconst (v := 0) hx hb dX2_unshaken_2 (by decide) ?_
  refine lv_istore_n (lv' := [(2, .int (0 : Int32)), (1, .int (0 : Int32)), (0, .ref (h 1))]) hx hb dX2_unshaken_3 rfl hl (by decide) rfl (fun ls hl => ?_)
  exact b_X2_unshaken_4 hB F hr hlk sv_N (0 : Int32) (0 : Int32) σ H locs ls (lv_sub hl [2, 1, 0] rfl) hW hs
set_option maxRecDepth 100000 in
set_option maxHeartbeats 4000000 in
theorem b_X2_inStreet_4 {qK qV : Nat → Nat} {p : Program} {l : Launch} {e : Env} {s : State} {m : MethodId} {args : Array Value} {below : List Frame} {meth : Method} {c : Code} {D : va_G} {T : Nat → ClassId} {A : Nat → Prop} {h : Nat → Nat} {θ : sv_T} {a1 : Int32} {r : Int32} {σ' : sv_S} (hB : sx_base θ)  (F : sv_F (sx_X qK qV) p m c cX2_inStreet 4 s args wsX2_inStreet RX2 D (sx_tys T) A) (hr : meth.sig.returnType = (some .int)) (hlk : meth.locks = false)  : ∀ (n : Nat), ∀ (x1 : Int32) (x2 : Int32) (x3 : Int32) (σ : sv_S) (H : Heap) (locs : List Loc) (ls : Array Slot), lv_has ls 4 [(0, .ref (h 1)), (1, .int x1), (2, .int x2), (3, .int x3)] → sv_W D T A s h θ σ H locs → q_X2_inStreet_B4 θ a1 n x1 x2 x3 σ = some (r, σ') → W p l e (sv_rm 1 21) s m args below meth c H locs 0 0 (MQ below (va_Qi (fun r2 (_ : Unit) => r2 = r) (fun _ t => va_P D vwCl (sv_ws T h θ σ') t.heap) A) args s 0 0 A) (F0 m 4 ls []) := by
  have hx := F.1.1
  have hb := F.1.2.1
  have hts := F.1.2.2.2.2
  have hown := F.1.2.2.2.1
  have hK := F.2.1
  intro n
  induction n with
  | zero =>
    intro x1 x2 x3 σ H locs ls hl hW hs
    have hs : (none : Option (Int32 × sv_S)) = some (r, σ') := hs
    cases hs
  | succ n ih =>
    intro x1 x2 x3 σ H locs ls hl hW hs
    have hs : q_X2_inStreet_B4_b θ a1 (q_X2_inStreet_B4 θ a1 n) x1 x2 x3 σ = some (r, σ') := hs
    unfold q_X2_inStreet_B4_b at hs
    refine lv_iload_n hx hb dX2_inStreet_4 rfl (lv_at hl 3 rfl) ?_
    refine lv_aload_n hx hb dX2_inStreet_5 rfl (lv_at hl 0 rfl) ?_
    refine sv_get (own := RX2) (C := RX2) (Tf := TX2) (N := 8) (index := 37) (κ := (0, 0)) (v := .int (σ.1 1 6)) hx hb hts hown hK hW (fun _ h => List.mem_cons_of_mem _ (List.mem_append_right _ h)) (sx_i 1 hB (by decide)) (sx_c1 hB) rfl 6 (by decide) rfl rfl (List.mem_of_getElem? (i := 1) rfl) dX2_inStreet_6 ?_
    refine lv_icmp_ge (tgt := 40) hx hb dX2_inStreet_9 (by decide) (fun c1 => ?_) (fun c1 => ?_)
    · replace hs := (sp_ite hs).1 c1
      refine lv_iload_n hx hb dX2_inStreet_40 rfl (lv_at hl 2 rfl) ?_
      cases hs
      exact sv_iret hx hb hr rfl hlk hW dX2_inStreet_41
    · replace hs := (sp_ite hs).2 c1
      refine lv_iload_n hx hb dX2_inStreet_12 rfl (lv_at hl 2 rfl) ?_
      refine lv_aload_n hx hb dX2_inStreet_13 rfl (lv_at hl 0 rfl) ?_
      refine sv_get (own := RX2) (C := RX2) (Tf := TX2) (N := 8) (index := 21) (κ := (3, 4)) (v := .ref (h 5)) hx hb hts hown hK hW (fun _ h => List.mem_cons_of_mem _ (List.mem_append_right _ h)) (sx_i 1 hB (by decide)) (sx_c1 hB) rfl 3 (by decide) rfl rfl (List.mem_of_getElem? (i := 2) rfl) dX2_inStreet_14 ?_
      refine lv_iload_n hx hb dX2_inStreet_17 rfl (lv_at hl 3 rfl) ?_
      obtain ⟨r2, σ3, eσ3, hs⟩ := sp_bind hs
      refine sv_goI (σ' := σ3) (r := r2) hW F.2.2.2.1 (sv_runN (own := RX2) (host := "OpenWhileItRains") F hW (k_X7_at hB (sv_oA_of (sx_i 5 hB (by decide)) (sx_c5 hB)) eσ3 H.size) gX2_inStreet_X7_at_n48 rfl ⟨rfl, rfl⟩ (F.2.2.1.1 _ (List.mem_of_getElem? (i := 9) rfl)) (List.mem_of_getElem? (i := 4) rfl) (List.mem_of_getElem? (i := 3) rfl) 2 (by decide +kernel) (sv_room2 (by omega) (by omega)) rfl hl.1 rfl (Nat.le_of_ble_eq_true rfl) dX2_inStreet_18 ⟨Nat.zero_le _, Nat.zero_le _⟩) (fun H locs hW => ?_)
      refine lv_iload_n hx hb dX2_inStreet_21 rfl (lv_at hl 1 rfl) ?_
      refine lv_icmp_ne (tgt := 31) hx hb dX2_inStreet_22 (by decide) (fun c4 => ?_) (fun c4 => ?_)
      · replace hs := (sp_ite hs).2 c4
        refine lv_iconst (v := 0) hx hb dX2_inStreet_31 (by decide) ?_
        refine lv_ior hx hb dX2_inStreet_32 ?_
        refine lv_topi (fun v5 ev5 => ?_)
        replace hs := sp_let hs ev5
        refine lv_istore_n (lv' := [(2, .int v5), (0, .ref (h 1)), (1, .int x1), (3, .int x3)]) hx hb dX2_inStreet_33 rfl hl (by decide) rfl (fun ls hl => ?_)
        obtain ⟨v6, ev6⟩ : ∃ y : Int32, y = x3 + 1 := ⟨_, rfl⟩
        replace hs := sp_let hs ev6
        refine lv_iinc (v := v6) (lv' := [(3, .int v6), (2, .int v5), (0, .ref (h 1)), (1, .int x1)]) hx hb dX2_inStreet_34 hl (k := 3) rfl (by rw [ev6]; rfl) (by decide) rfl (fun ls hl => ?_)
        refine lv_goto (tgt := 4) hx hb dX2_inStreet_37 (by decide) ?_
        exact ih x1 v5 v6 σ3 H locs ls (lv_sub hl [2, 3, 1, 0] rfl) hW hs
      · replace hs := (sp_ite hs).1 c4
        refine lv_iconst (v := 1) hx hb dX2_inStreet_25 (by decide) ?_
        refine lv_iload_n hx hb dX2_inStreet_26 rfl (lv_at hl 3 rfl) ?_
        refine lv_ishl hx hb dX2_inStreet_27 ?_
        refine lv_goto (tgt := 32) hx hb dX2_inStreet_28 (by decide) ?_
        refine lv_ior hx hb dX2_inStreet_32 ?_
        refine lv_topi (fun v7 ev7 => ?_)
        replace hs := sp_let hs ev7
        refine lv_istore_n (lv' := [(2, .int v7), (0, .ref (h 1)), (1, .int x1), (3, .int x3)]) hx hb dX2_inStreet_33 rfl hl (by decide) rfl (fun ls hl => ?_)
        obtain ⟨v8, ev8⟩ : ∃ y : Int32, y = x3 + 1 := ⟨_, rfl⟩
        replace hs := sp_let hs ev8
        refine lv_iinc (v := v8) (lv' := [(3, .int v8), (2, .int v7), (0, .ref (h 1)), (1, .int x1)]) hx hb dX2_inStreet_34 hl (k := 3) rfl (by rw [ev8]; rfl) (by decide) rfl (fun ls hl => ?_)
        refine lv_goto (tgt := 4) hx hb dX2_inStreet_37 (by decide) ?_
        exact ih x1 v7 v8 σ3 H locs ls (lv_sub hl [2, 3, 1, 0] rfl) hW hs
set_option maxRecDepth 100000 in
set_option maxHeartbeats 4000000 in
theorem k_X2_inStreet {qK qV : Nat → Nat} {l : Launch} {D : va_G} {T : Nat → ClassId} {h : Nat → Nat} {θ : sv_T} {a1 : Int32} {σ : sv_S} {r : Int32} {σ' : sv_S} (hB : sx_base θ)  (hs : q_X2_inStreet θ a1 σ = some (r, σ')) : sv_Mi (sx_X qK qV) l D T (sx_tys T) h θ yX2_inStreet wsX2_inStreet (sv_rm 1 21) [.ref (h 1), .int a1] σ r σ' := by
  intro sz
  refine sv_enter (cc := cX2_inStreet) (maxL := 4) (ret := (some .int)) (Qc := fun A => va_Qi (fun r2 (_ : Unit) => r2 = r) (fun _ t => va_P D vwCl (sv_ws T h θ σ') t.heap) A) sx_XP (by decide) rfl (Nat.le_of_ble_eq_true rfl) ?_
  intro p e s m args below meth c A F hr hlk ls H hl hW
  have hx := F.1.1
  have hb := F.1.2.1
  have hts := F.1.2.2.2.2
  have hown := F.1.2.2.2.1
  have hK := F.2.1
  obtain ⟨locs, hlocs⟩ : ∃ z : List Loc, z = [] := ⟨_, rfl⟩
  rw [← hlocs] at hW ⊢
  have hl : lv_has ls 4 [(0, .ref (h 1)), (1, .int a1)] := hl
  unfold q_X2_inStreet at hs
  refine lv_iconst (v := 0) hx hb dX2_inStreet_0 (by decide) ?_
  refine lv_istore_n (lv' := [(2, .int (0 : Int32)), (0, .ref (h 1)), (1, .int a1)]) hx hb dX2_inStreet_1 rfl hl (by decide) rfl (fun ls hl => ?_)
  refine lv_iconst (v := 0) hx hb dX2_inStreet_2 (by decide) ?_
  refine lv_istore_n (lv' := [(3, .int (0 : Int32)), (2, .int (0 : Int32)), (0, .ref (h 1)), (1, .int a1)]) hx hb dX2_inStreet_3 rfl hl (by decide) rfl (fun ls hl => ?_)
  exact b_X2_inStreet_4 hB F hr hlk sv_N a1 (0 : Int32) (0 : Int32) σ H locs ls (lv_sub hl [2, 3, 1, 0] rfl) hW hs
set_option maxRecDepth 100000 in
set_option maxHeartbeats 4000000 in
theorem k_X2_rainAt {qK qV : Nat → Nat} {l : Launch} {D : va_G} {T : Nat → ClassId} {h : Nat → Nat} {θ : sv_T} {a1 : Int32} {a2 : Int32} {σ : sv_S} {r : Int32} {σ' : sv_S} (hB : sx_base θ)  (hs : q_X2_rainAt θ a1 a2 σ = some (r, σ')) : sv_Mi (sx_X qK qV) l D T (sx_tys T) h θ yX2_rainAt wsX2_rainAt (sv_rm 1 21) [.ref (h 1), .int a1, .int a2] σ r σ' := by
  intro sz
  refine sv_enter (cc := cX2_rainAt) (maxL := 3) (ret := (some .int)) (Qc := fun A => va_Qi (fun r2 (_ : Unit) => r2 = r) (fun _ t => va_P D vwCl (sv_ws T h θ σ') t.heap) A) sx_XP (by decide) rfl (Nat.le_of_ble_eq_true rfl) ?_
  intro p e s m args below meth c A F hr hlk ls H hl hW
  have hx := F.1.1
  have hb := F.1.2.1
  have hts := F.1.2.2.2.2
  have hown := F.1.2.2.2.1
  have hK := F.2.1
  obtain ⟨locs, hlocs⟩ : ∃ z : List Loc, z = [] := ⟨_, rfl⟩
  rw [← hlocs] at hW ⊢
  have hl : lv_has ls 3 [(0, .ref (h 1)), (1, .int a1), (2, .int a2)] := hl
  unfold q_X2_rainAt at hs
  refine lv_aload_n hx hb dX2_rainAt_0 rfl (lv_at hl 0 rfl) ?_
  refine sv_get (own := RX2) (C := RX2) (Tf := TX2) (N := 8) (index := 9) (κ := (3, 1)) (v := .ref (h 2)) hx hb hts hown hK hW (fun _ h => List.mem_cons_of_mem _ (List.mem_append_right _ h)) (sx_i 1 hB (by decide)) (sx_c1 hB) rfl 0 (by decide) rfl rfl (List.mem_of_getElem? (i := 1) rfl) dX2_rainAt_1 ?_
  refine lv_iload_n hx hb dX2_rainAt_4 rfl (lv_at hl 1 rfl) ?_
  refine lv_bipush (v := 24) hx hb dX2_rainAt_5 (by decide) ?_
  refine lv_imul hx hb dX2_rainAt_7 ?_
  refine lv_iload_n hx hb dX2_rainAt_8 rfl (lv_at hl 2 rfl) ?_
  refine lv_iadd hx hb dX2_rainAt_9 ?_
  obtain ⟨r1, σ2, eσ2, hs⟩ := sp_bind hs
  refine sv_goI (σ' := σ2) (r := r1) hW F.2.2.2.1 (sv_runN (own := RX2) (host := "OpenWhileItRains") F hW (k_X7_at hB (sv_oA_of (sx_i 2 hB (by decide)) (sx_c2 hB)) eσ2 H.size) gX2_rainAt_X7_at_n48 rfl ⟨rfl, rfl⟩ (F.2.2.1.1 _ (List.mem_of_getElem? (i := 9) rfl)) (List.mem_of_getElem? (i := 3) rfl) (List.mem_of_getElem? (i := 2) rfl) 2 (by decide +kernel) (sv_room2 (by omega) (by omega)) rfl hl.1 rfl (Nat.le_of_ble_eq_true rfl) dX2_rainAt_10 ⟨Nat.zero_le _, Nat.zero_le _⟩) (fun H locs hW => ?_)
  cases hs
  exact sv_iret hx hb hr rfl hlk hW dX2_rainAt_13
set_option maxRecDepth 100000 in
set_option maxHeartbeats 4000000 in
theorem b_X2_showerLength_31 {qK qV : Nat → Nat} {p : Program} {l : Launch} {e : Env} {s : State} {m : MethodId} {args : Array Value} {below : List Frame} {meth : Method} {c : Code} {D : va_G} {T : Nat → ClassId} {A : Nat → Prop} {h : Nat → Nat} {θ : sv_T} {a1 : Int32} {r : Int32} {σ' : sv_S} (hB : sx_base θ)  (F : sv_F (sx_X qK qV) p m c cX2_showerLength 5 s args wsX2_showerLength RX2 D (sx_tys T) A) (hr : meth.sig.returnType = (some .int)) (hlk : meth.locks = false) (k7 : Int32 → Int32 → Int32 → Int32 → sv_S → Option (Int32 × sv_S)) (hk7 : ∀ (x1 : Int32) (x2 : Int32) (x3 : Int32) (x4 : Int32) (σ : sv_S) (H : Heap) (locs : List Loc) (ls : Array Slot), lv_has ls 5 [(0, .ref (h 1)), (1, .int x1), (2, .int x2), (3, .int x3), (4, .int x4)] → sv_W D T A s h θ σ H locs → k7 x1 x2 x3 x4 σ = some (r, σ') → W p l e (sv_rm 2 43) s m args below meth c H locs 0 0 (MQ below (va_Qi (fun r2 (_ : Unit) => r2 = r) (fun _ t => va_P D vwCl (sv_ws T h θ σ') t.heap) A) args s 0 0 A) (F0 m 7 ls [])) : ∀ (x1 : Int32) (x2 : Int32) (x4 : Int32) (w0 : Int32) (σ : sv_S) (H : Heap) (locs : List Loc) (ls : Array Slot), lv_has ls 5 [(0, .ref (h 1)), (1, .int x1), (2, .int x2), (4, .int x4)] → sv_W D T A s h θ σ H locs → q_X2_showerLength_B31 θ a1 k7 x1 x2 x4 w0 σ = some (r, σ') → W p l e (sv_rm 2 43) s m args below meth c H locs 0 0 (MQ below (va_Qi (fun r2 (_ : Unit) => r2 = r) (fun _ t => va_P D vwCl (sv_ws T h θ σ') t.heap) A) args s 0 0 A) (F0 m 31 ls [.int w0]) := by
  have hx := F.1.1
  have hb := F.1.2.1
  have hts := F.1.2.2.2.2
  have hown := F.1.2.2.2.1
  have hK := F.2.1
  intro x1 x2 x4 w0 σ H locs ls hl hW hs
  unfold q_X2_showerLength_B31 at hs
  refine lv_istore_n (lv' := [(3, .int w0), (0, .ref (h 1)), (1, .int x1), (2, .int x2), (4, .int x4)]) hx hb dX2_showerLength_31 rfl hl (by decide) rfl (fun ls hl => ?_)
  refine lv_iload_n hx hb dX2_showerLength_32 rfl (lv_at hl 0 rfl) ?_
  refine lv_iload_n hx hb dX2_showerLength_33 rfl (lv_at hl 3 rfl) ?_
  refine lv_icmp_le (tgt := 41) hx hb dX2_showerLength_34 (by decide) (fun c5 => ?_) (fun c5 => ?_)
  · replace hs := (sp_ite hs).1 c5
    refine lv_iload_n hx hb dX2_showerLength_41 rfl (lv_at hl 3 rfl) ?_
    refine lv_istore_n (lv' := [(2, .int x2), (3, .int w0), (0, .ref (h 1)), (1, .int x1), (4, .int x4)]) hx hb dX2_showerLength_42 rfl hl (by decide) rfl (fun ls hl => ?_)
    obtain ⟨v6, ev6⟩ : ∃ y : Int32, y = x4 + 1 := ⟨_, rfl⟩
    replace hs := sp_let hs ev6
    refine lv_iinc (v := v6) (lv' := [(4, .int v6), (2, .int x2), (3, .int w0), (0, .ref (h 1)), (1, .int x1)]) hx hb dX2_showerLength_43 hl (k := 4) rfl (by rw [ev6]; rfl) (by decide) rfl (fun ls hl => ?_)
    refine lv_goto (tgt := 7) hx hb dX2_showerLength_46 (by decide) ?_
    exact hk7 x1 x2 w0 v6 σ H locs ls (lv_sub hl [3, 4, 1, 2, 0] rfl) hW hs
  · replace hs := (sp_ite hs).2 c5
    refine lv_iload_n hx hb dX2_showerLength_37 rfl (lv_at hl 0 rfl) ?_
    refine lv_goto (tgt := 42) hx hb dX2_showerLength_38 (by decide) ?_
    refine lv_istore_n (lv' := [(2, .int w0), (3, .int w0), (0, .ref (h 1)), (1, .int x1), (4, .int x4)]) hx hb dX2_showerLength_42 rfl hl (by decide) rfl (fun ls hl => ?_)
    obtain ⟨v7, ev7⟩ : ∃ y : Int32, y = x4 + 1 := ⟨_, rfl⟩
    replace hs := sp_let hs ev7
    refine lv_iinc (v := v7) (lv' := [(4, .int v7), (2, .int w0), (3, .int w0), (0, .ref (h 1)), (1, .int x1)]) hx hb dX2_showerLength_43 hl (k := 4) rfl (by rw [ev7]; rfl) (by decide) rfl (fun ls hl => ?_)
    refine lv_goto (tgt := 7) hx hb dX2_showerLength_46 (by decide) ?_
    exact hk7 x1 w0 w0 v7 σ H locs ls (lv_sub hl [3, 4, 1, 2, 0] rfl) hW hs
set_option maxRecDepth 100000 in
set_option maxHeartbeats 4000000 in
theorem b_X2_showerLength_7 {qK qV : Nat → Nat} {p : Program} {l : Launch} {e : Env} {s : State} {m : MethodId} {args : Array Value} {below : List Frame} {meth : Method} {c : Code} {D : va_G} {T : Nat → ClassId} {A : Nat → Prop} {h : Nat → Nat} {θ : sv_T} {a1 : Int32} {r : Int32} {σ' : sv_S} (hB : sx_base θ)  (F : sv_F (sx_X qK qV) p m c cX2_showerLength 5 s args wsX2_showerLength RX2 D (sx_tys T) A) (hr : meth.sig.returnType = (some .int)) (hlk : meth.locks = false)  : ∀ (n : Nat), ∀ (x1 : Int32) (x2 : Int32) (x3 : Int32) (x4 : Int32) (σ : sv_S) (H : Heap) (locs : List Loc) (ls : Array Slot), lv_has ls 5 [(0, .ref (h 1)), (1, .int x1), (2, .int x2), (3, .int x3), (4, .int x4)] → sv_W D T A s h θ σ H locs → q_X2_showerLength_B7 θ a1 n x1 x2 x3 x4 σ = some (r, σ') → W p l e (sv_rm 2 43) s m args below meth c H locs 0 0 (MQ below (va_Qi (fun r2 (_ : Unit) => r2 = r) (fun _ t => va_P D vwCl (sv_ws T h θ σ') t.heap) A) args s 0 0 A) (F0 m 7 ls []) := by
  have hx := F.1.1
  have hb := F.1.2.1
  have hts := F.1.2.2.2.2
  have hown := F.1.2.2.2.1
  have hK := F.2.1
  intro n
  induction n with
  | zero =>
    intro x1 x2 x3 x4 σ H locs ls hl hW hs
    have hs : (none : Option (Int32 × sv_S)) = some (r, σ') := hs
    cases hs
  | succ n ih =>
    intro x1 x2 x3 x4 σ H locs ls hl hW hs
    have hs : q_X2_showerLength_B7_b θ a1 (q_X2_showerLength_B7 θ a1 n) x1 x2 x3 x4 σ = some (r, σ') := hs
    unfold q_X2_showerLength_B7_b at hs
    refine lv_iload hx hb dX2_showerLength_7 (lv_at hl 4 rfl) ?_
    refine lv_bipush (v := 24) hx hb dX2_showerLength_9 (by decide) ?_
    refine lv_icmp_ge (tgt := 49) hx hb dX2_showerLength_11 (by decide) (fun c1 => ?_) (fun c1 => ?_)
    · replace hs := (sp_ite hs).1 c1
      refine lv_iload_n hx hb dX2_showerLength_49 rfl (lv_at hl 2 rfl) ?_
      cases hs
      exact sv_iret hx hb hr rfl hlk hW dX2_showerLength_50
    · replace hs := (sp_ite hs).2 c1
      refine lv_aload_n hx hb dX2_showerLength_14 rfl (lv_at hl 0 rfl) ?_
      refine lv_iload_n hx hb dX2_showerLength_15 rfl (lv_at hl 1 rfl) ?_
      refine lv_iload hx hb dX2_showerLength_16 (lv_at hl 4 rfl) ?_
      obtain ⟨r2, σ3, eσ3, hs⟩ := sp_bind hs
      refine sv_goI (σ' := σ3) (r := r2) hW F.2.2.2.1 (sv_runV (C := RX2) F hW (k_X2_rainAt hB eσ3 H.size) gX2_showerLength_X2_rainAt rfl ⟨rfl, rfl⟩ 2 (by decide +kernel) (sv_room2 (by omega) (by omega)) (sx_i 1 hB (by decide)) (sx_c1 hB) rfl rfl hl.1 rfl (Nat.le_of_ble_eq_true rfl) dX2_showerLength_18 ⟨Nat.zero_le _, Nat.zero_le _⟩) (fun H locs hW => ?_)
      refine lv_if_le (tgt := 30) hx hb dX2_showerLength_21 (by decide) (fun c4 => ?_) (fun c4 => ?_)
      · replace hs := (sp_ite hs).1 c4
        refine lv_iconst (v := 0) hx hb dX2_showerLength_30 (by decide) ?_
        exact b_X2_showerLength_31 hB F hr hlk _ ih x1 x2 x4 (0 : Int32) σ3 H locs ls (lv_sub hl [0, 1, 2, 4] rfl) hW hs
      · replace hs := (sp_ite hs).2 c4
        refine lv_iload_n hx hb dX2_showerLength_24 rfl (lv_at hl 3 rfl) ?_
        refine lv_iconst (v := 1) hx hb dX2_showerLength_25 (by decide) ?_
        refine lv_iadd hx hb dX2_showerLength_26 ?_
        refine lv_goto (tgt := 31) hx hb dX2_showerLength_27 (by decide) ?_
        exact b_X2_showerLength_31 hB F hr hlk _ ih x1 x2 x4 (x3 + (1 : Int32)) σ3 H locs ls (lv_sub hl [0, 1, 2, 4] rfl) hW hs
set_option maxRecDepth 100000 in
set_option maxHeartbeats 4000000 in
theorem k_X2_showerLength {qK qV : Nat → Nat} {l : Launch} {D : va_G} {T : Nat → ClassId} {h : Nat → Nat} {θ : sv_T} {a1 : Int32} {σ : sv_S} {r : Int32} {σ' : sv_S} (hB : sx_base θ)  (hs : q_X2_showerLength θ a1 σ = some (r, σ')) : sv_Mi (sx_X qK qV) l D T (sx_tys T) h θ yX2_showerLength wsX2_showerLength (sv_rm 2 43) [.ref (h 1), .int a1] σ r σ' := by
  intro sz
  refine sv_enter (cc := cX2_showerLength) (maxL := 5) (ret := (some .int)) (Qc := fun A => va_Qi (fun r2 (_ : Unit) => r2 = r) (fun _ t => va_P D vwCl (sv_ws T h θ σ') t.heap) A) sx_XP (by decide) rfl (Nat.le_of_ble_eq_true rfl) ?_
  intro p e s m args below meth c A F hr hlk ls H hl hW
  have hx := F.1.1
  have hb := F.1.2.1
  have hts := F.1.2.2.2.2
  have hown := F.1.2.2.2.1
  have hK := F.2.1
  obtain ⟨locs, hlocs⟩ : ∃ z : List Loc, z = [] := ⟨_, rfl⟩
  rw [← hlocs] at hW ⊢
  have hl : lv_has ls 5 [(0, .ref (h 1)), (1, .int a1)] := hl
  unfold q_X2_showerLength at hs
  refine lv_iconst (v := 0) hx hb dX2_showerLength_0 (by decide) ?_
  refine lv_istore_n (lv' := [(2, .int (0 : Int32)), (0, .ref (h 1)), (1, .int a1)]) hx hb dX2_showerLength_1 rfl hl (by decide) rfl (fun ls hl => ?_)
  refine lv_iconst (v := 0) hx hb dX2_showerLength_2 (by decide) ?_
  refine lv_istore_n (lv' := [(3, .int (0 : Int32)), (2, .int (0 : Int32)), (0, .ref (h 1)), (1, .int a1)]) hx hb dX2_showerLength_3 rfl hl (by decide) rfl (fun ls hl => ?_)
  refine lv_iconst (v := 0) hx hb dX2_showerLength_4 (by decide) ?_
  refine lv_istore (lv' := [(4, .int (0 : Int32)), (3, .int (0 : Int32)), (2, .int (0 : Int32)), (0, .ref (h 1)), (1, .int a1)]) hx hb dX2_showerLength_5 hl (by decide) rfl (fun ls hl => ?_)
  exact b_X2_showerLength_7 hB F hr hlk sv_N a1 (0 : Int32) (0 : Int32) (0 : Int32) σ H locs ls (lv_sub hl [3, 4, 2, 1, 0] rfl) hW hs
set_option maxRecDepth 100000 in
set_option maxHeartbeats 4000000 in
theorem b_X2_showerStart_35 {qK qV : Nat → Nat} {p : Program} {l : Launch} {e : Env} {s : State} {m : MethodId} {args : Array Value} {below : List Frame} {meth : Method} {c : Code} {D : va_G} {T : Nat → ClassId} {A : Nat → Prop} {h : Nat → Nat} {θ : sv_T} {a1 : Int32} {r : Int32} {σ' : sv_S} (hB : sx_base θ)  (F : sv_F (sx_X qK qV) p m c cX2_showerStart 5 s args wsX2_showerStart RX2 D (sx_tys T) A) (hr : meth.sig.returnType = (some .int)) (hlk : meth.locks = false) (k11 : Int32 → Int32 → Int32 → Int32 → sv_S → Option (Int32 × sv_S)) (hk11 : ∀ (x1 : Int32) (x2 : Int32) (x3 : Int32) (x4 : Int32) (σ : sv_S) (H : Heap) (locs : List Loc) (ls : Array Slot), lv_has ls 5 [(0, .ref (h 1)), (1, .int x1), (2, .int x2), (3, .int x3), (4, .int x4)] → sv_W D T A s h θ σ H locs → k11 x1 x2 x3 x4 σ = some (r, σ') → W p l e (sv_rm 3 67) s m args below meth c H locs 0 0 (MQ below (va_Qi (fun r2 (_ : Unit) => r2 = r) (fun _ t => va_P D vwCl (sv_ws T h θ σ') t.heap) A) args s 0 0 A) (F0 m 11 ls [])) : ∀ (x1 : Int32) (x2 : Int32) (x4 : Int32) (w0 : Int32) (σ : sv_S) (H : Heap) (locs : List Loc) (ls : Array Slot), lv_has ls 5 [(0, .ref (h 1)), (1, .int x1), (2, .int x2), (4, .int x4)] → sv_W D T A s h θ σ H locs → q_X2_showerStart_B35 θ a1 k11 x1 x2 x4 w0 σ = some (r, σ') → W p l e (sv_rm 3 67) s m args below meth c H locs 0 0 (MQ below (va_Qi (fun r2 (_ : Unit) => r2 = r) (fun _ t => va_P D vwCl (sv_ws T h θ σ') t.heap) A) args s 0 0 A) (F0 m 35 ls [.int w0]) := by
  have hx := F.1.1
  have hb := F.1.2.1
  have hts := F.1.2.2.2.2
  have hown := F.1.2.2.2.1
  have hK := F.2.1
  intro x1 x2 x4 w0 σ H locs ls hl hW hs
  unfold q_X2_showerStart_B35 at hs
  refine lv_istore_n (lv' := [(3, .int w0), (0, .ref (h 1)), (1, .int x1), (2, .int x2), (4, .int x4)]) hx hb dX2_showerStart_35 rfl hl (by decide) rfl (fun ls hl => ?_)
  refine lv_iload_n hx hb dX2_showerStart_36 rfl (lv_at hl 0 rfl) ?_
  refine lv_if_le (tgt := 52) hx hb dX2_showerStart_37 (by decide) (fun c7 => ?_) (fun c7 => ?_)
  · replace hs := (sp_ite hs).1 c7
    obtain ⟨v8, ev8⟩ : ∃ y : Int32, y = x4 + 1 := ⟨_, rfl⟩
    replace hs := sp_let hs ev8
    refine lv_iinc (v := v8) (lv' := [(4, .int v8), (3, .int w0), (0, .ref (h 1)), (1, .int x1), (2, .int x2)]) hx hb dX2_showerStart_52 hl (k := 4) rfl (by rw [ev8]; rfl) (by decide) rfl (fun ls hl => ?_)
    refine lv_goto (tgt := 11) hx hb dX2_showerStart_55 (by decide) ?_
    exact hk11 x1 x2 w0 v8 σ H locs ls (lv_sub hl [2, 3, 4, 1, 0] rfl) hW hs
  · replace hs := (sp_ite hs).2 c7
    refine lv_iload_n hx hb dX2_showerStart_40 rfl (lv_at hl 0 rfl) ?_
    refine lv_iload_n hx hb dX2_showerStart_41 rfl (lv_at hl 3 rfl) ?_
    refine lv_icmp_ne (tgt := 52) hx hb dX2_showerStart_42 (by decide) (fun c9 => ?_) (fun c9 => ?_)
    · replace hs := (sp_ite hs).2 c9
      obtain ⟨v10, ev10⟩ : ∃ y : Int32, y = x4 + 1 := ⟨_, rfl⟩
      replace hs := sp_let hs ev10
      refine lv_iinc (v := v10) (lv' := [(4, .int v10), (3, .int w0), (0, .ref (h 1)), (1, .int x1), (2, .int x2)]) hx hb dX2_showerStart_52 hl (k := 4) rfl (by rw [ev10]; rfl) (by decide) rfl (fun ls hl => ?_)
      refine lv_goto (tgt := 11) hx hb dX2_showerStart_55 (by decide) ?_
      exact hk11 x1 x2 w0 v10 σ H locs ls (lv_sub hl [2, 3, 4, 1, 0] rfl) hW hs
    · replace hs := (sp_ite hs).1 c9
      refine lv_iload hx hb dX2_showerStart_45 (lv_at hl 4 rfl) ?_
      refine lv_iload_n hx hb dX2_showerStart_47 rfl (lv_at hl 3 rfl) ?_
      refine lv_isub hx hb dX2_showerStart_48 ?_
      refine lv_iconst (v := 1) hx hb dX2_showerStart_49 (by decide) ?_
      refine lv_iadd hx hb dX2_showerStart_50 ?_
      cases hs
      exact sv_iret hx hb hr rfl hlk hW dX2_showerStart_51
set_option maxRecDepth 100000 in
set_option maxHeartbeats 4000000 in
theorem b_X2_showerStart_11 {qK qV : Nat → Nat} {p : Program} {l : Launch} {e : Env} {s : State} {m : MethodId} {args : Array Value} {below : List Frame} {meth : Method} {c : Code} {D : va_G} {T : Nat → ClassId} {A : Nat → Prop} {h : Nat → Nat} {θ : sv_T} {a1 : Int32} {r : Int32} {σ' : sv_S} (hB : sx_base θ)  (F : sv_F (sx_X qK qV) p m c cX2_showerStart 5 s args wsX2_showerStart RX2 D (sx_tys T) A) (hr : meth.sig.returnType = (some .int)) (hlk : meth.locks = false)  : ∀ (n : Nat), ∀ (x1 : Int32) (x2 : Int32) (x3 : Int32) (x4 : Int32) (σ : sv_S) (H : Heap) (locs : List Loc) (ls : Array Slot), lv_has ls 5 [(0, .ref (h 1)), (1, .int x1), (2, .int x2), (3, .int x3), (4, .int x4)] → sv_W D T A s h θ σ H locs → q_X2_showerStart_B11 θ a1 n x1 x2 x3 x4 σ = some (r, σ') → W p l e (sv_rm 3 67) s m args below meth c H locs 0 0 (MQ below (va_Qi (fun r2 (_ : Unit) => r2 = r) (fun _ t => va_P D vwCl (sv_ws T h θ σ') t.heap) A) args s 0 0 A) (F0 m 11 ls []) := by
  have hx := F.1.1
  have hb := F.1.2.1
  have hts := F.1.2.2.2.2
  have hown := F.1.2.2.2.1
  have hK := F.2.1
  intro n
  induction n with
  | zero =>
    intro x1 x2 x3 x4 σ H locs ls hl hW hs
    have hs : (none : Option (Int32 × sv_S)) = some (r, σ') := hs
    cases hs
  | succ n ih =>
    intro x1 x2 x3 x4 σ H locs ls hl hW hs
    have hs : q_X2_showerStart_B11_b θ a1 (q_X2_showerStart_B11 θ a1 n) x1 x2 x3 x4 σ = some (r, σ') := hs
    unfold q_X2_showerStart_B11_b at hs
    refine lv_iload hx hb dX2_showerStart_11 (lv_at hl 4 rfl) ?_
    refine lv_bipush (v := 24) hx hb dX2_showerStart_13 (by decide) ?_
    refine lv_icmp_ge (tgt := 58) hx hb dX2_showerStart_15 (by decide) (fun c3 => ?_) (fun c3 => ?_)
    · replace hs := (sp_ite hs).1 c3
      refine lv_iconst (v := -1) hx hb dX2_showerStart_58 (by decide) ?_
      cases hs
      exact sv_iret hx hb hr rfl hlk hW dX2_showerStart_59
    · replace hs := (sp_ite hs).2 c3
      refine lv_aload_n hx hb dX2_showerStart_18 rfl (lv_at hl 0 rfl) ?_
      refine lv_iload_n hx hb dX2_showerStart_19 rfl (lv_at hl 1 rfl) ?_
      refine lv_iload hx hb dX2_showerStart_20 (lv_at hl 4 rfl) ?_
      obtain ⟨r4, σ5, eσ5, hs⟩ := sp_bind hs
      refine sv_goI (σ' := σ5) (r := r4) hW F.2.2.2.1 (sv_runV (C := RX2) F hW (k_X2_rainAt hB eσ5 H.size) gX2_showerStart_X2_rainAt rfl ⟨rfl, rfl⟩ 2 (by decide +kernel) (sv_room2 (by omega) (by omega)) (sx_i 1 hB (by decide)) (sx_c1 hB) rfl rfl hl.1 rfl (Nat.le_of_ble_eq_true rfl) dX2_showerStart_22 ⟨Nat.zero_le _, Nat.zero_le _⟩) (fun H locs hW => ?_)
      refine lv_if_le (tgt := 34) hx hb dX2_showerStart_25 (by decide) (fun c6 => ?_) (fun c6 => ?_)
      · replace hs := (sp_ite hs).1 c6
        refine lv_iconst (v := 0) hx hb dX2_showerStart_34 (by decide) ?_
        exact b_X2_showerStart_35 hB F hr hlk _ ih x1 x2 x4 (0 : Int32) σ5 H locs ls (lv_sub hl [0, 1, 2, 4] rfl) hW hs
      · replace hs := (sp_ite hs).2 c6
        refine lv_iload_n hx hb dX2_showerStart_28 rfl (lv_at hl 3 rfl) ?_
        refine lv_iconst (v := 1) hx hb dX2_showerStart_29 (by decide) ?_
        refine lv_iadd hx hb dX2_showerStart_30 ?_
        refine lv_goto (tgt := 35) hx hb dX2_showerStart_31 (by decide) ?_
        exact b_X2_showerStart_35 hB F hr hlk _ ih x1 x2 x4 (x3 + (1 : Int32)) σ5 H locs ls (lv_sub hl [0, 1, 2, 4] rfl) hW hs
set_option maxRecDepth 100000 in
set_option maxHeartbeats 4000000 in
theorem k_X2_showerStart {qK qV : Nat → Nat} {l : Launch} {D : va_G} {T : Nat → ClassId} {h : Nat → Nat} {θ : sv_T} {a1 : Int32} {σ : sv_S} {r : Int32} {σ' : sv_S} (hB : sx_base θ)  (hs : q_X2_showerStart θ a1 σ = some (r, σ')) : sv_Mi (sx_X qK qV) l D T (sx_tys T) h θ yX2_showerStart wsX2_showerStart (sv_rm 3 67) [.ref (h 1), .int a1] σ r σ' := by
  intro sz
  refine sv_enter (cc := cX2_showerStart) (maxL := 5) (ret := (some .int)) (Qc := fun A => va_Qi (fun r2 (_ : Unit) => r2 = r) (fun _ t => va_P D vwCl (sv_ws T h θ σ') t.heap) A) sx_XP (by decide) rfl (Nat.le_of_ble_eq_true rfl) ?_
  intro p e s m args below meth c A F hr hlk ls H hl hW
  have hx := F.1.1
  have hb := F.1.2.1
  have hts := F.1.2.2.2.2
  have hown := F.1.2.2.2.1
  have hK := F.2.1
  obtain ⟨locs, hlocs⟩ : ∃ z : List Loc, z = [] := ⟨_, rfl⟩
  rw [← hlocs] at hW ⊢
  have hl : lv_has ls 5 [(0, .ref (h 1)), (1, .int a1)] := hl
  unfold q_X2_showerStart at hs
  refine lv_aload_n hx hb dX2_showerStart_0 rfl (lv_at hl 0 rfl) ?_
  refine lv_iload_n hx hb dX2_showerStart_1 rfl (lv_at hl 1 rfl) ?_
  obtain ⟨r1, σ2, eσ2, hs⟩ := sp_bind hs
  refine sv_goI (σ' := σ2) (r := r1) hW F.2.2.2.1 (sv_runV (C := RX2) F hW (k_X2_showerLength hB eσ2 H.size) gX2_showerStart_X2_showerLength rfl ⟨rfl, rfl⟩ 1 (by decide +kernel) (sv_room2 (by omega) (by omega)) (sx_i 1 hB (by decide)) (sx_c1 hB) rfl rfl hl.1 rfl (Nat.le_of_ble_eq_true rfl) dX2_showerStart_2 ⟨Nat.zero_le _, Nat.zero_le _⟩) (fun H locs hW => ?_)
  refine lv_istore_n (lv' := [(2, .int r1), (0, .ref (h 1)), (1, .int a1)]) hx hb dX2_showerStart_5 rfl hl (by decide) rfl (fun ls hl => ?_)
  refine lv_iconst (v := 0) hx hb dX2_showerStart_6 (by decide) ?_
  refine lv_istore_n (lv' := [(3, .int (0 : Int32)), (2, .int r1), (0, .ref (h 1)), (1, .int a1)]) hx hb dX2_showerStart_7 rfl hl (by decide) rfl (fun ls hl => ?_)
  refine lv_iconst (v := 0) hx hb dX2_showerStart_8 (by decide) ?_
  refine lv_istore (lv' := [(4, .int (0 : Int32)), (3, .int (0 : Int32)), (2, .int r1), (0, .ref (h 1)), (1, .int a1)]) hx hb dX2_showerStart_9 hl (by decide) rfl (fun ls hl => ?_)
  exact b_X2_showerStart_11 hB F hr hlk sv_N a1 r1 (0 : Int32) (0 : Int32) σ2 H locs ls (lv_sub hl [3, 4, 2, 1, 0] rfl) hW hs

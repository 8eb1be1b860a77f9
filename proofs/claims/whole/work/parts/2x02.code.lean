set_option maxRecDepth 100000 in
set_option maxHeartbeats 4000000 in
theorem b_X2_wetHours_4 {qK qV : Nat → Nat} {p : Program} {l : Launch} {e : Env} {s : State} {m : MethodId} {args : Array Value} {below : List Frame} {meth : Method} {c : Code} {D : va_G} {T : Nat → ClassId} {A : Nat → Prop} {h : Nat → Nat} {θ : sv_T} {a1 : Int32} {r : Int32} {σ' : sv_S} (hB : sx_base θ)  (F : sv_F (sx_X qK qV) p m c cX2_wetHours 4 s args wsX2_wetHours RX2 D (sx_tys T) A) (hr : meth.sig.returnType = (some .int)) (hlk : meth.locks = false)  : ∀ (n : Nat), ∀ (x1 : Int32) (x2 : Int32) (x3 : Int32) (σ : sv_S) (H : Heap) (locs : List Loc) (ls : Array Slot), lv_has ls 4 [(0, .ref (h 1)), (1, .int x1), (2, .int x2), (3, .int x3)] → sv_W D T A s h θ σ H locs → q_X2_wetHours_B4 θ a1 n x1 x2 x3 σ = some (r, σ') → W p l e (sv_rm 2 43) s m args below meth c H locs 0 0 (MQ below (va_Qi (fun r2 (_ : Unit) => r2 = r) (fun _ t => va_P D vwCl (sv_ws T h θ σ') t.heap) A) args s 0 0 A) (F0 m 4 ls []) := by
  have hx := F.1.1
  have hb := F.1.2.1
  have hts := F.1.2.2.2.2
  have hown := F.1.2.2.2.1
  have hK := F.2.1
  intro n
  induction n with
  | zero =>
    intro x1 x2 x3 σ H locs ls hl hW hs
    have hs : (none : Option (Int32 × sv_S)) = some (r, σ') := hs
    cases hs
  | succ n ih =>
    intro x1 x2 x3 σ H locs ls hl hW hs
    have hs : q_X2_wetHours_B4_b θ a1 (q_X2_wetHours_B4 θ a1 n) x1 x2 x3 σ = some (r, σ') := hs
    unfold q_X2_wetHours_B4_b at hs
    refine lv_iload_n hx hb dX2_wetHours_4 rfl (lv_at hl 3 rfl) ?_
    refine lv_bipush (v := 24) hx hb dX2_wetHours_5 (by decide) ?_
    refine lv_icmp_ge (tgt := 33) hx hb dX2_wetHours_7 (by decide) (fun c1 => ?_) (fun c1 => ?_)
    · replace hs := (sp_ite hs).1 c1
      refine lv_iload_n hx hb dX2_wetHours_33 rfl (lv_at hl 2 rfl) ?_
      cases hs
      exact sv_iret hx hb hr rfl hlk hW dX2_wetHours_34
    · replace hs := (sp_ite hs).2 c1
      refine lv_iload_n hx hb dX2_wetHours_10 rfl (lv_at hl 2 rfl) ?_
      refine lv_aload_n hx hb dX2_wetHours_11 rfl (lv_at hl 0 rfl) ?_
      refine lv_iload_n hx hb dX2_wetHours_12 rfl (lv_at hl 1 rfl) ?_
      refine lv_iload_n hx hb dX2_wetHours_13 rfl (lv_at hl 3 rfl) ?_
      obtain ⟨r2, σ3, eσ3, hs⟩ := sp_bind hs
      refine sv_goI (σ' := σ3) (r := r2) hW F.2.2.2.1 (sv_runV (C := RX2) F hW (k_X2_rainAt hB eσ3 H.size) gX2_wetHours_X2_rainAt rfl ⟨rfl, rfl⟩ 2 (by decide +kernel) (sv_room2 (by omega) (by omega)) (sx_i 1 hB (by decide)) (sx_c1 hB) rfl rfl hl.1 rfl (Nat.le_of_ble_eq_true rfl) dX2_wetHours_14 ⟨Nat.zero_le _, Nat.zero_le _⟩) (fun H locs hW => ?_)
      refine lv_if_le (tgt := 24) hx hb dX2_wetHours_17 (by decide) (fun c4 => ?_) (fun c4 => ?_)
      · replace hs := (sp_ite hs).1 c4
        refine lv_iconst (v := 0) hx hb dX2_wetHours_24 (by decide) ?_
        refine lv_iadd hx hb dX2_wetHours_25 ?_
        refine lv_topi (fun v5 ev5 => ?_)
        replace hs := sp_let hs ev5
        refine lv_istore_n (lv' := [(2, .int v5), (0, .ref (h 1)), (1, .int x1), (3, .int x3)]) hx hb dX2_wetHours_26 rfl hl (by decide) rfl (fun ls hl => ?_)
        obtain ⟨v6, ev6⟩ : ∃ y : Int32, y = x3 + 1 := ⟨_, rfl⟩
        replace hs := sp_let hs ev6
        refine lv_iinc (v := v6) (lv' := [(3, .int v6), (2, .int v5), (0, .ref (h 1)), (1, .int x1)]) hx hb dX2_wetHours_27 hl (k := 3) rfl (by rw [ev6]; rfl) (by decide) rfl (fun ls hl => ?_)
        refine lv_goto (tgt := 4) hx hb dX2_wetHours_30 (by decide) ?_
        exact ih x1 v5 v6 σ3 H locs ls (lv_sub hl [2, 3, 1, 0] rfl) hW hs
      · replace hs := (sp_ite hs).2 c4
        refine lv_iconst (v := 1) hx hb dX2_wetHours_20 (by decide) ?_
        refine lv_goto (tgt := 25) hx hb dX2_wetHours_21 (by decide) ?_
        refine lv_iadd hx hb dX2_wetHours_25 ?_
        refine lv_topi (fun v7 ev7 => ?_)
        replace hs := sp_let hs ev7
        refine lv_istore_n (lv' := [(2, .int v7), (0, .ref (h 1)), (1, .int x1), (3, .int x3)]) hx hb dX2_wetHours_26 rfl hl (by decide) rfl (fun ls hl => ?_)
        obtain ⟨v8, ev8⟩ : ∃ y : Int32, y = x3 + 1 := ⟨_, rfl⟩
        replace hs := sp_let hs ev8
        refine lv_iinc (v := v8) (lv' := [(3, .int v8), (2, .int v7), (0, .ref (h 1)), (1, .int x1)]) hx hb dX2_wetHours_27 hl (k := 3) rfl (by rw [ev8]; rfl) (by decide) rfl (fun ls hl => ?_)
        refine lv_goto (tgt := 4) hx hb dX2_wetHours_30 (by decide) ?_
        exact ih x1 v7 v8 σ3 H locs ls (lv_sub hl [2, 3, 1, 0] rfl) hW hs
set_option maxRecDepth 100000 in
set_option maxHeartbeats 4000000 in
theorem k_X2_wetHours {qK qV : Nat → Nat} {l : Launch} {D : va_G} {T : Nat → ClassId} {h : Nat → Nat} {θ : sv_T} {a1 : Int32} {σ : sv_S} {r : Int32} {σ' : sv_S} (hB : sx_base θ)  (hs : q_X2_wetHours θ a1 σ = some (r, σ')) : sv_Mi (sx_X qK qV) l D T (sx_tys T) h θ yX2_wetHours wsX2_wetHours (sv_rm 2 43) [.ref (h 1), .int a1] σ r σ' := by
  intro sz
  refine sv_enter (cc := cX2_wetHours) (maxL := 4) (ret := (some .int)) (Qc := fun A => va_Qi (fun r2 (_ : Unit) => r2 = r) (fun _ t => va_P D vwCl (sv_ws T h θ σ') t.heap) A) sx_XP (by decide) rfl (Nat.le_of_ble_eq_true rfl) ?_
  intro p e s m args below meth c A F hr hlk ls H hl hW
  have hx := F.1.1
  have hb := F.1.2.1
  have hts := F.1.2.2.2.2
  have hown := F.1.2.2.2.1
  have hK := F.2.1
  obtain ⟨locs, hlocs⟩ : ∃ z : List Loc, z = [] := ⟨_, rfl⟩
  rw [← hlocs] at hW ⊢
  have hl : lv_has ls 4 [(0, .ref (h 1)), (1, .int a1)] := hl
  unfold q_X2_wetHours at hs
  refine lv_iconst (v := 0) hx hb dX2_wetHours_0 (by decide) ?_
  refine lv_istore_n (lv' := [(2, .int (0 : Int32)), (0, .ref (h 1)), (1, .int a1)]) hx hb dX2_wetHours_1 rfl hl (by decide) rfl (fun ls hl => ?_)
  refine lv_iconst (v := 0) hx hb dX2_wetHours_2 (by decide) ?_
  refine lv_istore_n (lv' := [(3, .int (0 : Int32)), (2, .int (0 : Int32)), (0, .ref (h 1)), (1, .int a1)]) hx hb dX2_wetHours_3 rfl hl (by decide) rfl (fun ls hl => ?_)
  exact b_X2_wetHours_4 hB F hr hlk sv_N a1 (0 : Int32) (0 : Int32) σ H locs ls (lv_sub hl [2, 3, 1, 0] rfl) hW hs
set_option maxRecDepth 100000 in
set_option maxHeartbeats 4000000 in
theorem b_X2_allRain_4 {qK qV : Nat → Nat} {p : Program} {l : Launch} {e : Env} {s : State} {m : MethodId} {args : Array Value} {below : List Frame} {meth : Method} {c : Code} {D : va_G} {T : Nat → ClassId} {A : Nat → Prop} {h : Nat → Nat} {θ : sv_T} {a1 : Int32} {r : Int32} {σ' : sv_S} (hB : sx_base θ)  (F : sv_F (sx_X qK qV) p m c cX2_allRain 4 s args wsX2_allRain RX2 D (sx_tys T) A) (hr : meth.sig.returnType = (some .int)) (hlk : meth.locks = false)  : ∀ (n : Nat), ∀ (x1 : Int32) (x2 : Int32) (x3 : Int32) (σ : sv_S) (H : Heap) (locs : List Loc) (ls : Array Slot), lv_has ls 4 [(0, .ref (h 1)), (1, .int x1), (2, .int x2), (3, .int x3)] → sv_W D T A s h θ σ H locs → q_X2_allRain_B4 θ a1 n x1 x2 x3 σ = some (r, σ') → W p l e (sv_rm 2 43) s m args below meth c H locs 0 0 (MQ below (va_Qi (fun r2 (_ : Unit) => r2 = r) (fun _ t => va_P D vwCl (sv_ws T h θ σ') t.heap) A) args s 0 0 A) (F0 m 4 ls []) := by
  have hx := F.1.1
  have hb := F.1.2.1
  have hts := F.1.2.2.2.2
  have hown := F.1.2.2.2.1
  have hK := F.2.1
  intro n
  induction n with
  | zero =>
    intro x1 x2 x3 σ H locs ls hl hW hs
    have hs : (none : Option (Int32 × sv_S)) = some (r, σ') := hs
    cases hs
  | succ n ih =>
    intro x1 x2 x3 σ H locs ls hl hW hs
    have hs : q_X2_allRain_B4_b θ a1 (q_X2_allRain_B4 θ a1 n) x1 x2 x3 σ = some (r, σ') := hs
    unfold q_X2_allRain_B4_b at hs
    refine lv_iload_n hx hb dX2_allRain_4 rfl (lv_at hl 3 rfl) ?_
    refine lv_bipush (v := 24) hx hb dX2_allRain_5 (by decide) ?_
    refine lv_icmp_ge (tgt := 25) hx hb dX2_allRain_7 (by decide) (fun c1 => ?_) (fun c1 => ?_)
    · replace hs := (sp_ite hs).1 c1
      refine lv_iload_n hx hb dX2_allRain_25 rfl (lv_at hl 2 rfl) ?_
      cases hs
      exact sv_iret hx hb hr rfl hlk hW dX2_allRain_26
    · replace hs := (sp_ite hs).2 c1
      refine lv_iload_n hx hb dX2_allRain_10 rfl (lv_at hl 2 rfl) ?_
      refine lv_aload_n hx hb dX2_allRain_11 rfl (lv_at hl 0 rfl) ?_
      refine lv_iload_n hx hb dX2_allRain_12 rfl (lv_at hl 1 rfl) ?_
      refine lv_iload_n hx hb dX2_allRain_13 rfl (lv_at hl 3 rfl) ?_
      obtain ⟨r2, σ3, eσ3, hs⟩ := sp_bind hs
      refine sv_goI (σ' := σ3) (r := r2) hW F.2.2.2.1 (sv_runV (C := RX2) F hW (k_X2_rainAt hB eσ3 H.size) gX2_allRain_X2_rainAt rfl ⟨rfl, rfl⟩ 2 (by decide +kernel) (sv_room2 (by omega) (by omega)) (sx_i 1 hB (by decide)) (sx_c1 hB) rfl rfl hl.1 rfl (Nat.le_of_ble_eq_true rfl) dX2_allRain_14 ⟨Nat.zero_le _, Nat.zero_le _⟩) (fun H locs hW => ?_)
      refine lv_iadd hx hb dX2_allRain_17 ?_
      refine lv_topi (fun v4 ev4 => ?_)
      replace hs := sp_let hs ev4
      refine lv_istore_n (lv' := [(2, .int v4), (0, .ref (h 1)), (1, .int x1), (3, .int x3)]) hx hb dX2_allRain_18 rfl hl (by decide) rfl (fun ls hl => ?_)
      obtain ⟨v5, ev5⟩ : ∃ y : Int32, y = x3 + 1 := ⟨_, rfl⟩
      replace hs := sp_let hs ev5
      refine lv_iinc (v := v5) (lv' := [(3, .int v5), (2, .int v4), (0, .ref (h 1)), (1, .int x1)]) hx hb dX2_allRain_19 hl (k := 3) rfl (by rw [ev5]; rfl) (by decide) rfl (fun ls hl => ?_)
      refine lv_goto (tgt := 4) hx hb dX2_allRain_22 (by decide) ?_
      exact ih x1 v4 v5 σ3 H locs ls (lv_sub hl [2, 3, 1, 0] rfl) hW hs
set_option maxRecDepth 100000 in
set_option maxHeartbeats 4000000 in
theorem k_X2_allRain {qK qV : Nat → Nat} {l : Launch} {D : va_G} {T : Nat → ClassId} {h : Nat → Nat} {θ : sv_T} {a1 : Int32} {σ : sv_S} {r : Int32} {σ' : sv_S} (hB : sx_base θ)  (hs : q_X2_allRain θ a1 σ = some (r, σ')) : sv_Mi (sx_X qK qV) l D T (sx_tys T) h θ yX2_allRain wsX2_allRain (sv_rm 2 43) [.ref (h 1), .int a1] σ r σ' := by
  intro sz
  refine sv_enter (cc := cX2_allRain) (maxL := 4) (ret := (some .int)) (Qc := fun A => va_Qi (fun r2 (_ : Unit) => r2 = r) (fun _ t => va_P D vwCl (sv_ws T h θ σ') t.heap) A) sx_XP (by decide) rfl (Nat.le_of_ble_eq_true rfl) ?_
  intro p e s m args below meth c A F hr hlk ls H hl hW
  have hx := F.1.1
  have hb := F.1.2.1
  have hts := F.1.2.2.2.2
  have hown := F.1.2.2.2.1
  have hK := F.2.1
  obtain ⟨locs, hlocs⟩ : ∃ z : List Loc, z = [] := ⟨_, rfl⟩
  rw [← hlocs] at hW ⊢
  have hl : lv_has ls 4 [(0, .ref (h 1)), (1, .int a1)] := hl
  unfold q_X2_allRain at hs
  refine lv_iconst (v := 0) hx hb dX2_allRain_0 (by decide) ?_
  refine lv_istore_n (lv' := [(2, .int (0 : Int32)), (0, .ref (h 1)), (1, .int a1)]) hx hb dX2_allRain_1 rfl hl (by decide) rfl (fun ls hl => ?_)
  refine lv_iconst (v := 0) hx hb dX2_allRain_2 (by decide) ?_
  refine lv_istore_n (lv' := [(3, .int (0 : Int32)), (2, .int (0 : Int32)), (0, .ref (h 1)), (1, .int a1)]) hx hb dX2_allRain_3 rfl hl (by decide) rfl (fun ls hl => ?_)
  exact b_X2_allRain_4 hB F hr hlk sv_N a1 (0 : Int32) (0 : Int32) σ H locs ls (lv_sub hl [2, 3, 1, 0] rfl) hW hs
set_option maxRecDepth 100000 in
set_option maxHeartbeats 4000000 in
theorem b_X2_shutHours_4 {qK qV : Nat → Nat} {p : Program} {l : Launch} {e : Env} {s : State} {m : MethodId} {args : Array Value} {below : List Frame} {meth : Method} {c : Code} {D : va_G} {T : Nat → ClassId} {A : Nat → Prop} {h : Nat → Nat} {θ : sv_T}  {r : Int32} {σ' : sv_S} (hB : sx_base θ)  (F : sv_F (sx_X qK qV) p m c cX2_shutHours 3 s args wsX2_shutHours RX2 D (sx_tys T) A) (hr : meth.sig.returnType = (some .int)) (hlk : meth.locks = false)  : ∀ (n : Nat), ∀ (x1 : Int32) (x2 : Int32) (σ : sv_S) (H : Heap) (locs : List Loc) (ls : Array Slot), lv_has ls 3 [(0, .ref (h 1)), (1, .int x1), (2, .int x2)] → sv_W D T A s h θ σ H locs → q_X2_shutHours_B4 θ  n x1 x2 σ = some (r, σ') → W p l e (sv_rm 2 43) s m args below meth c H locs 0 0 (MQ below (va_Qi (fun r2 (_ : Unit) => r2 = r) (fun _ t => va_P D vwCl (sv_ws T h θ σ') t.heap) A) args s 0 0 A) (F0 m 4 ls []) := by
  have hx := F.1.1
  have hb := F.1.2.1
  have hts := F.1.2.2.2.2
  have hown := F.1.2.2.2.1
  have hK := F.2.1
  intro n
  induction n with
  | zero =>
    intro x1 x2 σ H locs ls hl hW hs
    have hs : (none : Option (Int32 × sv_S)) = some (r, σ') := hs
    cases hs
  | succ n ih =>
    intro x1 x2 σ H locs ls hl hW hs
    have hs : q_X2_shutHours_B4_b θ  (q_X2_shutHours_B4 θ  n) x1 x2 σ = some (r, σ') := hs
    unfold q_X2_shutHours_B4_b at hs
    refine lv_iload_n hx hb dX2_shutHours_4 rfl (lv_at hl 2 rfl) ?_
    refine lv_bipush (v := 24) hx hb dX2_shutHours_5 (by decide) ?_
    refine lv_icmp_ge (tgt := 44) hx hb dX2_shutHours_7 (by decide) (fun c1 => ?_) (fun c1 => ?_)
    · replace hs := (sp_ite hs).1 c1
      refine lv_iload_n hx hb dX2_shutHours_44 rfl (lv_at hl 1 rfl) ?_
      cases hs
      exact sv_iret hx hb hr rfl hlk hW dX2_shutHours_45
    · replace hs := (sp_ite hs).2 c1
      refine lv_iload_n hx hb dX2_shutHours_10 rfl (lv_at hl 1 rfl) ?_
      refine lv_aload_n hx hb dX2_shutHours_11 rfl (lv_at hl 0 rfl) ?_
      refine lv_iconst (v := 0) hx hb dX2_shutHours_12 (by decide) ?_
      refine lv_iload_n hx hb dX2_shutHours_13 rfl (lv_at hl 2 rfl) ?_
      obtain ⟨r2, σ3, eσ3, hs⟩ := sp_bind hs
      refine sv_goI (σ' := σ3) (r := r2) hW F.2.2.2.1 (sv_runV (C := RX2) F hW (k_X2_rainAt hB eσ3 H.size) gX2_shutHours_X2_rainAt rfl ⟨rfl, rfl⟩ 2 (by decide +kernel) (sv_room2 (by omega) (by omega)) (sx_i 1 hB (by decide)) (sx_c1 hB) rfl rfl hl.1 rfl (Nat.le_of_ble_eq_true rfl) dX2_shutHours_14 ⟨Nat.zero_le _, Nat.zero_le _⟩) (fun H locs hW => ?_)
      refine lv_if_ne (tgt := 35) hx hb dX2_shutHours_17 (by decide) (fun c4 => ?_) (fun c4 => ?_)
      · replace hs := (sp_ite hs).2 c4
        refine lv_iconst (v := 0) hx hb dX2_shutHours_35 (by decide) ?_
        refine lv_ior hx hb dX2_shutHours_36 ?_
        refine lv_topi (fun v5 ev5 => ?_)
        replace hs := sp_let hs ev5
        refine lv_istore_n (lv' := [(1, .int v5), (0, .ref (h 1)), (2, .int x2)]) hx hb dX2_shutHours_37 rfl hl (by decide) rfl (fun ls hl => ?_)
        obtain ⟨v6, ev6⟩ : ∃ y : Int32, y = x2 + 1 := ⟨_, rfl⟩
        replace hs := sp_let hs ev6
        refine lv_iinc (v := v6) (lv' := [(2, .int v6), (1, .int v5), (0, .ref (h 1))]) hx hb dX2_shutHours_38 hl (k := 2) rfl (by rw [ev6]; rfl) (by decide) rfl (fun ls hl => ?_)
        refine lv_goto (tgt := 4) hx hb dX2_shutHours_41 (by decide) ?_
        exact ih v5 v6 σ3 H locs ls (lv_sub hl [2, 1, 0] rfl) hW hs
      · replace hs := (sp_ite hs).1 c4
        refine lv_aload_n hx hb dX2_shutHours_20 rfl (lv_at hl 0 rfl) ?_
        refine lv_iconst (v := 1) hx hb dX2_shutHours_21 (by decide) ?_
        refine lv_iload_n hx hb dX2_shutHours_22 rfl (lv_at hl 2 rfl) ?_
        obtain ⟨r7, σ8, eσ8, hs⟩ := sp_bind hs
        refine sv_goI (σ' := σ8) (r := r7) hW F.2.2.2.1 (sv_runV (C := RX2) F hW (k_X2_rainAt hB eσ8 H.size) gX2_shutHours_X2_rainAt rfl ⟨rfl, rfl⟩ 2 (by decide +kernel) (sv_room2 (by omega) (by omega)) (sx_i 1 hB (by decide)) (sx_c1 hB) rfl rfl hl.1 rfl (Nat.le_of_ble_eq_true rfl) dX2_shutHours_23 ⟨Nat.zero_le _, Nat.zero_le _⟩) (fun H locs hW => ?_)
        refine lv_if_ne (tgt := 35) hx hb dX2_shutHours_26 (by decide) (fun c9 => ?_) (fun c9 => ?_)
        · replace hs := (sp_ite hs).2 c9
          refine lv_iconst (v := 0) hx hb dX2_shutHours_35 (by decide) ?_
          refine lv_ior hx hb dX2_shutHours_36 ?_
          refine lv_topi (fun v10 ev10 => ?_)
          replace hs := sp_let hs ev10
          refine lv_istore_n (lv' := [(1, .int v10), (0, .ref (h 1)), (2, .int x2)]) hx hb dX2_shutHours_37 rfl hl (by decide) rfl (fun ls hl => ?_)
          obtain ⟨v11, ev11⟩ : ∃ y : Int32, y = x2 + 1 := ⟨_, rfl⟩
          replace hs := sp_let hs ev11
          refine lv_iinc (v := v11) (lv' := [(2, .int v11), (1, .int v10), (0, .ref (h 1))]) hx hb dX2_shutHours_38 hl (k := 2) rfl (by rw [ev11]; rfl) (by decide) rfl (fun ls hl => ?_)
          refine lv_goto (tgt := 4) hx hb dX2_shutHours_41 (by decide) ?_
          exact ih v10 v11 σ8 H locs ls (lv_sub hl [2, 1, 0] rfl) hW hs
        · replace hs := (sp_ite hs).1 c9
          refine lv_iconst (v := 1) hx hb dX2_shutHours_29 (by decide) ?_
          refine lv_iload_n hx hb dX2_shutHours_30 rfl (lv_at hl 2 rfl) ?_
          refine lv_ishl hx hb dX2_shutHours_31 ?_
          refine lv_goto (tgt := 36) hx hb dX2_shutHours_32 (by decide) ?_
          refine lv_ior hx hb dX2_shutHours_36 ?_
          refine lv_topi (fun v12 ev12 => ?_)
          replace hs := sp_let hs ev12
          refine lv_istore_n (lv' := [(1, .int v12), (0, .ref (h 1)), (2, .int x2)]) hx hb dX2_shutHours_37 rfl hl (by decide) rfl (fun ls hl => ?_)
          obtain ⟨v13, ev13⟩ : ∃ y : Int32, y = x2 + 1 := ⟨_, rfl⟩
          replace hs := sp_let hs ev13
          refine lv_iinc (v := v13) (lv' := [(2, .int v13), (1, .int v12), (0, .ref (h 1))]) hx hb dX2_shutHours_38 hl (k := 2) rfl (by rw [ev13]; rfl) (by decide) rfl (fun ls hl => ?_)
          refine lv_goto (tgt := 4) hx hb dX2_shutHours_41 (by decide) ?_
          exact ih v12 v13 σ8 H locs ls (lv_sub hl [2, 1, 0] rfl) hW hs
set_option maxRecDepth 100000 in
set_option maxHeartbeats 4000000 in
theorem k_X2_shutHours {qK qV : Nat → Nat} {l : Launch} {D : va_G} {T : Nat → ClassId} {h : Nat → Nat} {θ : sv_T}  {σ : sv_S} {r : Int32} {σ' : sv_S} (hB : sx_base θ)  (hs : q_X2_shutHours θ  σ = some (r, σ')) : sv_Mi (sx_X qK qV) l D T (sx_tys T) h θ yX2_shutHours wsX2_shutHours (sv_rm 2 43) [.ref (h 1)] σ r σ' := by
  intro sz
  refine sv_enter (cc := cX2_shutHours) (maxL := 3) (ret := (some .int)) (Qc := fun A => va_Qi (fun r2 (_ : Unit) => r2 = r) (fun _ t => va_P D vwCl (sv_ws T h θ σ') t.heap) A) sx_XP (by decide) rfl (Nat.le_of_ble_eq_true rfl) ?_
  intro p e s m args below meth c A F hr hlk ls H hl hW
  have hx := F.1.1
  have hb := F.1.2.1
  have hts := F.1.2.2.2.2
  have hown := F.1.2.2.2.1
  have hK := F.2.1
  obtain ⟨locs, hlocs⟩ : ∃ z : List Loc, z = [] := ⟨_, rfl⟩
  rw [← hlocs] at hW ⊢
  have hl : lv_has ls 3 [(0, .ref (h 1))] := hl
  unfold q_X2_shutHours at hs
  refine lv_iconst (v := 0) hx hb dX2_shutHours_0 (by decide) ?_
  refine lv_istore_n (lv' := [(1, .int (0 : Int32)), (0, .ref (h 1))]) hx hb dX2_shutHours_1 rfl hl (by decide) rfl (fun ls hl => ?_)
  refine lv_iconst (v := 0) hx hb dX2_shutHours_2 (by decide) ?_
  refine lv_istore_n (lv' := [(2, .int (0 : Int32)), (1, .int (0 : Int32)), (0, .ref (h 1))]) hx hb dX2_shutHours_3 rfl hl (by decide) rfl (fun ls hl => ?_)
  exact b_X2_shutHours_4 hB F hr hlk sv_N (0 : Int32) (0 : Int32) σ H locs ls (lv_sub hl [2, 1, 0] rfl) hW hs
set_option maxRecDepth 100000 in
set_option maxHeartbeats 4000000 in
theorem k_X3_useRain {qK qV : Nat → Nat} {l : Launch} {D : va_G} {T : Nat → ClassId} {h : Nat → Nat} {θ : sv_T} {b1 : Nat} {σ : sv_S} {r : Unit} {σ' : sv_S} (hB : sx_base θ) (hb1 : sv_oA θ b1) (hs : q_X3_useRain θ b1 σ = some (r, σ')) : sv_Mv (sx_X qK qV) l D T (sx_tys T) h θ yX3_useRain wsX3_useRain (sv_rm 1 80) [.ref (h 24), .ref (h b1)] σ r σ' := by
  intro sz
  refine sv_enter (cc := cX3_useRain) (maxL := 2) (ret := none) (Qc := fun A => va_Qv (fun (_ : Unit) => True) (fun _ t => va_P D vwCl (sv_ws T h θ σ') t.heap) A) sx_XP (by decide) rfl (Nat.le_of_ble_eq_true rfl) ?_
  intro p e s m args below meth c A F hr hlk ls H hl hW
  have hx := F.1.1
  have hb := F.1.2.1
  have hts := F.1.2.2.2.2
  have hown := F.1.2.2.2.1
  have hK := F.2.1
  obtain ⟨locs, hlocs⟩ : ∃ z : List Loc, z = [] := ⟨_, rfl⟩
  rw [← hlocs] at hW ⊢
  have hl : lv_has ls 2 [(0, .ref (h 24)), (1, .ref (h b1))] := hl
  unfold q_X3_useRain at hs
  refine lv_aload_n hx hb dX3_useRain_0 rfl (lv_at hl 1 rfl) ?_
  refine lv_ifnull hx hb dX3_useRain_1 ?_
  refine lv_aload_n hx hb dX3_useRain_4 rfl (lv_at hl 1 rfl) ?_
  refine sv_alen (t := 0) (v := (Int32.ofNat (sv_len θ b1))) hx hb hK hW hb1.1 hb1.2 0 rfl rfl dX3_useRain_5 ?_
  refine lv_aload_n hx hb dX3_useRain_6 rfl (lv_at hl 0 rfl) ?_
  refine sv_get (own := RX3) (C := RX3) (Tf := TX3) (N := 17) (index := 18) (κ := (3, 3)) (v := .ref (h 27)) hx hb hts hown hK hW (fun _ h => List.mem_cons_of_mem _ (List.mem_append_right _ h)) (sx_i 24 hB (by decide)) (sx_c24 hB) rfl 1 (by decide) rfl rfl (List.mem_of_getElem? (i := 1) rfl) dX3_useRain_7 ?_
  refine sv_alen (t := 0) (v := (48 : Int32)) hx hb hK hW (sx_i 27 hB (by decide)) (sx_c27 hB) 0 rfl rfl dX3_useRain_10 ?_
  refine lv_icmp_ne (tgt := 29) hx hb dX3_useRain_11 (by decide) (fun c1 => ?_) (fun c1 => ?_)
  · replace hs := (sp_ite hs).2 c1
    cases hs
    exact sv_vret hx hb hr hlk hW dX3_useRain_29
  · replace hs := (sp_ite hs).1 c1
    refine lv_aload_n hx hb dX3_useRain_14 rfl (lv_at hl 1 rfl) ?_
    refine lv_iconst (v := 0) hx hb dX3_useRain_15 (by decide) ?_
    refine lv_aload_n hx hb dX3_useRain_16 rfl (lv_at hl 0 rfl) ?_
    refine sv_get (own := RX3) (C := RX3) (Tf := TX3) (N := 17) (index := 18) (κ := (3, 3)) (v := .ref (h 27)) hx hb hts hown hK hW (fun _ h => List.mem_cons_of_mem _ (List.mem_append_right _ h)) (sx_i 24 hB (by decide)) (sx_c24 hB) rfl 1 (by decide) rfl rfl (List.mem_of_getElem? (i := 1) rfl) dX3_useRain_17 ?_
    refine lv_iconst (v := 0) hx hb dX3_useRain_20 (by decide) ?_
    refine lv_aload_n hx hb dX3_useRain_21 rfl (lv_at hl 0 rfl) ?_
    refine sv_get (own := RX3) (C := RX3) (Tf := TX3) (N := 17) (index := 18) (κ := (3, 3)) (v := .ref (h 27)) hx hb hts hown hK hW (fun _ h => List.mem_cons_of_mem _ (List.mem_append_right _ h)) (sx_i 24 hB (by decide)) (sx_c24 hB) rfl 1 (by decide) rfl rfl (List.mem_of_getElem? (i := 1) rfl) dX3_useRain_22 ?_
    refine sv_alen (t := 0) (v := (48 : Int32)) hx hb hK hW (sx_i 27 hB (by decide)) (sx_c27 hB) 0 rfl rfl dX3_useRain_25 ?_
    obtain ⟨hc3, hs⟩ := sp_p hs
    refine sv_copy (own := RX3) (index := 37) hx hb (F.1.2.2.1.trans hl.1.symm) hown (hts _ (List.mem_of_getElem? (i := 2) rfl)) (hts _ (List.mem_of_getElem? (i := 3) rfl)) (hts _ (List.mem_of_getElem? (i := 4) rfl)) (hts _ (List.mem_of_getElem? (i := 5) rfl)) hK hW hb1.1 hb1.2 (sx_i 27 hB (by decide)) (sx_c27 hB) 0 rfl hc3 (Nat.le_of_ble_eq_true rfl) (Nat.le_of_ble_eq_true rfl) dX3_useRain_26 (fun σ2 H locs eσ2 hW => ?_)
    replace hs := sp_let hs eσ2
    cases hs
    exact sv_vret hx hb hr hlk hW dX3_useRain_29
set_option maxRecDepth 100000 in
set_option maxHeartbeats 4000000 in
theorem b_X3_draw_4 {qK qV : Nat → Nat} {p : Program} {l : Launch} {e : Env} {s : State} {m : MethodId} {args : Array Value} {below : List Frame} {meth : Method} {c : Code} {D : va_G} {T : Nat → ClassId} {A : Nat → Prop} {h : Nat → Nat} {θ : sv_T} {a1 : Int32} {r : Unit} {σ' : sv_S} (hB : sx_base θ)  (F : sv_F (sx_X qK qV) p m c cX3_draw 5 s args wsX3_draw RX3 D (sx_tys T) A) (hr : meth.sig.returnType = none) (hlk : meth.locks = false)  : ∀ (n : Nat), ∀ (x2 : Int32) (x3 : Int32) (σ : sv_S) (H : Heap) (locs : List Loc) (ls : Array Slot), lv_has ls 5 [(0, .ref (h 24)), (2, .int x2), (3, .int x3)] → sv_W D T A s h θ σ H locs → q_X3_draw_B4 θ a1 n x2 x3 σ = some (r, σ') → W p l e (sv_rm 0 0) s m args below meth c H locs 0 0 (MQ below (va_Qv (fun (_ : Unit) => True) (fun _ t => va_P D vwCl (sv_ws T h θ σ') t.heap) A) args s 0 0 A) (F0 m 4 ls []) := by
  have hx := F.1.1
  have hb := F.1.2.1
  have hts := F.1.2.2.2.2
  have hown := F.1.2.2.2.1
  have hK := F.2.1
  intro n
  induction n with
  | zero =>
    intro x2 x3 σ H locs ls hl hW hs
    have hs : (none : Option (Unit × sv_S)) = some (r, σ') := hs
    cases hs
  | succ n ih =>
    intro x2 x3 σ H locs ls hl hW hs
    have hs : q_X3_draw_B4_b θ a1 (q_X3_draw_B4 θ a1 n) x2 x3 σ = some (r, σ') := hs
    unfold q_X3_draw_B4_b at hs
    refine lv_iload_n hx hb dX3_draw_4 rfl (lv_at hl 2 rfl) ?_
    refine lv_aload_n hx hb dX3_draw_5 rfl (lv_at hl 0 rfl) ?_
    refine sv_get (own := RX3) (C := RX3) (Tf := TX3) (N := 17) (index := 18) (κ := (3, 3)) (v := .ref (h 27)) hx hb hts hown hK hW (fun _ h => List.mem_cons_of_mem _ (List.mem_append_right _ h)) (sx_i 24 hB (by decide)) (sx_c24 hB) rfl 1 (by decide) rfl rfl (List.mem_of_getElem? (i := 1) rfl) dX3_draw_6 ?_
    refine sv_alen (t := 0) (v := (48 : Int32)) hx hb hK hW (sx_i 27 hB (by decide)) (sx_c27 hB) 0 rfl rfl dX3_draw_9 ?_
    refine lv_icmp_ge (tgt := 55) hx hb dX3_draw_10 (by decide) (fun c1 => ?_) (fun c1 => ?_)
    · replace hs := (sp_ite hs).1 c1
      cases hs
      exact sv_vret hx hb hr hlk hW dX3_draw_55
    · replace hs := (sp_ite hs).2 c1
      refine lv_iload_n hx hb dX3_draw_13 rfl (lv_at hl 1 rfl) ?_
      refine lv_ldc (own := RX3) (index := 43) (v := 1103515245) hx hb hown (hts _ (List.mem_of_getElem? (i := 2) rfl)) dX3_draw_14 ?_
      refine lv_imul hx hb dX3_draw_16 ?_
      refine lv_sipush (v := 12345) hx hb dX3_draw_17 (by decide) ?_
      refine lv_iadd hx hb dX3_draw_20 ?_
      refine lv_topi (fun v2 ev2 => ?_)
      replace hs := sp_let hs ev2
      refine lv_istore_n (lv' := [(2, .int v2), (0, .ref (h 24)), (3, .int x3)]) hx hb dX3_draw_21 rfl hl (by decide) rfl (fun ls hl => ?_)
      refine lv_iload_n hx hb dX3_draw_22 rfl (lv_at hl 0 rfl) ?_
      refine lv_bipush (v := 9) hx hb dX3_draw_23 (by decide) ?_
      refine lv_iushr (v := ((v2).toUInt32 >>> (((9 : Int32)).toUInt32 &&& Int32.toUInt32 31)).toInt32) hx hb dX3_draw_25 rfl ?_
      refine lv_bipush (v := 10) hx hb dX3_draw_26 (by decide) ?_
      refine lv_irem hx hb dX3_draw_28 (by decide) ?_
      refine lv_topi (fun v3 ev3 => ?_)
      replace hs := sp_let hs ev3
      refine lv_istore (lv' := [(4, .int v3), (2, .int v2), (0, .ref (h 24)), (3, .int x3)]) hx hb dX3_draw_29 hl (by decide) rfl (fun ls hl => ?_)
      refine lv_aload_n hx hb dX3_draw_31 rfl (lv_at hl 2 rfl) ?_
      refine sv_get (own := RX3) (C := RX3) (Tf := TX3) (N := 17) (index := 18) (κ := (3, 3)) (v := .ref (h 27)) hx hb hts hown hK hW (fun _ h => List.mem_cons_of_mem _ (List.mem_append_right _ h)) (sx_i 24 hB (by decide)) (sx_c24 hB) rfl 1 (by decide) rfl rfl (List.mem_of_getElem? (i := 1) rfl) dX3_draw_32 ?_
      refine lv_iload_n hx hb dX3_draw_35 rfl (lv_at hl 3 rfl) ?_
      refine lv_iload hx hb dX3_draw_36 (lv_at hl 0 rfl) ?_
      refine lv_iconst (v := 4) hx hb dX3_draw_38 (by decide) ?_
      refine lv_icmp_ge (tgt := 46) hx hb dX3_draw_39 (by decide) (fun c4 => ?_) (fun c4 => ?_)
      · replace hs := (sp_ite hs).1 c4
        refine lv_iload hx hb dX3_draw_46 (lv_at hl 0 rfl) ?_
        obtain ⟨hi5, hs⟩ := sp_g hs
        refine sv_iast hx hb hK hW (sx_i 27 hB (by decide)) (sx_c27 hB) 0 rfl hi5 dX3_draw_48 (fun σ6 H locs eσ6 hW => ?_)
        replace hs := sp_let hs eσ6
        obtain ⟨v7, ev7⟩ : ∃ y : Int32, y = x3 + 1 := ⟨_, rfl⟩
        replace hs := sp_let hs ev7
        refine lv_iinc (v := v7) (lv' := [(3, .int v7), (4, .int v3), (2, .int v2), (0, .ref (h 24))]) hx hb dX3_draw_49 hl (k := 3) rfl (by rw [ev7]; rfl) (by decide) rfl (fun ls hl => ?_)
        refine lv_goto (tgt := 4) hx hb dX3_draw_52 (by decide) ?_
        exact ih v2 v7 σ6 H locs ls (lv_sub hl [3, 2, 0] rfl) hW hs
      · replace hs := (sp_ite hs).2 c4
        refine lv_iconst (v := 0) hx hb dX3_draw_42 (by decide) ?_
        refine lv_goto (tgt := 48) hx hb dX3_draw_43 (by decide) ?_
        obtain ⟨hi8, hs⟩ := sp_g hs
        refine sv_iast hx hb hK hW (sx_i 27 hB (by decide)) (sx_c27 hB) 0 rfl hi8 dX3_draw_48 (fun σ9 H locs eσ9 hW => ?_)
        replace hs := sp_let hs eσ9
        obtain ⟨v10, ev10⟩ : ∃ y : Int32, y = x3 + 1 := ⟨_, rfl⟩
        replace hs := sp_let hs ev10
        refine lv_iinc (v := v10) (lv' := [(3, .int v10), (4, .int v3), (2, .int v2), (0, .ref (h 24))]) hx hb dX3_draw_49 hl (k := 3) rfl (by rw [ev10]; rfl) (by decide) rfl (fun ls hl => ?_)
        refine lv_goto (tgt := 4) hx hb dX3_draw_52 (by decide) ?_
        exact ih v2 v10 σ9 H locs ls (lv_sub hl [3, 2, 0] rfl) hW hs
set_option maxRecDepth 100000 in
set_option maxHeartbeats 4000000 in
theorem k_X3_draw {qK qV : Nat → Nat} {l : Launch} {D : va_G} {T : Nat → ClassId} {h : Nat → Nat} {θ : sv_T} {a1 : Int32} {σ : sv_S} {r : Unit} {σ' : sv_S} (hB : sx_base θ)  (hs : q_X3_draw θ a1 σ = some (r, σ')) : sv_Mv (sx_X qK qV) l D T (sx_tys T) h θ yX3_draw wsX3_draw (sv_rm 0 0) [.ref (h 24), .int a1] σ r σ' := by
  intro sz
  refine sv_enter (cc := cX3_draw) (maxL := 5) (ret := none) (Qc := fun A => va_Qv (fun (_ : Unit) => True) (fun _ t => va_P D vwCl (sv_ws T h θ σ') t.heap) A) sx_XP (by decide) rfl (Nat.le_of_ble_eq_true rfl) ?_
  intro p e s m args below meth c A F hr hlk ls H hl hW
  have hx := F.1.1
  have hb := F.1.2.1
  have hts := F.1.2.2.2.2
  have hown := F.1.2.2.2.1
  have hK := F.2.1
  obtain ⟨locs, hlocs⟩ : ∃ z : List Loc, z = [] := ⟨_, rfl⟩
  rw [← hlocs] at hW ⊢
  have hl : lv_has ls 5 [(0, .ref (h 24)), (1, .int a1)] := hl
  unfold q_X3_draw at hs
  refine lv_iload_n hx hb dX3_draw_0 rfl (lv_at hl 1 rfl) ?_
  refine lv_istore_n (lv' := [(2, .int a1), (0, .ref (h 24)), (1, .int a1)]) hx hb dX3_draw_1 rfl hl (by decide) rfl (fun ls hl => ?_)
  refine lv_iconst (v := 0) hx hb dX3_draw_2 (by decide) ?_
  refine lv_istore_n (lv' := [(3, .int (0 : Int32)), (2, .int a1), (0, .ref (h 24)), (1, .int a1)]) hx hb dX3_draw_3 rfl hl (by decide) rfl (fun ls hl => ?_)
  exact b_X3_draw_4 hB F hr hlk sv_N a1 (0 : Int32) σ H locs ls (lv_sub hl [2, 1, 0] rfl) hW hs
set_option maxRecDepth 100000 in
set_option maxHeartbeats 4000000 in
theorem k_J6_bitCount_0f7a4 {qK qV : Nat → Nat} {l : Launch} {D : va_G} {T : Nat → ClassId} {h : Nat → Nat} {θ : sv_T} {a1 : Int32} {σ : sv_S} {r : Int32} {σ' : sv_S} (hB : sx_base θ)  (hs : q_J6_bitCount_0f7a4 θ a1 σ = some (r, σ')) : sv_Mi (sx_X qK qV) l D T (sx_tys T) h θ yJ6_bitCount_0f7a4 wsJ6_bitCount_0f7a4 (sv_rm 0 0) [.int a1] σ r σ' := by
  intro sz
  refine sv_enter (cc := cJ6_bitCount_0f7a4) (maxL := 1) (ret := (some .int)) (Qc := fun A => va_Qi (fun r2 (_ : Unit) => r2 = r) (fun _ t => va_P D vwCl (sv_ws T h θ σ') t.heap) A) sx_XP (by decide) rfl (Nat.le_of_ble_eq_true rfl) ?_
  intro p e s m args below meth c A F hr hlk ls H hl hW
  have hx := F.1.1
  have hb := F.1.2.1
  have hts := F.1.2.2.2.2
  have hown := F.1.2.2.2.1
  have hK := F.2.1
  obtain ⟨locs, hlocs⟩ : ∃ z : List Loc, z = [] := ⟨_, rfl⟩
  rw [← hlocs] at hW ⊢
  have hl : lv_has ls 1 [(0, .int a1)] := hl
  unfold q_J6_bitCount_0f7a4 at hs
  refine lv_iload_n hx hb dJ6_bitCount_0f7a4_0 rfl (lv_at hl 0 rfl) ?_
  refine lv_iload_n hx hb dJ6_bitCount_0f7a4_1 rfl (lv_at hl 0 rfl) ?_
  refine lv_iconst (v := 1) hx hb dJ6_bitCount_0f7a4_2 (by decide) ?_
  refine lv_iushr (v := ((a1).toUInt32 >>> (((1 : Int32)).toUInt32 &&& Int32.toUInt32 31)).toInt32) hx hb dJ6_bitCount_0f7a4_3 rfl ?_
  refine lv_ldcw (own := RJ6) (index := 265) (v := 1431655765) hx hb hown (hts _ (List.mem_of_getElem? (i := 1) rfl)) dJ6_bitCount_0f7a4_4 ?_
  refine lv_iand hx hb dJ6_bitCount_0f7a4_7 ?_
  refine lv_isub hx hb dJ6_bitCount_0f7a4_8 ?_
  refine lv_topi (fun v1 ev1 => ?_)
  replace hs := sp_let hs ev1
  refine lv_istore_n (lv' := [(0, .int v1)]) hx hb dJ6_bitCount_0f7a4_9 rfl hl (by decide) rfl (fun ls hl => ?_)
  refine lv_iload_n hx hb dJ6_bitCount_0f7a4_10 rfl (lv_at hl 0 rfl) ?_
  refine lv_ldcw (own := RJ6) (index := 266) (v := 858993459) hx hb hown (hts _ (List.mem_of_getElem? (i := 2) rfl)) dJ6_bitCount_0f7a4_11 ?_
  refine lv_iand hx hb dJ6_bitCount_0f7a4_14 ?_
  refine lv_iload_n hx hb dJ6_bitCount_0f7a4_15 rfl (lv_at hl 0 rfl) ?_
  refine lv_iconst (v := 2) hx hb dJ6_bitCount_0f7a4_16 (by decide) ?_
  refine lv_iushr (v := ((v1).toUInt32 >>> (((2 : Int32)).toUInt32 &&& Int32.toUInt32 31)).toInt32) hx hb dJ6_bitCount_0f7a4_17 rfl ?_
  refine lv_ldcw (own := RJ6) (index := 266) (v := 858993459) hx hb hown (hts _ (List.mem_of_getElem? (i := 2) rfl)) dJ6_bitCount_0f7a4_18 ?_
  refine lv_iand hx hb dJ6_bitCount_0f7a4_21 ?_
  refine lv_iadd hx hb dJ6_bitCount_0f7a4_22 ?_
  refine lv_topi (fun v2 ev2 => ?_)
  replace hs := sp_let hs ev2
  refine lv_istore_n (lv' := [(0, .int v2)]) hx hb dJ6_bitCount_0f7a4_23 rfl hl (by decide) rfl (fun ls hl => ?_)
  refine lv_iload_n hx hb dJ6_bitCount_0f7a4_24 rfl (lv_at hl 0 rfl) ?_
  refine lv_iload_n hx hb dJ6_bitCount_0f7a4_25 rfl (lv_at hl 0 rfl) ?_
  refine lv_iconst (v := 4) hx hb dJ6_bitCount_0f7a4_26 (by decide) ?_
  refine lv_iushr (v := ((v2).toUInt32 >>> (((4 : Int32)).toUInt32 &&& Int32.toUInt32 31)).toInt32) hx hb dJ6_bitCount_0f7a4_27 rfl ?_
  refine lv_iadd hx hb dJ6_bitCount_0f7a4_28 ?_
  refine lv_ldcw (own := RJ6) (index := 267) (v := 252645135) hx hb hown (hts _ (List.mem_of_getElem? (i := 3) rfl)) dJ6_bitCount_0f7a4_29 ?_
  refine lv_iand hx hb dJ6_bitCount_0f7a4_32 ?_
  refine lv_topi (fun v3 ev3 => ?_)
  replace hs := sp_let hs ev3
  refine lv_istore_n (lv' := [(0, .int v3)]) hx hb dJ6_bitCount_0f7a4_33 rfl hl (by decide) rfl (fun ls hl => ?_)
  refine lv_iload_n hx hb dJ6_bitCount_0f7a4_34 rfl (lv_at hl 0 rfl) ?_
  refine lv_iload_n hx hb dJ6_bitCount_0f7a4_35 rfl (lv_at hl 0 rfl) ?_
  refine lv_bipush (v := 8) hx hb dJ6_bitCount_0f7a4_36 (by decide) ?_
  refine lv_iushr (v := ((v3).toUInt32 >>> (((8 : Int32)).toUInt32 &&& Int32.toUInt32 31)).toInt32) hx hb dJ6_bitCount_0f7a4_38 rfl ?_
  refine lv_iadd hx hb dJ6_bitCount_0f7a4_39 ?_
  refine lv_topi (fun v4 ev4 => ?_)
  replace hs := sp_let hs ev4
  refine lv_istore_n (lv' := [(0, .int v4)]) hx hb dJ6_bitCount_0f7a4_40 rfl hl (by decide) rfl (fun ls hl => ?_)
  refine lv_iload_n hx hb dJ6_bitCount_0f7a4_41 rfl (lv_at hl 0 rfl) ?_
  refine lv_iload_n hx hb dJ6_bitCount_0f7a4_42 rfl (lv_at hl 0 rfl) ?_
  refine lv_bipush (v := 16) hx hb dJ6_bitCount_0f7a4_43 (by decide) ?_
  refine lv_iushr (v := ((v4).toUInt32 >>> (((16 : Int32)).toUInt32 &&& Int32.toUInt32 31)).toInt32) hx hb dJ6_bitCount_0f7a4_45 rfl ?_
  refine lv_iadd hx hb dJ6_bitCount_0f7a4_46 ?_
  refine lv_topi (fun v5 ev5 => ?_)
  replace hs := sp_let hs ev5
  refine lv_istore_n (lv' := [(0, .int v5)]) hx hb dJ6_bitCount_0f7a4_47 rfl hl (by decide) rfl (fun ls hl => ?_)
  refine lv_iload_n hx hb dJ6_bitCount_0f7a4_48 rfl (lv_at hl 0 rfl) ?_
  refine lv_bipush (v := 63) hx hb dJ6_bitCount_0f7a4_49 (by decide) ?_
  refine lv_iand hx hb dJ6_bitCount_0f7a4_51 ?_
  cases hs
  exact sv_iret hx hb hr rfl hlk hW dJ6_bitCount_0f7a4_52
set_option maxRecDepth 100000 in
set_option maxHeartbeats 4000000 in
theorem b_X3_run_37 {qK qV : Nat → Nat} {p : Program} {l : Launch} {e : Env} {s : State} {m : MethodId} {args : Array Value} {below : List Frame} {meth : Method} {c : Code} {D : va_G} {T : Nat → ClassId} {A : Nat → Prop} {h : Nat → Nat} {θ : sv_T} {b2 : Nat} {a3 : Int32} {r : Unit} {σ' : sv_S} (hB : sx_base θ) (hb2 : sv_oA θ b2) (F : sv_F (sx_X qK qV) p m c cX3_run 8 s args wsX3_run RX3 D (sx_tys T) A) (hr : meth.sig.returnType = none) (hlk : meth.locks = false)  : ∀ (n : Nat), ∀ (x3 : Int32) (x4 : Int32) (x5 : Int32) (σ : sv_S) (H : Heap) (locs : List Loc) (ls : Array Slot), lv_has ls 8 [(0, .ref (h 24)), (1, .ref (h 1)), (2, .ref (h b2)), (3, .int x3), (4, .int x4), (5, .int x5)] → sv_W D T A s h θ σ H locs → q_X3_run_B37 θ b2 a3 n x3 x4 x5 σ = some (r, σ') → W p l e (sv_rm 5 114) s m args below meth c H locs 0 0 (MQ below (va_Qv (fun (_ : Unit) => True) (fun _ t => va_P D vwCl (sv_ws T h θ σ') t.heap) A) args s 0 0 A) (F0 m 37 ls []) := by
  have hx := F.1.1
  have hb := F.1.2.1
  have hts := F.1.2.2.2.2
  have hown := F.1.2.2.2.1
  have hK := F.2.1
  intro n
  induction n with
  | zero =>
    intro x3 x4 x5 σ H locs ls hl hW hs
    have hs : (none : Option (Unit × sv_S)) = some (r, σ') := hs
    cases hs
  | succ n ih =>
    intro x3 x4 x5 σ H locs ls hl hW hs
    have hs : q_X3_run_B37_b θ b2 a3 (q_X3_run_B37 θ b2 a3 n) x3 x4 x5 σ = some (r, σ') := hs
    unfold q_X3_run_B37_b at hs
    refine lv_iload hx hb dX3_run_37 (lv_at hl 5 rfl) ?_
    refine lv_iload_n hx hb dX3_run_39 rfl (lv_at hl 3 rfl) ?_
    refine lv_icmp_ge (tgt := 173) hx hb dX3_run_40 (by decide) (fun c7 => ?_) (fun c7 => ?_)
    · replace hs := (sp_ite hs).1 c7
      cases hs
      exact sv_vret hx hb hr hlk hW dX3_run_173
    · replace hs := (sp_ite hs).2 c7
      refine lv_iload hx hb dX3_run_43 (lv_at hl 5 rfl) ?_
      refine lv_bipush (v := 6) hx hb dX3_run_45 (by decide) ?_
      refine lv_icmp_ge (tgt := 173) hx hb dX3_run_47 (by decide) (fun c8 => ?_) (fun c8 => ?_)
      · replace hs := (sp_ite hs).1 c8
        cases hs
        exact sv_vret hx hb hr hlk hW dX3_run_173
      · replace hs := (sp_ite hs).2 c8
        refine lv_aload_n hx hb dX3_run_50 rfl (lv_at hl 2 rfl) ?_
        refine lv_iload hx hb dX3_run_51 (lv_at hl 5 rfl) ?_
        obtain ⟨r9, σ10, eσ10, hs⟩ := sp_bind hs
        refine sv_goI (σ' := σ10) (r := r9) hW F.2.2.2.1 (sv_runN (own := RX3) (host := "OpenWhileItRains") F hW (k_X7_at hB hb2 eσ10 H.size) gX3_run_X7_at_n63 rfl ⟨rfl, rfl⟩ (F.2.2.1.1 _ (List.mem_of_getElem? (i := 16) rfl)) (List.mem_of_getElem? (i := 15) rfl) (List.mem_of_getElem? (i := 14) rfl) 2 (by decide +kernel) (sv_room2 (by omega) (by omega)) rfl hl.1 rfl (Nat.le_of_ble_eq_true rfl) dX3_run_53 ⟨Nat.zero_le _, Nat.zero_le _⟩) (fun H locs hW => ?_)
        refine lv_istore (lv' := [(6, .int r9), (0, .ref (h 24)), (1, .ref (h 1)), (2, .ref (h b2)), (3, .int x3), (4, .int x4), (5, .int x5)]) hx hb dX3_run_56 hl (by decide) rfl (fun ls hl => ?_)
        refine lv_aload_n hx hb dX3_run_58 rfl (lv_at hl 1 rfl) ?_
        refine sv_get (own := RX3) (C := RX3) (Tf := TX3) (N := 17) (index := 12) (κ := (3, 1)) (v := .ref (h 25)) hx hb hts hown hK hW (fun _ h => List.mem_cons_of_mem _ (List.mem_append_left _ (List.mem_append_left _ (List.mem_append_left _ (List.mem_append_right _ h))))) (sx_i 24 hB (by decide)) (sx_c24 hB) rfl 0 (by decide) rfl rfl (List.mem_of_getElem? (i := 5) rfl) dX3_run_59 ?_
        refine lv_aload_n hx hb dX3_run_62 rfl (lv_at hl 2 rfl) ?_
        refine lv_iload hx hb dX3_run_63 (lv_at hl 0 rfl) ?_
        refine lv_iload hx hb dX3_run_65 (lv_at hl 5 rfl) ?_
        refine lv_aload_n hx hb dX3_run_67 rfl (lv_at hl 1 rfl) ?_
        refine sv_get (own := RX3) (C := RX3) (Tf := TX3) (N := 17) (index := 48) (κ := (0, 0)) (v := .int (σ10.1 24 4)) hx hb hts hown hK hW (fun _ h => List.mem_cons_of_mem _ (List.mem_append_left _ (List.mem_append_left _ (List.mem_append_left _ (List.mem_append_right _ h))))) (sx_i 24 hB (by decide)) (sx_c24 hB) rfl 4 (by decide) rfl rfl (List.mem_of_getElem? (i := 2) rfl) dX3_run_68 ?_
        obtain ⟨r11, σ12, eσ12, hs⟩ := sp_bind hs
        refine sv_goI (σ' := σ12) (r := r11) hW F.2.2.2.1 (sv_runT F hW (k_J6_bitCount_0f7a4 hB eσ12 H.size) gX3_run_J6_bitCount_0f7a4 rfl ⟨rfl, rfl⟩ 1 (by decide +kernel) (sv_room2 (by omega) (by omega)) rfl hl.1 rfl (Nat.le_of_ble_eq_true rfl) dX3_run_71 ⟨Nat.zero_le _, Nat.zero_le _⟩) (fun H locs hW => ?_)
        refine lv_iadd hx hb dX3_run_74 ?_
        obtain ⟨r13, σ14, eσ14, hs⟩ := sp_bind hs
        refine sv_goV (σ' := σ14) (r := r13) hW F.2.2.2.1 (sv_runV (C := RX0) F hW (k_X0_regard hB (sx_o25 hB) eσ14 H.size) gX3_run_X0_regard rfl ⟨rfl, rfl⟩ 3 (by decide +kernel) (sv_room2 (by omega) (by omega)) (sx_i 25 hB (by decide)) (sx_c25 hB) rfl rfl hl.1 rfl (Nat.le_of_ble_eq_true rfl) dX3_run_75 ⟨Nat.zero_le _, Nat.zero_le _⟩) (fun H locs hW => ?_)
        refine lv_aload_n hx hb dX3_run_78 rfl (lv_at hl 1 rfl) ?_
        refine sv_get (own := RX3) (C := RX3) (Tf := TX3) (N := 17) (index := 12) (κ := (3, 1)) (v := .ref (h 25)) hx hb hts hown hK hW (fun _ h => List.mem_cons_of_mem _ (List.mem_append_left _ (List.mem_append_left _ (List.mem_append_left _ (List.mem_append_right _ h))))) (sx_i 24 hB (by decide)) (sx_c24 hB) rfl 0 (by decide) rfl rfl (List.mem_of_getElem? (i := 5) rfl) dX3_run_79 ?_
        refine lv_aload_n hx hb dX3_run_82 rfl (lv_at hl 1 rfl) ?_
        refine sv_get (own := RX3) (C := RX3) (Tf := TX3) (N := 17) (index := 18) (κ := (3, 3)) (v := .ref (h 27)) hx hb hts hown hK hW (fun _ h => List.mem_cons_of_mem _ (List.mem_append_left _ (List.mem_append_left _ (List.mem_append_left _ (List.mem_append_right _ h))))) (sx_i 24 hB (by decide)) (sx_c24 hB) rfl 1 (by decide) rfl rfl (List.mem_of_getElem? (i := 6) rfl) dX3_run_83 ?_
        refine lv_aload_n hx hb dX3_run_86 rfl (lv_at hl 1 rfl) ?_
        refine sv_get (own := RX3) (C := RX3) (Tf := TX3) (N := 17) (index := 51) (κ := (0, 0)) (v := .int (σ14.1 24 5)) hx hb hts hown hK hW (fun _ h => List.mem_cons_of_mem _ (List.mem_append_left _ (List.mem_append_left _ (List.mem_append_left _ (List.mem_append_right _ h))))) (sx_i 24 hB (by decide)) (sx_c24 hB) rfl 5 (by decide) rfl rfl (List.mem_of_getElem? (i := 3) rfl) dX3_run_87 ?_
        refine lv_iconst (v := 1) hx hb dX3_run_90 (by decide) ?_
        refine lv_iadd hx hb dX3_run_91 ?_
        obtain ⟨r15, σ16, eσ16, hs⟩ := sp_bind hs
        refine sv_goI (σ' := σ16) (r := r15) hW F.2.2.2.1 (sv_runV (C := RX0) F hW (k_X0_shakenHour hB (sx_o25 hB) (sv_oA_of (sx_i 27 hB (by decide)) (sx_c27 hB)) eσ16 H.size) gX3_run_X0_shakenHour rfl ⟨rfl, rfl⟩ 2 (by decide +kernel) (sv_room2 (by omega) (by omega)) (sx_i 25 hB (by decide)) (sx_c25 hB) rfl rfl hl.1 rfl (Nat.le_of_ble_eq_true rfl) dX3_run_92 ⟨Nat.zero_le _, Nat.zero_le _⟩) (fun H locs hW => ?_)
        refine lv_istore (lv' := [(7, .int r15), (6, .int r9), (0, .ref (h 24)), (1, .ref (h 1)), (2, .ref (h b2)), (3, .int x3), (4, .int x4), (5, .int x5)]) hx hb dX3_run_95 hl (by decide) rfl (fun ls hl => ?_)
        refine lv_iload hx hb dX3_run_97 (lv_at hl 0 rfl) ?_
        refine lv_iconst (v := -1) hx hb dX3_run_99 (by decide) ?_
        refine lv_icmp_ne (tgt := 119) hx hb dX3_run_100 (by decide) (fun c17 => ?_) (fun c17 => ?_)
        · replace hs := (sp_ite hs).2 c17
          refine lv_aload_n hx hb dX3_run_119 rfl (lv_at hl 2 rfl) ?_
          refine sv_get (own := RX3) (C := RX3) (Tf := TX3) (N := 17) (index := 12) (κ := (3, 1)) (v := .ref (h 25)) hx hb hts hown hK hW (fun _ h => List.mem_cons_of_mem _ (List.mem_append_left _ (List.mem_append_left _ (List.mem_append_left _ (List.mem_append_right _ h))))) (sx_i 24 hB (by decide)) (sx_c24 hB) rfl 0 (by decide) rfl rfl (List.mem_of_getElem? (i := 5) rfl) dX3_run_120 ?_
          refine lv_aload_n hx hb dX3_run_123 rfl (lv_at hl 2 rfl) ?_
          refine sv_get (own := RX3) (C := RX3) (Tf := TX3) (N := 17) (index := 18) (κ := (3, 3)) (v := .ref (h 27)) hx hb hts hown hK hW (fun _ h => List.mem_cons_of_mem _ (List.mem_append_left _ (List.mem_append_left _ (List.mem_append_left _ (List.mem_append_right _ h))))) (sx_i 24 hB (by decide)) (sx_c24 hB) rfl 1 (by decide) rfl rfl (List.mem_of_getElem? (i := 6) rfl) dX3_run_124 ?_
          refine lv_iload hx hb dX3_run_127 (lv_at hl 0 rfl) ?_
          obtain ⟨r18, σ19, eσ19, hs⟩ := sp_bind hs
          refine sv_goV (σ' := σ19) (r := r18) hW F.2.2.2.1 (sv_runV (C := RX0) F hW (k_X0_see hB (sx_o25 hB) (sv_oA_of (sx_i 27 hB (by decide)) (sx_c27 hB)) eσ19 H.size) gX3_run_X0_see rfl ⟨rfl, rfl⟩ 2 (by decide +kernel) (sv_room2 (by omega) (by omega)) (sx_i 25 hB (by decide)) (sx_c25 hB) rfl rfl hl.1 rfl (Nat.le_of_ble_eq_true rfl) dX3_run_129 ⟨Nat.zero_le _, Nat.zero_le _⟩) (fun H locs hW => ?_)
          refine lv_aload_n hx hb dX3_run_132 rfl (lv_at hl 2 rfl) ?_
          refine lv_dup hx hb dX3_run_133 rfl ?_
          refine sv_get (own := RX3) (C := RX3) (Tf := TX3) (N := 17) (index := 44) (κ := (0, 0)) (v := .int (σ19.1 24 3)) hx hb hts hown hK hW (fun _ h => List.mem_cons_of_mem _ (List.mem_append_left _ (List.mem_append_left _ (List.mem_append_left _ (List.mem_append_right _ h))))) (sx_i 24 hB (by decide)) (sx_c24 hB) rfl 3 (by decide) rfl rfl (List.mem_of_getElem? (i := 1) rfl) dX3_run_134 ?_
          refine lv_aload_n hx hb dX3_run_137 rfl (lv_at hl 2 rfl) ?_
          refine sv_get (own := RX3) (C := RX3) (Tf := TX3) (N := 17) (index := 12) (κ := (3, 1)) (v := .ref (h 25)) hx hb hts hown hK hW (fun _ h => List.mem_cons_of_mem _ (List.mem_append_left _ (List.mem_append_left _ (List.mem_append_left _ (List.mem_append_right _ h))))) (sx_i 24 hB (by decide)) (sx_c24 hB) rfl 0 (by decide) rfl rfl (List.mem_of_getElem? (i := 5) rfl) dX3_run_138 ?_
          obtain ⟨r20, σ21, eσ21, hs⟩ := sp_bind hs
          refine sv_goI (σ' := σ21) (r := r20) hW F.2.2.2.1 (sv_runV (C := RX0) F hW (k_X0_worth hB (sx_o25 hB) eσ21 H.size) gX3_run_X0_worth rfl ⟨rfl, rfl⟩ 0 (by decide +kernel) (sv_room2 (by omega) (by omega)) (sx_i 25 hB (by decide)) (sx_c25 hB) rfl rfl hl.1 rfl (Nat.le_of_ble_eq_true rfl) dX3_run_141 ⟨Nat.zero_le _, Nat.zero_le _⟩) (fun H locs hW => ?_)
          refine lv_iadd hx hb dX3_run_144 ?_
          refine sv_putI (own := RX3) (C := RX3) (Tf := TX3) (N := 17) (index := 44) hx hb hts hown hK hW (fun _ h => List.mem_cons_of_mem _ (List.mem_append_left _ (List.mem_append_left _ (List.mem_append_left _ (List.mem_append_right _ h))))) tyX3 tyX3_ok nmX3 (sx_i 24 hB (by decide)) (sx_c24 hB) rfl 3 (by decide) rfl rfl (ty := .int) (by decide +kernel) rfl rfl (List.mem_of_getElem? (i := 1) rfl) dX3_run_145 (fun σ22 H locs eσ22 hW => ?_)
          replace hs := sp_let hs eσ22
          refine lv_aload_n hx hb dX3_run_148 rfl (lv_at hl 2 rfl) ?_
          refine lv_dup hx hb dX3_run_149 rfl ?_
          refine sv_get (own := RX3) (C := RX3) (Tf := TX3) (N := 17) (index := 48) (κ := (0, 0)) (v := .int (σ22.1 24 4)) hx hb hts hown hK hW (fun _ h => List.mem_cons_of_mem _ (List.mem_append_left _ (List.mem_append_left _ (List.mem_append_left _ (List.mem_append_right _ h))))) (sx_i 24 hB (by decide)) (sx_c24 hB) rfl 4 (by decide) rfl rfl (List.mem_of_getElem? (i := 2) rfl) dX3_run_150 ?_
          refine lv_iconst (v := 1) hx hb dX3_run_153 (by decide) ?_
          refine lv_iload hx hb dX3_run_154 (lv_at hl 1 rfl) ?_
          refine lv_ishl hx hb dX3_run_156 ?_
          refine lv_ior hx hb dX3_run_157 ?_
          refine sv_putI (own := RX3) (C := RX3) (Tf := TX3) (N := 17) (index := 48) hx hb hts hown hK hW (fun _ h => List.mem_cons_of_mem _ (List.mem_append_left _ (List.mem_append_left _ (List.mem_append_left _ (List.mem_append_right _ h))))) tyX3 tyX3_ok nmX3 (sx_i 24 hB (by decide)) (sx_c24 hB) rfl 4 (by decide) rfl rfl (ty := .int) (by decide +kernel) rfl rfl (List.mem_of_getElem? (i := 2) rfl) dX3_run_158 (fun σ23 H locs eσ23 hW => ?_)
          replace hs := sp_let hs eσ23
          refine lv_aload_n hx hb dX3_run_161 rfl (lv_at hl 2 rfl) ?_
          refine lv_iload hx hb dX3_run_162 (lv_at hl 0 rfl) ?_
          refine sv_putI (own := RX3) (C := RX3) (Tf := TX3) (N := 17) (index := 51) hx hb hts hown hK hW (fun _ h => List.mem_cons_of_mem _ (List.mem_append_left _ (List.mem_append_left _ (List.mem_append_left _ (List.mem_append_right _ h))))) tyX3 tyX3_ok nmX3 (sx_i 24 hB (by decide)) (sx_c24 hB) rfl 5 (by decide) rfl rfl (ty := .int) (by decide +kernel) rfl rfl (List.mem_of_getElem? (i := 3) rfl) dX3_run_164 (fun σ24 H locs eσ24 hW => ?_)
          replace hs := sp_let hs eσ24
          obtain ⟨v25, ev25⟩ : ∃ y : Int32, y = x5 + 1 := ⟨_, rfl⟩
          replace hs := sp_let hs ev25
          refine lv_iinc (v := v25) (lv' := [(5, .int v25), (7, .int r15), (6, .int r9), (0, .ref (h 24)), (1, .ref (h 1)), (2, .ref (h b2)), (3, .int x3), (4, .int x4)]) hx hb dX3_run_167 hl (k := 7) rfl (by rw [ev25]; rfl) (by decide) rfl (fun ls hl => ?_)
          refine lv_goto (tgt := 37) hx hb dX3_run_170 (by decide) ?_
          exact ih x3 x4 v25 σ24 H locs ls (lv_sub hl [3, 4, 5, 6, 7, 0] rfl) hW hs
        · replace hs := (sp_ite hs).1 c17
          refine lv_aload_n hx hb dX3_run_103 rfl (lv_at hl 2 rfl) ?_
          refine lv_dup hx hb dX3_run_104 rfl ?_
          refine sv_get (own := RX3) (C := RX3) (Tf := TX3) (N := 17) (index := 54) (κ := (0, 0)) (v := .int (σ16.1 24 6)) hx hb hts hown hK hW (fun _ h => List.mem_cons_of_mem _ (List.mem_append_left _ (List.mem_append_left _ (List.mem_append_left _ (List.mem_append_right _ h))))) (sx_i 24 hB (by decide)) (sx_c24 hB) rfl 6 (by decide) rfl rfl (List.mem_of_getElem? (i := 4) rfl) dX3_run_105 ?_
          refine lv_iconst (v := 1) hx hb dX3_run_108 (by decide) ?_
          refine lv_iload hx hb dX3_run_109 (lv_at hl 1 rfl) ?_
          refine lv_ishl hx hb dX3_run_111 ?_
          refine lv_ior hx hb dX3_run_112 ?_
          refine sv_putI (own := RX3) (C := RX3) (Tf := TX3) (N := 17) (index := 54) hx hb hts hown hK hW (fun _ h => List.mem_cons_of_mem _ (List.mem_append_left _ (List.mem_append_left _ (List.mem_append_left _ (List.mem_append_right _ h))))) tyX3 tyX3_ok nmX3 (sx_i 24 hB (by decide)) (sx_c24 hB) rfl 6 (by decide) rfl rfl (ty := .int) (by decide +kernel) rfl rfl (List.mem_of_getElem? (i := 4) rfl) dX3_run_113 (fun σ26 H locs eσ26 hW => ?_)
          replace hs := sp_let hs eσ26
          refine lv_goto (tgt := 167) hx hb dX3_run_116 (by decide) ?_
          obtain ⟨v27, ev27⟩ : ∃ y : Int32, y = x5 + 1 := ⟨_, rfl⟩
          replace hs := sp_let hs ev27
          refine lv_iinc (v := v27) (lv' := [(5, .int v27), (7, .int r15), (6, .int r9), (0, .ref (h 24)), (1, .ref (h 1)), (2, .ref (h b2)), (3, .int x3), (4, .int x4)]) hx hb dX3_run_167 hl (k := 7) rfl (by rw [ev27]; rfl) (by decide) rfl (fun ls hl => ?_)
          refine lv_goto (tgt := 37) hx hb dX3_run_170 (by decide) ?_
          exact ih x3 x4 v27 σ26 H locs ls (lv_sub hl [3, 4, 5, 6, 7, 0] rfl) hW hs
set_option maxRecDepth 100000 in
set_option maxHeartbeats 4000000 in
theorem k_X3_run {qK qV : Nat → Nat} {l : Launch} {D : va_G} {T : Nat → ClassId} {h : Nat → Nat} {θ : sv_T} {b2 : Nat} {a3 : Int32} {σ : sv_S} {r : Unit} {σ' : sv_S} (hB : sx_base θ) (hb2 : sv_oA θ b2) (hs : q_X3_run θ b2 a3 σ = some (r, σ')) : sv_Mv (sx_X qK qV) l D T (sx_tys T) h θ yX3_run wsX3_run (sv_rm 5 114) [.ref (h 24), .ref (h 1), .ref (h b2), .int a3] σ r σ' := by
  intro sz
  refine sv_enter (cc := cX3_run) (maxL := 8) (ret := none) (Qc := fun A => va_Qv (fun (_ : Unit) => True) (fun _ t => va_P D vwCl (sv_ws T h θ σ') t.heap) A) sx_XP (by decide) rfl (Nat.le_of_ble_eq_true rfl) ?_
  intro p e s m args below meth c A F hr hlk ls H hl hW
  have hx := F.1.1
  have hb := F.1.2.1
  have hts := F.1.2.2.2.2
  have hown := F.1.2.2.2.1
  have hK := F.2.1
  obtain ⟨locs, hlocs⟩ : ∃ z : List Loc, z = [] := ⟨_, rfl⟩
  rw [← hlocs] at hW ⊢
  have hl : lv_has ls 8 [(0, .ref (h 24)), (1, .ref (h 1)), (2, .ref (h b2)), (3, .int a3)] := hl
  unfold q_X3_run at hs
  refine lv_aload_n hx hb dX3_run_0 rfl (lv_at hl 0 rfl) ?_
  refine lv_iconst (v := 0) hx hb dX3_run_1 (by decide) ?_
  refine sv_putI (own := RX3) (C := RX3) (Tf := TX3) (N := 17) (index := 44) hx hb hts hown hK hW (fun _ h => List.mem_cons_of_mem _ (List.mem_append_left _ (List.mem_append_left _ (List.mem_append_left _ (List.mem_append_right _ h))))) tyX3 tyX3_ok nmX3 (sx_i 24 hB (by decide)) (sx_c24 hB) rfl 3 (by decide) rfl rfl (ty := .int) (by decide +kernel) rfl rfl (List.mem_of_getElem? (i := 1) rfl) dX3_run_2 (fun σ1 H locs eσ1 hW => ?_)
  replace hs := sp_let hs eσ1
  refine lv_aload_n hx hb dX3_run_5 rfl (lv_at hl 0 rfl) ?_
  refine lv_iconst (v := 0) hx hb dX3_run_6 (by decide) ?_
  refine sv_putI (own := RX3) (C := RX3) (Tf := TX3) (N := 17) (index := 48) hx hb hts hown hK hW (fun _ h => List.mem_cons_of_mem _ (List.mem_append_left _ (List.mem_append_left _ (List.mem_append_left _ (List.mem_append_right _ h))))) tyX3 tyX3_ok nmX3 (sx_i 24 hB (by decide)) (sx_c24 hB) rfl 4 (by decide) rfl rfl (ty := .int) (by decide +kernel) rfl rfl (List.mem_of_getElem? (i := 2) rfl) dX3_run_7 (fun σ2 H locs eσ2 hW => ?_)
  replace hs := sp_let hs eσ2
  refine lv_aload_n hx hb dX3_run_10 rfl (lv_at hl 0 rfl) ?_
  refine lv_iconst (v := -1) hx hb dX3_run_11 (by decide) ?_
  refine sv_putI (own := RX3) (C := RX3) (Tf := TX3) (N := 17) (index := 51) hx hb hts hown hK hW (fun _ h => List.mem_cons_of_mem _ (List.mem_append_left _ (List.mem_append_left _ (List.mem_append_left _ (List.mem_append_right _ h))))) tyX3 tyX3_ok nmX3 (sx_i 24 hB (by decide)) (sx_c24 hB) rfl 5 (by decide) rfl rfl (ty := .int) (by decide +kernel) rfl rfl (List.mem_of_getElem? (i := 3) rfl) dX3_run_12 (fun σ3 H locs eσ3 hW => ?_)
  replace hs := sp_let hs eσ3
  refine lv_aload_n hx hb dX3_run_15 rfl (lv_at hl 0 rfl) ?_
  refine lv_iconst (v := 0) hx hb dX3_run_16 (by decide) ?_
  refine sv_putI (own := RX3) (C := RX3) (Tf := TX3) (N := 17) (index := 54) hx hb hts hown hK hW (fun _ h => List.mem_cons_of_mem _ (List.mem_append_left _ (List.mem_append_left _ (List.mem_append_left _ (List.mem_append_right _ h))))) tyX3 tyX3_ok nmX3 (sx_i 24 hB (by decide)) (sx_c24 hB) rfl 6 (by decide) rfl rfl (ty := .int) (by decide +kernel) rfl rfl (List.mem_of_getElem? (i := 4) rfl) dX3_run_17 (fun σ4 H locs eσ4 hW => ?_)
  replace hs := sp_let hs eσ4
  refine lv_aload_n hx hb dX3_run_20 rfl (lv_at hl 1 rfl) ?_
  refine lv_ifnonnull (tgt := 28) hx hb dX3_run_21 (by decide) ?_
  refine lv_aload_n hx hb dX3_run_28 rfl (lv_at hl 1 rfl) ?_
  obtain ⟨r5, σ6, eσ6, hs⟩ := sp_bind hs
  refine sv_goI (σ' := σ6) (r := r5) hW F.2.2.2.1 (sv_runV (C := RX2) F hW (k_X2_shakenCount hB eσ6 H.size) gX3_run_X2_shakenCount rfl ⟨rfl, rfl⟩ 0 (by decide +kernel) (sv_room2 (by omega) (by omega)) (sx_i 1 hB (by decide)) (sx_c1 hB) rfl rfl hl.1 rfl (Nat.le_of_ble_eq_true rfl) dX3_run_29 ⟨Nat.zero_le _, Nat.zero_le _⟩) (fun H locs hW => ?_)
  refine lv_istore (lv' := [(4, .int r5), (0, .ref (h 24)), (1, .ref (h 1)), (2, .ref (h b2)), (3, .int a3)]) hx hb dX3_run_32 hl (by decide) rfl (fun ls hl => ?_)
  refine lv_iconst (v := 0) hx hb dX3_run_34 (by decide) ?_
  refine lv_istore (lv' := [(5, .int (0 : Int32)), (4, .int r5), (0, .ref (h 24)), (1, .ref (h 1)), (2, .ref (h b2)), (3, .int a3)]) hx hb dX3_run_35 hl (by decide) rfl (fun ls hl => ?_)
  exact b_X3_run_37 hB hb2 F hr hlk sv_N a3 r5 (0 : Int32) σ6 H locs ls (lv_sub hl [2, 3, 4, 5, 1, 0] rfl) hW hs
set_option maxRecDepth 100000 in
set_option maxHeartbeats 4000000 in
theorem k_X7_hasBit {qK qV : Nat → Nat} {l : Launch} {D : va_G} {T : Nat → ClassId} {h : Nat → Nat} {θ : sv_T} {a1 : Int32} {a2 : Int32} {σ : sv_S} {r : Int32} {σ' : sv_S} (hB : sx_base θ)  (hs : q_X7_hasBit θ a1 a2 σ = some (r, σ')) : sv_Mi (sx_X qK qV) l D T (sx_tys T) h θ yX7_hasBit wsX7_hasBit (sv_rm 0 0) [.int a1, .int a2] σ r σ' := by
  intro sz
  refine sv_enter (cc := cX7_hasBit) (maxL := 2) (ret := (some .boolean)) (Qc := fun A => va_Qi (fun r2 (_ : Unit) => r2 = r) (fun _ t => va_P D vwCl (sv_ws T h θ σ') t.heap) A) sx_XP (by decide) rfl (Nat.le_of_ble_eq_true rfl) ?_
  intro p e s m args below meth c A F hr hlk ls H hl hW
  have hx := F.1.1
  have hb := F.1.2.1
  have hts := F.1.2.2.2.2
  have hown := F.1.2.2.2.1
  have hK := F.2.1
  obtain ⟨locs, hlocs⟩ : ∃ z : List Loc, z = [] := ⟨_, rfl⟩
  rw [← hlocs] at hW ⊢
  have hl : lv_has ls 2 [(0, .int a1), (1, .int a2)] := hl
  unfold q_X7_hasBit at hs
  refine lv_iload_n hx hb dX7_hasBit_0 rfl (lv_at hl 1 rfl) ?_
  refine lv_if_lt (tgt := 22) hx hb dX7_hasBit_1 (by decide) (fun c1 => ?_) (fun c1 => ?_)
  · replace hs := (sp_ite hs).1 c1
    refine lv_iconst (v := 0) hx hb dX7_hasBit_22 (by decide) ?_
    cases hs
    exact sv_iret hx hb hr rfl hlk hW dX7_hasBit_23
  · replace hs := (sp_ite hs).2 c1
    refine lv_iload_n hx hb dX7_hasBit_4 rfl (lv_at hl 1 rfl) ?_
    refine lv_bipush (v := 31) hx hb dX7_hasBit_5 (by decide) ?_
    refine lv_icmp_ge (tgt := 22) hx hb dX7_hasBit_7 (by decide) (fun c2 => ?_) (fun c2 => ?_)
    · replace hs := (sp_ite hs).1 c2
      refine lv_iconst (v := 0) hx hb dX7_hasBit_22 (by decide) ?_
      cases hs
      exact sv_iret hx hb hr rfl hlk hW dX7_hasBit_23
    · replace hs := (sp_ite hs).2 c2
      refine lv_iload_n hx hb dX7_hasBit_10 rfl (lv_at hl 0 rfl) ?_
      refine lv_iload_n hx hb dX7_hasBit_11 rfl (lv_at hl 1 rfl) ?_
      refine lv_ishr hx hb dX7_hasBit_12 ?_
      refine lv_iconst (v := 1) hx hb dX7_hasBit_13 (by decide) ?_
      refine lv_iand hx hb dX7_hasBit_14 ?_
      refine lv_if_eq (tgt := 22) hx hb dX7_hasBit_15 (by decide) (fun c3 => ?_) (fun c3 => ?_)
      · replace hs := (sp_ite hs).1 c3
        refine lv_iconst (v := 0) hx hb dX7_hasBit_22 (by decide) ?_
        cases hs
        exact sv_iret hx hb hr rfl hlk hW dX7_hasBit_23
      · replace hs := (sp_ite hs).2 c3
        refine lv_iconst (v := 1) hx hb dX7_hasBit_18 (by decide) ?_
        refine lv_goto (tgt := 23) hx hb dX7_hasBit_19 (by decide) ?_
        cases hs
        exact sv_iret hx hb hr rfl hlk hW dX7_hasBit_23
set_option maxRecDepth 100000 in
set_option maxHeartbeats 4000000 in
theorem b_X3_lineUp_18 {qK qV : Nat → Nat} {p : Program} {l : Launch} {e : Env} {s : State} {m : MethodId} {args : Array Value} {below : List Frame} {meth : Method} {c : Code} {D : va_G} {T : Nat → ClassId} {A : Nat → Prop} {h : Nat → Nat} {θ : sv_T}  {r : Int32} {σ' : sv_S} (hB : sx_base θ)  (F : sv_F (sx_X qK qV) p m c cX3_lineUp 5 s args wsX3_lineUp RX3 D (sx_tys T) A) (hr : meth.sig.returnType = (some .int)) (hlk : meth.locks = false)  : ∀ (n : Nat), ∀ (x2 : Int32) (x3 : Int32) (x4 : Int32) (σ : sv_S) (H : Heap) (locs : List Loc) (ls : Array Slot), lv_has ls 5 [(0, .ref (h 24)), (2, .int x2), (3, .int x3), (4, .int x4)] → sv_W D T A s h θ σ H locs → q_X3_lineUp_B18 θ  n x2 x3 x4 σ = some (r, σ') → W p l e (sv_rm 2 43) s m args below meth c H locs 0 0 (MQ below (va_Qi (fun r2 (_ : Unit) => r2 = r) (fun _ t => va_P D vwCl (sv_ws T h θ σ') t.heap) A) args s 0 0 A) (F0 m 18 ls []) := by
  have hx := F.1.1
  have hb := F.1.2.1
  have hts := F.1.2.2.2.2
  have hown := F.1.2.2.2.1
  have hK := F.2.1
  intro n
  induction n with
  | zero =>
    intro x2 x3 x4 σ H locs ls hl hW hs
    have hs : (none : Option (Int32 × sv_S)) = some (r, σ') := hs
    cases hs
  | succ n ih =>
    intro x2 x3 x4 σ H locs ls hl hW hs
    have hs : q_X3_lineUp_B18_b θ  (q_X3_lineUp_B18 θ  n) x2 x3 x4 σ = some (r, σ') := hs
    unfold q_X3_lineUp_B18_b at hs
    refine lv_iload hx hb dX3_lineUp_18 (lv_at hl 3 rfl) ?_
    refine lv_bipush (v := 6) hx hb dX3_lineUp_20 (by decide) ?_
    refine lv_icmp_ge (tgt := 53) hx hb dX3_lineUp_22 (by decide) (fun c3 => ?_) (fun c3 => ?_)
    · replace hs := (sp_ite hs).1 c3
      refine lv_iload_n hx hb dX3_lineUp_53 rfl (lv_at hl 2 rfl) ?_
      cases hs
      exact sv_iret hx hb hr rfl hlk hW dX3_lineUp_54
    · replace hs := (sp_ite hs).2 c3
      refine lv_iload_n hx hb dX3_lineUp_25 rfl (lv_at hl 1 rfl) ?_
      refine lv_iload hx hb dX3_lineUp_26 (lv_at hl 3 rfl) ?_
      obtain ⟨r4, σ5, eσ5, hs⟩ := sp_bind hs
      refine sv_goI (σ' := σ5) (r := r4) hW F.2.2.2.1 (sv_runN (own := RX3) (host := "OpenWhileItRains") F hW (k_X7_hasBit hB eσ5 H.size) gX3_lineUp_X7_hasBit_n90 rfl ⟨rfl, rfl⟩ (F.2.2.1.1 _ (List.mem_of_getElem? (i := 17) rfl)) (List.mem_of_getElem? (i := 10) rfl) (List.mem_of_getElem? (i := 12) rfl) 2 (by decide +kernel) (sv_room2 (by omega) (by omega)) rfl hl.1 rfl (Nat.le_of_ble_eq_true rfl) dX3_lineUp_28 ⟨Nat.zero_le _, Nat.zero_le _⟩) (fun H locs hW => ?_)
      refine lv_if_eq (tgt := 47) hx hb dX3_lineUp_31 (by decide) (fun c6 => ?_) (fun c6 => ?_)
      · replace hs := (sp_ite hs).1 c6
        obtain ⟨v7, ev7⟩ : ∃ y : Int32, y = x4 + 1 := ⟨_, rfl⟩
        replace hs := sp_let hs ev7
        refine lv_iinc (v := v7) (lv' := [(4, .int v7), (0, .ref (h 24)), (2, .int x2), (3, .int x3)]) hx hb dX3_lineUp_47 hl (k := 3) rfl (by rw [ev7]; rfl) (by decide) rfl (fun ls hl => ?_)
        refine lv_goto (tgt := 18) hx hb dX3_lineUp_50 (by decide) ?_
        exact ih x2 x3 v7 σ5 H locs ls (lv_sub hl [1, 2, 3, 0] rfl) hW hs
      · replace hs := (sp_ite hs).2 c6
        refine lv_aload_n hx hb dX3_lineUp_34 rfl (lv_at hl 0 rfl) ?_
        refine sv_get (own := RX3) (C := RX3) (Tf := TX3) (N := 17) (index := 22) (κ := (3, 4)) (v := .ref (h 28)) hx hb hts hown hK hW (fun _ h => List.mem_cons_of_mem _ (List.mem_append_left _ (List.mem_append_right _ h))) (sx_i 24 hB (by decide)) (sx_c24 hB) rfl 2 (by decide) rfl rfl (List.mem_of_getElem? (i := 1) rfl) dX3_lineUp_35 ?_
        refine lv_iload_n hx hb dX3_lineUp_38 rfl (lv_at hl 2 rfl) ?_
        refine lv_iload hx hb dX3_lineUp_39 (lv_at hl 3 rfl) ?_
        obtain ⟨r8, σ9, eσ9, hs⟩ := sp_bind hs
        refine sv_goV (σ' := σ9) (r := r8) hW F.2.2.2.1 (sv_runN (own := RX3) (host := "OpenWhileItRains") F hW (k_X7_put hB (sv_oA_of (sx_i 28 hB (by decide)) (sx_c28 hB)) eσ9 H.size) gX3_lineUp_X7_put_n94 rfl ⟨rfl, rfl⟩ (F.2.2.1.1 _ (List.mem_of_getElem? (i := 18) rfl)) (List.mem_of_getElem? (i := 10) rfl) (List.mem_of_getElem? (i := 14) rfl) 3 (by decide +kernel) (sv_room2 (by omega) (by omega)) rfl hl.1 rfl (Nat.le_of_ble_eq_true rfl) dX3_lineUp_41 ⟨Nat.zero_le _, Nat.zero_le _⟩) (fun H locs hW => ?_)
        obtain ⟨v10, ev10⟩ : ∃ y : Int32, y = x3 + 1 := ⟨_, rfl⟩
        replace hs := sp_let hs ev10
        refine lv_iinc (v := v10) (lv' := [(3, .int v10), (0, .ref (h 24)), (2, .int x2), (4, .int x4)]) hx hb dX3_lineUp_44 hl (k := 2) rfl (by rw [ev10]; rfl) (by decide) rfl (fun ls hl => ?_)
        obtain ⟨v11, ev11⟩ : ∃ y : Int32, y = x4 + 1 := ⟨_, rfl⟩
        replace hs := sp_let hs ev11
        refine lv_iinc (v := v11) (lv' := [(4, .int v11), (3, .int v10), (0, .ref (h 24)), (2, .int x2)]) hx hb dX3_lineUp_47 hl (k := 3) rfl (by rw [ev11]; rfl) (by decide) rfl (fun ls hl => ?_)
        refine lv_goto (tgt := 18) hx hb dX3_lineUp_50 (by decide) ?_
        exact ih x2 v10 v11 σ9 H locs ls (lv_sub hl [2, 3, 1, 0] rfl) hW hs
set_option maxRecDepth 100000 in
set_option maxHeartbeats 4000000 in
theorem k_X3_lineUp {qK qV : Nat → Nat} {l : Launch} {D : va_G} {T : Nat → ClassId} {h : Nat → Nat} {θ : sv_T}  {σ : sv_S} {r : Int32} {σ' : sv_S} (hB : sx_base θ)  (hs : q_X3_lineUp θ  σ = some (r, σ')) : sv_Mi (sx_X qK qV) l D T (sx_tys T) h θ yX3_lineUp wsX3_lineUp (sv_rm 2 43) [.ref (h 24), .ref (h 1)] σ r σ' := by
  intro sz
  refine sv_enter (cc := cX3_lineUp) (maxL := 5) (ret := (some .int)) (Qc := fun A => va_Qi (fun r2 (_ : Unit) => r2 = r) (fun _ t => va_P D vwCl (sv_ws T h θ σ') t.heap) A) sx_XP (by decide) rfl (Nat.le_of_ble_eq_true rfl) ?_
  intro p e s m args below meth c A F hr hlk ls H hl hW
  have hx := F.1.1
  have hb := F.1.2.1
  have hts := F.1.2.2.2.2
  have hown := F.1.2.2.2.1
  have hK := F.2.1
  obtain ⟨locs, hlocs⟩ : ∃ z : List Loc, z = [] := ⟨_, rfl⟩
  rw [← hlocs] at hW ⊢
  have hl : lv_has ls 5 [(0, .ref (h 24)), (1, .ref (h 1))] := hl
  unfold q_X3_lineUp at hs
  refine lv_aload_n hx hb dX3_lineUp_0 rfl (lv_at hl 1 rfl) ?_
  refine lv_ifnonnull (tgt := 8) hx hb dX3_lineUp_1 (by decide) ?_
  refine lv_aload_n hx hb dX3_lineUp_8 rfl (lv_at hl 1 rfl) ?_
  obtain ⟨r1, σ2, eσ2, hs⟩ := sp_bind hs
  refine sv_goI (σ' := σ2) (r := r1) hW F.2.2.2.1 (sv_runV (C := RX2) F hW (k_X2_unshaken hB eσ2 H.size) gX3_lineUp_X2_unshaken rfl ⟨rfl, rfl⟩ 0 (by decide +kernel) (sv_room2 (by omega) (by omega)) (sx_i 1 hB (by decide)) (sx_c1 hB) rfl rfl hl.1 rfl (Nat.le_of_ble_eq_true rfl) dX3_lineUp_9 ⟨Nat.zero_le _, Nat.zero_le _⟩) (fun H locs hW => ?_)
  refine lv_istore_n (lv' := [(2, .int r1), (0, .ref (h 24)), (1, .ref (h 1))]) hx hb dX3_lineUp_12 rfl hl (by decide) rfl (fun ls hl => ?_)
  refine lv_iconst (v := 0) hx hb dX3_lineUp_13 (by decide) ?_
  refine lv_istore_n (lv' := [(3, .int (0 : Int32)), (2, .int r1), (0, .ref (h 24)), (1, .ref (h 1))]) hx hb dX3_lineUp_14 rfl hl (by decide) rfl (fun ls hl => ?_)
  refine lv_iconst (v := 0) hx hb dX3_lineUp_15 (by decide) ?_
  refine lv_istore (lv' := [(4, .int (0 : Int32)), (3, .int (0 : Int32)), (2, .int r1), (0, .ref (h 24)), (1, .ref (h 1))]) hx hb dX3_lineUp_16 hl (by decide) rfl (fun ls hl => ?_)
  exact b_X3_lineUp_18 hB F hr hlk sv_N r1 (0 : Int32) (0 : Int32) σ2 H locs ls (lv_sub hl [3, 2, 1, 0] rfl) hW hs
set_option maxRecDepth 100000 in
set_option maxHeartbeats 4000000 in
theorem k_X3_entry {qK qV : Nat → Nat} {l : Launch} {D : va_G} {T : Nat → ClassId} {h : Nat → Nat} {θ : sv_T} {a1 : Int32} {a2 : Int32} {a3 : Int32} {σ : sv_S} {r : Int32} {σ' : sv_S} (hB : sx_base θ)  (hs : q_X3_entry θ a1 a2 a3 σ = some (r, σ')) : sv_Mi (sx_X qK qV) l D T (sx_tys T) h θ yX3_entry wsX3_entry (sv_rm 0 0) [.ref (h 24), .int a1, .int a2, .int a3] σ r σ' := by
  intro sz
  refine sv_enter (cc := cX3_entry) (maxL := 4) (ret := (some .int)) (Qc := fun A => va_Qi (fun r2 (_ : Unit) => r2 = r) (fun _ t => va_P D vwCl (sv_ws T h θ σ') t.heap) A) sx_XP (by decide) rfl (Nat.le_of_ble_eq_true rfl) ?_
  intro p e s m args below meth c A F hr hlk ls H hl hW
  have hx := F.1.1
  have hb := F.1.2.1
  have hts := F.1.2.2.2.2
  have hown := F.1.2.2.2.1
  have hK := F.2.1
  obtain ⟨locs, hlocs⟩ : ∃ z : List Loc, z = [] := ⟨_, rfl⟩
  rw [← hlocs] at hW ⊢
  have hl : lv_has ls 4 [(0, .ref (h 24)), (1, .int a1), (2, .int a2), (3, .int a3)] := hl
  unfold q_X3_entry at hs
  refine lv_iload_n hx hb dX3_entry_0 rfl (lv_at hl 1 rfl) ?_
  refine lv_bipush (v := 6) hx hb dX3_entry_1 (by decide) ?_
  refine lv_imul hx hb dX3_entry_3 ?_
  refine lv_iload_n hx hb dX3_entry_4 rfl (lv_at hl 2 rfl) ?_
  refine lv_iadd hx hb dX3_entry_5 ?_
  refine lv_bipush (v := 24) hx hb dX3_entry_6 (by decide) ?_
  refine lv_imul hx hb dX3_entry_8 ?_
  refine lv_iload_n hx hb dX3_entry_9 rfl (lv_at hl 3 rfl) ?_
  refine lv_iadd hx hb dX3_entry_10 ?_
  cases hs
  exact sv_iret hx hb hr rfl hlk hW dX3_entry_11
set_option maxRecDepth 100000 in
set_option maxHeartbeats 4000000 in
theorem b_X3_learn_30 {qK qV : Nat → Nat} {p : Program} {l : Launch} {e : Env} {s : State} {m : MethodId} {args : Array Value} {below : List Frame} {meth : Method} {c : Code} {D : va_G} {T : Nat → ClassId} {A : Nat → Prop} {h : Nat → Nat} {θ : sv_T} {a2 : Int32} {a3 : Int32} {r : Unit} {σ' : sv_S} (hB : sx_base θ)  (F : sv_F (sx_X qK qV) p m c cX3_learn 8 s args wsX3_learn RX3 D (sx_tys T) A) (hr : meth.sig.returnType = none) (hlk : meth.locks = false) (k17 : Int32 → Int32 → Int32 → Int32 → sv_S → Option (Unit × sv_S)) (hk17 : ∀ (x2 : Int32) (x3 : Int32) (x4 : Int32) (x5 : Int32) (σ : sv_S) (H : Heap) (locs : List Loc) (ls : Array Slot), lv_has ls 8 [(0, .ref (h 24)), (1, .ref (h 1)), (2, .int x2), (3, .int x3), (4, .int x4), (5, .int x5)] → sv_W D T A s h θ σ H locs → k17 x2 x3 x4 x5 σ = some (r, σ') → W p l e (sv_rm 3 68) s m args below meth c H locs 0 0 (MQ below (va_Qv (fun (_ : Unit) => True) (fun _ t => va_P D vwCl (sv_ws T h θ σ') t.heap) A) args s 0 0 A) (F0 m 17 ls [])) : ∀ (n : Nat), ∀ (x2 : Int32) (x3 : Int32) (x4 : Int32) (x5 : Int32) (x6 : Int32) (σ : sv_S) (H : Heap) (locs : List Loc) (ls : Array Slot), lv_has ls 8 [(0, .ref (h 24)), (1, .ref (h 1)), (2, .int x2), (3, .int x3), (4, .int x4), (5, .int x5), (6, .int x6)] → sv_W D T A s h θ σ H locs → q_X3_learn_B30 θ a2 a3 k17 n x2 x3 x4 x5 x6 σ = some (r, σ') → W p l e (sv_rm 3 68) s m args below meth c H locs 0 0 (MQ below (va_Qv (fun (_ : Unit) => True) (fun _ t => va_P D vwCl (sv_ws T h θ σ') t.heap) A) args s 0 0 A) (F0 m 30 ls []) := by
  have hx := F.1.1
  have hb := F.1.2.1
  have hts := F.1.2.2.2.2
  have hown := F.1.2.2.2.1
  have hK := F.2.1
  intro n
  induction n with
  | zero =>
    intro x2 x3 x4 x5 x6 σ H locs ls hl hW hs
    have hs : (none : Option (Unit × sv_S)) = some (r, σ') := hs
    cases hs
  | succ n ih =>
    intro x2 x3 x4 x5 x6 σ H locs ls hl hW hs
    have hs : q_X3_learn_B30_b θ a2 a3 k17 (q_X3_learn_B30 θ a2 a3 k17 n) x2 x3 x4 x5 x6 σ = some (r, σ') := hs
    unfold q_X3_learn_B30_b at hs
    refine lv_iload hx hb dX3_learn_30 (lv_at hl 6 rfl) ?_
    refine lv_iload hx hb dX3_learn_32 (lv_at hl 4 rfl) ?_
    refine lv_icmp_ge (tgt := 135) hx hb dX3_learn_34 (by decide) (fun c6 => ?_) (fun c6 => ?_)
    · replace hs := (sp_ite hs).1 c6
      obtain ⟨v7, ev7⟩ : ∃ y : Int32, y = x5 + 1 := ⟨_, rfl⟩
      replace hs := sp_let hs ev7
      refine lv_iinc (v := v7) (lv' := [(5, .int v7), (0, .ref (h 24)), (1, .ref (h 1)), (2, .int x2), (3, .int x3), (4, .int x4), (6, .int x6)]) hx hb dX3_learn_135 hl (k := 5) rfl (by rw [ev7]; rfl) (by decide) rfl (fun ls hl => ?_)
      refine lv_goto (tgt := 17) hx hb dX3_learn_138 (by decide) ?_
      exact hk17 x2 x3 x4 v7 σ H locs ls (lv_sub hl [1, 2, 3, 4, 5, 0] rfl) hW hs
    · replace hs := (sp_ite hs).2 c6
      refine lv_iload_n hx hb dX3_learn_37 rfl (lv_at hl 2 rfl) ?_
      refine lv_iload hx hb dX3_learn_38 (lv_at hl 5 rfl) ?_
      obtain ⟨r8, σ9, eσ9, hs⟩ := sp_bind hs
      refine sv_goI (σ' := σ9) (r := r8) hW F.2.2.2.1 (sv_runN (own := RX3) (host := "OpenWhileItRains") F hW (k_X7_hasBit hB eσ9 H.size) gX3_learn_X7_hasBit_n90 rfl ⟨rfl, rfl⟩ (F.2.2.1.1 _ (List.mem_of_getElem? (i := 17) rfl)) (List.mem_of_getElem? (i := 16) rfl) (List.mem_of_getElem? (i := 15) rfl) 2 (by decide +kernel) (sv_room2 (by omega) (by omega)) rfl hl.1 rfl (Nat.le_of_ble_eq_true rfl) dX3_learn_40 ⟨Nat.zero_le _, Nat.zero_le _⟩) (fun H locs hW => ?_)
      refine lv_if_eq (tgt := 135) hx hb dX3_learn_43 (by decide) (fun c10 => ?_) (fun c10 => ?_)
      · replace hs := (sp_ite hs).1 c10
        obtain ⟨v11, ev11⟩ : ∃ y : Int32, y = x5 + 1 := ⟨_, rfl⟩
        replace hs := sp_let hs ev11
        refine lv_iinc (v := v11) (lv' := [(5, .int v11), (0, .ref (h 24)), (1, .ref (h 1)), (2, .int x2), (3, .int x3), (4, .int x4), (6, .int x6)]) hx hb dX3_learn_135 hl (k := 5) rfl (by rw [ev11]; rfl) (by decide) rfl (fun ls hl => ?_)
        refine lv_goto (tgt := 17) hx hb dX3_learn_138 (by decide) ?_
        exact hk17 x2 x3 x4 v11 σ9 H locs ls (lv_sub hl [1, 2, 3, 4, 5, 0] rfl) hW hs
      · replace hs := (sp_ite hs).2 c10
        refine lv_aload_n hx hb dX3_learn_46 rfl (lv_at hl 0 rfl) ?_
        refine lv_iload hx hb dX3_learn_47 (lv_at hl 5 rfl) ?_
        refine lv_iload hx hb dX3_learn_49 (lv_at hl 6 rfl) ?_
        refine lv_iload_n hx hb dX3_learn_51 rfl (lv_at hl 3 rfl) ?_
        obtain ⟨r12, σ13, eσ13, hs⟩ := sp_bind hs
        refine sv_goI (σ' := σ13) (r := r12) hW F.2.2.2.1 (sv_runV (C := RX3) F hW (k_X3_entry hB eσ13 H.size) gX3_learn_X3_entry rfl ⟨rfl, rfl⟩ 3 (by decide +kernel) (sv_room2 (by omega) (by omega)) (sx_i 24 hB (by decide)) (sx_c24 hB) rfl rfl hl.1 rfl (Nat.le_of_ble_eq_true rfl) dX3_learn_52 ⟨Nat.zero_le _, Nat.zero_le _⟩) (fun H locs hW => ?_)
        refine lv_istore (lv' := [(7, .int r12), (0, .ref (h 24)), (1, .ref (h 1)), (2, .int x2), (3, .int x3), (4, .int x4), (5, .int x5), (6, .int x6)]) hx hb dX3_learn_55 hl (by decide) rfl (fun ls hl => ?_)
        refine lv_aload_n hx hb dX3_learn_57 rfl (lv_at hl 1 rfl) ?_
        refine sv_get (own := RX3) (C := RX3) (Tf := TX3) (N := 17) (index := 12) (κ := (3, 1)) (v := .ref (h 25)) hx hb hts hown hK hW (fun _ h => List.mem_cons_of_mem _ (List.mem_append_left _ (List.mem_append_left _ (List.mem_append_left _ (List.mem_append_right _ h))))) (sx_i 24 hB (by decide)) (sx_c24 hB) rfl 0 (by decide) rfl rfl (List.mem_of_getElem? (i := 3) rfl) dX3_learn_58 ?_
        refine lv_aload_n hx hb dX3_learn_61 rfl (lv_at hl 2 rfl) ?_
        refine lv_iload hx hb dX3_learn_62 (lv_at hl 6 rfl) ?_
        refine lv_iload hx hb dX3_learn_64 (lv_at hl 7 rfl) ?_
        obtain ⟨r14, σ15, eσ15, hs⟩ := sp_bind hs
        refine sv_goV (σ' := σ15) (r := r14) hW F.2.2.2.1 (sv_runV (C := RX0) F hW (k_X0_regard hB (sx_o25 hB) eσ15 H.size) gX3_learn_X0_regard rfl ⟨rfl, rfl⟩ 3 (by decide +kernel) (sv_room2 (by omega) (by omega)) (sx_i 25 hB (by decide)) (sx_c25 hB) rfl rfl hl.1 rfl (Nat.le_of_ble_eq_true rfl) dX3_learn_66 ⟨Nat.zero_le _, Nat.zero_le _⟩) (fun H locs hW => ?_)
        refine lv_aload_n hx hb dX3_learn_69 rfl (lv_at hl 1 rfl) ?_
        refine sv_get (own := RX3) (C := RX3) (Tf := TX3) (N := 17) (index := 12) (κ := (3, 1)) (v := .ref (h 25)) hx hb hts hown hK hW (fun _ h => List.mem_cons_of_mem _ (List.mem_append_left _ (List.mem_append_left _ (List.mem_append_left _ (List.mem_append_right _ h))))) (sx_i 24 hB (by decide)) (sx_c24 hB) rfl 0 (by decide) rfl rfl (List.mem_of_getElem? (i := 3) rfl) dX3_learn_70 ?_
        refine lv_aload_n hx hb dX3_learn_73 rfl (lv_at hl 1 rfl) ?_
        refine sv_get (own := RX3) (C := RX3) (Tf := TX3) (N := 17) (index := 18) (κ := (3, 3)) (v := .ref (h 27)) hx hb hts hown hK hW (fun _ h => List.mem_cons_of_mem _ (List.mem_append_left _ (List.mem_append_left _ (List.mem_append_left _ (List.mem_append_right _ h))))) (sx_i 24 hB (by decide)) (sx_c24 hB) rfl 1 (by decide) rfl rfl (List.mem_of_getElem? (i := 4) rfl) dX3_learn_74 ?_
        refine lv_iload_n hx hb dX3_learn_77 rfl (lv_at hl 4 rfl) ?_
        obtain ⟨r16, σ17, eσ17, hs⟩ := sp_bind hs
        refine sv_goV (σ' := σ17) (r := r16) hW F.2.2.2.1 (sv_runV (C := RX0) F hW (k_X0_see hB (sx_o25 hB) (sv_oA_of (sx_i 27 hB (by decide)) (sx_c27 hB)) eσ17 H.size) gX3_learn_X0_see rfl ⟨rfl, rfl⟩ 2 (by decide +kernel) (sv_room2 (by omega) (by omega)) (sx_i 25 hB (by decide)) (sx_c25 hB) rfl rfl hl.1 rfl (Nat.le_of_ble_eq_true rfl) dX3_learn_78 ⟨Nat.zero_le _, Nat.zero_le _⟩) (fun H locs hW => ?_)
        refine lv_aload_n hx hb dX3_learn_81 rfl (lv_at hl 1 rfl) ?_
        refine sv_get (own := RX3) (C := RX3) (Tf := TX3) (N := 17) (index := 25) (κ := (3, 5)) (v := .ref (h 29)) hx hb hts hown hK hW (fun _ h => List.mem_cons_of_mem _ (List.mem_append_left _ (List.mem_append_left _ (List.mem_append_left _ (List.mem_append_right _ h))))) (sx_i 24 hB (by decide)) (sx_c24 hB) rfl 7 (by decide) rfl rfl (List.mem_of_getElem? (i := 5) rfl) dX3_learn_82 ?_
        refine lv_iload hx hb dX3_learn_85 (lv_at hl 0 rfl) ?_
        refine lv_aload_n hx hb dX3_learn_87 rfl (lv_at hl 1 rfl) ?_
        refine sv_get (own := RX3) (C := RX3) (Tf := TX3) (N := 17) (index := 12) (κ := (3, 1)) (v := .ref (h 25)) hx hb hts hown hK hW (fun _ h => List.mem_cons_of_mem _ (List.mem_append_left _ (List.mem_append_left _ (List.mem_append_left _ (List.mem_append_right _ h))))) (sx_i 24 hB (by decide)) (sx_c24 hB) rfl 0 (by decide) rfl rfl (List.mem_of_getElem? (i := 3) rfl) dX3_learn_88 ?_
        obtain ⟨r18, σ19, eσ19, hs⟩ := sp_bind hs
        refine sv_goI (σ' := σ19) (r := r18) hW F.2.2.2.1 (sv_runV (C := RX0) F hW (k_X0_needs hB (sx_o25 hB) eσ19 H.size) gX3_learn_X0_needs rfl ⟨rfl, rfl⟩ 0 (by decide +kernel) (sv_room2 (by omega) (by omega)) (sx_i 25 hB (by decide)) (sx_c25 hB) rfl rfl hl.1 rfl (Nat.le_of_ble_eq_true rfl) dX3_learn_91 ⟨Nat.zero_le _, Nat.zero_le _⟩) (fun H locs hW => ?_)
        obtain ⟨r20, σ21, eσ21, hs⟩ := sp_bind hs
        refine sv_goV (σ' := σ21) (r := r20) hW F.2.2.2.1 (sv_runN (own := RX3) (host := "OpenWhileItRains") F hW (k_X7_put hB (sv_oA_of (sx_i 29 hB (by decide)) (sx_c29 hB)) eσ21 H.size) gX3_learn_X7_put_n94 rfl ⟨rfl, rfl⟩ (F.2.2.1.1 _ (List.mem_of_getElem? (i := 18) rfl)) (List.mem_of_getElem? (i := 16) rfl) (List.mem_of_getElem? (i := 39) rfl) 3 (by decide +kernel) (sv_room2 (by omega) (by omega)) rfl hl.1 rfl (Nat.le_of_ble_eq_true rfl) dX3_learn_94 ⟨Nat.zero_le _, Nat.zero_le _⟩) (fun H locs hW => ?_)
        refine lv_aload_n hx hb dX3_learn_97 rfl (lv_at hl 1 rfl) ?_
        refine sv_get (own := RX3) (C := RX3) (Tf := TX3) (N := 17) (index := 28) (κ := (3, 6)) (v := .ref (h 30)) hx hb hts hown hK hW (fun _ h => List.mem_cons_of_mem _ (List.mem_append_left _ (List.mem_append_left _ (List.mem_append_left _ (List.mem_append_right _ h))))) (sx_i 24 hB (by decide)) (sx_c24 hB) rfl 8 (by decide) rfl rfl (List.mem_of_getElem? (i := 6) rfl) dX3_learn_98 ?_
        refine lv_iload hx hb dX3_learn_101 (lv_at hl 0 rfl) ?_
        refine lv_aload_n hx hb dX3_learn_103 rfl (lv_at hl 1 rfl) ?_
        refine sv_get (own := RX3) (C := RX3) (Tf := TX3) (N := 17) (index := 12) (κ := (3, 1)) (v := .ref (h 25)) hx hb hts hown hK hW (fun _ h => List.mem_cons_of_mem _ (List.mem_append_left _ (List.mem_append_left _ (List.mem_append_left _ (List.mem_append_right _ h))))) (sx_i 24 hB (by decide)) (sx_c24 hB) rfl 0 (by decide) rfl rfl (List.mem_of_getElem? (i := 3) rfl) dX3_learn_104 ?_
        obtain ⟨r22, σ23, eσ23, hs⟩ := sp_bind hs
        refine sv_goI (σ' := σ23) (r := r22) hW F.2.2.2.1 (sv_runV (C := RX0) F hW (k_X0_takes hB (sx_o25 hB) eσ23 H.size) gX3_learn_X0_takes rfl ⟨rfl, rfl⟩ 0 (by decide +kernel) (sv_room2 (by omega) (by omega)) (sx_i 25 hB (by decide)) (sx_c25 hB) rfl rfl hl.1 rfl (Nat.le_of_ble_eq_true rfl) dX3_learn_107 ⟨Nat.zero_le _, Nat.zero_le _⟩) (fun H locs hW => ?_)
        obtain ⟨r24, σ25, eσ25, hs⟩ := sp_bind hs
        refine sv_goV (σ' := σ25) (r := r24) hW F.2.2.2.1 (sv_runN (own := RX3) (host := "OpenWhileItRains") F hW (k_X7_put hB (sv_oA_of (sx_i 30 hB (by decide)) (sx_c30 hB)) eσ25 H.size) gX3_learn_X7_put_n94 rfl ⟨rfl, rfl⟩ (F.2.2.1.1 _ (List.mem_of_getElem? (i := 18) rfl)) (List.mem_of_getElem? (i := 16) rfl) (List.mem_of_getElem? (i := 39) rfl) 3 (by decide +kernel) (sv_room2 (by omega) (by omega)) rfl hl.1 rfl (Nat.le_of_ble_eq_true rfl) dX3_learn_110 ⟨Nat.zero_le _, Nat.zero_le _⟩) (fun H locs hW => ?_)
        refine lv_aload_n hx hb dX3_learn_113 rfl (lv_at hl 1 rfl) ?_
        refine sv_get (own := RX3) (C := RX3) (Tf := TX3) (N := 17) (index := 31) (κ := (3, 7)) (v := .ref (h 31)) hx hb hts hown hK hW (fun _ h => List.mem_cons_of_mem _ (List.mem_append_left _ (List.mem_append_left _ (List.mem_append_left _ (List.mem_append_right _ h))))) (sx_i 24 hB (by decide)) (sx_c24 hB) rfl 9 (by decide) rfl rfl (List.mem_of_getElem? (i := 7) rfl) dX3_learn_114 ?_
        refine lv_iload hx hb dX3_learn_117 (lv_at hl 0 rfl) ?_
        refine lv_aload_n hx hb dX3_learn_119 rfl (lv_at hl 1 rfl) ?_
        refine sv_get (own := RX3) (C := RX3) (Tf := TX3) (N := 17) (index := 12) (κ := (3, 1)) (v := .ref (h 25)) hx hb hts hown hK hW (fun _ h => List.mem_cons_of_mem _ (List.mem_append_left _ (List.mem_append_left _ (List.mem_append_left _ (List.mem_append_right _ h))))) (sx_i 24 hB (by decide)) (sx_c24 hB) rfl 0 (by decide) rfl rfl (List.mem_of_getElem? (i := 3) rfl) dX3_learn_120 ?_
        obtain ⟨r26, σ27, eσ27, hs⟩ := sp_bind hs
        refine sv_goI (σ' := σ27) (r := r26) hW F.2.2.2.1 (sv_runV (C := RX0) F hW (k_X0_worth hB (sx_o25 hB) eσ27 H.size) gX3_learn_X0_worth rfl ⟨rfl, rfl⟩ 0 (by decide +kernel) (sv_room2 (by omega) (by omega)) (sx_i 25 hB (by decide)) (sx_c25 hB) rfl rfl hl.1 rfl (Nat.le_of_ble_eq_true rfl) dX3_learn_123 ⟨Nat.zero_le _, Nat.zero_le _⟩) (fun H locs hW => ?_)
        obtain ⟨r28, σ29, eσ29, hs⟩ := sp_bind hs
        refine sv_goV (σ' := σ29) (r := r28) hW F.2.2.2.1 (sv_runN (own := RX3) (host := "OpenWhileItRains") F hW (k_X7_put hB (sv_oA_of (sx_i 31 hB (by decide)) (sx_c31 hB)) eσ29 H.size) gX3_learn_X7_put_n94 rfl ⟨rfl, rfl⟩ (F.2.2.1.1 _ (List.mem_of_getElem? (i := 18) rfl)) (List.mem_of_getElem? (i := 16) rfl) (List.mem_of_getElem? (i := 39) rfl) 3 (by decide +kernel) (sv_room2 (by omega) (by omega)) rfl hl.1 rfl (Nat.le_of_ble_eq_true rfl) dX3_learn_126 ⟨Nat.zero_le _, Nat.zero_le _⟩) (fun H locs hW => ?_)
        obtain ⟨v30, ev30⟩ : ∃ y : Int32, y = x6 + 1 := ⟨_, rfl⟩
        replace hs := sp_let hs ev30
        refine lv_iinc (v := v30) (lv' := [(6, .int v30), (7, .int r12), (0, .ref (h 24)), (1, .ref (h 1)), (2, .int x2), (3, .int x3), (4, .int x4), (5, .int x5)]) hx hb dX3_learn_129 hl (k := 7) rfl (by rw [ev30]; rfl) (by decide) rfl (fun ls hl => ?_)
        refine lv_goto (tgt := 30) hx hb dX3_learn_132 (by decide) ?_
        exact ih x2 x3 x4 x5 v30 σ29 H locs ls (lv_sub hl [2, 3, 4, 5, 6, 7, 0] rfl) hW hs
set_option maxRecDepth 100000 in
set_option maxHeartbeats 4000000 in
theorem b_X3_learn_17 {qK qV : Nat → Nat} {p : Program} {l : Launch} {e : Env} {s : State} {m : MethodId} {args : Array Value} {below : List Frame} {meth : Method} {c : Code} {D : va_G} {T : Nat → ClassId} {A : Nat → Prop} {h : Nat → Nat} {θ : sv_T} {a2 : Int32} {a3 : Int32} {r : Unit} {σ' : sv_S} (hB : sx_base θ)  (F : sv_F (sx_X qK qV) p m c cX3_learn 8 s args wsX3_learn RX3 D (sx_tys T) A) (hr : meth.sig.returnType = none) (hlk : meth.locks = false)  : ∀ (n : Nat), ∀ (x2 : Int32) (x3 : Int32) (x4 : Int32) (x5 : Int32) (σ : sv_S) (H : Heap) (locs : List Loc) (ls : Array Slot), lv_has ls 8 [(0, .ref (h 24)), (1, .ref (h 1)), (2, .int x2), (3, .int x3), (4, .int x4), (5, .int x5)] → sv_W D T A s h θ σ H locs → q_X3_learn_B17 θ a2 a3 n x2 x3 x4 x5 σ = some (r, σ') → W p l e (sv_rm 3 68) s m args below meth c H locs 0 0 (MQ below (va_Qv (fun (_ : Unit) => True) (fun _ t => va_P D vwCl (sv_ws T h θ σ') t.heap) A) args s 0 0 A) (F0 m 17 ls []) := by
  have hx := F.1.1
  have hb := F.1.2.1
  have hts := F.1.2.2.2.2
  have hown := F.1.2.2.2.1
  have hK := F.2.1
  intro n
  induction n with
  | zero =>
    intro x2 x3 x4 x5 σ H locs ls hl hW hs
    have hs : (none : Option (Unit × sv_S)) = some (r, σ') := hs
    cases hs
  | succ n ih =>
    intro x2 x3 x4 x5 σ H locs ls hl hW hs
    have hs : q_X3_learn_B17_b θ a2 a3 (q_X3_learn_B17 θ a2 a3 n) x2 x3 x4 x5 σ = some (r, σ') := hs
    unfold q_X3_learn_B17_b at hs
    refine lv_iload hx hb dX3_learn_17 (lv_at hl 5 rfl) ?_
    refine lv_bipush (v := 6) hx hb dX3_learn_19 (by decide) ?_
    refine lv_icmp_ge (tgt := 141) hx hb dX3_learn_21 (by decide) (fun c4 => ?_) (fun c4 => ?_)
    · replace hs := (sp_ite hs).1 c4
      cases hs
      exact sv_vret hx hb hr hlk hW dX3_learn_141
    · replace hs := (sp_ite hs).2 c4
      refine lv_aload_n hx hb dX3_learn_24 rfl (lv_at hl 0 rfl) ?_
      refine sv_get (own := RX3) (C := RX3) (Tf := TX3) (N := 17) (index := 106) (κ := (0, 0)) (v := .int (σ.1 24 12)) hx hb hts hown hK hW (fun _ h => List.mem_cons_of_mem _ (List.mem_append_left _ (List.mem_append_left _ (List.mem_append_left _ (List.mem_append_right _ h))))) (sx_i 24 hB (by decide)) (sx_c24 hB) rfl 12 (by decide) rfl rfl (List.mem_of_getElem? (i := 1) rfl) dX3_learn_25 ?_
      refine lv_topi (fun v5 ev5 => ?_)
      replace hs := sp_let hs ev5
      refine lv_istore (lv' := [(6, .int v5), (0, .ref (h 24)), (1, .ref (h 1)), (2, .int x2), (3, .int x3), (4, .int x4), (5, .int x5)]) hx hb dX3_learn_28 hl (by decide) rfl (fun ls hl => ?_)
      exact b_X3_learn_30 hB F hr hlk _ ih sv_N x2 x3 x4 x5 v5 σ H locs ls (lv_sub hl [1, 2, 3, 4, 5, 6, 0] rfl) hW hs
set_option maxRecDepth 100000 in
set_option maxHeartbeats 4000000 in
theorem k_X3_learn {qK qV : Nat → Nat} {l : Launch} {D : va_G} {T : Nat → ClassId} {h : Nat → Nat} {θ : sv_T} {a2 : Int32} {a3 : Int32} {σ : sv_S} {r : Unit} {σ' : sv_S} (hB : sx_base θ)  (hs : q_X3_learn θ a2 a3 σ = some (r, σ')) : sv_Mv (sx_X qK qV) l D T (sx_tys T) h θ yX3_learn wsX3_learn (sv_rm 3 68) [.ref (h 24), .ref (h 1), .int a2, .int a3] σ r σ' := by
  intro sz
  refine sv_enter (cc := cX3_learn) (maxL := 8) (ret := none) (Qc := fun A => va_Qv (fun (_ : Unit) => True) (fun _ t => va_P D vwCl (sv_ws T h θ σ') t.heap) A) sx_XP (by decide) rfl (Nat.le_of_ble_eq_true rfl) ?_
  intro p e s m args below meth c A F hr hlk ls H hl hW
  have hx := F.1.1
  have hb := F.1.2.1
  have hts := F.1.2.2.2.2
  have hown := F.1.2.2.2.1
  have hK := F.2.1
  obtain ⟨locs, hlocs⟩ : ∃ z : List Loc, z = [] := ⟨_, rfl⟩
  rw [← hlocs] at hW ⊢
  have hl : lv_has ls 8 [(0, .ref (h 24)), (1, .ref (h 1)), (2, .int a2), (3, .int a3)] := hl
  unfold q_X3_learn at hs
  refine lv_aload_n hx hb dX3_learn_0 rfl (lv_at hl 0 rfl) ?_
  refine sv_get (own := RX3) (C := RX3) (Tf := TX3) (N := 17) (index := 106) (κ := (0, 0)) (v := .int (σ.1 24 12)) hx hb hts hown hK hW (fun _ h => List.mem_cons_of_mem _ (List.mem_append_left _ (List.mem_append_left _ (List.mem_append_left _ (List.mem_append_right _ h))))) (sx_i 24 hB (by decide)) (sx_c24 hB) rfl 12 (by decide) rfl rfl (List.mem_of_getElem? (i := 1) rfl) dX3_learn_1 ?_
  refine lv_aload_n hx hb dX3_learn_4 rfl (lv_at hl 0 rfl) ?_
  refine sv_get (own := RX3) (C := RX3) (Tf := TX3) (N := 17) (index := 103) (κ := (0, 0)) (v := .int (σ.1 24 11)) hx hb hts hown hK hW (fun _ h => List.mem_cons_of_mem _ (List.mem_append_left _ (List.mem_append_left _ (List.mem_append_left _ (List.mem_append_right _ h))))) (sx_i 24 hB (by decide)) (sx_c24 hB) rfl 11 (by decide) rfl rfl (List.mem_of_getElem? (i := 2) rfl) dX3_learn_5 ?_
  obtain ⟨r1, σ2, eσ2, hs⟩ := sp_bind hs
  refine sv_goI (σ' := σ2) (r := r1) hW F.2.2.2.1 (sv_runT F hW (k_J6_bitCount_0f7a4 hB eσ2 H.size) gX3_learn_J6_bitCount_0f7a4 rfl ⟨rfl, rfl⟩ 1 (by decide +kernel) (sv_room2 (by omega) (by omega)) rfl hl.1 rfl (Nat.le_of_ble_eq_true rfl) dX3_learn_8 ⟨Nat.zero_le _, Nat.zero_le _⟩) (fun H locs hW => ?_)
  refine lv_iadd hx hb dX3_learn_11 ?_
  refine lv_topi (fun v3 ev3 => ?_)
  replace hs := sp_let hs ev3
  refine lv_istore (lv' := [(4, .int v3), (0, .ref (h 24)), (1, .ref (h 1)), (2, .int a2), (3, .int a3)]) hx hb dX3_learn_12 hl (by decide) rfl (fun ls hl => ?_)
  refine lv_iconst (v := 0) hx hb dX3_learn_14 (by decide) ?_
  refine lv_istore (lv' := [(5, .int (0 : Int32)), (4, .int v3), (0, .ref (h 24)), (1, .ref (h 1)), (2, .int a2), (3, .int a3)]) hx hb dX3_learn_15 hl (by decide) rfl (fun ls hl => ?_)
  exact b_X3_learn_17 hB F hr hlk sv_N a2 a3 v3 (0 : Int32) σ2 H locs ls (lv_sub hl [2, 3, 4, 5, 1, 0] rfl) hW hs
set_option maxRecDepth 100000 in
set_option maxHeartbeats 4000000 in
theorem b_X3_fillRow_55 {qK qV : Nat → Nat} {p : Program} {l : Launch} {e : Env} {s : State} {m : MethodId} {args : Array Value} {below : List Frame} {meth : Method} {c : Code} {D : va_G} {T : Nat → ClassId} {A : Nat → Prop} {h : Nat → Nat} {θ : sv_T} {a1 : Int32} {r : Unit} {σ' : sv_S} (hB : sx_base θ)  (F : sv_F (sx_X qK qV) p m c cX3_fillRow 5 s args wsX3_fillRow RX3 D (sx_tys T) A) (hr : meth.sig.returnType = none) (hlk : meth.locks = false) (k5 : Int32 → Int32 → Int32 → sv_S → Option (Unit × sv_S)) (hk5 : ∀ (x1 : Int32) (x2 : Int32) (x3 : Int32) (σ : sv_S) (H : Heap) (locs : List Loc) (ls : Array Slot), lv_has ls 5 [(0, .ref (h 24)), (1, .int x1), (2, .int x2), (3, .int x3)] → sv_W D T A s h θ σ H locs → k5 x1 x2 x3 σ = some (r, σ') → W p l e (sv_rm 2 49) s m args below meth c H locs 0 0 (MQ below (va_Qv (fun (_ : Unit) => True) (fun _ t => va_P D vwCl (sv_ws T h θ σ') t.heap) A) args s 0 0 A) (F0 m 5 ls [])) : ∀ (x1 : Int32) (x3 : Int32) (w0 : Int32) (σ : sv_S) (H : Heap) (locs : List Loc) (ls : Array Slot), lv_has ls 5 [(0, .ref (h 24)), (1, .int x1), (3, .int x3)] → sv_W D T A s h θ σ H locs → q_X3_fillRow_B55 θ a1 k5 x1 x3 w0 σ = some (r, σ') → W p l e (sv_rm 2 49) s m args below meth c H locs 0 0 (MQ below (va_Qv (fun (_ : Unit) => True) (fun _ t => va_P D vwCl (sv_ws T h θ σ') t.heap) A) args s 0 0 A) (F0 m 55 ls [.int w0]) := by
  have hx := F.1.1
  have hb := F.1.2.1
  have hts := F.1.2.2.2.2
  have hown := F.1.2.2.2.1
  have hK := F.2.1
  intro x1 x3 w0 σ H locs ls hl hW hs
  unfold q_X3_fillRow_B55 at hs
  refine lv_istore_n (lv' := [(2, .int w0), (0, .ref (h 24)), (1, .int x1), (3, .int x3)]) hx hb dX3_fillRow_55 rfl hl (by decide) rfl (fun ls hl => ?_)
  refine lv_aload_n hx hb dX3_fillRow_56 rfl (lv_at hl 1 rfl) ?_
  refine sv_get (own := RX3) (C := RX3) (Tf := TX3) (N := 17) (index := 34) (κ := (3, 8)) (v := .ref (h 32)) hx hb hts hown hK hW (fun _ h => List.mem_cons_of_mem _ (List.mem_append_left _ (List.mem_append_right _ h))) (sx_i 24 hB (by decide)) (sx_c24 hB) rfl 10 (by decide) rfl rfl (List.mem_of_getElem? (i := 5) rfl) dX3_fillRow_57 ?_
  refine lv_iload_n hx hb dX3_fillRow_60 rfl (lv_at hl 2 rfl) ?_
  refine lv_iload_n hx hb dX3_fillRow_61 rfl (lv_at hl 3 rfl) ?_
  refine lv_iadd hx hb dX3_fillRow_62 ?_
  refine lv_iload_n hx hb dX3_fillRow_63 rfl (lv_at hl 0 rfl) ?_
  obtain ⟨r9, σ10, eσ10, hs⟩ := sp_bind hs
  refine sv_goV (σ' := σ10) (r := r9) hW F.2.2.2.1 (sv_runN (own := RX3) (host := "OpenWhileItRains") F hW (k_X7_put hB (sv_oA_of (sx_i 32 hB (by decide)) (sx_c32 hB)) eσ10 H.size) gX3_fillRow_X7_put_n94 rfl ⟨rfl, rfl⟩ (F.2.2.1.1 _ (List.mem_of_getElem? (i := 18) rfl)) (List.mem_of_getElem? (i := 7) rfl) (List.mem_of_getElem? (i := 19) rfl) 3 (by decide +kernel) (sv_room2 (by omega) (by omega)) rfl hl.1 rfl (Nat.le_of_ble_eq_true rfl) dX3_fillRow_64 ⟨Nat.zero_le _, Nat.zero_le _⟩) (fun H locs hW => ?_)
  obtain ⟨v11, ev11⟩ : ∃ y : Int32, y = x3 + (-1) := ⟨_, rfl⟩
  replace hs := sp_let hs ev11
  refine lv_iinc (v := v11) (lv' := [(3, .int v11), (2, .int w0), (0, .ref (h 24)), (1, .int x1)]) hx hb dX3_fillRow_67 hl (k := 3) rfl (by rw [ev11]; rfl) (by decide) rfl (fun ls hl => ?_)
  refine lv_goto (tgt := 5) hx hb dX3_fillRow_70 (by decide) ?_
  exact hk5 x1 w0 v11 σ10 H locs ls (lv_sub hl [2, 3, 1, 0] rfl) hW hs
set_option maxRecDepth 100000 in
set_option maxHeartbeats 4000000 in
theorem b_X3_fillRow_5 {qK qV : Nat → Nat} {p : Program} {l : Launch} {e : Env} {s : State} {m : MethodId} {args : Array Value} {below : List Frame} {meth : Method} {c : Code} {D : va_G} {T : Nat → ClassId} {A : Nat → Prop} {h : Nat → Nat} {θ : sv_T} {a1 : Int32} {r : Unit} {σ' : sv_S} (hB : sx_base θ)  (F : sv_F (sx_X qK qV) p m c cX3_fillRow 5 s args wsX3_fillRow RX3 D (sx_tys T) A) (hr : meth.sig.returnType = none) (hlk : meth.locks = false)  : ∀ (n : Nat), ∀ (x1 : Int32) (x2 : Int32) (x3 : Int32) (σ : sv_S) (H : Heap) (locs : List Loc) (ls : Array Slot), lv_has ls 5 [(0, .ref (h 24)), (1, .int x1), (2, .int x2), (3, .int x3)] → sv_W D T A s h θ σ H locs → q_X3_fillRow_B5 θ a1 n x1 x2 x3 σ = some (r, σ') → W p l e (sv_rm 2 49) s m args below meth c H locs 0 0 (MQ below (va_Qv (fun (_ : Unit) => True) (fun _ t => va_P D vwCl (sv_ws T h θ σ') t.heap) A) args s 0 0 A) (F0 m 5 ls []) := by
  have hx := F.1.1
  have hb := F.1.2.1
  have hts := F.1.2.2.2.2
  have hown := F.1.2.2.2.1
  have hK := F.2.1
  intro n
  induction n with
  | zero =>
    intro x1 x2 x3 σ H locs ls hl hW hs
    have hs : (none : Option (Unit × sv_S)) = some (r, σ') := hs
    cases hs
  | succ n ih =>
    intro x1 x2 x3 σ H locs ls hl hW hs
    have hs : q_X3_fillRow_B5_b θ a1 (q_X3_fillRow_B5 θ a1 n) x1 x2 x3 σ = some (r, σ') := hs
    unfold q_X3_fillRow_B5_b at hs
    refine lv_iload_n hx hb dX3_fillRow_5 rfl (lv_at hl 3 rfl) ?_
    refine lv_if_lt (tgt := 73) hx hb dX3_fillRow_6 (by decide) (fun c1 => ?_) (fun c1 => ?_)
    · replace hs := (sp_ite hs).1 c1
      cases hs
      exact sv_vret hx hb hr hlk hW dX3_fillRow_73
    · replace hs := (sp_ite hs).2 c1
      refine lv_aload_n hx hb dX3_fillRow_9 rfl (lv_at hl 0 rfl) ?_
      refine sv_get (own := RX3) (C := RX3) (Tf := TX3) (N := 17) (index := 12) (κ := (3, 1)) (v := .ref (h 25)) hx hb hts hown hK hW (fun _ h => List.mem_cons_of_mem _ (List.mem_append_left _ (List.mem_append_right _ h))) (sx_i 24 hB (by decide)) (sx_c24 hB) rfl 0 (by decide) rfl rfl (List.mem_of_getElem? (i := 1) rfl) dX3_fillRow_10 ?_
      refine lv_aload_n hx hb dX3_fillRow_13 rfl (lv_at hl 0 rfl) ?_
      refine sv_get (own := RX3) (C := RX3) (Tf := TX3) (N := 17) (index := 18) (κ := (3, 3)) (v := .ref (h 27)) hx hb hts hown hK hW (fun _ h => List.mem_cons_of_mem _ (List.mem_append_left _ (List.mem_append_right _ h))) (sx_i 24 hB (by decide)) (sx_c24 hB) rfl 1 (by decide) rfl rfl (List.mem_of_getElem? (i := 2) rfl) dX3_fillRow_14 ?_
      refine lv_iload_n hx hb dX3_fillRow_17 rfl (lv_at hl 3 rfl) ?_
      refine lv_aload_n hx hb dX3_fillRow_18 rfl (lv_at hl 0 rfl) ?_
      refine sv_get (own := RX3) (C := RX3) (Tf := TX3) (N := 17) (index := 25) (κ := (3, 5)) (v := .ref (h 29)) hx hb hts hown hK hW (fun _ h => List.mem_cons_of_mem _ (List.mem_append_left _ (List.mem_append_right _ h))) (sx_i 24 hB (by decide)) (sx_c24 hB) rfl 7 (by decide) rfl rfl (List.mem_of_getElem? (i := 3) rfl) dX3_fillRow_19 ?_
      refine lv_iload_n hx hb dX3_fillRow_22 rfl (lv_at hl 1 rfl) ?_
      refine lv_iload_n hx hb dX3_fillRow_23 rfl (lv_at hl 3 rfl) ?_
      refine lv_iadd hx hb dX3_fillRow_24 ?_
      obtain ⟨r2, σ3, eσ3, hs⟩ := sp_bind hs
      refine sv_goI (σ' := σ3) (r := r2) hW F.2.2.2.1 (sv_runN (own := RX3) (host := "OpenWhileItRains") F hW (k_X7_at hB (sv_oA_of (sx_i 29 hB (by decide)) (sx_c29 hB)) eσ3 H.size) gX3_fillRow_X7_at_n63 rfl ⟨rfl, rfl⟩ (F.2.2.1.1 _ (List.mem_of_getElem? (i := 16) rfl)) (List.mem_of_getElem? (i := 7) rfl) (List.mem_of_getElem? (i := 6) rfl) 2 (by decide +kernel) (sv_room2 (by omega) (by omega)) rfl hl.1 rfl (Nat.le_of_ble_eq_true rfl) dX3_fillRow_25 ⟨Nat.zero_le _, Nat.zero_le _⟩) (fun H locs hW => ?_)
      refine lv_aload_n hx hb dX3_fillRow_28 rfl (lv_at hl 0 rfl) ?_
      refine sv_get (own := RX3) (C := RX3) (Tf := TX3) (N := 17) (index := 28) (κ := (3, 6)) (v := .ref (h 30)) hx hb hts hown hK hW (fun _ h => List.mem_cons_of_mem _ (List.mem_append_left _ (List.mem_append_right _ h))) (sx_i 24 hB (by decide)) (sx_c24 hB) rfl 8 (by decide) rfl rfl (List.mem_of_getElem? (i := 4) rfl) dX3_fillRow_29 ?_
      refine lv_iload_n hx hb dX3_fillRow_32 rfl (lv_at hl 1 rfl) ?_
      refine lv_iload_n hx hb dX3_fillRow_33 rfl (lv_at hl 3 rfl) ?_
      refine lv_iadd hx hb dX3_fillRow_34 ?_
      obtain ⟨r4, σ5, eσ5, hs⟩ := sp_bind hs
      refine sv_goI (σ' := σ5) (r := r4) hW F.2.2.2.1 (sv_runN (own := RX3) (host := "OpenWhileItRains") F hW (k_X7_at hB (sv_oA_of (sx_i 30 hB (by decide)) (sx_c30 hB)) eσ5 H.size) gX3_fillRow_X7_at_n63 rfl ⟨rfl, rfl⟩ (F.2.2.1.1 _ (List.mem_of_getElem? (i := 16) rfl)) (List.mem_of_getElem? (i := 7) rfl) (List.mem_of_getElem? (i := 6) rfl) 2 (by decide +kernel) (sv_room2 (by omega) (by omega)) rfl hl.1 rfl (Nat.le_of_ble_eq_true rfl) dX3_fillRow_35 ⟨Nat.zero_le _, Nat.zero_le _⟩) (fun H locs hW => ?_)
      obtain ⟨r6, σ7, eσ7, hs⟩ := sp_bind hs
      refine sv_goI (σ' := σ7) (r := r6) hW F.2.2.2.1 (sv_runV (C := RX0) F hW (k_X0_lastHeld hB (sx_o25 hB) (sv_oA_of (sx_i 27 hB (by decide)) (sx_c27 hB)) eσ7 H.size) gX3_fillRow_X0_lastHeld rfl ⟨rfl, rfl⟩ 4 (by decide +kernel) (sv_room2 (by omega) (by omega)) (sx_i 25 hB (by decide)) (sx_c25 hB) rfl rfl hl.1 rfl (Nat.le_of_ble_eq_true rfl) dX3_fillRow_38 ⟨Nat.zero_le _, Nat.zero_le _⟩) (fun H locs hW => ?_)
      refine lv_istore (lv' := [(4, .int r6), (0, .ref (h 24)), (1, .int x1), (2, .int x2), (3, .int x3)]) hx hb dX3_fillRow_41 hl (by decide) rfl (fun ls hl => ?_)
      refine lv_iload hx hb dX3_fillRow_43 (lv_at hl 0 rfl) ?_
      refine lv_iconst (v := -1) hx hb dX3_fillRow_45 (by decide) ?_
      refine lv_icmp_ne (tgt := 53) hx hb dX3_fillRow_46 (by decide) (fun c8 => ?_) (fun c8 => ?_)
      · replace hs := (sp_ite hs).2 c8
        refine lv_iload hx hb dX3_fillRow_53 (lv_at hl 0 rfl) ?_
        exact b_X3_fillRow_55 hB F hr hlk _ ih x1 x3 r6 σ7 H locs ls (lv_sub hl [1, 2, 4] rfl) hW hs
      · replace hs := (sp_ite hs).1 c8
        refine lv_iload_n hx hb dX3_fillRow_49 rfl (lv_at hl 3 rfl) ?_
        refine lv_goto (tgt := 55) hx hb dX3_fillRow_50 (by decide) ?_
        exact b_X3_fillRow_55 hB F hr hlk _ ih x1 x3 x2 σ7 H locs ls (lv_sub hl [1, 2, 4] rfl) hW hs
set_option maxRecDepth 100000 in
set_option maxHeartbeats 4000000 in
theorem k_X3_fillRow {qK qV : Nat → Nat} {l : Launch} {D : va_G} {T : Nat → ClassId} {h : Nat → Nat} {θ : sv_T} {a1 : Int32} {σ : sv_S} {r : Unit} {σ' : sv_S} (hB : sx_base θ)  (hs : q_X3_fillRow θ a1 σ = some (r, σ')) : sv_Mv (sx_X qK qV) l D T (sx_tys T) h θ yX3_fillRow wsX3_fillRow (sv_rm 2 49) [.ref (h 24), .int a1] σ r σ' := by
  intro sz
  refine sv_enter (cc := cX3_fillRow) (maxL := 5) (ret := none) (Qc := fun A => va_Qv (fun (_ : Unit) => True) (fun _ t => va_P D vwCl (sv_ws T h θ σ') t.heap) A) sx_XP (by decide) rfl (Nat.le_of_ble_eq_true rfl) ?_
  intro p e s m args below meth c A F hr hlk ls H hl hW
  have hx := F.1.1
  have hb := F.1.2.1
  have hts := F.1.2.2.2.2
  have hown := F.1.2.2.2.1
  have hK := F.2.1
  obtain ⟨locs, hlocs⟩ : ∃ z : List Loc, z = [] := ⟨_, rfl⟩
  rw [← hlocs] at hW ⊢
  have hl : lv_has ls 5 [(0, .ref (h 24)), (1, .int a1)] := hl
  unfold q_X3_fillRow at hs
  refine lv_iconst (v := -1) hx hb dX3_fillRow_0 (by decide) ?_
  refine lv_istore_n (lv' := [(2, .int (-1 : Int32)), (0, .ref (h 24)), (1, .int a1)]) hx hb dX3_fillRow_1 rfl hl (by decide) rfl (fun ls hl => ?_)
  refine lv_bipush (v := 23) hx hb dX3_fillRow_2 (by decide) ?_
  refine lv_istore_n (lv' := [(3, .int (23 : Int32)), (2, .int (-1 : Int32)), (0, .ref (h 24)), (1, .int a1)]) hx hb dX3_fillRow_4 rfl hl (by decide) rfl (fun ls hl => ?_)
  exact b_X3_fillRow_5 hB F hr hlk sv_N a1 (-1 : Int32) (23 : Int32) σ H locs ls (lv_sub hl [2, 3, 1, 0] rfl) hW hs

set_option maxRecDepth 100000 in
set_option maxHeartbeats 4000000 in
theorem b_X8_image_28 {p : Program} {l : Launch} {e : Env} {s : State} {m : MethodId} {args : Array Value} {below : List Frame} {meth : Method} {c : Code} {D : va_G} {T : Nat → ClassId} {A : Nat → Prop} {h : Nat → Nat} {θ : sv_T}  {r : Int32} {σ' : sv_S} (hB : sm_base θ)  (F : sv_F sm_X p m c cX8_image 2 s args wsX8_image RX8 D (sm_tys T) A) (hr : meth.sig.returnType = (some .int)) (hlk : meth.locks = false)  : ∀ (n : Nat), ∀ (x1 : Int32) (σ : sv_S) (H : Heap) (locs : List Loc) (ls : Array Slot), lv_has ls 2 [(0, .ref (h 0)), (1, .int x1)] → sv_W D T A s h θ σ H locs → q_X8_image_B28 θ  n x1 σ = some (r, σ') → W p l e (sv_rm 0 0) s m args below meth c H locs 0 0 (MQ below (va_Qi (fun r2 (_ : Unit) => r2 = r) (fun _ t => va_P D vwCl (sv_ws T h θ σ') t.heap) A) args s 0 0 A) (F0 m 28 ls []) := by
  have hx := F.1.1
  have hb := F.1.2.1
  have hts := F.1.2.2.2.2
  have hown := F.1.2.2.2.1
  have hK := F.2.1
  intro n
  induction n with
  | zero =>
    intro x1 σ H locs ls hl hW hs
    have hs : (none : Option (Int32 × sv_S)) = some (r, σ') := hs
    cases hs
  | succ n ih =>
    intro x1 σ H locs ls hl hW hs
    have hs : q_X8_image_B28_b θ  (q_X8_image_B28 θ  n) x1 σ = some (r, σ') := hs
    unfold q_X8_image_B28_b at hs
    refine lv_iload_n hx hb dX8_image_28 rfl (lv_at hl 1 rfl) ?_
    refine lv_bipush (v := 18) hx hb dX8_image_29 (by decide) ?_
    refine lv_icmp_ge (tgt := 52) hx hb dX8_image_31 (by decide) (fun c2 => ?_) (fun c2 => ?_)
    · replace hs := (sp_ite hs).1 c2
      refine lv_aload_n hx hb dX8_image_52 rfl (lv_at hl 0 rfl) ?_
      refine lv_aload_n hx hb dX8_image_53 rfl (lv_at hl 0 rfl) ?_
      refine sv_get (own := RX8) (C := RX8) (Tf := TX8) (N := 44) (index := 64) (κ := (0, 0)) (v := .int (σ.1 0 11)) hx hb hts hown hK hW (fun _ h => List.mem_cons_of_mem _ (List.mem_append_right _ h)) (sm_i 0 hB (by decide)) (sm_c0 hB) rfl 11 (by decide) rfl rfl (List.mem_of_getElem? (i := 5) rfl) dX8_image_54 ?_
      refine sv_putI (own := RX8) (C := RX8) (Tf := TX8) (N := 44) (index := 41) hx hb hts hown hK hW (fun _ h => List.mem_cons_of_mem _ (List.mem_append_right _ h)) tyX8 tyX8_ok nmX8 (sm_i 0 hB (by decide)) (sm_c0 hB) rfl 37 (by decide) rfl rfl (ty := .int) (by decide +kernel) rfl rfl (List.mem_of_getElem? (i := 6) rfl) dX8_image_57 (fun σ3 H locs eσ3 hW => ?_)
      replace hs := sp_let hs eσ3
      refine lv_aload_n hx hb dX8_image_60 rfl (lv_at hl 0 rfl) ?_
      refine lv_aload_n hx hb dX8_image_61 rfl (lv_at hl 0 rfl) ?_
      refine sv_get (own := RX8) (C := RX8) (Tf := TX8) (N := 44) (index := 97) (κ := (0, 0)) (v := .int (σ3.1 0 7)) hx hb hts hown hK hW (fun _ h => List.mem_cons_of_mem _ (List.mem_append_right _ h)) (sm_i 0 hB (by decide)) (sm_c0 hB) rfl 7 (by decide) rfl rfl (List.mem_of_getElem? (i := 7) rfl) dX8_image_62 ?_
      refine sv_putI (own := RX8) (C := RX8) (Tf := TX8) (N := 44) (index := 341) hx hb hts hown hK hW (fun _ h => List.mem_cons_of_mem _ (List.mem_append_right _ h)) tyX8 tyX8_ok nmX8 (sm_i 0 hB (by decide)) (sm_c0 hB) rfl 38 (by decide) rfl rfl (ty := .int) (by decide +kernel) rfl rfl (List.mem_of_getElem? (i := 8) rfl) dX8_image_65 (fun σ4 H locs eσ4 hW => ?_)
      replace hs := sp_let hs eσ4
      refine lv_aload_n hx hb dX8_image_68 rfl (lv_at hl 0 rfl) ?_
      refine lv_aload_n hx hb dX8_image_69 rfl (lv_at hl 0 rfl) ?_
      refine sv_get (own := RX8) (C := RX8) (Tf := TX8) (N := 44) (index := 103) (κ := (0, 0)) (v := .int (σ4.1 0 4)) hx hb hts hown hK hW (fun _ h => List.mem_cons_of_mem _ (List.mem_append_right _ h)) (sm_i 0 hB (by decide)) (sm_c0 hB) rfl 4 (by decide) rfl rfl (List.mem_of_getElem? (i := 9) rfl) dX8_image_70 ?_
      refine sv_putI (own := RX8) (C := RX8) (Tf := TX8) (N := 44) (index := 344) hx hb hts hown hK hW (fun _ h => List.mem_cons_of_mem _ (List.mem_append_right _ h)) tyX8 tyX8_ok nmX8 (sm_i 0 hB (by decide)) (sm_c0 hB) rfl 39 (by decide) rfl rfl (ty := .int) (by decide +kernel) rfl rfl (List.mem_of_getElem? (i := 10) rfl) dX8_image_73 (fun σ5 H locs eσ5 hW => ?_)
      replace hs := sp_let hs eσ5
      refine lv_aload_n hx hb dX8_image_76 rfl (lv_at hl 0 rfl) ?_
      refine sv_get (own := RX8) (C := RX8) (Tf := TX8) (N := 44) (index := 64) (κ := (0, 0)) (v := .int (σ5.1 0 11)) hx hb hts hown hK hW (fun _ h => List.mem_cons_of_mem _ (List.mem_append_right _ h)) (sm_i 0 hB (by decide)) (sm_c0 hB) rfl 11 (by decide) rfl rfl (List.mem_of_getElem? (i := 5) rfl) dX8_image_77 ?_
      cases hs
      exact sv_iret hx hb hr rfl hlk hW dX8_image_80
    · replace hs := (sp_ite hs).2 c2
      refine lv_aload_n hx hb dX8_image_34 rfl (lv_at hl 0 rfl) ?_
      refine sv_get (own := RX8) (C := RX8) (Tf := TX8) (N := 44) (index := 38) (κ := (3, 9)) (v := .ref (h 9)) hx hb hts hown hK hW (fun _ h => List.mem_cons_of_mem _ (List.mem_append_right _ h)) (sm_i 0 hB (by decide)) (sm_c0 hB) rfl 36 (by decide) rfl rfl (List.mem_of_getElem? (i := 3) rfl) dX8_image_35 ?_
      refine lv_iload_n hx hb dX8_image_38 rfl (lv_at hl 1 rfl) ?_
      refine lv_aload_n hx hb dX8_image_39 rfl (lv_at hl 0 rfl) ?_
      refine sv_get (own := RX8) (C := RX8) (Tf := TX8) (N := 44) (index := 29) (κ := (3, 6)) (v := .ref (h 6)) hx hb hts hown hK hW (fun _ h => List.mem_cons_of_mem _ (List.mem_append_right _ h)) (sm_i 0 hB (by decide)) (sm_c0 hB) rfl 10 (by decide) rfl rfl (List.mem_of_getElem? (i := 4) rfl) dX8_image_40 ?_
      refine lv_iload_n hx hb dX8_image_43 rfl (lv_at hl 1 rfl) ?_
      obtain ⟨hi6, hs⟩ := sp_g hs
      refine sv_iald hx hb hK hW (sm_i 6 hB (by decide)) (sm_c6 hB) 0 rfl hi6 dX8_image_44 ?_
      obtain ⟨hi7, hs⟩ := sp_g hs
      refine sv_iast hx hb hK hW (sm_i 9 hB (by decide)) (sm_c9 hB) 0 rfl hi7 dX8_image_45 (fun σ8 H locs eσ8 hW => ?_)
      replace hs := sp_let hs eσ8
      obtain ⟨v9, ev9⟩ : ∃ y : Int32, y = x1 + 1 := ⟨_, rfl⟩
      replace hs := sp_let hs ev9
      refine lv_iinc (v := v9) (lv' := [(1, .int v9), (0, .ref (h 0))]) hx hb dX8_image_46 hl (k := 1) rfl (by rw [ev9]; rfl) (by decide) rfl (fun ls hl => ?_)
      refine lv_goto (tgt := 28) hx hb dX8_image_49 (by decide) ?_
      exact ih v9 σ8 H locs ls (lv_sub hl [1, 0] rfl) hW hs
set_option maxRecDepth 100000 in
set_option maxHeartbeats 4000000 in
theorem b_X8_image_2 {p : Program} {l : Launch} {e : Env} {s : State} {m : MethodId} {args : Array Value} {below : List Frame} {meth : Method} {c : Code} {D : va_G} {T : Nat → ClassId} {A : Nat → Prop} {h : Nat → Nat} {θ : sv_T}  {r : Int32} {σ' : sv_S} (hB : sm_base θ)  (F : sv_F sm_X p m c cX8_image 2 s args wsX8_image RX8 D (sm_tys T) A) (hr : meth.sig.returnType = (some .int)) (hlk : meth.locks = false)  : ∀ (n : Nat), ∀ (x1 : Int32) (σ : sv_S) (H : Heap) (locs : List Loc) (ls : Array Slot), lv_has ls 2 [(0, .ref (h 0)), (1, .int x1)] → sv_W D T A s h θ σ H locs → q_X8_image_B2 θ  n x1 σ = some (r, σ') → W p l e (sv_rm 0 0) s m args below meth c H locs 0 0 (MQ below (va_Qi (fun r2 (_ : Unit) => r2 = r) (fun _ t => va_P D vwCl (sv_ws T h θ σ') t.heap) A) args s 0 0 A) (F0 m 2 ls []) := by
  have hx := F.1.1
  have hb := F.1.2.1
  have hts := F.1.2.2.2.2
  have hown := F.1.2.2.2.1
  have hK := F.2.1
  intro n
  induction n with
  | zero =>
    intro x1 σ H locs ls hl hW hs
    have hs : (none : Option (Int32 × sv_S)) = some (r, σ') := hs
    cases hs
  | succ n ih =>
    intro x1 σ H locs ls hl hW hs
    have hs : q_X8_image_B2_b θ  (q_X8_image_B2 θ  n) x1 σ = some (r, σ') := hs
    unfold q_X8_image_B2_b at hs
    refine lv_iload_n hx hb dX8_image_2 rfl (lv_at hl 1 rfl) ?_
    refine lv_bipush (v := 48) hx hb dX8_image_3 (by decide) ?_
    refine lv_icmp_ge (tgt := 26) hx hb dX8_image_5 (by decide) (fun c1 => ?_) (fun c1 => ?_)
    · replace hs := (sp_ite hs).1 c1
      refine lv_iconst (v := 0) hx hb dX8_image_26 (by decide) ?_
      refine lv_istore_n (lv' := [(1, .int (0 : Int32)), (0, .ref (h 0))]) hx hb dX8_image_27 rfl hl (by decide) rfl (fun ls hl => ?_)
      exact b_X8_image_28 hB F hr hlk sv_N (0 : Int32) σ H locs ls (lv_sub hl [1, 0] rfl) hW hs
    · replace hs := (sp_ite hs).2 c1
      refine lv_aload_n hx hb dX8_image_8 rfl (lv_at hl 0 rfl) ?_
      refine sv_get (own := RX8) (C := RX8) (Tf := TX8) (N := 44) (index := 35) (κ := (3, 8)) (v := .ref (h 8)) hx hb hts hown hK hW (fun _ h => List.mem_cons_of_mem _ (List.mem_append_right _ h)) (sm_i 0 hB (by decide)) (sm_c0 hB) rfl 35 (by decide) rfl rfl (List.mem_of_getElem? (i := 1) rfl) dX8_image_9 ?_
      refine lv_iload_n hx hb dX8_image_12 rfl (lv_at hl 1 rfl) ?_
      refine lv_aload_n hx hb dX8_image_13 rfl (lv_at hl 0 rfl) ?_
      refine sv_get (own := RX8) (C := RX8) (Tf := TX8) (N := 44) (index := 23) (κ := (3, 4)) (v := .ref (h 4)) hx hb hts hown hK hW (fun _ h => List.mem_cons_of_mem _ (List.mem_append_right _ h)) (sm_i 0 hB (by decide)) (sm_c0 hB) rfl 8 (by decide) rfl rfl (List.mem_of_getElem? (i := 2) rfl) dX8_image_14 ?_
      refine lv_iload_n hx hb dX8_image_17 rfl (lv_at hl 1 rfl) ?_
      obtain ⟨hi10, hs⟩ := sp_g hs
      refine sv_iald hx hb hK hW (sm_i 4 hB (by decide)) (sm_c4 hB) 0 rfl hi10 dX8_image_18 ?_
      obtain ⟨hi11, hs⟩ := sp_g hs
      refine sv_iast hx hb hK hW (sm_i 8 hB (by decide)) (sm_c8 hB) 0 rfl hi11 dX8_image_19 (fun σ12 H locs eσ12 hW => ?_)
      replace hs := sp_let hs eσ12
      obtain ⟨v13, ev13⟩ : ∃ y : Int32, y = x1 + 1 := ⟨_, rfl⟩
      replace hs := sp_let hs ev13
      refine lv_iinc (v := v13) (lv' := [(1, .int v13), (0, .ref (h 0))]) hx hb dX8_image_20 hl (k := 1) rfl (by rw [ev13]; rfl) (by decide) rfl (fun ls hl => ?_)
      refine lv_goto (tgt := 2) hx hb dX8_image_23 (by decide) ?_
      exact ih v13 σ12 H locs ls (lv_sub hl [1, 0] rfl) hW hs
set_option maxRecDepth 100000 in
set_option maxHeartbeats 4000000 in
theorem k_X8_image {l : Launch} {D : va_G} {T : Nat → ClassId} {h : Nat → Nat} {θ : sv_T}  {σ : sv_S} {r : Int32} {σ' : sv_S} (hB : sm_base θ)  (hs : q_X8_image θ  σ = some (r, σ')) : sv_Mi sm_X l D T (sm_tys T) h θ yX8_image wsX8_image (sv_rm 0 0) [.ref (h 0)] σ r σ' := by
  intro sz
  refine sv_enter (cc := cX8_image) (maxL := 2) (ret := (some .int)) (Qc := fun A => va_Qi (fun r2 (_ : Unit) => r2 = r) (fun _ t => va_P D vwCl (sv_ws T h θ σ') t.heap) A) sm_XP (by decide) rfl (Nat.le_of_ble_eq_true rfl) ?_
  intro p e s m args below meth c A F hr hlk ls H hl hW
  have hx := F.1.1
  have hb := F.1.2.1
  have hts := F.1.2.2.2.2
  have hown := F.1.2.2.2.1
  have hK := F.2.1
  obtain ⟨locs, hlocs⟩ : ∃ z : List Loc, z = [] := ⟨_, rfl⟩
  rw [← hlocs] at hW ⊢
  have hl : lv_has ls 2 [(0, .ref (h 0))] := hl
  unfold q_X8_image at hs
  refine lv_iconst (v := 0) hx hb dX8_image_0 (by decide) ?_
  refine lv_istore_n (lv' := [(1, .int (0 : Int32)), (0, .ref (h 0))]) hx hb dX8_image_1 rfl hl (by decide) rfl (fun ls hl => ?_)
  exact b_X8_image_2 hB F hr hlk sv_N (0 : Int32) σ H locs ls (lv_sub hl [1, 0] rfl) hW hs
set_option maxRecDepth 100000 in
set_option maxHeartbeats 4000000 in
theorem b_X8_back_39 {p : Program} {l : Launch} {e : Env} {s : State} {m : MethodId} {args : Array Value} {below : List Frame} {meth : Method} {c : Code} {D : va_G} {T : Nat → ClassId} {A : Nat → Prop} {h : Nat → Nat} {θ : sv_T}  {r : Int32} {σ' : sv_S} (hB : sm_base θ)  (F : sv_F sm_X p m c cX8_back 2 s args wsX8_back RX8 D (sm_tys T) A) (hr : meth.sig.returnType = (some .int)) (hlk : meth.locks = false)  : ∀ (n : Nat), ∀ (x1 : Int32) (σ : sv_S) (H : Heap) (locs : List Loc) (ls : Array Slot), lv_has ls 2 [(0, .ref (h 0)), (1, .int x1)] → sv_W D T A s h θ σ H locs → q_X8_back_B39 θ  n x1 σ = some (r, σ') → W p l e (sv_rm 0 0) s m args below meth c H locs 0 0 (MQ below (va_Qi (fun r2 (_ : Unit) => r2 = r) (fun _ t => va_P D vwCl (sv_ws T h θ σ') t.heap) A) args s 0 0 A) (F0 m 39 ls []) := by
  have hx := F.1.1
  have hb := F.1.2.1
  have hts := F.1.2.2.2.2
  have hown := F.1.2.2.2.1
  have hK := F.2.1
  intro n
  induction n with
  | zero =>
    intro x1 σ H locs ls hl hW hs
    have hs : (none : Option (Int32 × sv_S)) = some (r, σ') := hs
    cases hs
  | succ n ih =>
    intro x1 σ H locs ls hl hW hs
    have hs : q_X8_back_B39_b θ  (q_X8_back_B39 θ  n) x1 σ = some (r, σ') := hs
    unfold q_X8_back_B39_b at hs
    refine lv_iload_n hx hb dX8_back_39 rfl (lv_at hl 1 rfl) ?_
    refine lv_bipush (v := 18) hx hb dX8_back_40 (by decide) ?_
    refine lv_icmp_ge (tgt := 63) hx hb dX8_back_42 (by decide) (fun c3 => ?_) (fun c3 => ?_)
    · replace hs := (sp_ite hs).1 c3
      refine lv_aload_n hx hb dX8_back_63 rfl (lv_at hl 0 rfl) ?_
      refine lv_aload_n hx hb dX8_back_64 rfl (lv_at hl 0 rfl) ?_
      refine sv_get (own := RX8) (C := RX8) (Tf := TX8) (N := 44) (index := 41) (κ := (0, 0)) (v := .int (σ.1 0 37)) hx hb hts hown hK hW (fun _ h => List.mem_cons_of_mem _ (List.mem_append_right _ h)) (sm_i 0 hB (by decide)) (sm_c0 hB) rfl 37 (by decide) rfl rfl (List.mem_of_getElem? (i := 1) rfl) dX8_back_65 ?_
      refine sv_putI (own := RX8) (C := RX8) (Tf := TX8) (N := 44) (index := 64) hx hb hts hown hK hW (fun _ h => List.mem_cons_of_mem _ (List.mem_append_right _ h)) tyX8 tyX8_ok nmX8 (sm_i 0 hB (by decide)) (sm_c0 hB) rfl 11 (by decide) rfl rfl (ty := .int) (by decide +kernel) rfl rfl (List.mem_of_getElem? (i := 6) rfl) dX8_back_68 (fun σ4 H locs eσ4 hW => ?_)
      replace hs := sp_let hs eσ4
      refine lv_aload_n hx hb dX8_back_71 rfl (lv_at hl 0 rfl) ?_
      refine lv_aload_n hx hb dX8_back_72 rfl (lv_at hl 0 rfl) ?_
      refine sv_get (own := RX8) (C := RX8) (Tf := TX8) (N := 44) (index := 341) (κ := (0, 0)) (v := .int (σ4.1 0 38)) hx hb hts hown hK hW (fun _ h => List.mem_cons_of_mem _ (List.mem_append_right _ h)) (sm_i 0 hB (by decide)) (sm_c0 hB) rfl 38 (by decide) rfl rfl (List.mem_of_getElem? (i := 7) rfl) dX8_back_73 ?_
      refine sv_putI (own := RX8) (C := RX8) (Tf := TX8) (N := 44) (index := 97) hx hb hts hown hK hW (fun _ h => List.mem_cons_of_mem _ (List.mem_append_right _ h)) tyX8 tyX8_ok nmX8 (sm_i 0 hB (by decide)) (sm_c0 hB) rfl 7 (by decide) rfl rfl (ty := .int) (by decide +kernel) rfl rfl (List.mem_of_getElem? (i := 8) rfl) dX8_back_76 (fun σ5 H locs eσ5 hW => ?_)
      replace hs := sp_let hs eσ5
      refine lv_aload_n hx hb dX8_back_79 rfl (lv_at hl 0 rfl) ?_
      refine lv_aload_n hx hb dX8_back_80 rfl (lv_at hl 0 rfl) ?_
      refine sv_get (own := RX8) (C := RX8) (Tf := TX8) (N := 44) (index := 344) (κ := (0, 0)) (v := .int (σ5.1 0 39)) hx hb hts hown hK hW (fun _ h => List.mem_cons_of_mem _ (List.mem_append_right _ h)) (sm_i 0 hB (by decide)) (sm_c0 hB) rfl 39 (by decide) rfl rfl (List.mem_of_getElem? (i := 9) rfl) dX8_back_81 ?_
      refine sv_putI (own := RX8) (C := RX8) (Tf := TX8) (N := 44) (index := 103) hx hb hts hown hK hW (fun _ h => List.mem_cons_of_mem _ (List.mem_append_right _ h)) tyX8 tyX8_ok nmX8 (sm_i 0 hB (by decide)) (sm_c0 hB) rfl 4 (by decide) rfl rfl (ty := .int) (by decide +kernel) rfl rfl (List.mem_of_getElem? (i := 10) rfl) dX8_back_84 (fun σ6 H locs eσ6 hW => ?_)
      replace hs := sp_let hs eσ6
      refine lv_aload_n hx hb dX8_back_87 rfl (lv_at hl 0 rfl) ?_
      refine sv_get (own := RX8) (C := RX8) (Tf := TX8) (N := 44) (index := 64) (κ := (0, 0)) (v := .int (σ6.1 0 11)) hx hb hts hown hK hW (fun _ h => List.mem_cons_of_mem _ (List.mem_append_right _ h)) (sm_i 0 hB (by decide)) (sm_c0 hB) rfl 11 (by decide) rfl rfl (List.mem_of_getElem? (i := 6) rfl) dX8_back_88 ?_
      cases hs
      exact sv_iret hx hb hr rfl hlk hW dX8_back_91
    · replace hs := (sp_ite hs).2 c3
      refine lv_aload_n hx hb dX8_back_45 rfl (lv_at hl 0 rfl) ?_
      refine sv_get (own := RX8) (C := RX8) (Tf := TX8) (N := 44) (index := 29) (κ := (3, 6)) (v := .ref (h 6)) hx hb hts hown hK hW (fun _ h => List.mem_cons_of_mem _ (List.mem_append_right _ h)) (sm_i 0 hB (by decide)) (sm_c0 hB) rfl 10 (by decide) rfl rfl (List.mem_of_getElem? (i := 4) rfl) dX8_back_46 ?_
      refine lv_iload_n hx hb dX8_back_49 rfl (lv_at hl 1 rfl) ?_
      refine lv_aload_n hx hb dX8_back_50 rfl (lv_at hl 0 rfl) ?_
      refine sv_get (own := RX8) (C := RX8) (Tf := TX8) (N := 44) (index := 38) (κ := (3, 9)) (v := .ref (h 9)) hx hb hts hown hK hW (fun _ h => List.mem_cons_of_mem _ (List.mem_append_right _ h)) (sm_i 0 hB (by decide)) (sm_c0 hB) rfl 36 (by decide) rfl rfl (List.mem_of_getElem? (i := 5) rfl) dX8_back_51 ?_
      refine lv_iload_n hx hb dX8_back_54 rfl (lv_at hl 1 rfl) ?_
      obtain ⟨hi7, hs⟩ := sp_g hs
      refine sv_iald hx hb hK hW (sm_i 9 hB (by decide)) (sm_c9 hB) 0 rfl hi7 dX8_back_55 ?_
      obtain ⟨hi8, hs⟩ := sp_g hs
      refine sv_iast hx hb hK hW (sm_i 6 hB (by decide)) (sm_c6 hB) 0 rfl hi8 dX8_back_56 (fun σ9 H locs eσ9 hW => ?_)
      replace hs := sp_let hs eσ9
      obtain ⟨v10, ev10⟩ : ∃ y : Int32, y = x1 + 1 := ⟨_, rfl⟩
      replace hs := sp_let hs ev10
      refine lv_iinc (v := v10) (lv' := [(1, .int v10), (0, .ref (h 0))]) hx hb dX8_back_57 hl (k := 1) rfl (by rw [ev10]; rfl) (by decide) rfl (fun ls hl => ?_)
      refine lv_goto (tgt := 39) hx hb dX8_back_60 (by decide) ?_
      exact ih v10 σ9 H locs ls (lv_sub hl [1, 0] rfl) hW hs
set_option maxRecDepth 100000 in
set_option maxHeartbeats 4000000 in
theorem b_X8_back_13 {p : Program} {l : Launch} {e : Env} {s : State} {m : MethodId} {args : Array Value} {below : List Frame} {meth : Method} {c : Code} {D : va_G} {T : Nat → ClassId} {A : Nat → Prop} {h : Nat → Nat} {θ : sv_T}  {r : Int32} {σ' : sv_S} (hB : sm_base θ)  (F : sv_F sm_X p m c cX8_back 2 s args wsX8_back RX8 D (sm_tys T) A) (hr : meth.sig.returnType = (some .int)) (hlk : meth.locks = false)  : ∀ (n : Nat), ∀ (x1 : Int32) (σ : sv_S) (H : Heap) (locs : List Loc) (ls : Array Slot), lv_has ls 2 [(0, .ref (h 0)), (1, .int x1)] → sv_W D T A s h θ σ H locs → q_X8_back_B13 θ  n x1 σ = some (r, σ') → W p l e (sv_rm 0 0) s m args below meth c H locs 0 0 (MQ below (va_Qi (fun r2 (_ : Unit) => r2 = r) (fun _ t => va_P D vwCl (sv_ws T h θ σ') t.heap) A) args s 0 0 A) (F0 m 13 ls []) := by
  have hx := F.1.1
  have hb := F.1.2.1
  have hts := F.1.2.2.2.2
  have hown := F.1.2.2.2.1
  have hK := F.2.1
  intro n
  induction n with
  | zero =>
    intro x1 σ H locs ls hl hW hs
    have hs : (none : Option (Int32 × sv_S)) = some (r, σ') := hs
    cases hs
  | succ n ih =>
    intro x1 σ H locs ls hl hW hs
    have hs : q_X8_back_B13_b θ  (q_X8_back_B13 θ  n) x1 σ = some (r, σ') := hs
    unfold q_X8_back_B13_b at hs
    refine lv_iload_n hx hb dX8_back_13 rfl (lv_at hl 1 rfl) ?_
    refine lv_bipush (v := 48) hx hb dX8_back_14 (by decide) ?_
    refine lv_icmp_ge (tgt := 37) hx hb dX8_back_16 (by decide) (fun c2 => ?_) (fun c2 => ?_)
    · replace hs := (sp_ite hs).1 c2
      refine lv_iconst (v := 0) hx hb dX8_back_37 (by decide) ?_
      refine lv_istore_n (lv' := [(1, .int (0 : Int32)), (0, .ref (h 0))]) hx hb dX8_back_38 rfl hl (by decide) rfl (fun ls hl => ?_)
      exact b_X8_back_39 hB F hr hlk sv_N (0 : Int32) σ H locs ls (lv_sub hl [1, 0] rfl) hW hs
    · replace hs := (sp_ite hs).2 c2
      refine lv_aload_n hx hb dX8_back_19 rfl (lv_at hl 0 rfl) ?_
      refine sv_get (own := RX8) (C := RX8) (Tf := TX8) (N := 44) (index := 23) (κ := (3, 4)) (v := .ref (h 4)) hx hb hts hown hK hW (fun _ h => List.mem_cons_of_mem _ (List.mem_append_right _ h)) (sm_i 0 hB (by decide)) (sm_c0 hB) rfl 8 (by decide) rfl rfl (List.mem_of_getElem? (i := 2) rfl) dX8_back_20 ?_
      refine lv_iload_n hx hb dX8_back_23 rfl (lv_at hl 1 rfl) ?_
      refine lv_aload_n hx hb dX8_back_24 rfl (lv_at hl 0 rfl) ?_
      refine sv_get (own := RX8) (C := RX8) (Tf := TX8) (N := 44) (index := 35) (κ := (3, 8)) (v := .ref (h 8)) hx hb hts hown hK hW (fun _ h => List.mem_cons_of_mem _ (List.mem_append_right _ h)) (sm_i 0 hB (by decide)) (sm_c0 hB) rfl 35 (by decide) rfl rfl (List.mem_of_getElem? (i := 3) rfl) dX8_back_25 ?_
      refine lv_iload_n hx hb dX8_back_28 rfl (lv_at hl 1 rfl) ?_
      obtain ⟨hi11, hs⟩ := sp_g hs
      refine sv_iald hx hb hK hW (sm_i 8 hB (by decide)) (sm_c8 hB) 0 rfl hi11 dX8_back_29 ?_
      obtain ⟨hi12, hs⟩ := sp_g hs
      refine sv_iast hx hb hK hW (sm_i 4 hB (by decide)) (sm_c4 hB) 0 rfl hi12 dX8_back_30 (fun σ13 H locs eσ13 hW => ?_)
      replace hs := sp_let hs eσ13
      obtain ⟨v14, ev14⟩ : ∃ y : Int32, y = x1 + 1 := ⟨_, rfl⟩
      replace hs := sp_let hs ev14
      refine lv_iinc (v := v14) (lv' := [(1, .int v14), (0, .ref (h 0))]) hx hb dX8_back_31 hl (k := 1) rfl (by rw [ev14]; rfl) (by decide) rfl (fun ls hl => ?_)
      refine lv_goto (tgt := 13) hx hb dX8_back_34 (by decide) ?_
      exact ih v14 σ13 H locs ls (lv_sub hl [1, 0] rfl) hW hs
set_option maxRecDepth 100000 in
set_option maxHeartbeats 4000000 in
theorem k_X8_back {l : Launch} {D : va_G} {T : Nat → ClassId} {h : Nat → Nat} {θ : sv_T}  {σ : sv_S} {r : Int32} {σ' : sv_S} (hB : sm_base θ)  (hs : q_X8_back θ  σ = some (r, σ')) : sv_Mi sm_X l D T (sm_tys T) h θ yX8_back wsX8_back (sv_rm 0 0) [.ref (h 0)] σ r σ' := by
  intro sz
  refine sv_enter (cc := cX8_back) (maxL := 2) (ret := (some .int)) (Qc := fun A => va_Qi (fun r2 (_ : Unit) => r2 = r) (fun _ t => va_P D vwCl (sv_ws T h θ σ') t.heap) A) sm_XP (by decide) rfl (Nat.le_of_ble_eq_true rfl) ?_
  intro p e s m args below meth c A F hr hlk ls H hl hW
  have hx := F.1.1
  have hb := F.1.2.1
  have hts := F.1.2.2.2.2
  have hown := F.1.2.2.2.1
  have hK := F.2.1
  obtain ⟨locs, hlocs⟩ : ∃ z : List Loc, z = [] := ⟨_, rfl⟩
  rw [← hlocs] at hW ⊢
  have hl : lv_has ls 2 [(0, .ref (h 0))] := hl
  unfold q_X8_back at hs
  refine lv_aload_n hx hb dX8_back_0 rfl (lv_at hl 0 rfl) ?_
  refine sv_get (own := RX8) (C := RX8) (Tf := TX8) (N := 44) (index := 41) (κ := (0, 0)) (v := .int (σ.1 0 37)) hx hb hts hown hK hW (fun _ h => List.mem_cons_of_mem _ (List.mem_append_right _ h)) (sm_i 0 hB (by decide)) (sm_c0 hB) rfl 37 (by decide) rfl rfl (List.mem_of_getElem? (i := 1) rfl) dX8_back_1 ?_
  refine lv_iconst (v := -1) hx hb dX8_back_4 (by decide) ?_
  refine lv_icmp_ne (tgt := 11) hx hb dX8_back_5 (by decide) (fun c1 => ?_) (fun c1 => ?_)
  · replace hs := (sp_ite hs).2 c1
    refine lv_iconst (v := 0) hx hb dX8_back_11 (by decide) ?_
    refine lv_istore_n (lv' := [(1, .int (0 : Int32)), (0, .ref (h 0))]) hx hb dX8_back_12 rfl hl (by decide) rfl (fun ls hl => ?_)
    exact b_X8_back_13 hB F hr hlk sv_N (0 : Int32) σ H locs ls (lv_sub hl [1, 0] rfl) hW hs
  · replace hs := (sp_ite hs).1 c1
    refine lv_bipush (v := -3) hx hb dX8_back_8 (by decide) ?_
    cases hs
    exact sv_iret hx hb hr rfl hlk hW dX8_back_10
set_option maxRecDepth 100000 in
set_option maxHeartbeats 4000000 in
theorem k_X8_count {l : Launch} {D : va_G} {T : Nat → ClassId} {h : Nat → Nat} {θ : sv_T} {a1 : Int32} {σ : sv_S} {r : Int32} {σ' : sv_S} (hB : sm_base θ)  (hs : q_X8_count θ a1 σ = some (r, σ')) : sv_Mi sm_X l D T (sm_tys T) h θ yX8_count wsX8_count (sv_rm 1 25) [.ref (h 0), .int a1] σ r σ' := by
  intro sz
  refine sv_enter (cc := cX8_count) (maxL := 2) (ret := (some .int)) (Qc := fun A => va_Qi (fun r2 (_ : Unit) => r2 = r) (fun _ t => va_P D vwCl (sv_ws T h θ σ') t.heap) A) sm_XP (by decide) rfl (Nat.le_of_ble_eq_true rfl) ?_
  intro p e s m args below meth c A F hr hlk ls H hl hW
  have hx := F.1.1
  have hb := F.1.2.1
  have hts := F.1.2.2.2.2
  have hown := F.1.2.2.2.1
  have hK := F.2.1
  obtain ⟨locs, hlocs⟩ : ∃ z : List Loc, z = [] := ⟨_, rfl⟩
  rw [← hlocs] at hW ⊢
  have hl : lv_has ls 2 [(0, .ref (h 0)), (1, .int a1)] := hl
  unfold q_X8_count at hs
  refine lv_iload_n hx hb dX8_count_0 rfl (lv_at hl 1 rfl) ?_
  refine lv_i2l (v := a1.toInt64) hx hb dX8_count_1 rfl ?_
  refine lv_lconst (v := 0) hx hb dX8_count_2 (by decide) ?_
  refine lv_ldc2 (own := RX8) (index := 106) (v := 5) hx hb hown (hts _ (List.mem_of_getElem? (i := 1) rfl)) dX8_count_3 ?_
  obtain ⟨r1, σ2, eσ2, hs⟩ := sp_bind hs
  refine sv_goI (σ' := σ2) (r := r1) hW F.2.2.2.1 (sv_runT F hW (k_X8_in hB eσ2 H.size) gX8_count_X8_in rfl ⟨rfl, rfl⟩ 3 (by decide +kernel) (sv_room2 (by omega) (by omega)) rfl hl.1 rfl (Nat.le_of_ble_eq_true rfl) dX8_count_6 ⟨Nat.zero_le _, Nat.zero_le _⟩) (fun H locs hW => ?_)
  refine lv_if_ne (tgt := 15) hx hb dX8_count_9 (by decide) (fun c3 => ?_) (fun c3 => ?_)
  · replace hs := (sp_ite hs).2 c3
    refine lv_iload_n hx hb dX8_count_15 rfl (lv_at hl 1 rfl) ?_
    refine lv_iconst (v := 2) hx hb dX8_count_16 (by decide) ?_
    refine lv_icmp_le (tgt := 49) hx hb dX8_count_17 (by decide) (fun c4 => ?_) (fun c4 => ?_)
    · replace hs := (sp_ite hs).1 c4
      refine lv_iload_n hx hb dX8_count_49 rfl (lv_at hl 1 rfl) ?_
      refine lv_if_ne (tgt := 60) hx hb dX8_count_50 (by decide) (fun c5 => ?_) (fun c5 => ?_)
      · replace hs := (sp_ite hs).2 c5
        refine lv_iload_n hx hb dX8_count_60 rfl (lv_at hl 1 rfl) ?_
        refine lv_iconst (v := 1) hx hb dX8_count_61 (by decide) ?_
        refine lv_icmp_ne (tgt := 72) hx hb dX8_count_62 (by decide) (fun c6 => ?_) (fun c6 => ?_)
        · replace hs := (sp_ite hs).2 c6
          refine lv_aload_n hx hb dX8_count_72 rfl (lv_at hl 0 rfl) ?_
          refine lv_iconst (v := 0) hx hb dX8_count_73 (by decide) ?_
          obtain ⟨r7, σ8, eσ8, hs⟩ := sp_bind hs
          refine sv_goI (σ' := σ8) (r := r7) hW F.2.2.2.1 (sv_runV (C := RX8) F hW (k_X8_wetMany hB eσ8 H.size) gX8_count_X8_wetMany rfl ⟨rfl, rfl⟩ 1 (by decide +kernel) (sv_room2 (by omega) (by omega)) (sm_i 0 hB (by decide)) (sm_c0 hB) rfl rfl hl.1 rfl (Nat.le_of_ble_eq_true rfl) dX8_count_74 ⟨Nat.zero_le _, Nat.zero_le _⟩) (fun H locs hW => ?_)
          refine lv_aload_n hx hb dX8_count_77 rfl (lv_at hl 0 rfl) ?_
          refine lv_iconst (v := 1) hx hb dX8_count_78 (by decide) ?_
          obtain ⟨r9, σ10, eσ10, hs⟩ := sp_bind hs
          refine sv_goI (σ' := σ10) (r := r9) hW F.2.2.2.1 (sv_runV (C := RX8) F hW (k_X8_wetMany hB eσ10 H.size) gX8_count_X8_wetMany rfl ⟨rfl, rfl⟩ 1 (by decide +kernel) (sv_room2 (by omega) (by omega)) (sm_i 0 hB (by decide)) (sm_c0 hB) rfl rfl hl.1 rfl (Nat.le_of_ble_eq_true rfl) dX8_count_79 ⟨Nat.zero_le _, Nat.zero_le _⟩) (fun H locs hW => ?_)
          refine lv_iadd hx hb dX8_count_82 ?_
          cases hs
          exact sv_iret hx hb hr rfl hlk hW dX8_count_83
        · replace hs := (sp_ite hs).1 c6
          refine lv_aload_n hx hb dX8_count_65 rfl (lv_at hl 0 rfl) ?_
          obtain ⟨r11, σ12, eσ12, hs⟩ := sp_bind hs
          refine sv_goI (σ' := σ12) (r := r11) hW F.2.2.2.1 (sv_runV (C := RX8) F hW (k_X8_shakenMany hB eσ12 H.size) gX8_count_X8_shakenMany rfl ⟨rfl, rfl⟩ 0 (by decide +kernel) (sv_room2 (by omega) (by omega)) (sm_i 0 hB (by decide)) (sm_c0 hB) rfl rfl hl.1 rfl (Nat.le_of_ble_eq_true rfl) dX8_count_66 ⟨Nat.zero_le _, Nat.zero_le _⟩) (fun H locs hW => ?_)
          refine lv_goto (tgt := 83) hx hb dX8_count_69 (by decide) ?_
          cases hs
          exact sv_iret hx hb hr rfl hlk hW dX8_count_83
      · replace hs := (sp_ite hs).1 c5
        refine lv_aload_n hx hb dX8_count_53 rfl (lv_at hl 0 rfl) ?_
        refine sv_get (own := RX8) (C := RX8) (Tf := TX8) (N := 44) (index := 64) (κ := (0, 0)) (v := .int (σ2.1 0 11)) hx hb hts hown hK hW (fun _ h => List.mem_cons_of_mem _ (List.mem_append_right _ h)) (sm_i 0 hB (by decide)) (sm_c0 hB) rfl 11 (by decide) rfl rfl (List.mem_of_getElem? (i := 5) rfl) dX8_count_54 ?_
        refine lv_goto (tgt := 83) hx hb dX8_count_57 (by decide) ?_
        cases hs
        exact sv_iret hx hb hr rfl hlk hW dX8_count_83
    · replace hs := (sp_ite hs).2 c4
      refine lv_iload_n hx hb dX8_count_20 rfl (lv_at hl 1 rfl) ?_
      refine lv_iconst (v := 3) hx hb dX8_count_21 (by decide) ?_
      refine lv_icmp_ne (tgt := 32) hx hb dX8_count_22 (by decide) (fun c13 => ?_) (fun c13 => ?_)
      · replace hs := (sp_ite hs).2 c13
        refine lv_iload_n hx hb dX8_count_32 rfl (lv_at hl 1 rfl) ?_
        refine lv_iconst (v := 4) hx hb dX8_count_33 (by decide) ?_
        refine lv_icmp_ne (tgt := 44) hx hb dX8_count_34 (by decide) (fun c14 => ?_) (fun c14 => ?_)
        · replace hs := (sp_ite hs).2 c14
          refine lv_aload_n hx hb dX8_count_44 rfl (lv_at hl 0 rfl) ?_
          refine sv_get (own := RX8) (C := RX8) (Tf := TX8) (N := 44) (index := 103) (κ := (0, 0)) (v := .int (σ2.1 0 4)) hx hb hts hown hK hW (fun _ h => List.mem_cons_of_mem _ (List.mem_append_right _ h)) (sm_i 0 hB (by decide)) (sm_c0 hB) rfl 4 (by decide) rfl rfl (List.mem_of_getElem? (i := 4) rfl) dX8_count_45 ?_
          cases hs
          exact sv_iret hx hb hr rfl hlk hW dX8_count_48
        · replace hs := (sp_ite hs).1 c14
          refine lv_aload_n hx hb dX8_count_37 rfl (lv_at hl 0 rfl) ?_
          refine sv_get (own := RX8) (C := RX8) (Tf := TX8) (N := 44) (index := 112) (κ := (0, 0)) (v := .int (σ2.1 0 6)) hx hb hts hown hK hW (fun _ h => List.mem_cons_of_mem _ (List.mem_append_right _ h)) (sm_i 0 hB (by decide)) (sm_c0 hB) rfl 6 (by decide) rfl rfl (List.mem_of_getElem? (i := 3) rfl) dX8_count_38 ?_
          refine lv_goto (tgt := 48) hx hb dX8_count_41 (by decide) ?_
          cases hs
          exact sv_iret hx hb hr rfl hlk hW dX8_count_48
      · replace hs := (sp_ite hs).1 c13
        refine lv_aload_n hx hb dX8_count_25 rfl (lv_at hl 0 rfl) ?_
        refine sv_get (own := RX8) (C := RX8) (Tf := TX8) (N := 44) (index := 61) (κ := (0, 0)) (v := .int (σ2.1 0 3)) hx hb hts hown hK hW (fun _ h => List.mem_cons_of_mem _ (List.mem_append_right _ h)) (sm_i 0 hB (by decide)) (sm_c0 hB) rfl 3 (by decide) rfl rfl (List.mem_of_getElem? (i := 2) rfl) dX8_count_26 ?_
        refine lv_goto (tgt := 48) hx hb dX8_count_29 (by decide) ?_
        cases hs
        exact sv_iret hx hb hr rfl hlk hW dX8_count_48
  · replace hs := (sp_ite hs).1 c3
    refine lv_bipush (v := -2) hx hb dX8_count_12 (by decide) ?_
    cases hs
    exact sv_iret hx hb hr rfl hlk hW dX8_count_14
set_option maxRecDepth 100000 in
set_option maxHeartbeats 4000000 in
theorem k_X8_cell {l : Launch} {D : va_G} {T : Nat → ClassId} {h : Nat → Nat} {θ : sv_T} {a1 : Int32} {a2 : Int32} {a3 : Int32} {σ : sv_S} {r : Int32} {σ' : sv_S} (hB : sm_base θ)  (hs : q_X8_cell θ a1 a2 a3 σ = some (r, σ')) : sv_Mi sm_X l D T (sm_tys T) h θ yX8_cell wsX8_cell (sv_rm 2 45) [.ref (h 0), .int a1, .int a2, .int a3] σ r σ' := by
  intro sz
  refine sv_enter (cc := cX8_cell) (maxL := 4) (ret := (some .int)) (Qc := fun A => va_Qi (fun r2 (_ : Unit) => r2 = r) (fun _ t => va_P D vwCl (sv_ws T h θ σ') t.heap) A) sm_XP (by decide) rfl (Nat.le_of_ble_eq_true rfl) ?_
  intro p e s m args below meth c A F hr hlk ls H hl hW
  have hx := F.1.1
  have hb := F.1.2.1
  have hts := F.1.2.2.2.2
  have hown := F.1.2.2.2.1
  have hK := F.2.1
  obtain ⟨locs, hlocs⟩ : ∃ z : List Loc, z = [] := ⟨_, rfl⟩
  rw [← hlocs] at hW ⊢
  have hl : lv_has ls 4 [(0, .ref (h 0)), (1, .int a1), (2, .int a2), (3, .int a3)] := hl
  unfold q_X8_cell at hs
  refine lv_iload_n hx hb dX8_cell_0 rfl (lv_at hl 1 rfl) ?_
  obtain ⟨r1, σ2, eσ2, hs⟩ := sp_bind hs
  refine sv_goI (σ' := σ2) (r := r1) hW F.2.2.2.1 (sv_runT F hW (k_X8_isSheet hB eσ2 H.size) gX8_cell_X8_isSheet rfl ⟨rfl, rfl⟩ 1 (by decide +kernel) (sv_room2 (by omega) (by omega)) rfl hl.1 rfl (Nat.le_of_ble_eq_true rfl) dX8_cell_1 ⟨Nat.zero_le _, Nat.zero_le _⟩) (fun H locs hW => ?_)
  refine lv_if_ne (tgt := 10) hx hb dX8_cell_4 (by decide) (fun c3 => ?_) (fun c3 => ?_)
  · replace hs := (sp_ite hs).2 c3
    refine lv_aload_n hx hb dX8_cell_10 rfl (lv_at hl 0 rfl) ?_
    refine sv_get (own := RX8) (C := RX8) (Tf := TX8) (N := 44) (index := 44) (κ := (3, 10)) (v := .ref (h 10)) hx hb hts hown hK hW (fun _ h => List.mem_cons_of_mem _ (List.mem_append_right _ h)) (sm_i 0 hB (by decide)) (sm_c0 hB) rfl 40 (by decide) rfl rfl (List.mem_of_getElem? (i := 1) rfl) dX8_cell_11 ?_
    refine lv_iload_n hx hb dX8_cell_14 rfl (lv_at hl 1 rfl) ?_
    obtain ⟨hi4, hs⟩ := sp_g hs
    refine sv_zald hx hb hK hW (sm_i 10 hB (by decide)) (sm_c10 hB) 1 rfl hi4 dX8_cell_15 ?_
    refine lv_if_ne (tgt := 22) hx hb dX8_cell_16 (by decide) (fun c5 => ?_) (fun c5 => ?_)
    · replace hs := (sp_ite hs).2 c5
      refine lv_iload_n hx hb dX8_cell_22 rfl (lv_at hl 2 rfl) ?_
      refine lv_i2l (v := a2.toInt64) hx hb dX8_cell_23 rfl ?_
      refine lv_lconst (v := 0) hx hb dX8_cell_24 (by decide) ?_
      refine lv_aload_n hx hb dX8_cell_25 rfl (lv_at hl 0 rfl) ?_
      refine sv_get (own := RX8) (C := RX8) (Tf := TX8) (N := 44) (index := 51) (κ := (3, 12)) (v := .ref (h 12)) hx hb hts hown hK hW (fun _ h => List.mem_cons_of_mem _ (List.mem_append_right _ h)) (sm_i 0 hB (by decide)) (sm_c0 hB) rfl 42 (by decide) rfl rfl (List.mem_of_getElem? (i := 2) rfl) dX8_cell_26 ?_
      refine lv_iload_n hx hb dX8_cell_29 rfl (lv_at hl 1 rfl) ?_
      obtain ⟨hi6, hs⟩ := sp_g hs
      refine sv_iald hx hb hK hW (sm_i 12 hB (by decide)) (sm_c12 hB) 0 rfl hi6 dX8_cell_30 ?_
      refine lv_iconst (v := 1) hx hb dX8_cell_31 (by decide) ?_
      refine lv_isub hx hb dX8_cell_32 ?_
      refine lv_i2l (v := ((σ2.1 12 a1.toNatClampNeg) - (1 : Int32)).toInt64) hx hb dX8_cell_33 rfl ?_
      obtain ⟨r7, σ8, eσ8, hs⟩ := sp_bind hs
      refine sv_goI (σ' := σ8) (r := r7) hW F.2.2.2.1 (sv_runT F hW (k_X8_in hB eσ8 H.size) gX8_cell_X8_in rfl ⟨rfl, rfl⟩ 3 (by decide +kernel) (sv_room2 (by omega) (by omega)) rfl hl.1 rfl (Nat.le_of_ble_eq_true rfl) dX8_cell_34 ⟨Nat.zero_le _, Nat.zero_le _⟩) (fun H locs hW => ?_)
      refine lv_if_ne (tgt := 43) hx hb dX8_cell_37 (by decide) (fun c9 => ?_) (fun c9 => ?_)
      · replace hs := (sp_ite hs).2 c9
        refine lv_aload_n hx hb dX8_cell_43 rfl (lv_at hl 0 rfl) ?_
        refine sv_get (own := RX8) (C := RX8) (Tf := TX8) (N := 44) (index := 54) (κ := (3, 13)) (v := .ref (h 13)) hx hb hts hown hK hW (fun _ h => List.mem_cons_of_mem _ (List.mem_append_right _ h)) (sm_i 0 hB (by decide)) (sm_c0 hB) rfl 43 (by decide) rfl rfl (List.mem_of_getElem? (i := 3) rfl) dX8_cell_44 ?_
        refine lv_bipush (v := 40) hx hb dX8_cell_47 (by decide) ?_
        refine lv_iload_n hx hb dX8_cell_49 rfl (lv_at hl 1 rfl) ?_
        refine lv_imul hx hb dX8_cell_50 ?_
        refine lv_iload_n hx hb dX8_cell_51 rfl (lv_at hl 2 rfl) ?_
        refine lv_iadd hx hb dX8_cell_52 ?_
        refine lv_aload_n hx hb dX8_cell_53 rfl (lv_at hl 0 rfl) ?_
        refine sv_get (own := RX8) (C := RX8) (Tf := TX8) (N := 44) (index := 48) (κ := (3, 11)) (v := .ref (h 11)) hx hb hts hown hK hW (fun _ h => List.mem_cons_of_mem _ (List.mem_append_right _ h)) (sm_i 0 hB (by decide)) (sm_c0 hB) rfl 41 (by decide) rfl rfl (List.mem_of_getElem? (i := 4) rfl) dX8_cell_54 ?_
        refine lv_iload_n hx hb dX8_cell_57 rfl (lv_at hl 1 rfl) ?_
        obtain ⟨hi10, hs⟩ := sp_g hs
        refine sv_iald hx hb hK hW (sm_i 11 hB (by decide)) (sm_c11 hB) 0 rfl hi10 dX8_cell_58 ?_
        refine lv_if_ne (tgt := 67) hx hb dX8_cell_59 (by decide) (fun c11 => ?_) (fun c11 => ?_)
        · replace hs := (sp_ite hs).2 c11
          refine lv_aload_n hx hb dX8_cell_67 rfl (lv_at hl 0 rfl) ?_
          refine sv_get (own := RX8) (C := RX8) (Tf := TX8) (N := 44) (index := 48) (κ := (3, 11)) (v := .ref (h 11)) hx hb hts hown hK hW (fun _ h => List.mem_cons_of_mem _ (List.mem_append_right _ h)) (sm_i 0 hB (by decide)) (sm_c0 hB) rfl 41 (by decide) rfl rfl (List.mem_of_getElem? (i := 4) rfl) dX8_cell_68 ?_
          refine lv_iload_n hx hb dX8_cell_71 rfl (lv_at hl 1 rfl) ?_
          obtain ⟨hi12, hs⟩ := sp_g hs
          refine sv_iald hx hb hK hW (sm_i 11 hB (by decide)) (sm_c11 hB) 0 rfl hi12 dX8_cell_72 ?_
          refine lv_iconst (v := 1) hx hb dX8_cell_73 (by decide) ?_
          refine lv_icmp_ne (tgt := 82) hx hb dX8_cell_74 (by decide) (fun c13 => ?_) (fun c13 => ?_)
          · replace hs := (sp_ite hs).2 c13
            refine lv_iload_n hx hb dX8_cell_82 rfl (lv_at hl 3 rfl) ?_
            obtain ⟨hi14, hs⟩ := sp_g hs
            refine sv_iast hx hb hK hW (sm_i 13 hB (by decide)) (sm_c13 hB) 0 rfl hi14 dX8_cell_83 (fun σ15 H locs eσ15 hW => ?_)
            replace hs := sp_let hs eσ15
            refine lv_iconst (v := 1) hx hb dX8_cell_84 (by decide) ?_
            cases hs
            exact sv_iret hx hb hr rfl hlk hW dX8_cell_85
          · replace hs := (sp_ite hs).1 c13
            refine lv_iload_n hx hb dX8_cell_77 rfl (lv_at hl 3 rfl) ?_
            refine lv_i2s (v := a3.toInt16.toInt32) hx hb dX8_cell_78 rfl ?_
            refine lv_goto (tgt := 83) hx hb dX8_cell_79 (by decide) ?_
            obtain ⟨hi16, hs⟩ := sp_g hs
            refine sv_iast hx hb hK hW (sm_i 13 hB (by decide)) (sm_c13 hB) 0 rfl hi16 dX8_cell_83 (fun σ17 H locs eσ17 hW => ?_)
            replace hs := sp_let hs eσ17
            refine lv_iconst (v := 1) hx hb dX8_cell_84 (by decide) ?_
            cases hs
            exact sv_iret hx hb hr rfl hlk hW dX8_cell_85
        · replace hs := (sp_ite hs).1 c11
          refine lv_iload_n hx hb dX8_cell_62 rfl (lv_at hl 3 rfl) ?_
          refine lv_i2b (v := a3.toInt8.toInt32) hx hb dX8_cell_63 rfl ?_
          refine lv_goto (tgt := 83) hx hb dX8_cell_64 (by decide) ?_
          obtain ⟨hi18, hs⟩ := sp_g hs
          refine sv_iast hx hb hK hW (sm_i 13 hB (by decide)) (sm_c13 hB) 0 rfl hi18 dX8_cell_83 (fun σ19 H locs eσ19 hW => ?_)
          replace hs := sp_let hs eσ19
          refine lv_iconst (v := 1) hx hb dX8_cell_84 (by decide) ?_
          cases hs
          exact sv_iret hx hb hr rfl hlk hW dX8_cell_85
      · replace hs := (sp_ite hs).1 c9
        refine lv_bipush (v := -12) hx hb dX8_cell_40 (by decide) ?_
        cases hs
        exact sv_iret hx hb hr rfl hlk hW dX8_cell_42
    · replace hs := (sp_ite hs).1 c5
      refine lv_bipush (v := -11) hx hb dX8_cell_19 (by decide) ?_
      cases hs
      exact sv_iret hx hb hr rfl hlk hW dX8_cell_21
  · replace hs := (sp_ite hs).1 c3
    refine lv_bipush (v := -2) hx hb dX8_cell_7 (by decide) ?_
    cases hs
    exact sv_iret hx hb hr rfl hlk hW dX8_cell_9
set_option maxRecDepth 100000 in
set_option maxHeartbeats 4000000 in
theorem b_X8_copy_145 {p : Program} {l : Launch} {e : Env} {s : State} {m : MethodId} {args : Array Value} {below : List Frame} {meth : Method} {c : Code} {D : va_G} {T : Nat → ClassId} {A : Nat → Prop} {h : Nat → Nat} {θ : sv_T} {a1 : Int32} {a2 : Int32} {a3 : Int32} {a4 : Int32} {a5 : Int32} {r : Int32} {σ' : sv_S} (hB : sm_base θ)  (F : sv_F sm_X p m c cX8_copy 9 s args wsX8_copy RX8 D (sm_tys T) A) (hr : meth.sig.returnType = (some .int)) (hlk : meth.locks = false) (k121 : Int32 → Int32 → Int32 → Int32 → Int32 → Int32 → Int32 → sv_S → Option (Int32 × sv_S)) (hk121 : ∀ (x1 : Int32) (x2 : Int32) (x3 : Int32) (x4 : Int32) (x5 : Int32) (x6 : Int32) (x7 : Int32) (σ : sv_S) (H : Heap) (locs : List Loc) (ls : Array Slot), lv_has ls 9 [(0, .ref (h 0)), (1, .int x1), (2, .int x2), (3, .int x3), (4, .int x4), (5, .int x5), (6, .int x6), (7, .int x7)] → sv_W D T A s h θ σ H locs → k121 x1 x2 x3 x4 x5 x6 x7 σ = some (r, σ') → W p l e (sv_rm 2 45) s m args below meth c H locs 0 0 (MQ below (va_Qi (fun r2 (_ : Unit) => r2 = r) (fun _ t => va_P D vwCl (sv_ws T h θ σ') t.heap) A) args s 0 0 A) (F0 m 121 ls [])) : ∀ (x1 : Int32) (x2 : Int32) (x3 : Int32) (x4 : Int32) (x5 : Int32) (x6 : Int32) (x7 : Int32) (w0 : Int32) (σ : sv_S) (H : Heap) (locs : List Loc) (ls : Array Slot), lv_has ls 9 [(0, .ref (h 0)), (1, .int x1), (2, .int x2), (3, .int x3), (4, .int x4), (5, .int x5), (6, .int x6), (7, .int x7)] → sv_W D T A s h θ σ H locs → q_X8_copy_B145 θ a1 a2 a3 a4 a5 k121 x1 x2 x3 x4 x5 x6 x7 w0 σ = some (r, σ') → W p l e (sv_rm 2 45) s m args below meth c H locs 0 0 (MQ below (va_Qi (fun r2 (_ : Unit) => r2 = r) (fun _ t => va_P D vwCl (sv_ws T h θ σ') t.heap) A) args s 0 0 A) (F0 m 145 ls [.int w0]) := by
  have hx := F.1.1
  have hb := F.1.2.1
  have hts := F.1.2.2.2.2
  have hown := F.1.2.2.2.1
  have hK := F.2.1
  intro x1 x2 x3 x4 x5 x6 x7 w0 σ H locs ls hl hW hs
  unfold q_X8_copy_B145 at hs
  refine lv_istore (lv' := [(8, .int w0), (0, .ref (h 0)), (1, .int x1), (2, .int x2), (3, .int x3), (4, .int x4), (5, .int x5), (6, .int x6), (7, .int x7)]) hx hb dX8_copy_145 hl (by decide) rfl (fun ls hl => ?_)
  refine lv_aload_n hx hb dX8_copy_147 rfl (lv_at hl 1 rfl) ?_
  refine sv_get (own := RX8) (C := RX8) (Tf := TX8) (N := 44) (index := 54) (κ := (3, 13)) (v := .ref (h 13)) hx hb hts hown hK hW (fun _ h => List.mem_cons_of_mem _ (List.mem_append_right _ h)) (sm_i 0 hB (by decide)) (sm_c0 hB) rfl 43 (by decide) rfl rfl (List.mem_of_getElem? (i := 4) rfl) dX8_copy_148 ?_
  refine lv_bipush (v := 40) hx hb dX8_copy_151 (by decide) ?_
  refine lv_iload_n hx hb dX8_copy_153 rfl (lv_at hl 4 rfl) ?_
  refine lv_imul hx hb dX8_copy_154 ?_
  refine lv_iload hx hb dX8_copy_155 (lv_at hl 5 rfl) ?_
  refine lv_iadd hx hb dX8_copy_157 ?_
  refine lv_iload hx hb dX8_copy_158 (lv_at hl 0 rfl) ?_
  refine lv_iadd hx hb dX8_copy_160 ?_
  refine lv_aload_n hx hb dX8_copy_161 rfl (lv_at hl 1 rfl) ?_
  refine sv_get (own := RX8) (C := RX8) (Tf := TX8) (N := 44) (index := 54) (κ := (3, 13)) (v := .ref (h 13)) hx hb hts hown hK hW (fun _ h => List.mem_cons_of_mem _ (List.mem_append_right _ h)) (sm_i 0 hB (by decide)) (sm_c0 hB) rfl 43 (by decide) rfl rfl (List.mem_of_getElem? (i := 4) rfl) dX8_copy_162 ?_
  refine lv_bipush (v := 40) hx hb dX8_copy_165 (by decide) ?_
  refine lv_iload_n hx hb dX8_copy_167 rfl (lv_at hl 2 rfl) ?_
  refine lv_imul hx hb dX8_copy_168 ?_
  refine lv_iload_n hx hb dX8_copy_169 rfl (lv_at hl 3 rfl) ?_
  refine lv_iadd hx hb dX8_copy_170 ?_
  refine lv_iload hx hb dX8_copy_171 (lv_at hl 0 rfl) ?_
  refine lv_iadd hx hb dX8_copy_173 ?_
  obtain ⟨hi24, hs⟩ := sp_g hs
  refine sv_iald hx hb hK hW (sm_i 13 hB (by decide)) (sm_c13 hB) 0 rfl hi24 dX8_copy_174 ?_
  obtain ⟨hi25, hs⟩ := sp_g hs
  refine sv_iast hx hb hK hW (sm_i 13 hB (by decide)) (sm_c13 hB) 0 rfl hi25 dX8_copy_175 (fun σ26 H locs eσ26 hW => ?_)
  replace hs := sp_let hs eσ26
  obtain ⟨v27, ev27⟩ : ∃ y : Int32, y = x7 + 1 := ⟨_, rfl⟩
  replace hs := sp_let hs ev27
  refine lv_iinc (v := v27) (lv' := [(7, .int v27), (8, .int w0), (0, .ref (h 0)), (1, .int x1), (2, .int x2), (3, .int x3), (4, .int x4), (5, .int x5), (6, .int x6)]) hx hb dX8_copy_176 hl (k := 8) rfl (by rw [ev27]; rfl) (by decide) rfl (fun ls hl => ?_)
  refine lv_goto (tgt := 121) hx hb dX8_copy_179 (by decide) ?_
  exact hk121 x1 x2 x3 x4 x5 x6 v27 σ26 H locs ls (lv_sub hl [2, 3, 4, 5, 6, 7, 8, 0] rfl) hW hs
set_option maxRecDepth 100000 in
set_option maxHeartbeats 4000000 in
theorem b_X8_copy_121 {p : Program} {l : Launch} {e : Env} {s : State} {m : MethodId} {args : Array Value} {below : List Frame} {meth : Method} {c : Code} {D : va_G} {T : Nat → ClassId} {A : Nat → Prop} {h : Nat → Nat} {θ : sv_T} {a1 : Int32} {a2 : Int32} {a3 : Int32} {a4 : Int32} {a5 : Int32} {r : Int32} {σ' : sv_S} (hB : sm_base θ)  (F : sv_F sm_X p m c cX8_copy 9 s args wsX8_copy RX8 D (sm_tys T) A) (hr : meth.sig.returnType = (some .int)) (hlk : meth.locks = false)  : ∀ (n : Nat), ∀ (x1 : Int32) (x2 : Int32) (x3 : Int32) (x4 : Int32) (x5 : Int32) (x6 : Int32) (x7 : Int32) (σ : sv_S) (H : Heap) (locs : List Loc) (ls : Array Slot), lv_has ls 9 [(0, .ref (h 0)), (1, .int x1), (2, .int x2), (3, .int x3), (4, .int x4), (5, .int x5), (6, .int x6), (7, .int x7)] → sv_W D T A s h θ σ H locs → q_X8_copy_B121 θ a1 a2 a3 a4 a5 n x1 x2 x3 x4 x5 x6 x7 σ = some (r, σ') → W p l e (sv_rm 2 45) s m args below meth c H locs 0 0 (MQ below (va_Qi (fun r2 (_ : Unit) => r2 = r) (fun _ t => va_P D vwCl (sv_ws T h θ σ') t.heap) A) args s 0 0 A) (F0 m 121 ls []) := by
  have hx := F.1.1
  have hb := F.1.2.1
  have hts := F.1.2.2.2.2
  have hown := F.1.2.2.2.1
  have hK := F.2.1
  intro n
  induction n with
  | zero =>
    intro x1 x2 x3 x4 x5 x6 x7 σ H locs ls hl hW hs
    have hs : (none : Option (Int32 × sv_S)) = some (r, σ') := hs
    cases hs
  | succ n ih =>
    intro x1 x2 x3 x4 x5 x6 x7 σ H locs ls hl hW hs
    have hs : q_X8_copy_B121_b θ a1 a2 a3 a4 a5 (q_X8_copy_B121 θ a1 a2 a3 a4 a5 n) x1 x2 x3 x4 x5 x6 x7 σ = some (r, σ') := hs
    unfold q_X8_copy_B121_b at hs
    refine lv_iload hx hb dX8_copy_121 (lv_at hl 7 rfl) ?_
    refine lv_iload hx hb dX8_copy_123 (lv_at hl 5 rfl) ?_
    refine lv_icmp_ge (tgt := 182) hx hb dX8_copy_125 (by decide) (fun c22 => ?_) (fun c22 => ?_)
    · replace hs := (sp_ite hs).1 c22
      refine lv_iload hx hb dX8_copy_182 (lv_at hl 5 rfl) ?_
      cases hs
      exact sv_iret hx hb hr rfl hlk hW dX8_copy_184
    · replace hs := (sp_ite hs).2 c22
      refine lv_iload hx hb dX8_copy_128 (lv_at hl 6 rfl) ?_
      refine lv_if_eq (tgt := 143) hx hb dX8_copy_130 (by decide) (fun c23 => ?_) (fun c23 => ?_)
      · replace hs := (sp_ite hs).1 c23
        refine lv_iload hx hb dX8_copy_143 (lv_at hl 7 rfl) ?_
        exact b_X8_copy_145 hB F hr hlk _ ih x1 x2 x3 x4 x5 x6 x7 x7 σ H locs ls (lv_sub hl [0, 1, 2, 3, 4, 5, 6, 7] rfl) hW hs
      · replace hs := (sp_ite hs).2 c23
        refine lv_iload hx hb dX8_copy_133 (lv_at hl 5 rfl) ?_
        refine lv_iconst (v := 1) hx hb dX8_copy_135 (by decide) ?_
        refine lv_isub hx hb dX8_copy_136 ?_
        refine lv_iload hx hb dX8_copy_137 (lv_at hl 7 rfl) ?_
        refine lv_isub hx hb dX8_copy_139 ?_
        refine lv_goto (tgt := 145) hx hb dX8_copy_140 (by decide) ?_
        exact b_X8_copy_145 hB F hr hlk _ ih x1 x2 x3 x4 x5 x6 x7 ((x5 - (1 : Int32)) - x7) σ H locs ls (lv_sub hl [0, 1, 2, 3, 4, 5, 6, 7] rfl) hW hs
set_option maxRecDepth 100000 in
set_option maxHeartbeats 4000000 in
theorem k_X8_copy {l : Launch} {D : va_G} {T : Nat → ClassId} {h : Nat → Nat} {θ : sv_T} {a1 : Int32} {a2 : Int32} {a3 : Int32} {a4 : Int32} {a5 : Int32} {σ : sv_S} {r : Int32} {σ' : sv_S} (hB : sm_base θ)  (hs : q_X8_copy θ a1 a2 a3 a4 a5 σ = some (r, σ')) : sv_Mi sm_X l D T (sm_tys T) h θ yX8_copy wsX8_copy (sv_rm 2 45) [.ref (h 0), .int a1, .int a2, .int a3, .int a4, .int a5] σ r σ' := by
  intro sz
  refine sv_enter (cc := cX8_copy) (maxL := 9) (ret := (some .int)) (Qc := fun A => va_Qi (fun r2 (_ : Unit) => r2 = r) (fun _ t => va_P D vwCl (sv_ws T h θ σ') t.heap) A) sm_XP (by decide) rfl (Nat.le_of_ble_eq_true rfl) ?_
  intro p e s m args below meth c A F hr hlk ls H hl hW
  have hx := F.1.1
  have hb := F.1.2.1
  have hts := F.1.2.2.2.2
  have hown := F.1.2.2.2.1
  have hK := F.2.1
  obtain ⟨locs, hlocs⟩ : ∃ z : List Loc, z = [] := ⟨_, rfl⟩
  rw [← hlocs] at hW ⊢
  have hl : lv_has ls 9 [(0, .ref (h 0)), (1, .int a1), (2, .int a2), (3, .int a3), (4, .int a4), (5, .int a5)] := hl
  unfold q_X8_copy at hs
  refine lv_iload_n hx hb dX8_copy_0 rfl (lv_at hl 1 rfl) ?_
  obtain ⟨r1, σ2, eσ2, hs⟩ := sp_bind hs
  refine sv_goI (σ' := σ2) (r := r1) hW F.2.2.2.1 (sv_runT F hW (k_X8_isSheet hB eσ2 H.size) gX8_copy_X8_isSheet rfl ⟨rfl, rfl⟩ 1 (by decide +kernel) (sv_room2 (by omega) (by omega)) rfl hl.1 rfl (Nat.le_of_ble_eq_true rfl) dX8_copy_1 ⟨Nat.zero_le _, Nat.zero_le _⟩) (fun H locs hW => ?_)
  refine lv_if_eq (tgt := 14) hx hb dX8_copy_4 (by decide) (fun c3 => ?_) (fun c3 => ?_)
  · replace hs := (sp_ite hs).1 c3
    refine lv_bipush (v := -2) hx hb dX8_copy_14 (by decide) ?_
    cases hs
    exact sv_iret hx hb hr rfl hlk hW dX8_copy_16
  · replace hs := (sp_ite hs).2 c3
    refine lv_iload_n hx hb dX8_copy_7 rfl (lv_at hl 3 rfl) ?_
    obtain ⟨r4, σ5, eσ5, hs⟩ := sp_bind hs
    refine sv_goI (σ' := σ5) (r := r4) hW F.2.2.2.1 (sv_runT F hW (k_X8_isSheet hB eσ5 H.size) gX8_copy_X8_isSheet rfl ⟨rfl, rfl⟩ 1 (by decide +kernel) (sv_room2 (by omega) (by omega)) rfl hl.1 rfl (Nat.le_of_ble_eq_true rfl) dX8_copy_8 ⟨Nat.zero_le _, Nat.zero_le _⟩) (fun H locs hW => ?_)
    refine lv_if_ne (tgt := 17) hx hb dX8_copy_11 (by decide) (fun c6 => ?_) (fun c6 => ?_)
    · replace hs := (sp_ite hs).2 c6
      refine lv_aload_n hx hb dX8_copy_17 rfl (lv_at hl 0 rfl) ?_
      refine sv_get (own := RX8) (C := RX8) (Tf := TX8) (N := 44) (index := 44) (κ := (3, 10)) (v := .ref (h 10)) hx hb hts hown hK hW (fun _ h => List.mem_cons_of_mem _ (List.mem_append_right _ h)) (sm_i 0 hB (by decide)) (sm_c0 hB) rfl 40 (by decide) rfl rfl (List.mem_of_getElem? (i := 1) rfl) dX8_copy_18 ?_
      refine lv_iload_n hx hb dX8_copy_21 rfl (lv_at hl 1 rfl) ?_
      obtain ⟨hi7, hs⟩ := sp_g hs
      refine sv_zald hx hb hK hW (sm_i 10 hB (by decide)) (sm_c10 hB) 1 rfl hi7 dX8_copy_22 ?_
      refine lv_if_eq (tgt := 35) hx hb dX8_copy_23 (by decide) (fun c8 => ?_) (fun c8 => ?_)
      · replace hs := (sp_ite hs).1 c8
        refine lv_bipush (v := -11) hx hb dX8_copy_35 (by decide) ?_
        cases hs
        exact sv_iret hx hb hr rfl hlk hW dX8_copy_37
      · replace hs := (sp_ite hs).2 c8
        refine lv_aload_n hx hb dX8_copy_26 rfl (lv_at hl 0 rfl) ?_
        refine sv_get (own := RX8) (C := RX8) (Tf := TX8) (N := 44) (index := 44) (κ := (3, 10)) (v := .ref (h 10)) hx hb hts hown hK hW (fun _ h => List.mem_cons_of_mem _ (List.mem_append_right _ h)) (sm_i 0 hB (by decide)) (sm_c0 hB) rfl 40 (by decide) rfl rfl (List.mem_of_getElem? (i := 1) rfl) dX8_copy_27 ?_
        refine lv_iload_n hx hb dX8_copy_30 rfl (lv_at hl 3 rfl) ?_
        obtain ⟨hi9, hs⟩ := sp_g hs
        refine sv_zald hx hb hK hW (sm_i 10 hB (by decide)) (sm_c10 hB) 1 rfl hi9 dX8_copy_31 ?_
        refine lv_if_ne (tgt := 38) hx hb dX8_copy_32 (by decide) (fun c10 => ?_) (fun c10 => ?_)
        · replace hs := (sp_ite hs).2 c10
          refine lv_aload_n hx hb dX8_copy_38 rfl (lv_at hl 0 rfl) ?_
          refine sv_get (own := RX8) (C := RX8) (Tf := TX8) (N := 44) (index := 48) (κ := (3, 11)) (v := .ref (h 11)) hx hb hts hown hK hW (fun _ h => List.mem_cons_of_mem _ (List.mem_append_right _ h)) (sm_i 0 hB (by decide)) (sm_c0 hB) rfl 41 (by decide) rfl rfl (List.mem_of_getElem? (i := 2) rfl) dX8_copy_39 ?_
          refine lv_iload_n hx hb dX8_copy_42 rfl (lv_at hl 1 rfl) ?_
          obtain ⟨hi11, hs⟩ := sp_g hs
          refine sv_iald hx hb hK hW (sm_i 11 hB (by decide)) (sm_c11 hB) 0 rfl hi11 dX8_copy_43 ?_
          refine lv_aload_n hx hb dX8_copy_44 rfl (lv_at hl 0 rfl) ?_
          refine sv_get (own := RX8) (C := RX8) (Tf := TX8) (N := 44) (index := 48) (κ := (3, 11)) (v := .ref (h 11)) hx hb hts hown hK hW (fun _ h => List.mem_cons_of_mem _ (List.mem_append_right _ h)) (sm_i 0 hB (by decide)) (sm_c0 hB) rfl 41 (by decide) rfl rfl (List.mem_of_getElem? (i := 2) rfl) dX8_copy_45 ?_
          refine lv_iload_n hx hb dX8_copy_48 rfl (lv_at hl 3 rfl) ?_
          obtain ⟨hi12, hs⟩ := sp_g hs
          refine sv_iald hx hb hK hW (sm_i 11 hB (by decide)) (sm_c11 hB) 0 rfl hi12 dX8_copy_49 ?_
          refine lv_icmp_eq (tgt := 56) hx hb dX8_copy_50 (by decide) (fun c13 => ?_) (fun c13 => ?_)
          · replace hs := (sp_ite hs).1 c13
            refine lv_iload hx hb dX8_copy_56 (lv_at hl 5 rfl) ?_
            refine lv_if_lt (tgt := 97) hx hb dX8_copy_58 (by decide) (fun c14 => ?_) (fun c14 => ?_)
            · replace hs := (sp_ite hs).1 c14
              refine lv_bipush (v := -12) hx hb dX8_copy_97 (by decide) ?_
              cases hs
              exact sv_iret hx hb hr rfl hlk hW dX8_copy_99
            · replace hs := (sp_ite hs).2 c14
              refine lv_iload_n hx hb dX8_copy_61 rfl (lv_at hl 2 rfl) ?_
              refine lv_if_lt (tgt := 97) hx hb dX8_copy_62 (by decide) (fun c15 => ?_) (fun c15 => ?_)
              · replace hs := (sp_ite hs).1 c15
                refine lv_bipush (v := -12) hx hb dX8_copy_97 (by decide) ?_
                cases hs
                exact sv_iret hx hb hr rfl hlk hW dX8_copy_99
              · replace hs := (sp_ite hs).2 c15
                refine lv_iload hx hb dX8_copy_65 (lv_at hl 4 rfl) ?_
                refine lv_if_lt (tgt := 97) hx hb dX8_copy_67 (by decide) (fun c16 => ?_) (fun c16 => ?_)
                · replace hs := (sp_ite hs).1 c16
                  refine lv_bipush (v := -12) hx hb dX8_copy_97 (by decide) ?_
                  cases hs
                  exact sv_iret hx hb hr rfl hlk hW dX8_copy_99
                · replace hs := (sp_ite hs).2 c16
                  refine lv_iload_n hx hb dX8_copy_70 rfl (lv_at hl 2 rfl) ?_
                  refine lv_aload_n hx hb dX8_copy_71 rfl (lv_at hl 0 rfl) ?_
                  refine sv_get (own := RX8) (C := RX8) (Tf := TX8) (N := 44) (index := 51) (κ := (3, 12)) (v := .ref (h 12)) hx hb hts hown hK hW (fun _ h => List.mem_cons_of_mem _ (List.mem_append_right _ h)) (sm_i 0 hB (by decide)) (sm_c0 hB) rfl 42 (by decide) rfl rfl (List.mem_of_getElem? (i := 3) rfl) dX8_copy_72 ?_
                  refine lv_iload_n hx hb dX8_copy_75 rfl (lv_at hl 1 rfl) ?_
                  obtain ⟨hi17, hs⟩ := sp_g hs
                  refine sv_iald hx hb hK hW (sm_i 12 hB (by decide)) (sm_c12 hB) 0 rfl hi17 dX8_copy_76 ?_
                  refine lv_iload hx hb dX8_copy_77 (lv_at hl 5 rfl) ?_
                  refine lv_isub hx hb dX8_copy_79 ?_
                  refine lv_icmp_gt (tgt := 97) hx hb dX8_copy_80 (by decide) (fun c18 => ?_) (fun c18 => ?_)
                  · replace hs := (sp_ite hs).1 c18
                    refine lv_bipush (v := -12) hx hb dX8_copy_97 (by decide) ?_
                    cases hs
                    exact sv_iret hx hb hr rfl hlk hW dX8_copy_99
                  · replace hs := (sp_ite hs).2 c18
                    refine lv_iload hx hb dX8_copy_83 (lv_at hl 4 rfl) ?_
                    refine lv_aload_n hx hb dX8_copy_85 rfl (lv_at hl 0 rfl) ?_
                    refine sv_get (own := RX8) (C := RX8) (Tf := TX8) (N := 44) (index := 51) (κ := (3, 12)) (v := .ref (h 12)) hx hb hts hown hK hW (fun _ h => List.mem_cons_of_mem _ (List.mem_append_right _ h)) (sm_i 0 hB (by decide)) (sm_c0 hB) rfl 42 (by decide) rfl rfl (List.mem_of_getElem? (i := 3) rfl) dX8_copy_86 ?_
                    refine lv_iload_n hx hb dX8_copy_89 rfl (lv_at hl 3 rfl) ?_
                    obtain ⟨hi19, hs⟩ := sp_g hs
                    refine sv_iald hx hb hK hW (sm_i 12 hB (by decide)) (sm_c12 hB) 0 rfl hi19 dX8_copy_90 ?_
                    refine lv_iload hx hb dX8_copy_91 (lv_at hl 5 rfl) ?_
                    refine lv_isub hx hb dX8_copy_93 ?_
                    refine lv_icmp_le (tgt := 100) hx hb dX8_copy_94 (by decide) (fun c20 => ?_) (fun c20 => ?_)
                    · replace hs := (sp_ite hs).1 c20
                      refine lv_iload_n hx hb dX8_copy_100 rfl (lv_at hl 1 rfl) ?_
                      refine lv_iload_n hx hb dX8_copy_101 rfl (lv_at hl 3 rfl) ?_
                      refine lv_icmp_ne (tgt := 115) hx hb dX8_copy_102 (by decide) (fun c21 => ?_) (fun c21 => ?_)
                      · replace hs := (sp_ite hs).2 c21
                        refine lv_iconst (v := 0) hx hb dX8_copy_115 (by decide) ?_
                        refine lv_istore (lv' := [(6, .int (0 : Int32)), (0, .ref (h 0)), (1, .int a1), (2, .int a2), (3, .int a3), (4, .int a4), (5, .int a5)]) hx hb dX8_copy_116 hl (by decide) rfl (fun ls hl => ?_)
                        refine lv_iconst (v := 0) hx hb dX8_copy_118 (by decide) ?_
                        refine lv_istore (lv' := [(7, .int (0 : Int32)), (6, .int (0 : Int32)), (0, .ref (h 0)), (1, .int a1), (2, .int a2), (3, .int a3), (4, .int a4), (5, .int a5)]) hx hb dX8_copy_119 hl (by decide) rfl (fun ls hl => ?_)
                        exact b_X8_copy_121 hB F hr hlk sv_N a1 a2 a3 a4 a5 (0 : Int32) (0 : Int32) σ5 H locs ls (lv_sub hl [2, 3, 4, 5, 6, 7, 1, 0] rfl) hW hs
                      · replace hs := (sp_ite hs).1 c21
                        refine lv_iload_n hx hb dX8_copy_105 rfl (lv_at hl 2 rfl) ?_
                        refine lv_iload hx hb dX8_copy_106 (lv_at hl 4 rfl) ?_
                        refine lv_icmp_ge (tgt := 115) hx hb dX8_copy_108 (by decide) (fun c28 => ?_) (fun c28 => ?_)
                        · replace hs := (sp_ite hs).1 c28
                          refine lv_iconst (v := 0) hx hb dX8_copy_115 (by decide) ?_
                          refine lv_istore (lv' := [(6, .int (0 : Int32)), (0, .ref (h 0)), (1, .int a1), (2, .int a2), (3, .int a3), (4, .int a4), (5, .int a5)]) hx hb dX8_copy_116 hl (by decide) rfl (fun ls hl => ?_)
                          refine lv_iconst (v := 0) hx hb dX8_copy_118 (by decide) ?_
                          refine lv_istore (lv' := [(7, .int (0 : Int32)), (6, .int (0 : Int32)), (0, .ref (h 0)), (1, .int a1), (2, .int a2), (3, .int a3), (4, .int a4), (5, .int a5)]) hx hb dX8_copy_119 hl (by decide) rfl (fun ls hl => ?_)
                          exact b_X8_copy_121 hB F hr hlk sv_N a1 a2 a3 a4 a5 (0 : Int32) (0 : Int32) σ5 H locs ls (lv_sub hl [2, 3, 4, 5, 6, 7, 1, 0] rfl) hW hs
                        · replace hs := (sp_ite hs).2 c28
                          refine lv_iconst (v := 1) hx hb dX8_copy_111 (by decide) ?_
                          refine lv_goto (tgt := 116) hx hb dX8_copy_112 (by decide) ?_
                          refine lv_istore (lv' := [(6, .int (1 : Int32)), (0, .ref (h 0)), (1, .int a1), (2, .int a2), (3, .int a3), (4, .int a4), (5, .int a5)]) hx hb dX8_copy_116 hl (by decide) rfl (fun ls hl => ?_)
                          refine lv_iconst (v := 0) hx hb dX8_copy_118 (by decide) ?_
                          refine lv_istore (lv' := [(7, .int (0 : Int32)), (6, .int (1 : Int32)), (0, .ref (h 0)), (1, .int a1), (2, .int a2), (3, .int a3), (4, .int a4), (5, .int a5)]) hx hb dX8_copy_119 hl (by decide) rfl (fun ls hl => ?_)
                          exact b_X8_copy_121 hB F hr hlk sv_N a1 a2 a3 a4 a5 (1 : Int32) (0 : Int32) σ5 H locs ls (lv_sub hl [2, 3, 4, 5, 6, 7, 1, 0] rfl) hW hs
                    · replace hs := (sp_ite hs).2 c20
                      refine lv_bipush (v := -12) hx hb dX8_copy_97 (by decide) ?_
                      cases hs
                      exact sv_iret hx hb hr rfl hlk hW dX8_copy_99
          · replace hs := (sp_ite hs).2 c13
            refine lv_bipush (v := -13) hx hb dX8_copy_53 (by decide) ?_
            cases hs
            exact sv_iret hx hb hr rfl hlk hW dX8_copy_55
        · replace hs := (sp_ite hs).1 c10
          refine lv_bipush (v := -11) hx hb dX8_copy_35 (by decide) ?_
          cases hs
          exact sv_iret hx hb hr rfl hlk hW dX8_copy_37
    · replace hs := (sp_ite hs).1 c6
      refine lv_bipush (v := -2) hx hb dX8_copy_14 (by decide) ?_
      cases hs
      exact sv_iret hx hb hr rfl hlk hW dX8_copy_16
set_option maxRecDepth 100000 in
set_option maxHeartbeats 4000000 in
theorem b_X8_bargains_75 {p : Program} {l : Launch} {e : Env} {s : State} {m : MethodId} {args : Array Value} {below : List Frame} {meth : Method} {c : Code} {D : va_G} {T : Nat → ClassId} {A : Nat → Prop} {h : Nat → Nat} {θ : sv_T} {a1 : Int32} {a2 : Int32} {a3 : Int32} {a4 : Int32} {r : Int32} {σ' : sv_S} (hB : sm_base θ)  (F : sv_F sm_X p m c cX8_bargains 8 s args wsX8_bargains RX8 D (sm_tys T) A) (hr : meth.sig.returnType = (some .int)) (hlk : meth.locks = false)  : ∀ (n : Nat), ∀ (x1 : Int32) (x3 : Int32) (x4 : Int32) (x5 : Int32) (x6 : Int32) (σ : sv_S) (H : Heap) (locs : List Loc) (ls : Array Slot), lv_has ls 8 [(0, .ref (h 0)), (1, .int x1), (3, .int x3), (4, .int x4), (5, .int x5), (6, .int x6)] → sv_W D T A s h θ σ H locs → q_X8_bargains_B75 θ a1 a2 a3 a4 n x1 x3 x4 x5 x6 σ = some (r, σ') → W p l e (sv_rm 2 48) s m args below meth c H locs 0 0 (MQ below (va_Qi (fun r2 (_ : Unit) => r2 = r) (fun _ t => va_P D vwCl (sv_ws T h θ σ') t.heap) A) args s 0 0 A) (F0 m 75 ls []) := by
  have hx := F.1.1
  have hb := F.1.2.1
  have hts := F.1.2.2.2.2
  have hown := F.1.2.2.2.1
  have hK := F.2.1
  intro n
  induction n with
  | zero =>
    intro x1 x3 x4 x5 x6 σ H locs ls hl hW hs
    have hs : (none : Option (Int32 × sv_S)) = some (r, σ') := hs
    cases hs
  | succ n ih =>
    intro x1 x3 x4 x5 x6 σ H locs ls hl hW hs
    have hs : q_X8_bargains_B75_b θ a1 a2 a3 a4 (q_X8_bargains_B75 θ a1 a2 a3 a4 n) x1 x3 x4 x5 x6 σ = some (r, σ') := hs
    unfold q_X8_bargains_B75_b at hs
    refine lv_iload hx hb dX8_bargains_75 (lv_at hl 5 rfl) ?_
    refine lv_iload hx hb dX8_bargains_77 (lv_at hl 3 rfl) ?_
    refine lv_icmp_ge (tgt := 167) hx hb dX8_bargains_79 (by decide) (fun c14 => ?_) (fun c14 => ?_)
    · replace hs := (sp_ite hs).1 c14
      refine lv_iload hx hb dX8_bargains_167 (lv_at hl 4 rfl) ?_
      cases hs
      exact sv_iret hx hb hr rfl hlk hW dX8_bargains_169
    · replace hs := (sp_ite hs).2 c14
      refine lv_iload_n hx hb dX8_bargains_82 rfl (lv_at hl 2 rfl) ?_
      refine lv_if_lt (tgt := 103) hx hb dX8_bargains_83 (by decide) (fun c15 => ?_) (fun c15 => ?_)
      · replace hs := (sp_ite hs).1 c15
        refine lv_bipush (v := -12) hx hb dX8_bargains_103 (by decide) ?_
        cases hs
        exact sv_iret hx hb hr rfl hlk hW dX8_bargains_105
      · replace hs := (sp_ite hs).2 c15
        refine lv_iload_n hx hb dX8_bargains_86 rfl (lv_at hl 2 rfl) ?_
        refine lv_aload_n hx hb dX8_bargains_87 rfl (lv_at hl 0 rfl) ?_
        refine sv_get (own := RX8) (C := RX8) (Tf := TX8) (N := 44) (index := 51) (κ := (3, 12)) (v := .ref (h 12)) hx hb hts hown hK hW (fun _ h => List.mem_cons_of_mem _ (List.mem_append_right _ h)) (sm_i 0 hB (by decide)) (sm_c0 hB) rfl 42 (by decide) rfl rfl (List.mem_of_getElem? (i := 5) rfl) dX8_bargains_88 ?_
        refine lv_iload_n hx hb dX8_bargains_91 rfl (lv_at hl 1 rfl) ?_
        obtain ⟨hi16, hs⟩ := sp_g hs
        refine sv_iald hx hb hK hW (sm_i 12 hB (by decide)) (sm_c12 hB) 0 rfl hi16 dX8_bargains_92 ?_
        refine lv_iconst (v := 3) hx hb dX8_bargains_93 (by decide) ?_
        refine lv_iload hx hb dX8_bargains_94 (lv_at hl 5 rfl) ?_
        refine lv_imul hx hb dX8_bargains_96 ?_
        refine lv_isub hx hb dX8_bargains_97 ?_
        refine lv_iconst (v := 3) hx hb dX8_bargains_98 (by decide) ?_
        refine lv_isub hx hb dX8_bargains_99 ?_
        refine lv_icmp_le (tgt := 106) hx hb dX8_bargains_100 (by decide) (fun c17 => ?_) (fun c17 => ?_)
        · replace hs := (sp_ite hs).1 c17
          refine lv_bipush (v := 40) hx hb dX8_bargains_106 (by decide) ?_
          refine lv_iload_n hx hb dX8_bargains_108 rfl (lv_at hl 1 rfl) ?_
          refine lv_imul hx hb dX8_bargains_109 ?_
          refine lv_iload_n hx hb dX8_bargains_110 rfl (lv_at hl 2 rfl) ?_
          refine lv_iadd hx hb dX8_bargains_111 ?_
          refine lv_iconst (v := 3) hx hb dX8_bargains_112 (by decide) ?_
          refine lv_iload hx hb dX8_bargains_113 (lv_at hl 5 rfl) ?_
          refine lv_imul hx hb dX8_bargains_115 ?_
          refine lv_iadd hx hb dX8_bargains_116 ?_
          refine lv_topi (fun v18 ev18 => ?_)
          replace hs := sp_let hs ev18
          refine lv_istore (lv' := [(7, .int v18), (0, .ref (h 0)), (1, .int x1), (3, .int x3), (4, .int x4), (5, .int x5), (6, .int x6)]) hx hb dX8_bargains_117 hl (by decide) rfl (fun ls hl => ?_)
          refine lv_iload hx hb dX8_bargains_119 (lv_at hl 5 rfl) ?_
          refine lv_aload_n hx hb dX8_bargains_121 rfl (lv_at hl 1 rfl) ?_
          refine lv_aload_n hx hb dX8_bargains_122 rfl (lv_at hl 1 rfl) ?_
          refine sv_get (own := RX8) (C := RX8) (Tf := TX8) (N := 44) (index := 54) (κ := (3, 13)) (v := .ref (h 13)) hx hb hts hown hK hW (fun _ h => List.mem_cons_of_mem _ (List.mem_append_right _ h)) (sm_i 0 hB (by decide)) (sm_c0 hB) rfl 43 (by decide) rfl rfl (List.mem_of_getElem? (i := 6) rfl) dX8_bargains_123 ?_
          refine lv_iload hx hb dX8_bargains_126 (lv_at hl 0 rfl) ?_
          obtain ⟨hi19, hs⟩ := sp_g hs
          refine sv_iald hx hb hK hW (sm_i 13 hB (by decide)) (sm_c13 hB) 0 rfl hi19 dX8_bargains_128 ?_
          refine lv_aload_n hx hb dX8_bargains_129 rfl (lv_at hl 1 rfl) ?_
          refine sv_get (own := RX8) (C := RX8) (Tf := TX8) (N := 44) (index := 54) (κ := (3, 13)) (v := .ref (h 13)) hx hb hts hown hK hW (fun _ h => List.mem_cons_of_mem _ (List.mem_append_right _ h)) (sm_i 0 hB (by decide)) (sm_c0 hB) rfl 43 (by decide) rfl rfl (List.mem_of_getElem? (i := 6) rfl) dX8_bargains_130 ?_
          refine lv_iload hx hb dX8_bargains_133 (lv_at hl 0 rfl) ?_
          refine lv_iconst (v := 1) hx hb dX8_bargains_135 (by decide) ?_
          refine lv_iadd hx hb dX8_bargains_136 ?_
          obtain ⟨hi20, hs⟩ := sp_g hs
          refine sv_iald hx hb hK hW (sm_i 13 hB (by decide)) (sm_c13 hB) 0 rfl hi20 dX8_bargains_137 ?_
          refine lv_aload_n hx hb dX8_bargains_138 rfl (lv_at hl 1 rfl) ?_
          refine sv_get (own := RX8) (C := RX8) (Tf := TX8) (N := 44) (index := 54) (κ := (3, 13)) (v := .ref (h 13)) hx hb hts hown hK hW (fun _ h => List.mem_cons_of_mem _ (List.mem_append_right _ h)) (sm_i 0 hB (by decide)) (sm_c0 hB) rfl 43 (by decide) rfl rfl (List.mem_of_getElem? (i := 6) rfl) dX8_bargains_139 ?_
          refine lv_iload hx hb dX8_bargains_142 (lv_at hl 0 rfl) ?_
          refine lv_iconst (v := 2) hx hb dX8_bargains_144 (by decide) ?_
          refine lv_iadd hx hb dX8_bargains_145 ?_
          obtain ⟨hi21, hs⟩ := sp_g hs
          refine sv_iald hx hb hK hW (sm_i 13 hB (by decide)) (sm_c13 hB) 0 rfl hi21 dX8_bargains_146 ?_
          obtain ⟨r22, σ23, eσ23, hs⟩ := sp_bind hs
          refine sv_goI (σ' := σ23) (r := r22) hW F.2.2.2.1 (sv_runV (C := RX8) F hW (k_X8_bargain hB eσ23 H.size) gX8_bargains_X8_bargain rfl ⟨rfl, rfl⟩ 3 (by decide +kernel) (sv_room2 (by omega) (by omega)) (sm_i 0 hB (by decide)) (sm_c0 hB) rfl rfl hl.1 rfl (Nat.le_of_ble_eq_true rfl) dX8_bargains_147 ⟨Nat.zero_le _, Nat.zero_le _⟩) (fun H locs hW => ?_)
          refine lv_if_lt (tgt := 157) hx hb dX8_bargains_150 (by decide) (fun c24 => ?_) (fun c24 => ?_)
          · replace hs := (sp_ite hs).1 c24
            refine lv_iconst (v := 0) hx hb dX8_bargains_157 (by decide) ?_
            refine lv_iadd hx hb dX8_bargains_158 ?_
            refine lv_topi (fun v25 ev25 => ?_)
            replace hs := sp_let hs ev25
            refine lv_istore (lv' := [(5, .int v25), (7, .int v18), (0, .ref (h 0)), (1, .int x1), (3, .int x3), (4, .int x4), (6, .int x6)]) hx hb dX8_bargains_159 hl (by decide) rfl (fun ls hl => ?_)
            obtain ⟨v26, ev26⟩ : ∃ y : Int32, y = x6 + 1 := ⟨_, rfl⟩
            replace hs := sp_let hs ev26
            refine lv_iinc (v := v26) (lv' := [(6, .int v26), (5, .int v25), (7, .int v18), (0, .ref (h 0)), (1, .int x1), (3, .int x3), (4, .int x4)]) hx hb dX8_bargains_161 hl (k := 6) rfl (by rw [ev26]; rfl) (by decide) rfl (fun ls hl => ?_)
            refine lv_goto (tgt := 75) hx hb dX8_bargains_164 (by decide) ?_
            exact ih x1 x3 x4 v25 v26 σ23 H locs ls (lv_sub hl [3, 4, 5, 6, 1, 0] rfl) hW hs
          · replace hs := (sp_ite hs).2 c24
            refine lv_iconst (v := 1) hx hb dX8_bargains_153 (by decide) ?_
            refine lv_goto (tgt := 158) hx hb dX8_bargains_154 (by decide) ?_
            refine lv_iadd hx hb dX8_bargains_158 ?_
            refine lv_topi (fun v27 ev27 => ?_)
            replace hs := sp_let hs ev27
            refine lv_istore (lv' := [(5, .int v27), (7, .int v18), (0, .ref (h 0)), (1, .int x1), (3, .int x3), (4, .int x4), (6, .int x6)]) hx hb dX8_bargains_159 hl (by decide) rfl (fun ls hl => ?_)
            obtain ⟨v28, ev28⟩ : ∃ y : Int32, y = x6 + 1 := ⟨_, rfl⟩
            replace hs := sp_let hs ev28
            refine lv_iinc (v := v28) (lv' := [(6, .int v28), (5, .int v27), (7, .int v18), (0, .ref (h 0)), (1, .int x1), (3, .int x3), (4, .int x4)]) hx hb dX8_bargains_161 hl (k := 6) rfl (by rw [ev28]; rfl) (by decide) rfl (fun ls hl => ?_)
            refine lv_goto (tgt := 75) hx hb dX8_bargains_164 (by decide) ?_
            exact ih x1 x3 x4 v27 v28 σ23 H locs ls (lv_sub hl [3, 4, 5, 6, 1, 0] rfl) hW hs
        · replace hs := (sp_ite hs).2 c17
          refine lv_bipush (v := -12) hx hb dX8_bargains_103 (by decide) ?_
          cases hs
          exact sv_iret hx hb hr rfl hlk hW dX8_bargains_105
set_option maxRecDepth 100000 in
set_option maxHeartbeats 4000000 in
theorem k_X8_bargains {l : Launch} {D : va_G} {T : Nat → ClassId} {h : Nat → Nat} {θ : sv_T} {a1 : Int32} {a2 : Int32} {a3 : Int32} {a4 : Int32} {σ : sv_S} {r : Int32} {σ' : sv_S} (hB : sm_base θ)  (hs : q_X8_bargains θ a1 a2 a3 a4 σ = some (r, σ')) : sv_Mi sm_X l D T (sm_tys T) h θ yX8_bargains wsX8_bargains (sv_rm 2 48) [.ref (h 0), .int a1, .int a2, .int a3, .int a4] σ r σ' := by
  intro sz
  refine sv_enter (cc := cX8_bargains) (maxL := 8) (ret := (some .int)) (Qc := fun A => va_Qi (fun r2 (_ : Unit) => r2 = r) (fun _ t => va_P D vwCl (sv_ws T h θ σ') t.heap) A) sm_XP (by decide) rfl (Nat.le_of_ble_eq_true rfl) ?_
  intro p e s m args below meth c A F hr hlk ls H hl hW
  have hx := F.1.1
  have hb := F.1.2.1
  have hts := F.1.2.2.2.2
  have hown := F.1.2.2.2.1
  have hK := F.2.1
  obtain ⟨locs, hlocs⟩ : ∃ z : List Loc, z = [] := ⟨_, rfl⟩
  rw [← hlocs] at hW ⊢
  have hl : lv_has ls 8 [(0, .ref (h 0)), (1, .int a1), (2, .int a2), (3, .int a3), (4, .int a4)] := hl
  unfold q_X8_bargains at hs
  refine lv_iload_n hx hb dX8_bargains_0 rfl (lv_at hl 1 rfl) ?_
  obtain ⟨r1, σ2, eσ2, hs⟩ := sp_bind hs
  refine sv_goI (σ' := σ2) (r := r1) hW F.2.2.2.1 (sv_runT F hW (k_X8_isSheet hB eσ2 H.size) gX8_bargains_X8_isSheet rfl ⟨rfl, rfl⟩ 1 (by decide +kernel) (sv_room2 (by omega) (by omega)) rfl hl.1 rfl (Nat.le_of_ble_eq_true rfl) dX8_bargains_1 ⟨Nat.zero_le _, Nat.zero_le _⟩) (fun H locs hW => ?_)
  refine lv_if_eq (tgt := 32) hx hb dX8_bargains_4 (by decide) (fun c3 => ?_) (fun c3 => ?_)
  · replace hs := (sp_ite hs).1 c3
    refine lv_bipush (v := -2) hx hb dX8_bargains_32 (by decide) ?_
    cases hs
    exact sv_iret hx hb hr rfl hlk hW dX8_bargains_34
  · replace hs := (sp_ite hs).2 c3
    refine lv_iload_n hx hb dX8_bargains_7 rfl (lv_at hl 2 rfl) ?_
    refine lv_i2l (v := a2.toInt64) hx hb dX8_bargains_8 rfl ?_
    refine lv_lconst (v := 0) hx hb dX8_bargains_9 (by decide) ?_
    refine lv_ldc2 (own := RX8) (index := 349) (v := 2) hx hb hown (hts _ (List.mem_of_getElem? (i := 1) rfl)) dX8_bargains_10 ?_
    obtain ⟨r4, σ5, eσ5, hs⟩ := sp_bind hs
    refine sv_goI (σ' := σ5) (r := r4) hW F.2.2.2.1 (sv_runT F hW (k_X8_in hB eσ5 H.size) gX8_bargains_X8_in rfl ⟨rfl, rfl⟩ 3 (by decide +kernel) (sv_room2 (by omega) (by omega)) rfl hl.1 rfl (Nat.le_of_ble_eq_true rfl) dX8_bargains_13 ⟨Nat.zero_le _, Nat.zero_le _⟩) (fun H locs hW => ?_)
    refine lv_if_eq (tgt := 32) hx hb dX8_bargains_16 (by decide) (fun c6 => ?_) (fun c6 => ?_)
    · replace hs := (sp_ite hs).1 c6
      refine lv_bipush (v := -2) hx hb dX8_bargains_32 (by decide) ?_
      cases hs
      exact sv_iret hx hb hr rfl hlk hW dX8_bargains_34
    · replace hs := (sp_ite hs).2 c6
      refine lv_iload hx hb dX8_bargains_19 (lv_at hl 4 rfl) ?_
      refine lv_i2l (v := a4.toInt64) hx hb dX8_bargains_21 rfl ?_
      refine lv_lconst (v := 0) hx hb dX8_bargains_22 (by decide) ?_
      refine lv_ldc2 (own := RX8) (index := 316) (v := 6) hx hb hown (hts _ (List.mem_of_getElem? (i := 2) rfl)) dX8_bargains_23 ?_
      obtain ⟨r7, σ8, eσ8, hs⟩ := sp_bind hs
      refine sv_goI (σ' := σ8) (r := r7) hW F.2.2.2.1 (sv_runT F hW (k_X8_in hB eσ8 H.size) gX8_bargains_X8_in rfl ⟨rfl, rfl⟩ 3 (by decide +kernel) (sv_room2 (by omega) (by omega)) rfl hl.1 rfl (Nat.le_of_ble_eq_true rfl) dX8_bargains_26 ⟨Nat.zero_le _, Nat.zero_le _⟩) (fun H locs hW => ?_)
      refine lv_if_ne (tgt := 35) hx hb dX8_bargains_29 (by decide) (fun c9 => ?_) (fun c9 => ?_)
      · replace hs := (sp_ite hs).2 c9
        refine lv_aload_n hx hb dX8_bargains_35 rfl (lv_at hl 0 rfl) ?_
        refine sv_get (own := RX8) (C := RX8) (Tf := TX8) (N := 44) (index := 44) (κ := (3, 10)) (v := .ref (h 10)) hx hb hts hown hK hW (fun _ h => List.mem_cons_of_mem _ (List.mem_append_right _ h)) (sm_i 0 hB (by decide)) (sm_c0 hB) rfl 40 (by decide) rfl rfl (List.mem_of_getElem? (i := 3) rfl) dX8_bargains_36 ?_
        refine lv_iload_n hx hb dX8_bargains_39 rfl (lv_at hl 1 rfl) ?_
        obtain ⟨hi10, hs⟩ := sp_g hs
        refine sv_zald hx hb hK hW (sm_i 10 hB (by decide)) (sm_c10 hB) 1 rfl hi10 dX8_bargains_40 ?_
        refine lv_if_eq (tgt := 57) hx hb dX8_bargains_41 (by decide) (fun c11 => ?_) (fun c11 => ?_)
        · replace hs := (sp_ite hs).1 c11
          refine lv_aload_n hx hb dX8_bargains_57 rfl (lv_at hl 0 rfl) ?_
          refine sv_get (own := RX8) (C := RX8) (Tf := TX8) (N := 44) (index := 44) (κ := (3, 10)) (v := .ref (h 10)) hx hb hts hown hK hW (fun _ h => List.mem_cons_of_mem _ (List.mem_append_right _ h)) (sm_i 0 hB (by decide)) (sm_c0 hB) rfl 40 (by decide) rfl rfl (List.mem_of_getElem? (i := 3) rfl) dX8_bargains_58 ?_
          refine lv_iload_n hx hb dX8_bargains_61 rfl (lv_at hl 1 rfl) ?_
          obtain ⟨hi12, hs⟩ := sp_g hs
          refine sv_zald hx hb hK hW (sm_i 10 hB (by decide)) (sm_c10 hB) 1 rfl hi12 dX8_bargains_62 ?_
          refine lv_if_ne (tgt := 69) hx hb dX8_bargains_63 (by decide) (fun c13 => ?_) (fun c13 => ?_)
          · replace hs := (sp_ite hs).2 c13
            refine lv_iconst (v := 0) hx hb dX8_bargains_69 (by decide) ?_
            refine lv_istore (lv' := [(5, .int (0 : Int32)), (0, .ref (h 0)), (1, .int a1), (2, .int a2), (3, .int a3), (4, .int a4)]) hx hb dX8_bargains_70 hl (by decide) rfl (fun ls hl => ?_)
            refine lv_iconst (v := 0) hx hb dX8_bargains_72 (by decide) ?_
            refine lv_istore (lv' := [(6, .int (0 : Int32)), (5, .int (0 : Int32)), (0, .ref (h 0)), (1, .int a1), (2, .int a2), (3, .int a3), (4, .int a4)]) hx hb dX8_bargains_73 hl (by decide) rfl (fun ls hl => ?_)
            exact b_X8_bargains_75 hB F hr hlk sv_N a1 a3 a4 (0 : Int32) (0 : Int32) σ8 H locs ls (lv_sub hl [2, 3, 5, 6, 1, 0] rfl) hW hs
          · replace hs := (sp_ite hs).1 c13
            refine lv_bipush (v := -11) hx hb dX8_bargains_66 (by decide) ?_
            cases hs
            exact sv_iret hx hb hr rfl hlk hW dX8_bargains_68
        · replace hs := (sp_ite hs).2 c11
          refine lv_aload_n hx hb dX8_bargains_44 rfl (lv_at hl 0 rfl) ?_
          refine sv_get (own := RX8) (C := RX8) (Tf := TX8) (N := 44) (index := 48) (κ := (3, 11)) (v := .ref (h 11)) hx hb hts hown hK hW (fun _ h => List.mem_cons_of_mem _ (List.mem_append_right _ h)) (sm_i 0 hB (by decide)) (sm_c0 hB) rfl 41 (by decide) rfl rfl (List.mem_of_getElem? (i := 4) rfl) dX8_bargains_45 ?_
          refine lv_iload_n hx hb dX8_bargains_48 rfl (lv_at hl 1 rfl) ?_
          obtain ⟨hi29, hs⟩ := sp_g hs
          refine sv_iald hx hb hK hW (sm_i 11 hB (by decide)) (sm_c11 hB) 0 rfl hi29 dX8_bargains_49 ?_
          refine lv_iload_n hx hb dX8_bargains_50 rfl (lv_at hl 2 rfl) ?_
          refine lv_icmp_eq (tgt := 57) hx hb dX8_bargains_51 (by decide) (fun c30 => ?_) (fun c30 => ?_)
          · replace hs := (sp_ite hs).1 c30
            refine lv_aload_n hx hb dX8_bargains_57 rfl (lv_at hl 0 rfl) ?_
            refine sv_get (own := RX8) (C := RX8) (Tf := TX8) (N := 44) (index := 44) (κ := (3, 10)) (v := .ref (h 10)) hx hb hts hown hK hW (fun _ h => List.mem_cons_of_mem _ (List.mem_append_right _ h)) (sm_i 0 hB (by decide)) (sm_c0 hB) rfl 40 (by decide) rfl rfl (List.mem_of_getElem? (i := 3) rfl) dX8_bargains_58 ?_
            refine lv_iload_n hx hb dX8_bargains_61 rfl (lv_at hl 1 rfl) ?_
            obtain ⟨hi31, hs⟩ := sp_g hs
            refine sv_zald hx hb hK hW (sm_i 10 hB (by decide)) (sm_c10 hB) 1 rfl hi31 dX8_bargains_62 ?_
            refine lv_if_ne (tgt := 69) hx hb dX8_bargains_63 (by decide) (fun c32 => ?_) (fun c32 => ?_)
            · replace hs := (sp_ite hs).2 c32
              refine lv_iconst (v := 0) hx hb dX8_bargains_69 (by decide) ?_
              refine lv_istore (lv' := [(5, .int (0 : Int32)), (0, .ref (h 0)), (1, .int a1), (2, .int a2), (3, .int a3), (4, .int a4)]) hx hb dX8_bargains_70 hl (by decide) rfl (fun ls hl => ?_)
              refine lv_iconst (v := 0) hx hb dX8_bargains_72 (by decide) ?_
              refine lv_istore (lv' := [(6, .int (0 : Int32)), (5, .int (0 : Int32)), (0, .ref (h 0)), (1, .int a1), (2, .int a2), (3, .int a3), (4, .int a4)]) hx hb dX8_bargains_73 hl (by decide) rfl (fun ls hl => ?_)
              exact b_X8_bargains_75 hB F hr hlk sv_N a1 a3 a4 (0 : Int32) (0 : Int32) σ8 H locs ls (lv_sub hl [2, 3, 5, 6, 1, 0] rfl) hW hs
            · replace hs := (sp_ite hs).1 c32
              refine lv_bipush (v := -11) hx hb dX8_bargains_66 (by decide) ?_
              cases hs
              exact sv_iret hx hb hr rfl hlk hW dX8_bargains_68
          · replace hs := (sp_ite hs).2 c30
            refine lv_bipush (v := -13) hx hb dX8_bargains_54 (by decide) ?_
            cases hs
            exact sv_iret hx hb hr rfl hlk hW dX8_bargains_56
      · replace hs := (sp_ite hs).1 c9
        refine lv_bipush (v := -2) hx hb dX8_bargains_32 (by decide) ?_
        cases hs
        exact sv_iret hx hb hr rfl hlk hW dX8_bargains_34
set_option maxRecDepth 100000 in
set_option maxHeartbeats 4000000 in
theorem k_X8_over {l : Launch} {D : va_G} {T : Nat → ClassId} {h : Nat → Nat} {θ : sv_T} {a1 : Int32} {σ : sv_S} {r : Int32} {σ' : sv_S} (hB : sm_base θ)  (hs : q_X8_over θ a1 σ = some (r, σ')) : sv_Mi sm_X l D T (sm_tys T) h θ yX8_over wsX8_over (sv_rm 0 0) [.int a1] σ r σ' := by
  intro sz
  refine sv_enter (cc := cX8_over) (maxL := 1) (ret := (some .int)) (Qc := fun A => va_Qi (fun r2 (_ : Unit) => r2 = r) (fun _ t => va_P D vwCl (sv_ws T h θ σ') t.heap) A) sm_XP (by decide) rfl (Nat.le_of_ble_eq_true rfl) ?_
  intro p e s m args below meth c A F hr hlk ls H hl hW
  have hx := F.1.1
  have hb := F.1.2.1
  have hts := F.1.2.2.2.2
  have hown := F.1.2.2.2.1
  have hK := F.2.1
  obtain ⟨locs, hlocs⟩ : ∃ z : List Loc, z = [] := ⟨_, rfl⟩
  rw [← hlocs] at hW ⊢
  have hl : lv_has ls 1 [(0, .int a1)] := hl
  unfold q_X8_over at hs
  refine lv_iload_n hx hb dX8_over_0 rfl (lv_at hl 0 rfl) ?_
  refine lv_if_ne (tgt := 8) hx hb dX8_over_1 (by decide) (fun c1 => ?_) (fun c1 => ?_)
  · replace hs := (sp_ite hs).2 c1
    refine lv_iload_n hx hb dX8_over_8 rfl (lv_at hl 0 rfl) ?_
    refine lv_iconst (v := 3) hx hb dX8_over_9 (by decide) ?_
    refine lv_icmp_ne (tgt := 17) hx hb dX8_over_10 (by decide) (fun c2 => ?_) (fun c2 => ?_)
    · replace hs := (sp_ite hs).2 c2
      refine lv_iload_n hx hb dX8_over_17 rfl (lv_at hl 0 rfl) ?_
      refine lv_iconst (v := 4) hx hb dX8_over_18 (by decide) ?_
      refine lv_icmp_ne (tgt := 26) hx hb dX8_over_19 (by decide) (fun c3 => ?_) (fun c3 => ?_)
      · replace hs := (sp_ite hs).2 c3
        refine lv_iconst (v := 0) hx hb dX8_over_26 (by decide) ?_
        cases hs
        exact sv_iret hx hb hr rfl hlk hW dX8_over_27
      · replace hs := (sp_ite hs).1 c3
        refine lv_iconst (v := 2) hx hb dX8_over_22 (by decide) ?_
        refine lv_goto (tgt := 27) hx hb dX8_over_23 (by decide) ?_
        cases hs
        exact sv_iret hx hb hr rfl hlk hW dX8_over_27
    · replace hs := (sp_ite hs).1 c2
      refine lv_iconst (v := 1) hx hb dX8_over_13 (by decide) ?_
      refine lv_goto (tgt := 27) hx hb dX8_over_14 (by decide) ?_
      cases hs
      exact sv_iret hx hb hr rfl hlk hW dX8_over_27
  · replace hs := (sp_ite hs).1 c1
    refine lv_iconst (v := -1) hx hb dX8_over_4 (by decide) ?_
    refine lv_goto (tgt := 27) hx hb dX8_over_5 (by decide) ?_
    cases hs
    exact sv_iret hx hb hr rfl hlk hW dX8_over_27
set_option maxRecDepth 100000 in
set_option maxHeartbeats 4000000 in
theorem b_X8_taken_33 {p : Program} {l : Launch} {e : Env} {s : State} {m : MethodId} {args : Array Value} {below : List Frame} {meth : Method} {c : Code} {D : va_G} {T : Nat → ClassId} {A : Nat → Prop} {h : Nat → Nat} {θ : sv_T} {a1 : Int32} {a2 : Int32} {r : Int32} {σ' : sv_S} (hB : sm_base θ)  (F : sv_F sm_X p m c cX8_taken 4 s args wsX8_taken RX8 D (sm_tys T) A) (hr : meth.sig.returnType = (some .int)) (hlk : meth.locks = false)  : ∀ (n : Nat), ∀ (x1 : Int32) (x2 : Int32) (x3 : Int32) (σ : sv_S) (H : Heap) (locs : List Loc) (ls : Array Slot), lv_has ls 4 [(0, .ref (h 0)), (1, .int x1), (2, .int x2), (3, .int x3)] → sv_W D T A s h θ σ H locs → q_X8_taken_B33 θ a1 a2 n x1 x2 x3 σ = some (r, σ') → W p l e (sv_rm 2 46) s m args below meth c H locs 0 0 (MQ below (va_Qi (fun r2 (_ : Unit) => r2 = r) (fun _ t => va_P D vwCl (sv_ws T h θ σ') t.heap) A) args s 0 0 A) (F0 m 33 ls []) := by
  have hx := F.1.1
  have hb := F.1.2.1
  have hts := F.1.2.2.2.2
  have hown := F.1.2.2.2.1
  have hK := F.2.1
  intro n
  induction n with
  | zero =>
    intro x1 x2 x3 σ H locs ls hl hW hs
    have hs : (none : Option (Int32 × sv_S)) = some (r, σ') := hs
    cases hs
  | succ n ih =>
    intro x1 x2 x3 σ H locs ls hl hW hs
    have hs : q_X8_taken_B33_b θ a1 a2 (q_X8_taken_B33 θ a1 a2 n) x1 x2 x3 σ = some (r, σ') := hs
    unfold q_X8_taken_B33_b at hs
    refine lv_iload_n hx hb dX8_taken_33 rfl (lv_at hl 3 rfl) ?_
    refine lv_iconst (v := -1) hx hb dX8_taken_34 (by decide) ?_
    refine lv_icmp_eq (tgt := 51) hx hb dX8_taken_35 (by decide) (fun c9 => ?_) (fun c9 => ?_)
    · replace hs := (sp_ite hs).1 c9
      refine lv_iload_n hx hb dX8_taken_51 rfl (lv_at hl 3 rfl) ?_
      refine lv_iload_n hx hb dX8_taken_52 rfl (lv_at hl 2 rfl) ?_
      refine lv_icmp_ne (tgt := 67) hx hb dX8_taken_53 (by decide) (fun c10 => ?_) (fun c10 => ?_)
      · replace hs := (sp_ite hs).2 c10
        refine lv_bipush (v := -13) hx hb dX8_taken_67 (by decide) ?_
        cases hs
        exact sv_iret hx hb hr rfl hlk hW dX8_taken_69
      · replace hs := (sp_ite hs).1 c10
        refine lv_aload_n hx hb dX8_taken_56 rfl (lv_at hl 0 rfl) ?_
        refine sv_get (own := RX8) (C := RX8) (Tf := TX8) (N := 44) (index := 29) (κ := (3, 6)) (v := .ref (h 6)) hx hb hts hown hK hW (fun _ h => List.mem_cons_of_mem _ (List.mem_append_right _ h)) (sm_i 0 hB (by decide)) (sm_c0 hB) rfl 10 (by decide) rfl rfl (List.mem_of_getElem? (i := 3) rfl) dX8_taken_57 ?_
        refine lv_iconst (v := 3) hx hb dX8_taken_60 (by decide) ?_
        refine lv_iload_n hx hb dX8_taken_61 rfl (lv_at hl 1 rfl) ?_
        refine lv_imul hx hb dX8_taken_62 ?_
        obtain ⟨hi11, hs⟩ := sp_g hs
        refine sv_iald hx hb hK hW (sm_i 6 hB (by decide)) (sm_c6 hB) 0 rfl hi11 dX8_taken_63 ?_
        refine lv_goto (tgt := 69) hx hb dX8_taken_64 (by decide) ?_
        cases hs
        exact sv_iret hx hb hr rfl hlk hW dX8_taken_69
    · replace hs := (sp_ite hs).2 c9
      refine lv_iload_n hx hb dX8_taken_38 rfl (lv_at hl 3 rfl) ?_
      refine lv_iload_n hx hb dX8_taken_39 rfl (lv_at hl 2 rfl) ?_
      refine lv_icmp_eq (tgt := 51) hx hb dX8_taken_40 (by decide) (fun c12 => ?_) (fun c12 => ?_)
      · replace hs := (sp_ite hs).1 c12
        refine lv_iload_n hx hb dX8_taken_51 rfl (lv_at hl 3 rfl) ?_
        refine lv_iload_n hx hb dX8_taken_52 rfl (lv_at hl 2 rfl) ?_
        refine lv_icmp_ne (tgt := 67) hx hb dX8_taken_53 (by decide) (fun c13 => ?_) (fun c13 => ?_)
        · replace hs := (sp_ite hs).2 c13
          refine lv_bipush (v := -13) hx hb dX8_taken_67 (by decide) ?_
          cases hs
          exact sv_iret hx hb hr rfl hlk hW dX8_taken_69
        · replace hs := (sp_ite hs).1 c13
          refine lv_aload_n hx hb dX8_taken_56 rfl (lv_at hl 0 rfl) ?_
          refine sv_get (own := RX8) (C := RX8) (Tf := TX8) (N := 44) (index := 29) (κ := (3, 6)) (v := .ref (h 6)) hx hb hts hown hK hW (fun _ h => List.mem_cons_of_mem _ (List.mem_append_right _ h)) (sm_i 0 hB (by decide)) (sm_c0 hB) rfl 10 (by decide) rfl rfl (List.mem_of_getElem? (i := 3) rfl) dX8_taken_57 ?_
          refine lv_iconst (v := 3) hx hb dX8_taken_60 (by decide) ?_
          refine lv_iload_n hx hb dX8_taken_61 rfl (lv_at hl 1 rfl) ?_
          refine lv_imul hx hb dX8_taken_62 ?_
          obtain ⟨hi14, hs⟩ := sp_g hs
          refine sv_iald hx hb hK hW (sm_i 6 hB (by decide)) (sm_c6 hB) 0 rfl hi14 dX8_taken_63 ?_
          refine lv_goto (tgt := 69) hx hb dX8_taken_64 (by decide) ?_
          cases hs
          exact sv_iret hx hb hr rfl hlk hW dX8_taken_69
      · replace hs := (sp_ite hs).2 c12
        refine lv_iload_n hx hb dX8_taken_43 rfl (lv_at hl 3 rfl) ?_
        obtain ⟨r15, σ16, eσ16, hs⟩ := sp_bind hs
        refine sv_goI (σ' := σ16) (r := r15) hW F.2.2.2.1 (sv_runT F hW (k_X8_over hB eσ16 H.size) gX8_taken_X8_over rfl ⟨rfl, rfl⟩ 1 (by decide +kernel) (sv_room2 (by omega) (by omega)) rfl hl.1 rfl (Nat.le_of_ble_eq_true rfl) dX8_taken_44 ⟨Nat.zero_le _, Nat.zero_le _⟩) (fun H locs hW => ?_)
        refine lv_istore_n (lv' := [(3, .int r15), (0, .ref (h 0)), (1, .int x1), (2, .int x2)]) hx hb dX8_taken_47 rfl hl (by decide) rfl (fun ls hl => ?_)
        refine lv_goto (tgt := 33) hx hb dX8_taken_48 (by decide) ?_
        exact ih x1 x2 r15 σ16 H locs ls (lv_sub hl [1, 2, 3, 0] rfl) hW hs
set_option maxRecDepth 100000 in
set_option maxHeartbeats 4000000 in
theorem k_X8_taken {l : Launch} {D : va_G} {T : Nat → ClassId} {h : Nat → Nat} {θ : sv_T} {a1 : Int32} {a2 : Int32} {σ : sv_S} {r : Int32} {σ' : sv_S} (hB : sm_base θ)  (hs : q_X8_taken θ a1 a2 σ = some (r, σ')) : sv_Mi sm_X l D T (sm_tys T) h θ yX8_taken wsX8_taken (sv_rm 2 46) [.ref (h 0), .int a1, .int a2] σ r σ' := by
  intro sz
  refine sv_enter (cc := cX8_taken) (maxL := 4) (ret := (some .int)) (Qc := fun A => va_Qi (fun r2 (_ : Unit) => r2 = r) (fun _ t => va_P D vwCl (sv_ws T h θ σ') t.heap) A) sm_XP (by decide) rfl (Nat.le_of_ble_eq_true rfl) ?_
  intro p e s m args below meth c A F hr hlk ls H hl hW
  have hx := F.1.1
  have hb := F.1.2.1
  have hts := F.1.2.2.2.2
  have hown := F.1.2.2.2.1
  have hK := F.2.1
  obtain ⟨locs, hlocs⟩ : ∃ z : List Loc, z = [] := ⟨_, rfl⟩
  rw [← hlocs] at hW ⊢
  have hl : lv_has ls 4 [(0, .ref (h 0)), (1, .int a1), (2, .int a2)] := hl
  unfold q_X8_taken at hs
  refine lv_iload_n hx hb dX8_taken_0 rfl (lv_at hl 2 rfl) ?_
  refine lv_i2l (v := a2.toInt64) hx hb dX8_taken_1 rfl ?_
  refine lv_lconst (v := 0) hx hb dX8_taken_2 (by decide) ?_
  refine lv_ldc2 (own := RX8) (index := 106) (v := 5) hx hb hown (hts _ (List.mem_of_getElem? (i := 1) rfl)) dX8_taken_3 ?_
  obtain ⟨r1, σ2, eσ2, hs⟩ := sp_bind hs
  refine sv_goI (σ' := σ2) (r := r1) hW F.2.2.2.1 (sv_runT F hW (k_X8_in hB eσ2 H.size) gX8_taken_X8_in rfl ⟨rfl, rfl⟩ 3 (by decide +kernel) (sv_room2 (by omega) (by omega)) rfl hl.1 rfl (Nat.le_of_ble_eq_true rfl) dX8_taken_6 ⟨Nat.zero_le _, Nat.zero_le _⟩) (fun H locs hW => ?_)
  refine lv_if_ne (tgt := 15) hx hb dX8_taken_9 (by decide) (fun c3 => ?_) (fun c3 => ?_)
  · replace hs := (sp_ite hs).2 c3
    refine lv_aload_n hx hb dX8_taken_15 rfl (lv_at hl 0 rfl) ?_
    refine lv_iload_n hx hb dX8_taken_16 rfl (lv_at hl 1 rfl) ?_
    obtain ⟨r4, σ5, eσ5, hs⟩ := sp_bind hs
    refine sv_goI (σ' := σ5) (r := r4) hW F.2.2.2.1 (sv_runV (C := RX8) F hW (k_X8_isOne hB eσ5 H.size) gX8_taken_X8_isOne rfl ⟨rfl, rfl⟩ 1 (by decide +kernel) (sv_room2 (by omega) (by omega)) (sm_i 0 hB (by decide)) (sm_c0 hB) rfl rfl hl.1 rfl (Nat.le_of_ble_eq_true rfl) dX8_taken_17 ⟨Nat.zero_le _, Nat.zero_le _⟩) (fun H locs hW => ?_)
    refine lv_if_ne (tgt := 26) hx hb dX8_taken_20 (by decide) (fun c6 => ?_) (fun c6 => ?_)
    · replace hs := (sp_ite hs).2 c6
      refine lv_aload_n hx hb dX8_taken_26 rfl (lv_at hl 0 rfl) ?_
      refine sv_get (own := RX8) (C := RX8) (Tf := TX8) (N := 44) (index := 26) (κ := (3, 5)) (v := .ref (h 5)) hx hb hts hown hK hW (fun _ h => List.mem_cons_of_mem _ (List.mem_append_right _ h)) (sm_i 0 hB (by decide)) (sm_c0 hB) rfl 9 (by decide) rfl rfl (List.mem_of_getElem? (i := 2) rfl) dX8_taken_27 ?_
      refine lv_iload_n hx hb dX8_taken_30 rfl (lv_at hl 1 rfl) ?_
      obtain ⟨hi7, hs⟩ := sp_g hs
      refine sv_iald hx hb hK hW (sm_i 5 hB (by decide)) (sm_c5 hB) 0 rfl hi7 dX8_taken_31 ?_
      refine lv_topi (fun v8 ev8 => ?_)
      replace hs := sp_let hs ev8
      refine lv_istore_n (lv' := [(3, .int v8), (0, .ref (h 0)), (1, .int a1), (2, .int a2)]) hx hb dX8_taken_32 rfl hl (by decide) rfl (fun ls hl => ?_)
      exact b_X8_taken_33 hB F hr hlk sv_N a1 a2 v8 σ5 H locs ls (lv_sub hl [1, 2, 3, 0] rfl) hW hs
    · replace hs := (sp_ite hs).1 c6
      refine lv_bipush (v := -11) hx hb dX8_taken_23 (by decide) ?_
      cases hs
      exact sv_iret hx hb hr rfl hlk hW dX8_taken_25
  · replace hs := (sp_ite hs).1 c3
    refine lv_bipush (v := -2) hx hb dX8_taken_12 (by decide) ?_
    cases hs
    exact sv_iret hx hb hr rfl hlk hW dX8_taken_14

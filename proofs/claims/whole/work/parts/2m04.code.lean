set_option maxRecDepth 100000 in
set_option maxHeartbeats 4000000 in
theorem b_X8_looks_37 {p : Program} {l : Launch} {e : Env} {s : State} {m : MethodId} {args : Array Value} {below : List Frame} {meth : Method} {c : Code} {D : va_G} {T : Nat → ClassId} {A : Nat → Prop} {h : Nat → Nat} {θ : sv_T} {a1 : Int32} {a2 : Int32} {a3 : Int32} {a4 : Int32} {a5 : Int32} {a6 : Int32} {r : Unit} {σ' : sv_S} (hB : sm_base θ) (G : Nat → sv_T → Int32 → Int32 → Int32 → Int32 → Int32 → Int32 → sv_S → Option (Unit × sv_S)) (fr lr : Nat) (hf : 100 ≤ fr) (hlr : 3200 ≤ lr) (hG0 : ∀ (a1 : Int32) (a2 : Int32) (a3 : Int32) (a4 : Int32) (a5 : Int32) (a6 : Int32) (σ : sv_S) (r : Unit) (σ1 : sv_S), G 0 θ a1 a2 a3 a4 a5 a6 σ = some (r, σ1) → sv_Mv sm_X l D T (sm_tys T) h θ yX8_looks wsX8_looks (sv_rm fr lr) [.ref (h 0), .int a1, .int a2, .int a3, .int a4, .int a5, .int a6] σ r σ1)  (F : sv_F sm_X p m c cX8_looks 11 s args wsX8_looks RX8 D (sm_tys T) A) (hr : meth.sig.returnType = none) (hlk : meth.locks = false)  : ∀ (n : Nat), ∀ (x1 : Int32) (x2 : Int32) (x3 : Int32) (x4 : Int32) (x5 : Int32) (x6 : Int32) (x7 : Int32) (σ : sv_S) (H : Heap) (locs : List Loc) (ls : Array Slot), lv_has ls 11 [(0, .ref (h 0)), (1, .int x1), (2, .int x2), (3, .int x3), (4, .int x4), (5, .int x5), (6, .int x6), (7, .int x7)] → sv_W D T A s h θ σ H locs → q_X8_looks_B37 θ G a1 a2 a3 a4 a5 a6 n x1 x2 x3 x4 x5 x6 x7 σ = some (r, σ') → W p l e (sv_rm (fr + 1) (lr + 40)) s m args below meth c H locs 0 0 (MQ below (va_Qv (fun (_ : Unit) => True) (fun _ t => va_P D vwCl (sv_ws T h θ σ') t.heap) A) args s 0 0 A) (F0 m 37 ls []) := by
  have hx := F.1.1
  have hb := F.1.2.1
  have hts := F.1.2.2.2.2
  have hown := F.1.2.2.2.1
  have hK := F.2.1
  intro n
  induction n with
  | zero =>
    intro x1 x2 x3 x4 x5 x6 x7 σ H locs ls hl hW hs
    have hs : (none : Option (Unit × sv_S)) = some (r, σ') := hs
    cases hs
  | succ n ih =>
    intro x1 x2 x3 x4 x5 x6 x7 σ H locs ls hl hW hs
    have hs : q_X8_looks_B37_b θ G a1 a2 a3 a4 a5 a6 (q_X8_looks_B37 θ G a1 a2 a3 a4 a5 a6 n) x1 x2 x3 x4 x5 x6 x7 σ = some (r, σ') := hs
    unfold q_X8_looks_B37_b at hs
    refine lv_iload hx hb dX8_looks_37 (lv_at hl 7 rfl) ?_
    refine lv_aload_n hx hb dX8_looks_39 rfl (lv_at hl 0 rfl) ?_
    refine sv_get (own := RX8) (C := RX8) (Tf := TX8) (N := 44) (index := 64) (κ := (0, 0)) (v := .int (σ.1 0 11)) hx hb hts hown hK hW (fun _ h => List.mem_cons_of_mem _ (List.mem_append_right _ h)) (sm_i 0 hB (by decide)) (sm_c0 hB) rfl 11 (by decide) rfl rfl (List.mem_of_getElem? (i := 3) rfl) dX8_looks_40 ?_
    refine lv_icmp_ge (tgt := 152) hx hb dX8_looks_43 (by decide) (fun c5 => ?_) (fun c5 => ?_)
    · replace hs := (sp_ite hs).1 c5
      cases hs
      exact sv_vret hx hb hr hlk hW dX8_looks_152
    · replace hs := (sp_ite hs).2 c5
      refine lv_iload_n hx hb dX8_looks_46 rfl (lv_at hl 1 rfl) ?_
      refine lv_iload hx hb dX8_looks_47 (lv_at hl 7 rfl) ?_
      refine lv_ishr hx hb dX8_looks_49 ?_
      refine lv_iconst (v := 1) hx hb dX8_looks_50 (by decide) ?_
      refine lv_iand hx hb dX8_looks_51 ?_
      refine lv_iconst (v := 1) hx hb dX8_looks_52 (by decide) ?_
      refine lv_icmp_ne (tgt := 146) hx hb dX8_looks_53 (by decide) (fun c6 => ?_) (fun c6 => ?_)
      · replace hs := (sp_ite hs).2 c6
        obtain ⟨v7, ev7⟩ : ∃ y : Int32, y = x7 + 1 := ⟨_, rfl⟩
        replace hs := sp_let hs ev7
        refine lv_iinc (v := v7) (lv' := [(7, .int v7), (0, .ref (h 0)), (1, .int x1), (2, .int x2), (3, .int x3), (4, .int x4), (5, .int x5), (6, .int x6)]) hx hb dX8_looks_146 hl (k := 7) rfl (by rw [ev7]; rfl) (by decide) rfl (fun ls hl => ?_)
        refine lv_goto (tgt := 37) hx hb dX8_looks_149 (by decide) ?_
        exact ih x1 x2 x3 x4 x5 x6 v7 σ H locs ls (lv_sub hl [1, 2, 3, 4, 5, 6, 7, 0] rfl) hW hs
      · replace hs := (sp_ite hs).1 c6
        refine lv_aload_n hx hb dX8_looks_56 rfl (lv_at hl 0 rfl) ?_
        refine lv_iload hx hb dX8_looks_57 (lv_at hl 7 rfl) ?_
        refine lv_iload_n hx hb dX8_looks_59 rfl (lv_at hl 3 rfl) ?_
        refine lv_iload hx hb dX8_looks_60 (lv_at hl 4 rfl) ?_
        obtain ⟨r8, σ9, eσ9, hs⟩ := sp_bind hs
        refine sv_goI (σ' := σ9) (r := r8) hW F.2.2.2.1 (sv_runV (C := RX8) F hW (k_X8_shakes hB eσ9 H.size) gX8_looks_X8_shakes rfl ⟨rfl, rfl⟩ 3 (by decide +kernel) (sv_room2 (by omega) (by omega)) (sm_i 0 hB (by decide)) (sm_c0 hB) rfl rfl hl.1 rfl (Nat.le_of_ble_eq_true rfl) dX8_looks_62 ⟨Nat.zero_le _, Nat.zero_le _⟩) (fun H locs hW => ?_)
        refine lv_istore (lv' := [(8, .int r8), (0, .ref (h 0)), (1, .int x1), (2, .int x2), (3, .int x3), (4, .int x4), (5, .int x5), (6, .int x6), (7, .int x7)]) hx hb dX8_looks_65 hl (by decide) rfl (fun ls hl => ?_)
        refine lv_iload_n hx hb dX8_looks_67 rfl (lv_at hl 2 rfl) ?_
        refine lv_iconst (v := 1) hx hb dX8_looks_68 (by decide) ?_
        refine lv_iload hx hb dX8_looks_69 (lv_at hl 8 rfl) ?_
        refine lv_ishl hx hb dX8_looks_71 ?_
        refine lv_iconst (v := -1) hx hb dX8_looks_72 (by decide) ?_
        refine lv_ixor hx hb dX8_looks_73 ?_
        refine lv_iand hx hb dX8_looks_74 ?_
        refine lv_topi (fun v10 ev10 => ?_)
        replace hs := sp_let hs ev10
        refine lv_istore (lv' := [(9, .int v10), (8, .int r8), (0, .ref (h 0)), (1, .int x1), (2, .int x2), (3, .int x3), (4, .int x4), (5, .int x5), (6, .int x6), (7, .int x7)]) hx hb dX8_looks_75 hl (by decide) rfl (fun ls hl => ?_)
        refine lv_bipush (v := 10) hx hb dX8_looks_77 (by decide) ?_
        refine lv_iload hx hb dX8_looks_79 (lv_at hl 8 rfl) ?_
        refine lv_imul hx hb dX8_looks_81 ?_
        refine lv_iload hx hb dX8_looks_82 (lv_at hl 9 rfl) ?_
        refine lv_iadd hx hb dX8_looks_84 ?_
        refine lv_iconst (v := 1) hx hb dX8_looks_85 (by decide) ?_
        refine lv_iadd hx hb dX8_looks_86 ?_
        refine lv_topi (fun v11 ev11 => ?_)
        replace hs := sp_let hs ev11
        refine lv_istore (lv' := [(10, .int v11), (9, .int v10), (8, .int r8), (0, .ref (h 0)), (1, .int x1), (2, .int x2), (3, .int x3), (4, .int x4), (5, .int x5), (6, .int x6), (7, .int x7)]) hx hb dX8_looks_87 hl (by decide) rfl (fun ls hl => ?_)
        refine lv_iload hx hb dX8_looks_89 (lv_at hl 2 rfl) ?_
        refine lv_iconst (v := -1) hx hb dX8_looks_91 (by decide) ?_
        refine lv_icmp_ne (tgt := 114) hx hb dX8_looks_92 (by decide) (fun c12 => ?_) (fun c12 => ?_)
        · replace hs := (sp_ite hs).2 c12
          refine lv_aload_n hx hb dX8_looks_114 rfl (lv_at hl 3 rfl) ?_
          refine lv_iload hx hb dX8_looks_115 (lv_at hl 1 rfl) ?_
          refine lv_iload_n hx hb dX8_looks_117 rfl (lv_at hl 5 rfl) ?_
          refine lv_iconst (v := 1) hx hb dX8_looks_118 (by decide) ?_
          refine lv_isub hx hb dX8_looks_119 ?_
          refine lv_iload hx hb dX8_looks_120 (lv_at hl 2 rfl) ?_
          refine lv_iconst (v := 1) hx hb dX8_looks_122 (by decide) ?_
          refine lv_iadd hx hb dX8_looks_123 ?_
          refine lv_iload hx hb dX8_looks_124 (lv_at hl 7 rfl) ?_
          refine lv_iconst (v := 1) hx hb dX8_looks_126 (by decide) ?_
          refine lv_iadd hx hb dX8_looks_127 ?_
          refine lv_iload hx hb dX8_looks_128 (lv_at hl 8 rfl) ?_
          refine lv_aload_n hx hb dX8_looks_130 rfl (lv_at hl 3 rfl) ?_
          refine lv_iload hx hb dX8_looks_131 (lv_at hl 10 rfl) ?_
          refine lv_iload hx hb dX8_looks_133 (lv_at hl 2 rfl) ?_
          refine lv_iload hx hb dX8_looks_135 (lv_at hl 7 rfl) ?_
          obtain ⟨r13, σ14, eσ14, hs⟩ := sp_bind hs
          refine sv_goI (σ' := σ14) (r := r13) hW F.2.2.2.1 (sv_runV (C := RX8) F hW (k_X8_worthOf hB eσ14 H.size) gX8_looks_X8_worthOf rfl ⟨rfl, rfl⟩ 3 (by decide +kernel) (sv_room2 (by omega) (by omega)) (sm_i 0 hB (by decide)) (sm_c0 hB) rfl rfl hl.1 rfl (Nat.le_of_ble_eq_true rfl) dX8_looks_137 ⟨Nat.zero_le _, Nat.zero_le _⟩) (fun H locs hW => ?_)
          refine lv_iadd hx hb dX8_looks_140 ?_
          refine lv_iload hx hb dX8_looks_141 (lv_at hl 0 rfl) ?_
          obtain ⟨r15, σ16, eσ16, hs⟩ := sp_bind hs
          refine sv_goV (σ' := σ16) (r := r15) hW F.2.2.2.1 (sv_runV (C := RX8) F hW (hG0 v10 (x2 - (1 : Int32)) (r8 + (1 : Int32)) (x4 + (1 : Int32)) (x5 + r13) v11 _ _ _ eσ16 H.size) gX8_looks_X8_looks rfl ⟨rfl, rfl⟩ 6 (by decide +kernel) (sv_room2 (by omega) (by omega)) (sm_i 0 hB (by decide)) (sm_c0 hB) rfl rfl hl.1 rfl (Nat.le_of_ble_eq_true rfl) dX8_looks_143 ⟨Nat.zero_le _, Nat.zero_le _⟩) (fun H locs hW => ?_)
          obtain ⟨v17, ev17⟩ : ∃ y : Int32, y = x7 + 1 := ⟨_, rfl⟩
          replace hs := sp_let hs ev17
          refine lv_iinc (v := v17) (lv' := [(7, .int v17), (10, .int v11), (9, .int v10), (8, .int r8), (0, .ref (h 0)), (1, .int x1), (2, .int x2), (3, .int x3), (4, .int x4), (5, .int x5), (6, .int x6)]) hx hb dX8_looks_146 hl (k := 10) rfl (by rw [ev17]; rfl) (by decide) rfl (fun ls hl => ?_)
          refine lv_goto (tgt := 37) hx hb dX8_looks_149 (by decide) ?_
          exact ih x1 x2 x3 x4 x5 x6 v17 σ16 H locs ls (lv_sub hl [4, 5, 6, 7, 8, 9, 10, 0] rfl) hW hs
        · replace hs := (sp_ite hs).1 c12
          refine lv_aload_n hx hb dX8_looks_95 rfl (lv_at hl 3 rfl) ?_
          refine lv_iload hx hb dX8_looks_96 (lv_at hl 1 rfl) ?_
          refine lv_iload_n hx hb dX8_looks_98 rfl (lv_at hl 5 rfl) ?_
          refine lv_iconst (v := 1) hx hb dX8_looks_99 (by decide) ?_
          refine lv_isub hx hb dX8_looks_100 ?_
          refine lv_iload_n hx hb dX8_looks_101 rfl (lv_at hl 6 rfl) ?_
          refine lv_iload hx hb dX8_looks_102 (lv_at hl 7 rfl) ?_
          refine lv_iload hx hb dX8_looks_104 (lv_at hl 8 rfl) ?_
          refine lv_iload hx hb dX8_looks_106 (lv_at hl 0 rfl) ?_
          obtain ⟨r18, σ19, eσ19, hs⟩ := sp_bind hs
          refine sv_goV (σ' := σ19) (r := r18) hW F.2.2.2.1 (sv_runV (C := RX8) F hW (hG0 v10 (x2 - (1 : Int32)) x3 x4 x5 v11 _ _ _ eσ19 H.size) gX8_looks_X8_looks rfl ⟨rfl, rfl⟩ 6 (by decide +kernel) (sv_room2 (by omega) (by omega)) (sm_i 0 hB (by decide)) (sm_c0 hB) rfl rfl hl.1 rfl (Nat.le_of_ble_eq_true rfl) dX8_looks_108 ⟨Nat.zero_le _, Nat.zero_le _⟩) (fun H locs hW => ?_)
          refine lv_goto (tgt := 146) hx hb dX8_looks_111 (by decide) ?_
          obtain ⟨v20, ev20⟩ : ∃ y : Int32, y = x7 + 1 := ⟨_, rfl⟩
          replace hs := sp_let hs ev20
          refine lv_iinc (v := v20) (lv' := [(7, .int v20), (10, .int v11), (9, .int v10), (8, .int r8), (0, .ref (h 0)), (1, .int x1), (2, .int x2), (3, .int x3), (4, .int x4), (5, .int x5), (6, .int x6)]) hx hb dX8_looks_146 hl (k := 10) rfl (by rw [ev20]; rfl) (by decide) rfl (fun ls hl => ?_)
          refine lv_goto (tgt := 37) hx hb dX8_looks_149 (by decide) ?_
          exact ih x1 x2 x3 x4 x5 x6 v20 σ19 H locs ls (lv_sub hl [4, 5, 6, 7, 8, 9, 10, 0] rfl) hW hs
set_option maxRecDepth 100000 in
set_option maxHeartbeats 4000000 in
theorem k_X8_looks_b {l : Launch} {D : va_G} {T : Nat → ClassId} {h : Nat → Nat} {θ : sv_T} {a1 : Int32} {a2 : Int32} {a3 : Int32} {a4 : Int32} {a5 : Int32} {a6 : Int32} {σ : sv_S} {r : Unit} {σ' : sv_S} (hB : sm_base θ) (G : Nat → sv_T → Int32 → Int32 → Int32 → Int32 → Int32 → Int32 → sv_S → Option (Unit × sv_S)) (fr lr : Nat) (hf : 100 ≤ fr) (hlr : 3200 ≤ lr) (hG0 : ∀ (a1 : Int32) (a2 : Int32) (a3 : Int32) (a4 : Int32) (a5 : Int32) (a6 : Int32) (σ : sv_S) (r : Unit) (σ1 : sv_S), G 0 θ a1 a2 a3 a4 a5 a6 σ = some (r, σ1) → sv_Mv sm_X l D T (sm_tys T) h θ yX8_looks wsX8_looks (sv_rm fr lr) [.ref (h 0), .int a1, .int a2, .int a3, .int a4, .int a5, .int a6] σ r σ1)  (hs : q_X8_looks_b θ G a1 a2 a3 a4 a5 a6 σ = some (r, σ')) : sv_Mv sm_X l D T (sm_tys T) h θ yX8_looks wsX8_looks (sv_rm (fr + 1) (lr + 40)) [.ref (h 0), .int a1, .int a2, .int a3, .int a4, .int a5, .int a6] σ r σ' := by
  intro sz
  refine sv_enter (cc := cX8_looks) (maxL := 11) (ret := none) (Qc := fun A => va_Qv (fun (_ : Unit) => True) (fun _ t => va_P D vwCl (sv_ws T h θ σ') t.heap) A) sm_XP (by decide) rfl (Nat.le_of_ble_eq_true rfl) ?_
  intro p e s m args below meth c A F hr hlk ls H hl hW
  have hx := F.1.1
  have hb := F.1.2.1
  have hts := F.1.2.2.2.2
  have hown := F.1.2.2.2.1
  have hK := F.2.1
  obtain ⟨locs, hlocs⟩ : ∃ z : List Loc, z = [] := ⟨_, rfl⟩
  rw [← hlocs] at hW ⊢
  have hl : lv_has ls 11 [(0, .ref (h 0)), (1, .int a1), (2, .int a2), (3, .int a3), (4, .int a4), (5, .int a5), (6, .int a6)] := hl
  unfold q_X8_looks_b at hs
  refine lv_aload_n hx hb dX8_looks_0 rfl (lv_at hl 0 rfl) ?_
  refine sv_get (own := RX8) (C := RX8) (Tf := TX8) (N := 44) (index := 297) (κ := (0, 0)) (v := .int (σ.1 0 32)) hx hb hts hown hK hW (fun _ h => List.mem_cons_of_mem _ (List.mem_append_right _ h)) (sm_i 0 hB (by decide)) (sm_c0 hB) rfl 32 (by decide) rfl rfl (List.mem_of_getElem? (i := 1) rfl) dX8_looks_1 ?_
  refine lv_iconst (v := -1) hx hb dX8_looks_4 (by decide) ?_
  refine lv_icmp_eq (tgt := 17) hx hb dX8_looks_5 (by decide) (fun c1 => ?_) (fun c1 => ?_)
  · replace hs := (sp_ite hs).1 c1
    refine lv_aload_n hx hb dX8_looks_17 rfl (lv_at hl 0 rfl) ?_
    refine lv_iload hx hb dX8_looks_18 (lv_at hl 6 rfl) ?_
    refine sv_putI (own := RX8) (C := RX8) (Tf := TX8) (N := 44) (index := 297) hx hb hts hown hK hW (fun _ h => List.mem_cons_of_mem _ (List.mem_append_right _ h)) tyX8 tyX8_ok nmX8 (sm_i 0 hB (by decide)) (sm_c0 hB) rfl 32 (by decide) rfl rfl (ty := .int) (by decide +kernel) rfl rfl (List.mem_of_getElem? (i := 1) rfl) dX8_looks_20 (fun σ2 H locs eσ2 hW => ?_)
    replace hs := sp_let hs eσ2
    refine lv_aload_n hx hb dX8_looks_23 rfl (lv_at hl 0 rfl) ?_
    refine lv_iload hx hb dX8_looks_24 (lv_at hl 5 rfl) ?_
    refine sv_putI (own := RX8) (C := RX8) (Tf := TX8) (N := 44) (index := 300) hx hb hts hown hK hW (fun _ h => List.mem_cons_of_mem _ (List.mem_append_right _ h)) tyX8 tyX8_ok nmX8 (sm_i 0 hB (by decide)) (sm_c0 hB) rfl 33 (by decide) rfl rfl (ty := .int) (by decide +kernel) rfl rfl (List.mem_of_getElem? (i := 2) rfl) dX8_looks_26 (fun σ3 H locs eσ3 hW => ?_)
    replace hs := sp_let hs eσ3
    refine lv_iload_n hx hb dX8_looks_29 rfl (lv_at hl 2 rfl) ?_
    refine lv_if_ne (tgt := 34) hx hb dX8_looks_30 (by decide) (fun c4 => ?_) (fun c4 => ?_)
    · replace hs := (sp_ite hs).2 c4
      refine lv_iconst (v := 0) hx hb dX8_looks_34 (by decide) ?_
      refine lv_istore (lv' := [(7, .int (0 : Int32)), (0, .ref (h 0)), (1, .int a1), (2, .int a2), (3, .int a3), (4, .int a4), (5, .int a5), (6, .int a6)]) hx hb dX8_looks_35 hl (by decide) rfl (fun ls hl => ?_)
      exact b_X8_looks_37 hB G fr lr hf hlr hG0 F hr hlk sv_N a1 a2 a3 a4 a5 a6 (0 : Int32) σ3 H locs ls (lv_sub hl [1, 2, 3, 4, 5, 6, 7, 0] rfl) hW hs
    · replace hs := (sp_ite hs).1 c4
      cases hs
      exact sv_vret hx hb hr hlk hW dX8_looks_33
  · replace hs := (sp_ite hs).2 c1
    refine lv_iload hx hb dX8_looks_8 (lv_at hl 5 rfl) ?_
    refine lv_aload_n hx hb dX8_looks_10 rfl (lv_at hl 0 rfl) ?_
    refine sv_get (own := RX8) (C := RX8) (Tf := TX8) (N := 44) (index := 300) (κ := (0, 0)) (v := .int (σ.1 0 33)) hx hb hts hown hK hW (fun _ h => List.mem_cons_of_mem _ (List.mem_append_right _ h)) (sm_i 0 hB (by decide)) (sm_c0 hB) rfl 33 (by decide) rfl rfl (List.mem_of_getElem? (i := 2) rfl) dX8_looks_11 ?_
    refine lv_icmp_le (tgt := 29) hx hb dX8_looks_14 (by decide) (fun c21 => ?_) (fun c21 => ?_)
    · replace hs := (sp_ite hs).1 c21
      refine lv_iload_n hx hb dX8_looks_29 rfl (lv_at hl 2 rfl) ?_
      refine lv_if_ne (tgt := 34) hx hb dX8_looks_30 (by decide) (fun c22 => ?_) (fun c22 => ?_)
      · replace hs := (sp_ite hs).2 c22
        refine lv_iconst (v := 0) hx hb dX8_looks_34 (by decide) ?_
        refine lv_istore (lv' := [(7, .int (0 : Int32)), (0, .ref (h 0)), (1, .int a1), (2, .int a2), (3, .int a3), (4, .int a4), (5, .int a5), (6, .int a6)]) hx hb dX8_looks_35 hl (by decide) rfl (fun ls hl => ?_)
        exact b_X8_looks_37 hB G fr lr hf hlr hG0 F hr hlk sv_N a1 a2 a3 a4 a5 a6 (0 : Int32) σ H locs ls (lv_sub hl [1, 2, 3, 4, 5, 6, 7, 0] rfl) hW hs
      · replace hs := (sp_ite hs).1 c22
        cases hs
        exact sv_vret hx hb hr hlk hW dX8_looks_33
    · replace hs := (sp_ite hs).2 c21
      refine lv_aload_n hx hb dX8_looks_17 rfl (lv_at hl 0 rfl) ?_
      refine lv_iload hx hb dX8_looks_18 (lv_at hl 6 rfl) ?_
      refine sv_putI (own := RX8) (C := RX8) (Tf := TX8) (N := 44) (index := 297) hx hb hts hown hK hW (fun _ h => List.mem_cons_of_mem _ (List.mem_append_right _ h)) tyX8 tyX8_ok nmX8 (sm_i 0 hB (by decide)) (sm_c0 hB) rfl 32 (by decide) rfl rfl (ty := .int) (by decide +kernel) rfl rfl (List.mem_of_getElem? (i := 1) rfl) dX8_looks_20 (fun σ23 H locs eσ23 hW => ?_)
      replace hs := sp_let hs eσ23
      refine lv_aload_n hx hb dX8_looks_23 rfl (lv_at hl 0 rfl) ?_
      refine lv_iload hx hb dX8_looks_24 (lv_at hl 5 rfl) ?_
      refine sv_putI (own := RX8) (C := RX8) (Tf := TX8) (N := 44) (index := 300) hx hb hts hown hK hW (fun _ h => List.mem_cons_of_mem _ (List.mem_append_right _ h)) tyX8 tyX8_ok nmX8 (sm_i 0 hB (by decide)) (sm_c0 hB) rfl 33 (by decide) rfl rfl (ty := .int) (by decide +kernel) rfl rfl (List.mem_of_getElem? (i := 2) rfl) dX8_looks_26 (fun σ24 H locs eσ24 hW => ?_)
      replace hs := sp_let hs eσ24
      refine lv_iload_n hx hb dX8_looks_29 rfl (lv_at hl 2 rfl) ?_
      refine lv_if_ne (tgt := 34) hx hb dX8_looks_30 (by decide) (fun c25 => ?_) (fun c25 => ?_)
      · replace hs := (sp_ite hs).2 c25
        refine lv_iconst (v := 0) hx hb dX8_looks_34 (by decide) ?_
        refine lv_istore (lv' := [(7, .int (0 : Int32)), (0, .ref (h 0)), (1, .int a1), (2, .int a2), (3, .int a3), (4, .int a4), (5, .int a5), (6, .int a6)]) hx hb dX8_looks_35 hl (by decide) rfl (fun ls hl => ?_)
        exact b_X8_looks_37 hB G fr lr hf hlr hG0 F hr hlk sv_N a1 a2 a3 a4 a5 a6 (0 : Int32) σ24 H locs ls (lv_sub hl [1, 2, 3, 4, 5, 6, 7, 0] rfl) hW hs
      · replace hs := (sp_ite hs).1 c25
        cases hs
        exact sv_vret hx hb hr hlk hW dX8_looks_33
set_option maxRecDepth 100000 in
set_option maxHeartbeats 4000000 in
theorem k_G9 {l : Launch} {D : va_G} {T : Nat → ClassId} {h : Nat → Nat} {θ : sv_T} (hB : sm_base θ) : ∀ d : Nat, (∀ (a1 : Int32) (a2 : Int32) (a3 : Int32) (a4 : Int32) (a5 : Int32) (a6 : Int32) (σ : sv_S) (r : Unit) (σ1 : sv_S), q_G9 d 0 θ a1 a2 a3 a4 a5 a6 σ = some (r, σ1) → sv_Mv sm_X l D T (sm_tys T) h θ yX8_looks wsX8_looks (sv_rm (1 * d + 100) (40 * d + 3200)) [.ref (h 0), .int a1, .int a2, .int a3, .int a4, .int a5, .int a6] σ r σ1) := by
  intro d
  induction d with
  | zero =>
    intro a1 a2 a3 a4 a5 a6 σ r σ1 hs
    have hs : (none : Option (Unit × sv_S)) = some (r, σ1) := hs
    cases hs
  | succ d ih =>
    have ih0 := ih
    intro a1 a2 a3 a4 a5 a6 σ r σ1 hs
    have hq := k_X8_looks_b hB (q_G9 d) (1 * d + 100) (40 * d + 3200) (by omega) (by omega) ih0 hs
    rw [show 1 * (d + 1) + 100 = 1 * d + 100 + 1 by omega, show 40 * (d + 1) + 3200 = 40 * d + 3200 + 40 by omega]
    exact hq
theorem k_X8_looks {l : Launch} {D : va_G} {T : Nat → ClassId} {h : Nat → Nat} {θ : sv_T} {a1 : Int32} {a2 : Int32} {a3 : Int32} {a4 : Int32} {a5 : Int32} {a6 : Int32} {σ : sv_S} {r : Unit} {σ' : sv_S} (hB : sm_base θ) (hs : q_X8_looks θ 8 a1 a2 a3 a4 a5 a6 σ = some (r, σ')) : sv_Mv sm_X l D T (sm_tys T) h θ yX8_looks wsX8_looks (sv_rm 108 3520) [.ref (h 0), .int a1, .int a2, .int a3, .int a4, .int a5, .int a6] σ r σ' := (k_G9 hB 8) a1 a2 a3 a4 a5 a6 _ _ _ hs
set_option maxRecDepth 100000 in
set_option maxHeartbeats 4000000 in
theorem b_X8_openSet_4 {p : Program} {l : Launch} {e : Env} {s : State} {m : MethodId} {args : Array Value} {below : List Frame} {meth : Method} {c : Code} {D : va_G} {T : Nat → ClassId} {A : Nat → Prop} {h : Nat → Nat} {θ : sv_T}  {r : Int32} {σ' : sv_S} (hB : sm_base θ)  (F : sv_F sm_X p m c cX8_openSet 3 s args wsX8_openSet RX8 D (sm_tys T) A) (hr : meth.sig.returnType = (some .int)) (hlk : meth.locks = false)  : ∀ (n : Nat), ∀ (x1 : Int32) (x2 : Int32) (σ : sv_S) (H : Heap) (locs : List Loc) (ls : Array Slot), lv_has ls 3 [(0, .ref (h 0)), (1, .int x1), (2, .int x2)] → sv_W D T A s h θ σ H locs → q_X8_openSet_B4 θ  n x1 x2 σ = some (r, σ') → W p l e (sv_rm 1 21) s m args below meth c H locs 0 0 (MQ below (va_Qi (fun r2 (_ : Unit) => r2 = r) (fun _ t => va_P D vwCl (sv_ws T h θ σ') t.heap) A) args s 0 0 A) (F0 m 4 ls []) := by
  have hx := F.1.1
  have hb := F.1.2.1
  have hts := F.1.2.2.2.2
  have hown := F.1.2.2.2.1
  have hK := F.2.1
  intro n
  induction n with
  | zero =>
    intro x1 x2 σ H locs ls hl hW hs
    have hs : (none : Option (Int32 × sv_S)) = some (r, σ') := hs
    cases hs
  | succ n ih =>
    intro x1 x2 σ H locs ls hl hW hs
    have hs : q_X8_openSet_B4_b θ  (q_X8_openSet_B4 θ  n) x1 x2 σ = some (r, σ') := hs
    unfold q_X8_openSet_B4_b at hs
    refine lv_iload_n hx hb dX8_openSet_4 rfl (lv_at hl 2 rfl) ?_
    refine lv_aload_n hx hb dX8_openSet_5 rfl (lv_at hl 0 rfl) ?_
    refine sv_get (own := RX8) (C := RX8) (Tf := TX8) (N := 44) (index := 64) (κ := (0, 0)) (v := .int (σ.1 0 11)) hx hb hts hown hK hW (fun _ h => List.mem_cons_of_mem _ (List.mem_append_right _ h)) (sm_i 0 hB (by decide)) (sm_c0 hB) rfl 11 (by decide) rfl rfl (List.mem_of_getElem? (i := 1) rfl) dX8_openSet_6 ?_
    refine lv_icmp_ge (tgt := 36) hx hb dX8_openSet_9 (by decide) (fun c1 => ?_) (fun c1 => ?_)
    · replace hs := (sp_ite hs).1 c1
      refine lv_iload_n hx hb dX8_openSet_36 rfl (lv_at hl 1 rfl) ?_
      cases hs
      exact sv_iret hx hb hr rfl hlk hW dX8_openSet_37
    · replace hs := (sp_ite hs).2 c1
      refine lv_iload_n hx hb dX8_openSet_12 rfl (lv_at hl 1 rfl) ?_
      refine lv_aload_n hx hb dX8_openSet_13 rfl (lv_at hl 0 rfl) ?_
      refine lv_iload_n hx hb dX8_openSet_14 rfl (lv_at hl 2 rfl) ?_
      obtain ⟨r2, σ3, eσ3, hs⟩ := sp_bind hs
      refine sv_goI (σ' := σ3) (r := r2) hW F.2.2.2.1 (sv_runV (C := RX8) F hW (k_X8_isShaken hB eσ3 H.size) gX8_openSet_X8_isShaken rfl ⟨rfl, rfl⟩ 1 (by decide +kernel) (sv_room2 (by omega) (by omega)) (sm_i 0 hB (by decide)) (sm_c0 hB) rfl rfl hl.1 rfl (Nat.le_of_ble_eq_true rfl) dX8_openSet_15 ⟨Nat.zero_le _, Nat.zero_le _⟩) (fun H locs hW => ?_)
      refine lv_if_eq (tgt := 25) hx hb dX8_openSet_18 (by decide) (fun c4 => ?_) (fun c4 => ?_)
      · replace hs := (sp_ite hs).1 c4
        refine lv_iconst (v := 1) hx hb dX8_openSet_25 (by decide) ?_
        refine lv_iload_n hx hb dX8_openSet_26 rfl (lv_at hl 2 rfl) ?_
        refine lv_ishl hx hb dX8_openSet_27 ?_
        refine lv_ior hx hb dX8_openSet_28 ?_
        refine lv_topi (fun v5 ev5 => ?_)
        replace hs := sp_let hs ev5
        refine lv_istore_n (lv' := [(1, .int v5), (0, .ref (h 0)), (2, .int x2)]) hx hb dX8_openSet_29 rfl hl (by decide) rfl (fun ls hl => ?_)
        obtain ⟨v6, ev6⟩ : ∃ y : Int32, y = x2 + 1 := ⟨_, rfl⟩
        replace hs := sp_let hs ev6
        refine lv_iinc (v := v6) (lv' := [(2, .int v6), (1, .int v5), (0, .ref (h 0))]) hx hb dX8_openSet_30 hl (k := 2) rfl (by rw [ev6]; rfl) (by decide) rfl (fun ls hl => ?_)
        refine lv_goto (tgt := 4) hx hb dX8_openSet_33 (by decide) ?_
        exact ih v5 v6 σ3 H locs ls (lv_sub hl [2, 1, 0] rfl) hW hs
      · replace hs := (sp_ite hs).2 c4
        refine lv_iconst (v := 0) hx hb dX8_openSet_21 (by decide) ?_
        refine lv_goto (tgt := 26) hx hb dX8_openSet_22 (by decide) ?_
        refine lv_iload_n hx hb dX8_openSet_26 rfl (lv_at hl 2 rfl) ?_
        refine lv_ishl hx hb dX8_openSet_27 ?_
        refine lv_ior hx hb dX8_openSet_28 ?_
        refine lv_topi (fun v7 ev7 => ?_)
        replace hs := sp_let hs ev7
        refine lv_istore_n (lv' := [(1, .int v7), (0, .ref (h 0)), (2, .int x2)]) hx hb dX8_openSet_29 rfl hl (by decide) rfl (fun ls hl => ?_)
        obtain ⟨v8, ev8⟩ : ∃ y : Int32, y = x2 + 1 := ⟨_, rfl⟩
        replace hs := sp_let hs ev8
        refine lv_iinc (v := v8) (lv' := [(2, .int v8), (1, .int v7), (0, .ref (h 0))]) hx hb dX8_openSet_30 hl (k := 2) rfl (by rw [ev8]; rfl) (by decide) rfl (fun ls hl => ?_)
        refine lv_goto (tgt := 4) hx hb dX8_openSet_33 (by decide) ?_
        exact ih v7 v8 σ3 H locs ls (lv_sub hl [2, 1, 0] rfl) hW hs
set_option maxRecDepth 100000 in
set_option maxHeartbeats 4000000 in
theorem k_X8_openSet {l : Launch} {D : va_G} {T : Nat → ClassId} {h : Nat → Nat} {θ : sv_T}  {σ : sv_S} {r : Int32} {σ' : sv_S} (hB : sm_base θ)  (hs : q_X8_openSet θ  σ = some (r, σ')) : sv_Mi sm_X l D T (sm_tys T) h θ yX8_openSet wsX8_openSet (sv_rm 1 21) [.ref (h 0)] σ r σ' := by
  intro sz
  refine sv_enter (cc := cX8_openSet) (maxL := 3) (ret := (some .int)) (Qc := fun A => va_Qi (fun r2 (_ : Unit) => r2 = r) (fun _ t => va_P D vwCl (sv_ws T h θ σ') t.heap) A) sm_XP (by decide) rfl (Nat.le_of_ble_eq_true rfl) ?_
  intro p e s m args below meth c A F hr hlk ls H hl hW
  have hx := F.1.1
  have hb := F.1.2.1
  have hts := F.1.2.2.2.2
  have hown := F.1.2.2.2.1
  have hK := F.2.1
  obtain ⟨locs, hlocs⟩ : ∃ z : List Loc, z = [] := ⟨_, rfl⟩
  rw [← hlocs] at hW ⊢
  have hl : lv_has ls 3 [(0, .ref (h 0))] := hl
  unfold q_X8_openSet at hs
  refine lv_iconst (v := 0) hx hb dX8_openSet_0 (by decide) ?_
  refine lv_istore_n (lv' := [(1, .int (0 : Int32)), (0, .ref (h 0))]) hx hb dX8_openSet_1 rfl hl (by decide) rfl (fun ls hl => ?_)
  refine lv_iconst (v := 0) hx hb dX8_openSet_2 (by decide) ?_
  refine lv_istore_n (lv' := [(2, .int (0 : Int32)), (1, .int (0 : Int32)), (0, .ref (h 0))]) hx hb dX8_openSet_3 rfl hl (by decide) rfl (fun ls hl => ?_)
  exact b_X8_openSet_4 hB F hr hlk sv_N (0 : Int32) (0 : Int32) σ H locs ls (lv_sub hl [2, 1, 0] rfl) hW hs
set_option maxRecDepth 100000 in
set_option maxHeartbeats 4000000 in
theorem k_X8_bestOf {l : Launch} {D : va_G} {T : Nat → ClassId} {h : Nat → Nat} {θ : sv_T} {a1 : Int32} {a2 : Int32} {σ : sv_S} {r : Int32} {σ' : sv_S} (hB : sm_base θ)  (hs : q_X8_bestOf θ a1 a2 σ = some (r, σ')) : sv_Mi sm_X l D T (sm_tys T) h θ yX8_bestOf wsX8_bestOf (sv_rm 109 3550) [.ref (h 0), .int a1, .int a2] σ r σ' := by
  intro sz
  refine sv_enter (cc := cX8_bestOf) (maxL := 3) (ret := (some .int)) (Qc := fun A => va_Qi (fun r2 (_ : Unit) => r2 = r) (fun _ t => va_P D vwCl (sv_ws T h θ σ') t.heap) A) sm_XP (by decide) rfl (Nat.le_of_ble_eq_true rfl) ?_
  intro p e s m args below meth c A F hr hlk ls H hl hW
  have hx := F.1.1
  have hb := F.1.2.1
  have hts := F.1.2.2.2.2
  have hown := F.1.2.2.2.1
  have hK := F.2.1
  obtain ⟨locs, hlocs⟩ : ∃ z : List Loc, z = [] := ⟨_, rfl⟩
  rw [← hlocs] at hW ⊢
  have hl : lv_has ls 3 [(0, .ref (h 0)), (1, .int a1), (2, .int a2)] := hl
  unfold q_X8_bestOf at hs
  refine lv_aload_n hx hb dX8_bestOf_0 rfl (lv_at hl 0 rfl) ?_
  refine lv_iconst (v := -1) hx hb dX8_bestOf_1 (by decide) ?_
  refine sv_putI (own := RX8) (C := RX8) (Tf := TX8) (N := 44) (index := 297) hx hb hts hown hK hW (fun _ h => List.mem_cons_of_mem _ (List.mem_append_right _ h)) tyX8 tyX8_ok nmX8 (sm_i 0 hB (by decide)) (sm_c0 hB) rfl 32 (by decide) rfl rfl (ty := .int) (by decide +kernel) rfl rfl (List.mem_of_getElem? (i := 1) rfl) dX8_bestOf_2 (fun σ1 H locs eσ1 hW => ?_)
  replace hs := sp_let hs eσ1
  refine lv_aload_n hx hb dX8_bestOf_5 rfl (lv_at hl 0 rfl) ?_
  refine lv_iconst (v := 0) hx hb dX8_bestOf_6 (by decide) ?_
  refine sv_putI (own := RX8) (C := RX8) (Tf := TX8) (N := 44) (index := 300) hx hb hts hown hK hW (fun _ h => List.mem_cons_of_mem _ (List.mem_append_right _ h)) tyX8 tyX8_ok nmX8 (sm_i 0 hB (by decide)) (sm_c0 hB) rfl 33 (by decide) rfl rfl (ty := .int) (by decide +kernel) rfl rfl (List.mem_of_getElem? (i := 2) rfl) dX8_bestOf_7 (fun σ2 H locs eσ2 hW => ?_)
  replace hs := sp_let hs eσ2
  refine lv_aload_n hx hb dX8_bestOf_10 rfl (lv_at hl 0 rfl) ?_
  refine lv_iload_n hx hb dX8_bestOf_11 rfl (lv_at hl 1 rfl) ?_
  refine lv_iload_n hx hb dX8_bestOf_12 rfl (lv_at hl 2 rfl) ?_
  refine lv_iconst (v := 0) hx hb dX8_bestOf_13 (by decide) ?_
  refine lv_aload_n hx hb dX8_bestOf_14 rfl (lv_at hl 0 rfl) ?_
  obtain ⟨r3, σ4, eσ4, hs⟩ := sp_bind hs
  refine sv_goI (σ' := σ4) (r := r3) hW F.2.2.2.1 (sv_runV (C := RX8) F hW (k_X8_shakenMany hB eσ4 H.size) gX8_bestOf_X8_shakenMany rfl ⟨rfl, rfl⟩ 0 (by decide +kernel) (sv_room2 (by omega) (by omega)) (sm_i 0 hB (by decide)) (sm_c0 hB) rfl rfl hl.1 rfl (Nat.le_of_ble_eq_true rfl) dX8_bestOf_15 ⟨Nat.zero_le _, Nat.zero_le _⟩) (fun H locs hW => ?_)
  refine lv_iconst (v := 0) hx hb dX8_bestOf_18 (by decide) ?_
  refine lv_iconst (v := 0) hx hb dX8_bestOf_19 (by decide) ?_
  obtain ⟨r5, σ6, eσ6, hs⟩ := sp_bind hs
  refine sv_goV (σ' := σ6) (r := r5) hW F.2.2.2.1 (sv_runV (C := RX8) F hW (k_X8_looks hB eσ6 H.size) gX8_bestOf_X8_looks rfl ⟨rfl, rfl⟩ 6 (by decide +kernel) (sv_room2 (by omega) (by omega)) (sm_i 0 hB (by decide)) (sm_c0 hB) rfl rfl hl.1 rfl (Nat.le_of_ble_eq_true rfl) dX8_bestOf_20 ⟨Nat.zero_le _, Nat.zero_le _⟩) (fun H locs hW => ?_)
  refine lv_aload_n hx hb dX8_bestOf_23 rfl (lv_at hl 0 rfl) ?_
  refine sv_get (own := RX8) (C := RX8) (Tf := TX8) (N := 44) (index := 300) (κ := (0, 0)) (v := .int (σ6.1 0 33)) hx hb hts hown hK hW (fun _ h => List.mem_cons_of_mem _ (List.mem_append_right _ h)) (sm_i 0 hB (by decide)) (sm_c0 hB) rfl 33 (by decide) rfl rfl (List.mem_of_getElem? (i := 2) rfl) dX8_bestOf_24 ?_
  cases hs
  exact sv_iret hx hb hr rfl hlk hW dX8_bestOf_27
set_option maxRecDepth 100000 in
set_option maxHeartbeats 4000000 in
theorem b_X8_leaves_13 {p : Program} {l : Launch} {e : Env} {s : State} {m : MethodId} {args : Array Value} {below : List Frame} {meth : Method} {c : Code} {D : va_G} {T : Nat → ClassId} {A : Nat → Prop} {h : Nat → Nat} {θ : sv_T}  {r : Int32} {σ' : sv_S} (hB : sm_base θ)  (F : sv_F sm_X p m c cX8_leaves 3 s args wsX8_leaves RX8 D (sm_tys T) A) (hr : meth.sig.returnType = (some .int)) (hlk : meth.locks = false)  : ∀ (n : Nat), ∀ (x1 : Int32) (x2 : Int32) (σ : sv_S) (H : Heap) (locs : List Loc) (ls : Array Slot), lv_has ls 3 [(0, .ref (h 0)), (1, .int x1), (2, .int x2)] → sv_W D T A s h θ σ H locs → q_X8_leaves_B13 θ  n x1 x2 σ = some (r, σ') → W p l e (sv_rm 110 3572) s m args below meth c H locs 0 0 (MQ below (va_Qi (fun r2 (_ : Unit) => r2 = r) (fun _ t => va_P D vwCl (sv_ws T h θ σ') t.heap) A) args s 0 0 A) (F0 m 13 ls []) := by
  have hx := F.1.1
  have hb := F.1.2.1
  have hts := F.1.2.2.2.2
  have hown := F.1.2.2.2.1
  have hK := F.2.1
  intro n
  induction n with
  | zero =>
    intro x1 x2 σ H locs ls hl hW hs
    have hs : (none : Option (Int32 × sv_S)) = some (r, σ') := hs
    cases hs
  | succ n ih =>
    intro x1 x2 σ H locs ls hl hW hs
    have hs : q_X8_leaves_B13_b θ  (q_X8_leaves_B13 θ  n) x1 x2 σ = some (r, σ') := hs
    unfold q_X8_leaves_B13_b at hs
    refine lv_iload_n hx hb dX8_leaves_13 rfl (lv_at hl 2 rfl) ?_
    refine lv_aload_n hx hb dX8_leaves_14 rfl (lv_at hl 0 rfl) ?_
    refine sv_get (own := RX8) (C := RX8) (Tf := TX8) (N := 44) (index := 64) (κ := (0, 0)) (v := .int (σ.1 0 11)) hx hb hts hown hK hW (fun _ h => List.mem_cons_of_mem _ (List.mem_append_right _ h)) (sm_i 0 hB (by decide)) (sm_c0 hB) rfl 11 (by decide) rfl rfl (List.mem_of_getElem? (i := 1) rfl) dX8_leaves_15 ?_
    refine lv_icmp_ge (tgt := 57) hx hb dX8_leaves_18 (by decide) (fun c5 => ?_) (fun c5 => ?_)
    · replace hs := (sp_ite hs).1 c5
      refine lv_iconst (v := -1) hx hb dX8_leaves_57 (by decide) ?_
      cases hs
      exact sv_iret hx hb hr rfl hlk hW dX8_leaves_58
    · replace hs := (sp_ite hs).2 c5
      refine lv_aload_n hx hb dX8_leaves_21 rfl (lv_at hl 0 rfl) ?_
      refine lv_iload_n hx hb dX8_leaves_22 rfl (lv_at hl 2 rfl) ?_
      obtain ⟨r6, σ7, eσ7, hs⟩ := sp_bind hs
      refine sv_goI (σ' := σ7) (r := r6) hW F.2.2.2.1 (sv_runV (C := RX8) F hW (k_X8_isShaken hB eσ7 H.size) gX8_leaves_X8_isShaken rfl ⟨rfl, rfl⟩ 1 (by decide +kernel) (sv_room2 (by omega) (by omega)) (sm_i 0 hB (by decide)) (sm_c0 hB) rfl rfl hl.1 rfl (Nat.le_of_ble_eq_true rfl) dX8_leaves_23 ⟨Nat.zero_le _, Nat.zero_le _⟩) (fun H locs hW => ?_)
      refine lv_if_ne (tgt := 51) hx hb dX8_leaves_26 (by decide) (fun c8 => ?_) (fun c8 => ?_)
      · replace hs := (sp_ite hs).2 c8
        obtain ⟨v9, ev9⟩ : ∃ y : Int32, y = x2 + 1 := ⟨_, rfl⟩
        replace hs := sp_let hs ev9
        refine lv_iinc (v := v9) (lv' := [(2, .int v9), (0, .ref (h 0)), (1, .int x1)]) hx hb dX8_leaves_51 hl (k := 2) rfl (by rw [ev9]; rfl) (by decide) rfl (fun ls hl => ?_)
        refine lv_goto (tgt := 13) hx hb dX8_leaves_54 (by decide) ?_
        exact ih x1 v9 σ7 H locs ls (lv_sub hl [1, 2, 0] rfl) hW hs
      · replace hs := (sp_ite hs).1 c8
        refine lv_aload_n hx hb dX8_leaves_29 rfl (lv_at hl 0 rfl) ?_
        refine lv_aload_n hx hb dX8_leaves_30 rfl (lv_at hl 0 rfl) ?_
        obtain ⟨r10, σ11, eσ11, hs⟩ := sp_bind hs
        refine sv_goI (σ' := σ11) (r := r10) hW F.2.2.2.1 (sv_runV (C := RX8) F hW (k_X8_openSet hB eσ11 H.size) gX8_leaves_X8_openSet rfl ⟨rfl, rfl⟩ 0 (by decide +kernel) (sv_room2 (by omega) (by omega)) (sm_i 0 hB (by decide)) (sm_c0 hB) rfl rfl hl.1 rfl (Nat.le_of_ble_eq_true rfl) dX8_leaves_31 ⟨Nat.zero_le _, Nat.zero_le _⟩) (fun H locs hW => ?_)
        refine lv_iconst (v := 1) hx hb dX8_leaves_34 (by decide) ?_
        refine lv_iload_n hx hb dX8_leaves_35 rfl (lv_at hl 2 rfl) ?_
        refine lv_ishl hx hb dX8_leaves_36 ?_
        refine lv_iconst (v := -1) hx hb dX8_leaves_37 (by decide) ?_
        refine lv_ixor hx hb dX8_leaves_38 ?_
        refine lv_iand hx hb dX8_leaves_39 ?_
        refine lv_bipush (v := 6) hx hb dX8_leaves_40 (by decide) ?_
        obtain ⟨r12, σ13, eσ13, hs⟩ := sp_bind hs
        refine sv_goI (σ' := σ13) (r := r12) hW F.2.2.2.1 (sv_runV (C := RX8) F hW (k_X8_bestOf hB eσ13 H.size) gX8_leaves_X8_bestOf rfl ⟨rfl, rfl⟩ 2 (by decide +kernel) (sv_room2 (by omega) (by omega)) (sm_i 0 hB (by decide)) (sm_c0 hB) rfl rfl hl.1 rfl (Nat.le_of_ble_eq_true rfl) dX8_leaves_42 ⟨Nat.zero_le _, Nat.zero_le _⟩) (fun H locs hW => ?_)
        refine lv_iload_n hx hb dX8_leaves_45 rfl (lv_at hl 1 rfl) ?_
        refine lv_icmp_lt (tgt := 51) hx hb dX8_leaves_46 (by decide) (fun c14 => ?_) (fun c14 => ?_)
        · replace hs := (sp_ite hs).1 c14
          obtain ⟨v15, ev15⟩ : ∃ y : Int32, y = x2 + 1 := ⟨_, rfl⟩
          replace hs := sp_let hs ev15
          refine lv_iinc (v := v15) (lv' := [(2, .int v15), (0, .ref (h 0)), (1, .int x1)]) hx hb dX8_leaves_51 hl (k := 2) rfl (by rw [ev15]; rfl) (by decide) rfl (fun ls hl => ?_)
          refine lv_goto (tgt := 13) hx hb dX8_leaves_54 (by decide) ?_
          exact ih x1 v15 σ13 H locs ls (lv_sub hl [1, 2, 0] rfl) hW hs
        · replace hs := (sp_ite hs).2 c14
          refine lv_iload_n hx hb dX8_leaves_49 rfl (lv_at hl 2 rfl) ?_
          cases hs
          exact sv_iret hx hb hr rfl hlk hW dX8_leaves_50
set_option maxRecDepth 100000 in
set_option maxHeartbeats 4000000 in
theorem k_X8_leaves {l : Launch} {D : va_G} {T : Nat → ClassId} {h : Nat → Nat} {θ : sv_T}  {σ : sv_S} {r : Int32} {σ' : sv_S} (hB : sm_base θ)  (hs : q_X8_leaves θ  σ = some (r, σ')) : sv_Mi sm_X l D T (sm_tys T) h θ yX8_leaves wsX8_leaves (sv_rm 110 3572) [.ref (h 0)] σ r σ' := by
  intro sz
  refine sv_enter (cc := cX8_leaves) (maxL := 3) (ret := (some .int)) (Qc := fun A => va_Qi (fun r2 (_ : Unit) => r2 = r) (fun _ t => va_P D vwCl (sv_ws T h θ σ') t.heap) A) sm_XP (by decide) rfl (Nat.le_of_ble_eq_true rfl) ?_
  intro p e s m args below meth c A F hr hlk ls H hl hW
  have hx := F.1.1
  have hb := F.1.2.1
  have hts := F.1.2.2.2.2
  have hown := F.1.2.2.2.1
  have hK := F.2.1
  obtain ⟨locs, hlocs⟩ : ∃ z : List Loc, z = [] := ⟨_, rfl⟩
  rw [← hlocs] at hW ⊢
  have hl : lv_has ls 3 [(0, .ref (h 0))] := hl
  unfold q_X8_leaves at hs
  refine lv_aload_n hx hb dX8_leaves_0 rfl (lv_at hl 0 rfl) ?_
  refine lv_aload_n hx hb dX8_leaves_1 rfl (lv_at hl 0 rfl) ?_
  obtain ⟨r1, σ2, eσ2, hs⟩ := sp_bind hs
  refine sv_goI (σ' := σ2) (r := r1) hW F.2.2.2.1 (sv_runV (C := RX8) F hW (k_X8_openSet hB eσ2 H.size) gX8_leaves_X8_openSet rfl ⟨rfl, rfl⟩ 0 (by decide +kernel) (sv_room2 (by omega) (by omega)) (sm_i 0 hB (by decide)) (sm_c0 hB) rfl rfl hl.1 rfl (Nat.le_of_ble_eq_true rfl) dX8_leaves_2 ⟨Nat.zero_le _, Nat.zero_le _⟩) (fun H locs hW => ?_)
  refine lv_bipush (v := 6) hx hb dX8_leaves_5 (by decide) ?_
  obtain ⟨r3, σ4, eσ4, hs⟩ := sp_bind hs
  refine sv_goI (σ' := σ4) (r := r3) hW F.2.2.2.1 (sv_runV (C := RX8) F hW (k_X8_bestOf hB eσ4 H.size) gX8_leaves_X8_bestOf rfl ⟨rfl, rfl⟩ 2 (by decide +kernel) (sv_room2 (by omega) (by omega)) (sm_i 0 hB (by decide)) (sm_c0 hB) rfl rfl hl.1 rfl (Nat.le_of_ble_eq_true rfl) dX8_leaves_7 ⟨Nat.zero_le _, Nat.zero_le _⟩) (fun H locs hW => ?_)
  refine lv_istore_n (lv' := [(1, .int r3), (0, .ref (h 0))]) hx hb dX8_leaves_10 rfl hl (by decide) rfl (fun ls hl => ?_)
  refine lv_iconst (v := 0) hx hb dX8_leaves_11 (by decide) ?_
  refine lv_istore_n (lv' := [(2, .int (0 : Int32)), (1, .int r3), (0, .ref (h 0))]) hx hb dX8_leaves_12 rfl hl (by decide) rfl (fun ls hl => ?_)
  exact b_X8_leaves_13 hB F hr hlk sv_N r3 (0 : Int32) σ4 H locs ls (lv_sub hl [2, 1, 0] rfl) hW hs
set_option maxRecDepth 100000 in
set_option maxHeartbeats 4000000 in
theorem k_X8_best {l : Launch} {D : va_G} {T : Nat → ClassId} {h : Nat → Nat} {θ : sv_T} {a1 : Int32} {σ : sv_S} {r : Int32} {σ' : sv_S} (hB : sm_base θ)  (hs : q_X8_best θ a1 σ = some (r, σ')) : sv_Mi sm_X l D T (sm_tys T) h θ yX8_best wsX8_best (sv_rm 111 3594) [.ref (h 0), .int a1] σ r σ' := by
  intro sz
  refine sv_enter (cc := cX8_best) (maxL := 3) (ret := (some .int)) (Qc := fun A => va_Qi (fun r2 (_ : Unit) => r2 = r) (fun _ t => va_P D vwCl (sv_ws T h θ σ') t.heap) A) sm_XP (by decide) rfl (Nat.le_of_ble_eq_true rfl) ?_
  intro p e s m args below meth c A F hr hlk ls H hl hW
  have hx := F.1.1
  have hb := F.1.2.1
  have hts := F.1.2.2.2.2
  have hown := F.1.2.2.2.1
  have hK := F.2.1
  obtain ⟨locs, hlocs⟩ : ∃ z : List Loc, z = [] := ⟨_, rfl⟩
  rw [← hlocs] at hW ⊢
  have hl : lv_has ls 3 [(0, .ref (h 0)), (1, .int a1)] := hl
  unfold q_X8_best at hs
  refine lv_iload_n hx hb dX8_best_0 rfl (lv_at hl 1 rfl) ?_
  refine lv_i2l (v := a1.toInt64) hx hb dX8_best_1 rfl ?_
  refine lv_lconst (v := 0) hx hb dX8_best_2 (by decide) ?_
  refine lv_ldc2 (own := RX8) (index := 289) (v := 3) hx hb hown (hts _ (List.mem_of_getElem? (i := 1) rfl)) dX8_best_3 ?_
  obtain ⟨r1, σ2, eσ2, hs⟩ := sp_bind hs
  refine sv_goI (σ' := σ2) (r := r1) hW F.2.2.2.1 (sv_runT F hW (k_X8_in hB eσ2 H.size) gX8_best_X8_in rfl ⟨rfl, rfl⟩ 3 (by decide +kernel) (sv_room2 (by omega) (by omega)) rfl hl.1 rfl (Nat.le_of_ble_eq_true rfl) dX8_best_6 ⟨Nat.zero_le _, Nat.zero_le _⟩) (fun H locs hW => ?_)
  refine lv_if_ne (tgt := 15) hx hb dX8_best_9 (by decide) (fun c3 => ?_) (fun c3 => ?_)
  · replace hs := (sp_ite hs).2 c3
    refine lv_iload_n hx hb dX8_best_15 rfl (lv_at hl 1 rfl) ?_
    refine lv_iconst (v := 2) hx hb dX8_best_16 (by decide) ?_
    refine lv_icmp_ne (tgt := 25) hx hb dX8_best_17 (by decide) (fun c4 => ?_) (fun c4 => ?_)
    · replace hs := (sp_ite hs).2 c4
      refine lv_aload_n hx hb dX8_best_25 rfl (lv_at hl 0 rfl) ?_
      refine lv_aload_n hx hb dX8_best_26 rfl (lv_at hl 0 rfl) ?_
      obtain ⟨r5, σ6, eσ6, hs⟩ := sp_bind hs
      refine sv_goI (σ' := σ6) (r := r5) hW F.2.2.2.1 (sv_runV (C := RX8) F hW (k_X8_openSet hB eσ6 H.size) gX8_best_X8_openSet rfl ⟨rfl, rfl⟩ 0 (by decide +kernel) (sv_room2 (by omega) (by omega)) (sm_i 0 hB (by decide)) (sm_c0 hB) rfl rfl hl.1 rfl (Nat.le_of_ble_eq_true rfl) dX8_best_27 ⟨Nat.zero_le _, Nat.zero_le _⟩) (fun H locs hW => ?_)
      refine lv_bipush (v := 6) hx hb dX8_best_30 (by decide) ?_
      obtain ⟨r7, σ8, eσ8, hs⟩ := sp_bind hs
      refine sv_goI (σ' := σ8) (r := r7) hW F.2.2.2.1 (sv_runV (C := RX8) F hW (k_X8_bestOf hB eσ8 H.size) gX8_best_X8_bestOf rfl ⟨rfl, rfl⟩ 2 (by decide +kernel) (sv_room2 (by omega) (by omega)) (sm_i 0 hB (by decide)) (sm_c0 hB) rfl rfl hl.1 rfl (Nat.le_of_ble_eq_true rfl) dX8_best_32 ⟨Nat.zero_le _, Nat.zero_le _⟩) (fun H locs hW => ?_)
      refine lv_istore_n (lv' := [(2, .int r7), (0, .ref (h 0)), (1, .int a1)]) hx hb dX8_best_35 rfl hl (by decide) rfl (fun ls hl => ?_)
      refine lv_iload_n hx hb dX8_best_36 rfl (lv_at hl 2 rfl) ?_
      refine lv_if_ne (tgt := 47) hx hb dX8_best_37 (by decide) (fun c9 => ?_) (fun c9 => ?_)
      · replace hs := (sp_ite hs).2 c9
        refine lv_iload_n hx hb dX8_best_47 rfl (lv_at hl 0 rfl) ?_
        cases hs
        exact sv_iret hx hb hr rfl hlk hW dX8_best_48
      · replace hs := (sp_ite hs).1 c9
        refine lv_aload_n hx hb dX8_best_40 rfl (lv_at hl 1 rfl) ?_
        refine sv_get (own := RX8) (C := RX8) (Tf := TX8) (N := 44) (index := 297) (κ := (0, 0)) (v := .int (σ8.1 0 32)) hx hb hts hown hK hW (fun _ h => List.mem_cons_of_mem _ (List.mem_append_right _ h)) (sm_i 0 hB (by decide)) (sm_c0 hB) rfl 32 (by decide) rfl rfl (List.mem_of_getElem? (i := 2) rfl) dX8_best_41 ?_
        refine lv_goto (tgt := 48) hx hb dX8_best_44 (by decide) ?_
        cases hs
        exact sv_iret hx hb hr rfl hlk hW dX8_best_48
    · replace hs := (sp_ite hs).1 c4
      refine lv_aload_n hx hb dX8_best_20 rfl (lv_at hl 0 rfl) ?_
      obtain ⟨r10, σ11, eσ11, hs⟩ := sp_bind hs
      refine sv_goI (σ' := σ11) (r := r10) hW F.2.2.2.1 (sv_runV (C := RX8) F hW (k_X8_leaves hB eσ11 H.size) gX8_best_X8_leaves rfl ⟨rfl, rfl⟩ 0 (by decide +kernel) (sv_room2 (by omega) (by omega)) (sm_i 0 hB (by decide)) (sm_c0 hB) rfl rfl hl.1 rfl (Nat.le_of_ble_eq_true rfl) dX8_best_21 ⟨Nat.zero_le _, Nat.zero_le _⟩) (fun H locs hW => ?_)
      cases hs
      exact sv_iret hx hb hr rfl hlk hW dX8_best_24
  · replace hs := (sp_ite hs).1 c3
    refine lv_bipush (v := -2) hx hb dX8_best_12 (by decide) ?_
    cases hs
    exact sv_iret hx hb hr rfl hlk hW dX8_best_14
set_option maxRecDepth 100000 in
set_option maxHeartbeats 4000000 in
theorem k_X8_few {l : Launch} {D : va_G} {T : Nat → ClassId} {h : Nat → Nat} {θ : sv_T} {a1 : Int32} {σ : sv_S} {r : Int32} {σ' : sv_S} (hB : sm_base θ)  (hs : q_X8_few θ a1 σ = some (r, σ')) : sv_Mi sm_X l D T (sm_tys T) h θ yX8_few wsX8_few (sv_rm 110 3572) [.ref (h 0), .int a1] σ r σ' := by
  intro sz
  refine sv_enter (cc := cX8_few) (maxL := 2) (ret := (some .int)) (Qc := fun A => va_Qi (fun r2 (_ : Unit) => r2 = r) (fun _ t => va_P D vwCl (sv_ws T h θ σ') t.heap) A) sm_XP (by decide) rfl (Nat.le_of_ble_eq_true rfl) ?_
  intro p e s m args below meth c A F hr hlk ls H hl hW
  have hx := F.1.1
  have hb := F.1.2.1
  have hts := F.1.2.2.2.2
  have hown := F.1.2.2.2.1
  have hK := F.2.1
  obtain ⟨locs, hlocs⟩ : ∃ z : List Loc, z = [] := ⟨_, rfl⟩
  rw [← hlocs] at hW ⊢
  have hl : lv_has ls 2 [(0, .ref (h 0)), (1, .int a1)] := hl
  unfold q_X8_few at hs
  refine lv_iload_n hx hb dX8_few_0 rfl (lv_at hl 1 rfl) ?_
  refine lv_i2l (v := a1.toInt64) hx hb dX8_few_1 rfl ?_
  refine lv_lconst (v := 0) hx hb dX8_few_2 (by decide) ?_
  refine lv_ldc2 (own := RX8) (index := 316) (v := 6) hx hb hown (hts _ (List.mem_of_getElem? (i := 1) rfl)) dX8_few_3 ?_
  obtain ⟨r1, σ2, eσ2, hs⟩ := sp_bind hs
  refine sv_goI (σ' := σ2) (r := r1) hW F.2.2.2.1 (sv_runT F hW (k_X8_in hB eσ2 H.size) gX8_few_X8_in rfl ⟨rfl, rfl⟩ 3 (by decide +kernel) (sv_room2 (by omega) (by omega)) rfl hl.1 rfl (Nat.le_of_ble_eq_true rfl) dX8_few_6 ⟨Nat.zero_le _, Nat.zero_le _⟩) (fun H locs hW => ?_)
  refine lv_if_eq (tgt := 24) hx hb dX8_few_9 (by decide) (fun c3 => ?_) (fun c3 => ?_)
  · replace hs := (sp_ite hs).1 c3
    refine lv_bipush (v := -2) hx hb dX8_few_24 (by decide) ?_
    cases hs
    exact sv_iret hx hb hr rfl hlk hW dX8_few_26
  · replace hs := (sp_ite hs).2 c3
    refine lv_aload_n hx hb dX8_few_12 rfl (lv_at hl 0 rfl) ?_
    refine lv_aload_n hx hb dX8_few_13 rfl (lv_at hl 0 rfl) ?_
    obtain ⟨r4, σ5, eσ5, hs⟩ := sp_bind hs
    refine sv_goI (σ' := σ5) (r := r4) hW F.2.2.2.1 (sv_runV (C := RX8) F hW (k_X8_openSet hB eσ5 H.size) gX8_few_X8_openSet rfl ⟨rfl, rfl⟩ 0 (by decide +kernel) (sv_room2 (by omega) (by omega)) (sm_i 0 hB (by decide)) (sm_c0 hB) rfl rfl hl.1 rfl (Nat.le_of_ble_eq_true rfl) dX8_few_14 ⟨Nat.zero_le _, Nat.zero_le _⟩) (fun H locs hW => ?_)
    refine lv_iload_n hx hb dX8_few_17 rfl (lv_at hl 1 rfl) ?_
    obtain ⟨r6, σ7, eσ7, hs⟩ := sp_bind hs
    refine sv_goI (σ' := σ7) (r := r6) hW F.2.2.2.1 (sv_runV (C := RX8) F hW (k_X8_bestOf hB eσ7 H.size) gX8_few_X8_bestOf rfl ⟨rfl, rfl⟩ 2 (by decide +kernel) (sv_room2 (by omega) (by omega)) (sm_i 0 hB (by decide)) (sm_c0 hB) rfl rfl hl.1 rfl (Nat.le_of_ble_eq_true rfl) dX8_few_18 ⟨Nat.zero_le _, Nat.zero_le _⟩) (fun H locs hW => ?_)
    refine lv_goto (tgt := 26) hx hb dX8_few_21 (by decide) ?_
    cases hs
    exact sv_iret hx hb hr rfl hlk hW dX8_few_26
set_option maxRecDepth 100000 in
set_option maxHeartbeats 4000000 in
theorem b_X8_water_45 {p : Program} {l : Launch} {e : Env} {s : State} {m : MethodId} {args : Array Value} {below : List Frame} {meth : Method} {c : Code} {D : va_G} {T : Nat → ClassId} {A : Nat → Prop} {h : Nat → Nat} {θ : sv_T} {a1 : Int32} {r : Int32} {σ' : sv_S} (hB : sm_base θ)  (F : sv_F sm_X p m c cX8_water 7 s args wsX8_water RX8 D (sm_tys T) A) (hr : meth.sig.returnType = (some .int)) (hlk : meth.locks = false)  : ∀ (n : Nat), ∀ (x1 : Int32) (x2 : Int32) (x3 : Int32) (x4 : Int32) (σ : sv_S) (H : Heap) (locs : List Loc) (ls : Array Slot), lv_has ls 7 [(0, .ref (h 0)), (1, .int x1), (2, .int x2), (3, .int x3), (4, .int x4)] → sv_W D T A s h θ σ H locs → q_X8_water_B45 θ a1 n x1 x2 x3 x4 σ = some (r, σ') → W p l e (sv_rm 110 3572) s m args below meth c H locs 0 0 (MQ below (va_Qi (fun r2 (_ : Unit) => r2 = r) (fun _ t => va_P D vwCl (sv_ws T h θ σ') t.heap) A) args s 0 0 A) (F0 m 45 ls []) := by
  have hx := F.1.1
  have hb := F.1.2.1
  have hts := F.1.2.2.2.2
  have hown := F.1.2.2.2.1
  have hK := F.2.1
  intro n
  induction n with
  | zero =>
    intro x1 x2 x3 x4 σ H locs ls hl hW hs
    have hs : (none : Option (Int32 × sv_S)) = some (r, σ') := hs
    cases hs
  | succ n ih =>
    intro x1 x2 x3 x4 σ H locs ls hl hW hs
    have hs : q_X8_water_B45_b θ a1 (q_X8_water_B45 θ a1 n) x1 x2 x3 x4 σ = some (r, σ') := hs
    unfold q_X8_water_B45_b at hs
    refine lv_iload hx hb dX8_water_45 (lv_at hl 4 rfl) ?_
    refine lv_bipush (v := 48) hx hb dX8_water_47 (by decide) ?_
    refine lv_icmp_ge (tgt := 121) hx hb dX8_water_49 (by decide) (fun c11 => ?_) (fun c11 => ?_)
    · replace hs := (sp_ite hs).1 c11
      refine lv_iload_n hx hb dX8_water_121 rfl (lv_at hl 1 rfl) ?_
      refine lv_if_ne (tgt := 129) hx hb dX8_water_122 (by decide) (fun c12 => ?_) (fun c12 => ?_)
      · replace hs := (sp_ite hs).2 c12
        refine lv_iload_n hx hb dX8_water_129 rfl (lv_at hl 3 rfl) ?_
        cases hs
        exact sv_iret hx hb hr rfl hlk hW dX8_water_130
      · replace hs := (sp_ite hs).1 c12
        refine lv_iload_n hx hb dX8_water_125 rfl (lv_at hl 2 rfl) ?_
        refine lv_goto (tgt := 130) hx hb dX8_water_126 (by decide) ?_
        cases hs
        exact sv_iret hx hb hr rfl hlk hW dX8_water_130
    · replace hs := (sp_ite hs).2 c11
      refine lv_aload_n hx hb dX8_water_52 rfl (lv_at hl 0 rfl) ?_
      refine sv_get (own := RX8) (C := RX8) (Tf := TX8) (N := 44) (index := 23) (κ := (3, 4)) (v := .ref (h 4)) hx hb hts hown hK hW (fun _ h => List.mem_cons_of_mem _ (List.mem_append_right _ h)) (sm_i 0 hB (by decide)) (sm_c0 hB) rfl 8 (by decide) rfl rfl (List.mem_of_getElem? (i := 2) rfl) dX8_water_53 ?_
      refine lv_iload hx hb dX8_water_56 (lv_at hl 4 rfl) ?_
      obtain ⟨hi13, hs⟩ := sp_g hs
      refine sv_iald hx hb hK hW (sm_i 4 hB (by decide)) (sm_c4 hB) 0 rfl hi13 dX8_water_58 ?_
      refine lv_topi (fun v14 ev14 => ?_)
      replace hs := sp_let hs ev14
      refine lv_istore (lv' := [(5, .int v14), (0, .ref (h 0)), (1, .int x1), (2, .int x2), (3, .int x3), (4, .int x4)]) hx hb dX8_water_59 hl (by decide) rfl (fun ls hl => ?_)
      refine lv_aload_n hx hb dX8_water_61 rfl (lv_at hl 1 rfl) ?_
      refine sv_get (own := RX8) (C := RX8) (Tf := TX8) (N := 44) (index := 23) (κ := (3, 4)) (v := .ref (h 4)) hx hb hts hown hK hW (fun _ h => List.mem_cons_of_mem _ (List.mem_append_right _ h)) (sm_i 0 hB (by decide)) (sm_c0 hB) rfl 8 (by decide) rfl rfl (List.mem_of_getElem? (i := 2) rfl) dX8_water_62 ?_
      refine lv_iload hx hb dX8_water_65 (lv_at hl 5 rfl) ?_
      refine lv_bipush (v := 9) hx hb dX8_water_67 (by decide) ?_
      obtain ⟨hi15, hs⟩ := sp_g hs
      refine sv_iast hx hb hK hW (sm_i 4 hB (by decide)) (sm_c4 hB) 0 rfl hi15 dX8_water_69 (fun σ16 H locs eσ16 hW => ?_)
      replace hs := sp_let hs eσ16
      refine lv_aload_n hx hb dX8_water_70 rfl (lv_at hl 1 rfl) ?_
      refine lv_aload_n hx hb dX8_water_71 rfl (lv_at hl 1 rfl) ?_
      obtain ⟨r17, σ18, eσ18, hs⟩ := sp_bind hs
      refine sv_goI (σ' := σ18) (r := r17) hW F.2.2.2.1 (sv_runV (C := RX8) F hW (k_X8_openSet hB eσ18 H.size) gX8_water_X8_openSet rfl ⟨rfl, rfl⟩ 0 (by decide +kernel) (sv_room2 (by omega) (by omega)) (sm_i 0 hB (by decide)) (sm_c0 hB) rfl rfl hl.1 rfl (Nat.le_of_ble_eq_true rfl) dX8_water_72 ⟨Nat.zero_le _, Nat.zero_le _⟩) (fun H locs hW => ?_)
      refine lv_bipush (v := 6) hx hb dX8_water_75 (by decide) ?_
      obtain ⟨r19, σ20, eσ20, hs⟩ := sp_bind hs
      refine sv_goI (σ' := σ20) (r := r19) hW F.2.2.2.1 (sv_runV (C := RX8) F hW (k_X8_bestOf hB eσ20 H.size) gX8_water_X8_bestOf rfl ⟨rfl, rfl⟩ 2 (by decide +kernel) (sv_room2 (by omega) (by omega)) (sm_i 0 hB (by decide)) (sm_c0 hB) rfl rfl hl.1 rfl (Nat.le_of_ble_eq_true rfl) dX8_water_77 ⟨Nat.zero_le _, Nat.zero_le _⟩) (fun H locs hW => ?_)
      refine lv_istore (lv' := [(6, .int r19), (5, .int v14), (0, .ref (h 0)), (1, .int x1), (2, .int x2), (3, .int x3), (4, .int x4)]) hx hb dX8_water_80 hl (by decide) rfl (fun ls hl => ?_)
      refine lv_aload_n hx hb dX8_water_82 rfl (lv_at hl 2 rfl) ?_
      refine sv_get (own := RX8) (C := RX8) (Tf := TX8) (N := 44) (index := 23) (κ := (3, 4)) (v := .ref (h 4)) hx hb hts hown hK hW (fun _ h => List.mem_cons_of_mem _ (List.mem_append_right _ h)) (sm_i 0 hB (by decide)) (sm_c0 hB) rfl 8 (by decide) rfl rfl (List.mem_of_getElem? (i := 2) rfl) dX8_water_83 ?_
      refine lv_iload hx hb dX8_water_86 (lv_at hl 6 rfl) ?_
      refine lv_iload hx hb dX8_water_88 (lv_at hl 1 rfl) ?_
      obtain ⟨hi21, hs⟩ := sp_g hs
      refine sv_iast hx hb hK hW (sm_i 4 hB (by decide)) (sm_c4 hB) 0 rfl hi21 dX8_water_90 (fun σ22 H locs eσ22 hW => ?_)
      replace hs := sp_let hs eσ22
      refine lv_iload hx hb dX8_water_91 (lv_at hl 0 rfl) ?_
      refine lv_iload_n hx hb dX8_water_93 rfl (lv_at hl 5 rfl) ?_
      refine lv_icmp_le (tgt := 115) hx hb dX8_water_94 (by decide) (fun c23 => ?_) (fun c23 => ?_)
      · replace hs := (sp_ite hs).1 c23
        obtain ⟨v24, ev24⟩ : ∃ y : Int32, y = x4 + 1 := ⟨_, rfl⟩
        replace hs := sp_let hs ev24
        refine lv_iinc (v := v24) (lv' := [(4, .int v24), (6, .int r19), (5, .int v14), (0, .ref (h 0)), (1, .int x1), (2, .int x2), (3, .int x3)]) hx hb dX8_water_115 hl (k := 6) rfl (by rw [ev24]; rfl) (by decide) rfl (fun ls hl => ?_)
        refine lv_goto (tgt := 45) hx hb dX8_water_118 (by decide) ?_
        exact ih x1 x2 x3 v24 σ22 H locs ls (lv_sub hl [3, 4, 5, 6, 0] rfl) hW hs
      · replace hs := (sp_ite hs).2 c23
        refine lv_bipush (v := 100) hx hb dX8_water_97 (by decide) ?_
        refine lv_iload hx hb dX8_water_99 (lv_at hl 6 rfl) ?_
        refine lv_bipush (v := 24) hx hb dX8_water_101 (by decide) ?_
        refine lv_idiv hx hb dX8_water_103 (by decide) ?_
        refine lv_imul hx hb dX8_water_104 ?_
        refine lv_iload hx hb dX8_water_105 (lv_at hl 6 rfl) ?_
        refine lv_bipush (v := 24) hx hb dX8_water_107 (by decide) ?_
        refine lv_irem hx hb dX8_water_109 (by decide) ?_
        refine lv_iadd hx hb dX8_water_110 ?_
        refine lv_topi (fun v25 ev25 => ?_)
        replace hs := sp_let hs ev25
        refine lv_istore_n (lv' := [(2, .int v25), (6, .int r19), (5, .int v14), (0, .ref (h 0)), (1, .int x1), (3, .int x3), (4, .int x4)]) hx hb dX8_water_111 rfl hl (by decide) rfl (fun ls hl => ?_)
        refine lv_iload hx hb dX8_water_112 (lv_at hl 1 rfl) ?_
        refine lv_istore_n (lv' := [(3, .int r19), (2, .int v25), (6, .int r19), (5, .int v14), (0, .ref (h 0)), (1, .int x1), (4, .int x4)]) hx hb dX8_water_114 rfl hl (by decide) rfl (fun ls hl => ?_)
        obtain ⟨v26, ev26⟩ : ∃ y : Int32, y = x4 + 1 := ⟨_, rfl⟩
        replace hs := sp_let hs ev26
        refine lv_iinc (v := v26) (lv' := [(4, .int v26), (3, .int r19), (2, .int v25), (6, .int r19), (5, .int v14), (0, .ref (h 0)), (1, .int x1)]) hx hb dX8_water_115 hl (k := 6) rfl (by rw [ev26]; rfl) (by decide) rfl (fun ls hl => ?_)
        refine lv_goto (tgt := 45) hx hb dX8_water_118 (by decide) ?_
        exact ih x1 v25 r19 v26 σ22 H locs ls (lv_sub hl [5, 6, 2, 1, 0] rfl) hW hs
set_option maxRecDepth 100000 in
set_option maxHeartbeats 4000000 in
theorem k_X8_water {l : Launch} {D : va_G} {T : Nat → ClassId} {h : Nat → Nat} {θ : sv_T} {a1 : Int32} {σ : sv_S} {r : Int32} {σ' : sv_S} (hB : sm_base θ)  (hs : q_X8_water θ a1 σ = some (r, σ')) : sv_Mi sm_X l D T (sm_tys T) h θ yX8_water wsX8_water (sv_rm 110 3572) [.ref (h 0), .int a1] σ r σ' := by
  intro sz
  refine sv_enter (cc := cX8_water) (maxL := 7) (ret := (some .int)) (Qc := fun A => va_Qi (fun r2 (_ : Unit) => r2 = r) (fun _ t => va_P D vwCl (sv_ws T h θ σ') t.heap) A) sm_XP (by decide) rfl (Nat.le_of_ble_eq_true rfl) ?_
  intro p e s m args below meth c A F hr hlk ls H hl hW
  have hx := F.1.1
  have hb := F.1.2.1
  have hts := F.1.2.2.2.2
  have hown := F.1.2.2.2.1
  have hK := F.2.1
  obtain ⟨locs, hlocs⟩ : ∃ z : List Loc, z = [] := ⟨_, rfl⟩
  rw [← hlocs] at hW ⊢
  have hl : lv_has ls 7 [(0, .ref (h 0)), (1, .int a1)] := hl
  unfold q_X8_water at hs
  refine lv_iload_n hx hb dX8_water_0 rfl (lv_at hl 1 rfl) ?_
  refine lv_i2l (v := a1.toInt64) hx hb dX8_water_1 rfl ?_
  refine lv_lconst (v := 0) hx hb dX8_water_2 (by decide) ?_
  refine lv_lconst (v := 1) hx hb dX8_water_3 (by decide) ?_
  obtain ⟨r1, σ2, eσ2, hs⟩ := sp_bind hs
  refine sv_goI (σ' := σ2) (r := r1) hW F.2.2.2.1 (sv_runT F hW (k_X8_in hB eσ2 H.size) gX8_water_X8_in rfl ⟨rfl, rfl⟩ 3 (by decide +kernel) (sv_room2 (by omega) (by omega)) rfl hl.1 rfl (Nat.le_of_ble_eq_true rfl) dX8_water_4 ⟨Nat.zero_le _, Nat.zero_le _⟩) (fun H locs hW => ?_)
  refine lv_if_ne (tgt := 13) hx hb dX8_water_7 (by decide) (fun c3 => ?_) (fun c3 => ?_)
  · replace hs := (sp_ite hs).2 c3
    refine lv_aload_n hx hb dX8_water_13 rfl (lv_at hl 0 rfl) ?_
    refine sv_get (own := RX8) (C := RX8) (Tf := TX8) (N := 44) (index := 64) (κ := (0, 0)) (v := .int (σ2.1 0 11)) hx hb hts hown hK hW (fun _ h => List.mem_cons_of_mem _ (List.mem_append_right _ h)) (sm_i 0 hB (by decide)) (sm_c0 hB) rfl 11 (by decide) rfl rfl (List.mem_of_getElem? (i := 1) rfl) dX8_water_14 ?_
    refine lv_aload_n hx hb dX8_water_17 rfl (lv_at hl 0 rfl) ?_
    obtain ⟨r4, σ5, eσ5, hs⟩ := sp_bind hs
    refine sv_goI (σ' := σ5) (r := r4) hW F.2.2.2.1 (sv_runV (C := RX8) F hW (k_X8_shakenMany hB eσ5 H.size) gX8_water_X8_shakenMany rfl ⟨rfl, rfl⟩ 0 (by decide +kernel) (sv_room2 (by omega) (by omega)) (sm_i 0 hB (by decide)) (sm_c0 hB) rfl rfl hl.1 rfl (Nat.le_of_ble_eq_true rfl) dX8_water_18 ⟨Nat.zero_le _, Nat.zero_le _⟩) (fun H locs hW => ?_)
    refine lv_isub hx hb dX8_water_21 ?_
    refine lv_iconst (v := 4) hx hb dX8_water_22 (by decide) ?_
    refine lv_icmp_le (tgt := 29) hx hb dX8_water_23 (by decide) (fun c6 => ?_) (fun c6 => ?_)
    · replace hs := (sp_ite hs).1 c6
      refine lv_iconst (v := -1) hx hb dX8_water_29 (by decide) ?_
      refine lv_istore_n (lv' := [(2, .int (-1 : Int32)), (0, .ref (h 0)), (1, .int a1)]) hx hb dX8_water_30 rfl hl (by decide) rfl (fun ls hl => ?_)
      refine lv_aload_n hx hb dX8_water_31 rfl (lv_at hl 1 rfl) ?_
      refine lv_aload_n hx hb dX8_water_32 rfl (lv_at hl 1 rfl) ?_
      obtain ⟨r7, σ8, eσ8, hs⟩ := sp_bind hs
      refine sv_goI (σ' := σ8) (r := r7) hW F.2.2.2.1 (sv_runV (C := RX8) F hW (k_X8_openSet hB eσ8 H.size) gX8_water_X8_openSet rfl ⟨rfl, rfl⟩ 0 (by decide +kernel) (sv_room2 (by omega) (by omega)) (sm_i 0 hB (by decide)) (sm_c0 hB) rfl rfl hl.1 rfl (Nat.le_of_ble_eq_true rfl) dX8_water_33 ⟨Nat.zero_le _, Nat.zero_le _⟩) (fun H locs hW => ?_)
      refine lv_bipush (v := 6) hx hb dX8_water_36 (by decide) ?_
      obtain ⟨r9, σ10, eσ10, hs⟩ := sp_bind hs
      refine sv_goI (σ' := σ10) (r := r9) hW F.2.2.2.1 (sv_runV (C := RX8) F hW (k_X8_bestOf hB eσ10 H.size) gX8_water_X8_bestOf rfl ⟨rfl, rfl⟩ 2 (by decide +kernel) (sv_room2 (by omega) (by omega)) (sm_i 0 hB (by decide)) (sm_c0 hB) rfl rfl hl.1 rfl (Nat.le_of_ble_eq_true rfl) dX8_water_38 ⟨Nat.zero_le _, Nat.zero_le _⟩) (fun H locs hW => ?_)
      refine lv_istore_n (lv' := [(3, .int r9), (2, .int (-1 : Int32)), (0, .ref (h 0)), (1, .int a1)]) hx hb dX8_water_41 rfl hl (by decide) rfl (fun ls hl => ?_)
      refine lv_iconst (v := 0) hx hb dX8_water_42 (by decide) ?_
      refine lv_istore (lv' := [(4, .int (0 : Int32)), (3, .int r9), (2, .int (-1 : Int32)), (0, .ref (h 0)), (1, .int a1)]) hx hb dX8_water_43 hl (by decide) rfl (fun ls hl => ?_)
      exact b_X8_water_45 hB F hr hlk sv_N a1 (-1 : Int32) r9 (0 : Int32) σ10 H locs ls (lv_sub hl [3, 4, 2, 1, 0] rfl) hW hs
    · replace hs := (sp_ite hs).2 c6
      refine lv_bipush (v := -3) hx hb dX8_water_26 (by decide) ?_
      cases hs
      exact sv_iret hx hb hr rfl hlk hW dX8_water_28
  · replace hs := (sp_ite hs).1 c3
    refine lv_bipush (v := -2) hx hb dX8_water_10 (by decide) ?_
    cases hs
    exact sv_iret hx hb hr rfl hlk hW dX8_water_12
set_option maxRecDepth 100000 in
set_option maxHeartbeats 4000000 in
theorem b_X8_wetMany_4 {p : Program} {l : Launch} {e : Env} {s : State} {m : MethodId} {args : Array Value} {below : List Frame} {meth : Method} {c : Code} {D : va_G} {T : Nat → ClassId} {A : Nat → Prop} {h : Nat → Nat} {θ : sv_T} {a1 : Int32} {r : Int32} {σ' : sv_S} (hB : sm_base θ)  (F : sv_F sm_X p m c cX8_wetMany 4 s args wsX8_wetMany RX8 D (sm_tys T) A) (hr : meth.sig.returnType = (some .int)) (hlk : meth.locks = false)  : ∀ (n : Nat), ∀ (x1 : Int32) (x2 : Int32) (x3 : Int32) (σ : sv_S) (H : Heap) (locs : List Loc) (ls : Array Slot), lv_has ls 4 [(0, .ref (h 0)), (1, .int x1), (2, .int x2), (3, .int x3)] → sv_W D T A s h θ σ H locs → q_X8_wetMany_B4 θ a1 n x1 x2 x3 σ = some (r, σ') → W p l e (sv_rm 0 0) s m args below meth c H locs 0 0 (MQ below (va_Qi (fun r2 (_ : Unit) => r2 = r) (fun _ t => va_P D vwCl (sv_ws T h θ σ') t.heap) A) args s 0 0 A) (F0 m 4 ls []) := by
  have hx := F.1.1
  have hb := F.1.2.1
  have hts := F.1.2.2.2.2
  have hown := F.1.2.2.2.1
  have hK := F.2.1
  intro n
  induction n with
  | zero =>
    intro x1 x2 x3 σ H locs ls hl hW hs
    have hs : (none : Option (Int32 × sv_S)) = some (r, σ') := hs
    cases hs
  | succ n ih =>
    intro x1 x2 x3 σ H locs ls hl hW hs
    have hs : q_X8_wetMany_B4_b θ a1 (q_X8_wetMany_B4 θ a1 n) x1 x2 x3 σ = some (r, σ') := hs
    unfold q_X8_wetMany_B4_b at hs
    refine lv_iload_n hx hb dX8_wetMany_4 rfl (lv_at hl 3 rfl) ?_
    refine lv_bipush (v := 24) hx hb dX8_wetMany_5 (by decide) ?_
    refine lv_icmp_ge (tgt := 38) hx hb dX8_wetMany_7 (by decide) (fun c1 => ?_) (fun c1 => ?_)
    · replace hs := (sp_ite hs).1 c1
      refine lv_iload_n hx hb dX8_wetMany_38 rfl (lv_at hl 2 rfl) ?_
      cases hs
      exact sv_iret hx hb hr rfl hlk hW dX8_wetMany_39
    · replace hs := (sp_ite hs).2 c1
      refine lv_iload_n hx hb dX8_wetMany_10 rfl (lv_at hl 2 rfl) ?_
      refine lv_aload_n hx hb dX8_wetMany_11 rfl (lv_at hl 0 rfl) ?_
      refine sv_get (own := RX8) (C := RX8) (Tf := TX8) (N := 44) (index := 23) (κ := (3, 4)) (v := .ref (h 4)) hx hb hts hown hK hW (fun _ h => List.mem_cons_of_mem _ (List.mem_append_right _ h)) (sm_i 0 hB (by decide)) (sm_c0 hB) rfl 8 (by decide) rfl rfl (List.mem_of_getElem? (i := 1) rfl) dX8_wetMany_12 ?_
      refine lv_bipush (v := 24) hx hb dX8_wetMany_15 (by decide) ?_
      refine lv_iload_n hx hb dX8_wetMany_17 rfl (lv_at hl 1 rfl) ?_
      refine lv_imul hx hb dX8_wetMany_18 ?_
      refine lv_iload_n hx hb dX8_wetMany_19 rfl (lv_at hl 3 rfl) ?_
      refine lv_iadd hx hb dX8_wetMany_20 ?_
      obtain ⟨hi2, hs⟩ := sp_g hs
      refine sv_iald hx hb hK hW (sm_i 4 hB (by decide)) (sm_c4 hB) 0 rfl hi2 dX8_wetMany_21 ?_
      refine lv_if_le (tgt := 29) hx hb dX8_wetMany_22 (by decide) (fun c3 => ?_) (fun c3 => ?_)
      · replace hs := (sp_ite hs).1 c3
        refine lv_iconst (v := 0) hx hb dX8_wetMany_29 (by decide) ?_
        refine lv_iadd hx hb dX8_wetMany_30 ?_
        refine lv_topi (fun v4 ev4 => ?_)
        replace hs := sp_let hs ev4
        refine lv_istore_n (lv' := [(2, .int v4), (0, .ref (h 0)), (1, .int x1), (3, .int x3)]) hx hb dX8_wetMany_31 rfl hl (by decide) rfl (fun ls hl => ?_)
        obtain ⟨v5, ev5⟩ : ∃ y : Int32, y = x3 + 1 := ⟨_, rfl⟩
        replace hs := sp_let hs ev5
        refine lv_iinc (v := v5) (lv' := [(3, .int v5), (2, .int v4), (0, .ref (h 0)), (1, .int x1)]) hx hb dX8_wetMany_32 hl (k := 3) rfl (by rw [ev5]; rfl) (by decide) rfl (fun ls hl => ?_)
        refine lv_goto (tgt := 4) hx hb dX8_wetMany_35 (by decide) ?_
        exact ih x1 v4 v5 σ H locs ls (lv_sub hl [2, 3, 1, 0] rfl) hW hs
      · replace hs := (sp_ite hs).2 c3
        refine lv_iconst (v := 1) hx hb dX8_wetMany_25 (by decide) ?_
        refine lv_goto (tgt := 30) hx hb dX8_wetMany_26 (by decide) ?_
        refine lv_iadd hx hb dX8_wetMany_30 ?_
        refine lv_topi (fun v6 ev6 => ?_)
        replace hs := sp_let hs ev6
        refine lv_istore_n (lv' := [(2, .int v6), (0, .ref (h 0)), (1, .int x1), (3, .int x3)]) hx hb dX8_wetMany_31 rfl hl (by decide) rfl (fun ls hl => ?_)
        obtain ⟨v7, ev7⟩ : ∃ y : Int32, y = x3 + 1 := ⟨_, rfl⟩
        replace hs := sp_let hs ev7
        refine lv_iinc (v := v7) (lv' := [(3, .int v7), (2, .int v6), (0, .ref (h 0)), (1, .int x1)]) hx hb dX8_wetMany_32 hl (k := 3) rfl (by rw [ev7]; rfl) (by decide) rfl (fun ls hl => ?_)
        refine lv_goto (tgt := 4) hx hb dX8_wetMany_35 (by decide) ?_
        exact ih x1 v6 v7 σ H locs ls (lv_sub hl [2, 3, 1, 0] rfl) hW hs
set_option maxRecDepth 100000 in
set_option maxHeartbeats 4000000 in
theorem k_X8_wetMany {l : Launch} {D : va_G} {T : Nat → ClassId} {h : Nat → Nat} {θ : sv_T} {a1 : Int32} {σ : sv_S} {r : Int32} {σ' : sv_S} (hB : sm_base θ)  (hs : q_X8_wetMany θ a1 σ = some (r, σ')) : sv_Mi sm_X l D T (sm_tys T) h θ yX8_wetMany wsX8_wetMany (sv_rm 0 0) [.ref (h 0), .int a1] σ r σ' := by
  intro sz
  refine sv_enter (cc := cX8_wetMany) (maxL := 4) (ret := (some .int)) (Qc := fun A => va_Qi (fun r2 (_ : Unit) => r2 = r) (fun _ t => va_P D vwCl (sv_ws T h θ σ') t.heap) A) sm_XP (by decide) rfl (Nat.le_of_ble_eq_true rfl) ?_
  intro p e s m args below meth c A F hr hlk ls H hl hW
  have hx := F.1.1
  have hb := F.1.2.1
  have hts := F.1.2.2.2.2
  have hown := F.1.2.2.2.1
  have hK := F.2.1
  obtain ⟨locs, hlocs⟩ : ∃ z : List Loc, z = [] := ⟨_, rfl⟩
  rw [← hlocs] at hW ⊢
  have hl : lv_has ls 4 [(0, .ref (h 0)), (1, .int a1)] := hl
  unfold q_X8_wetMany at hs
  refine lv_iconst (v := 0) hx hb dX8_wetMany_0 (by decide) ?_
  refine lv_istore_n (lv' := [(2, .int (0 : Int32)), (0, .ref (h 0)), (1, .int a1)]) hx hb dX8_wetMany_1 rfl hl (by decide) rfl (fun ls hl => ?_)
  refine lv_iconst (v := 0) hx hb dX8_wetMany_2 (by decide) ?_
  refine lv_istore_n (lv' := [(3, .int (0 : Int32)), (2, .int (0 : Int32)), (0, .ref (h 0)), (1, .int a1)]) hx hb dX8_wetMany_3 rfl hl (by decide) rfl (fun ls hl => ?_)
  exact b_X8_wetMany_4 hB F hr hlk sv_N a1 (0 : Int32) (0 : Int32) σ H locs ls (lv_sub hl [2, 3, 1, 0] rfl) hW hs
set_option maxRecDepth 100000 in
set_option maxHeartbeats 4000000 in
theorem b_X8_sky_121 {p : Program} {l : Launch} {e : Env} {s : State} {m : MethodId} {args : Array Value} {below : List Frame} {meth : Method} {c : Code} {D : va_G} {T : Nat → ClassId} {A : Nat → Prop} {h : Nat → Nat} {θ : sv_T} {a1 : Int32} {a2 : Int32} {r : Int32} {σ' : sv_S} (hB : sm_base θ)  (F : sv_F sm_X p m c cX8_sky 9 s args wsX8_sky RX8 D (sm_tys T) A) (hr : meth.sig.returnType = (some .int)) (hlk : meth.locks = false) (k42 : Int32 → Int32 → Int32 → Int32 → Int32 → Int32 → Int32 → Int32 → sv_S → Option (Int32 × sv_S)) (hk42 : ∀ (x1 : Int32) (x2 : Int32) (x3 : Int32) (x4 : Int32) (x5 : Int32) (x6 : Int32) (x7 : Int32) (x8 : Int32) (σ : sv_S) (H : Heap) (locs : List Loc) (ls : Array Slot), lv_has ls 9 [(0, .ref (h 0)), (1, .int x1), (2, .int x2), (3, .int x3), (4, .int x4), (5, .int x5), (6, .int x6), (7, .int x7), (8, .int x8)] → sv_W D T A s h θ σ H locs → k42 x1 x2 x3 x4 x5 x6 x7 x8 σ = some (r, σ') → W p l e (sv_rm 1 25) s m args below meth c H locs 0 0 (MQ below (va_Qi (fun r2 (_ : Unit) => r2 = r) (fun _ t => va_P D vwCl (sv_ws T h θ σ') t.heap) A) args s 0 0 A) (F0 m 42 ls [])) : ∀ (x1 : Int32) (x2 : Int32) (x3 : Int32) (x4 : Int32) (x6 : Int32) (x7 : Int32) (x8 : Int32) (w0 : Int32) (σ : sv_S) (H : Heap) (locs : List Loc) (ls : Array Slot), lv_has ls 9 [(0, .ref (h 0)), (1, .int x1), (2, .int x2), (3, .int x3), (4, .int x4), (6, .int x6), (7, .int x7), (8, .int x8)] → sv_W D T A s h θ σ H locs → q_X8_sky_B121 θ a1 a2 k42 x1 x2 x3 x4 x6 x7 x8 w0 σ = some (r, σ') → W p l e (sv_rm 1 25) s m args below meth c H locs 0 0 (MQ below (va_Qi (fun r2 (_ : Unit) => r2 = r) (fun _ t => va_P D vwCl (sv_ws T h θ σ') t.heap) A) args s 0 0 A) (F0 m 121 ls [.int w0]) := by
  have hx := F.1.1
  have hb := F.1.2.1
  have hts := F.1.2.2.2.2
  have hown := F.1.2.2.2.1
  have hK := F.2.1
  intro x1 x2 x3 x4 x6 x7 x8 w0 σ H locs ls hl hW hs
  unfold q_X8_sky_B121 at hs
  refine lv_istore (lv' := [(5, .int w0), (0, .ref (h 0)), (1, .int x1), (2, .int x2), (3, .int x3), (4, .int x4), (6, .int x6), (7, .int x7), (8, .int x8)]) hx hb dX8_sky_121 hl (by decide) rfl (fun ls hl => ?_)
  refine lv_iload hx hb dX8_sky_123 (lv_at hl 0 rfl) ?_
  refine lv_iload hx hb dX8_sky_125 (lv_at hl 6 rfl) ?_
  refine lv_icmp_le (tgt := 143) hx hb dX8_sky_127 (by decide) (fun c22 => ?_) (fun c22 => ?_)
  · replace hs := (sp_ite hs).1 c22
    obtain ⟨v23, ev23⟩ : ∃ y : Int32, y = x8 + 1 := ⟨_, rfl⟩
    replace hs := sp_let hs ev23
    refine lv_iinc (v := v23) (lv' := [(8, .int v23), (5, .int w0), (0, .ref (h 0)), (1, .int x1), (2, .int x2), (3, .int x3), (4, .int x4), (6, .int x6), (7, .int x7)]) hx hb dX8_sky_143 hl (k := 8) rfl (by rw [ev23]; rfl) (by decide) rfl (fun ls hl => ?_)
    refine lv_goto (tgt := 42) hx hb dX8_sky_146 (by decide) ?_
    exact hk42 x1 x2 x3 x4 w0 x6 x7 v23 σ H locs ls (lv_sub hl [2, 3, 4, 5, 6, 1, 7, 8, 0] rfl) hW hs
  · replace hs := (sp_ite hs).2 c22
    refine lv_iload hx hb dX8_sky_130 (lv_at hl 0 rfl) ?_
    refine lv_istore (lv' := [(6, .int w0), (5, .int w0), (0, .ref (h 0)), (1, .int x1), (2, .int x2), (3, .int x3), (4, .int x4), (7, .int x7), (8, .int x8)]) hx hb dX8_sky_132 hl (by decide) rfl (fun ls hl => ?_)
    refine lv_iload hx hb dX8_sky_134 (lv_at hl 8 rfl) ?_
    refine lv_iload hx hb dX8_sky_136 (lv_at hl 1 rfl) ?_
    refine lv_isub hx hb dX8_sky_138 ?_
    refine lv_iconst (v := 1) hx hb dX8_sky_139 (by decide) ?_
    refine lv_iadd hx hb dX8_sky_140 ?_
    refine lv_topi (fun v24 ev24 => ?_)
    replace hs := sp_let hs ev24
    refine lv_istore (lv' := [(7, .int v24), (6, .int w0), (5, .int w0), (0, .ref (h 0)), (1, .int x1), (2, .int x2), (3, .int x3), (4, .int x4), (8, .int x8)]) hx hb dX8_sky_141 hl (by decide) rfl (fun ls hl => ?_)
    obtain ⟨v25, ev25⟩ : ∃ y : Int32, y = x8 + 1 := ⟨_, rfl⟩
    replace hs := sp_let hs ev25
    refine lv_iinc (v := v25) (lv' := [(8, .int v25), (7, .int v24), (6, .int w0), (5, .int w0), (0, .ref (h 0)), (1, .int x1), (2, .int x2), (3, .int x3), (4, .int x4)]) hx hb dX8_sky_143 hl (k := 8) rfl (by rw [ev25]; rfl) (by decide) rfl (fun ls hl => ?_)
    refine lv_goto (tgt := 42) hx hb dX8_sky_146 (by decide) ?_
    exact hk42 x1 x2 x3 x4 w0 w0 v24 v25 σ H locs ls (lv_sub hl [4, 5, 6, 7, 8, 3, 2, 1, 0] rfl) hW hs
set_option maxRecDepth 100000 in
set_option maxHeartbeats 4000000 in
theorem b_X8_sky_92 {p : Program} {l : Launch} {e : Env} {s : State} {m : MethodId} {args : Array Value} {below : List Frame} {meth : Method} {c : Code} {D : va_G} {T : Nat → ClassId} {A : Nat → Prop} {h : Nat → Nat} {θ : sv_T} {a1 : Int32} {a2 : Int32} {r : Int32} {σ' : sv_S} (hB : sm_base θ)  (F : sv_F sm_X p m c cX8_sky 9 s args wsX8_sky RX8 D (sm_tys T) A) (hr : meth.sig.returnType = (some .int)) (hlk : meth.locks = false) (k42 : Int32 → Int32 → Int32 → Int32 → Int32 → Int32 → Int32 → Int32 → sv_S → Option (Int32 × sv_S)) (hk42 : ∀ (x1 : Int32) (x2 : Int32) (x3 : Int32) (x4 : Int32) (x5 : Int32) (x6 : Int32) (x7 : Int32) (x8 : Int32) (σ : sv_S) (H : Heap) (locs : List Loc) (ls : Array Slot), lv_has ls 9 [(0, .ref (h 0)), (1, .int x1), (2, .int x2), (3, .int x3), (4, .int x4), (5, .int x5), (6, .int x6), (7, .int x7), (8, .int x8)] → sv_W D T A s h θ σ H locs → k42 x1 x2 x3 x4 x5 x6 x7 x8 σ = some (r, σ') → W p l e (sv_rm 1 25) s m args below meth c H locs 0 0 (MQ below (va_Qi (fun r2 (_ : Unit) => r2 = r) (fun _ t => va_P D vwCl (sv_ws T h θ σ') t.heap) A) args s 0 0 A) (F0 m 42 ls [])) : ∀ (x1 : Int32) (x2 : Int32) (x3 : Int32) (x5 : Int32) (x6 : Int32) (x7 : Int32) (x8 : Int32) (w0 : Int32) (w1 : Int32) (σ : sv_S) (H : Heap) (locs : List Loc) (ls : Array Slot), lv_has ls 9 [(0, .ref (h 0)), (1, .int x1), (2, .int x2), (3, .int x3), (5, .int x5), (6, .int x6), (7, .int x7), (8, .int x8)] → sv_W D T A s h θ σ H locs → q_X8_sky_B92 θ a1 a2 k42 x1 x2 x3 x5 x6 x7 x8 w0 w1 σ = some (r, σ') → W p l e (sv_rm 1 25) s m args below meth c H locs 0 0 (MQ below (va_Qi (fun r2 (_ : Unit) => r2 = r) (fun _ t => va_P D vwCl (sv_ws T h θ σ') t.heap) A) args s 0 0 A) (F0 m 92 ls [.int w0, .int w1]) := by
  have hx := F.1.1
  have hb := F.1.2.1
  have hts := F.1.2.2.2.2
  have hown := F.1.2.2.2.1
  have hK := F.2.1
  intro x1 x2 x3 x5 x6 x7 x8 w0 w1 σ H locs ls hl hW hs
  unfold q_X8_sky_B92 at hs
  refine lv_iload hx hb dX8_sky_92 (lv_at hl 7 rfl) ?_
  refine lv_ishl hx hb dX8_sky_94 ?_
  refine lv_ior hx hb dX8_sky_95 ?_
  refine lv_topi (fun v19 ev19 => ?_)
  replace hs := sp_let hs ev19
  refine lv_istore (lv' := [(4, .int v19), (0, .ref (h 0)), (1, .int x1), (2, .int x2), (3, .int x3), (5, .int x5), (6, .int x6), (7, .int x7), (8, .int x8)]) hx hb dX8_sky_96 hl (by decide) rfl (fun ls hl => ?_)
  refine lv_aload_n hx hb dX8_sky_98 rfl (lv_at hl 1 rfl) ?_
  refine sv_get (own := RX8) (C := RX8) (Tf := TX8) (N := 44) (index := 23) (κ := (3, 4)) (v := .ref (h 4)) hx hb hts hown hK hW (fun _ h => List.mem_cons_of_mem _ (List.mem_append_right _ h)) (sm_i 0 hB (by decide)) (sm_c0 hB) rfl 8 (by decide) rfl rfl (List.mem_of_getElem? (i := 2) rfl) dX8_sky_99 ?_
  refine lv_bipush (v := 24) hx hb dX8_sky_102 (by decide) ?_
  refine lv_iload_n hx hb dX8_sky_104 rfl (lv_at hl 2 rfl) ?_
  refine lv_imul hx hb dX8_sky_105 ?_
  refine lv_iload hx hb dX8_sky_106 (lv_at hl 8 rfl) ?_
  refine lv_iadd hx hb dX8_sky_108 ?_
  obtain ⟨hi20, hs⟩ := sp_g hs
  refine sv_iald hx hb hK hW (sm_i 4 hB (by decide)) (sm_c4 hB) 0 rfl hi20 dX8_sky_109 ?_
  refine lv_if_le (tgt := 120) hx hb dX8_sky_110 (by decide) (fun c21 => ?_) (fun c21 => ?_)
  · replace hs := (sp_ite hs).1 c21
    refine lv_iconst (v := 0) hx hb dX8_sky_120 (by decide) ?_
    exact b_X8_sky_121 hB F hr hlk _ hk42 x1 x2 x3 v19 x6 x7 x8 (0 : Int32) σ H locs ls (lv_sub hl [1, 2, 3, 4, 0, 6, 7, 8] rfl) hW hs
  · replace hs := (sp_ite hs).2 c21
    refine lv_iload hx hb dX8_sky_113 (lv_at hl 5 rfl) ?_
    refine lv_iconst (v := 1) hx hb dX8_sky_115 (by decide) ?_
    refine lv_iadd hx hb dX8_sky_116 ?_
    refine lv_goto (tgt := 121) hx hb dX8_sky_117 (by decide) ?_
    exact b_X8_sky_121 hB F hr hlk _ hk42 x1 x2 x3 v19 x6 x7 x8 (x5 + (1 : Int32)) σ H locs ls (lv_sub hl [1, 2, 3, 4, 0, 6, 7, 8] rfl) hW hs
set_option maxRecDepth 100000 in
set_option maxHeartbeats 4000000 in
theorem b_X8_sky_42 {p : Program} {l : Launch} {e : Env} {s : State} {m : MethodId} {args : Array Value} {below : List Frame} {meth : Method} {c : Code} {D : va_G} {T : Nat → ClassId} {A : Nat → Prop} {h : Nat → Nat} {θ : sv_T} {a1 : Int32} {a2 : Int32} {r : Int32} {σ' : sv_S} (hB : sm_base θ)  (F : sv_F sm_X p m c cX8_sky 9 s args wsX8_sky RX8 D (sm_tys T) A) (hr : meth.sig.returnType = (some .int)) (hlk : meth.locks = false)  : ∀ (n : Nat), ∀ (x1 : Int32) (x2 : Int32) (x3 : Int32) (x4 : Int32) (x5 : Int32) (x6 : Int32) (x7 : Int32) (x8 : Int32) (σ : sv_S) (H : Heap) (locs : List Loc) (ls : Array Slot), lv_has ls 9 [(0, .ref (h 0)), (1, .int x1), (2, .int x2), (3, .int x3), (4, .int x4), (5, .int x5), (6, .int x6), (7, .int x7), (8, .int x8)] → sv_W D T A s h θ σ H locs → q_X8_sky_B42 θ a1 a2 n x1 x2 x3 x4 x5 x6 x7 x8 σ = some (r, σ') → W p l e (sv_rm 1 25) s m args below meth c H locs 0 0 (MQ below (va_Qi (fun r2 (_ : Unit) => r2 = r) (fun _ t => va_P D vwCl (sv_ws T h θ σ') t.heap) A) args s 0 0 A) (F0 m 42 ls []) := by
  have hx := F.1.1
  have hb := F.1.2.1
  have hts := F.1.2.2.2.2
  have hown := F.1.2.2.2.1
  have hK := F.2.1
  intro n
  induction n with
  | zero =>
    intro x1 x2 x3 x4 x5 x6 x7 x8 σ H locs ls hl hW hs
    have hs : (none : Option (Int32 × sv_S)) = some (r, σ') := hs
    cases hs
  | succ n ih =>
    intro x1 x2 x3 x4 x5 x6 x7 x8 σ H locs ls hl hW hs
    have hs : q_X8_sky_B42_b θ a1 a2 (q_X8_sky_B42 θ a1 a2 n) x1 x2 x3 x4 x5 x6 x7 x8 σ = some (r, σ') := hs
    unfold q_X8_sky_B42_b at hs
    refine lv_iload hx hb dX8_sky_42 (lv_at hl 8 rfl) ?_
    refine lv_bipush (v := 24) hx hb dX8_sky_44 (by decide) ?_
    refine lv_icmp_ge (tgt := 149) hx hb dX8_sky_46 (by decide) (fun c7 => ?_) (fun c7 => ?_)
    · replace hs := (sp_ite hs).1 c7
      refine lv_iload_n hx hb dX8_sky_149 rfl (lv_at hl 2 rfl) ?_
      refine lv_if_ne (tgt := 158) hx hb dX8_sky_150 (by decide) (fun c8 => ?_) (fun c8 => ?_)
      · replace hs := (sp_ite hs).2 c8
        refine lv_iload_n hx hb dX8_sky_158 rfl (lv_at hl 2 rfl) ?_
        refine lv_iconst (v := 1) hx hb dX8_sky_159 (by decide) ?_
        refine lv_icmp_ne (tgt := 168) hx hb dX8_sky_160 (by decide) (fun c9 => ?_) (fun c9 => ?_)
        · replace hs := (sp_ite hs).2 c9
          refine lv_iload_n hx hb dX8_sky_168 rfl (lv_at hl 2 rfl) ?_
          refine lv_iconst (v := 2) hx hb dX8_sky_169 (by decide) ?_
          refine lv_icmp_ne (tgt := 181) hx hb dX8_sky_170 (by decide) (fun c10 => ?_) (fun c10 => ?_)
          · replace hs := (sp_ite hs).2 c10
            refine lv_iload_n hx hb dX8_sky_181 rfl (lv_at hl 2 rfl) ?_
            refine lv_iconst (v := 3) hx hb dX8_sky_182 (by decide) ?_
            refine lv_icmp_ne (tgt := 190) hx hb dX8_sky_183 (by decide) (fun c11 => ?_) (fun c11 => ?_)
            · replace hs := (sp_ite hs).2 c11
              refine lv_iload hx hb dX8_sky_190 (lv_at hl 4 rfl) ?_
              cases hs
              exact sv_iret hx hb hr rfl hlk hW dX8_sky_192
            · replace hs := (sp_ite hs).1 c11
              refine lv_iload_n hx hb dX8_sky_186 rfl (lv_at hl 3 rfl) ?_
              refine lv_goto (tgt := 192) hx hb dX8_sky_187 (by decide) ?_
              cases hs
              exact sv_iret hx hb hr rfl hlk hW dX8_sky_192
          · replace hs := (sp_ite hs).1 c10
            refine lv_aload_n hx hb dX8_sky_173 rfl (lv_at hl 0 rfl) ?_
            refine lv_iload_n hx hb dX8_sky_174 rfl (lv_at hl 1 rfl) ?_
            obtain ⟨r12, σ13, eσ13, hs⟩ := sp_bind hs
            refine sv_goI (σ' := σ13) (r := r12) hW F.2.2.2.1 (sv_runV (C := RX8) F hW (k_X8_wetMany hB eσ13 H.size) gX8_sky_X8_wetMany rfl ⟨rfl, rfl⟩ 1 (by decide +kernel) (sv_room2 (by omega) (by omega)) (sm_i 0 hB (by decide)) (sm_c0 hB) rfl rfl hl.1 rfl (Nat.le_of_ble_eq_true rfl) dX8_sky_175 ⟨Nat.zero_le _, Nat.zero_le _⟩) (fun H locs hW => ?_)
            refine lv_goto (tgt := 192) hx hb dX8_sky_178 (by decide) ?_
            cases hs
            exact sv_iret hx hb hr rfl hlk hW dX8_sky_192
        · replace hs := (sp_ite hs).1 c9
          refine lv_iload hx hb dX8_sky_163 (lv_at hl 7 rfl) ?_
          refine lv_goto (tgt := 192) hx hb dX8_sky_165 (by decide) ?_
          cases hs
          exact sv_iret hx hb hr rfl hlk hW dX8_sky_192
      · replace hs := (sp_ite hs).1 c8
        refine lv_iload hx hb dX8_sky_153 (lv_at hl 6 rfl) ?_
        refine lv_goto (tgt := 192) hx hb dX8_sky_155 (by decide) ?_
        cases hs
        exact sv_iret hx hb hr rfl hlk hW dX8_sky_192
    · replace hs := (sp_ite hs).2 c7
      refine lv_iload_n hx hb dX8_sky_49 rfl (lv_at hl 3 rfl) ?_
      refine lv_aload_n hx hb dX8_sky_50 rfl (lv_at hl 0 rfl) ?_
      refine sv_get (own := RX8) (C := RX8) (Tf := TX8) (N := 44) (index := 23) (κ := (3, 4)) (v := .ref (h 4)) hx hb hts hown hK hW (fun _ h => List.mem_cons_of_mem _ (List.mem_append_right _ h)) (sm_i 0 hB (by decide)) (sm_c0 hB) rfl 8 (by decide) rfl rfl (List.mem_of_getElem? (i := 2) rfl) dX8_sky_51 ?_
      refine lv_bipush (v := 24) hx hb dX8_sky_54 (by decide) ?_
      refine lv_iload_n hx hb dX8_sky_56 rfl (lv_at hl 1 rfl) ?_
      refine lv_imul hx hb dX8_sky_57 ?_
      refine lv_iload hx hb dX8_sky_58 (lv_at hl 8 rfl) ?_
      refine lv_iadd hx hb dX8_sky_60 ?_
      obtain ⟨hi14, hs⟩ := sp_g hs
      refine sv_iald hx hb hK hW (sm_i 4 hB (by decide)) (sm_c4 hB) 0 rfl hi14 dX8_sky_61 ?_
      refine lv_iadd hx hb dX8_sky_62 ?_
      refine lv_topi (fun v15 ev15 => ?_)
      replace hs := sp_let hs ev15
      refine lv_istore_n (lv' := [(3, .int v15), (0, .ref (h 0)), (1, .int x1), (2, .int x2), (4, .int x4), (5, .int x5), (6, .int x6), (7, .int x7), (8, .int x8)]) hx hb dX8_sky_63 rfl hl (by decide) rfl (fun ls hl => ?_)
      refine lv_iload hx hb dX8_sky_64 (lv_at hl 4 rfl) ?_
      refine lv_aload_n hx hb dX8_sky_66 rfl (lv_at hl 1 rfl) ?_
      refine sv_get (own := RX8) (C := RX8) (Tf := TX8) (N := 44) (index := 23) (κ := (3, 4)) (v := .ref (h 4)) hx hb hts hown hK hW (fun _ h => List.mem_cons_of_mem _ (List.mem_append_right _ h)) (sm_i 0 hB (by decide)) (sm_c0 hB) rfl 8 (by decide) rfl rfl (List.mem_of_getElem? (i := 2) rfl) dX8_sky_67 ?_
      refine lv_iload hx hb dX8_sky_70 (lv_at hl 8 rfl) ?_
      obtain ⟨hi16, hs⟩ := sp_g hs
      refine sv_iald hx hb hK hW (sm_i 4 hB (by decide)) (sm_c4 hB) 0 rfl hi16 dX8_sky_72 ?_
      refine lv_aload_n hx hb dX8_sky_73 rfl (lv_at hl 1 rfl) ?_
      refine sv_get (own := RX8) (C := RX8) (Tf := TX8) (N := 44) (index := 23) (κ := (3, 4)) (v := .ref (h 4)) hx hb hts hown hK hW (fun _ h => List.mem_cons_of_mem _ (List.mem_append_right _ h)) (sm_i 0 hB (by decide)) (sm_c0 hB) rfl 8 (by decide) rfl rfl (List.mem_of_getElem? (i := 2) rfl) dX8_sky_74 ?_
      refine lv_bipush (v := 24) hx hb dX8_sky_77 (by decide) ?_
      refine lv_iload hx hb dX8_sky_79 (lv_at hl 8 rfl) ?_
      refine lv_iadd hx hb dX8_sky_81 ?_
      obtain ⟨hi17, hs⟩ := sp_g hs
      refine sv_iald hx hb hK hW (sm_i 4 hB (by decide)) (sm_c4 hB) 0 rfl hi17 dX8_sky_82 ?_
      refine lv_iadd hx hb dX8_sky_83 ?_
      refine lv_if_ne (tgt := 91) hx hb dX8_sky_84 (by decide) (fun c18 => ?_) (fun c18 => ?_)
      · replace hs := (sp_ite hs).2 c18
        refine lv_iconst (v := 0) hx hb dX8_sky_91 (by decide) ?_
        exact b_X8_sky_92 hB F hr hlk _ ih x1 x2 v15 x5 x6 x7 x8 (0 : Int32) x4 σ H locs ls (lv_sub hl [1, 2, 3, 0, 5, 6, 7, 8] rfl) hW hs
      · replace hs := (sp_ite hs).1 c18
        refine lv_iconst (v := 1) hx hb dX8_sky_87 (by decide) ?_
        refine lv_goto (tgt := 92) hx hb dX8_sky_88 (by decide) ?_
        exact b_X8_sky_92 hB F hr hlk _ ih x1 x2 v15 x5 x6 x7 x8 (1 : Int32) x4 σ H locs ls (lv_sub hl [1, 2, 3, 0, 5, 6, 7, 8] rfl) hW hs
set_option maxRecDepth 100000 in
set_option maxHeartbeats 4000000 in
theorem k_X8_sky {l : Launch} {D : va_G} {T : Nat → ClassId} {h : Nat → Nat} {θ : sv_T} {a1 : Int32} {a2 : Int32} {σ : sv_S} {r : Int32} {σ' : sv_S} (hB : sm_base θ)  (hs : q_X8_sky θ a1 a2 σ = some (r, σ')) : sv_Mi sm_X l D T (sm_tys T) h θ yX8_sky wsX8_sky (sv_rm 1 25) [.ref (h 0), .int a1, .int a2] σ r σ' := by
  intro sz
  refine sv_enter (cc := cX8_sky) (maxL := 9) (ret := (some .int)) (Qc := fun A => va_Qi (fun r2 (_ : Unit) => r2 = r) (fun _ t => va_P D vwCl (sv_ws T h θ σ') t.heap) A) sm_XP (by decide) rfl (Nat.le_of_ble_eq_true rfl) ?_
  intro p e s m args below meth c A F hr hlk ls H hl hW
  have hx := F.1.1
  have hb := F.1.2.1
  have hts := F.1.2.2.2.2
  have hown := F.1.2.2.2.1
  have hK := F.2.1
  obtain ⟨locs, hlocs⟩ : ∃ z : List Loc, z = [] := ⟨_, rfl⟩
  rw [← hlocs] at hW ⊢
  have hl : lv_has ls 9 [(0, .ref (h 0)), (1, .int a1), (2, .int a2)] := hl
  unfold q_X8_sky at hs
  refine lv_iload_n hx hb dX8_sky_0 rfl (lv_at hl 1 rfl) ?_
  refine lv_i2l (v := a1.toInt64) hx hb dX8_sky_1 rfl ?_
  refine lv_lconst (v := 0) hx hb dX8_sky_2 (by decide) ?_
  refine lv_lconst (v := 1) hx hb dX8_sky_3 (by decide) ?_
  obtain ⟨r1, σ2, eσ2, hs⟩ := sp_bind hs
  refine sv_goI (σ' := σ2) (r := r1) hW F.2.2.2.1 (sv_runT F hW (k_X8_in hB eσ2 H.size) gX8_sky_X8_in rfl ⟨rfl, rfl⟩ 3 (by decide +kernel) (sv_room2 (by omega) (by omega)) rfl hl.1 rfl (Nat.le_of_ble_eq_true rfl) dX8_sky_4 ⟨Nat.zero_le _, Nat.zero_le _⟩) (fun H locs hW => ?_)
  refine lv_if_eq (tgt := 22) hx hb dX8_sky_7 (by decide) (fun c3 => ?_) (fun c3 => ?_)
  · replace hs := (sp_ite hs).1 c3
    refine lv_bipush (v := -2) hx hb dX8_sky_22 (by decide) ?_
    cases hs
    exact sv_iret hx hb hr rfl hlk hW dX8_sky_24
  · replace hs := (sp_ite hs).2 c3
    refine lv_iload_n hx hb dX8_sky_10 rfl (lv_at hl 2 rfl) ?_
    refine lv_i2l (v := a2.toInt64) hx hb dX8_sky_11 rfl ?_
    refine lv_lconst (v := 0) hx hb dX8_sky_12 (by decide) ?_
    refine lv_ldc2 (own := RX8) (index := 79) (v := 4) hx hb hown (hts _ (List.mem_of_getElem? (i := 1) rfl)) dX8_sky_13 ?_
    obtain ⟨r4, σ5, eσ5, hs⟩ := sp_bind hs
    refine sv_goI (σ' := σ5) (r := r4) hW F.2.2.2.1 (sv_runT F hW (k_X8_in hB eσ5 H.size) gX8_sky_X8_in rfl ⟨rfl, rfl⟩ 3 (by decide +kernel) (sv_room2 (by omega) (by omega)) rfl hl.1 rfl (Nat.le_of_ble_eq_true rfl) dX8_sky_16 ⟨Nat.zero_le _, Nat.zero_le _⟩) (fun H locs hW => ?_)
    refine lv_if_ne (tgt := 25) hx hb dX8_sky_19 (by decide) (fun c6 => ?_) (fun c6 => ?_)
    · replace hs := (sp_ite hs).2 c6
      refine lv_iconst (v := 0) hx hb dX8_sky_25 (by decide) ?_
      refine lv_istore_n (lv' := [(3, .int (0 : Int32)), (0, .ref (h 0)), (1, .int a1), (2, .int a2)]) hx hb dX8_sky_26 rfl hl (by decide) rfl (fun ls hl => ?_)
      refine lv_iconst (v := 0) hx hb dX8_sky_27 (by decide) ?_
      refine lv_istore (lv' := [(4, .int (0 : Int32)), (3, .int (0 : Int32)), (0, .ref (h 0)), (1, .int a1), (2, .int a2)]) hx hb dX8_sky_28 hl (by decide) rfl (fun ls hl => ?_)
      refine lv_iconst (v := 0) hx hb dX8_sky_30 (by decide) ?_
      refine lv_istore (lv' := [(5, .int (0 : Int32)), (4, .int (0 : Int32)), (3, .int (0 : Int32)), (0, .ref (h 0)), (1, .int a1), (2, .int a2)]) hx hb dX8_sky_31 hl (by decide) rfl (fun ls hl => ?_)
      refine lv_iconst (v := 0) hx hb dX8_sky_33 (by decide) ?_
      refine lv_istore (lv' := [(6, .int (0 : Int32)), (5, .int (0 : Int32)), (4, .int (0 : Int32)), (3, .int (0 : Int32)), (0, .ref (h 0)), (1, .int a1), (2, .int a2)]) hx hb dX8_sky_34 hl (by decide) rfl (fun ls hl => ?_)
      refine lv_iconst (v := -1) hx hb dX8_sky_36 (by decide) ?_
      refine lv_istore (lv' := [(7, .int (-1 : Int32)), (6, .int (0 : Int32)), (5, .int (0 : Int32)), (4, .int (0 : Int32)), (3, .int (0 : Int32)), (0, .ref (h 0)), (1, .int a1), (2, .int a2)]) hx hb dX8_sky_37 hl (by decide) rfl (fun ls hl => ?_)
      refine lv_iconst (v := 0) hx hb dX8_sky_39 (by decide) ?_
      refine lv_istore (lv' := [(8, .int (0 : Int32)), (7, .int (-1 : Int32)), (6, .int (0 : Int32)), (5, .int (0 : Int32)), (4, .int (0 : Int32)), (3, .int (0 : Int32)), (0, .ref (h 0)), (1, .int a1), (2, .int a2)]) hx hb dX8_sky_40 hl (by decide) rfl (fun ls hl => ?_)
      exact b_X8_sky_42 hB F hr hlk sv_N a1 a2 (0 : Int32) (0 : Int32) (0 : Int32) (0 : Int32) (-1 : Int32) (0 : Int32) σ5 H locs ls (lv_sub hl [6, 7, 8, 5, 4, 3, 2, 1, 0] rfl) hW hs
    · replace hs := (sp_ite hs).1 c6
      refine lv_bipush (v := -2) hx hb dX8_sky_22 (by decide) ?_
      cases hs
      exact sv_iret hx hb hr rfl hlk hW dX8_sky_24
set_option maxRecDepth 100000 in
set_option maxHeartbeats 4000000 in
theorem b_X8_firstOther_3 {p : Program} {l : Launch} {e : Env} {s : State} {m : MethodId} {args : Array Value} {below : List Frame} {meth : Method} {c : Code} {D : va_G} {T : Nat → ClassId} {A : Nat → Prop} {h : Nat → Nat} {θ : sv_T} {a1 : Int32} {a2 : Int32} {a3 : Int32} {r : Int32} {σ' : sv_S} (hB : sm_base θ)  (F : sv_F sm_X p m c cX8_firstOther 5 s args wsX8_firstOther RX8 D (sm_tys T) A) (hr : meth.sig.returnType = (some .int)) (hlk : meth.locks = false)  : ∀ (n : Nat), ∀ (x1 : Int32) (x2 : Int32) (x3 : Int32) (x4 : Int32) (σ : sv_S) (H : Heap) (locs : List Loc) (ls : Array Slot), lv_has ls 5 [(0, .ref (h 0)), (1, .int x1), (2, .int x2), (3, .int x3), (4, .int x4)] → sv_W D T A s h θ σ H locs → q_X8_firstOther_B3 θ a1 a2 a3 n x1 x2 x3 x4 σ = some (r, σ') → W p l e (sv_rm 65 2518) s m args below meth c H locs 0 0 (MQ below (va_Qi (fun r2 (_ : Unit) => r2 = r) (fun _ t => va_P D vwCl (sv_ws T h θ σ') t.heap) A) args s 0 0 A) (F0 m 3 ls []) := by
  have hx := F.1.1
  have hb := F.1.2.1
  have hts := F.1.2.2.2.2
  have hown := F.1.2.2.2.1
  have hK := F.2.1
  intro n
  induction n with
  | zero =>
    intro x1 x2 x3 x4 σ H locs ls hl hW hs
    have hs : (none : Option (Int32 × sv_S)) = some (r, σ') := hs
    cases hs
  | succ n ih =>
    intro x1 x2 x3 x4 σ H locs ls hl hW hs
    have hs : q_X8_firstOther_B3_b θ a1 a2 a3 (q_X8_firstOther_B3 θ a1 a2 a3 n) x1 x2 x3 x4 σ = some (r, σ') := hs
    unfold q_X8_firstOther_B3_b at hs
    refine lv_iload hx hb dX8_firstOther_3 (lv_at hl 4 rfl) ?_
    refine lv_aload_n hx hb dX8_firstOther_5 rfl (lv_at hl 0 rfl) ?_
    refine sv_get (own := RX8) (C := RX8) (Tf := TX8) (N := 44) (index := 51) (κ := (3, 12)) (v := .ref (h 12)) hx hb hts hown hK hW (fun _ h => List.mem_cons_of_mem _ (List.mem_append_right _ h)) (sm_i 0 hB (by decide)) (sm_c0 hB) rfl 42 (by decide) rfl rfl (List.mem_of_getElem? (i := 1) rfl) dX8_firstOther_6 ?_
    refine lv_iload_n hx hb dX8_firstOther_9 rfl (lv_at hl 1 rfl) ?_
    obtain ⟨hi1, hs⟩ := sp_g hs
    refine sv_iald hx hb hK hW (sm_i 12 hB (by decide)) (sm_c12 hB) 0 rfl hi1 dX8_firstOther_10 ?_
    refine lv_icmp_ge (tgt := 46) hx hb dX8_firstOther_11 (by decide) (fun c2 => ?_) (fun c2 => ?_)
    · replace hs := (sp_ite hs).1 c2
      refine lv_iconst (v := -1) hx hb dX8_firstOther_46 (by decide) ?_
      cases hs
      exact sv_iret hx hb hr rfl hlk hW dX8_firstOther_47
    · replace hs := (sp_ite hs).2 c2
      refine lv_aload_n hx hb dX8_firstOther_14 rfl (lv_at hl 0 rfl) ?_
      refine lv_iload_n hx hb dX8_firstOther_15 rfl (lv_at hl 2 rfl) ?_
      refine lv_iload hx hb dX8_firstOther_16 (lv_at hl 4 rfl) ?_
      refine lv_iload_n hx hb dX8_firstOther_18 rfl (lv_at hl 3 rfl) ?_
      obtain ⟨r3, σ4, eσ4, hs⟩ := sp_bind hs
      refine sv_goI (σ' := σ4) (r := r3) hW F.2.2.2.1 (sv_runV (C := RX8) F hW (k_X8_worthOf hB eσ4 H.size) gX8_firstOther_X8_worthOf rfl ⟨rfl, rfl⟩ 3 (by decide +kernel) (sv_room2 (by omega) (by omega)) (sm_i 0 hB (by decide)) (sm_c0 hB) rfl rfl hl.1 rfl (Nat.le_of_ble_eq_true rfl) dX8_firstOther_19 ⟨Nat.zero_le _, Nat.zero_le _⟩) (fun H locs hW => ?_)
      refine lv_aload_n hx hb dX8_firstOther_22 rfl (lv_at hl 0 rfl) ?_
      refine sv_get (own := RX8) (C := RX8) (Tf := TX8) (N := 44) (index := 54) (κ := (3, 13)) (v := .ref (h 13)) hx hb hts hown hK hW (fun _ h => List.mem_cons_of_mem _ (List.mem_append_right _ h)) (sm_i 0 hB (by decide)) (sm_c0 hB) rfl 43 (by decide) rfl rfl (List.mem_of_getElem? (i := 2) rfl) dX8_firstOther_23 ?_
      refine lv_bipush (v := 40) hx hb dX8_firstOther_26 (by decide) ?_
      refine lv_iload_n hx hb dX8_firstOther_28 rfl (lv_at hl 1 rfl) ?_
      refine lv_imul hx hb dX8_firstOther_29 ?_
      refine lv_iload hx hb dX8_firstOther_30 (lv_at hl 4 rfl) ?_
      refine lv_iadd hx hb dX8_firstOther_32 ?_
      obtain ⟨hi5, hs⟩ := sp_g hs
      refine sv_iald hx hb hK hW (sm_i 13 hB (by decide)) (sm_c13 hB) 0 rfl hi5 dX8_firstOther_33 ?_
      refine lv_icmp_eq (tgt := 40) hx hb dX8_firstOther_34 (by decide) (fun c6 => ?_) (fun c6 => ?_)
      · replace hs := (sp_ite hs).1 c6
        obtain ⟨v7, ev7⟩ : ∃ y : Int32, y = x4 + 1 := ⟨_, rfl⟩
        replace hs := sp_let hs ev7
        refine lv_iinc (v := v7) (lv' := [(4, .int v7), (0, .ref (h 0)), (1, .int x1), (2, .int x2), (3, .int x3)]) hx hb dX8_firstOther_40 hl (k := 4) rfl (by rw [ev7]; rfl) (by decide) rfl (fun ls hl => ?_)
        refine lv_goto (tgt := 3) hx hb dX8_firstOther_43 (by decide) ?_
        exact ih x1 x2 x3 v7 σ4 H locs ls (lv_sub hl [1, 2, 3, 4, 0] rfl) hW hs
      · replace hs := (sp_ite hs).2 c6
        refine lv_iload hx hb dX8_firstOther_37 (lv_at hl 4 rfl) ?_
        cases hs
        exact sv_iret hx hb hr rfl hlk hW dX8_firstOther_39
set_option maxRecDepth 100000 in
set_option maxHeartbeats 4000000 in
theorem k_X8_firstOther {l : Launch} {D : va_G} {T : Nat → ClassId} {h : Nat → Nat} {θ : sv_T} {a1 : Int32} {a2 : Int32} {a3 : Int32} {σ : sv_S} {r : Int32} {σ' : sv_S} (hB : sm_base θ)  (hs : q_X8_firstOther θ a1 a2 a3 σ = some (r, σ')) : sv_Mi sm_X l D T (sm_tys T) h θ yX8_firstOther wsX8_firstOther (sv_rm 65 2518) [.ref (h 0), .int a1, .int a2, .int a3] σ r σ' := by
  intro sz
  refine sv_enter (cc := cX8_firstOther) (maxL := 5) (ret := (some .int)) (Qc := fun A => va_Qi (fun r2 (_ : Unit) => r2 = r) (fun _ t => va_P D vwCl (sv_ws T h θ σ') t.heap) A) sm_XP (by decide) rfl (Nat.le_of_ble_eq_true rfl) ?_
  intro p e s m args below meth c A F hr hlk ls H hl hW
  have hx := F.1.1
  have hb := F.1.2.1
  have hts := F.1.2.2.2.2
  have hown := F.1.2.2.2.1
  have hK := F.2.1
  obtain ⟨locs, hlocs⟩ : ∃ z : List Loc, z = [] := ⟨_, rfl⟩
  rw [← hlocs] at hW ⊢
  have hl : lv_has ls 5 [(0, .ref (h 0)), (1, .int a1), (2, .int a2), (3, .int a3)] := hl
  unfold q_X8_firstOther at hs
  refine lv_iconst (v := 0) hx hb dX8_firstOther_0 (by decide) ?_
  refine lv_istore (lv' := [(4, .int (0 : Int32)), (0, .ref (h 0)), (1, .int a1), (2, .int a2), (3, .int a3)]) hx hb dX8_firstOther_1 hl (by decide) rfl (fun ls hl => ?_)
  exact b_X8_firstOther_3 hB F hr hlk sv_N a1 a2 a3 (0 : Int32) σ H locs ls (lv_sub hl [1, 2, 3, 4, 0] rfl) hW hs

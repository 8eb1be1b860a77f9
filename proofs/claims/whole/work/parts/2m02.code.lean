set_option maxRecDepth 100000 in
set_option maxHeartbeats 4000000 in
theorem b_X8_atom_71 {p : Program} {l : Launch} {e : Env} {s : State} {m : MethodId} {args : Array Value} {below : List Frame} {meth : Method} {c : Code} {D : va_G} {T : Nat → ClassId} {A : Nat → Prop} {h : Nat → Nat} {θ : sv_T}  {r : Int32} {σ' : sv_S} (hB : sm_base θ) (G : Nat → sv_T → sv_S → Option (Int32 × sv_S)) (fr lr : Nat) (hf : 20 ≤ fr) (hlr : 800 ≤ lr) (hG0 : ∀  (σ : sv_S) (r : Int32) (σ1 : sv_S), G 0 θ σ = some (r, σ1) → sv_Mi sm_X l D T (sm_tys T) h θ yX8_either wsX8_either (sv_rm fr lr) [.ref (h 0)] σ r σ1) (hG1 : ∀  (σ : sv_S) (r : Int32) (σ1 : sv_S), G 1 θ σ = some (r, σ1) → sv_Mi sm_X l D T (sm_tys T) h θ yX8_both wsX8_both (sv_rm fr lr) [.ref (h 0)] σ r σ1) (hG2 : ∀  (σ : sv_S) (r : Int32) (σ1 : sv_S), G 2 θ σ = some (r, σ1) → sv_Mi sm_X l D T (sm_tys T) h θ yX8_not wsX8_not (sv_rm fr lr) [.ref (h 0)] σ r σ1) (hG3 : ∀  (σ : sv_S) (r : Int32) (σ1 : sv_S), G 3 θ σ = some (r, σ1) → sv_Mi sm_X l D T (sm_tys T) h θ yX8_added wsX8_added (sv_rm fr lr) [.ref (h 0)] σ r σ1) (hG4 : ∀  (σ : sv_S) (r : Int32) (σ1 : sv_S), G 4 θ σ = some (r, σ1) → sv_Mi sm_X l D T (sm_tys T) h θ yX8_term wsX8_term (sv_rm fr lr) [.ref (h 0)] σ r σ1) (hG5 : ∀  (σ : sv_S) (r : Int32) (σ1 : sv_S), G 5 θ σ = some (r, σ1) → sv_Mi sm_X l D T (sm_tys T) h θ yX8_atom wsX8_atom (sv_rm fr lr) [.ref (h 0)] σ r σ1)  (F : sv_F sm_X p m c cX8_atom 2 s args wsX8_atom RX8 D (sm_tys T) A) (hr : meth.sig.returnType = (some .int)) (hlk : meth.locks = false)  : ∀ (x1 : Int32) (σ : sv_S) (H : Heap) (locs : List Loc) (ls : Array Slot), lv_has ls 2 [(0, .ref (h 0)), (1, .int x1)] → sv_W D T A s h θ σ H locs → q_X8_atom_B71 θ G  x1 σ = some (r, σ') → W p l e (sv_rm (fr + 1) (lr + 40)) s m args below meth c H locs 0 0 (MQ below (va_Qi (fun r2 (_ : Unit) => r2 = r) (fun _ t => va_P D vwCl (sv_ws T h θ σ') t.heap) A) args s 0 0 A) (F0 m 71 ls []) := by
  have hx := F.1.1
  have hb := F.1.2.1
  have hts := F.1.2.2.2.2
  have hown := F.1.2.2.2.1
  have hK := F.2.1
  intro x1 σ H locs ls hl hW hs
  unfold q_X8_atom_B71 at hs
  refine lv_aload_n hx hb dX8_atom_71 rfl (lv_at hl 0 rfl) ?_
  refine lv_dup hx hb dX8_atom_72 rfl ?_
  refine sv_get (own := RX8) (C := RX8) (Tf := TX8) (N := 44) (index := 157) (κ := (0, 0)) (v := .int (σ.1 0 24)) hx hb hts hown hK hW (fun _ h => List.mem_cons_of_mem _ (List.mem_append_right _ h)) (sm_i 0 hB (by decide)) (sm_c0 hB) rfl 24 (by decide) rfl rfl (List.mem_of_getElem? (i := 1) rfl) dX8_atom_73 ?_
  refine lv_iconst (v := 1) hx hb dX8_atom_76 (by decide) ?_
  refine lv_isub hx hb dX8_atom_77 ?_
  refine sv_putI (own := RX8) (C := RX8) (Tf := TX8) (N := 44) (index := 157) hx hb hts hown hK hW (fun _ h => List.mem_cons_of_mem _ (List.mem_append_right _ h)) tyX8 tyX8_ok nmX8 (sm_i 0 hB (by decide)) (sm_c0 hB) rfl 24 (by decide) rfl rfl (ty := .int) (by decide +kernel) rfl rfl (List.mem_of_getElem? (i := 1) rfl) dX8_atom_78 (fun σ31 H locs eσ31 hW => ?_)
  replace hs := sp_let hs eσ31
  refine lv_aload_n hx hb dX8_atom_81 rfl (lv_at hl 0 rfl) ?_
  refine sv_get (own := RX8) (C := RX8) (Tf := TX8) (N := 44) (index := 147) (κ := (0, 0)) (v := .int (σ31.1 0 25)) hx hb hts hown hK hW (fun _ h => List.mem_cons_of_mem _ (List.mem_append_right _ h)) (sm_i 0 hB (by decide)) (sm_c0 hB) rfl 25 (by decide) rfl rfl (List.mem_of_getElem? (i := 2) rfl) dX8_atom_82 ?_
  refine lv_if_ne (tgt := 161) hx hb dX8_atom_85 (by decide) (fun c32 => ?_) (fun c32 => ?_)
  · replace hs := (sp_ite hs).2 c32
    refine lv_iload_n hx hb dX8_atom_161 rfl (lv_at hl 1 rfl) ?_
    cases hs
    exact sv_iret hx hb hr rfl hlk hW dX8_atom_162
  · replace hs := (sp_ite hs).1 c32
    refine lv_aload_n hx hb dX8_atom_88 rfl (lv_at hl 0 rfl) ?_
    obtain ⟨r33, σ34, eσ34, hs⟩ := sp_bind hs
    refine sv_goV (σ' := σ34) (r := r33) hW F.2.2.2.1 (sv_runV (C := RX8) F hW (k_X8_next hB eσ34 H.size) gX8_atom_X8_next rfl ⟨rfl, rfl⟩ 0 (by decide +kernel) (sv_room2 (by omega) (by omega)) (sm_i 0 hB (by decide)) (sm_c0 hB) rfl rfl hl.1 rfl (Nat.le_of_ble_eq_true rfl) dX8_atom_89 ⟨Nat.zero_le _, Nat.zero_le _⟩) (fun H locs hW => ?_)
    refine lv_goto (tgt := 161) hx hb dX8_atom_92 (by decide) ?_
    refine lv_iload_n hx hb dX8_atom_161 rfl (lv_at hl 1 rfl) ?_
    cases hs
    exact sv_iret hx hb hr rfl hlk hW dX8_atom_162
set_option maxRecDepth 100000 in
set_option maxHeartbeats 4000000 in
theorem b_X8_atom_123 {p : Program} {l : Launch} {e : Env} {s : State} {m : MethodId} {args : Array Value} {below : List Frame} {meth : Method} {c : Code} {D : va_G} {T : Nat → ClassId} {A : Nat → Prop} {h : Nat → Nat} {θ : sv_T}  {r : Int32} {σ' : sv_S} (hB : sm_base θ) (G : Nat → sv_T → sv_S → Option (Int32 × sv_S)) (fr lr : Nat) (hf : 20 ≤ fr) (hlr : 800 ≤ lr) (hG0 : ∀  (σ : sv_S) (r : Int32) (σ1 : sv_S), G 0 θ σ = some (r, σ1) → sv_Mi sm_X l D T (sm_tys T) h θ yX8_either wsX8_either (sv_rm fr lr) [.ref (h 0)] σ r σ1) (hG1 : ∀  (σ : sv_S) (r : Int32) (σ1 : sv_S), G 1 θ σ = some (r, σ1) → sv_Mi sm_X l D T (sm_tys T) h θ yX8_both wsX8_both (sv_rm fr lr) [.ref (h 0)] σ r σ1) (hG2 : ∀  (σ : sv_S) (r : Int32) (σ1 : sv_S), G 2 θ σ = some (r, σ1) → sv_Mi sm_X l D T (sm_tys T) h θ yX8_not wsX8_not (sv_rm fr lr) [.ref (h 0)] σ r σ1) (hG3 : ∀  (σ : sv_S) (r : Int32) (σ1 : sv_S), G 3 θ σ = some (r, σ1) → sv_Mi sm_X l D T (sm_tys T) h θ yX8_added wsX8_added (sv_rm fr lr) [.ref (h 0)] σ r σ1) (hG4 : ∀  (σ : sv_S) (r : Int32) (σ1 : sv_S), G 4 θ σ = some (r, σ1) → sv_Mi sm_X l D T (sm_tys T) h θ yX8_term wsX8_term (sv_rm fr lr) [.ref (h 0)] σ r σ1) (hG5 : ∀  (σ : sv_S) (r : Int32) (σ1 : sv_S), G 5 θ σ = some (r, σ1) → sv_Mi sm_X l D T (sm_tys T) h θ yX8_atom wsX8_atom (sv_rm fr lr) [.ref (h 0)] σ r σ1)  (F : sv_F sm_X p m c cX8_atom 2 s args wsX8_atom RX8 D (sm_tys T) A) (hr : meth.sig.returnType = (some .int)) (hlk : meth.locks = false)  : ∀ (x1 : Int32) (σ : sv_S) (H : Heap) (locs : List Loc) (ls : Array Slot), lv_has ls 2 [(0, .ref (h 0)), (1, .int x1)] → sv_W D T A s h θ σ H locs → q_X8_atom_B123 θ G  x1 σ = some (r, σ') → W p l e (sv_rm (fr + 1) (lr + 40)) s m args below meth c H locs 0 0 (MQ below (va_Qi (fun r2 (_ : Unit) => r2 = r) (fun _ t => va_P D vwCl (sv_ws T h θ σ') t.heap) A) args s 0 0 A) (F0 m 123 ls []) := by
  have hx := F.1.1
  have hb := F.1.2.1
  have hts := F.1.2.2.2.2
  have hown := F.1.2.2.2.1
  have hK := F.2.1
  intro x1 σ H locs ls hl hW hs
  unfold q_X8_atom_B123 at hs
  refine lv_aload_n hx hb dX8_atom_123 rfl (lv_at hl 0 rfl) ?_
  refine sv_get (own := RX8) (C := RX8) (Tf := TX8) (N := 44) (index := 147) (κ := (0, 0)) (v := .int (σ.1 0 25)) hx hb hts hown hK hW (fun _ h => List.mem_cons_of_mem _ (List.mem_append_right _ h)) (sm_i 0 hB (by decide)) (sm_c0 hB) rfl 25 (by decide) rfl rfl (List.mem_of_getElem? (i := 2) rfl) dX8_atom_124 ?_
  refine lv_if_ne (tgt := 157) hx hb dX8_atom_127 (by decide) (fun c8 => ?_) (fun c8 => ?_)
  · replace hs := (sp_ite hs).2 c8
    refine lv_aload_n hx hb dX8_atom_157 rfl (lv_at hl 0 rfl) ?_
    obtain ⟨r9, σ10, eσ10, hs⟩ := sp_bind hs
    refine sv_goV (σ' := σ10) (r := r9) hW F.2.2.2.1 (sv_runV (C := RX8) F hW (k_X8_fail hB eσ10 H.size) gX8_atom_X8_fail rfl ⟨rfl, rfl⟩ 0 (by decide +kernel) (sv_room2 (by omega) (by omega)) (sm_i 0 hB (by decide)) (sm_c0 hB) rfl rfl hl.1 rfl (Nat.le_of_ble_eq_true rfl) dX8_atom_158 ⟨Nat.zero_le _, Nat.zero_le _⟩) (fun H locs hW => ?_)
    refine lv_iload_n hx hb dX8_atom_161 rfl (lv_at hl 1 rfl) ?_
    cases hs
    exact sv_iret hx hb hr rfl hlk hW dX8_atom_162
  · replace hs := (sp_ite hs).1 c8
    refine lv_aload_n hx hb dX8_atom_130 rfl (lv_at hl 0 rfl) ?_
    refine sv_get (own := RX8) (C := RX8) (Tf := TX8) (N := 44) (index := 130) (κ := (0, 0)) (v := .int (σ.1 0 21)) hx hb hts hown hK hW (fun _ h => List.mem_cons_of_mem _ (List.mem_append_right _ h)) (sm_i 0 hB (by decide)) (sm_c0 hB) rfl 21 (by decide) rfl rfl (List.mem_of_getElem? (i := 3) rfl) dX8_atom_131 ?_
    refine lv_iconst (v := 1) hx hb dX8_atom_134 (by decide) ?_
    refine lv_icmp_ne (tgt := 157) hx hb dX8_atom_135 (by decide) (fun c11 => ?_) (fun c11 => ?_)
    · replace hs := (sp_ite hs).2 c11
      refine lv_aload_n hx hb dX8_atom_157 rfl (lv_at hl 0 rfl) ?_
      obtain ⟨r12, σ13, eσ13, hs⟩ := sp_bind hs
      refine sv_goV (σ' := σ13) (r := r12) hW F.2.2.2.1 (sv_runV (C := RX8) F hW (k_X8_fail hB eσ13 H.size) gX8_atom_X8_fail rfl ⟨rfl, rfl⟩ 0 (by decide +kernel) (sv_room2 (by omega) (by omega)) (sm_i 0 hB (by decide)) (sm_c0 hB) rfl rfl hl.1 rfl (Nat.le_of_ble_eq_true rfl) dX8_atom_158 ⟨Nat.zero_le _, Nat.zero_le _⟩) (fun H locs hW => ?_)
      refine lv_iload_n hx hb dX8_atom_161 rfl (lv_at hl 1 rfl) ?_
      cases hs
      exact sv_iret hx hb hr rfl hlk hW dX8_atom_162
    · replace hs := (sp_ite hs).1 c11
      refine lv_aload_n hx hb dX8_atom_138 rfl (lv_at hl 0 rfl) ?_
      obtain ⟨r14, σ15, eσ15, hs⟩ := sp_bind hs
      refine sv_goI (σ' := σ15) (r := r14) hW F.2.2.2.1 (sv_runV (C := RX8) F hW (k_X8_name hB eσ15 H.size) gX8_atom_X8_name rfl ⟨rfl, rfl⟩ 0 (by decide +kernel) (sv_room2 (by omega) (by omega)) (sm_i 0 hB (by decide)) (sm_c0 hB) rfl rfl hl.1 rfl (Nat.le_of_ble_eq_true rfl) dX8_atom_139 ⟨Nat.zero_le _, Nat.zero_le _⟩) (fun H locs hW => ?_)
      refine lv_istore_n (lv' := [(1, .int r14), (0, .ref (h 0))]) hx hb dX8_atom_142 rfl hl (by decide) rfl (fun ls hl => ?_)
      refine lv_aload_n hx hb dX8_atom_143 rfl (lv_at hl 1 rfl) ?_
      refine sv_get (own := RX8) (C := RX8) (Tf := TX8) (N := 44) (index := 147) (κ := (0, 0)) (v := .int (σ15.1 0 25)) hx hb hts hown hK hW (fun _ h => List.mem_cons_of_mem _ (List.mem_append_right _ h)) (sm_i 0 hB (by decide)) (sm_c0 hB) rfl 25 (by decide) rfl rfl (List.mem_of_getElem? (i := 2) rfl) dX8_atom_144 ?_
      refine lv_if_ne (tgt := 161) hx hb dX8_atom_147 (by decide) (fun c16 => ?_) (fun c16 => ?_)
      · replace hs := (sp_ite hs).2 c16
        refine lv_iload_n hx hb dX8_atom_161 rfl (lv_at hl 0 rfl) ?_
        cases hs
        exact sv_iret hx hb hr rfl hlk hW dX8_atom_162
      · replace hs := (sp_ite hs).1 c16
        refine lv_aload_n hx hb dX8_atom_150 rfl (lv_at hl 1 rfl) ?_
        obtain ⟨r17, σ18, eσ18, hs⟩ := sp_bind hs
        refine sv_goV (σ' := σ18) (r := r17) hW F.2.2.2.1 (sv_runV (C := RX8) F hW (k_X8_next hB eσ18 H.size) gX8_atom_X8_next rfl ⟨rfl, rfl⟩ 0 (by decide +kernel) (sv_room2 (by omega) (by omega)) (sm_i 0 hB (by decide)) (sm_c0 hB) rfl rfl hl.1 rfl (Nat.le_of_ble_eq_true rfl) dX8_atom_151 ⟨Nat.zero_le _, Nat.zero_le _⟩) (fun H locs hW => ?_)
        refine lv_goto (tgt := 161) hx hb dX8_atom_154 (by decide) ?_
        refine lv_iload_n hx hb dX8_atom_161 rfl (lv_at hl 0 rfl) ?_
        cases hs
        exact sv_iret hx hb hr rfl hlk hW dX8_atom_162
set_option maxRecDepth 100000 in
set_option maxHeartbeats 4000000 in
theorem k_X8_atom_b {l : Launch} {D : va_G} {T : Nat → ClassId} {h : Nat → Nat} {θ : sv_T}  {σ : sv_S} {r : Int32} {σ' : sv_S} (hB : sm_base θ) (G : Nat → sv_T → sv_S → Option (Int32 × sv_S)) (fr lr : Nat) (hf : 20 ≤ fr) (hlr : 800 ≤ lr) (hG0 : ∀  (σ : sv_S) (r : Int32) (σ1 : sv_S), G 0 θ σ = some (r, σ1) → sv_Mi sm_X l D T (sm_tys T) h θ yX8_either wsX8_either (sv_rm fr lr) [.ref (h 0)] σ r σ1) (hG1 : ∀  (σ : sv_S) (r : Int32) (σ1 : sv_S), G 1 θ σ = some (r, σ1) → sv_Mi sm_X l D T (sm_tys T) h θ yX8_both wsX8_both (sv_rm fr lr) [.ref (h 0)] σ r σ1) (hG2 : ∀  (σ : sv_S) (r : Int32) (σ1 : sv_S), G 2 θ σ = some (r, σ1) → sv_Mi sm_X l D T (sm_tys T) h θ yX8_not wsX8_not (sv_rm fr lr) [.ref (h 0)] σ r σ1) (hG3 : ∀  (σ : sv_S) (r : Int32) (σ1 : sv_S), G 3 θ σ = some (r, σ1) → sv_Mi sm_X l D T (sm_tys T) h θ yX8_added wsX8_added (sv_rm fr lr) [.ref (h 0)] σ r σ1) (hG4 : ∀  (σ : sv_S) (r : Int32) (σ1 : sv_S), G 4 θ σ = some (r, σ1) → sv_Mi sm_X l D T (sm_tys T) h θ yX8_term wsX8_term (sv_rm fr lr) [.ref (h 0)] σ r σ1) (hG5 : ∀  (σ : sv_S) (r : Int32) (σ1 : sv_S), G 5 θ σ = some (r, σ1) → sv_Mi sm_X l D T (sm_tys T) h θ yX8_atom wsX8_atom (sv_rm fr lr) [.ref (h 0)] σ r σ1)  (hs : q_X8_atom_b θ G  σ = some (r, σ')) : sv_Mi sm_X l D T (sm_tys T) h θ yX8_atom wsX8_atom (sv_rm (fr + 1) (lr + 40)) [.ref (h 0)] σ r σ' := by
  intro sz
  refine sv_enter (cc := cX8_atom) (maxL := 2) (ret := (some .int)) (Qc := fun A => va_Qi (fun r2 (_ : Unit) => r2 = r) (fun _ t => va_P D vwCl (sv_ws T h θ σ') t.heap) A) sm_XP (by decide) rfl (Nat.le_of_ble_eq_true rfl) ?_
  intro p e s m args below meth c A F hr hlk ls H hl hW
  have hx := F.1.1
  have hb := F.1.2.1
  have hts := F.1.2.2.2.2
  have hown := F.1.2.2.2.1
  have hK := F.2.1
  obtain ⟨locs, hlocs⟩ : ∃ z : List Loc, z = [] := ⟨_, rfl⟩
  rw [← hlocs] at hW ⊢
  have hl : lv_has ls 2 [(0, .ref (h 0))] := hl
  unfold q_X8_atom_b at hs
  refine lv_iconst (v := 0) hx hb dX8_atom_0 (by decide) ?_
  refine lv_istore_n (lv' := [(1, .int (0 : Int32)), (0, .ref (h 0))]) hx hb dX8_atom_1 rfl hl (by decide) rfl (fun ls hl => ?_)
  refine lv_aload_n hx hb dX8_atom_2 rfl (lv_at hl 1 rfl) ?_
  refine lv_bipush (v := 45) hx hb dX8_atom_3 (by decide) ?_
  obtain ⟨r1, σ2, eσ2, hs⟩ := sp_bind hs
  refine sv_goI (σ' := σ2) (r := r1) hW F.2.2.2.1 (sv_runV (C := RX8) F hW (k_X8_isSign hB eσ2 H.size) gX8_atom_X8_isSign rfl ⟨rfl, rfl⟩ 1 (by decide +kernel) (sv_room2 (by omega) (by omega)) (sm_i 0 hB (by decide)) (sm_c0 hB) rfl rfl hl.1 rfl (Nat.le_of_ble_eq_true rfl) dX8_atom_5 ⟨Nat.zero_le _, Nat.zero_le _⟩) (fun H locs hW => ?_)
  refine lv_if_eq (tgt := 37) hx hb dX8_atom_8 (by decide) (fun c3 => ?_) (fun c3 => ?_)
  · replace hs := (sp_ite hs).1 c3
    refine lv_aload_n hx hb dX8_atom_37 rfl (lv_at hl 1 rfl) ?_
    refine lv_bipush (v := 40) hx hb dX8_atom_38 (by decide) ?_
    obtain ⟨r4, σ5, eσ5, hs⟩ := sp_bind hs
    refine sv_goI (σ' := σ5) (r := r4) hW F.2.2.2.1 (sv_runV (C := RX8) F hW (k_X8_isSign hB eσ5 H.size) gX8_atom_X8_isSign rfl ⟨rfl, rfl⟩ 1 (by decide +kernel) (sv_room2 (by omega) (by omega)) (sm_i 0 hB (by decide)) (sm_c0 hB) rfl rfl hl.1 rfl (Nat.le_of_ble_eq_true rfl) dX8_atom_40 ⟨Nat.zero_le _, Nat.zero_le _⟩) (fun H locs hW => ?_)
    refine lv_if_eq (tgt := 95) hx hb dX8_atom_43 (by decide) (fun c6 => ?_) (fun c6 => ?_)
    · replace hs := (sp_ite hs).1 c6
      refine lv_aload_n hx hb dX8_atom_95 rfl (lv_at hl 1 rfl) ?_
      refine sv_get (own := RX8) (C := RX8) (Tf := TX8) (N := 44) (index := 147) (κ := (0, 0)) (v := .int (σ5.1 0 25)) hx hb hts hown hK hW (fun _ h => List.mem_cons_of_mem _ (List.mem_append_right _ h)) (sm_i 0 hB (by decide)) (sm_c0 hB) rfl 25 (by decide) rfl rfl (List.mem_of_getElem? (i := 2) rfl) dX8_atom_96 ?_
      refine lv_if_ne (tgt := 123) hx hb dX8_atom_99 (by decide) (fun c7 => ?_) (fun c7 => ?_)
      · replace hs := (sp_ite hs).2 c7
        exact b_X8_atom_123 hB G fr lr hf hlr hG0 hG1 hG2 hG3 hG4 hG5 F hr hlk (0 : Int32) σ5 H locs ls (lv_sub hl [1, 0] rfl) hW hs
      · replace hs := (sp_ite hs).1 c7
        refine lv_aload_n hx hb dX8_atom_102 rfl (lv_at hl 1 rfl) ?_
        refine sv_get (own := RX8) (C := RX8) (Tf := TX8) (N := 44) (index := 130) (κ := (0, 0)) (v := .int (σ5.1 0 21)) hx hb hts hown hK hW (fun _ h => List.mem_cons_of_mem _ (List.mem_append_right _ h)) (sm_i 0 hB (by decide)) (sm_c0 hB) rfl 21 (by decide) rfl rfl (List.mem_of_getElem? (i := 3) rfl) dX8_atom_103 ?_
        refine lv_iconst (v := 2) hx hb dX8_atom_106 (by decide) ?_
        refine lv_icmp_ne (tgt := 123) hx hb dX8_atom_107 (by decide) (fun c19 => ?_) (fun c19 => ?_)
        · replace hs := (sp_ite hs).2 c19
          exact b_X8_atom_123 hB G fr lr hf hlr hG0 hG1 hG2 hG3 hG4 hG5 F hr hlk (0 : Int32) σ5 H locs ls (lv_sub hl [1, 0] rfl) hW hs
        · replace hs := (sp_ite hs).1 c19
          refine lv_aload_n hx hb dX8_atom_110 rfl (lv_at hl 1 rfl) ?_
          refine sv_get (own := RX8) (C := RX8) (Tf := TX8) (N := 44) (index := 141) (κ := (1, 0)) (v := .long (σ5.2.1 0 23)) hx hb hts hown hK hW (fun _ h => List.mem_cons_of_mem _ (List.mem_append_right _ h)) (sm_i 0 hB (by decide)) (sm_c0 hB) rfl 23 (by decide) rfl rfl (List.mem_of_getElem? (i := 4) rfl) dX8_atom_111 ?_
          refine lv_l2i (v := (σ5.2.1 0 23).toInt32) hx hb dX8_atom_114 rfl ?_
          refine lv_topi (fun v20 ev20 => ?_)
          replace hs := sp_let hs ev20
          refine lv_istore_n (lv' := [(1, .int v20), (0, .ref (h 0))]) hx hb dX8_atom_115 rfl hl (by decide) rfl (fun ls hl => ?_)
          refine lv_aload_n hx hb dX8_atom_116 rfl (lv_at hl 1 rfl) ?_
          obtain ⟨r21, σ22, eσ22, hs⟩ := sp_bind hs
          refine sv_goV (σ' := σ22) (r := r21) hW F.2.2.2.1 (sv_runV (C := RX8) F hW (k_X8_next hB eσ22 H.size) gX8_atom_X8_next rfl ⟨rfl, rfl⟩ 0 (by decide +kernel) (sv_room2 (by omega) (by omega)) (sm_i 0 hB (by decide)) (sm_c0 hB) rfl rfl hl.1 rfl (Nat.le_of_ble_eq_true rfl) dX8_atom_117 ⟨Nat.zero_le _, Nat.zero_le _⟩) (fun H locs hW => ?_)
          refine lv_goto (tgt := 161) hx hb dX8_atom_120 (by decide) ?_
          refine lv_iload_n hx hb dX8_atom_161 rfl (lv_at hl 0 rfl) ?_
          cases hs
          exact sv_iret hx hb hr rfl hlk hW dX8_atom_162
    · replace hs := (sp_ite hs).2 c6
      refine lv_aload_n hx hb dX8_atom_46 rfl (lv_at hl 1 rfl) ?_
      obtain ⟨r23, σ24, eσ24, hs⟩ := sp_bind hs
      refine sv_goI (σ' := σ24) (r := r23) hW F.2.2.2.1 (sv_runV (C := RX8) F hW (k_X8_opens hB eσ24 H.size) gX8_atom_X8_opens rfl ⟨rfl, rfl⟩ 0 (by decide +kernel) (sv_room2 (by omega) (by omega)) (sm_i 0 hB (by decide)) (sm_c0 hB) rfl rfl hl.1 rfl (Nat.le_of_ble_eq_true rfl) dX8_atom_47 ⟨Nat.zero_le _, Nat.zero_le _⟩) (fun H locs hW => ?_)
      refine lv_if_eq (tgt := 161) hx hb dX8_atom_50 (by decide) (fun c25 => ?_) (fun c25 => ?_)
      · replace hs := (sp_ite hs).1 c25
        refine lv_iload_n hx hb dX8_atom_161 rfl (lv_at hl 0 rfl) ?_
        cases hs
        exact sv_iret hx hb hr rfl hlk hW dX8_atom_162
      · replace hs := (sp_ite hs).2 c25
        refine lv_aload_n hx hb dX8_atom_53 rfl (lv_at hl 1 rfl) ?_
        obtain ⟨r26, σ27, eσ27, hs⟩ := sp_bind hs
        refine sv_goI (σ' := σ27) (r := r26) hW F.2.2.2.1 (sv_runV (C := RX8) F hW (hG0 _ _ _ eσ27 H.size) gX8_atom_X8_either rfl ⟨rfl, rfl⟩ 0 (by decide +kernel) (sv_room2 (by omega) (by omega)) (sm_i 0 hB (by decide)) (sm_c0 hB) rfl rfl hl.1 rfl (Nat.le_of_ble_eq_true rfl) dX8_atom_54 ⟨Nat.zero_le _, Nat.zero_le _⟩) (fun H locs hW => ?_)
        refine lv_istore_n (lv' := [(1, .int r26), (0, .ref (h 0))]) hx hb dX8_atom_57 rfl hl (by decide) rfl (fun ls hl => ?_)
        refine lv_aload_n hx hb dX8_atom_58 rfl (lv_at hl 1 rfl) ?_
        refine lv_bipush (v := 41) hx hb dX8_atom_59 (by decide) ?_
        obtain ⟨r28, σ29, eσ29, hs⟩ := sp_bind hs
        refine sv_goI (σ' := σ29) (r := r28) hW F.2.2.2.1 (sv_runV (C := RX8) F hW (k_X8_isSign hB eσ29 H.size) gX8_atom_X8_isSign rfl ⟨rfl, rfl⟩ 1 (by decide +kernel) (sv_room2 (by omega) (by omega)) (sm_i 0 hB (by decide)) (sm_c0 hB) rfl rfl hl.1 rfl (Nat.le_of_ble_eq_true rfl) dX8_atom_61 ⟨Nat.zero_le _, Nat.zero_le _⟩) (fun H locs hW => ?_)
        refine lv_if_ne (tgt := 71) hx hb dX8_atom_64 (by decide) (fun c30 => ?_) (fun c30 => ?_)
        · replace hs := (sp_ite hs).2 c30
          exact b_X8_atom_71 hB G fr lr hf hlr hG0 hG1 hG2 hG3 hG4 hG5 F hr hlk r26 σ29 H locs ls (lv_sub hl [1, 0] rfl) hW hs
        · replace hs := (sp_ite hs).1 c30
          refine lv_aload_n hx hb dX8_atom_67 rfl (lv_at hl 1 rfl) ?_
          obtain ⟨r35, σ36, eσ36, hs⟩ := sp_bind hs
          refine sv_goV (σ' := σ36) (r := r35) hW F.2.2.2.1 (sv_runV (C := RX8) F hW (k_X8_fail hB eσ36 H.size) gX8_atom_X8_fail rfl ⟨rfl, rfl⟩ 0 (by decide +kernel) (sv_room2 (by omega) (by omega)) (sm_i 0 hB (by decide)) (sm_c0 hB) rfl rfl hl.1 rfl (Nat.le_of_ble_eq_true rfl) dX8_atom_68 ⟨Nat.zero_le _, Nat.zero_le _⟩) (fun H locs hW => ?_)
          exact b_X8_atom_71 hB G fr lr hf hlr hG0 hG1 hG2 hG3 hG4 hG5 F hr hlk r26 σ36 H locs ls (lv_sub hl [1, 0] rfl) hW hs
  · replace hs := (sp_ite hs).2 c3
    refine lv_aload_n hx hb dX8_atom_11 rfl (lv_at hl 1 rfl) ?_
    obtain ⟨r37, σ38, eσ38, hs⟩ := sp_bind hs
    refine sv_goI (σ' := σ38) (r := r37) hW F.2.2.2.1 (sv_runV (C := RX8) F hW (k_X8_opens hB eσ38 H.size) gX8_atom_X8_opens rfl ⟨rfl, rfl⟩ 0 (by decide +kernel) (sv_room2 (by omega) (by omega)) (sm_i 0 hB (by decide)) (sm_c0 hB) rfl rfl hl.1 rfl (Nat.le_of_ble_eq_true rfl) dX8_atom_12 ⟨Nat.zero_le _, Nat.zero_le _⟩) (fun H locs hW => ?_)
    refine lv_if_eq (tgt := 161) hx hb dX8_atom_15 (by decide) (fun c39 => ?_) (fun c39 => ?_)
    · replace hs := (sp_ite hs).1 c39
      refine lv_iload_n hx hb dX8_atom_161 rfl (lv_at hl 0 rfl) ?_
      cases hs
      exact sv_iret hx hb hr rfl hlk hW dX8_atom_162
    · replace hs := (sp_ite hs).2 c39
      refine lv_aload_n hx hb dX8_atom_18 rfl (lv_at hl 1 rfl) ?_
      obtain ⟨r40, σ41, eσ41, hs⟩ := sp_bind hs
      refine sv_goI (σ' := σ41) (r := r40) hW F.2.2.2.1 (sv_runV (C := RX8) F hW (hG5 _ _ _ eσ41 H.size) gX8_atom_X8_atom rfl ⟨rfl, rfl⟩ 0 (by decide +kernel) (sv_room2 (by omega) (by omega)) (sm_i 0 hB (by decide)) (sm_c0 hB) rfl rfl hl.1 rfl (Nat.le_of_ble_eq_true rfl) dX8_atom_19 ⟨Nat.zero_le _, Nat.zero_le _⟩) (fun H locs hW => ?_)
      refine lv_ineg hx hb dX8_atom_22 ?_
      refine lv_topi (fun v42 ev42 => ?_)
      replace hs := sp_let hs ev42
      refine lv_istore_n (lv' := [(1, .int v42), (0, .ref (h 0))]) hx hb dX8_atom_23 rfl hl (by decide) rfl (fun ls hl => ?_)
      refine lv_aload_n hx hb dX8_atom_24 rfl (lv_at hl 1 rfl) ?_
      refine lv_dup hx hb dX8_atom_25 rfl ?_
      refine sv_get (own := RX8) (C := RX8) (Tf := TX8) (N := 44) (index := 157) (κ := (0, 0)) (v := .int (σ41.1 0 24)) hx hb hts hown hK hW (fun _ h => List.mem_cons_of_mem _ (List.mem_append_right _ h)) (sm_i 0 hB (by decide)) (sm_c0 hB) rfl 24 (by decide) rfl rfl (List.mem_of_getElem? (i := 1) rfl) dX8_atom_26 ?_
      refine lv_iconst (v := 1) hx hb dX8_atom_29 (by decide) ?_
      refine lv_isub hx hb dX8_atom_30 ?_
      refine sv_putI (own := RX8) (C := RX8) (Tf := TX8) (N := 44) (index := 157) hx hb hts hown hK hW (fun _ h => List.mem_cons_of_mem _ (List.mem_append_right _ h)) tyX8 tyX8_ok nmX8 (sm_i 0 hB (by decide)) (sm_c0 hB) rfl 24 (by decide) rfl rfl (ty := .int) (by decide +kernel) rfl rfl (List.mem_of_getElem? (i := 1) rfl) dX8_atom_31 (fun σ43 H locs eσ43 hW => ?_)
      replace hs := sp_let hs eσ43
      refine lv_goto (tgt := 161) hx hb dX8_atom_34 (by decide) ?_
      refine lv_iload_n hx hb dX8_atom_161 rfl (lv_at hl 0 rfl) ?_
      cases hs
      exact sv_iret hx hb hr rfl hlk hW dX8_atom_162
set_option maxRecDepth 100000 in
set_option maxHeartbeats 4000000 in
theorem k_G8 {l : Launch} {D : va_G} {T : Nat → ClassId} {h : Nat → Nat} {θ : sv_T} (hB : sm_base θ) : ∀ d : Nat, (∀  (σ : sv_S) (r : Int32) (σ1 : sv_S), q_G8 d 0 θ σ = some (r, σ1) → sv_Mi sm_X l D T (sm_tys T) h θ yX8_either wsX8_either (sv_rm (1 * d + 20) (40 * d + 800)) [.ref (h 0)] σ r σ1) ∧ (∀  (σ : sv_S) (r : Int32) (σ1 : sv_S), q_G8 d 1 θ σ = some (r, σ1) → sv_Mi sm_X l D T (sm_tys T) h θ yX8_both wsX8_both (sv_rm (1 * d + 20) (40 * d + 800)) [.ref (h 0)] σ r σ1) ∧ (∀  (σ : sv_S) (r : Int32) (σ1 : sv_S), q_G8 d 2 θ σ = some (r, σ1) → sv_Mi sm_X l D T (sm_tys T) h θ yX8_not wsX8_not (sv_rm (1 * d + 20) (40 * d + 800)) [.ref (h 0)] σ r σ1) ∧ (∀  (σ : sv_S) (r : Int32) (σ1 : sv_S), q_G8 d 3 θ σ = some (r, σ1) → sv_Mi sm_X l D T (sm_tys T) h θ yX8_added wsX8_added (sv_rm (1 * d + 20) (40 * d + 800)) [.ref (h 0)] σ r σ1) ∧ (∀  (σ : sv_S) (r : Int32) (σ1 : sv_S), q_G8 d 4 θ σ = some (r, σ1) → sv_Mi sm_X l D T (sm_tys T) h θ yX8_term wsX8_term (sv_rm (1 * d + 20) (40 * d + 800)) [.ref (h 0)] σ r σ1) ∧ (∀  (σ : sv_S) (r : Int32) (σ1 : sv_S), q_G8 d 5 θ σ = some (r, σ1) → sv_Mi sm_X l D T (sm_tys T) h θ yX8_atom wsX8_atom (sv_rm (1 * d + 20) (40 * d + 800)) [.ref (h 0)] σ r σ1) := by
  intro d
  induction d with
  | zero =>
    refine ⟨?_, ?_, ?_, ?_, ?_, ?_⟩
    · intro σ r σ1 hs
      have hs : (none : Option (Int32 × sv_S)) = some (r, σ1) := hs
      cases hs
    · intro σ r σ1 hs
      have hs : (none : Option (Int32 × sv_S)) = some (r, σ1) := hs
      cases hs
    · intro σ r σ1 hs
      have hs : (none : Option (Int32 × sv_S)) = some (r, σ1) := hs
      cases hs
    · intro σ r σ1 hs
      have hs : (none : Option (Int32 × sv_S)) = some (r, σ1) := hs
      cases hs
    · intro σ r σ1 hs
      have hs : (none : Option (Int32 × sv_S)) = some (r, σ1) := hs
      cases hs
    · intro σ r σ1 hs
      have hs : (none : Option (Int32 × sv_S)) = some (r, σ1) := hs
      cases hs
  | succ d ih =>
    obtain ⟨ih0, ih1, ih2, ih3, ih4, ih5⟩ := ih
    refine ⟨?_, ?_, ?_, ?_, ?_, ?_⟩
    · intro σ r σ1 hs
      have hq := k_X8_either_b hB (q_G8 d) (1 * d + 20) (40 * d + 800) (by omega) (by omega) ih0 ih1 ih2 ih3 ih4 ih5 hs
      rw [show 1 * (d + 1) + 20 = 1 * d + 20 + 1 by omega, show 40 * (d + 1) + 800 = 40 * d + 800 + 40 by omega]
      exact hq
    · intro σ r σ1 hs
      have hq := k_X8_both_b hB (q_G8 d) (1 * d + 20) (40 * d + 800) (by omega) (by omega) ih0 ih1 ih2 ih3 ih4 ih5 hs
      rw [show 1 * (d + 1) + 20 = 1 * d + 20 + 1 by omega, show 40 * (d + 1) + 800 = 40 * d + 800 + 40 by omega]
      exact hq
    · intro σ r σ1 hs
      have hq := k_X8_not_b hB (q_G8 d) (1 * d + 20) (40 * d + 800) (by omega) (by omega) ih0 ih1 ih2 ih3 ih4 ih5 hs
      rw [show 1 * (d + 1) + 20 = 1 * d + 20 + 1 by omega, show 40 * (d + 1) + 800 = 40 * d + 800 + 40 by omega]
      exact hq
    · intro σ r σ1 hs
      have hq := k_X8_added_b hB (q_G8 d) (1 * d + 20) (40 * d + 800) (by omega) (by omega) ih0 ih1 ih2 ih3 ih4 ih5 hs
      rw [show 1 * (d + 1) + 20 = 1 * d + 20 + 1 by omega, show 40 * (d + 1) + 800 = 40 * d + 800 + 40 by omega]
      exact hq
    · intro σ r σ1 hs
      have hq := k_X8_term_b hB (q_G8 d) (1 * d + 20) (40 * d + 800) (by omega) (by omega) ih0 ih1 ih2 ih3 ih4 ih5 hs
      rw [show 1 * (d + 1) + 20 = 1 * d + 20 + 1 by omega, show 40 * (d + 1) + 800 = 40 * d + 800 + 40 by omega]
      exact hq
    · intro σ r σ1 hs
      have hq := k_X8_atom_b hB (q_G8 d) (1 * d + 20) (40 * d + 800) (by omega) (by omega) ih0 ih1 ih2 ih3 ih4 ih5 hs
      rw [show 1 * (d + 1) + 20 = 1 * d + 20 + 1 by omega, show 40 * (d + 1) + 800 = 40 * d + 800 + 40 by omega]
      exact hq
theorem k_X8_either {l : Launch} {D : va_G} {T : Nat → ClassId} {h : Nat → Nat} {θ : sv_T}  {σ : sv_S} {r : Int32} {σ' : sv_S} (hB : sm_base θ) (hs : q_X8_either θ 40 σ = some (r, σ')) : sv_Mi sm_X l D T (sm_tys T) h θ yX8_either wsX8_either (sv_rm 60 2400) [.ref (h 0)] σ r σ' := (k_G8 hB 40).1 _ _ _ hs
theorem k_X8_both {l : Launch} {D : va_G} {T : Nat → ClassId} {h : Nat → Nat} {θ : sv_T}  {σ : sv_S} {r : Int32} {σ' : sv_S} (hB : sm_base θ) (hs : q_X8_both θ 40 σ = some (r, σ')) : sv_Mi sm_X l D T (sm_tys T) h θ yX8_both wsX8_both (sv_rm 60 2400) [.ref (h 0)] σ r σ' := (k_G8 hB 40).2.1 _ _ _ hs
theorem k_X8_not {l : Launch} {D : va_G} {T : Nat → ClassId} {h : Nat → Nat} {θ : sv_T}  {σ : sv_S} {r : Int32} {σ' : sv_S} (hB : sm_base θ) (hs : q_X8_not θ 40 σ = some (r, σ')) : sv_Mi sm_X l D T (sm_tys T) h θ yX8_not wsX8_not (sv_rm 60 2400) [.ref (h 0)] σ r σ' := (k_G8 hB 40).2.2.1 _ _ _ hs
theorem k_X8_added {l : Launch} {D : va_G} {T : Nat → ClassId} {h : Nat → Nat} {θ : sv_T}  {σ : sv_S} {r : Int32} {σ' : sv_S} (hB : sm_base θ) (hs : q_X8_added θ 40 σ = some (r, σ')) : sv_Mi sm_X l D T (sm_tys T) h θ yX8_added wsX8_added (sv_rm 60 2400) [.ref (h 0)] σ r σ' := (k_G8 hB 40).2.2.2.1 _ _ _ hs
theorem k_X8_term {l : Launch} {D : va_G} {T : Nat → ClassId} {h : Nat → Nat} {θ : sv_T}  {σ : sv_S} {r : Int32} {σ' : sv_S} (hB : sm_base θ) (hs : q_X8_term θ 40 σ = some (r, σ')) : sv_Mi sm_X l D T (sm_tys T) h θ yX8_term wsX8_term (sv_rm 60 2400) [.ref (h 0)] σ r σ' := (k_G8 hB 40).2.2.2.2.1 _ _ _ hs
theorem k_X8_atom {l : Launch} {D : va_G} {T : Nat → ClassId} {h : Nat → Nat} {θ : sv_T}  {σ : sv_S} {r : Int32} {σ' : sv_S} (hB : sm_base θ) (hs : q_X8_atom θ 40 σ = some (r, σ')) : sv_Mi sm_X l D T (sm_tys T) h θ yX8_atom wsX8_atom (sv_rm 60 2400) [.ref (h 0)] σ r σ' := (k_G8 hB 40).2.2.2.2.2 _ _ _ hs
set_option maxRecDepth 100000 in
set_option maxHeartbeats 4000000 in
theorem b_X8_part_48 {p : Program} {l : Launch} {e : Env} {s : State} {m : MethodId} {args : Array Value} {below : List Frame} {meth : Method} {c : Code} {D : va_G} {T : Nat → ClassId} {A : Nat → Prop} {h : Nat → Nat} {θ : sv_T} {a1 : Int32} {r : Int32} {σ' : sv_S} (hB : sm_base θ)  (F : sv_F sm_X p m c cX8_part 3 s args wsX8_part RX8 D (sm_tys T) A) (hr : meth.sig.returnType = (some .int)) (hlk : meth.locks = false)  : ∀ (x2 : Int32) (σ : sv_S) (H : Heap) (locs : List Loc) (ls : Array Slot), lv_has ls 3 [(0, .ref (h 0)), (2, .int x2)] → sv_W D T A s h θ σ H locs → q_X8_part_B48 θ a1 x2 σ = some (r, σ') → W p l e (sv_rm 61 2422) s m args below meth c H locs 0 0 (MQ below (va_Qi (fun r2 (_ : Unit) => r2 = r) (fun _ t => va_P D vwCl (sv_ws T h θ σ') t.heap) A) args s 0 0 A) (F0 m 48 ls []) := by
  have hx := F.1.1
  have hb := F.1.2.1
  have hts := F.1.2.2.2.2
  have hown := F.1.2.2.2.1
  have hK := F.2.1
  intro x2 σ H locs ls hl hW hs
  unfold q_X8_part_B48 at hs
  refine lv_aload_n hx hb dX8_part_48 rfl (lv_at hl 0 rfl) ?_
  refine sv_get (own := RX8) (C := RX8) (Tf := TX8) (N := 44) (index := 147) (κ := (0, 0)) (v := .int (σ.1 0 25)) hx hb hts hown hK hW (fun _ h => List.mem_cons_of_mem _ (List.mem_append_right _ h)) (sm_i 0 hB (by decide)) (sm_c0 hB) rfl 25 (by decide) rfl rfl (List.mem_of_getElem? (i := 1) rfl) dX8_part_49 ?_
  refine lv_if_ne (tgt := 59) hx hb dX8_part_52 (by decide) (fun c9 => ?_) (fun c9 => ?_)
  · replace hs := (sp_ite hs).2 c9
    refine lv_iload_n hx hb dX8_part_59 rfl (lv_at hl 1 rfl) ?_
    cases hs
    exact sv_iret hx hb hr rfl hlk hW dX8_part_60
  · replace hs := (sp_ite hs).1 c9
    refine lv_aload_n hx hb dX8_part_55 rfl (lv_at hl 0 rfl) ?_
    obtain ⟨r10, σ11, eσ11, hs⟩ := sp_bind hs
    refine sv_goV (σ' := σ11) (r := r10) hW F.2.2.2.1 (sv_runV (C := RX8) F hW (k_X8_next hB eσ11 H.size) gX8_part_X8_next rfl ⟨rfl, rfl⟩ 0 (by decide +kernel) (sv_room2 (by omega) (by omega)) (sm_i 0 hB (by decide)) (sm_c0 hB) rfl rfl hl.1 rfl (Nat.le_of_ble_eq_true rfl) dX8_part_56 ⟨Nat.zero_le _, Nat.zero_le _⟩) (fun H locs hW => ?_)
    refine lv_iload_n hx hb dX8_part_59 rfl (lv_at hl 1 rfl) ?_
    cases hs
    exact sv_iret hx hb hr rfl hlk hW dX8_part_60
set_option maxRecDepth 100000 in
set_option maxHeartbeats 4000000 in
theorem b_X8_part_34 {p : Program} {l : Launch} {e : Env} {s : State} {m : MethodId} {args : Array Value} {below : List Frame} {meth : Method} {c : Code} {D : va_G} {T : Nat → ClassId} {A : Nat → Prop} {h : Nat → Nat} {θ : sv_T} {a1 : Int32} {r : Int32} {σ' : sv_S} (hB : sm_base θ)  (F : sv_F sm_X p m c cX8_part 3 s args wsX8_part RX8 D (sm_tys T) A) (hr : meth.sig.returnType = (some .int)) (hlk : meth.locks = false)  : ∀ (w0 : Int32) (σ : sv_S) (H : Heap) (locs : List Loc) (ls : Array Slot), lv_has ls 3 [(0, .ref (h 0))] → sv_W D T A s h θ σ H locs → q_X8_part_B34 θ a1 w0 σ = some (r, σ') → W p l e (sv_rm 61 2422) s m args below meth c H locs 0 0 (MQ below (va_Qi (fun r2 (_ : Unit) => r2 = r) (fun _ t => va_P D vwCl (sv_ws T h θ σ') t.heap) A) args s 0 0 A) (F0 m 34 ls [.int w0]) := by
  have hx := F.1.1
  have hb := F.1.2.1
  have hts := F.1.2.2.2.2
  have hown := F.1.2.2.2.1
  have hK := F.2.1
  intro w0 σ H locs ls hl hW hs
  unfold q_X8_part_B34 at hs
  refine lv_istore_n (lv' := [(2, .int w0), (0, .ref (h 0))]) hx hb dX8_part_34 rfl hl (by decide) rfl (fun ls hl => ?_)
  refine lv_aload_n hx hb dX8_part_35 rfl (lv_at hl 1 rfl) ?_
  refine lv_bipush (v := 59) hx hb dX8_part_36 (by decide) ?_
  obtain ⟨r6, σ7, eσ7, hs⟩ := sp_bind hs
  refine sv_goI (σ' := σ7) (r := r6) hW F.2.2.2.1 (sv_runV (C := RX8) F hW (k_X8_isSign hB eσ7 H.size) gX8_part_X8_isSign rfl ⟨rfl, rfl⟩ 1 (by decide +kernel) (sv_room2 (by omega) (by omega)) (sm_i 0 hB (by decide)) (sm_c0 hB) rfl rfl hl.1 rfl (Nat.le_of_ble_eq_true rfl) dX8_part_38 ⟨Nat.zero_le _, Nat.zero_le _⟩) (fun H locs hW => ?_)
  refine lv_if_ne (tgt := 48) hx hb dX8_part_41 (by decide) (fun c8 => ?_) (fun c8 => ?_)
  · replace hs := (sp_ite hs).2 c8
    exact b_X8_part_48 hB F hr hlk w0 σ7 H locs ls (lv_sub hl [1, 0] rfl) hW hs
  · replace hs := (sp_ite hs).1 c8
    refine lv_aload_n hx hb dX8_part_44 rfl (lv_at hl 1 rfl) ?_
    obtain ⟨r12, σ13, eσ13, hs⟩ := sp_bind hs
    refine sv_goV (σ' := σ13) (r := r12) hW F.2.2.2.1 (sv_runV (C := RX8) F hW (k_X8_fail hB eσ13 H.size) gX8_part_X8_fail rfl ⟨rfl, rfl⟩ 0 (by decide +kernel) (sv_room2 (by omega) (by omega)) (sm_i 0 hB (by decide)) (sm_c0 hB) rfl rfl hl.1 rfl (Nat.le_of_ble_eq_true rfl) dX8_part_45 ⟨Nat.zero_le _, Nat.zero_le _⟩) (fun H locs hW => ?_)
    exact b_X8_part_48 hB F hr hlk w0 σ13 H locs ls (lv_sub hl [1, 0] rfl) hW hs
set_option maxRecDepth 100000 in
set_option maxHeartbeats 4000000 in
theorem b_X8_part_19 {p : Program} {l : Launch} {e : Env} {s : State} {m : MethodId} {args : Array Value} {below : List Frame} {meth : Method} {c : Code} {D : va_G} {T : Nat → ClassId} {A : Nat → Prop} {h : Nat → Nat} {θ : sv_T} {a1 : Int32} {r : Int32} {σ' : sv_S} (hB : sm_base θ)  (F : sv_F sm_X p m c cX8_part 3 s args wsX8_part RX8 D (sm_tys T) A) (hr : meth.sig.returnType = (some .int)) (hlk : meth.locks = false)  : ∀  (σ : sv_S) (H : Heap) (locs : List Loc) (ls : Array Slot), lv_has ls 3 [(0, .ref (h 0))] → sv_W D T A s h θ σ H locs → q_X8_part_B19 θ a1 σ = some (r, σ') → W p l e (sv_rm 61 2422) s m args below meth c H locs 0 0 (MQ below (va_Qi (fun r2 (_ : Unit) => r2 = r) (fun _ t => va_P D vwCl (sv_ws T h θ σ') t.heap) A) args s 0 0 A) (F0 m 19 ls []) := by
  have hx := F.1.1
  have hb := F.1.2.1
  have hts := F.1.2.2.2.2
  have hown := F.1.2.2.2.1
  have hK := F.2.1
  intro σ H locs ls hl hW hs
  unfold q_X8_part_B19 at hs
  refine lv_aload_n hx hb dX8_part_19 rfl (lv_at hl 0 rfl) ?_
  refine sv_get (own := RX8) (C := RX8) (Tf := TX8) (N := 44) (index := 147) (κ := (0, 0)) (v := .int (σ.1 0 25)) hx hb hts hown hK hW (fun _ h => List.mem_cons_of_mem _ (List.mem_append_right _ h)) (sm_i 0 hB (by decide)) (sm_c0 hB) rfl 25 (by decide) rfl rfl (List.mem_of_getElem? (i := 1) rfl) dX8_part_20 ?_
  refine lv_if_eq (tgt := 30) hx hb dX8_part_23 (by decide) (fun c3 => ?_) (fun c3 => ?_)
  · replace hs := (sp_ite hs).1 c3
    refine lv_aload_n hx hb dX8_part_30 rfl (lv_at hl 0 rfl) ?_
    obtain ⟨r4, σ5, eσ5, hs⟩ := sp_bind hs
    refine sv_goI (σ' := σ5) (r := r4) hW F.2.2.2.1 (sv_runV (C := RX8) F hW (k_X8_either hB eσ5 H.size) gX8_part_X8_either rfl ⟨rfl, rfl⟩ 0 (by decide +kernel) (sv_room2 (by omega) (by omega)) (sm_i 0 hB (by decide)) (sm_c0 hB) rfl rfl hl.1 rfl (Nat.le_of_ble_eq_true rfl) dX8_part_31 ⟨Nat.zero_le _, Nat.zero_le _⟩) (fun H locs hW => ?_)
    exact b_X8_part_34 hB F hr hlk r4 σ5 H locs ls (lv_sub hl [0] rfl) hW hs
  · replace hs := (sp_ite hs).2 c3
    refine lv_iconst (v := 0) hx hb dX8_part_26 (by decide) ?_
    refine lv_goto (tgt := 34) hx hb dX8_part_27 (by decide) ?_
    exact b_X8_part_34 hB F hr hlk (0 : Int32) σ H locs ls (lv_sub hl [0] rfl) hW hs
set_option maxRecDepth 100000 in
set_option maxHeartbeats 4000000 in
theorem k_X8_part {l : Launch} {D : va_G} {T : Nat → ClassId} {h : Nat → Nat} {θ : sv_T} {a1 : Int32} {σ : sv_S} {r : Int32} {σ' : sv_S} (hB : sm_base θ)  (hs : q_X8_part θ a1 σ = some (r, σ')) : sv_Mi sm_X l D T (sm_tys T) h θ yX8_part wsX8_part (sv_rm 61 2422) [.ref (h 0), .int a1] σ r σ' := by
  intro sz
  refine sv_enter (cc := cX8_part) (maxL := 3) (ret := (some .int)) (Qc := fun A => va_Qi (fun r2 (_ : Unit) => r2 = r) (fun _ t => va_P D vwCl (sv_ws T h θ σ') t.heap) A) sm_XP (by decide) rfl (Nat.le_of_ble_eq_true rfl) ?_
  intro p e s m args below meth c A F hr hlk ls H hl hW
  have hx := F.1.1
  have hb := F.1.2.1
  have hts := F.1.2.2.2.2
  have hown := F.1.2.2.2.1
  have hK := F.2.1
  obtain ⟨locs, hlocs⟩ : ∃ z : List Loc, z = [] := ⟨_, rfl⟩
  rw [← hlocs] at hW ⊢
  have hl : lv_has ls 3 [(0, .ref (h 0)), (1, .int a1)] := hl
  unfold q_X8_part at hs
  refine lv_iload_n hx hb dX8_part_0 rfl (lv_at hl 1 rfl) ?_
  refine lv_if_ne (tgt := 8) hx hb dX8_part_1 (by decide) (fun c1 => ?_) (fun c1 => ?_)
  · replace hs := (sp_ite hs).2 c1
    refine lv_aload_n hx hb dX8_part_8 rfl (lv_at hl 0 rfl) ?_
    refine sv_get (own := RX8) (C := RX8) (Tf := TX8) (N := 44) (index := 147) (κ := (0, 0)) (v := .int (σ.1 0 25)) hx hb hts hown hK hW (fun _ h => List.mem_cons_of_mem _ (List.mem_append_right _ h)) (sm_i 0 hB (by decide)) (sm_c0 hB) rfl 25 (by decide) rfl rfl (List.mem_of_getElem? (i := 1) rfl) dX8_part_9 ?_
    refine lv_if_ne (tgt := 19) hx hb dX8_part_12 (by decide) (fun c2 => ?_) (fun c2 => ?_)
    · replace hs := (sp_ite hs).2 c2
      exact b_X8_part_19 hB F hr hlk σ H locs ls (lv_sub hl [0] rfl) hW hs
    · replace hs := (sp_ite hs).1 c2
      refine lv_aload_n hx hb dX8_part_15 rfl (lv_at hl 0 rfl) ?_
      obtain ⟨r14, σ15, eσ15, hs⟩ := sp_bind hs
      refine sv_goV (σ' := σ15) (r := r14) hW F.2.2.2.1 (sv_runV (C := RX8) F hW (k_X8_next hB eσ15 H.size) gX8_part_X8_next rfl ⟨rfl, rfl⟩ 0 (by decide +kernel) (sv_room2 (by omega) (by omega)) (sm_i 0 hB (by decide)) (sm_c0 hB) rfl rfl hl.1 rfl (Nat.le_of_ble_eq_true rfl) dX8_part_16 ⟨Nat.zero_le _, Nat.zero_le _⟩) (fun H locs hW => ?_)
      exact b_X8_part_19 hB F hr hlk σ15 H locs ls (lv_sub hl [0] rfl) hW hs
  · replace hs := (sp_ite hs).1 c1
    refine lv_aload_n hx hb dX8_part_4 rfl (lv_at hl 0 rfl) ?_
    obtain ⟨r16, σ17, eσ17, hs⟩ := sp_bind hs
    refine sv_goV (σ' := σ17) (r := r16) hW F.2.2.2.1 (sv_runV (C := RX8) F hW (k_X8_fail hB eσ17 H.size) gX8_part_X8_fail rfl ⟨rfl, rfl⟩ 0 (by decide +kernel) (sv_room2 (by omega) (by omega)) (sm_i 0 hB (by decide)) (sm_c0 hB) rfl rfl hl.1 rfl (Nat.le_of_ble_eq_true rfl) dX8_part_5 ⟨Nat.zero_le _, Nat.zero_le _⟩) (fun H locs hW => ?_)
    refine lv_aload_n hx hb dX8_part_8 rfl (lv_at hl 0 rfl) ?_
    refine sv_get (own := RX8) (C := RX8) (Tf := TX8) (N := 44) (index := 147) (κ := (0, 0)) (v := .int (σ17.1 0 25)) hx hb hts hown hK hW (fun _ h => List.mem_cons_of_mem _ (List.mem_append_right _ h)) (sm_i 0 hB (by decide)) (sm_c0 hB) rfl 25 (by decide) rfl rfl (List.mem_of_getElem? (i := 1) rfl) dX8_part_9 ?_
    refine lv_if_ne (tgt := 19) hx hb dX8_part_12 (by decide) (fun c18 => ?_) (fun c18 => ?_)
    · replace hs := (sp_ite hs).2 c18
      exact b_X8_part_19 hB F hr hlk σ17 H locs ls (lv_sub hl [0] rfl) hW hs
    · replace hs := (sp_ite hs).1 c18
      refine lv_aload_n hx hb dX8_part_15 rfl (lv_at hl 0 rfl) ?_
      obtain ⟨r19, σ20, eσ20, hs⟩ := sp_bind hs
      refine sv_goV (σ' := σ20) (r := r19) hW F.2.2.2.1 (sv_runV (C := RX8) F hW (k_X8_next hB eσ20 H.size) gX8_part_X8_next rfl ⟨rfl, rfl⟩ 0 (by decide +kernel) (sv_room2 (by omega) (by omega)) (sm_i 0 hB (by decide)) (sm_c0 hB) rfl rfl hl.1 rfl (Nat.le_of_ble_eq_true rfl) dX8_part_16 ⟨Nat.zero_le _, Nat.zero_le _⟩) (fun H locs hW => ?_)
      exact b_X8_part_19 hB F hr hlk σ20 H locs ls (lv_sub hl [0] rfl) hW hs
set_option maxRecDepth 100000 in
set_option maxHeartbeats 4000000 in
theorem b_X8_read_126 {p : Program} {l : Launch} {e : Env} {s : State} {m : MethodId} {args : Array Value} {below : List Frame} {meth : Method} {c : Code} {D : va_G} {T : Nat → ClassId} {A : Nat → Prop} {h : Nat → Nat} {θ : sv_T} {a1 : Int32} {a2 : Int32} {r : Int32} {σ' : sv_S} (hB : sm_base θ)  (F : sv_F sm_X p m c cX8_read 6 s args wsX8_read RX8 D (sm_tys T) A) (hr : meth.sig.returnType = (some .int)) (hlk : meth.locks = false)  : ∀ (x2 : Int32) (x3 : Int32) (x4 : Int32) (w0 : Int32) (σ : sv_S) (H : Heap) (locs : List Loc) (ls : Array Slot), lv_has ls 6 [(0, .ref (h 0)), (2, .int x2), (3, .int x3), (4, .int x4)] → sv_W D T A s h θ σ H locs → q_X8_read_B126 θ a1 a2 x2 x3 x4 w0 σ = some (r, σ') → W p l e (sv_rm 62 2444) s m args below meth c H locs 0 0 (MQ below (va_Qi (fun r2 (_ : Unit) => r2 = r) (fun _ t => va_P D vwCl (sv_ws T h θ σ') t.heap) A) args s 0 0 A) (F0 m 126 ls [.int w0]) := by
  have hx := F.1.1
  have hb := F.1.2.1
  have hts := F.1.2.2.2.2
  have hown := F.1.2.2.2.1
  have hK := F.2.1
  intro x2 x3 x4 w0 σ H locs ls hl hW hs
  unfold q_X8_read_B126 at hs
  refine lv_istore (lv' := [(5, .int w0), (0, .ref (h 0)), (2, .int x2), (3, .int x3), (4, .int x4)]) hx hb dX8_read_126 hl (by decide) rfl (fun ls hl => ?_)
  refine lv_aload_n hx hb dX8_read_128 rfl (lv_at hl 1 rfl) ?_
  refine sv_get (own := RX8) (C := RX8) (Tf := TX8) (N := 44) (index := 147) (κ := (0, 0)) (v := .int (σ.1 0 25)) hx hb hts hown hK hW (fun _ h => List.mem_cons_of_mem _ (List.mem_append_right _ h)) (sm_i 0 hB (by decide)) (sm_c0 hB) rfl 25 (by decide) rfl rfl (List.mem_of_getElem? (i := 6) rfl) dX8_read_129 ?_
  refine lv_if_ne (tgt := 146) hx hb dX8_read_132 (by decide) (fun c23 => ?_) (fun c23 => ?_)
  · replace hs := (sp_ite hs).2 c23
    refine lv_iload_n hx hb dX8_read_146 rfl (lv_at hl 2 rfl) ?_
    refine lv_if_ne (tgt := 154) hx hb dX8_read_147 (by decide) (fun c24 => ?_) (fun c24 => ?_)
    · replace hs := (sp_ite hs).2 c24
      refine lv_iload_n hx hb dX8_read_154 rfl (lv_at hl 2 rfl) ?_
      refine lv_iconst (v := 1) hx hb dX8_read_155 (by decide) ?_
      refine lv_icmp_ne (tgt := 164) hx hb dX8_read_156 (by decide) (fun c25 => ?_) (fun c25 => ?_)
      · replace hs := (sp_ite hs).2 c25
        refine lv_iload hx hb dX8_read_164 (lv_at hl 0 rfl) ?_
        cases hs
        exact sv_iret hx hb hr rfl hlk hW dX8_read_166
      · replace hs := (sp_ite hs).1 c25
        refine lv_iload hx hb dX8_read_159 (lv_at hl 4 rfl) ?_
        refine lv_goto (tgt := 166) hx hb dX8_read_161 (by decide) ?_
        cases hs
        exact sv_iret hx hb hr rfl hlk hW dX8_read_166
    · replace hs := (sp_ite hs).1 c24
      refine lv_iload_n hx hb dX8_read_150 rfl (lv_at hl 3 rfl) ?_
      refine lv_goto (tgt := 166) hx hb dX8_read_151 (by decide) ?_
      cases hs
      exact sv_iret hx hb hr rfl hlk hW dX8_read_166
  · replace hs := (sp_ite hs).1 c23
    refine lv_aload_n hx hb dX8_read_135 rfl (lv_at hl 1 rfl) ?_
    refine sv_get (own := RX8) (C := RX8) (Tf := TX8) (N := 44) (index := 130) (κ := (0, 0)) (v := .int (σ.1 0 21)) hx hb hts hown hK hW (fun _ h => List.mem_cons_of_mem _ (List.mem_append_right _ h)) (sm_i 0 hB (by decide)) (sm_c0 hB) rfl 21 (by decide) rfl rfl (List.mem_of_getElem? (i := 7) rfl) dX8_read_136 ?_
    refine lv_if_eq (tgt := 146) hx hb dX8_read_139 (by decide) (fun c26 => ?_) (fun c26 => ?_)
    · replace hs := (sp_ite hs).1 c26
      refine lv_iload_n hx hb dX8_read_146 rfl (lv_at hl 2 rfl) ?_
      refine lv_if_ne (tgt := 154) hx hb dX8_read_147 (by decide) (fun c27 => ?_) (fun c27 => ?_)
      · replace hs := (sp_ite hs).2 c27
        refine lv_iload_n hx hb dX8_read_154 rfl (lv_at hl 2 rfl) ?_
        refine lv_iconst (v := 1) hx hb dX8_read_155 (by decide) ?_
        refine lv_icmp_ne (tgt := 164) hx hb dX8_read_156 (by decide) (fun c28 => ?_) (fun c28 => ?_)
        · replace hs := (sp_ite hs).2 c28
          refine lv_iload hx hb dX8_read_164 (lv_at hl 0 rfl) ?_
          cases hs
          exact sv_iret hx hb hr rfl hlk hW dX8_read_166
        · replace hs := (sp_ite hs).1 c28
          refine lv_iload hx hb dX8_read_159 (lv_at hl 4 rfl) ?_
          refine lv_goto (tgt := 166) hx hb dX8_read_161 (by decide) ?_
          cases hs
          exact sv_iret hx hb hr rfl hlk hW dX8_read_166
      · replace hs := (sp_ite hs).1 c27
        refine lv_iload_n hx hb dX8_read_150 rfl (lv_at hl 3 rfl) ?_
        refine lv_goto (tgt := 166) hx hb dX8_read_151 (by decide) ?_
        cases hs
        exact sv_iret hx hb hr rfl hlk hW dX8_read_166
    · replace hs := (sp_ite hs).2 c26
      refine lv_aload_n hx hb dX8_read_142 rfl (lv_at hl 1 rfl) ?_
      obtain ⟨r29, σ30, eσ30, hs⟩ := sp_bind hs
      refine sv_goV (σ' := σ30) (r := r29) hW F.2.2.2.1 (sv_runV (C := RX8) F hW (k_X8_fail hB eσ30 H.size) gX8_read_X8_fail rfl ⟨rfl, rfl⟩ 0 (by decide +kernel) (sv_room2 (by omega) (by omega)) (sm_i 0 hB (by decide)) (sm_c0 hB) rfl rfl hl.1 rfl (Nat.le_of_ble_eq_true rfl) dX8_read_143 ⟨Nat.zero_le _, Nat.zero_le _⟩) (fun H locs hW => ?_)
      refine lv_iload_n hx hb dX8_read_146 rfl (lv_at hl 2 rfl) ?_
      refine lv_if_ne (tgt := 154) hx hb dX8_read_147 (by decide) (fun c31 => ?_) (fun c31 => ?_)
      · replace hs := (sp_ite hs).2 c31
        refine lv_iload_n hx hb dX8_read_154 rfl (lv_at hl 2 rfl) ?_
        refine lv_iconst (v := 1) hx hb dX8_read_155 (by decide) ?_
        refine lv_icmp_ne (tgt := 164) hx hb dX8_read_156 (by decide) (fun c32 => ?_) (fun c32 => ?_)
        · replace hs := (sp_ite hs).2 c32
          refine lv_iload hx hb dX8_read_164 (lv_at hl 0 rfl) ?_
          cases hs
          exact sv_iret hx hb hr rfl hlk hW dX8_read_166
        · replace hs := (sp_ite hs).1 c32
          refine lv_iload hx hb dX8_read_159 (lv_at hl 4 rfl) ?_
          refine lv_goto (tgt := 166) hx hb dX8_read_161 (by decide) ?_
          cases hs
          exact sv_iret hx hb hr rfl hlk hW dX8_read_166
      · replace hs := (sp_ite hs).1 c31
        refine lv_iload_n hx hb dX8_read_150 rfl (lv_at hl 3 rfl) ?_
        refine lv_goto (tgt := 166) hx hb dX8_read_151 (by decide) ?_
        cases hs
        exact sv_iret hx hb hr rfl hlk hW dX8_read_166
set_option maxRecDepth 100000 in
set_option maxHeartbeats 4000000 in
theorem b_X8_read_92 {p : Program} {l : Launch} {e : Env} {s : State} {m : MethodId} {args : Array Value} {below : List Frame} {meth : Method} {c : Code} {D : va_G} {T : Nat → ClassId} {A : Nat → Prop} {h : Nat → Nat} {θ : sv_T} {a1 : Int32} {a2 : Int32} {r : Int32} {σ' : sv_S} (hB : sm_base θ)  (F : sv_F sm_X p m c cX8_read 6 s args wsX8_read RX8 D (sm_tys T) A) (hr : meth.sig.returnType = (some .int)) (hlk : meth.locks = false)  : ∀ (x2 : Int32) (x3 : Int32) (w0 : Int32) (σ : sv_S) (H : Heap) (locs : List Loc) (ls : Array Slot), lv_has ls 6 [(0, .ref (h 0)), (2, .int x2), (3, .int x3)] → sv_W D T A s h θ σ H locs → q_X8_read_B92 θ a1 a2 x2 x3 w0 σ = some (r, σ') → W p l e (sv_rm 62 2444) s m args below meth c H locs 0 0 (MQ below (va_Qi (fun r2 (_ : Unit) => r2 = r) (fun _ t => va_P D vwCl (sv_ws T h θ σ') t.heap) A) args s 0 0 A) (F0 m 92 ls [.int w0]) := by
  have hx := F.1.1
  have hb := F.1.2.1
  have hts := F.1.2.2.2.2
  have hown := F.1.2.2.2.1
  have hK := F.2.1
  intro x2 x3 w0 σ H locs ls hl hW hs
  unfold q_X8_read_B92 at hs
  refine lv_istore (lv' := [(4, .int w0), (0, .ref (h 0)), (2, .int x2), (3, .int x3)]) hx hb dX8_read_92 hl (by decide) rfl (fun ls hl => ?_)
  refine lv_aload_n hx hb dX8_read_94 rfl (lv_at hl 1 rfl) ?_
  refine sv_get (own := RX8) (C := RX8) (Tf := TX8) (N := 44) (index := 147) (κ := (0, 0)) (v := .int (σ.1 0 25)) hx hb hts hown hK hW (fun _ h => List.mem_cons_of_mem _ (List.mem_append_right _ h)) (sm_i 0 hB (by decide)) (sm_c0 hB) rfl 25 (by decide) rfl rfl (List.mem_of_getElem? (i := 6) rfl) dX8_read_95 ?_
  refine lv_if_eq (tgt := 105) hx hb dX8_read_98 (by decide) (fun c18 => ?_) (fun c18 => ?_)
  · replace hs := (sp_ite hs).1 c18
    refine lv_aload_n hx hb dX8_read_105 rfl (lv_at hl 1 rfl) ?_
    refine lv_aload_n hx hb dX8_read_106 rfl (lv_at hl 1 rfl) ?_
    refine lv_bipush (v := 118) hx hb dX8_read_107 (by decide) ?_
    refine lv_bipush (v := 97) hx hb dX8_read_109 (by decide) ?_
    refine lv_bipush (v := 108) hx hb dX8_read_111 (by decide) ?_
    refine lv_bipush (v := 117) hx hb dX8_read_113 (by decide) ?_
    refine lv_bipush (v := 101) hx hb dX8_read_115 (by decide) ?_
    refine lv_iconst (v := 0) hx hb dX8_read_117 (by decide) ?_
    refine lv_iconst (v := 0) hx hb dX8_read_118 (by decide) ?_
    refine lv_iconst (v := 0) hx hb dX8_read_119 (by decide) ?_
    obtain ⟨r19, σ20, eσ20, hs⟩ := sp_bind hs
    refine sv_goI (σ' := σ20) (r := r19) hW F.2.2.2.1 (sv_runV (C := RX8) F hW (k_X8_isWord hB eσ20 H.size) gX8_read_X8_isWord rfl ⟨rfl, rfl⟩ 8 (by decide +kernel) (sv_room2 (by omega) (by omega)) (sm_i 0 hB (by decide)) (sm_c0 hB) rfl rfl hl.1 rfl (Nat.le_of_ble_eq_true rfl) dX8_read_120 ⟨Nat.zero_le _, Nat.zero_le _⟩) (fun H locs hW => ?_)
    obtain ⟨r21, σ22, eσ22, hs⟩ := sp_bind hs
    refine sv_goI (σ' := σ22) (r := r21) hW F.2.2.2.1 (sv_runV (C := RX8) F hW (k_X8_part hB eσ22 H.size) gX8_read_X8_part rfl ⟨rfl, rfl⟩ 1 (by decide +kernel) (sv_room2 (by omega) (by omega)) (sm_i 0 hB (by decide)) (sm_c0 hB) rfl rfl hl.1 rfl (Nat.le_of_ble_eq_true rfl) dX8_read_123 ⟨Nat.zero_le _, Nat.zero_le _⟩) (fun H locs hW => ?_)
    exact b_X8_read_126 hB F hr hlk x2 x3 w0 r21 σ22 H locs ls (lv_sub hl [1, 2, 3, 0] rfl) hW hs
  · replace hs := (sp_ite hs).2 c18
    refine lv_iconst (v := 0) hx hb dX8_read_101 (by decide) ?_
    refine lv_goto (tgt := 126) hx hb dX8_read_102 (by decide) ?_
    exact b_X8_read_126 hB F hr hlk x2 x3 w0 (0 : Int32) σ H locs ls (lv_sub hl [1, 2, 3, 0] rfl) hW hs
set_option maxRecDepth 100000 in
set_option maxHeartbeats 4000000 in
theorem k_X8_read {l : Launch} {D : va_G} {T : Nat → ClassId} {h : Nat → Nat} {θ : sv_T} {a1 : Int32} {a2 : Int32} {σ : sv_S} {r : Int32} {σ' : sv_S} (hB : sm_base θ)  (hs : q_X8_read θ a1 a2 σ = some (r, σ')) : sv_Mi sm_X l D T (sm_tys T) h θ yX8_read wsX8_read (sv_rm 62 2444) [.ref (h 0), .int a1, .int a2] σ r σ' := by
  intro sz
  refine sv_enter (cc := cX8_read) (maxL := 6) (ret := (some .int)) (Qc := fun A => va_Qi (fun r2 (_ : Unit) => r2 = r) (fun _ t => va_P D vwCl (sv_ws T h θ σ') t.heap) A) sm_XP (by decide) rfl (Nat.le_of_ble_eq_true rfl) ?_
  intro p e s m args below meth c A F hr hlk ls H hl hW
  have hx := F.1.1
  have hb := F.1.2.1
  have hts := F.1.2.2.2.2
  have hown := F.1.2.2.2.1
  have hK := F.2.1
  obtain ⟨locs, hlocs⟩ : ∃ z : List Loc, z = [] := ⟨_, rfl⟩
  rw [← hlocs] at hW ⊢
  have hl : lv_has ls 6 [(0, .ref (h 0)), (1, .int a1), (2, .int a2)] := hl
  unfold q_X8_read at hs
  refine lv_aload_n hx hb dX8_read_0 rfl (lv_at hl 0 rfl) ?_
  refine lv_sipush (v := 160) hx hb dX8_read_1 (by decide) ?_
  refine lv_iload_n hx hb dX8_read_4 rfl (lv_at hl 1 rfl) ?_
  refine lv_imul hx hb dX8_read_5 ?_
  refine sv_putI (own := RX8) (C := RX8) (Tf := TX8) (N := 44) (index := 118) hx hb hts hown hK hW (fun _ h => List.mem_cons_of_mem _ (List.mem_append_right _ h)) tyX8 tyX8_ok nmX8 (sm_i 0 hB (by decide)) (sm_c0 hB) rfl 18 (by decide) rfl rfl (ty := .int) (by decide +kernel) rfl rfl (List.mem_of_getElem? (i := 1) rfl) dX8_read_6 (fun σ1 H locs eσ1 hW => ?_)
  replace hs := sp_let hs eσ1
  refine lv_aload_n hx hb dX8_read_9 rfl (lv_at hl 0 rfl) ?_
  refine lv_aload_n hx hb dX8_read_10 rfl (lv_at hl 0 rfl) ?_
  refine sv_get (own := RX8) (C := RX8) (Tf := TX8) (N := 44) (index := 17) (κ := (3, 2)) (v := .ref (h 2)) hx hb hts hown hK hW (fun _ h => List.mem_cons_of_mem _ (List.mem_append_right _ h)) (sm_i 0 hB (by decide)) (sm_c0 hB) rfl 2 (by decide) rfl rfl (List.mem_of_getElem? (i := 2) rfl) dX8_read_11 ?_
  refine lv_iload_n hx hb dX8_read_14 rfl (lv_at hl 1 rfl) ?_
  obtain ⟨hi2, hs⟩ := sp_g hs
  refine sv_iald hx hb hK hW (sm_i 2 hB (by decide)) (sm_c2 hB) 0 rfl hi2 dX8_read_15 ?_
  refine sv_putI (own := RX8) (C := RX8) (Tf := TX8) (N := 44) (index := 115) hx hb hts hown hK hW (fun _ h => List.mem_cons_of_mem _ (List.mem_append_right _ h)) tyX8 tyX8_ok nmX8 (sm_i 0 hB (by decide)) (sm_c0 hB) rfl 19 (by decide) rfl rfl (ty := .int) (by decide +kernel) rfl rfl (List.mem_of_getElem? (i := 3) rfl) dX8_read_16 (fun σ3 H locs eσ3 hW => ?_)
  replace hs := sp_let hs eσ3
  refine lv_aload_n hx hb dX8_read_19 rfl (lv_at hl 0 rfl) ?_
  refine lv_iconst (v := 0) hx hb dX8_read_20 (by decide) ?_
  refine sv_putI (own := RX8) (C := RX8) (Tf := TX8) (N := 44) (index := 121) hx hb hts hown hK hW (fun _ h => List.mem_cons_of_mem _ (List.mem_append_right _ h)) tyX8 tyX8_ok nmX8 (sm_i 0 hB (by decide)) (sm_c0 hB) rfl 20 (by decide) rfl rfl (ty := .int) (by decide +kernel) rfl rfl (List.mem_of_getElem? (i := 4) rfl) dX8_read_21 (fun σ4 H locs eσ4 hW => ?_)
  replace hs := sp_let hs eσ4
  refine lv_aload_n hx hb dX8_read_24 rfl (lv_at hl 0 rfl) ?_
  refine lv_iconst (v := 0) hx hb dX8_read_25 (by decide) ?_
  refine sv_putI (own := RX8) (C := RX8) (Tf := TX8) (N := 44) (index := 157) hx hb hts hown hK hW (fun _ h => List.mem_cons_of_mem _ (List.mem_append_right _ h)) tyX8 tyX8_ok nmX8 (sm_i 0 hB (by decide)) (sm_c0 hB) rfl 24 (by decide) rfl rfl (ty := .int) (by decide +kernel) rfl rfl (List.mem_of_getElem? (i := 5) rfl) dX8_read_26 (fun σ5 H locs eσ5 hW => ?_)
  replace hs := sp_let hs eσ5
  refine lv_aload_n hx hb dX8_read_29 rfl (lv_at hl 0 rfl) ?_
  refine lv_iconst (v := 0) hx hb dX8_read_30 (by decide) ?_
  refine sv_putI (own := RX8) (C := RX8) (Tf := TX8) (N := 44) (index := 147) hx hb hts hown hK hW (fun _ h => List.mem_cons_of_mem _ (List.mem_append_right _ h)) tyX8 tyX8_ok nmX8 (sm_i 0 hB (by decide)) (sm_c0 hB) rfl 25 (by decide) rfl rfl (ty := .boolean) (by decide +kernel) rfl rfl (List.mem_of_getElem? (i := 6) rfl) dX8_read_31 (fun σ6 H locs eσ6 hW => ?_)
  replace hs := sp_let hs eσ6
  refine lv_aload_n hx hb dX8_read_34 rfl (lv_at hl 0 rfl) ?_
  obtain ⟨r7, σ8, eσ8, hs⟩ := sp_bind hs
  refine sv_goV (σ' := σ8) (r := r7) hW F.2.2.2.1 (sv_runV (C := RX8) F hW (k_X8_next hB eσ8 H.size) gX8_read_X8_next rfl ⟨rfl, rfl⟩ 0 (by decide +kernel) (sv_room2 (by omega) (by omega)) (sm_i 0 hB (by decide)) (sm_c0 hB) rfl rfl hl.1 rfl (Nat.le_of_ble_eq_true rfl) dX8_read_35 ⟨Nat.zero_le _, Nat.zero_le _⟩) (fun H locs hW => ?_)
  refine lv_aload_n hx hb dX8_read_38 rfl (lv_at hl 0 rfl) ?_
  refine lv_aload_n hx hb dX8_read_39 rfl (lv_at hl 0 rfl) ?_
  refine lv_bipush (v := 110) hx hb dX8_read_40 (by decide) ?_
  refine lv_bipush (v := 101) hx hb dX8_read_42 (by decide) ?_
  refine lv_bipush (v := 101) hx hb dX8_read_44 (by decide) ?_
  refine lv_bipush (v := 100) hx hb dX8_read_46 (by decide) ?_
  refine lv_bipush (v := 115) hx hb dX8_read_48 (by decide) ?_
  refine lv_iconst (v := 0) hx hb dX8_read_50 (by decide) ?_
  refine lv_iconst (v := 0) hx hb dX8_read_51 (by decide) ?_
  refine lv_iconst (v := 0) hx hb dX8_read_52 (by decide) ?_
  obtain ⟨r9, σ10, eσ10, hs⟩ := sp_bind hs
  refine sv_goI (σ' := σ10) (r := r9) hW F.2.2.2.1 (sv_runV (C := RX8) F hW (k_X8_isWord hB eσ10 H.size) gX8_read_X8_isWord rfl ⟨rfl, rfl⟩ 8 (by decide +kernel) (sv_room2 (by omega) (by omega)) (sm_i 0 hB (by decide)) (sm_c0 hB) rfl rfl hl.1 rfl (Nat.le_of_ble_eq_true rfl) dX8_read_53 ⟨Nat.zero_le _, Nat.zero_le _⟩) (fun H locs hW => ?_)
  obtain ⟨r11, σ12, eσ12, hs⟩ := sp_bind hs
  refine sv_goI (σ' := σ12) (r := r11) hW F.2.2.2.1 (sv_runV (C := RX8) F hW (k_X8_part hB eσ12 H.size) gX8_read_X8_part rfl ⟨rfl, rfl⟩ 1 (by decide +kernel) (sv_room2 (by omega) (by omega)) (sm_i 0 hB (by decide)) (sm_c0 hB) rfl rfl hl.1 rfl (Nat.le_of_ble_eq_true rfl) dX8_read_56 ⟨Nat.zero_le _, Nat.zero_le _⟩) (fun H locs hW => ?_)
  refine lv_istore_n (lv' := [(3, .int r11), (0, .ref (h 0)), (1, .int a1), (2, .int a2)]) hx hb dX8_read_59 rfl hl (by decide) rfl (fun ls hl => ?_)
  refine lv_aload_n hx hb dX8_read_60 rfl (lv_at hl 1 rfl) ?_
  refine sv_get (own := RX8) (C := RX8) (Tf := TX8) (N := 44) (index := 147) (κ := (0, 0)) (v := .int (σ12.1 0 25)) hx hb hts hown hK hW (fun _ h => List.mem_cons_of_mem _ (List.mem_append_right _ h)) (sm_i 0 hB (by decide)) (sm_c0 hB) rfl 25 (by decide) rfl rfl (List.mem_of_getElem? (i := 6) rfl) dX8_read_61 ?_
  refine lv_if_eq (tgt := 71) hx hb dX8_read_64 (by decide) (fun c13 => ?_) (fun c13 => ?_)
  · replace hs := (sp_ite hs).1 c13
    refine lv_aload_n hx hb dX8_read_71 rfl (lv_at hl 1 rfl) ?_
    refine lv_aload_n hx hb dX8_read_72 rfl (lv_at hl 1 rfl) ?_
    refine lv_bipush (v := 116) hx hb dX8_read_73 (by decide) ?_
    refine lv_bipush (v := 97) hx hb dX8_read_75 (by decide) ?_
    refine lv_bipush (v := 107) hx hb dX8_read_77 (by decide) ?_
    refine lv_bipush (v := 101) hx hb dX8_read_79 (by decide) ?_
    refine lv_bipush (v := 115) hx hb dX8_read_81 (by decide) ?_
    refine lv_iconst (v := 0) hx hb dX8_read_83 (by decide) ?_
    refine lv_iconst (v := 0) hx hb dX8_read_84 (by decide) ?_
    refine lv_iconst (v := 0) hx hb dX8_read_85 (by decide) ?_
    obtain ⟨r14, σ15, eσ15, hs⟩ := sp_bind hs
    refine sv_goI (σ' := σ15) (r := r14) hW F.2.2.2.1 (sv_runV (C := RX8) F hW (k_X8_isWord hB eσ15 H.size) gX8_read_X8_isWord rfl ⟨rfl, rfl⟩ 8 (by decide +kernel) (sv_room2 (by omega) (by omega)) (sm_i 0 hB (by decide)) (sm_c0 hB) rfl rfl hl.1 rfl (Nat.le_of_ble_eq_true rfl) dX8_read_86 ⟨Nat.zero_le _, Nat.zero_le _⟩) (fun H locs hW => ?_)
    obtain ⟨r16, σ17, eσ17, hs⟩ := sp_bind hs
    refine sv_goI (σ' := σ17) (r := r16) hW F.2.2.2.1 (sv_runV (C := RX8) F hW (k_X8_part hB eσ17 H.size) gX8_read_X8_part rfl ⟨rfl, rfl⟩ 1 (by decide +kernel) (sv_room2 (by omega) (by omega)) (sm_i 0 hB (by decide)) (sm_c0 hB) rfl rfl hl.1 rfl (Nat.le_of_ble_eq_true rfl) dX8_read_89 ⟨Nat.zero_le _, Nat.zero_le _⟩) (fun H locs hW => ?_)
    exact b_X8_read_92 hB F hr hlk a2 r11 r16 σ17 H locs ls (lv_sub hl [1, 3, 0] rfl) hW hs
  · replace hs := (sp_ite hs).2 c13
    refine lv_iconst (v := 0) hx hb dX8_read_67 (by decide) ?_
    refine lv_goto (tgt := 92) hx hb dX8_read_68 (by decide) ?_
    exact b_X8_read_92 hB F hr hlk a2 r11 (0 : Int32) σ12 H locs ls (lv_sub hl [1, 3, 0] rfl) hW hs
set_option maxRecDepth 100000 in
set_option maxHeartbeats 4000000 in
theorem b_X8_text_14 {p : Program} {l : Launch} {e : Env} {s : State} {m : MethodId} {args : Array Value} {below : List Frame} {meth : Method} {c : Code} {D : va_G} {T : Nat → ClassId} {A : Nat → Prop} {h : Nat → Nat} {θ : sv_T}  {r : Int32} {σ' : sv_S} (hB : sm_base θ)  (F : sv_F sm_X p m c cX8_text 2 s args wsX8_text RX8 D (sm_tys T) A) (hr : meth.sig.returnType = (some .int)) (hlk : meth.locks = false)  : ∀ (n : Nat), ∀ (x1 : Int32) (σ : sv_S) (H : Heap) (locs : List Loc) (ls : Array Slot), lv_has ls 2 [(0, .ref (h 0)), (1, .int x1)] → sv_W D T A s h θ σ H locs → q_X8_text_B14 θ  n x1 σ = some (r, σ') → W p l e (sv_rm 63 2469) s m args below meth c H locs 0 0 (MQ below (va_Qi (fun r2 (_ : Unit) => r2 = r) (fun _ t => va_P D vwCl (sv_ws T h θ σ') t.heap) A) args s 0 0 A) (F0 m 14 ls []) := by
  have hx := F.1.1
  have hb := F.1.2.1
  have hts := F.1.2.2.2.2
  have hown := F.1.2.2.2.1
  have hK := F.2.1
  intro n
  induction n with
  | zero =>
    intro x1 σ H locs ls hl hW hs
    have hs : (none : Option (Int32 × sv_S)) = some (r, σ') := hs
    cases hs
  | succ n ih =>
    intro x1 σ H locs ls hl hW hs
    have hs : q_X8_text_B14_b θ  (q_X8_text_B14 θ  n) x1 σ = some (r, σ') := hs
    unfold q_X8_text_B14_b at hs
    refine lv_iload_n hx hb dX8_text_14 rfl (lv_at hl 1 rfl) ?_
    refine lv_aload_n hx hb dX8_text_15 rfl (lv_at hl 0 rfl) ?_
    refine sv_get (own := RX8) (C := RX8) (Tf := TX8) (N := 44) (index := 112) (κ := (0, 0)) (v := .int (σ.1 0 6)) hx hb hts hown hK hW (fun _ h => List.mem_cons_of_mem _ (List.mem_append_right _ h)) (sm_i 0 hB (by decide)) (sm_c0 hB) rfl 6 (by decide) rfl rfl (List.mem_of_getElem? (i := 2) rfl) dX8_text_16 ?_
    refine lv_icmp_ge (tgt := 49) hx hb dX8_text_19 (by decide) (fun c2 => ?_) (fun c2 => ?_)
    · replace hs := (sp_ite hs).1 c2
      refine lv_aload_n hx hb dX8_text_49 rfl (lv_at hl 0 rfl) ?_
      refine sv_get (own := RX8) (C := RX8) (Tf := TX8) (N := 44) (index := 17) (κ := (3, 2)) (v := .ref (h 2)) hx hb hts hown hK hW (fun _ h => List.mem_cons_of_mem _ (List.mem_append_right _ h)) (sm_i 0 hB (by decide)) (sm_c0 hB) rfl 2 (by decide) rfl rfl (List.mem_of_getElem? (i := 5) rfl) dX8_text_50 ?_
      refine lv_aload_n hx hb dX8_text_53 rfl (lv_at hl 0 rfl) ?_
      refine sv_get (own := RX8) (C := RX8) (Tf := TX8) (N := 44) (index := 61) (κ := (0, 0)) (v := .int (σ.1 0 3)) hx hb hts hown hK hW (fun _ h => List.mem_cons_of_mem _ (List.mem_append_right _ h)) (sm_i 0 hB (by decide)) (sm_c0 hB) rfl 3 (by decide) rfl rfl (List.mem_of_getElem? (i := 1) rfl) dX8_text_54 ?_
      refine lv_aload_n hx hb dX8_text_57 rfl (lv_at hl 0 rfl) ?_
      refine sv_get (own := RX8) (C := RX8) (Tf := TX8) (N := 44) (index := 112) (κ := (0, 0)) (v := .int (σ.1 0 6)) hx hb hts hown hK hW (fun _ h => List.mem_cons_of_mem _ (List.mem_append_right _ h)) (sm_i 0 hB (by decide)) (sm_c0 hB) rfl 6 (by decide) rfl rfl (List.mem_of_getElem? (i := 2) rfl) dX8_text_58 ?_
      obtain ⟨hi3, hs⟩ := sp_g hs
      refine sv_iast hx hb hK hW (sm_i 2 hB (by decide)) (sm_c2 hB) 0 rfl hi3 dX8_text_61 (fun σ4 H locs eσ4 hW => ?_)
      replace hs := sp_let hs eσ4
      refine lv_aload_n hx hb dX8_text_62 rfl (lv_at hl 0 rfl) ?_
      refine lv_iconst (v := 0) hx hb dX8_text_63 (by decide) ?_
      refine sv_putI (own := RX8) (C := RX8) (Tf := TX8) (N := 44) (index := 112) hx hb hts hown hK hW (fun _ h => List.mem_cons_of_mem _ (List.mem_append_right _ h)) tyX8 tyX8_ok nmX8 (sm_i 0 hB (by decide)) (sm_c0 hB) rfl 6 (by decide) rfl rfl (ty := .int) (by decide +kernel) rfl rfl (List.mem_of_getElem? (i := 2) rfl) dX8_text_64 (fun σ5 H locs eσ5 hW => ?_)
      replace hs := sp_let hs eσ5
      refine lv_aload_n hx hb dX8_text_67 rfl (lv_at hl 0 rfl) ?_
      refine lv_aload_n hx hb dX8_text_68 rfl (lv_at hl 0 rfl) ?_
      refine sv_get (own := RX8) (C := RX8) (Tf := TX8) (N := 44) (index := 61) (κ := (0, 0)) (v := .int (σ5.1 0 3)) hx hb hts hown hK hW (fun _ h => List.mem_cons_of_mem _ (List.mem_append_right _ h)) (sm_i 0 hB (by decide)) (sm_c0 hB) rfl 3 (by decide) rfl rfl (List.mem_of_getElem? (i := 1) rfl) dX8_text_69 ?_
      refine lv_iconst (v := 0) hx hb dX8_text_72 (by decide) ?_
      obtain ⟨r6, σ7, eσ7, hs⟩ := sp_bind hs
      refine sv_goI (σ' := σ7) (r := r6) hW F.2.2.2.1 (sv_runV (C := RX8) F hW (k_X8_read hB eσ7 H.size) gX8_text_X8_read rfl ⟨rfl, rfl⟩ 2 (by decide +kernel) (sv_room2 (by omega) (by omega)) (sm_i 0 hB (by decide)) (sm_c0 hB) rfl rfl hl.1 rfl (Nat.le_of_ble_eq_true rfl) dX8_text_73 ⟨Nat.zero_le _, Nat.zero_le _⟩) (fun H locs hW => ?_)
      refine lv_istore_n (lv' := [(1, .int r6), (0, .ref (h 0))]) hx hb dX8_text_76 rfl hl (by decide) rfl (fun ls hl => ?_)
      refine lv_aload_n hx hb dX8_text_77 rfl (lv_at hl 1 rfl) ?_
      refine sv_get (own := RX8) (C := RX8) (Tf := TX8) (N := 44) (index := 147) (κ := (0, 0)) (v := .int (σ7.1 0 25)) hx hb hts hown hK hW (fun _ h => List.mem_cons_of_mem _ (List.mem_append_right _ h)) (sm_i 0 hB (by decide)) (sm_c0 hB) rfl 25 (by decide) rfl rfl (List.mem_of_getElem? (i := 6) rfl) dX8_text_78 ?_
      refine lv_if_eq (tgt := 92) hx hb dX8_text_81 (by decide) (fun c8 => ?_) (fun c8 => ?_)
      · replace hs := (sp_ite hs).1 c8
        refine lv_aload_n hx hb dX8_text_92 rfl (lv_at hl 1 rfl) ?_
        refine lv_dup hx hb dX8_text_93 rfl ?_
        refine sv_get (own := RX8) (C := RX8) (Tf := TX8) (N := 44) (index := 61) (κ := (0, 0)) (v := .int (σ7.1 0 3)) hx hb hts hown hK hW (fun _ h => List.mem_cons_of_mem _ (List.mem_append_right _ h)) (sm_i 0 hB (by decide)) (sm_c0 hB) rfl 3 (by decide) rfl rfl (List.mem_of_getElem? (i := 1) rfl) dX8_text_94 ?_
        refine lv_iconst (v := 1) hx hb dX8_text_97 (by decide) ?_
        refine lv_iadd hx hb dX8_text_98 ?_
        refine sv_putI (own := RX8) (C := RX8) (Tf := TX8) (N := 44) (index := 61) hx hb hts hown hK hW (fun _ h => List.mem_cons_of_mem _ (List.mem_append_right _ h)) tyX8 tyX8_ok nmX8 (sm_i 0 hB (by decide)) (sm_c0 hB) rfl 3 (by decide) rfl rfl (ty := .int) (by decide +kernel) rfl rfl (List.mem_of_getElem? (i := 1) rfl) dX8_text_99 (fun σ9 H locs eσ9 hW => ?_)
        replace hs := sp_let hs eσ9
        refine lv_aload_n hx hb dX8_text_102 rfl (lv_at hl 1 rfl) ?_
        refine sv_get (own := RX8) (C := RX8) (Tf := TX8) (N := 44) (index := 61) (κ := (0, 0)) (v := .int (σ9.1 0 3)) hx hb hts hown hK hW (fun _ h => List.mem_cons_of_mem _ (List.mem_append_right _ h)) (sm_i 0 hB (by decide)) (sm_c0 hB) rfl 3 (by decide) rfl rfl (List.mem_of_getElem? (i := 1) rfl) dX8_text_103 ?_
        refine lv_iconst (v := 1) hx hb dX8_text_106 (by decide) ?_
        refine lv_isub hx hb dX8_text_107 ?_
        cases hs
        exact sv_iret hx hb hr rfl hlk hW dX8_text_108
      · replace hs := (sp_ite hs).2 c8
        refine lv_bipush (v := -100) hx hb dX8_text_84 (by decide) ?_
        refine lv_aload_n hx hb dX8_text_86 rfl (lv_at hl 1 rfl) ?_
        refine sv_get (own := RX8) (C := RX8) (Tf := TX8) (N := 44) (index := 151) (κ := (0, 0)) (v := .int (σ7.1 0 26)) hx hb hts hown hK hW (fun _ h => List.mem_cons_of_mem _ (List.mem_append_right _ h)) (sm_i 0 hB (by decide)) (sm_c0 hB) rfl 26 (by decide) rfl rfl (List.mem_of_getElem? (i := 7) rfl) dX8_text_87 ?_
        refine lv_isub hx hb dX8_text_90 ?_
        obtain ⟨hq1, hq2⟩ := Prod.mk.inj (Option.some.inj hs)
        subst hq1
        subst hq2
        exact sv_iret hx hb hr rfl hlk hW dX8_text_91
    · replace hs := (sp_ite hs).2 c2
      refine lv_aload_n hx hb dX8_text_22 rfl (lv_at hl 0 rfl) ?_
      refine sv_get (own := RX8) (C := RX8) (Tf := TX8) (N := 44) (index := 13) (κ := (3, 1)) (v := .ref (h 1)) hx hb hts hown hK hW (fun _ h => List.mem_cons_of_mem _ (List.mem_append_right _ h)) (sm_i 0 hB (by decide)) (sm_c0 hB) rfl 1 (by decide) rfl rfl (List.mem_of_getElem? (i := 3) rfl) dX8_text_23 ?_
      refine lv_sipush (v := 160) hx hb dX8_text_26 (by decide) ?_
      refine lv_aload_n hx hb dX8_text_29 rfl (lv_at hl 0 rfl) ?_
      refine sv_get (own := RX8) (C := RX8) (Tf := TX8) (N := 44) (index := 61) (κ := (0, 0)) (v := .int (σ.1 0 3)) hx hb hts hown hK hW (fun _ h => List.mem_cons_of_mem _ (List.mem_append_right _ h)) (sm_i 0 hB (by decide)) (sm_c0 hB) rfl 3 (by decide) rfl rfl (List.mem_of_getElem? (i := 1) rfl) dX8_text_30 ?_
      refine lv_imul hx hb dX8_text_33 ?_
      refine lv_iload_n hx hb dX8_text_34 rfl (lv_at hl 1 rfl) ?_
      refine lv_iadd hx hb dX8_text_35 ?_
      refine lv_aload_n hx hb dX8_text_36 rfl (lv_at hl 0 rfl) ?_
      refine sv_get (own := RX8) (C := RX8) (Tf := TX8) (N := 44) (index := 20) (κ := (3, 3)) (v := .ref (h 3)) hx hb hts hown hK hW (fun _ h => List.mem_cons_of_mem _ (List.mem_append_right _ h)) (sm_i 0 hB (by decide)) (sm_c0 hB) rfl 5 (by decide) rfl rfl (List.mem_of_getElem? (i := 4) rfl) dX8_text_37 ?_
      refine lv_iload_n hx hb dX8_text_40 rfl (lv_at hl 1 rfl) ?_
      obtain ⟨hi10, hs⟩ := sp_g hs
      refine sv_iald hx hb hK hW (sm_i 3 hB (by decide)) (sm_c3 hB) 0 rfl hi10 dX8_text_41 ?_
      obtain ⟨hi11, hs⟩ := sp_g hs
      refine sv_iast hx hb hK hW (sm_i 1 hB (by decide)) (sm_c1 hB) 0 rfl hi11 dX8_text_42 (fun σ12 H locs eσ12 hW => ?_)
      replace hs := sp_let hs eσ12
      obtain ⟨v13, ev13⟩ : ∃ y : Int32, y = x1 + 1 := ⟨_, rfl⟩
      replace hs := sp_let hs ev13
      refine lv_iinc (v := v13) (lv' := [(1, .int v13), (0, .ref (h 0))]) hx hb dX8_text_43 hl (k := 1) rfl (by rw [ev13]; rfl) (by decide) rfl (fun ls hl => ?_)
      refine lv_goto (tgt := 14) hx hb dX8_text_46 (by decide) ?_
      exact ih v13 σ12 H locs ls (lv_sub hl [1, 0] rfl) hW hs
set_option maxRecDepth 100000 in
set_option maxHeartbeats 4000000 in
theorem k_X8_text {l : Launch} {D : va_G} {T : Nat → ClassId} {h : Nat → Nat} {θ : sv_T}  {σ : sv_S} {r : Int32} {σ' : sv_S} (hB : sm_base θ)  (hs : q_X8_text θ  σ = some (r, σ')) : sv_Mi sm_X l D T (sm_tys T) h θ yX8_text wsX8_text (sv_rm 63 2469) [.ref (h 0)] σ r σ' := by
  intro sz
  refine sv_enter (cc := cX8_text) (maxL := 2) (ret := (some .int)) (Qc := fun A => va_Qi (fun r2 (_ : Unit) => r2 = r) (fun _ t => va_P D vwCl (sv_ws T h θ σ') t.heap) A) sm_XP (by decide) rfl (Nat.le_of_ble_eq_true rfl) ?_
  intro p e s m args below meth c A F hr hlk ls H hl hW
  have hx := F.1.1
  have hb := F.1.2.1
  have hts := F.1.2.2.2.2
  have hown := F.1.2.2.2.1
  have hK := F.2.1
  obtain ⟨locs, hlocs⟩ : ∃ z : List Loc, z = [] := ⟨_, rfl⟩
  rw [← hlocs] at hW ⊢
  have hl : lv_has ls 2 [(0, .ref (h 0))] := hl
  unfold q_X8_text at hs
  refine lv_aload_n hx hb dX8_text_0 rfl (lv_at hl 0 rfl) ?_
  refine sv_get (own := RX8) (C := RX8) (Tf := TX8) (N := 44) (index := 61) (κ := (0, 0)) (v := .int (σ.1 0 3)) hx hb hts hown hK hW (fun _ h => List.mem_cons_of_mem _ (List.mem_append_right _ h)) (sm_i 0 hB (by decide)) (sm_c0 hB) rfl 3 (by decide) rfl rfl (List.mem_of_getElem? (i := 1) rfl) dX8_text_1 ?_
  refine lv_bipush (v := 6) hx hb dX8_text_4 (by decide) ?_
  refine lv_icmp_ne (tgt := 12) hx hb dX8_text_6 (by decide) (fun c1 => ?_) (fun c1 => ?_)
  · replace hs := (sp_ite hs).2 c1
    refine lv_iconst (v := 0) hx hb dX8_text_12 (by decide) ?_
    refine lv_istore_n (lv' := [(1, .int (0 : Int32)), (0, .ref (h 0))]) hx hb dX8_text_13 rfl hl (by decide) rfl (fun ls hl => ?_)
    exact b_X8_text_14 hB F hr hlk sv_N (0 : Int32) σ H locs ls (lv_sub hl [1, 0] rfl) hW hs
  · replace hs := (sp_ite hs).1 c1
    refine lv_bipush (v := -4) hx hb dX8_text_9 (by decide) ?_
    cases hs
    exact sv_iret hx hb hr rfl hlk hW dX8_text_11
set_option maxRecDepth 100000 in
set_option maxHeartbeats 4000000 in
theorem k_X8_force {l : Launch} {D : va_G} {T : Nat → ClassId} {h : Nat → Nat} {θ : sv_T} {a1 : Int32} {σ : sv_S} {r : Int32} {σ' : sv_S} (hB : sm_base θ)  (hs : q_X8_force θ a1 σ = some (r, σ')) : sv_Mi sm_X l D T (sm_tys T) h θ yX8_force wsX8_force (sv_rm 1 25) [.ref (h 0), .int a1] σ r σ' := by
  intro sz
  refine sv_enter (cc := cX8_force) (maxL := 3) (ret := (some .int)) (Qc := fun A => va_Qi (fun r2 (_ : Unit) => r2 = r) (fun _ t => va_P D vwCl (sv_ws T h θ σ') t.heap) A) sm_XP (by decide) rfl (Nat.le_of_ble_eq_true rfl) ?_
  intro p e s m args below meth c A F hr hlk ls H hl hW
  have hx := F.1.1
  have hb := F.1.2.1
  have hts := F.1.2.2.2.2
  have hown := F.1.2.2.2.1
  have hK := F.2.1
  obtain ⟨locs, hlocs⟩ : ∃ z : List Loc, z = [] := ⟨_, rfl⟩
  rw [← hlocs] at hW ⊢
  have hl : lv_has ls 3 [(0, .ref (h 0)), (1, .int a1)] := hl
  unfold q_X8_force at hs
  refine lv_iload_n hx hb dX8_force_0 rfl (lv_at hl 1 rfl) ?_
  refine lv_i2l (v := a1.toInt64) hx hb dX8_force_1 rfl ?_
  refine lv_lconst (v := 0) hx hb dX8_force_2 (by decide) ?_
  refine lv_aload_n hx hb dX8_force_3 rfl (lv_at hl 0 rfl) ?_
  refine sv_get (own := RX8) (C := RX8) (Tf := TX8) (N := 44) (index := 61) (κ := (0, 0)) (v := .int (σ.1 0 3)) hx hb hts hown hK hW (fun _ h => List.mem_cons_of_mem _ (List.mem_append_right _ h)) (sm_i 0 hB (by decide)) (sm_c0 hB) rfl 3 (by decide) rfl rfl (List.mem_of_getElem? (i := 1) rfl) dX8_force_4 ?_
  refine lv_iconst (v := 1) hx hb dX8_force_7 (by decide) ?_
  refine lv_isub hx hb dX8_force_8 ?_
  refine lv_i2l (v := ((σ.1 0 3) - (1 : Int32)).toInt64) hx hb dX8_force_9 rfl ?_
  obtain ⟨r1, σ2, eσ2, hs⟩ := sp_bind hs
  refine sv_goI (σ' := σ2) (r := r1) hW F.2.2.2.1 (sv_runT F hW (k_X8_in hB eσ2 H.size) gX8_force_X8_in rfl ⟨rfl, rfl⟩ 3 (by decide +kernel) (sv_room2 (by omega) (by omega)) rfl hl.1 rfl (Nat.le_of_ble_eq_true rfl) dX8_force_10 ⟨Nat.zero_le _, Nat.zero_le _⟩) (fun H locs hW => ?_)
  refine lv_if_ne (tgt := 19) hx hb dX8_force_13 (by decide) (fun c3 => ?_) (fun c3 => ?_)
  · replace hs := (sp_ite hs).2 c3
    refine lv_aload_n hx hb dX8_force_19 rfl (lv_at hl 0 rfl) ?_
    refine sv_get (own := RX8) (C := RX8) (Tf := TX8) (N := 44) (index := 103) (κ := (0, 0)) (v := .int (σ2.1 0 4)) hx hb hts hown hK hW (fun _ h => List.mem_cons_of_mem _ (List.mem_append_right _ h)) (sm_i 0 hB (by decide)) (sm_c0 hB) rfl 4 (by decide) rfl rfl (List.mem_of_getElem? (i := 2) rfl) dX8_force_20 ?_
    refine lv_topi (fun v4 ev4 => ?_)
    replace hs := sp_let hs ev4
    refine lv_istore_n (lv' := [(2, .int v4), (0, .ref (h 0)), (1, .int a1)]) hx hb dX8_force_23 rfl hl (by decide) rfl (fun ls hl => ?_)
    refine lv_aload_n hx hb dX8_force_24 rfl (lv_at hl 1 rfl) ?_
    refine lv_iload_n hx hb dX8_force_25 rfl (lv_at hl 2 rfl) ?_
    refine sv_putI (own := RX8) (C := RX8) (Tf := TX8) (N := 44) (index := 103) hx hb hts hown hK hW (fun _ h => List.mem_cons_of_mem _ (List.mem_append_right _ h)) tyX8 tyX8_ok nmX8 (sm_i 0 hB (by decide)) (sm_c0 hB) rfl 4 (by decide) rfl rfl (ty := .int) (by decide +kernel) rfl rfl (List.mem_of_getElem? (i := 2) rfl) dX8_force_26 (fun σ5 H locs eσ5 hW => ?_)
    replace hs := sp_let hs eσ5
    refine lv_iload_n hx hb dX8_force_29 rfl (lv_at hl 0 rfl) ?_
    cases hs
    exact sv_iret hx hb hr rfl hlk hW dX8_force_30
  · replace hs := (sp_ite hs).1 c3
    refine lv_bipush (v := -2) hx hb dX8_force_16 (by decide) ?_
    cases hs
    exact sv_iret hx hb hr rfl hlk hW dX8_force_18
set_option maxRecDepth 100000 in
set_option maxHeartbeats 4000000 in
theorem k_X8_isShaken {l : Launch} {D : va_G} {T : Nat → ClassId} {h : Nat → Nat} {θ : sv_T} {a1 : Int32} {σ : sv_S} {r : Int32} {σ' : sv_S} (hB : sm_base θ)  (hs : q_X8_isShaken θ a1 σ = some (r, σ')) : sv_Mi sm_X l D T (sm_tys T) h θ yX8_isShaken wsX8_isShaken (sv_rm 0 0) [.ref (h 0), .int a1] σ r σ' := by
  intro sz
  refine sv_enter (cc := cX8_isShaken) (maxL := 2) (ret := (some .boolean)) (Qc := fun A => va_Qi (fun r2 (_ : Unit) => r2 = r) (fun _ t => va_P D vwCl (sv_ws T h θ σ') t.heap) A) sm_XP (by decide) rfl (Nat.le_of_ble_eq_true rfl) ?_
  intro p e s m args below meth c A F hr hlk ls H hl hW
  have hx := F.1.1
  have hb := F.1.2.1
  have hts := F.1.2.2.2.2
  have hown := F.1.2.2.2.1
  have hK := F.2.1
  obtain ⟨locs, hlocs⟩ : ∃ z : List Loc, z = [] := ⟨_, rfl⟩
  rw [← hlocs] at hW ⊢
  have hl : lv_has ls 2 [(0, .ref (h 0)), (1, .int a1)] := hl
  unfold q_X8_isShaken at hs
  refine lv_aload_n hx hb dX8_isShaken_0 rfl (lv_at hl 0 rfl) ?_
  refine sv_get (own := RX8) (C := RX8) (Tf := TX8) (N := 44) (index := 29) (κ := (3, 6)) (v := .ref (h 6)) hx hb hts hown hK hW (fun _ h => List.mem_cons_of_mem _ (List.mem_append_right _ h)) (sm_i 0 hB (by decide)) (sm_c0 hB) rfl 10 (by decide) rfl rfl (List.mem_of_getElem? (i := 1) rfl) dX8_isShaken_1 ?_
  refine lv_iconst (v := 3) hx hb dX8_isShaken_4 (by decide) ?_
  refine lv_iload_n hx hb dX8_isShaken_5 rfl (lv_at hl 1 rfl) ?_
  refine lv_imul hx hb dX8_isShaken_6 ?_
  refine lv_iconst (v := 2) hx hb dX8_isShaken_7 (by decide) ?_
  refine lv_iadd hx hb dX8_isShaken_8 ?_
  obtain ⟨hi1, hs⟩ := sp_g hs
  refine sv_iald hx hb hK hW (sm_i 6 hB (by decide)) (sm_c6 hB) 0 rfl hi1 dX8_isShaken_9 ?_
  refine lv_iconst (v := 1) hx hb dX8_isShaken_10 (by decide) ?_
  refine lv_icmp_ne (tgt := 18) hx hb dX8_isShaken_11 (by decide) (fun c2 => ?_) (fun c2 => ?_)
  · replace hs := (sp_ite hs).2 c2
    refine lv_iconst (v := 0) hx hb dX8_isShaken_18 (by decide) ?_
    cases hs
    exact sv_iret hx hb hr rfl hlk hW dX8_isShaken_19
  · replace hs := (sp_ite hs).1 c2
    refine lv_iconst (v := 1) hx hb dX8_isShaken_14 (by decide) ?_
    refine lv_goto (tgt := 19) hx hb dX8_isShaken_15 (by decide) ?_
    cases hs
    exact sv_iret hx hb hr rfl hlk hW dX8_isShaken_19
set_option maxRecDepth 100000 in
set_option maxHeartbeats 4000000 in
theorem b_X8_shakenMany_4 {p : Program} {l : Launch} {e : Env} {s : State} {m : MethodId} {args : Array Value} {below : List Frame} {meth : Method} {c : Code} {D : va_G} {T : Nat → ClassId} {A : Nat → Prop} {h : Nat → Nat} {θ : sv_T}  {r : Int32} {σ' : sv_S} (hB : sm_base θ)  (F : sv_F sm_X p m c cX8_shakenMany 3 s args wsX8_shakenMany RX8 D (sm_tys T) A) (hr : meth.sig.returnType = (some .int)) (hlk : meth.locks = false)  : ∀ (n : Nat), ∀ (x1 : Int32) (x2 : Int32) (σ : sv_S) (H : Heap) (locs : List Loc) (ls : Array Slot), lv_has ls 3 [(0, .ref (h 0)), (1, .int x1), (2, .int x2)] → sv_W D T A s h θ σ H locs → q_X8_shakenMany_B4 θ  n x1 x2 σ = some (r, σ') → W p l e (sv_rm 0 0) s m args below meth c H locs 0 0 (MQ below (va_Qi (fun r2 (_ : Unit) => r2 = r) (fun _ t => va_P D vwCl (sv_ws T h θ σ') t.heap) A) args s 0 0 A) (F0 m 4 ls []) := by
  have hx := F.1.1
  have hb := F.1.2.1
  have hts := F.1.2.2.2.2
  have hown := F.1.2.2.2.1
  have hK := F.2.1
  intro n
  induction n with
  | zero =>
    intro x1 x2 σ H locs ls hl hW hs
    have hs : (none : Option (Int32 × sv_S)) = some (r, σ') := hs
    cases hs
  | succ n ih =>
    intro x1 x2 σ H locs ls hl hW hs
    have hs : q_X8_shakenMany_B4_b θ  (q_X8_shakenMany_B4 θ  n) x1 x2 σ = some (r, σ') := hs
    unfold q_X8_shakenMany_B4_b at hs
    refine lv_iload_n hx hb dX8_shakenMany_4 rfl (lv_at hl 2 rfl) ?_
    refine lv_aload_n hx hb dX8_shakenMany_5 rfl (lv_at hl 0 rfl) ?_
    refine sv_get (own := RX8) (C := RX8) (Tf := TX8) (N := 44) (index := 64) (κ := (0, 0)) (v := .int (σ.1 0 11)) hx hb hts hown hK hW (fun _ h => List.mem_cons_of_mem _ (List.mem_append_right _ h)) (sm_i 0 hB (by decide)) (sm_c0 hB) rfl 11 (by decide) rfl rfl (List.mem_of_getElem? (i := 1) rfl) dX8_shakenMany_6 ?_
    refine lv_icmp_ge (tgt := 31) hx hb dX8_shakenMany_9 (by decide) (fun c1 => ?_) (fun c1 => ?_)
    · replace hs := (sp_ite hs).1 c1
      refine lv_iload_n hx hb dX8_shakenMany_31 rfl (lv_at hl 1 rfl) ?_
      cases hs
      exact sv_iret hx hb hr rfl hlk hW dX8_shakenMany_32
    · replace hs := (sp_ite hs).2 c1
      refine lv_iload_n hx hb dX8_shakenMany_12 rfl (lv_at hl 1 rfl) ?_
      refine lv_aload_n hx hb dX8_shakenMany_13 rfl (lv_at hl 0 rfl) ?_
      refine sv_get (own := RX8) (C := RX8) (Tf := TX8) (N := 44) (index := 29) (κ := (3, 6)) (v := .ref (h 6)) hx hb hts hown hK hW (fun _ h => List.mem_cons_of_mem _ (List.mem_append_right _ h)) (sm_i 0 hB (by decide)) (sm_c0 hB) rfl 10 (by decide) rfl rfl (List.mem_of_getElem? (i := 2) rfl) dX8_shakenMany_14 ?_
      refine lv_iconst (v := 3) hx hb dX8_shakenMany_17 (by decide) ?_
      refine lv_iload_n hx hb dX8_shakenMany_18 rfl (lv_at hl 2 rfl) ?_
      refine lv_imul hx hb dX8_shakenMany_19 ?_
      refine lv_iconst (v := 2) hx hb dX8_shakenMany_20 (by decide) ?_
      refine lv_iadd hx hb dX8_shakenMany_21 ?_
      obtain ⟨hi2, hs⟩ := sp_g hs
      refine sv_iald hx hb hK hW (sm_i 6 hB (by decide)) (sm_c6 hB) 0 rfl hi2 dX8_shakenMany_22 ?_
      refine lv_iadd hx hb dX8_shakenMany_23 ?_
      refine lv_topi (fun v3 ev3 => ?_)
      replace hs := sp_let hs ev3
      refine lv_istore_n (lv' := [(1, .int v3), (0, .ref (h 0)), (2, .int x2)]) hx hb dX8_shakenMany_24 rfl hl (by decide) rfl (fun ls hl => ?_)
      obtain ⟨v4, ev4⟩ : ∃ y : Int32, y = x2 + 1 := ⟨_, rfl⟩
      replace hs := sp_let hs ev4
      refine lv_iinc (v := v4) (lv' := [(2, .int v4), (1, .int v3), (0, .ref (h 0))]) hx hb dX8_shakenMany_25 hl (k := 2) rfl (by rw [ev4]; rfl) (by decide) rfl (fun ls hl => ?_)
      refine lv_goto (tgt := 4) hx hb dX8_shakenMany_28 (by decide) ?_
      exact ih v3 v4 σ H locs ls (lv_sub hl [2, 1, 0] rfl) hW hs
set_option maxRecDepth 100000 in
set_option maxHeartbeats 4000000 in
theorem k_X8_shakenMany {l : Launch} {D : va_G} {T : Nat → ClassId} {h : Nat → Nat} {θ : sv_T}  {σ : sv_S} {r : Int32} {σ' : sv_S} (hB : sm_base θ)  (hs : q_X8_shakenMany θ  σ = some (r, σ')) : sv_Mi sm_X l D T (sm_tys T) h θ yX8_shakenMany wsX8_shakenMany (sv_rm 0 0) [.ref (h 0)] σ r σ' := by
  intro sz
  refine sv_enter (cc := cX8_shakenMany) (maxL := 3) (ret := (some .int)) (Qc := fun A => va_Qi (fun r2 (_ : Unit) => r2 = r) (fun _ t => va_P D vwCl (sv_ws T h θ σ') t.heap) A) sm_XP (by decide) rfl (Nat.le_of_ble_eq_true rfl) ?_
  intro p e s m args below meth c A F hr hlk ls H hl hW
  have hx := F.1.1
  have hb := F.1.2.1
  have hts := F.1.2.2.2.2
  have hown := F.1.2.2.2.1
  have hK := F.2.1
  obtain ⟨locs, hlocs⟩ : ∃ z : List Loc, z = [] := ⟨_, rfl⟩
  rw [← hlocs] at hW ⊢
  have hl : lv_has ls 3 [(0, .ref (h 0))] := hl
  unfold q_X8_shakenMany at hs
  refine lv_iconst (v := 0) hx hb dX8_shakenMany_0 (by decide) ?_
  refine lv_istore_n (lv' := [(1, .int (0 : Int32)), (0, .ref (h 0))]) hx hb dX8_shakenMany_1 rfl hl (by decide) rfl (fun ls hl => ?_)
  refine lv_iconst (v := 0) hx hb dX8_shakenMany_2 (by decide) ?_
  refine lv_istore_n (lv' := [(2, .int (0 : Int32)), (1, .int (0 : Int32)), (0, .ref (h 0))]) hx hb dX8_shakenMany_3 rfl hl (by decide) rfl (fun ls hl => ?_)
  exact b_X8_shakenMany_4 hB F hr hlk sv_N (0 : Int32) (0 : Int32) σ H locs ls (lv_sub hl [2, 1, 0] rfl) hW hs
set_option maxRecDepth 100000 in
set_option maxHeartbeats 4000000 in
theorem k_X8_rainOf {l : Launch} {D : va_G} {T : Nat → ClassId} {h : Nat → Nat} {θ : sv_T} {a1 : Int32} {a2 : Int32} {σ : sv_S} {r : Int32} {σ' : sv_S} (hB : sm_base θ)  (hs : q_X8_rainOf θ a1 a2 σ = some (r, σ')) : sv_Mi sm_X l D T (sm_tys T) h θ yX8_rainOf wsX8_rainOf (sv_rm 0 0) [.ref (h 0), .int a1, .int a2] σ r σ' := by
  intro sz
  refine sv_enter (cc := cX8_rainOf) (maxL := 3) (ret := (some .int)) (Qc := fun A => va_Qi (fun r2 (_ : Unit) => r2 = r) (fun _ t => va_P D vwCl (sv_ws T h θ σ') t.heap) A) sm_XP (by decide) rfl (Nat.le_of_ble_eq_true rfl) ?_
  intro p e s m args below meth c A F hr hlk ls H hl hW
  have hx := F.1.1
  have hb := F.1.2.1
  have hts := F.1.2.2.2.2
  have hown := F.1.2.2.2.1
  have hK := F.2.1
  obtain ⟨locs, hlocs⟩ : ∃ z : List Loc, z = [] := ⟨_, rfl⟩
  rw [← hlocs] at hW ⊢
  have hl : lv_has ls 3 [(0, .ref (h 0)), (1, .int a1), (2, .int a2)] := hl
  unfold q_X8_rainOf at hs
  refine lv_aload_n hx hb dX8_rainOf_0 rfl (lv_at hl 0 rfl) ?_
  refine sv_get (own := RX8) (C := RX8) (Tf := TX8) (N := 44) (index := 23) (κ := (3, 4)) (v := .ref (h 4)) hx hb hts hown hK hW (fun _ h => List.mem_cons_of_mem _ (List.mem_append_right _ h)) (sm_i 0 hB (by decide)) (sm_c0 hB) rfl 8 (by decide) rfl rfl (List.mem_of_getElem? (i := 1) rfl) dX8_rainOf_1 ?_
  refine lv_bipush (v := 24) hx hb dX8_rainOf_4 (by decide) ?_
  refine lv_aload_n hx hb dX8_rainOf_6 rfl (lv_at hl 0 rfl) ?_
  refine sv_get (own := RX8) (C := RX8) (Tf := TX8) (N := 44) (index := 29) (κ := (3, 6)) (v := .ref (h 6)) hx hb hts hown hK hW (fun _ h => List.mem_cons_of_mem _ (List.mem_append_right _ h)) (sm_i 0 hB (by decide)) (sm_c0 hB) rfl 10 (by decide) rfl rfl (List.mem_of_getElem? (i := 2) rfl) dX8_rainOf_7 ?_
  refine lv_iconst (v := 3) hx hb dX8_rainOf_10 (by decide) ?_
  refine lv_iload_n hx hb dX8_rainOf_11 rfl (lv_at hl 1 rfl) ?_
  refine lv_imul hx hb dX8_rainOf_12 ?_
  refine lv_iconst (v := 1) hx hb dX8_rainOf_13 (by decide) ?_
  refine lv_iadd hx hb dX8_rainOf_14 ?_
  obtain ⟨hi1, hs⟩ := sp_g hs
  refine sv_iald hx hb hK hW (sm_i 6 hB (by decide)) (sm_c6 hB) 0 rfl hi1 dX8_rainOf_15 ?_
  refine lv_imul hx hb dX8_rainOf_16 ?_
  refine lv_iload_n hx hb dX8_rainOf_17 rfl (lv_at hl 2 rfl) ?_
  refine lv_iadd hx hb dX8_rainOf_18 ?_
  obtain ⟨hi2, hs⟩ := sp_g hs
  refine sv_iald hx hb hK hW (sm_i 4 hB (by decide)) (sm_c4 hB) 0 rfl hi2 dX8_rainOf_19 ?_
  cases hs
  exact sv_iret hx hb hr rfl hlk hW dX8_rainOf_20
set_option maxRecDepth 100000 in
set_option maxHeartbeats 4000000 in
theorem k_X8_says {l : Launch} {D : va_G} {T : Nat → ClassId} {h : Nat → Nat} {θ : sv_T} {a1 : Int32} {a2 : Int32} {a3 : Int32} {a4 : Int32} {σ : sv_S} {r : Int32} {σ' : sv_S} (hB : sm_base θ)  (hs : q_X8_says θ a1 a2 a3 a4 σ = some (r, σ')) : sv_Mi sm_X l D T (sm_tys T) h θ yX8_says wsX8_says (sv_rm 63 2469) [.ref (h 0), .int a1, .int a2, .int a3, .int a4] σ r σ' := by
  intro sz
  refine sv_enter (cc := cX8_says) (maxL := 5) (ret := (some .int)) (Qc := fun A => va_Qi (fun r2 (_ : Unit) => r2 = r) (fun _ t => va_P D vwCl (sv_ws T h θ σ') t.heap) A) sm_XP (by decide) rfl (Nat.le_of_ble_eq_true rfl) ?_
  intro p e s m args below meth c A F hr hlk ls H hl hW
  have hx := F.1.1
  have hb := F.1.2.1
  have hts := F.1.2.2.2.2
  have hown := F.1.2.2.2.1
  have hK := F.2.1
  obtain ⟨locs, hlocs⟩ : ∃ z : List Loc, z = [] := ⟨_, rfl⟩
  rw [← hlocs] at hW ⊢
  have hl : lv_has ls 5 [(0, .ref (h 0)), (1, .int a1), (2, .int a2), (3, .int a3), (4, .int a4)] := hl
  unfold q_X8_says at hs
  refine lv_aload_n hx hb dX8_says_0 rfl (lv_at hl 0 rfl) ?_
  refine lv_aload_n hx hb dX8_says_1 rfl (lv_at hl 0 rfl) ?_
  refine lv_iload_n hx hb dX8_says_2 rfl (lv_at hl 2 rfl) ?_
  refine lv_iload_n hx hb dX8_says_3 rfl (lv_at hl 3 rfl) ?_
  obtain ⟨r1, σ2, eσ2, hs⟩ := sp_bind hs
  refine sv_goI (σ' := σ2) (r := r1) hW F.2.2.2.1 (sv_runV (C := RX8) F hW (k_X8_rainOf hB eσ2 H.size) gX8_says_X8_rainOf rfl ⟨rfl, rfl⟩ 2 (by decide +kernel) (sv_room2 (by omega) (by omega)) (sm_i 0 hB (by decide)) (sm_c0 hB) rfl rfl hl.1 rfl (Nat.le_of_ble_eq_true rfl) dX8_says_4 ⟨Nat.zero_le _, Nat.zero_le _⟩) (fun H locs hW => ?_)
  refine sv_putI (own := RX8) (C := RX8) (Tf := TX8) (N := 44) (index := 170) hx hb hts hown hK hW (fun _ h => List.mem_cons_of_mem _ (List.mem_append_right _ h)) tyX8 tyX8_ok nmX8 (sm_i 0 hB (by decide)) (sm_c0 hB) rfl 12 (by decide) rfl rfl (ty := .int) (by decide +kernel) rfl rfl (List.mem_of_getElem? (i := 1) rfl) dX8_says_7 (fun σ3 H locs eσ3 hW => ?_)
  replace hs := sp_let hs eσ3
  refine lv_aload_n hx hb dX8_says_10 rfl (lv_at hl 0 rfl) ?_
  refine lv_iload_n hx hb dX8_says_11 rfl (lv_at hl 3 rfl) ?_
  refine sv_putI (own := RX8) (C := RX8) (Tf := TX8) (N := 44) (index := 173) hx hb hts hown hK hW (fun _ h => List.mem_cons_of_mem _ (List.mem_append_right _ h)) tyX8 tyX8_ok nmX8 (sm_i 0 hB (by decide)) (sm_c0 hB) rfl 13 (by decide) rfl rfl (ty := .int) (by decide +kernel) rfl rfl (List.mem_of_getElem? (i := 2) rfl) dX8_says_12 (fun σ4 H locs eσ4 hW => ?_)
  replace hs := sp_let hs eσ4
  refine lv_aload_n hx hb dX8_says_15 rfl (lv_at hl 0 rfl) ?_
  refine lv_aload_n hx hb dX8_says_16 rfl (lv_at hl 0 rfl) ?_
  refine sv_get (own := RX8) (C := RX8) (Tf := TX8) (N := 44) (index := 29) (κ := (3, 6)) (v := .ref (h 6)) hx hb hts hown hK hW (fun _ h => List.mem_cons_of_mem _ (List.mem_append_right _ h)) (sm_i 0 hB (by decide)) (sm_c0 hB) rfl 10 (by decide) rfl rfl (List.mem_of_getElem? (i := 3) rfl) dX8_says_17 ?_
  refine lv_iconst (v := 3) hx hb dX8_says_20 (by decide) ?_
  refine lv_iload_n hx hb dX8_says_21 rfl (lv_at hl 2 rfl) ?_
  refine lv_imul hx hb dX8_says_22 ?_
  obtain ⟨hi5, hs⟩ := sp_g hs
  refine sv_iald hx hb hK hW (sm_i 6 hB (by decide)) (sm_c6 hB) 0 rfl hi5 dX8_says_23 ?_
  refine sv_putI (own := RX8) (C := RX8) (Tf := TX8) (N := 44) (index := 176) hx hb hts hown hK hW (fun _ h => List.mem_cons_of_mem _ (List.mem_append_right _ h)) tyX8 tyX8_ok nmX8 (sm_i 0 hB (by decide)) (sm_c0 hB) rfl 14 (by decide) rfl rfl (ty := .int) (by decide +kernel) rfl rfl (List.mem_of_getElem? (i := 4) rfl) dX8_says_24 (fun σ6 H locs eσ6 hW => ?_)
  replace hs := sp_let hs eσ6
  refine lv_aload_n hx hb dX8_says_27 rfl (lv_at hl 0 rfl) ?_
  refine lv_iload hx hb dX8_says_28 (lv_at hl 4 rfl) ?_
  refine sv_putI (own := RX8) (C := RX8) (Tf := TX8) (N := 44) (index := 179) hx hb hts hown hK hW (fun _ h => List.mem_cons_of_mem _ (List.mem_append_right _ h)) tyX8 tyX8_ok nmX8 (sm_i 0 hB (by decide)) (sm_c0 hB) rfl 15 (by decide) rfl rfl (ty := .int) (by decide +kernel) rfl rfl (List.mem_of_getElem? (i := 5) rfl) dX8_says_30 (fun σ7 H locs eσ7 hW => ?_)
  replace hs := sp_let hs eσ7
  refine lv_aload_n hx hb dX8_says_33 rfl (lv_at hl 0 rfl) ?_
  refine lv_aload_n hx hb dX8_says_34 rfl (lv_at hl 0 rfl) ?_
  refine sv_get (own := RX8) (C := RX8) (Tf := TX8) (N := 44) (index := 29) (κ := (3, 6)) (v := .ref (h 6)) hx hb hts hown hK hW (fun _ h => List.mem_cons_of_mem _ (List.mem_append_right _ h)) (sm_i 0 hB (by decide)) (sm_c0 hB) rfl 10 (by decide) rfl rfl (List.mem_of_getElem? (i := 3) rfl) dX8_says_35 ?_
  refine lv_iconst (v := 3) hx hb dX8_says_38 (by decide) ?_
  refine lv_iload_n hx hb dX8_says_39 rfl (lv_at hl 2 rfl) ?_
  refine lv_imul hx hb dX8_says_40 ?_
  refine lv_iconst (v := 1) hx hb dX8_says_41 (by decide) ?_
  refine lv_iadd hx hb dX8_says_42 ?_
  obtain ⟨hi8, hs⟩ := sp_g hs
  refine sv_iald hx hb hK hW (sm_i 6 hB (by decide)) (sm_c6 hB) 0 rfl hi8 dX8_says_43 ?_
  refine sv_putI (own := RX8) (C := RX8) (Tf := TX8) (N := 44) (index := 182) hx hb hts hown hK hW (fun _ h => List.mem_cons_of_mem _ (List.mem_append_right _ h)) tyX8 tyX8_ok nmX8 (sm_i 0 hB (by decide)) (sm_c0 hB) rfl 16 (by decide) rfl rfl (ty := .int) (by decide +kernel) rfl rfl (List.mem_of_getElem? (i := 6) rfl) dX8_says_44 (fun σ9 H locs eσ9 hW => ?_)
  replace hs := sp_let hs eσ9
  refine lv_aload_n hx hb dX8_says_47 rfl (lv_at hl 0 rfl) ?_
  refine lv_aload_n hx hb dX8_says_48 rfl (lv_at hl 0 rfl) ?_
  refine sv_get (own := RX8) (C := RX8) (Tf := TX8) (N := 44) (index := 97) (κ := (0, 0)) (v := .int (σ9.1 0 7)) hx hb hts hown hK hW (fun _ h => List.mem_cons_of_mem _ (List.mem_append_right _ h)) (sm_i 0 hB (by decide)) (sm_c0 hB) rfl 7 (by decide) rfl rfl (List.mem_of_getElem? (i := 7) rfl) dX8_says_49 ?_
  refine sv_putI (own := RX8) (C := RX8) (Tf := TX8) (N := 44) (index := 185) hx hb hts hown hK hW (fun _ h => List.mem_cons_of_mem _ (List.mem_append_right _ h)) tyX8 tyX8_ok nmX8 (sm_i 0 hB (by decide)) (sm_c0 hB) rfl 17 (by decide) rfl rfl (ty := .int) (by decide +kernel) rfl rfl (List.mem_of_getElem? (i := 8) rfl) dX8_says_52 (fun σ10 H locs eσ10 hW => ?_)
  replace hs := sp_let hs eσ10
  refine lv_aload_n hx hb dX8_says_55 rfl (lv_at hl 0 rfl) ?_
  refine lv_aload_n hx hb dX8_says_56 rfl (lv_at hl 0 rfl) ?_
  refine sv_get (own := RX8) (C := RX8) (Tf := TX8) (N := 44) (index := 103) (κ := (0, 0)) (v := .int (σ10.1 0 4)) hx hb hts hown hK hW (fun _ h => List.mem_cons_of_mem _ (List.mem_append_right _ h)) (sm_i 0 hB (by decide)) (sm_c0 hB) rfl 4 (by decide) rfl rfl (List.mem_of_getElem? (i := 9) rfl) dX8_says_57 ?_
  refine lv_iload_n hx hb dX8_says_60 rfl (lv_at hl 1 rfl) ?_
  obtain ⟨r11, σ12, eσ12, hs⟩ := sp_bind hs
  refine sv_goI (σ' := σ12) (r := r11) hW F.2.2.2.1 (sv_runV (C := RX8) F hW (k_X8_read hB eσ12 H.size) gX8_says_X8_read rfl ⟨rfl, rfl⟩ 2 (by decide +kernel) (sv_room2 (by omega) (by omega)) (sm_i 0 hB (by decide)) (sm_c0 hB) rfl rfl hl.1 rfl (Nat.le_of_ble_eq_true rfl) dX8_says_61 ⟨Nat.zero_le _, Nat.zero_le _⟩) (fun H locs hW => ?_)
  refine lv_iconst (v := 0) hx hb dX8_says_64 (by decide) ?_
  refine lv_iload_n hx hb dX8_says_65 rfl (lv_at hl 1 rfl) ?_
  refine lv_if_ne (tgt := 74) hx hb dX8_says_66 (by decide) (fun c13 => ?_) (fun c13 => ?_)
  · replace hs := (sp_ite hs).2 c13
    refine lv_iload_n hx hb dX8_says_74 rfl (lv_at hl 1 rfl) ?_
    refine lv_iconst (v := 1) hx hb dX8_says_75 (by decide) ?_
    refine lv_icmp_ne (tgt := 84) hx hb dX8_says_76 (by decide) (fun c14 => ?_) (fun c14 => ?_)
    · replace hs := (sp_ite hs).2 c14
      refine lv_bipush (v := 99) hx hb dX8_says_84 (by decide) ?_
      obtain ⟨r15, σ16, eσ16, hs⟩ := sp_bind hs
      refine sv_goI (σ' := σ16) (r := r15) hW F.2.2.2.1 (sv_runT F hW (k_X8_within hB eσ16 H.size) gX8_says_X8_within rfl ⟨rfl, rfl⟩ 3 (by decide +kernel) (sv_room2 (by omega) (by omega)) rfl hl.1 rfl (Nat.le_of_ble_eq_true rfl) dX8_says_86 ⟨Nat.zero_le _, Nat.zero_le _⟩) (fun H locs hW => ?_)
      cases hs
      exact sv_iret hx hb hr rfl hlk hW dX8_says_89
    · replace hs := (sp_ite hs).1 c14
      refine lv_bipush (v := 24) hx hb dX8_says_79 (by decide) ?_
      refine lv_goto (tgt := 86) hx hb dX8_says_81 (by decide) ?_
      obtain ⟨r17, σ18, eσ18, hs⟩ := sp_bind hs
      refine sv_goI (σ' := σ18) (r := r17) hW F.2.2.2.1 (sv_runT F hW (k_X8_within hB eσ18 H.size) gX8_says_X8_within rfl ⟨rfl, rfl⟩ 3 (by decide +kernel) (sv_room2 (by omega) (by omega)) rfl hl.1 rfl (Nat.le_of_ble_eq_true rfl) dX8_says_86 ⟨Nat.zero_le _, Nat.zero_le _⟩) (fun H locs hW => ?_)
      cases hs
      exact sv_iret hx hb hr rfl hlk hW dX8_says_89
  · replace hs := (sp_ite hs).1 c13
    refine lv_bipush (v := 9) hx hb dX8_says_69 (by decide) ?_
    refine lv_goto (tgt := 86) hx hb dX8_says_71 (by decide) ?_
    obtain ⟨r19, σ20, eσ20, hs⟩ := sp_bind hs
    refine sv_goI (σ' := σ20) (r := r19) hW F.2.2.2.1 (sv_runT F hW (k_X8_within hB eσ20 H.size) gX8_says_X8_within rfl ⟨rfl, rfl⟩ 3 (by decide +kernel) (sv_room2 (by omega) (by omega)) rfl hl.1 rfl (Nat.le_of_ble_eq_true rfl) dX8_says_86 ⟨Nat.zero_le _, Nat.zero_le _⟩) (fun H locs hW => ?_)
    cases hs
    exact sv_iret hx hb hr rfl hlk hW dX8_says_89

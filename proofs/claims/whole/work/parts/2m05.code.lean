set_option maxRecDepth 100000 in
set_option maxHeartbeats 4000000 in
theorem b_X8_tells_100 {p : Program} {l : Launch} {e : Env} {s : State} {m : MethodId} {args : Array Value} {below : List Frame} {meth : Method} {c : Code} {D : va_G} {T : Nat → ClassId} {A : Nat → Prop} {h : Nat → Nat} {θ : sv_T} {a1 : Int32} {a2 : Int32} {a3 : Int32} {r : Int32} {σ' : sv_S} (hB : sm_base θ)  (F : sv_F sm_X p m c cX8_tells 11 s args wsX8_tells RX8 D (sm_tys T) A) (hr : meth.sig.returnType = (some .int)) (hlk : meth.locks = false)  : ∀ (n : Nat), ∀ (x1 : Int32) (x2 : Int32) (x5 : Int32) (x6 : Int32) (σ : sv_S) (H : Heap) (locs : List Loc) (ls : Array Slot), lv_has ls 11 [(0, .ref (h 0)), (1, .int x1), (2, .int x2), (5, .int x5), (6, .int x6)] → sv_W D T A s h θ σ H locs → q_X8_tells_B100 θ a1 a2 a3 n x1 x2 x5 x6 σ = some (r, σ') → W p l e (sv_rm 66 2542) s m args below meth c H locs 0 0 (MQ below (va_Qi (fun r2 (_ : Unit) => r2 = r) (fun _ t => va_P D vwCl (sv_ws T h θ σ') t.heap) A) args s 0 0 A) (F0 m 100 ls []) := by
  have hx := F.1.1
  have hb := F.1.2.1
  have hts := F.1.2.2.2.2
  have hown := F.1.2.2.2.1
  have hK := F.2.1
  intro n
  induction n with
  | zero =>
    intro x1 x2 x5 x6 σ H locs ls hl hW hs
    have hs : (none : Option (Int32 × sv_S)) = some (r, σ') := hs
    cases hs
  | succ n ih =>
    intro x1 x2 x5 x6 σ H locs ls hl hW hs
    have hs : q_X8_tells_B100_b θ a1 a2 a3 (q_X8_tells_B100 θ a1 a2 a3 n) x1 x2 x5 x6 σ = some (r, σ') := hs
    unfold q_X8_tells_B100_b at hs
    refine lv_iload hx hb dX8_tells_100 (lv_at hl 4 rfl) ?_
    refine lv_bipush (v := 6) hx hb dX8_tells_102 (by decide) ?_
    refine lv_icmp_gt (tgt := 138) hx hb dX8_tells_104 (by decide) (fun c42 => ?_) (fun c42 => ?_)
    · replace hs := (sp_ite hs).1 c42
      refine lv_iload hx hb dX8_tells_138 (lv_at hl 3 rfl) ?_
      cases hs
      exact sv_iret hx hb hr rfl hlk hW dX8_tells_140
    · replace hs := (sp_ite hs).2 c42
      refine lv_iload hx hb dX8_tells_107 (lv_at hl 3 rfl) ?_
      refine lv_aload_n hx hb dX8_tells_109 rfl (lv_at hl 0 rfl) ?_
      refine lv_iload_n hx hb dX8_tells_110 rfl (lv_at hl 1 rfl) ?_
      refine lv_iload_n hx hb dX8_tells_111 rfl (lv_at hl 2 rfl) ?_
      refine lv_iload hx hb dX8_tells_112 (lv_at hl 4 rfl) ?_
      obtain ⟨r43, σ44, eσ44, hs⟩ := sp_bind hs
      refine sv_goI (σ' := σ44) (r := r43) hW F.2.2.2.1 (sv_runV (C := RX8) F hW (k_X8_firstOther hB eσ44 H.size) gX8_tells_X8_firstOther rfl ⟨rfl, rfl⟩ 3 (by decide +kernel) (sv_room2 (by omega) (by omega)) (sm_i 0 hB (by decide)) (sm_c0 hB) rfl rfl hl.1 rfl (Nat.le_of_ble_eq_true rfl) dX8_tells_114 ⟨Nat.zero_le _, Nat.zero_le _⟩) (fun H locs hW => ?_)
      refine lv_iconst (v := -1) hx hb dX8_tells_117 (by decide) ?_
      refine lv_icmp_ne (tgt := 125) hx hb dX8_tells_118 (by decide) (fun c45 => ?_) (fun c45 => ?_)
      · replace hs := (sp_ite hs).2 c45
        refine lv_iconst (v := 0) hx hb dX8_tells_125 (by decide) ?_
        refine lv_iload hx hb dX8_tells_126 (lv_at hl 4 rfl) ?_
        refine lv_ishl hx hb dX8_tells_128 ?_
        refine lv_ior hx hb dX8_tells_129 ?_
        refine lv_topi (fun v46 ev46 => ?_)
        replace hs := sp_let hs ev46
        refine lv_istore (lv' := [(5, .int v46), (0, .ref (h 0)), (1, .int x1), (2, .int x2), (6, .int x6)]) hx hb dX8_tells_130 hl (by decide) rfl (fun ls hl => ?_)
        obtain ⟨v47, ev47⟩ : ∃ y : Int32, y = x6 + 1 := ⟨_, rfl⟩
        replace hs := sp_let hs ev47
        refine lv_iinc (v := v47) (lv' := [(6, .int v47), (5, .int v46), (0, .ref (h 0)), (1, .int x1), (2, .int x2)]) hx hb dX8_tells_132 hl (k := 4) rfl (by rw [ev47]; rfl) (by decide) rfl (fun ls hl => ?_)
        refine lv_goto (tgt := 100) hx hb dX8_tells_135 (by decide) ?_
        exact ih x1 x2 v46 v47 σ44 H locs ls (lv_sub hl [2, 3, 4, 1, 0] rfl) hW hs
      · replace hs := (sp_ite hs).1 c45
        refine lv_iconst (v := 1) hx hb dX8_tells_121 (by decide) ?_
        refine lv_goto (tgt := 126) hx hb dX8_tells_122 (by decide) ?_
        refine lv_iload hx hb dX8_tells_126 (lv_at hl 4 rfl) ?_
        refine lv_ishl hx hb dX8_tells_128 ?_
        refine lv_ior hx hb dX8_tells_129 ?_
        refine lv_topi (fun v48 ev48 => ?_)
        replace hs := sp_let hs ev48
        refine lv_istore (lv' := [(5, .int v48), (0, .ref (h 0)), (1, .int x1), (2, .int x2), (6, .int x6)]) hx hb dX8_tells_130 hl (by decide) rfl (fun ls hl => ?_)
        obtain ⟨v49, ev49⟩ : ∃ y : Int32, y = x6 + 1 := ⟨_, rfl⟩
        replace hs := sp_let hs ev49
        refine lv_iinc (v := v49) (lv' := [(6, .int v49), (5, .int v48), (0, .ref (h 0)), (1, .int x1), (2, .int x2)]) hx hb dX8_tells_132 hl (k := 4) rfl (by rw [ev49]; rfl) (by decide) rfl (fun ls hl => ?_)
        refine lv_goto (tgt := 100) hx hb dX8_tells_135 (by decide) ?_
        exact ih x1 x2 v48 v49 σ44 H locs ls (lv_sub hl [2, 3, 4, 1, 0] rfl) hW hs
set_option maxRecDepth 100000 in
set_option maxHeartbeats 4000000 in
theorem b_X8_tells_268 {p : Program} {l : Launch} {e : Env} {s : State} {m : MethodId} {args : Array Value} {below : List Frame} {meth : Method} {c : Code} {D : va_G} {T : Nat → ClassId} {A : Nat → Prop} {h : Nat → Nat} {θ : sv_T} {a1 : Int32} {a2 : Int32} {a3 : Int32} {r : Int32} {σ' : sv_S} (hB : sm_base θ)  (F : sv_F sm_X p m c cX8_tells 11 s args wsX8_tells RX8 D (sm_tys T) A) (hr : meth.sig.returnType = (some .int)) (hlk : meth.locks = false)  : ∀ (n : Nat), ∀ (x1 : Int32) (x2 : Int32) (x4 : Int32) (x5 : Int32) (x6 : Int32) (x7 : Int32) (x8 : Int32) (x9 : Int32) (x10 : Int32) (σ : sv_S) (H : Heap) (locs : List Loc) (ls : Array Slot), lv_has ls 11 [(0, .ref (h 0)), (1, .int x1), (2, .int x2), (4, .int x4), (5, .int x5), (6, .int x6), (7, .int x7), (8, .int x8), (9, .int x9), (10, .int x10)] → sv_W D T A s h θ σ H locs → q_X8_tells_B268 θ a1 a2 a3 n x1 x2 x4 x5 x6 x7 x8 x9 x10 σ = some (r, σ') → W p l e (sv_rm 66 2542) s m args below meth c H locs 0 0 (MQ below (va_Qi (fun r2 (_ : Unit) => r2 = r) (fun _ t => va_P D vwCl (sv_ws T h θ σ') t.heap) A) args s 0 0 A) (F0 m 268 ls []) := by
  have hx := F.1.1
  have hb := F.1.2.1
  have hts := F.1.2.2.2.2
  have hown := F.1.2.2.2.1
  have hK := F.2.1
  intro n
  induction n with
  | zero =>
    intro x1 x2 x4 x5 x6 x7 x8 x9 x10 σ H locs ls hl hW hs
    have hs : (none : Option (Int32 × sv_S)) = some (r, σ') := hs
    cases hs
  | succ n ih =>
    intro x1 x2 x4 x5 x6 x7 x8 x9 x10 σ H locs ls hl hW hs
    have hs : q_X8_tells_B268_b θ a1 a2 a3 (q_X8_tells_B268 θ a1 a2 a3 n) x1 x2 x4 x5 x6 x7 x8 x9 x10 σ = some (r, σ') := hs
    unfold q_X8_tells_B268_b at hs
    refine lv_iload hx hb dX8_tells_268 (lv_at hl 9 rfl) ?_
    refine lv_iload hx hb dX8_tells_270 (lv_at hl 8 rfl) ?_
    refine lv_icmp_gt (tgt := 316) hx hb dX8_tells_272 (by decide) (fun c28 => ?_) (fun c28 => ?_)
    · replace hs := (sp_ite hs).1 c28
      refine lv_aload_n hx hb dX8_tells_316 rfl (lv_at hl 0 rfl) ?_
      refine lv_iload hx hb dX8_tells_317 (lv_at hl 5 rfl) ?_
      refine lv_iload hx hb dX8_tells_319 (lv_at hl 6 rfl) ?_
      refine lv_iload hx hb dX8_tells_321 (lv_at hl 7 rfl) ?_
      obtain ⟨r29, σ30, eσ30, hs⟩ := sp_bind hs
      refine sv_goV (σ' := σ30) (r := r29) hW F.2.2.2.1 (sv_runV (C := RX8) F hW (k_X8_lays hB eσ30 H.size) gX8_tells_X8_lays rfl ⟨rfl, rfl⟩ 3 (by decide +kernel) (sv_room2 (by omega) (by omega)) (sm_i 0 hB (by decide)) (sm_c0 hB) rfl rfl hl.1 rfl (Nat.le_of_ble_eq_true rfl) dX8_tells_323 ⟨Nat.zero_le _, Nat.zero_le _⟩) (fun H locs hW => ?_)
      refine lv_iload hx hb dX8_tells_326 (lv_at hl 4 rfl) ?_
      cases hs
      exact sv_iret hx hb hr rfl hlk hW dX8_tells_328
    · replace hs := (sp_ite hs).2 c28
      refine lv_aload_n hx hb dX8_tells_275 rfl (lv_at hl 0 rfl) ?_
      refine lv_iload hx hb dX8_tells_276 (lv_at hl 5 rfl) ?_
      refine lv_iload hx hb dX8_tells_278 (lv_at hl 6 rfl) ?_
      refine lv_iload hx hb dX8_tells_280 (lv_at hl 9 rfl) ?_
      obtain ⟨r31, σ32, eσ32, hs⟩ := sp_bind hs
      refine sv_goV (σ' := σ32) (r := r31) hW F.2.2.2.1 (sv_runV (C := RX8) F hW (k_X8_lays hB eσ32 H.size) gX8_tells_X8_lays rfl ⟨rfl, rfl⟩ 3 (by decide +kernel) (sv_room2 (by omega) (by omega)) (sm_i 0 hB (by decide)) (sm_c0 hB) rfl rfl hl.1 rfl (Nat.le_of_ble_eq_true rfl) dX8_tells_282 ⟨Nat.zero_le _, Nat.zero_le _⟩) (fun H locs hW => ?_)
      refine lv_iload hx hb dX8_tells_285 (lv_at hl 4 rfl) ?_
      refine lv_aload_n hx hb dX8_tells_287 rfl (lv_at hl 0 rfl) ?_
      refine lv_iload_n hx hb dX8_tells_288 rfl (lv_at hl 1 rfl) ?_
      refine lv_iload_n hx hb dX8_tells_289 rfl (lv_at hl 2 rfl) ?_
      refine lv_iload hx hb dX8_tells_290 (lv_at hl 3 rfl) ?_
      obtain ⟨r33, σ34, eσ34, hs⟩ := sp_bind hs
      refine sv_goI (σ' := σ34) (r := r33) hW F.2.2.2.1 (sv_runV (C := RX8) F hW (k_X8_firstOther hB eσ34 H.size) gX8_tells_X8_firstOther rfl ⟨rfl, rfl⟩ 3 (by decide +kernel) (sv_room2 (by omega) (by omega)) (sm_i 0 hB (by decide)) (sm_c0 hB) rfl rfl hl.1 rfl (Nat.le_of_ble_eq_true rfl) dX8_tells_292 ⟨Nat.zero_le _, Nat.zero_le _⟩) (fun H locs hW => ?_)
      refine lv_iconst (v := -1) hx hb dX8_tells_295 (by decide) ?_
      refine lv_icmp_ne (tgt := 303) hx hb dX8_tells_296 (by decide) (fun c35 => ?_) (fun c35 => ?_)
      · replace hs := (sp_ite hs).2 c35
        refine lv_iconst (v := 0) hx hb dX8_tells_303 (by decide) ?_
        refine lv_iload hx hb dX8_tells_304 (lv_at hl 9 rfl) ?_
        refine lv_ishl hx hb dX8_tells_306 ?_
        refine lv_ior hx hb dX8_tells_307 ?_
        refine lv_topi (fun v36 ev36 => ?_)
        replace hs := sp_let hs ev36
        refine lv_istore (lv' := [(5, .int v36), (0, .ref (h 0)), (1, .int x1), (2, .int x2), (4, .int x4), (6, .int x6), (7, .int x7), (8, .int x8), (9, .int x9), (10, .int x10)]) hx hb dX8_tells_308 hl (by decide) rfl (fun ls hl => ?_)
        obtain ⟨v37, ev37⟩ : ∃ y : Int32, y = x10 + 1 := ⟨_, rfl⟩
        replace hs := sp_let hs ev37
        refine lv_iinc (v := v37) (lv' := [(10, .int v37), (5, .int v36), (0, .ref (h 0)), (1, .int x1), (2, .int x2), (4, .int x4), (6, .int x6), (7, .int x7), (8, .int x8), (9, .int x9)]) hx hb dX8_tells_310 hl (k := 9) rfl (by rw [ev37]; rfl) (by decide) rfl (fun ls hl => ?_)
        refine lv_goto (tgt := 268) hx hb dX8_tells_313 (by decide) ?_
        exact ih x1 x2 x4 v36 x6 x7 x8 x9 v37 σ34 H locs ls (lv_sub hl [2, 3, 4, 5, 1, 6, 7, 8, 9, 0] rfl) hW hs
      · replace hs := (sp_ite hs).1 c35
        refine lv_iconst (v := 1) hx hb dX8_tells_299 (by decide) ?_
        refine lv_goto (tgt := 304) hx hb dX8_tells_300 (by decide) ?_
        refine lv_iload hx hb dX8_tells_304 (lv_at hl 9 rfl) ?_
        refine lv_ishl hx hb dX8_tells_306 ?_
        refine lv_ior hx hb dX8_tells_307 ?_
        refine lv_topi (fun v38 ev38 => ?_)
        replace hs := sp_let hs ev38
        refine lv_istore (lv' := [(5, .int v38), (0, .ref (h 0)), (1, .int x1), (2, .int x2), (4, .int x4), (6, .int x6), (7, .int x7), (8, .int x8), (9, .int x9), (10, .int x10)]) hx hb dX8_tells_308 hl (by decide) rfl (fun ls hl => ?_)
        obtain ⟨v39, ev39⟩ : ∃ y : Int32, y = x10 + 1 := ⟨_, rfl⟩
        replace hs := sp_let hs ev39
        refine lv_iinc (v := v39) (lv' := [(10, .int v39), (5, .int v38), (0, .ref (h 0)), (1, .int x1), (2, .int x2), (4, .int x4), (6, .int x6), (7, .int x7), (8, .int x8), (9, .int x9)]) hx hb dX8_tells_310 hl (k := 9) rfl (by rw [ev39]; rfl) (by decide) rfl (fun ls hl => ?_)
        refine lv_goto (tgt := 268) hx hb dX8_tells_313 (by decide) ?_
        exact ih x1 x2 x4 v38 x6 x7 x8 x9 v39 σ34 H locs ls (lv_sub hl [2, 3, 4, 5, 1, 6, 7, 8, 9, 0] rfl) hW hs
set_option maxRecDepth 100000 in
set_option maxHeartbeats 4000000 in
theorem b_X8_tells_233 {p : Program} {l : Launch} {e : Env} {s : State} {m : MethodId} {args : Array Value} {below : List Frame} {meth : Method} {c : Code} {D : va_G} {T : Nat → ClassId} {A : Nat → Prop} {h : Nat → Nat} {θ : sv_T} {a1 : Int32} {a2 : Int32} {a3 : Int32} {r : Int32} {σ' : sv_S} (hB : sm_base θ)  (F : sv_F sm_X p m c cX8_tells 11 s args wsX8_tells RX8 D (sm_tys T) A) (hr : meth.sig.returnType = (some .int)) (hlk : meth.locks = false)  : ∀ (x1 : Int32) (x2 : Int32) (x4 : Int32) (x5 : Int32) (x6 : Int32) (x7 : Int32) (w0 : Int32) (σ : sv_S) (H : Heap) (locs : List Loc) (ls : Array Slot), lv_has ls 11 [(0, .ref (h 0)), (1, .int x1), (2, .int x2), (4, .int x4), (5, .int x5), (6, .int x6), (7, .int x7)] → sv_W D T A s h θ σ H locs → q_X8_tells_B233 θ a1 a2 a3 x1 x2 x4 x5 x6 x7 w0 σ = some (r, σ') → W p l e (sv_rm 66 2542) s m args below meth c H locs 0 0 (MQ below (va_Qi (fun r2 (_ : Unit) => r2 = r) (fun _ t => va_P D vwCl (sv_ws T h θ σ') t.heap) A) args s 0 0 A) (F0 m 233 ls [.int w0]) := by
  have hx := F.1.1
  have hb := F.1.2.1
  have hts := F.1.2.2.2.2
  have hown := F.1.2.2.2.1
  have hK := F.2.1
  intro x1 x2 x4 x5 x6 x7 w0 σ H locs ls hl hW hs
  unfold q_X8_tells_B233 at hs
  refine lv_istore (lv' := [(8, .int w0), (0, .ref (h 0)), (1, .int x1), (2, .int x2), (4, .int x4), (5, .int x5), (6, .int x6), (7, .int x7)]) hx hb dX8_tells_233 hl (by decide) rfl (fun ls hl => ?_)
  refine lv_iload hx hb dX8_tells_235 (lv_at hl 6 rfl) ?_
  refine lv_bipush (v := 6) hx hb dX8_tells_237 (by decide) ?_
  refine lv_icmp_ne (tgt := 251) hx hb dX8_tells_239 (by decide) (fun c26 => ?_) (fun c26 => ?_)
  · replace hs := (sp_ite hs).2 c26
    refine lv_iload hx hb dX8_tells_251 (lv_at hl 6 rfl) ?_
    refine lv_iconst (v := 5) hx hb dX8_tells_253 (by decide) ?_
    refine lv_icmp_ne (tgt := 261) hx hb dX8_tells_254 (by decide) (fun c27 => ?_) (fun c27 => ?_)
    · replace hs := (sp_ite hs).2 c27
      refine lv_bipush (v := 9) hx hb dX8_tells_261 (by decide) ?_
      refine lv_istore (lv' := [(9, .int (9 : Int32)), (8, .int w0), (0, .ref (h 0)), (1, .int x1), (2, .int x2), (4, .int x4), (5, .int x5), (6, .int x6), (7, .int x7)]) hx hb dX8_tells_263 hl (by decide) rfl (fun ls hl => ?_)
      refine lv_iconst (v := 0) hx hb dX8_tells_265 (by decide) ?_
      refine lv_istore (lv' := [(10, .int (0 : Int32)), (9, .int (9 : Int32)), (8, .int w0), (0, .ref (h 0)), (1, .int x1), (2, .int x2), (4, .int x4), (5, .int x5), (6, .int x6), (7, .int x7)]) hx hb dX8_tells_266 hl (by decide) rfl (fun ls hl => ?_)
      exact b_X8_tells_268 hB F hr hlk sv_N x1 x2 x4 x5 x6 x7 w0 (9 : Int32) (0 : Int32) σ H locs ls (lv_sub hl [3, 4, 5, 6, 7, 8, 9, 2, 1, 0] rfl) hW hs
    · replace hs := (sp_ite hs).1 c27
      refine lv_iconst (v := 5) hx hb dX8_tells_257 (by decide) ?_
      refine lv_goto (tgt := 263) hx hb dX8_tells_258 (by decide) ?_
      refine lv_istore (lv' := [(9, .int (5 : Int32)), (8, .int w0), (0, .ref (h 0)), (1, .int x1), (2, .int x2), (4, .int x4), (5, .int x5), (6, .int x6), (7, .int x7)]) hx hb dX8_tells_263 hl (by decide) rfl (fun ls hl => ?_)
      refine lv_iconst (v := 0) hx hb dX8_tells_265 (by decide) ?_
      refine lv_istore (lv' := [(10, .int (0 : Int32)), (9, .int (5 : Int32)), (8, .int w0), (0, .ref (h 0)), (1, .int x1), (2, .int x2), (4, .int x4), (5, .int x5), (6, .int x6), (7, .int x7)]) hx hb dX8_tells_266 hl (by decide) rfl (fun ls hl => ?_)
      exact b_X8_tells_268 hB F hr hlk sv_N x1 x2 x4 x5 x6 x7 w0 (5 : Int32) (0 : Int32) σ H locs ls (lv_sub hl [3, 4, 5, 6, 7, 8, 9, 2, 1, 0] rfl) hW hs
  · replace hs := (sp_ite hs).1 c26
    refine lv_aload_n hx hb dX8_tells_242 rfl (lv_at hl 1 rfl) ?_
    refine sv_get (own := RX8) (C := RX8) (Tf := TX8) (N := 44) (index := 61) (κ := (0, 0)) (v := .int (σ.1 0 3)) hx hb hts hown hK hW (fun _ h => List.mem_cons_of_mem _ (List.mem_append_right _ h)) (sm_i 0 hB (by decide)) (sm_c0 hB) rfl 3 (by decide) rfl rfl (List.mem_of_getElem? (i := 8) rfl) dX8_tells_243 ?_
    refine lv_iconst (v := 1) hx hb dX8_tells_246 (by decide) ?_
    refine lv_isub hx hb dX8_tells_247 ?_
    refine lv_goto (tgt := 263) hx hb dX8_tells_248 (by decide) ?_
    refine lv_topi (fun v40 ev40 => ?_)
    replace hs := sp_let hs ev40
    refine lv_istore (lv' := [(9, .int v40), (8, .int w0), (0, .ref (h 0)), (1, .int x1), (2, .int x2), (4, .int x4), (5, .int x5), (6, .int x6), (7, .int x7)]) hx hb dX8_tells_263 hl (by decide) rfl (fun ls hl => ?_)
    refine lv_iconst (v := 0) hx hb dX8_tells_265 (by decide) ?_
    refine lv_istore (lv' := [(10, .int (0 : Int32)), (9, .int v40), (8, .int w0), (0, .ref (h 0)), (1, .int x1), (2, .int x2), (4, .int x4), (5, .int x5), (6, .int x6), (7, .int x7)]) hx hb dX8_tells_266 hl (by decide) rfl (fun ls hl => ?_)
    exact b_X8_tells_268 hB F hr hlk sv_N x1 x2 x4 x5 x6 x7 w0 v40 (0 : Int32) σ H locs ls (lv_sub hl [3, 4, 5, 6, 7, 8, 9, 2, 1, 0] rfl) hW hs
set_option maxRecDepth 100000 in
set_option maxHeartbeats 4000000 in
theorem b_X8_tells_209 {p : Program} {l : Launch} {e : Env} {s : State} {m : MethodId} {args : Array Value} {below : List Frame} {meth : Method} {c : Code} {D : va_G} {T : Nat → ClassId} {A : Nat → Prop} {h : Nat → Nat} {θ : sv_T} {a1 : Int32} {a2 : Int32} {a3 : Int32} {r : Int32} {σ' : sv_S} (hB : sm_base θ)  (F : sv_F sm_X p m c cX8_tells 11 s args wsX8_tells RX8 D (sm_tys T) A) (hr : meth.sig.returnType = (some .int)) (hlk : meth.locks = false)  : ∀ (x1 : Int32) (x2 : Int32) (x4 : Int32) (x5 : Int32) (x6 : Int32) (w0 : Int32) (σ : sv_S) (H : Heap) (locs : List Loc) (ls : Array Slot), lv_has ls 11 [(0, .ref (h 0)), (1, .int x1), (2, .int x2), (4, .int x4), (5, .int x5), (6, .int x6)] → sv_W D T A s h θ σ H locs → q_X8_tells_B209 θ a1 a2 a3 x1 x2 x4 x5 x6 w0 σ = some (r, σ') → W p l e (sv_rm 66 2542) s m args below meth c H locs 0 0 (MQ below (va_Qi (fun r2 (_ : Unit) => r2 = r) (fun _ t => va_P D vwCl (sv_ws T h θ σ') t.heap) A) args s 0 0 A) (F0 m 209 ls [.int w0]) := by
  have hx := F.1.1
  have hb := F.1.2.1
  have hts := F.1.2.2.2.2
  have hown := F.1.2.2.2.1
  have hK := F.2.1
  intro x1 x2 x4 x5 x6 w0 σ H locs ls hl hW hs
  unfold q_X8_tells_B209 at hs
  refine lv_istore (lv' := [(7, .int w0), (0, .ref (h 0)), (1, .int x1), (2, .int x2), (4, .int x4), (5, .int x5), (6, .int x6)]) hx hb dX8_tells_209 hl (by decide) rfl (fun ls hl => ?_)
  refine lv_iload hx hb dX8_tells_211 (lv_at hl 6 rfl) ?_
  refine lv_bipush (v := 6) hx hb dX8_tells_213 (by decide) ?_
  refine lv_icmp_ne (tgt := 225) hx hb dX8_tells_215 (by decide) (fun c23 => ?_) (fun c23 => ?_)
  · replace hs := (sp_ite hs).2 c23
    refine lv_aload_n hx hb dX8_tells_225 rfl (lv_at hl 1 rfl) ?_
    refine lv_iload hx hb dX8_tells_226 (lv_at hl 0 rfl) ?_
    refine lv_iload hx hb dX8_tells_228 (lv_at hl 6 rfl) ?_
    obtain ⟨r24, σ25, eσ25, hs⟩ := sp_bind hs
    refine sv_goI (σ' := σ25) (r := r24) hW F.2.2.2.1 (sv_runV (C := RX8) F hW (k_X8_told hB eσ25 H.size) gX8_tells_X8_told rfl ⟨rfl, rfl⟩ 2 (by decide +kernel) (sv_room2 (by omega) (by omega)) (sm_i 0 hB (by decide)) (sm_c0 hB) rfl rfl hl.1 rfl (Nat.le_of_ble_eq_true rfl) dX8_tells_230 ⟨Nat.zero_le _, Nat.zero_le _⟩) (fun H locs hW => ?_)
    exact b_X8_tells_233 hB F hr hlk x1 x2 x4 x5 x6 w0 r24 σ25 H locs ls (lv_sub hl [1, 2, 3, 4, 5, 6, 0] rfl) hW hs
  · replace hs := (sp_ite hs).1 c23
    refine lv_aload_n hx hb dX8_tells_218 rfl (lv_at hl 1 rfl) ?_
    refine sv_get (own := RX8) (C := RX8) (Tf := TX8) (N := 44) (index := 103) (κ := (0, 0)) (v := .int (σ.1 0 4)) hx hb hts hown hK hW (fun _ h => List.mem_cons_of_mem _ (List.mem_append_right _ h)) (sm_i 0 hB (by decide)) (sm_c0 hB) rfl 4 (by decide) rfl rfl (List.mem_of_getElem? (i := 7) rfl) dX8_tells_219 ?_
    refine lv_goto (tgt := 233) hx hb dX8_tells_222 (by decide) ?_
    exact b_X8_tells_233 hB F hr hlk x1 x2 x4 x5 x6 w0 (σ.1 0 4) σ H locs ls (lv_sub hl [1, 2, 3, 4, 5, 6, 0] rfl) hW hs
set_option maxRecDepth 100000 in
set_option maxHeartbeats 4000000 in
theorem b_X8_tells_179 {p : Program} {l : Launch} {e : Env} {s : State} {m : MethodId} {args : Array Value} {below : List Frame} {meth : Method} {c : Code} {D : va_G} {T : Nat → ClassId} {A : Nat → Prop} {h : Nat → Nat} {θ : sv_T} {a1 : Int32} {a2 : Int32} {a3 : Int32} {r : Int32} {σ' : sv_S} (hB : sm_base θ)  (F : sv_F sm_X p m c cX8_tells 11 s args wsX8_tells RX8 D (sm_tys T) A) (hr : meth.sig.returnType = (some .int)) (hlk : meth.locks = false)  : ∀ (x1 : Int32) (x2 : Int32) (x3 : Int32) (x4 : Int32) (x5 : Int32) (w0 : Int32) (σ : sv_S) (H : Heap) (locs : List Loc) (ls : Array Slot), lv_has ls 11 [(0, .ref (h 0)), (1, .int x1), (2, .int x2), (3, .int x3), (4, .int x4), (5, .int x5)] → sv_W D T A s h θ σ H locs → q_X8_tells_B179 θ a1 a2 a3 x1 x2 x3 x4 x5 w0 σ = some (r, σ') → W p l e (sv_rm 66 2542) s m args below meth c H locs 0 0 (MQ below (va_Qi (fun r2 (_ : Unit) => r2 = r) (fun _ t => va_P D vwCl (sv_ws T h θ σ') t.heap) A) args s 0 0 A) (F0 m 179 ls [.int w0]) := by
  have hx := F.1.1
  have hb := F.1.2.1
  have hts := F.1.2.2.2.2
  have hown := F.1.2.2.2.1
  have hK := F.2.1
  intro x1 x2 x3 x4 x5 w0 σ H locs ls hl hW hs
  unfold q_X8_tells_B179 at hs
  refine lv_istore (lv' := [(6, .int w0), (0, .ref (h 0)), (1, .int x1), (2, .int x2), (3, .int x3), (4, .int x4), (5, .int x5)]) hx hb dX8_tells_179 hl (by decide) rfl (fun ls hl => ?_)
  refine lv_iload hx hb dX8_tells_181 (lv_at hl 0 rfl) ?_
  refine lv_iconst (v := 1) hx hb dX8_tells_183 (by decide) ?_
  refine lv_icmp_ne (tgt := 208) hx hb dX8_tells_184 (by decide) (fun c22 => ?_) (fun c22 => ?_)
  · replace hs := (sp_ite hs).2 c22
    refine lv_iload_n hx hb dX8_tells_208 rfl (lv_at hl 3 rfl) ?_
    exact b_X8_tells_209 hB F hr hlk x1 x2 x4 x5 w0 x2 σ H locs ls (lv_sub hl [1, 2, 3, 5, 6, 0] rfl) hW hs
  · replace hs := (sp_ite hs).1 c22
    refine lv_bipush (v := 100) hx hb dX8_tells_187 (by decide) ?_
    refine lv_aload_n hx hb dX8_tells_189 rfl (lv_at hl 1 rfl) ?_
    refine sv_get (own := RX8) (C := RX8) (Tf := TX8) (N := 44) (index := 29) (κ := (3, 6)) (v := .ref (h 6)) hx hb hts hown hK hW (fun _ h => List.mem_cons_of_mem _ (List.mem_append_right _ h)) (sm_i 0 hB (by decide)) (sm_c0 hB) rfl 10 (by decide) rfl rfl (List.mem_of_getElem? (i := 6) rfl) dX8_tells_190 ?_
    refine lv_iconst (v := 3) hx hb dX8_tells_193 (by decide) ?_
    refine lv_iload_n hx hb dX8_tells_194 rfl (lv_at hl 3 rfl) ?_
    refine lv_imul hx hb dX8_tells_195 ?_
    refine lv_iconst (v := 1) hx hb dX8_tells_196 (by decide) ?_
    refine lv_iadd hx hb dX8_tells_197 ?_
    obtain ⟨hi41, hs⟩ := sp_g hs
    refine sv_iald hx hb hK hW (sm_i 6 hB (by decide)) (sm_c6 hB) 0 rfl hi41 dX8_tells_198 ?_
    refine lv_imul hx hb dX8_tells_199 ?_
    refine lv_iload_n hx hb dX8_tells_200 rfl (lv_at hl 4 rfl) ?_
    refine lv_iadd hx hb dX8_tells_201 ?_
    refine lv_bipush (v := 10) hx hb dX8_tells_202 (by decide) ?_
    refine lv_isub hx hb dX8_tells_204 ?_
    refine lv_goto (tgt := 209) hx hb dX8_tells_205 (by decide) ?_
    exact b_X8_tells_209 hB F hr hlk x1 x2 x4 x5 w0 ((((100 : Int32) * (σ.1 6 (((3 : Int32) * x2) + (1 : Int32)).toNatClampNeg)) + x3) - (10 : Int32)) σ H locs ls (lv_sub hl [1, 2, 3, 5, 6, 0] rfl) hW hs
set_option maxRecDepth 100000 in
set_option maxHeartbeats 4000000 in
theorem b_X8_tells_44 {p : Program} {l : Launch} {e : Env} {s : State} {m : MethodId} {args : Array Value} {below : List Frame} {meth : Method} {c : Code} {D : va_G} {T : Nat → ClassId} {A : Nat → Prop} {h : Nat → Nat} {θ : sv_T} {a1 : Int32} {a2 : Int32} {a3 : Int32} {r : Int32} {σ' : sv_S} (hB : sm_base θ)  (F : sv_F sm_X p m c cX8_tells 11 s args wsX8_tells RX8 D (sm_tys T) A) (hr : meth.sig.returnType = (some .int)) (hlk : meth.locks = false)  : ∀ (x1 : Int32) (x2 : Int32) (x3 : Int32) (σ : sv_S) (H : Heap) (locs : List Loc) (ls : Array Slot), lv_has ls 11 [(0, .ref (h 0)), (1, .int x1), (2, .int x2), (3, .int x3)] → sv_W D T A s h θ σ H locs → q_X8_tells_B44 θ a1 a2 a3 x1 x2 x3 σ = some (r, σ') → W p l e (sv_rm 66 2542) s m args below meth c H locs 0 0 (MQ below (va_Qi (fun r2 (_ : Unit) => r2 = r) (fun _ t => va_P D vwCl (sv_ws T h θ σ') t.heap) A) args s 0 0 A) (F0 m 44 ls []) := by
  have hx := F.1.1
  have hb := F.1.2.1
  have hts := F.1.2.2.2.2
  have hown := F.1.2.2.2.1
  have hK := F.2.1
  intro x1 x2 x3 σ H locs ls hl hW hs
  unfold q_X8_tells_B44 at hs
  refine lv_aload_n hx hb dX8_tells_44 rfl (lv_at hl 0 rfl) ?_
  refine sv_get (own := RX8) (C := RX8) (Tf := TX8) (N := 44) (index := 44) (κ := (3, 10)) (v := .ref (h 10)) hx hb hts hown hK hW (fun _ h => List.mem_cons_of_mem _ (List.mem_append_right _ h)) (sm_i 0 hB (by decide)) (sm_c0 hB) rfl 40 (by decide) rfl rfl (List.mem_of_getElem? (i := 4) rfl) dX8_tells_45 ?_
  refine lv_iload_n hx hb dX8_tells_48 rfl (lv_at hl 1 rfl) ?_
  obtain ⟨hi10, hs⟩ := sp_g hs
  refine sv_zald hx hb hK hW (sm_i 10 hB (by decide)) (sm_c10 hB) 1 rfl hi10 dX8_tells_49 ?_
  refine lv_if_ne (tgt := 56) hx hb dX8_tells_50 (by decide) (fun c11 => ?_) (fun c11 => ?_)
  · replace hs := (sp_ite hs).2 c11
    refine lv_aload_n hx hb dX8_tells_56 rfl (lv_at hl 0 rfl) ?_
    refine sv_get (own := RX8) (C := RX8) (Tf := TX8) (N := 44) (index := 51) (κ := (3, 12)) (v := .ref (h 12)) hx hb hts hown hK hW (fun _ h => List.mem_cons_of_mem _ (List.mem_append_right _ h)) (sm_i 0 hB (by decide)) (sm_c0 hB) rfl 42 (by decide) rfl rfl (List.mem_of_getElem? (i := 5) rfl) dX8_tells_57 ?_
    refine lv_iload_n hx hb dX8_tells_60 rfl (lv_at hl 1 rfl) ?_
    obtain ⟨hi12, hs⟩ := sp_g hs
    refine sv_iald hx hb hK hW (sm_i 12 hB (by decide)) (sm_c12 hB) 0 rfl hi12 dX8_tells_61 ?_
    refine lv_bipush (v := 24) hx hb dX8_tells_62 (by decide) ?_
    refine lv_icmp_le (tgt := 70) hx hb dX8_tells_64 (by decide) (fun c13 => ?_) (fun c13 => ?_)
    · replace hs := (sp_ite hs).1 c13
      refine lv_aload_n hx hb dX8_tells_70 rfl (lv_at hl 0 rfl) ?_
      obtain ⟨r14, σ15, eσ15, hs⟩ := sp_bind hs
      refine sv_goI (σ' := σ15) (r := r14) hW F.2.2.2.1 (sv_runV (C := RX8) F hW (k_X8_shakenMany hB eσ15 H.size) gX8_tells_X8_shakenMany rfl ⟨rfl, rfl⟩ 0 (by decide +kernel) (sv_room2 (by omega) (by omega)) (sm_i 0 hB (by decide)) (sm_c0 hB) rfl rfl hl.1 rfl (Nat.le_of_ble_eq_true rfl) dX8_tells_71 ⟨Nat.zero_le _, Nat.zero_le _⟩) (fun H locs hW => ?_)
      refine lv_istore (lv' := [(4, .int r14), (0, .ref (h 0)), (1, .int x1), (2, .int x2), (3, .int x3)]) hx hb dX8_tells_74 hl (by decide) rfl (fun ls hl => ?_)
      refine lv_iload_n hx hb dX8_tells_76 rfl (lv_at hl 4 rfl) ?_
      refine lv_if_ne (tgt := 89) hx hb dX8_tells_77 (by decide) (fun c16 => ?_) (fun c16 => ?_)
      · replace hs := (sp_ite hs).2 c16
        refine lv_iconst (v := 0) hx hb dX8_tells_89 (by decide) ?_
        refine lv_istore (lv' := [(5, .int (0 : Int32)), (4, .int r14), (0, .ref (h 0)), (1, .int x1), (2, .int x2), (3, .int x3)]) hx hb dX8_tells_90 hl (by decide) rfl (fun ls hl => ?_)
        refine lv_iload_n hx hb dX8_tells_92 rfl (lv_at hl 5 rfl) ?_
        refine lv_iconst (v := 4) hx hb dX8_tells_93 (by decide) ?_
        refine lv_icmp_ne (tgt := 141) hx hb dX8_tells_94 (by decide) (fun c17 => ?_) (fun c17 => ?_)
        · replace hs := (sp_ite hs).2 c17
          refine lv_iload_n hx hb dX8_tells_141 rfl (lv_at hl 5 rfl) ?_
          refine lv_iconst (v := 1) hx hb dX8_tells_142 (by decide) ?_
          refine lv_icmp_ne (tgt := 150) hx hb dX8_tells_143 (by decide) (fun c18 => ?_) (fun c18 => ?_)
          · replace hs := (sp_ite hs).2 c18
            refine lv_iload_n hx hb dX8_tells_150 rfl (lv_at hl 5 rfl) ?_
            refine lv_iconst (v := 2) hx hb dX8_tells_151 (by decide) ?_
            refine lv_icmp_ne (tgt := 159) hx hb dX8_tells_152 (by decide) (fun c19 => ?_) (fun c19 => ?_)
            · replace hs := (sp_ite hs).2 c19
              refine lv_iload_n hx hb dX8_tells_159 rfl (lv_at hl 5 rfl) ?_
              refine lv_iconst (v := 3) hx hb dX8_tells_160 (by decide) ?_
              refine lv_icmp_ne (tgt := 168) hx hb dX8_tells_161 (by decide) (fun c20 => ?_) (fun c20 => ?_)
              · replace hs := (sp_ite hs).2 c20
                refine lv_iload_n hx hb dX8_tells_168 rfl (lv_at hl 5 rfl) ?_
                refine lv_iconst (v := 5) hx hb dX8_tells_169 (by decide) ?_
                refine lv_icmp_ne (tgt := 178) hx hb dX8_tells_170 (by decide) (fun c21 => ?_) (fun c21 => ?_)
                · replace hs := (sp_ite hs).2 c21
                  refine lv_iconst (v := 1) hx hb dX8_tells_178 (by decide) ?_
                  exact b_X8_tells_179 hB F hr hlk x1 x2 x3 r14 (0 : Int32) (1 : Int32) σ15 H locs ls (lv_sub hl [2, 3, 4, 5, 1, 0] rfl) hW hs
                · replace hs := (sp_ite hs).1 c21
                  refine lv_bipush (v := 6) hx hb dX8_tells_173 (by decide) ?_
                  refine lv_goto (tgt := 179) hx hb dX8_tells_175 (by decide) ?_
                  exact b_X8_tells_179 hB F hr hlk x1 x2 x3 r14 (0 : Int32) (6 : Int32) σ15 H locs ls (lv_sub hl [2, 3, 4, 5, 1, 0] rfl) hW hs
              · replace hs := (sp_ite hs).1 c20
                refine lv_iconst (v := 0) hx hb dX8_tells_164 (by decide) ?_
                refine lv_goto (tgt := 179) hx hb dX8_tells_165 (by decide) ?_
                exact b_X8_tells_179 hB F hr hlk x1 x2 x3 r14 (0 : Int32) (0 : Int32) σ15 H locs ls (lv_sub hl [2, 3, 4, 5, 1, 0] rfl) hW hs
            · replace hs := (sp_ite hs).1 c19
              refine lv_iconst (v := 2) hx hb dX8_tells_155 (by decide) ?_
              refine lv_goto (tgt := 179) hx hb dX8_tells_156 (by decide) ?_
              exact b_X8_tells_179 hB F hr hlk x1 x2 x3 r14 (0 : Int32) (2 : Int32) σ15 H locs ls (lv_sub hl [2, 3, 4, 5, 1, 0] rfl) hW hs
          · replace hs := (sp_ite hs).1 c18
            refine lv_iconst (v := 5) hx hb dX8_tells_146 (by decide) ?_
            refine lv_goto (tgt := 179) hx hb dX8_tells_147 (by decide) ?_
            exact b_X8_tells_179 hB F hr hlk x1 x2 x3 r14 (0 : Int32) (5 : Int32) σ15 H locs ls (lv_sub hl [2, 3, 4, 5, 1, 0] rfl) hW hs
        · replace hs := (sp_ite hs).1 c17
          refine lv_iconst (v := 0) hx hb dX8_tells_97 (by decide) ?_
          refine lv_istore (lv' := [(6, .int (0 : Int32)), (5, .int (0 : Int32)), (4, .int r14), (0, .ref (h 0)), (1, .int x1), (2, .int x2), (3, .int x3)]) hx hb dX8_tells_98 hl (by decide) rfl (fun ls hl => ?_)
          exact b_X8_tells_100 hB F hr hlk sv_N x1 x2 (0 : Int32) (0 : Int32) σ15 H locs ls (lv_sub hl [3, 4, 5, 1, 0] rfl) hW hs
      · replace hs := (sp_ite hs).1 c16
        refine lv_aload_n hx hb dX8_tells_80 rfl (lv_at hl 1 rfl) ?_
        refine lv_iload_n hx hb dX8_tells_81 rfl (lv_at hl 2 rfl) ?_
        refine lv_iload_n hx hb dX8_tells_82 rfl (lv_at hl 3 rfl) ?_
        refine lv_iload hx hb dX8_tells_83 (lv_at hl 0 rfl) ?_
        obtain ⟨r50, σ51, eσ51, hs⟩ := sp_bind hs
        refine sv_goI (σ' := σ51) (r := r50) hW F.2.2.2.1 (sv_runV (C := RX8) F hW (k_X8_firstOther hB eσ51 H.size) gX8_tells_X8_firstOther rfl ⟨rfl, rfl⟩ 3 (by decide +kernel) (sv_room2 (by omega) (by omega)) (sm_i 0 hB (by decide)) (sm_c0 hB) rfl rfl hl.1 rfl (Nat.le_of_ble_eq_true rfl) dX8_tells_85 ⟨Nat.zero_le _, Nat.zero_le _⟩) (fun H locs hW => ?_)
        cases hs
        exact sv_iret hx hb hr rfl hlk hW dX8_tells_88
    · replace hs := (sp_ite hs).2 c13
      refine lv_bipush (v := -2) hx hb dX8_tells_67 (by decide) ?_
      cases hs
      exact sv_iret hx hb hr rfl hlk hW dX8_tells_69
  · replace hs := (sp_ite hs).1 c11
    refine lv_bipush (v := -11) hx hb dX8_tells_53 (by decide) ?_
    cases hs
    exact sv_iret hx hb hr rfl hlk hW dX8_tells_55
set_option maxRecDepth 100000 in
set_option maxHeartbeats 4000000 in
theorem k_X8_tells {l : Launch} {D : va_G} {T : Nat → ClassId} {h : Nat → Nat} {θ : sv_T} {a1 : Int32} {a2 : Int32} {a3 : Int32} {σ : sv_S} {r : Int32} {σ' : sv_S} (hB : sm_base θ)  (hs : q_X8_tells θ a1 a2 a3 σ = some (r, σ')) : sv_Mi sm_X l D T (sm_tys T) h θ yX8_tells wsX8_tells (sv_rm 66 2542) [.ref (h 0), .int a1, .int a2, .int a3] σ r σ' := by
  intro sz
  refine sv_enter (cc := cX8_tells) (maxL := 11) (ret := (some .int)) (Qc := fun A => va_Qi (fun r2 (_ : Unit) => r2 = r) (fun _ t => va_P D vwCl (sv_ws T h θ σ') t.heap) A) sm_XP (by decide) rfl (Nat.le_of_ble_eq_true rfl) ?_
  intro p e s m args below meth c A F hr hlk ls H hl hW
  have hx := F.1.1
  have hb := F.1.2.1
  have hts := F.1.2.2.2.2
  have hown := F.1.2.2.2.1
  have hK := F.2.1
  obtain ⟨locs, hlocs⟩ : ∃ z : List Loc, z = [] := ⟨_, rfl⟩
  rw [← hlocs] at hW ⊢
  have hl : lv_has ls 11 [(0, .ref (h 0)), (1, .int a1), (2, .int a2), (3, .int a3)] := hl
  unfold q_X8_tells at hs
  refine lv_iload_n hx hb dX8_tells_0 rfl (lv_at hl 1 rfl) ?_
  obtain ⟨r1, σ2, eσ2, hs⟩ := sp_bind hs
  refine sv_goI (σ' := σ2) (r := r1) hW F.2.2.2.1 (sv_runT F hW (k_X8_isSheet hB eσ2 H.size) gX8_tells_X8_isSheet rfl ⟨rfl, rfl⟩ 1 (by decide +kernel) (sv_room2 (by omega) (by omega)) rfl hl.1 rfl (Nat.le_of_ble_eq_true rfl) dX8_tells_1 ⟨Nat.zero_le _, Nat.zero_le _⟩) (fun H locs hW => ?_)
  refine lv_if_eq (tgt := 41) hx hb dX8_tells_4 (by decide) (fun c3 => ?_) (fun c3 => ?_)
  · replace hs := (sp_ite hs).1 c3
    refine lv_bipush (v := -2) hx hb dX8_tells_41 (by decide) ?_
    cases hs
    exact sv_iret hx hb hr rfl hlk hW dX8_tells_43
  · replace hs := (sp_ite hs).2 c3
    refine lv_aload_n hx hb dX8_tells_7 rfl (lv_at hl 0 rfl) ?_
    refine lv_iload_n hx hb dX8_tells_8 rfl (lv_at hl 2 rfl) ?_
    obtain ⟨r4, σ5, eσ5, hs⟩ := sp_bind hs
    refine sv_goI (σ' := σ5) (r := r4) hW F.2.2.2.1 (sv_runV (C := RX8) F hW (k_X8_isOne hB eσ5 H.size) gX8_tells_X8_isOne rfl ⟨rfl, rfl⟩ 1 (by decide +kernel) (sv_room2 (by omega) (by omega)) (sm_i 0 hB (by decide)) (sm_c0 hB) rfl rfl hl.1 rfl (Nat.le_of_ble_eq_true rfl) dX8_tells_9 ⟨Nat.zero_le _, Nat.zero_le _⟩) (fun H locs hW => ?_)
    refine lv_if_eq (tgt := 41) hx hb dX8_tells_12 (by decide) (fun c6 => ?_) (fun c6 => ?_)
    · replace hs := (sp_ite hs).1 c6
      refine lv_bipush (v := -2) hx hb dX8_tells_41 (by decide) ?_
      cases hs
      exact sv_iret hx hb hr rfl hlk hW dX8_tells_43
    · replace hs := (sp_ite hs).2 c6
      refine lv_iload_n hx hb dX8_tells_15 rfl (lv_at hl 3 rfl) ?_
      refine lv_i2l (v := a3.toInt64) hx hb dX8_tells_16 rfl ?_
      refine lv_lconst (v := 0) hx hb dX8_tells_17 (by decide) ?_
      refine lv_ldc2 (own := RX8) (index := 106) (v := 5) hx hb hown (hts _ (List.mem_of_getElem? (i := 1) rfl)) dX8_tells_18 ?_
      obtain ⟨r7, σ8, eσ8, hs⟩ := sp_bind hs
      refine sv_goI (σ' := σ8) (r := r7) hW F.2.2.2.1 (sv_runT F hW (k_X8_in hB eσ8 H.size) gX8_tells_X8_in rfl ⟨rfl, rfl⟩ 3 (by decide +kernel) (sv_room2 (by omega) (by omega)) rfl hl.1 rfl (Nat.le_of_ble_eq_true rfl) dX8_tells_21 ⟨Nat.zero_le _, Nat.zero_le _⟩) (fun H locs hW => ?_)
      refine lv_if_ne (tgt := 44) hx hb dX8_tells_24 (by decide) (fun c9 => ?_) (fun c9 => ?_)
      · replace hs := (sp_ite hs).2 c9
        exact b_X8_tells_44 hB F hr hlk a1 a2 a3 σ8 H locs ls (lv_sub hl [0, 1, 2, 3] rfl) hW hs
      · replace hs := (sp_ite hs).1 c9
        refine lv_iload_n hx hb dX8_tells_27 rfl (lv_at hl 3 rfl) ?_
        refine lv_i2l (v := a3.toInt64) hx hb dX8_tells_28 rfl ?_
        refine lv_ldc2 (own := RX8) (index := 145) (v := 10) hx hb hown (hts _ (List.mem_of_getElem? (i := 2) rfl)) dX8_tells_29 ?_
        refine lv_ldc2 (own := RX8) (index := 321) (v := 33) hx hb hown (hts _ (List.mem_of_getElem? (i := 3) rfl)) dX8_tells_32 ?_
        obtain ⟨r52, σ53, eσ53, hs⟩ := sp_bind hs
        refine sv_goI (σ' := σ53) (r := r52) hW F.2.2.2.1 (sv_runT F hW (k_X8_in hB eσ53 H.size) gX8_tells_X8_in rfl ⟨rfl, rfl⟩ 3 (by decide +kernel) (sv_room2 (by omega) (by omega)) rfl hl.1 rfl (Nat.le_of_ble_eq_true rfl) dX8_tells_35 ⟨Nat.zero_le _, Nat.zero_le _⟩) (fun H locs hW => ?_)
        refine lv_if_ne (tgt := 44) hx hb dX8_tells_38 (by decide) (fun c54 => ?_) (fun c54 => ?_)
        · replace hs := (sp_ite hs).2 c54
          exact b_X8_tells_44 hB F hr hlk a1 a2 a3 σ53 H locs ls (lv_sub hl [0, 1, 2, 3] rfl) hW hs
        · replace hs := (sp_ite hs).1 c54
          refine lv_bipush (v := -2) hx hb dX8_tells_41 (by decide) ?_
          cases hs
          exact sv_iret hx hb hr rfl hlk hW dX8_tells_43
set_option maxRecDepth 100000 in
set_option maxHeartbeats 4000000 in
theorem b_X8_sheet_77 {p : Program} {l : Launch} {e : Env} {s : State} {m : MethodId} {args : Array Value} {below : List Frame} {meth : Method} {c : Code} {D : va_G} {T : Nat → ClassId} {A : Nat → Prop} {h : Nat → Nat} {θ : sv_T} {a1 : Int32} {a2 : Int32} {a3 : Int32} {r : Int32} {σ' : sv_S} (hB : sm_base θ)  (F : sv_F sm_X p m c cX8_sheet 5 s args wsX8_sheet RX8 D (sm_tys T) A) (hr : meth.sig.returnType = (some .int)) (hlk : meth.locks = false)  : ∀ (n : Nat), ∀ (x1 : Int32) (x2 : Int32) (x3 : Int32) (x4 : Int32) (σ : sv_S) (H : Heap) (locs : List Loc) (ls : Array Slot), lv_has ls 5 [(0, .ref (h 0)), (1, .int x1), (2, .int x2), (3, .int x3), (4, .int x4)] → sv_W D T A s h θ σ H locs → q_X8_sheet_B77 θ a1 a2 a3 n x1 x2 x3 x4 σ = some (r, σ') → W p l e (sv_rm 2 45) s m args below meth c H locs 0 0 (MQ below (va_Qi (fun r2 (_ : Unit) => r2 = r) (fun _ t => va_P D vwCl (sv_ws T h θ σ') t.heap) A) args s 0 0 A) (F0 m 77 ls []) := by
  have hx := F.1.1
  have hb := F.1.2.1
  have hts := F.1.2.2.2.2
  have hown := F.1.2.2.2.1
  have hK := F.2.1
  intro n
  induction n with
  | zero =>
    intro x1 x2 x3 x4 σ H locs ls hl hW hs
    have hs : (none : Option (Int32 × sv_S)) = some (r, σ') := hs
    cases hs
  | succ n ih =>
    intro x1 x2 x3 x4 σ H locs ls hl hW hs
    have hs : q_X8_sheet_B77_b θ a1 a2 a3 (q_X8_sheet_B77 θ a1 a2 a3 n) x1 x2 x3 x4 σ = some (r, σ') := hs
    unfold q_X8_sheet_B77_b at hs
    refine lv_iload hx hb dX8_sheet_77 (lv_at hl 4 rfl) ?_
    refine lv_iload_n hx hb dX8_sheet_79 rfl (lv_at hl 3 rfl) ?_
    refine lv_icmp_ge (tgt := 106) hx hb dX8_sheet_80 (by decide) (fun c16 => ?_) (fun c16 => ?_)
    · replace hs := (sp_ite hs).1 c16
      refine lv_iconst (v := 1) hx hb dX8_sheet_106 (by decide) ?_
      cases hs
      exact sv_iret hx hb hr rfl hlk hW dX8_sheet_107
    · replace hs := (sp_ite hs).2 c16
      refine lv_iload_n hx hb dX8_sheet_83 rfl (lv_at hl 2 rfl) ?_
      refine lv_if_lt (tgt := 106) hx hb dX8_sheet_84 (by decide) (fun c17 => ?_) (fun c17 => ?_)
      · replace hs := (sp_ite hs).1 c17
        refine lv_iconst (v := 1) hx hb dX8_sheet_106 (by decide) ?_
        cases hs
        exact sv_iret hx hb hr rfl hlk hW dX8_sheet_107
      · replace hs := (sp_ite hs).2 c17
        refine lv_aload_n hx hb dX8_sheet_87 rfl (lv_at hl 0 rfl) ?_
        refine sv_get (own := RX8) (C := RX8) (Tf := TX8) (N := 44) (index := 54) (κ := (3, 13)) (v := .ref (h 13)) hx hb hts hown hK hW (fun _ h => List.mem_cons_of_mem _ (List.mem_append_right _ h)) (sm_i 0 hB (by decide)) (sm_c0 hB) rfl 43 (by decide) rfl rfl (List.mem_of_getElem? (i := 6) rfl) dX8_sheet_88 ?_
        refine lv_bipush (v := 40) hx hb dX8_sheet_91 (by decide) ?_
        refine lv_iload_n hx hb dX8_sheet_93 rfl (lv_at hl 1 rfl) ?_
        refine lv_imul hx hb dX8_sheet_94 ?_
        refine lv_iload hx hb dX8_sheet_95 (lv_at hl 4 rfl) ?_
        refine lv_iadd hx hb dX8_sheet_97 ?_
        refine lv_iconst (v := 0) hx hb dX8_sheet_98 (by decide) ?_
        obtain ⟨hi18, hs⟩ := sp_g hs
        refine sv_iast hx hb hK hW (sm_i 13 hB (by decide)) (sm_c13 hB) 0 rfl hi18 dX8_sheet_99 (fun σ19 H locs eσ19 hW => ?_)
        replace hs := sp_let hs eσ19
        obtain ⟨v20, ev20⟩ : ∃ y : Int32, y = x4 + 1 := ⟨_, rfl⟩
        replace hs := sp_let hs ev20
        refine lv_iinc (v := v20) (lv' := [(4, .int v20), (0, .ref (h 0)), (1, .int x1), (2, .int x2), (3, .int x3)]) hx hb dX8_sheet_100 hl (k := 4) rfl (by rw [ev20]; rfl) (by decide) rfl (fun ls hl => ?_)
        refine lv_goto (tgt := 77) hx hb dX8_sheet_103 (by decide) ?_
        exact ih x1 x2 x3 v20 σ19 H locs ls (lv_sub hl [1, 2, 3, 4, 0] rfl) hW hs
set_option maxRecDepth 100000 in
set_option maxHeartbeats 4000000 in
theorem b_X8_sheet_45 {p : Program} {l : Launch} {e : Env} {s : State} {m : MethodId} {args : Array Value} {below : List Frame} {meth : Method} {c : Code} {D : va_G} {T : Nat → ClassId} {A : Nat → Prop} {h : Nat → Nat} {θ : sv_T} {a1 : Int32} {a2 : Int32} {a3 : Int32} {r : Int32} {σ' : sv_S} (hB : sm_base θ)  (F : sv_F sm_X p m c cX8_sheet 5 s args wsX8_sheet RX8 D (sm_tys T) A) (hr : meth.sig.returnType = (some .int)) (hlk : meth.locks = false)  : ∀ (x1 : Int32) (x2 : Int32) (x3 : Int32) (σ : sv_S) (H : Heap) (locs : List Loc) (ls : Array Slot), lv_has ls 5 [(0, .ref (h 0)), (1, .int x1), (2, .int x2), (3, .int x3)] → sv_W D T A s h θ σ H locs → q_X8_sheet_B45 θ a1 a2 a3 x1 x2 x3 σ = some (r, σ') → W p l e (sv_rm 2 45) s m args below meth c H locs 0 0 (MQ below (va_Qi (fun r2 (_ : Unit) => r2 = r) (fun _ t => va_P D vwCl (sv_ws T h θ σ') t.heap) A) args s 0 0 A) (F0 m 45 ls []) := by
  have hx := F.1.1
  have hb := F.1.2.1
  have hts := F.1.2.2.2.2
  have hown := F.1.2.2.2.1
  have hK := F.2.1
  intro x1 x2 x3 σ H locs ls hl hW hs
  unfold q_X8_sheet_B45 at hs
  refine lv_aload_n hx hb dX8_sheet_45 rfl (lv_at hl 0 rfl) ?_
  refine sv_get (own := RX8) (C := RX8) (Tf := TX8) (N := 44) (index := 44) (κ := (3, 10)) (v := .ref (h 10)) hx hb hts hown hK hW (fun _ h => List.mem_cons_of_mem _ (List.mem_append_right _ h)) (sm_i 0 hB (by decide)) (sm_c0 hB) rfl 40 (by decide) rfl rfl (List.mem_of_getElem? (i := 3) rfl) dX8_sheet_46 ?_
  refine lv_iload_n hx hb dX8_sheet_49 rfl (lv_at hl 1 rfl) ?_
  refine lv_iload_n hx hb dX8_sheet_50 rfl (lv_at hl 2 rfl) ?_
  refine lv_if_lt (tgt := 58) hx hb dX8_sheet_51 (by decide) (fun c9 => ?_) (fun c9 => ?_)
  · replace hs := (sp_ite hs).1 c9
    refine lv_iconst (v := 0) hx hb dX8_sheet_58 (by decide) ?_
    obtain ⟨hi10, hs⟩ := sp_g hs
    refine sv_zast hx hb hK hW (sm_i 10 hB (by decide)) (sm_c10 hB) 1 rfl rfl hi10 dX8_sheet_59 (fun σ11 H locs eσ11 hW => ?_)
    replace hs := sp_let hs eσ11
    refine lv_aload_n hx hb dX8_sheet_60 rfl (lv_at hl 0 rfl) ?_
    refine sv_get (own := RX8) (C := RX8) (Tf := TX8) (N := 44) (index := 48) (κ := (3, 11)) (v := .ref (h 11)) hx hb hts hown hK hW (fun _ h => List.mem_cons_of_mem _ (List.mem_append_right _ h)) (sm_i 0 hB (by decide)) (sm_c0 hB) rfl 41 (by decide) rfl rfl (List.mem_of_getElem? (i := 4) rfl) dX8_sheet_61 ?_
    refine lv_iload_n hx hb dX8_sheet_64 rfl (lv_at hl 1 rfl) ?_
    refine lv_iload_n hx hb dX8_sheet_65 rfl (lv_at hl 2 rfl) ?_
    obtain ⟨hi12, hs⟩ := sp_g hs
    refine sv_iast hx hb hK hW (sm_i 11 hB (by decide)) (sm_c11 hB) 0 rfl hi12 dX8_sheet_66 (fun σ13 H locs eσ13 hW => ?_)
    replace hs := sp_let hs eσ13
    refine lv_aload_n hx hb dX8_sheet_67 rfl (lv_at hl 0 rfl) ?_
    refine sv_get (own := RX8) (C := RX8) (Tf := TX8) (N := 44) (index := 51) (κ := (3, 12)) (v := .ref (h 12)) hx hb hts hown hK hW (fun _ h => List.mem_cons_of_mem _ (List.mem_append_right _ h)) (sm_i 0 hB (by decide)) (sm_c0 hB) rfl 42 (by decide) rfl rfl (List.mem_of_getElem? (i := 5) rfl) dX8_sheet_68 ?_
    refine lv_iload_n hx hb dX8_sheet_71 rfl (lv_at hl 1 rfl) ?_
    refine lv_iload_n hx hb dX8_sheet_72 rfl (lv_at hl 3 rfl) ?_
    obtain ⟨hi14, hs⟩ := sp_g hs
    refine sv_iast hx hb hK hW (sm_i 12 hB (by decide)) (sm_c12 hB) 0 rfl hi14 dX8_sheet_73 (fun σ15 H locs eσ15 hW => ?_)
    replace hs := sp_let hs eσ15
    refine lv_iconst (v := 0) hx hb dX8_sheet_74 (by decide) ?_
    refine lv_istore (lv' := [(4, .int (0 : Int32)), (0, .ref (h 0)), (1, .int x1), (2, .int x2), (3, .int x3)]) hx hb dX8_sheet_75 hl (by decide) rfl (fun ls hl => ?_)
    exact b_X8_sheet_77 hB F hr hlk sv_N x1 x2 x3 (0 : Int32) σ15 H locs ls (lv_sub hl [1, 2, 3, 4, 0] rfl) hW hs
  · replace hs := (sp_ite hs).2 c9
    refine lv_iconst (v := 1) hx hb dX8_sheet_54 (by decide) ?_
    refine lv_goto (tgt := 59) hx hb dX8_sheet_55 (by decide) ?_
    obtain ⟨hi21, hs⟩ := sp_g hs
    refine sv_zast hx hb hK hW (sm_i 10 hB (by decide)) (sm_c10 hB) 1 rfl rfl hi21 dX8_sheet_59 (fun σ22 H locs eσ22 hW => ?_)
    replace hs := sp_let hs eσ22
    refine lv_aload_n hx hb dX8_sheet_60 rfl (lv_at hl 0 rfl) ?_
    refine sv_get (own := RX8) (C := RX8) (Tf := TX8) (N := 44) (index := 48) (κ := (3, 11)) (v := .ref (h 11)) hx hb hts hown hK hW (fun _ h => List.mem_cons_of_mem _ (List.mem_append_right _ h)) (sm_i 0 hB (by decide)) (sm_c0 hB) rfl 41 (by decide) rfl rfl (List.mem_of_getElem? (i := 4) rfl) dX8_sheet_61 ?_
    refine lv_iload_n hx hb dX8_sheet_64 rfl (lv_at hl 1 rfl) ?_
    refine lv_iload_n hx hb dX8_sheet_65 rfl (lv_at hl 2 rfl) ?_
    obtain ⟨hi23, hs⟩ := sp_g hs
    refine sv_iast hx hb hK hW (sm_i 11 hB (by decide)) (sm_c11 hB) 0 rfl hi23 dX8_sheet_66 (fun σ24 H locs eσ24 hW => ?_)
    replace hs := sp_let hs eσ24
    refine lv_aload_n hx hb dX8_sheet_67 rfl (lv_at hl 0 rfl) ?_
    refine sv_get (own := RX8) (C := RX8) (Tf := TX8) (N := 44) (index := 51) (κ := (3, 12)) (v := .ref (h 12)) hx hb hts hown hK hW (fun _ h => List.mem_cons_of_mem _ (List.mem_append_right _ h)) (sm_i 0 hB (by decide)) (sm_c0 hB) rfl 42 (by decide) rfl rfl (List.mem_of_getElem? (i := 5) rfl) dX8_sheet_68 ?_
    refine lv_iload_n hx hb dX8_sheet_71 rfl (lv_at hl 1 rfl) ?_
    refine lv_iload_n hx hb dX8_sheet_72 rfl (lv_at hl 3 rfl) ?_
    obtain ⟨hi25, hs⟩ := sp_g hs
    refine sv_iast hx hb hK hW (sm_i 12 hB (by decide)) (sm_c12 hB) 0 rfl hi25 dX8_sheet_73 (fun σ26 H locs eσ26 hW => ?_)
    replace hs := sp_let hs eσ26
    refine lv_iconst (v := 0) hx hb dX8_sheet_74 (by decide) ?_
    refine lv_istore (lv' := [(4, .int (0 : Int32)), (0, .ref (h 0)), (1, .int x1), (2, .int x2), (3, .int x3)]) hx hb dX8_sheet_75 hl (by decide) rfl (fun ls hl => ?_)
    exact b_X8_sheet_77 hB F hr hlk sv_N x1 x2 x3 (0 : Int32) σ26 H locs ls (lv_sub hl [1, 2, 3, 4, 0] rfl) hW hs
set_option maxRecDepth 100000 in
set_option maxHeartbeats 4000000 in
theorem k_X8_sheet {l : Launch} {D : va_G} {T : Nat → ClassId} {h : Nat → Nat} {θ : sv_T} {a1 : Int32} {a2 : Int32} {a3 : Int32} {σ : sv_S} {r : Int32} {σ' : sv_S} (hB : sm_base θ)  (hs : q_X8_sheet θ a1 a2 a3 σ = some (r, σ')) : sv_Mi sm_X l D T (sm_tys T) h θ yX8_sheet wsX8_sheet (sv_rm 2 45) [.ref (h 0), .int a1, .int a2, .int a3] σ r σ' := by
  intro sz
  refine sv_enter (cc := cX8_sheet) (maxL := 5) (ret := (some .int)) (Qc := fun A => va_Qi (fun r2 (_ : Unit) => r2 = r) (fun _ t => va_P D vwCl (sv_ws T h θ σ') t.heap) A) sm_XP (by decide) rfl (Nat.le_of_ble_eq_true rfl) ?_
  intro p e s m args below meth c A F hr hlk ls H hl hW
  have hx := F.1.1
  have hb := F.1.2.1
  have hts := F.1.2.2.2.2
  have hown := F.1.2.2.2.1
  have hK := F.2.1
  obtain ⟨locs, hlocs⟩ : ∃ z : List Loc, z = [] := ⟨_, rfl⟩
  rw [← hlocs] at hW ⊢
  have hl : lv_has ls 5 [(0, .ref (h 0)), (1, .int a1), (2, .int a2), (3, .int a3)] := hl
  unfold q_X8_sheet at hs
  refine lv_iload_n hx hb dX8_sheet_0 rfl (lv_at hl 1 rfl) ?_
  obtain ⟨r1, σ2, eσ2, hs⟩ := sp_bind hs
  refine sv_goI (σ' := σ2) (r := r1) hW F.2.2.2.1 (sv_runT F hW (k_X8_isSheet hB eσ2 H.size) gX8_sheet_X8_isSheet rfl ⟨rfl, rfl⟩ 1 (by decide +kernel) (sv_room2 (by omega) (by omega)) rfl hl.1 rfl (Nat.le_of_ble_eq_true rfl) dX8_sheet_1 ⟨Nat.zero_le _, Nat.zero_le _⟩) (fun H locs hW => ?_)
  refine lv_if_eq (tgt := 31) hx hb dX8_sheet_4 (by decide) (fun c3 => ?_) (fun c3 => ?_)
  · replace hs := (sp_ite hs).1 c3
    refine lv_bipush (v := -2) hx hb dX8_sheet_31 (by decide) ?_
    cases hs
    exact sv_iret hx hb hr rfl hlk hW dX8_sheet_33
  · replace hs := (sp_ite hs).2 c3
    refine lv_iload_n hx hb dX8_sheet_7 rfl (lv_at hl 2 rfl) ?_
    refine lv_i2l (v := a2.toInt64) hx hb dX8_sheet_8 rfl ?_
    refine lv_ldc2 (own := RX8) (index := 347) (v := -1) hx hb hown (hts _ (List.mem_of_getElem? (i := 1) rfl)) dX8_sheet_9 ?_
    refine lv_ldc2 (own := RX8) (index := 349) (v := 2) hx hb hown (hts _ (List.mem_of_getElem? (i := 2) rfl)) dX8_sheet_12 ?_
    obtain ⟨r4, σ5, eσ5, hs⟩ := sp_bind hs
    refine sv_goI (σ' := σ5) (r := r4) hW F.2.2.2.1 (sv_runT F hW (k_X8_in hB eσ5 H.size) gX8_sheet_X8_in rfl ⟨rfl, rfl⟩ 3 (by decide +kernel) (sv_room2 (by omega) (by omega)) rfl hl.1 rfl (Nat.le_of_ble_eq_true rfl) dX8_sheet_15 ⟨Nat.zero_le _, Nat.zero_le _⟩) (fun H locs hW => ?_)
    refine lv_if_eq (tgt := 31) hx hb dX8_sheet_18 (by decide) (fun c6 => ?_) (fun c6 => ?_)
    · replace hs := (sp_ite hs).1 c6
      refine lv_bipush (v := -2) hx hb dX8_sheet_31 (by decide) ?_
      cases hs
      exact sv_iret hx hb hr rfl hlk hW dX8_sheet_33
    · replace hs := (sp_ite hs).2 c6
      refine lv_iload_n hx hb dX8_sheet_21 rfl (lv_at hl 2 rfl) ?_
      refine lv_if_lt (tgt := 34) hx hb dX8_sheet_22 (by decide) (fun c7 => ?_) (fun c7 => ?_)
      · replace hs := (sp_ite hs).1 c7
        refine lv_iload_n hx hb dX8_sheet_34 rfl (lv_at hl 2 rfl) ?_
        refine lv_if_lt (tgt := 45) hx hb dX8_sheet_35 (by decide) (fun c8 => ?_) (fun c8 => ?_)
        · replace hs := (sp_ite hs).1 c8
          exact b_X8_sheet_45 hB F hr hlk a1 a2 a3 σ5 H locs ls (lv_sub hl [0, 1, 2, 3] rfl) hW hs
        · replace hs := (sp_ite hs).2 c8
          refine lv_iload_n hx hb dX8_sheet_38 rfl (lv_at hl 3 rfl) ?_
          refine lv_if_ge (tgt := 45) hx hb dX8_sheet_39 (by decide) (fun c27 => ?_) (fun c27 => ?_)
          · replace hs := (sp_ite hs).1 c27
            exact b_X8_sheet_45 hB F hr hlk a1 a2 a3 σ5 H locs ls (lv_sub hl [0, 1, 2, 3] rfl) hW hs
          · replace hs := (sp_ite hs).2 c27
            refine lv_bipush (v := -14) hx hb dX8_sheet_42 (by decide) ?_
            cases hs
            exact sv_iret hx hb hr rfl hlk hW dX8_sheet_44
      · replace hs := (sp_ite hs).2 c7
        refine lv_iload_n hx hb dX8_sheet_25 rfl (lv_at hl 3 rfl) ?_
        refine lv_bipush (v := 40) hx hb dX8_sheet_26 (by decide) ?_
        refine lv_icmp_le (tgt := 34) hx hb dX8_sheet_28 (by decide) (fun c28 => ?_) (fun c28 => ?_)
        · replace hs := (sp_ite hs).1 c28
          refine lv_iload_n hx hb dX8_sheet_34 rfl (lv_at hl 2 rfl) ?_
          refine lv_if_lt (tgt := 45) hx hb dX8_sheet_35 (by decide) (fun c29 => ?_) (fun c29 => ?_)
          · replace hs := (sp_ite hs).1 c29
            exact b_X8_sheet_45 hB F hr hlk a1 a2 a3 σ5 H locs ls (lv_sub hl [0, 1, 2, 3] rfl) hW hs
          · replace hs := (sp_ite hs).2 c29
            refine lv_iload_n hx hb dX8_sheet_38 rfl (lv_at hl 3 rfl) ?_
            refine lv_if_ge (tgt := 45) hx hb dX8_sheet_39 (by decide) (fun c30 => ?_) (fun c30 => ?_)
            · replace hs := (sp_ite hs).1 c30
              exact b_X8_sheet_45 hB F hr hlk a1 a2 a3 σ5 H locs ls (lv_sub hl [0, 1, 2, 3] rfl) hW hs
            · replace hs := (sp_ite hs).2 c30
              refine lv_bipush (v := -14) hx hb dX8_sheet_42 (by decide) ?_
              cases hs
              exact sv_iret hx hb hr rfl hlk hW dX8_sheet_44
        · replace hs := (sp_ite hs).2 c28
          refine lv_bipush (v := -2) hx hb dX8_sheet_31 (by decide) ?_
          cases hs
          exact sv_iret hx hb hr rfl hlk hW dX8_sheet_33
set_option maxRecDepth 100000 in
set_option maxHeartbeats 4000000 in
theorem b_X8_film_47 {p : Program} {l : Launch} {e : Env} {s : State} {m : MethodId} {args : Array Value} {below : List Frame} {meth : Method} {c : Code} {D : va_G} {T : Nat → ClassId} {A : Nat → Prop} {h : Nat → Nat} {θ : sv_T} {a1 : Int32} {a2 : Int32} {a3 : Int32} {r : Int32} {σ' : sv_S} (hB : sm_base θ)  (F : sv_F sm_X p m c cX8_film 6 s args wsX8_film RX8 D (sm_tys T) A) (hr : meth.sig.returnType = (some .int)) (hlk : meth.locks = false)  : ∀ (n : Nat), ∀ (x1 : Int32) (x2 : Int32) (x3 : Int32) (x4 : Int32) (x5 : Int32) (σ : sv_S) (H : Heap) (locs : List Loc) (ls : Array Slot), lv_has ls 6 [(0, .ref (h 0)), (1, .int x1), (2, .int x2), (3, .int x3), (4, .int x4), (5, .int x5)] → sv_W D T A s h θ σ H locs → q_X8_film_B47 θ a1 a2 a3 n x1 x2 x3 x4 x5 σ = some (r, σ') → W p l e (sv_rm 65 2518) s m args below meth c H locs 0 0 (MQ below (va_Qi (fun r2 (_ : Unit) => r2 = r) (fun _ t => va_P D vwCl (sv_ws T h θ σ') t.heap) A) args s 0 0 A) (F0 m 47 ls []) := by
  have hx := F.1.1
  have hb := F.1.2.1
  have hts := F.1.2.2.2.2
  have hown := F.1.2.2.2.1
  have hK := F.2.1
  intro n
  induction n with
  | zero =>
    intro x1 x2 x3 x4 x5 σ H locs ls hl hW hs
    have hs : (none : Option (Int32 × sv_S)) = some (r, σ') := hs
    cases hs
  | succ n ih =>
    intro x1 x2 x3 x4 x5 σ H locs ls hl hW hs
    have hs : q_X8_film_B47_b θ a1 a2 a3 (q_X8_film_B47 θ a1 a2 a3 n) x1 x2 x3 x4 x5 σ = some (r, σ') := hs
    unfold q_X8_film_B47_b at hs
    refine lv_iload hx hb dX8_film_47 (lv_at hl 5 rfl) ?_
    refine lv_iload_n hx hb dX8_film_49 rfl (lv_at hl 3 rfl) ?_
    refine lv_icmp_ge (tgt := 80) hx hb dX8_film_50 (by decide) (fun c14 => ?_) (fun c14 => ?_)
    · replace hs := (sp_ite hs).1 c14
      refine lv_iload_n hx hb dX8_film_80 rfl (lv_at hl 3 rfl) ?_
      cases hs
      exact sv_iret hx hb hr rfl hlk hW dX8_film_81
    · replace hs := (sp_ite hs).2 c14
      refine lv_aload_n hx hb dX8_film_53 rfl (lv_at hl 0 rfl) ?_
      refine sv_get (own := RX8) (C := RX8) (Tf := TX8) (N := 44) (index := 54) (κ := (3, 13)) (v := .ref (h 13)) hx hb hts hown hK hW (fun _ h => List.mem_cons_of_mem _ (List.mem_append_right _ h)) (sm_i 0 hB (by decide)) (sm_c0 hB) rfl 43 (by decide) rfl rfl (List.mem_of_getElem? (i := 2) rfl) dX8_film_54 ?_
      refine lv_bipush (v := 40) hx hb dX8_film_57 (by decide) ?_
      refine lv_iload_n hx hb dX8_film_59 rfl (lv_at hl 1 rfl) ?_
      refine lv_imul hx hb dX8_film_60 ?_
      refine lv_iload hx hb dX8_film_61 (lv_at hl 5 rfl) ?_
      refine lv_iadd hx hb dX8_film_63 ?_
      refine lv_aload_n hx hb dX8_film_64 rfl (lv_at hl 0 rfl) ?_
      refine lv_iload_n hx hb dX8_film_65 rfl (lv_at hl 2 rfl) ?_
      refine lv_iload hx hb dX8_film_66 (lv_at hl 5 rfl) ?_
      refine lv_iload hx hb dX8_film_68 (lv_at hl 4 rfl) ?_
      obtain ⟨r15, σ16, eσ16, hs⟩ := sp_bind hs
      refine sv_goI (σ' := σ16) (r := r15) hW F.2.2.2.1 (sv_runV (C := RX8) F hW (k_X8_worthOf hB eσ16 H.size) gX8_film_X8_worthOf rfl ⟨rfl, rfl⟩ 3 (by decide +kernel) (sv_room2 (by omega) (by omega)) (sm_i 0 hB (by decide)) (sm_c0 hB) rfl rfl hl.1 rfl (Nat.le_of_ble_eq_true rfl) dX8_film_70 ⟨Nat.zero_le _, Nat.zero_le _⟩) (fun H locs hW => ?_)
      obtain ⟨hi17, hs⟩ := sp_g hs
      refine sv_iast hx hb hK hW (sm_i 13 hB (by decide)) (sm_c13 hB) 0 rfl hi17 dX8_film_73 (fun σ18 H locs eσ18 hW => ?_)
      replace hs := sp_let hs eσ18
      obtain ⟨v19, ev19⟩ : ∃ y : Int32, y = x5 + 1 := ⟨_, rfl⟩
      replace hs := sp_let hs ev19
      refine lv_iinc (v := v19) (lv' := [(5, .int v19), (0, .ref (h 0)), (1, .int x1), (2, .int x2), (3, .int x3), (4, .int x4)]) hx hb dX8_film_74 hl (k := 5) rfl (by rw [ev19]; rfl) (by decide) rfl (fun ls hl => ?_)
      refine lv_goto (tgt := 47) hx hb dX8_film_77 (by decide) ?_
      exact ih x1 x2 x3 x4 v19 σ18 H locs ls (lv_sub hl [1, 2, 3, 4, 5, 0] rfl) hW hs
set_option maxRecDepth 100000 in
set_option maxHeartbeats 4000000 in
theorem k_X8_film {l : Launch} {D : va_G} {T : Nat → ClassId} {h : Nat → Nat} {θ : sv_T} {a1 : Int32} {a2 : Int32} {a3 : Int32} {σ : sv_S} {r : Int32} {σ' : sv_S} (hB : sm_base θ)  (hs : q_X8_film θ a1 a2 a3 σ = some (r, σ')) : sv_Mi sm_X l D T (sm_tys T) h θ yX8_film wsX8_film (sv_rm 65 2518) [.ref (h 0), .int a1, .int a2, .int a3] σ r σ' := by
  intro sz
  refine sv_enter (cc := cX8_film) (maxL := 6) (ret := (some .int)) (Qc := fun A => va_Qi (fun r2 (_ : Unit) => r2 = r) (fun _ t => va_P D vwCl (sv_ws T h θ σ') t.heap) A) sm_XP (by decide) rfl (Nat.le_of_ble_eq_true rfl) ?_
  intro p e s m args below meth c A F hr hlk ls H hl hW
  have hx := F.1.1
  have hb := F.1.2.1
  have hts := F.1.2.2.2.2
  have hown := F.1.2.2.2.1
  have hK := F.2.1
  obtain ⟨locs, hlocs⟩ : ∃ z : List Loc, z = [] := ⟨_, rfl⟩
  rw [← hlocs] at hW ⊢
  have hl : lv_has ls 6 [(0, .ref (h 0)), (1, .int a1), (2, .int a2), (3, .int a3)] := hl
  unfold q_X8_film at hs
  refine lv_iload_n hx hb dX8_film_0 rfl (lv_at hl 1 rfl) ?_
  obtain ⟨r1, σ2, eσ2, hs⟩ := sp_bind hs
  refine sv_goI (σ' := σ2) (r := r1) hW F.2.2.2.1 (sv_runT F hW (k_X8_isSheet hB eσ2 H.size) gX8_film_X8_isSheet rfl ⟨rfl, rfl⟩ 1 (by decide +kernel) (sv_room2 (by omega) (by omega)) rfl hl.1 rfl (Nat.le_of_ble_eq_true rfl) dX8_film_1 ⟨Nat.zero_le _, Nat.zero_le _⟩) (fun H locs hW => ?_)
  refine lv_if_eq (tgt := 27) hx hb dX8_film_4 (by decide) (fun c3 => ?_) (fun c3 => ?_)
  · replace hs := (sp_ite hs).1 c3
    refine lv_bipush (v := -2) hx hb dX8_film_27 (by decide) ?_
    cases hs
    exact sv_iret hx hb hr rfl hlk hW dX8_film_29
  · replace hs := (sp_ite hs).2 c3
    refine lv_aload_n hx hb dX8_film_7 rfl (lv_at hl 0 rfl) ?_
    refine lv_iload_n hx hb dX8_film_8 rfl (lv_at hl 2 rfl) ?_
    obtain ⟨r4, σ5, eσ5, hs⟩ := sp_bind hs
    refine sv_goI (σ' := σ5) (r := r4) hW F.2.2.2.1 (sv_runV (C := RX8) F hW (k_X8_isOne hB eσ5 H.size) gX8_film_X8_isOne rfl ⟨rfl, rfl⟩ 1 (by decide +kernel) (sv_room2 (by omega) (by omega)) (sm_i 0 hB (by decide)) (sm_c0 hB) rfl rfl hl.1 rfl (Nat.le_of_ble_eq_true rfl) dX8_film_9 ⟨Nat.zero_le _, Nat.zero_le _⟩) (fun H locs hW => ?_)
    refine lv_if_eq (tgt := 27) hx hb dX8_film_12 (by decide) (fun c6 => ?_) (fun c6 => ?_)
    · replace hs := (sp_ite hs).1 c6
      refine lv_bipush (v := -2) hx hb dX8_film_27 (by decide) ?_
      cases hs
      exact sv_iret hx hb hr rfl hlk hW dX8_film_29
    · replace hs := (sp_ite hs).2 c6
      refine lv_iload_n hx hb dX8_film_15 rfl (lv_at hl 3 rfl) ?_
      refine lv_i2l (v := a3.toInt64) hx hb dX8_film_16 rfl ?_
      refine lv_lconst (v := 0) hx hb dX8_film_17 (by decide) ?_
      refine lv_ldc2 (own := RX8) (index := 326) (v := 24) hx hb hown (hts _ (List.mem_of_getElem? (i := 1) rfl)) dX8_film_18 ?_
      obtain ⟨r7, σ8, eσ8, hs⟩ := sp_bind hs
      refine sv_goI (σ' := σ8) (r := r7) hW F.2.2.2.1 (sv_runT F hW (k_X8_in hB eσ8 H.size) gX8_film_X8_in rfl ⟨rfl, rfl⟩ 3 (by decide +kernel) (sv_room2 (by omega) (by omega)) rfl hl.1 rfl (Nat.le_of_ble_eq_true rfl) dX8_film_21 ⟨Nat.zero_le _, Nat.zero_le _⟩) (fun H locs hW => ?_)
      refine lv_if_ne (tgt := 30) hx hb dX8_film_24 (by decide) (fun c9 => ?_) (fun c9 => ?_)
      · replace hs := (sp_ite hs).2 c9
        refine lv_aload_n hx hb dX8_film_30 rfl (lv_at hl 0 rfl) ?_
        refine lv_iload_n hx hb dX8_film_31 rfl (lv_at hl 1 rfl) ?_
        refine lv_iconst (v := 1) hx hb dX8_film_32 (by decide) ?_
        refine lv_iload_n hx hb dX8_film_33 rfl (lv_at hl 3 rfl) ?_
        obtain ⟨r10, σ11, eσ11, hs⟩ := sp_bind hs
        refine sv_goI (σ' := σ11) (r := r10) hW F.2.2.2.1 (sv_runV (C := RX8) F hW (k_X8_sheet hB eσ11 H.size) gX8_film_X8_sheet rfl ⟨rfl, rfl⟩ 3 (by decide +kernel) (sv_room2 (by omega) (by omega)) (sm_i 0 hB (by decide)) (sm_c0 hB) rfl rfl hl.1 rfl (Nat.le_of_ble_eq_true rfl) dX8_film_34 ⟨Nat.zero_le _, Nat.zero_le _⟩) (fun H locs hW => ?_)
        refine lv_pop hx hb dX8_film_37 rfl ?_
        refine lv_aload_n hx hb dX8_film_38 rfl (lv_at hl 0 rfl) ?_
        obtain ⟨r12, σ13, eσ13, hs⟩ := sp_bind hs
        refine sv_goI (σ' := σ13) (r := r12) hW F.2.2.2.1 (sv_runV (C := RX8) F hW (k_X8_shakenMany hB eσ13 H.size) gX8_film_X8_shakenMany rfl ⟨rfl, rfl⟩ 0 (by decide +kernel) (sv_room2 (by omega) (by omega)) (sm_i 0 hB (by decide)) (sm_c0 hB) rfl rfl hl.1 rfl (Nat.le_of_ble_eq_true rfl) dX8_film_39 ⟨Nat.zero_le _, Nat.zero_le _⟩) (fun H locs hW => ?_)
        refine lv_istore (lv' := [(4, .int r12), (0, .ref (h 0)), (1, .int a1), (2, .int a2), (3, .int a3)]) hx hb dX8_film_42 hl (by decide) rfl (fun ls hl => ?_)
        refine lv_iconst (v := 0) hx hb dX8_film_44 (by decide) ?_
        refine lv_istore (lv' := [(5, .int (0 : Int32)), (4, .int r12), (0, .ref (h 0)), (1, .int a1), (2, .int a2), (3, .int a3)]) hx hb dX8_film_45 hl (by decide) rfl (fun ls hl => ?_)
        exact b_X8_film_47 hB F hr hlk sv_N a1 a2 a3 r12 (0 : Int32) σ13 H locs ls (lv_sub hl [2, 3, 4, 5, 1, 0] rfl) hW hs
      · replace hs := (sp_ite hs).1 c9
        refine lv_bipush (v := -2) hx hb dX8_film_27 (by decide) ?_
        cases hs
        exact sv_iret hx hb hr rfl hlk hW dX8_film_29
set_option maxRecDepth 100000 in
set_option maxHeartbeats 4000000 in
theorem b_X8_gainBy_100 {p : Program} {l : Launch} {e : Env} {s : State} {m : MethodId} {args : Array Value} {below : List Frame} {meth : Method} {c : Code} {D : va_G} {T : Nat → ClassId} {A : Nat → Prop} {h : Nat → Nat} {θ : sv_T} {a1 : Int32} {r : Int32} {σ' : sv_S} (hB : sm_base θ)  (F : sv_F sm_X p m c cX8_gainBy 5 s args wsX8_gainBy RX8 D (sm_tys T) A) (hr : meth.sig.returnType = (some .int)) (hlk : meth.locks = false)  : ∀ (n : Nat), ∀ (x3 : Int32) (σ : sv_S) (H : Heap) (locs : List Loc) (ls : Array Slot), lv_has ls 5 [(0, .ref (h 0)), (3, .int x3)] → sv_W D T A s h θ σ H locs → q_X8_gainBy_B100 θ a1 n x3 σ = some (r, σ') → W p l e (sv_rm 68 2591) s m args below meth c H locs 0 0 (MQ below (va_Qi (fun r2 (_ : Unit) => r2 = r) (fun _ t => va_P D vwCl (sv_ws T h θ σ') t.heap) A) args s 0 0 A) (F0 m 100 ls []) := by
  have hx := F.1.1
  have hb := F.1.2.1
  have hts := F.1.2.2.2.2
  have hown := F.1.2.2.2.1
  have hK := F.2.1
  intro n
  induction n with
  | zero =>
    intro x3 σ H locs ls hl hW hs
    have hs : (none : Option (Int32 × sv_S)) = some (r, σ') := hs
    cases hs
  | succ n ih =>
    intro x3 σ H locs ls hl hW hs
    have hs : q_X8_gainBy_B100_b θ a1 (q_X8_gainBy_B100 θ a1 n) x3 σ = some (r, σ') := hs
    unfold q_X8_gainBy_B100_b at hs
    refine lv_iload_n hx hb dX8_gainBy_100 rfl (lv_at hl 1 rfl) ?_
    refine lv_bipush (v := 48) hx hb dX8_gainBy_101 (by decide) ?_
    refine lv_icmp_ge (tgt := 124) hx hb dX8_gainBy_103 (by decide) (fun c5 => ?_) (fun c5 => ?_)
    · replace hs := (sp_ite hs).1 c5
      refine lv_aload_n hx hb dX8_gainBy_124 rfl (lv_at hl 0 rfl) ?_
      refine sv_get (own := RX8) (C := RX8) (Tf := TX8) (N := 44) (index := 261) (κ := (0, 0)) (v := .int (σ.1 0 27)) hx hb hts hown hK hW (fun _ h => List.mem_cons_of_mem _ (List.mem_append_right _ h)) (sm_i 0 hB (by decide)) (sm_c0 hB) rfl 27 (by decide) rfl rfl (List.mem_of_getElem? (i := 5) rfl) dX8_gainBy_125 ?_
      cases hs
      exact sv_iret hx hb hr rfl hlk hW dX8_gainBy_128
    · replace hs := (sp_ite hs).2 c5
      refine lv_aload_n hx hb dX8_gainBy_106 rfl (lv_at hl 0 rfl) ?_
      refine sv_get (own := RX8) (C := RX8) (Tf := TX8) (N := 44) (index := 23) (κ := (3, 4)) (v := .ref (h 4)) hx hb hts hown hK hW (fun _ h => List.mem_cons_of_mem _ (List.mem_append_right _ h)) (sm_i 0 hB (by decide)) (sm_c0 hB) rfl 8 (by decide) rfl rfl (List.mem_of_getElem? (i := 2) rfl) dX8_gainBy_107 ?_
      refine lv_iload_n hx hb dX8_gainBy_110 rfl (lv_at hl 1 rfl) ?_
      refine lv_aload_n hx hb dX8_gainBy_111 rfl (lv_at hl 0 rfl) ?_
      refine sv_get (own := RX8) (C := RX8) (Tf := TX8) (N := 44) (index := 32) (κ := (3, 7)) (v := .ref (h 7)) hx hb hts hown hK hW (fun _ h => List.mem_cons_of_mem _ (List.mem_append_right _ h)) (sm_i 0 hB (by decide)) (sm_c0 hB) rfl 34 (by decide) rfl rfl (List.mem_of_getElem? (i := 1) rfl) dX8_gainBy_112 ?_
      refine lv_iload_n hx hb dX8_gainBy_115 rfl (lv_at hl 1 rfl) ?_
      obtain ⟨hi6, hs⟩ := sp_g hs
      refine sv_iald hx hb hK hW (sm_i 7 hB (by decide)) (sm_c7 hB) 0 rfl hi6 dX8_gainBy_116 ?_
      obtain ⟨hi7, hs⟩ := sp_g hs
      refine sv_iast hx hb hK hW (sm_i 4 hB (by decide)) (sm_c4 hB) 0 rfl hi7 dX8_gainBy_117 (fun σ8 H locs eσ8 hW => ?_)
      replace hs := sp_let hs eσ8
      obtain ⟨v9, ev9⟩ : ∃ y : Int32, y = x3 + 1 := ⟨_, rfl⟩
      replace hs := sp_let hs ev9
      refine lv_iinc (v := v9) (lv' := [(3, .int v9), (0, .ref (h 0))]) hx hb dX8_gainBy_118 hl (k := 1) rfl (by rw [ev9]; rfl) (by decide) rfl (fun ls hl => ?_)
      refine lv_goto (tgt := 100) hx hb dX8_gainBy_121 (by decide) ?_
      exact ih v9 σ8 H locs ls (lv_sub hl [1, 0] rfl) hW hs
set_option maxRecDepth 100000 in
set_option maxHeartbeats 4000000 in
theorem b_X8_gainBy_71 {p : Program} {l : Launch} {e : Env} {s : State} {m : MethodId} {args : Array Value} {below : List Frame} {meth : Method} {c : Code} {D : va_G} {T : Nat → ClassId} {A : Nat → Prop} {h : Nat → Nat} {θ : sv_T} {a1 : Int32} {r : Int32} {σ' : sv_S} (hB : sm_base θ)  (F : sv_F sm_X p m c cX8_gainBy 5 s args wsX8_gainBy RX8 D (sm_tys T) A) (hr : meth.sig.returnType = (some .int)) (hlk : meth.locks = false)  : ∀ (n : Nat), ∀ (x3 : Int32) (σ : sv_S) (H : Heap) (locs : List Loc) (ls : Array Slot), lv_has ls 5 [(0, .ref (h 0)), (3, .int x3)] → sv_W D T A s h θ σ H locs → q_X8_gainBy_B71 θ a1 n x3 σ = some (r, σ') → W p l e (sv_rm 68 2591) s m args below meth c H locs 0 0 (MQ below (va_Qi (fun r2 (_ : Unit) => r2 = r) (fun _ t => va_P D vwCl (sv_ws T h θ σ') t.heap) A) args s 0 0 A) (F0 m 71 ls []) := by
  have hx := F.1.1
  have hb := F.1.2.1
  have hts := F.1.2.2.2.2
  have hown := F.1.2.2.2.1
  have hK := F.2.1
  intro n
  induction n with
  | zero =>
    intro x3 σ H locs ls hl hW hs
    have hs : (none : Option (Int32 × sv_S)) = some (r, σ') := hs
    cases hs
  | succ n ih =>
    intro x3 σ H locs ls hl hW hs
    have hs : q_X8_gainBy_B71_b θ a1 (q_X8_gainBy_B71 θ a1 n) x3 σ = some (r, σ') := hs
    unfold q_X8_gainBy_B71_b at hs
    refine lv_iload_n hx hb dX8_gainBy_71 rfl (lv_at hl 1 rfl) ?_
    refine lv_aload_n hx hb dX8_gainBy_72 rfl (lv_at hl 0 rfl) ?_
    refine sv_get (own := RX8) (C := RX8) (Tf := TX8) (N := 44) (index := 64) (κ := (0, 0)) (v := .int (σ.1 0 11)) hx hb hts hown hK hW (fun _ h => List.mem_cons_of_mem _ (List.mem_append_right _ h)) (sm_i 0 hB (by decide)) (sm_c0 hB) rfl 11 (by decide) rfl rfl (List.mem_of_getElem? (i := 4) rfl) dX8_gainBy_73 ?_
    refine lv_icmp_ge (tgt := 98) hx hb dX8_gainBy_76 (by decide) (fun c4 => ?_) (fun c4 => ?_)
    · replace hs := (sp_ite hs).1 c4
      refine lv_iconst (v := 0) hx hb dX8_gainBy_98 (by decide) ?_
      refine lv_istore_n (lv' := [(3, .int (0 : Int32)), (0, .ref (h 0))]) hx hb dX8_gainBy_99 rfl hl (by decide) rfl (fun ls hl => ?_)
      exact b_X8_gainBy_100 hB F hr hlk sv_N (0 : Int32) σ H locs ls (lv_sub hl [1, 0] rfl) hW hs
    · replace hs := (sp_ite hs).2 c4
      refine lv_aload_n hx hb dX8_gainBy_79 rfl (lv_at hl 0 rfl) ?_
      refine lv_iload_n hx hb dX8_gainBy_80 rfl (lv_at hl 1 rfl) ?_
      obtain ⟨r10, σ11, eσ11, hs⟩ := sp_bind hs
      refine sv_goI (σ' := σ11) (r := r10) hW F.2.2.2.1 (sv_runV (C := RX8) F hW (k_X8_isShaken hB eσ11 H.size) gX8_gainBy_X8_isShaken rfl ⟨rfl, rfl⟩ 1 (by decide +kernel) (sv_room2 (by omega) (by omega)) (sm_i 0 hB (by decide)) (sm_c0 hB) rfl rfl hl.1 rfl (Nat.le_of_ble_eq_true rfl) dX8_gainBy_81 ⟨Nat.zero_le _, Nat.zero_le _⟩) (fun H locs hW => ?_)
      refine lv_if_ne (tgt := 92) hx hb dX8_gainBy_84 (by decide) (fun c12 => ?_) (fun c12 => ?_)
      · replace hs := (sp_ite hs).2 c12
        obtain ⟨v13, ev13⟩ : ∃ y : Int32, y = x3 + 1 := ⟨_, rfl⟩
        replace hs := sp_let hs ev13
        refine lv_iinc (v := v13) (lv' := [(3, .int v13), (0, .ref (h 0))]) hx hb dX8_gainBy_92 hl (k := 1) rfl (by rw [ev13]; rfl) (by decide) rfl (fun ls hl => ?_)
        refine lv_goto (tgt := 71) hx hb dX8_gainBy_95 (by decide) ?_
        exact ih v13 σ11 H locs ls (lv_sub hl [1, 0] rfl) hW hs
      · replace hs := (sp_ite hs).1 c12
        refine lv_aload_n hx hb dX8_gainBy_87 rfl (lv_at hl 0 rfl) ?_
        refine lv_iload_n hx hb dX8_gainBy_88 rfl (lv_at hl 1 rfl) ?_
        obtain ⟨r14, σ15, eσ15, hs⟩ := sp_bind hs
        refine sv_goV (σ' := σ15) (r := r14) hW F.2.2.2.1 (sv_runV (C := RX8) F hW (k_X8_deals hB eσ15 H.size) gX8_gainBy_X8_deals rfl ⟨rfl, rfl⟩ 1 (by decide +kernel) (sv_room2 (by omega) (by omega)) (sm_i 0 hB (by decide)) (sm_c0 hB) rfl rfl hl.1 rfl (Nat.le_of_ble_eq_true rfl) dX8_gainBy_89 ⟨Nat.zero_le _, Nat.zero_le _⟩) (fun H locs hW => ?_)
        obtain ⟨v16, ev16⟩ : ∃ y : Int32, y = x3 + 1 := ⟨_, rfl⟩
        replace hs := sp_let hs ev16
        refine lv_iinc (v := v16) (lv' := [(3, .int v16), (0, .ref (h 0))]) hx hb dX8_gainBy_92 hl (k := 1) rfl (by rw [ev16]; rfl) (by decide) rfl (fun ls hl => ?_)
        refine lv_goto (tgt := 71) hx hb dX8_gainBy_95 (by decide) ?_
        exact ih v16 σ15 H locs ls (lv_sub hl [1, 0] rfl) hW hs
set_option maxRecDepth 100000 in
set_option maxHeartbeats 4000000 in
theorem b_X8_gainBy_4 {p : Program} {l : Launch} {e : Env} {s : State} {m : MethodId} {args : Array Value} {below : List Frame} {meth : Method} {c : Code} {D : va_G} {T : Nat → ClassId} {A : Nat → Prop} {h : Nat → Nat} {θ : sv_T} {a1 : Int32} {r : Int32} {σ' : sv_S} (hB : sm_base θ)  (F : sv_F sm_X p m c cX8_gainBy 5 s args wsX8_gainBy RX8 D (sm_tys T) A) (hr : meth.sig.returnType = (some .int)) (hlk : meth.locks = false)  : ∀ (n : Nat), ∀ (x2 : Int32) (x3 : Int32) (σ : sv_S) (H : Heap) (locs : List Loc) (ls : Array Slot), lv_has ls 5 [(0, .ref (h 0)), (2, .int x2), (3, .int x3)] → sv_W D T A s h θ σ H locs → q_X8_gainBy_B4 θ a1 n x2 x3 σ = some (r, σ') → W p l e (sv_rm 68 2591) s m args below meth c H locs 0 0 (MQ below (va_Qi (fun r2 (_ : Unit) => r2 = r) (fun _ t => va_P D vwCl (sv_ws T h θ σ') t.heap) A) args s 0 0 A) (F0 m 4 ls []) := by
  have hx := F.1.1
  have hb := F.1.2.1
  have hts := F.1.2.2.2.2
  have hown := F.1.2.2.2.1
  have hK := F.2.1
  intro n
  induction n with
  | zero =>
    intro x2 x3 σ H locs ls hl hW hs
    have hs : (none : Option (Int32 × sv_S)) = some (r, σ') := hs
    cases hs
  | succ n ih =>
    intro x2 x3 σ H locs ls hl hW hs
    have hs : q_X8_gainBy_B4_b θ a1 (q_X8_gainBy_B4 θ a1 n) x2 x3 σ = some (r, σ') := hs
    unfold q_X8_gainBy_B4_b at hs
    refine lv_iload_n hx hb dX8_gainBy_4 rfl (lv_at hl 2 rfl) ?_
    refine lv_bipush (v := 48) hx hb dX8_gainBy_5 (by decide) ?_
    refine lv_icmp_ge (tgt := 65) hx hb dX8_gainBy_7 (by decide) (fun c1 => ?_) (fun c1 => ?_)
    · replace hs := (sp_ite hs).1 c1
      refine lv_aload_n hx hb dX8_gainBy_65 rfl (lv_at hl 0 rfl) ?_
      obtain ⟨r2, σ3, eσ3, hs⟩ := sp_bind hs
      refine sv_goV (σ' := σ3) (r := r2) hW F.2.2.2.1 (sv_runV (C := RX8) F hW (k_X8_begins hB eσ3 H.size) gX8_gainBy_X8_begins rfl ⟨rfl, rfl⟩ 0 (by decide +kernel) (sv_room2 (by omega) (by omega)) (sm_i 0 hB (by decide)) (sm_c0 hB) rfl rfl hl.1 rfl (Nat.le_of_ble_eq_true rfl) dX8_gainBy_66 ⟨Nat.zero_le _, Nat.zero_le _⟩) (fun H locs hW => ?_)
      refine lv_iconst (v := 0) hx hb dX8_gainBy_69 (by decide) ?_
      refine lv_istore_n (lv' := [(3, .int (0 : Int32)), (0, .ref (h 0)), (2, .int x2)]) hx hb dX8_gainBy_70 rfl hl (by decide) rfl (fun ls hl => ?_)
      exact b_X8_gainBy_71 hB F hr hlk sv_N (0 : Int32) σ3 H locs ls (lv_sub hl [1, 0] rfl) hW hs
    · replace hs := (sp_ite hs).2 c1
      refine lv_aload_n hx hb dX8_gainBy_10 rfl (lv_at hl 0 rfl) ?_
      refine sv_get (own := RX8) (C := RX8) (Tf := TX8) (N := 44) (index := 32) (κ := (3, 7)) (v := .ref (h 7)) hx hb hts hown hK hW (fun _ h => List.mem_cons_of_mem _ (List.mem_append_right _ h)) (sm_i 0 hB (by decide)) (sm_c0 hB) rfl 34 (by decide) rfl rfl (List.mem_of_getElem? (i := 1) rfl) dX8_gainBy_11 ?_
      refine lv_iload_n hx hb dX8_gainBy_14 rfl (lv_at hl 2 rfl) ?_
      refine lv_aload_n hx hb dX8_gainBy_15 rfl (lv_at hl 0 rfl) ?_
      refine sv_get (own := RX8) (C := RX8) (Tf := TX8) (N := 44) (index := 23) (κ := (3, 4)) (v := .ref (h 4)) hx hb hts hown hK hW (fun _ h => List.mem_cons_of_mem _ (List.mem_append_right _ h)) (sm_i 0 hB (by decide)) (sm_c0 hB) rfl 8 (by decide) rfl rfl (List.mem_of_getElem? (i := 2) rfl) dX8_gainBy_16 ?_
      refine lv_iload_n hx hb dX8_gainBy_19 rfl (lv_at hl 2 rfl) ?_
      obtain ⟨hi17, hs⟩ := sp_g hs
      refine sv_iald hx hb hK hW (sm_i 4 hB (by decide)) (sm_c4 hB) 0 rfl hi17 dX8_gainBy_20 ?_
      obtain ⟨hi18, hs⟩ := sp_g hs
      refine sv_iast hx hb hK hW (sm_i 7 hB (by decide)) (sm_c7 hB) 0 rfl hi18 dX8_gainBy_21 (fun σ19 H locs eσ19 hW => ?_)
      replace hs := sp_let hs eσ19
      refine lv_iload_n hx hb dX8_gainBy_22 rfl (lv_at hl 1 rfl) ?_
      refine lv_ldcw (own := RX8) (index := 331) (v := 1103515245) hx hb hown (hts _ (List.mem_of_getElem? (i := 3) rfl)) dX8_gainBy_23 ?_
      refine lv_imul hx hb dX8_gainBy_26 ?_
      refine lv_sipush (v := 12345) hx hb dX8_gainBy_27 (by decide) ?_
      refine lv_iadd hx hb dX8_gainBy_30 ?_
      refine lv_topi (fun v20 ev20 => ?_)
      replace hs := sp_let hs ev20
      refine lv_istore_n (lv' := [(2, .int v20), (0, .ref (h 0)), (3, .int x3)]) hx hb dX8_gainBy_31 rfl hl (by decide) rfl (fun ls hl => ?_)
      refine lv_iload_n hx hb dX8_gainBy_32 rfl (lv_at hl 0 rfl) ?_
      refine lv_bipush (v := 9) hx hb dX8_gainBy_33 (by decide) ?_
      refine lv_iushr (v := ((v20).toUInt32 >>> (((9 : Int32)).toUInt32 &&& Int32.toUInt32 31)).toInt32) hx hb dX8_gainBy_35 rfl ?_
      refine lv_bipush (v := 10) hx hb dX8_gainBy_36 (by decide) ?_
      refine lv_irem hx hb dX8_gainBy_38 (by decide) ?_
      refine lv_topi (fun v21 ev21 => ?_)
      replace hs := sp_let hs ev21
      refine lv_istore (lv' := [(4, .int v21), (2, .int v20), (0, .ref (h 0)), (3, .int x3)]) hx hb dX8_gainBy_39 hl (by decide) rfl (fun ls hl => ?_)
      refine lv_aload_n hx hb dX8_gainBy_41 rfl (lv_at hl 2 rfl) ?_
      refine sv_get (own := RX8) (C := RX8) (Tf := TX8) (N := 44) (index := 23) (κ := (3, 4)) (v := .ref (h 4)) hx hb hts hown hK hW (fun _ h => List.mem_cons_of_mem _ (List.mem_append_right _ h)) (sm_i 0 hB (by decide)) (sm_c0 hB) rfl 8 (by decide) rfl rfl (List.mem_of_getElem? (i := 2) rfl) dX8_gainBy_42 ?_
      refine lv_iload_n hx hb dX8_gainBy_45 rfl (lv_at hl 3 rfl) ?_
      refine lv_iload hx hb dX8_gainBy_46 (lv_at hl 0 rfl) ?_
      refine lv_iconst (v := 4) hx hb dX8_gainBy_48 (by decide) ?_
      refine lv_icmp_ge (tgt := 56) hx hb dX8_gainBy_49 (by decide) (fun c22 => ?_) (fun c22 => ?_)
      · replace hs := (sp_ite hs).1 c22
        refine lv_iload hx hb dX8_gainBy_56 (lv_at hl 0 rfl) ?_
        obtain ⟨hi23, hs⟩ := sp_g hs
        refine sv_iast hx hb hK hW (sm_i 4 hB (by decide)) (sm_c4 hB) 0 rfl hi23 dX8_gainBy_58 (fun σ24 H locs eσ24 hW => ?_)
        replace hs := sp_let hs eσ24
        obtain ⟨v25, ev25⟩ : ∃ y : Int32, y = x3 + 1 := ⟨_, rfl⟩
        replace hs := sp_let hs ev25
        refine lv_iinc (v := v25) (lv' := [(3, .int v25), (4, .int v21), (2, .int v20), (0, .ref (h 0))]) hx hb dX8_gainBy_59 hl (k := 3) rfl (by rw [ev25]; rfl) (by decide) rfl (fun ls hl => ?_)
        refine lv_goto (tgt := 4) hx hb dX8_gainBy_62 (by decide) ?_
        exact ih v20 v25 σ24 H locs ls (lv_sub hl [3, 2, 0] rfl) hW hs
      · replace hs := (sp_ite hs).2 c22
        refine lv_iconst (v := 0) hx hb dX8_gainBy_52 (by decide) ?_
        refine lv_goto (tgt := 58) hx hb dX8_gainBy_53 (by decide) ?_
        obtain ⟨hi26, hs⟩ := sp_g hs
        refine sv_iast hx hb hK hW (sm_i 4 hB (by decide)) (sm_c4 hB) 0 rfl hi26 dX8_gainBy_58 (fun σ27 H locs eσ27 hW => ?_)
        replace hs := sp_let hs eσ27
        obtain ⟨v28, ev28⟩ : ∃ y : Int32, y = x3 + 1 := ⟨_, rfl⟩
        replace hs := sp_let hs ev28
        refine lv_iinc (v := v28) (lv' := [(3, .int v28), (4, .int v21), (2, .int v20), (0, .ref (h 0))]) hx hb dX8_gainBy_59 hl (k := 3) rfl (by rw [ev28]; rfl) (by decide) rfl (fun ls hl => ?_)
        refine lv_goto (tgt := 4) hx hb dX8_gainBy_62 (by decide) ?_
        exact ih v20 v28 σ27 H locs ls (lv_sub hl [3, 2, 0] rfl) hW hs
set_option maxRecDepth 100000 in
set_option maxHeartbeats 4000000 in
theorem k_X8_gainBy {l : Launch} {D : va_G} {T : Nat → ClassId} {h : Nat → Nat} {θ : sv_T} {a1 : Int32} {σ : sv_S} {r : Int32} {σ' : sv_S} (hB : sm_base θ)  (hs : q_X8_gainBy θ a1 σ = some (r, σ')) : sv_Mi sm_X l D T (sm_tys T) h θ yX8_gainBy wsX8_gainBy (sv_rm 68 2591) [.ref (h 0), .int a1] σ r σ' := by
  intro sz
  refine sv_enter (cc := cX8_gainBy) (maxL := 5) (ret := (some .int)) (Qc := fun A => va_Qi (fun r2 (_ : Unit) => r2 = r) (fun _ t => va_P D vwCl (sv_ws T h θ σ') t.heap) A) sm_XP (by decide) rfl (Nat.le_of_ble_eq_true rfl) ?_
  intro p e s m args below meth c A F hr hlk ls H hl hW
  have hx := F.1.1
  have hb := F.1.2.1
  have hts := F.1.2.2.2.2
  have hown := F.1.2.2.2.1
  have hK := F.2.1
  obtain ⟨locs, hlocs⟩ : ∃ z : List Loc, z = [] := ⟨_, rfl⟩
  rw [← hlocs] at hW ⊢
  have hl : lv_has ls 5 [(0, .ref (h 0)), (1, .int a1)] := hl
  unfold q_X8_gainBy at hs
  refine lv_iload_n hx hb dX8_gainBy_0 rfl (lv_at hl 1 rfl) ?_
  refine lv_istore_n (lv' := [(2, .int a1), (0, .ref (h 0)), (1, .int a1)]) hx hb dX8_gainBy_1 rfl hl (by decide) rfl (fun ls hl => ?_)
  refine lv_iconst (v := 0) hx hb dX8_gainBy_2 (by decide) ?_
  refine lv_istore_n (lv' := [(3, .int (0 : Int32)), (2, .int a1), (0, .ref (h 0)), (1, .int a1)]) hx hb dX8_gainBy_3 rfl hl (by decide) rfl (fun ls hl => ?_)
  exact b_X8_gainBy_4 hB F hr hlk sv_N a1 (0 : Int32) σ H locs ls (lv_sub hl [2, 1, 0] rfl) hW hs
set_option maxRecDepth 100000 in
set_option maxHeartbeats 4000000 in
theorem k_X8_drawn {l : Launch} {D : va_G} {T : Nat → ClassId} {h : Nat → Nat} {θ : sv_T} {a1 : Int32} {σ : sv_S} {r : Int32} {σ' : sv_S} (hB : sm_base θ)  (hs : q_X8_drawn θ a1 σ = some (r, σ')) : sv_Mi sm_X l D T (sm_tys T) h θ yX8_drawn wsX8_drawn (sv_rm 69 2615) [.ref (h 0), .int a1] σ r σ' := by
  intro sz
  refine sv_enter (cc := cX8_drawn) (maxL := 2) (ret := (some .int)) (Qc := fun A => va_Qi (fun r2 (_ : Unit) => r2 = r) (fun _ t => va_P D vwCl (sv_ws T h θ σ') t.heap) A) sm_XP (by decide) rfl (Nat.le_of_ble_eq_true rfl) ?_
  intro p e s m args below meth c A F hr hlk ls H hl hW
  have hx := F.1.1
  have hb := F.1.2.1
  have hts := F.1.2.2.2.2
  have hown := F.1.2.2.2.1
  have hK := F.2.1
  obtain ⟨locs, hlocs⟩ : ∃ z : List Loc, z = [] := ⟨_, rfl⟩
  rw [← hlocs] at hW ⊢
  have hl : lv_has ls 2 [(0, .ref (h 0)), (1, .int a1)] := hl
  unfold q_X8_drawn at hs
  refine lv_aload_n hx hb dX8_drawn_0 rfl (lv_at hl 0 rfl) ?_
  refine lv_iload_n hx hb dX8_drawn_1 rfl (lv_at hl 1 rfl) ?_
  obtain ⟨r1, σ2, eσ2, hs⟩ := sp_bind hs
  refine sv_goI (σ' := σ2) (r := r1) hW F.2.2.2.1 (sv_runV (C := RX8) F hW (k_X8_gainBy hB eσ2 H.size) gX8_drawn_X8_gainBy rfl ⟨rfl, rfl⟩ 1 (by decide +kernel) (sv_room2 (by omega) (by omega)) (sm_i 0 hB (by decide)) (sm_c0 hB) rfl rfl hl.1 rfl (Nat.le_of_ble_eq_true rfl) dX8_drawn_2 ⟨Nat.zero_le _, Nat.zero_le _⟩) (fun H locs hW => ?_)
  cases hs
  exact sv_iret hx hb hr rfl hlk hW dX8_drawn_5
set_option maxRecDepth 100000 in
set_option maxHeartbeats 4000000 in
theorem b_X8_chance_87 {p : Program} {l : Launch} {e : Env} {s : State} {m : MethodId} {args : Array Value} {below : List Frame} {meth : Method} {c : Code} {D : va_G} {T : Nat → ClassId} {A : Nat → Prop} {h : Nat → Nat} {θ : sv_T} {a1 : Int32} {a2 : Int32} {a3 : Int32} {a4 : Int32} {r : Int64} {σ' : sv_S} (hB : sm_base θ)  (F : sv_F sm_X p m c cX8_chance 13 s args wsX8_chance RX8 D (sm_tys T) A) (hr : meth.sig.returnType = (some .long)) (hlk : meth.locks = false)  : ∀ (n : Nat), ∀ (x2 : Int32) (x4 : Int32) (y5 : Int64) (y7 : Int64) (y9 : Int64) (σ : sv_S) (H : Heap) (locs : List Loc) (ls : Array Slot), lv_has ls 13 [(2, .int x2), (4, .int x4), (5, .long y5), (7, .long y7), (9, .long y9)] → sv_W D T A s h θ σ H locs → q_X8_chance_B87 θ a1 a2 a3 a4 n x2 x4 y5 y7 y9 σ = some (r, σ') → W p l e (sv_rm 69 2615) s m args below meth c H locs 0 0 (MQ below (va_Ql (fun r2 (_ : Unit) => r2 = r) (fun _ t => va_P D vwCl (sv_ws T h θ σ') t.heap) A) args s 0 0 A) (F0 m 87 ls []) := by
  have hx := F.1.1
  have hb := F.1.2.1
  have hts := F.1.2.2.2.2
  have hown := F.1.2.2.2.1
  have hK := F.2.1
  intro n
  induction n with
  | zero =>
    intro x2 x4 y5 y7 y9 σ H locs ls hl hW hs
    have hs : (none : Option (Int64 × sv_S)) = some (r, σ') := hs
    cases hs
  | succ n ih =>
    intro x2 x4 y5 y7 y9 σ H locs ls hl hW hs
    have hs : q_X8_chance_B87_b θ a1 a2 a3 a4 (q_X8_chance_B87 θ a1 a2 a3 a4 n) x2 x4 y5 y7 y9 σ = some (r, σ') := hs
    unfold q_X8_chance_B87_b at hs
    refine lv_lload hx hb dX8_chance_87 (lv_at hl 4 rfl) ?_
    refine lv_lconst (v := 0) hx hb dX8_chance_89 (by decide) ?_
    refine W.lcmp hx hb dX8_chance_90 ?_
    refine lv_if_eq (tgt := 112) hx hb dX8_chance_91 (by decide) (fun c12 => ?_) (fun c12 => ?_)
    · replace hs := (sp_ite hs).1 c12
      refine lv_iload hx hb dX8_chance_112 (lv_at hl 1 rfl) ?_
      refine lv_if_ne (tgt := 125) hx hb dX8_chance_114 (by decide) (fun c13 => ?_) (fun c13 => ?_)
      · replace hs := (sp_ite hs).2 c13
        refine lv_iload_n hx hb dX8_chance_125 rfl (lv_at hl 0 rfl) ?_
        refine lv_i2l (v := x2.toInt64) hx hb dX8_chance_126 rfl ?_
        refine lv_lload hx hb dX8_chance_127 (lv_at hl 3 rfl) ?_
        obtain ⟨hz14, hs⟩ := sp_g hs
        refine lv_ldiv hx hb dX8_chance_129 hz14 ?_
        cases hs
        exact sv_lret hx hb hr hlk hW dX8_chance_130
      · replace hs := (sp_ite hs).1 c13
        refine lv_lload hx hb dX8_chance_117 (lv_at hl 2 rfl) ?_
        refine lv_lload hx hb dX8_chance_119 (lv_at hl 3 rfl) ?_
        obtain ⟨hz15, hs⟩ := sp_g hs
        refine lv_ldiv hx hb dX8_chance_121 hz15 ?_
        refine lv_goto (tgt := 130) hx hb dX8_chance_122 (by decide) ?_
        cases hs
        exact sv_lret hx hb hr hlk hW dX8_chance_130
    · replace hs := (sp_ite hs).2 c12
      refine lv_lload hx hb dX8_chance_94 (lv_at hl 3 rfl) ?_
      refine lv_lload hx hb dX8_chance_96 (lv_at hl 4 rfl) ?_
      obtain ⟨hz16, hs⟩ := sp_g hs
      refine lv_lrem hx hb dX8_chance_98 hz16 ?_
      refine lv_topl (fun v17 ev17 => ?_)
      replace hs := sp_let hs ev17
      refine lv_lstore (lv' := [(11, .long v17), (2, .int x2), (4, .int x4), (5, .long y5), (7, .long y7), (9, .long y9)]) hx hb dX8_chance_99 hl (by decide) rfl (fun ls hl => ?_)
      refine lv_lload hx hb dX8_chance_101 (lv_at hl 5 rfl) ?_
      refine lv_lstore (lv' := [(7, .long y9), (11, .long v17), (2, .int x2), (4, .int x4), (5, .long y5), (9, .long y9)]) hx hb dX8_chance_103 hl (by decide) rfl (fun ls hl => ?_)
      refine lv_lload hx hb dX8_chance_105 (lv_at hl 1 rfl) ?_
      refine lv_lstore (lv' := [(9, .long v17), (7, .long y9), (11, .long v17), (2, .int x2), (4, .int x4), (5, .long y5)]) hx hb dX8_chance_107 hl (by decide) rfl (fun ls hl => ?_)
      refine lv_goto (tgt := 87) hx hb dX8_chance_109 (by decide) ?_
      exact ih x2 x4 y5 y9 v17 σ H locs ls (lv_sub hl [3, 4, 5, 1, 0] rfl) hW hs
set_option maxRecDepth 100000 in
set_option maxHeartbeats 4000000 in
theorem b_X8_chance_45 {p : Program} {l : Launch} {e : Env} {s : State} {m : MethodId} {args : Array Value} {below : List Frame} {meth : Method} {c : Code} {D : va_G} {T : Nat → ClassId} {A : Nat → Prop} {h : Nat → Nat} {θ : sv_T} {a1 : Int32} {a2 : Int32} {a3 : Int32} {a4 : Int32} {r : Int64} {σ' : sv_S} (hB : sm_base θ)  (F : sv_F sm_X p m c cX8_chance 13 s args wsX8_chance RX8 D (sm_tys T) A) (hr : meth.sig.returnType = (some .long)) (hlk : meth.locks = false)  : ∀ (n : Nat), ∀ (x1 : Int32) (x2 : Int32) (x3 : Int32) (x4 : Int32) (y5 : Int64) (x7 : Int32) (σ : sv_S) (H : Heap) (locs : List Loc) (ls : Array Slot), lv_has ls 13 [(0, .ref (h 0)), (1, .int x1), (2, .int x2), (3, .int x3), (4, .int x4), (5, .long y5), (7, .int x7)] → sv_W D T A s h θ σ H locs → q_X8_chance_B45 θ a1 a2 a3 a4 n x1 x2 x3 x4 y5 x7 σ = some (r, σ') → W p l e (sv_rm 69 2615) s m args below meth c H locs 0 0 (MQ below (va_Ql (fun r2 (_ : Unit) => r2 = r) (fun _ t => va_P D vwCl (sv_ws T h θ σ') t.heap) A) args s 0 0 A) (F0 m 45 ls []) := by
  have hx := F.1.1
  have hb := F.1.2.1
  have hts := F.1.2.2.2.2
  have hown := F.1.2.2.2.1
  have hK := F.2.1
  intro n
  induction n with
  | zero =>
    intro x1 x2 x3 x4 y5 x7 σ H locs ls hl hW hs
    have hs : (none : Option (Int64 × sv_S)) = some (r, σ') := hs
    cases hs
  | succ n ih =>
    intro x1 x2 x3 x4 y5 x7 σ H locs ls hl hW hs
    have hs : q_X8_chance_B45_b θ a1 a2 a3 a4 (q_X8_chance_B45 θ a1 a2 a3 a4 n) x1 x2 x3 x4 y5 x7 σ = some (r, σ') := hs
    unfold q_X8_chance_B45_b at hs
    refine lv_iload hx hb dX8_chance_45 (lv_at hl 6 rfl) ?_
    refine lv_iload_n hx hb dX8_chance_47 rfl (lv_at hl 2 rfl) ?_
    refine lv_icmp_ge (tgt := 79) hx hb dX8_chance_48 (by decide) (fun c10 => ?_) (fun c10 => ?_)
    · replace hs := (sp_ite hs).1 c10
      refine lv_lload hx hb dX8_chance_79 (lv_at hl 5 rfl) ?_
      refine lv_lstore (lv' := [(7, .long y5), (0, .ref (h 0)), (1, .int x1), (2, .int x2), (3, .int x3), (4, .int x4), (5, .long y5)]) hx hb dX8_chance_81 hl (by decide) rfl (fun ls hl => ?_)
      refine lv_iload_n hx hb dX8_chance_83 rfl (lv_at hl 3 rfl) ?_
      refine lv_i2l (v := x2.toInt64) hx hb dX8_chance_84 rfl ?_
      refine lv_topl (fun v11 ev11 => ?_)
      replace hs := sp_let hs ev11
      refine lv_lstore (lv' := [(9, .long v11), (7, .long y5), (0, .ref (h 0)), (1, .int x1), (2, .int x2), (3, .int x3), (4, .int x4), (5, .long y5)]) hx hb dX8_chance_85 hl (by decide) rfl (fun ls hl => ?_)
      exact b_X8_chance_87 hB F hr hlk sv_N x2 x4 y5 y5 v11 σ H locs ls (lv_sub hl [4, 6, 7, 1, 0] rfl) hW hs
    · replace hs := (sp_ite hs).2 c10
      refine lv_lload hx hb dX8_chance_51 (lv_at hl 5 rfl) ?_
      refine lv_aload_n hx hb dX8_chance_53 rfl (lv_at hl 0 rfl) ?_
      refine lv_iload_n hx hb dX8_chance_54 rfl (lv_at hl 1 rfl) ?_
      refine lv_iload hx hb dX8_chance_55 (lv_at hl 6 rfl) ?_
      refine lv_iadd hx hb dX8_chance_57 ?_
      obtain ⟨r18, σ19, eσ19, hs⟩ := sp_bind hs
      refine sv_goI (σ' := σ19) (r := r18) hW F.2.2.2.1 (sv_runV (C := RX8) F hW (k_X8_gainBy hB eσ19 H.size) gX8_chance_X8_gainBy rfl ⟨rfl, rfl⟩ 1 (by decide +kernel) (sv_room2 (by omega) (by omega)) (sm_i 0 hB (by decide)) (sm_c0 hB) rfl rfl hl.1 rfl (Nat.le_of_ble_eq_true rfl) dX8_chance_58 ⟨Nat.zero_le _, Nat.zero_le _⟩) (fun H locs hW => ?_)
      refine lv_iload_n hx hb dX8_chance_61 rfl (lv_at hl 3 rfl) ?_
      refine lv_icmp_lt (tgt := 69) hx hb dX8_chance_62 (by decide) (fun c20 => ?_) (fun c20 => ?_)
      · replace hs := (sp_ite hs).1 c20
        refine lv_lconst (v := 0) hx hb dX8_chance_69 (by decide) ?_
        refine lv_ladd hx hb dX8_chance_70 ?_
        refine lv_topl (fun v21 ev21 => ?_)
        replace hs := sp_let hs ev21
        refine lv_lstore (lv' := [(5, .long v21), (0, .ref (h 0)), (1, .int x1), (2, .int x2), (3, .int x3), (4, .int x4), (7, .int x7)]) hx hb dX8_chance_71 hl (by decide) rfl (fun ls hl => ?_)
        obtain ⟨v22, ev22⟩ : ∃ y : Int32, y = x7 + 1 := ⟨_, rfl⟩
        replace hs := sp_let hs ev22
        refine lv_iinc (v := v22) (lv' := [(7, .int v22), (5, .long v21), (0, .ref (h 0)), (1, .int x1), (2, .int x2), (3, .int x3), (4, .int x4)]) hx hb dX8_chance_73 hl (k := 6) rfl (by rw [ev22]; rfl) (by decide) rfl (fun ls hl => ?_)
        refine lv_goto (tgt := 45) hx hb dX8_chance_76 (by decide) ?_
        exact ih x1 x2 x3 x4 v21 v22 σ19 H locs ls (lv_sub hl [2, 3, 4, 5, 6, 1, 0] rfl) hW hs
      · replace hs := (sp_ite hs).2 c20
        refine lv_lconst (v := 1) hx hb dX8_chance_65 (by decide) ?_
        refine lv_goto (tgt := 70) hx hb dX8_chance_66 (by decide) ?_
        refine lv_ladd hx hb dX8_chance_70 ?_
        refine lv_topl (fun v23 ev23 => ?_)
        replace hs := sp_let hs ev23
        refine lv_lstore (lv' := [(5, .long v23), (0, .ref (h 0)), (1, .int x1), (2, .int x2), (3, .int x3), (4, .int x4), (7, .int x7)]) hx hb dX8_chance_71 hl (by decide) rfl (fun ls hl => ?_)
        obtain ⟨v24, ev24⟩ : ∃ y : Int32, y = x7 + 1 := ⟨_, rfl⟩
        replace hs := sp_let hs ev24
        refine lv_iinc (v := v24) (lv' := [(7, .int v24), (5, .long v23), (0, .ref (h 0)), (1, .int x1), (2, .int x2), (3, .int x3), (4, .int x4)]) hx hb dX8_chance_73 hl (k := 6) rfl (by rw [ev24]; rfl) (by decide) rfl (fun ls hl => ?_)
        refine lv_goto (tgt := 45) hx hb dX8_chance_76 (by decide) ?_
        exact ih x1 x2 x3 x4 v23 v24 σ19 H locs ls (lv_sub hl [2, 3, 4, 5, 6, 1, 0] rfl) hW hs
set_option maxRecDepth 100000 in
set_option maxHeartbeats 4000000 in
theorem k_X8_chance {l : Launch} {D : va_G} {T : Nat → ClassId} {h : Nat → Nat} {θ : sv_T} {a1 : Int32} {a2 : Int32} {a3 : Int32} {a4 : Int32} {σ : sv_S} {r : Int64} {σ' : sv_S} (hB : sm_base θ)  (hs : q_X8_chance θ a1 a2 a3 a4 σ = some (r, σ')) : sv_Ml sm_X l D T (sm_tys T) h θ yX8_chance wsX8_chance (sv_rm 69 2615) [.ref (h 0), .int a1, .int a2, .int a3, .int a4] σ r σ' := by
  intro sz
  refine sv_enter (cc := cX8_chance) (maxL := 13) (ret := (some .long)) (Qc := fun A => va_Ql (fun r2 (_ : Unit) => r2 = r) (fun _ t => va_P D vwCl (sv_ws T h θ σ') t.heap) A) sm_XP (by decide) rfl (Nat.le_of_ble_eq_true rfl) ?_
  intro p e s m args below meth c A F hr hlk ls H hl hW
  have hx := F.1.1
  have hb := F.1.2.1
  have hts := F.1.2.2.2.2
  have hown := F.1.2.2.2.1
  have hK := F.2.1
  obtain ⟨locs, hlocs⟩ : ∃ z : List Loc, z = [] := ⟨_, rfl⟩
  rw [← hlocs] at hW ⊢
  have hl : lv_has ls 13 [(0, .ref (h 0)), (1, .int a1), (2, .int a2), (3, .int a3), (4, .int a4)] := hl
  unfold q_X8_chance at hs
  refine lv_iload_n hx hb dX8_chance_0 rfl (lv_at hl 2 rfl) ?_
  refine lv_i2l (v := a2.toInt64) hx hb dX8_chance_1 rfl ?_
  refine lv_lconst (v := 1) hx hb dX8_chance_2 (by decide) ?_
  refine lv_ldc2 (own := RX8) (index := 335) (v := 20) hx hb hown (hts _ (List.mem_of_getElem? (i := 1) rfl)) dX8_chance_3 ?_
  obtain ⟨r1, σ2, eσ2, hs⟩ := sp_bind hs
  refine sv_goI (σ' := σ2) (r := r1) hW F.2.2.2.1 (sv_runT F hW (k_X8_in hB eσ2 H.size) gX8_chance_X8_in rfl ⟨rfl, rfl⟩ 3 (by decide +kernel) (sv_room2 (by omega) (by omega)) rfl hl.1 rfl (Nat.le_of_ble_eq_true rfl) dX8_chance_6 ⟨Nat.zero_le _, Nat.zero_le _⟩) (fun H locs hW => ?_)
  refine lv_if_eq (tgt := 35) hx hb dX8_chance_9 (by decide) (fun c3 => ?_) (fun c3 => ?_)
  · replace hs := (sp_ite hs).1 c3
    refine lv_ldc2 (own := RX8) (index := 339) (v := -4611686018427387904) hx hb hown (hts _ (List.mem_of_getElem? (i := 3) rfl)) dX8_chance_35 ?_
    cases hs
    exact sv_lret hx hb hr hlk hW dX8_chance_38
  · replace hs := (sp_ite hs).2 c3
    refine lv_iload_n hx hb dX8_chance_12 rfl (lv_at hl 3 rfl) ?_
    refine lv_i2l (v := a3.toInt64) hx hb dX8_chance_13 rfl ?_
    refine lv_lconst (v := 0) hx hb dX8_chance_14 (by decide) ?_
    refine lv_ldc2 (own := RX8) (index := 337) (v := 9999) hx hb hown (hts _ (List.mem_of_getElem? (i := 2) rfl)) dX8_chance_15 ?_
    obtain ⟨r4, σ5, eσ5, hs⟩ := sp_bind hs
    refine sv_goI (σ' := σ5) (r := r4) hW F.2.2.2.1 (sv_runT F hW (k_X8_in hB eσ5 H.size) gX8_chance_X8_in rfl ⟨rfl, rfl⟩ 3 (by decide +kernel) (sv_room2 (by omega) (by omega)) rfl hl.1 rfl (Nat.le_of_ble_eq_true rfl) dX8_chance_18 ⟨Nat.zero_le _, Nat.zero_le _⟩) (fun H locs hW => ?_)
    refine lv_if_eq (tgt := 35) hx hb dX8_chance_21 (by decide) (fun c6 => ?_) (fun c6 => ?_)
    · replace hs := (sp_ite hs).1 c6
      refine lv_ldc2 (own := RX8) (index := 339) (v := -4611686018427387904) hx hb hown (hts _ (List.mem_of_getElem? (i := 3) rfl)) dX8_chance_35 ?_
      cases hs
      exact sv_lret hx hb hr hlk hW dX8_chance_38
    · replace hs := (sp_ite hs).2 c6
      refine lv_iload hx hb dX8_chance_24 (lv_at hl 4 rfl) ?_
      refine lv_i2l (v := a4.toInt64) hx hb dX8_chance_26 rfl ?_
      refine lv_lconst (v := 0) hx hb dX8_chance_27 (by decide) ?_
      refine lv_lconst (v := 1) hx hb dX8_chance_28 (by decide) ?_
      obtain ⟨r7, σ8, eσ8, hs⟩ := sp_bind hs
      refine sv_goI (σ' := σ8) (r := r7) hW F.2.2.2.1 (sv_runT F hW (k_X8_in hB eσ8 H.size) gX8_chance_X8_in rfl ⟨rfl, rfl⟩ 3 (by decide +kernel) (sv_room2 (by omega) (by omega)) rfl hl.1 rfl (Nat.le_of_ble_eq_true rfl) dX8_chance_29 ⟨Nat.zero_le _, Nat.zero_le _⟩) (fun H locs hW => ?_)
      refine lv_if_ne (tgt := 39) hx hb dX8_chance_32 (by decide) (fun c9 => ?_) (fun c9 => ?_)
      · replace hs := (sp_ite hs).2 c9
        refine lv_lconst (v := 0) hx hb dX8_chance_39 (by decide) ?_
        refine lv_lstore (lv' := [(5, .long (0 : Int64)), (0, .ref (h 0)), (1, .int a1), (2, .int a2), (3, .int a3), (4, .int a4)]) hx hb dX8_chance_40 hl (by decide) rfl (fun ls hl => ?_)
        refine lv_iconst (v := 0) hx hb dX8_chance_42 (by decide) ?_
        refine lv_istore (lv' := [(7, .int (0 : Int32)), (5, .long (0 : Int64)), (0, .ref (h 0)), (1, .int a1), (2, .int a2), (3, .int a3), (4, .int a4)]) hx hb dX8_chance_43 hl (by decide) rfl (fun ls hl => ?_)
        exact b_X8_chance_45 hB F hr hlk sv_N a1 a2 a3 a4 (0 : Int64) (0 : Int32) σ8 H locs ls (lv_sub hl [2, 3, 4, 5, 6, 1, 0] rfl) hW hs
      · replace hs := (sp_ite hs).1 c9
        refine lv_ldc2 (own := RX8) (index := 339) (v := -4611686018427387904) hx hb hown (hts _ (List.mem_of_getElem? (i := 3) rfl)) dX8_chance_35 ?_
        cases hs
        exact sv_lret hx hb hr hlk hW dX8_chance_38

/-! ===== the class's read: its code ===== -/
def sv_far (n t : Nat) : Nat := if t < n then t else t + 1000
def sv_hf (h : Nat → Nat) (i : Nat) : Nat := if i < 1000 then h i else h (i - 1000)
/-- blank beyond the cells, references beyond them put far away -/
def sv_fr (n : Nat) (σ : sv_S) : sv_S := (fun i j => if i < n then σ.1 i j else 0, fun i j => if i < n then σ.2.1 i j else 0, fun i j => if i < n then (σ.2.2 i j).map (sv_far n) else none)
def sv_shp (θ : sv_T) : Prop := ∀ i, i < θ.1 → ∀ c ks, θ.2 i = .inl (c, ks) → ∀ (k : Nat) (κ : sv_K), ks[k]? = some κ → 3 ≤ κ.1 → i + κ.2 < θ.1
theorem sv_hf_far {h : Nat → Nat} {n t : Nat} (hn : n < 1000) : sv_hf h (sv_far n t) = h t := by
  unfold sv_hf sv_far
  by_cases ht : t < n
  · rw [if_pos ht, if_pos (by omega)]
  · rw [if_neg ht, if_neg (by omega), show t + 1000 - 1000 = t by omega]
theorem sv_hf_o {h : Nat → Nat} {i : Nat} (hi : i < 1000) : sv_hf h i = h i := by unfold sv_hf; rw [if_pos hi]
theorem sv_vals_ext {h h' : Nat → Nat} {σ σ' : sv_S} {i : Nat} : ∀ (ks : List sv_K) (b : Nat), (∀ (k : Nat) (κ : sv_K), ks[k]? = some κ → ∀ j, sv_val h' σ' i j κ = sv_val h σ i j κ) → sv_vals h' σ' i b ks = sv_vals h σ i b ks
  | [], _, _ => rfl
  | κ :: ks, b, hk => by
    simp only [sv_vals]
    rw [hk 0 κ rfl b, sv_vals_ext ks (b + 1) (fun k κ' q => hk (k + 1) κ' (by simpa using q))]
theorem sv_map_far {h : Nat → Nat} {n : Nat} {o : Option Nat} (hn : n < 1000) : (o.map (sv_far n)).map (sv_hf h) = o.map h := by
  cases o with
  | none => rfl
  | some t => show some (sv_hf h (sv_far n t)) = some (h t); rw [sv_hf_far hn]
theorem sv_ws_far {T : Nat → ClassId} {h : Nat → Nat} {θ θp : sv_T} {σ : sv_S} (hθ : θ.1 < 1000) (h1 : θp.1 = θ.1) (h2 : ∀ i, i < θ.1 → θp.2 i = θ.2 i) (hs : sv_shp θ) : sv_ws T (sv_hf h) θp (sv_fr θ.1 σ) = sv_ws T h θ σ := by
  refine sv_ws_congr h1 (fun i hi => ⟨sv_hf_o (by omega), ?_⟩)
  rw [h2 i hi]
  have e1 : (sv_fr θ.1 σ).1 i = σ.1 i := by funext j; show (if i < θ.1 then _ else _) = _; rw [if_pos hi]
  have e2 : (sv_fr θ.1 σ).2.1 i = σ.2.1 i := by funext j; show (if i < θ.1 then _ else _) = _; rw [if_pos hi]
  have e3 : ∀ j, (sv_fr θ.1 σ).2.2 i j = (σ.2.2 i j).map (sv_far θ.1) := fun j => by show (if i < θ.1 then _ else _) = _; rw [if_pos hi]
  cases hsh : θ.2 i with
  | inl q =>
    show (Sum.inr (q.1, sv_vals (sv_hf h) (sv_fr θ.1 σ) i 0 q.2) : va_E) = Sum.inr (q.1, sv_vals h σ i 0 q.2)
    rw [sv_vals_ext q.2 0 (fun k κ hk j => ?_)]
    obtain ⟨a, d⟩ := κ
    match a, hk with
    | 0, hk => show Value.int ((sv_fr θ.1 σ).1 i j) = Value.int (σ.1 i j); rw [e1]
    | 1, hk => show Value.long ((sv_fr θ.1 σ).2.1 i j) = Value.long (σ.2.1 i j); rw [e2]
    | 2, hk => show va_rf (((sv_fr θ.1 σ).2.2 i j).map (sv_hf h)) = va_rf ((σ.2.2 i j).map h); rw [e3, sv_map_far hθ]
    | a + 3, hk =>
      have := hs i hi q.1 q.2 hsh k _ hk (by show 3 ≤ a + 3; omega)
      have this : i + d < θ.1 := this
      show Value.ref (sv_hf h (i + d)) = Value.ref (h (i + d))
      rw [sv_hf_o (by omega)]
  | inr q =>
    have e : sv_row (sv_hf h) (sv_fr θ.1 σ) i q.1 = sv_row h σ i q.1 := by
      match q.1 with
      | 0 => show Sum.inl ((sv_fr θ.1 σ).1 i) = Sum.inl (σ.1 i); rw [e1]
      | 1 => show Sum.inl ((sv_fr θ.1 σ).1 i) = Sum.inl (σ.1 i); rw [e1]
      | t + 2 =>
        show (Sum.inr (Sum.inr (Sum.inr (Sum.inr (fun j => ((sv_fr θ.1 σ).2.2 i j).map (sv_hf h))))) : (Nat → Int32) ⊕ (Nat → Int64) ⊕ (Nat → UInt32) ⊕ (Nat → UInt64) ⊕ (Nat → Option Nat)) = Sum.inr (Sum.inr (Sum.inr (Sum.inr (fun j => (σ.2.2 i j).map h))))
        congr 4
        funext j
        rw [e3, sv_map_far hθ]
    show (Sum.inl (T q.1, q.2, sv_row (sv_hf h) (sv_fr θ.1 σ) i q.1) : va_E) = Sum.inl (T q.1, q.2, sv_row h σ i q.1)
    rw [e]
theorem sv_fr_nw {θ θp : sv_T} {σ : sv_S} (h1 : θp.1 = θ.1) (h2 : ∀ i, i < θ.1 → θp.2 i = θ.2 i) (hs : sv_shp θ) : sv_nw θp (sv_fr θ.1 σ) := by
  refine ⟨fun i hi => ⟨fun j t q => ?_, fun c ks q k κ q1 q2 => ?_⟩, fun i hi => ⟨fun j => ?_, fun j => ?_, fun j => ?_⟩⟩
  · rw [h1] at hi ⊢
    have q' : (if i < θ.1 then (σ.2.2 i j).map (sv_far θ.1) else none) = some t := q
    rw [if_pos hi] at q'
    cases ho : σ.2.2 i j with
    | none => rw [ho] at q'; cases q'
    | some t2 =>
      rw [ho] at q'
      have q3 : some (sv_far θ.1 t2) = some t := q'
      cases q3
      unfold sv_far
      by_cases ht : t2 < θ.1
      · rw [if_pos ht]; exact Or.inl ht
      · rw [if_neg ht]; exact Or.inr (by omega)
  · rw [h1] at hi ⊢
    rw [h2 i hi] at q
    exact hs i hi c ks q k κ q1 q2
  · show (if i < θ.1 then _ else _) = _; rw [if_neg (by omega)]
  · show (if i < θ.1 then _ else _) = _; rw [if_neg (by omega)]
  · show (if i < θ.1 then _ else _) = _; rw [if_neg (by omega)]
theorem sv_nw_R {θ : sv_T} {σ : sv_S} {i : Nat} {g : Nat → Int32} (h : sv_nw θ σ) (hi : i < θ.1) : sv_nw θ (sv_sR σ i g) := by
  refine ⟨h.1, fun a ha => ⟨fun b => ?_, (h.2 a ha).2.1, (h.2 a ha).2.2⟩⟩
  show sv_r σ.1 i g a b = 0
  rw [sv_r_ne (by omega)]
  exact (h.2 a ha).1 b
section RDC
variable {qK qV : Nat → Nat} {l : Launch} {D : va_G} {T : Nat → ClassId} {h : Nat → Nat} {θ : sv_T} {σ : sv_S} {r a1 : Int32} {σ7 : sv_S}
variable {p : Program} {e : Env} {R : Room} {s : State} {m : MethodId} {args : Array Value} {below : List Frame} {meth : Method} {c : Code} {cells slots : Nat} {Q : State → Prop} {A : Nat → Prop}
set_option maxHeartbeats 4000000 in
theorem w_read_loop (hB : sx_base θ) (hR : 61 ≤ R.frames ∧ 2440 ≤ R.locals) (hf : cells ≤ R.cells ∧ slots ≤ R.slots) (F : sv_F (sx_X qK qV) p m c cX4_read 3 s args wsX4_read RX4 D (sx_tys T) A) {σ5 : sv_S}
    (kk : ∀ (x2 : Int32) (ls : Array Slot) (H : Heap) (locs : List Loc), lv_has ls 3 [(2, .int x2), (0, .ref (h 13)), (1, .int a1)] → sv_W D T A s h θ σ5 H locs → W p l e R s m args below meth c H locs cells slots Q (F0 m 68 ls [])) :
    ∀ (n : Nat) (x2 : Int32) (σ : sv_S) (ls : Array Slot) (H : Heap) (locs : List Loc), q_X4_read_B21 θ n x2 σ = some ((), σ5) → lv_has ls 3 [(2, .int x2), (0, .ref (h 13)), (1, .int a1)] → sv_W D T A s h θ σ H locs → W p l e R s m args below meth c H locs cells slots Q (F0 m 21 ls []) := by
  have hx := F.1.1
  have hb := F.1.2.1
  have hts := F.1.2.2.2.2
  have hown := F.1.2.2.2.1
  have hK := F.2.1
  intro n
  induction n with
  | zero => intro x2 σ ls H locs hs; cases hs
  | succ n ih =>
    intro x2 σ ls H locs hs hl hW
    have hs : (if (3 : Int32) ≤ x2 then some ((), σ) else sp_b (q_X4_readP θ x2 σ) (fun _ σ5 => q_X4_read_B21 θ n (x2 + 1) σ5)) = some ((), σ5) := hs
    refine lv_iload_n hx hb dX4_read_21 rfl (lv_at hl 0 rfl) ?_
    refine lv_iconst (v := 3) hx hb dX4_read_22 (by decide) ?_
    refine lv_icmp_ge (tgt := 68) hx hb dX4_read_23 (by decide) (fun c1 => ?_) (fun c1 => ?_)
    · replace hs := (sp_ite hs).1 c1
      cases hs
      exact kk x2 ls H locs hl hW
    · replace hs := (sp_ite hs).2 c1
      obtain ⟨r0, τ5, e0, hs⟩ := sp_bind hs
      unfold q_X4_readP at e0
      obtain ⟨r1, τ1, e1, e0⟩ := sp_bind e0
      obtain ⟨r2, τ2, e2, e0⟩ := sp_bind e0
      obtain ⟨r3, τ3, e3, e0⟩ := sp_bind e0
      obtain ⟨r4, τ4, e4, e0⟩ := sp_bind e0
      refine lv_aload_n hx hb dX4_read_26 rfl (lv_at hl 1 rfl) ?_
      refine lv_iconst (v := 3) hx hb dX4_read_27 (by decide) ?_
      refine lv_iload_n hx hb dX4_read_28 rfl (lv_at hl 0 rfl) ?_
      refine lv_iadd hx hb dX4_read_29 ?_
      refine sv_goV (σ' := τ1) (r := r1) hW F.2.2.2.1 (sv_runV (C := RX4) F hW (k_X4_expect hB e1 H.size) gX4_read_X4_expect rfl ⟨rfl, rfl⟩ 1 (by decide +kernel) ⟨by show 2 + 1 ≤ _; omega, by show 8 + (2 + 11) + 41 ≤ _; omega⟩ (sx_i 13 hB (by decide)) (sx_c13 hB) rfl rfl hl.1 rfl (Nat.le_of_ble_eq_true rfl) dX4_read_30 hf) (fun H locs hW => ?_)
      refine lv_aload_n hx hb dX4_read_33 rfl (lv_at hl 1 rfl) ?_
      refine sv_get (own := RX4) (C := RX4) (Tf := TX4) (N := 11) (index := 27) (κ := (3, 6)) (v := .ref (h 19)) hx hb hts hown hK hW (fun _ h => List.mem_cons_of_mem _ (List.mem_append_left _ (List.mem_append_right _ h))) (sx_i 13 hB (by decide)) (sx_c13 hB) rfl 9 (by decide) rfl rfl (List.mem_of_getElem? (i := 4) rfl) dX4_read_34 ?_
      refine lv_iload_n hx hb dX4_read_37 rfl (lv_at hl 0 rfl) ?_
      refine lv_aload_n hx hb dX4_read_38 rfl (lv_at hl 1 rfl) ?_
      refine sv_get (own := RX4) (C := RX4) (Tf := TX4) (N := 11) (index := 44) (κ := (0, 0)) (v := .int (τ1.1 13 10)) hx hb hts hown hK hW (fun _ h => List.mem_cons_of_mem _ (List.mem_append_left _ (List.mem_append_right _ h))) (sx_i 13 hB (by decide)) (sx_c13 hB) rfl 10 (by decide) rfl rfl (List.mem_of_getElem? (i := 2) rfl) dX4_read_39 ?_
      refine sv_goV (σ' := τ2) (r := r2) hW F.2.2.2.1 (sv_runN (own := RX4) (host := "OpenWhileItRains") F hW (k_X7_put hB (sv_oA_of (sx_i 19 hB (by decide)) (sx_c19 hB)) e2 H.size) gX4_read_X7_put_n34 rfl ⟨rfl, rfl⟩ (F.2.2.1.1 _ (List.mem_of_getElem? (i := 6) rfl)) (List.mem_of_getElem? (i := 96) rfl) (List.mem_of_getElem? (i := 95) rfl) 3 (by decide +kernel) ⟨by show 0 + 1 ≤ _; omega, by show 8 + (3 + 11) + 0 ≤ _; omega⟩ rfl hl.1 rfl (Nat.le_of_ble_eq_true rfl) dX4_read_42 hf) (fun H locs hW => ?_)
      refine lv_aload_n hx hb dX4_read_45 rfl (lv_at hl 1 rfl) ?_
      refine lv_iconst (v := 0) hx hb dX4_read_46 (by decide) ?_
      refine sv_goV (σ' := τ3) (r := r3) hW F.2.2.2.1 (sv_runV (C := RX4) F hW (k_X4_readOr hB e3 H.size) gX4_read_X4_readOr rfl ⟨rfl, rfl⟩ 1 (by decide +kernel) ⟨by show 60 + 1 ≤ _; omega, by show 8 + (3 + 11) + 2400 ≤ _; omega⟩ (sx_i 13 hB (by decide)) (sx_c13 hB) rfl rfl hl.1 rfl (Nat.le_of_ble_eq_true rfl) dX4_read_47 hf) (fun H locs hW => ?_)
      refine lv_aload_n hx hb dX4_read_50 rfl (lv_at hl 1 rfl) ?_
      refine lv_bipush (v := 59) hx hb dX4_read_51 (by decide) ?_
      refine sv_goV (σ' := τ4) (r := r4) hW F.2.2.2.1 (sv_runV (C := RX4) F hW (k_X4_expect hB e4 H.size) gX4_read_X4_expect rfl ⟨rfl, rfl⟩ 1 (by decide +kernel) ⟨by show 2 + 1 ≤ _; omega, by show 8 + (2 + 11) + 41 ≤ _; omega⟩ (sx_i 13 hB (by decide)) (sx_c13 hB) rfl rfl hl.1 rfl (Nat.le_of_ble_eq_true rfl) dX4_read_53 hf) (fun H locs hW => ?_)
      refine lv_aload_n hx hb dX4_read_56 rfl (lv_at hl 1 rfl) ?_
      refine lv_bipush (v := -59) hx hb dX4_read_57 (by decide) ?_
      refine sv_goV (σ' := τ5) (r := r0) hW F.2.2.2.1 (sv_runV (C := RX4) F hW (k_X4_emit hB e0 H.size) gX4_read_X4_emit rfl ⟨rfl, rfl⟩ 1 (by decide +kernel) ⟨by show 1 + 1 ≤ _; omega, by show 8 + (2 + 11) + 22 ≤ _; omega⟩ (sx_i 13 hB (by decide)) (sx_c13 hB) rfl rfl hl.1 rfl (Nat.le_of_ble_eq_true rfl) dX4_read_59 hf) (fun H locs hW => ?_)
      obtain ⟨y2, ey2⟩ : ∃ y : Int32, y = x2 + 1 := ⟨_, rfl⟩
      refine lv_iinc (v := y2) (lv' := [(2, .int y2), (0, .ref (h 13)), (1, .int a1)]) hx hb dX4_read_62 hl (k := 0) rfl (by rw [ey2]; rfl) (by decide) rfl (fun ls hl => ?_)
      refine lv_goto (tgt := 21) hx hb dX4_read_65 (by decide) ?_
      rw [← ey2] at hs
      exact ih y2 τ5 ls H locs hs hl hW
set_option maxHeartbeats 4000000 in
theorem w_read (hB : sx_base θ) (hs : q_X4_read θ σ = some (r, σ7)) (hR : 61 ≤ R.frames ∧ 2440 ≤ R.locals) (hf : cells ≤ R.cells ∧ slots ≤ R.slots) (F : sv_F (sx_X qK qV) p m c cX4_read 3 s args wsX4_read RX4 D (sx_tys T) A) {ls : Array Slot} {H : Heap} {locs : List Loc} (hl : lv_has ls 3 [(0, .ref (h 13)), (1, .int a1)]) (hW : sv_W D T A s h θ σ H locs)
    (k0 : r = 0 → ∀ (ls : Array Slot) (H : Heap) (locs : List Loc), sv_W D T A s h θ σ7 H locs → W p l e R s m args below meth c H locs cells slots Q (F0 m 105 ls []))
    (k1 : r = 1 → ¬ σ7.1 13 10 < 0 → ¬ (160 : Int32) < σ7.1 13 10 → ∀ (ls : Array Slot) (H : Heap) (locs : List Loc), lv_has ls 3 [(0, .ref (h 13)), (1, .int a1)] → sv_W D T A s h θ σ7 H locs → W p l e R s m args below meth c H locs cells slots Q (F0 m 107 ls [])) :
    W p l e R s m args below meth c H locs cells slots Q (F0 m 0 ls []) := by
  have hx := F.1.1
  have hb := F.1.2.1
  have hts := F.1.2.2.2.2
  have hown := F.1.2.2.2.1
  have hK := F.2.1
  unfold q_X4_read at hs
  refine lv_aload_n hx hb dX4_read_0 rfl (lv_at hl 0 rfl) ?_
  obtain ⟨r1, τ1, e1, hs⟩ := sp_bind hs
  refine sv_goV (σ' := τ1) (r := r1) hW F.2.2.2.1 (sv_runV (C := RX4) F hW (k_X4_scan hB e1 H.size) gX4_read_X4_scan rfl ⟨rfl, rfl⟩ 0 (by decide +kernel) ⟨by show 9 + 1 ≤ _; omega, by show 8 + (3 + 11) + 256 ≤ _; omega⟩ (sx_i 13 hB (by decide)) (sx_c13 hB) rfl rfl hl.1 rfl (Nat.le_of_ble_eq_true rfl) dX4_read_1 hf) (fun H locs hW => ?_)
  refine lv_aload_n hx hb dX4_read_4 rfl (lv_at hl 0 rfl) ?_
  refine lv_iconst (v := 0) hx hb dX4_read_5 (by decide) ?_
  refine sv_putI (own := RX4) (C := RX4) (Tf := TX4) (N := 11) (index := 41) hx hb hts hown hK hW (fun _ h => List.mem_cons_of_mem _ (List.mem_append_left _ (List.mem_append_right _ h))) tyX4 tyX4_ok nmX4 (sx_i 13 hB (by decide)) (sx_c13 hB) rfl 7 (by decide) rfl rfl (ty := .int) (by decide +kernel) rfl rfl (List.mem_of_getElem? (i := 1) rfl) dX4_read_6 (fun τ2 H locs e2 hW => ?_)
  replace hs := sp_let hs e2
  refine lv_aload_n hx hb dX4_read_9 rfl (lv_at hl 0 rfl) ?_
  refine lv_iconst (v := 0) hx hb dX4_read_10 (by decide) ?_
  refine sv_putI (own := RX4) (C := RX4) (Tf := TX4) (N := 11) (index := 44) hx hb hts hown hK hW (fun _ h => List.mem_cons_of_mem _ (List.mem_append_left _ (List.mem_append_right _ h))) tyX4 tyX4_ok nmX4 (sx_i 13 hB (by decide)) (sx_c13 hB) rfl 10 (by decide) rfl rfl (ty := .int) (by decide +kernel) rfl rfl (List.mem_of_getElem? (i := 2) rfl) dX4_read_11 (fun τ3 H locs e3 hW => ?_)
  replace hs := sp_let hs e3
  refine lv_aload_n hx hb dX4_read_14 rfl (lv_at hl 0 rfl) ?_
  refine lv_iconst (v := -1) hx hb dX4_read_15 (by decide) ?_
  refine sv_putI (own := RX4) (C := RX4) (Tf := TX4) (N := 11) (index := 47) hx hb hts hown hK hW (fun _ h => List.mem_cons_of_mem _ (List.mem_append_left _ (List.mem_append_right _ h))) tyX4 tyX4_ok nmX4 (sx_i 13 hB (by decide)) (sx_c13 hB) rfl 1 (by decide) rfl rfl (ty := .int) (by decide +kernel) rfl rfl (List.mem_of_getElem? (i := 3) rfl) dX4_read_16 (fun τ4 H locs e4 hW => ?_)
  replace hs := sp_let hs e4
  refine lv_iconst (v := 0) hx hb dX4_read_19 (by decide) ?_
  refine lv_istore_n (lv' := [(2, .int 0), (0, .ref (h 13)), (1, .int a1)]) hx hb dX4_read_20 rfl hl (by decide) rfl (fun ls hl => ?_)
  obtain ⟨r5, τ5, e5, hs⟩ := sp_bind hs
  refine w_read_loop hB hR hf F (σ5 := τ5) (fun x2 ls H locs hl hW => ?_) sv_N 0 τ4 ls H locs e5 hl hW
  refine lv_aload_n hx hb dX4_read_68 rfl (lv_at hl 1 rfl) ?_
  refine lv_iconst (v := 0) hx hb dX4_read_69 (by decide) ?_
  obtain ⟨r6, τ6, e6, hs⟩ := sp_bind hs
  refine sv_goV (σ' := τ6) (r := r6) hW F.2.2.2.1 (sv_runV (C := RX4) F hW (k_X4_expect hB e6 H.size) gX4_read_X4_expect rfl ⟨rfl, rfl⟩ 1 (by decide +kernel) ⟨by show 2 + 1 ≤ _; omega, by show 8 + (2 + 11) + 41 ≤ _; omega⟩ (sx_i 13 hB (by decide)) (sx_c13 hB) rfl rfl hl.1 rfl (Nat.le_of_ble_eq_true rfl) dX4_read_70 hf) (fun H locs hW => ?_)
  refine lv_aload_n hx hb dX4_read_73 rfl (lv_at hl 1 rfl) ?_
  refine lv_iconst (v := 0) hx hb dX4_read_74 (by decide) ?_
  refine sv_putI (own := RX4) (C := RX4) (Tf := TX4) (N := 11) (index := 30) hx hb hts hown hK hW (fun _ h => List.mem_cons_of_mem _ (List.mem_append_left _ (List.mem_append_right _ h))) tyX4 tyX4_ok nmX4 (sx_i 13 hB (by decide)) (sx_c13 hB) rfl 0 (by decide) rfl rfl (ty := .int) (by decide +kernel) rfl rfl (List.mem_of_getElem? (i := 5) rfl) dX4_read_75 (fun τ7 H locs e7 hW => ?_)
  replace hs := sp_let hs e7
  refine lv_aload_n hx hb dX4_read_78 rfl (lv_at hl 1 rfl) ?_
  refine sv_get (own := RX4) (C := RX4) (Tf := TX4) (N := 11) (index := 47) (κ := (0, 0)) (v := .int (τ7.1 13 1)) hx hb hts hown hK hW (fun _ h => List.mem_cons_of_mem _ (List.mem_append_left _ (List.mem_append_right _ h))) (sx_i 13 hB (by decide)) (sx_c13 hB) rfl 1 (by decide) rfl rfl (List.mem_of_getElem? (i := 3) rfl) dX4_read_79 ?_
  refine lv_iconst (v := -1) hx hb dX4_read_82 (by decide) ?_
  refine lv_icmp_ne (tgt := 105) hx hb dX4_read_83 (by decide) (fun c1 => ?_) (fun c1 => ?_)
  · replace hs := (sp_ite hs).2 c1
    cases hs
    exact k0 rfl ls H locs hW
  · replace hs := (sp_ite hs).1 c1
    refine lv_aload_n hx hb dX4_read_86 rfl (lv_at hl 1 rfl) ?_
    refine sv_get (own := RX4) (C := RX4) (Tf := TX4) (N := 11) (index := 44) (κ := (0, 0)) (v := .int (τ7.1 13 10)) hx hb hts hown hK hW (fun _ h => List.mem_cons_of_mem _ (List.mem_append_left _ (List.mem_append_right _ h))) (sx_i 13 hB (by decide)) (sx_c13 hB) rfl 10 (by decide) rfl rfl (List.mem_of_getElem? (i := 2) rfl) dX4_read_87 ?_
    refine lv_if_lt (tgt := 105) hx hb dX4_read_90 (by decide) (fun c2 => ?_) (fun c2 => ?_)
    · replace hs := (sp_ite hs).1 c2
      cases hs
      exact k0 rfl ls H locs hW
    · replace hs := (sp_ite hs).2 c2
      refine lv_aload_n hx hb dX4_read_93 rfl (lv_at hl 1 rfl) ?_
      refine sv_get (own := RX4) (C := RX4) (Tf := TX4) (N := 11) (index := 44) (κ := (0, 0)) (v := .int (τ7.1 13 10)) hx hb hts hown hK hW (fun _ h => List.mem_cons_of_mem _ (List.mem_append_left _ (List.mem_append_right _ h))) (sx_i 13 hB (by decide)) (sx_c13 hB) rfl 10 (by decide) rfl rfl (List.mem_of_getElem? (i := 2) rfl) dX4_read_94 ?_
      refine lv_aload_n hx hb dX4_read_97 rfl (lv_at hl 1 rfl) ?_
      refine sv_get (own := RX4) (C := RX4) (Tf := TX4) (N := 11) (index := 24) (κ := (3, 5)) (v := .ref (h 18)) hx hb hts hown hK hW (fun _ h => List.mem_cons_of_mem _ (List.mem_append_left _ (List.mem_append_right _ h))) (sx_i 13 hB (by decide)) (sx_c13 hB) rfl 8 (by decide) rfl rfl (List.mem_of_getElem? (i := 6) rfl) dX4_read_98 ?_
      refine sv_alen hx hb hK hW (a := 18) (sx_i 18 hB (by decide)) (sx_c18 hB) 0 rfl (v := 160) rfl dX4_read_101 ?_
      refine lv_icmp_le (tgt := 107) hx hb dX4_read_102 (by decide) (fun c3 => ?_) (fun c3 => ?_)
      · have c4 : ¬ (160 : Int32) < τ7.1 13 10 := fun q => by rw [z_lt] at q; rw [z_le] at c3; omega
        replace hs := (sp_ite hs).2 c4
        cases hs
        exact k1 rfl c2 c4 ls H locs (lv_sub hl [1, 2] rfl) hW
      · have c4 : (160 : Int32) < τ7.1 13 10 := by rw [z_lt]; rw [z_le] at c3; omega
        replace hs := (sp_ite hs).1 c4
        cases hs
        exact k0 rfl ls H locs hW
end RDC

/-! ===== the class's read: its contracts ===== -/
section RDK
variable {qK qV : Nat → Nat} {l : Launch} {D : va_G} {T : Nat → ClassId} {h : Nat → Nat} {θ : sv_T} {σ : sv_S} {a1 : Int32} {σ7 : sv_S}
set_option maxHeartbeats 4000000 in
theorem k_X4_readN (hB : sx_base θ) (hs : q_X4_read θ σ = some (0, σ7)) : sv_Mq (sx_X qK qV) l D T (sx_tys T) h θ yX4_read wsX4_read (sv_rm 62 2450) [.ref (h 13), .int a1] σ none σ7 := by
  intro sz
  refine sv_enter (cc := cX4_read) (maxL := 3) (ret := (some (.object "OpenWhileItRains$Text"))) (Qc := fun A => va_Qq (fun r2 (_ : Unit) => r2 = (none : Option Nat).map h) (fun _ t => va_P D vwCl (sv_ws T h θ σ7) t.heap) A) sx_XP (by decide) rfl (Nat.le_of_ble_eq_true rfl) ?_
  intro p e s m args below meth c A F hr hlk ls H hl hW
  have hl : lv_has ls 3 [(0, .ref (h 13)), (1, .int a1)] := hl
  refine w_read hB hs ⟨by show 61 ≤ 62; omega, by show 2440 ≤ 2450; omega⟩ ⟨Nat.le_refl _, Nat.le_refl _⟩ F hl hW (fun _ ls H locs hW => ?_) (fun q => absurd q (by decide))
  refine lv_null F.1.1 F.1.2.1 dX4_read_105 ?_
  exact sv_aret (r := none) rfl F.1.1 F.1.2.1 hr hlk hW dX4_read_106
/-- what a read that makes a text leaves -/
def xRdP (θ : sv_T) (σ7 : sv_S) (a1 : Int32) (θ' : sv_T) (σ8 : sv_S) : Prop :=
  θ'.1 = θ.1 + 4 ∧ (∀ i, i < θ.1 → θ'.2 i = θ.2 i) ∧ θ'.2 θ.1 = .inl (5, sx_sX6) ∧ θ'.2 (θ.1 + 1) = .inr (0, (σ7.1 13 10).toNatClampNeg) ∧ θ'.2 (θ.1 + 2) = .inr (0, 3) ∧ θ'.2 (θ.1 + 3) = .inr (0, 160) ∧
  (∀ i, i < θ.1 → ∀ j, σ8.1 i j = σ7.1 i j ∧ ∀ t, t < θ.1 → σ7.2.2 i j = some t → σ8.2.2 i j = some t) ∧ σ8.1 θ.1 0 = a1 ∧ (∀ j, j < (σ7.1 13 10).toNatClampNeg → σ8.1 (θ.1 + 1) j = σ7.1 18 j) ∧ ∀ j, j < 3 → σ8.1 (θ.1 + 2) j = σ7.1 19 j
theorem sv_ws_sh {T : Nat → ClassId} {h : Nat → Nat} {θ θ' : sv_T} {σ : sv_S} {n : Nat} (h1 : θ'.1 = θ.1) (h2 : ∀ i, i ≠ n → θ'.2 i = θ.2 i) (h3 : sv_cell T h σ n (θ'.2 n) = sv_cell T h σ n (θ.2 n)) : sv_ws T h θ' σ = sv_ws T h θ σ := by
  refine sv_ws_congr h1 (fun i hi => ⟨rfl, ?_⟩)
  by_cases e : i = n
  · subst e; exact h3
  · rw [h2 i e]
set_option maxHeartbeats 8000000 in
theorem k_X4_readY (hB : sx_base θ) (hθ : θ.1 ≤ 800) (hsp : sv_shp θ) (hs : q_X4_read θ σ = some (1, σ7)) (sz : Nat) :
    Met l yX4_read wsX4_read (sv_rmG 62 4 484 2450) (va_Pc [.ref (h 13), .int a1] (sv_B (sx_X2 qK qV) D T (sx_tys T) h θ σ sz)) (va_Qq (fun r (u : (Nat → Nat) × sv_T × sv_S) => r = some (u.1 θ.1) ∧ sv_ext h θ.1 u.2.1.1 sz u.1 ∧ xRdP θ σ7 a1 u.2.1 u.2.2) (fun u t => va_P D vwCl (sv_ws T u.1 u.2.1 u.2.2) t.heap ∧ va_D (fun _ => True) (sv_ws T u.1 u.2.1 u.2.2)) (sv_A h θ sz)) 4 484 (sv_A h θ sz) := by
  refine sv_enterG (cc := cX4_read) (maxL := 3) (ret := (some (.object "OpenWhileItRains$Text"))) (Qc := fun sz => va_Qq (fun r (u : (Nat → Nat) × sv_T × sv_S) => r = some (u.1 θ.1) ∧ sv_ext h θ.1 u.2.1.1 sz u.1 ∧ xRdP θ σ7 a1 u.2.1 u.2.2) (fun u t => va_P D vwCl (sv_ws T u.1 u.2.1 u.2.2) t.heap ∧ va_D (fun _ => True) (sv_ws T u.1 u.2.1 u.2.2)) (sv_A h θ sz)) sx_XP2 (by decide) rfl (Nat.le_of_ble_eq_true rfl) ?_
  intro p e s m args below meth c F hr hlk hnm ls H hl hW
  have hl : lv_has ls 3 [(0, .ref (h 13)), (1, .int a1)] := hl
  have hx := F.1.1
  have hb := F.1.2.1
  have hts := F.1.2.2.2.2
  have hown := F.1.2.2.2.1
  have hK := F.2.1
  have hA := F.2.2.2.1
  have hBl := hB.1
  refine w_read hB hs ⟨by show 61 ≤ 62; omega, by show 2440 ≤ 2450; omega⟩ ⟨Nat.zero_le _, Nat.zero_le _⟩ (sx_F1 F) hl hW (fun q => absurd q (by decide)) (fun _ c2 c4 ls H locs hl hW => ?_)
  -- the length
  obtain ⟨L, hL, eL⟩ : ∃ L : Nat, L ≤ 160 ∧ σ7.1 13 10 = nI L := by
    obtain ⟨k, k1, k2⟩ := z_of (x := σ7.1 13 10) (n := 161) (by rw [z_lt] at c2; have : (0 : Int32).toInt = 0 := rfl; omega) (by rw [z_lt] at c4; have : (160 : Int32).toInt = 160 := rfl; omega)
    exact ⟨k, by omega, k2⟩
  have cL : (σ7.1 13 10).toNatClampNeg = L := by rw [eL, nI_clamp (by omega)]
  -- blank beyond
  obtain ⟨θp, eθ⟩ : ∃ z : sv_T, z = (θ.1, fun i => if i < θ.1 then θ.2 i else if i = θ.1 then .inl (5, pkX6) else if i = θ.1 + 1 then .inr (0, L) else if i = θ.1 + 2 then .inr (0, 3) else .inr (0, 160)) := ⟨_, rfl⟩
  have p1 : θp.1 = θ.1 := by rw [eθ]
  have p2 : ∀ i, i < θ.1 → θp.2 i = θ.2 i := fun i hi => by rw [eθ]; show (if i < θ.1 then _ else _) = _; rw [if_pos hi]
  have p3 : θp.2 θ.1 = .inl (5, pkX6) := by rw [eθ]; show (if θ.1 < θ.1 then _ else if θ.1 = θ.1 then _ else _) = _; rw [if_neg (by omega), if_pos rfl]
  have p4 : θp.2 (θ.1 + 1) = .inr (0, L) := by rw [eθ]; show (if θ.1 + 1 < θ.1 then _ else if θ.1 + 1 = θ.1 then _ else if θ.1 + 1 = θ.1 + 1 then _ else _) = _; rw [if_neg (by omega), if_neg (by omega), if_pos rfl]
  have p5 : θp.2 (θ.1 + 2) = .inr (0, 3) := by rw [eθ]; show (if θ.1 + 2 < θ.1 then _ else if θ.1 + 2 = θ.1 then _ else if θ.1 + 2 = θ.1 + 1 then _ else if θ.1 + 2 = θ.1 + 2 then _ else _) = _; rw [if_neg (by omega), if_neg (by omega), if_neg (by omega), if_pos rfl]
  have p6 : θp.2 (θ.1 + 3) = .inr (0, 160) := by rw [eθ]; show (if θ.1 + 3 < θ.1 then _ else if θ.1 + 3 = θ.1 then _ else if θ.1 + 3 = θ.1 + 1 then _ else if θ.1 + 3 = θ.1 + 2 then _ else _) = _; rw [if_neg (by omega), if_neg (by omega), if_neg (by omega), if_neg (by omega)]
  clear eθ
  have hn0 : sv_nw θp (sv_fr θ.1 σ7) := sv_fr_nw p1 p2 hsp
  have eh : ∀ i, i < θ.1 → sv_hf h i = h i := fun i hi => sv_hf_o (by omega)
  have hW : sv_W D T (sv_A h θ s.heap.size) s (sv_hf h) θp (sv_fr θ.1 σ7) H locs := by
    have e := sv_ws_far (T := T) (h := h) (σ := σ7) (show θ.1 < 1000 by omega) p1 p2 hsp
    exact ⟨by rw [e]; exact hW.1, by rw [e]; exact hW.2.1, hW.2.2⟩
  rw [← eh 13 (by omega)] at hl
  have fold : ∀ i, i < θ.1 → ∀ j, (sv_fr θ.1 σ7).1 i j = σ7.1 i j := fun i hi j => by show (if i < θ.1 then _ else _) = _; rw [if_pos hi]
  have fref : ∀ i, i < θ.1 → ∀ j t, t < θ.1 → σ7.2.2 i j = some t → (sv_fr θ.1 σ7).2.2 i j = some t := fun i hi j t ht q => by
    show (if i < θ.1 then (σ7.2.2 i j).map (sv_far θ.1) else none) = _
    rw [if_pos hi, q]
    show some (sv_far θ.1 t) = some t
    unfold sv_far
    rw [if_pos ht]
  generalize sv_hf h = hh at hW hl eh
  generalize sv_fr θ.1 σ7 = σp at hW hn0 fold fref
  obtain ⟨n, en⟩ : ∃ n, n = θ.1 := ⟨_, rfl⟩
  have pn : θp = (n, θp.2) := by rw [en, ← p1]
  -- new Text
  refine sv_newO (own := RX4) (C := RX6) (Tf := TX6) (N := 4) (ci := 5) (ks := pkX6) (fs := [.int 0, .null, .null, .null]) hx hb hts (fun _ h => List.mem_cons_of_mem _ (List.mem_append_right _ h)) tyX6 tyX6_ok hown (hts _ (List.mem_of_getElem? (i := 7) rfl)) (hts _ (List.mem_of_getElem? (i := 8) rfl)) (hts _ (List.mem_of_getElem? (i := 9) rfl)) hK hW hA rfl (by rw [p1]; exact p3) (by omega) hn0.1 (fun j hj => by revert j; decide) (fun h' => by obtain ⟨z1, z2, z3⟩ := hn0.2 θp.1 (Nat.le_refl _); simp only [sv_vals, sv_val, z1, z2, z3, Option.map_none, va_rf]) (Nat.le_of_ble_eq_true rfl) (Nat.le_of_ble_eq_true rfl) dX4_read_107 (fun h1 H e1 hW => ?_)
  have hn1 := sv_nw_O hn0 (by rw [p1]; exact p3) (by decide)
  rw [p1, ← en] at hW hn1 e1 ⊢
  rw [← e1 13 (by omega)] at hl
  have hW : sv_W D T (sv_A h θ s.heap.size) s h1 (n + 1, θp.2) σp H locs := hW
  refine lv_dup hx hb dX4_read_110 rfl ?_
  refine lv_iload_n hx hb dX4_read_111 rfl (lv_at hl 1 rfl) ?_
  refine lv_aload_n hx hb dX4_read_112 rfl (lv_at hl 0 rfl) ?_
  have c13 : θp.2 13 = .inl (3, sx_sX4) := (p2 13 (by omega)).trans (sx_c13 hB)
  have c18 : θp.2 18 = .inr (0, 160) := (p2 18 (by omega)).trans (sx_c18 hB)
  have c19 : θp.2 19 = .inr (0, 3) := (p2 19 (by omega)).trans (sx_c19 hB)
  refine sv_get (i := 13) (own := RX4) (C := RX4) (Tf := TX4) (N := 11) (index := 24) (κ := (3, 5)) (v := .ref (h1 18)) hx hb hts hown hK hW (fun _ h => List.mem_cons_of_mem _ (List.mem_append_left _ (List.mem_append_right _ h))) (by show 13 < n + 1; omega) c13 rfl 8 (by decide) rfl rfl (List.mem_of_getElem? (i := 6) rfl) dX4_read_113 ?_
  refine lv_aload_n hx hb dX4_read_116 rfl (lv_at hl 0 rfl) ?_
  refine sv_get (i := 13) (own := RX4) (C := RX4) (Tf := TX4) (N := 11) (index := 44) (κ := (0, 0)) (v := .int (nI L)) hx hb hts hown hK hW (fun _ h => List.mem_cons_of_mem _ (List.mem_append_left _ (List.mem_append_right _ h))) (by show 13 < n + 1; omega) c13 rfl 10 (by decide) rfl (by show Value.int (σp.1 13 10) = _; rw [fold 13 (by omega), eL]) (List.mem_of_getElem? (i := 2) rfl) dX4_read_117 ?_
  -- the code, copied
  refine va_callq (sv_runTG F hW (k_copyOf (qK := qK) (qV := qV) (θ := (n + 1, θp.2)) (a := 18) (L := 160) (N := L) (by show n + 1 ≤ 900; omega) (Nat.le_refl _) hL (by show 18 < n + 1; omega) c18 (by show θp.2 (n + 1) = _; rw [en]; exact p4) hn1 H.size) gX4_read_J7_copyOf_59c91 rfl ⟨rfl, rfl⟩ 2 (by decide +kernel) ⟨Nat.le_of_ble_eq_true rfl, Nat.le_of_ble_eq_true rfl⟩ rfl hl.1 rfl (Nat.le_of_ble_eq_true rfl) dX4_read_120 ⟨Nat.le_of_ble_eq_true rfl, Nat.le_of_ble_eq_true rfl⟩) hW.2.2 (fun q _ hq => sv_freeA hA hW q hq) (sv_freeA hA hW) (fun r2 u t H1 locs1 ht hvm hw hB2 hz1 hk1 hS => ?_)
  obtain ⟨h2, g1⟩ := u
  obtain ⟨hr2, hext, hg1⟩ := hw
  have hg1 : ∀ j, j < L → j < 160 → g1 j = σp.1 18 j := hg1
  obtain ⟨hP1, hD1⟩ := hB2
  rw [ht] at hP1
  have e2 : ∀ i, i < n + 1 → h2 i = h1 i := hext.1
  have hr2 : r2 = some (h2 (n + 1)) := hr2
  subst hr2
  have hW2 : sv_W D T (sv_A h θ s.heap.size) s h2 (n + 2, θp.2) (sv_sR σp (n + 1) g1) H1 locs1 := ⟨hP1, sv_D_ext hD1 (fun k hk => by
    by_cases hk2 : k < n + 1
    · rw [e2 k hk2]; exact hW.2.1.2 k _ (sv_ws_get (θ := (n + 1, θp.2)) hk2)
    · exact hA _ (Nat.le_trans hW.2.2.1 (hext.2 k (by show n + 1 ≤ k; omega) hk))), hS⟩
  clear hW
  have hn2 : sv_nw (n + 2, θp.2) (sv_sR σp (n + 1) g1) := sv_nw_R (sv_nw_A hn1 (x := (0, L)) (by show θp.2 (n + 1) = _; rw [en]; exact p4)) (by show n + 1 < n + 2; omega)
  rw [← e2 13 (by omega)] at hl
  rw [← e2 n (by omega)]
  show W p l e _ s m args below meth c H1 locs1 _ _ _ (F0 m 123 ls [.ref (h2 (n + 1)), .int a1, .ref (h2 n), .ref (h2 n)])
  refine lv_aload_n hx hb dX4_read_123 rfl (lv_at hl 0 rfl) ?_
  refine sv_get (i := 13) (own := RX4) (C := RX4) (Tf := TX4) (N := 11) (index := 27) (κ := (3, 6)) (v := .ref (h2 19)) hx hb hts hown hK hW2 (fun _ h => List.mem_cons_of_mem _ (List.mem_append_left _ (List.mem_append_right _ h))) (by show 13 < n + 2; omega) c13 rfl 9 (by decide) rfl rfl (List.mem_of_getElem? (i := 4) rfl) dX4_read_124 ?_
  refine lv_iconst (v := nI 3) hx hb dX4_read_127 (by decide) ?_
  refine va_callq (sv_runTG F hW2 (k_copyOf (qK := qK) (qV := qV) (θ := (n + 2, θp.2)) (a := 19) (L := 3) (N := 3) (by show n + 2 ≤ 900; omega) (by omega) (by omega) (by show 19 < n + 2; omega) c19 (by show θp.2 (n + 2) = _; rw [en]; exact p5) hn2 H1.size) gX4_read_J7_copyOf_59c91 rfl ⟨rfl, rfl⟩ 2 (by decide +kernel) ⟨Nat.le_of_ble_eq_true rfl, Nat.le_of_ble_eq_true rfl⟩ rfl hl.1 rfl (Nat.le_of_ble_eq_true rfl) dX4_read_128 ⟨Nat.le_of_ble_eq_true rfl, Nat.le_of_ble_eq_true rfl⟩) hW2.2.2 (fun q _ hq => sv_freeA hA hW2 q hq) (sv_freeA hA hW2) (fun r3 u t H2 locs2 ht hvm hw hB2 hz2 hk2 hS => ?_)
  obtain ⟨h3, g2⟩ := u
  obtain ⟨hr3, hext3, hg2⟩ := hw
  have hg2 : ∀ j, j < 3 → j < 3 → g2 j = (sv_sR σp (n + 1) g1).1 19 j := hg2
  obtain ⟨hP2, hD2⟩ := hB2
  rw [ht] at hP2
  have e3 : ∀ i, i < n + 2 → h3 i = h2 i := hext3.1
  have hr3 : r3 = some (h3 (n + 2)) := hr3
  subst hr3
  have hW3 : sv_W D T (sv_A h θ s.heap.size) s h3 (n + 3, θp.2) (sv_sR (sv_sR σp (n + 1) g1) (n + 2) g2) H2 locs2 := ⟨hP2, sv_D_ext hD2 (fun k hk => by
    by_cases hk2 : k < n + 2
    · rw [e3 k hk2]; exact hW2.2.1.2 k _ (sv_ws_get (θ := (n + 2, θp.2)) hk2)
    · exact hA _ (Nat.le_trans hW2.2.2.1 (hext3.2 k (by show n + 2 ≤ k; omega) hk))), hS⟩
  clear hW2
  have hn3 : sv_nw (n + 3, θp.2) (sv_sR (sv_sR σp (n + 1) g1) (n + 2) g2) := sv_nw_R (sv_nw_A hn2 (x := (0, 3)) (by show θp.2 (n + 2) = _; rw [en]; exact p5)) (by show n + 2 < n + 3; omega)
  rw [← e3 n (by omega), ← e3 (n + 1) (by omega)]
  show W p l e _ s m args below meth c H2 locs2 _ _ _ (F0 m 131 ls [.ref (h3 (n + 2)), .ref (h3 (n + 1)), .int a1, .ref (h3 n), .ref (h3 n)])
  refine sv_goVG (n' := n + 4) (σ' := xp_X6 (sv_sR (sv_sR σp (n + 1) g1) (n + 2) g2) n (n + 3) (n + 1) (n + 2) a1) hW3 hA (sv_runIG (i := n) (own := RX4) F hW3 (k_X6_init sx_XP2 (θ := (n + 3, θp.2)) (kc := n) (b1 := n + 1) (b2 := n + 2) (by show n + 3 ≤ 900; omega) (by show n < n + 3; omega) (by show n + 1 < n + 3; omega) (by show n + 2 < n + 3; omega) (by show θp.2 n = _; rw [en]; exact p3) (by show θp.2 (n + 3) = _; rw [en]; exact p6) hn3 H2.size) gX4_read_X6_init rfl ⟨rfl, rfl⟩ 3 (List.mem_of_getElem? (i := 9) rfl) (List.mem_of_getElem? (i := 169) rfl) (List.mem_of_getElem? (i := 170) rfl) rfl (by decide +kernel) ⟨Nat.le_of_ble_eq_true rfl, Nat.le_of_ble_eq_true rfl⟩ rfl hl.1 rfl (Nat.le_of_ble_eq_true rfl) dX4_read_131 ⟨Nat.le_of_ble_eq_true rfl, Nat.le_of_ble_eq_true rfl⟩) (fun h4 H locs e4 hW => ?_)
  have e4 : ∀ i, i < n + 3 → h4 i = h3 i := e4
  have hW : sv_W D T (sv_A h θ s.heap.size) s h4 (n + 4, θp.2) (xp_X6 (sv_sR (sv_sR σp (n + 1) g1) (n + 2) g2) n (n + 3) (n + 1) (n + 2) a1) H locs := hW
  rw [← e4 n (by omega)]
  -- the text's own cells behind it
  obtain ⟨σ8, eσ⟩ : ∃ z, z = xp_X6 (sv_sR (sv_sR σp (n + 1) g1) (n + 2) g2) n (n + 3) (n + 1) (n + 2) a1 := ⟨_, rfl⟩
  rw [← eσ] at hW
  have x0 : σ8.1 n 0 = a1 := by rw [eσ]; simp [xp_X6, sv_sP, sv_sI, sv_u]
  have x1 : σ8.2.2 n 1 = some (n + 1) ∧ σ8.2.2 n 2 = some (n + 2) ∧ σ8.2.2 n 3 = some (n + 3) := by rw [eσ]; simp [xp_X6, sv_sP, sv_sI, sv_u]
  have xI : ∀ i j, i ≠ n → σ8.1 i j = (sv_sR (sv_sR σp (n + 1) g1) (n + 2) g2).1 i j := fun i j hi => by rw [eσ]; simp [xp_X6, sv_sP, sv_sI, sv_u, hi]
  have xP : ∀ i j, i ≠ n → σ8.2.2 i j = σp.2.2 i j := fun i j hi => by rw [eσ]; simp [xp_X6, sv_sP, sv_sI, sv_sR, sv_u, hi]
  obtain ⟨θ8, eθ8⟩ : ∃ z : sv_T, z = (n + 4, fun i => if i = n then .inl (5, sx_sX6) else θp.2 i) := ⟨_, rfl⟩
  have y1 : θ8.1 = n + 4 := by rw [eθ8]
  have y2 : θ8.2 n = .inl (5, sx_sX6) := by rw [eθ8]; show (if n = n then _ else _) = _; rw [if_pos rfl]
  have y3 : ∀ i, i ≠ n → θ8.2 i = θp.2 i := fun i hi => by rw [eθ8]; show (if i = n then _ else _) = _; rw [if_neg hi]
  clear eθ8
  have hW : sv_W D T (sv_A h θ s.heap.size) s h4 θ8 σ8 H locs := by
    have e : sv_ws T h4 θ8 σ8 = sv_ws T h4 (n + 4, θp.2) σ8 := by
      refine sv_ws_sh (n := n) y1 (fun i hi => y3 i hi) ?_
      rw [y2, show (n + 4, θp.2).2 n = .inl (5, pkX6) by show θp.2 n = _; rw [en]; exact p3]
      show (Sum.inr (5, sv_vals h4 σ8 n 0 sx_sX6) : va_E) = Sum.inr (5, sv_vals h4 σ8 n 0 pkX6)
      simp only [sv_vals, sv_val, x1.1, x1.2.1, x1.2.2, Option.map_some, va_rf]
    exact ⟨by rw [e]; exact hW.1, by rw [e]; exact hW.2.1, hW.2.2⟩
  have hall : ∀ i, i < θ.1 → h4 i = h i := fun i hi => by rw [e4 i (by omega), e3 i (by omega), e2 i (by omega), e1 i (by omega), eh i hi]
  refine sv_aretG (r := some (h4 n)) rfl (h4, θ8, σ8) ⟨rfl, by rw [en]; exact sv_new_ge hW.2.1 hall (by rw [y1]; omega), by rw [y1, en], fun i hi => ?_, ?_, ?_, ?_, ?_, fun i hi j => ⟨?_, fun t ht q => ?_⟩, ?_, fun j hj => ?_, fun j hj => ?_⟩ (fun t ht => ⟨by rw [ht]; exact hW.1, hW.2.1.weaken (fun _ _ _ _ => trivial)⟩) hx hb hr (Or.inl ⟨_, rfl⟩) hlk hW dX4_read_134
  · show θ8.2 i = θ.2 i; rw [y3 i (by omega), p2 i hi]
  · show θ8.2 θ.1 = _; rw [← en]; exact y2
  · show θ8.2 (θ.1 + 1) = _; rw [y3 _ (by omega), p4, cL]
  · show θ8.2 (θ.1 + 2) = _; rw [y3 _ (by omega), p5]
  · show θ8.2 (θ.1 + 3) = _; rw [y3 _ (by omega), p6]
  · show σ8.1 i j = _
    rw [xI i j (by omega)]
    show sv_r (sv_r σp.1 (n + 1) g1) (n + 2) g2 i j = _
    rw [sv_r_ne (by omega), sv_r_ne (by omega)]
    exact fold i hi j
  · show σ8.2.2 i j = some t
    rw [xP i j (by omega)]
    exact fref i hi j t ht q
  · show σ8.1 θ.1 0 = a1; rw [← en]; exact x0
  · show σ8.1 (θ.1 + 1) j = _
    rw [← en, xI _ j (by omega)]
    show sv_r (sv_r σp.1 (n + 1) g1) (n + 2) g2 (n + 1) j = _
    rw [sv_r_ne (by omega)]
    show (if n + 1 = n + 1 then g1 else _) j = _
    rw [if_pos rfl]
    have hj : j < L := by rw [← cL]; exact hj
    rw [hg1 j hj (by omega)]
    exact fold 18 (by omega) j
  · show σ8.1 (θ.1 + 2) j = _
    rw [← en, xI _ j (by omega)]
    show (if n + 2 = n + 2 then g2 else _) j = _
    rw [if_pos rfl, hg2 j hj hj]
    show sv_r σp.1 (n + 1) g1 19 j = _
    rw [sv_r_ne (by omega)]
    exact fold 19 (by omega) j
end RDK

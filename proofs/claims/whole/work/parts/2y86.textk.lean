/-! ===== the class's text: its contract ===== -/
section TXK
variable {qK qV : Nat → Nat} {l : Launch} {D : va_G} {T : Nat → ClassId} {h : Nat → Nat} {θ : sv_T} {σ : sv_S}
theorem xRdP_base {θ θ' : sv_T} {σ7 σ8 : sv_S} {a : Int32} (hB : sx_base θ) (hR : xRdP θ σ7 a θ' σ8) : sx_base θ' :=
  ⟨by rw [hR.1]; exact Nat.le_trans hB.1 (Nat.le_add_right _ _), fun i hi => by rw [hR.2.1 i (Nat.lt_of_lt_of_le hi hB.1)]; exact hB.2 i hi⟩
set_option maxHeartbeats 8000000 in
theorem k_X7_text {G : Int32 → sv_T → sv_S → Prop} (hB : sx_base θ) (hθ : θ.1 ≤ 800) (hsp : sv_shp θ)
    (hG : ((6 : Int32) ≤ σ.1 0 5 ∧ G (-4) θ σ) ∨ (¬ (6 : Int32) ≤ σ.1 0 5 ∧ ∃ σ7, q_X4_read θ σ = some (0, σ7) ∧ G (-100 - σ7.1 13 1) θ σ7) ∨
      (¬ (6 : Int32) ≤ σ.1 0 5 ∧ ∃ σ7, q_X4_read θ σ = some (1, σ7) ∧ ∀ θ' σ8, xRdP θ σ7 (σ.1 0 5) θ' σ8 → ∃ σ9, q_X7_keepText θ' (some θ.1) σ8 = some ((), σ9) ∧ G (σ9.1 θ.1 0) θ' σ9)) (sz : Nat) :
    Met l yX7_text wsX7_text (sv_rmG 63 4 484 2480) (va_Pc [.ref (h 0)] (sv_B (sx_X2 qK qV) D T (sx_tys T) h θ σ sz)) (va_Qi (fun r (u : (Nat → Nat) × sv_T × sv_S) => G r u.2.1 u.2.2 ∧ sv_ext h θ.1 u.2.1.1 sz u.1 ∧ θ.1 ≤ u.2.1.1) (fun u t => va_P D vwCl (sv_ws T u.1 u.2.1 u.2.2) t.heap ∧ va_D (fun _ => True) (sv_ws T u.1 u.2.1 u.2.2)) (sv_A h θ sz)) 4 484 (sv_A h θ sz) := by
  refine sv_enterG (cc := cX7_text) (maxL := 2) (ret := (some .int)) (Qc := fun sz => va_Qi (fun r (u : (Nat → Nat) × sv_T × sv_S) => G r u.2.1 u.2.2 ∧ sv_ext h θ.1 u.2.1.1 sz u.1 ∧ θ.1 ≤ u.2.1.1) (fun u t => va_P D vwCl (sv_ws T u.1 u.2.1 u.2.2) t.heap ∧ va_D (fun _ => True) (sv_ws T u.1 u.2.1 u.2.2)) (sv_A h θ sz)) sx_XP2 (by decide) rfl (Nat.le_of_ble_eq_true rfl) ?_
  intro p e s m args below meth c F hr hlk hnm ls H hl hW
  have hl : lv_has ls 2 [(0, .ref (h 0))] := hl
  have hx := F.1.1
  have hb := F.1.2.1
  have hts := F.1.2.2.2.2
  have hown := F.1.2.2.2.1
  have hK := F.2.1
  have hA := F.2.2.2.1
  have hBl := hB.1
  have in7 : ∀ w ∈ u_ws RX7 TX7 10, w ∈ wsX7_text := fun _ h => List.mem_cons_of_mem _ (List.mem_append_left _ (List.mem_append_left _ (List.mem_append_right _ h)))
  have in4 : ∀ w ∈ u_ws RX4 TX4 11, w ∈ wsX7_text := fun _ h => List.mem_cons_of_mem _ (List.mem_append_left _ (List.mem_append_right _ h))
  have in6 : ∀ w ∈ u_ws RX6 TX6 4, w ∈ wsX7_text := fun _ h => List.mem_cons_of_mem _ (List.mem_append_right _ h)
  have hle0 : sv_ext h θ.1 θ.1 s.heap.size h := ⟨fun _ _ => rfl, fun i h1 h2 => absurd h2 (by omega)⟩
  obtain ⟨locs, hlocs⟩ : ∃ z : List Loc, z = [] := ⟨_, rfl⟩
  rw [← hlocs] at hW ⊢
  refine lv_aload_n hx hb dX7_text_0 rfl (lv_at hl 0 rfl) ?_
  refine sv_get (own := RX7) (C := RX7) (Tf := TX7) (N := 10) (index := 163) (κ := (0, 0)) (v := .int (σ.1 0 5)) hx hb hts hown hK hW in7 (sx_i 0 hB (by decide)) (sx_c0 hB) rfl 5 (by decide) rfl rfl (List.mem_of_getElem? (i := 1) rfl) dX7_text_1 ?_
  refine lv_aload_n hx hb dX7_text_4 rfl (lv_at hl 0 rfl) ?_
  refine sv_get (own := RX7) (C := RX7) (Tf := TX7) (N := 10) (index := 28) (κ := (3, 20)) (v := .ref (h 20)) hx hb hts hown hK hW in7 (sx_i 0 hB (by decide)) (sx_c0 hB) rfl 4 (by decide) rfl rfl (List.mem_of_getElem? (i := 2) rfl) dX7_text_5 ?_
  refine sv_alen (t := 2) (v := (6 : Int32)) hx hb hK hW (sx_i 20 hB (by decide)) (sx_c20 hB) 1 rfl rfl dX7_text_8 ?_
  refine lv_icmp_lt (tgt := 15) hx hb dX7_text_9 (by decide) (fun c1 => ?_) (fun c1 => ?_)
  · have c1' : ¬ (6 : Int32) ≤ σ.1 0 5 := fun q => by rw [z_le] at q; rw [z_lt] at c1; omega
    refine lv_aload_n hx hb dX7_text_15 rfl (lv_at hl 0 rfl) ?_
    refine sv_get (own := RX7) (C := RX7) (Tf := TX7) (N := 10) (index := 22) (κ := (3, 13)) (v := .ref (h 13)) hx hb hts hown hK hW in7 (sx_i 0 hB (by decide)) (sx_c0 hB) rfl 3 (by decide) rfl rfl (List.mem_of_getElem? (i := 3) rfl) dX7_text_16 ?_
    refine lv_aload_n hx hb dX7_text_19 rfl (lv_at hl 0 rfl) ?_
    refine sv_get (own := RX7) (C := RX7) (Tf := TX7) (N := 10) (index := 163) (κ := (0, 0)) (v := .int (σ.1 0 5)) hx hb hts hown hK hW in7 (sx_i 0 hB (by decide)) (sx_c0 hB) rfl 5 (by decide) rfl rfl (List.mem_of_getElem? (i := 1) rfl) dX7_text_20 ?_
    rcases hG with ⟨q, -⟩ | ⟨-, σ7, hs, hG⟩ | ⟨-, σ7, hs, hG⟩
    · exact absurd q c1'
    · refine sv_goQ (σ' := σ7) (r := none) hW F.2.2.2.1 (sv_runV (C := RX4) (sx_F1 F) hW (k_X4_readN hB hs H.size) gX7_text_X4_read rfl ⟨rfl, rfl⟩ 1 (by decide +kernel) ⟨by show 62 + 1 ≤ 63; omega, by show 8 + (3 + 11) + 2450 ≤ 2480; omega⟩ (sx_i 13 hB (by decide)) (sx_c13 hB) rfl rfl hl.1 rfl (Nat.le_of_ble_eq_true rfl) dX7_text_23 ⟨Nat.zero_le _, Nat.zero_le _⟩) (fun H locs hW => ?_)
      refine W.eq (g2 := F0 m 26 ls [.null]) rfl ?_
      refine lv_astore_nN (lv' := [(1, .null), (0, .ref (h 0))]) hx hb dX7_text_26 rfl hl (by decide) rfl (fun ls hl => ?_)
      refine lv_aload_nN hx hb dX7_text_27 rfl (lv_at hl 0 rfl) ?_
      refine lv_ifnonnullN hx hb dX7_text_28 ?_
      refine lv_bipush (v := -100) hx hb dX7_text_31 (by decide) ?_
      refine lv_aload_n hx hb dX7_text_33 rfl (lv_at hl 1 rfl) ?_
      refine sv_get (own := RX7) (C := RX7) (Tf := TX7) (N := 10) (index := 22) (κ := (3, 13)) (v := .ref (h 13)) hx hb hts hown hK hW in7 (sx_i 0 hB (by decide)) (sx_c0 hB) rfl 3 (by decide) rfl rfl (List.mem_of_getElem? (i := 3) rfl) dX7_text_34 ?_
      refine sv_get (own := RX7) (C := RX4) (Tf := TX4) (N := 11) (index := 166) (κ := (0, 0)) (v := .int (σ7.1 13 1)) hx hb hts hown hK hW in4 (sx_i 13 hB (by decide)) (sx_c13 hB) rfl 1 (by decide) rfl rfl (List.mem_of_getElem? (i := 4) rfl) dX7_text_37 ?_
      refine lv_isub hx hb dX7_text_40 ?_
      refine W.widen (k := 4) (n := 484) (Nat.zero_le _) (Nat.zero_le _) ?_
      exact sv_iretG (h, θ, σ7) ⟨hG, hle0, Nat.le_refl _⟩ (fun t ht => ⟨by rw [ht]; exact hW.1, hW.2.1.weaken (fun _ _ _ _ => trivial)⟩) hx hb hr rfl hlk hW dX7_text_41
    · refine va_callq (sv_runVG (C := RX4) F hW (k_X4_readY hB hθ hsp hs H.size) gX7_text_X4_read rfl ⟨rfl, rfl⟩ 1 (by decide +kernel) ⟨by show 62 + 1 ≤ 63; omega, by show 8 + (3 + 11) + 2450 ≤ 2480; omega⟩ (sx_i 13 hB (by decide)) (sx_c13 hB) rfl rfl hl.1 rfl (Nat.le_of_ble_eq_true rfl) dX7_text_23 ⟨Nat.le_of_ble_eq_true rfl, Nat.le_of_ble_eq_true rfl⟩) hW.2.2 (fun q _ hq => sv_freeA hA hW q hq) (sv_freeA hA hW) (fun r2 u t H1 locs1 ht hvm hw hB2 hz1 hk1 hS => ?_)
      obtain ⟨h2, θ', σ8⟩ := u
      obtain ⟨hr2, hext, hRd⟩ := hw
      obtain ⟨hP1, hD1⟩ := hB2
      rw [ht] at hP1
      have hr2 : r2 = some (h2 θ.1) := hr2
      subst hr2
      have hRd : xRdP θ σ7 (σ.1 0 5) θ' σ8 := hRd
      have hext : sv_ext h θ.1 θ'.1 H.size h2 := hext
      have hB' := xRdP_base hB hRd
      obtain ⟨σ9, hs9, hG⟩ := hG θ' σ8 hRd
      have t4 : θ'.1 = θ.1 + 4 := hRd.1
      have tn : θ'.2 θ.1 = .inl (5, sx_sX6) := hRd.2.2.1
      have e2 : ∀ i, i < θ.1 → h2 i = h i := hext.1
      have hW2 : sv_W D T (sv_A h θ s.heap.size) s h2 θ' σ8 H1 locs1 := ⟨hP1, sv_D_ext hD1 (fun k hk => by
        by_cases hk2 : k < θ.1
        · rw [e2 k hk2]; exact hW.2.1.2 k _ (sv_ws_get hk2)
        · exact hA _ (Nat.le_trans hW.2.2.1 (hext.2 k (by omega) hk))), hS⟩
      clear hW
      rw [← e2 0 (by omega)] at hl
      refine W.eq (g2 := F0 m 26 ls [.ref (h2 θ.1)]) rfl ?_
      refine lv_astore_n (lv' := [(1, .ref (h2 θ.1)), (0, .ref (h2 0))]) hx hb dX7_text_26 rfl hl (by decide) rfl (fun ls hl => ?_)
      refine lv_aload_n hx hb dX7_text_27 rfl (lv_at hl 0 rfl) ?_
      refine lv_ifnonnull (tgt := 42) hx hb dX7_text_28 (by decide) ?_
      refine lv_aload_n hx hb dX7_text_42 rfl (lv_at hl 1 rfl) ?_
      refine lv_aload_n hx hb dX7_text_43 rfl (lv_at hl 0 rfl) ?_
      refine sv_goV (σ' := σ9) (r := ()) hW2 hA (sv_runV (C := RX7) (sx_F1 F) hW2 (k_X7_keepText hB' hs9 H1.size) gX7_text_X7_keepText rfl ⟨rfl, rfl⟩ 1 (by decide +kernel) ⟨by show 0 + 1 ≤ 63; omega, by show 8 + (2 + 11) + 0 ≤ 2480; omega⟩ (sx_i 0 hB' (by decide)) (sx_c0 hB') rfl rfl hl.1 rfl (Nat.le_of_ble_eq_true rfl) dX7_text_44 ⟨Nat.le_of_ble_eq_true rfl, Nat.le_of_ble_eq_true rfl⟩) (fun H locs hW => ?_)
      refine lv_aload_n hx hb dX7_text_47 rfl (lv_at hl 0 rfl) ?_
      refine sv_get (own := RX7) (C := RX6) (Tf := TX6) (N := 4) (index := 169) (κ := (0, 0)) (v := .int (σ9.1 θ.1 0)) hx hb hts hown hK hW in6 (by omega) tn rfl 0 (by decide) rfl rfl (List.mem_of_getElem? (i := 5) rfl) dX7_text_48 ?_
      have hall : sv_ext h θ.1 θ'.1 s.heap.size h2 := sv_new_ge hW.2.1 e2 (by omega)
      exact sv_iretG (h2, θ', σ9) ⟨hG, hall, by show θ.1 ≤ θ'.1; omega⟩ (fun t ht => ⟨by rw [ht]; exact hW.1, hW.2.1.weaken (fun _ _ _ _ => trivial)⟩) hx hb hr rfl hlk hW dX7_text_51
  · have c1' : (6 : Int32) ≤ σ.1 0 5 := by rw [z_le]; rw [z_lt] at c1; omega
    rcases hG with ⟨-, hG⟩ | ⟨q, -⟩ | ⟨q, -⟩
    · refine lv_bipush (v := -4) hx hb dX7_text_12 (by decide) ?_
      refine W.widen (k := 4) (n := 484) (Nat.zero_le _) (Nat.zero_le _) ?_
      exact sv_iretG (h, θ, σ) ⟨hG, hle0, Nat.le_refl _⟩ (fun t ht => ⟨by rw [ht]; exact hW.1, hW.2.1.weaken (fun _ _ _ _ => trivial)⟩) hx hb hr rfl hlk hW dX7_text_14
    · exact absurd c1' q
    · exact absurd c1' q
end TXK

/-! ===== the class's constructor ===== -/
section K7
variable {qK qV : Nat → Nat} {l : Launch} {D : va_G} {T : Nat → ClassId} {h : Nat → Nat}
set_option maxHeartbeats 8000000 in
theorem k_X7_init (hn0 : sv_nw (1, sp_sh) xs0) (sz : Nat) :
    Met l yX7_init wsX7_init (sv_rmG 63 45 5238 2480) (va_Pc [.ref (h 0)] (sv_B (sx_X2 qK qV) D T (sx_tys T) h (1, sp_sh) xs0 sz)) (va_Qv (fun (u : (Nat → Nat) × sv_T × sv_S) => sv_ext h 1 u.2.1.1 sz u.1 ∧ xFirst u.2.1 u.2.2) (fun u t => va_P D vwCl (sv_ws T u.1 u.2.1 u.2.2) t.heap ∧ va_D (fun _ => True) (sv_ws T u.1 u.2.1 u.2.2)) (sv_A h (1, sp_sh) sz)) 45 5238 (sv_A h (1, sp_sh) sz) := by
  refine sv_enterG (cc := cX7_init) (maxL := 2) (ret := none) (Qc := fun sz => va_Qv (fun (u : (Nat → Nat) × sv_T × sv_S) => sv_ext h 1 u.2.1.1 sz u.1 ∧ xFirst u.2.1 u.2.2) (fun u t => va_P D vwCl (sv_ws T u.1 u.2.1 u.2.2) t.heap ∧ va_D (fun _ => True) (sv_ws T u.1 u.2.1 u.2.2)) (sv_A h (1, sp_sh) sz)) sx_XP2 (by decide) rfl (Nat.le_of_ble_eq_true rfl) ?_
  intro p e s m args below meth c F hr hlk hnm ls H hl hW
  have hl : lv_has ls 2 [(0, .ref (h 0))] := hl
  have hx := F.1.1
  have hb := F.1.2.1
  have hts := F.1.2.2.2.2
  have hown := F.1.2.2.2.1
  have hK := F.2.1
  have hA := F.2.2.2.1
  have F1 := sx_F1 F
  have in7 : ∀ w ∈ u_ws RX7 TX7 10, w ∈ wsX7_init := fun _ h => List.mem_cons_of_mem _ (List.mem_append_left _ (List.mem_append_left _ (List.mem_append_left _ (List.mem_append_left _ (List.mem_append_left _ (List.mem_append_right _ h))))))
  have in2 : ∀ w ∈ u_ws RX2 TX2 8, w ∈ wsX7_init := fun _ h => List.mem_cons_of_mem _ (List.mem_append_left _ (List.mem_append_left _ (List.mem_append_left _ (List.mem_append_left _ (List.mem_append_left _ (List.mem_append_left _ (List.mem_append_right _ h)))))))
  refine w_X7_a rfl F hnm hl hW hn0 (fun h1 ls H locs e1 hl hW => ?_)
  have hB := ev_B0
  have hW : sv_W D T (sv_A h (1, sp_sh) s.heap.size) s h1 ev_T0 (xe 0) H locs := by
    rw [xe_0]
    have ew : sv_ws T h1 ev_T0 xs21 = sv_ws T h1 (42, sp_sh) xs21 := xs_conv
    exact ⟨by rw [ew]; exact hW.1, by rw [ew]; exact hW.2.1, hW.2.2⟩
  -- the text, byte by byte
  have run : ∀ (r n : Nat), 37 - n = r → n ≤ 37 → ∀ (ls : Array Slot) (H : Heap) (locs : List Loc), lv_has ls 2 [(1, .int (nI n)), (0, .ref (h1 0))] → sv_W D T (sv_A h (1, sp_sh) s.heap.size) s h1 ev_T0 (xe n) H locs → W p l e (sv_rmG 63 45 5238 2480) s m args below meth c H locs 41 4754 (MQ below (va_Qv (fun (u : (Nat → Nat) × sv_T × sv_S) => sv_ext h 1 u.2.1.1 s.heap.size u.1 ∧ xFirst u.2.1 u.2.2) (fun u t => va_P D vwCl (sv_ws T u.1 u.2.1 u.2.2) t.heap ∧ va_D (fun _ => True) (sv_ws T u.1 u.2.1 u.2.2)) (sv_A h (1, sp_sh) s.heap.size)) args s 45 5238 (sv_A h (1, sp_sh) s.heap.size)) (F0 m 116 ls []) := by
    intro r
    induction r with
    | zero =>
      intro n q1 q2 ls H locs hl hW
      have hn : n = 37 := by omega
      subst hn
      refine lv_iload_n hx hb dX7_init_116 rfl (lv_at hl 0 rfl) ?_
      refine va_ldcS (tx := sx_t0) (q := qK 0) hx hb hown F1.2.2.1.2.2.2.2.1.2.1 dX7_init_117 ?_
      refine sv_goI (σ' := xe 37) (r := nI 37) hW F.2.2.2.1 (sv_runR (C := "java/lang/String") F1 hW (k_J0_length_8abf5 hB (by decide : 0 < 2) (xe_len (xe 37)) H.size) gX7_init_J0_length_8abf5 rfl ⟨rfl, rfl⟩ 0 (by decide +kernel) (sv_room2 (by show _ ≤ 63; omega) (by show _ ≤ 2480; omega)) (vk_recv F1.2.2.1.2.2.2.2.1.1 (by decide : 0 < 2) hW.2.2) rfl hl.1 rfl (Nat.le_of_ble_eq_true rfl) dX7_init_119 ⟨Nat.le_of_ble_eq_true rfl, Nat.le_of_ble_eq_true rfl⟩) (fun H locs hW => ?_)
      refine lv_icmp_ge (tgt := 145) hx hb dX7_init_122 (by decide) (fun _ => ?_) (fun q => absurd (show nI 37 ≤ nI 37 by decide) q)
      refine lv_aload_n hx hb dX7_init_145 rfl (lv_at hl 1 rfl) ?_
      refine lv_aload_n hx hb dX7_init_146 rfl (lv_at hl 1 rfl) ?_
      refine sv_get (own := RX7) (C := RX7) (Tf := TX7) (N := 10) (index := 22) (κ := (3, 13)) (v := .ref (h1 13)) hx hb hts hown hK hW in7 (sx_i 0 hB (by decide)) (sx_c0 hB) rfl 3 (by decide) rfl rfl (List.mem_of_getElem? (i := 12) rfl) dX7_init_147 ?_
      refine lv_iconst (v := 0) hx hb dX7_init_150 (by decide) ?_
      obtain ⟨σ7, g1, g2, g3, g4, g5, g6, -⟩ := xe_read (n := 37) (14, sm_sh) (by omega) ev_37
      refine va_callq (sv_runVG (C := RX4) F hW (k_X4_readY (a1 := 0) hB (by show 42 ≤ 800; omega) ev_shp g1 H.size) gX7_init_X4_read rfl ⟨rfl, rfl⟩ 1 (by decide +kernel) ⟨by show 62 + 1 ≤ 63; omega, by show 8 + (3 + 11) + 2450 ≤ 2480; omega⟩ (sx_i 13 hB (by decide)) (sx_c13 hB) rfl rfl hl.1 rfl (Nat.le_of_ble_eq_true rfl) dX7_init_151 ⟨Nat.le_of_ble_eq_true rfl, Nat.le_of_ble_eq_true rfl⟩) hW.2.2 (fun q _ hq => sv_freeA hA hW q hq) (sv_freeA hA hW) (fun r2 u t H1 locs1 ht hvm hw hB2 hz1 hk1 hS => ?_)
      obtain ⟨h2, θ', σ8⟩ := u
      obtain ⟨hr2, hext, hRd⟩ := hw
      obtain ⟨hP1, hD1⟩ := hB2
      rw [ht] at hP1
      have hr2 : r2 = some (h2 42) := hr2
      subst hr2
      have hRd : xRdP ev_T0 σ7 0 θ' σ8 := hRd
      have hext : sv_ext h1 42 θ'.1 H.size h2 := hext
      have hB' := xRdP_base ev_B0 hRd
      have t4 : θ'.1 = 46 := hRd.1
      have tn : θ'.2 42 = .inl (5, sx_sX6) := hRd.2.2.1
      have e2 : ∀ i, i < 42 → h2 i = h1 i := hext.1
      have hW2 : sv_W D T (sv_A h (1, sp_sh) s.heap.size) s h2 θ' σ8 H1 locs1 := ⟨hP1, sv_D_ext hD1 (fun k hk => by
        by_cases hk2 : k < 42
        · rw [e2 k hk2]; exact hW.2.1.2 k _ (sv_ws_get (θ := ev_T0) hk2)
        · exact hA _ (Nat.le_trans hW.2.2.1 (hext.2 k (by omega) hk))), hS⟩
      clear hW
      rw [← e2 0 (by omega)] at hl
      rw [← e2 0 (by omega)]
      show W p l e _ s m args below meth c H1 locs1 _ _ _ (F0 m 154 ls [.ref (h2 42), .ref (h2 0)])
      refine sv_goV (σ' := xF9 σ8) (r := ()) hW2 hA (sv_runV (C := RX7) F1 hW2 (k_X7_keepText hB' (xF_keep hRd g2) H1.size) gX7_init_X7_keepText rfl ⟨rfl, rfl⟩ 1 (by decide +kernel) ⟨by show 0 + 1 ≤ 63; omega, by show 8 + (2 + 11) + 0 ≤ 2480; omega⟩ (sx_i 0 hB' (by decide)) (sx_c0 hB') rfl rfl hl.1 rfl (Nat.le_of_ble_eq_true rfl) dX7_init_154 ⟨Nat.le_of_ble_eq_true rfl, Nat.le_of_ble_eq_true rfl⟩) (fun H locs hW => ?_)
      refine lv_aload_n hx hb dX7_init_157 rfl (lv_at hl 1 rfl) ?_
      refine sv_get (own := RX7) (C := RX7) (Tf := TX7) (N := 10) (index := 10) (κ := (3, 1)) (v := .ref (h2 1)) hx hb hts hown hK hW in7 (sx_i 0 hB' (by decide)) (sx_c0 hB') rfl 0 (by decide) rfl rfl (List.mem_of_getElem? (i := 7) rfl) dX7_init_158 ?_
      refine lv_aload_n hx hb dX7_init_161 rfl (lv_at hl 1 rfl) ?_
      refine lv_iconst (v := 0) hx hb dX7_init_162 (by decide) ?_
      refine sv_goQ (σ' := xF9 σ8) (r := some 42) hW hA (sv_runV (C := RX7) F1 hW (k_X7_textAt hB' (xF_at hRd) H.size) gX7_init_X7_textAt rfl ⟨rfl, rfl⟩ 1 (by decide +kernel) ⟨by show 0 + 1 ≤ 63; omega, by show 8 + (2 + 11) + 0 ≤ 2480; omega⟩ (sx_i 0 hB' (by decide)) (sx_c0 hB') rfl rfl hl.1 rfl (Nat.le_of_ble_eq_true rfl) dX7_init_163 ⟨Nat.le_of_ble_eq_true rfl, Nat.le_of_ble_eq_true rfl⟩) (fun H locs hW => ?_)
      refine sv_putP (i := 1) (r := some 42) (own := RX7) (C := RX2) (Tf := TX2) (N := 8) (index := 84) (ks := sx_sX2) hx hb rfl hts hown hK hW in2 tyX2 tyX2_ok nmX2 (sx_i 1 hB' (by decide)) (sx_c1 hB') rfl 7 (by decide) rfl rfl (C2 := "OpenWhileItRains$Text") (by decide +kernel) (List.mem_of_getElem? (i := 29) rfl) dX7_init_166 (fun σz H locs eσ hW => ?_)
      subst eσ
      have h20 : h2 0 = h 0 := by rw [e2 0 (by omega), e1]
      have hall : sv_ext h 1 θ'.1 s.heap.size h2 := sv_new_ge (θ := (1, sp_sh)) hW.2.1 (fun i hi => by
        have hi : i < 1 := hi
        rw [show i = 0 by omega]; exact h20) (by show 1 ≤ θ'.1; omega)
      exact sv_vretG (h2, θ', sv_sP (xF9 σ8) 1 7 (some 42)) ⟨hall, xF_first hRd g2 g3 g4 g5 g6⟩ (fun t ht => ⟨by rw [ht]; exact hW.1, hW.2.1.weaken (fun _ _ _ _ => trivial)⟩) hx hb hr hlk hW dX7_init_169
    | succ r ih =>
      intro n q1 q2 ls H locs hl hW
      refine lv_iload_n hx hb dX7_init_116 rfl (lv_at hl 0 rfl) ?_
      refine va_ldcS (tx := sx_t0) (q := qK 0) hx hb hown F1.2.2.1.2.2.2.2.1.2.1 dX7_init_117 ?_
      refine sv_goI (σ' := xe n) (r := nI 37) hW F.2.2.2.1 (sv_runR (C := "java/lang/String") F1 hW (k_J0_length_8abf5 hB (by decide : 0 < 2) (xe_len (xe n)) H.size) gX7_init_J0_length_8abf5 rfl ⟨rfl, rfl⟩ 0 (by decide +kernel) (sv_room2 (by show _ ≤ 63; omega) (by show _ ≤ 2480; omega)) (vk_recv F1.2.2.1.2.2.2.2.1.1 (by decide : 0 < 2) hW.2.2) rfl hl.1 rfl (Nat.le_of_ble_eq_true rfl) dX7_init_119 ⟨Nat.le_of_ble_eq_true rfl, Nat.le_of_ble_eq_true rfl⟩) (fun H locs hW => ?_)
      refine lv_icmp_ge (tgt := 145) hx hb dX7_init_122 (by decide) (fun q => absurd q (nI_ge (by omega) (by omega))) (fun _ => ?_)
      refine lv_aload_n hx hb dX7_init_125 rfl (lv_at hl 1 rfl) ?_
      refine sv_get (own := RX7) (C := RX7) (Tf := TX7) (N := 10) (index := 22) (κ := (3, 13)) (v := .ref (h1 13)) hx hb hts hown hK hW in7 (sx_i 0 hB (by decide)) (sx_c0 hB) rfl 3 (by decide) rfl rfl (List.mem_of_getElem? (i := 12) rfl) dX7_init_126 ?_
      refine va_ldcS (tx := sx_t0) (q := qK 0) hx hb hown F1.2.2.1.2.2.2.2.1.2.1 dX7_init_129 ?_
      refine lv_iload_n hx hb dX7_init_131 rfl (lv_at hl 0 rfl) ?_
      refine sv_goI (σ' := xe n) (r := nI (ev_by n)) hW F.2.2.2.1 (sv_runR (C := "java/lang/String") F1 hW (k_J0_charAt_5068e hB (by decide : 0 < 2) (xe_chr (by omega) (xe n)) H.size) gX7_init_J0_charAt_5068e rfl ⟨rfl, rfl⟩ 1 (by decide +kernel) (sv_room2 (by show _ ≤ 63; omega) (by show _ ≤ 2480; omega)) (vk_recv F1.2.2.1.2.2.2.2.1.1 (by decide : 0 < 2) hW.2.2) rfl hl.1 rfl (Nat.le_of_ble_eq_true rfl) dX7_init_132 ⟨Nat.le_of_ble_eq_true rfl, Nat.le_of_ble_eq_true rfl⟩) (fun H locs hW => ?_)
      refine sv_goI (σ' := xe (n + 1)) (r := 1) hW F.2.2.2.1 (sv_runV (C := RX4) F1 hW (k_X4_append hB (xe_append (by omega)) H.size) gX7_init_X4_append rfl ⟨rfl, rfl⟩ 1 (by decide +kernel) (sv_room2 (by show _ ≤ 63; omega) (by show _ ≤ 2480; omega)) (sx_i 13 hB (by decide)) (sx_c13 hB) rfl rfl hl.1 rfl (Nat.le_of_ble_eq_true rfl) dX7_init_135 ⟨Nat.le_of_ble_eq_true rfl, Nat.le_of_ble_eq_true rfl⟩) (fun H locs hW => ?_)
      refine lv_pop hx hb dX7_init_138 rfl ?_
      refine lv_iinc (v := nI (n + 1)) (lv' := [(1, .int (nI (n + 1))), (0, .ref (h1 0))]) hx hb dX7_init_139 hl (k := 0) rfl (nI_1 n) (by decide) rfl (fun ls hl => ?_)
      refine lv_goto (tgt := 116) hx hb dX7_init_142 (by decide) ?_
      exact ih (n + 1) (by omega) (by omega) ls H locs hl hW
  refine lv_iconst (v := 0) hx hb dX7_init_114 (by decide) ?_
  refine lv_istore_n (lv' := [(1, .int 0), (0, .ref (h1 0))]) hx hb dX7_init_115 rfl hl (by decide) rfl (fun ls hl => ?_)
  exact run 37 0 rfl (by omega) ls H locs hl hW
end K7

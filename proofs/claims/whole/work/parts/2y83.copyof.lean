/-! ===== a row is copied anew ===== -/
abbrev sv_rmG (f ce sl lo : Nat) : Room := { frames := f, cells := ce, slots := sl, locals := lo }
theorem z_min (N L : Nat) (hN : N < 2147483648) (hL : L < 2147483648) : (if nI N < nI L then nI N else nI L) = nI (min N L) := by
  by_cases h : N < L
  · rw [if_pos (nI_lt h (by omega)), show min N L = N by omega]
  · rw [if_neg (nI_nlt (by omega) (by omega)), show min N L = L by omega]
set_option maxHeartbeats 4000000 in
theorem k_copyOf {qK qV : Nat → Nat} {l : Launch} {D : va_G} {T : Nat → ClassId} {h : Nat → Nat} {θ : sv_T} {σ : sv_S} {a L N : Nat} (hθ : θ.1 ≤ 900) (hL : L ≤ 160) (hN : N ≤ 160) (ha : a < θ.1) (hsh : θ.2 a = .inr (0, L)) (hnew : θ.2 θ.1 = .inr (0, N)) (hn : sv_nw θ σ) (sz : Nat) :
    Met l yJ7_copyOf_59c91 wsJ7_copyOf_59c91 (sv_rmG 1 1 160 30) (va_Pc [.ref (h a), .int (nI N)] (sv_B (sx_X2 qK qV) D T (sx_tys T) h θ σ sz)) (va_Qq (fun r (u : (Nat → Nat) × (Nat → Int32)) => r = some (u.1 θ.1) ∧ sv_ext h θ.1 (θ.1 + 1) sz u.1 ∧ ∀ j, j < N → j < L → u.2 j = σ.1 a j) (fun u t => va_P D vwCl (sv_ws T u.1 (θ.1 + 1, θ.2) (sv_sR σ θ.1 u.2)) t.heap ∧ va_D (fun _ => True) (sv_ws T u.1 (θ.1 + 1, θ.2) (sv_sR σ θ.1 u.2))) (sv_A h θ sz)) 1 160 (sv_A h θ sz) := by
  refine sv_enterG (cc := cJ7_copyOf_59c91) (maxL := 3) (ret := some (.array .int)) (Qc := fun sz => va_Qq (fun r (u : (Nat → Nat) × (Nat → Int32)) => r = some (u.1 θ.1) ∧ sv_ext h θ.1 (θ.1 + 1) sz u.1 ∧ ∀ j, j < N → j < L → u.2 j = σ.1 a j) (fun u t => va_P D vwCl (sv_ws T u.1 (θ.1 + 1, θ.2) (sv_sR σ θ.1 u.2)) t.heap ∧ va_D (fun _ => True) (sv_ws T u.1 (θ.1 + 1, θ.2) (sv_sR σ θ.1 u.2))) (sv_A h θ sz)) sx_XP2 (by decide) rfl (Nat.le_of_ble_eq_true rfl) ?_
  intro p e s m args below meth c F hr hlk hnm ls H hl hW
  have hx := F.1.1
  have hb := F.1.2.1
  have hts := F.1.2.2.2.2
  have hown := F.1.2.2.2.1
  have hK := F.2.1
  have hA := F.2.2.2.1
  obtain ⟨locs, hlocs⟩ : ∃ z : List Loc, z = [] := ⟨_, rfl⟩
  rw [← hlocs] at hW ⊢
  have hl : lv_has ls 3 [(0, .ref (h a)), (1, .int (nI N))] := hl
  have hnI : s.vm.findClass "[I" = some (T 0) := (hK.2 0 (T 0, .int) rfl).2
  refine lv_iload_n hx hb dJ7_copyOf_59c91_0 rfl (lv_at hl 1 rfl) ?_
  refine lv_aload_n hx hb dJ7_copyOf_59c91_1 rfl (lv_at hl 0 rfl) ?_
  refine sv_alen hx hb hK hW ha hsh 0 rfl (v := nI L) rfl dJ7_copyOf_59c91_2 ?_
  refine lv_icmp_ne (tgt := 14) hx hb dJ7_copyOf_59c91_3 (by decide) (fun cne => ?_) (fun ceq => ?_)
  · refine lv_iload_n hx hb dJ7_copyOf_59c91_14 rfl (lv_at hl 1 rfl) ?_
    refine sv_newI hx hb (hts _ (List.mem_of_getElem? (i := 7) rfl)) hK hW hA (L := N) hnew (by omega) hn.1 (fun j => (hn.2 _ (Nat.le_refl _)).1 j) 0 rfl (nI_pos (by omega)) (nI_clamp (by omega)) (by omega) (Nat.le_of_ble_eq_true rfl) (by show 0 + N ≤ 160; omega) dJ7_copyOf_59c91_15 (fun h1 H e1 hW => ?_)
    rw [← e1 a ha] at hl
    have hW : sv_W D T (sv_A h θ s.heap.size) s h1 (θ.1 + 1, θ.2) σ H locs := hW
    refine lv_astore_n (lv' := [(2, .ref (h1 θ.1)), (0, .ref (h1 a)), (1, .int (nI N))]) hx hb dJ7_copyOf_59c91_17 rfl hl (by decide) rfl (fun ls hl => ?_)
    refine lv_aload_n hx hb dJ7_copyOf_59c91_18 rfl (lv_at hl 1 rfl) ?_
    refine lv_iconst (v := 0) hx hb dJ7_copyOf_59c91_19 (by decide) ?_
    refine lv_aload_n hx hb dJ7_copyOf_59c91_20 rfl (lv_at hl 0 rfl) ?_
    refine lv_iconst (v := 0) hx hb dJ7_copyOf_59c91_21 (by decide) ?_
    refine lv_aload_n hx hb dJ7_copyOf_59c91_22 rfl (lv_at hl 1 rfl) ?_
    refine sv_alen hx hb hK hW (a := a) (by show a < θ.1 + 1; omega) hsh 0 rfl (v := nI L) rfl dJ7_copyOf_59c91_23 ?_
    refine lv_iload_n hx hb dJ7_copyOf_59c91_24 rfl (lv_at hl 2 rfl) ?_
    refine va_mmin (own := RJ7) (index := 304) hx hb (F.1.2.2.1.trans hl.1.symm) hown (hts _ (List.mem_of_getElem? (i := 8) rfl)) (hts _ (List.mem_of_getElem? (i := 9) rfl)) (hts _ (List.mem_of_getElem? (i := 10) rfl)) (hts _ (List.mem_of_getElem? (i := 11) rfl)) (Nat.le_of_ble_eq_true rfl) (Nat.le_of_ble_eq_true rfl) (Nat.le_of_ble_eq_true rfl) (by show 0 + N ≤ 160; omega) dJ7_copyOf_59c91_25 ?_
    rw [z_min N L (by omega) (by omega)]
    have hc : sv_cp (0 : Int32) (0 : Int32) (nI (min N L)) L N := by
      refine ⟨by decide, by decide, nI_pos (by omega), ?_, ?_⟩
      · rw [nI_clamp (by omega)]; show 0 + min N L ≤ L; omega
      · rw [nI_clamp (by omega)]; show 0 + min N L ≤ N; omega
    refine sv_copy (own := RJ7) (index := 150) (a := a) (b := θ.1) hx hb (F.1.2.2.1.trans hl.1.symm) hown (hts _ (List.mem_of_getElem? (i := 12) rfl)) (hts _ (List.mem_of_getElem? (i := 13) rfl)) (hts _ (List.mem_of_getElem? (i := 14) rfl)) (hts _ (List.mem_of_getElem? (i := 15) rfl)) hK hW (by show a < θ.1 + 1; omega) hsh (by show θ.1 < θ.1 + 1; omega) hnew 0 rfl hc (Nat.le_of_ble_eq_true rfl) (Nat.le_of_ble_eq_true rfl) dJ7_copyOf_59c91_28 (fun σ1 H locs eσ1 hW => ?_)
    subst eσ1
    refine lv_aload_n hx hb dJ7_copyOf_59c91_31 rfl (lv_at hl 0 rfl) ?_
    refine W.widen (k := 1) (n := 160) (Nat.le_refl _) (by show 0 + N ≤ 160; omega) ?_
    exact sv_aretG (r := some (h1 θ.1)) rfl (h1, va_cpy (σ.1 a) (σ.1 θ.1) (0 : Int32).toNatClampNeg (0 : Int32).toNatClampNeg (nI (min N L)).toNatClampNeg) ⟨rfl, sv_new_ge hW.2.1 (fun i hi => e1 i hi) (by show θ.1 ≤ θ.1 + 1; omega), fun j hj1 hj2 => z_cpy (n := min N L) (nI_clamp (by omega)) (by omega)⟩ (fun t ht => ⟨by rw [ht]; exact hW.1, hW.2.1.weaken (fun _ _ _ _ => trivial)⟩) hx hb hr (Or.inr ⟨_, rfl⟩) hlk hW dJ7_copyOf_59c91_32
  · have eNL : N = L := (nI_eq (by omega) (by omega)).mp ceq
    subst eNL
    refine lv_aload_n hx hb dJ7_copyOf_59c91_6 rfl (lv_at hl 0 rfl) ?_
    refine sv_clnI (own := RJ7) (index := 316) hx hb (F.1.2.2.1.trans hl.1.symm) hown (hts _ (List.mem_of_getElem? (i := 1) rfl)) (hts _ (List.mem_of_getElem? (i := 2) rfl)) (hts _ (List.mem_of_getElem? (i := 3) rfl)) (hts _ (List.mem_of_getElem? (i := 4) rfl)) (hts _ (List.mem_of_getElem? (i := 5) rfl)) F.2.2.1.2.1 hK hW hA ha hsh hnew (by omega) hn.1 0 rfl (Nat.le_of_ble_eq_true rfl) (Nat.le_of_ble_eq_true rfl) (Nat.le_of_ble_eq_true rfl) (by show 0 + N ≤ 160; omega) dJ7_copyOf_59c91_7 (fun h1 H e1 hW => ?_)
    have hW : sv_W D T (sv_A h θ s.heap.size) s h1 (θ.1 + 1, θ.2) (sv_sR σ θ.1 (σ.1 a)) H locs := hW
    refine va_castA (D := D) (own := RJ7) (nm := "[I") (index := 317) hx hb hown (hts _ (List.mem_of_getElem? (i := 6) rfl)) hW.1 θ.1 (sv_aget (by show θ.1 < θ.1 + 1; omega) hnew) hnI dJ7_copyOf_59c91_10 ?_
    refine W.widen (k := 1) (n := 160) (Nat.le_refl _) (by show 0 + N ≤ 160; omega) ?_
    exact sv_aretG (r := some (h1 θ.1)) rfl (h1, σ.1 a) ⟨rfl, sv_new_ge hW.2.1 (fun i hi => e1 i hi) (by show θ.1 ≤ θ.1 + 1; omega), fun j hj1 hj2 => rfl⟩ (fun t ht => ⟨by rw [ht]; exact hW.1, hW.2.1.weaken (fun _ _ _ _ => trivial)⟩) hx hb hr (Or.inr ⟨_, rfl⟩) hlk hW dJ7_copyOf_59c91_13

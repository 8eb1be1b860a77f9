/-! ===== the law: from its entry to its loop ===== -/
theorem la_mem {w : Cond} (k i : Nat) (h : (laAt k)[i]? = some w) : w ∈ wsL_law := laAt_in w (List.mem_of_getElem? h)
section LZW
variable {s : State} {D : va_G} {T : Nat → ClassId} {h : Nat → Nat} {θ : sv_T} {σ : sv_S} {H : Heap} {locs : List Loc}
theorem lz_snoc {q : Nat} {fs : List Value} (hP : va_P D vwCl (sv_ws T h θ σ ++ [(q, .inr (7, fs))]) H) (hD : va_D (lz_A s) (sv_ws T h θ σ ++ [(q, .inr (7, fs))])) (hS : va_S (lz_A s) s.heap H locs) (hfs : sv_vals (fun _ => q) xs0 0 0 pkX8 = fs) : lz_W D T s h θ σ (fun _ => q) (1, sq_sh) xs0 H locs := by
  have hlen : (sv_ws T h θ σ).length = θ.1 := by simp [sv_ws]
  have hl : (sv_ws T h θ σ ++ [(q, (.inr (7, fs) : va_E))])[θ.1]? = some (q, .inr (7, fs)) := by
    rw [List.getElem?_append_right (by omega), hlen]
    simp
  have left : ∀ (k : Nat) (x : Nat × va_E), (sv_ws T h θ σ)[k]? = some x → (sv_ws T h θ σ ++ [(q, (.inr (7, fs) : va_E))])[k]? = some x := fun k x hx => by
    rw [List.getElem?_append_left (List.getElem?_eq_some_iff.mp hx).1]; exact hx
  have em : sv_ws T (fun _ => q) (1, sq_sh) xs0 = [(q, .inr (7, fs))] := by
    show [(q, (Sum.inr (7, sv_vals (fun _ => q) xs0 0 0 pkX8) : va_E))] = _
    rw [hfs]
  refine ⟨⟨fun k x hx => hP k x (left k x hx), ⟨fun i j x y hx hy e => hD.1 i j x y (left i x hx) (left j y hy) e, fun k x hx => hD.2 k x (left k x hx)⟩, hS⟩, ⟨?_, ⟨?_, ?_⟩, hS⟩, fun i j hi hj e => ?_⟩
  · rw [em]
    intro k x hx
    have hk : k = 0 := by
      have := (List.getElem?_eq_some_iff.mp hx).1
      simpa using this
    subst hk
    cases hx
    exact hP θ.1 _ hl
  · rw [em]
    intro i j x y hx hy e
    have h1 := (List.getElem?_eq_some_iff.mp hx).1
    have h2 := (List.getElem?_eq_some_iff.mp hy).1
    simp at h1 h2
    omega
  · rw [em]
    intro k x hx
    have hk : k = 0 := by
      have := (List.getElem?_eq_some_iff.mp hx).1
      simpa using this
    subst hk
    cases hx
    exact hD.2 θ.1 _ hl
  · have := hD.1 i θ.1 _ _ (left i _ (sv_ws_get hi)) hl e
    omega
end LZW
set_option maxHeartbeats 8000000 in
set_option maxRecDepth 100000 in
/-- THE LAW, from its entry -/
theorem whole_start {p : Program} {e : Env} {s : State} {m : MethodId} {below : List Frame} {meth : Method} {c : Code} (l : Launch) (hflags : l.flags = flags0) {b L : Nat} {xs : Nat → Int32} (hL : L ≤ 3072) (C0 : lw_At p s m meth c b L xs) : W p l e room_1 s m #[Value.ref b] below meth c s.heap [] 0 0 (lw_Z below #[Value.ref b] s) (entryFrame m ([Value.ref b] : List Value).toArray 4) := by
  obtain ⟨hx, hb, hr, hml, hown, hts, hX, hbl, hlocks, hgv⟩ := id C0
  obtain ⟨D, T, hKx, hKm⟩ := lz_K0 hts
  obtain ⟨qK, qV, hXX⟩ := lz_X0 hts hgv
  have hts' : ∀ w ∈ wsL_law, w.before #[Value.ref b] s = true := fun w hw => hts w (wsL_law_in w hw)
  have C : lz_C p s m c b L xs qK qV D T := ⟨⟨⟨hx, hb, hml, hown, hts'⟩, hKx, hXX, fun q h => h, sx_XP2⟩, ⟨⟨hx, hb, hml, hown, hts'⟩, hKm, trivial, fun q h => h, sm_XP⟩, hX, hbl⟩
  have in7 : ∀ w ∈ u_ws RX7 TX7 10, w ∈ wsL_law := fun w h => laPc_in wsX70 (List.mem_of_getElem? (i := 43) rfl) w h
  have in8 : ∀ w ∈ u_ws RX8 TX8 44, w ∈ wsL_law := fun w h => laPc_in wsX80 (List.mem_of_getElem? (i := 44) rfl) w h
  have hl := lv_entry ([.ref b]) (n := 4) (Nat.le_of_ble_eq_true rfl)
  rw [lg_entry_eq]
  generalize (lg_sl ([.ref b]) ++ List.replicate (4 - (lg_sl ([.ref b])).length) Slot.unset).toArray = ls at hl ⊢
  have hl : lv_has ls 4 [(0, .ref b)] := hl
  have hW : sv_W D T (lz_A s) s (fun _ => 0) (0, sp_sh) xs0 s.heap [] := ⟨fun k q h => by simp [sv_ws] at h, ⟨fun i j p q h => by simp [sv_ws] at h, fun k q h => by simp [sv_ws] at h⟩, va_S.rf⟩
  have hn : sv_nw (0, sp_sh) xs0 := ⟨fun i hi => absurd hi (Nat.not_lt_zero i), fun i hi => ⟨fun _ => rfl, fun _ => rfl, fun _ => rfl⟩⟩
  refine sv_newO (own := RL) (C := RX7) (Tf := TX7) (N := 10) (ci := 6) (ks := pkX7) (fs := [.null, .null, .int 0, .null, .null, .int 0, .null, .null, .null, .null]) hx hb hts' in7 tyX7 tyX7_ok hown (hts' _ (la_mem 0 0 rfl)) (hts' _ (la_mem 0 1 rfl)) (hts' _ (la_mem 0 2 rfl)) hKx hW (fun q h => h) rfl rfl (by show 0 < 1000; omega) hn.1 (fun j hj => by revert j; decide) (fun h' => rfl) (Nat.le_of_ble_eq_true rfl) (Nat.le_of_ble_eq_true rfl) dL_law_0 (fun h1 H e1 hW => ?_)
  have hW : sv_W D T (lz_A s) s h1 (1, sp_sh) xs0 H [] := hW
  have hn1 : sv_nw (1, sp_sh) xs0 := sv_nw_O hn (c := 6) (ks := pkX7) rfl (by decide)
  refine lv_dup hx hb dL_law_3 rfl ?_
  refine va_callv (sv_runIG (i := 0) (own := RL) C.1 hW (k_X7_init hn1 H.size) gL_law_X7_init rfl ⟨rfl, rfl⟩ 0 (la_mem 0 2 rfl) (la_mem 0 6 rfl) (la_mem 0 7 rfl) rfl (by decide +kernel) ⟨Nat.le_of_ble_eq_true rfl, Nat.le_of_ble_eq_true rfl⟩ rfl hl.1 rfl (Nat.le_of_ble_eq_true rfl) dL_law_4 ⟨Nat.le_of_ble_eq_true rfl, Nat.le_of_ble_eq_true rfl⟩) hW.2.2 (fun q _ hq => sv_freeA (fun _ h => h) hW q hq) (sv_freeA (fun _ h => h) hW) (fun u t H1 locs1 ht hvm hw hB2 hz1 hk1 hS => ?_)
  obtain ⟨h2, θ1, σ1⟩ := u
  obtain ⟨hext, hF⟩ := hw
  obtain ⟨hP1, hD1⟩ := hB2
  rw [ht] at hP1
  have hext : sv_ext h1 1 θ1.1 H.size h2 := hext
  have hF : xFirst θ1 σ1 := hF
  have h20 : h2 0 = h1 0 := hext.1 0 (by omega)
  have hW2 : sv_W D T (lz_A s) s h2 θ1 σ1 H1 locs1 := ⟨hP1, sv_D_ext hD1 (fun k hk => by
    by_cases hk2 : k < 1
    · rw [hext.1 k hk2]; exact hW.2.1.2 k _ (sv_ws_get (θ := (1, sp_sh)) hk2)
    · exact Nat.le_trans hW.2.2.1 (hext.2 k (by omega) hk)), hS⟩
  clear hW
  rw [← h20]
  show W p l e _ s m _ below meth c H1 locs1 _ _ _ (F0 m 7 ls [.ref (h2 0)])
  refine lv_astore_n (lv' := [(1, .ref (h2 0)), (0, .ref b)]) hx hb dL_law_7 rfl hl (by decide) rfl (fun ls hl => ?_)
  refine va_new (D := D) (C := RX8) (T := TX8) (N := 44) (ci := 7) (fs := sv_vals (fun _ => 0) xs0 0 0 pkX8) hx hb hts' in8 tyX8 tyX8_ok hown (hts' _ (la_mem 0 3 rfl)) (hts' _ (la_mem 0 4 rfl)) (hts' _ (la_mem 0 5 rfl)) hKx hW2.1 hW2.2.1 hW2.2.2 (fun q h => h) rfl (fun j hj => by revert j; decide) (Nat.le_of_ble_eq_true rfl) (Nat.le_of_ble_eq_true rfl) dL_law_8 (fun q H2 hP hD hS => ?_)
  have hL2 := lz_snoc hP hD hS rfl
  have hn8 : sv_nw (1, sq_sh) xs0 := sv_nw_O (θ := (0, sq_sh)) ⟨fun i hi => absurd hi (Nat.not_lt_zero i), fun i hi => ⟨fun _ => rfl, fun _ => rfl, fun _ => rfl⟩⟩ (c := 7) (ks := pkX8) rfl (by decide)
  refine lv_dup hx hb dL_law_11 rfl ?_
  refine va_callv (sv_runIG (mc := 13) (ms := 1484) (rm := sv_rmG 2 13 1484 60) (i := 0) (own := RL) (h := fun _ => q) C.2.1 hL2.2.1 (k_X8_init (h := fun _ => q) hn8 H2.size) gL_law_X8_init rfl ⟨rfl, rfl⟩ 0 (la_mem 0 5 rfl) (la_mem 10 21 rfl) (la_mem 10 22 rfl) rfl (by decide +kernel) ⟨Nat.le_of_ble_eq_true rfl, Nat.le_of_ble_eq_true rfl⟩ rfl hl.1 rfl (Nat.le_of_ble_eq_true rfl) dL_law_12 ⟨Nat.le_of_ble_eq_true rfl, Nat.le_of_ble_eq_true rfl⟩) hL2.2.1.2.2 (fun q _ hq => sv_freeA (fun _ h => h) hL2.2.1 q hq) (sv_freeA (fun _ h => h) hL2.2.1) (fun h3 t H3 locs3 ht hvm hw hB3 hz3 hk3 hS3 => ?_)
  obtain ⟨hP3, hD3⟩ := hB3
  rw [ht] at hP3
  have hw : sv_ext (fun _ => q) 1 14 H2.size h3 := hw
  have hL3 := lz_sw (lz_grow (θ' := em_T0) (lz_sw hL2) hw hP3 hD3 hk3 hS3)
  have h30 : h3 0 = q := hw.1 0 (by omega)
  rw [← h30]
  show W p l e _ s m _ below meth c H3 locs3 _ _ _ (F0 m 15 ls [.ref (h3 0)])
  refine lv_astore_n (lv' := [(2, .ref (h3 0)), (1, .ref (h2 0)), (0, .ref b)]) hx hb dL_law_15 rfl hl (by decide) rfl (fun ls hl => ?_)
  refine lv_iconst (v := 0) hx hb dL_law_16 (by decide) ?_
  refine lv_istore_n (lv' := [(3, .int (nI (6 * 0))), (2, .ref (h3 0)), (1, .ref (h2 0)), (0, .ref b)]) hx hb dL_law_17 rfl hl (by decide) rfl (fun ls hl => ?_)
  refine W.widen (k := 100 + 4 * 0) (n := 8000 + 484 * 0) (Nat.le_of_ble_eq_true rfl) (Nat.le_of_ble_eq_true rfl) ?_
  exact lz_loop C hL hr hlocks L 0 (by omega) (by omega) h2 θ1 σ1 yu 1 (fun _ => f0) D00 ls H3 locs3 (lv_sub hl [0, 3, 2, 1] rfl) hL3 (zRel_first hF)

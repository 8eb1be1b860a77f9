/-! ===== constructors: leaves ===== -/
abbrev pkX0 : List sv_K := [(2, 0), (0, 0), (2, 0), (0, 0)]
abbrev pkX2 : List sv_K := [(2, 0), (2, 0), (2, 0), (2, 0), (2, 0), (0, 0), (0, 0), (2, 0)]
abbrev pkX3 : List sv_K := [(2, 0), (2, 0), (2, 0), (0, 0), (0, 0), (0, 0), (0, 0), (2, 0), (2, 0), (2, 0), (2, 0), (0, 0), (0, 0), (0, 0), (0, 0), (0, 0), (0, 0)]
abbrev pkX4 : List sv_K := [(0, 0), (0, 0), (2, 0), (2, 0), (2, 0), (2, 0), (0, 0), (0, 0), (2, 0), (2, 0), (0, 0)]
abbrev pkX5 : List sv_K := [(2, 0), (0, 0), (0, 0)]
abbrev pkX6 : List sv_K := [(0, 0), (2, 0), (2, 0), (2, 0)]
abbrev pkX7 : List sv_K := [(2, 0), (2, 0), (0, 0), (2, 0), (2, 0), (0, 0), (2, 0), (2, 0), (2, 0), (2, 0)]
abbrev pkX8 : List sv_K := [(0, 0), (2, 0), (2, 0), (0, 0), (0, 0), (2, 0), (0, 0), (0, 0), (2, 0), (2, 0), (2, 0), (0, 0), (0, 0), (0, 0), (0, 0), (0, 0), (0, 0), (0, 0), (0, 0), (0, 0), (0, 0), (0, 0), (0, 0), (1, 0), (0, 0), (0, 0), (0, 0), (0, 0), (0, 0), (0, 0), (0, 0), (0, 0), (0, 0), (0, 0), (2, 0), (2, 0), (2, 0), (0, 0), (0, 0), (0, 0), (2, 0), (2, 0), (2, 0), (2, 0)]
/-- beyond the cells all is blank -/
def sv_nw (θ : sv_T) (σ : sv_S) : Prop := sv_cl θ σ ∧ ∀ i, θ.1 ≤ i → (∀ j, σ.1 i j = 0) ∧ (∀ j, σ.2.1 i j = 0) ∧ ∀ j, σ.2.2 i j = none
theorem sv_nw_A {θ : sv_T} {σ : sv_S} {x : Nat × Nat} (h : sv_nw θ σ) (hs : θ.2 θ.1 = .inr x) : sv_nw (θ.1 + 1, θ.2) σ := by
  refine ⟨fun i hi => ?_, fun i hi => h.2 i (by have : θ.1 + 1 ≤ i := hi; omega)⟩
  have hi' : i < θ.1 + 1 := hi
  by_cases e : i = θ.1
  · subst e
    refine ⟨fun j t q => (by rw [(h.2 θ.1 (Nat.le_refl _)).2.2 j] at q; cases q), fun c ks q => ?_⟩
    have q' : θ.2 θ.1 = .inl (c, ks) := q
    rw [hs] at q'; cases q'
  · obtain ⟨a, b⟩ := h.1 i (by omega)
    exact ⟨fun j t q => (a j t q).imp Nat.lt_succ_of_lt id, fun c ks q k κ q1 q2 => Nat.lt_succ_of_lt (b c ks q k κ q1 q2)⟩
theorem sv_nw_O {θ : sv_T} {σ : sv_S} {c : Nat} {ks : List sv_K} (h : sv_nw θ σ) (hs : θ.2 θ.1 = .inl (c, ks)) (hk : ∀ κ ∈ ks, κ.1 < 3) : sv_nw (θ.1 + 1, θ.2) σ := by
  refine ⟨fun i hi => ?_, fun i hi => h.2 i (by have : θ.1 + 1 ≤ i := hi; omega)⟩
  have hi' : i < θ.1 + 1 := hi
  by_cases e : i = θ.1
  · subst e
    refine ⟨fun j t q => (by rw [(h.2 θ.1 (Nat.le_refl _)).2.2 j] at q; cases q), fun c' ks' q k κ q1 q2 => ?_⟩
    have q' : θ.2 θ.1 = .inl (c', ks') := q
    rw [hs] at q'; cases q'
    have := hk κ (List.mem_of_getElem? q1)
    omega
  · obtain ⟨a, b⟩ := h.1 i (by omega)
    exact ⟨fun j t q => (a j t q).imp Nat.lt_succ_of_lt id, fun c ks q k κ q1 q2 => Nat.lt_succ_of_lt (b c ks q k κ q1 q2)⟩
theorem sv_nw_P {θ : sv_T} {σ : sv_S} {i k j : Nat} (h : sv_nw θ σ) (hi : i < θ.1) (hj : j < θ.1) : sv_nw θ (sv_sP σ i k (some j)) := by
  refine ⟨fun a ha => ⟨fun b t q => ?_, (h.1 a ha).2⟩, fun a ha => ⟨(h.2 a ha).1, (h.2 a ha).2.1, fun b => ?_⟩⟩
  · simp only [sv_sP, sv_u] at q
    split at q
    · split at q
      · cases q; exact Or.inl hj
      · exact (h.1 a ha).1 b t q
    · exact (h.1 a ha).1 b t q
  · have : a ≠ i := by omega
    simp only [sv_sP, sv_u]
    rw [if_neg this]
    exact (h.2 a ha).2.2 b
theorem sv_nw_I {θ : sv_T} {σ : sv_S} {i k : Nat} {v : Int32} (h : sv_nw θ σ) (hi : i < θ.1) : sv_nw θ (sv_sI σ i k v) := by
  refine ⟨h.1, fun a ha => ⟨fun b => ?_, (h.2 a ha).2.1, (h.2 a ha).2.2⟩⟩
  have : a ≠ i := by omega
  simp only [sv_sI, sv_u]
  rw [if_neg this]
  exact (h.2 a ha).1 b
def xp_X0 (σ : sv_S) (kc n : Nat) : sv_S := sv_sP (σ) kc 0 (some n)
theorem nw_X0_init {θ : sv_T} {σ : sv_S} {kc : Nat} (hk : kc < θ.1) (g0 : θ.2 θ.1 = .inr (0, 6)) (hn : sv_nw θ σ) : sv_nw (θ.1 + 1, θ.2) (xp_X0 σ kc θ.1) := by
  have hn := sv_nw_A hn g0
  have hn := sv_nw_P (i := kc) (k := 0) (j := θ.1) hn (by show kc < θ.1 + 1; omega) (by show θ.1 < θ.1 + 1; omega)
  exact hn
set_option maxHeartbeats 4000000 in
theorem k_X0_init {X : sv_X} (hXp : sv_XP X) {l : Launch} {D : va_G} {T : Nat → ClassId} {h : Nat → Nat} {θ : sv_T} {σ : sv_S} {kc : Nat} (hθ : θ.1 ≤ 900) (hk : kc < θ.1) (hsh : θ.2 kc = .inl (0, pkX0)) (g0 : θ.2 θ.1 = .inr (0, 6)) (hn : sv_nw θ σ) : sv_MvG X l D T (sx_tys T) h θ yX0_init wsX0_init { frames := 1, cells := 1, slots := 6, locals := 12 } [.ref (h kc)] σ (θ.1 + 1) (xp_X0 σ kc θ.1) 1 6 := by
  intro sz
  refine sv_enterG (cc := cX0_init) (maxL := 1) (ret := none) (Qc := fun sz => va_Qv (fun h' : Nat → Nat => sv_ext h θ.1 (θ.1 + 1) sz h') (fun h' t => va_P D vwCl (sv_ws T h' (θ.1 + 1, θ.2) (xp_X0 σ kc θ.1)) t.heap ∧ va_D (fun _ => True) (sv_ws T h' (θ.1 + 1, θ.2) (xp_X0 σ kc θ.1))) (sv_A h θ sz)) hXp (by decide) rfl (Nat.le_of_ble_eq_true rfl) ?_
  intro p e s m args below meth c F hr hlk hnm ls H hl hW
  have hx := F.1.1
  have hb := F.1.2.1
  have hts := F.1.2.2.2.2
  have hown := F.1.2.2.2.1
  have hml := F.1.2.2.1
  have hK := F.2.1
  have hA := F.2.2.2.1
  have hin : meth.name = "<init>" := hnm
  obtain ⟨locs, hlocs⟩ : ∃ z : List Loc, z = [] := ⟨_, rfl⟩
  rw [← hlocs] at hW ⊢
  have hl : lv_has ls 1 [(0, .ref (h kc))] := hl
  refine lv_aload_n hx hb dX0_init_0 rfl (lv_at hl 0 rfl) ?_
  refine W.objInit hx hb hown (hts (.methodLink RX0 3 objectInit) (by decide +kernel)) (hts (.instanceMethod objectInit) (by decide +kernel)) (hts _ (List.mem_of_getElem? (i := 3) rfl)) rfl (by rw [hml]; exact hl.1) rfl dX0_init_1 (Nat.le_of_ble_eq_true rfl) (Nat.le_of_ble_eq_true rfl) ?_
  refine W.eq (g2 := F0 m 4 ls []) rfl ?_
  refine lv_aload_n hx hb dX0_init_4 rfl (lv_at hl 0 rfl) ?_
  refine lv_bipush (v := 6) hx hb dX0_init_5 (by decide) ?_
  refine sv_newI hx hb (hts _ (List.mem_of_getElem? (i := 4) rfl)) hK hW hA (L := 6) g0 (by show θ.1 < 1000; omega) hn.1 (fun j => (hn.2 _ (Nat.le_refl _)).1 j) 0 rfl (by decide) (by decide) (by decide) (Nat.le_of_ble_eq_true rfl) (Nat.le_of_ble_eq_true rfl) dX0_init_7 (fun h1 H e1 hW => ?_)
  rw [← e1 kc (by show kc < θ.1; omega)] at hl
  rw [← e1 kc (by show kc < θ.1; omega)]
  have hW : sv_W D T (sv_A h θ s.heap.size) s h1 ((θ.1 + 1), θ.2) (σ) H locs := hW
  have hn := sv_nw_A hn g0
  refine sv_putFP (j := θ.1) (i := kc) (own := RX0) (C := RX0) (Tf := TX0) (N := 4) (index := 9) (ks := pkX0) hx hb hts hown hK hW (fun _ h => List.mem_cons_of_mem _ (List.mem_append_right _ h)) tyX0 tyX0_ok nmX0 (by show kc < (θ.1 + 1); omega) hsh rfl 0 (by decide) rfl rfl hin rfl (ty := .array .int) (by decide +kernel) (fun _ => rfl) (fun _ => rfl) (List.mem_of_getElem? (i := 5) rfl) dX0_init_9 (fun H locs hW => ?_)
  have hn := sv_nw_P (k := 0) hn (by show kc < (θ.1 + 1); omega) (by show θ.1 < (θ.1 + 1); omega)
  exact sv_vretG h1 (sv_new_ge hW.2.1 (fun i hi => by rw [e1 i hi]) (by show θ.1 ≤ θ.1 + 1; omega)) (fun t ht => ⟨by rw [ht]; exact hW.1, hW.2.1.weaken (fun _ _ _ _ => trivial)⟩) hx hb hr hlk hW dX0_init_12
def xp_X2 (σ : sv_S) (kc n : Nat) : sv_S := sv_sP (sv_sP (sv_sP (sv_sP (sv_sP (σ) kc 0 (some n)) kc 1 (some (n + 1))) kc 2 (some (n + 2))) kc 3 (some (n + 3))) kc 4 (some (n + 4))
theorem nw_X2_init {θ : sv_T} {σ : sv_S} {kc : Nat} (hk : kc < θ.1) (g0 : θ.2 θ.1 = .inr (0, 48)) (g1 : θ.2 (θ.1 + 1) = .inr (0, 6)) (g2 : θ.2 (θ.1 + 2) = .inr (0, 6)) (g3 : θ.2 (θ.1 + 3) = .inr (0, 6)) (g4 : θ.2 (θ.1 + 4) = .inr (0, 6)) (hn : sv_nw θ σ) : sv_nw (θ.1 + 5, θ.2) (xp_X2 σ kc θ.1) := by
  have hn := sv_nw_A hn g0
  have hn := sv_nw_P (i := kc) (k := 0) (j := θ.1) hn (by show kc < θ.1 + 1; omega) (by show θ.1 < θ.1 + 1; omega)
  have hn := sv_nw_A hn g1
  have hn := sv_nw_P (i := kc) (k := 1) (j := θ.1 + 1) hn (by show kc < θ.1 + 2; omega) (by show θ.1 + 1 < θ.1 + 2; omega)
  have hn := sv_nw_A hn g2
  have hn := sv_nw_P (i := kc) (k := 2) (j := θ.1 + 2) hn (by show kc < θ.1 + 3; omega) (by show θ.1 + 2 < θ.1 + 3; omega)
  have hn := sv_nw_A hn g3
  have hn := sv_nw_P (i := kc) (k := 3) (j := θ.1 + 3) hn (by show kc < θ.1 + 4; omega) (by show θ.1 + 3 < θ.1 + 4; omega)
  have hn := sv_nw_A hn g4
  have hn := sv_nw_P (i := kc) (k := 4) (j := θ.1 + 4) hn (by show kc < θ.1 + 5; omega) (by show θ.1 + 4 < θ.1 + 5; omega)
  exact hn
set_option maxHeartbeats 4000000 in
theorem k_X2_init {X : sv_X} (hXp : sv_XP X) {l : Launch} {D : va_G} {T : Nat → ClassId} {h : Nat → Nat} {θ : sv_T} {σ : sv_S} {kc : Nat} (hθ : θ.1 ≤ 900) (hk : kc < θ.1) (hsh : θ.2 kc = .inl (1, pkX2)) (g0 : θ.2 θ.1 = .inr (0, 48)) (g1 : θ.2 (θ.1 + 1) = .inr (0, 6)) (g2 : θ.2 (θ.1 + 2) = .inr (0, 6)) (g3 : θ.2 (θ.1 + 3) = .inr (0, 6)) (g4 : θ.2 (θ.1 + 4) = .inr (0, 6)) (hn : sv_nw θ σ) : sv_MvG X l D T (sx_tys T) h θ yX2_init wsX2_init { frames := 1, cells := 5, slots := 72, locals := 12 } [.ref (h kc)] σ (θ.1 + 5) (xp_X2 σ kc θ.1) 5 72 := by
  intro sz
  refine sv_enterG (cc := cX2_init) (maxL := 1) (ret := none) (Qc := fun sz => va_Qv (fun h' : Nat → Nat => sv_ext h θ.1 (θ.1 + 5) sz h') (fun h' t => va_P D vwCl (sv_ws T h' (θ.1 + 5, θ.2) (xp_X2 σ kc θ.1)) t.heap ∧ va_D (fun _ => True) (sv_ws T h' (θ.1 + 5, θ.2) (xp_X2 σ kc θ.1))) (sv_A h θ sz)) hXp (by decide) rfl (Nat.le_of_ble_eq_true rfl) ?_
  intro p e s m args below meth c F hr hlk hnm ls H hl hW
  have hx := F.1.1
  have hb := F.1.2.1
  have hts := F.1.2.2.2.2
  have hown := F.1.2.2.2.1
  have hml := F.1.2.2.1
  have hK := F.2.1
  have hA := F.2.2.2.1
  have hin : meth.name = "<init>" := hnm
  obtain ⟨locs, hlocs⟩ : ∃ z : List Loc, z = [] := ⟨_, rfl⟩
  rw [← hlocs] at hW ⊢
  have hl : lv_has ls 1 [(0, .ref (h kc))] := hl
  refine lv_aload_n hx hb dX2_init_0 rfl (lv_at hl 0 rfl) ?_
  refine W.objInit hx hb hown (hts (.methodLink RX2 3 objectInit) (by decide +kernel)) (hts (.instanceMethod objectInit) (by decide +kernel)) (hts _ (List.mem_of_getElem? (i := 3) rfl)) rfl (by rw [hml]; exact hl.1) rfl dX2_init_1 (Nat.le_of_ble_eq_true rfl) (Nat.le_of_ble_eq_true rfl) ?_
  refine W.eq (g2 := F0 m 4 ls []) rfl ?_
  refine lv_aload_n hx hb dX2_init_4 rfl (lv_at hl 0 rfl) ?_
  refine lv_bipush (v := 48) hx hb dX2_init_5 (by decide) ?_
  refine sv_newI hx hb (hts _ (List.mem_of_getElem? (i := 4) rfl)) hK hW hA (L := 48) g0 (by show θ.1 < 1000; omega) hn.1 (fun j => (hn.2 _ (Nat.le_refl _)).1 j) 0 rfl (by decide) (by decide) (by decide) (Nat.le_of_ble_eq_true rfl) (Nat.le_of_ble_eq_true rfl) dX2_init_7 (fun h1 H e1 hW => ?_)
  rw [← e1 kc (by show kc < θ.1; omega)] at hl
  rw [← e1 kc (by show kc < θ.1; omega)]
  have hW : sv_W D T (sv_A h θ s.heap.size) s h1 ((θ.1 + 1), θ.2) (σ) H locs := hW
  have hn := sv_nw_A hn g0
  refine sv_putFP (j := θ.1) (i := kc) (own := RX2) (C := RX2) (Tf := TX2) (N := 8) (index := 9) (ks := pkX2) hx hb hts hown hK hW (fun _ h => List.mem_cons_of_mem _ (List.mem_append_right _ h)) tyX2 tyX2_ok nmX2 (by show kc < (θ.1 + 1); omega) hsh rfl 0 (by decide) rfl rfl hin rfl (ty := .array .int) (by decide +kernel) (fun _ => rfl) (fun _ => rfl) (List.mem_of_getElem? (i := 5) rfl) dX2_init_9 (fun H locs hW => ?_)
  have hn := sv_nw_P (k := 0) hn (by show kc < (θ.1 + 1); omega) (by show θ.1 < (θ.1 + 1); omega)
  refine lv_aload_n hx hb dX2_init_12 rfl (lv_at hl 0 rfl) ?_
  refine lv_bipush (v := 6) hx hb dX2_init_13 (by decide) ?_
  refine sv_newI hx hb (hts _ (List.mem_of_getElem? (i := 4) rfl)) hK hW hA (L := 6) g1 (by show (θ.1 + 1) < 1000; omega) hn.1 (fun j => (hn.2 _ (Nat.le_refl _)).1 j) 0 rfl (by decide) (by decide) (by decide) (Nat.le_of_ble_eq_true rfl) (Nat.le_of_ble_eq_true rfl) dX2_init_15 (fun h2 H e2 hW => ?_)
  rw [← e2 kc (by show kc < (θ.1 + 1); omega)] at hl
  rw [← e2 kc (by show kc < (θ.1 + 1); omega)]
  have hW : sv_W D T (sv_A h θ s.heap.size) s h2 ((θ.1 + 2), θ.2) (sv_sP (σ) kc 0 (some θ.1)) H locs := hW
  have hn := sv_nw_A hn g1
  refine sv_putFP (j := (θ.1 + 1)) (i := kc) (own := RX2) (C := RX2) (Tf := TX2) (N := 8) (index := 15) (ks := pkX2) hx hb hts hown hK hW (fun _ h => List.mem_cons_of_mem _ (List.mem_append_right _ h)) tyX2 tyX2_ok nmX2 (by show kc < (θ.1 + 2); omega) hsh rfl 1 (by decide) rfl rfl hin rfl (ty := .array .int) (by decide +kernel) (fun _ => rfl) (fun _ => rfl) (List.mem_of_getElem? (i := 6) rfl) dX2_init_17 (fun H locs hW => ?_)
  have hn := sv_nw_P (k := 1) hn (by show kc < (θ.1 + 2); omega) (by show (θ.1 + 1) < (θ.1 + 2); omega)
  refine lv_aload_n hx hb dX2_init_20 rfl (lv_at hl 0 rfl) ?_
  refine lv_bipush (v := 6) hx hb dX2_init_21 (by decide) ?_
  refine sv_newI hx hb (hts _ (List.mem_of_getElem? (i := 4) rfl)) hK hW hA (L := 6) g2 (by show (θ.1 + 2) < 1000; omega) hn.1 (fun j => (hn.2 _ (Nat.le_refl _)).1 j) 0 rfl (by decide) (by decide) (by decide) (Nat.le_of_ble_eq_true rfl) (Nat.le_of_ble_eq_true rfl) dX2_init_23 (fun h3 H e3 hW => ?_)
  rw [← e3 kc (by show kc < (θ.1 + 2); omega)] at hl
  rw [← e3 kc (by show kc < (θ.1 + 2); omega)]
  have hW : sv_W D T (sv_A h θ s.heap.size) s h3 ((θ.1 + 3), θ.2) (sv_sP (sv_sP (σ) kc 0 (some θ.1)) kc 1 (some (θ.1 + 1))) H locs := hW
  have hn := sv_nw_A hn g2
  refine sv_putFP (j := (θ.1 + 2)) (i := kc) (own := RX2) (C := RX2) (Tf := TX2) (N := 8) (index := 18) (ks := pkX2) hx hb hts hown hK hW (fun _ h => List.mem_cons_of_mem _ (List.mem_append_right _ h)) tyX2 tyX2_ok nmX2 (by show kc < (θ.1 + 3); omega) hsh rfl 2 (by decide) rfl rfl hin rfl (ty := .array .int) (by decide +kernel) (fun _ => rfl) (fun _ => rfl) (List.mem_of_getElem? (i := 7) rfl) dX2_init_25 (fun H locs hW => ?_)
  have hn := sv_nw_P (k := 2) hn (by show kc < (θ.1 + 3); omega) (by show (θ.1 + 2) < (θ.1 + 3); omega)
  refine lv_aload_n hx hb dX2_init_28 rfl (lv_at hl 0 rfl) ?_
  refine lv_bipush (v := 6) hx hb dX2_init_29 (by decide) ?_
  refine sv_newI hx hb (hts _ (List.mem_of_getElem? (i := 4) rfl)) hK hW hA (L := 6) g3 (by show (θ.1 + 3) < 1000; omega) hn.1 (fun j => (hn.2 _ (Nat.le_refl _)).1 j) 0 rfl (by decide) (by decide) (by decide) (Nat.le_of_ble_eq_true rfl) (Nat.le_of_ble_eq_true rfl) dX2_init_31 (fun h4 H e4 hW => ?_)
  rw [← e4 kc (by show kc < (θ.1 + 3); omega)] at hl
  rw [← e4 kc (by show kc < (θ.1 + 3); omega)]
  have hW : sv_W D T (sv_A h θ s.heap.size) s h4 ((θ.1 + 4), θ.2) (sv_sP (sv_sP (sv_sP (σ) kc 0 (some θ.1)) kc 1 (some (θ.1 + 1))) kc 2 (some (θ.1 + 2))) H locs := hW
  have hn := sv_nw_A hn g3
  refine sv_putFP (j := (θ.1 + 3)) (i := kc) (own := RX2) (C := RX2) (Tf := TX2) (N := 8) (index := 21) (ks := pkX2) hx hb hts hown hK hW (fun _ h => List.mem_cons_of_mem _ (List.mem_append_right _ h)) tyX2 tyX2_ok nmX2 (by show kc < (θ.1 + 4); omega) hsh rfl 3 (by decide) rfl rfl hin rfl (ty := .array .int) (by decide +kernel) (fun _ => rfl) (fun _ => rfl) (List.mem_of_getElem? (i := 8) rfl) dX2_init_33 (fun H locs hW => ?_)
  have hn := sv_nw_P (k := 3) hn (by show kc < (θ.1 + 4); omega) (by show (θ.1 + 3) < (θ.1 + 4); omega)
  refine lv_aload_n hx hb dX2_init_36 rfl (lv_at hl 0 rfl) ?_
  refine lv_bipush (v := 6) hx hb dX2_init_37 (by decide) ?_
  refine sv_newI hx hb (hts _ (List.mem_of_getElem? (i := 4) rfl)) hK hW hA (L := 6) g4 (by show (θ.1 + 4) < 1000; omega) hn.1 (fun j => (hn.2 _ (Nat.le_refl _)).1 j) 0 rfl (by decide) (by decide) (by decide) (Nat.le_of_ble_eq_true rfl) (Nat.le_of_ble_eq_true rfl) dX2_init_39 (fun h5 H e5 hW => ?_)
  rw [← e5 kc (by show kc < (θ.1 + 4); omega)] at hl
  rw [← e5 kc (by show kc < (θ.1 + 4); omega)]
  have hW : sv_W D T (sv_A h θ s.heap.size) s h5 ((θ.1 + 5), θ.2) (sv_sP (sv_sP (sv_sP (sv_sP (σ) kc 0 (some θ.1)) kc 1 (some (θ.1 + 1))) kc 2 (some (θ.1 + 2))) kc 3 (some (θ.1 + 3))) H locs := hW
  have hn := sv_nw_A hn g4
  refine sv_putFP (j := (θ.1 + 4)) (i := kc) (own := RX2) (C := RX2) (Tf := TX2) (N := 8) (index := 24) (ks := pkX2) hx hb hts hown hK hW (fun _ h => List.mem_cons_of_mem _ (List.mem_append_right _ h)) tyX2 tyX2_ok nmX2 (by show kc < (θ.1 + 5); omega) hsh rfl 4 (by decide) rfl rfl hin rfl (ty := .array .int) (by decide +kernel) (fun _ => rfl) (fun _ => rfl) (List.mem_of_getElem? (i := 9) rfl) dX2_init_41 (fun H locs hW => ?_)
  have hn := sv_nw_P (k := 4) hn (by show kc < (θ.1 + 5); omega) (by show (θ.1 + 4) < (θ.1 + 5); omega)
  exact sv_vretG h5 (sv_new_ge hW.2.1 (fun i hi => by rw [e5 i (by show i < θ.1 + 4; omega), e4 i (by show i < θ.1 + 3; omega), e3 i (by show i < θ.1 + 2; omega), e2 i (by show i < θ.1 + 1; omega), e1 i hi]) (by show θ.1 ≤ θ.1 + 5; omega)) (fun t ht => ⟨by rw [ht]; exact hW.1, hW.2.1.weaken (fun _ _ _ _ => trivial)⟩) hx hb hr hlk hW dX2_init_44
def xp_X4 (σ : sv_S) (kc n : Nat) : sv_S := sv_sP (sv_sP (sv_sP (sv_sP (sv_sP (sv_sP (σ) kc 2 (some n)) kc 3 (some (n + 1))) kc 4 (some (n + 2))) kc 5 (some (n + 3))) kc 8 (some (n + 4))) kc 9 (some (n + 5))
theorem nw_X4_init {θ : sv_T} {σ : sv_S} {kc : Nat} (hk : kc < θ.1) (g0 : θ.2 θ.1 = .inr (0, 160)) (g1 : θ.2 (θ.1 + 1) = .inr (0, 161)) (g2 : θ.2 (θ.1 + 2) = .inr (0, 161)) (g3 : θ.2 (θ.1 + 3) = .inr (0, 161)) (g4 : θ.2 (θ.1 + 4) = .inr (0, 160)) (g5 : θ.2 (θ.1 + 5) = .inr (0, 3)) (hn : sv_nw θ σ) : sv_nw (θ.1 + 6, θ.2) (xp_X4 σ kc θ.1) := by
  have hn := sv_nw_A hn g0
  have hn := sv_nw_P (i := kc) (k := 2) (j := θ.1) hn (by show kc < θ.1 + 1; omega) (by show θ.1 < θ.1 + 1; omega)
  have hn := sv_nw_A hn g1
  have hn := sv_nw_P (i := kc) (k := 3) (j := θ.1 + 1) hn (by show kc < θ.1 + 2; omega) (by show θ.1 + 1 < θ.1 + 2; omega)
  have hn := sv_nw_A hn g2
  have hn := sv_nw_P (i := kc) (k := 4) (j := θ.1 + 2) hn (by show kc < θ.1 + 3; omega) (by show θ.1 + 2 < θ.1 + 3; omega)
  have hn := sv_nw_A hn g3
  have hn := sv_nw_P (i := kc) (k := 5) (j := θ.1 + 3) hn (by show kc < θ.1 + 4; omega) (by show θ.1 + 3 < θ.1 + 4; omega)
  have hn := sv_nw_A hn g4
  have hn := sv_nw_P (i := kc) (k := 8) (j := θ.1 + 4) hn (by show kc < θ.1 + 5; omega) (by show θ.1 + 4 < θ.1 + 5; omega)
  have hn := sv_nw_A hn g5
  have hn := sv_nw_P (i := kc) (k := 9) (j := θ.1 + 5) hn (by show kc < θ.1 + 6; omega) (by show θ.1 + 5 < θ.1 + 6; omega)
  exact hn
set_option maxHeartbeats 4000000 in
theorem k_X4_init {X : sv_X} (hXp : sv_XP X) {l : Launch} {D : va_G} {T : Nat → ClassId} {h : Nat → Nat} {θ : sv_T} {σ : sv_S} {kc : Nat} (hθ : θ.1 ≤ 900) (hk : kc < θ.1) (hsh : θ.2 kc = .inl (3, pkX4)) (g0 : θ.2 θ.1 = .inr (0, 160)) (g1 : θ.2 (θ.1 + 1) = .inr (0, 161)) (g2 : θ.2 (θ.1 + 2) = .inr (0, 161)) (g3 : θ.2 (θ.1 + 3) = .inr (0, 161)) (g4 : θ.2 (θ.1 + 4) = .inr (0, 160)) (g5 : θ.2 (θ.1 + 5) = .inr (0, 3)) (hn : sv_nw θ σ) : sv_MvG X l D T (sx_tys T) h θ yX4_init wsX4_init { frames := 1, cells := 6, slots := 806, locals := 12 } [.ref (h kc)] σ (θ.1 + 6) (xp_X4 σ kc θ.1) 6 806 := by
  intro sz
  refine sv_enterG (cc := cX4_init) (maxL := 1) (ret := none) (Qc := fun sz => va_Qv (fun h' : Nat → Nat => sv_ext h θ.1 (θ.1 + 6) sz h') (fun h' t => va_P D vwCl (sv_ws T h' (θ.1 + 6, θ.2) (xp_X4 σ kc θ.1)) t.heap ∧ va_D (fun _ => True) (sv_ws T h' (θ.1 + 6, θ.2) (xp_X4 σ kc θ.1))) (sv_A h θ sz)) hXp (by decide) rfl (Nat.le_of_ble_eq_true rfl) ?_
  intro p e s m args below meth c F hr hlk hnm ls H hl hW
  have hx := F.1.1
  have hb := F.1.2.1
  have hts := F.1.2.2.2.2
  have hown := F.1.2.2.2.1
  have hml := F.1.2.2.1
  have hK := F.2.1
  have hA := F.2.2.2.1
  have hin : meth.name = "<init>" := hnm
  obtain ⟨locs, hlocs⟩ : ∃ z : List Loc, z = [] := ⟨_, rfl⟩
  rw [← hlocs] at hW ⊢
  have hl : lv_has ls 1 [(0, .ref (h kc))] := hl
  refine lv_aload_n hx hb dX4_init_0 rfl (lv_at hl 0 rfl) ?_
  refine W.objInit hx hb hown (hts (.methodLink RX4 3 objectInit) (by decide +kernel)) (hts (.instanceMethod objectInit) (by decide +kernel)) (hts _ (List.mem_of_getElem? (i := 3) rfl)) rfl (by rw [hml]; exact hl.1) rfl dX4_init_1 (Nat.le_of_ble_eq_true rfl) (Nat.le_of_ble_eq_true rfl) ?_
  refine W.eq (g2 := F0 m 4 ls []) rfl ?_
  refine lv_aload_n hx hb dX4_init_4 rfl (lv_at hl 0 rfl) ?_
  refine lv_sipush (v := 160) hx hb dX4_init_5 (by decide) ?_
  refine sv_newI hx hb (hts _ (List.mem_of_getElem? (i := 4) rfl)) hK hW hA (L := 160) g0 (by show θ.1 < 1000; omega) hn.1 (fun j => (hn.2 _ (Nat.le_refl _)).1 j) 0 rfl (by decide) (by decide) (by decide) (Nat.le_of_ble_eq_true rfl) (Nat.le_of_ble_eq_true rfl) dX4_init_8 (fun h1 H e1 hW => ?_)
  rw [← e1 kc (by show kc < θ.1; omega)] at hl
  rw [← e1 kc (by show kc < θ.1; omega)]
  have hW : sv_W D T (sv_A h θ s.heap.size) s h1 ((θ.1 + 1), θ.2) (σ) H locs := hW
  have hn := sv_nw_A hn g0
  refine sv_putFP (j := θ.1) (i := kc) (own := RX4) (C := RX4) (Tf := TX4) (N := 11) (index := 9) (ks := pkX4) hx hb hts hown hK hW (fun _ h => List.mem_cons_of_mem _ (List.mem_append_right _ h)) tyX4 tyX4_ok nmX4 (by show kc < (θ.1 + 1); omega) hsh rfl 2 (by decide) rfl rfl hin rfl (ty := .array .int) (by decide +kernel) (fun _ => rfl) (fun _ => rfl) (List.mem_of_getElem? (i := 5) rfl) dX4_init_10 (fun H locs hW => ?_)
  have hn := sv_nw_P (k := 2) hn (by show kc < (θ.1 + 1); omega) (by show θ.1 < (θ.1 + 1); omega)
  refine lv_aload_n hx hb dX4_init_13 rfl (lv_at hl 0 rfl) ?_
  refine lv_sipush (v := 161) hx hb dX4_init_14 (by decide) ?_
  refine sv_newI hx hb (hts _ (List.mem_of_getElem? (i := 4) rfl)) hK hW hA (L := 161) g1 (by show (θ.1 + 1) < 1000; omega) hn.1 (fun j => (hn.2 _ (Nat.le_refl _)).1 j) 0 rfl (by decide) (by decide) (by decide) (Nat.le_of_ble_eq_true rfl) (Nat.le_of_ble_eq_true rfl) dX4_init_17 (fun h2 H e2 hW => ?_)
  rw [← e2 kc (by show kc < (θ.1 + 1); omega)] at hl
  rw [← e2 kc (by show kc < (θ.1 + 1); omega)]
  have hW : sv_W D T (sv_A h θ s.heap.size) s h2 ((θ.1 + 2), θ.2) (sv_sP (σ) kc 2 (some θ.1)) H locs := hW
  have hn := sv_nw_A hn g1
  refine sv_putFP (j := (θ.1 + 1)) (i := kc) (own := RX4) (C := RX4) (Tf := TX4) (N := 11) (index := 15) (ks := pkX4) hx hb hts hown hK hW (fun _ h => List.mem_cons_of_mem _ (List.mem_append_right _ h)) tyX4 tyX4_ok nmX4 (by show kc < (θ.1 + 2); omega) hsh rfl 3 (by decide) rfl rfl hin rfl (ty := .array .int) (by decide +kernel) (fun _ => rfl) (fun _ => rfl) (List.mem_of_getElem? (i := 6) rfl) dX4_init_19 (fun H locs hW => ?_)
  have hn := sv_nw_P (k := 3) hn (by show kc < (θ.1 + 2); omega) (by show (θ.1 + 1) < (θ.1 + 2); omega)
  refine lv_aload_n hx hb dX4_init_22 rfl (lv_at hl 0 rfl) ?_
  refine lv_sipush (v := 161) hx hb dX4_init_23 (by decide) ?_
  refine sv_newI hx hb (hts _ (List.mem_of_getElem? (i := 4) rfl)) hK hW hA (L := 161) g2 (by show (θ.1 + 2) < 1000; omega) hn.1 (fun j => (hn.2 _ (Nat.le_refl _)).1 j) 0 rfl (by decide) (by decide) (by decide) (Nat.le_of_ble_eq_true rfl) (Nat.le_of_ble_eq_true rfl) dX4_init_26 (fun h3 H e3 hW => ?_)
  rw [← e3 kc (by show kc < (θ.1 + 2); omega)] at hl
  rw [← e3 kc (by show kc < (θ.1 + 2); omega)]
  have hW : sv_W D T (sv_A h θ s.heap.size) s h3 ((θ.1 + 3), θ.2) (sv_sP (sv_sP (σ) kc 2 (some θ.1)) kc 3 (some (θ.1 + 1))) H locs := hW
  have hn := sv_nw_A hn g2
  refine sv_putFP (j := (θ.1 + 2)) (i := kc) (own := RX4) (C := RX4) (Tf := TX4) (N := 11) (index := 18) (ks := pkX4) hx hb hts hown hK hW (fun _ h => List.mem_cons_of_mem _ (List.mem_append_right _ h)) tyX4 tyX4_ok nmX4 (by show kc < (θ.1 + 3); omega) hsh rfl 4 (by decide) rfl rfl hin rfl (ty := .array .int) (by decide +kernel) (fun _ => rfl) (fun _ => rfl) (List.mem_of_getElem? (i := 7) rfl) dX4_init_28 (fun H locs hW => ?_)
  have hn := sv_nw_P (k := 4) hn (by show kc < (θ.1 + 3); omega) (by show (θ.1 + 2) < (θ.1 + 3); omega)
  refine lv_aload_n hx hb dX4_init_31 rfl (lv_at hl 0 rfl) ?_
  refine lv_sipush (v := 161) hx hb dX4_init_32 (by decide) ?_
  refine sv_newI hx hb (hts _ (List.mem_of_getElem? (i := 4) rfl)) hK hW hA (L := 161) g3 (by show (θ.1 + 3) < 1000; omega) hn.1 (fun j => (hn.2 _ (Nat.le_refl _)).1 j) 0 rfl (by decide) (by decide) (by decide) (Nat.le_of_ble_eq_true rfl) (Nat.le_of_ble_eq_true rfl) dX4_init_35 (fun h4 H e4 hW => ?_)
  rw [← e4 kc (by show kc < (θ.1 + 3); omega)] at hl
  rw [← e4 kc (by show kc < (θ.1 + 3); omega)]
  have hW : sv_W D T (sv_A h θ s.heap.size) s h4 ((θ.1 + 4), θ.2) (sv_sP (sv_sP (sv_sP (σ) kc 2 (some θ.1)) kc 3 (some (θ.1 + 1))) kc 4 (some (θ.1 + 2))) H locs := hW
  have hn := sv_nw_A hn g3
  refine sv_putFP (j := (θ.1 + 3)) (i := kc) (own := RX4) (C := RX4) (Tf := TX4) (N := 11) (index := 21) (ks := pkX4) hx hb hts hown hK hW (fun _ h => List.mem_cons_of_mem _ (List.mem_append_right _ h)) tyX4 tyX4_ok nmX4 (by show kc < (θ.1 + 4); omega) hsh rfl 5 (by decide) rfl rfl hin rfl (ty := .array .int) (by decide +kernel) (fun _ => rfl) (fun _ => rfl) (List.mem_of_getElem? (i := 8) rfl) dX4_init_37 (fun H locs hW => ?_)
  have hn := sv_nw_P (k := 5) hn (by show kc < (θ.1 + 4); omega) (by show (θ.1 + 3) < (θ.1 + 4); omega)
  refine lv_aload_n hx hb dX4_init_40 rfl (lv_at hl 0 rfl) ?_
  refine lv_sipush (v := 160) hx hb dX4_init_41 (by decide) ?_
  refine sv_newI hx hb (hts _ (List.mem_of_getElem? (i := 4) rfl)) hK hW hA (L := 160) g4 (by show (θ.1 + 4) < 1000; omega) hn.1 (fun j => (hn.2 _ (Nat.le_refl _)).1 j) 0 rfl (by decide) (by decide) (by decide) (Nat.le_of_ble_eq_true rfl) (Nat.le_of_ble_eq_true rfl) dX4_init_44 (fun h5 H e5 hW => ?_)
  rw [← e5 kc (by show kc < (θ.1 + 4); omega)] at hl
  rw [← e5 kc (by show kc < (θ.1 + 4); omega)]
  have hW : sv_W D T (sv_A h θ s.heap.size) s h5 ((θ.1 + 5), θ.2) (sv_sP (sv_sP (sv_sP (sv_sP (σ) kc 2 (some θ.1)) kc 3 (some (θ.1 + 1))) kc 4 (some (θ.1 + 2))) kc 5 (some (θ.1 + 3))) H locs := hW
  have hn := sv_nw_A hn g4
  refine sv_putFP (j := (θ.1 + 4)) (i := kc) (own := RX4) (C := RX4) (Tf := TX4) (N := 11) (index := 24) (ks := pkX4) hx hb hts hown hK hW (fun _ h => List.mem_cons_of_mem _ (List.mem_append_right _ h)) tyX4 tyX4_ok nmX4 (by show kc < (θ.1 + 5); omega) hsh rfl 8 (by decide) rfl rfl hin rfl (ty := .array .int) (by decide +kernel) (fun _ => rfl) (fun _ => rfl) (List.mem_of_getElem? (i := 9) rfl) dX4_init_46 (fun H locs hW => ?_)
  have hn := sv_nw_P (k := 8) hn (by show kc < (θ.1 + 5); omega) (by show (θ.1 + 4) < (θ.1 + 5); omega)
  refine lv_aload_n hx hb dX4_init_49 rfl (lv_at hl 0 rfl) ?_
  refine lv_iconst (v := 3) hx hb dX4_init_50 (by decide) ?_
  refine sv_newI hx hb (hts _ (List.mem_of_getElem? (i := 4) rfl)) hK hW hA (L := 3) g5 (by show (θ.1 + 5) < 1000; omega) hn.1 (fun j => (hn.2 _ (Nat.le_refl _)).1 j) 0 rfl (by decide) (by decide) (by decide) (Nat.le_of_ble_eq_true rfl) (Nat.le_of_ble_eq_true rfl) dX4_init_51 (fun h6 H e6 hW => ?_)
  rw [← e6 kc (by show kc < (θ.1 + 5); omega)] at hl
  rw [← e6 kc (by show kc < (θ.1 + 5); omega)]
  have hW : sv_W D T (sv_A h θ s.heap.size) s h6 ((θ.1 + 6), θ.2) (sv_sP (sv_sP (sv_sP (sv_sP (sv_sP (σ) kc 2 (some θ.1)) kc 3 (some (θ.1 + 1))) kc 4 (some (θ.1 + 2))) kc 5 (some (θ.1 + 3))) kc 8 (some (θ.1 + 4))) H locs := hW
  have hn := sv_nw_A hn g5
  refine sv_putFP (j := (θ.1 + 5)) (i := kc) (own := RX4) (C := RX4) (Tf := TX4) (N := 11) (index := 27) (ks := pkX4) hx hb hts hown hK hW (fun _ h => List.mem_cons_of_mem _ (List.mem_append_right _ h)) tyX4 tyX4_ok nmX4 (by show kc < (θ.1 + 6); omega) hsh rfl 9 (by decide) rfl rfl hin rfl (ty := .array .int) (by decide +kernel) (fun _ => rfl) (fun _ => rfl) (List.mem_of_getElem? (i := 10) rfl) dX4_init_53 (fun H locs hW => ?_)
  have hn := sv_nw_P (k := 9) hn (by show kc < (θ.1 + 6); omega) (by show (θ.1 + 5) < (θ.1 + 6); omega)
  exact sv_vretG h6 (sv_new_ge hW.2.1 (fun i hi => by rw [e6 i (by show i < θ.1 + 5; omega), e5 i (by show i < θ.1 + 4; omega), e4 i (by show i < θ.1 + 3; omega), e3 i (by show i < θ.1 + 2; omega), e2 i (by show i < θ.1 + 1; omega), e1 i hi]) (by show θ.1 ≤ θ.1 + 6; omega)) (fun t ht => ⟨by rw [ht]; exact hW.1, hW.2.1.weaken (fun _ _ _ _ => trivial)⟩) hx hb hr hlk hW dX4_init_56
def xp_X5 (σ : sv_S) (kc n : Nat) : sv_S := sv_sI (sv_sP (σ) kc 0 (some n)) kc 1 (-1)
theorem nw_X5_init {θ : sv_T} {σ : sv_S} {kc : Nat} (hk : kc < θ.1) (g0 : θ.2 θ.1 = .inr (0, 40)) (hn : sv_nw θ σ) : sv_nw (θ.1 + 1, θ.2) (xp_X5 σ kc θ.1) := by
  have hn := sv_nw_A hn g0
  have hn := sv_nw_P (i := kc) (k := 0) (j := θ.1) hn (by show kc < θ.1 + 1; omega) (by show θ.1 < θ.1 + 1; omega)
  have hn := sv_nw_I (i := kc) (k := 1) (v := -1) hn (by show kc < θ.1 + 1; omega)
  exact hn
set_option maxHeartbeats 4000000 in
theorem k_X5_init {X : sv_X} (hXp : sv_XP X) {l : Launch} {D : va_G} {T : Nat → ClassId} {h : Nat → Nat} {θ : sv_T} {σ : sv_S} {kc : Nat} (hθ : θ.1 ≤ 900) (hk : kc < θ.1) (hsh : θ.2 kc = .inl (4, pkX5)) (g0 : θ.2 θ.1 = .inr (0, 40)) (hn : sv_nw θ σ) : sv_MvG X l D T (sx_tys T) h θ yX5_init wsX5_init { frames := 1, cells := 1, slots := 40, locals := 12 } [.ref (h kc)] σ (θ.1 + 1) (xp_X5 σ kc θ.1) 1 40 := by
  intro sz
  refine sv_enterG (cc := cX5_init) (maxL := 1) (ret := none) (Qc := fun sz => va_Qv (fun h' : Nat → Nat => sv_ext h θ.1 (θ.1 + 1) sz h') (fun h' t => va_P D vwCl (sv_ws T h' (θ.1 + 1, θ.2) (xp_X5 σ kc θ.1)) t.heap ∧ va_D (fun _ => True) (sv_ws T h' (θ.1 + 1, θ.2) (xp_X5 σ kc θ.1))) (sv_A h θ sz)) hXp (by decide) rfl (Nat.le_of_ble_eq_true rfl) ?_
  intro p e s m args below meth c F hr hlk hnm ls H hl hW
  have hx := F.1.1
  have hb := F.1.2.1
  have hts := F.1.2.2.2.2
  have hown := F.1.2.2.2.1
  have hml := F.1.2.2.1
  have hK := F.2.1
  have hA := F.2.2.2.1
  have hin : meth.name = "<init>" := hnm
  obtain ⟨locs, hlocs⟩ : ∃ z : List Loc, z = [] := ⟨_, rfl⟩
  rw [← hlocs] at hW ⊢
  have hl : lv_has ls 1 [(0, .ref (h kc))] := hl
  refine lv_aload_n hx hb dX5_init_0 rfl (lv_at hl 0 rfl) ?_
  refine W.objInit hx hb hown (hts (.methodLink RX5 3 objectInit) (by decide +kernel)) (hts (.instanceMethod objectInit) (by decide +kernel)) (hts _ (List.mem_of_getElem? (i := 3) rfl)) rfl (by rw [hml]; exact hl.1) rfl dX5_init_1 (Nat.le_of_ble_eq_true rfl) (Nat.le_of_ble_eq_true rfl) ?_
  refine W.eq (g2 := F0 m 4 ls []) rfl ?_
  refine lv_aload_n hx hb dX5_init_4 rfl (lv_at hl 0 rfl) ?_
  refine lv_bipush (v := 40) hx hb dX5_init_5 (by decide) ?_
  refine sv_newI hx hb (hts _ (List.mem_of_getElem? (i := 4) rfl)) hK hW hA (L := 40) g0 (by show θ.1 < 1000; omega) hn.1 (fun j => (hn.2 _ (Nat.le_refl _)).1 j) 0 rfl (by decide) (by decide) (by decide) (Nat.le_of_ble_eq_true rfl) (Nat.le_of_ble_eq_true rfl) dX5_init_7 (fun h1 H e1 hW => ?_)
  rw [← e1 kc (by show kc < θ.1; omega)] at hl
  rw [← e1 kc (by show kc < θ.1; omega)]
  have hW : sv_W D T (sv_A h θ s.heap.size) s h1 ((θ.1 + 1), θ.2) (σ) H locs := hW
  have hn := sv_nw_A hn g0
  refine sv_putFP (j := θ.1) (i := kc) (own := RX5) (C := RX5) (Tf := TX5) (N := 3) (index := 9) (ks := pkX5) hx hb hts hown hK hW (fun _ h => List.mem_cons_of_mem _ (List.mem_append_right _ h)) tyX5 tyX5_ok nmX5 (by show kc < (θ.1 + 1); omega) hsh rfl 0 (by decide) rfl rfl hin rfl (ty := .array .int) (by decide +kernel) (fun _ => rfl) (fun _ => rfl) (List.mem_of_getElem? (i := 5) rfl) dX5_init_9 (fun H locs hW => ?_)
  have hn := sv_nw_P (k := 0) hn (by show kc < (θ.1 + 1); omega) (by show θ.1 < (θ.1 + 1); omega)
  refine lv_aload_n hx hb dX5_init_12 rfl (lv_at hl 0 rfl) ?_
  refine lv_iconst (v := -1) hx hb dX5_init_13 (by decide) ?_
  refine sv_putI (i := kc) (own := RX5) (C := RX5) (Tf := TX5) (N := 3) (index := 15) (ks := pkX5) hx hb hts hown hK hW (fun _ h => List.mem_cons_of_mem _ (List.mem_append_right _ h)) tyX5 tyX5_ok nmX5 (by show kc < (θ.1 + 1); omega) hsh rfl 1 (by decide) rfl rfl (ty := .int) (by decide +kernel) rfl rfl (List.mem_of_getElem? (i := 6) rfl) dX5_init_14 (fun σz H locs eσz hW => ?_)
  subst eσz
  have hn := sv_nw_I (k := 1) (v := -1) hn (by show kc < (θ.1 + 1); omega)
  exact sv_vretG h1 (sv_new_ge hW.2.1 (fun i hi => by rw [e1 i hi]) (by show θ.1 ≤ θ.1 + 1; omega)) (fun t ht => ⟨by rw [ht]; exact hW.1, hW.2.1.weaken (fun _ _ _ _ => trivial)⟩) hx hb hr hlk hW dX5_init_17

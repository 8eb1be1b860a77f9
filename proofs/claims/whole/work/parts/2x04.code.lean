set_option maxRecDepth 100000 in
set_option maxHeartbeats 4000000 in
theorem k_J0_isLatin1_aae02 {qK qV : Nat → Nat} {l : Launch} {D : va_G} {T : Nat → ClassId} {h : Nat → Nat} {θ : sv_T} {kq : Nat} {σ : sv_S} {r : Int32} {σ' : sv_S} (hB : sx_base θ) (hkq : kq < 2) (hs : q_J0_isLatin1_aae02 θ kq σ = some (r, σ')) : sv_Mi (sx_X qK qV) l D T (sx_tys T) h θ yJ0_isLatin1_aae02 wsJ0_isLatin1_aae02 (sv_rm 0 0) [.ref (qK kq)] σ r σ' := by
  intro sz
  refine sv_enter (cc := cJ0_isLatin1_aae02) (maxL := 1) (ret := (some .boolean)) (Qc := fun A => va_Qi (fun r2 (_ : Unit) => r2 = r) (fun _ t => va_P D vwCl (sv_ws T h θ σ') t.heap) A) sx_XP (by decide) rfl (Nat.le_of_ble_eq_true rfl) ?_
  intro p e s m args below meth c A F hr hlk ls H hl hW
  have hx := F.1.1
  have hb := F.1.2.1
  have hts := F.1.2.2.2.2
  have hown := F.1.2.2.2.1
  have hK := F.2.1
  obtain ⟨locs, hlocs⟩ : ∃ z : List Loc, z = [] := ⟨_, rfl⟩
  rw [← hlocs] at hW ⊢
  have hl : lv_has ls 1 [(0, .ref (qK kq))] := hl
  unfold q_J0_isLatin1_aae02 at hs
  refine va_gets (C := "java/lang/String") (n := "COMPACT_STRINGS") (d := "Z") (own := RJ0) (ref := "java/lang/String") hx hb F.2.2.1.2.2.2.2.2.1 hW.2.2 hown (hts _ (List.mem_of_getElem? (i := 1) rfl)) (fun _ h9 => h9) dJ0_isLatin1_aae02_0 ?_
  refine lv_if_eq (tgt := 17) hx hb dJ0_isLatin1_aae02_3 (by decide) (fun c2 => absurd c2 (by decide)) (fun c2 => ?_)
  refine lv_aload_n hx hb dJ0_isLatin1_aae02_6 rfl (lv_at hl 0 rfl) ?_
  refine vk_getf (own := RJ0) (ref := "java/lang/String") hx hb (F.2.2.1.2.2.2.2.1.1.1 kq hkq).2.1 hW.2.2 hown (hts _ (List.mem_of_getElem? (i := 2) rfl)) (fun _ h9 => h9) dJ0_isLatin1_aae02_7 ?_
  refine lv_if_ne (tgt := 17) hx hb dJ0_isLatin1_aae02_10 (by decide) (fun c3 => absurd c3 (by decide)) (fun c3 => ?_)
  refine lv_iconst (v := 1) hx hb dJ0_isLatin1_aae02_13 (by decide) ?_
  refine lv_goto (tgt := 18) hx hb dJ0_isLatin1_aae02_14 (by decide) ?_
  cases hs
  exact sv_iret hx hb hr rfl hlk hW dJ0_isLatin1_aae02_18
set_option maxRecDepth 100000 in
set_option maxHeartbeats 4000000 in
theorem k_J3_checkIndex_8e157 {qK qV : Nat → Nat} {l : Launch} {D : va_G} {T : Nat → ClassId} {h : Nat → Nat} {θ : sv_T} {a1 : Int32} {a2 : Int32} {fo : Option Nat} {σ : sv_S} {r : Int32} {σ' : sv_S} (hB : sx_base θ)  (hs : q_J3_checkIndex_8e157 θ a1 a2 σ = some (r, σ')) : sv_Mi (sx_X qK qV) l D T (sx_tys T) h θ yJ3_checkIndex_8e157 wsJ3_checkIndex_8e157 (sv_rm 1 80) [.int a1, .int a2, va_rf fo] σ r σ' := by
  cases fo
  all_goals
    intro sz
    refine sv_enter (cc := cJ3_checkIndex_8e157) (maxL := 3) (ret := (some .int)) (Qc := fun A => va_Qi (fun r2 (_ : Unit) => r2 = r) (fun _ t => va_P D vwCl (sv_ws T h θ σ') t.heap) A) sx_XP (by decide) rfl (Nat.le_of_ble_eq_true rfl) ?_
    intro p e s m args below meth c A F hr hlk ls H hl hW
    have hx := F.1.1
    have hb := F.1.2.1
    have hts := F.1.2.2.2.2
    have hown := F.1.2.2.2.1
    have hK := F.2.1
    obtain ⟨locs, hlocs⟩ : ∃ z : List Loc, z = [] := ⟨_, rfl⟩
    rw [← hlocs] at hW ⊢
    have hl : lv_has ls 3 [(0, .int a1), (1, .int a2)] := lv_sub hl [0, 1] rfl
    unfold q_J3_checkIndex_8e157 at hs
    refine lv_iload_n hx hb dJ3_checkIndex_8e157_0 rfl (lv_at hl 0 rfl) ?_
    refine lv_if_lt (tgt := 9) hx hb dJ3_checkIndex_8e157_1 (by decide) (fun c1 => ?_) (fun c1 => ?_)
    · replace hs := (sp_ite hs).1 c1
      cases hs
    · replace hs := (sp_ite hs).2 c1
      refine lv_iload_n hx hb dJ3_checkIndex_8e157_4 rfl (lv_at hl 0 rfl) ?_
      refine lv_iload_n hx hb dJ3_checkIndex_8e157_5 rfl (lv_at hl 1 rfl) ?_
      refine lv_icmp_lt (tgt := 16) hx hb dJ3_checkIndex_8e157_6 (by decide) (fun c2 => ?_) (fun c2 => ?_)
      · replace hs := (sp_ite hs).1 c2
        refine lv_iload_n hx hb dJ3_checkIndex_8e157_16 rfl (lv_at hl 0 rfl) ?_
        cases hs
        exact sv_iret hx hb hr rfl hlk hW dJ3_checkIndex_8e157_17
      · replace hs := (sp_ite hs).2 c2
        cases hs
set_option maxRecDepth 100000 in
set_option maxHeartbeats 4000000 in
theorem k_J0_checkIndex_df160 {qK qV : Nat → Nat} {l : Launch} {D : va_G} {T : Nat → ClassId} {h : Nat → Nat} {θ : sv_T} {a1 : Int32} {a2 : Int32} {σ : sv_S} {r : Unit} {σ' : sv_S} (hB : sx_base θ)  (hs : q_J0_checkIndex_df160 θ a1 a2 σ = some (r, σ')) : sv_Mv (sx_X qK qV) l D T (sx_tys T) h θ yJ0_checkIndex_df160 wsJ0_checkIndex_df160 (sv_rm 2 102) [.int a1, .int a2] σ r σ' := by
  intro sz
  refine sv_enter (cc := cJ0_checkIndex_df160) (maxL := 2) (ret := none) (Qc := fun A => va_Qv (fun (_ : Unit) => True) (fun _ t => va_P D vwCl (sv_ws T h θ σ') t.heap) A) sx_XP (by decide) rfl (Nat.le_of_ble_eq_true rfl) ?_
  intro p e s m args below meth c A F hr hlk ls H hl hW
  have hx := F.1.1
  have hb := F.1.2.1
  have hts := F.1.2.2.2.2
  have hown := F.1.2.2.2.1
  have hK := F.2.1
  obtain ⟨locs, hlocs⟩ : ∃ z : List Loc, z = [] := ⟨_, rfl⟩
  rw [← hlocs] at hW ⊢
  have hl : lv_has ls 2 [(0, .int a1), (1, .int a2)] := hl
  unfold q_J0_checkIndex_df160 at hs
  refine lv_iload_n hx hb dJ0_checkIndex_df160_0 rfl (lv_at hl 0 rfl) ?_
  refine lv_iload_n hx hb dJ0_checkIndex_df160_1 rfl (lv_at hl 1 rfl) ?_
  obtain ⟨q1, hZq1⟩ := sx_zq F.2.2.1.2.2.2.2.2.2
  refine va_gets (C := "jdk/internal/util/Preconditions") (n := "SIOOBE_FORMATTER") (d := "Ljava/util/function/BiFunction;") (own := RJ0) (ref := "jdk/internal/util/Preconditions") hx hb hZq1 hW.2.2 hown (hts _ (List.mem_of_getElem? (i := 1) rfl)) (fun _ h9 => h9) dJ0_checkIndex_df160_2 ?_
  obtain ⟨r2, σ3, eσ3, hs⟩ := sp_bind hs
  refine sv_goI (σ' := σ3) (r := r2) hW F.2.2.2.1 (sv_runT F hW (k_J3_checkIndex_8e157 hB eσ3 H.size) gJ0_checkIndex_df160_J3_checkIndex_8e157 rfl ⟨rfl, rfl⟩ 3 (by decide +kernel) (sv_room2 (by omega) (by omega)) rfl hl.1 rfl (Nat.le_of_ble_eq_true rfl) dJ0_checkIndex_df160_5 ⟨Nat.zero_le _, Nat.zero_le _⟩) (fun H locs hW => ?_)
  refine lv_pop hx hb dJ0_checkIndex_df160_8 rfl ?_
  cases hs
  exact sv_vret hx hb hr hlk hW dJ0_checkIndex_df160_9
set_option maxRecDepth 100000 in
set_option maxHeartbeats 4000000 in
theorem k_J1_charAt_3b067 {qK qV : Nat → Nat} {l : Launch} {D : va_G} {T : Nat → ClassId} {h : Nat → Nat} {θ : sv_T} {kq : Nat} {a2 : Int32} {σ : sv_S} {r : Int32} {σ' : sv_S} (hB : sx_base θ) (hkq : kq < 2) (hs : q_J1_charAt_3b067 θ kq a2 σ = some (r, σ')) : sv_Mi (sx_X qK qV) l D T (sx_tys T) h θ yJ1_charAt_3b067 wsJ1_charAt_3b067 (sv_rm 3 123) [.ref (qV kq), .int a2] σ r σ' := by
  intro sz
  refine sv_enter (cc := cJ1_charAt_3b067) (maxL := 2) (ret := (some .char)) (Qc := fun A => va_Qi (fun r2 (_ : Unit) => r2 = r) (fun _ t => va_P D vwCl (sv_ws T h θ σ') t.heap) A) sx_XP (by decide) rfl (Nat.le_of_ble_eq_true rfl) ?_
  intro p e s m args below meth c A F hr hlk ls H hl hW
  have hx := F.1.1
  have hb := F.1.2.1
  have hts := F.1.2.2.2.2
  have hown := F.1.2.2.2.1
  have hK := F.2.1
  obtain ⟨locs, hlocs⟩ : ∃ z : List Loc, z = [] := ⟨_, rfl⟩
  rw [← hlocs] at hW ⊢
  have hl : lv_has ls 2 [(0, .ref (qV kq)), (1, .int a2)] := hl
  unfold q_J1_charAt_3b067 at hs
  refine lv_iload_n hx hb dJ1_charAt_3b067_0 rfl (lv_at hl 1 rfl) ?_
  refine lv_aload_n hx hb dJ1_charAt_3b067_1 rfl (lv_at hl 0 rfl) ?_
  refine va_tlen (v := (Int32.ofNat (sx_slen.getD kq 0))) hx hb (F.2.2.1.2.2.2.2.1.1.1 kq hkq).2.2.2 hW.2.2 rfl dJ1_charAt_3b067_2 ?_
  obtain ⟨r1, σ2, eσ2, hs⟩ := sp_bind hs
  refine sv_goV (σ' := σ2) (r := r1) hW F.2.2.2.1 (sv_runT F hW (k_J0_checkIndex_df160 hB eσ2 H.size) gJ1_charAt_3b067_J0_checkIndex_df160 rfl ⟨rfl, rfl⟩ 2 (by decide +kernel) (sv_room2 (by omega) (by omega)) rfl hl.1 rfl (Nat.le_of_ble_eq_true rfl) dJ1_charAt_3b067_3 ⟨Nat.zero_le _, Nat.zero_le _⟩) (fun H locs hW => ?_)
  refine lv_aload_n hx hb dJ1_charAt_3b067_6 rfl (lv_at hl 0 rfl) ?_
  refine lv_iload_n hx hb dJ1_charAt_3b067_7 rfl (lv_at hl 1 rfl) ?_
  obtain ⟨hi3, hs⟩ := sp_g hs
  refine va_tb hx hb (F.2.2.1.2.2.2.2.1.1.1 kq hkq).2.2.2 hW.2.2 hi3 rfl dJ1_charAt_3b067_8 ?_
  refine lv_sipush (v := 255) hx hb dJ1_charAt_3b067_9 (by decide) ?_
  refine lv_iand hx hb dJ1_charAt_3b067_12 ?_
  refine lv_i2c (v := ((((sx_sbyt.getD kq []).getD a2.toNatClampNeg 0) &&& (255 : Int32)).toUInt32 % 65536).toInt32) hx hb dJ1_charAt_3b067_13 rfl ?_
  refine lv_topi (fun v5 ev5 => ?_)
  replace hs := sp_let hs ev5
  obtain ⟨hn4, hs⟩ := sp_p hs
  cases hs
  exact sv_iret hx hb hr (by show Value.int _ = _; rw [hn4]) hlk hW dJ1_charAt_3b067_14
set_option maxRecDepth 100000 in
set_option maxHeartbeats 4000000 in
theorem k_J0_charAt_5068e {qK qV : Nat → Nat} {l : Launch} {D : va_G} {T : Nat → ClassId} {h : Nat → Nat} {θ : sv_T} {kq : Nat} {a1 : Int32} {σ : sv_S} {r : Int32} {σ' : sv_S} (hB : sx_base θ) (hkq : kq < 2) (hs : q_J0_charAt_5068e θ kq a1 σ = some (r, σ')) : sv_Mi (sx_X qK qV) l D T (sx_tys T) h θ yJ0_charAt_5068e wsJ0_charAt_5068e (sv_rm 4 144) [.ref (qK kq), .int a1] σ r σ' := by
  intro sz
  refine sv_enter (cc := cJ0_charAt_5068e) (maxL := 2) (ret := (some .char)) (Qc := fun A => va_Qi (fun r2 (_ : Unit) => r2 = r) (fun _ t => va_P D vwCl (sv_ws T h θ σ') t.heap) A) sx_XP (by decide) rfl (Nat.le_of_ble_eq_true rfl) ?_
  intro p e s m args below meth c A F hr hlk ls H hl hW
  have hx := F.1.1
  have hb := F.1.2.1
  have hts := F.1.2.2.2.2
  have hown := F.1.2.2.2.1
  have hK := F.2.1
  obtain ⟨locs, hlocs⟩ : ∃ z : List Loc, z = [] := ⟨_, rfl⟩
  rw [← hlocs] at hW ⊢
  have hl : lv_has ls 2 [(0, .ref (qK kq)), (1, .int a1)] := hl
  unfold q_J0_charAt_5068e at hs
  refine lv_aload_n hx hb dJ0_charAt_5068e_0 rfl (lv_at hl 0 rfl) ?_
  obtain ⟨r1, σ2, eσ2, hs⟩ := sp_bind hs
  refine sv_goI (σ' := σ2) (r := r1) hW F.2.2.2.1 (sv_runR (C := "java/lang/String") F hW (k_J0_isLatin1_aae02 hB hkq eσ2 H.size) gJ0_charAt_5068e_J0_isLatin1_aae02 rfl ⟨rfl, rfl⟩ 0 (by decide +kernel) (sv_room2 (by omega) (by omega)) (vk_recv F.2.2.1.2.2.2.2.1.1 hkq hW.2.2) rfl hl.1 rfl (Nat.le_of_ble_eq_true rfl) dJ0_charAt_5068e_1 ⟨Nat.zero_le _, Nat.zero_le _⟩) (fun H locs hW => ?_)
  refine lv_if_eq (tgt := 16) hx hb dJ0_charAt_5068e_4 (by decide) (fun c3 => ?_) (fun c3 => ?_)
  · replace hs := (sp_ite hs).1 c3
    refine lv_aload_n hx hb dJ0_charAt_5068e_16 rfl (lv_at hl 0 rfl) ?_
    refine vk_getf (own := RJ0) (ref := "java/lang/String") hx hb (F.2.2.1.2.2.2.2.1.1.1 kq hkq).2.2.1 hW.2.2 hown (hts _ (List.mem_of_getElem? (i := 1) rfl)) (fun _ h9 => h9) dJ0_charAt_5068e_17 ?_
    refine lv_iload_n hx hb dJ0_charAt_5068e_20 rfl (lv_at hl 1 rfl) ?_
    cases hs
  · replace hs := (sp_ite hs).2 c3
    refine lv_aload_n hx hb dJ0_charAt_5068e_7 rfl (lv_at hl 0 rfl) ?_
    refine vk_getf (own := RJ0) (ref := "java/lang/String") hx hb (F.2.2.1.2.2.2.2.1.1.1 kq hkq).2.2.1 hW.2.2 hown (hts _ (List.mem_of_getElem? (i := 1) rfl)) (fun _ h9 => h9) dJ0_charAt_5068e_8 ?_
    refine lv_iload_n hx hb dJ0_charAt_5068e_11 rfl (lv_at hl 1 rfl) ?_
    obtain ⟨r4, σ5, eσ5, hs⟩ := sp_bind hs
    refine sv_goI (σ' := σ5) (r := r4) hW F.2.2.2.1 (sv_runT F hW (k_J1_charAt_3b067 hB hkq eσ5 H.size) gJ0_charAt_5068e_J1_charAt_3b067 rfl ⟨rfl, rfl⟩ 2 (by decide +kernel) (sv_room2 (by omega) (by omega)) rfl hl.1 rfl (Nat.le_of_ble_eq_true rfl) dJ0_charAt_5068e_12 ⟨Nat.zero_le _, Nat.zero_le _⟩) (fun H locs hW => ?_)
    obtain ⟨hn6, hs⟩ := sp_p hs
    cases hs
    exact sv_iret hx hb hr (by show Value.int _ = _; rw [hn6]) hlk hW dJ0_charAt_5068e_15
set_option maxRecDepth 100000 in
set_option maxHeartbeats 4000000 in
theorem k_X4_wordLetter {qK qV : Nat → Nat} {l : Launch} {D : va_G} {T : Nat → ClassId} {h : Nat → Nat} {θ : sv_T} {a1 : Int32} {σ : sv_S} {r : Int32} {σ' : sv_S} (hB : sx_base θ)  (hs : q_X4_wordLetter θ a1 σ = some (r, σ')) : sv_Mi (sx_X qK qV) l D T (sx_tys T) h θ yX4_wordLetter wsX4_wordLetter (sv_rm 5 165) [.int a1] σ r σ' := by
  intro sz
  refine sv_enter (cc := cX4_wordLetter) (maxL := 1) (ret := (some .int)) (Qc := fun A => va_Qi (fun r2 (_ : Unit) => r2 = r) (fun _ t => va_P D vwCl (sv_ws T h θ σ') t.heap) A) sx_XP (by decide) rfl (Nat.le_of_ble_eq_true rfl) ?_
  intro p e s m args below meth c A F hr hlk ls H hl hW
  have hx := F.1.1
  have hb := F.1.2.1
  have hts := F.1.2.2.2.2
  have hown := F.1.2.2.2.1
  have hK := F.2.1
  obtain ⟨locs, hlocs⟩ : ∃ z : List Loc, z = [] := ⟨_, rfl⟩
  rw [← hlocs] at hW ⊢
  have hl : lv_has ls 1 [(0, .int a1)] := hl
  unfold q_X4_wordLetter at hs
  refine lv_iload_n hx hb dX4_wordLetter_0 rfl (lv_at hl 0 rfl) ?_
  refine lv_if_lt (tgt := 22) hx hb dX4_wordLetter_1 (by decide) (fun c1 => ?_) (fun c1 => ?_)
  · replace hs := (sp_ite hs).1 c1
    refine lv_iconst (v := -1) hx hb dX4_wordLetter_22 (by decide) ?_
    cases hs
    exact sv_iret hx hb hr rfl hlk hW dX4_wordLetter_23
  · replace hs := (sp_ite hs).2 c1
    refine lv_iload_n hx hb dX4_wordLetter_4 rfl (lv_at hl 0 rfl) ?_
    refine va_ldcS (tx := sx_t1) (q := qK 1) hx hb hown F.2.2.1.2.2.2.2.1.2.2 dX4_wordLetter_5 ?_
    obtain ⟨r2, σ3, eσ3, hs⟩ := sp_bind hs
    refine sv_goI (σ' := σ3) (r := r2) hW F.2.2.2.1 (sv_runR (C := "java/lang/String") F hW (k_J0_length_8abf5 hB (by decide : 1 < 2) eσ3 H.size) gX4_wordLetter_J0_length_8abf5 rfl ⟨rfl, rfl⟩ 0 (by decide +kernel) (sv_room2 (by omega) (by omega)) (vk_recv F.2.2.1.2.2.2.2.1.1 (by decide : 1 < 2) hW.2.2) rfl hl.1 rfl (Nat.le_of_ble_eq_true rfl) dX4_wordLetter_7 ⟨Nat.zero_le _, Nat.zero_le _⟩) (fun H locs hW => ?_)
    refine lv_icmp_ge (tgt := 22) hx hb dX4_wordLetter_10 (by decide) (fun c4 => ?_) (fun c4 => ?_)
    · replace hs := (sp_ite hs).1 c4
      refine lv_iconst (v := -1) hx hb dX4_wordLetter_22 (by decide) ?_
      cases hs
      exact sv_iret hx hb hr rfl hlk hW dX4_wordLetter_23
    · replace hs := (sp_ite hs).2 c4
      refine va_ldcS (tx := sx_t1) (q := qK 1) hx hb hown F.2.2.1.2.2.2.2.1.2.2 dX4_wordLetter_13 ?_
      refine lv_iload_n hx hb dX4_wordLetter_15 rfl (lv_at hl 0 rfl) ?_
      obtain ⟨r5, σ6, eσ6, hs⟩ := sp_bind hs
      refine sv_goI (σ' := σ6) (r := r5) hW F.2.2.2.1 (sv_runR (C := "java/lang/String") F hW (k_J0_charAt_5068e hB (by decide : 1 < 2) eσ6 H.size) gX4_wordLetter_J0_charAt_5068e rfl ⟨rfl, rfl⟩ 1 (by decide +kernel) (sv_room2 (by omega) (by omega)) (vk_recv F.2.2.1.2.2.2.2.1.1 (by decide : 1 < 2) hW.2.2) rfl hl.1 rfl (Nat.le_of_ble_eq_true rfl) dX4_wordLetter_16 ⟨Nat.zero_le _, Nat.zero_le _⟩) (fun H locs hW => ?_)
      refine lv_goto (tgt := 23) hx hb dX4_wordLetter_19 (by decide) ?_
      cases hs
      exact sv_iret hx hb hr rfl hlk hW dX4_wordLetter_23
set_option maxRecDepth 100000 in
set_option maxHeartbeats 4000000 in
theorem b_X4_wordNumber_46 {qK qV : Nat → Nat} {p : Program} {l : Launch} {e : Env} {s : State} {m : MethodId} {args : Array Value} {below : List Frame} {meth : Method} {c : Code} {D : va_G} {T : Nat → ClassId} {A : Nat → Prop} {h : Nat → Nat} {θ : sv_T} {a1 : Int32} {a2 : Int32} {r : Int32} {σ' : sv_S} (hB : sx_base θ)  (F : sv_F (sx_X qK qV) p m c cX4_wordNumber 7 s args wsX4_wordNumber RX4 D (sx_tys T) A) (hr : meth.sig.returnType = (some .int)) (hlk : meth.locks = false) (k20 : Int32 → Int32 → Int32 → Int32 → Int32 → sv_S → Option (Int32 × sv_S)) (hk20 : ∀ (x1 : Int32) (x2 : Int32) (x3 : Int32) (x4 : Int32) (x5 : Int32) (σ : sv_S) (H : Heap) (locs : List Loc) (ls : Array Slot), lv_has ls 7 [(0, .ref (h 13)), (1, .int x1), (2, .int x2), (3, .int x3), (4, .int x4), (5, .int x5)] → sv_W D T A s h θ σ H locs → k20 x1 x2 x3 x4 x5 σ = some (r, σ') → W p l e (sv_rm 6 185) s m args below meth c H locs 0 0 (MQ below (va_Qi (fun r2 (_ : Unit) => r2 = r) (fun _ t => va_P D vwCl (sv_ws T h θ σ') t.heap) A) args s 0 0 A) (F0 m 20 ls [])) : ∀ (x1 : Int32) (x2 : Int32) (x3 : Int32) (x4 : Int32) (x5 : Int32) (w0 : Int32) (σ : sv_S) (H : Heap) (locs : List Loc) (ls : Array Slot), lv_has ls 7 [(0, .ref (h 13)), (1, .int x1), (2, .int x2), (3, .int x3), (4, .int x4), (5, .int x5)] → sv_W D T A s h θ σ H locs → q_X4_wordNumber_B46 θ a1 a2 k20 x1 x2 x3 x4 x5 w0 σ = some (r, σ') → W p l e (sv_rm 6 185) s m args below meth c H locs 0 0 (MQ below (va_Qi (fun r2 (_ : Unit) => r2 = r) (fun _ t => va_P D vwCl (sv_ws T h θ σ') t.heap) A) args s 0 0 A) (F0 m 46 ls [.int w0]) := by
  have hx := F.1.1
  have hb := F.1.2.1
  have hts := F.1.2.2.2.2
  have hown := F.1.2.2.2.1
  have hK := F.2.1
  intro x1 x2 x3 x4 x5 w0 σ H locs ls hl hW hs
  unfold q_X4_wordNumber_B46 at hs
  refine lv_istore (lv' := [(6, .int w0), (0, .ref (h 13)), (1, .int x1), (2, .int x2), (3, .int x3), (4, .int x4), (5, .int x5)]) hx hb dX4_wordNumber_46 hl (by decide) rfl (fun ls hl => ?_)
  refine lv_iload hx hb dX4_wordNumber_48 (lv_at hl 5 rfl) ?_
  refine lv_iload_n hx hb dX4_wordNumber_50 rfl (lv_at hl 4 rfl) ?_
  refine lv_bipush (v := 6) hx hb dX4_wordNumber_51 (by decide) ?_
  refine lv_imul hx hb dX4_wordNumber_53 ?_
  refine lv_iload hx hb dX4_wordNumber_54 (lv_at hl 6 rfl) ?_
  refine lv_iadd hx hb dX4_wordNumber_56 ?_
  obtain ⟨r10, σ11, eσ11, hs⟩ := sp_bind hs
  refine sv_goI (σ' := σ11) (r := r10) hW F.2.2.2.1 (sv_runT F hW (k_X4_wordLetter hB eσ11 H.size) gX4_wordNumber_X4_wordLetter rfl ⟨rfl, rfl⟩ 1 (by decide +kernel) (sv_room2 (by omega) (by omega)) rfl hl.1 rfl (Nat.le_of_ble_eq_true rfl) dX4_wordNumber_57 ⟨Nat.zero_le _, Nat.zero_le _⟩) (fun H locs hW => ?_)
  refine lv_iload hx hb dX4_wordNumber_60 (lv_at hl 0 rfl) ?_
  refine lv_icmp_ne (tgt := 69) hx hb dX4_wordNumber_62 (by decide) (fun c12 => ?_) (fun c12 => ?_)
  · replace hs := (sp_ite hs).2 c12
    refine lv_iconst (v := 0) hx hb dX4_wordNumber_69 (by decide) ?_
    refine lv_iadd hx hb dX4_wordNumber_70 ?_
    refine lv_topi (fun v13 ev13 => ?_)
    replace hs := sp_let hs ev13
    refine lv_istore (lv' := [(4, .int v13), (6, .int w0), (0, .ref (h 13)), (1, .int x1), (2, .int x2), (3, .int x3), (5, .int x5)]) hx hb dX4_wordNumber_71 hl (by decide) rfl (fun ls hl => ?_)
    obtain ⟨v14, ev14⟩ : ∃ y : Int32, y = x5 + 1 := ⟨_, rfl⟩
    replace hs := sp_let hs ev14
    refine lv_iinc (v := v14) (lv' := [(5, .int v14), (4, .int v13), (6, .int w0), (0, .ref (h 13)), (1, .int x1), (2, .int x2), (3, .int x3)]) hx hb dX4_wordNumber_73 hl (k := 6) rfl (by rw [ev14]; rfl) (by decide) rfl (fun ls hl => ?_)
    refine lv_goto (tgt := 20) hx hb dX4_wordNumber_76 (by decide) ?_
    exact hk20 x1 x2 x3 v13 v14 σ11 H locs ls (lv_sub hl [3, 4, 5, 6, 1, 0] rfl) hW hs
  · replace hs := (sp_ite hs).1 c12
    refine lv_iconst (v := 1) hx hb dX4_wordNumber_65 (by decide) ?_
    refine lv_goto (tgt := 70) hx hb dX4_wordNumber_66 (by decide) ?_
    refine lv_iadd hx hb dX4_wordNumber_70 ?_
    refine lv_topi (fun v15 ev15 => ?_)
    replace hs := sp_let hs ev15
    refine lv_istore (lv' := [(4, .int v15), (6, .int w0), (0, .ref (h 13)), (1, .int x1), (2, .int x2), (3, .int x3), (5, .int x5)]) hx hb dX4_wordNumber_71 hl (by decide) rfl (fun ls hl => ?_)
    obtain ⟨v16, ev16⟩ : ∃ y : Int32, y = x5 + 1 := ⟨_, rfl⟩
    replace hs := sp_let hs ev16
    refine lv_iinc (v := v16) (lv' := [(5, .int v16), (4, .int v15), (6, .int w0), (0, .ref (h 13)), (1, .int x1), (2, .int x2), (3, .int x3)]) hx hb dX4_wordNumber_73 hl (k := 6) rfl (by rw [ev16]; rfl) (by decide) rfl (fun ls hl => ?_)
    refine lv_goto (tgt := 20) hx hb dX4_wordNumber_76 (by decide) ?_
    exact hk20 x1 x2 x3 v15 v16 σ11 H locs ls (lv_sub hl [3, 4, 5, 6, 1, 0] rfl) hW hs
set_option maxRecDepth 100000 in
set_option maxHeartbeats 4000000 in
theorem b_X4_wordNumber_20 {qK qV : Nat → Nat} {p : Program} {l : Launch} {e : Env} {s : State} {m : MethodId} {args : Array Value} {below : List Frame} {meth : Method} {c : Code} {D : va_G} {T : Nat → ClassId} {A : Nat → Prop} {h : Nat → Nat} {θ : sv_T} {a1 : Int32} {a2 : Int32} {r : Int32} {σ' : sv_S} (hB : sx_base θ)  (F : sv_F (sx_X qK qV) p m c cX4_wordNumber 7 s args wsX4_wordNumber RX4 D (sx_tys T) A) (hr : meth.sig.returnType = (some .int)) (hlk : meth.locks = false) (k2 : Int32 → Int32 → Int32 → sv_S → Option (Int32 × sv_S)) (hk2 : ∀ (x1 : Int32) (x2 : Int32) (x3 : Int32) (σ : sv_S) (H : Heap) (locs : List Loc) (ls : Array Slot), lv_has ls 7 [(0, .ref (h 13)), (1, .int x1), (2, .int x2), (3, .int x3)] → sv_W D T A s h θ σ H locs → k2 x1 x2 x3 σ = some (r, σ') → W p l e (sv_rm 6 185) s m args below meth c H locs 0 0 (MQ below (va_Qi (fun r2 (_ : Unit) => r2 = r) (fun _ t => va_P D vwCl (sv_ws T h θ σ') t.heap) A) args s 0 0 A) (F0 m 2 ls [])) : ∀ (n : Nat), ∀ (x1 : Int32) (x2 : Int32) (x3 : Int32) (x4 : Int32) (x5 : Int32) (σ : sv_S) (H : Heap) (locs : List Loc) (ls : Array Slot), lv_has ls 7 [(0, .ref (h 13)), (1, .int x1), (2, .int x2), (3, .int x3), (4, .int x4), (5, .int x5)] → sv_W D T A s h θ σ H locs → q_X4_wordNumber_B20 θ a1 a2 k2 n x1 x2 x3 x4 x5 σ = some (r, σ') → W p l e (sv_rm 6 185) s m args below meth c H locs 0 0 (MQ below (va_Qi (fun r2 (_ : Unit) => r2 = r) (fun _ t => va_P D vwCl (sv_ws T h θ σ') t.heap) A) args s 0 0 A) (F0 m 20 ls []) := by
  have hx := F.1.1
  have hb := F.1.2.1
  have hts := F.1.2.2.2.2
  have hown := F.1.2.2.2.1
  have hK := F.2.1
  intro n
  induction n with
  | zero =>
    intro x1 x2 x3 x4 x5 σ H locs ls hl hW hs
    have hs : (none : Option (Int32 × sv_S)) = some (r, σ') := hs
    cases hs
  | succ n ih =>
    intro x1 x2 x3 x4 x5 σ H locs ls hl hW hs
    have hs : q_X4_wordNumber_B20_b θ a1 a2 k2 (q_X4_wordNumber_B20 θ a1 a2 k2 n) x1 x2 x3 x4 x5 σ = some (r, σ') := hs
    unfold q_X4_wordNumber_B20_b at hs
    refine lv_iload hx hb dX4_wordNumber_20 (lv_at hl 5 rfl) ?_
    refine lv_bipush (v := 6) hx hb dX4_wordNumber_22 (by decide) ?_
    refine lv_icmp_ge (tgt := 79) hx hb dX4_wordNumber_24 (by decide) (fun c4 => ?_) (fun c4 => ?_)
    · replace hs := (sp_ite hs).1 c4
      refine lv_iload hx hb dX4_wordNumber_79 (lv_at hl 4 rfl) ?_
      refine lv_bipush (v := 6) hx hb dX4_wordNumber_81 (by decide) ?_
      refine lv_icmp_ne (tgt := 94) hx hb dX4_wordNumber_83 (by decide) (fun c5 => ?_) (fun c5 => ?_)
      · replace hs := (sp_ite hs).2 c5
        obtain ⟨v6, ev6⟩ : ∃ y : Int32, y = x3 + 1 := ⟨_, rfl⟩
        replace hs := sp_let hs ev6
        refine lv_iinc (v := v6) (lv' := [(3, .int v6), (0, .ref (h 13)), (1, .int x1), (2, .int x2), (4, .int x4), (5, .int x5)]) hx hb dX4_wordNumber_94 hl (k := 3) rfl (by rw [ev6]; rfl) (by decide) rfl (fun ls hl => ?_)
        refine lv_goto (tgt := 2) hx hb dX4_wordNumber_97 (by decide) ?_
        exact hk2 x1 x2 v6 σ H locs ls (lv_sub hl [1, 2, 3, 0] rfl) hW hs
      · replace hs := (sp_ite hs).1 c5
        refine lv_iload_n hx hb dX4_wordNumber_86 rfl (lv_at hl 2 rfl) ?_
        refine lv_bipush (v := 6) hx hb dX4_wordNumber_87 (by decide) ?_
        refine lv_icmp_gt (tgt := 94) hx hb dX4_wordNumber_89 (by decide) (fun c7 => ?_) (fun c7 => ?_)
        · replace hs := (sp_ite hs).1 c7
          obtain ⟨v8, ev8⟩ : ∃ y : Int32, y = x3 + 1 := ⟨_, rfl⟩
          replace hs := sp_let hs ev8
          refine lv_iinc (v := v8) (lv' := [(3, .int v8), (0, .ref (h 13)), (1, .int x1), (2, .int x2), (4, .int x4), (5, .int x5)]) hx hb dX4_wordNumber_94 hl (k := 3) rfl (by rw [ev8]; rfl) (by decide) rfl (fun ls hl => ?_)
          refine lv_goto (tgt := 2) hx hb dX4_wordNumber_97 (by decide) ?_
          exact hk2 x1 x2 v8 σ H locs ls (lv_sub hl [1, 2, 3, 0] rfl) hW hs
        · replace hs := (sp_ite hs).2 c7
          refine lv_iload_n hx hb dX4_wordNumber_92 rfl (lv_at hl 3 rfl) ?_
          cases hs
          exact sv_iret hx hb hr rfl hlk hW dX4_wordNumber_93
    · replace hs := (sp_ite hs).2 c4
      refine lv_iload hx hb dX4_wordNumber_27 (lv_at hl 5 rfl) ?_
      refine lv_iload_n hx hb dX4_wordNumber_29 rfl (lv_at hl 2 rfl) ?_
      refine lv_icmp_ge (tgt := 44) hx hb dX4_wordNumber_30 (by decide) (fun c9 => ?_) (fun c9 => ?_)
      · replace hs := (sp_ite hs).1 c9
        refine lv_bipush (v := 32) hx hb dX4_wordNumber_44 (by decide) ?_
        exact b_X4_wordNumber_46 hB F hr hlk _ ih x1 x2 x3 x4 x5 (32 : Int32) σ H locs ls (lv_sub hl [0, 1, 2, 3, 4, 5] rfl) hW hs
      · replace hs := (sp_ite hs).2 c9
        refine lv_aload_n hx hb dX4_wordNumber_33 rfl (lv_at hl 0 rfl) ?_
        refine lv_iload_n hx hb dX4_wordNumber_34 rfl (lv_at hl 1 rfl) ?_
        refine lv_iload hx hb dX4_wordNumber_35 (lv_at hl 5 rfl) ?_
        refine lv_iadd hx hb dX4_wordNumber_37 ?_
        obtain ⟨r17, σ18, eσ18, hs⟩ := sp_bind hs
        refine sv_goI (σ' := σ18) (r := r17) hW F.2.2.2.1 (sv_runV (C := RX4) F hW (k_X4_byteAt hB eσ18 H.size) gX4_wordNumber_X4_byteAt rfl ⟨rfl, rfl⟩ 1 (by decide +kernel) (sv_room2 (by omega) (by omega)) (sx_i 13 hB (by decide)) (sx_c13 hB) rfl rfl hl.1 rfl (Nat.le_of_ble_eq_true rfl) dX4_wordNumber_38 ⟨Nat.zero_le _, Nat.zero_le _⟩) (fun H locs hW => ?_)
        refine lv_goto (tgt := 46) hx hb dX4_wordNumber_41 (by decide) ?_
        exact b_X4_wordNumber_46 hB F hr hlk _ ih x1 x2 x3 x4 x5 r17 σ18 H locs ls (lv_sub hl [0, 1, 2, 3, 4, 5] rfl) hW hs
set_option maxRecDepth 100000 in
set_option maxHeartbeats 4000000 in
theorem b_X4_wordNumber_2 {qK qV : Nat → Nat} {p : Program} {l : Launch} {e : Env} {s : State} {m : MethodId} {args : Array Value} {below : List Frame} {meth : Method} {c : Code} {D : va_G} {T : Nat → ClassId} {A : Nat → Prop} {h : Nat → Nat} {θ : sv_T} {a1 : Int32} {a2 : Int32} {r : Int32} {σ' : sv_S} (hB : sx_base θ)  (F : sv_F (sx_X qK qV) p m c cX4_wordNumber 7 s args wsX4_wordNumber RX4 D (sx_tys T) A) (hr : meth.sig.returnType = (some .int)) (hlk : meth.locks = false)  : ∀ (n : Nat), ∀ (x1 : Int32) (x2 : Int32) (x3 : Int32) (σ : sv_S) (H : Heap) (locs : List Loc) (ls : Array Slot), lv_has ls 7 [(0, .ref (h 13)), (1, .int x1), (2, .int x2), (3, .int x3)] → sv_W D T A s h θ σ H locs → q_X4_wordNumber_B2 θ a1 a2 n x1 x2 x3 σ = some (r, σ') → W p l e (sv_rm 6 185) s m args below meth c H locs 0 0 (MQ below (va_Qi (fun r2 (_ : Unit) => r2 = r) (fun _ t => va_P D vwCl (sv_ws T h θ σ') t.heap) A) args s 0 0 A) (F0 m 2 ls []) := by
  have hx := F.1.1
  have hb := F.1.2.1
  have hts := F.1.2.2.2.2
  have hown := F.1.2.2.2.1
  have hK := F.2.1
  intro n
  induction n with
  | zero =>
    intro x1 x2 x3 σ H locs ls hl hW hs
    have hs : (none : Option (Int32 × sv_S)) = some (r, σ') := hs
    cases hs
  | succ n ih =>
    intro x1 x2 x3 σ H locs ls hl hW hs
    have hs : q_X4_wordNumber_B2_b θ a1 a2 (q_X4_wordNumber_B2 θ a1 a2 n) x1 x2 x3 σ = some (r, σ') := hs
    unfold q_X4_wordNumber_B2_b at hs
    refine lv_iload_n hx hb dX4_wordNumber_2 rfl (lv_at hl 3 rfl) ?_
    refine va_ldcS (tx := sx_t1) (q := qK 1) hx hb hown F.2.2.1.2.2.2.2.1.2.2 dX4_wordNumber_3 ?_
    obtain ⟨r1, σ2, eσ2, hs⟩ := sp_bind hs
    refine sv_goI (σ' := σ2) (r := r1) hW F.2.2.2.1 (sv_runR (C := "java/lang/String") F hW (k_J0_length_8abf5 hB (by decide : 1 < 2) eσ2 H.size) gX4_wordNumber_J0_length_8abf5 rfl ⟨rfl, rfl⟩ 0 (by decide +kernel) (sv_room2 (by omega) (by omega)) (vk_recv F.2.2.1.2.2.2.2.1.1 (by decide : 1 < 2) hW.2.2) rfl hl.1 rfl (Nat.le_of_ble_eq_true rfl) dX4_wordNumber_5 ⟨Nat.zero_le _, Nat.zero_le _⟩) (fun H locs hW => ?_)
    refine lv_bipush (v := 6) hx hb dX4_wordNumber_8 (by decide) ?_
    refine lv_idiv hx hb dX4_wordNumber_10 (by decide) ?_
    refine lv_icmp_ge (tgt := 100) hx hb dX4_wordNumber_11 (by decide) (fun c3 => ?_) (fun c3 => ?_)
    · replace hs := (sp_ite hs).1 c3
      refine lv_iconst (v := -1) hx hb dX4_wordNumber_100 (by decide) ?_
      cases hs
      exact sv_iret hx hb hr rfl hlk hW dX4_wordNumber_101
    · replace hs := (sp_ite hs).2 c3
      refine lv_iconst (v := 0) hx hb dX4_wordNumber_14 (by decide) ?_
      refine lv_istore (lv' := [(4, .int (0 : Int32)), (0, .ref (h 13)), (1, .int x1), (2, .int x2), (3, .int x3)]) hx hb dX4_wordNumber_15 hl (by decide) rfl (fun ls hl => ?_)
      refine lv_iconst (v := 0) hx hb dX4_wordNumber_17 (by decide) ?_
      refine lv_istore (lv' := [(5, .int (0 : Int32)), (4, .int (0 : Int32)), (0, .ref (h 13)), (1, .int x1), (2, .int x2), (3, .int x3)]) hx hb dX4_wordNumber_18 hl (by decide) rfl (fun ls hl => ?_)
      exact b_X4_wordNumber_20 hB F hr hlk _ ih sv_N x1 x2 x3 (0 : Int32) (0 : Int32) σ2 H locs ls (lv_sub hl [2, 3, 4, 5, 1, 0] rfl) hW hs
set_option maxRecDepth 100000 in
set_option maxHeartbeats 4000000 in
theorem k_X4_wordNumber {qK qV : Nat → Nat} {l : Launch} {D : va_G} {T : Nat → ClassId} {h : Nat → Nat} {θ : sv_T} {a1 : Int32} {a2 : Int32} {σ : sv_S} {r : Int32} {σ' : sv_S} (hB : sx_base θ)  (hs : q_X4_wordNumber θ a1 a2 σ = some (r, σ')) : sv_Mi (sx_X qK qV) l D T (sx_tys T) h θ yX4_wordNumber wsX4_wordNumber (sv_rm 6 185) [.ref (h 13), .int a1, .int a2] σ r σ' := by
  intro sz
  refine sv_enter (cc := cX4_wordNumber) (maxL := 7) (ret := (some .int)) (Qc := fun A => va_Qi (fun r2 (_ : Unit) => r2 = r) (fun _ t => va_P D vwCl (sv_ws T h θ σ') t.heap) A) sx_XP (by decide) rfl (Nat.le_of_ble_eq_true rfl) ?_
  intro p e s m args below meth c A F hr hlk ls H hl hW
  have hx := F.1.1
  have hb := F.1.2.1
  have hts := F.1.2.2.2.2
  have hown := F.1.2.2.2.1
  have hK := F.2.1
  obtain ⟨locs, hlocs⟩ : ∃ z : List Loc, z = [] := ⟨_, rfl⟩
  rw [← hlocs] at hW ⊢
  have hl : lv_has ls 7 [(0, .ref (h 13)), (1, .int a1), (2, .int a2)] := hl
  unfold q_X4_wordNumber at hs
  refine lv_iconst (v := 0) hx hb dX4_wordNumber_0 (by decide) ?_
  refine lv_istore_n (lv' := [(3, .int (0 : Int32)), (0, .ref (h 13)), (1, .int a1), (2, .int a2)]) hx hb dX4_wordNumber_1 rfl hl (by decide) rfl (fun ls hl => ?_)
  exact b_X4_wordNumber_2 hB F hr hlk sv_N a1 a2 (0 : Int32) σ H locs ls (lv_sub hl [1, 2, 3, 0] rfl) hW hs
set_option maxRecDepth 100000 in
set_option maxHeartbeats 4000000 in
theorem k_X4_addToken {qK qV : Nat → Nat} {l : Launch} {D : va_G} {T : Nat → ClassId} {h : Nat → Nat} {θ : sv_T} {a1 : Int32} {a2 : Int32} {a3 : Int32} {σ : sv_S} {r : Unit} {σ' : sv_S} (hB : sx_base θ)  (hs : q_X4_addToken θ a1 a2 a3 σ = some (r, σ')) : sv_Mv (sx_X qK qV) l D T (sx_tys T) h θ yX4_addToken wsX4_addToken (sv_rm 1 22) [.ref (h 13), .int a1, .int a2, .int a3] σ r σ' := by
  intro sz
  refine sv_enter (cc := cX4_addToken) (maxL := 4) (ret := none) (Qc := fun A => va_Qv (fun (_ : Unit) => True) (fun _ t => va_P D vwCl (sv_ws T h θ σ') t.heap) A) sx_XP (by decide) rfl (Nat.le_of_ble_eq_true rfl) ?_
  intro p e s m args below meth c A F hr hlk ls H hl hW
  have hx := F.1.1
  have hb := F.1.2.1
  have hts := F.1.2.2.2.2
  have hown := F.1.2.2.2.1
  have hK := F.2.1
  obtain ⟨locs, hlocs⟩ : ∃ z : List Loc, z = [] := ⟨_, rfl⟩
  rw [← hlocs] at hW ⊢
  have hl : lv_has ls 4 [(0, .ref (h 13)), (1, .int a1), (2, .int a2), (3, .int a3)] := hl
  unfold q_X4_addToken at hs
  refine lv_aload_n hx hb dX4_addToken_0 rfl (lv_at hl 0 rfl) ?_
  refine sv_get (own := RX4) (C := RX4) (Tf := TX4) (N := 11) (index := 15) (κ := (3, 2)) (v := .ref (h 15)) hx hb hts hown hK hW (fun _ h => List.mem_cons_of_mem _ (List.mem_append_right _ h)) (sx_i 13 hB (by decide)) (sx_c13 hB) rfl 3 (by decide) rfl rfl (List.mem_of_getElem? (i := 1) rfl) dX4_addToken_1 ?_
  refine lv_aload_n hx hb dX4_addToken_4 rfl (lv_at hl 0 rfl) ?_
  refine sv_get (own := RX4) (C := RX4) (Tf := TX4) (N := 11) (index := 71) (κ := (0, 0)) (v := .int (σ.1 13 6)) hx hb hts hown hK hW (fun _ h => List.mem_cons_of_mem _ (List.mem_append_right _ h)) (sx_i 13 hB (by decide)) (sx_c13 hB) rfl 6 (by decide) rfl rfl (List.mem_of_getElem? (i := 2) rfl) dX4_addToken_5 ?_
  refine lv_iload_n hx hb dX4_addToken_8 rfl (lv_at hl 1 rfl) ?_
  obtain ⟨r1, σ2, eσ2, hs⟩ := sp_bind hs
  refine sv_goV (σ' := σ2) (r := r1) hW F.2.2.2.1 (sv_runN (own := RX4) (host := "OpenWhileItRains") F hW (k_X7_put hB (sv_oA_of (sx_i 15 hB (by decide)) (sx_c15 hB)) eσ2 H.size) gX4_addToken_X7_put_n34 rfl ⟨rfl, rfl⟩ (F.2.2.1.1 _ (List.mem_of_getElem? (i := 6) rfl)) (List.mem_of_getElem? (i := 6) rfl) (List.mem_of_getElem? (i := 5) rfl) 3 (by decide +kernel) (sv_room2 (by omega) (by omega)) rfl hl.1 rfl (Nat.le_of_ble_eq_true rfl) dX4_addToken_9 ⟨Nat.zero_le _, Nat.zero_le _⟩) (fun H locs hW => ?_)
  refine lv_aload_n hx hb dX4_addToken_12 rfl (lv_at hl 0 rfl) ?_
  refine sv_get (own := RX4) (C := RX4) (Tf := TX4) (N := 11) (index := 18) (κ := (3, 3)) (v := .ref (h 16)) hx hb hts hown hK hW (fun _ h => List.mem_cons_of_mem _ (List.mem_append_right _ h)) (sx_i 13 hB (by decide)) (sx_c13 hB) rfl 4 (by decide) rfl rfl (List.mem_of_getElem? (i := 3) rfl) dX4_addToken_13 ?_
  refine lv_aload_n hx hb dX4_addToken_16 rfl (lv_at hl 0 rfl) ?_
  refine sv_get (own := RX4) (C := RX4) (Tf := TX4) (N := 11) (index := 71) (κ := (0, 0)) (v := .int (σ2.1 13 6)) hx hb hts hown hK hW (fun _ h => List.mem_cons_of_mem _ (List.mem_append_right _ h)) (sx_i 13 hB (by decide)) (sx_c13 hB) rfl 6 (by decide) rfl rfl (List.mem_of_getElem? (i := 2) rfl) dX4_addToken_17 ?_
  refine lv_iload_n hx hb dX4_addToken_20 rfl (lv_at hl 2 rfl) ?_
  obtain ⟨r3, σ4, eσ4, hs⟩ := sp_bind hs
  refine sv_goV (σ' := σ4) (r := r3) hW F.2.2.2.1 (sv_runN (own := RX4) (host := "OpenWhileItRains") F hW (k_X7_put hB (sv_oA_of (sx_i 16 hB (by decide)) (sx_c16 hB)) eσ4 H.size) gX4_addToken_X7_put_n34 rfl ⟨rfl, rfl⟩ (F.2.2.1.1 _ (List.mem_of_getElem? (i := 6) rfl)) (List.mem_of_getElem? (i := 6) rfl) (List.mem_of_getElem? (i := 5) rfl) 3 (by decide +kernel) (sv_room2 (by omega) (by omega)) rfl hl.1 rfl (Nat.le_of_ble_eq_true rfl) dX4_addToken_21 ⟨Nat.zero_le _, Nat.zero_le _⟩) (fun H locs hW => ?_)
  refine lv_aload_n hx hb dX4_addToken_24 rfl (lv_at hl 0 rfl) ?_
  refine sv_get (own := RX4) (C := RX4) (Tf := TX4) (N := 11) (index := 21) (κ := (3, 4)) (v := .ref (h 17)) hx hb hts hown hK hW (fun _ h => List.mem_cons_of_mem _ (List.mem_append_right _ h)) (sx_i 13 hB (by decide)) (sx_c13 hB) rfl 5 (by decide) rfl rfl (List.mem_of_getElem? (i := 4) rfl) dX4_addToken_25 ?_
  refine lv_aload_n hx hb dX4_addToken_28 rfl (lv_at hl 0 rfl) ?_
  refine sv_get (own := RX4) (C := RX4) (Tf := TX4) (N := 11) (index := 71) (κ := (0, 0)) (v := .int (σ4.1 13 6)) hx hb hts hown hK hW (fun _ h => List.mem_cons_of_mem _ (List.mem_append_right _ h)) (sx_i 13 hB (by decide)) (sx_c13 hB) rfl 6 (by decide) rfl rfl (List.mem_of_getElem? (i := 2) rfl) dX4_addToken_29 ?_
  refine lv_iload_n hx hb dX4_addToken_32 rfl (lv_at hl 3 rfl) ?_
  obtain ⟨r5, σ6, eσ6, hs⟩ := sp_bind hs
  refine sv_goV (σ' := σ6) (r := r5) hW F.2.2.2.1 (sv_runN (own := RX4) (host := "OpenWhileItRains") F hW (k_X7_put hB (sv_oA_of (sx_i 17 hB (by decide)) (sx_c17 hB)) eσ6 H.size) gX4_addToken_X7_put_n34 rfl ⟨rfl, rfl⟩ (F.2.2.1.1 _ (List.mem_of_getElem? (i := 6) rfl)) (List.mem_of_getElem? (i := 6) rfl) (List.mem_of_getElem? (i := 5) rfl) 3 (by decide +kernel) (sv_room2 (by omega) (by omega)) rfl hl.1 rfl (Nat.le_of_ble_eq_true rfl) dX4_addToken_33 ⟨Nat.zero_le _, Nat.zero_le _⟩) (fun H locs hW => ?_)
  refine lv_aload_n hx hb dX4_addToken_36 rfl (lv_at hl 0 rfl) ?_
  refine lv_dup hx hb dX4_addToken_37 rfl ?_
  refine sv_get (own := RX4) (C := RX4) (Tf := TX4) (N := 11) (index := 71) (κ := (0, 0)) (v := .int (σ6.1 13 6)) hx hb hts hown hK hW (fun _ h => List.mem_cons_of_mem _ (List.mem_append_right _ h)) (sx_i 13 hB (by decide)) (sx_c13 hB) rfl 6 (by decide) rfl rfl (List.mem_of_getElem? (i := 2) rfl) dX4_addToken_38 ?_
  refine lv_iconst (v := 1) hx hb dX4_addToken_41 (by decide) ?_
  refine lv_iadd hx hb dX4_addToken_42 ?_
  refine sv_putI (own := RX4) (C := RX4) (Tf := TX4) (N := 11) (index := 71) hx hb hts hown hK hW (fun _ h => List.mem_cons_of_mem _ (List.mem_append_right _ h)) tyX4 tyX4_ok nmX4 (sx_i 13 hB (by decide)) (sx_c13 hB) rfl 6 (by decide) rfl rfl (ty := .int) (by decide +kernel) rfl rfl (List.mem_of_getElem? (i := 2) rfl) dX4_addToken_43 (fun σ7 H locs eσ7 hW => ?_)
  replace hs := sp_let hs eσ7
  cases hs
  exact sv_vret hx hb hr hlk hW dX4_addToken_46
set_option maxRecDepth 100000 in
set_option maxHeartbeats 4000000 in
theorem b_X4_scanWord_32 {qK qV : Nat → Nat} {p : Program} {l : Launch} {e : Env} {s : State} {m : MethodId} {args : Array Value} {below : List Frame} {meth : Method} {c : Code} {D : va_G} {T : Nat → ClassId} {A : Nat → Prop} {h : Nat → Nat} {θ : sv_T} {a1 : Int32} {r : Int32} {σ' : sv_S} (hB : sx_base θ)  (F : sv_F (sx_X qK qV) p m c cX4_scanWord 4 s args wsX4_scanWord RX4 D (sx_tys T) A) (hr : meth.sig.returnType = (some .int)) (hlk : meth.locks = false)  : ∀ (x1 : Int32) (x2 : Int32) (σ : sv_S) (H : Heap) (locs : List Loc) (ls : Array Slot), lv_has ls 4 [(0, .ref (h 13)), (1, .int x1), (2, .int x2)] → sv_W D T A s h θ σ H locs → q_X4_scanWord_B32 θ a1 x1 x2 σ = some (r, σ') → W p l e (sv_rm 7 211) s m args below meth c H locs 0 0 (MQ below (va_Qi (fun r2 (_ : Unit) => r2 = r) (fun _ t => va_P D vwCl (sv_ws T h θ σ') t.heap) A) args s 0 0 A) (F0 m 32 ls []) := by
  have hx := F.1.1
  have hb := F.1.2.1
  have hts := F.1.2.2.2.2
  have hown := F.1.2.2.2.1
  have hK := F.2.1
  intro x1 x2 σ H locs ls hl hW hs
  unfold q_X4_scanWord_B32 at hs
  refine lv_aload_n hx hb dX4_scanWord_32 rfl (lv_at hl 0 rfl) ?_
  refine lv_iload_n hx hb dX4_scanWord_33 rfl (lv_at hl 1 rfl) ?_
  refine lv_iload_n hx hb dX4_scanWord_34 rfl (lv_at hl 2 rfl) ?_
  obtain ⟨r2, σ3, eσ3, hs⟩ := sp_bind hs
  refine sv_goI (σ' := σ3) (r := r2) hW F.2.2.2.1 (sv_runV (C := RX4) F hW (k_X4_wordNumber hB eσ3 H.size) gX4_scanWord_X4_wordNumber rfl ⟨rfl, rfl⟩ 2 (by decide +kernel) (sv_room2 (by omega) (by omega)) (sx_i 13 hB (by decide)) (sx_c13 hB) rfl rfl hl.1 rfl (Nat.le_of_ble_eq_true rfl) dX4_scanWord_35 ⟨Nat.zero_le _, Nat.zero_le _⟩) (fun H locs hW => ?_)
  refine lv_istore_n (lv' := [(3, .int r2), (0, .ref (h 13)), (1, .int x1), (2, .int x2)]) hx hb dX4_scanWord_38 rfl hl (by decide) rfl (fun ls hl => ?_)
  refine lv_iload_n hx hb dX4_scanWord_39 rfl (lv_at hl 0 rfl) ?_
  refine lv_iconst (v := -1) hx hb dX4_scanWord_40 (by decide) ?_
  refine lv_icmp_ne (tgt := 54) hx hb dX4_scanWord_41 (by decide) (fun c4 => ?_) (fun c4 => ?_)
  · replace hs := (sp_ite hs).2 c4
    refine lv_iload_n hx hb dX4_scanWord_54 rfl (lv_at hl 0 rfl) ?_
    refine lv_bipush (v := 6) hx hb dX4_scanWord_55 (by decide) ?_
    refine lv_icmp_ge (tgt := 73) hx hb dX4_scanWord_57 (by decide) (fun c5 => ?_) (fun c5 => ?_)
    · replace hs := (sp_ite hs).1 c5
      refine lv_aload_n hx hb dX4_scanWord_73 rfl (lv_at hl 1 rfl) ?_
      refine lv_iconst (v := 3) hx hb dX4_scanWord_74 (by decide) ?_
      refine lv_iload_n hx hb dX4_scanWord_75 rfl (lv_at hl 0 rfl) ?_
      refine lv_iadd hx hb dX4_scanWord_76 ?_
      refine lv_bipush (v := 6) hx hb dX4_scanWord_77 (by decide) ?_
      refine lv_isub hx hb dX4_scanWord_79 ?_
      refine lv_iload_n hx hb dX4_scanWord_80 rfl (lv_at hl 2 rfl) ?_
      refine lv_iconst (v := 0) hx hb dX4_scanWord_81 (by decide) ?_
      obtain ⟨r6, σ7, eσ7, hs⟩ := sp_bind hs
      refine sv_goV (σ' := σ7) (r := r6) hW F.2.2.2.1 (sv_runV (C := RX4) F hW (k_X4_addToken hB eσ7 H.size) gX4_scanWord_X4_addToken rfl ⟨rfl, rfl⟩ 3 (by decide +kernel) (sv_room2 (by omega) (by omega)) (sx_i 13 hB (by decide)) (sx_c13 hB) rfl rfl hl.1 rfl (Nat.le_of_ble_eq_true rfl) dX4_scanWord_82 ⟨Nat.zero_le _, Nat.zero_le _⟩) (fun H locs hW => ?_)
      refine lv_iload_n hx hb dX4_scanWord_85 rfl (lv_at hl 3 rfl) ?_
      cases hs
      exact sv_iret hx hb hr rfl hlk hW dX4_scanWord_86
    · replace hs := (sp_ite hs).2 c5
      refine lv_aload_n hx hb dX4_scanWord_60 rfl (lv_at hl 1 rfl) ?_
      refine lv_iconst (v := 2) hx hb dX4_scanWord_61 (by decide) ?_
      refine lv_iload_n hx hb dX4_scanWord_62 rfl (lv_at hl 2 rfl) ?_
      refine lv_bipush (v := -100) hx hb dX4_scanWord_63 (by decide) ?_
      refine lv_iload_n hx hb dX4_scanWord_65 rfl (lv_at hl 0 rfl) ?_
      refine lv_isub hx hb dX4_scanWord_66 ?_
      obtain ⟨r8, σ9, eσ9, hs⟩ := sp_bind hs
      refine sv_goV (σ' := σ9) (r := r8) hW F.2.2.2.1 (sv_runV (C := RX4) F hW (k_X4_addToken hB eσ9 H.size) gX4_scanWord_X4_addToken rfl ⟨rfl, rfl⟩ 3 (by decide +kernel) (sv_room2 (by omega) (by omega)) (sx_i 13 hB (by decide)) (sx_c13 hB) rfl rfl hl.1 rfl (Nat.le_of_ble_eq_true rfl) dX4_scanWord_67 ⟨Nat.zero_le _, Nat.zero_le _⟩) (fun H locs hW => ?_)
      refine lv_goto (tgt := 85) hx hb dX4_scanWord_70 (by decide) ?_
      refine lv_iload_n hx hb dX4_scanWord_85 rfl (lv_at hl 3 rfl) ?_
      cases hs
      exact sv_iret hx hb hr rfl hlk hW dX4_scanWord_86
  · replace hs := (sp_ite hs).1 c4
    refine lv_aload_n hx hb dX4_scanWord_44 rfl (lv_at hl 1 rfl) ?_
    refine lv_iconst (v := -1) hx hb dX4_scanWord_45 (by decide) ?_
    refine lv_iload_n hx hb dX4_scanWord_46 rfl (lv_at hl 2 rfl) ?_
    refine lv_iconst (v := 0) hx hb dX4_scanWord_47 (by decide) ?_
    obtain ⟨r10, σ11, eσ11, hs⟩ := sp_bind hs
    refine sv_goV (σ' := σ11) (r := r10) hW F.2.2.2.1 (sv_runV (C := RX4) F hW (k_X4_addToken hB eσ11 H.size) gX4_scanWord_X4_addToken rfl ⟨rfl, rfl⟩ 3 (by decide +kernel) (sv_room2 (by omega) (by omega)) (sx_i 13 hB (by decide)) (sx_c13 hB) rfl rfl hl.1 rfl (Nat.le_of_ble_eq_true rfl) dX4_scanWord_48 ⟨Nat.zero_le _, Nat.zero_le _⟩) (fun H locs hW => ?_)
    refine lv_goto (tgt := 85) hx hb dX4_scanWord_51 (by decide) ?_
    refine lv_iload_n hx hb dX4_scanWord_85 rfl (lv_at hl 3 rfl) ?_
    cases hs
    exact sv_iret hx hb hr rfl hlk hW dX4_scanWord_86
set_option maxRecDepth 100000 in
set_option maxHeartbeats 4000000 in
theorem b_X4_scanWord_4 {qK qV : Nat → Nat} {p : Program} {l : Launch} {e : Env} {s : State} {m : MethodId} {args : Array Value} {below : List Frame} {meth : Method} {c : Code} {D : va_G} {T : Nat → ClassId} {A : Nat → Prop} {h : Nat → Nat} {θ : sv_T} {a1 : Int32} {r : Int32} {σ' : sv_S} (hB : sx_base θ)  (F : sv_F (sx_X qK qV) p m c cX4_scanWord 4 s args wsX4_scanWord RX4 D (sx_tys T) A) (hr : meth.sig.returnType = (some .int)) (hlk : meth.locks = false)  : ∀ (n : Nat), ∀ (x1 : Int32) (x2 : Int32) (x3 : Int32) (σ : sv_S) (H : Heap) (locs : List Loc) (ls : Array Slot), lv_has ls 4 [(0, .ref (h 13)), (1, .int x1), (2, .int x2), (3, .int x3)] → sv_W D T A s h θ σ H locs → q_X4_scanWord_B4 θ a1 n x1 x2 x3 σ = some (r, σ') → W p l e (sv_rm 7 211) s m args below meth c H locs 0 0 (MQ below (va_Qi (fun r2 (_ : Unit) => r2 = r) (fun _ t => va_P D vwCl (sv_ws T h θ σ') t.heap) A) args s 0 0 A) (F0 m 4 ls []) := by
  have hx := F.1.1
  have hb := F.1.2.1
  have hts := F.1.2.2.2.2
  have hown := F.1.2.2.2.1
  have hK := F.2.1
  intro n
  induction n with
  | zero =>
    intro x1 x2 x3 σ H locs ls hl hW hs
    have hs : (none : Option (Int32 × sv_S)) = some (r, σ') := hs
    cases hs
  | succ n ih =>
    intro x1 x2 x3 σ H locs ls hl hW hs
    have hs : q_X4_scanWord_B4_b θ a1 (q_X4_scanWord_B4 θ a1 n) x1 x2 x3 σ = some (r, σ') := hs
    unfold q_X4_scanWord_B4_b at hs
    refine lv_iload_n hx hb dX4_scanWord_4 rfl (lv_at hl 3 rfl) ?_
    refine lv_aload_n hx hb dX4_scanWord_5 rfl (lv_at hl 0 rfl) ?_
    refine sv_get (own := RX4) (C := RX4) (Tf := TX4) (N := 11) (index := 30) (κ := (0, 0)) (v := .int (σ.1 13 0)) hx hb hts hown hK hW (fun _ h => List.mem_cons_of_mem _ (List.mem_append_right _ h)) (sx_i 13 hB (by decide)) (sx_c13 hB) rfl 0 (by decide) rfl rfl (List.mem_of_getElem? (i := 1) rfl) dX4_scanWord_6 ?_
    refine lv_icmp_ge (tgt := 32) hx hb dX4_scanWord_9 (by decide) (fun c1 => ?_) (fun c1 => ?_)
    · replace hs := (sp_ite hs).1 c1
      exact b_X4_scanWord_32 hB F hr hlk x1 x2 σ H locs ls (lv_sub hl [0, 1, 2] rfl) hW hs
    · replace hs := (sp_ite hs).2 c1
      refine lv_aload_n hx hb dX4_scanWord_12 rfl (lv_at hl 0 rfl) ?_
      refine lv_iload_n hx hb dX4_scanWord_13 rfl (lv_at hl 3 rfl) ?_
      obtain ⟨r12, σ13, eσ13, hs⟩ := sp_bind hs
      refine sv_goI (σ' := σ13) (r := r12) hW F.2.2.2.1 (sv_runV (C := RX4) F hW (k_X4_byteAt hB eσ13 H.size) gX4_scanWord_X4_byteAt rfl ⟨rfl, rfl⟩ 1 (by decide +kernel) (sv_room2 (by omega) (by omega)) (sx_i 13 hB (by decide)) (sx_c13 hB) rfl rfl hl.1 rfl (Nat.le_of_ble_eq_true rfl) dX4_scanWord_14 ⟨Nat.zero_le _, Nat.zero_le _⟩) (fun H locs hW => ?_)
      obtain ⟨r14, σ15, eσ15, hs⟩ := sp_bind hs
      refine sv_goI (σ' := σ15) (r := r14) hW F.2.2.2.1 (sv_runT F hW (k_X4_isLetter hB eσ15 H.size) gX4_scanWord_X4_isLetter rfl ⟨rfl, rfl⟩ 1 (by decide +kernel) (sv_room2 (by omega) (by omega)) rfl hl.1 rfl (Nat.le_of_ble_eq_true rfl) dX4_scanWord_17 ⟨Nat.zero_le _, Nat.zero_le _⟩) (fun H locs hW => ?_)
      refine lv_if_eq (tgt := 32) hx hb dX4_scanWord_20 (by decide) (fun c16 => ?_) (fun c16 => ?_)
      · replace hs := (sp_ite hs).1 c16
        exact b_X4_scanWord_32 hB F hr hlk x1 x2 σ15 H locs ls (lv_sub hl [0, 1, 2] rfl) hW hs
      · replace hs := (sp_ite hs).2 c16
        obtain ⟨v17, ev17⟩ : ∃ y : Int32, y = x2 + 1 := ⟨_, rfl⟩
        replace hs := sp_let hs ev17
        refine lv_iinc (v := v17) (lv' := [(2, .int v17), (0, .ref (h 13)), (1, .int x1), (3, .int x3)]) hx hb dX4_scanWord_23 hl (k := 2) rfl (by rw [ev17]; rfl) (by decide) rfl (fun ls hl => ?_)
        obtain ⟨v18, ev18⟩ : ∃ y : Int32, y = x3 + 1 := ⟨_, rfl⟩
        replace hs := sp_let hs ev18
        refine lv_iinc (v := v18) (lv' := [(3, .int v18), (2, .int v17), (0, .ref (h 13)), (1, .int x1)]) hx hb dX4_scanWord_26 hl (k := 3) rfl (by rw [ev18]; rfl) (by decide) rfl (fun ls hl => ?_)
        refine lv_goto (tgt := 4) hx hb dX4_scanWord_29 (by decide) ?_
        exact ih x1 v17 v18 σ15 H locs ls (lv_sub hl [2, 3, 1, 0] rfl) hW hs
set_option maxRecDepth 100000 in
set_option maxHeartbeats 4000000 in
theorem k_X4_scanWord {qK qV : Nat → Nat} {l : Launch} {D : va_G} {T : Nat → ClassId} {h : Nat → Nat} {θ : sv_T} {a1 : Int32} {σ : sv_S} {r : Int32} {σ' : sv_S} (hB : sx_base θ)  (hs : q_X4_scanWord θ a1 σ = some (r, σ')) : sv_Mi (sx_X qK qV) l D T (sx_tys T) h θ yX4_scanWord wsX4_scanWord (sv_rm 7 211) [.ref (h 13), .int a1] σ r σ' := by
  intro sz
  refine sv_enter (cc := cX4_scanWord) (maxL := 4) (ret := (some .int)) (Qc := fun A => va_Qi (fun r2 (_ : Unit) => r2 = r) (fun _ t => va_P D vwCl (sv_ws T h θ σ') t.heap) A) sx_XP (by decide) rfl (Nat.le_of_ble_eq_true rfl) ?_
  intro p e s m args below meth c A F hr hlk ls H hl hW
  have hx := F.1.1
  have hb := F.1.2.1
  have hts := F.1.2.2.2.2
  have hown := F.1.2.2.2.1
  have hK := F.2.1
  obtain ⟨locs, hlocs⟩ : ∃ z : List Loc, z = [] := ⟨_, rfl⟩
  rw [← hlocs] at hW ⊢
  have hl : lv_has ls 4 [(0, .ref (h 13)), (1, .int a1)] := hl
  unfold q_X4_scanWord at hs
  refine lv_iconst (v := 0) hx hb dX4_scanWord_0 (by decide) ?_
  refine lv_istore_n (lv' := [(2, .int (0 : Int32)), (0, .ref (h 13)), (1, .int a1)]) hx hb dX4_scanWord_1 rfl hl (by decide) rfl (fun ls hl => ?_)
  refine lv_iload_n hx hb dX4_scanWord_2 rfl (lv_at hl 2 rfl) ?_
  refine lv_istore_n (lv' := [(3, .int a1), (2, .int (0 : Int32)), (0, .ref (h 13)), (1, .int a1)]) hx hb dX4_scanWord_3 rfl hl (by decide) rfl (fun ls hl => ?_)
  exact b_X4_scanWord_4 hB F hr hlk sv_N a1 (0 : Int32) a1 σ H locs ls (lv_sub hl [2, 3, 1, 0] rfl) hW hs
set_option maxRecDepth 100000 in
set_option maxHeartbeats 4000000 in
theorem k_X4_isDigit {qK qV : Nat → Nat} {l : Launch} {D : va_G} {T : Nat → ClassId} {h : Nat → Nat} {θ : sv_T} {a1 : Int32} {σ : sv_S} {r : Int32} {σ' : sv_S} (hB : sx_base θ)  (hs : q_X4_isDigit θ a1 σ = some (r, σ')) : sv_Mi (sx_X qK qV) l D T (sx_tys T) h θ yX4_isDigit wsX4_isDigit (sv_rm 0 0) [.int a1] σ r σ' := by
  intro sz
  refine sv_enter (cc := cX4_isDigit) (maxL := 1) (ret := (some .boolean)) (Qc := fun A => va_Qi (fun r2 (_ : Unit) => r2 = r) (fun _ t => va_P D vwCl (sv_ws T h θ σ') t.heap) A) sx_XP (by decide) rfl (Nat.le_of_ble_eq_true rfl) ?_
  intro p e s m args below meth c A F hr hlk ls H hl hW
  have hx := F.1.1
  have hb := F.1.2.1
  have hts := F.1.2.2.2.2
  have hown := F.1.2.2.2.1
  have hK := F.2.1
  obtain ⟨locs, hlocs⟩ : ∃ z : List Loc, z = [] := ⟨_, rfl⟩
  rw [← hlocs] at hW ⊢
  have hl : lv_has ls 1 [(0, .int a1)] := hl
  unfold q_X4_isDigit at hs
  refine lv_iload_n hx hb dX4_isDigit_0 rfl (lv_at hl 0 rfl) ?_
  refine lv_bipush (v := 48) hx hb dX4_isDigit_1 (by decide) ?_
  refine lv_icmp_lt (tgt := 16) hx hb dX4_isDigit_3 (by decide) (fun c1 => ?_) (fun c1 => ?_)
  · replace hs := (sp_ite hs).1 c1
    refine lv_iconst (v := 0) hx hb dX4_isDigit_16 (by decide) ?_
    cases hs
    exact sv_iret hx hb hr rfl hlk hW dX4_isDigit_17
  · replace hs := (sp_ite hs).2 c1
    refine lv_iload_n hx hb dX4_isDigit_6 rfl (lv_at hl 0 rfl) ?_
    refine lv_bipush (v := 57) hx hb dX4_isDigit_7 (by decide) ?_
    refine lv_icmp_gt (tgt := 16) hx hb dX4_isDigit_9 (by decide) (fun c2 => ?_) (fun c2 => ?_)
    · replace hs := (sp_ite hs).1 c2
      refine lv_iconst (v := 0) hx hb dX4_isDigit_16 (by decide) ?_
      cases hs
      exact sv_iret hx hb hr rfl hlk hW dX4_isDigit_17
    · replace hs := (sp_ite hs).2 c2
      refine lv_iconst (v := 1) hx hb dX4_isDigit_12 (by decide) ?_
      refine lv_goto (tgt := 17) hx hb dX4_isDigit_13 (by decide) ?_
      cases hs
      exact sv_iret hx hb hr rfl hlk hW dX4_isDigit_17
set_option maxRecDepth 100000 in
set_option maxHeartbeats 4000000 in
theorem b_X4_scanNumber_61 {qK qV : Nat → Nat} {p : Program} {l : Launch} {e : Env} {s : State} {m : MethodId} {args : Array Value} {below : List Frame} {meth : Method} {c : Code} {D : va_G} {T : Nat → ClassId} {A : Nat → Prop} {h : Nat → Nat} {θ : sv_T} {a1 : Int32} {r : Int32} {σ' : sv_S} (hB : sx_base θ)  (F : sv_F (sx_X qK qV) p m c cX4_scanNumber 5 s args wsX4_scanNumber RX4 D (sx_tys T) A) (hr : meth.sig.returnType = (some .int)) (hlk : meth.locks = false)  : ∀ (x1 : Int32) (x2 : Int32) (x3 : Int32) (σ : sv_S) (H : Heap) (locs : List Loc) (ls : Array Slot), lv_has ls 5 [(0, .ref (h 13)), (1, .int x1), (2, .int x2), (3, .int x3)] → sv_W D T A s h θ σ H locs → q_X4_scanNumber_B61 θ a1 x1 x2 x3 σ = some (r, σ') → W p l e (sv_rm 2 45) s m args below meth c H locs 0 0 (MQ below (va_Qi (fun r2 (_ : Unit) => r2 = r) (fun _ t => va_P D vwCl (sv_ws T h θ σ') t.heap) A) args s 0 0 A) (F0 m 61 ls []) := by
  have hx := F.1.1
  have hb := F.1.2.1
  have hts := F.1.2.2.2.2
  have hown := F.1.2.2.2.1
  have hK := F.2.1
  intro x1 x2 x3 σ H locs ls hl hW hs
  unfold q_X4_scanNumber_B61 at hs
  refine lv_aload_n hx hb dX4_scanNumber_61 rfl (lv_at hl 0 rfl) ?_
  refine lv_iload_n hx hb dX4_scanNumber_62 rfl (lv_at hl 2 rfl) ?_
  refine lv_iconst (v := 4) hx hb dX4_scanNumber_63 (by decide) ?_
  refine lv_icmp_gt (tgt := 71) hx hb dX4_scanNumber_64 (by decide) (fun c2 => ?_) (fun c2 => ?_)
  · replace hs := (sp_ite hs).1 c2
    refine lv_iconst (v := -1) hx hb dX4_scanNumber_71 (by decide) ?_
    refine lv_iload_n hx hb dX4_scanNumber_72 rfl (lv_at hl 1 rfl) ?_
    refine lv_iload_n hx hb dX4_scanNumber_73 rfl (lv_at hl 3 rfl) ?_
    obtain ⟨r3, σ4, eσ4, hs⟩ := sp_bind hs
    refine sv_goV (σ' := σ4) (r := r3) hW F.2.2.2.1 (sv_runV (C := RX4) F hW (k_X4_addToken hB eσ4 H.size) gX4_scanNumber_X4_addToken rfl ⟨rfl, rfl⟩ 3 (by decide +kernel) (sv_room2 (by omega) (by omega)) (sx_i 13 hB (by decide)) (sx_c13 hB) rfl rfl hl.1 rfl (Nat.le_of_ble_eq_true rfl) dX4_scanNumber_74 ⟨Nat.zero_le _, Nat.zero_le _⟩) (fun H locs hW => ?_)
    refine lv_iload_n hx hb dX4_scanNumber_77 rfl (lv_at hl 2 rfl) ?_
    cases hs
    exact sv_iret hx hb hr rfl hlk hW dX4_scanNumber_78
  · replace hs := (sp_ite hs).2 c2
    refine lv_iconst (v := 1) hx hb dX4_scanNumber_67 (by decide) ?_
    refine lv_goto (tgt := 72) hx hb dX4_scanNumber_68 (by decide) ?_
    refine lv_iload_n hx hb dX4_scanNumber_72 rfl (lv_at hl 1 rfl) ?_
    refine lv_iload_n hx hb dX4_scanNumber_73 rfl (lv_at hl 3 rfl) ?_
    obtain ⟨r5, σ6, eσ6, hs⟩ := sp_bind hs
    refine sv_goV (σ' := σ6) (r := r5) hW F.2.2.2.1 (sv_runV (C := RX4) F hW (k_X4_addToken hB eσ6 H.size) gX4_scanNumber_X4_addToken rfl ⟨rfl, rfl⟩ 3 (by decide +kernel) (sv_room2 (by omega) (by omega)) (sx_i 13 hB (by decide)) (sx_c13 hB) rfl rfl hl.1 rfl (Nat.le_of_ble_eq_true rfl) dX4_scanNumber_74 ⟨Nat.zero_le _, Nat.zero_le _⟩) (fun H locs hW => ?_)
    refine lv_iload_n hx hb dX4_scanNumber_77 rfl (lv_at hl 2 rfl) ?_
    cases hs
    exact sv_iret hx hb hr rfl hlk hW dX4_scanNumber_78
set_option maxRecDepth 100000 in
set_option maxHeartbeats 4000000 in
theorem b_X4_scanNumber_7 {qK qV : Nat → Nat} {p : Program} {l : Launch} {e : Env} {s : State} {m : MethodId} {args : Array Value} {below : List Frame} {meth : Method} {c : Code} {D : va_G} {T : Nat → ClassId} {A : Nat → Prop} {h : Nat → Nat} {θ : sv_T} {a1 : Int32} {r : Int32} {σ' : sv_S} (hB : sx_base θ)  (F : sv_F (sx_X qK qV) p m c cX4_scanNumber 5 s args wsX4_scanNumber RX4 D (sx_tys T) A) (hr : meth.sig.returnType = (some .int)) (hlk : meth.locks = false)  : ∀ (n : Nat), ∀ (x1 : Int32) (x2 : Int32) (x3 : Int32) (x4 : Int32) (σ : sv_S) (H : Heap) (locs : List Loc) (ls : Array Slot), lv_has ls 5 [(0, .ref (h 13)), (1, .int x1), (2, .int x2), (3, .int x3), (4, .int x4)] → sv_W D T A s h θ σ H locs → q_X4_scanNumber_B7 θ a1 n x1 x2 x3 x4 σ = some (r, σ') → W p l e (sv_rm 2 45) s m args below meth c H locs 0 0 (MQ below (va_Qi (fun r2 (_ : Unit) => r2 = r) (fun _ t => va_P D vwCl (sv_ws T h θ σ') t.heap) A) args s 0 0 A) (F0 m 7 ls []) := by
  have hx := F.1.1
  have hb := F.1.2.1
  have hts := F.1.2.2.2.2
  have hown := F.1.2.2.2.1
  have hK := F.2.1
  intro n
  induction n with
  | zero =>
    intro x1 x2 x3 x4 σ H locs ls hl hW hs
    have hs : (none : Option (Int32 × sv_S)) = some (r, σ') := hs
    cases hs
  | succ n ih =>
    intro x1 x2 x3 x4 σ H locs ls hl hW hs
    have hs : q_X4_scanNumber_B7_b θ a1 (q_X4_scanNumber_B7 θ a1 n) x1 x2 x3 x4 σ = some (r, σ') := hs
    unfold q_X4_scanNumber_B7_b at hs
    refine lv_iload hx hb dX4_scanNumber_7 (lv_at hl 4 rfl) ?_
    refine lv_aload_n hx hb dX4_scanNumber_9 rfl (lv_at hl 0 rfl) ?_
    refine sv_get (own := RX4) (C := RX4) (Tf := TX4) (N := 11) (index := 30) (κ := (0, 0)) (v := .int (σ.1 13 0)) hx hb hts hown hK hW (fun _ h => List.mem_cons_of_mem _ (List.mem_append_right _ h)) (sx_i 13 hB (by decide)) (sx_c13 hB) rfl 0 (by decide) rfl rfl (List.mem_of_getElem? (i := 1) rfl) dX4_scanNumber_10 ?_
    refine lv_icmp_ge (tgt := 61) hx hb dX4_scanNumber_13 (by decide) (fun c1 => ?_) (fun c1 => ?_)
    · replace hs := (sp_ite hs).1 c1
      exact b_X4_scanNumber_61 hB F hr hlk x1 x2 x3 σ H locs ls (lv_sub hl [0, 1, 2, 3] rfl) hW hs
    · replace hs := (sp_ite hs).2 c1
      refine lv_aload_n hx hb dX4_scanNumber_16 rfl (lv_at hl 0 rfl) ?_
      refine lv_iload hx hb dX4_scanNumber_17 (lv_at hl 4 rfl) ?_
      obtain ⟨r7, σ8, eσ8, hs⟩ := sp_bind hs
      refine sv_goI (σ' := σ8) (r := r7) hW F.2.2.2.1 (sv_runV (C := RX4) F hW (k_X4_byteAt hB eσ8 H.size) gX4_scanNumber_X4_byteAt rfl ⟨rfl, rfl⟩ 1 (by decide +kernel) (sv_room2 (by omega) (by omega)) (sx_i 13 hB (by decide)) (sx_c13 hB) rfl rfl hl.1 rfl (Nat.le_of_ble_eq_true rfl) dX4_scanNumber_19 ⟨Nat.zero_le _, Nat.zero_le _⟩) (fun H locs hW => ?_)
      obtain ⟨r9, σ10, eσ10, hs⟩ := sp_bind hs
      refine sv_goI (σ' := σ10) (r := r9) hW F.2.2.2.1 (sv_runT F hW (k_X4_isDigit hB eσ10 H.size) gX4_scanNumber_X4_isDigit rfl ⟨rfl, rfl⟩ 1 (by decide +kernel) (sv_room2 (by omega) (by omega)) rfl hl.1 rfl (Nat.le_of_ble_eq_true rfl) dX4_scanNumber_22 ⟨Nat.zero_le _, Nat.zero_le _⟩) (fun H locs hW => ?_)
      refine lv_if_eq (tgt := 61) hx hb dX4_scanNumber_25 (by decide) (fun c11 => ?_) (fun c11 => ?_)
      · replace hs := (sp_ite hs).1 c11
        exact b_X4_scanNumber_61 hB F hr hlk x1 x2 x3 σ10 H locs ls (lv_sub hl [0, 1, 2, 3] rfl) hW hs
      · replace hs := (sp_ite hs).2 c11
        refine lv_iload_n hx hb dX4_scanNumber_28 rfl (lv_at hl 2 rfl) ?_
        refine lv_iconst (v := 4) hx hb dX4_scanNumber_29 (by decide) ?_
        refine lv_icmp_ge (tgt := 50) hx hb dX4_scanNumber_30 (by decide) (fun c12 => ?_) (fun c12 => ?_)
        · replace hs := (sp_ite hs).1 c12
          refine lv_iload_n hx hb dX4_scanNumber_50 rfl (lv_at hl 3 rfl) ?_
          refine lv_istore_n (lv' := [(3, .int x3), (0, .ref (h 13)), (1, .int x1), (2, .int x2), (4, .int x4)]) hx hb dX4_scanNumber_51 rfl hl (by decide) rfl (fun ls hl => ?_)
          obtain ⟨v13, ev13⟩ : ∃ y : Int32, y = x2 + 1 := ⟨_, rfl⟩
          replace hs := sp_let hs ev13
          refine lv_iinc (v := v13) (lv' := [(2, .int v13), (3, .int x3), (0, .ref (h 13)), (1, .int x1), (4, .int x4)]) hx hb dX4_scanNumber_52 hl (k := 3) rfl (by rw [ev13]; rfl) (by decide) rfl (fun ls hl => ?_)
          obtain ⟨v14, ev14⟩ : ∃ y : Int32, y = x4 + 1 := ⟨_, rfl⟩
          replace hs := sp_let hs ev14
          refine lv_iinc (v := v14) (lv' := [(4, .int v14), (2, .int v13), (3, .int x3), (0, .ref (h 13)), (1, .int x1)]) hx hb dX4_scanNumber_55 hl (k := 4) rfl (by rw [ev14]; rfl) (by decide) rfl (fun ls hl => ?_)
          refine lv_goto (tgt := 7) hx hb dX4_scanNumber_58 (by decide) ?_
          exact ih x1 v13 x3 v14 σ10 H locs ls (lv_sub hl [3, 4, 1, 2, 0] rfl) hW hs
        · replace hs := (sp_ite hs).2 c12
          refine lv_iload_n hx hb dX4_scanNumber_33 rfl (lv_at hl 3 rfl) ?_
          refine lv_bipush (v := 10) hx hb dX4_scanNumber_34 (by decide) ?_
          refine lv_imul hx hb dX4_scanNumber_36 ?_
          refine lv_aload_n hx hb dX4_scanNumber_37 rfl (lv_at hl 0 rfl) ?_
          refine lv_iload hx hb dX4_scanNumber_38 (lv_at hl 4 rfl) ?_
          obtain ⟨r15, σ16, eσ16, hs⟩ := sp_bind hs
          refine sv_goI (σ' := σ16) (r := r15) hW F.2.2.2.1 (sv_runV (C := RX4) F hW (k_X4_byteAt hB eσ16 H.size) gX4_scanNumber_X4_byteAt rfl ⟨rfl, rfl⟩ 1 (by decide +kernel) (sv_room2 (by omega) (by omega)) (sx_i 13 hB (by decide)) (sx_c13 hB) rfl rfl hl.1 rfl (Nat.le_of_ble_eq_true rfl) dX4_scanNumber_40 ⟨Nat.zero_le _, Nat.zero_le _⟩) (fun H locs hW => ?_)
          refine lv_iadd hx hb dX4_scanNumber_43 ?_
          refine lv_bipush (v := 48) hx hb dX4_scanNumber_44 (by decide) ?_
          refine lv_isub hx hb dX4_scanNumber_46 ?_
          refine lv_goto (tgt := 51) hx hb dX4_scanNumber_47 (by decide) ?_
          refine lv_topi (fun v17 ev17 => ?_)
          replace hs := sp_let hs ev17
          refine lv_istore_n (lv' := [(3, .int v17), (0, .ref (h 13)), (1, .int x1), (2, .int x2), (4, .int x4)]) hx hb dX4_scanNumber_51 rfl hl (by decide) rfl (fun ls hl => ?_)
          obtain ⟨v18, ev18⟩ : ∃ y : Int32, y = x2 + 1 := ⟨_, rfl⟩
          replace hs := sp_let hs ev18
          refine lv_iinc (v := v18) (lv' := [(2, .int v18), (3, .int v17), (0, .ref (h 13)), (1, .int x1), (4, .int x4)]) hx hb dX4_scanNumber_52 hl (k := 3) rfl (by rw [ev18]; rfl) (by decide) rfl (fun ls hl => ?_)
          obtain ⟨v19, ev19⟩ : ∃ y : Int32, y = x4 + 1 := ⟨_, rfl⟩
          replace hs := sp_let hs ev19
          refine lv_iinc (v := v19) (lv' := [(4, .int v19), (2, .int v18), (3, .int v17), (0, .ref (h 13)), (1, .int x1)]) hx hb dX4_scanNumber_55 hl (k := 4) rfl (by rw [ev19]; rfl) (by decide) rfl (fun ls hl => ?_)
          refine lv_goto (tgt := 7) hx hb dX4_scanNumber_58 (by decide) ?_
          exact ih x1 v18 v17 v19 σ16 H locs ls (lv_sub hl [3, 4, 1, 2, 0] rfl) hW hs
set_option maxRecDepth 100000 in
set_option maxHeartbeats 4000000 in
theorem k_X4_scanNumber {qK qV : Nat → Nat} {l : Launch} {D : va_G} {T : Nat → ClassId} {h : Nat → Nat} {θ : sv_T} {a1 : Int32} {σ : sv_S} {r : Int32} {σ' : sv_S} (hB : sx_base θ)  (hs : q_X4_scanNumber θ a1 σ = some (r, σ')) : sv_Mi (sx_X qK qV) l D T (sx_tys T) h θ yX4_scanNumber wsX4_scanNumber (sv_rm 2 45) [.ref (h 13), .int a1] σ r σ' := by
  intro sz
  refine sv_enter (cc := cX4_scanNumber) (maxL := 5) (ret := (some .int)) (Qc := fun A => va_Qi (fun r2 (_ : Unit) => r2 = r) (fun _ t => va_P D vwCl (sv_ws T h θ σ') t.heap) A) sx_XP (by decide) rfl (Nat.le_of_ble_eq_true rfl) ?_
  intro p e s m args below meth c A F hr hlk ls H hl hW
  have hx := F.1.1
  have hb := F.1.2.1
  have hts := F.1.2.2.2.2
  have hown := F.1.2.2.2.1
  have hK := F.2.1
  obtain ⟨locs, hlocs⟩ : ∃ z : List Loc, z = [] := ⟨_, rfl⟩
  rw [← hlocs] at hW ⊢
  have hl : lv_has ls 5 [(0, .ref (h 13)), (1, .int a1)] := hl
  unfold q_X4_scanNumber at hs
  refine lv_iconst (v := 0) hx hb dX4_scanNumber_0 (by decide) ?_
  refine lv_istore_n (lv' := [(2, .int (0 : Int32)), (0, .ref (h 13)), (1, .int a1)]) hx hb dX4_scanNumber_1 rfl hl (by decide) rfl (fun ls hl => ?_)
  refine lv_iconst (v := 0) hx hb dX4_scanNumber_2 (by decide) ?_
  refine lv_istore_n (lv' := [(3, .int (0 : Int32)), (2, .int (0 : Int32)), (0, .ref (h 13)), (1, .int a1)]) hx hb dX4_scanNumber_3 rfl hl (by decide) rfl (fun ls hl => ?_)
  refine lv_iload_n hx hb dX4_scanNumber_4 rfl (lv_at hl 3 rfl) ?_
  refine lv_istore (lv' := [(4, .int a1), (3, .int (0 : Int32)), (2, .int (0 : Int32)), (0, .ref (h 13)), (1, .int a1)]) hx hb dX4_scanNumber_5 hl (by decide) rfl (fun ls hl => ?_)
  exact b_X4_scanNumber_7 hB F hr hlk sv_N a1 (0 : Int32) (0 : Int32) a1 σ H locs ls (lv_sub hl [3, 4, 2, 1, 0] rfl) hW hs
set_option maxRecDepth 100000 in
set_option maxHeartbeats 4000000 in
theorem b_X4_isSign_12 {qK qV : Nat → Nat} {p : Program} {l : Launch} {e : Env} {s : State} {m : MethodId} {args : Array Value} {below : List Frame} {meth : Method} {c : Code} {D : va_G} {T : Nat → ClassId} {A : Nat → Prop} {h : Nat → Nat} {θ : sv_T} {a1 : Int32} {r : Int32} {σ' : sv_S} (hB : sx_base θ)  (F : sv_F (sx_X qK qV) p m c cX4_isSign 1 s args wsX4_isSign RX4 D (sx_tys T) A) (hr : meth.sig.returnType = (some .boolean)) (hlk : meth.locks = false)  : ∀ (x0 : Int32) (σ : sv_S) (H : Heap) (locs : List Loc) (ls : Array Slot), lv_has ls 1 [(0, .int x0)] → sv_W D T A s h θ σ H locs → q_X4_isSign_B12 θ a1 x0 σ = some (r, σ') → W p l e (sv_rm 0 0) s m args below meth c H locs 0 0 (MQ below (va_Qi (fun r2 (_ : Unit) => r2 = r) (fun _ t => va_P D vwCl (sv_ws T h θ σ') t.heap) A) args s 0 0 A) (F0 m 12 ls []) := by
  have hx := F.1.1
  have hb := F.1.2.1
  have hts := F.1.2.2.2.2
  have hown := F.1.2.2.2.1
  have hK := F.2.1
  intro x0 σ H locs ls hl hW hs
  unfold q_X4_isSign_B12 at hs
  refine lv_iload_n hx hb dX4_isSign_12 rfl (lv_at hl 0 rfl) ?_
  refine lv_bipush (v := 45) hx hb dX4_isSign_13 (by decide) ?_
  refine lv_icmp_eq (tgt := 30) hx hb dX4_isSign_15 (by decide) (fun c2 => ?_) (fun c2 => ?_)
  · replace hs := (sp_ite hs).1 c2
    refine lv_iconst (v := 1) hx hb dX4_isSign_30 (by decide) ?_
    refine lv_goto (tgt := 35) hx hb dX4_isSign_31 (by decide) ?_
    cases hs
    exact sv_iret hx hb hr rfl hlk hW dX4_isSign_35
  · replace hs := (sp_ite hs).2 c2
    refine lv_iload_n hx hb dX4_isSign_18 rfl (lv_at hl 0 rfl) ?_
    refine lv_bipush (v := 59) hx hb dX4_isSign_19 (by decide) ?_
    refine lv_icmp_lt (tgt := 34) hx hb dX4_isSign_21 (by decide) (fun c3 => ?_) (fun c3 => ?_)
    · replace hs := (sp_ite hs).1 c3
      refine lv_iconst (v := 0) hx hb dX4_isSign_34 (by decide) ?_
      cases hs
      exact sv_iret hx hb hr rfl hlk hW dX4_isSign_35
    · replace hs := (sp_ite hs).2 c3
      refine lv_iload_n hx hb dX4_isSign_24 rfl (lv_at hl 0 rfl) ?_
      refine lv_bipush (v := 61) hx hb dX4_isSign_25 (by decide) ?_
      refine lv_icmp_gt (tgt := 34) hx hb dX4_isSign_27 (by decide) (fun c4 => ?_) (fun c4 => ?_)
      · replace hs := (sp_ite hs).1 c4
        refine lv_iconst (v := 0) hx hb dX4_isSign_34 (by decide) ?_
        cases hs
        exact sv_iret hx hb hr rfl hlk hW dX4_isSign_35
      · replace hs := (sp_ite hs).2 c4
        refine lv_iconst (v := 1) hx hb dX4_isSign_30 (by decide) ?_
        refine lv_goto (tgt := 35) hx hb dX4_isSign_31 (by decide) ?_
        cases hs
        exact sv_iret hx hb hr rfl hlk hW dX4_isSign_35
set_option maxRecDepth 100000 in
set_option maxHeartbeats 4000000 in
theorem k_X4_isSign {qK qV : Nat → Nat} {l : Launch} {D : va_G} {T : Nat → ClassId} {h : Nat → Nat} {θ : sv_T} {a1 : Int32} {σ : sv_S} {r : Int32} {σ' : sv_S} (hB : sx_base θ)  (hs : q_X4_isSign θ a1 σ = some (r, σ')) : sv_Mi (sx_X qK qV) l D T (sx_tys T) h θ yX4_isSign wsX4_isSign (sv_rm 0 0) [.int a1] σ r σ' := by
  intro sz
  refine sv_enter (cc := cX4_isSign) (maxL := 1) (ret := (some .boolean)) (Qc := fun A => va_Qi (fun r2 (_ : Unit) => r2 = r) (fun _ t => va_P D vwCl (sv_ws T h θ σ') t.heap) A) sx_XP (by decide) rfl (Nat.le_of_ble_eq_true rfl) ?_
  intro p e s m args below meth c A F hr hlk ls H hl hW
  have hx := F.1.1
  have hb := F.1.2.1
  have hts := F.1.2.2.2.2
  have hown := F.1.2.2.2.1
  have hK := F.2.1
  obtain ⟨locs, hlocs⟩ : ∃ z : List Loc, z = [] := ⟨_, rfl⟩
  rw [← hlocs] at hW ⊢
  have hl : lv_has ls 1 [(0, .int a1)] := hl
  unfold q_X4_isSign at hs
  refine lv_iload_n hx hb dX4_isSign_0 rfl (lv_at hl 0 rfl) ?_
  refine lv_bipush (v := 40) hx hb dX4_isSign_1 (by decide) ?_
  refine lv_icmp_lt (tgt := 12) hx hb dX4_isSign_3 (by decide) (fun c1 => ?_) (fun c1 => ?_)
  · replace hs := (sp_ite hs).1 c1
    exact b_X4_isSign_12 hB F hr hlk a1 σ H locs ls (lv_sub hl [0] rfl) hW hs
  · replace hs := (sp_ite hs).2 c1
    refine lv_iload_n hx hb dX4_isSign_6 rfl (lv_at hl 0 rfl) ?_
    refine lv_bipush (v := 43) hx hb dX4_isSign_7 (by decide) ?_
    refine lv_icmp_le (tgt := 30) hx hb dX4_isSign_9 (by decide) (fun c5 => ?_) (fun c5 => ?_)
    · replace hs := (sp_ite hs).1 c5
      refine lv_iconst (v := 1) hx hb dX4_isSign_30 (by decide) ?_
      refine lv_goto (tgt := 35) hx hb dX4_isSign_31 (by decide) ?_
      cases hs
      exact sv_iret hx hb hr rfl hlk hW dX4_isSign_35
    · replace hs := (sp_ite hs).2 c5
      exact b_X4_isSign_12 hB F hr hlk a1 σ H locs ls (lv_sub hl [0] rfl) hW hs
set_option maxRecDepth 100000 in
set_option maxHeartbeats 4000000 in
theorem k_X4_scanOne {qK qV : Nat → Nat} {l : Launch} {D : va_G} {T : Nat → ClassId} {h : Nat → Nat} {θ : sv_T} {a1 : Int32} {σ : sv_S} {r : Int32} {σ' : sv_S} (hB : sx_base θ)  (hs : q_X4_scanOne θ a1 σ = some (r, σ')) : sv_Mi (sx_X qK qV) l D T (sx_tys T) h θ yX4_scanOne wsX4_scanOne (sv_rm 8 234) [.ref (h 13), .int a1] σ r σ' := by
  intro sz
  refine sv_enter (cc := cX4_scanOne) (maxL := 3) (ret := (some .int)) (Qc := fun A => va_Qi (fun r2 (_ : Unit) => r2 = r) (fun _ t => va_P D vwCl (sv_ws T h θ σ') t.heap) A) sx_XP (by decide) rfl (Nat.le_of_ble_eq_true rfl) ?_
  intro p e s m args below meth c A F hr hlk ls H hl hW
  have hx := F.1.1
  have hb := F.1.2.1
  have hts := F.1.2.2.2.2
  have hown := F.1.2.2.2.1
  have hK := F.2.1
  obtain ⟨locs, hlocs⟩ : ∃ z : List Loc, z = [] := ⟨_, rfl⟩
  rw [← hlocs] at hW ⊢
  have hl : lv_has ls 3 [(0, .ref (h 13)), (1, .int a1)] := hl
  unfold q_X4_scanOne at hs
  refine lv_aload_n hx hb dX4_scanOne_0 rfl (lv_at hl 0 rfl) ?_
  refine lv_iload_n hx hb dX4_scanOne_1 rfl (lv_at hl 1 rfl) ?_
  obtain ⟨r1, σ2, eσ2, hs⟩ := sp_bind hs
  refine sv_goI (σ' := σ2) (r := r1) hW F.2.2.2.1 (sv_runV (C := RX4) F hW (k_X4_byteAt hB eσ2 H.size) gX4_scanOne_X4_byteAt rfl ⟨rfl, rfl⟩ 1 (by decide +kernel) (sv_room2 (by omega) (by omega)) (sx_i 13 hB (by decide)) (sx_c13 hB) rfl rfl hl.1 rfl (Nat.le_of_ble_eq_true rfl) dX4_scanOne_2 ⟨Nat.zero_le _, Nat.zero_le _⟩) (fun H locs hW => ?_)
  refine lv_istore_n (lv' := [(2, .int r1), (0, .ref (h 13)), (1, .int a1)]) hx hb dX4_scanOne_5 rfl hl (by decide) rfl (fun ls hl => ?_)
  refine lv_iload_n hx hb dX4_scanOne_6 rfl (lv_at hl 0 rfl) ?_
  obtain ⟨r3, σ4, eσ4, hs⟩ := sp_bind hs
  refine sv_goI (σ' := σ4) (r := r3) hW F.2.2.2.1 (sv_runT F hW (k_X4_isLetter hB eσ4 H.size) gX4_scanOne_X4_isLetter rfl ⟨rfl, rfl⟩ 1 (by decide +kernel) (sv_room2 (by omega) (by omega)) rfl hl.1 rfl (Nat.le_of_ble_eq_true rfl) dX4_scanOne_7 ⟨Nat.zero_le _, Nat.zero_le _⟩) (fun H locs hW => ?_)
  refine lv_if_eq (tgt := 19) hx hb dX4_scanOne_10 (by decide) (fun c5 => ?_) (fun c5 => ?_)
  · replace hs := (sp_ite hs).1 c5
    refine lv_iload_n hx hb dX4_scanOne_19 rfl (lv_at hl 0 rfl) ?_
    obtain ⟨r6, σ7, eσ7, hs⟩ := sp_bind hs
    refine sv_goI (σ' := σ7) (r := r6) hW F.2.2.2.1 (sv_runT F hW (k_X4_isDigit hB eσ7 H.size) gX4_scanOne_X4_isDigit rfl ⟨rfl, rfl⟩ 1 (by decide +kernel) (sv_room2 (by omega) (by omega)) rfl hl.1 rfl (Nat.le_of_ble_eq_true rfl) dX4_scanOne_20 ⟨Nat.zero_le _, Nat.zero_le _⟩) (fun H locs hW => ?_)
    refine lv_if_eq (tgt := 32) hx hb dX4_scanOne_23 (by decide) (fun c8 => ?_) (fun c8 => ?_)
    · replace hs := (sp_ite hs).1 c8
      refine lv_iload_n hx hb dX4_scanOne_32 rfl (lv_at hl 0 rfl) ?_
      refine lv_bipush (v := 32) hx hb dX4_scanOne_33 (by decide) ?_
      refine lv_icmp_eq (tgt := 62) hx hb dX4_scanOne_35 (by decide) (fun c9 => ?_) (fun c9 => ?_)
      · replace hs := (sp_ite hs).1 c9
        refine lv_iconst (v := 1) hx hb dX4_scanOne_62 (by decide) ?_
        cases hs
        exact sv_iret hx hb hr rfl hlk hW dX4_scanOne_63
      · replace hs := (sp_ite hs).2 c9
        refine lv_iload_n hx hb dX4_scanOne_38 rfl (lv_at hl 0 rfl) ?_
        refine lv_bipush (v := 10) hx hb dX4_scanOne_39 (by decide) ?_
        refine lv_icmp_eq (tgt := 62) hx hb dX4_scanOne_41 (by decide) (fun c10 => ?_) (fun c10 => ?_)
        · replace hs := (sp_ite hs).1 c10
          refine lv_iconst (v := 1) hx hb dX4_scanOne_62 (by decide) ?_
          cases hs
          exact sv_iret hx hb hr rfl hlk hW dX4_scanOne_63
        · replace hs := (sp_ite hs).2 c10
          refine lv_aload_n hx hb dX4_scanOne_44 rfl (lv_at hl 1 rfl) ?_
          refine lv_iload_n hx hb dX4_scanOne_45 rfl (lv_at hl 0 rfl) ?_
          obtain ⟨r11, σ12, eσ12, hs⟩ := sp_bind hs
          refine sv_goI (σ' := σ12) (r := r11) hW F.2.2.2.1 (sv_runT F hW (k_X4_isSign hB eσ12 H.size) gX4_scanOne_X4_isSign rfl ⟨rfl, rfl⟩ 1 (by decide +kernel) (sv_room2 (by omega) (by omega)) rfl hl.1 rfl (Nat.le_of_ble_eq_true rfl) dX4_scanOne_46 ⟨Nat.zero_le _, Nat.zero_le _⟩) (fun H locs hW => ?_)
          refine lv_if_eq (tgt := 56) hx hb dX4_scanOne_49 (by decide) (fun c13 => ?_) (fun c13 => ?_)
          · replace hs := (sp_ite hs).1 c13
            refine lv_iconst (v := -1) hx hb dX4_scanOne_56 (by decide) ?_
            refine lv_iload_n hx hb dX4_scanOne_57 rfl (lv_at hl 2 rfl) ?_
            refine lv_iconst (v := 0) hx hb dX4_scanOne_58 (by decide) ?_
            obtain ⟨r14, σ15, eσ15, hs⟩ := sp_bind hs
            refine sv_goV (σ' := σ15) (r := r14) hW F.2.2.2.1 (sv_runV (C := RX4) F hW (k_X4_addToken hB eσ15 H.size) gX4_scanOne_X4_addToken rfl ⟨rfl, rfl⟩ 3 (by decide +kernel) (sv_room2 (by omega) (by omega)) (sx_i 13 hB (by decide)) (sx_c13 hB) rfl rfl hl.1 rfl (Nat.le_of_ble_eq_true rfl) dX4_scanOne_59 ⟨Nat.zero_le _, Nat.zero_le _⟩) (fun H locs hW => ?_)
            refine lv_iconst (v := 1) hx hb dX4_scanOne_62 (by decide) ?_
            cases hs
            exact sv_iret hx hb hr rfl hlk hW dX4_scanOne_63
          · replace hs := (sp_ite hs).2 c13
            refine lv_iload_n hx hb dX4_scanOne_52 rfl (lv_at hl 0 rfl) ?_
            refine lv_goto (tgt := 57) hx hb dX4_scanOne_53 (by decide) ?_
            refine lv_iload_n hx hb dX4_scanOne_57 rfl (lv_at hl 2 rfl) ?_
            refine lv_iconst (v := 0) hx hb dX4_scanOne_58 (by decide) ?_
            obtain ⟨r16, σ17, eσ17, hs⟩ := sp_bind hs
            refine sv_goV (σ' := σ17) (r := r16) hW F.2.2.2.1 (sv_runV (C := RX4) F hW (k_X4_addToken hB eσ17 H.size) gX4_scanOne_X4_addToken rfl ⟨rfl, rfl⟩ 3 (by decide +kernel) (sv_room2 (by omega) (by omega)) (sx_i 13 hB (by decide)) (sx_c13 hB) rfl rfl hl.1 rfl (Nat.le_of_ble_eq_true rfl) dX4_scanOne_59 ⟨Nat.zero_le _, Nat.zero_le _⟩) (fun H locs hW => ?_)
            refine lv_iconst (v := 1) hx hb dX4_scanOne_62 (by decide) ?_
            cases hs
            exact sv_iret hx hb hr rfl hlk hW dX4_scanOne_63
    · replace hs := (sp_ite hs).2 c8
      refine lv_aload_n hx hb dX4_scanOne_26 rfl (lv_at hl 1 rfl) ?_
      refine lv_iload_n hx hb dX4_scanOne_27 rfl (lv_at hl 2 rfl) ?_
      obtain ⟨r18, σ19, eσ19, hs⟩ := sp_bind hs
      refine sv_goI (σ' := σ19) (r := r18) hW F.2.2.2.1 (sv_runV (C := RX4) F hW (k_X4_scanNumber hB eσ19 H.size) gX4_scanOne_X4_scanNumber rfl ⟨rfl, rfl⟩ 1 (by decide +kernel) (sv_room2 (by omega) (by omega)) (sx_i 13 hB (by decide)) (sx_c13 hB) rfl rfl hl.1 rfl (Nat.le_of_ble_eq_true rfl) dX4_scanOne_28 ⟨Nat.zero_le _, Nat.zero_le _⟩) (fun H locs hW => ?_)
      cases hs
      exact sv_iret hx hb hr rfl hlk hW dX4_scanOne_31
  · replace hs := (sp_ite hs).2 c5
    refine lv_aload_n hx hb dX4_scanOne_13 rfl (lv_at hl 1 rfl) ?_
    refine lv_iload_n hx hb dX4_scanOne_14 rfl (lv_at hl 2 rfl) ?_
    obtain ⟨r20, σ21, eσ21, hs⟩ := sp_bind hs
    refine sv_goI (σ' := σ21) (r := r20) hW F.2.2.2.1 (sv_runV (C := RX4) F hW (k_X4_scanWord hB eσ21 H.size) gX4_scanOne_X4_scanWord rfl ⟨rfl, rfl⟩ 1 (by decide +kernel) (sv_room2 (by omega) (by omega)) (sx_i 13 hB (by decide)) (sx_c13 hB) rfl rfl hl.1 rfl (Nat.le_of_ble_eq_true rfl) dX4_scanOne_15 ⟨Nat.zero_le _, Nat.zero_le _⟩) (fun H locs hW => ?_)
    cases hs
    exact sv_iret hx hb hr rfl hlk hW dX4_scanOne_18
set_option maxRecDepth 100000 in
set_option maxHeartbeats 4000000 in
theorem b_X4_scan_9 {qK qV : Nat → Nat} {p : Program} {l : Launch} {e : Env} {s : State} {m : MethodId} {args : Array Value} {below : List Frame} {meth : Method} {c : Code} {D : va_G} {T : Nat → ClassId} {A : Nat → Prop} {h : Nat → Nat} {θ : sv_T}  {r : Unit} {σ' : sv_S} (hB : sx_base θ)  (F : sv_F (sx_X qK qV) p m c cX4_scan 3 s args wsX4_scan RX4 D (sx_tys T) A) (hr : meth.sig.returnType = none) (hlk : meth.locks = false)  : ∀ (n : Nat), ∀ (x1 : Int32) (x2 : Int32) (σ : sv_S) (H : Heap) (locs : List Loc) (ls : Array Slot), lv_has ls 3 [(0, .ref (h 13)), (1, .int x1), (2, .int x2)] → sv_W D T A s h θ σ H locs → q_X4_scan_B9 θ  n x1 x2 σ = some (r, σ') → W p l e (sv_rm 9 256) s m args below meth c H locs 0 0 (MQ below (va_Qv (fun (_ : Unit) => True) (fun _ t => va_P D vwCl (sv_ws T h θ σ') t.heap) A) args s 0 0 A) (F0 m 9 ls []) := by
  have hx := F.1.1
  have hb := F.1.2.1
  have hts := F.1.2.2.2.2
  have hown := F.1.2.2.2.1
  have hK := F.2.1
  intro n
  induction n with
  | zero =>
    intro x1 x2 σ H locs ls hl hW hs
    have hs : (none : Option (Unit × sv_S)) = some (r, σ') := hs
    cases hs
  | succ n ih =>
    intro x1 x2 σ H locs ls hl hW hs
    have hs : q_X4_scan_B9_b θ  (q_X4_scan_B9 θ  n) x1 x2 σ = some (r, σ') := hs
    unfold q_X4_scan_B9_b at hs
    refine lv_iload_n hx hb dX4_scan_9 rfl (lv_at hl 2 rfl) ?_
    refine lv_aload_n hx hb dX4_scan_10 rfl (lv_at hl 0 rfl) ?_
    refine sv_get (own := RX4) (C := RX4) (Tf := TX4) (N := 11) (index := 30) (κ := (0, 0)) (v := .int (σ.1 13 0)) hx hb hts hown hK hW (fun _ h => List.mem_cons_of_mem _ (List.mem_append_right _ h)) (sx_i 13 hB (by decide)) (sx_c13 hB) rfl 0 (by decide) rfl rfl (List.mem_of_getElem? (i := 2) rfl) dX4_scan_11 ?_
    refine lv_icmp_ge (tgt := 36) hx hb dX4_scan_14 (by decide) (fun c2 => ?_) (fun c2 => ?_)
    · replace hs := (sp_ite hs).1 c2
      refine lv_aload_n hx hb dX4_scan_36 rfl (lv_at hl 0 rfl) ?_
      refine lv_iconst (v := 0) hx hb dX4_scan_37 (by decide) ?_
      refine lv_aload_n hx hb dX4_scan_38 rfl (lv_at hl 0 rfl) ?_
      refine sv_get (own := RX4) (C := RX4) (Tf := TX4) (N := 11) (index := 30) (κ := (0, 0)) (v := .int (σ.1 13 0)) hx hb hts hown hK hW (fun _ h => List.mem_cons_of_mem _ (List.mem_append_right _ h)) (sx_i 13 hB (by decide)) (sx_c13 hB) rfl 0 (by decide) rfl rfl (List.mem_of_getElem? (i := 2) rfl) dX4_scan_39 ?_
      refine lv_iconst (v := 0) hx hb dX4_scan_42 (by decide) ?_
      obtain ⟨r3, σ4, eσ4, hs⟩ := sp_bind hs
      refine sv_goV (σ' := σ4) (r := r3) hW F.2.2.2.1 (sv_runV (C := RX4) F hW (k_X4_addToken hB eσ4 H.size) gX4_scan_X4_addToken rfl ⟨rfl, rfl⟩ 3 (by decide +kernel) (sv_room2 (by omega) (by omega)) (sx_i 13 hB (by decide)) (sx_c13 hB) rfl rfl hl.1 rfl (Nat.le_of_ble_eq_true rfl) dX4_scan_43 ⟨Nat.zero_le _, Nat.zero_le _⟩) (fun H locs hW => ?_)
      cases hs
      exact sv_vret hx hb hr hlk hW dX4_scan_46
    · replace hs := (sp_ite hs).2 c2
      refine lv_iload_n hx hb dX4_scan_17 rfl (lv_at hl 2 rfl) ?_
      refine lv_iload_n hx hb dX4_scan_18 rfl (lv_at hl 1 rfl) ?_
      refine lv_icmp_lt (tgt := 30) hx hb dX4_scan_19 (by decide) (fun c5 => ?_) (fun c5 => ?_)
      · replace hs := (sp_ite hs).1 c5
        obtain ⟨v6, ev6⟩ : ∃ y : Int32, y = x2 + 1 := ⟨_, rfl⟩
        replace hs := sp_let hs ev6
        refine lv_iinc (v := v6) (lv' := [(2, .int v6), (0, .ref (h 13)), (1, .int x1)]) hx hb dX4_scan_30 hl (k := 2) rfl (by rw [ev6]; rfl) (by decide) rfl (fun ls hl => ?_)
        refine lv_goto (tgt := 9) hx hb dX4_scan_33 (by decide) ?_
        exact ih x1 v6 σ H locs ls (lv_sub hl [1, 2, 0] rfl) hW hs
      · replace hs := (sp_ite hs).2 c5
        refine lv_iload_n hx hb dX4_scan_22 rfl (lv_at hl 2 rfl) ?_
        refine lv_aload_n hx hb dX4_scan_23 rfl (lv_at hl 0 rfl) ?_
        refine lv_iload_n hx hb dX4_scan_24 rfl (lv_at hl 2 rfl) ?_
        obtain ⟨r7, σ8, eσ8, hs⟩ := sp_bind hs
        refine sv_goI (σ' := σ8) (r := r7) hW F.2.2.2.1 (sv_runV (C := RX4) F hW (k_X4_scanOne hB eσ8 H.size) gX4_scan_X4_scanOne rfl ⟨rfl, rfl⟩ 1 (by decide +kernel) (sv_room2 (by omega) (by omega)) (sx_i 13 hB (by decide)) (sx_c13 hB) rfl rfl hl.1 rfl (Nat.le_of_ble_eq_true rfl) dX4_scan_25 ⟨Nat.zero_le _, Nat.zero_le _⟩) (fun H locs hW => ?_)
        refine lv_iadd hx hb dX4_scan_28 ?_
        refine lv_topi (fun v9 ev9 => ?_)
        replace hs := sp_let hs ev9
        refine lv_istore_n (lv' := [(1, .int v9), (0, .ref (h 13)), (2, .int x2)]) hx hb dX4_scan_29 rfl hl (by decide) rfl (fun ls hl => ?_)
        obtain ⟨v10, ev10⟩ : ∃ y : Int32, y = x2 + 1 := ⟨_, rfl⟩
        replace hs := sp_let hs ev10
        refine lv_iinc (v := v10) (lv' := [(2, .int v10), (1, .int v9), (0, .ref (h 13))]) hx hb dX4_scan_30 hl (k := 2) rfl (by rw [ev10]; rfl) (by decide) rfl (fun ls hl => ?_)
        refine lv_goto (tgt := 9) hx hb dX4_scan_33 (by decide) ?_
        exact ih v9 v10 σ8 H locs ls (lv_sub hl [2, 1, 0] rfl) hW hs
set_option maxRecDepth 100000 in
set_option maxHeartbeats 4000000 in
theorem k_X4_scan {qK qV : Nat → Nat} {l : Launch} {D : va_G} {T : Nat → ClassId} {h : Nat → Nat} {θ : sv_T}  {σ : sv_S} {r : Unit} {σ' : sv_S} (hB : sx_base θ)  (hs : q_X4_scan θ  σ = some (r, σ')) : sv_Mv (sx_X qK qV) l D T (sx_tys T) h θ yX4_scan wsX4_scan (sv_rm 9 256) [.ref (h 13)] σ r σ' := by
  intro sz
  refine sv_enter (cc := cX4_scan) (maxL := 3) (ret := none) (Qc := fun A => va_Qv (fun (_ : Unit) => True) (fun _ t => va_P D vwCl (sv_ws T h θ σ') t.heap) A) sx_XP (by decide) rfl (Nat.le_of_ble_eq_true rfl) ?_
  intro p e s m args below meth c A F hr hlk ls H hl hW
  have hx := F.1.1
  have hb := F.1.2.1
  have hts := F.1.2.2.2.2
  have hown := F.1.2.2.2.1
  have hK := F.2.1
  obtain ⟨locs, hlocs⟩ : ∃ z : List Loc, z = [] := ⟨_, rfl⟩
  rw [← hlocs] at hW ⊢
  have hl : lv_has ls 3 [(0, .ref (h 13))] := hl
  unfold q_X4_scan at hs
  refine lv_aload_n hx hb dX4_scan_0 rfl (lv_at hl 0 rfl) ?_
  refine lv_iconst (v := 0) hx hb dX4_scan_1 (by decide) ?_
  refine sv_putI (own := RX4) (C := RX4) (Tf := TX4) (N := 11) (index := 71) hx hb hts hown hK hW (fun _ h => List.mem_cons_of_mem _ (List.mem_append_right _ h)) tyX4 tyX4_ok nmX4 (sx_i 13 hB (by decide)) (sx_c13 hB) rfl 6 (by decide) rfl rfl (ty := .int) (by decide +kernel) rfl rfl (List.mem_of_getElem? (i := 1) rfl) dX4_scan_2 (fun σ1 H locs eσ1 hW => ?_)
  replace hs := sp_let hs eσ1
  refine lv_iconst (v := 0) hx hb dX4_scan_5 (by decide) ?_
  refine lv_istore_n (lv' := [(1, .int (0 : Int32)), (0, .ref (h 13))]) hx hb dX4_scan_6 rfl hl (by decide) rfl (fun ls hl => ?_)
  refine lv_iconst (v := 0) hx hb dX4_scan_7 (by decide) ?_
  refine lv_istore_n (lv' := [(2, .int (0 : Int32)), (1, .int (0 : Int32)), (0, .ref (h 13))]) hx hb dX4_scan_8 rfl hl (by decide) rfl (fun ls hl => ?_)
  exact b_X4_scan_9 hB F hr hlk sv_N (0 : Int32) (0 : Int32) σ1 H locs ls (lv_sub hl [2, 1, 0] rfl) hW hs
set_option maxRecDepth 100000 in
set_option maxHeartbeats 4000000 in
theorem k_X4_token {qK qV : Nat → Nat} {l : Launch} {D : va_G} {T : Nat → ClassId} {h : Nat → Nat} {θ : sv_T}  {σ : sv_S} {r : Int32} {σ' : sv_S} (hB : sx_base θ)  (hs : q_X4_token θ  σ = some (r, σ')) : sv_Mi (sx_X qK qV) l D T (sx_tys T) h θ yX4_token wsX4_token (sv_rm 1 21) [.ref (h 13)] σ r σ' := by
  intro sz
  refine sv_enter (cc := cX4_token) (maxL := 1) (ret := (some .int)) (Qc := fun A => va_Qi (fun r2 (_ : Unit) => r2 = r) (fun _ t => va_P D vwCl (sv_ws T h θ σ') t.heap) A) sx_XP (by decide) rfl (Nat.le_of_ble_eq_true rfl) ?_
  intro p e s m args below meth c A F hr hlk ls H hl hW
  have hx := F.1.1
  have hb := F.1.2.1
  have hts := F.1.2.2.2.2
  have hown := F.1.2.2.2.1
  have hK := F.2.1
  obtain ⟨locs, hlocs⟩ : ∃ z : List Loc, z = [] := ⟨_, rfl⟩
  rw [← hlocs] at hW ⊢
  have hl : lv_has ls 1 [(0, .ref (h 13))] := hl
  unfold q_X4_token at hs
  refine lv_aload_n hx hb dX4_token_0 rfl (lv_at hl 0 rfl) ?_
  refine sv_get (own := RX4) (C := RX4) (Tf := TX4) (N := 11) (index := 47) (κ := (0, 0)) (v := .int (σ.1 13 1)) hx hb hts hown hK hW (fun _ h => List.mem_cons_of_mem _ (List.mem_append_right _ h)) (sx_i 13 hB (by decide)) (sx_c13 hB) rfl 1 (by decide) rfl rfl (List.mem_of_getElem? (i := 1) rfl) dX4_token_1 ?_
  refine lv_iconst (v := -1) hx hb dX4_token_4 (by decide) ?_
  refine lv_icmp_ne (tgt := 22) hx hb dX4_token_5 (by decide) (fun c1 => ?_) (fun c1 => ?_)
  · replace hs := (sp_ite hs).2 c1
    refine lv_iconst (v := -1) hx hb dX4_token_22 (by decide) ?_
    cases hs
    exact sv_iret hx hb hr rfl hlk hW dX4_token_23
  · replace hs := (sp_ite hs).1 c1
    refine lv_aload_n hx hb dX4_token_8 rfl (lv_at hl 0 rfl) ?_
    refine sv_get (own := RX4) (C := RX4) (Tf := TX4) (N := 11) (index := 15) (κ := (3, 2)) (v := .ref (h 15)) hx hb hts hown hK hW (fun _ h => List.mem_cons_of_mem _ (List.mem_append_right _ h)) (sx_i 13 hB (by decide)) (sx_c13 hB) rfl 3 (by decide) rfl rfl (List.mem_of_getElem? (i := 2) rfl) dX4_token_9 ?_
    refine lv_aload_n hx hb dX4_token_12 rfl (lv_at hl 0 rfl) ?_
    refine sv_get (own := RX4) (C := RX4) (Tf := TX4) (N := 11) (index := 41) (κ := (0, 0)) (v := .int (σ.1 13 7)) hx hb hts hown hK hW (fun _ h => List.mem_cons_of_mem _ (List.mem_append_right _ h)) (sx_i 13 hB (by decide)) (sx_c13 hB) rfl 7 (by decide) rfl rfl (List.mem_of_getElem? (i := 3) rfl) dX4_token_13 ?_
    obtain ⟨r2, σ3, eσ3, hs⟩ := sp_bind hs
    refine sv_goI (σ' := σ3) (r := r2) hW F.2.2.2.1 (sv_runN (own := RX4) (host := "OpenWhileItRains") F hW (k_X7_at hB (sv_oA_of (sx_i 15 hB (by decide)) (sx_c15 hB)) eσ3 H.size) gX4_token_X7_at_n119 rfl ⟨rfl, rfl⟩ (F.2.2.1.1 _ (List.mem_of_getElem? (i := 7) rfl)) (List.mem_of_getElem? (i := 5) rfl) (List.mem_of_getElem? (i := 4) rfl) 2 (by decide +kernel) (sv_room2 (by omega) (by omega)) rfl hl.1 rfl (Nat.le_of_ble_eq_true rfl) dX4_token_16 ⟨Nat.zero_le _, Nat.zero_le _⟩) (fun H locs hW => ?_)
    refine lv_goto (tgt := 23) hx hb dX4_token_19 (by decide) ?_
    cases hs
    exact sv_iret hx hb hr rfl hlk hW dX4_token_23
set_option maxRecDepth 100000 in
set_option maxHeartbeats 4000000 in
theorem k_X4_fail {qK qV : Nat → Nat} {l : Launch} {D : va_G} {T : Nat → ClassId} {h : Nat → Nat} {θ : sv_T}  {σ : sv_S} {r : Unit} {σ' : sv_S} (hB : sx_base θ)  (hs : q_X4_fail θ  σ = some (r, σ')) : sv_Mv (sx_X qK qV) l D T (sx_tys T) h θ yX4_fail wsX4_fail (sv_rm 1 21) [.ref (h 13)] σ r σ' := by
  intro sz
  refine sv_enter (cc := cX4_fail) (maxL := 1) (ret := none) (Qc := fun A => va_Qv (fun (_ : Unit) => True) (fun _ t => va_P D vwCl (sv_ws T h θ σ') t.heap) A) sx_XP (by decide) rfl (Nat.le_of_ble_eq_true rfl) ?_
  intro p e s m args below meth c A F hr hlk ls H hl hW
  have hx := F.1.1
  have hb := F.1.2.1
  have hts := F.1.2.2.2.2
  have hown := F.1.2.2.2.1
  have hK := F.2.1
  obtain ⟨locs, hlocs⟩ : ∃ z : List Loc, z = [] := ⟨_, rfl⟩
  rw [← hlocs] at hW ⊢
  have hl : lv_has ls 1 [(0, .ref (h 13))] := hl
  unfold q_X4_fail at hs
  refine lv_aload_n hx hb dX4_fail_0 rfl (lv_at hl 0 rfl) ?_
  refine sv_get (own := RX4) (C := RX4) (Tf := TX4) (N := 11) (index := 47) (κ := (0, 0)) (v := .int (σ.1 13 1)) hx hb hts hown hK hW (fun _ h => List.mem_cons_of_mem _ (List.mem_append_right _ h)) (sx_i 13 hB (by decide)) (sx_c13 hB) rfl 1 (by decide) rfl rfl (List.mem_of_getElem? (i := 1) rfl) dX4_fail_1 ?_
  refine lv_iconst (v := -1) hx hb dX4_fail_4 (by decide) ?_
  refine lv_icmp_ne (tgt := 23) hx hb dX4_fail_5 (by decide) (fun c1 => ?_) (fun c1 => ?_)
  · replace hs := (sp_ite hs).2 c1
    cases hs
    exact sv_vret hx hb hr hlk hW dX4_fail_23
  · replace hs := (sp_ite hs).1 c1
    refine lv_aload_n hx hb dX4_fail_8 rfl (lv_at hl 0 rfl) ?_
    refine lv_aload_n hx hb dX4_fail_9 rfl (lv_at hl 0 rfl) ?_
    refine sv_get (own := RX4) (C := RX4) (Tf := TX4) (N := 11) (index := 18) (κ := (3, 3)) (v := .ref (h 16)) hx hb hts hown hK hW (fun _ h => List.mem_cons_of_mem _ (List.mem_append_right _ h)) (sx_i 13 hB (by decide)) (sx_c13 hB) rfl 4 (by decide) rfl rfl (List.mem_of_getElem? (i := 2) rfl) dX4_fail_10 ?_
    refine lv_aload_n hx hb dX4_fail_13 rfl (lv_at hl 0 rfl) ?_
    refine sv_get (own := RX4) (C := RX4) (Tf := TX4) (N := 11) (index := 41) (κ := (0, 0)) (v := .int (σ.1 13 7)) hx hb hts hown hK hW (fun _ h => List.mem_cons_of_mem _ (List.mem_append_right _ h)) (sx_i 13 hB (by decide)) (sx_c13 hB) rfl 7 (by decide) rfl rfl (List.mem_of_getElem? (i := 3) rfl) dX4_fail_14 ?_
    obtain ⟨r2, σ3, eσ3, hs⟩ := sp_bind hs
    refine sv_goI (σ' := σ3) (r := r2) hW F.2.2.2.1 (sv_runN (own := RX4) (host := "OpenWhileItRains") F hW (k_X7_at hB (sv_oA_of (sx_i 16 hB (by decide)) (sx_c16 hB)) eσ3 H.size) gX4_fail_X7_at_n119 rfl ⟨rfl, rfl⟩ (F.2.2.1.1 _ (List.mem_of_getElem? (i := 7) rfl)) (List.mem_of_getElem? (i := 5) rfl) (List.mem_of_getElem? (i := 4) rfl) 2 (by decide +kernel) (sv_room2 (by omega) (by omega)) rfl hl.1 rfl (Nat.le_of_ble_eq_true rfl) dX4_fail_17 ⟨Nat.zero_le _, Nat.zero_le _⟩) (fun H locs hW => ?_)
    refine sv_putI (own := RX4) (C := RX4) (Tf := TX4) (N := 11) (index := 47) hx hb hts hown hK hW (fun _ h => List.mem_cons_of_mem _ (List.mem_append_right _ h)) tyX4 tyX4_ok nmX4 (sx_i 13 hB (by decide)) (sx_c13 hB) rfl 1 (by decide) rfl rfl (ty := .int) (by decide +kernel) rfl rfl (List.mem_of_getElem? (i := 1) rfl) dX4_fail_20 (fun σ4 H locs eσ4 hW => ?_)
    replace hs := sp_let hs eσ4
    cases hs
    exact sv_vret hx hb hr hlk hW dX4_fail_23
set_option maxRecDepth 100000 in
set_option maxHeartbeats 4000000 in
theorem k_X4_expect {qK qV : Nat → Nat} {l : Launch} {D : va_G} {T : Nat → ClassId} {h : Nat → Nat} {θ : sv_T} {a1 : Int32} {σ : sv_S} {r : Unit} {σ' : sv_S} (hB : sx_base θ)  (hs : q_X4_expect θ a1 σ = some (r, σ')) : sv_Mv (sx_X qK qV) l D T (sx_tys T) h θ yX4_expect wsX4_expect (sv_rm 2 41) [.ref (h 13), .int a1] σ r σ' := by
  intro sz
  refine sv_enter (cc := cX4_expect) (maxL := 2) (ret := none) (Qc := fun A => va_Qv (fun (_ : Unit) => True) (fun _ t => va_P D vwCl (sv_ws T h θ σ') t.heap) A) sx_XP (by decide) rfl (Nat.le_of_ble_eq_true rfl) ?_
  intro p e s m args below meth c A F hr hlk ls H hl hW
  have hx := F.1.1
  have hb := F.1.2.1
  have hts := F.1.2.2.2.2
  have hown := F.1.2.2.2.1
  have hK := F.2.1
  obtain ⟨locs, hlocs⟩ : ∃ z : List Loc, z = [] := ⟨_, rfl⟩
  rw [← hlocs] at hW ⊢
  have hl : lv_has ls 2 [(0, .ref (h 13)), (1, .int a1)] := hl
  unfold q_X4_expect at hs
  refine lv_aload_n hx hb dX4_expect_0 rfl (lv_at hl 0 rfl) ?_
  obtain ⟨r1, σ2, eσ2, hs⟩ := sp_bind hs
  refine sv_goI (σ' := σ2) (r := r1) hW F.2.2.2.1 (sv_runV (C := RX4) F hW (k_X4_token hB eσ2 H.size) gX4_expect_X4_token rfl ⟨rfl, rfl⟩ 0 (by decide +kernel) (sv_room2 (by omega) (by omega)) (sx_i 13 hB (by decide)) (sx_c13 hB) rfl rfl hl.1 rfl (Nat.le_of_ble_eq_true rfl) dX4_expect_1 ⟨Nat.zero_le _, Nat.zero_le _⟩) (fun H locs hW => ?_)
  refine lv_iload_n hx hb dX4_expect_4 rfl (lv_at hl 1 rfl) ?_
  refine lv_icmp_ne (tgt := 21) hx hb dX4_expect_5 (by decide) (fun c3 => ?_) (fun c3 => ?_)
  · replace hs := (sp_ite hs).2 c3
    refine lv_aload_n hx hb dX4_expect_21 rfl (lv_at hl 0 rfl) ?_
    obtain ⟨r4, σ5, eσ5, hs⟩ := sp_bind hs
    refine sv_goV (σ' := σ5) (r := r4) hW F.2.2.2.1 (sv_runV (C := RX4) F hW (k_X4_fail hB eσ5 H.size) gX4_expect_X4_fail rfl ⟨rfl, rfl⟩ 0 (by decide +kernel) (sv_room2 (by omega) (by omega)) (sx_i 13 hB (by decide)) (sx_c13 hB) rfl rfl hl.1 rfl (Nat.le_of_ble_eq_true rfl) dX4_expect_22 ⟨Nat.zero_le _, Nat.zero_le _⟩) (fun H locs hW => ?_)
    cases hs
    exact sv_vret hx hb hr hlk hW dX4_expect_25
  · replace hs := (sp_ite hs).1 c3
    refine lv_aload_n hx hb dX4_expect_8 rfl (lv_at hl 0 rfl) ?_
    refine lv_dup hx hb dX4_expect_9 rfl ?_
    refine sv_get (own := RX4) (C := RX4) (Tf := TX4) (N := 11) (index := 41) (κ := (0, 0)) (v := .int (σ2.1 13 7)) hx hb hts hown hK hW (fun _ h => List.mem_cons_of_mem _ (List.mem_append_right _ h)) (sx_i 13 hB (by decide)) (sx_c13 hB) rfl 7 (by decide) rfl rfl (List.mem_of_getElem? (i := 1) rfl) dX4_expect_10 ?_
    refine lv_iconst (v := 1) hx hb dX4_expect_13 (by decide) ?_
    refine lv_iadd hx hb dX4_expect_14 ?_
    refine sv_putI (own := RX4) (C := RX4) (Tf := TX4) (N := 11) (index := 41) hx hb hts hown hK hW (fun _ h => List.mem_cons_of_mem _ (List.mem_append_right _ h)) tyX4 tyX4_ok nmX4 (sx_i 13 hB (by decide)) (sx_c13 hB) rfl 7 (by decide) rfl rfl (ty := .int) (by decide +kernel) rfl rfl (List.mem_of_getElem? (i := 1) rfl) dX4_expect_15 (fun σ6 H locs eσ6 hW => ?_)
    replace hs := sp_let hs eσ6
    refine lv_goto (tgt := 25) hx hb dX4_expect_18 (by decide) ?_
    cases hs
    exact sv_vret hx hb hr hlk hW dX4_expect_25
set_option maxRecDepth 100000 in
set_option maxHeartbeats 4000000 in
theorem k_X4_emit {qK qV : Nat → Nat} {l : Launch} {D : va_G} {T : Nat → ClassId} {h : Nat → Nat} {θ : sv_T} {a1 : Int32} {σ : sv_S} {r : Unit} {σ' : sv_S} (hB : sx_base θ)  (hs : q_X4_emit θ a1 σ = some (r, σ')) : sv_Mv (sx_X qK qV) l D T (sx_tys T) h θ yX4_emit wsX4_emit (sv_rm 1 22) [.ref (h 13), .int a1] σ r σ' := by
  intro sz
  refine sv_enter (cc := cX4_emit) (maxL := 2) (ret := none) (Qc := fun A => va_Qv (fun (_ : Unit) => True) (fun _ t => va_P D vwCl (sv_ws T h θ σ') t.heap) A) sx_XP (by decide) rfl (Nat.le_of_ble_eq_true rfl) ?_
  intro p e s m args below meth c A F hr hlk ls H hl hW
  have hx := F.1.1
  have hb := F.1.2.1
  have hts := F.1.2.2.2.2
  have hown := F.1.2.2.2.1
  have hK := F.2.1
  obtain ⟨locs, hlocs⟩ : ∃ z : List Loc, z = [] := ⟨_, rfl⟩
  rw [← hlocs] at hW ⊢
  have hl : lv_has ls 2 [(0, .ref (h 13)), (1, .int a1)] := hl
  unfold q_X4_emit at hs
  refine lv_aload_n hx hb dX4_emit_0 rfl (lv_at hl 0 rfl) ?_
  refine sv_get (own := RX4) (C := RX4) (Tf := TX4) (N := 11) (index := 24) (κ := (3, 5)) (v := .ref (h 18)) hx hb hts hown hK hW (fun _ h => List.mem_cons_of_mem _ (List.mem_append_right _ h)) (sx_i 13 hB (by decide)) (sx_c13 hB) rfl 8 (by decide) rfl rfl (List.mem_of_getElem? (i := 1) rfl) dX4_emit_1 ?_
  refine lv_aload_n hx hb dX4_emit_4 rfl (lv_at hl 0 rfl) ?_
  refine sv_get (own := RX4) (C := RX4) (Tf := TX4) (N := 11) (index := 44) (κ := (0, 0)) (v := .int (σ.1 13 10)) hx hb hts hown hK hW (fun _ h => List.mem_cons_of_mem _ (List.mem_append_right _ h)) (sx_i 13 hB (by decide)) (sx_c13 hB) rfl 10 (by decide) rfl rfl (List.mem_of_getElem? (i := 2) rfl) dX4_emit_5 ?_
  refine lv_iload_n hx hb dX4_emit_8 rfl (lv_at hl 1 rfl) ?_
  obtain ⟨r1, σ2, eσ2, hs⟩ := sp_bind hs
  refine sv_goV (σ' := σ2) (r := r1) hW F.2.2.2.1 (sv_runN (own := RX4) (host := "OpenWhileItRains") F hW (k_X7_put hB (sv_oA_of (sx_i 18 hB (by decide)) (sx_c18 hB)) eσ2 H.size) gX4_emit_X7_put_n34 rfl ⟨rfl, rfl⟩ (F.2.2.1.1 _ (List.mem_of_getElem? (i := 6) rfl)) (List.mem_of_getElem? (i := 4) rfl) (List.mem_of_getElem? (i := 3) rfl) 3 (by decide +kernel) (sv_room2 (by omega) (by omega)) rfl hl.1 rfl (Nat.le_of_ble_eq_true rfl) dX4_emit_9 ⟨Nat.zero_le _, Nat.zero_le _⟩) (fun H locs hW => ?_)
  refine lv_aload_n hx hb dX4_emit_12 rfl (lv_at hl 0 rfl) ?_
  refine lv_dup hx hb dX4_emit_13 rfl ?_
  refine sv_get (own := RX4) (C := RX4) (Tf := TX4) (N := 11) (index := 44) (κ := (0, 0)) (v := .int (σ2.1 13 10)) hx hb hts hown hK hW (fun _ h => List.mem_cons_of_mem _ (List.mem_append_right _ h)) (sx_i 13 hB (by decide)) (sx_c13 hB) rfl 10 (by decide) rfl rfl (List.mem_of_getElem? (i := 2) rfl) dX4_emit_14 ?_
  refine lv_iconst (v := 1) hx hb dX4_emit_17 (by decide) ?_
  refine lv_iadd hx hb dX4_emit_18 ?_
  refine sv_putI (own := RX4) (C := RX4) (Tf := TX4) (N := 11) (index := 44) hx hb hts hown hK hW (fun _ h => List.mem_cons_of_mem _ (List.mem_append_right _ h)) tyX4 tyX4_ok nmX4 (sx_i 13 hB (by decide)) (sx_c13 hB) rfl 10 (by decide) rfl rfl (ty := .int) (by decide +kernel) rfl rfl (List.mem_of_getElem? (i := 2) rfl) dX4_emit_19 (fun σ3 H locs eσ3 hW => ?_)
  replace hs := sp_let hs eσ3
  cases hs
  exact sv_vret hx hb hr hlk hW dX4_emit_22

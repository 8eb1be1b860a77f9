/-! ===== the class after its constructor ===== -/
def xFirst (θ : sv_T) (σ : sv_S) : Prop := θ.1 = 46 ∧ sx_base θ ∧ xText θ σ 0 f0 ∧ σ.1 0 5 = nI 1 ∧ σ.2.2 20 0 = some 42 ∧ σ.2.2 1 7 = some 42 ∧ (∀ i j, i < 13 → ¬ (i = 0 ∧ j = 5) → σ.1 i j = 0) ∧ σ.1 13 0 = 0 ∧ ∀ s, s < 4 → σ.2.2 21 s = some (34 + 2 * s) ∧ σ.1 (34 + 2 * s) 1 = -1
section FI
variable {θ' : sv_T} {σ7 σ8 : sv_S}
theorem xs_conv {T : Nat → ClassId} {h : Nat → Nat} : sv_ws T h (42, sx_sh) xs21 = sv_ws T h (42, sp_sh) xs21 := by
  refine sv_ws_congr rfl (fun i hi => ⟨rfl, ?_⟩)
  have hi : i < 42 := hi
  have hc : i = 0 ∨ i = 1 ∨ i = 2 ∨ i = 3 ∨ i = 4 ∨ i = 5 ∨ i = 6 ∨ i = 7 ∨ i = 8 ∨ i = 9 ∨ i = 10 ∨ i = 11 ∨ i = 12 ∨ i = 13 ∨ i = 14 ∨ i = 15 ∨ i = 16 ∨ i = 17 ∨ i = 18 ∨ i = 19 ∨ i = 20 ∨ i = 21 ∨ i = 22 ∨ i = 23 ∨ i = 24 ∨ i = 25 ∨ i = 26 ∨ i = 27 ∨ i = 28 ∨ i = 29 ∨ i = 30 ∨ i = 31 ∨ i = 32 ∨ i = 33 ∨ i = 34 ∨ i = 35 ∨ i = 36 ∨ i = 37 ∨ i = 38 ∨ i = 39 ∨ i = 40 ∨ i = 41 := by omega
  rcases hc with rfl | rfl | rfl | rfl | rfl | rfl | rfl | rfl | rfl | rfl | rfl | rfl | rfl | rfl | rfl | rfl | rfl | rfl | rfl | rfl | rfl | rfl | rfl | rfl | rfl | rfl | rfl | rfl | rfl | rfl | rfl | rfl | rfl | rfl | rfl | rfl | rfl | rfl | rfl | rfl | rfl | rfl <;> rfl
theorem xs_rows : ∀ s, s < 4 → xs21.2.2 21 s = some (34 + 2 * s) := by
  intro s hs
  have hc : s = 0 ∨ s = 1 ∨ s = 2 ∨ s = 3 := by omega
  rcases hc with rfl | rfl | rfl | rfl <;> rfl
theorem ev_shp : sv_shp ev_T0 := by
  have hall : ∀ i : Nat, i < 42 → zShB i (sx_sh i) = true := by decide
  intro i hi c ks q k κ hk h3
  have h42 : i < 42 := hi
  have e := hall i h42
  have q : sx_sh i = .inl (c, ks) := q
  rw [q] at e
  have e2 := List.all_eq_true.mp e κ (List.mem_of_getElem? hk)
  have e3 : κ.1 < 3 ∨ i + κ.2 < 42 := by
    rcases Bool.or_eq_true _ _ ▸ e2 with z | z
    · exact Or.inl (of_decide_eq_true z)
    · exact Or.inr (of_decide_eq_true z)
  show i + κ.2 < 42
  omega
abbrev xF9 (σ8 : sv_S) : sv_S := sv_sI (sv_sP σ8 20 0 (some 42)) 0 5 (nI 1)
theorem xF_keep (hR : xRdP ev_T0 σ7 0 θ' σ8) (hf : zFr zRdF (xe 37) σ7) : q_X7_keepText θ' (some 42) σ8 = some ((), xF9 σ8) := by
  obtain ⟨r1, r2, r3, r4, r5, r6, r7, r8, r9, r10⟩ := hR
  have e1 : ev_T0.1 = 42 := rfl
  rw [e1] at r1 r2 r3 r4 r5 r6 r7 r8 r9 r10
  have oX : sv_oX6 θ' 42 := ⟨by omega, r3, ⟨by omega, by rw [r4]; simp [sv_len, r4]⟩, ⟨by omega, r5⟩, ⟨by omega, r6⟩⟩
  have k5 : σ8.1 0 5 = nI 0 := by rw [(r7 0 (by omega) 5).1, hf.2 0 5 (by unfold zRdF; omega), xe_0' (by omega) (by omega) (by omega)]; rfl
  unfold q_X7_keepText
  rw [zos, if_pos oX, k5, if_neg (show ¬ (6 : Int32) ≤ nI 0 by decide), if_neg (z_bd (L := 6) (by omega) (by omega)), nI_clamp (by omega), zl]
  show sp_l (sv_sI (sv_sP σ8 20 0 (some 42)) 0 5 (σ8.1 0 5 + 1)) _ = _
  rw [k5, zl, nI_1]
theorem xF_at (hR : xRdP ev_T0 σ7 0 θ' σ8) : q_X7_textAt θ' 0 (xF9 σ8) = some (some 42, xF9 σ8) := by
  obtain ⟨r1, r2, r3, r4, r5, r6, r7, r8, r9, r10⟩ := hR
  have e1 : ev_T0.1 = 42 := rfl
  rw [e1] at r1 r2 r3 r4 r5 r6 r7 r8 r9 r10
  have oX : sv_oX6 θ' 42 := ⟨by omega, r3, ⟨by omega, by rw [r4]; simp [sv_len, r4]⟩, ⟨by omega, r5⟩, ⟨by omega, r6⟩⟩
  have e5 : (xF9 σ8).1 0 5 = nI 1 := zI_v
  have e20 : (xF9 σ8).2.2 20 0 = some 42 := zP_v (σ := σ8)
  show q_X7_textAt θ' (nI 0) _ = _
  unfold q_X7_textAt
  rw [if_neg (nI_pos (by omega)), e5, if_neg (nI_ge (by omega) (by omega)), if_neg (show ¬ (6 : Int32) ≤ nI 0 by decide), if_neg (z_bd (L := 6) (by omega) (by omega)), nI_clamp (by omega), e20, zos, if_pos oX]
theorem xF_first (hR : xRdP ev_T0 σ7 0 θ' σ8) (hf : zFr zRdF (xe 37) σ7) (h0 : σ7.1 13 0 = 0) (h10 : σ7.1 13 10 = 8) (hst : ∀ p, p < 3 → σ7.1 19 p = nI (2 * p)) (hsg : ∀ p, p < 3 → σ7.1 18 (if p = 2 then 7 else 2 * p + 1) = -59 ∧ ∀ nm, zSg (σ7.1 18) nm (2 * p) (if p = 2 then 7 else 2 * p + 1) (f0 p nm)) : xFirst θ' (sv_sP (xF9 σ8) 1 7 (some 42)) := by
  have hB' := xRdP_base ev_B0 hR
  obtain ⟨r1, r2, r3, r4, r5, r6, r7, r8, r9, r10⟩ := hR
  have e1 : ev_T0.1 = 42 := rfl
  rw [e1] at r1 r2 r3 r4 r5 r6 r7 r8 r9 r10
  have cL : (σ7.1 13 10).toNatClampNeg = 8 := by rw [h10]; rfl
  rw [cL] at r4 r9
  have oX : sv_oX6 θ' 42 := ⟨by omega, r3, ⟨by omega, by rw [r4]; simp [sv_len, r4]⟩, ⟨by omega, r5⟩, ⟨by omega, r6⟩⟩
  have s1 : ∀ i j, ¬ (i = 0 ∧ j = 5) → (sv_sP (xF9 σ8) 1 7 (some 42)).1 i j = σ8.1 i j := fun i j hij => by
    show (sv_sI (sv_sP σ8 20 0 (some 42)) 0 5 (nI 1)).1 i j = _
    rw [zI_o (by omega)]; rfl
  have s2 : ∀ i j, ¬ (i = 1 ∧ j = 7) → ¬ (i = 20 ∧ j = 0) → (sv_sP (xF9 σ8) 1 7 (some 42)).2.2 i j = σ8.2.2 i j := fun i j q1 q2 => by
    rw [((xFr_P (S := fun a b => a = 1 ∧ b = 7) (σ := xF9 σ8) ⟨rfl, rfl⟩).2 i j q1).2]
    show (sv_sP σ8 20 0 (some 42)).2.2 i j = _
    exact ((xFr_P (S := fun a b => a = 20 ∧ b = 0) (σ := σ8) ⟨rfl, rfl⟩).2 i j q2).2
  have o1 : ∀ i j, i < 42 → ¬ zRdF i j → ¬ (i = 0 ∧ j = 5) → (sv_sP (xF9 σ8) 1 7 (some 42)).1 i j = (xe 37).1 i j := fun i j q1 q2 q3 => by
    rw [s1 i j q3, (r7 i q1 j).1, hf.2 i j q2]
  have hlen : sv_len θ' 43 = 8 := sx_L r4
  refine ⟨by omega, hB', ⟨oX, by show sv_len θ' 43 ≤ 160; omega, ?_, fun p hp => ?_⟩, (zI_v (σ := sv_sP σ8 20 0 (some 42)) (i := 0) (j := 5) (v := nI 1)), ?_, zP_v, fun i j hi hij => ?_, ?_, fun s hs => ⟨?_, ?_⟩⟩
  · show (sv_sP (xF9 σ8) 1 7 (some 42)).1 42 0 = nI 0
    rw [s1 _ _ (by omega)]; exact r8
  · refine ⟨2 * p, (if p = 2 then 7 else 2 * p + 1), ?_, ?_, ?_, fun nm => ?_⟩
    · show (sv_sP (xF9 σ8) 1 7 (some 42)).1 44 p = _
      rw [s1 _ _ (by omega), r10 p hp]; exact hst p hp
    · show _ < sv_len θ' 43
      rw [hlen]
      split <;> omega
    · show (sv_sP (xF9 σ8) 1 7 (some 42)).1 43 _ = _
      rw [s1 _ _ (by omega), r9 _ (by split <;> omega)]; exact (hsg p hp).1
    · refine zSg_code ((hsg p hp).2 nm) (fun k h1 h2 => ?_)
      show (sv_sP (xF9 σ8) 1 7 (some 42)).1 43 k = _
      rw [s1 _ _ (by omega), r9 k (by revert h2; split <;> omega)]
  · have q1 := ((xFr_P (S := fun a b => a = 1 ∧ b = 7) (v := some 42) (σ := xF9 σ8) (i := 1) (j := 7) ⟨rfl, rfl⟩).2 20 0 (by omega)).2
    rw [q1]
    exact zP_v (σ := σ8)
  · rw [o1 i j (by omega) (by unfold zRdF; omega) hij, xe_0' (by omega) (by omega) (by omega)]
  · rw [s1 _ _ (by omega), (r7 13 (by omega) 0).1]; exact h0
  · rw [s2 _ _ (by omega) (by omega)]
    exact (r7 21 (by omega) s).2 _ (by omega) (by rw [hf.1]; exact xs_rows s hs)
  · rw [o1 _ _ (by omega) (by unfold zRdF; omega) (by omega), xe_i (by omega) (by omega)]
    unfold xr
    rw [if_pos (by omega)]
end FI

/-! ===== the class's case in some rain ===== -/
section CS2
variable {θ : sv_T} {c k b1 : Nat} {γ : zC} {rn : Nat → Nat}
/-- a row of rain: 48 cells -/
def xRn (θ : sv_T) (σ : sv_S) (b1 : Nat) (rn : Nat → Nat) : Prop := sv_len θ b1 = 48 ∧ ∀ k, k < 48 → σ.1 b1 k = nI (rn k) ∧ rn k ≤ 9
/-- the case at c is γ, by text k -/
def xCs (θ : sv_T) (σ : sv_S) (c k : Nat) (γ : zC) : Prop := c + 1 < 42 ∧ sv_len θ (c + 1) = 6 ∧ σ.2.2 c 2 = some (42 + 4 * k) ∧ xText θ σ k γ.2.2.2.2.2 ∧ σ.1 c 1 = γ.1 ∧ σ.1 c 3 = nI γ.2.1 ∧ γ.2.1 ≤ 1 ∧ σ.1 (c + 1) 2 = γ.2.2.1 ∧ σ.1 (c + 1) 3 = γ.2.2.2.1 ∧ σ.1 (c + 1) 4 = nI γ.2.1 ∧ σ.1 (c + 1) 5 = γ.2.2.2.2.1
/-- what a look of the case at c writes -/
def zLk (c : Nat) (i j : Nat) : Prop := zSk i j ∨ (i = c + 1 ∧ j < 2)
theorem xCs_fr {S : Nat → Nat → Prop} {σ σ' : sv_S} (h : xCs θ σ c k γ) (hf : xFr S σ σ') (h1 : ∀ i j, 42 ≤ i → i % 4 ≠ 1 → ¬ S i j) (h2 : ¬ S c 1 ∧ ¬ S c 2 ∧ ¬ S c 3 ∧ ∀ j, 2 ≤ j → ¬ S (c + 1) j) : xCs θ σ' c k γ := by
  obtain ⟨a1, a2, a3, a4, a5, a6, a7, a8, a9, a10, a11⟩ := h
  refine ⟨a1, a2, by rw [(hf.2 _ _ h2.2.1).2]; exact a3, xText_fr a4 hf h1, by rw [(hf.2 _ _ h2.1).1]; exact a5, by rw [(hf.2 _ _ h2.2.2.1).1]; exact a6, a7, ?_, ?_, ?_, ?_⟩
  · rw [(hf.2 _ _ (h2.2.2.2 2 (by omega))).1]; exact a8
  · rw [(hf.2 _ _ (h2.2.2.2 3 (by omega))).1]; exact a9
  · rw [(hf.2 _ _ (h2.2.2.2 4 (by omega))).1]; exact a10
  · rw [(hf.2 _ _ (h2.2.2.2 5 (by omega))).1]; exact a11
theorem zLk_1 (hc : c + 1 < 42) : ∀ i j, 42 ≤ i → i % 4 ≠ 1 → ¬ zLk c i j := fun i j h1 h2 => by unfold zLk zSk; omega
theorem zLk_2 (hc : c + 1 < 42) : ¬ zLk c c 1 ∧ ¬ zLk c c 2 ∧ ¬ zLk c c 3 ∧ ∀ j, 2 ≤ j → ¬ zLk c (c + 1) j := by
  unfold zLk zSk
  refine ⟨by omega, by omega, by omega, fun j hj => by omega⟩
theorem xCs_lk {σ σ' : sv_S} (h : xCs θ σ c k γ) (hf : zFr (zLk c) σ σ') : xCs θ σ' c k γ := xCs_fr h (xFr_z hf) (zLk_1 h.1) (zLk_2 h.1)
theorem xRn_fr {S : Nat → Nat → Prop} {σ σ' : sv_S} (h : xRn θ σ b1 rn) (hf : xFr S σ σ') (hS : ∀ j, ¬ S b1 j) : xRn θ σ' b1 rn := ⟨h.1, fun k hk => ⟨by rw [(hf.2 _ _ (hS k)).1]; exact (h.2 k hk).1, (h.2 k hk).2⟩⟩
theorem xRn_lk {σ σ' : sv_S} (h : xRn θ σ b1 rn) (hb : b1 < 42) (hb2 : b1 ≠ c + 1) (hf : zFr (zLk c) σ σ') : xRn θ σ' b1 rn := xRn_fr h (xFr_z hf) (fun j => by unfold zLk zSk; omega)
theorem x_rainIn {σ : sv_S} {h : Nat} (hC : xCs θ σ c k γ) (hR : xRn θ σ b1 rn) (hh : h < 24) : q_X0_rainIn θ c b1 (nI h) σ = some (nI (rn (24 * γ.2.1 + h)), σ) := by
  obtain ⟨a1, a2, a3, a4, a5, a6, a7, a8, a9, a10, a11⟩ := hC
  have e : nI γ.2.1 * (24 : Int32) + nI h = nI (24 * γ.2.1 + h) := by
    rw [show (24 : Int32) = nI 24 from rfl, pk_mul, nI_add, Nat.mul_comm]
  unfold q_X0_rainIn
  rw [a6, e, zl, if_neg (nI_pos (by omega)), if_neg (show ¬ (24 : Int32) ≤ nI h from nI_ge (b := 24) hh (by omega)), if_neg (nI_pos (by omega)), hR.1, if_neg (show ¬ (Int32.ofNat 48) ≤ nI (24 * γ.2.1 + h) from nI_ge (b := 48) (by omega) (by omega)), nI_clamp (by omega), if_neg (by intro q; rcases q with q | q; exact nI_pos (by omega) q; omega), (hR.2 _ (by omega)).1]
theorem x_see {σ : sv_S} {h : Nat} (hC : xCs θ σ c k γ) (hR : xRn θ σ b1 rn) (hh : h < 24) : ∃ σ', q_X0_see θ c b1 (nI h) σ = some ((), σ') ∧ zFr (zLk c) σ σ' ∧ xCs θ σ' c k γ ∧ σ'.1 (c + 1) 0 = nI (rn (24 * γ.2.1 + h)) ∧ σ'.1 (c + 1) 1 = nI h := by
  have e := x_rainIn hC hR hh
  have l6 := hC.2.1
  have hf : zFr (zLk c) σ (sv_sI (sv_sI σ (c + 1) 0 (nI (rn (24 * γ.2.1 + h)))) (c + 1) 1 (nI h)) := zFr_tr (zFr_I (Or.inr ⟨rfl, by omega⟩)) (zFr_I (Or.inr ⟨rfl, by omega⟩))
  refine ⟨_, ?_, hf, xCs_lk hC hf, by rw [zI_o (by omega)]; exact zI_v, zI_v⟩
  unfold q_X0_see
  rw [e, zb, z_put (by rw [l6]; omega), zb, l6, show (0 : Int32) = nI 0 from rfl, zput_nI (by omega) (by omega), z_put (by rw [l6]; omega), zb, l6, show (1 : Int32) = nI 1 from rfl, zput_nI (by omega) (by omega)]
/-- the names at c are those of hour h -/
theorem xCs_nm {σ : sv_S} {h : Nat} (hC : xCs θ σ c k γ) (h0 : σ.1 (c + 1) 0 = nI (rn (24 * γ.2.1 + h))) (h1 : σ.1 (c + 1) 1 = nI h) : ∀ q, q < 6 → σ.1 (c + 1) q = cNm γ rn h q := by
  obtain ⟨a1, a2, a3, a4, a5, a6, a7, a8, a9, a10, a11⟩ := hC
  intro q hq
  have : q = 0 ∨ q = 1 ∨ q = 2 ∨ q = 3 ∨ q = 4 ∨ q = 5 := by omega
  rcases this with rfl | rfl | rfl | rfl | rfl | rfl
  · exact h0
  · exact h1
  · exact a8
  · exact a9
  · exact a10
  · exact a11
theorem x_needsC {σ : sv_S} {h : Nat} (hC : xCs θ σ c k γ) (h0 : σ.1 (c + 1) 0 = nI (rn (24 * γ.2.1 + h))) (h1 : σ.1 (c + 1) 1 = nI h) : ∃ σ', q_X0_needs θ c σ = some (vNeed γ rn h, σ') ∧ zFr zSk σ σ' := by
  have hn := xCs_nm hC h0 h1
  obtain ⟨σ', g1, g2⟩ := x_needs hC.1 hC.2.1 hC.2.2.1 hC.2.2.2.1
  refine ⟨σ', ?_, g2⟩
  rw [g1, hC.2.2.2.2.1]
  unfold vNeed wNeed
  rw [xText_ext hC.2.2.2.1 (by omega) hn, hn 2 (by omega)]
theorem x_takesC {σ : sv_S} {h : Nat} (hC : xCs θ σ c k γ) (h0 : σ.1 (c + 1) 0 = nI (rn (24 * γ.2.1 + h))) (h1 : σ.1 (c + 1) 1 = nI h) : ∃ σ', q_X0_takes θ c σ = some (vTake γ rn h, σ') ∧ zFr zSk σ σ' := by
  have hn := xCs_nm hC h0 h1
  obtain ⟨σ', g1, g2⟩ := x_takes hC.1 hC.2.1 hC.2.2.1 hC.2.2.2.1
  refine ⟨σ', ?_, g2⟩
  rw [g1, hC.2.2.2.2.1]
  unfold vTake wTake
  rw [xText_ext hC.2.2.2.1 (by omega) hn, hn 2 (by omega)]
theorem x_worthC {σ : sv_S} {h : Nat} (hC : xCs θ σ c k γ) (h0 : σ.1 (c + 1) 0 = nI (rn (24 * γ.2.1 + h))) (h1 : σ.1 (c + 1) 1 = nI h) : ∃ σ', q_X0_worth θ c σ = some (vWor γ rn h, σ') ∧ zFr zSk σ σ' := by
  have hn := xCs_nm hC h0 h1
  obtain ⟨σ', g1, g2⟩ := x_worth hC.1 hC.2.1 hC.2.2.1 hC.2.2.2.1
  refine ⟨σ', ?_, g2⟩
  rw [g1, hC.2.2.2.2.1]
  unfold vWor wWor
  rw [xText_ext hC.2.2.2.1 (by omega) hn, hn 2 (by omega), hn 1 (by omega)]
theorem zSk_lk {σ σ' : sv_S} (h : zFr zSk σ σ') : zFr (zLk c) σ σ' := zFr_w h (fun _ _ q => Or.inl q)
theorem z_held {σ : sv_S} {a2 a3 a4 : Int32} {nd e : Nat} (hnd : nd ≤ 9) (he : e < 24) (hC : xCs θ σ c k γ) (hR : xRn θ σ b1 rn) : ∀ (r x fuel : Nat), e + 1 - x = r → x ≤ e + 1 →
    ((∀ y, x ≤ y → y ≤ e → nd ≤ rn (24 * γ.2.1 + y)) ∧ q_X0_lastHeld_B20 θ c b1 a2 a3 a4 (fuel + r + 1) (nI nd) (nI e) (nI x) σ = some (nI e, σ)) ∨
    (¬ (∀ y, x ≤ y → y ≤ e → nd ≤ rn (24 * γ.2.1 + y)) ∧ q_X0_lastHeld_B20 θ c b1 a2 a3 a4 (fuel + r + 1) (nI nd) (nI e) (nI x) σ = some (-1, σ)) := by
  intro r
  induction r with
  | zero =>
    intro x fuel h1 h2
    refine Or.inl ⟨fun y h3 h4 => by omega, ?_⟩
    show q_X0_lastHeld_B20_b θ c b1 a2 a3 a4 _ (nI nd) (nI e) (nI x) σ = _
    unfold q_X0_lastHeld_B20_b
    rw [if_pos (nI_lt (by omega) (by omega))]
  | succ r ih =>
    intro x fuel h1 h2
    have hrx := (hR.2 (24 * γ.2.1 + x) (by have := hC.2.2.2.2.2.2.1; omega)).2
    have e1 : q_X0_lastHeld_B20 θ c b1 a2 a3 a4 (fuel + (r + 1) + 1) (nI nd) (nI e) (nI x) σ = if nI nd ≤ nI (rn (24 * γ.2.1 + x)) then q_X0_lastHeld_B20 θ c b1 a2 a3 a4 (fuel + r + 1) (nI nd) (nI e) (nI (x + 1)) σ else some (-1, σ) := by
      show q_X0_lastHeld_B20_b θ c b1 a2 a3 a4 (q_X0_lastHeld_B20 θ c b1 a2 a3 a4 (fuel + (r + 1))) (nI nd) (nI e) (nI x) σ = _
      unfold q_X0_lastHeld_B20_b
      rw [if_neg (nI_nlt (by omega) (by omega)), x_rainIn hC hR (by omega), zb, zl, nI_1]
      rfl
    rw [e1]
    by_cases hq : nd ≤ rn (24 * γ.2.1 + x)
    · rw [if_pos (nI_le hq (by omega))]
      rcases ih (x + 1) fuel (by omega) (by omega) with ⟨g1, g2⟩ | ⟨g1, g2⟩
      · refine Or.inl ⟨fun y h3 h4 => ?_, g2⟩
        by_cases hy : y = x
        · subst hy; exact hq
        · exact g1 y (by omega) h4
      · exact Or.inr ⟨fun q => g1 (fun y h3 h4 => q y (by omega) h4), g2⟩
    · rw [if_neg (nI_ge (by omega) (by omega))]
      exact Or.inr ⟨fun q => hq (q x (Nat.le_refl _) (by omega)), rfl⟩
theorem x_lastHeld {σ : sv_S} {nd tk h : Nat} (hnd : nd ≤ 9) (htk : 1 ≤ tk ∧ tk ≤ 24) (hh : h < 24) (hC : xCs θ σ c k γ) (hR : xRn θ σ b1 rn) :
    ((h + tk ≤ 24 ∧ ∀ y, h ≤ y → y < h + tk → nd ≤ rn (24 * γ.2.1 + y)) ∧ q_X0_lastHeld θ c b1 (nI h) (nI nd) (nI tk) σ = some (nI (h + tk - 1), σ)) ∨
    (¬ (h + tk ≤ 24 ∧ ∀ y, h ≤ y → y < h + tk → nd ≤ rn (24 * γ.2.1 + y)) ∧ q_X0_lastHeld θ c b1 (nI h) (nI nd) (nI tk) σ = some (-1, σ)) := by
  have e : nI h + nI tk - 1 = nI (h + tk - 1) := by rw [nI_add, show h + tk = (h + tk - 1) + 1 by omega, nI_pred]; rfl
  unfold q_X0_lastHeld
  rw [e, zl]
  by_cases h24 : h + tk ≤ 24
  · rw [if_pos (show nI (h + tk - 1) < (24 : Int32) from nI_lt (b := 24) (by omega) (by omega))]
    have hz := z_held (a2 := nI h) (a3 := nI nd) (a4 := nI tk) hnd (e := h + tk - 1) (by omega) hC hR tk h (199 - tk) (by omega) (by omega)
    rw [show 199 - tk + tk + 1 = sv_N by unfold sv_N; omega] at hz
    rcases hz with ⟨g1, g2⟩ | ⟨g1, g2⟩
    · exact Or.inl ⟨⟨h24, fun y h1 h2 => g1 y h1 (by omega)⟩, g2⟩
    · exact Or.inr ⟨fun q => g1 (fun y h1 h2 => q.2 y h1 (by omega)), g2⟩
  · rw [if_neg (show ¬ nI (h + tk - 1) < (24 : Int32) from nI_nlt (a := h + tk - 1) (b := 24) (by omega) (by omega))]
    exact Or.inr ⟨fun q => h24 q.1, rfl⟩
theorem x_lastHour {σ : sv_S} {h : Nat} (hb : b1 < 42) (hb2 : b1 ≠ c + 1) (hh : h < 24) (hC : xCs θ σ c k γ) (hR : xRn θ σ b1 rn) : ∃ σ', q_X0_lastHour θ c b1 (nI h) σ = some (zO (zLast γ rn h), σ') ∧ zFr (zLk c) σ σ' := by
  obtain ⟨n1, n2, n3⟩ := nNeed_ok γ rn h
  obtain ⟨t1, t2, t3⟩ := nTake_ok γ rn h
  have hs1 := hC.2.2.2.2.2.2.1
  unfold q_X0_lastHour
  rw [x_rainIn hC hR hh, zb]
  by_cases h0 : nI (rn (24 * γ.2.1 + h)) = 0
  · refine ⟨σ, ?_, zFr_rf⟩
    rw [if_pos h0]
    have hr0 : rn (24 * γ.2.1 + h) = 0 := by
      have := (hR.2 (24 * γ.2.1 + h) (by omega)).2
      rw [show (0 : Int32) = nI 0 from rfl, nI_eq (by omega) (by omega)] at h0
      exact h0
    have : ¬ zHo γ rn h = true := fun q => by
      have := (zHo_iff.mp q).2 h (Nat.le_refl _) (by omega)
      omega
    unfold zLast
    rw [if_neg this]
    rfl
  · rw [if_neg h0]
    obtain ⟨σ1, a1, a2, a3, a4, a5⟩ := x_see hC hR hh
    obtain ⟨σ2, b1', b2⟩ := x_needsC a3 a4 a5
    have c2 : xCs θ σ2 c k γ := xCs_lk a3 (zSk_lk b2)
    have d0 : σ2.1 (c + 1) 0 = nI (rn (24 * γ.2.1 + h)) := by rw [b2.2 _ _ (by have := hC.1; unfold zSk; omega)]; exact a4
    have d1 : σ2.1 (c + 1) 1 = nI h := by rw [b2.2 _ _ (by have := hC.1; unfold zSk; omega)]; exact a5
    obtain ⟨σ3, e1, e2⟩ := x_takesC c2 d0 d1
    have hf : zFr (zLk c) σ σ3 := zFr_tr a2 (zFr_tr (zSk_lk b2) (zSk_lk e2))
    have c3 := xCs_lk hC hf
    have r3 := xRn_lk hR hb hb2 hf
    refine ⟨σ3, ?_, hf⟩
    rw [a1, zb, b1', zb, e1, zb, n1, t1]
    unfold zLast
    rcases x_lastHeld n3 ⟨t2, t3⟩ hh c3 r3 with ⟨g1, g2⟩ | ⟨g1, g2⟩
    · rw [g2, zb, if_pos (zHo_iff.mpr g1)]; rfl
    · rw [g2, zb, if_neg (fun q => g1 (zHo_iff.mp q))]; rfl
theorem zO_ne {v : Nat} (hv : v < 2147483648) : ¬ nI v = -1 := fun q => zN_m1 hv q.symm
theorem x_shf {hb : b1 < 42} {hb2 : b1 ≠ c + 1} {a2 : Int32} : ∀ (f h fuel : Nat) (σ : sv_S), 24 - h = f → h ≤ 24 → xCs θ σ c k γ → xRn θ σ b1 rn → ∃ σ', q_X0_shakenHour_B2 θ c b1 a2 (fuel + f + 1) (nI h) σ = some (zO (zShf γ rn f h), σ') ∧ zFr (zLk c) σ σ' := by
  intro f
  induction f with
  | zero =>
    intro h fuel σ h1 h2 hC hR
    refine ⟨σ, ?_, zFr_rf⟩
    show q_X0_shakenHour_B2_b θ c b1 a2 _ (nI h) σ = _
    unfold q_X0_shakenHour_B2_b
    rw [if_pos (show (24 : Int32) ≤ nI h from nI_le (a := 24) (by omega) (by omega))]
    rfl
  | succ f ih =>
    intro h fuel σ h1 h2 hC hR
    obtain ⟨σ1, a1, a2'⟩ := x_lastHour hb hb2 (by omega) hC hR (h := h)
    have e : q_X0_shakenHour_B2 θ c b1 a2 (fuel + (f + 1) + 1) (nI h) σ = q_X0_shakenHour_B2_b θ c b1 a2 (q_X0_shakenHour_B2 θ c b1 a2 (fuel + (f + 1))) (nI h) σ := rfl
    rw [e]
    unfold q_X0_shakenHour_B2_b
    rw [if_neg (show ¬ (24 : Int32) ≤ nI h from nI_ge (b := 24) (by omega) (by omega)), a1, zb]
    cases hl : zLast γ rn h with
    | some v =>
      refine ⟨σ1, ?_, a2'⟩
      have hv := zLast_lt hl
      show (if nI v = (-1 : Int32) then _ else _) = _
      rw [if_neg (zO_ne (by omega))]
      simp only [zShf, hl]
    | none =>
      obtain ⟨σ2, b1', b2⟩ := ih (h + 1) fuel σ1 (by omega) (by omega) (xCs_lk hC a2') (xRn_lk hR hb hb2 a2')
      refine ⟨σ2, ?_, zFr_tr a2' b2⟩
      show (if (-1 : Int32) = (-1 : Int32) then _ else _) = _
      rw [if_pos rfl, zl, nI_1]
      simp only [zShf, hl]
      exact b1'
theorem x_shakenHour {σ : sv_S} {h : Nat} (hb : b1 < 42) (hb2 : b1 ≠ c + 1) (hh : h ≤ 24) (hC : xCs θ σ c k γ) (hR : xRn θ σ b1 rn) : ∃ σ', q_X0_shakenHour θ c b1 (nI h) σ = some (zO (zSh γ rn h), σ') ∧ zFr (zLk c) σ σ' := by
  obtain ⟨σ', h1, h2⟩ := x_shf (hb := hb) (hb2 := hb2) (a2 := nI h) (24 - h) h (199 - (24 - h)) σ rfl hh hC hR
  rw [show 199 - (24 - h) + (24 - h) + 1 = sv_N by unfold sv_N; omega] at h1
  exact ⟨σ', h1, h2⟩
end CS2

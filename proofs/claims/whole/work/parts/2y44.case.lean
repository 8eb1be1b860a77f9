/-! ===== a bargain by a rule: values, holding, shaking; the class's case ===== -/
def xFr (S : Nat → Nat → Prop) (σ σ' : sv_S) : Prop := σ'.2.1 = σ.2.1 ∧ ∀ i j, ¬ S i j → σ'.1 i j = σ.1 i j ∧ σ'.2.2 i j = σ.2.2 i j
theorem xFr_rf {S : Nat → Nat → Prop} {σ : sv_S} : xFr S σ σ := ⟨rfl, fun _ _ _ => ⟨rfl, rfl⟩⟩
theorem xFr_tr {S : Nat → Nat → Prop} {σ σ1 σ2 : sv_S} (h1 : xFr S σ σ1) (h2 : xFr S σ1 σ2) : xFr S σ σ2 := ⟨h2.1.trans h1.1, fun i j h => ⟨(h2.2 i j h).1.trans (h1.2 i j h).1, (h2.2 i j h).2.trans (h1.2 i j h).2⟩⟩
theorem xFr_w {S S' : Nat → Nat → Prop} {σ σ1 : sv_S} (h1 : xFr S σ σ1) (h : ∀ i j, S i j → S' i j) : xFr S' σ σ1 := ⟨h1.1, fun i j g => h1.2 i j (fun q => g (h i j q))⟩
theorem xFr_z {S : Nat → Nat → Prop} {σ σ' : sv_S} (h : zFr S σ σ') : xFr S σ σ' := ⟨by rw [h.1], fun i j g => ⟨h.2 i j g, by rw [h.1]⟩⟩
theorem xFr_I {S : Nat → Nat → Prop} {σ : sv_S} {i j : Nat} {v : Int32} (h : S i j) : xFr S σ (sv_sI σ i j v) := xFr_z (zFr_I h)
theorem xFr_R {S : Nat → Nat → Prop} {σ : sv_S} {i : Nat} {g : Nat → Int32} (h : ∀ j, S i j) : xFr S σ (sv_sR σ i g) := xFr_z (zFr_R h)
theorem xFr_P {S : Nat → Nat → Prop} {σ : sv_S} {i j : Nat} {v : Option Nat} (h : S i j) : xFr S σ (sv_sP σ i j v) := by
  refine ⟨rfl, fun a b hab => ⟨rfl, ?_⟩⟩
  show sv_u σ.2.2 i j v a b = σ.2.2 a b
  unfold sv_u
  by_cases h1 : a = i
  · rw [if_pos h1]
    by_cases h2 : b = j
    · subst h1; subst h2; exact absurd h hab
    · rw [if_neg h2]
  · rw [if_neg h1]
theorem zP_v {σ : sv_S} {i j : Nat} {v : Option Nat} : (sv_sP σ i j v).2.2 i j = v := by simp [sv_sP, sv_u]
/-- the stacks of the texts -/
def zSk (i _j : Nat) : Prop := 42 ≤ i ∧ i % 4 = 1
def xText (θ : sv_T) (σ : sv_S) (k : Nat) (F : Nat → (Nat → Int32) → Int32) : Prop :=
  sv_oX6 θ (42 + 4 * k) ∧ sv_len θ (42 + 4 * k + 1) ≤ 160 ∧ σ.1 (42 + 4 * k) 0 = nI k ∧ ∀ p, p < 3 → ∃ st e, σ.1 (42 + 4 * k + 2) p = nI st ∧ e < sv_len θ (42 + 4 * k + 1) ∧ σ.1 (42 + 4 * k + 1) e = -59 ∧ ∀ nm, zSg (σ.1 (42 + 4 * k + 1)) nm st e (F p nm)
theorem xText_ext {θ : sv_T} {σ : sv_S} {k : Nat} {F : Nat → (Nat → Int32) → Int32} (h : xText θ σ k F) {p : Nat} (hp : p < 3) {nm nm' : Nat → Int32} (he : ∀ k, k < 6 → nm k = nm' k) : F p nm = F p nm' := by
  obtain ⟨-, -, -, h4⟩ := h
  obtain ⟨st, e, -, -, -, hs⟩ := h4 p hp
  exact zSg_det (hs nm) (hs nm') he
theorem xText_fr {S : Nat → Nat → Prop} {θ : sv_T} {σ σ' : sv_S} {k : Nat} {F : Nat → (Nat → Int32) → Int32} (h : xText θ σ k F) (hf : xFr S σ σ') (hS : ∀ i j, 42 ≤ i → i % 4 ≠ 1 → ¬ S i j) : xText θ σ' k F := by
  obtain ⟨h1, h2, h3, h4⟩ := h
  refine ⟨h1, h2, by rw [(hf.2 _ _ (hS _ _ (by omega) (by omega))).1]; exact h3, fun p hp => ?_⟩
  obtain ⟨st, e, g1, g2, g3, g4⟩ := h4 p hp
  have hc : ∀ j, σ'.1 (42 + 4 * k + 1) j = σ.1 (42 + 4 * k + 1) j := fun j => (hf.2 _ _ (hS _ _ (by omega) (by omega))).1
  exact ⟨st, e, by rw [(hf.2 _ _ (hS _ _ (by omega) (by omega))).1]; exact g1, g2, by rw [hc]; exact g3, fun nm => zSg_code (g4 nm) (fun j _ _ => hc j)⟩
theorem x_tell {θ : sv_T} {σ : sv_S} {k b2 p : Nat} {F : Nat → (Nat → Int32) → Int32} (h : xText θ σ k F) (hN : sv_len θ b2 = 6) (hb : b2 < 42) (hp : p < 3) : ∃ σ', q_X6_tell θ (42 + 4 * k) (nI p) b2 σ = some (F p (σ.1 b2), σ') ∧ zFr zSk σ σ' := by
  obtain ⟨h1, h2, h3, h4⟩ := h
  obtain ⟨st, e, g1, g2, g3, g4⟩ := h4 p hp
  have l2 : sv_len θ (42 + 4 * k + 2) = 3 := sx_L h1.2.2.2.1.2
  have l3 : sv_len θ (42 + 4 * k + 3) = 160 := sx_L h1.2.2.2.2.2
  obtain ⟨g, q⟩ := z_tell (θ := θ) (kt := 42 + 4 * k) (b2 := b2) (p := nI p) rfl h2 l2 l3 hN (by omega) (by rw [zat_nI hp (by omega)]; exact g1) g2 g3 (g4 (σ.1 b2))
  exact ⟨_, q, zFr_R (fun _ => ⟨by omega, by omega⟩)⟩
/-! the values -/
def wN (K v n : Int32) : Int32 := if K = 1 then v / 2 else if K = 2 then v + 2 else if K = 3 then v / 2 else if K = 4 then (v + 2) + (n / 3) else if K = 5 then 1 else v
def wT (K v n : Int32) : Int32 := if K = 1 then v - 1 else if K = 2 then v * 2 else if K = 3 then (v - 1) + (n - n / 3 * 3) else if K = 4 then v * 2 else if K = 5 then 1 else v
def wW (K v n h : Int32) : Int32 := if K = 2 then v + 10 else if K = 3 then v - (h * 2) else if K = 4 then (if h < 12 then v + 10 else (v + 10) * 2) else if K = 5 then (if (3 : Int32) ≤ h then 0 else n) else v
def wNeed (K : Int32) (F : Nat → (Nat → Int32) → Int32) (N : Nat → Int32) : Int32 := zbd (wN K (zbd (F 0 N) 0 9) (N 2)) 1 9
def wTake (K : Int32) (F : Nat → (Nat → Int32) → Int32) (N : Nat → Int32) : Int32 := zbd (wT K (zbd (F 1 N) 0 24) (N 2)) 1 24
def wWor (K : Int32) (F : Nat → (Nat → Int32) → Int32) (N : Nat → Int32) : Int32 := zbd (wW K (zbd (F 2 N) 0 99) (N 2) (N 1)) 0 999
theorem x_nK {θ : sv_T} {K v n : Int32} {σ : sv_S} : q_X1_needs θ K v n σ = some (wN K v n, σ) := by
  unfold q_X1_needs wN
  repeat' split
  all_goals rfl
theorem x_tK {θ : sv_T} {K v n : Int32} {σ : sv_S} : q_X1_takes θ K v n σ = some (wT K v n, σ) := by
  unfold q_X1_takes wT
  repeat' split
  all_goals rfl
theorem x_wK {θ : sv_T} {K v n h : Int32} {σ : sv_S} : q_X1_worth θ K v n h σ = some (wW K v n h, σ) := by
  unfold q_X1_worth wW
  repeat' split
  all_goals rfl
section CS
variable {θ : sv_T} {σ : sv_S} {c k : Nat} {F : Nat → (Nat → Int32) → Int32}
theorem x_needs (hc : c + 1 < 42) (hN : sv_len θ (c + 1) = 6) (hr : σ.2.2 c 2 = some (42 + 4 * k)) (hT : xText θ σ k F) : ∃ σ', q_X0_needs θ c σ = some (wNeed (σ.1 c 1) F (σ.1 (c + 1)), σ') ∧ zFr zSk σ σ' := by
  obtain ⟨σ1, h1, h2⟩ := x_tell (p := 0) hT hN hc (by omega)
  have e1 : σ1.1 (c + 1) = σ.1 (c + 1) := by funext j; exact h2.2 _ _ (by unfold zSk; omega)
  have e2 : σ1.1 c 1 = σ.1 c 1 := h2.2 _ _ (by unfold zSk; omega)
  refine ⟨σ1, ?_, h2⟩
  unfold q_X0_needs q_X0_needs_B29 wNeed
  rw [hr, zos, if_pos hT.1]
  have h1' : q_X6_tell θ (42 + 4 * k) (0 : Int32) (c + 1) σ = some (F 0 (σ.1 (c + 1)), σ1) := h1
  rw [h1', zb, z_bound, zb, z_at (by rw [hN]; omega), zb, x_nK, zb, z_bound, zb, hN, show (2 : Int32) = nI 2 from rfl, zat_nI (by omega) (by omega), e1, e2]
theorem x_takes (hc : c + 1 < 42) (hN : sv_len θ (c + 1) = 6) (hr : σ.2.2 c 2 = some (42 + 4 * k)) (hT : xText θ σ k F) : ∃ σ', q_X0_takes θ c σ = some (wTake (σ.1 c 1) F (σ.1 (c + 1)), σ') ∧ zFr zSk σ σ' := by
  obtain ⟨σ1, h1, h2⟩ := x_tell (p := 1) hT hN hc (by omega)
  have e1 : σ1.1 (c + 1) = σ.1 (c + 1) := by funext j; exact h2.2 _ _ (by unfold zSk; omega)
  have e2 : σ1.1 c 1 = σ.1 c 1 := h2.2 _ _ (by unfold zSk; omega)
  refine ⟨σ1, ?_, h2⟩
  unfold q_X0_takes q_X0_takes_B29 wTake
  rw [hr, zos, if_pos hT.1]
  have h1' : q_X6_tell θ (42 + 4 * k) (1 : Int32) (c + 1) σ = some (F 1 (σ.1 (c + 1)), σ1) := h1
  rw [h1', zb, z_bound, zb, z_at (by rw [hN]; omega), zb, x_tK, zb, z_bound, zb, hN, show (2 : Int32) = nI 2 from rfl, zat_nI (by omega) (by omega), e1, e2]
theorem x_worth (hc : c + 1 < 42) (hN : sv_len θ (c + 1) = 6) (hr : σ.2.2 c 2 = some (42 + 4 * k)) (hT : xText θ σ k F) : ∃ σ', q_X0_worth θ c σ = some (wWor (σ.1 c 1) F (σ.1 (c + 1)), σ') ∧ zFr zSk σ σ' := by
  obtain ⟨σ1, h1, h2⟩ := x_tell (p := 2) hT hN hc (by omega)
  have e1 : σ1.1 (c + 1) = σ.1 (c + 1) := by funext j; exact h2.2 _ _ (by unfold zSk; omega)
  have e2 : σ1.1 c 1 = σ.1 c 1 := h2.2 _ _ (by unfold zSk; omega)
  refine ⟨σ1, ?_, h2⟩
  unfold q_X0_worth q_X0_worth_B29 wWor
  rw [hr, zos, if_pos hT.1]
  have h1' : q_X6_tell θ (42 + 4 * k) (2 : Int32) (c + 1) σ = some (F 2 (σ.1 (c + 1)), σ1) := h1
  rw [h1', zb, z_bound, zb, z_at (by rw [hN]; omega), zb, z_at (by rw [hN]; omega), zb, x_wK, zb, z_bound, zb, hN, show (2 : Int32) = nI 2 from rfl, zat_nI (by omega) (by omega), show (1 : Int32) = nI 1 from rfl, zat_nI (by omega) (by omega), e1, e2]
end CS
/-! a case: its kind, street, number, what is done, west, its rule -/
abbrev zC : Type := Int32 × Nat × Int32 × Int32 × Int32 × (Nat → (Nat → Int32) → Int32)
def wNm (r h n d s w : Int32) : Nat → Int32 := fun k => if k = 0 then r else if k = 1 then h else if k = 2 then n else if k = 3 then d else if k = 4 then s else if k = 5 then w else 0
def cNm (γ : zC) (rn : Nat → Nat) (h : Nat) : Nat → Int32 := wNm (nI (rn (24 * γ.2.1 + h))) (nI h) γ.2.2.1 γ.2.2.2.1 (nI γ.2.1) γ.2.2.2.2.1
def vNeed (γ : zC) (rn : Nat → Nat) (h : Nat) : Int32 := wNeed γ.1 γ.2.2.2.2.2 (cNm γ rn h)
def vTake (γ : zC) (rn : Nat → Nat) (h : Nat) : Int32 := wTake γ.1 γ.2.2.2.2.2 (cNm γ rn h)
def vWor (γ : zC) (rn : Nat → Nat) (h : Nat) : Int32 := wWor γ.1 γ.2.2.2.2.2 (cNm γ rn h)
theorem zbd_nat {v : Int32} {a b : Nat} (hab : a ≤ b) (hb : b < 2147483648) : ∃ k, zbd v (nI a) (nI b) = nI k ∧ a ≤ k ∧ k ≤ b := by
  have ea := z_nI (n := a) (by omega)
  have eb := z_nI (n := b) hb
  unfold zbd
  by_cases h1 : nI a ≤ v
  · rw [if_pos h1]
    by_cases h2 : v ≤ nI b
    · rw [if_pos h2]
      rw [z_le] at h1 h2
      obtain ⟨k, q1, q2⟩ := z_of (x := v) (n := b + 1) (by omega) (by omega)
      have ek := z_nI (n := k) (by omega)
      rw [q2] at h1 h2
      exact ⟨k, q2, by omega, by omega⟩
    · rw [if_neg h2]; exact ⟨b, rfl, hab, Nat.le_refl _⟩
  · rw [if_neg h1]; exact ⟨a, rfl, Nat.le_refl _, hab⟩
def nNeed (γ : zC) (rn : Nat → Nat) (h : Nat) : Nat := (vNeed γ rn h).toInt.toNat
def nTake (γ : zC) (rn : Nat → Nat) (h : Nat) : Nat := (vTake γ rn h).toInt.toNat
def nWor (γ : zC) (rn : Nat → Nat) (h : Nat) : Nat := (vWor γ rn h).toInt.toNat
theorem nNeed_ok (γ : zC) (rn : Nat → Nat) (h : Nat) : vNeed γ rn h = nI (nNeed γ rn h) ∧ 1 ≤ nNeed γ rn h ∧ nNeed γ rn h ≤ 9 := by
  obtain ⟨k, h1, h2, h3⟩ := zbd_nat (v := wN γ.1 (zbd (γ.2.2.2.2.2 0 (cNm γ rn h)) 0 9) (cNm γ rn h 2)) (a := 1) (b := 9) (by omega) (by omega)
  have e : vNeed γ rn h = nI k := h1
  have en : nNeed γ rn h = k := by unfold nNeed; rw [e, z_nI (by omega)]; rfl
  rw [en]; exact ⟨e, h2, h3⟩
theorem nTake_ok (γ : zC) (rn : Nat → Nat) (h : Nat) : vTake γ rn h = nI (nTake γ rn h) ∧ 1 ≤ nTake γ rn h ∧ nTake γ rn h ≤ 24 := by
  obtain ⟨k, h1, h2, h3⟩ := zbd_nat (v := wT γ.1 (zbd (γ.2.2.2.2.2 1 (cNm γ rn h)) 0 24) (cNm γ rn h 2)) (a := 1) (b := 24) (by omega) (by omega)
  have e : vTake γ rn h = nI k := h1
  have en : nTake γ rn h = k := by unfold nTake; rw [e, z_nI (by omega)]; rfl
  rw [en]; exact ⟨e, h2, h3⟩
theorem nWor_ok (γ : zC) (rn : Nat → Nat) (h : Nat) : vWor γ rn h = nI (nWor γ rn h) ∧ nWor γ rn h ≤ 999 := by
  obtain ⟨k, h1, h2, h3⟩ := zbd_nat (v := wW γ.1 (zbd (γ.2.2.2.2.2 2 (cNm γ rn h)) 0 99) (cNm γ rn h 2) (cNm γ rn h 1)) (a := 0) (b := 999) (by omega) (by omega)
  have e : vWor γ rn h = nI k := h1
  have en : nWor γ rn h = k := by unfold nWor; rw [e, z_nI (by omega)]; rfl
  rw [en]; exact ⟨e, h3⟩
/-- it holds, begun in hour h -/
def zHo (γ : zC) (rn : Nat → Nat) (h : Nat) : Bool := decide (h + nTake γ rn h ≤ 24) && (List.range (nTake γ rn h)).all (fun i => decide (nNeed γ rn h ≤ rn (24 * γ.2.1 + (h + i))))
theorem zHo_iff {γ : zC} {rn : Nat → Nat} {h : Nat} : zHo γ rn h = true ↔ h + nTake γ rn h ≤ 24 ∧ ∀ x, h ≤ x → x < h + nTake γ rn h → nNeed γ rn h ≤ rn (24 * γ.2.1 + x) := by
  unfold zHo
  simp only [Bool.and_eq_true, decide_eq_true_eq, List.all_eq_true, List.mem_range]
  constructor
  · rintro ⟨h1, h2⟩
    refine ⟨h1, fun x hx1 hx2 => ?_⟩
    have := h2 (x - h) (by omega)
    rwa [show h + (x - h) = x by omega] at this
  · rintro ⟨h1, h2⟩
    exact ⟨h1, fun i hi => h2 (h + i) (by omega) (by omega)⟩
def zLast (γ : zC) (rn : Nat → Nat) (h : Nat) : Option Nat := if zHo γ rn h = true then some (h + nTake γ rn h - 1) else none
def zShf (γ : zC) (rn : Nat → Nat) : Nat → Nat → Option Nat
  | 0, _ => none
  | f + 1, h => match zLast γ rn h with
    | some v => some v
    | none => zShf γ rn f (h + 1)
/-- the hour in which hands are shaken, dealt from h on -/
def zSh (γ : zC) (rn : Nat → Nat) (h : Nat) : Option Nat := zShf γ rn (24 - h) h
def zO : Option Nat → Int32
  | none => -1
  | some v => nI v
theorem zLast_lt {γ : zC} {rn : Nat → Nat} {h v : Nat} (q : zLast γ rn h = some v) : h ≤ v ∧ v < 24 := by
  unfold zLast at q
  by_cases hh : zHo γ rn h = true
  · rw [if_pos hh] at q
    have h1 := (zHo_iff.mp hh).1
    have h2 := (nTake_ok γ rn h).2.1
    cases q
    omega
  · rw [if_neg hh] at q; cases q
theorem zShf_lt {γ : zC} {rn : Nat → Nat} : ∀ (f h v : Nat), zShf γ rn f h = some v → h ≤ v ∧ v < 24
  | 0, h, v, q => by cases q
  | f + 1, h, v, q => by
    simp only [zShf] at q
    cases hl : zLast γ rn h with
    | some w => rw [hl] at q; cases q; exact zLast_lt hl
    | none => rw [hl] at q; have := zShf_lt f (h + 1) v q; omega
theorem zSh_lt {γ : zC} {rn : Nat → Nat} {h v : Nat} (q : zSh γ rn h = some v) : h ≤ v ∧ v < 24 := zShf_lt _ _ _ q

/-! ===== the start: both sides hold the same ===== -/
def D00 : zD := (0, fun _ => 0, fun _ => 0, fun _ => 0, fun _ => 0, fun _ => 0, 0, 0)
set_option maxRecDepth 100000 in
theorem yu_txt : ∀ p : Nat, p < 40 → ev_by p ≤ 255 ∧ yu.1 1 (160 * 0 + p) = nI (ev_by p) := by decide +kernel
set_option maxRecDepth 100000 in
theorem yu_rain : ∀ k : Nat, k < 48 → yu.1 4 k = nI 0 := by decide +kernel
theorem yu_sheet : ∀ s : Nat, s < 4 → yu.1 10 s = 0 := by decide +kernel
theorem yu_v : yu.1 2 0 = nI 40 ∧ yu.1 0 3 = nI 1 ∧ yu.1 0 11 = nI 0 ∧ yu.1 0 7 = nI 0 ∧ yu.1 0 4 = nI 0 ∧ yu.1 0 37 = -1 ∧ yu.1 0 6 = nI 0 := by decide +kernel
theorem yu_text : mText em_T0 yu 0 f0 := by
  obtain ⟨σ7, -, -, -, -, -, -, f, hf, -, hg⟩ := xe_read (n := 40) em_T0 (by omega) ev_40
  refine ⟨40, ev_by, ⟨by omega, yu_v.1, by omega, yu_txt⟩, fun μ' which hw hT => ?_⟩
  obtain ⟨μ'', q1, q2, q3⟩ := hg μ' which hw hT
  exact ⟨μ'', by rw [q1, hf which _ hw], q2, q3⟩
theorem zRel_first {θ : sv_T} {σ : sv_S} (h : xFirst θ σ) : zRel θ em_T0 σ yu 1 (fun _ => f0) D00 := by
  obtain ⟨h1, hB, hT, h5, h20, h17, hz, h13, hr⟩ := h
  obtain ⟨v1, v2, v3, v4, v5, v6, v7⟩ := yu_v
  refine ⟨hB, em_B0, ⟨by omega, by omega, by omega, h5, v2, fun k hk => ?_⟩, ⟨⟨by show 0 ≤ 6; omega, fun _ _ => by show 0 ≤ 9; omega, fun b hb => absurd hb (by show ¬ b < 0; omega), by show 0 ≤ 9; omega, by show 0 < 6; omega⟩, by show 0 < 1; omega, ⟨?_, fun k hk => ?_, fun b hb => absurd hb (by show ¬ b < 0; omega), ?_, h17⟩, ⟨v3, yu_rain, fun b hb => absurd hb (by show ¬ b < 0; omega), v4, v5⟩⟩, Or.inl ⟨hz 0 2 (by omega) (by omega), v6⟩, ⟨0, fun _ => 0, by omega, h13, v7, fun p hp => absurd hp (by omega)⟩, fun s hs => ⟨(hr s hs).1, Or.inl ⟨(hr s hs).2, yu_sheet s hs⟩⟩⟩
  · have hk0 : k = 0 := by omega
    subst hk0
    exact ⟨h20, hT, yu_text⟩
  · exact hz 1 6 (by omega) (by omega)
  · exact hz 2 k (by omega) (by omega)
  · exact hz 1 5 (by omega) (by omega)

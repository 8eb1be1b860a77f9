/-! ===== a whole text: the class's read, the reference's ===== -/
def q_X4_readP (θ : sv_T) (x2 : Int32) (σ : sv_S) : Option (Unit × sv_S) :=
 sp_b (q_X4_expect θ ((3 : Int32) + x2) σ) (fun _ σ1 =>
 sp_b (q_X7_put θ 19 x2 (σ1.1 13 10) σ1) (fun _ σ2 =>
 sp_b (q_X4_readOr θ 40 (0 : Int32) σ2) (fun _ σ3 =>
 sp_b (q_X4_expect θ (59 : Int32) σ3) (fun _ σ4 =>
 q_X4_emit θ (-59 : Int32) σ4))))
def q_X4_read_B21 (θ : sv_T) : Nat → Int32 → sv_S → Option (Unit × sv_S)
  | 0 => fun _ _ => none
  | n + 1 => fun x2 σ => if (3 : Int32) ≤ x2 then some ((), σ) else sp_b (q_X4_readP θ x2 σ) (fun _ σ5 => q_X4_read_B21 θ n (x2 + 1) σ5)
def q_X4_read (θ : sv_T) (σ : sv_S) : Option (Int32 × sv_S) :=
 sp_b (q_X4_scan θ σ) (fun _ σ1 =>
 sp_l (sv_sI σ1 13 7 (0 : Int32)) (fun σ2 =>
 sp_l (sv_sI σ2 13 10 (0 : Int32)) (fun σ3 =>
 sp_l (sv_sI σ3 13 1 (-1 : Int32)) (fun σ4 =>
 sp_b (q_X4_read_B21 θ sv_N (0 : Int32) σ4) (fun _ σ5 =>
 sp_b (q_X4_expect θ (0 : Int32) σ5) (fun _ σ6 =>
 sp_l (sv_sI σ6 13 0 (0 : Int32)) (fun σ7 =>
 if (σ7.1 13 1) = (-1 : Int32) then
 (if (σ7.1 13 10) < 0 then some ((0 : Int32), σ7) else if (160 : Int32) < (σ7.1 13 10) then some ((0 : Int32), σ7) else some ((1 : Int32), σ7))
 else some ((0 : Int32), σ7))))))))
section RD
variable {θ θm : sv_T} {t n m : Nat} {B : Nat → Nat}
def zG2 (i j : Nat) : Prop := zGr i j ∨ i = 19
theorem z_g2 {σ σ' : sv_S} (h : zFr zGr σ σ') : zFr zG2 σ σ' := zFr_w h (fun _ _ q => Or.inl q)
theorem xTk_fr2 {S : Nat → Nat → Prop} {σ σ' : sv_S} {c : Nat} (h : xTk σ B n c) (hf : zFr S σ σ') (hS : ∀ j, ¬ S 15 j ∧ ¬ S 16 j ∧ ¬ S 17 j) : xTk σ' B n c := fun j hj => by
  obtain ⟨h1, h2, h3⟩ := h j hj
  exact ⟨by rw [hf.2 15 j (hS j).1]; exact h1, by rw [hf.2 16 j (hS j).2.1]; exact h2, by rw [hf.2 17 j (hS j).2.2]; exact h3⟩
theorem x_exp (hB : sx_base θ) (hE : zEnv B n m) {σ : sv_S} {j l : Nat} (h : xG σ B n m j l) (K : Int32) : q_X4_expect θ K σ = if zK B n (zS B n j) = K then some ((), sv_sI σ 13 7 (nI (j + 1))) else some ((), sv_sI σ 13 1 (nI (zS B n j))) := by
  unfold q_X4_expect
  rw [x_token hB hE h, zb]
  by_cases hc : zK B n (zS B n j) = K
  · rw [if_pos hc, if_pos hc, zl, h.2.1, nI_1]
  · rw [if_neg hc, if_neg hc, x_fail hB hE h, zb]
theorem x_expD {σ : sv_S} {F : Nat} {K : Int32} (hF : F ≤ 160) (h : σ.1 13 1 = nI F) (hK : ¬ (-1 : Int32) = K) : q_X4_expect θ K σ = some ((), σ) := by
  unfold q_X4_expect
  rw [x_tokenD hF h, zb, if_neg hK, x_failD hF h, zb]
theorem x_starts (hB : sx_base θ) {σ : sv_S} {p : Nat} (hp : p < 3) (v : Int32) : q_X7_put θ 19 (nI p) v σ = some ((), sv_sI σ 19 p v) := by
  have l9 : sv_len θ 19 = 3 := sx_L (sx_c19 hB)
  rw [z_put (by rw [l9]; omega), l9, zput_nI hp (by omega)]
theorem x_partD (hB : sx_base θ) {σ : sv_S} {F p : Nat} (hp : p < 3) (hF : F ≤ 160) (h : σ.1 13 1 = nI F) : ∃ σ', q_X4_readP θ (nI p) σ = some ((), σ') ∧ zFr zG2 σ σ' ∧ σ'.1 13 1 = nI F := by
  have h3 : ¬ (-1 : Int32) = (3 : Int32) + nI p := by rw [show (3 : Int32) = nI 3 from rfl, nI_add]; exact zN_m1 (by omega)
  have hd : (sv_sI σ 19 p (σ.1 13 10)).1 13 1 = nI F := by rw [zI_o (by omega)]; exact h
  obtain ⟨σ', z1, z2, z3⟩ := x_emitD (θ := θ) hB (σ := sv_sI σ 19 p (σ.1 13 10)) (v := -59)
  refine ⟨σ', ?_, zFr_tr (zFr_I (Or.inr rfl)) (z_g2 z2), by rw [z3]; exact hd⟩
  unfold q_X4_readP
  rw [x_expD hF h h3, zb, x_starts hB hp, zb]
  show sp_b (q_G4 40 0 θ (0 : Int32) _) _ = _
  rw [x_dead0 hF hd 40 0 0 (by omega) (by omega), zb, x_expD hF hd (by decide), zb, z1]
/-- the reference reads a part after a look for its word -/
def mPart (θm : sv_T) (w : Nat) (μ : sv_S) : Option (Int32 × sv_S) := sp_b (q_X8_isWord θm (nI (zWl w 0)) (nI (zWl w 1)) (nI (zWl w 2)) (nI (zWl w 3)) (nI (zWl w 4)) (nI (zWl w 5)) (nI 0) (nI 0) μ) (fun r σ => q_X8_part θm r σ)
theorem m_B34D {μ : sv_S} {a v : Int32} (h : μ.1 0 25 = 1) : q_X8_part_B34 θm a v μ = some (v, μ) := by
  unfold q_X8_part_B34 q_X8_part_B48
  rw [m_signD h, zb, if_pos (show (0 : Int32) = 0 from rfl), m_failD h, zb, h, if_neg (show ¬ (1 : Int32) = 0 by decide)]
theorem m_partN {μ : sv_S} {j : Nat} (h : mG μ t n B j 0) : q_X8_part θm 0 μ = some (0, sv_sI (sv_sI μ 0 25 1) 0 26 (nI (zS B n j))) := by
  unfold q_X8_part q_X8_part_B19
  have e := (m_bad h).2.1
  rw [if_pos (show (0 : Int32) = 0 from rfl), m_fail h.2.1 h.2.2.2.1, zb, e, if_neg (show ¬ (1 : Int32) = 0 by decide), if_neg (show ¬ (1 : Int32) = 0 by decide), m_B34D e]
set_option maxHeartbeats 1000000 in
theorem g_part (hB : sx_base θ) (hE : zEnv B n m) {p j l : Nat} {σ : sv_S} (hp : p < 3) (hx : xG σ B n m j l) :
    (∃ (σ' : sv_S) (j' l' : Nat) (f : (Nat → Int32) → Int32), q_X4_readP θ (nI p) σ = some ((), σ') ∧ zFr zG2 σ σ' ∧ xG σ' B n m j' (l' + 1) ∧ l' + 1 + j + 1 ≤ l + j' ∧ l < l' ∧ σ'.1 19 p = nI l ∧ (∀ q, q ≠ p → σ'.1 19 q = σ.1 19 q) ∧ (∀ i, i < l → σ'.1 18 i = σ.1 18 i) ∧ σ'.1 18 l' = -59 ∧ (∀ nm, zSg (σ'.1 18) nm l l' (f nm)) ∧
      ∀ μ, mG μ t n B j 0 → ∃ μ', mPart θm (6 + p) μ = some (f (zNm μ), μ') ∧ mFr mNx μ μ' ∧ mG μ' t n B j' 0) ∨
    (∃ (σ' : sv_S) (F : Nat), F ≤ 160 ∧ q_X4_readP θ (nI p) σ = some ((), σ') ∧ zFr zG2 σ σ' ∧ σ'.1 13 1 = nI F ∧ ∀ μ, mG μ t n B j 0 → ∃ v μ', mPart θm (6 + p) μ = some (v, μ') ∧ mFr mNx μ μ' ∧ μ'.1 0 25 = 1 ∧ μ'.1 0 26 = nI F) := by
  have e3 : (3 : Int32) + nI p = nI (6 + p - 3) := by rw [show (3 : Int32) = nI 3 from rfl, nI_add]; congr 1; omega
  have hlj := hx.2.2.2.1
  have hm := zEnv_m hE
  by_cases hk : zK B n (zS B n j) = nI (6 + p - 3)
  · have hw : zWa B n (zS B n j) = 6 + p := (zK_key (w := 6 + p) (by omega) (by omega)).mp hk
    have hKn : zK B n (zS B n j) ≠ 0 ∧ zK B n (zS B n j) ≠ -1 := by
      rw [hk]
      refine ⟨?_, fun q => zN_m1 (F := 6 + p - 3) (by omega) q.symm⟩
      rw [show (0 : Int32) = nI 0 from rfl]
      intro q
      rw [nI_eq (by omega) (by omega)] at q
      omega
    have hjm := zEnv_K0 hE hx.2.2.2.2.1 hKn.1
    have hsj := hE.2.2.1 j hjm
    obtain ⟨ha0, ha1, ha2⟩ := x_adv hx hjm
    have hput := x_starts (θ := θ) hB (σ := sv_sI σ 13 7 (nI (j + 1))) hp (nI l)
    have hlen : (sv_sI σ 13 7 (nI (j + 1))).1 13 10 = nI l := ha2.2.2.1
    have hf2 : zFr zG2 σ (sv_sI (sv_sI σ 13 7 (nI (j + 1))) 19 p (nI l)) := zFr_tr (z_g2 ha1) (zFr_I (Or.inr rfl))
    have hx2 : xG (sv_sI (sv_sI σ 13 7 (nI (j + 1))) 19 p (nI l)) B n m (j + 1) l := by
      obtain ⟨g1, g2, g3, g4, g5, g6⟩ := ha2
      refine ⟨by rw [zI_o (by omega)]; exact g1, by rw [zI_o (by omega)]; exact g2, by rw [zI_o (by omega)]; exact g3, g4, g5, xTk_fr2 g6 (S := fun i j => i = 19) (zFr_I rfl) (fun j => by omega)⟩
    have hcode : ∀ i, (sv_sI (sv_sI σ 13 7 (nI (j + 1))) 19 p (nI l)).1 18 i = σ.1 18 i := fun i => by rw [zI_o (by omega), zI_o (by omega)]
    have hst : ∀ q, q ≠ p → (sv_sI (sv_sI σ 13 7 (nI (j + 1))) 19 p (nI l)).1 19 q = σ.1 19 q := fun q hq => by rw [zI_o (by omega), zI_o (by omega)]
    have hsp : (sv_sI (sv_sI σ 13 7 (nI (j + 1))) 19 p (nI l)).1 19 p = nI l := zI_v
    have eC : q_X4_readP θ (nI p) σ = sp_b (q_G4 40 0 θ (nI 0) (sv_sI (sv_sI σ 13 7 (nI (j + 1))) 19 p (nI l))) (fun _ σ3 => sp_b (q_X4_expect θ (59 : Int32) σ3) (fun _ σ4 => q_X4_emit θ (-59 : Int32) σ4)) := by
      unfold q_X4_readP
      rw [x_exp hB hE hx, if_pos (show zK B n (zS B n j) = (3 : Int32) + nI p by rw [e3]; exact hk), zb, hlen, hput, zb]
      rfl
    have eM : ∀ μ, mG μ t n B j 0 → ∃ μ', mFr mNx μ μ' ∧ mG μ' t n B (j + 1) 0 ∧ mPart θm (6 + p) μ = sp_b (q_G8 40 0 θm μ') (fun r4 σ5 => q_X8_part_B34 θm 1 r4 σ5) := fun μ hμ => by
      obtain ⟨μ', g1, g2, g3⟩ := m_next (θ := θm) hμ hsj hKn.2
      refine ⟨μ', g2, g3, ?_⟩
      unfold mPart
      rw [m_isWord (θ := θm) hμ (show 6 + p < 12 by omega), zb, if_pos hw]
      unfold q_X8_part q_X8_part_B19
      rw [if_neg (show ¬ (1 : Int32) = 0 by decide), if_pos hμ.2.1, g1, zb, if_pos g3.2.1]
    revert hf2 hx2 hcode hst hsp eC
    generalize sv_sI (sv_sI σ 13 7 (nI (j + 1))) 19 p (nI l) = τ
    intro hf2 hx2 hcode hst hsp eC
    have hGP : GP θ θm t n m B 40 0 := g_all hB hE 40 0 (by omega)
    rcases hGP 0 (j + 1) l τ (by omega) (by omega) hx2 with ⟨σ', j', l', f, q1, q2, q3, q4, q5, q6, q7, q8⟩ | ⟨σ', F, qF, q1, q2, q3, q4⟩
    · have hll := (q7 (fun _ => 0)).1
      have s59 : ∀ μ1, mG μ1 t n B j' 0 → q_X8_isSign θm (59 : Int32) μ1 = some (if zK B n (zS B n j') = 59 then 1 else 0, μ1) := fun μ1 h => m_isSign (θ := θm) (c := 59) h (by decide)
      by_cases k59 : zK B n (zS B n j') = 59
      · have hjm' := zEnv_K0 hE q3.2.2.2.2.1 (by rw [k59]; decide)
        have hsj' := hE.2.2.1 j' hjm'
        obtain ⟨hb0, hb1, hb2⟩ := x_adv q3 hjm'
        obtain ⟨σ2, z1, z2, z3, z4, z5⟩ := x_emit (θ := θ) (v := -59) hB hE hb2 (by omega) (by omega)
        have hc5 : ∀ i, i ≠ l' → σ2.1 18 i = σ'.1 18 i := fun i hi => by rw [z5 i hi, zI_o (by omega)]
        refine Or.inl ⟨σ2, j' + 1, l', f, ?_, zFr_tr hf2 (z_g2 (zFr_tr q2 (zFr_tr hb1 z2))), z3, by omega, hll, ?_, fun q hq => ?_, fun i hi => ?_, z4, fun nm => ?_, fun μ hμ => ?_⟩
        · rw [eC, q1, zb, x_exp hB hE q3, if_pos k59, zb, z1]
        · rw [z2.2 19 p (by unfold zGr; omega), zI_o (by omega), q2.2 19 p (by unfold zGr; omega)]; exact hsp
        · rw [z2.2 19 q (by unfold zGr; omega), zI_o (by omega), q2.2 19 q (by unfold zGr; omega)]; exact hst q hq
        · rw [hc5 i (by omega), q6 i hi, hcode]
        · exact zSg_code (q7 nm) (fun k h1 h2 => hc5 k (by omega))
        · obtain ⟨μ1, w1, w2, w3⟩ := eM μ hμ
          obtain ⟨μ2, w4, w5, w6⟩ := q8 μ1 w2
          obtain ⟨μ3, g1, g2, g3⟩ := m_next (θ := θm) w6 hsj' (by rw [k59]; decide)
          refine ⟨μ3, ?_, mFr_tr w1 (mFr_tr w5 g2), g3⟩
          rw [w3, w4, zb]
          unfold q_X8_part_B34 q_X8_part_B48
          rw [s59 μ2 w6, zb, z_r01, if_pos k59, if_pos w6.2.1, g1, zb, zNm_fr w1]
      · have hF' : zS B n j' ≤ 160 := Nat.le_trans (zS_le j') hE.1
        obtain ⟨σ2, z1, z2, z3⟩ := x_emitD (θ := θ) hB (σ := sv_sI σ' 13 1 (nI (zS B n j'))) (v := -59)
        refine Or.inr ⟨σ2, zS B n j', hF', ?_, zFr_tr hf2 (z_g2 (zFr_tr q2 (zFr_tr (zFr_I (Or.inl ⟨rfl, by omega⟩)) z2))), by rw [z3]; exact zI_v, fun μ hμ => ?_⟩
        · rw [eC, q1, zb, x_exp hB hE q3, if_neg k59, zb, z1]
        · obtain ⟨μ1, w1, w2, w3⟩ := eM μ hμ
          obtain ⟨μ2, w4, w5, w6⟩ := q8 μ1 w2
          obtain ⟨c1, c2, c3⟩ := m_bad w6
          refine ⟨f (zNm μ1), _, ?_, mFr_tr w1 (mFr_tr w5 c1), c2, c3⟩
          rw [w3, w4, zb]
          unfold q_X8_part_B34 q_X8_part_B48
          rw [s59 μ2 w6, zb, z_r01, if_neg k59, m_fail w6.2.1 w6.2.2.2.1, zb, c2, if_neg (show ¬ (1 : Int32) = 0 by decide)]
    · obtain ⟨σ2, z1, z2, z3⟩ := x_emitD (θ := θ) hB (σ := σ') (v := -59)
      refine Or.inr ⟨σ2, F, qF, ?_, zFr_tr hf2 (z_g2 (zFr_tr q2 z2)), by rw [z3]; exact q3, fun μ hμ => ?_⟩
      · rw [eC, q1, zb, x_expD qF q3 (by decide), zb, z1]
      · obtain ⟨μ1, w1, w2, w3⟩ := eM μ hμ
        obtain ⟨v, μ2, w4, w5, w6, w7⟩ := q4 μ1 w2
        exact ⟨v, μ2, by rw [w3, w4, zb, m_B34D w6], mFr_tr w1 w5, w6, w7⟩
  · have hw : ¬ zWa B n (zS B n j) = 6 + p := fun q => hk ((zK_key (w := 6 + p) (by omega) (by omega)).mpr q)
    have hF : zS B n j ≤ 160 := Nat.le_trans (zS_le j) hE.1
    have hd : (sv_sI (sv_sI σ 13 1 (nI (zS B n j))) 19 p ((sv_sI σ 13 1 (nI (zS B n j))).1 13 10)).1 13 1 = nI (zS B n j) := by rw [zI_o (by omega)]; exact zI_v
    obtain ⟨σ2, z1, z2, z3⟩ := x_emitD (θ := θ) hB (σ := sv_sI (sv_sI σ 13 1 (nI (zS B n j))) 19 p ((sv_sI σ 13 1 (nI (zS B n j))).1 13 10)) (v := -59)
    refine Or.inr ⟨σ2, zS B n j, hF, ?_, zFr_tr (zFr_I (Or.inl (Or.inl ⟨rfl, by omega⟩))) (zFr_tr (zFr_I (Or.inr rfl)) (z_g2 z2)), by rw [z3]; exact hd, fun μ hμ => ?_⟩
    · unfold q_X4_readP
      rw [x_exp hB hE hx, if_neg (show ¬ zK B n (zS B n j) = (3 : Int32) + nI p by rw [e3]; exact hk), zb, x_starts hB hp, zb]
      show sp_b (q_G4 40 0 θ (0 : Int32) _) _ = _
      rw [x_dead0 hF hd 40 0 0 (by omega) (by omega), zb, x_expD hF hd (by decide), zb, z1]
    · obtain ⟨c1, c2, c3⟩ := m_bad hμ
      refine ⟨0, _, ?_, c1, c2, c3⟩
      unfold mPart
      rw [m_isWord (θ := θm) hμ (show 6 + p < 12 by omega), zb, if_neg hw, m_partN hμ]
end RD

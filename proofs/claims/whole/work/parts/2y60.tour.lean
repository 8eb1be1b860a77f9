/-! ===== tours: how one goes, both sides ===== -/
section TOUR
variable {θ θm : sv_T} {σ μ : sv_S} {tc : Nat} {Fs : Nat → Nat → (Nat → Int32) → Int32} {D : zD}
def zPc (x : Nat) : Nat := x % 2 + x / 2 % 2 + x / 4 % 2 + x / 8 % 2 + x / 16 % 2 + x / 32 % 2
theorem z_orb : ∀ x, x < 64 → ∀ b, b < 6 → nI x ||| ((1 : Int32) <<< (nI b &&& 31)) = nI (x ||| 2 ^ b) ∧ x ||| 2 ^ b < 64 := by decide +kernel
theorem z_pc1 : ∀ x, x < 64 → ∀ b, b < 6 → x.testBit b = false → zPc (x ||| 2 ^ b) = zPc x + 1 := by decide +kernel
theorem z_pc6 : ∀ x, x < 64 → zPc x ≤ 6 := by decide +kernel
theorem z_bc {x : Nat} (hx : x < 64) : q_J6_bitCount_0f7a4 θ (nI x) σ = some (nI (zPc x), σ) := by
  have key : ∀ x, x < 64 → (fun a1 : Int32 => (fun v1 : Int32 => (fun v2 : Int32 => (fun v3 : Int32 => (fun v4 : Int32 => (fun v5 : Int32 => v5 &&& (63 : Int32)) (v4 + (((v4).toUInt32 >>> (((16 : Int32)).toUInt32 &&& Int32.toUInt32 31)).toInt32))) (v3 + (((v3).toUInt32 >>> (((8 : Int32)).toUInt32 &&& Int32.toUInt32 31)).toInt32))) ((v2 + (((v2).toUInt32 >>> (((4 : Int32)).toUInt32 &&& Int32.toUInt32 31)).toInt32)) &&& (252645135 : Int32))) ((v1 &&& (858993459 : Int32)) + ((((v1).toUInt32 >>> (((2 : Int32)).toUInt32 &&& Int32.toUInt32 31)).toInt32) &&& (858993459 : Int32)))) (a1 - ((((a1).toUInt32 >>> (((1 : Int32)).toUInt32 &&& Int32.toUInt32 31)).toInt32) &&& (1431655765 : Int32)))) (nI x) = nI (zPc x) := by decide +kernel
  have := key x hx
  unfold q_J6_bitCount_0f7a4
  rw [zl, zl, zl, zl, zl]
  exact congrArg (fun z => some (z, σ)) this
/-- gain, dealt (bits), the hour from which the next is dealt, left out (bits) -/
abbrev zT : Type := Nat × Nat × Nat × Nat
def tStep (D : zD) (F : Nat → (Nat → Int32) → Int32) (rn : Nat → Nat) (T : zT) (b : Nat) : zT :=
  match zSh (dC D F b (dSh D + zPc T.2.1)) rn T.2.2.1 with
  | none => (T.1, T.2.1, T.2.2.1, T.2.2.2 ||| 2 ^ b)
  | some v => (T.1 + nWor (dC D F b (dSh D + zPc T.2.1)) rn v, T.2.1 ||| 2 ^ b, v + 1, T.2.2.2)
def zL (n : Nat) : Int32 := if n = 0 then -1 else nI (n - 1)
theorem zL_1 {n : Nat} : zL n + 1 = nI n := by
  unfold zL
  by_cases h : n = 0
  · rw [if_pos h, h]; rfl
  · rw [if_neg h, nI_1]; congr 1; omega
theorem zL_s {n : Nat} : zL (n + 1) = nI n := by unfold zL; rw [if_neg (by omega)]; rfl
def tOk (T : zT) : Prop := T.2.1 < 64 ∧ T.2.2.1 ≤ 24 ∧ T.2.2.2 < 64
theorem tStep_ok {F : Nat → (Nat → Int32) → Int32} {rn : Nat → Nat} {T : zT} {b : Nat} (hT : tOk T) (hb : b < 6) : tOk (tStep D F rn T b) := by
  obtain ⟨t1, t2, t3⟩ := hT
  unfold tStep
  cases hz : zSh (dC D F b (dSh D + zPc T.2.1)) rn T.2.2.1 with
  | none => exact ⟨t1, t2, (z_orb _ t3 b hb).2⟩
  | some v =>
    have := zSh_lt hz
    exact ⟨(z_orb _ t1 b hb).2, by show v + 1 ≤ 24; omega, t3⟩
def xT (σ : sv_S) (T : zT) : Prop := σ.1 24 3 = nI T.1 ∧ σ.1 24 4 = nI T.2.1 ∧ σ.1 24 5 = zL T.2.2.1 ∧ σ.1 24 6 = nI T.2.2.2
def mT (μ : sv_S) (T : zT) : Prop := μ.1 0 27 = nI T.1 ∧ μ.1 0 28 = nI (zPc T.2.1) ∧ μ.1 0 29 = zL T.2.2.1 ∧ μ.1 0 30 = nI T.2.2.2 ∧ μ.1 0 31 = nI T.2.1
/-- what a tour of the class writes -/
def zPl (i j : Nat) : Prop := i = 24 ∧ 3 ≤ j ∧ j ≤ 6 ∨ i = 25 ∨ i = 26 ∨ zSk i j
theorem zPl_tmp : ∀ i j, zPl i j → zTmp i j := fun i j h => by
  unfold zPl at h; unfold zTmp
  rcases h with q | q | q | q
  · omega
  · omega
  · omega
  · exact Or.inr (Or.inr (Or.inr q))
theorem xRn_pl {σ' : sv_S} {rn : Nat → Nat} (h : xRn θ σ 27 rn) (hf : xFr zPl σ σ') : xRn θ σ' 27 rn := xRn_fr h hf (fun j => by unfold zPl zSk; omega)
theorem xMk_pl {σ' : sv_S} (h : xMk σ 1 D) (hf : xFr zPl σ σ') : xMk σ' 1 D := xMk_fr h hf (fun i j h1 h2 => by unfold zPl zSk; omega)
theorem xText_pl {σ' : sv_S} {k : Nat} {F : Nat → (Nat → Int32) → Int32} (h : xText θ σ k F) (hf : xFr zPl σ σ') : xText θ σ' k F := xText_fr h hf (fun i j h1 h2 => by unfold zPl zSk; omega)
/-- one bargain of a tour: the class's step -/
theorem x_tourStep (hB : sx_base θ) (hD : zDok D) {F : Nat → (Nat → Int32) → Int32} {rn : Nat → Nat} {T : zT} {b : Nat} {b2 : Nat} {a3 n i : Int32} {rec : Int32 → Int32 → Int32 → sv_S → Option (Unit × sv_S)} (hX : xMk σ 1 D) (hR : xRn θ σ 27 rn) (hF : xText θ σ (dT D) F) (hT : tOk T) (hx : xT σ T) (hb : b < dM D) (hi : i < n) (hi6 : i < 6) (hat : q_X7_at θ b2 i σ = some (nI b, σ)) :
    ∃ σ', q_X3_run_B37_b θ b2 a3 rec n (nI (dSh D)) i σ = rec n (nI (dSh D)) (i + 1) σ' ∧ xFr zPl σ σ' ∧ xT σ' (tStep D F rn T b) := by
  have hM6 := hD.1
  obtain ⟨t1, t2, t3⟩ := hT
  obtain ⟨x1, x2, x3, x4⟩ := hx
  have ni : ¬ n ≤ i := fun z => by rw [z_le] at z; rw [z_lt] at hi; omega
  have n6 : ¬ (6 : Int32) ≤ i := fun z => by rw [z_le] at z; rw [z_lt] at hi6; omega
  obtain ⟨σ1, r1, r2, r3⟩ := x_regard (c := 25) (d := dSh D + zPc T.2.1) hB (Or.inr rfl) hD hX hF hb
  have f1 : xFr zPl σ σ1 := xFr_w r2 (fun i j q => by unfold zCa at q; unfold zPl; omega)
  have e5 : σ1.1 24 5 = zL T.2.2.1 := by rw [(r2.2 24 5 (by unfold zCa; omega)).1]; exact x3
  obtain ⟨σ2, s1, s2⟩ := x_shakenHour (b1 := 27) (by omega) (by omega) t2 r3 (xRn_pl hR f1)
  have lk : ∀ i j, zLk 25 i j → zPl i j := fun i j q => by unfold zLk at q; unfold zPl; rcases q with q | q; exact Or.inr (Or.inr (Or.inr q)); omega
  have f2 : xFr zPl σ σ2 := xFr_tr f1 (xFr_z (zFr_w s2 lk))
  have nn : ∀ τ, xFr (fun i j => zCa 25 i j ∨ zLk 25 i j) σ τ → ∀ j, τ.1 24 j = σ.1 24 j := fun τ hτ j => (hτ.2 24 j (by unfold zCa zLk zSk; omega)).1
  have g2 : xFr (fun i j => zCa 25 i j ∨ zLk 25 i j) σ σ2 := xFr_tr (xFr_w r2 (fun i j q => Or.inl q)) (xFr_z (zFr_w s2 (fun i j q => Or.inr q)))
  have hd : nI (dSh D) + nI (zPc T.2.1) = nI (dSh D + zPc T.2.1) := nI_add _ _
  unfold q_X3_run_B37_b
  rw [if_neg ni, if_neg n6, hat, zb, x2, z_bc t1, zb, hd, r1, zb, e5, zL_1, s1, zb]
  unfold tStep
  cases hz : zSh (dC D F b (dSh D + zPc T.2.1)) rn T.2.2.1 with
  | none =>
    have e6 : σ2.1 24 6 = nI T.2.2.2 := by rw [nn σ2 g2]; exact x4
    refine ⟨sv_sI σ2 24 6 (nI (T.2.2.2 ||| 2 ^ b)), ?_, xFr_tr f2 (xFr_I (Or.inl ⟨rfl, by omega, by omega⟩)), ?_, ?_, ?_, zI_v⟩
    · show (if (-1 : Int32) = -1 then _ else _) = _
      rw [if_pos rfl, e6, (z_orb _ t3 b (by omega)).1, zl, zl]
    · rw [zI_o (by omega), nn σ2 g2]; exact x1
    · rw [zI_o (by omega), nn σ2 g2]; exact x2
    · rw [zI_o (by omega), nn σ2 g2]; exact x3
  | some v =>
    have hv := zSh_lt hz
    have c2 := xCs_lk r3 s2
    have R2 := xRn_pl hR f2
    obtain ⟨σ3, u1, u2, u3, u4, u5⟩ := x_see (b1 := 27) c2 R2 (h := v) (by omega)
    obtain ⟨σ4, w1, w2⟩ := x_worthC u3 u4 u5
    obtain ⟨o1, o2⟩ := nWor_ok (dC D F b (dSh D + zPc T.2.1)) rn v
    have g3 : xFr (fun i j => zCa 25 i j ∨ zLk 25 i j) σ σ3 := xFr_tr g2 (xFr_z (zFr_w u2 (fun i j q => Or.inr q)))
    have g4 : xFr (fun i j => zCa 25 i j ∨ zLk 25 i j) σ σ4 := xFr_tr g3 (xFr_z (zFr_w w2 (fun i j q => Or.inr (Or.inl q))))
    have f4 : xFr zPl σ σ4 := xFr_tr (xFr_tr f2 (xFr_z (zFr_w u2 lk))) (xFr_z (zFr_w w2 (fun i j q => Or.inr (Or.inr (Or.inr q)))))
    have e3 : σ3.1 24 3 = nI T.1 := by rw [nn σ3 g3]; exact x1
    have e4 : ∀ w, (sv_sI σ4 24 3 w).1 24 4 = nI T.2.1 := fun w => by rw [zI_o (by omega), nn σ4 g4]; exact x2
    refine ⟨sv_sI (sv_sI (sv_sI σ4 24 3 (nI (T.1 + nWor (dC D F b (dSh D + zPc T.2.1)) rn v))) 24 4 (nI (T.2.1 ||| 2 ^ b))) 24 5 (nI v), ?_, xFr_tr (xFr_tr (xFr_tr f4 (xFr_I (Or.inl ⟨rfl, by omega, by omega⟩))) (xFr_I (Or.inl ⟨rfl, by omega, by omega⟩))) (xFr_I (Or.inl ⟨rfl, by omega, by omega⟩)), ?_, ?_, ?_, ?_⟩
    · show (if nI v = (-1 : Int32) then _ else sp_b (q_X0_see θ 25 27 (nI v) σ2) _) = _
      rw [if_neg (zO_ne (by omega)), u1, zb, w1, zb, e3, o1, nI_add, zl, e4, (z_orb _ t1 b (by omega)).1, zl, zl, zl]
      rfl
    · rw [zI_o (by omega), zI_o (by omega)]; exact zI_v
    · rw [zI_o (by omega)]; exact zI_v
    · rw [zI_v]; exact zL_s.symm
    · rw [zI_o (by omega), zI_o (by omega), zI_o (by omega), nn σ4 g4]; exact x4
/-- the reference's step -/
theorem m_deals {F : Nat → (Nat → Int32) → Int32} {T : zT} {b : Nat} (hO : mOk θm μ D F) (hT : tOk T) (hx : mT μ T) (hb : b < dM D) (hnew : T.2.1.testBit b = false) :
    ∃ μ', q_X8_deals θm (nI b) μ = some ((), μ') ∧ mFr mTmp μ μ' ∧ mT μ' (tStep D F (dR D) T b) := by
  have hM6 := hO.1.1
  obtain ⟨t1, t2, t3⟩ := hT
  obtain ⟨x1, x2, x3, x4, x5⟩ := hx
  obtain ⟨μ1, s1, s2⟩ := m_shakes (d := dSh D + zPc T.2.1) hO hb t2
  have nn : ∀ τ, mFr mEv μ τ → ∀ j, 27 ≤ j → τ.1 0 j = μ.1 0 j := fun τ hτ j hj => hτ.2 0 j (by unfold mEv; omega)
  have hd : nI (dSh D) + nI (zPc T.2.1) = nI (dSh D + zPc T.2.1) := nI_add _ _
  unfold q_X8_deals
  rw [m_shakenMany hO.1 hO.2.1, zb, x2, hd, zl, x3, zL_1, s1, zb]
  unfold tStep
  cases hz : zSh (dC D F b (dSh D + zPc T.2.1)) (dR D) T.2.2.1 with
  | none =>
    have e6 : μ1.1 0 30 = nI T.2.2.2 := by rw [nn μ1 s2 _ (by omega)]; exact x4
    refine ⟨sv_sI μ1 0 30 (nI (T.2.2.2 ||| 2 ^ b)), ?_, mFr_tr (m_tmp s2) (mFr_I ⟨rfl, by omega, by omega⟩), ?_, ?_, ?_, zI_v, ?_⟩
    · show (if (-1 : Int32) = -1 then _ else _) = _
      rw [if_pos rfl, e6, (z_orb _ t3 b (by omega)).1, zl]
    · rw [zI_o (by omega), nn μ1 s2 _ (by omega)]; exact x1
    · rw [zI_o (by omega), nn μ1 s2 _ (by omega)]; exact x2
    · rw [zI_o (by omega), nn μ1 s2 _ (by omega)]; exact x3
    · rw [zI_o (by omega), nn μ1 s2 _ (by omega)]; exact x5
  | some v =>
    have hv := zSh_lt hz
    obtain ⟨μ2, w1, w2⟩ := m_worthOf (d := dSh D + zPc T.2.1) (mOk_ev hO s2) hb (h := v) (by omega)
    obtain ⟨o1, o2⟩ := nWor_ok (dC D F b (dSh D + zPc T.2.1)) (dR D) v
    have e3 : μ1.1 0 27 = nI T.1 := by rw [nn μ1 s2 _ (by omega)]; exact x1
    have s3 : mFr mEv μ μ2 := mFr_tr s2 w2
    have hp := z_pc1 _ t1 b (by omega) hnew
    refine ⟨sv_sI (sv_sI (sv_sI (sv_sI μ2 0 27 (nI (T.1 + nWor (dC D F b (dSh D + zPc T.2.1)) (dR D) v))) 0 29 (nI v)) 0 28 (nI (zPc T.2.1 + 1))) 0 31 (nI (T.2.1 ||| 2 ^ b)), ?_, mFr_tr (mFr_tr (mFr_tr (mFr_tr (m_tmp s3) (mFr_I ⟨rfl, by omega, by omega⟩)) (mFr_I ⟨rfl, by omega, by omega⟩)) (mFr_I ⟨rfl, by omega, by omega⟩)) (mFr_I ⟨rfl, by omega, by omega⟩), ?_, ?_, ?_, ?_, zI_v⟩
    · have e28 : (sv_sI (sv_sI μ2 0 27 (nI (T.1 + nWor (dC D F b (dSh D + zPc T.2.1)) (dR D) v))) 0 29 (nI v)).1 0 28 = nI (zPc T.2.1) := by rw [zI_o (by omega), zI_o (by omega), nn μ2 s3 _ (by omega)]; exact x2
      have e31 : (sv_sI (sv_sI (sv_sI μ2 0 27 (nI (T.1 + nWor (dC D F b (dSh D + zPc T.2.1)) (dR D) v))) 0 29 (nI v)) 0 28 (nI (zPc T.2.1 + 1))).1 0 31 = nI T.2.1 := by rw [zI_o (by omega), zI_o (by omega), zI_o (by omega), nn μ2 s3 _ (by omega)]; exact x5
      rw [show zO (some v) = nI v from rfl]
      rw [if_neg (zO_ne (by omega)), w1, zb, e3, o1, nI_add, zl, zl, e28, nI_1, zl, e31, (z_orb _ t1 b (by omega)).1, zl]
    · rw [zI_o (by omega), zI_o (by omega), zI_o (by omega)]; exact zI_v
    · rw [zI_o (by omega), zI_v]; exact congrArg nI hp.symm
    · rw [zI_o (by omega), zI_o (by omega), zI_v]; exact zL_s.symm
    · rw [zI_o (by omega), zI_o (by omega), zI_o (by omega), zI_o (by omega), nn μ2 s3 _ (by omega)]; exact x4
end TOUR

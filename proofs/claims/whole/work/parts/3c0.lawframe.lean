/-! ===== the law: both sides beside one another ===== -/
abbrev lz_A (s : State) : Nat → Prop := fun q => s.heap.size ≤ q
def lz_W (D : va_G) (T : Nat → ClassId) (s : State) (h : Nat → Nat) (θ : sv_T) (σ : sv_S) (hm : Nat → Nat) (θm : sv_T) (μ : sv_S) (H : Heap) (locs : List Loc) : Prop := sv_W D T (lz_A s) s h θ σ H locs ∧ sv_W D T (lz_A s) s hm θm μ H locs ∧ ∀ i j, i < θ.1 → j < θm.1 → h i ≠ hm j
def lz_C (p : Program) (s : State) (m : MethodId) (c : Code) (b L : Nat) (xs : Nat → Int32) (qK qV : Nat → Nat) (D : va_G) (T : Nat → ClassId) : Prop :=
  sv_F (sx_X2 qK qV) p m c cL_law 4 s #[Value.ref b] wsL_law RL D (sx_tys T) (lz_A s) ∧ sv_F sm_X p m c cL_law 4 s #[Value.ref b] wsL_law RL D (sm_tys T) (lz_A s) ∧ va_X b L xs s s.heap ∧ b < s.heap.size
theorem lz_cmp (r : Int64) : lg_cmp r r = 0 := by
  unfold lg_cmp
  have h : ¬ r < r := by rw [Int64.lt_iff_toInt_lt]; omega
  simp [h]
section LZ
variable {p : Program} {l : Launch} {e : Env} {R : Room} {s : State} {m : MethodId} {args : Array Value} {below : List Frame} {meth : Method} {c : Code} {H : Heap} {locs : List Loc} {cells slots mc ms : Nat} {Q : State → Prop}
variable {pc : Nat} {ls : Array Slot} {rest st0 : List Value} {D : va_G} {T : Nat → ClassId} {h hm : Nat → Nat} {θ θm : sv_T} {σ μ σ' : sv_S}
theorem lz_sw (hW : lz_W D T s h θ σ hm θm μ H locs) : lz_W D T s hm θm μ h θ σ H locs := ⟨hW.2.1, hW.1, fun i j hi hj e => hW.2.2 j i hj hi e.symm⟩
theorem lz_lt {A : Nat → Prop} (hW : sv_W D T A s h θ σ H locs) {i : Nat} (hi : i < θ.1) : h i < H.size := (hW.1 i _ (sv_ws_get hi)).lt
theorem lz_kept {H1 : Heap} {locs1 : List Loc} (hW : lz_W D T s h θ σ hm θm μ H locs) (hk : ∀ q : Nat, q < H.size → ¬ sv_A h θ H.size q → H1[q]? = H[q]?) (hS : va_S (lz_A s) s.heap H1 locs1) : sv_W D T (lz_A s) s hm θm μ H1 locs1 := by
  refine ⟨hW.2.1.1.kept (fun k q hq => ?_), hW.2.1.2.1, hS⟩
  have hk2 : k < θm.1 := by
    have := (List.getElem?_eq_some_iff.mp hq).1
    simpa [sv_ws] using this
  rw [sv_ws_get hk2] at hq
  cases hq
  have hlt := lz_lt hW.2.1 hk2
  refine hk _ hlt (fun z => ?_)
  rcases z with ⟨i, hi, e⟩ | z
  · exact hW.2.2 i k hi hk2 e.symm
  · exact absurd hlt (Nat.not_lt.mpr z)
theorem lz_goI {r : Int32} {a : Array Value} (hW : lz_W D T s h θ σ hm θm μ H locs)
    (hr : va_Run p l e R s m args below meth c H locs cells slots 0 0 (F0 m pc ls st0) rest (va_Qi (fun r2 (_ : Unit) => r2 = r) (fun _ t => va_P D vwCl (sv_ws T h θ σ') t.heap) (sv_A h θ H.size) a) (sv_A h θ H.size))
    (kk : ∀ (H1 : Heap) (locs1 : List Loc), lz_W D T s h θ σ' hm θm μ H1 locs1 → W p l e R s m args below meth c H1 locs1 cells slots Q (F0 m (pc + 3) ls (.int r :: rest))) : W p l e R s m args below meth c H locs cells slots Q (F0 m pc ls st0) := by
  refine va_calli hr hW.1.2.2 (fun q _ hq => sv_freeA (fun _ h => h) hW.1 q hq) (sv_freeA (fun _ h => h) hW.1) (fun r2 u t H1 locs1 ht hvm hw hB hz1 hk1 hS => ?_)
  subst hw
  exact kk H1 locs1 ⟨⟨by rw [← ht]; exact hB, sv_D_of hW.1.2.1, hS⟩, lz_kept hW hk1 hS, hW.2.2⟩
theorem lz_goL {r : Int64} {a : Array Value} (hW : lz_W D T s h θ σ hm θm μ H locs)
    (hr : va_Run p l e R s m args below meth c H locs cells slots 0 0 (F0 m pc ls st0) rest (va_Ql (fun r2 (_ : Unit) => r2 = r) (fun _ t => va_P D vwCl (sv_ws T h θ σ') t.heap) (sv_A h θ H.size) a) (sv_A h θ H.size))
    (kk : ∀ (H1 : Heap) (locs1 : List Loc), lz_W D T s h θ σ' hm θm μ H1 locs1 → W p l e R s m args below meth c H1 locs1 cells slots Q (F0 m (pc + 3) ls (.long r :: rest))) : W p l e R s m args below meth c H locs cells slots Q (F0 m pc ls st0) := by
  refine va_calll hr hW.1.2.2 (fun q _ hq => sv_freeA (fun _ h => h) hW.1 q hq) (sv_freeA (fun _ h => h) hW.1) (fun r2 u t H1 locs1 ht hvm hw hB hz1 hk1 hS => ?_)
  subst hw
  exact kk H1 locs1 ⟨⟨by rw [← ht]; exact hB, sv_D_of hW.1.2.1, hS⟩, lz_kept hW hk1 hS, hW.2.2⟩
/-- what a call that makes cells leaves -/
theorem lz_grow {h' : Nat → Nat} {θ' : sv_T} {H1 : Heap} {locs1 : List Loc} (hW : lz_W D T s h θ σ hm θm μ H locs) (hx : sv_ext h θ.1 θ'.1 H.size h') (hP : va_P D vwCl (sv_ws T h' θ' σ') H1) (hD : va_D (fun _ => True) (sv_ws T h' θ' σ')) (hk : ∀ q : Nat, q < H.size → ¬ sv_A h θ H.size q → H1[q]? = H[q]?) (hS : va_S (lz_A s) s.heap H1 locs1) : lz_W D T s h' θ' σ' hm θm μ H1 locs1 := by
  refine ⟨⟨hP, sv_D_ext hD (fun k hk3 => ?_), hS⟩, lz_kept hW hk hS, fun i j hi hj => ?_⟩
  · by_cases hk2 : k < θ.1
    · rw [hx.1 k hk2]; exact hW.1.2.1.2 k _ (sv_ws_get hk2)
    · exact Nat.le_trans hW.1.2.2.1 (hx.2 k (by omega) hk3)
  · by_cases hi2 : i < θ.1
    · rw [hx.1 i hi2]; exact hW.2.2 i j hi2 hj
    · have h1 := hx.2 i (by omega) hi
      have h2 := lz_lt hW.2.1 hj
      omega
variable {b L : Nat} {xs : Nat → Int32} {qK qV : Nat → Nat}
theorem lz_arg (C : lz_C p s m c b L xs qK qV D T) (hL : L ≤ 3072) (hS : va_S (lz_A s) s.heap H locs) {v1 v2 : Value} {i : Nat} (k : Nat) {kz : Int} (hl : lv_has ls 4 [(3, .int (nI i)), (0, .ref b), (1, v1), (2, v2)]) (hk : i + k < L) (hz : Int32.ofInt kz = nI k) (d0 : decode cL_law pc = .ok (.aload_n 0, 1)) (d1 : decode cL_law (pc + 1) = .ok (.iload_n 3, 1)) (d2 : decode cL_law (pc + 1 + 1) = .ok (.iconst kz, 1)) (d3 : decode cL_law (pc + 1 + 1 + 1) = .ok (.iadd, 1)) (d4 : decode cL_law (pc + 1 + 1 + 1 + 1) = .ok (.iaload, 1))
    (kk : W p l e R s m args below meth c H locs cells slots Q (F0 m (pc + 1 + 1 + 1 + 1 + 1) ls (.int (xs (i + k)) :: rest))) : W p l e R s m args below meth c H locs cells slots Q (F0 m pc ls rest) := by
  have hx := C.1.1.1
  have hb := C.1.1.2.1
  have hbA : ¬ lz_A s b := Nat.not_le.mpr C.2.2.2
  refine lv_aload_n hx hb d0 rfl (lv_at hl 1 rfl) ?_
  refine lv_iload_n hx hb d1 rfl (lv_at hl 0 rfl) ?_
  refine lv_iconst hx hb d2 hz ?_
  refine lv_iadd hx hb d3 ?_
  rw [nI_add]
  refine va_sld hx hb C.2.2.1 C.2.2.2 hbA hS (vp_in_nI hk (by omega)) d4 ?_
  rw [nI_clamp (by omega)]
  exact kk
/-- how the law goes on behind a call -/
def lz_K (p : Program) (l : Launch) (e : Env) (s : State) (m : MethodId) (below : List Frame) (meth : Method) (c : Code) (b i : Nat) (D : va_G) (T : Nat → ClassId) (hm : Nat → Nat) (cells slots : Nat) (Q : State → Prop) : Prop :=
  ∀ (h' : Nat → Nat) (θ' : sv_T) (σ' μ' : sv_S) (tc' : Nat) (Fs' : Nat → Nat → (Nat → Int32) → Int32) (D' : zD) (ls : Array Slot) (H : Heap) (locs : List Loc), lv_has ls 4 [(3, .int (nI i)), (0, .ref b), (1, .ref (h' 0)), (2, .ref (hm 0))] → lz_W D T s h' θ' σ' hm em_T0 μ' H locs → zRel θ' em_T0 σ' μ' tc' Fs' D' → W p l e room_1 s m #[Value.ref b] below meth c H locs (cells + 4) (slots + 484) Q (F0 m 974 ls [])
end LZ

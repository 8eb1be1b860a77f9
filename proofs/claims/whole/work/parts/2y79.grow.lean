/-! ===== cells that come: rows ===== -/
def sv_uh (h : Nat → Nat) (n q : Nat) : Nat → Nat := fun i => if i = n then q else h i
theorem sv_uh_o {h : Nat → Nat} {n q i : Nat} (hi : i < n) : sv_uh h n q i = h i := by unfold sv_uh; rw [if_neg (by omega)]
theorem sv_uh_f {h : Nat → Nat} {n q i : Nat} (hn : n < 1000) (hi : i < n ∨ 1000 ≤ i) : sv_uh h n q i = h i := by unfold sv_uh; rw [if_neg (by omega)]
theorem sv_uh_v {h : Nat → Nat} {n q : Nat} : sv_uh h n q n = q := by unfold sv_uh; rw [if_pos rfl]
/-- no cell's reference goes beyond the cells, but far -/
def sv_cl (θ : sv_T) (σ : sv_S) : Prop := ∀ i, i < θ.1 → (∀ j t, σ.2.2 i j = some t → t < θ.1 ∨ 1000 ≤ t) ∧ ∀ c ks, θ.2 i = .inl (c, ks) → ∀ (k : Nat) (κ : sv_K), ks[k]? = some κ → 3 ≤ κ.1 → i + κ.2 < θ.1
theorem sv_val_h {h h' : Nat → Nat} {θ : sv_T} {σ : sv_S} {i j : Nat} {κ : sv_K} (hh : ∀ i, (i < θ.1 ∨ 1000 ≤ i) → h' i = h i) (hr : ∀ j t, σ.2.2 i j = some t → t < θ.1 ∨ 1000 ≤ t) (hκ : 3 ≤ κ.1 → i + κ.2 < θ.1) : sv_val h' σ i j κ = sv_val h σ i j κ := by
  obtain ⟨a, d⟩ := κ
  match a with
  | 0 => rfl
  | 1 => rfl
  | 2 =>
    show va_rf ((σ.2.2 i j).map h') = va_rf ((σ.2.2 i j).map h)
    cases hq : σ.2.2 i j with
    | none => rfl
    | some t =>
      show va_rf (some (h' t)) = va_rf (some (h t))
      rw [hh t (hr j t hq)]
  | a + 3 =>
    show Value.ref _ = Value.ref _
    rw [hh _ (Or.inl (hκ (by show 3 ≤ a + 3; omega)))]
theorem sv_vals_h {h h' : Nat → Nat} {θ : sv_T} {σ : sv_S} {i : Nat} (hh : ∀ i, (i < θ.1 ∨ 1000 ≤ i) → h' i = h i) (hr : ∀ j t, σ.2.2 i j = some t → t < θ.1 ∨ 1000 ≤ t) : ∀ (ks : List sv_K) (b : Nat), (∀ (k : Nat) (κ : sv_K), ks[k]? = some κ → 3 ≤ κ.1 → i + κ.2 < θ.1) → sv_vals h' σ i b ks = sv_vals h σ i b ks
  | [], _, _ => rfl
  | κ :: ks, b, hk => by
    simp only [sv_vals]
    rw [sv_val_h hh hr (hk 0 κ rfl), sv_vals_h hh hr ks (b + 1) (fun k κ' q => hk (k + 1) κ' (by simpa using q))]
theorem sv_cell_h {T : Nat → ClassId} {h h' : Nat → Nat} {θ : sv_T} {σ : sv_S} {i : Nat} {sh : sv_Sh} (hh : ∀ i, (i < θ.1 ∨ 1000 ≤ i) → h' i = h i) (hr : ∀ j t, σ.2.2 i j = some t → t < θ.1 ∨ 1000 ≤ t) (hk : ∀ c ks, sh = .inl (c, ks) → ∀ (k : Nat) (κ : sv_K), ks[k]? = some κ → 3 ≤ κ.1 → i + κ.2 < θ.1) : sv_cell T h' σ i sh = sv_cell T h σ i sh := by
  match sh with
  | .inl q =>
    show (Sum.inr (q.1, sv_vals h' σ i 0 q.2) : va_E) = Sum.inr (q.1, sv_vals h σ i 0 q.2)
    rw [sv_vals_h hh hr q.2 0 (hk q.1 q.2 rfl)]
  | .inr q =>
    have e : sv_row h' σ i q.1 = sv_row h σ i q.1 := by
      match hq : q.1 with
      | 0 => rfl
      | 1 => rfl
      | t + 2 =>
        show (Sum.inr (Sum.inr (Sum.inr (Sum.inr (fun j => (σ.2.2 i j).map h')))) : (Nat → Int32) ⊕ (Nat → Int64) ⊕ (Nat → UInt32) ⊕ (Nat → UInt64) ⊕ (Nat → Option Nat)) = Sum.inr (Sum.inr (Sum.inr (Sum.inr (fun j => (σ.2.2 i j).map h))))
        congr 4
        funext j
        cases hs : σ.2.2 i j with
        | none => rfl
        | some t2 =>
          show some (h' t2) = some (h t2)
          rw [hh t2 (hr j t2 hs)]
    show (Sum.inl (T q.1, q.2, sv_row h' σ i q.1) : va_E) = Sum.inl (T q.1, q.2, sv_row h σ i q.1)
    rw [e]
theorem sv_ws_congr {T : Nat → ClassId} {h h' : Nat → Nat} {θ θ' : sv_T} {σ σ' : sv_S} (h1 : θ'.1 = θ.1) (hc : ∀ i, i < θ.1 → h' i = h i ∧ sv_cell T h' σ' i (θ'.2 i) = sv_cell T h σ i (θ.2 i)) : sv_ws T h' θ' σ' = sv_ws T h θ σ := by
  unfold sv_ws
  rw [h1]
  apply List.map_congr_left
  intro i hi
  obtain ⟨e1, e2⟩ := hc i (List.mem_range.mp hi)
  rw [e1, e2]
theorem sv_ws_push {T : Nat → ClassId} {h : Nat → Nat} {θ : sv_T} {σ σ' : sv_S} {q : Nat} {e : va_E} (hθ : θ.1 < 1000) (hc : sv_cl θ σ) (hσ : ∀ i, i < θ.1 → σ'.1 i = σ.1 i ∧ σ'.2.1 i = σ.2.1 i ∧ σ'.2.2 i = σ.2.2 i) (he : e = sv_cell T (sv_uh h θ.1 q) σ' θ.1 (θ.2 θ.1)) : sv_ws T (sv_uh h θ.1 q) (θ.1 + 1, θ.2) σ' = sv_ws T h θ σ ++ [(q, e)] := by
  subst he
  unfold sv_ws
  show (List.range (θ.1 + 1)).map _ = _
  rw [List.range_succ, List.map_append]
  congr 1
  · apply List.map_congr_left
    intro i hi
    have hi' := List.mem_range.mp hi
    obtain ⟨a1, a2, a3⟩ := hσ i hi'
    obtain ⟨b1, b2⟩ := hc i hi'
    rw [sv_uh_o hi']
    show (h i, sv_cell T (sv_uh h θ.1 q) σ' i (θ.2 i)) = _
    rw [sv_cell_I a1 a2 a3, sv_cell_h (θ := θ) (fun i hi => sv_uh_f hθ hi) b1 b2]
  · show [(sv_uh h θ.1 q θ.1, _)] = _
    rw [sv_uh_v]
section SVG
variable {p : Program} {l : Launch} {e : Env} {R : Room} {s : State} {m : MethodId} {args : Array Value} {below : List Frame} {meth : Method} {c : Code} {H : Heap} {locs : List Loc} {cells slots : Nat} {Q : State → Prop}
variable {cc : ByteArray} {pc : Nat} {ls : Array Slot} {rest st0 : List Value} {D : va_G} {T : Nat → ClassId} {A : Nat → Prop} {tys : List (ClassId × FieldType)} {h : Nat → Nat} {θ : sv_T} {σ σ' : sv_S} {i : Nat}
variable {X : sv_X}
/-- a new object -/
theorem sv_newO (hx : p.tables.exec = Jvm.exec) (hb : c.code = cc) {own C : String} {Tf : u_T} {N ci index : Nat} {Ts : List Cond} (hts : ∀ w ∈ Ts, w.before args s = true) (hin : ∀ w ∈ u_ws C Tf N, w ∈ Ts) (ty : Nat → FieldType) (hty : ∀ k, k < N → parseFieldDescriptor (Tf k).2.2.1 = some (ty k)) (hown : s.vm.findClass own = some m.cls) (hlink : (Cond.classLink own index C).before args s = true) (hinst : (Cond.instantiable C N).before args s = true) (hini : (Cond.initialized C).before args s = true)
    (hK : va_K D vwCl tys s) (hW : sv_W D T A s h θ σ H locs) (hA : ∀ q, s.heap.size ≤ q → A q) (hc : vwCl[ci]? = some (C, Tf, N)) {ks : List sv_K} (hsh : θ.2 θ.1 = .inl (ci, ks)) (hθ : θ.1 < 1000) (hcl : sv_cl θ σ) {fs : List Value} (hfs : ∀ j, j < N → defaultValue (ty j) = vp_V fs j) (hv : ∀ h', sv_vals h' σ θ.1 0 ks = fs) (hcells : cells + 1 ≤ R.cells) (hslots : slots + N ≤ R.slots) (hdg : decode cc pc = .ok (.new index, 3))
    (kk : ∀ (h' : Nat → Nat) (H1 : Heap), (∀ i, i < θ.1 → h' i = h i) → sv_W D T A s h' (θ.1 + 1, θ.2) σ H1 locs → W p l e R s m args below meth c H1 locs (cells + 1) (slots + N) Q (F0 m (pc + 3) ls (.ref (h' θ.1) :: rest))) : W p l e R s m args below meth c H locs cells slots Q (F0 m pc ls rest) := by
  refine va_new (D := D) hx hb hts hin ty hty hown hlink hinst hini hK hW.1 hW.2.1 hW.2.2 hA hc hfs hcells hslots hdg (fun q H1 hP hD hS => ?_)
  have e1 : sv_ws T (sv_uh h θ.1 q) (θ.1 + 1, θ.2) σ = sv_ws T h θ σ ++ [(q, .inr (ci, fs))] := sv_ws_push hθ hcl (fun i _ => ⟨rfl, rfl, rfl⟩) (by rw [hsh]; show _ = (Sum.inr (ci, sv_vals _ σ θ.1 0 ks) : va_E); rw [hv])
  have := kk (sv_uh h θ.1 q) H1 (fun i hi => sv_uh_o hi) ⟨by rw [e1]; exact hP, by rw [e1]; exact hD, hS⟩
  rw [sv_uh_v] at this
  exact this
/-- a new row of ints -/
theorem sv_newI (hx : p.tables.exec = Jvm.exec) (hb : c.code = cc) (harr : (Cond.arrayClass .int).before args s = true) (hK : va_K D vwCl tys s) (hW : sv_W D T A s h θ σ H locs) (hA : ∀ q, s.heap.size ≤ q → A q) {L : Nat} (hsh : θ.2 θ.1 = .inr (0, L)) (hθ : θ.1 < 1000) (hcl : sv_cl θ σ) (hz : ∀ j, σ.1 θ.1 j = 0) (t0 : Nat) (ht : tys[t0]? = some (T 0, .int)) {n : Int32} (hn : ¬ n < 0) (hN : n.toNatClampNeg = L) (hbytes : L * 4 ≤ 536870912) (hcells : cells + 1 ≤ R.cells) (hslots : slots + L ≤ R.slots) (hdg : decode cc pc = .ok (.newarray .int, 2))
    (kk : ∀ (h' : Nat → Nat) (H1 : Heap), (∀ i, i < θ.1 → h' i = h i) → sv_W D T A s h' (θ.1 + 1, θ.2) σ H1 locs → W p l e R s m args below meth c H1 locs (cells + 1) (slots + L) Q (F0 m (pc + 2) ls (.ref (h' θ.1) :: rest))) : W p l e R s m args below meth c H locs cells slots Q (F0 m pc ls (.int n :: rest)) := by
  refine va_newa (D := D) (atype := .int) (ty := .int) (a0 := (L, .inl (fun _ => 0))) hx hb harr rfl hK hW.1 hW.2.1 hW.2.2 hA (fun cA => rfl) hn hN hbytes hcells hslots hdg (fun q cA H1 hK1 hP hD hS => ?_)
  have hcA : cA = T 0 := by
    have q1 : s.vm.findClass ("[" ++ (FieldType.int).toString) = some cA := (hK1.2 tys.length (cA, .int) (by simp)).2
    have q2 : s.vm.findClass ("[" ++ (FieldType.int).toString) = some (T 0) := (hK.2 t0 _ ht).2
    exact Option.some.inj (q1.symm.trans q2)
  subst hcA
  have e1 : sv_ws T (sv_uh h θ.1 q) (θ.1 + 1, θ.2) σ = sv_ws T h θ σ ++ [(q, .inl (T 0, L, .inl (fun _ => 0)))] := sv_ws_push hθ hcl (fun i _ => ⟨rfl, rfl, rfl⟩) (by
    rw [hsh]
    show _ = (Sum.inl (T 0, L, Sum.inl (σ.1 θ.1)) : va_E)
    rw [show σ.1 θ.1 = fun _ => 0 from funext hz])
  have := kk (sv_uh h θ.1 q) H1 (fun i hi => sv_uh_o hi) ⟨by rw [e1]; exact hP, by rw [e1]; exact hD, hS⟩
  rw [sv_uh_v] at this
  exact this
/-- a new row of truths -/
theorem sv_newZ (hx : p.tables.exec = Jvm.exec) (hb : c.code = cc) (harr : (Cond.arrayClass .boolean).before args s = true) (hK : va_K D vwCl tys s) (hW : sv_W D T A s h θ σ H locs) (hA : ∀ q, s.heap.size ≤ q → A q) {L : Nat} (hsh : θ.2 θ.1 = .inr (1, L)) (hθ : θ.1 < 1000) (hcl : sv_cl θ σ) (hz : ∀ j, σ.1 θ.1 j = 0) (t0 : Nat) (ht : tys[t0]? = some (T 1, .boolean)) {n : Int32} (hn : ¬ n < 0) (hN : n.toNatClampNeg = L) (hbytes : L * 1 ≤ 536870912) (hcells : cells + 1 ≤ R.cells) (hslots : slots + L ≤ R.slots) (hdg : decode cc pc = .ok (.newarray .boolean, 2))
    (kk : ∀ (h' : Nat → Nat) (H1 : Heap), (∀ i, i < θ.1 → h' i = h i) → sv_W D T A s h' (θ.1 + 1, θ.2) σ H1 locs → W p l e R s m args below meth c H1 locs (cells + 1) (slots + L) Q (F0 m (pc + 2) ls (.ref (h' θ.1) :: rest))) : W p l e R s m args below meth c H locs cells slots Q (F0 m pc ls (.int n :: rest)) := by
  refine va_newa (D := D) (atype := .boolean) (ty := .boolean) (a0 := (L, .inl (fun _ => 0))) hx hb harr rfl hK hW.1 hW.2.1 hW.2.2 hA (fun cA => rfl) hn hN hbytes hcells hslots hdg (fun q cA H1 hK1 hP hD hS => ?_)
  have hcA : cA = T 1 := by
    have q1 : s.vm.findClass ("[" ++ (FieldType.boolean).toString) = some cA := (hK1.2 tys.length (cA, .boolean) (by simp)).2
    have q2 : s.vm.findClass ("[" ++ (FieldType.boolean).toString) = some (T 1) := (hK.2 t0 _ ht).2
    exact Option.some.inj (q1.symm.trans q2)
  subst hcA
  have e1 : sv_ws T (sv_uh h θ.1 q) (θ.1 + 1, θ.2) σ = sv_ws T h θ σ ++ [(q, .inl (T 1, L, .inl (fun _ => 0)))] := sv_ws_push hθ hcl (fun i _ => ⟨rfl, rfl, rfl⟩) (by
    rw [hsh]
    show _ = (Sum.inl (T 1, L, Sum.inl (σ.1 θ.1)) : va_E)
    rw [show σ.1 θ.1 = fun _ => 0 from funext hz])
  have := kk (sv_uh h θ.1 q) H1 (fun i hi => sv_uh_o hi) ⟨by rw [e1]; exact hP, by rw [e1]; exact hD, hS⟩
  rw [sv_uh_v] at this
  exact this
/-- a new row of references -/
theorem sv_newR (hx : p.tables.exec = Jvm.exec) (hb : c.code = cc) {own C : String} {index t : Nat} (hown : s.vm.findClass own = some m.cls) (hlink : (Cond.classLink own index C).before args s = true) (hover : va_AO C s) (hK : va_K D vwCl tys s) (hW : sv_W D T A s h θ σ H locs) (hA : ∀ q, s.heap.size ≤ q → A q) {L : Nat} (hsh : θ.2 θ.1 = .inr (t + 2, L)) (hθ : θ.1 < 1000) (hcl : sv_cl θ σ) (hz : ∀ j, σ.2.2 θ.1 j = none) (t0 : Nat) (ht : tys[t0]? = some (T (t + 2), .object C)) {n : Int32} (hn : ¬ n < 0) (hN : n.toNatClampNeg = L) (hbytes : L * 4 ≤ 536870912) (hcells : cells + 1 ≤ R.cells) (hslots : slots + L ≤ R.slots) (hdg : decode cc pc = .ok (.anewarray index, 3))
    (kk : ∀ (h' : Nat → Nat) (H1 : Heap), (∀ i, i < θ.1 → h' i = h i) → sv_W D T A s h' (θ.1 + 1, θ.2) σ H1 locs → W p l e R s m args below meth c H1 locs (cells + 1) (slots + L) Q (F0 m (pc + 3) ls (.ref (h' θ.1) :: rest))) : W p l e R s m args below meth c H locs cells slots Q (F0 m pc ls (.int n :: rest)) := by
  refine va_newq (D := D) hx hb hown hlink hover hK hW.1 hW.2.1 hW.2.2 hA hn hN hbytes hcells hslots hdg (fun q cA H1 hK1 hP hD hS => ?_)
  have hcA : cA = T (t + 2) := by
    obtain ⟨k1, c1, -, -, -, q1⟩ := (hK1.2 tys.length (cA, .object C) (by simp)).2
    obtain ⟨k2, c2, -, -, -, q2⟩ := (hK.2 t0 _ ht).2
    exact Option.some.inj (q1.symm.trans q2)
  subst hcA
  have e1 : sv_ws T (sv_uh h θ.1 q) (θ.1 + 1, θ.2) σ = sv_ws T h θ σ ++ [(q, .inl (T (t + 2), L, .inr (.inr (.inr (.inr (fun _ => none))))))] := sv_ws_push hθ hcl (fun i _ => ⟨rfl, rfl, rfl⟩) (by
    rw [hsh]
    show _ = (Sum.inl (T (t + 2), L, Sum.inr (Sum.inr (Sum.inr (Sum.inr (fun j => (σ.2.2 θ.1 j).map (sv_uh h θ.1 q)))))) : va_E)
    congr 7
    funext j
    rw [hz j]
    rfl)
  have := kk (sv_uh h θ.1 q) H1 (fun i hi => sv_uh_o hi) ⟨by rw [e1]; exact hP, by rw [e1]; exact hD, hS⟩
  rw [sv_uh_v] at this
  exact this
/-- a row of ints, cloned -/
theorem sv_clnI (hx : p.tables.exec = Jvm.exec) (hb : c.code = cc) (hml : c.maxLocals = ls.size) {own : String} {index : Nat} (hown : s.vm.findClass own = some m.cls) (hlink : (Cond.methodLink own index ⟨"[I", "clone", "()Ljava/lang/Object;"⟩).before args s = true) (hsame : (Cond.sameMethod "[I" "java/lang/Object" "clone" "()Ljava/lang/Object;").before args s = true)
    (hnat : (Cond.native ⟨"java/lang/Object", "clone", "()Ljava/lang/Object;"⟩).before args s = true) (hinst : (Cond.instanceMethod ⟨"java/lang/Object", "clone", "()Ljava/lang/Object;"⟩).before args s = true)
    (hsel : (Cond.selects "[I" ⟨"[I", "clone", "()Ljava/lang/Object;"⟩ ⟨"java/lang/Object", "clone", "()Ljava/lang/Object;"⟩).before args s = true) (hcl1 : va_Nw (.castable "[I" "java/lang/Cloneable") s)
    (hK : va_K D vwCl tys s) (hW : sv_W D T A s h θ σ H locs) (hA : ∀ q, s.heap.size ≤ q → A q) {a L : Nat} (ha : a < θ.1) (hsha : θ.2 a = .inr (0, L)) (hsh : θ.2 θ.1 = .inr (0, L)) (hθ : θ.1 < 1000) (hcl : sv_cl θ σ) (t0 : Nat) (ht : tys[t0]? = some (T 0, .int))
    (hframes : 1 ≤ R.frames) (hlocals : (rest.map fun v => v.category).sum + 14 ≤ R.locals) (hcells : cells + 1 ≤ R.cells) (hslots : slots + L ≤ R.slots) (hdg : decode cc pc = .ok (.invokevirtual index, 3))
    (kk : ∀ (h' : Nat → Nat) (H1 : Heap), (∀ i, i < θ.1 → h' i = h i) → sv_W D T A s h' (θ.1 + 1, θ.2) (sv_sR σ θ.1 (σ.1 a)) H1 locs → W p l e R s m args below meth c H1 locs (cells + 1) (slots + L) Q (F0 m (pc + 3) ls (.ref (h' θ.1) :: rest))) : W p l e R s m args below meth c H locs cells slots Q (F0 m pc ls (.ref (h a) :: rest)) := by
  have hnm : s.vm.findClass "[I" = some (T 0) := (hK.2 t0 _ ht).2
  refine va_clone (D := D) hx hb hml hown hlink hsame hnat hinst hsel hcl1 hK hW.1 hW.2.1 hW.2.2 hA a t0 (x := (L, .inl (σ.1 a))) (sv_aget ha hsha) ht hnm (fun i v hv => ?_) hframes hlocals hcells hslots hdg (fun q H1 hK1 hP hD hS => ?_)
  · rw [vp_cell_i] at hv
    by_cases hi : i < L
    · rw [arrV_read _ _ hi] at hv
      cases hv
      rfl
    · rw [Array.getElem?_eq_none (by rw [arrV_size]; omega)] at hv
      cases hv
  · have e1 : sv_ws T (sv_uh h θ.1 q) (θ.1 + 1, θ.2) (sv_sR σ θ.1 (σ.1 a)) = sv_ws T h θ σ ++ [(q, .inl (T 0, L, .inl (σ.1 a)))] := sv_ws_push hθ hcl (fun i hi => ⟨sv_r_ne (by omega), rfl, rfl⟩) (by
      rw [hsh]
      show _ = (Sum.inl (T 0, L, Sum.inl ((sv_sR σ θ.1 (σ.1 a)).1 θ.1)) : va_E)
      rw [show (sv_sR σ θ.1 (σ.1 a)).1 θ.1 = σ.1 a by simp [sv_sR, sv_r]])
    have := kk (sv_uh h θ.1 q) H1 (fun i hi => sv_uh_o hi) ⟨by rw [e1]; exact hP, by rw [e1]; exact hD, hS⟩
    rw [sv_uh_v] at this
    exact this
end SVG

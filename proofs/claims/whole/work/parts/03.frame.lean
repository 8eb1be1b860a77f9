/-! ===== the state of a side, its cells, the rows over it ===== -/
/-- a field's kind: (0, _) int, (1, _) long, (2, _) a reference that may change, (3, d) the cell d behind its own -/
abbrev sv_K : Type := Nat × Nat
/-- a cell's shape: an object (its class's place in vwCl, its fields' kinds), or a row (0 int, 1 boolean, 2 Text, 3 Row; its length) -/
abbrev sv_Sh : Type := (Nat × List sv_K) ⊕ (Nat × Nat)
/-- what the cells hold: ints, longs, references (places of cells), by cell and slot -/
abbrev sv_S : Type := (Nat → Nat → Int32) × (Nat → Nat → Int64) × (Nat → Nat → Option Nat)
abbrev sv_T : Type := Nat × (Nat → sv_Sh)
def sv_u {α : Type} (f : Nat → Nat → α) (i j : Nat) (v : α) : Nat → Nat → α := fun a b => if a = i then (if b = j then v else f a b) else f a b
def sv_r {α : Type} (f : Nat → Nat → α) (i : Nat) (g : Nat → α) : Nat → Nat → α := fun a => if a = i then g else f a
def sv_sI (σ : sv_S) (i j : Nat) (v : Int32) : sv_S := (sv_u σ.1 i j v, σ.2.1, σ.2.2)
def sv_sJ (σ : sv_S) (i j : Nat) (v : Int64) : sv_S := (σ.1, sv_u σ.2.1 i j v, σ.2.2)
def sv_sP (σ : sv_S) (i j : Nat) (v : Option Nat) : sv_S := (σ.1, σ.2.1, sv_u σ.2.2 i j v)
def sv_sR (σ : sv_S) (i : Nat) (g : Nat → Int32) : sv_S := (sv_r σ.1 i g, σ.2.1, σ.2.2)
def sv_len (θ : sv_T) (a : Nat) : Nat := match θ.2 a with
  | .inl _ => 0
  | .inr q => q.2
def sv_val (h : Nat → Nat) (σ : sv_S) (i j : Nat) (k : sv_K) : Value := match k.1 with
  | 0 => .int (σ.1 i j)
  | 1 => .long (σ.2.1 i j)
  | 2 => va_rf ((σ.2.2 i j).map h)
  | _ => .ref (h (i + k.2))
def sv_vals (h : Nat → Nat) (σ : sv_S) (i : Nat) : Nat → List sv_K → List Value
  | _, [] => []
  | j, k :: ks => sv_val h σ i j k :: sv_vals h σ i (j + 1) ks
def sv_row (h : Nat → Nat) (σ : sv_S) (i t : Nat) : (Nat → Int32) ⊕ (Nat → Int64) ⊕ (Nat → UInt32) ⊕ (Nat → UInt64) ⊕ (Nat → Option Nat) := match t with
  | 0 => .inl (σ.1 i)
  | 1 => .inl (σ.1 i)
  | _ => .inr (.inr (.inr (.inr (fun j => (σ.2.2 i j).map h))))
def sv_cell (T : Nat → ClassId) (h : Nat → Nat) (σ : sv_S) (i : Nat) (sh : sv_Sh) : va_E := match sh with
  | .inl q => .inr (q.1, sv_vals h σ i 0 q.2)
  | .inr q => .inl (T q.1, q.2, sv_row h σ i q.1)
def sv_ws (T : Nat → ClassId) (h : Nat → Nat) (θ : sv_T) (σ : sv_S) : va_W := (List.range θ.1).map (fun i => (h i, sv_cell T h σ i (θ.2 i)))
theorem sv_vals_get (h : Nat → Nat) (σ : sv_S) (i : Nat) : ∀ (ks : List sv_K) (b k : Nat) (κ : sv_K), ks[k]? = some κ → (sv_vals h σ i b ks)[k]? = some (sv_val h σ i (b + k) κ)
  | [], b, k, κ, hk => by simp at hk
  | q :: ks, b, 0, κ, hk => by simp at hk; subst hk; simp [sv_vals]
  | q :: ks, b, k + 1, κ, hk => by
    have := sv_vals_get h σ i ks (b + 1) k κ (by simpa using hk)
    simp only [sv_vals, List.getElem?_cons_succ]
    rw [this, show b + 1 + k = b + (k + 1) by omega]
theorem sv_vals_len (h : Nat → Nat) (σ : sv_S) (i : Nat) : ∀ (ks : List sv_K) (b : Nat), (sv_vals h σ i b ks).length = ks.length
  | [], b => rfl
  | q :: ks, b => by simp [sv_vals, sv_vals_len h σ i ks]
theorem sv_vals_same (h : Nat → Nat) (σ σ' : sv_S) (i : Nat) : ∀ (ks : List sv_K) (b : Nat), (∀ k κ, ks[k]? = some κ → sv_val h σ' i (b + k) κ = sv_val h σ i (b + k) κ) → sv_vals h σ' i b ks = sv_vals h σ i b ks
  | [], b, _ => rfl
  | q :: ks, b, hk => by
    have h0 := hk 0 q rfl
    have h1 := sv_vals_same h σ σ' i ks (b + 1) (fun k κ hq => by
      have := hk (k + 1) κ (by simpa using hq)
      rw [show b + 1 + k = b + (k + 1) by omega]
      exact this)
    simp only [sv_vals]
    rw [h1]
    congr 1
theorem sv_ws_get {T : Nat → ClassId} {h : Nat → Nat} {θ : sv_T} {σ : sv_S} {i : Nat} (hi : i < θ.1) : (sv_ws T h θ σ)[i]? = some (h i, sv_cell T h σ i (θ.2 i)) := by
  simp [sv_ws, hi]
theorem sv_ws_set {T : Nat → ClassId} {h : Nat → Nat} {θ : sv_T} {σ σ' : sv_S} {i : Nat} {e : va_E} (he : e = sv_cell T h σ' i (θ.2 i)) (ho : ∀ a, a ≠ i → sv_cell T h σ' a (θ.2 a) = sv_cell T h σ a (θ.2 a)) : (sv_ws T h θ σ).set i (h i, e) = sv_ws T h θ σ' := by
  subst he
  apply List.ext_getElem?
  intro j
  by_cases hj : j < θ.1
  · by_cases hij : j = i
    · subst hij
      rw [sv_ws_get hj, List.getElem?_set_self (by simp [sv_ws, hj])]
    · rw [List.getElem?_set_ne (Ne.symm hij), sv_ws_get hj, sv_ws_get hj, ho j hij]
  · rw [List.getElem?_eq_none (by simp [sv_ws]; omega), List.getElem?_eq_none (by simp [sv_ws]; omega)]
theorem sv_cell_I {T : Nat → ClassId} {h : Nat → Nat} {σ σ' : sv_S} {a : Nat} {sh : sv_Sh} (h1 : σ'.1 a = σ.1 a) (h2 : σ'.2.1 a = σ.2.1 a) (h3 : σ'.2.2 a = σ.2.2 a) : sv_cell T h σ' a sh = sv_cell T h σ a sh := by
  have hv : ∀ j κ, sv_val h σ' a j κ = sv_val h σ a j κ := fun j κ => by simp only [sv_val, h1, h2, h3]
  match sh with
  | .inl q => simp only [sv_cell]; rw [sv_vals_same h σ σ' a q.2 0 (fun k κ _ => hv _ _)]
  | .inr q => simp only [sv_cell, sv_row, h1, h3]
theorem sv_u_ne {α : Type} {f : Nat → Nat → α} {i j a : Nat} {v : α} (ha : a ≠ i) : sv_u f i j v a = f a := by funext b; simp [sv_u, ha]
theorem sv_u_self {α : Type} {f : Nat → Nat → α} {i j : Nat} {v : α} : sv_u f i j v i = fun b => if b = j then v else f i b := by funext b; simp [sv_u]
theorem sv_r_ne {α : Type} {f : Nat → Nat → α} {i a : Nat} {g : Nat → α} (ha : a ≠ i) : sv_r f i g a = f a := by simp [sv_r, ha]
theorem sv_vals_put {h : Nat → Nat} {σ σ' : sv_S} {i k : Nat} {ks : List sv_K} {κ : sv_K} {v : Value} (hk : ks[k]? = some κ) (hv : sv_val h σ' i k κ = v) (ho : ∀ j κ', j ≠ k → sv_val h σ' i j κ' = sv_val h σ i j κ') : (sv_vals h σ i 0 ks).set k v = sv_vals h σ' i 0 ks := by
  apply List.ext_getElem?
  intro j
  by_cases hj : j < ks.length
  · have e1 := sv_vals_get h σ i ks 0 j _ (List.getElem?_eq_getElem hj)
    have e2 := sv_vals_get h σ' i ks 0 j _ (List.getElem?_eq_getElem hj)
    rw [Nat.zero_add] at e1 e2
    by_cases hjk : j = k
    · subst hjk
      rw [List.getElem?_set_self (by rw [sv_vals_len]; exact hj), e2]
      have hq : ks[j] = κ := Option.some.inj ((List.getElem?_eq_getElem hj).symm.trans hk)
      rw [hq, hv]
    · rw [List.getElem?_set_ne (Ne.symm hjk), e1, e2, ho j _ hjk]
  · rw [List.getElem?_eq_none (by rw [List.length_set, sv_vals_len]; omega), List.getElem?_eq_none (by rw [sv_vals_len]; omega)]
/-- the world of a method at work -/
def sv_W (D : va_G) (T : Nat → ClassId) (A : Nat → Prop) (s : State) (h : Nat → Nat) (θ : sv_T) (σ : sv_S) (H : Heap) (locs : List Loc) : Prop :=
  va_P D vwCl (sv_ws T h θ σ) H ∧ va_D A (sv_ws T h θ σ) ∧ va_S A s.heap H locs
def sv_A (h : Nat → Nat) (θ : sv_T) (sz : Nat) : Nat → Prop := fun q => (∃ i, i < θ.1 ∧ q = h i) ∨ sz ≤ q
theorem sv_A_eq {T : Nat → ClassId} {h : Nat → Nat} {θ : sv_T} {σ : sv_S} {sz : Nat} : va_A (sv_ws T h θ σ) sz = sv_A h θ sz := by
  funext q
  apply propext
  constructor
  · rintro (⟨k, e, hk⟩ | hq)
    · have hl : k < θ.1 := by
        have := (List.getElem?_eq_some_iff.mp hk).1
        simpa [sv_ws] using this
      rw [sv_ws_get hl] at hk
      exact Or.inl ⟨k, hl, (congrArg Prod.fst (Option.some.inj hk)).symm⟩
    · exact Or.inr hq
  · rintro (⟨i, hi, rfl⟩ | hq)
    · exact Or.inl ⟨i, _, sv_ws_get hi⟩
    · exact Or.inr hq
theorem sv_D_of {A : Nat → Prop} {T : Nat → ClassId} {h : Nat → Nat} {θ : sv_T} {σ σ' : sv_S} (hD : va_D A (sv_ws T h θ σ)) : va_D A (sv_ws T h θ σ') := by
  have key : ∀ (i : Nat) (q : Nat × va_E), (sv_ws T h θ σ')[i]? = some q → ∃ q0, (sv_ws T h θ σ)[i]? = some q0 ∧ q0.1 = q.1 := by
    intro i q hq
    have hl : i < θ.1 := by
      have := (List.getElem?_eq_some_iff.mp hq).1
      simpa [sv_ws] using this
    rw [sv_ws_get hl] at hq
    exact ⟨_, sv_ws_get hl, by rw [← Option.some.inj hq]⟩
  refine ⟨fun i j p q hp hq hpq => ?_, fun k q hq => ?_⟩
  · obtain ⟨p0, g1, g2⟩ := key i p hp
    obtain ⟨q0, g3, g4⟩ := key j q hq
    exact hD.1 i j p0 q0 g1 g3 (by rw [g2, g4, hpq])
  · obtain ⟨q0, g1, g2⟩ := key k q hq
    rw [← g2]
    exact hD.2 k q0 g1
/-- what a side knows beside its cells: links among nest mates, static rows, Strings -/
abbrev sv_X : Type := (Nat → Prop) → State → Heap → Prop
def sv_XP (X : sv_X) : Prop := (∀ (A : Nat → Prop) (s U : State) (H : Heap), s.WarmedH U.vm → X A s H → X A U H) ∧ (∀ (A : Nat → Prop) (U : State) (H H1 : Heap), X A U H → (∀ a : Nat, a < H.size → ¬ A a → H1[a]? = H[a]?) → X A U H1) ∧ (∀ (A B : Nat → Prop) (U : State) (H : Heap), X A U H → (∀ q, B q → A q) → X B U H) ∧ ∀ (A : Nat → Prop) (U : State) (H : Heap) (g : JFrame) (mk : MethodId) (a : Array Value), X A U H → X A (U.calling g mk a) H
def sv_B (X : sv_X) (D : va_G) (T : Nat → ClassId) (tys : List (ClassId × FieldType)) (h : Nat → Nat) (θ : sv_T) (σ : sv_S) (sz : Nat) : State → Prop := fun U =>
  U.heap.size = sz ∧ va_P D vwCl (sv_ws T h θ σ) U.heap ∧ va_K D vwCl tys U ∧ va_D (fun _ => True) (sv_ws T h θ σ) ∧ X (sv_A h θ sz) U U.heap
abbrev sv_rm (f lo : Nat) : Room := { frames := f, cells := 0, slots := 0, locals := lo }
/-- contracts: the method returns r (or nothing, or a reference), what the cells hold is σ' -/
abbrev sv_Mi (X : sv_X) (l : Launch) (D : va_G) (T : Nat → ClassId) (tys : List (ClassId × FieldType)) (h : Nat → Nat) (θ : sv_T) (y : MethodName) (ws : List Cond) (rm : Room) (As : List Value) (σ : sv_S) (r : Int32) (σ' : sv_S) : Prop :=
  ∀ sz : Nat, Met l y ws rm (va_Pc As (sv_B X D T tys h θ σ sz)) (va_Qi (fun r2 (_ : Unit) => r2 = r) (fun _ t => va_P D vwCl (sv_ws T h θ σ') t.heap) (sv_A h θ sz)) 0 0 (sv_A h θ sz)
abbrev sv_Ml (X : sv_X) (l : Launch) (D : va_G) (T : Nat → ClassId) (tys : List (ClassId × FieldType)) (h : Nat → Nat) (θ : sv_T) (y : MethodName) (ws : List Cond) (rm : Room) (As : List Value) (σ : sv_S) (r : Int64) (σ' : sv_S) : Prop :=
  ∀ sz : Nat, Met l y ws rm (va_Pc As (sv_B X D T tys h θ σ sz)) (va_Ql (fun r2 (_ : Unit) => r2 = r) (fun _ t => va_P D vwCl (sv_ws T h θ σ') t.heap) (sv_A h θ sz)) 0 0 (sv_A h θ sz)
abbrev sv_Mv (X : sv_X) (l : Launch) (D : va_G) (T : Nat → ClassId) (tys : List (ClassId × FieldType)) (h : Nat → Nat) (θ : sv_T) (y : MethodName) (ws : List Cond) (rm : Room) (As : List Value) (σ : sv_S) (_ : Unit) (σ' : sv_S) : Prop :=
  ∀ sz : Nat, Met l y ws rm (va_Pc As (sv_B X D T tys h θ σ sz)) (va_Qv (fun (_ : Unit) => True) (fun _ t => va_P D vwCl (sv_ws T h θ σ') t.heap) (sv_A h θ sz)) 0 0 (sv_A h θ sz)
abbrev sv_Mq (X : sv_X) (l : Launch) (D : va_G) (T : Nat → ClassId) (tys : List (ClassId × FieldType)) (h : Nat → Nat) (θ : sv_T) (y : MethodName) (ws : List Cond) (rm : Room) (As : List Value) (σ : sv_S) (r : Option Nat) (σ' : sv_S) : Prop :=
  ∀ sz : Nat, Met l y ws rm (va_Pc As (sv_B X D T tys h θ σ sz)) (va_Qq (fun r2 (_ : Unit) => r2 = r.map h) (fun _ t => va_P D vwCl (sv_ws T h θ σ') t.heap) (sv_A h θ sz)) 0 0 (sv_A h θ sz)

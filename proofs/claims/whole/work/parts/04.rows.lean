/-! ===== rows: what a method's walk uses ===== -/
theorem sp_ite {α : Type} {c : Prop} [Decidable c] {a b : Option α} {x : α} (h : (if c then a else b) = some x) : (c → a = some x) ∧ (¬ c → b = some x) := by
  refine ⟨fun hc => ?_, fun hc => ?_⟩
  · rwa [if_pos hc] at h
  · rwa [if_neg hc] at h
theorem sp_g {α : Type} {c : Prop} [Decidable c] {b : Option α} {x : α} (h : (if c then none else b) = some x) : ¬ c ∧ b = some x := by
  by_cases hc : c
  · rw [if_pos hc] at h; cases h
  · rw [if_neg hc] at h; exact ⟨hc, h⟩
theorem sp_p {α : Type} {c : Prop} [Decidable c] {b : Option α} {x : α} (h : (if c then b else none) = some x) : c ∧ b = some x := by
  by_cases hc : c
  · rw [if_pos hc] at h; exact ⟨hc, h⟩
  · rw [if_neg hc] at h; cases h
def sp_b {α β γ : Type} (a : Option (α × β)) (f : α → β → Option γ) : Option γ := match a with
  | none => none
  | some v => f v.1 v.2
theorem sp_bind {α β γ : Type} {a : Option (α × β)} {f : α → β → Option γ} {x : γ} (h : sp_b a f = some x) : ∃ r s, a = some (r, s) ∧ f r s = some x := by
  cases a with
  | none => cases h
  | some v => exact ⟨v.1, v.2, rfl, h⟩
def sp_l {α γ : Type} (a : α) (f : α → Option γ) : Option γ := f a
theorem sp_let {α γ : Type} {a y : α} {f : α → Option γ} {x : γ} (h : sp_l a f = some x) (e : y = a) : f y = some x := by rw [e]; exact h
def sp_o {γ : Type} (a : Option Nat) (n : Option γ) (f : Nat → Option γ) : Option γ := match a with
  | none => n
  | some v => f v
theorem sp_on {γ : Type} {a : Option Nat} {n : Option γ} {f : Nat → Option γ} {x : γ} (h : sp_o a n f = some x) (e : a = none) : n = some x := by rw [e] at h; exact h
theorem sp_os {γ : Type} {a : Option Nat} {n : Option γ} {f : Nat → Option γ} {x : γ} {v : Nat} (h : sp_o a n f = some x) (e : a = some v) : f v = some x := by rw [e] at h; exact h
section SVR
variable {p : Program} {l : Launch} {e : Env} {R : Room} {s : State} {m : MethodId} {args : Array Value} {below : List Frame} {meth : Method} {c : Code} {H : Heap} {locs : List Loc} {cells slots : Nat} {Q : State → Prop}
variable {cc : ByteArray} {pc : Nat} {ls : Array Slot} {rest st0 : List Value} {D : va_G} {T : Nat → ClassId} {A : Nat → Prop} {tys : List (ClassId × FieldType)} {h : Nat → Nat} {θ : sv_T} {σ σ' : sv_S} {i : Nat}
variable {X : sv_X}
theorem sv_get (hx : p.tables.exec = Jvm.exec) (hb : c.code = cc) {own C : String} {Tf : u_T} {N ci index : Nat} {ks : List sv_K} {κ : sv_K} {v : Value} {Ts : List Cond} (hts : ∀ w ∈ Ts, w.before args s = true) (hown : s.vm.findClass own = some m.cls) (hK : va_K D vwCl tys s) (hW : sv_W D T A s h θ σ H locs) (hin : ∀ w ∈ u_ws C Tf N, w ∈ Ts) (hi : i < θ.1) (hsh : θ.2 i = .inl (ci, ks)) (hc : vwCl[ci]? = some (C, Tf, N)) (k : Nat) (hk : k < N) (hκ : ks[k]? = some κ) (hv : sv_val h σ i k κ = v) (hlink : Cond.fieldLink own index (Tf k).1 (Tf k).2.1 (Tf k).2.2.1 ∈ Ts) (hdg : decode cc pc = .ok (.getfield index, 3))
    (kk : W p l e R s m args below meth c H locs cells slots Q (F0 m (pc + 3) ls (v :: rest))) : W p l e R s m args below meth c H locs cells slots Q (F0 m pc ls (.ref (h i) :: rest)) := by
  have he : (sv_ws T h θ σ)[i]? = some (h i, .inr (ci, sv_vals h σ i 0 ks)) := by rw [sv_ws_get hi, hsh]; rfl
  refine va_get (D := D) hx hb hts hin hown hK hW.1 i he hc k hk (hts _ hlink) (fun _ h9 => h9) (v := v) ?_ hdg kk
  rw [sv_vals_get h σ i ks 0 k κ hκ, Nat.zero_add, hv]
theorem sv_put (hx : p.tables.exec = Jvm.exec) (hb : c.code = cc) {own C : String} {Tf : u_T} {N ci index : Nat} {ks : List sv_K} {κ : sv_K} {v : Value} {Ts : List Cond} (hts : ∀ w ∈ Ts, w.before args s = true) (hown : s.vm.findClass own = some m.cls) (hK : va_K D vwCl tys s) (hW : sv_W D T A s h θ σ H locs) (hin : ∀ w ∈ u_ws C Tf N, w ∈ Ts) (ty0 : Nat → FieldType) (hty : ∀ k, k < N → parseFieldDescriptor (Tf k).2.2.1 = some (ty0 k)) (hnm : ∀ a, a < N → ∀ b, b < N → a ≠ b → (Tf a).2.1 ≠ (Tf b).2.1) (hi : i < θ.1) (hsh : θ.2 i = .inl (ci, ks)) (hc : vwCl[ci]? = some (C, Tf, N)) (k : Nat) (hk : k < N) (hκ : ks[k]? = some κ) (hv : sv_val h σ' i k κ = v)
    (ho1 : ∀ j κ', j ≠ k → sv_val h σ' i j κ' = sv_val h σ i j κ') (ho2 : ∀ a, a ≠ i → σ'.1 a = σ.1 a ∧ σ'.2.1 a = σ.2.1 a ∧ σ'.2.2 a = σ.2.2 a) (hfin : (Tf k).2.2.2 = false) {ty : FieldType} (hd : parseFieldDescriptor (Tf k).2.2.1 = some ty) (hn : narrow ty v = v) (hfit : fits ty v = true) (hlink : Cond.fieldLink own index (Tf k).1 (Tf k).2.1 (Tf k).2.2.1 ∈ Ts) (hdg : decode cc pc = .ok (.putfield index, 3))
    (kk : ∀ (H1 : Heap) (locs1 : List Loc), sv_W D T A s h θ σ' H1 locs1 → W p l e R s m args below meth c H1 locs1 cells slots Q (F0 m (pc + 3) ls rest)) : W p l e R s m args below meth c H locs cells slots Q (F0 m pc ls (v :: .ref (h i) :: rest)) := by
  have he : (sv_ws T h θ σ)[i]? = some (h i, .inr (ci, sv_vals h σ i 0 ks)) := by rw [sv_ws_get hi, hsh]; rfl
  have hset : (sv_ws T h θ σ).set i (h i, .inr (ci, (sv_vals h σ i 0 ks).set k v)) = sv_ws T h θ σ' := by
    refine sv_ws_set ?_ (fun a ha => sv_cell_I (ho2 a ha).1 (ho2 a ha).2.1 (ho2 a ha).2.2)
    rw [hsh]
    show (Sum.inr (ci, (sv_vals h σ i 0 ks).set k v) : va_E) = Sum.inr (ci, sv_vals h σ' i 0 ks)
    rw [sv_vals_put hκ hv ho1]
  refine va_put (D := D) hx hb hts hin ty0 hty hnm hown hK hW.1 hW.2.1 hW.2.2 i he hc k hk (hts _ hlink) (fun _ h9 => h9) hfin hd hn hfit ?_ hdg (fun H1 locs1 hP hD hS => kk H1 locs1 ⟨?_, ?_, hS⟩)
  · rw [sv_vals_len]
    exact (List.getElem?_eq_some_iff.mp hκ).1
  · rw [← hset]; exact hP
  · rw [← hset]; exact hD
theorem sv_putI (hx : p.tables.exec = Jvm.exec) (hb : c.code = cc) {own C : String} {Tf : u_T} {N ci index : Nat} {ks : List sv_K} {x : Int32} {Ts : List Cond} (hts : ∀ w ∈ Ts, w.before args s = true) (hown : s.vm.findClass own = some m.cls) (hK : va_K D vwCl tys s) (hW : sv_W D T A s h θ σ H locs) (hin : ∀ w ∈ u_ws C Tf N, w ∈ Ts) (ty0 : Nat → FieldType) (hty : ∀ k, k < N → parseFieldDescriptor (Tf k).2.2.1 = some (ty0 k)) (hnm : ∀ a, a < N → ∀ b, b < N → a ≠ b → (Tf a).2.1 ≠ (Tf b).2.1) (hi : i < θ.1) (hsh : θ.2 i = .inl (ci, ks)) (hc : vwCl[ci]? = some (C, Tf, N)) (k : Nat) (hk : k < N) (hκ : ks[k]? = some (0, 0))
    (hfin : (Tf k).2.2.2 = false) {ty : FieldType} (hd : parseFieldDescriptor (Tf k).2.2.1 = some ty) (hn : narrow ty (.int x) = .int x) (hfit : fits ty (.int x) = true) (hlink : Cond.fieldLink own index (Tf k).1 (Tf k).2.1 (Tf k).2.2.1 ∈ Ts) (hdg : decode cc pc = .ok (.putfield index, 3))
    (kk : ∀ (σ1 : sv_S) (H1 : Heap) (locs1 : List Loc), σ1 = sv_sI σ i k x → sv_W D T A s h θ σ1 H1 locs1 → W p l e R s m args below meth c H1 locs1 cells slots Q (F0 m (pc + 3) ls rest)) : W p l e R s m args below meth c H locs cells slots Q (F0 m pc ls (.int x :: .ref (h i) :: rest)) :=
  sv_put (σ' := sv_sI σ i k x) (κ := (0, 0)) hx hb hts hown hK hW hin ty0 hty hnm hi hsh hc k hk hκ (by simp [sv_val, sv_sI, sv_u]) (fun j κ' hj => by simp [sv_val, sv_sI, sv_u, hj]) (fun a ha => ⟨sv_u_ne ha, rfl, rfl⟩) hfin hd hn hfit hlink hdg (fun H1 locs1 => kk _ H1 locs1 rfl)
theorem sv_putJ (hx : p.tables.exec = Jvm.exec) (hb : c.code = cc) {own C : String} {Tf : u_T} {N ci index : Nat} {ks : List sv_K} {x : Int64} {Ts : List Cond} (hts : ∀ w ∈ Ts, w.before args s = true) (hown : s.vm.findClass own = some m.cls) (hK : va_K D vwCl tys s) (hW : sv_W D T A s h θ σ H locs) (hin : ∀ w ∈ u_ws C Tf N, w ∈ Ts) (ty0 : Nat → FieldType) (hty : ∀ k, k < N → parseFieldDescriptor (Tf k).2.2.1 = some (ty0 k)) (hnm : ∀ a, a < N → ∀ b, b < N → a ≠ b → (Tf a).2.1 ≠ (Tf b).2.1) (hi : i < θ.1) (hsh : θ.2 i = .inl (ci, ks)) (hc : vwCl[ci]? = some (C, Tf, N)) (k : Nat) (hk : k < N) (hκ : ks[k]? = some (1, 0))
    (hfin : (Tf k).2.2.2 = false) (hd : parseFieldDescriptor (Tf k).2.2.1 = some .long) (hlink : Cond.fieldLink own index (Tf k).1 (Tf k).2.1 (Tf k).2.2.1 ∈ Ts) (hdg : decode cc pc = .ok (.putfield index, 3))
    (kk : ∀ (σ1 : sv_S) (H1 : Heap) (locs1 : List Loc), σ1 = sv_sJ σ i k x → sv_W D T A s h θ σ1 H1 locs1 → W p l e R s m args below meth c H1 locs1 cells slots Q (F0 m (pc + 3) ls rest)) : W p l e R s m args below meth c H locs cells slots Q (F0 m pc ls (.long x :: .ref (h i) :: rest)) :=
  sv_put (σ' := sv_sJ σ i k x) (κ := (1, 0)) hx hb hts hown hK hW hin ty0 hty hnm hi hsh hc k hk hκ (by simp [sv_val, sv_sJ, sv_u]) (fun j κ' hj => by simp [sv_val, sv_sJ, sv_u, hj]) (fun a ha => ⟨rfl, sv_u_ne ha, rfl⟩) hfin hd rfl rfl hlink hdg (fun H1 locs1 => kk _ H1 locs1 rfl)
theorem sv_putP (hx : p.tables.exec = Jvm.exec) (hb : c.code = cc) {own C : String} {Tf : u_T} {N ci index : Nat} {ks : List sv_K} {r : Option Nat} {v : Value} (hv : va_rf (r.map h) = v) {Ts : List Cond} (hts : ∀ w ∈ Ts, w.before args s = true) (hown : s.vm.findClass own = some m.cls) (hK : va_K D vwCl tys s) (hW : sv_W D T A s h θ σ H locs) (hin : ∀ w ∈ u_ws C Tf N, w ∈ Ts) (ty0 : Nat → FieldType) (hty : ∀ k, k < N → parseFieldDescriptor (Tf k).2.2.1 = some (ty0 k)) (hnm : ∀ a, a < N → ∀ b, b < N → a ≠ b → (Tf a).2.1 ≠ (Tf b).2.1) (hi : i < θ.1) (hsh : θ.2 i = .inl (ci, ks)) (hc : vwCl[ci]? = some (C, Tf, N)) (k : Nat) (hk : k < N) (hκ : ks[k]? = some (2, 0))
    (hfin : (Tf k).2.2.2 = false) {C2 : String} (hd : parseFieldDescriptor (Tf k).2.2.1 = some (.object C2)) (hlink : Cond.fieldLink own index (Tf k).1 (Tf k).2.1 (Tf k).2.2.1 ∈ Ts) (hdg : decode cc pc = .ok (.putfield index, 3))
    (kk : ∀ (σ1 : sv_S) (H1 : Heap) (locs1 : List Loc), σ1 = sv_sP σ i k r → sv_W D T A s h θ σ1 H1 locs1 → W p l e R s m args below meth c H1 locs1 cells slots Q (F0 m (pc + 3) ls rest)) : W p l e R s m args below meth c H locs cells slots Q (F0 m pc ls (v :: .ref (h i) :: rest)) := by
  subst hv
  exact sv_put (σ' := sv_sP σ i k r) (κ := (2, 0)) hx hb hts hown hK hW hin ty0 hty hnm hi hsh hc k hk hκ (by simp [sv_val, sv_sP, sv_u]) (fun j κ' hj => by simp [sv_val, sv_sP, sv_u, hj]) (fun a ha => ⟨rfl, rfl, sv_u_ne ha⟩) hfin hd (by cases r <;> rfl) (by cases r <;> rfl) hlink hdg (fun H1 locs1 => kk _ H1 locs1 rfl)
theorem sv_aget {a L t : Nat} (ha : a < θ.1) (hsh : θ.2 a = .inr (t, L)) : (sv_ws T h θ σ)[a]? = some (h a, .inl (T t, L, sv_row h σ a t)) := by rw [sv_ws_get ha, hsh]; rfl
theorem sv_iald (hx : p.tables.exec = Jvm.exec) (hb : c.code = cc) (hK : va_K D vwCl tys s) (hW : sv_W D T A s h θ σ H locs) {a L : Nat} (ha : a < θ.1) (hsh : θ.2 a = .inr (0, L)) (t0 : Nat) (ht : tys[t0]? = some (T 0, .int)) {x : Int32} (hin : ¬ (x < 0 ∨ L ≤ x.toNatClampNeg)) (hdg : decode cc pc = .ok (.iaload, 1))
    (kk : W p l e R s m args below meth c H locs cells slots Q (F0 m (pc + 1) ls (.int (σ.1 a x.toNatClampNeg) :: rest))) : W p l e R s m args below meth c H locs cells slots Q (F0 m pc ls (.int x :: .ref (h a) :: rest)) :=
  va_iald (D := D) hx hb hK hW.1 a t0 (sv_aget ha hsh) ht hin hdg kk
theorem sv_zald (hx : p.tables.exec = Jvm.exec) (hb : c.code = cc) (hK : va_K D vwCl tys s) (hW : sv_W D T A s h θ σ H locs) {a L : Nat} (ha : a < θ.1) (hsh : θ.2 a = .inr (1, L)) (t0 : Nat) (ht : tys[t0]? = some (T 1, .boolean)) {x : Int32} (hin : ¬ (x < 0 ∨ L ≤ x.toNatClampNeg)) (hdg : decode cc pc = .ok (.baload, 1))
    (kk : W p l e R s m args below meth c H locs cells slots Q (F0 m (pc + 1) ls (.int (σ.1 a x.toNatClampNeg) :: rest))) : W p l e R s m args below meth c H locs cells slots Q (F0 m pc ls (.int x :: .ref (h a) :: rest)) :=
  va_zald (D := D) hx hb hK hW.1 a t0 (sv_aget ha hsh) ht hin hdg kk
theorem sv_aald (hx : p.tables.exec = Jvm.exec) (hb : c.code = cc) (hK : va_K D vwCl tys s) (hW : sv_W D T A s h θ σ H locs) {a L t : Nat} (ha : a < θ.1) (hsh : θ.2 a = .inr (t + 2, L)) (t0 : Nat) {C2 : String} (ht : tys[t0]? = some (T (t + 2), .object C2)) {x : Int32} (hin : ¬ (x < 0 ∨ L ≤ x.toNatClampNeg)) (hdg : decode cc pc = .ok (.aaload, 1))
    (kk : W p l e R s m args below meth c H locs cells slots Q (F0 m (pc + 1) ls (va_rf ((σ.2.2 a x.toNatClampNeg).map h) :: rest))) : W p l e R s m args below meth c H locs cells slots Q (F0 m pc ls (.int x :: .ref (h a) :: rest)) :=
  va_aldq (D := D) hx hb hK hW.1 a t0 (sv_aget ha hsh) ht hin hdg kk
theorem sv_row_set {a L t : Nat} (ha : a < θ.1) (hsh : θ.2 a = .inr (t, L)) {f : (Nat → Int32) ⊕ (Nat → Int64) ⊕ (Nat → UInt32) ⊕ (Nat → UInt64) ⊕ (Nat → Option Nat)} (hf : f = sv_row h σ' a t) (ho : ∀ b, b ≠ a → σ'.1 b = σ.1 b ∧ σ'.2.1 b = σ.2.1 b ∧ σ'.2.2 b = σ.2.2 b) : (sv_ws T h θ σ).set a (h a, .inl (T t, L, f)) = sv_ws T h θ σ' := by
  subst hf
  exact sv_ws_set (by rw [hsh]; rfl) (fun b hb => sv_cell_I (ho b hb).1 (ho b hb).2.1 (ho b hb).2.2)
theorem sv_iast (hx : p.tables.exec = Jvm.exec) (hb : c.code = cc) (hK : va_K D vwCl tys s) (hW : sv_W D T A s h θ σ H locs) {a L : Nat} (ha : a < θ.1) (hsh : θ.2 a = .inr (0, L)) (t0 : Nat) (ht : tys[t0]? = some (T 0, .int)) {x v : Int32} (hin : ¬ (x < 0 ∨ L ≤ x.toNatClampNeg)) (hdg : decode cc pc = .ok (.iastore, 1))
    (kk : ∀ (σ1 : sv_S) (H1 : Heap) (locs1 : List Loc), σ1 = sv_sI σ a x.toNatClampNeg v → sv_W D T A s h θ σ1 H1 locs1 → W p l e R s m args below meth c H1 locs1 cells slots Q (F0 m (pc + 1) ls rest)) : W p l e R s m args below meth c H locs cells slots Q (F0 m pc ls (.int v :: .int x :: .ref (h a) :: rest)) := by
  have hset : (sv_ws T h θ σ).set a (h a, .inl (T 0, L, .inl (upd (σ.1 a) x.toNatClampNeg v))) = sv_ws T h θ (sv_sI σ a x.toNatClampNeg v) :=
    sv_row_set ha hsh (by show _ = Sum.inl (sv_u σ.1 a x.toNatClampNeg v a); rw [sv_u_self]; rfl) (fun b hb => ⟨sv_u_ne hb, rfl, rfl⟩)
  exact va_iast (D := D) hx hb hK hW.1 hW.2.1 hW.2.2 a t0 (sv_aget ha hsh) ht hin hdg (fun H1 locs1 hP hD hS => kk _ H1 locs1 rfl ⟨by rw [← hset]; exact hP, by rw [← hset]; exact hD, hS⟩)
theorem sv_zast (hx : p.tables.exec = Jvm.exec) (hb : c.code = cc) (hK : va_K D vwCl tys s) (hW : sv_W D T A s h θ σ H locs) {a L : Nat} (ha : a < θ.1) (hsh : θ.2 a = .inr (1, L)) (t0 : Nat) (ht : tys[t0]? = some (T 1, .boolean)) {x v : Int32} (hv : vp_nar .boolean v = v) (hin : ¬ (x < 0 ∨ L ≤ x.toNatClampNeg)) (hdg : decode cc pc = .ok (.bastore, 1))
    (kk : ∀ (σ1 : sv_S) (H1 : Heap) (locs1 : List Loc), σ1 = sv_sI σ a x.toNatClampNeg v → sv_W D T A s h θ σ1 H1 locs1 → W p l e R s m args below meth c H1 locs1 cells slots Q (F0 m (pc + 1) ls rest)) : W p l e R s m args below meth c H locs cells slots Q (F0 m pc ls (.int v :: .int x :: .ref (h a) :: rest)) := by
  have hset : (sv_ws T h θ σ).set a (h a, .inl (T 1, L, .inl (upd (σ.1 a) x.toNatClampNeg (vp_nar .boolean v)))) = sv_ws T h θ (sv_sI σ a x.toNatClampNeg v) :=
    sv_row_set ha hsh (by rw [hv]; show _ = Sum.inl (sv_u σ.1 a x.toNatClampNeg v a); rw [sv_u_self]; rfl) (fun b hb => ⟨sv_u_ne hb, rfl, rfl⟩)
  exact va_zast (D := D) hx hb hK hW.1 hW.2.1 hW.2.2 a t0 (sv_aget ha hsh) ht hin hdg (fun H1 locs1 hP hD hS => kk _ H1 locs1 rfl ⟨by rw [← hset]; exact hP, by rw [← hset]; exact hD, hS⟩)
theorem sv_aast (hx : p.tables.exec = Jvm.exec) (hb : c.code = cc) (hK : va_K D vwCl tys s) (hW : sv_W D T A s h θ σ H locs) {a L t : Nat} (ha : a < θ.1) (hsh : θ.2 a = .inr (t + 2, L)) (t0 : Nat) {r : vw_C} (ht : tys[t0]? = some (T (t + 2), .object r.1)) {b ci : Nat} {ks : List sv_K} (hb2 : b < θ.1) (hshb : θ.2 b = .inl (ci, ks)) (hc : vwCl[ci]? = some r) {x : Int32} (hin : ¬ (x < 0 ∨ L ≤ x.toNatClampNeg)) (hdg : decode cc pc = .ok (.aastore, 1))
    (kk : ∀ (σ1 : sv_S) (H1 : Heap) (locs1 : List Loc), σ1 = sv_sP σ a x.toNatClampNeg (some b) → sv_W D T A s h θ σ1 H1 locs1 → W p l e R s m args below meth c H1 locs1 cells slots Q (F0 m (pc + 1) ls rest)) : W p l e R s m args below meth c H locs cells slots Q (F0 m pc ls (.ref (h b) :: .int x :: .ref (h a) :: rest)) := by
  have hset : (sv_ws T h θ σ).set a (h a, .inl (T (t + 2), L, .inr (.inr (.inr (.inr (va_up (fun j => (σ.2.2 a j).map h) x.toNatClampNeg (some (h b)))))))) = sv_ws T h θ (sv_sP σ a x.toNatClampNeg (some b)) := by
    refine sv_row_set ha hsh ?_ (fun b hb => ⟨rfl, rfl, sv_u_ne hb⟩)
    show _ = Sum.inr (Sum.inr (Sum.inr (Sum.inr (fun j => (sv_u σ.2.2 a x.toNatClampNeg (some b) a j).map h))))
    congr 4
    funext j
    rw [sv_u_self]
    by_cases hj : j = x.toNatClampNeg <;> simp [va_up, hj]
  have heb : (sv_ws T h θ σ)[b]? = some (h b, .inr (ci, sv_vals h σ b 0 ks)) := by rw [sv_ws_get hb2, hshb]; rfl
  exact va_astq (D := D) hx hb hK hW.1 hW.2.1 hW.2.2 a t0 b ci (sv_aget ha hsh) ht heb hc hin hdg (fun H1 locs1 hP hD hS => kk _ H1 locs1 rfl ⟨by rw [← hset]; exact hP, by rw [← hset]; exact hD, hS⟩)
theorem sv_alen (hx : p.tables.exec = Jvm.exec) (hb : c.code = cc) (hK : va_K D vwCl tys s) (hW : sv_W D T A s h θ σ H locs) {a L t : Nat} (ha : a < θ.1) (hsh : θ.2 a = .inr (t, L)) (t0 : Nat) {ty : FieldType} (ht : tys[t0]? = some (T t, ty)) {v : Int32} (hv : Int32.ofNat L = v) (hdg : decode cc pc = .ok (.arraylength, 1))
    (kk : W p l e R s m args below meth c H locs cells slots Q (F0 m (pc + 1) ls (.int v :: rest))) : W p l e R s m args below meth c H locs cells slots Q (F0 m pc ls (.ref (h a) :: rest)) :=
  va_alen (D := D) hx hb hK hW.1 a t0 (sv_aget ha hsh) ht hv hdg kk
/-- a call's start: what the callee's contract asks of the heap -/
theorem sv_preB (hXp : sv_XP X) (hK : va_K D vwCl tys s) (hX : X A s s.heap) (hA : ∀ q, s.heap.size ≤ q → A q) (hW : sv_W D T A s h θ σ H locs) : ∀ U : State, U.heap = H → s.WarmedH U.vm → sv_B X D T tys h θ σ H.size U := by
  intro U hU hWm
  refine ⟨by rw [hU], by rw [hU]; exact hW.1, va_K.moved hWm.alike hK, hW.2.1.weaken (fun _ _ _ _ => trivial), ?_⟩
  have h1 := hXp.2.1 A s s.heap H hX (fun a h1 h2 => hW.2.2.2.1 a h1 h2)
  have h2 := hXp.1 A s U H hWm h1
  rw [hU]
  refine hXp.2.2.1 A _ U H h2 (fun q hq => ?_)
  rcases hq with ⟨i, hi, rfl⟩ | hq
  · exact hW.2.1.2 i _ (sv_ws_get hi)
  · exact hA q (Nat.le_trans hW.2.2.1 hq)
theorem sv_freeA (hA : ∀ q, s.heap.size ≤ q → A q) (hW : sv_W D T A s h θ σ H locs) : ∀ q, sv_A h θ H.size q → A q := by
  rintro q (⟨i, hi, rfl⟩ | hq)
  · exact hW.2.1.2 i _ (sv_ws_get hi)
  · exact hA q (Nat.le_trans hW.2.2.1 hq)
theorem sv_blind (hXp : sv_XP X) {av : List Value} {sz : Nat} : FrameBlind (va_Pc av (sv_B X D T tys h θ σ sz)) := by
  intro a U g mk q
  obtain ⟨q0, q1, qP, qK, qD, qX⟩ := q
  exact ⟨q0, q1, qP, va_K.moved (u := U) (U := U.calling g mk a) (Vm.Alike.refl U.vm) qK, qD, hXp.2.2.2 _ U _ g mk a qX⟩
theorem sv_recv (hK : va_K D vwCl tys s) (hW : sv_W D T A s h θ σ H locs) {ci : Nat} {ks : List sv_K} {q : vw_C} (hi : i < θ.1) (hsh : θ.2 i = .inl (ci, ks)) (hc : vwCl[ci]? = some q) : ∃ cell : Cell, H[h i]? = some cell ∧ cell.vm.isStatics = false ∧ s.vm.findClass q.1 = some cell.cls :=
  va_recv (D := D) hK hW.1 (ci := ci) (q0 := i) hc (by rw [sv_ws_get hi, hsh]; rfl)
variable {y : MethodName} {bytes : ByteArray} {maxL nL n index : Nat} {ret : Option FieldType} {ws : List Cond} {rm : Room} {Ts : List Cond} {own C host : String} {As : List Value}
theorem sv_goI {r : Int32} {a : Array Value} (hW : sv_W D T A s h θ σ H locs) (hA : ∀ q, s.heap.size ≤ q → A q)
    (hr : va_Run p l e R s m args below meth c H locs cells slots 0 0 (F0 m pc ls st0) rest (va_Qi (fun r2 (_ : Unit) => r2 = r) (fun _ t => va_P D vwCl (sv_ws T h θ σ') t.heap) (sv_A h θ H.size) a) (sv_A h θ H.size))
    (kk : ∀ (H1 : Heap) (locs1 : List Loc), sv_W D T A s h θ σ' H1 locs1 → W p l e R s m args below meth c H1 locs1 cells slots Q (F0 m (pc + 3) ls (.int r :: rest))) : W p l e R s m args below meth c H locs cells slots Q (F0 m pc ls st0) := by
  refine va_calli hr hW.2.2 (fun q _ hq => sv_freeA hA hW q hq) (sv_freeA hA hW) (fun r2 u t H1 locs1 ht hvm hw hB hz1 hk1 hS => ?_)
  subst hw
  exact kk H1 locs1 ⟨by rw [← ht]; exact hB, sv_D_of hW.2.1, hS⟩
theorem sv_goL {r : Int64} {a : Array Value} (hW : sv_W D T A s h θ σ H locs) (hA : ∀ q, s.heap.size ≤ q → A q)
    (hr : va_Run p l e R s m args below meth c H locs cells slots 0 0 (F0 m pc ls st0) rest (va_Ql (fun r2 (_ : Unit) => r2 = r) (fun _ t => va_P D vwCl (sv_ws T h θ σ') t.heap) (sv_A h θ H.size) a) (sv_A h θ H.size))
    (kk : ∀ (H1 : Heap) (locs1 : List Loc), sv_W D T A s h θ σ' H1 locs1 → W p l e R s m args below meth c H1 locs1 cells slots Q (F0 m (pc + 3) ls (.long r :: rest))) : W p l e R s m args below meth c H locs cells slots Q (F0 m pc ls st0) := by
  refine va_calll hr hW.2.2 (fun q _ hq => sv_freeA hA hW q hq) (sv_freeA hA hW) (fun r2 u t H1 locs1 ht hvm hw hB hz1 hk1 hS => ?_)
  subst hw
  exact kk H1 locs1 ⟨by rw [← ht]; exact hB, sv_D_of hW.2.1, hS⟩
theorem sv_goV {r : Unit} {a : Array Value} (hW : sv_W D T A s h θ σ H locs) (hA : ∀ q, s.heap.size ≤ q → A q)
    (hr : va_Run p l e R s m args below meth c H locs cells slots 0 0 (F0 m pc ls st0) rest (va_Qv (fun (_ : Unit) => True) (fun _ t => va_P D vwCl (sv_ws T h θ σ') t.heap) (sv_A h θ H.size) a) (sv_A h θ H.size))
    (kk : ∀ (H1 : Heap) (locs1 : List Loc), sv_W D T A s h θ σ' H1 locs1 → W p l e R s m args below meth c H1 locs1 cells slots Q (F0 m (pc + 3) ls rest)) : W p l e R s m args below meth c H locs cells slots Q (F0 m pc ls st0) := by
  refine va_callv hr hW.2.2 (fun q _ hq => sv_freeA hA hW q hq) (sv_freeA hA hW) (fun u t H1 locs1 ht hvm hw hB hz1 hk1 hS => ?_)
  exact kk H1 locs1 ⟨by rw [← ht]; exact hB, sv_D_of hW.2.1, hS⟩
theorem sv_goQ {r : Option Nat} {a : Array Value} (hW : sv_W D T A s h θ σ H locs) (hA : ∀ q, s.heap.size ≤ q → A q)
    (hr : va_Run p l e R s m args below meth c H locs cells slots 0 0 (F0 m pc ls st0) rest (va_Qq (fun r2 (_ : Unit) => r2 = r.map h) (fun _ t => va_P D vwCl (sv_ws T h θ σ') t.heap) (sv_A h θ H.size) a) (sv_A h θ H.size))
    (kk : ∀ (H1 : Heap) (locs1 : List Loc), sv_W D T A s h θ σ' H1 locs1 → W p l e R s m args below meth c H1 locs1 cells slots Q (F0 m (pc + 3) ls (va_rf (r.map h) :: rest))) : W p l e R s m args below meth c H locs cells slots Q (F0 m pc ls st0) := by
  refine va_callq hr hW.2.2 (fun q _ hq => sv_freeA hA hW q hq) (sv_freeA hA hW) (fun r2 u t H1 locs1 ht hvm hw hB hz1 hk1 hS => ?_)
  subst hw
  exact kk H1 locs1 ⟨by rw [← ht]; exact hB, sv_D_of hW.2.1, hS⟩
/-- what a walk holds fast: the machine, the tables, the classes, the statics, the own cells -/
def sv_F (X : sv_X) (p : Program) (m : MethodId) (c : Code) (cc : ByteArray) (nL : Nat) (s : State) (args : Array Value) (Ts : List Cond) (own : String) (D : va_G) (tys : List (ClassId × FieldType)) (A : Nat → Prop) : Prop :=
  CallFix p m c cc nL s args Ts own ∧ va_K D vwCl tys s ∧ X A s s.heap ∧ (∀ q, s.heap.size ≤ q → A q) ∧ sv_XP X
theorem sv_runV {Qc : Array Value → State → Outcome → State → Prop} {free : Addr → Prop} (F : sv_F X p m c cc nL s args Ts own D tys A) (hW : sv_W D T A s h θ σ H locs) (hM : Met l y ws rm (va_Pc (.ref (h i) :: As) (sv_B X D T tys h θ σ H.size)) Qc 0 0 free) (hG : GoodIn Ts (wsV own index C y ws)) {ws' : List Cond} (hw : ws = Cond.code y bytes maxL ret :: ws') (hrm : rm.cells = 0 ∧ rm.slots = 0) (n : Nat)
    (hd : y.cls = C ∧ y.cls ≠ "java/lang/invoke/MethodHandle" ∧ y.cls ≠ "java/lang/invoke/VarHandle" ∧ (parseMethodDescriptor y.desc).map (fun d => d.parameters.length) = some n) (hR : rm.frames + 1 ≤ R.frames ∧ 8 + (maxL + 11) + rm.locals ≤ R.locals) {ci : Nat} {ks : List sv_K} {Tf : u_T} {N : Nat} (hi : i < θ.1) (hsh : θ.2 i = .inl (ci, ks)) (hc : vwCl[ci]? = some (C, Tf, N)) (hn : As.length = n) (hsize : ls.size = nL) (hst : st0 = As.reverse ++ .ref (h i) :: rest) (hcat : (rest.map fun v => v.category).sum ≤ 8) (hdg : decode cc pc = .ok (.invokevirtual index, 3)) (hf : cells ≤ R.cells ∧ slots ≤ R.slots) :
    va_Run p l e R s m args below meth c H locs cells slots 0 0 (F0 m pc ls st0) rest (Qc (Value.ref (h i) :: As).toArray) free :=
  va_runV F.1 hM (cwV n F.1.2.2.2.2 hG hw hrm.1 hrm.2 hd hR) ⟨sv_blind F.2.2.2.2, sv_recv F.2.1 hW hi hsh hc, fun U hU hWm => ⟨rfl, sv_preB F.2.2.2.2 F.2.1 F.2.2.1 F.2.2.2.1 hW U hU hWm⟩⟩ rfl hn hsize hst (lv_room hcat) hdg hf
theorem sv_runR {b : Nat} {Qc : Array Value → State → Outcome → State → Prop} {free : Addr → Prop} (F : sv_F X p m c cc nL s args Ts own D tys A) (hW : sv_W D T A s h θ σ H locs) (hM : Met l y ws rm (va_Pc (.ref b :: As) (sv_B X D T tys h θ σ H.size)) Qc 0 0 free) (hG : GoodIn Ts (wsV own index C y ws)) {ws' : List Cond} (hw : ws = Cond.code y bytes maxL ret :: ws') (hrm : rm.cells = 0 ∧ rm.slots = 0) (n : Nat)
    (hd : y.cls = C ∧ y.cls ≠ "java/lang/invoke/MethodHandle" ∧ y.cls ≠ "java/lang/invoke/VarHandle" ∧ (parseMethodDescriptor y.desc).map (fun d => d.parameters.length) = some n) (hR : rm.frames + 1 ≤ R.frames ∧ 8 + (maxL + 11) + rm.locals ≤ R.locals) (hrecv : ∃ cell : Cell, H[b]? = some cell ∧ cell.vm.isStatics = false ∧ s.vm.findClass C = some cell.cls) (hn : As.length = n) (hsize : ls.size = nL) (hst : st0 = As.reverse ++ .ref b :: rest) (hcat : (rest.map fun v => v.category).sum ≤ 8) (hdg : decode cc pc = .ok (.invokevirtual index, 3)) (hf : cells ≤ R.cells ∧ slots ≤ R.slots) :
    va_Run p l e R s m args below meth c H locs cells slots 0 0 (F0 m pc ls st0) rest (Qc (Value.ref b :: As).toArray) free :=
  va_runV F.1 hM (cwV n F.1.2.2.2.2 hG hw hrm.1 hrm.2 hd hR) ⟨sv_blind F.2.2.2.2, hrecv, fun U hU hWm => ⟨rfl, sv_preB F.2.2.2.2 F.2.1 F.2.2.1 F.2.2.2.1 hW U hU hWm⟩⟩ rfl hn hsize hst (lv_room hcat) hdg hf
theorem sv_runS {Qc : Array Value → State → Outcome → State → Prop} {free : Addr → Prop} (F : sv_F X p m c cc nL s args Ts own D tys A) (hW : sv_W D T A s h θ σ H locs) (hM : Met l y ws rm (va_Pc As (sv_B X D T tys h θ σ H.size)) Qc 0 0 free) (hG : GoodIn Ts (wsS own index y ws)) {ws' : List Cond} (hw : ws = Cond.code y bytes maxL ret :: ws') (hrm : rm.cells = 0 ∧ rm.slots = 0) (n : Nat)
    (hd : y.cls = own ∧ y.cls ≠ "java/lang/invoke/MethodHandle" ∧ y.cls ≠ "java/lang/invoke/VarHandle" ∧ (parseMethodDescriptor y.desc).map (fun d => d.parameters.length) = some n) (hR : rm.frames + 1 ≤ R.frames ∧ 8 + (maxL + 11) + rm.locals ≤ R.locals) (hn : As.length = n) (hsize : ls.size = nL) (hst : st0 = As.reverse ++ rest) (hcat : (rest.map fun v => v.category).sum ≤ 8) (hdg : decode cc pc = .ok (.invokestatic index, 3)) (hf : cells ≤ R.cells ∧ slots ≤ R.slots) :
    va_Run p l e R s m args below meth c H locs cells slots 0 0 (F0 m pc ls st0) rest (Qc As.toArray) free :=
  va_runS F.1 hM (cwS n F.1.2.2.2.2 hG hw hrm.1 hrm.2 hd hR) ⟨sv_blind F.2.2.2.2, fun U hU hWm => ⟨rfl, sv_preB F.2.2.2.2 F.2.1 F.2.2.1 F.2.2.2.1 hW U hU hWm⟩⟩ rfl hn hsize hst (lv_room hcat) hdg hf
theorem sv_runT {Qc : Array Value → State → Outcome → State → Prop} {free : Addr → Prop} (F : sv_F X p m c cc nL s args Ts own D tys A) (hW : sv_W D T A s h θ σ H locs) (hM : Met l y ws rm (va_Pc As (sv_B X D T tys h θ σ H.size)) Qc 0 0 free) (hG : GoodIn Ts (va_wsS own index y ws)) {ws' : List Cond} (hw : ws = Cond.code y bytes maxL ret :: ws') (hrm : rm.cells = 0 ∧ rm.slots = 0) (n : Nat)
    (hd : y.cls ≠ "java/lang/invoke/MethodHandle" ∧ y.cls ≠ "java/lang/invoke/VarHandle" ∧ (parseMethodDescriptor y.desc).map (fun d => d.parameters.length) = some n) (hR : rm.frames + 1 ≤ R.frames ∧ 8 + (maxL + 11) + rm.locals ≤ R.locals) (hn : As.length = n) (hsize : ls.size = nL) (hst : st0 = As.reverse ++ rest) (hcat : (rest.map fun v => v.category).sum ≤ 8) (hdg : decode cc pc = .ok (.invokestatic index, 3)) (hf : cells ≤ R.cells ∧ slots ≤ R.slots) :
    va_Run p l e R s m args below meth c H locs cells slots 0 0 (F0 m pc ls st0) rest (Qc As.toArray) free :=
  va_runS F.1 hM (va_cwS n F.1.2.2.2.2 hG hw hrm.1 hrm.2 hd hR) ⟨sv_blind F.2.2.2.2, fun U hU hWm => ⟨rfl, sv_preB F.2.2.2.2 F.2.1 F.2.2.1 F.2.2.2.1 hW U hU hWm⟩⟩ rfl hn hsize hst (lv_room hcat) hdg hf
theorem sv_runN {Qc : Array Value → State → Outcome → State → Prop} {free : Addr → Prop} (F : sv_F X p m c cc nL s args Ts own D tys A) (hW : sv_W D T A s h θ σ H locs) (hM : Met l y ws rm (va_Pc As (sv_B X D T tys h θ σ H.size)) Qc 0 0 free) (hG : GoodIn Ts ws) {ws' : List Cond} (hw : ws = Cond.code y bytes maxL ret :: ws') (hrm : rm.cells = 0 ∧ rm.slots = 0) (hl : va_Nw (.methodLinkNest own index y host) s) (hini : Cond.initialized y.cls ∈ Ts) (hstat : Cond.static y ∈ Ts) (n : Nat)
    (hd : y.cls ≠ "java/lang/invoke/MethodHandle" ∧ y.cls ≠ "java/lang/invoke/VarHandle" ∧ (parseMethodDescriptor y.desc).map (fun d => d.parameters.length) = some n) (hR : rm.frames + 1 ≤ R.frames ∧ 8 + (maxL + 11) + rm.locals ≤ R.locals) (hn : As.length = n) (hsize : ls.size = nL) (hst : st0 = As.reverse ++ rest) (hcat : (rest.map fun v => v.category).sum ≤ 8) (hdg : decode cc pc = .ok (.invokestatic index, 3)) (hf : cells ≤ R.cells ∧ slots ≤ R.slots) :
    va_Run p l e R s m args below meth c H locs cells slots 0 0 (F0 m pc ls st0) rest (Qc As.toArray) free :=
  va_runSN F.1 hM ⟨va_cnB n F.1.2.2.2.2 hG hw hrm.1 hrm.2 hl (F.1.2.2.2.2 _ hini) hd hR, F.1.2.2.2.2 _ hstat, trivial⟩ ⟨sv_blind F.2.2.2.2, fun U hU hWm => ⟨rfl, sv_preB F.2.2.2.2 F.2.1 F.2.2.1 F.2.2.2.1 hW U hU hWm⟩⟩ rfl hn hsize hst (lv_room hcat) hdg hf
theorem sv_iret {v : Int32} (hx : p.tables.exec = Jvm.exec) (hb : c.code = cc) {ty : FieldType} (hr : meth.sig.returnType = some ty) (hn : narrow ty (.int v) = .int v) (hlocks : meth.locks = false) (hW : sv_W D T A s h θ σ H locs) (hdg : decode cc pc = .ok (.ireturn, 1)) :
    W p l e R s m args below meth c H locs cells slots (MQ below (va_Qi (fun r2 (_ : Unit) => r2 = v) (fun _ t => va_P D vwCl (sv_ws T h θ σ) t.heap) A) args s cells slots A) (F0 m pc ls [.int v]) :=
  W.zret (v := v) hx hb hr hn (fun t ht _ => ⟨⟨v, (), rfl, rfl, by show va_P D vwCl (sv_ws T h θ σ) t.heap; rw [ht]; exact hW.1⟩, hW.2.2.F ht⟩) hW.2.2.2.2 hdg hlocks
theorem sv_lret {v : Int64} (hx : p.tables.exec = Jvm.exec) (hb : c.code = cc) (hr : meth.sig.returnType = some .long) (hlocks : meth.locks = false) (hW : sv_W D T A s h θ σ H locs) (hdg : decode cc pc = .ok (.lreturn, 1)) :
    W p l e R s m args below meth c H locs cells slots (MQ below (va_Ql (fun r2 (_ : Unit) => r2 = v) (fun _ t => va_P D vwCl (sv_ws T h θ σ) t.heap) A) args s cells slots A) (F0 m pc ls [.long v]) :=
  W.lret (v := v) hx hb hr (fun t ht _ => ⟨⟨v, (), rfl, rfl, by show va_P D vwCl (sv_ws T h θ σ) t.heap; rw [ht]; exact hW.1⟩, hW.2.2.F ht⟩) hW.2.2.2.2 hdg hlocks
theorem sv_vret (hx : p.tables.exec = Jvm.exec) (hb : c.code = cc) (hr : meth.sig.returnType = none) (hlocks : meth.locks = false) (hW : sv_W D T A s h θ σ H locs) (hdg : decode cc pc = .ok (.return_, 1)) :
    W p l e R s m args below meth c H locs cells slots (MQ below (va_Qv (fun (_ : Unit) => True) (fun _ t => va_P D vwCl (sv_ws T h θ σ) t.heap) A) args s cells slots A) (F0 m pc ls []) :=
  W.vret hx hb hr (fun t ht _ => ⟨⟨(), rfl, trivial, by show va_P D vwCl (sv_ws T h θ σ) t.heap; rw [ht]; exact hW.1⟩, hW.2.2.F ht⟩) hW.2.2.2.2 hdg hlocks
theorem sv_aret {v : Value} {r : Option Nat} (hv : va_rf (r.map h) = v) (hx : p.tables.exec = Jvm.exec) (hb : c.code = cc) {C2 : String} (hr : meth.sig.returnType = some (.object C2)) (hlocks : meth.locks = false) (hW : sv_W D T A s h θ σ H locs) (hdg : decode cc pc = .ok (.areturn, 1)) :
    W p l e R s m args below meth c H locs cells slots (MQ below (va_Qq (fun r2 (_ : Unit) => r2 = r.map h) (fun _ t => va_P D vwCl (sv_ws T h θ σ) t.heap) A) args s cells slots A) (F0 m pc ls [v]) := by
  subst hv
  exact W.aret hx hb hr (Or.inl ⟨_, rfl⟩) (va_rf_or _) (fun t ht _ => ⟨⟨r.map h, (), rfl, rfl, by show va_P D vwCl (sv_ws T h θ σ) t.heap; rw [ht]; exact hW.1⟩, hW.2.2.F ht⟩) hW.2.2.2.2 hdg hlocks
end SVR
/-- a method's beginning: from its contract to the walk at its entry -/
theorem sv_enter {X : sv_X} {l : Launch} {D : va_G} {T : Nat → ClassId} {tys : List (ClassId × FieldType)} {h : Nat → Nat} {θ : sv_T} {y : MethodName} {ws : List Cond} {rm : Room} {As : List Value} {σ : sv_S} {sz : Nat} {Qc : (Nat → Prop) → Array Value → State → Outcome → State → Prop} {cc : ByteArray} {maxL : Nat} {ret : Option FieldType} {ws' : List Cond}
    (hXp : sv_XP X) (hy : plainName y.cls = true) (hw : ws = Cond.code y cc maxL ret :: ws') (hlen : (lg_sl As).length ≤ maxL)
    (body : ∀ (p : Program) (e : Env) (s : State) (m : MethodId) (args : Array Value) (below : List Frame) (meth : Method) (c : Code) (A : Nat → Prop), sv_F X p m c cc maxL s args ws y.cls D tys A → meth.sig.returnType = ret → meth.locks = false → ∀ (ls : Array Slot) (H : Heap), lv_has ls maxL (lv_args 0 As) → sv_W D T A s h θ σ H [] →
      W p l e rm s m args below meth c H [] 0 0 (MQ below (Qc A) args s 0 0 A) (F0 m 0 ls [])) :
    Met l y ws rm (va_Pc As (sv_B X D T tys h θ σ sz)) (Qc (sv_A h θ sz)) 0 0 (sv_A h θ sz) := by
  refine Met.ofW (cc := cc) (maxL := maxL) (ret := ret) hy hw ?_
  intro p e s m args below meth c s₁ B hml hv
  obtain ⟨rfl, hsz, hP, hK, hD0, hX⟩ := hv
  have hts := atoms_spec (ws := ws) B.pre
  have hown : s.vm.findClass y.cls = some m.cls := findClass_of_methodNamed B.named
  subst hsz
  have hD : va_D (sv_A h θ s.heap.size) (sv_ws T h θ σ) := ⟨hD0.1, fun k q hk => by rw [← sv_A_eq (T := T) (σ := σ)]; exact va_A.in hk⟩
  have hl := lv_entry As (n := maxL) hlen
  rw [lg_entry_eq]
  exact body p e s m _ below meth c _ ⟨⟨B.exec, B.bytes, hml, hown, hts⟩, hK, hX, fun q hq => Or.inr hq, hXp⟩ B.returns B.notSynchronized _ _ hl ⟨hP, hD, va_S.rf⟩
theorem sv_room2 {f lo f2 lo2 maxL : Nat} (h1 : f + 1 ≤ f2) (h2 : 8 + (maxL + 11) + lo ≤ lo2) : (sv_rm f lo).frames + 1 ≤ (sv_rm f2 lo2).frames ∧ 8 + (maxL + 11) + (sv_rm f lo).locals ≤ (sv_rm f2 lo2).locals := ⟨h1, h2⟩

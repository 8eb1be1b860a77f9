/-! ===== methods that make cells ===== -/
def sx_X2 (qK qV : Nat → Nat) : sv_X := fun A U H => sx_X qK qV A U H ∧ va_Nw (.castable "[I" "java/lang/Cloneable") U ∧ va_AO "OpenWhileItRains$Text" U ∧ va_AO "OpenWhileItRains$Row" U
theorem sx_XP2 {qK qV : Nat → Nat} : sv_XP (sx_X2 qK qV) := by
  refine ⟨?_, ?_, ?_, ?_⟩
  · rintro A s U H hW ⟨h1, h2, h3, h4⟩
    exact ⟨sx_XP.1 A s U H hW h1, va_Nw.warmC hW h2, h3.moved hW.alike, h4.moved hW.alike⟩
  · rintro A U H H1 ⟨h1, h2, h3, h4⟩ hk
    exact ⟨sx_XP.2.1 A U H H1 h1 hk, h2, h3, h4⟩
  · rintro A B U H ⟨h1, h2, h3, h4⟩ hAB
    exact ⟨sx_XP.2.2.1 A B U H h1 hAB, h2, h3, h4⟩
  · rintro A U H g mk a ⟨h1, h2, h3, h4⟩
    exact ⟨sx_XP.2.2.2 A U H g mk a h1, va_Nw.same rfl (u := U) (U := U.calling g mk a) rfl h2, va_AO.moved (u := U) (U := U.calling g mk a) (Vm.Alike.refl U.vm) h3, va_AO.moved (u := U) (U := U.calling g mk a) (Vm.Alike.refl U.vm) h4⟩
theorem sx_F1 {qK qV : Nat → Nat} {p : Program} {m : MethodId} {c : Code} {cc : ByteArray} {nL : Nat} {s : State} {args : Array Value} {Ts : List Cond} {own : String} {D : va_G} {tys : List (ClassId × FieldType)} {A : Nat → Prop} (F : sv_F (sx_X2 qK qV) p m c cc nL s args Ts own D tys A) : sv_F (sx_X qK qV) p m c cc nL s args Ts own D tys A := ⟨F.1, F.2.1, F.2.2.1.1, F.2.2.2.1, sx_XP⟩
/-- the cells from n on are new -/
def sv_ext (h : Nat → Nat) (n n' sz : Nat) (h' : Nat → Nat) : Prop := (∀ i, i < n → h' i = h i) ∧ ∀ i, n ≤ i → i < n' → sz ≤ h' i
theorem sv_new_ge {T : Nat → ClassId} {h h' : Nat → Nat} {θ θ' : sv_T} {σ' : sv_S} {sz : Nat} (hD : va_D (sv_A h θ sz) (sv_ws T h' θ' σ')) (hh : ∀ i, i < θ.1 → h' i = h i) (hle : θ.1 ≤ θ'.1) : sv_ext h θ.1 θ'.1 sz h' := by
  refine ⟨hh, fun i h1 h2 => ?_⟩
  rcases hD.2 i _ (sv_ws_get h2) with ⟨j, hj, e⟩ | q
  · have e2 : h' i = h' j := by rw [hh j hj]; exact e
    have := hD.1 i j _ _ (sv_ws_get h2) (sv_ws_get (Nat.lt_of_lt_of_le hj hle)) e2
    omega
  · exact q
theorem sv_D_ext {T : Nat → ClassId} {h' : Nat → Nat} {θ' : sv_T} {σ' : sv_S} {A B : Nat → Prop} (hD : va_D B (sv_ws T h' θ' σ')) (hA : ∀ k, k < θ'.1 → A (h' k)) : va_D A (sv_ws T h' θ' σ') := by
  refine ⟨hD.1, fun k q hq => ?_⟩
  have hk : k < θ'.1 := by
    have := (List.getElem?_eq_some_iff.mp hq).1
    simpa [sv_ws] using this
  rw [sv_ws_get hk] at hq
  cases hq
  exact hA k hk
/-- a contract of a method that makes the cells up to n' -/
abbrev sv_MvG (X : sv_X) (l : Launch) (D : va_G) (T : Nat → ClassId) (tys : List (ClassId × FieldType)) (h : Nat → Nat) (θ : sv_T) (y : MethodName) (ws : List Cond) (rm : Room) (As : List Value) (σ : sv_S) (n' : Nat) (σ' : sv_S) (mc ms : Nat) : Prop :=
  ∀ sz : Nat, Met l y ws rm (va_Pc As (sv_B X D T tys h θ σ sz)) (va_Qv (fun h' : Nat → Nat => sv_ext h θ.1 n' sz h') (fun h' t => va_P D vwCl (sv_ws T h' (n', θ.2) σ') t.heap ∧ va_D (fun _ => True) (sv_ws T h' (n', θ.2) σ')) (sv_A h θ sz)) mc ms (sv_A h θ sz)
section SVG2
variable {p : Program} {l : Launch} {e : Env} {R : Room} {s : State} {m : MethodId} {args : Array Value} {below : List Frame} {meth : Method} {c : Code} {H : Heap} {locs : List Loc} {cells slots : Nat} {Q : State → Prop}
variable {cc : ByteArray} {pc : Nat} {ls : Array Slot} {rest st0 : List Value} {D : va_G} {T : Nat → ClassId} {A : Nat → Prop} {tys : List (ClassId × FieldType)} {h : Nat → Nat} {θ : sv_T} {σ σ' : sv_S} {i : Nat}
variable {X : sv_X}
/-- a final field, in a constructor -/
theorem sv_putF (hx : p.tables.exec = Jvm.exec) (hb : c.code = cc) {own C : String} {Tf : u_T} {N ci index : Nat} {ks : List sv_K} {κ : sv_K} {v : Value} {Ts : List Cond} (hts : ∀ w ∈ Ts, w.before args s = true) (hown : s.vm.findClass own = some m.cls) (hK : va_K D vwCl tys s) (hW : sv_W D T A s h θ σ H locs) (hin : ∀ w ∈ u_ws C Tf N, w ∈ Ts) (ty0 : Nat → FieldType) (hty : ∀ k, k < N → parseFieldDescriptor (Tf k).2.2.1 = some (ty0 k)) (hnm : ∀ a, a < N → ∀ b, b < N → a ≠ b → (Tf a).2.1 ≠ (Tf b).2.1) (hi : i < θ.1) (hsh : θ.2 i = .inl (ci, ks)) (hc : vwCl[ci]? = some (C, Tf, N)) (k : Nat) (hk : k < N) (hκ : ks[k]? = some κ) (hv : sv_val h σ' i k κ = v)
    (ho1 : ∀ j κ', j ≠ k → sv_val h σ' i j κ' = sv_val h σ i j κ') (ho2 : ∀ a, a ≠ i → σ'.1 a = σ.1 a ∧ σ'.2.1 a = σ.2.1 a ∧ σ'.2.2 a = σ.2.2 a) (hfin : (Tf k).2.2.2 = true) (hin2 : meth.name = "<init>") (hdecl : (Tf k).1 = own) {ty : FieldType} (hd : parseFieldDescriptor (Tf k).2.2.1 = some ty) (hn : narrow ty v = v) (hfit : fits ty v = true) (hlink : Cond.fieldLink own index (Tf k).1 (Tf k).2.1 (Tf k).2.2.1 ∈ Ts) (hdg : decode cc pc = .ok (.putfield index, 3))
    (kk : ∀ (H1 : Heap) (locs1 : List Loc), sv_W D T A s h θ σ' H1 locs1 → W p l e R s m args below meth c H1 locs1 cells slots Q (F0 m (pc + 3) ls rest)) : W p l e R s m args below meth c H locs cells slots Q (F0 m pc ls (v :: .ref (h i) :: rest)) := by
  have he : (sv_ws T h θ σ)[i]? = some (h i, .inr (ci, sv_vals h σ i 0 ks)) := by rw [sv_ws_get hi, hsh]; rfl
  have hset : (sv_ws T h θ σ).set i (h i, .inr (ci, (sv_vals h σ i 0 ks).set k v)) = sv_ws T h θ σ' := by
    refine sv_ws_set ?_ (fun a ha => sv_cell_I (ho2 a ha).1 (ho2 a ha).2.1 (ho2 a ha).2.2)
    rw [hsh]
    show (Sum.inr (ci, (sv_vals h σ i 0 ks).set k v) : va_E) = Sum.inr (ci, sv_vals h σ' i 0 ks)
    rw [sv_vals_put hκ hv ho1]
  refine va_putF (D := D) hx hb hts hin ty0 hty hnm hown hK hW.1 hW.2.1 hW.2.2 i he hc k hk (hts _ hlink) (fun _ h9 => h9) hfin hin2 hdecl hd hn hfit ?_ hdg (fun H1 locs1 hP hD hS => kk H1 locs1 ⟨?_, ?_, hS⟩)
  · rw [sv_vals_len]
    exact (List.getElem?_eq_some_iff.mp hκ).1
  · rw [← hset]; exact hP
  · rw [← hset]; exact hD
/-- a final field that holds a reference -/
theorem sv_putFP (hx : p.tables.exec = Jvm.exec) (hb : c.code = cc) {own C : String} {Tf : u_T} {N ci index : Nat} {ks : List sv_K} {j : Nat} {Ts : List Cond} (hts : ∀ w ∈ Ts, w.before args s = true) (hown : s.vm.findClass own = some m.cls) (hK : va_K D vwCl tys s) (hW : sv_W D T A s h θ σ H locs) (hin : ∀ w ∈ u_ws C Tf N, w ∈ Ts) (ty0 : Nat → FieldType) (hty : ∀ k, k < N → parseFieldDescriptor (Tf k).2.2.1 = some (ty0 k)) (hnm : ∀ a, a < N → ∀ b, b < N → a ≠ b → (Tf a).2.1 ≠ (Tf b).2.1) (hi : i < θ.1) (hsh : θ.2 i = .inl (ci, ks)) (hc : vwCl[ci]? = some (C, Tf, N)) (k : Nat) (hk : k < N) (hκ : ks[k]? = some (2, 0))
    (hfin : (Tf k).2.2.2 = true) (hin2 : meth.name = "<init>") (hdecl : (Tf k).1 = own) {ty : FieldType} (hd : parseFieldDescriptor (Tf k).2.2.1 = some ty) (hn : ∀ a, narrow ty (.ref a) = .ref a) (hfit : ∀ a, fits ty (.ref a) = true) (hlink : Cond.fieldLink own index (Tf k).1 (Tf k).2.1 (Tf k).2.2.1 ∈ Ts) (hdg : decode cc pc = .ok (.putfield index, 3))
    (kk : ∀ (H1 : Heap) (locs1 : List Loc), sv_W D T A s h θ (sv_sP σ i k (some j)) H1 locs1 → W p l e R s m args below meth c H1 locs1 cells slots Q (F0 m (pc + 3) ls rest)) : W p l e R s m args below meth c H locs cells slots Q (F0 m pc ls (.ref (h j) :: .ref (h i) :: rest)) :=
  sv_putF (σ' := sv_sP σ i k (some j)) (κ := (2, 0)) hx hb hts hown hK hW hin ty0 hty hnm hi hsh hc k hk hκ (by simp [sv_val, sv_sP, sv_u, va_rf]) (fun j κ' hj => by simp [sv_val, sv_sP, sv_u, hj]) (fun a ha => ⟨rfl, rfl, sv_u_ne ha⟩) hfin hin2 hdecl hd (hn _) (hfit _) hlink hdg kk
/-- a final field that holds an int -/
theorem sv_putFI (hx : p.tables.exec = Jvm.exec) (hb : c.code = cc) {own C : String} {Tf : u_T} {N ci index : Nat} {ks : List sv_K} {x : Int32} {Ts : List Cond} (hts : ∀ w ∈ Ts, w.before args s = true) (hown : s.vm.findClass own = some m.cls) (hK : va_K D vwCl tys s) (hW : sv_W D T A s h θ σ H locs) (hin : ∀ w ∈ u_ws C Tf N, w ∈ Ts) (ty0 : Nat → FieldType) (hty : ∀ k, k < N → parseFieldDescriptor (Tf k).2.2.1 = some (ty0 k)) (hnm : ∀ a, a < N → ∀ b, b < N → a ≠ b → (Tf a).2.1 ≠ (Tf b).2.1) (hi : i < θ.1) (hsh : θ.2 i = .inl (ci, ks)) (hc : vwCl[ci]? = some (C, Tf, N)) (k : Nat) (hk : k < N) (hκ : ks[k]? = some (0, 0))
    (hfin : (Tf k).2.2.2 = true) (hin2 : meth.name = "<init>") (hdecl : (Tf k).1 = own) {ty : FieldType} (hd : parseFieldDescriptor (Tf k).2.2.1 = some ty) (hn : narrow ty (.int x) = .int x) (hfit : fits ty (.int x) = true) (hlink : Cond.fieldLink own index (Tf k).1 (Tf k).2.1 (Tf k).2.2.1 ∈ Ts) (hdg : decode cc pc = .ok (.putfield index, 3))
    (kk : ∀ (H1 : Heap) (locs1 : List Loc), sv_W D T A s h θ (sv_sI σ i k x) H1 locs1 → W p l e R s m args below meth c H1 locs1 cells slots Q (F0 m (pc + 3) ls rest)) : W p l e R s m args below meth c H locs cells slots Q (F0 m pc ls (.int x :: .ref (h i) :: rest)) :=
  sv_putF (σ' := sv_sI σ i k x) (κ := (0, 0)) hx hb hts hown hK hW hin ty0 hty hnm hi hsh hc k hk hκ (by simp [sv_val, sv_sI, sv_u]) (fun j κ' hj => by simp [sv_val, sv_sI, sv_u, hj]) (fun a ha => ⟨sv_u_ne ha, rfl, rfl⟩) hfin hin2 hdecl hd hn hfit hlink hdg kk
variable {y : MethodName} {bytes : ByteArray} {maxL nL n index mc ms : Nat} {ret : Option FieldType} {ws : List Cond} {rm : Room} {Ts : List Cond} {own C host : String} {As : List Value}
theorem sv_runVG {Qc : Array Value → State → Outcome → State → Prop} {free : Addr → Prop} (F : sv_F X p m c cc nL s args Ts own D tys A) (hW : sv_W D T A s h θ σ H locs) (hM : Met l y ws rm (va_Pc (.ref (h i) :: As) (sv_B X D T tys h θ σ H.size)) Qc mc ms free) (hG : GoodIn Ts (wsV own index C y ws)) {ws' : List Cond} (hw : ws = Cond.code y bytes maxL ret :: ws') (hrm : rm.cells = mc ∧ rm.slots = ms) (n : Nat)
    (hd : y.cls = C ∧ y.cls ≠ "java/lang/invoke/MethodHandle" ∧ y.cls ≠ "java/lang/invoke/VarHandle" ∧ (parseMethodDescriptor y.desc).map (fun d => d.parameters.length) = some n) (hR : rm.frames + 1 ≤ R.frames ∧ 8 + (maxL + 11) + rm.locals ≤ R.locals) {ci : Nat} {ks : List sv_K} {Tf : u_T} {N : Nat} (hi : i < θ.1) (hsh : θ.2 i = .inl (ci, ks)) (hc : vwCl[ci]? = some (C, Tf, N)) (hn : As.length = n) (hsize : ls.size = nL) (hst : st0 = As.reverse ++ .ref (h i) :: rest) (hcat : (rest.map fun v => v.category).sum ≤ 8) (hdg : decode cc pc = .ok (.invokevirtual index, 3)) (hf : cells + mc ≤ R.cells ∧ slots + ms ≤ R.slots) :
    va_Run p l e R s m args below meth c H locs cells slots mc ms (F0 m pc ls st0) rest (Qc (Value.ref (h i) :: As).toArray) free :=
  va_runV F.1 hM (cwV n F.1.2.2.2.2 hG hw hrm.1 hrm.2 hd hR) ⟨sv_blind F.2.2.2.2, sv_recv F.2.1 hW hi hsh hc, fun U hU hWm => ⟨rfl, sv_preB F.2.2.2.2 F.2.1 F.2.2.1 F.2.2.2.1 hW U hU hWm⟩⟩ rfl hn hsize hst (lv_room hcat) hdg hf
theorem sv_runTG {Qc : Array Value → State → Outcome → State → Prop} {free : Addr → Prop} (F : sv_F X p m c cc nL s args Ts own D tys A) (hW : sv_W D T A s h θ σ H locs) (hM : Met l y ws rm (va_Pc As (sv_B X D T tys h θ σ H.size)) Qc mc ms free) (hG : GoodIn Ts (va_wsS own index y ws)) {ws' : List Cond} (hw : ws = Cond.code y bytes maxL ret :: ws') (hrm : rm.cells = mc ∧ rm.slots = ms) (n : Nat)
    (hd : y.cls ≠ "java/lang/invoke/MethodHandle" ∧ y.cls ≠ "java/lang/invoke/VarHandle" ∧ (parseMethodDescriptor y.desc).map (fun d => d.parameters.length) = some n) (hR : rm.frames + 1 ≤ R.frames ∧ 8 + (maxL + 11) + rm.locals ≤ R.locals) (hn : As.length = n) (hsize : ls.size = nL) (hst : st0 = As.reverse ++ rest) (hcat : (rest.map fun v => v.category).sum ≤ 8) (hdg : decode cc pc = .ok (.invokestatic index, 3)) (hf : cells + mc ≤ R.cells ∧ slots + ms ≤ R.slots) :
    va_Run p l e R s m args below meth c H locs cells slots mc ms (F0 m pc ls st0) rest (Qc As.toArray) free :=
  va_runS F.1 hM (va_cwS n F.1.2.2.2.2 hG hw hrm.1 hrm.2 hd hR) ⟨sv_blind F.2.2.2.2, fun U hU hWm => ⟨rfl, sv_preB F.2.2.2.2 F.2.1 F.2.2.1 F.2.2.2.1 hW U hU hWm⟩⟩ rfl hn hsize hst (lv_room hcat) hdg hf
theorem sv_runIG {Qc : Array Value → State → Outcome → State → Prop} {free : Addr → Prop} (F : sv_F X p m c cc nL s args Ts own D tys A) (hW : sv_W D T A s h θ σ H locs) (hM : Met l y ws rm (va_Pc (.ref (h i) :: As) (sv_B X D T tys h θ σ H.size)) Qc mc ms free) (hG : GoodIn Ts ws) {ws' : List Cond} (hw : ws = Cond.code y bytes maxL none :: ws') (hrm : rm.cells = mc ∧ rm.slots = ms) (n : Nat) (hini : Cond.initialized y.cls ∈ Ts) (hl : Cond.methodLink own index y ∈ Ts) (hinst : Cond.instanceMethod y ∈ Ts) (hy1 : y.name = "<init>")
    (hd : y.cls ≠ "java/lang/invoke/MethodHandle" ∧ y.cls ≠ "java/lang/invoke/VarHandle" ∧ (parseMethodDescriptor y.desc).map (fun d => d.parameters.length) = some n) (hR : rm.frames + 1 ≤ R.frames ∧ 8 + (maxL + 11) + rm.locals ≤ R.locals) (hn : As.length = n) (hsize : ls.size = nL) (hst : st0 = As.reverse ++ .ref (h i) :: rest) (hcat : (rest.map fun v => v.category).sum ≤ 8) (hdg : decode cc pc = .ok (.invokespecial index, 3)) (hf : cells + mc ≤ R.cells ∧ slots + ms ≤ R.slots) :
    va_Run p l e R s m args below meth c H locs cells slots mc ms (F0 m pc ls st0) rest (Qc (Value.ref (h i) :: As).toArray) free :=
  va_runI F.1 hM (cwI n F.1.2.2.2.2 hG hw hrm.1 hrm.2 (F.1.2.2.2.2 _ hini) (F.1.2.2.2.2 _ hl) (F.1.2.2.2.2 _ hinst) hy1 hd hR) ⟨sv_blind F.2.2.2.2, fun U hU hWm => ⟨rfl, sv_preB F.2.2.2.2 F.2.1 F.2.2.1 F.2.2.2.1 hW U hU hWm⟩⟩ rfl hn hsize hst (lv_room hcat) hdg hf
theorem sv_runING {Qc : Array Value → State → Outcome → State → Prop} {free : Addr → Prop} (F : sv_F X p m c cc nL s args Ts own D tys A) (hW : sv_W D T A s h θ σ H locs) (hM : Met l y ws rm (va_Pc (.ref (h i) :: As) (sv_B X D T tys h θ σ H.size)) Qc mc ms free) (hG : GoodIn Ts ws) {ws' : List Cond} (hw : ws = Cond.code y bytes maxL none :: ws') (hrm : rm.cells = mc ∧ rm.slots = ms) (n : Nat) (hini : Cond.initialized y.cls ∈ Ts) (hl : va_Nw (.methodLinkNest own index y host) s) (hinst : Cond.instanceMethod y ∈ Ts) (hy1 : y.name = "<init>")
    (hd : y.cls ≠ "java/lang/invoke/MethodHandle" ∧ y.cls ≠ "java/lang/invoke/VarHandle" ∧ (parseMethodDescriptor y.desc).map (fun d => d.parameters.length) = some n) (hR : rm.frames + 1 ≤ R.frames ∧ 8 + (maxL + 11) + rm.locals ≤ R.locals) (hn : As.length = n) (hsize : ls.size = nL) (hst : st0 = As.reverse ++ .ref (h i) :: rest) (hcat : (rest.map fun v => v.category).sum ≤ 8) (hdg : decode cc pc = .ok (.invokespecial index, 3)) (hf : cells + mc ≤ R.cells ∧ slots + ms ≤ R.slots) :
    va_Run p l e R s m args below meth c H locs cells slots mc ms (F0 m pc ls st0) rest (Qc (Value.ref (h i) :: As).toArray) free :=
  va_runIN F.1 hM ⟨va_cnB n F.1.2.2.2.2 hG hw hrm.1 hrm.2 hl (F.1.2.2.2.2 _ hini) hd hR, hy1, F.1.2.2.2.2 _ hinst⟩ ⟨sv_blind F.2.2.2.2, fun U hU hWm => ⟨rfl, sv_preB F.2.2.2.2 F.2.1 F.2.2.1 F.2.2.2.1 hW U hU hWm⟩⟩ rfl hn hsize hst (lv_room hcat) hdg hf
theorem sv_goVG {n' : Nat} {a : Array Value} (hW : sv_W D T A s h θ σ H locs) (hA : ∀ q, s.heap.size ≤ q → A q)
    (hr : va_Run p l e R s m args below meth c H locs cells slots mc ms (F0 m pc ls st0) rest (va_Qv (fun h' : Nat → Nat => sv_ext h θ.1 n' H.size h') (fun h' t => va_P D vwCl (sv_ws T h' (n', θ.2) σ') t.heap ∧ va_D (fun _ => True) (sv_ws T h' (n', θ.2) σ')) (sv_A h θ H.size) a) (sv_A h θ H.size))
    (kk : ∀ (h' : Nat → Nat) (H1 : Heap) (locs1 : List Loc), (∀ i, i < θ.1 → h' i = h i) → sv_W D T A s h' (n', θ.2) σ' H1 locs1 → W p l e R s m args below meth c H1 locs1 (cells + mc) (slots + ms) Q (F0 m (pc + 3) ls rest)) : W p l e R s m args below meth c H locs cells slots Q (F0 m pc ls st0) := by
  refine va_callv hr hW.2.2 (fun q _ hq => sv_freeA hA hW q hq) (sv_freeA hA hW) (fun h' t H1 locs1 ht hvm hw hB hz1 hk1 hS => ?_)
  obtain ⟨hP1, hD1⟩ := hB
  rw [ht] at hP1
  refine kk h' H1 locs1 hw.1 ⟨hP1, sv_D_ext hD1 (fun k hk => ?_), hS⟩
  by_cases hk2 : k < θ.1
  · rw [hw.1 k hk2]
    exact hW.2.1.2 k _ (sv_ws_get hk2)
  · exact hA _ (Nat.le_trans hW.2.2.1 (hw.2 k (by omega) hk))
theorem sv_vretG {S : Type} {post : S → Prop} {Bw : S → State → Prop} (u : S) (hu : post u) (hBu : ∀ t : State, t.heap = H → Bw u t) (hx : p.tables.exec = Jvm.exec) (hb : c.code = cc) (hr : meth.sig.returnType = none) (hlocks : meth.locks = false) (hW : sv_W D T A s h θ σ H locs) (hdg : decode cc pc = .ok (.return_, 1)) :
    W p l e R s m args below meth c H locs cells slots (MQ below (va_Qv post Bw A) args s cells slots A) (F0 m pc ls []) :=
  W.vret hx hb hr (fun t ht _ => ⟨⟨u, rfl, hu, hBu t ht⟩, hW.2.2.F ht⟩) hW.2.2.2.2 hdg hlocks
theorem sv_aretG {S : Type} {post : Option Nat → S → Prop} {Bw : S → State → Prop} {r : Option Nat} {v : Value} (hv : va_rf r = v) (u : S) (hu : post r u) (hBu : ∀ t : State, t.heap = H → Bw u t) (hx : p.tables.exec = Jvm.exec) (hb : c.code = cc) {rt : FieldType} (hr : meth.sig.returnType = some rt) (hrt : (∃ n, rt = .object n) ∨ ∃ t, rt = .array t) (hlocks : meth.locks = false) (hW : sv_W D T A s h θ σ H locs) (hdg : decode cc pc = .ok (.areturn, 1)) :
    W p l e R s m args below meth c H locs cells slots (MQ below (va_Qq post Bw A) args s cells slots A) (F0 m pc ls [v]) := by
  subst hv
  exact W.aret hx hb hr hrt (va_rf_or _) (fun t ht _ => ⟨⟨r, u, rfl, hu, hBu t ht⟩, hW.2.2.F ht⟩) hW.2.2.2.2 hdg hlocks
theorem sv_iretG {S : Type} {post : Int32 → S → Prop} {Bw : S → State → Prop} {v : Int32} (u : S) (hu : post v u) (hBu : ∀ t : State, t.heap = H → Bw u t) (hx : p.tables.exec = Jvm.exec) (hb : c.code = cc) {ty : FieldType} (hr : meth.sig.returnType = some ty) (hn : narrow ty (.int v) = .int v) (hlocks : meth.locks = false) (hW : sv_W D T A s h θ σ H locs) (hdg : decode cc pc = .ok (.ireturn, 1)) :
    W p l e R s m args below meth c H locs cells slots (MQ below (va_Qi post Bw A) args s cells slots A) (F0 m pc ls [.int v]) :=
  W.zret (v := v) hx hb hr hn (fun t ht _ => ⟨⟨v, u, rfl, hu, hBu t ht⟩, hW.2.2.F ht⟩) hW.2.2.2.2 hdg hlocks
end SVG2
/-- a method's beginning, where it makes cells -/
theorem sv_enterG {X : sv_X} {l : Launch} {D : va_G} {T : Nat → ClassId} {tys : List (ClassId × FieldType)} {h : Nat → Nat} {θ : sv_T} {y : MethodName} {ws : List Cond} {rm : Room} {As : List Value} {σ : sv_S} {sz mc ms : Nat} {Qc : Nat → Array Value → State → Outcome → State → Prop} {cc : ByteArray} {maxL : Nat} {ret : Option FieldType} {ws' : List Cond}
    (hXp : sv_XP X) (hy : plainName y.cls = true) (hw : ws = Cond.code y cc maxL ret :: ws') (hlen : (lg_sl As).length ≤ maxL)
    (body : ∀ (p : Program) (e : Env) (s : State) (m : MethodId) (args : Array Value) (below : List Frame) (meth : Method) (c : Code), sv_F X p m c cc maxL s args ws y.cls D tys (sv_A h θ s.heap.size) → meth.sig.returnType = ret → meth.locks = false → meth.name = y.name → ∀ (ls : Array Slot) (H : Heap), lv_has ls maxL (lv_args 0 As) → sv_W D T (sv_A h θ s.heap.size) s h θ σ H [] →
      W p l e rm s m args below meth c H [] 0 0 (MQ below (Qc s.heap.size) args s mc ms (sv_A h θ s.heap.size)) (F0 m 0 ls [])) :
    Met l y ws rm (va_Pc As (sv_B X D T tys h θ σ sz)) (Qc sz) mc ms (sv_A h θ sz) := by
  refine Met.ofW (cc := cc) (maxL := maxL) (ret := ret) hy hw ?_
  intro p e s m args below meth c s₁ B hml hv
  obtain ⟨rfl, hsz, hP, hK, hD0, hX⟩ := hv
  have hts := atoms_spec (ws := ws) B.pre
  have hown : s.vm.findClass y.cls = some m.cls := findClass_of_methodNamed B.named
  subst hsz
  have hD : va_D (sv_A h θ s.heap.size) (sv_ws T h θ σ) := ⟨hD0.1, fun k q hk => by rw [← sv_A_eq (T := T) (σ := σ)]; exact va_A.in hk⟩
  have hl := lv_entry As (n := maxL) hlen
  rw [lg_entry_eq]
  exact body p e s m _ below meth c ⟨⟨B.exec, B.bytes, hml, hown, hts⟩, hK, hX, fun q hq => Or.inr hq, hXp⟩ B.returns B.notSynchronized (name_of_methodNamed B.named B.method).1 _ _ hl ⟨hP, hD, va_S.rf⟩

/-! ===== the cells of either side, what a side knows ===== -/
abbrev sx_sX0 : List sv_K := [(3, 1), (0, 0), (2, 0), (0, 0)]
abbrev sx_sX2 : List sv_K := [(3, 1), (3, 2), (3, 3), (3, 4), (3, 5), (0, 0), (0, 0), (2, 0)]
abbrev sx_sX3 : List sv_K := [(3, 1), (3, 3), (3, 4), (0, 0), (0, 0), (0, 0), (0, 0), (3, 5), (3, 6), (3, 7), (3, 8), (0, 0), (0, 0), (0, 0), (0, 0), (0, 0), (0, 0)]
abbrev sx_sX4 : List sv_K := [(0, 0), (0, 0), (3, 1), (3, 2), (3, 3), (3, 4), (0, 0), (0, 0), (3, 5), (3, 6), (0, 0)]
abbrev sx_sX5 : List sv_K := [(3, 1), (0, 0), (0, 0)]
abbrev sx_sX6 : List sv_K := [(0, 0), (3, 1), (3, 2), (3, 3)]
abbrev sx_sX7 : List sv_K := [(3, 1), (3, 7), (0, 0), (3, 13), (3, 20), (0, 0), (3, 21), (3, 22), (3, 24), (3, 33)]
abbrev sx_sX8 : List sv_K := [(0, 0), (3, 1), (3, 2), (0, 0), (0, 0), (3, 3), (0, 0), (0, 0), (3, 4), (3, 5), (3, 6), (0, 0), (0, 0), (0, 0), (0, 0), (0, 0), (0, 0), (0, 0), (0, 0), (0, 0), (0, 0), (0, 0), (0, 0), (1, 0), (0, 0), (0, 0), (0, 0), (0, 0), (0, 0), (0, 0), (0, 0), (0, 0), (0, 0), (0, 0), (3, 7), (3, 8), (3, 9), (0, 0), (0, 0), (0, 0), (3, 10), (3, 11), (3, 12), (3, 13)]
def sx_l : List sv_Sh := [.inl (6, sx_sX7), .inl (1, sx_sX2), .inr (0, 48), .inr (0, 6), .inr (0, 6), .inr (0, 6), .inr (0, 6), .inl (1, sx_sX2), .inr (0, 48), .inr (0, 6), .inr (0, 6), .inr (0, 6), .inr (0, 6), .inl (3, sx_sX4), .inr (0, 160), .inr (0, 161), .inr (0, 161), .inr (0, 161), .inr (0, 160), .inr (0, 3), .inr (2, 6), .inr (3, 4), .inl (0, sx_sX0), .inr (0, 6), .inl (2, sx_sX3), .inl (0, sx_sX0), .inr (0, 6), .inr (0, 48), .inr (0, 6), .inr (0, 864), .inr (0, 864), .inr (0, 864), .inr (0, 864), .inr (0, 48), .inl (4, sx_sX5), .inr (0, 40), .inl (4, sx_sX5), .inr (0, 40), .inl (4, sx_sX5), .inr (0, 40), .inl (4, sx_sX5), .inr (0, 40)]
def sx_sh (i : Nat) : sv_Sh := sx_l.getD i (.inr (0, 0))
def sx_base (θ : sv_T) : Prop := 42 ≤ θ.1 ∧ ∀ i, i < 42 → θ.2 i = sx_sh i
theorem sx_i {θ : sv_T} (k : Nat) (hB : sx_base θ) (hk : k < 42) : k < θ.1 := Nat.lt_of_lt_of_le hk hB.1
def sm_l : List sv_Sh := [.inl (7, sx_sX8), .inr (0, 960), .inr (0, 6), .inr (0, 160), .inr (0, 48), .inr (0, 6), .inr (0, 18), .inr (0, 48), .inr (0, 48), .inr (0, 18), .inr (1, 4), .inr (0, 4), .inr (0, 4), .inr (0, 160)]
def sm_sh (i : Nat) : sv_Sh := sm_l.getD i (.inr (0, 0))
def sm_base (θ : sv_T) : Prop := 14 ≤ θ.1 ∧ ∀ i, i < 14 → θ.2 i = sm_sh i
theorem sm_i {θ : sv_T} (k : Nat) (hB : sm_base θ) (hk : k < 14) : k < θ.1 := Nat.lt_of_lt_of_le hk hB.1
abbrev sv_oA (θ : sv_T) (i : Nat) : Prop := i < θ.1 ∧ θ.2 i = .inr (0, sv_len θ i)
theorem sv_oA_of {θ : sv_T} {i L : Nat} (hi : i < θ.1) (hs : θ.2 i = .inr (0, L)) : sv_oA θ i := ⟨hi, by simp [sv_len, hs]⟩
abbrev sv_oX0 (θ : sv_T) (i : Nat) : Prop := i < θ.1 ∧ θ.2 i = .inl (0, sx_sX0) ∧ (i + 1 < θ.1 ∧ θ.2 (i + 1) = .inr (0, 6))
abbrev sv_oX2 (θ : sv_T) (i : Nat) : Prop := i < θ.1 ∧ θ.2 i = .inl (1, sx_sX2) ∧ (i + 1 < θ.1 ∧ θ.2 (i + 1) = .inr (0, 48)) ∧ (i + 2 < θ.1 ∧ θ.2 (i + 2) = .inr (0, 6)) ∧ (i + 3 < θ.1 ∧ θ.2 (i + 3) = .inr (0, 6)) ∧ (i + 4 < θ.1 ∧ θ.2 (i + 4) = .inr (0, 6)) ∧ (i + 5 < θ.1 ∧ θ.2 (i + 5) = .inr (0, 6))
abbrev sv_oX5 (θ : sv_T) (i : Nat) : Prop := i < θ.1 ∧ θ.2 i = .inl (4, sx_sX5) ∧ (i + 1 < θ.1 ∧ θ.2 (i + 1) = .inr (0, 40))
abbrev sv_oX6 (θ : sv_T) (i : Nat) : Prop := i < θ.1 ∧ θ.2 i = .inl (5, sx_sX6) ∧ (i + 1 < θ.1 ∧ θ.2 (i + 1) = .inr (0, (sv_len θ (i + 1)))) ∧ (i + 2 < θ.1 ∧ θ.2 (i + 2) = .inr (0, 3)) ∧ (i + 3 < θ.1 ∧ θ.2 (i + 3) = .inr (0, 160))
theorem sx_c0 {θ : sv_T} (hB : sx_base θ) : θ.2 0 = .inl (6, sx_sX7) := hB.2 0 (by decide)
theorem sx_c1 {θ : sv_T} (hB : sx_base θ) : θ.2 1 = .inl (1, sx_sX2) := hB.2 1 (by decide)
theorem sx_c2 {θ : sv_T} (hB : sx_base θ) : θ.2 2 = .inr (0, 48) := hB.2 2 (by decide)
theorem sx_c3 {θ : sv_T} (hB : sx_base θ) : θ.2 3 = .inr (0, 6) := hB.2 3 (by decide)
theorem sx_c4 {θ : sv_T} (hB : sx_base θ) : θ.2 4 = .inr (0, 6) := hB.2 4 (by decide)
theorem sx_c5 {θ : sv_T} (hB : sx_base θ) : θ.2 5 = .inr (0, 6) := hB.2 5 (by decide)
theorem sx_c6 {θ : sv_T} (hB : sx_base θ) : θ.2 6 = .inr (0, 6) := hB.2 6 (by decide)
theorem sx_c7 {θ : sv_T} (hB : sx_base θ) : θ.2 7 = .inl (1, sx_sX2) := hB.2 7 (by decide)
theorem sx_c8 {θ : sv_T} (hB : sx_base θ) : θ.2 8 = .inr (0, 48) := hB.2 8 (by decide)
theorem sx_c9 {θ : sv_T} (hB : sx_base θ) : θ.2 9 = .inr (0, 6) := hB.2 9 (by decide)
theorem sx_c10 {θ : sv_T} (hB : sx_base θ) : θ.2 10 = .inr (0, 6) := hB.2 10 (by decide)
theorem sx_c11 {θ : sv_T} (hB : sx_base θ) : θ.2 11 = .inr (0, 6) := hB.2 11 (by decide)
theorem sx_c12 {θ : sv_T} (hB : sx_base θ) : θ.2 12 = .inr (0, 6) := hB.2 12 (by decide)
theorem sx_c13 {θ : sv_T} (hB : sx_base θ) : θ.2 13 = .inl (3, sx_sX4) := hB.2 13 (by decide)
theorem sx_c14 {θ : sv_T} (hB : sx_base θ) : θ.2 14 = .inr (0, 160) := hB.2 14 (by decide)
theorem sx_c15 {θ : sv_T} (hB : sx_base θ) : θ.2 15 = .inr (0, 161) := hB.2 15 (by decide)
theorem sx_c16 {θ : sv_T} (hB : sx_base θ) : θ.2 16 = .inr (0, 161) := hB.2 16 (by decide)
theorem sx_c17 {θ : sv_T} (hB : sx_base θ) : θ.2 17 = .inr (0, 161) := hB.2 17 (by decide)
theorem sx_c18 {θ : sv_T} (hB : sx_base θ) : θ.2 18 = .inr (0, 160) := hB.2 18 (by decide)
theorem sx_c19 {θ : sv_T} (hB : sx_base θ) : θ.2 19 = .inr (0, 3) := hB.2 19 (by decide)
theorem sx_c20 {θ : sv_T} (hB : sx_base θ) : θ.2 20 = .inr (2, 6) := hB.2 20 (by decide)
theorem sx_c21 {θ : sv_T} (hB : sx_base θ) : θ.2 21 = .inr (3, 4) := hB.2 21 (by decide)
theorem sx_c22 {θ : sv_T} (hB : sx_base θ) : θ.2 22 = .inl (0, sx_sX0) := hB.2 22 (by decide)
theorem sx_c23 {θ : sv_T} (hB : sx_base θ) : θ.2 23 = .inr (0, 6) := hB.2 23 (by decide)
theorem sx_c24 {θ : sv_T} (hB : sx_base θ) : θ.2 24 = .inl (2, sx_sX3) := hB.2 24 (by decide)
theorem sx_c25 {θ : sv_T} (hB : sx_base θ) : θ.2 25 = .inl (0, sx_sX0) := hB.2 25 (by decide)
theorem sx_c26 {θ : sv_T} (hB : sx_base θ) : θ.2 26 = .inr (0, 6) := hB.2 26 (by decide)
theorem sx_c27 {θ : sv_T} (hB : sx_base θ) : θ.2 27 = .inr (0, 48) := hB.2 27 (by decide)
theorem sx_c28 {θ : sv_T} (hB : sx_base θ) : θ.2 28 = .inr (0, 6) := hB.2 28 (by decide)
theorem sx_c29 {θ : sv_T} (hB : sx_base θ) : θ.2 29 = .inr (0, 864) := hB.2 29 (by decide)
theorem sx_c30 {θ : sv_T} (hB : sx_base θ) : θ.2 30 = .inr (0, 864) := hB.2 30 (by decide)
theorem sx_c31 {θ : sv_T} (hB : sx_base θ) : θ.2 31 = .inr (0, 864) := hB.2 31 (by decide)
theorem sx_c32 {θ : sv_T} (hB : sx_base θ) : θ.2 32 = .inr (0, 864) := hB.2 32 (by decide)
theorem sx_c33 {θ : sv_T} (hB : sx_base θ) : θ.2 33 = .inr (0, 48) := hB.2 33 (by decide)
theorem sx_c34 {θ : sv_T} (hB : sx_base θ) : θ.2 34 = .inl (4, sx_sX5) := hB.2 34 (by decide)
theorem sx_c35 {θ : sv_T} (hB : sx_base θ) : θ.2 35 = .inr (0, 40) := hB.2 35 (by decide)
theorem sx_c36 {θ : sv_T} (hB : sx_base θ) : θ.2 36 = .inl (4, sx_sX5) := hB.2 36 (by decide)
theorem sx_c37 {θ : sv_T} (hB : sx_base θ) : θ.2 37 = .inr (0, 40) := hB.2 37 (by decide)
theorem sx_c38 {θ : sv_T} (hB : sx_base θ) : θ.2 38 = .inl (4, sx_sX5) := hB.2 38 (by decide)
theorem sx_c39 {θ : sv_T} (hB : sx_base θ) : θ.2 39 = .inr (0, 40) := hB.2 39 (by decide)
theorem sx_c40 {θ : sv_T} (hB : sx_base θ) : θ.2 40 = .inl (4, sx_sX5) := hB.2 40 (by decide)
theorem sx_c41 {θ : sv_T} (hB : sx_base θ) : θ.2 41 = .inr (0, 40) := hB.2 41 (by decide)
theorem sx_o0 {θ : sv_T} (hB : sx_base θ) : 0 < θ.1 := sx_i 0 hB (by decide)
theorem sx_o1 {θ : sv_T} (hB : sx_base θ) : sv_oX2 θ 1 := ⟨sx_i 1 hB (by decide), sx_c1 hB, ⟨sx_i 2 hB (by decide), sx_c2 hB⟩, ⟨sx_i 3 hB (by decide), sx_c3 hB⟩, ⟨sx_i 4 hB (by decide), sx_c4 hB⟩, ⟨sx_i 5 hB (by decide), sx_c5 hB⟩, ⟨sx_i 6 hB (by decide), sx_c6 hB⟩⟩
theorem sx_o7 {θ : sv_T} (hB : sx_base θ) : sv_oX2 θ 7 := ⟨sx_i 7 hB (by decide), sx_c7 hB, ⟨sx_i 8 hB (by decide), sx_c8 hB⟩, ⟨sx_i 9 hB (by decide), sx_c9 hB⟩, ⟨sx_i 10 hB (by decide), sx_c10 hB⟩, ⟨sx_i 11 hB (by decide), sx_c11 hB⟩, ⟨sx_i 12 hB (by decide), sx_c12 hB⟩⟩
theorem sx_o13 {θ : sv_T} (hB : sx_base θ) : 13 < θ.1 := sx_i 13 hB (by decide)
theorem sx_o22 {θ : sv_T} (hB : sx_base θ) : sv_oX0 θ 22 := ⟨sx_i 22 hB (by decide), sx_c22 hB, ⟨sx_i 23 hB (by decide), sx_c23 hB⟩⟩
theorem sx_o24 {θ : sv_T} (hB : sx_base θ) : 24 < θ.1 := sx_i 24 hB (by decide)
theorem sx_o25 {θ : sv_T} (hB : sx_base θ) : sv_oX0 θ 25 := ⟨sx_i 25 hB (by decide), sx_c25 hB, ⟨sx_i 26 hB (by decide), sx_c26 hB⟩⟩
theorem sx_o34 {θ : sv_T} (hB : sx_base θ) : sv_oX5 θ 34 := ⟨sx_i 34 hB (by decide), sx_c34 hB, ⟨sx_i 35 hB (by decide), sx_c35 hB⟩⟩
theorem sx_o36 {θ : sv_T} (hB : sx_base θ) : sv_oX5 θ 36 := ⟨sx_i 36 hB (by decide), sx_c36 hB, ⟨sx_i 37 hB (by decide), sx_c37 hB⟩⟩
theorem sx_o38 {θ : sv_T} (hB : sx_base θ) : sv_oX5 θ 38 := ⟨sx_i 38 hB (by decide), sx_c38 hB, ⟨sx_i 39 hB (by decide), sx_c39 hB⟩⟩
theorem sx_o40 {θ : sv_T} (hB : sx_base θ) : sv_oX5 θ 40 := ⟨sx_i 40 hB (by decide), sx_c40 hB, ⟨sx_i 41 hB (by decide), sx_c41 hB⟩⟩
theorem sm_c0 {θ : sv_T} (hB : sm_base θ) : θ.2 0 = .inl (7, sx_sX8) := hB.2 0 (by decide)
theorem sm_c1 {θ : sv_T} (hB : sm_base θ) : θ.2 1 = .inr (0, 960) := hB.2 1 (by decide)
theorem sm_c2 {θ : sv_T} (hB : sm_base θ) : θ.2 2 = .inr (0, 6) := hB.2 2 (by decide)
theorem sm_c3 {θ : sv_T} (hB : sm_base θ) : θ.2 3 = .inr (0, 160) := hB.2 3 (by decide)
theorem sm_c4 {θ : sv_T} (hB : sm_base θ) : θ.2 4 = .inr (0, 48) := hB.2 4 (by decide)
theorem sm_c5 {θ : sv_T} (hB : sm_base θ) : θ.2 5 = .inr (0, 6) := hB.2 5 (by decide)
theorem sm_c6 {θ : sv_T} (hB : sm_base θ) : θ.2 6 = .inr (0, 18) := hB.2 6 (by decide)
theorem sm_c7 {θ : sv_T} (hB : sm_base θ) : θ.2 7 = .inr (0, 48) := hB.2 7 (by decide)
theorem sm_c8 {θ : sv_T} (hB : sm_base θ) : θ.2 8 = .inr (0, 48) := hB.2 8 (by decide)
theorem sm_c9 {θ : sv_T} (hB : sm_base θ) : θ.2 9 = .inr (0, 18) := hB.2 9 (by decide)
theorem sm_c10 {θ : sv_T} (hB : sm_base θ) : θ.2 10 = .inr (1, 4) := hB.2 10 (by decide)
theorem sm_c11 {θ : sv_T} (hB : sm_base θ) : θ.2 11 = .inr (0, 4) := hB.2 11 (by decide)
theorem sm_c12 {θ : sv_T} (hB : sm_base θ) : θ.2 12 = .inr (0, 4) := hB.2 12 (by decide)
theorem sm_c13 {θ : sv_T} (hB : sm_base θ) : θ.2 13 = .inr (0, 160) := hB.2 13 (by decide)
theorem sm_o0 {θ : sv_T} (hB : sm_base θ) : 0 < θ.1 := sm_i 0 hB (by decide)
abbrev sx_tys (T : Nat → ClassId) : List (ClassId × FieldType) := [(T 0, .int), (T 2, .object "OpenWhileItRains$Text"), (T 3, .object "OpenWhileItRains$Row")]
abbrev sm_tys (T : Nat → ClassId) : List (ClassId × FieldType) := [(T 0, .int), (T 1, .boolean)]
def sx_nest : List Cond := [.methodLinkNest RX7 9 yX2_init RX7, .methodLinkNest RX7 21 yX4_init RX7, .methodLinkNest RX7 40 yX0_init RX7, .methodLinkNest RX7 47 yX3_init RX7, .methodLinkNest RX3 11 yX0_init RX7, .methodLinkNest RX7 56 yX5_init RX7, .methodLinkNest RX4 34 yX7_put RX7, .methodLinkNest RX4 119 yX7_at RX7, .methodLinkNest RX2 44 yX7_put RX7, .methodLinkNest RX2 48 yX7_at RX7, .methodLinkNest RX0 20 yX7_at RX7, .methodLinkNest RX0 42 yX7_put RX7, .methodLinkNest RX6 25 yX7_at RX7, .methodLinkNest RX6 29 yX7_put RX7, .methodLinkNest RX0 58 yX7_bound RX7, .methodLinkNest RX5 32 yX7_at RX7, .methodLinkNest RX3 63 yX7_at RX7, .methodLinkNest RX3 90 yX7_hasBit RX7, .methodLinkNest RX3 94 yX7_put RX7, .methodLinkNest RX5 19 yX7_bound RX7]
def sx_most (j : Nat) : Int32 := ([9, 9, 9, 1, 1] : List Int32).getD j 0
def sx_under (j : Nat) : Int32 := ([-1, 0, 0, 1, 2, 0] : List Int32).getD j 0
def sx_t0 : String := "needs 2 ; takes 2 ; value 20 - hour ;"
def sx_t1 : String := "rain  hour  numberdone  streetwest  needs takes value or    and   not   "
def sx_slen : List Nat := [37, 72]
def sx_sbyt : List (List Int32) := [[110, 101, 101, 100, 115, 32, 50, 32, 59, 32, 116, 97, 107, 101, 115, 32, 50, 32, 59, 32, 118, 97, 108, 117, 101, 32, 50, 48, 32, 45, 32, 104, 111, 117, 114, 32, 59], [114, 97, 105, 110, 32, 32, 104, 111, 117, 114, 32, 32, 110, 117, 109, 98, 101, 114, 100, 111, 110, 101, 32, 32, 115, 116, 114, 101, 101, 116, 119, 101, 115, 116, 32, 32, 110, 101, 101, 100, 115, 32, 116, 97, 107, 101, 115, 32, 118, 97, 108, 117, 101, 32, 111, 114, 32, 32, 32, 32, 97, 110, 100, 32, 32, 32, 110, 111, 116, 32, 32, 32]]
def sx_X (qK qV : Nat → Nat) : sv_X := fun A U H => (∀ w ∈ sx_nest, va_Nw w U) ∧ (∃ t, va_Z "OpenWhileItRains" "MOST_SET" "[I" (.ref t) A U H ∧ va_T .int t 5 (fun j => .int (sx_most j)) A U H) ∧ (∃ t, va_Z "OpenWhileItRains" "UNDER" "[I" (.ref t) A U H ∧ va_T .int t 6 (fun j => .int (sx_under j)) A U H) ∧ va_Nw (.fieldLinkNest RX1 9 RX7 "UNDER" "[I" RX7) U ∧ (vk_S 2 sx_slen sx_sbyt qK qV A U H ∧ vk_R RX7 57 sx_t0 (qK 0) U ∧ vk_R RX4 105 sx_t1 (qK 1) U) ∧ va_Z "java/lang/String" "COMPACT_STRINGS" "Z" (.int 1) A U H ∧ va_Zq "jdk/internal/util/Preconditions" "SIOOBE_FORMATTER" "Ljava/util/function/BiFunction;" A U H
theorem sx_nest_of : ∀ w ∈ sx_nest, ∃ (a : String) (i : Nat) (x : MethodName) (h : String), w = .methodLinkNest a i x h := by
  intro w hw
  simp only [sx_nest, List.mem_cons, List.not_mem_nil, or_false] at hw
  rcases hw with rfl | rfl | rfl | rfl | rfl | rfl | rfl | rfl | rfl | rfl | rfl | rfl | rfl | rfl | rfl | rfl | rfl | rfl | rfl | rfl <;> exact ⟨_, _, _, _, rfl⟩
theorem sx_XP {qK qV : Nat → Nat} : sv_XP (sx_X qK qV) := by
  refine ⟨?_, ?_, ?_, ?_⟩
  · rintro A s U H hW ⟨h1, ⟨t, h2, h3⟩, ⟨t', h4, h5⟩, h6, ⟨h7, h8, h9⟩, h10, h11⟩
    refine ⟨fun w hw => ?_, ⟨t, h2.moved hW.alike, h3.moved hW.alike⟩, ⟨t', h4.moved hW.alike, h5.moved hW.alike⟩, va_Nw.warmF hW h6, ⟨h7.moved hW.alike, h8.warm hW, h9.warm hW⟩, h10.moved hW.alike, h11.moved hW.alike⟩
    obtain ⟨a, i, x, hh, rfl⟩ := sx_nest_of w hw
    exact va_Nw.warmM hW (h1 _ hw)
  · rintro A U H H1 ⟨h1, ⟨t, h2, h3⟩, ⟨t', h4, h5⟩, h6, ⟨h7, h8, h9⟩, h10, h11⟩ hk
    exact ⟨h1, ⟨t, h2.kept hk, h3.kept hk⟩, ⟨t', h4.kept hk, h5.kept hk⟩, h6, ⟨h7.kept hk, h8, h9⟩, h10.kept hk, h11.kept hk⟩
  · rintro A B U H ⟨h1, ⟨t, h2, h3⟩, ⟨t', h4, h5⟩, h6, ⟨h7, h8, h9⟩, h10, h11⟩ hAB
    exact ⟨h1, ⟨t, h2.narrow hAB, h3.narrow hAB⟩, ⟨t', h4.narrow hAB, h5.narrow hAB⟩, h6, ⟨h7.narrow hAB, h8, h9⟩, h10.narrow hAB, h11.narrow hAB⟩
  · rintro A U H g mk a ⟨h1, ⟨t, h2, h3⟩, ⟨t', h4, h5⟩, h6, ⟨h7, h8, h9⟩, h10, h11⟩
    have ha : U.vm.Alike (U.calling g mk a).vm := Vm.Alike.refl U.vm
    refine ⟨fun w hw => ?_, ⟨t, h2.moved ha, h3.moved ha⟩, ⟨t', h4.moved ha, h5.moved ha⟩, va_Nw.same rfl (u := U) (U := U.calling g mk a) rfl h6, ⟨h7.moved ha, vk_R.same (u := U) (U := U.calling g mk a) rfl h8, vk_R.same (u := U) (U := U.calling g mk a) rfl h9⟩, h10.moved ha, h11.moved ha⟩
    obtain ⟨a2, i, x, hh, rfl⟩ := sx_nest_of w hw
    exact va_Nw.same rfl (u := U) (U := U.calling g mk a) rfl (h1 _ hw)
theorem sx_zq {C n d : String} {A : Nat → Prop} {U : State} {H : Heap} (h : va_Zq C n d A U H) : ∃ fo : Option Nat, va_Z C n d (va_rf fo) A U H := h.elim (fun z => ⟨none, z⟩) (fun ⟨t, z⟩ => ⟨some t, z⟩)
def sm_X : sv_X := fun _ _ _ => True
theorem sm_XP : sv_XP sm_X := ⟨fun _ _ _ _ _ _ => trivial, fun _ _ _ _ _ _ => trivial, fun _ _ _ _ _ _ => trivial, fun _ _ _ _ _ _ _ => trivial⟩
def sv_N : Nat := 200
abbrev sv_cp (sp dp n : Int32) (L0 L1 : Nat) : Prop := ¬ sp < 0 ∧ ¬ dp < 0 ∧ ¬ n < 0 ∧ sp.toNatClampNeg + n.toNatClampNeg ≤ L0 ∧ dp.toNatClampNeg + n.toNatClampNeg ≤ L1
theorem sv_copy {p : Program} {l : Launch} {e : Env} {R : Room} {s : State} {m : MethodId} {args : Array Value} {below : List Frame} {meth : Method} {c : Code} {H : Heap} {locs : List Loc} {cells slots : Nat} {Q : State → Prop} {cc : ByteArray} {pc : Nat} {ls : Array Slot} {rest : List Value} {D : va_G} {T : Nat → ClassId} {A : Nat → Prop} {tys : List (ClassId × FieldType)} {h : Nat → Nat} {θ : sv_T} {σ : sv_S}
    (hx : p.tables.exec = Jvm.exec) (hb : c.code = cc) (hml : c.maxLocals = ls.size) {own : String} {index : Nat} (hown : s.vm.findClass own = some m.cls) (hlink : (Cond.methodLink own index arraycopyName).before args s = true) (hnat : (Cond.native arraycopyName).before args s = true) (hstat : (Cond.static arraycopyName).before args s = true) (hini : (Cond.initialized "java/lang/System").before args s = true)
    (hK : va_K D vwCl tys s) (hW : sv_W D T A s h θ σ H locs) {a b L0 L1 : Nat} (ha : a < θ.1) (hsa : θ.2 a = .inr (0, L0)) (hb2 : b < θ.1) (hsb : θ.2 b = .inr (0, L1)) (t0 : Nat) (ht : tys[t0]? = some (T 0, .int)) {sp dp n : Int32} (hc : sv_cp sp dp n L0 L1) (hframes : 1 ≤ R.frames) (hlocals : (rest.map fun v => v.category).sum + (nativeFrameWords "java/lang/System" "arraycopy" 5 + 11) ≤ R.locals) (hdg : decode cc pc = .ok (.invokestatic index, 3))
    (kk : ∀ (σ1 : sv_S) (H1 : Heap) (locs1 : List Loc), σ1 = sv_sR σ b (va_cpy (σ.1 a) (σ.1 b) sp.toNatClampNeg dp.toNatClampNeg n.toNatClampNeg) → sv_W D T A s h θ σ1 H1 locs1 → W p l e R s m args below meth c H1 locs1 cells slots Q (F0 m (pc + 3) ls rest)) : W p l e R s m args below meth c H locs cells slots Q (F0 m pc ls (.int n :: .int dp :: .ref (h b) :: .int sp :: .ref (h a) :: rest)) := by
  have hset : (sv_ws T h θ σ).set b (h b, .inl (T 0, L1, .inl (va_cpy (σ.1 a) (σ.1 b) sp.toNatClampNeg dp.toNatClampNeg n.toNatClampNeg))) = sv_ws T h θ (sv_sR σ b (va_cpy (σ.1 a) (σ.1 b) sp.toNatClampNeg dp.toNatClampNeg n.toNatClampNeg)) :=
    sv_row_set hb2 hsb (by simp [sv_row, sv_sR, sv_r]) (fun z hz => ⟨sv_r_ne hz, rfl, rfl⟩)
  exact va_copyi (D := D) (ty := .int) hx hb hml hown hlink hnat hstat hini hK hW.1 hW.2.1 hW.2.2 a b t0 t0 (sv_aget ha hsa) (sv_aget hb2 hsb) ht ht rfl hc.1 hc.2.1 hc.2.2.1 hc.2.2.2.1 hc.2.2.2.2 (fun _ _ => rfl) hframes hlocals hdg (fun H1 locs1 hP hD hS => kk _ H1 locs1 rfl ⟨by rw [← hset]; exact hP, by rw [← hset]; exact hD, hS⟩)

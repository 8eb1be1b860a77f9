/-! ===== the law: its loop ===== -/
section LZL
variable {p : Program} {l : Launch} {e : Env} {s : State} {m : MethodId} {below : List Frame} {meth : Method} {c : Code}
variable {D : va_G} {T : Nat → ClassId} {hm : Nat → Nat} {b L : Nat} {xs : Nat → Int32} {qK qV : Nat → Nat}
theorem lz_end {k : Nat} (hL : L ≤ 3072) (hk : 6 * k ≤ L) (h : ¬ (Int32.ofNat L - 6 < nI (6 * k))) : 6 * k + 6 ≤ L := by
  refine Nat.le_of_not_lt (fun q => h ?_)
  show nI L - nI 6 < nI (6 * k)
  by_cases h6 : 6 ≤ L
  · rw [pk_sub (by omega)]
    exact nI_lt (by omega) (by omega)
  · have hk0 : k = 0 := by omega
    subst hk0
    have : ∀ L : Nat, L < 6 → nI L - nI 6 < nI (6 * 0) := by decide
    exact this L (by omega)
set_option maxHeartbeats 8000000 in
theorem lz_loop (C : lz_C p s m c b L xs qK qV D T) (hL : L ≤ 3072) (hr : meth.sig.returnType = ret) (hlocks : meth.locks = false) : ∀ (n k : Nat), L ≤ 6 * k + n → 6 * k ≤ L → ∀ (h : Nat → Nat) (θ : sv_T) (σ μ : sv_S) (tc : Nat) (Fs : Nat → Nat → (Nat → Int32) → Int32) (Dd : zD) (ls : Array Slot) (H : Heap) (locs : List Loc), lv_has ls 4 [(3, .int (nI (6 * k))), (0, .ref b), (1, .ref (h 0)), (2, .ref (hm 0))] → lz_W D T s h θ σ hm em_T0 μ H locs → zRel θ em_T0 σ μ tc Fs Dd →
    W p l e room_1 s m #[Value.ref b] below meth c H locs (100 + 4 * k) (8000 + 484 * k) (lw_Z below #[Value.ref b] s) (F0 m 18 ls []) := by
  have hx := C.1.1.1
  have hb := C.1.1.2.1
  have hbA : ¬ lz_A s b := Nat.not_le.mpr C.2.2.2
  intro n
  induction n with
  | zero =>
    intro k h1 h2 h θ σ μ tc Fs Dd ls H locs hl hW hrel
    refine lv_iload_n hx hb dL_law_18 rfl (lv_at hl 0 rfl) ?_
    refine lv_aload_n hx hb dL_law_19 rfl (lv_at hl 1 rfl) ?_
    refine va_slen hx hb C.2.2.1 C.2.2.2 hbA hW.1.2.2 dL_law_20 ?_
    refine lv_bipush (v := 6) hx hb dL_law_21 (by decide) ?_
    refine lv_isub hx hb dL_law_23 ?_
    refine lv_icmp_gt (tgt := 980) hx hb dL_law_24 (by decide) (fun _ => ?_) (fun q => ?_)
    · refine lv_iconst (v := 1) hx hb dL_law_980 (by decide) ?_
      refine va_forget (fun q hq => hW.1.2.2.2.2 q hq) ?_
      refine W.widen (k := 600000) (n := 7302250) (by omega) (by omega) ?_
      exact lw_ret hx hb hr hlocks dL_law_981
    · have := lz_end hL h2 q
      omega
  | succ n ih =>
    intro k h1 h2 h θ σ μ tc Fs Dd ls H locs hl hW hrel
    refine lv_iload_n hx hb dL_law_18 rfl (lv_at hl 0 rfl) ?_
    refine lv_aload_n hx hb dL_law_19 rfl (lv_at hl 1 rfl) ?_
    refine va_slen hx hb C.2.2.1 C.2.2.2 hbA hW.1.2.2 dL_law_20 ?_
    refine lv_bipush (v := 6) hx hb dL_law_21 (by decide) ?_
    refine lv_isub hx hb dL_law_23 ?_
    refine lv_icmp_gt (tgt := 980) hx hb dL_law_24 (by decide) (fun _ => ?_) (fun q => ?_)
    · refine lv_iconst (v := 1) hx hb dL_law_980 (by decide) ?_
      refine va_forget (fun q hq => hW.1.2.2.2.2 q hq) ?_
      refine W.widen (k := 600000) (n := 7302250) (by omega) (by omega) ?_
      exact lw_ret hx hb hr hlocks dL_law_981
    · have hi := lz_end hL h2 q
      have kk : lz_K p l e s m below meth c b (6 * k) D T hm (100 + 4 * k) (8000 + 484 * k) (lw_Z below #[Value.ref b] s) := by
        intro h' θ' σ' μ' tc' Fs' D' ls H locs hl hW hrel
        refine lv_iinc (v := nI (6 * (k + 1))) (lv' := [(3, .int (nI (6 * (k + 1)))), (0, .ref b), (1, .ref (h' 0)), (2, .ref (hm 0))]) hx hb dL_law_974 hl (k := 0) rfl (by show nI (6 * k) + nI 6 = _; rw [nI_add]; rfl) (by decide) rfl (fun ls hl => ?_)
        refine lv_goto (tgt := 18) hx hb dL_law_977 (by decide) ?_
        refine W.widen (k := 100 + 4 * (k + 1)) (n := 8000 + 484 * (k + 1)) (by omega) (by omega) ?_
        exact ih (k + 1) (by omega) (by omega) h' θ' σ' μ' tc' Fs' D' ls H locs hl hW hrel
      have hf : 100 + 4 * k + 4 ≤ 600000 ∧ 8000 + 484 * k + 484 ≤ 7302250 := ⟨by omega, by omega⟩
      refine lv_aload_n hx hb dL_law_27 rfl (lv_at hl 1 rfl) ?_
      refine lv_iload_n hx hb dL_law_28 rfl (lv_at hl 0 rfl) ?_
      refine va_sld hx hb C.2.2.1 C.2.2.2 hbA hW.1.2.2 (vp_in_nI (by omega) (by omega)) dL_law_29 ?_
      refine lv_bipush (v := 31) hx hb dL_law_30 (by decide) ?_
      refine lv_iand hx hb dL_law_32 ?_
      generalize xs (nI (6 * k)).toNatClampNeg &&& 31 = x
      by_cases hout : x.toInt < 0 ∨ 24 < x.toInt
      · refine lv_tableOut (tgt := 974) hx hb dL_law_33 hout (by decide) ?_
        refine W.widen (k := 100 + 4 * k + 4) (n := 8000 + 484 * k + 484) (by omega) (by omega) ?_
        exact kk h θ σ μ tc Fs Dd ls H locs hl hW hrel
      · obtain ⟨d, hd, ed⟩ := z_of (x := x) (n := 25) (by omega) (by omega)
        subst ed
        have hc : d = 0 ∨ d = 1 ∨ d = 2 ∨ d = 3 ∨ d = 4 ∨ d = 5 ∨ d = 6 ∨ d = 7 ∨ d = 8 ∨ d = 9 ∨ d = 10 ∨ d = 11 ∨ d = 12 ∨ d = 13 ∨ d = 14 ∨ d = 15 ∨ d = 16 ∨ d = 17 ∨ d = 18 ∨ d = 19 ∨ d = 20 ∨ d = 21 ∨ d = 22 ∨ d = 23 ∨ d = 24 := by omega
        rcases hc with rfl | rfl | rfl | rfl | rfl | rfl | rfl | rfl | rfl | rfl | rfl | rfl | rfl | rfl | rfl | rfl | rfl | rfl | rfl | rfl | rfl | rfl | rfl | rfl | rfl
        · refine lv_tableIn (off := 115) (tgt := 148) hx hb dL_law_33 (by decide) (by decide) (by decide) (by decide) ?_
          exact lz_set C hL hi hf hrel hl hW kk
        · refine lv_tableIn (off := 158) (tgt := 191) hx hb dL_law_33 (by decide) (by decide) (by decide) (by decide) ?_
          exact lz_bargain C hL hi hf hrel hl hW kk
        · refine lv_tableIn (off := 201) (tgt := 234) hx hb dL_law_33 (by decide) (by decide) (by decide) (by decide) ?_
          exact lz_told C hL hi hf hrel hl hW kk
        · refine lv_tableIn (off := 234) (tgt := 267) hx hb dL_law_33 (by decide) (by decide) (by decide) (by decide) ?_
          exact lz_asks C hL hi hf hrel hl hW kk
        · refine lv_tableIn (off := 277) (tgt := 310) hx hb dL_law_33 (by decide) (by decide) (by decide) (by decide) ?_
          exact lz_feed C hL hi hf hrel hl hW kk
        · refine lv_tableIn (off := 300) (tgt := 333) hx hb dL_law_33 (by decide) (by decide) (by decide) (by decide) ?_
          exact lz_text C hL hi hf hrel hl hW kk
        · refine lv_tableIn (off := 313) (tgt := 346) hx hb dL_law_33 (by decide) (by decide) (by decide) (by decide) ?_
          exact lz_force C hL hi hf hrel hl hW kk
        · refine lv_tableIn (off := 336) (tgt := 369) hx hb dL_law_33 (by decide) (by decide) (by decide) (by decide) ?_
          exact lz_tour C hL hi hf hrel hl hW kk
        · refine lv_tableIn (off := 369) (tgt := 402) hx hb dL_law_33 (by decide) (by decide) (by decide) (by decide) ?_
          exact lz_deal C hL hi hf hrel hl hW kk
        · refine lv_tableIn (off := 392) (tgt := 425) hx hb dL_law_33 (by decide) (by decide) (by decide) (by decide) ?_
          exact lz_best C hL hi hf hrel hl hW kk
        · refine lv_tableIn (off := 415) (tgt := 448) hx hb dL_law_33 (by decide) (by decide) (by decide) (by decide) ?_
          exact lz_few C hL hi hf hrel hl hW kk
        · refine lv_tableIn (off := 438) (tgt := 471) hx hb dL_law_33 (by decide) (by decide) (by decide) (by decide) ?_
          exact lz_water C hL hi hf hrel hl hW kk
        · refine lv_tableIn (off := 461) (tgt := 494) hx hb dL_law_33 (by decide) (by decide) (by decide) (by decide) ?_
          exact lz_sky C hL hi hf hrel hl hW kk
        · refine lv_tableIn (off := 494) (tgt := 527) hx hb dL_law_33 (by decide) (by decide) (by decide) (by decide) ?_
          exact lz_tells C hL hi hf hrel hl hW kk
        · refine lv_tableIn (off := 537) (tgt := 570) hx hb dL_law_33 (by decide) (by decide) (by decide) (by decide) ?_
          exact lz_film C hL hi hf hrel hl hW kk
        · refine lv_tableIn (off := 580) (tgt := 613) hx hb dL_law_33 (by decide) (by decide) (by decide) (by decide) ?_
          exact lz_drawn C hL hi hf hrel hl hW kk
        · refine lv_tableIn (off := 603) (tgt := 636) hx hb dL_law_33 (by decide) (by decide) (by decide) (by decide) ?_
          exact lz_chance C hL hi hf hrel hl hW kk
        · refine lv_tableIn (off := 657) (tgt := 690) hx hb dL_law_33 (by decide) (by decide) (by decide) (by decide) ?_
          exact lz_image C hL hi hf hrel hl hW kk
        · refine lv_tableIn (off := 670) (tgt := 703) hx hb dL_law_33 (by decide) (by decide) (by decide) (by decide) ?_
          exact lz_back C hL hi hf hrel hl hW kk
        · refine lv_tableIn (off := 683) (tgt := 716) hx hb dL_law_33 (by decide) (by decide) (by decide) (by decide) ?_
          exact lz_count C hL hi hf hrel hl hW kk
        · refine lv_tableIn (off := 706) (tgt := 739) hx hb dL_law_33 (by decide) (by decide) (by decide) (by decide) ?_
          exact lz_sheet C hL hi hf hrel hl hW kk
        · refine lv_tableIn (off := 749) (tgt := 782) hx hb dL_law_33 (by decide) (by decide) (by decide) (by decide) ?_
          exact lz_cell C hL hi hf hrel hl hW kk
        · refine lv_tableIn (off := 792) (tgt := 825) hx hb dL_law_33 (by decide) (by decide) (by decide) (by decide) ?_
          exact lz_copy C hL hi hf hrel hl hW kk
        · refine lv_tableIn (off := 855) (tgt := 888) hx hb dL_law_33 (by decide) (by decide) (by decide) (by decide) ?_
          exact lz_bargains C hL hi hf hrel hl hW kk
        · refine lv_tableIn (off := 908) (tgt := 941) hx hb dL_law_33 (by decide) (by decide) (by decide) (by decide) ?_
          exact lz_taken C hL hi hf hrel hl hW kk
end LZL

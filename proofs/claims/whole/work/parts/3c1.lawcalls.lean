/-! ===== the law: its calls ===== -/
section LZC
variable {p : Program} {l : Launch} {e : Env} {s : State} {m : MethodId} {below : List Frame} {meth : Method} {c : Code} {H : Heap} {locs : List Loc} {cells slots : Nat} {Q : State → Prop}
variable {ls : Array Slot} {D : va_G} {T : Nat → ClassId} {h hm : Nat → Nat} {θ : sv_T} {σ μ : sv_S} {b L : Nat} {xs : Nat → Int32} {qK qV : Nat → Nat} {i tc : Nat} {Fs : Nat → Nat → (Nat → Int32) → Int32} {Dd : zD}
set_option maxHeartbeats 4000000 in
theorem lz_set (C : lz_C p s m c b L xs qK qV D T) (hL : L ≤ 3072) (hi : i + 6 ≤ L) (hf : cells + 4 ≤ 600000 ∧ slots + 484 ≤ 7302250) (hrel : zRel θ em_T0 σ μ tc Fs Dd) (hl : lv_has ls 4 [(3, .int (nI i)), (0, .ref b), (1, .ref (h 0)), (2, .ref (hm 0))]) (hW : lz_W D T s h θ σ hm em_T0 μ H locs) (kk : lz_K p l e s m below meth c b i D T hm cells slots Q) : W p l e room_1 s m #[Value.ref b] below meth c H locs cells slots Q (F0 m 148 ls []) := by
  have hx := C.1.1.1
  have hb := C.1.1.2.1
  have hB := hrel.1
  have hBm := hrel.2.1
  have F1 := sx_F1 C.1
  have hfc : cells ≤ 600000 ∧ slots ≤ 7302250 := ⟨by omega, by omega⟩
  obtain ⟨r, σ1, μ1, D1, e1, e2, hrel1⟩ := c_set hrel (xs (i + 1)) (xs (i + 2)) (xs (i + 3))
  refine lv_aload_n hx hb dL_law_148 rfl (lv_at hl 2 rfl) ?_
  refine lz_arg C hL hW.1.2.2 1 hl (by omega) (by decide) dL_law_149 dL_law_150 dL_law_151 dL_law_152 dL_law_153 ?_
  refine lz_arg C hL hW.1.2.2 2 hl (by omega) (by decide) dL_law_154 dL_law_155 dL_law_156 dL_law_157 dL_law_158 ?_
  refine lz_arg C hL hW.1.2.2 3 hl (by omega) (by decide) dL_law_159 dL_law_160 dL_law_161 dL_law_162 dL_law_163 ?_
  refine lz_goI (σ' := σ1) (r := r) hW (sv_runV (C := RX7) F1 hW.1 (k_X7_set hB e1 H.size) gL_law_X7_set rfl ⟨rfl, rfl⟩ 3 (by decide +kernel) ⟨Nat.le_of_ble_eq_true rfl, Nat.le_of_ble_eq_true rfl⟩ (sx_i 0 hB (by decide)) (sx_c0 hB) rfl rfl hl.1 rfl (Nat.le_of_ble_eq_true rfl) dL_law_164 hfc) (fun H locs hW => ?_)
  refine lv_aload_n hx hb dL_law_167 rfl (lv_at hl 3 rfl) ?_
  refine lz_arg C hL hW.1.2.2 1 hl (by omega) (by decide) dL_law_168 dL_law_169 dL_law_170 dL_law_171 dL_law_172 ?_
  refine lz_arg C hL hW.1.2.2 2 hl (by omega) (by decide) dL_law_173 dL_law_174 dL_law_175 dL_law_176 dL_law_177 ?_
  refine lz_arg C hL hW.1.2.2 3 hl (by omega) (by decide) dL_law_178 dL_law_179 dL_law_180 dL_law_181 dL_law_182 ?_
  refine lz_goI (σ' := μ1) (r := r) (lz_sw hW) (sv_runV (C := RX8) C.2.1 hW.2.1 (k_X8_set hBm e2 H.size) gL_law_X8_set rfl ⟨rfl, rfl⟩ 3 (by decide +kernel) ⟨Nat.le_of_ble_eq_true rfl, Nat.le_of_ble_eq_true rfl⟩ (sm_i 0 hBm (by decide)) (sm_c0 hBm) rfl rfl hl.1 rfl (Nat.le_of_ble_eq_true rfl) dL_law_183 hfc) (fun H locs hW => ?_)
  refine lv_icmp_eq (tgt := 974) hx hb dL_law_186 (by decide) (fun _ => ?_) (fun q => absurd rfl q)
  refine W.widen (k := cells + 4) (n := slots + 484) (by omega) (by omega) ?_
  exact kk h θ σ1 μ1 tc Fs D1 ls H locs hl (lz_sw hW) hrel1
set_option maxHeartbeats 4000000 in
theorem lz_bargain (C : lz_C p s m c b L xs qK qV D T) (hL : L ≤ 3072) (hi : i + 6 ≤ L) (hf : cells + 4 ≤ 600000 ∧ slots + 484 ≤ 7302250) (hrel : zRel θ em_T0 σ μ tc Fs Dd) (hl : lv_has ls 4 [(3, .int (nI i)), (0, .ref b), (1, .ref (h 0)), (2, .ref (hm 0))]) (hW : lz_W D T s h θ σ hm em_T0 μ H locs) (kk : lz_K p l e s m below meth c b i D T hm cells slots Q) : W p l e room_1 s m #[Value.ref b] below meth c H locs cells slots Q (F0 m 191 ls []) := by
  have hx := C.1.1.1
  have hb := C.1.1.2.1
  have hB := hrel.1
  have hBm := hrel.2.1
  have F1 := sx_F1 C.1
  have hfc : cells ≤ 600000 ∧ slots ≤ 7302250 := ⟨by omega, by omega⟩
  obtain ⟨r, σ1, μ1, D1, e1, e2, hrel1⟩ := c_bargain hrel (xs (i + 1)) (xs (i + 2)) (xs (i + 3))
  refine lv_aload_n hx hb dL_law_191 rfl (lv_at hl 2 rfl) ?_
  refine lz_arg C hL hW.1.2.2 1 hl (by omega) (by decide) dL_law_192 dL_law_193 dL_law_194 dL_law_195 dL_law_196 ?_
  refine lz_arg C hL hW.1.2.2 2 hl (by omega) (by decide) dL_law_197 dL_law_198 dL_law_199 dL_law_200 dL_law_201 ?_
  refine lz_arg C hL hW.1.2.2 3 hl (by omega) (by decide) dL_law_202 dL_law_203 dL_law_204 dL_law_205 dL_law_206 ?_
  refine lz_goI (σ' := σ1) (r := r) hW (sv_runV (C := RX7) F1 hW.1 (k_X7_bargain hB e1 H.size) gL_law_X7_bargain rfl ⟨rfl, rfl⟩ 3 (by decide +kernel) ⟨Nat.le_of_ble_eq_true rfl, Nat.le_of_ble_eq_true rfl⟩ (sx_i 0 hB (by decide)) (sx_c0 hB) rfl rfl hl.1 rfl (Nat.le_of_ble_eq_true rfl) dL_law_207 hfc) (fun H locs hW => ?_)
  refine lv_aload_n hx hb dL_law_210 rfl (lv_at hl 3 rfl) ?_
  refine lz_arg C hL hW.1.2.2 1 hl (by omega) (by decide) dL_law_211 dL_law_212 dL_law_213 dL_law_214 dL_law_215 ?_
  refine lz_arg C hL hW.1.2.2 2 hl (by omega) (by decide) dL_law_216 dL_law_217 dL_law_218 dL_law_219 dL_law_220 ?_
  refine lz_arg C hL hW.1.2.2 3 hl (by omega) (by decide) dL_law_221 dL_law_222 dL_law_223 dL_law_224 dL_law_225 ?_
  refine lz_goI (σ' := μ1) (r := r) (lz_sw hW) (sv_runV (C := RX8) C.2.1 hW.2.1 (k_X8_bargain hBm e2 H.size) gL_law_X8_bargain rfl ⟨rfl, rfl⟩ 3 (by decide +kernel) ⟨Nat.le_of_ble_eq_true rfl, Nat.le_of_ble_eq_true rfl⟩ (sm_i 0 hBm (by decide)) (sm_c0 hBm) rfl rfl hl.1 rfl (Nat.le_of_ble_eq_true rfl) dL_law_226 hfc) (fun H locs hW => ?_)
  refine lv_icmp_eq (tgt := 974) hx hb dL_law_229 (by decide) (fun _ => ?_) (fun q => absurd rfl q)
  refine W.widen (k := cells + 4) (n := slots + 484) (by omega) (by omega) ?_
  exact kk h θ σ1 μ1 tc Fs D1 ls H locs hl (lz_sw hW) hrel1
set_option maxHeartbeats 4000000 in
theorem lz_told (C : lz_C p s m c b L xs qK qV D T) (hL : L ≤ 3072) (hi : i + 6 ≤ L) (hf : cells + 4 ≤ 600000 ∧ slots + 484 ≤ 7302250) (hrel : zRel θ em_T0 σ μ tc Fs Dd) (hl : lv_has ls 4 [(3, .int (nI i)), (0, .ref b), (1, .ref (h 0)), (2, .ref (hm 0))]) (hW : lz_W D T s h θ σ hm em_T0 μ H locs) (kk : lz_K p l e s m below meth c b i D T hm cells slots Q) : W p l e room_1 s m #[Value.ref b] below meth c H locs cells slots Q (F0 m 234 ls []) := by
  have hx := C.1.1.1
  have hb := C.1.1.2.1
  have hB := hrel.1
  have hBm := hrel.2.1
  have F1 := sx_F1 C.1
  have hfc : cells ≤ 600000 ∧ slots ≤ 7302250 := ⟨by omega, by omega⟩
  obtain ⟨r, σ1, μ1, D1, e1, e2, hrel1⟩ := c_told hrel (xs (i + 1)) (xs (i + 2))
  refine lv_aload_n hx hb dL_law_234 rfl (lv_at hl 2 rfl) ?_
  refine lz_arg C hL hW.1.2.2 1 hl (by omega) (by decide) dL_law_235 dL_law_236 dL_law_237 dL_law_238 dL_law_239 ?_
  refine lz_arg C hL hW.1.2.2 2 hl (by omega) (by decide) dL_law_240 dL_law_241 dL_law_242 dL_law_243 dL_law_244 ?_
  refine lz_goI (σ' := σ1) (r := r) hW (sv_runV (C := RX7) F1 hW.1 (k_X7_told hB e1 H.size) gL_law_X7_told rfl ⟨rfl, rfl⟩ 2 (by decide +kernel) ⟨Nat.le_of_ble_eq_true rfl, Nat.le_of_ble_eq_true rfl⟩ (sx_i 0 hB (by decide)) (sx_c0 hB) rfl rfl hl.1 rfl (Nat.le_of_ble_eq_true rfl) dL_law_245 hfc) (fun H locs hW => ?_)
  refine lv_aload_n hx hb dL_law_248 rfl (lv_at hl 3 rfl) ?_
  refine lz_arg C hL hW.1.2.2 1 hl (by omega) (by decide) dL_law_249 dL_law_250 dL_law_251 dL_law_252 dL_law_253 ?_
  refine lz_arg C hL hW.1.2.2 2 hl (by omega) (by decide) dL_law_254 dL_law_255 dL_law_256 dL_law_257 dL_law_258 ?_
  refine lz_goI (σ' := μ1) (r := r) (lz_sw hW) (sv_runV (C := RX8) C.2.1 hW.2.1 (k_X8_told hBm e2 H.size) gL_law_X8_told rfl ⟨rfl, rfl⟩ 2 (by decide +kernel) ⟨Nat.le_of_ble_eq_true rfl, Nat.le_of_ble_eq_true rfl⟩ (sm_i 0 hBm (by decide)) (sm_c0 hBm) rfl rfl hl.1 rfl (Nat.le_of_ble_eq_true rfl) dL_law_259 hfc) (fun H locs hW => ?_)
  refine lv_icmp_eq (tgt := 974) hx hb dL_law_262 (by decide) (fun _ => ?_) (fun q => absurd rfl q)
  refine W.widen (k := cells + 4) (n := slots + 484) (by omega) (by omega) ?_
  exact kk h θ σ1 μ1 tc Fs D1 ls H locs hl (lz_sw hW) hrel1
set_option maxHeartbeats 4000000 in
theorem lz_asks (C : lz_C p s m c b L xs qK qV D T) (hL : L ≤ 3072) (hi : i + 6 ≤ L) (hf : cells + 4 ≤ 600000 ∧ slots + 484 ≤ 7302250) (hrel : zRel θ em_T0 σ μ tc Fs Dd) (hl : lv_has ls 4 [(3, .int (nI i)), (0, .ref b), (1, .ref (h 0)), (2, .ref (hm 0))]) (hW : lz_W D T s h θ σ hm em_T0 μ H locs) (kk : lz_K p l e s m below meth c b i D T hm cells slots Q) : W p l e room_1 s m #[Value.ref b] below meth c H locs cells slots Q (F0 m 267 ls []) := by
  have hx := C.1.1.1
  have hb := C.1.1.2.1
  have hB := hrel.1
  have hBm := hrel.2.1
  have F1 := sx_F1 C.1
  have hfc : cells ≤ 600000 ∧ slots ≤ 7302250 := ⟨by omega, by omega⟩
  obtain ⟨r, σ1, μ1, D1, e1, e2, hrel1⟩ := c_asks hrel (xs (i + 1)) (xs (i + 2)) (xs (i + 3))
  refine lv_aload_n hx hb dL_law_267 rfl (lv_at hl 2 rfl) ?_
  refine lz_arg C hL hW.1.2.2 1 hl (by omega) (by decide) dL_law_268 dL_law_269 dL_law_270 dL_law_271 dL_law_272 ?_
  refine lz_arg C hL hW.1.2.2 2 hl (by omega) (by decide) dL_law_273 dL_law_274 dL_law_275 dL_law_276 dL_law_277 ?_
  refine lz_arg C hL hW.1.2.2 3 hl (by omega) (by decide) dL_law_278 dL_law_279 dL_law_280 dL_law_281 dL_law_282 ?_
  refine lz_goI (σ' := σ1) (r := r) hW (sv_runV (C := RX7) F1 hW.1 (k_X7_asks hB e1 H.size) gL_law_X7_asks rfl ⟨rfl, rfl⟩ 3 (by decide +kernel) ⟨Nat.le_of_ble_eq_true rfl, Nat.le_of_ble_eq_true rfl⟩ (sx_i 0 hB (by decide)) (sx_c0 hB) rfl rfl hl.1 rfl (Nat.le_of_ble_eq_true rfl) dL_law_283 hfc) (fun H locs hW => ?_)
  refine lv_aload_n hx hb dL_law_286 rfl (lv_at hl 3 rfl) ?_
  refine lz_arg C hL hW.1.2.2 1 hl (by omega) (by decide) dL_law_287 dL_law_288 dL_law_289 dL_law_290 dL_law_291 ?_
  refine lz_arg C hL hW.1.2.2 2 hl (by omega) (by decide) dL_law_292 dL_law_293 dL_law_294 dL_law_295 dL_law_296 ?_
  refine lz_arg C hL hW.1.2.2 3 hl (by omega) (by decide) dL_law_297 dL_law_298 dL_law_299 dL_law_300 dL_law_301 ?_
  refine lz_goI (σ' := μ1) (r := r) (lz_sw hW) (sv_runV (C := RX8) C.2.1 hW.2.1 (k_X8_asks hBm e2 H.size) gL_law_X8_asks rfl ⟨rfl, rfl⟩ 3 (by decide +kernel) ⟨Nat.le_of_ble_eq_true rfl, Nat.le_of_ble_eq_true rfl⟩ (sm_i 0 hBm (by decide)) (sm_c0 hBm) rfl rfl hl.1 rfl (Nat.le_of_ble_eq_true rfl) dL_law_302 hfc) (fun H locs hW => ?_)
  refine lv_icmp_eq (tgt := 974) hx hb dL_law_305 (by decide) (fun _ => ?_) (fun q => absurd rfl q)
  refine W.widen (k := cells + 4) (n := slots + 484) (by omega) (by omega) ?_
  exact kk h θ σ1 μ1 tc Fs D1 ls H locs hl (lz_sw hW) hrel1
set_option maxHeartbeats 4000000 in
theorem lz_feed (C : lz_C p s m c b L xs qK qV D T) (hL : L ≤ 3072) (hi : i + 6 ≤ L) (hf : cells + 4 ≤ 600000 ∧ slots + 484 ≤ 7302250) (hrel : zRel θ em_T0 σ μ tc Fs Dd) (hl : lv_has ls 4 [(3, .int (nI i)), (0, .ref b), (1, .ref (h 0)), (2, .ref (hm 0))]) (hW : lz_W D T s h θ σ hm em_T0 μ H locs) (kk : lz_K p l e s m below meth c b i D T hm cells slots Q) : W p l e room_1 s m #[Value.ref b] below meth c H locs cells slots Q (F0 m 310 ls []) := by
  have hx := C.1.1.1
  have hb := C.1.1.2.1
  have hB := hrel.1
  have hBm := hrel.2.1
  have F1 := sx_F1 C.1
  have hfc : cells ≤ 600000 ∧ slots ≤ 7302250 := ⟨by omega, by omega⟩
  obtain ⟨r, σ1, μ1, D1, e1, e2, hrel1⟩ := c_feed hrel (xs (i + 1))
  refine lv_aload_n hx hb dL_law_310 rfl (lv_at hl 2 rfl) ?_
  refine lz_arg C hL hW.1.2.2 1 hl (by omega) (by decide) dL_law_311 dL_law_312 dL_law_313 dL_law_314 dL_law_315 ?_
  refine lz_goI (σ' := σ1) (r := r) hW (sv_runV (C := RX7) F1 hW.1 (k_X7_feed hB e1 H.size) gL_law_X7_feed rfl ⟨rfl, rfl⟩ 1 (by decide +kernel) ⟨Nat.le_of_ble_eq_true rfl, Nat.le_of_ble_eq_true rfl⟩ (sx_i 0 hB (by decide)) (sx_c0 hB) rfl rfl hl.1 rfl (Nat.le_of_ble_eq_true rfl) dL_law_316 hfc) (fun H locs hW => ?_)
  refine lv_aload_n hx hb dL_law_319 rfl (lv_at hl 3 rfl) ?_
  refine lz_arg C hL hW.1.2.2 1 hl (by omega) (by decide) dL_law_320 dL_law_321 dL_law_322 dL_law_323 dL_law_324 ?_
  refine lz_goI (σ' := μ1) (r := r) (lz_sw hW) (sv_runV (C := RX8) C.2.1 hW.2.1 (k_X8_feed hBm e2 H.size) gL_law_X8_feed rfl ⟨rfl, rfl⟩ 1 (by decide +kernel) ⟨Nat.le_of_ble_eq_true rfl, Nat.le_of_ble_eq_true rfl⟩ (sm_i 0 hBm (by decide)) (sm_c0 hBm) rfl rfl hl.1 rfl (Nat.le_of_ble_eq_true rfl) dL_law_325 hfc) (fun H locs hW => ?_)
  refine lv_icmp_eq (tgt := 974) hx hb dL_law_328 (by decide) (fun _ => ?_) (fun q => absurd rfl q)
  refine W.widen (k := cells + 4) (n := slots + 484) (by omega) (by omega) ?_
  exact kk h θ σ1 μ1 tc Fs D1 ls H locs hl (lz_sw hW) hrel1
set_option maxHeartbeats 4000000 in
theorem lz_text (C : lz_C p s m c b L xs qK qV D T) (hL : L ≤ 3072) (hi : i + 6 ≤ L) (hf : cells + 4 ≤ 600000 ∧ slots + 484 ≤ 7302250) (hrel : zRel θ em_T0 σ μ tc Fs Dd) (hl : lv_has ls 4 [(3, .int (nI i)), (0, .ref b), (1, .ref (h 0)), (2, .ref (hm 0))]) (hW : lz_W D T s h θ σ hm em_T0 μ H locs) (kk : lz_K p l e s m below meth c b i D T hm cells slots Q) : W p l e room_1 s m #[Value.ref b] below meth c H locs cells slots Q (F0 m 333 ls []) := by
  have hx := C.1.1.1
  have hb := C.1.1.2.1
  have hB := hrel.1
  have hBm := hrel.2.1
  have F1 := sx_F1 C.1
  have hfc : cells ≤ 600000 ∧ slots ≤ 7302250 := ⟨by omega, by omega⟩
  obtain ⟨t1, t2, t3, t4, t5, t6⟩ := hrel.2.2.1
  refine lv_aload_n hx hb dL_law_333 rfl (lv_at hl 2 rfl) ?_
  refine va_calli (sv_runVG (C := RX7) C.1 hW.1 (k_X7_text hB (by omega) (zRel_shp hrel) (c_text hrel) H.size) gL_law_X7_text rfl ⟨rfl, rfl⟩ 0 (by decide +kernel) ⟨Nat.le_of_ble_eq_true rfl, Nat.le_of_ble_eq_true rfl⟩ (sx_i 0 hB (by decide)) (sx_c0 hB) rfl rfl hl.1 rfl (Nat.le_of_ble_eq_true rfl) dL_law_334 hf) hW.1.2.2 (fun q _ hq => sv_freeA (fun _ h => h) hW.1 q hq) (sv_freeA (fun _ h => h) hW.1) (fun r u t H1 locs1 ht hvm hw hB2 hz1 hk1 hS => ?_)
  obtain ⟨h', θ', σ1⟩ := u
  obtain ⟨⟨μ1, tc1, Fs1, D1, e2, hrel1⟩, hext, hle⟩ := hw
  obtain ⟨hP1, hD1⟩ := hB2
  rw [ht] at hP1
  have hW := lz_grow hW hext hP1 hD1 hk1 hS
  have h0 : h' 0 = h 0 := hext.1 0 (by omega)
  rw [← h0] at hl
  generalize H1 = H at hW ⊢
  generalize locs1 = locs at hW ⊢
  refine lv_aload_n hx hb dL_law_337 rfl (lv_at hl 3 rfl) ?_
  refine lz_goI (σ' := μ1) (r := r) (lz_sw hW) (sv_runV (C := RX8) C.2.1 hW.2.1 (k_X8_text hBm e2 H.size) gL_law_X8_text rfl ⟨rfl, rfl⟩ 0 (by decide +kernel) ⟨Nat.le_of_ble_eq_true rfl, Nat.le_of_ble_eq_true rfl⟩ (sm_i 0 hBm (by decide)) (sm_c0 hBm) rfl rfl hl.1 rfl (Nat.le_of_ble_eq_true rfl) dL_law_338 hf) (fun H locs hW => ?_)
  refine lv_icmp_eq (tgt := 974) hx hb dL_law_341 (by decide) (fun _ => ?_) (fun q => absurd rfl q)
  exact kk h' θ' σ1 μ1 tc1 Fs1 D1 ls H locs hl (lz_sw hW) hrel1
set_option maxHeartbeats 4000000 in
theorem lz_force (C : lz_C p s m c b L xs qK qV D T) (hL : L ≤ 3072) (hi : i + 6 ≤ L) (hf : cells + 4 ≤ 600000 ∧ slots + 484 ≤ 7302250) (hrel : zRel θ em_T0 σ μ tc Fs Dd) (hl : lv_has ls 4 [(3, .int (nI i)), (0, .ref b), (1, .ref (h 0)), (2, .ref (hm 0))]) (hW : lz_W D T s h θ σ hm em_T0 μ H locs) (kk : lz_K p l e s m below meth c b i D T hm cells slots Q) : W p l e room_1 s m #[Value.ref b] below meth c H locs cells slots Q (F0 m 346 ls []) := by
  have hx := C.1.1.1
  have hb := C.1.1.2.1
  have hB := hrel.1
  have hBm := hrel.2.1
  have F1 := sx_F1 C.1
  have hfc : cells ≤ 600000 ∧ slots ≤ 7302250 := ⟨by omega, by omega⟩
  obtain ⟨r, σ1, μ1, D1, e1, e2, hrel1⟩ := c_force hrel (xs (i + 1))
  refine lv_aload_n hx hb dL_law_346 rfl (lv_at hl 2 rfl) ?_
  refine lz_arg C hL hW.1.2.2 1 hl (by omega) (by decide) dL_law_347 dL_law_348 dL_law_349 dL_law_350 dL_law_351 ?_
  refine lz_goI (σ' := σ1) (r := r) hW (sv_runV (C := RX7) F1 hW.1 (k_X7_force hB e1 H.size) gL_law_X7_force rfl ⟨rfl, rfl⟩ 1 (by decide +kernel) ⟨Nat.le_of_ble_eq_true rfl, Nat.le_of_ble_eq_true rfl⟩ (sx_i 0 hB (by decide)) (sx_c0 hB) rfl rfl hl.1 rfl (Nat.le_of_ble_eq_true rfl) dL_law_352 hfc) (fun H locs hW => ?_)
  refine lv_aload_n hx hb dL_law_355 rfl (lv_at hl 3 rfl) ?_
  refine lz_arg C hL hW.1.2.2 1 hl (by omega) (by decide) dL_law_356 dL_law_357 dL_law_358 dL_law_359 dL_law_360 ?_
  refine lz_goI (σ' := μ1) (r := r) (lz_sw hW) (sv_runV (C := RX8) C.2.1 hW.2.1 (k_X8_force hBm e2 H.size) gL_law_X8_force rfl ⟨rfl, rfl⟩ 1 (by decide +kernel) ⟨Nat.le_of_ble_eq_true rfl, Nat.le_of_ble_eq_true rfl⟩ (sm_i 0 hBm (by decide)) (sm_c0 hBm) rfl rfl hl.1 rfl (Nat.le_of_ble_eq_true rfl) dL_law_361 hfc) (fun H locs hW => ?_)
  refine lv_icmp_eq (tgt := 974) hx hb dL_law_364 (by decide) (fun _ => ?_) (fun q => absurd rfl q)
  refine W.widen (k := cells + 4) (n := slots + 484) (by omega) (by omega) ?_
  exact kk h θ σ1 μ1 tc Fs D1 ls H locs hl (lz_sw hW) hrel1
set_option maxHeartbeats 4000000 in
theorem lz_tour (C : lz_C p s m c b L xs qK qV D T) (hL : L ≤ 3072) (hi : i + 6 ≤ L) (hf : cells + 4 ≤ 600000 ∧ slots + 484 ≤ 7302250) (hrel : zRel θ em_T0 σ μ tc Fs Dd) (hl : lv_has ls 4 [(3, .int (nI i)), (0, .ref b), (1, .ref (h 0)), (2, .ref (hm 0))]) (hW : lz_W D T s h θ σ hm em_T0 μ H locs) (kk : lz_K p l e s m below meth c b i D T hm cells slots Q) : W p l e room_1 s m #[Value.ref b] below meth c H locs cells slots Q (F0 m 369 ls []) := by
  have hx := C.1.1.1
  have hb := C.1.1.2.1
  have hB := hrel.1
  have hBm := hrel.2.1
  have F1 := sx_F1 C.1
  have hfc : cells ≤ 600000 ∧ slots ≤ 7302250 := ⟨by omega, by omega⟩
  obtain ⟨r, σ1, μ1, D1, e1, e2, hrel1⟩ := c_tour hrel (xs (i + 1)) (xs (i + 2))
  refine lv_aload_n hx hb dL_law_369 rfl (lv_at hl 2 rfl) ?_
  refine lz_arg C hL hW.1.2.2 1 hl (by omega) (by decide) dL_law_370 dL_law_371 dL_law_372 dL_law_373 dL_law_374 ?_
  refine lz_arg C hL hW.1.2.2 2 hl (by omega) (by decide) dL_law_375 dL_law_376 dL_law_377 dL_law_378 dL_law_379 ?_
  refine lz_goI (σ' := σ1) (r := r) hW (sv_runV (C := RX7) F1 hW.1 (k_X7_tour hB e1 H.size) gL_law_X7_tour rfl ⟨rfl, rfl⟩ 2 (by decide +kernel) ⟨Nat.le_of_ble_eq_true rfl, Nat.le_of_ble_eq_true rfl⟩ (sx_i 0 hB (by decide)) (sx_c0 hB) rfl rfl hl.1 rfl (Nat.le_of_ble_eq_true rfl) dL_law_380 hfc) (fun H locs hW => ?_)
  refine lv_aload_n hx hb dL_law_383 rfl (lv_at hl 3 rfl) ?_
  refine lz_arg C hL hW.1.2.2 1 hl (by omega) (by decide) dL_law_384 dL_law_385 dL_law_386 dL_law_387 dL_law_388 ?_
  refine lz_arg C hL hW.1.2.2 2 hl (by omega) (by decide) dL_law_389 dL_law_390 dL_law_391 dL_law_392 dL_law_393 ?_
  refine lz_goI (σ' := μ1) (r := r) (lz_sw hW) (sv_runV (C := RX8) C.2.1 hW.2.1 (k_X8_tour hBm e2 H.size) gL_law_X8_tour rfl ⟨rfl, rfl⟩ 2 (by decide +kernel) ⟨Nat.le_of_ble_eq_true rfl, Nat.le_of_ble_eq_true rfl⟩ (sm_i 0 hBm (by decide)) (sm_c0 hBm) rfl rfl hl.1 rfl (Nat.le_of_ble_eq_true rfl) dL_law_394 hfc) (fun H locs hW => ?_)
  refine lv_icmp_eq (tgt := 974) hx hb dL_law_397 (by decide) (fun _ => ?_) (fun q => absurd rfl q)
  refine W.widen (k := cells + 4) (n := slots + 484) (by omega) (by omega) ?_
  exact kk h θ σ1 μ1 tc Fs D1 ls H locs hl (lz_sw hW) hrel1
set_option maxHeartbeats 4000000 in
theorem lz_deal (C : lz_C p s m c b L xs qK qV D T) (hL : L ≤ 3072) (hi : i + 6 ≤ L) (hf : cells + 4 ≤ 600000 ∧ slots + 484 ≤ 7302250) (hrel : zRel θ em_T0 σ μ tc Fs Dd) (hl : lv_has ls 4 [(3, .int (nI i)), (0, .ref b), (1, .ref (h 0)), (2, .ref (hm 0))]) (hW : lz_W D T s h θ σ hm em_T0 μ H locs) (kk : lz_K p l e s m below meth c b i D T hm cells slots Q) : W p l e room_1 s m #[Value.ref b] below meth c H locs cells slots Q (F0 m 402 ls []) := by
  have hx := C.1.1.1
  have hb := C.1.1.2.1
  have hB := hrel.1
  have hBm := hrel.2.1
  have F1 := sx_F1 C.1
  have hfc : cells ≤ 600000 ∧ slots ≤ 7302250 := ⟨by omega, by omega⟩
  obtain ⟨r, σ1, μ1, D1, e1, e2, hrel1⟩ := c_deal hrel (xs (i + 1))
  refine lv_aload_n hx hb dL_law_402 rfl (lv_at hl 2 rfl) ?_
  refine lz_arg C hL hW.1.2.2 1 hl (by omega) (by decide) dL_law_403 dL_law_404 dL_law_405 dL_law_406 dL_law_407 ?_
  refine lz_goI (σ' := σ1) (r := r) hW (sv_runV (C := RX7) F1 hW.1 (k_X7_deal hB e1 H.size) gL_law_X7_deal rfl ⟨rfl, rfl⟩ 1 (by decide +kernel) ⟨Nat.le_of_ble_eq_true rfl, Nat.le_of_ble_eq_true rfl⟩ (sx_i 0 hB (by decide)) (sx_c0 hB) rfl rfl hl.1 rfl (Nat.le_of_ble_eq_true rfl) dL_law_408 hfc) (fun H locs hW => ?_)
  refine lv_aload_n hx hb dL_law_411 rfl (lv_at hl 3 rfl) ?_
  refine lz_arg C hL hW.1.2.2 1 hl (by omega) (by decide) dL_law_412 dL_law_413 dL_law_414 dL_law_415 dL_law_416 ?_
  refine lz_goI (σ' := μ1) (r := r) (lz_sw hW) (sv_runV (C := RX8) C.2.1 hW.2.1 (k_X8_deal hBm e2 H.size) gL_law_X8_deal rfl ⟨rfl, rfl⟩ 1 (by decide +kernel) ⟨Nat.le_of_ble_eq_true rfl, Nat.le_of_ble_eq_true rfl⟩ (sm_i 0 hBm (by decide)) (sm_c0 hBm) rfl rfl hl.1 rfl (Nat.le_of_ble_eq_true rfl) dL_law_417 hfc) (fun H locs hW => ?_)
  refine lv_icmp_eq (tgt := 974) hx hb dL_law_420 (by decide) (fun _ => ?_) (fun q => absurd rfl q)
  refine W.widen (k := cells + 4) (n := slots + 484) (by omega) (by omega) ?_
  exact kk h θ σ1 μ1 tc Fs D1 ls H locs hl (lz_sw hW) hrel1
set_option maxHeartbeats 4000000 in
theorem lz_best (C : lz_C p s m c b L xs qK qV D T) (hL : L ≤ 3072) (hi : i + 6 ≤ L) (hf : cells + 4 ≤ 600000 ∧ slots + 484 ≤ 7302250) (hrel : zRel θ em_T0 σ μ tc Fs Dd) (hl : lv_has ls 4 [(3, .int (nI i)), (0, .ref b), (1, .ref (h 0)), (2, .ref (hm 0))]) (hW : lz_W D T s h θ σ hm em_T0 μ H locs) (kk : lz_K p l e s m below meth c b i D T hm cells slots Q) : W p l e room_1 s m #[Value.ref b] below meth c H locs cells slots Q (F0 m 425 ls []) := by
  have hx := C.1.1.1
  have hb := C.1.1.2.1
  have hB := hrel.1
  have hBm := hrel.2.1
  have F1 := sx_F1 C.1
  have hfc : cells ≤ 600000 ∧ slots ≤ 7302250 := ⟨by omega, by omega⟩
  obtain ⟨r, σ1, μ1, D1, e1, e2, hrel1⟩ := c_best hrel (xs (i + 1))
  refine lv_aload_n hx hb dL_law_425 rfl (lv_at hl 2 rfl) ?_
  refine lz_arg C hL hW.1.2.2 1 hl (by omega) (by decide) dL_law_426 dL_law_427 dL_law_428 dL_law_429 dL_law_430 ?_
  refine lz_goI (σ' := σ1) (r := r) hW (sv_runV (C := RX7) F1 hW.1 (k_X7_best hB e1 H.size) gL_law_X7_best rfl ⟨rfl, rfl⟩ 1 (by decide +kernel) ⟨Nat.le_of_ble_eq_true rfl, Nat.le_of_ble_eq_true rfl⟩ (sx_i 0 hB (by decide)) (sx_c0 hB) rfl rfl hl.1 rfl (Nat.le_of_ble_eq_true rfl) dL_law_431 hfc) (fun H locs hW => ?_)
  refine lv_aload_n hx hb dL_law_434 rfl (lv_at hl 3 rfl) ?_
  refine lz_arg C hL hW.1.2.2 1 hl (by omega) (by decide) dL_law_435 dL_law_436 dL_law_437 dL_law_438 dL_law_439 ?_
  refine lz_goI (σ' := μ1) (r := r) (lz_sw hW) (sv_runV (C := RX8) C.2.1 hW.2.1 (k_X8_best hBm e2 H.size) gL_law_X8_best rfl ⟨rfl, rfl⟩ 1 (by decide +kernel) ⟨Nat.le_of_ble_eq_true rfl, Nat.le_of_ble_eq_true rfl⟩ (sm_i 0 hBm (by decide)) (sm_c0 hBm) rfl rfl hl.1 rfl (Nat.le_of_ble_eq_true rfl) dL_law_440 hfc) (fun H locs hW => ?_)
  refine lv_icmp_eq (tgt := 974) hx hb dL_law_443 (by decide) (fun _ => ?_) (fun q => absurd rfl q)
  refine W.widen (k := cells + 4) (n := slots + 484) (by omega) (by omega) ?_
  exact kk h θ σ1 μ1 tc Fs D1 ls H locs hl (lz_sw hW) hrel1
set_option maxHeartbeats 4000000 in
theorem lz_few (C : lz_C p s m c b L xs qK qV D T) (hL : L ≤ 3072) (hi : i + 6 ≤ L) (hf : cells + 4 ≤ 600000 ∧ slots + 484 ≤ 7302250) (hrel : zRel θ em_T0 σ μ tc Fs Dd) (hl : lv_has ls 4 [(3, .int (nI i)), (0, .ref b), (1, .ref (h 0)), (2, .ref (hm 0))]) (hW : lz_W D T s h θ σ hm em_T0 μ H locs) (kk : lz_K p l e s m below meth c b i D T hm cells slots Q) : W p l e room_1 s m #[Value.ref b] below meth c H locs cells slots Q (F0 m 448 ls []) := by
  have hx := C.1.1.1
  have hb := C.1.1.2.1
  have hB := hrel.1
  have hBm := hrel.2.1
  have F1 := sx_F1 C.1
  have hfc : cells ≤ 600000 ∧ slots ≤ 7302250 := ⟨by omega, by omega⟩
  obtain ⟨r, σ1, μ1, D1, e1, e2, hrel1⟩ := c_few hrel (xs (i + 1))
  refine lv_aload_n hx hb dL_law_448 rfl (lv_at hl 2 rfl) ?_
  refine lz_arg C hL hW.1.2.2 1 hl (by omega) (by decide) dL_law_449 dL_law_450 dL_law_451 dL_law_452 dL_law_453 ?_
  refine lz_goI (σ' := σ1) (r := r) hW (sv_runV (C := RX7) F1 hW.1 (k_X7_few hB e1 H.size) gL_law_X7_few rfl ⟨rfl, rfl⟩ 1 (by decide +kernel) ⟨Nat.le_of_ble_eq_true rfl, Nat.le_of_ble_eq_true rfl⟩ (sx_i 0 hB (by decide)) (sx_c0 hB) rfl rfl hl.1 rfl (Nat.le_of_ble_eq_true rfl) dL_law_454 hfc) (fun H locs hW => ?_)
  refine lv_aload_n hx hb dL_law_457 rfl (lv_at hl 3 rfl) ?_
  refine lz_arg C hL hW.1.2.2 1 hl (by omega) (by decide) dL_law_458 dL_law_459 dL_law_460 dL_law_461 dL_law_462 ?_
  refine lz_goI (σ' := μ1) (r := r) (lz_sw hW) (sv_runV (C := RX8) C.2.1 hW.2.1 (k_X8_few hBm e2 H.size) gL_law_X8_few rfl ⟨rfl, rfl⟩ 1 (by decide +kernel) ⟨Nat.le_of_ble_eq_true rfl, Nat.le_of_ble_eq_true rfl⟩ (sm_i 0 hBm (by decide)) (sm_c0 hBm) rfl rfl hl.1 rfl (Nat.le_of_ble_eq_true rfl) dL_law_463 hfc) (fun H locs hW => ?_)
  refine lv_icmp_eq (tgt := 974) hx hb dL_law_466 (by decide) (fun _ => ?_) (fun q => absurd rfl q)
  refine W.widen (k := cells + 4) (n := slots + 484) (by omega) (by omega) ?_
  exact kk h θ σ1 μ1 tc Fs D1 ls H locs hl (lz_sw hW) hrel1
set_option maxHeartbeats 4000000 in
theorem lz_water (C : lz_C p s m c b L xs qK qV D T) (hL : L ≤ 3072) (hi : i + 6 ≤ L) (hf : cells + 4 ≤ 600000 ∧ slots + 484 ≤ 7302250) (hrel : zRel θ em_T0 σ μ tc Fs Dd) (hl : lv_has ls 4 [(3, .int (nI i)), (0, .ref b), (1, .ref (h 0)), (2, .ref (hm 0))]) (hW : lz_W D T s h θ σ hm em_T0 μ H locs) (kk : lz_K p l e s m below meth c b i D T hm cells slots Q) : W p l e room_1 s m #[Value.ref b] below meth c H locs cells slots Q (F0 m 471 ls []) := by
  have hx := C.1.1.1
  have hb := C.1.1.2.1
  have hB := hrel.1
  have hBm := hrel.2.1
  have F1 := sx_F1 C.1
  have hfc : cells ≤ 600000 ∧ slots ≤ 7302250 := ⟨by omega, by omega⟩
  obtain ⟨r, σ1, μ1, D1, e1, e2, hrel1⟩ := c_water hrel (xs (i + 1))
  refine lv_aload_n hx hb dL_law_471 rfl (lv_at hl 2 rfl) ?_
  refine lz_arg C hL hW.1.2.2 1 hl (by omega) (by decide) dL_law_472 dL_law_473 dL_law_474 dL_law_475 dL_law_476 ?_
  refine lz_goI (σ' := σ1) (r := r) hW (sv_runV (C := RX7) F1 hW.1 (k_X7_water hB e1 H.size) gL_law_X7_water rfl ⟨rfl, rfl⟩ 1 (by decide +kernel) ⟨Nat.le_of_ble_eq_true rfl, Nat.le_of_ble_eq_true rfl⟩ (sx_i 0 hB (by decide)) (sx_c0 hB) rfl rfl hl.1 rfl (Nat.le_of_ble_eq_true rfl) dL_law_477 hfc) (fun H locs hW => ?_)
  refine lv_aload_n hx hb dL_law_480 rfl (lv_at hl 3 rfl) ?_
  refine lz_arg C hL hW.1.2.2 1 hl (by omega) (by decide) dL_law_481 dL_law_482 dL_law_483 dL_law_484 dL_law_485 ?_
  refine lz_goI (σ' := μ1) (r := r) (lz_sw hW) (sv_runV (C := RX8) C.2.1 hW.2.1 (k_X8_water hBm e2 H.size) gL_law_X8_water rfl ⟨rfl, rfl⟩ 1 (by decide +kernel) ⟨Nat.le_of_ble_eq_true rfl, Nat.le_of_ble_eq_true rfl⟩ (sm_i 0 hBm (by decide)) (sm_c0 hBm) rfl rfl hl.1 rfl (Nat.le_of_ble_eq_true rfl) dL_law_486 hfc) (fun H locs hW => ?_)
  refine lv_icmp_eq (tgt := 974) hx hb dL_law_489 (by decide) (fun _ => ?_) (fun q => absurd rfl q)
  refine W.widen (k := cells + 4) (n := slots + 484) (by omega) (by omega) ?_
  exact kk h θ σ1 μ1 tc Fs D1 ls H locs hl (lz_sw hW) hrel1
set_option maxHeartbeats 4000000 in
theorem lz_sky (C : lz_C p s m c b L xs qK qV D T) (hL : L ≤ 3072) (hi : i + 6 ≤ L) (hf : cells + 4 ≤ 600000 ∧ slots + 484 ≤ 7302250) (hrel : zRel θ em_T0 σ μ tc Fs Dd) (hl : lv_has ls 4 [(3, .int (nI i)), (0, .ref b), (1, .ref (h 0)), (2, .ref (hm 0))]) (hW : lz_W D T s h θ σ hm em_T0 μ H locs) (kk : lz_K p l e s m below meth c b i D T hm cells slots Q) : W p l e room_1 s m #[Value.ref b] below meth c H locs cells slots Q (F0 m 494 ls []) := by
  have hx := C.1.1.1
  have hb := C.1.1.2.1
  have hB := hrel.1
  have hBm := hrel.2.1
  have F1 := sx_F1 C.1
  have hfc : cells ≤ 600000 ∧ slots ≤ 7302250 := ⟨by omega, by omega⟩
  obtain ⟨r, σ1, μ1, D1, e1, e2, hrel1⟩ := c_sky hrel (xs (i + 1)) (xs (i + 2))
  refine lv_aload_n hx hb dL_law_494 rfl (lv_at hl 2 rfl) ?_
  refine lz_arg C hL hW.1.2.2 1 hl (by omega) (by decide) dL_law_495 dL_law_496 dL_law_497 dL_law_498 dL_law_499 ?_
  refine lz_arg C hL hW.1.2.2 2 hl (by omega) (by decide) dL_law_500 dL_law_501 dL_law_502 dL_law_503 dL_law_504 ?_
  refine lz_goI (σ' := σ1) (r := r) hW (sv_runV (C := RX7) F1 hW.1 (k_X7_sky hB e1 H.size) gL_law_X7_sky rfl ⟨rfl, rfl⟩ 2 (by decide +kernel) ⟨Nat.le_of_ble_eq_true rfl, Nat.le_of_ble_eq_true rfl⟩ (sx_i 0 hB (by decide)) (sx_c0 hB) rfl rfl hl.1 rfl (Nat.le_of_ble_eq_true rfl) dL_law_505 hfc) (fun H locs hW => ?_)
  refine lv_aload_n hx hb dL_law_508 rfl (lv_at hl 3 rfl) ?_
  refine lz_arg C hL hW.1.2.2 1 hl (by omega) (by decide) dL_law_509 dL_law_510 dL_law_511 dL_law_512 dL_law_513 ?_
  refine lz_arg C hL hW.1.2.2 2 hl (by omega) (by decide) dL_law_514 dL_law_515 dL_law_516 dL_law_517 dL_law_518 ?_
  refine lz_goI (σ' := μ1) (r := r) (lz_sw hW) (sv_runV (C := RX8) C.2.1 hW.2.1 (k_X8_sky hBm e2 H.size) gL_law_X8_sky rfl ⟨rfl, rfl⟩ 2 (by decide +kernel) ⟨Nat.le_of_ble_eq_true rfl, Nat.le_of_ble_eq_true rfl⟩ (sm_i 0 hBm (by decide)) (sm_c0 hBm) rfl rfl hl.1 rfl (Nat.le_of_ble_eq_true rfl) dL_law_519 hfc) (fun H locs hW => ?_)
  refine lv_icmp_eq (tgt := 974) hx hb dL_law_522 (by decide) (fun _ => ?_) (fun q => absurd rfl q)
  refine W.widen (k := cells + 4) (n := slots + 484) (by omega) (by omega) ?_
  exact kk h θ σ1 μ1 tc Fs D1 ls H locs hl (lz_sw hW) hrel1
set_option maxHeartbeats 4000000 in
theorem lz_tells (C : lz_C p s m c b L xs qK qV D T) (hL : L ≤ 3072) (hi : i + 6 ≤ L) (hf : cells + 4 ≤ 600000 ∧ slots + 484 ≤ 7302250) (hrel : zRel θ em_T0 σ μ tc Fs Dd) (hl : lv_has ls 4 [(3, .int (nI i)), (0, .ref b), (1, .ref (h 0)), (2, .ref (hm 0))]) (hW : lz_W D T s h θ σ hm em_T0 μ H locs) (kk : lz_K p l e s m below meth c b i D T hm cells slots Q) : W p l e room_1 s m #[Value.ref b] below meth c H locs cells slots Q (F0 m 527 ls []) := by
  have hx := C.1.1.1
  have hb := C.1.1.2.1
  have hB := hrel.1
  have hBm := hrel.2.1
  have F1 := sx_F1 C.1
  have hfc : cells ≤ 600000 ∧ slots ≤ 7302250 := ⟨by omega, by omega⟩
  obtain ⟨r, σ1, μ1, D1, e1, e2, hrel1⟩ := c_tells hrel (xs (i + 1)) (xs (i + 2)) (xs (i + 3))
  refine lv_aload_n hx hb dL_law_527 rfl (lv_at hl 2 rfl) ?_
  refine lz_arg C hL hW.1.2.2 1 hl (by omega) (by decide) dL_law_528 dL_law_529 dL_law_530 dL_law_531 dL_law_532 ?_
  refine lz_arg C hL hW.1.2.2 2 hl (by omega) (by decide) dL_law_533 dL_law_534 dL_law_535 dL_law_536 dL_law_537 ?_
  refine lz_arg C hL hW.1.2.2 3 hl (by omega) (by decide) dL_law_538 dL_law_539 dL_law_540 dL_law_541 dL_law_542 ?_
  refine lz_goI (σ' := σ1) (r := r) hW (sv_runV (C := RX7) F1 hW.1 (k_X7_tells hB e1 H.size) gL_law_X7_tells rfl ⟨rfl, rfl⟩ 3 (by decide +kernel) ⟨Nat.le_of_ble_eq_true rfl, Nat.le_of_ble_eq_true rfl⟩ (sx_i 0 hB (by decide)) (sx_c0 hB) rfl rfl hl.1 rfl (Nat.le_of_ble_eq_true rfl) dL_law_543 hfc) (fun H locs hW => ?_)
  refine lv_aload_n hx hb dL_law_546 rfl (lv_at hl 3 rfl) ?_
  refine lz_arg C hL hW.1.2.2 1 hl (by omega) (by decide) dL_law_547 dL_law_548 dL_law_549 dL_law_550 dL_law_551 ?_
  refine lz_arg C hL hW.1.2.2 2 hl (by omega) (by decide) dL_law_552 dL_law_553 dL_law_554 dL_law_555 dL_law_556 ?_
  refine lz_arg C hL hW.1.2.2 3 hl (by omega) (by decide) dL_law_557 dL_law_558 dL_law_559 dL_law_560 dL_law_561 ?_
  refine lz_goI (σ' := μ1) (r := r) (lz_sw hW) (sv_runV (C := RX8) C.2.1 hW.2.1 (k_X8_tells hBm e2 H.size) gL_law_X8_tells rfl ⟨rfl, rfl⟩ 3 (by decide +kernel) ⟨Nat.le_of_ble_eq_true rfl, Nat.le_of_ble_eq_true rfl⟩ (sm_i 0 hBm (by decide)) (sm_c0 hBm) rfl rfl hl.1 rfl (Nat.le_of_ble_eq_true rfl) dL_law_562 hfc) (fun H locs hW => ?_)
  refine lv_icmp_eq (tgt := 974) hx hb dL_law_565 (by decide) (fun _ => ?_) (fun q => absurd rfl q)
  refine W.widen (k := cells + 4) (n := slots + 484) (by omega) (by omega) ?_
  exact kk h θ σ1 μ1 tc Fs D1 ls H locs hl (lz_sw hW) hrel1
set_option maxHeartbeats 4000000 in
theorem lz_film (C : lz_C p s m c b L xs qK qV D T) (hL : L ≤ 3072) (hi : i + 6 ≤ L) (hf : cells + 4 ≤ 600000 ∧ slots + 484 ≤ 7302250) (hrel : zRel θ em_T0 σ μ tc Fs Dd) (hl : lv_has ls 4 [(3, .int (nI i)), (0, .ref b), (1, .ref (h 0)), (2, .ref (hm 0))]) (hW : lz_W D T s h θ σ hm em_T0 μ H locs) (kk : lz_K p l e s m below meth c b i D T hm cells slots Q) : W p l e room_1 s m #[Value.ref b] below meth c H locs cells slots Q (F0 m 570 ls []) := by
  have hx := C.1.1.1
  have hb := C.1.1.2.1
  have hB := hrel.1
  have hBm := hrel.2.1
  have F1 := sx_F1 C.1
  have hfc : cells ≤ 600000 ∧ slots ≤ 7302250 := ⟨by omega, by omega⟩
  obtain ⟨r, σ1, μ1, D1, e1, e2, hrel1⟩ := c_film hrel (xs (i + 1)) (xs (i + 2)) (xs (i + 3))
  refine lv_aload_n hx hb dL_law_570 rfl (lv_at hl 2 rfl) ?_
  refine lz_arg C hL hW.1.2.2 1 hl (by omega) (by decide) dL_law_571 dL_law_572 dL_law_573 dL_law_574 dL_law_575 ?_
  refine lz_arg C hL hW.1.2.2 2 hl (by omega) (by decide) dL_law_576 dL_law_577 dL_law_578 dL_law_579 dL_law_580 ?_
  refine lz_arg C hL hW.1.2.2 3 hl (by omega) (by decide) dL_law_581 dL_law_582 dL_law_583 dL_law_584 dL_law_585 ?_
  refine lz_goI (σ' := σ1) (r := r) hW (sv_runV (C := RX7) F1 hW.1 (k_X7_film hB e1 H.size) gL_law_X7_film rfl ⟨rfl, rfl⟩ 3 (by decide +kernel) ⟨Nat.le_of_ble_eq_true rfl, Nat.le_of_ble_eq_true rfl⟩ (sx_i 0 hB (by decide)) (sx_c0 hB) rfl rfl hl.1 rfl (Nat.le_of_ble_eq_true rfl) dL_law_586 hfc) (fun H locs hW => ?_)
  refine lv_aload_n hx hb dL_law_589 rfl (lv_at hl 3 rfl) ?_
  refine lz_arg C hL hW.1.2.2 1 hl (by omega) (by decide) dL_law_590 dL_law_591 dL_law_592 dL_law_593 dL_law_594 ?_
  refine lz_arg C hL hW.1.2.2 2 hl (by omega) (by decide) dL_law_595 dL_law_596 dL_law_597 dL_law_598 dL_law_599 ?_
  refine lz_arg C hL hW.1.2.2 3 hl (by omega) (by decide) dL_law_600 dL_law_601 dL_law_602 dL_law_603 dL_law_604 ?_
  refine lz_goI (σ' := μ1) (r := r) (lz_sw hW) (sv_runV (C := RX8) C.2.1 hW.2.1 (k_X8_film hBm e2 H.size) gL_law_X8_film rfl ⟨rfl, rfl⟩ 3 (by decide +kernel) ⟨Nat.le_of_ble_eq_true rfl, Nat.le_of_ble_eq_true rfl⟩ (sm_i 0 hBm (by decide)) (sm_c0 hBm) rfl rfl hl.1 rfl (Nat.le_of_ble_eq_true rfl) dL_law_605 hfc) (fun H locs hW => ?_)
  refine lv_icmp_eq (tgt := 974) hx hb dL_law_608 (by decide) (fun _ => ?_) (fun q => absurd rfl q)
  refine W.widen (k := cells + 4) (n := slots + 484) (by omega) (by omega) ?_
  exact kk h θ σ1 μ1 tc Fs D1 ls H locs hl (lz_sw hW) hrel1
set_option maxHeartbeats 4000000 in
theorem lz_drawn (C : lz_C p s m c b L xs qK qV D T) (hL : L ≤ 3072) (hi : i + 6 ≤ L) (hf : cells + 4 ≤ 600000 ∧ slots + 484 ≤ 7302250) (hrel : zRel θ em_T0 σ μ tc Fs Dd) (hl : lv_has ls 4 [(3, .int (nI i)), (0, .ref b), (1, .ref (h 0)), (2, .ref (hm 0))]) (hW : lz_W D T s h θ σ hm em_T0 μ H locs) (kk : lz_K p l e s m below meth c b i D T hm cells slots Q) : W p l e room_1 s m #[Value.ref b] below meth c H locs cells slots Q (F0 m 613 ls []) := by
  have hx := C.1.1.1
  have hb := C.1.1.2.1
  have hB := hrel.1
  have hBm := hrel.2.1
  have F1 := sx_F1 C.1
  have hfc : cells ≤ 600000 ∧ slots ≤ 7302250 := ⟨by omega, by omega⟩
  obtain ⟨r, σ1, μ1, D1, e1, e2, hrel1⟩ := c_drawn hrel (xs (i + 1))
  refine lv_aload_n hx hb dL_law_613 rfl (lv_at hl 2 rfl) ?_
  refine lz_arg C hL hW.1.2.2 1 hl (by omega) (by decide) dL_law_614 dL_law_615 dL_law_616 dL_law_617 dL_law_618 ?_
  refine lz_goI (σ' := σ1) (r := r) hW (sv_runV (C := RX7) F1 hW.1 (k_X7_drawn hB e1 H.size) gL_law_X7_drawn rfl ⟨rfl, rfl⟩ 1 (by decide +kernel) ⟨Nat.le_of_ble_eq_true rfl, Nat.le_of_ble_eq_true rfl⟩ (sx_i 0 hB (by decide)) (sx_c0 hB) rfl rfl hl.1 rfl (Nat.le_of_ble_eq_true rfl) dL_law_619 hfc) (fun H locs hW => ?_)
  refine lv_aload_n hx hb dL_law_622 rfl (lv_at hl 3 rfl) ?_
  refine lz_arg C hL hW.1.2.2 1 hl (by omega) (by decide) dL_law_623 dL_law_624 dL_law_625 dL_law_626 dL_law_627 ?_
  refine lz_goI (σ' := μ1) (r := r) (lz_sw hW) (sv_runV (C := RX8) C.2.1 hW.2.1 (k_X8_drawn hBm e2 H.size) gL_law_X8_drawn rfl ⟨rfl, rfl⟩ 1 (by decide +kernel) ⟨Nat.le_of_ble_eq_true rfl, Nat.le_of_ble_eq_true rfl⟩ (sm_i 0 hBm (by decide)) (sm_c0 hBm) rfl rfl hl.1 rfl (Nat.le_of_ble_eq_true rfl) dL_law_628 hfc) (fun H locs hW => ?_)
  refine lv_icmp_eq (tgt := 974) hx hb dL_law_631 (by decide) (fun _ => ?_) (fun q => absurd rfl q)
  refine W.widen (k := cells + 4) (n := slots + 484) (by omega) (by omega) ?_
  exact kk h θ σ1 μ1 tc Fs D1 ls H locs hl (lz_sw hW) hrel1
set_option maxHeartbeats 4000000 in
theorem lz_chance (C : lz_C p s m c b L xs qK qV D T) (hL : L ≤ 3072) (hi : i + 6 ≤ L) (hf : cells + 4 ≤ 600000 ∧ slots + 484 ≤ 7302250) (hrel : zRel θ em_T0 σ μ tc Fs Dd) (hl : lv_has ls 4 [(3, .int (nI i)), (0, .ref b), (1, .ref (h 0)), (2, .ref (hm 0))]) (hW : lz_W D T s h θ σ hm em_T0 μ H locs) (kk : lz_K p l e s m below meth c b i D T hm cells slots Q) : W p l e room_1 s m #[Value.ref b] below meth c H locs cells slots Q (F0 m 636 ls []) := by
  have hx := C.1.1.1
  have hb := C.1.1.2.1
  have hB := hrel.1
  have hBm := hrel.2.1
  have F1 := sx_F1 C.1
  have hfc : cells ≤ 600000 ∧ slots ≤ 7302250 := ⟨by omega, by omega⟩
  obtain ⟨r, σ1, μ1, D1, e1, e2, hrel1⟩ := c_chance hrel (xs (i + 1)) (xs (i + 2)) (xs (i + 3)) (xs (i + 4))
  refine lv_aload_n hx hb dL_law_636 rfl (lv_at hl 2 rfl) ?_
  refine lz_arg C hL hW.1.2.2 1 hl (by omega) (by decide) dL_law_637 dL_law_638 dL_law_639 dL_law_640 dL_law_641 ?_
  refine lz_arg C hL hW.1.2.2 2 hl (by omega) (by decide) dL_law_642 dL_law_643 dL_law_644 dL_law_645 dL_law_646 ?_
  refine lz_arg C hL hW.1.2.2 3 hl (by omega) (by decide) dL_law_647 dL_law_648 dL_law_649 dL_law_650 dL_law_651 ?_
  refine lz_arg C hL hW.1.2.2 4 hl (by omega) (by decide) dL_law_652 dL_law_653 dL_law_654 dL_law_655 dL_law_656 ?_
  refine lz_goL (σ' := σ1) (r := r) hW (sv_runV (C := RX7) F1 hW.1 (k_X7_chance hB e1 H.size) gL_law_X7_chance rfl ⟨rfl, rfl⟩ 4 (by decide +kernel) ⟨Nat.le_of_ble_eq_true rfl, Nat.le_of_ble_eq_true rfl⟩ (sx_i 0 hB (by decide)) (sx_c0 hB) rfl rfl hl.1 rfl (Nat.le_of_ble_eq_true rfl) dL_law_657 hfc) (fun H locs hW => ?_)
  refine lv_aload_n hx hb dL_law_660 rfl (lv_at hl 3 rfl) ?_
  refine lz_arg C hL hW.1.2.2 1 hl (by omega) (by decide) dL_law_661 dL_law_662 dL_law_663 dL_law_664 dL_law_665 ?_
  refine lz_arg C hL hW.1.2.2 2 hl (by omega) (by decide) dL_law_666 dL_law_667 dL_law_668 dL_law_669 dL_law_670 ?_
  refine lz_arg C hL hW.1.2.2 3 hl (by omega) (by decide) dL_law_671 dL_law_672 dL_law_673 dL_law_674 dL_law_675 ?_
  refine lz_arg C hL hW.1.2.2 4 hl (by omega) (by decide) dL_law_676 dL_law_677 dL_law_678 dL_law_679 dL_law_680 ?_
  refine lz_goL (σ' := μ1) (r := r) (lz_sw hW) (sv_runV (C := RX8) C.2.1 hW.2.1 (k_X8_chance hBm e2 H.size) gL_law_X8_chance rfl ⟨rfl, rfl⟩ 4 (by decide +kernel) ⟨Nat.le_of_ble_eq_true rfl, Nat.le_of_ble_eq_true rfl⟩ (sm_i 0 hBm (by decide)) (sm_c0 hBm) rfl rfl hl.1 rfl (Nat.le_of_ble_eq_true rfl) dL_law_681 hfc) (fun H locs hW => ?_)
  refine W.lcmp hx hb dL_law_684 ?_
  rw [lz_cmp]
  refine lv_if_eq (tgt := 974) hx hb dL_law_685 (by decide) (fun _ => ?_) (fun q => absurd rfl q)
  refine W.widen (k := cells + 4) (n := slots + 484) (by omega) (by omega) ?_
  exact kk h θ σ1 μ1 tc Fs D1 ls H locs hl (lz_sw hW) hrel1
set_option maxHeartbeats 4000000 in
theorem lz_image (C : lz_C p s m c b L xs qK qV D T) (hL : L ≤ 3072) (hi : i + 6 ≤ L) (hf : cells + 4 ≤ 600000 ∧ slots + 484 ≤ 7302250) (hrel : zRel θ em_T0 σ μ tc Fs Dd) (hl : lv_has ls 4 [(3, .int (nI i)), (0, .ref b), (1, .ref (h 0)), (2, .ref (hm 0))]) (hW : lz_W D T s h θ σ hm em_T0 μ H locs) (kk : lz_K p l e s m below meth c b i D T hm cells slots Q) : W p l e room_1 s m #[Value.ref b] below meth c H locs cells slots Q (F0 m 690 ls []) := by
  have hx := C.1.1.1
  have hb := C.1.1.2.1
  have hB := hrel.1
  have hBm := hrel.2.1
  have F1 := sx_F1 C.1
  have hfc : cells ≤ 600000 ∧ slots ≤ 7302250 := ⟨by omega, by omega⟩
  obtain ⟨r, σ1, μ1, D1, e1, e2, hrel1⟩ := c_image hrel 
  refine lv_aload_n hx hb dL_law_690 rfl (lv_at hl 2 rfl) ?_
  refine lz_goI (σ' := σ1) (r := r) hW (sv_runV (C := RX7) F1 hW.1 (k_X7_image hB e1 H.size) gL_law_X7_image rfl ⟨rfl, rfl⟩ 0 (by decide +kernel) ⟨Nat.le_of_ble_eq_true rfl, Nat.le_of_ble_eq_true rfl⟩ (sx_i 0 hB (by decide)) (sx_c0 hB) rfl rfl hl.1 rfl (Nat.le_of_ble_eq_true rfl) dL_law_691 hfc) (fun H locs hW => ?_)
  refine lv_aload_n hx hb dL_law_694 rfl (lv_at hl 3 rfl) ?_
  refine lz_goI (σ' := μ1) (r := r) (lz_sw hW) (sv_runV (C := RX8) C.2.1 hW.2.1 (k_X8_image hBm e2 H.size) gL_law_X8_image rfl ⟨rfl, rfl⟩ 0 (by decide +kernel) ⟨Nat.le_of_ble_eq_true rfl, Nat.le_of_ble_eq_true rfl⟩ (sm_i 0 hBm (by decide)) (sm_c0 hBm) rfl rfl hl.1 rfl (Nat.le_of_ble_eq_true rfl) dL_law_695 hfc) (fun H locs hW => ?_)
  refine lv_icmp_eq (tgt := 974) hx hb dL_law_698 (by decide) (fun _ => ?_) (fun q => absurd rfl q)
  refine W.widen (k := cells + 4) (n := slots + 484) (by omega) (by omega) ?_
  exact kk h θ σ1 μ1 tc Fs D1 ls H locs hl (lz_sw hW) hrel1
set_option maxHeartbeats 4000000 in
theorem lz_back (C : lz_C p s m c b L xs qK qV D T) (hL : L ≤ 3072) (hi : i + 6 ≤ L) (hf : cells + 4 ≤ 600000 ∧ slots + 484 ≤ 7302250) (hrel : zRel θ em_T0 σ μ tc Fs Dd) (hl : lv_has ls 4 [(3, .int (nI i)), (0, .ref b), (1, .ref (h 0)), (2, .ref (hm 0))]) (hW : lz_W D T s h θ σ hm em_T0 μ H locs) (kk : lz_K p l e s m below meth c b i D T hm cells slots Q) : W p l e room_1 s m #[Value.ref b] below meth c H locs cells slots Q (F0 m 703 ls []) := by
  have hx := C.1.1.1
  have hb := C.1.1.2.1
  have hB := hrel.1
  have hBm := hrel.2.1
  have F1 := sx_F1 C.1
  have hfc : cells ≤ 600000 ∧ slots ≤ 7302250 := ⟨by omega, by omega⟩
  obtain ⟨r, σ1, μ1, D1, e1, e2, hrel1⟩ := c_back hrel 
  refine lv_aload_n hx hb dL_law_703 rfl (lv_at hl 2 rfl) ?_
  refine lz_goI (σ' := σ1) (r := r) hW (sv_runV (C := RX7) F1 hW.1 (k_X7_back hB e1 H.size) gL_law_X7_back rfl ⟨rfl, rfl⟩ 0 (by decide +kernel) ⟨Nat.le_of_ble_eq_true rfl, Nat.le_of_ble_eq_true rfl⟩ (sx_i 0 hB (by decide)) (sx_c0 hB) rfl rfl hl.1 rfl (Nat.le_of_ble_eq_true rfl) dL_law_704 hfc) (fun H locs hW => ?_)
  refine lv_aload_n hx hb dL_law_707 rfl (lv_at hl 3 rfl) ?_
  refine lz_goI (σ' := μ1) (r := r) (lz_sw hW) (sv_runV (C := RX8) C.2.1 hW.2.1 (k_X8_back hBm e2 H.size) gL_law_X8_back rfl ⟨rfl, rfl⟩ 0 (by decide +kernel) ⟨Nat.le_of_ble_eq_true rfl, Nat.le_of_ble_eq_true rfl⟩ (sm_i 0 hBm (by decide)) (sm_c0 hBm) rfl rfl hl.1 rfl (Nat.le_of_ble_eq_true rfl) dL_law_708 hfc) (fun H locs hW => ?_)
  refine lv_icmp_eq (tgt := 974) hx hb dL_law_711 (by decide) (fun _ => ?_) (fun q => absurd rfl q)
  refine W.widen (k := cells + 4) (n := slots + 484) (by omega) (by omega) ?_
  exact kk h θ σ1 μ1 tc Fs D1 ls H locs hl (lz_sw hW) hrel1
set_option maxHeartbeats 4000000 in
theorem lz_count (C : lz_C p s m c b L xs qK qV D T) (hL : L ≤ 3072) (hi : i + 6 ≤ L) (hf : cells + 4 ≤ 600000 ∧ slots + 484 ≤ 7302250) (hrel : zRel θ em_T0 σ μ tc Fs Dd) (hl : lv_has ls 4 [(3, .int (nI i)), (0, .ref b), (1, .ref (h 0)), (2, .ref (hm 0))]) (hW : lz_W D T s h θ σ hm em_T0 μ H locs) (kk : lz_K p l e s m below meth c b i D T hm cells slots Q) : W p l e room_1 s m #[Value.ref b] below meth c H locs cells slots Q (F0 m 716 ls []) := by
  have hx := C.1.1.1
  have hb := C.1.1.2.1
  have hB := hrel.1
  have hBm := hrel.2.1
  have F1 := sx_F1 C.1
  have hfc : cells ≤ 600000 ∧ slots ≤ 7302250 := ⟨by omega, by omega⟩
  obtain ⟨r, σ1, μ1, D1, e1, e2, hrel1⟩ := c_count hrel (xs (i + 1))
  refine lv_aload_n hx hb dL_law_716 rfl (lv_at hl 2 rfl) ?_
  refine lz_arg C hL hW.1.2.2 1 hl (by omega) (by decide) dL_law_717 dL_law_718 dL_law_719 dL_law_720 dL_law_721 ?_
  refine lz_goI (σ' := σ1) (r := r) hW (sv_runV (C := RX7) F1 hW.1 (k_X7_count hB e1 H.size) gL_law_X7_count rfl ⟨rfl, rfl⟩ 1 (by decide +kernel) ⟨Nat.le_of_ble_eq_true rfl, Nat.le_of_ble_eq_true rfl⟩ (sx_i 0 hB (by decide)) (sx_c0 hB) rfl rfl hl.1 rfl (Nat.le_of_ble_eq_true rfl) dL_law_722 hfc) (fun H locs hW => ?_)
  refine lv_aload_n hx hb dL_law_725 rfl (lv_at hl 3 rfl) ?_
  refine lz_arg C hL hW.1.2.2 1 hl (by omega) (by decide) dL_law_726 dL_law_727 dL_law_728 dL_law_729 dL_law_730 ?_
  refine lz_goI (σ' := μ1) (r := r) (lz_sw hW) (sv_runV (C := RX8) C.2.1 hW.2.1 (k_X8_count hBm e2 H.size) gL_law_X8_count rfl ⟨rfl, rfl⟩ 1 (by decide +kernel) ⟨Nat.le_of_ble_eq_true rfl, Nat.le_of_ble_eq_true rfl⟩ (sm_i 0 hBm (by decide)) (sm_c0 hBm) rfl rfl hl.1 rfl (Nat.le_of_ble_eq_true rfl) dL_law_731 hfc) (fun H locs hW => ?_)
  refine lv_icmp_eq (tgt := 974) hx hb dL_law_734 (by decide) (fun _ => ?_) (fun q => absurd rfl q)
  refine W.widen (k := cells + 4) (n := slots + 484) (by omega) (by omega) ?_
  exact kk h θ σ1 μ1 tc Fs D1 ls H locs hl (lz_sw hW) hrel1
set_option maxHeartbeats 4000000 in
theorem lz_sheet (C : lz_C p s m c b L xs qK qV D T) (hL : L ≤ 3072) (hi : i + 6 ≤ L) (hf : cells + 4 ≤ 600000 ∧ slots + 484 ≤ 7302250) (hrel : zRel θ em_T0 σ μ tc Fs Dd) (hl : lv_has ls 4 [(3, .int (nI i)), (0, .ref b), (1, .ref (h 0)), (2, .ref (hm 0))]) (hW : lz_W D T s h θ σ hm em_T0 μ H locs) (kk : lz_K p l e s m below meth c b i D T hm cells slots Q) : W p l e room_1 s m #[Value.ref b] below meth c H locs cells slots Q (F0 m 739 ls []) := by
  have hx := C.1.1.1
  have hb := C.1.1.2.1
  have hB := hrel.1
  have hBm := hrel.2.1
  have F1 := sx_F1 C.1
  have hfc : cells ≤ 600000 ∧ slots ≤ 7302250 := ⟨by omega, by omega⟩
  obtain ⟨r, σ1, μ1, D1, e1, e2, hrel1⟩ := c_sheet hrel (xs (i + 1)) (xs (i + 2)) (xs (i + 3))
  refine lv_aload_n hx hb dL_law_739 rfl (lv_at hl 2 rfl) ?_
  refine lz_arg C hL hW.1.2.2 1 hl (by omega) (by decide) dL_law_740 dL_law_741 dL_law_742 dL_law_743 dL_law_744 ?_
  refine lz_arg C hL hW.1.2.2 2 hl (by omega) (by decide) dL_law_745 dL_law_746 dL_law_747 dL_law_748 dL_law_749 ?_
  refine lz_arg C hL hW.1.2.2 3 hl (by omega) (by decide) dL_law_750 dL_law_751 dL_law_752 dL_law_753 dL_law_754 ?_
  refine lz_goI (σ' := σ1) (r := r) hW (sv_runV (C := RX7) F1 hW.1 (k_X7_sheet hB e1 H.size) gL_law_X7_sheet rfl ⟨rfl, rfl⟩ 3 (by decide +kernel) ⟨Nat.le_of_ble_eq_true rfl, Nat.le_of_ble_eq_true rfl⟩ (sx_i 0 hB (by decide)) (sx_c0 hB) rfl rfl hl.1 rfl (Nat.le_of_ble_eq_true rfl) dL_law_755 hfc) (fun H locs hW => ?_)
  refine lv_aload_n hx hb dL_law_758 rfl (lv_at hl 3 rfl) ?_
  refine lz_arg C hL hW.1.2.2 1 hl (by omega) (by decide) dL_law_759 dL_law_760 dL_law_761 dL_law_762 dL_law_763 ?_
  refine lz_arg C hL hW.1.2.2 2 hl (by omega) (by decide) dL_law_764 dL_law_765 dL_law_766 dL_law_767 dL_law_768 ?_
  refine lz_arg C hL hW.1.2.2 3 hl (by omega) (by decide) dL_law_769 dL_law_770 dL_law_771 dL_law_772 dL_law_773 ?_
  refine lz_goI (σ' := μ1) (r := r) (lz_sw hW) (sv_runV (C := RX8) C.2.1 hW.2.1 (k_X8_sheet hBm e2 H.size) gL_law_X8_sheet rfl ⟨rfl, rfl⟩ 3 (by decide +kernel) ⟨Nat.le_of_ble_eq_true rfl, Nat.le_of_ble_eq_true rfl⟩ (sm_i 0 hBm (by decide)) (sm_c0 hBm) rfl rfl hl.1 rfl (Nat.le_of_ble_eq_true rfl) dL_law_774 hfc) (fun H locs hW => ?_)
  refine lv_icmp_eq (tgt := 974) hx hb dL_law_777 (by decide) (fun _ => ?_) (fun q => absurd rfl q)
  refine W.widen (k := cells + 4) (n := slots + 484) (by omega) (by omega) ?_
  exact kk h θ σ1 μ1 tc Fs D1 ls H locs hl (lz_sw hW) hrel1
set_option maxHeartbeats 4000000 in
theorem lz_cell (C : lz_C p s m c b L xs qK qV D T) (hL : L ≤ 3072) (hi : i + 6 ≤ L) (hf : cells + 4 ≤ 600000 ∧ slots + 484 ≤ 7302250) (hrel : zRel θ em_T0 σ μ tc Fs Dd) (hl : lv_has ls 4 [(3, .int (nI i)), (0, .ref b), (1, .ref (h 0)), (2, .ref (hm 0))]) (hW : lz_W D T s h θ σ hm em_T0 μ H locs) (kk : lz_K p l e s m below meth c b i D T hm cells slots Q) : W p l e room_1 s m #[Value.ref b] below meth c H locs cells slots Q (F0 m 782 ls []) := by
  have hx := C.1.1.1
  have hb := C.1.1.2.1
  have hB := hrel.1
  have hBm := hrel.2.1
  have F1 := sx_F1 C.1
  have hfc : cells ≤ 600000 ∧ slots ≤ 7302250 := ⟨by omega, by omega⟩
  obtain ⟨r, σ1, μ1, D1, e1, e2, hrel1⟩ := c_cell hrel (xs (i + 1)) (xs (i + 2)) (xs (i + 3))
  refine lv_aload_n hx hb dL_law_782 rfl (lv_at hl 2 rfl) ?_
  refine lz_arg C hL hW.1.2.2 1 hl (by omega) (by decide) dL_law_783 dL_law_784 dL_law_785 dL_law_786 dL_law_787 ?_
  refine lz_arg C hL hW.1.2.2 2 hl (by omega) (by decide) dL_law_788 dL_law_789 dL_law_790 dL_law_791 dL_law_792 ?_
  refine lz_arg C hL hW.1.2.2 3 hl (by omega) (by decide) dL_law_793 dL_law_794 dL_law_795 dL_law_796 dL_law_797 ?_
  refine lz_goI (σ' := σ1) (r := r) hW (sv_runV (C := RX7) F1 hW.1 (k_X7_cell hB e1 H.size) gL_law_X7_cell rfl ⟨rfl, rfl⟩ 3 (by decide +kernel) ⟨Nat.le_of_ble_eq_true rfl, Nat.le_of_ble_eq_true rfl⟩ (sx_i 0 hB (by decide)) (sx_c0 hB) rfl rfl hl.1 rfl (Nat.le_of_ble_eq_true rfl) dL_law_798 hfc) (fun H locs hW => ?_)
  refine lv_aload_n hx hb dL_law_801 rfl (lv_at hl 3 rfl) ?_
  refine lz_arg C hL hW.1.2.2 1 hl (by omega) (by decide) dL_law_802 dL_law_803 dL_law_804 dL_law_805 dL_law_806 ?_
  refine lz_arg C hL hW.1.2.2 2 hl (by omega) (by decide) dL_law_807 dL_law_808 dL_law_809 dL_law_810 dL_law_811 ?_
  refine lz_arg C hL hW.1.2.2 3 hl (by omega) (by decide) dL_law_812 dL_law_813 dL_law_814 dL_law_815 dL_law_816 ?_
  refine lz_goI (σ' := μ1) (r := r) (lz_sw hW) (sv_runV (C := RX8) C.2.1 hW.2.1 (k_X8_cell hBm e2 H.size) gL_law_X8_cell rfl ⟨rfl, rfl⟩ 3 (by decide +kernel) ⟨Nat.le_of_ble_eq_true rfl, Nat.le_of_ble_eq_true rfl⟩ (sm_i 0 hBm (by decide)) (sm_c0 hBm) rfl rfl hl.1 rfl (Nat.le_of_ble_eq_true rfl) dL_law_817 hfc) (fun H locs hW => ?_)
  refine lv_icmp_eq (tgt := 974) hx hb dL_law_820 (by decide) (fun _ => ?_) (fun q => absurd rfl q)
  refine W.widen (k := cells + 4) (n := slots + 484) (by omega) (by omega) ?_
  exact kk h θ σ1 μ1 tc Fs D1 ls H locs hl (lz_sw hW) hrel1
set_option maxHeartbeats 4000000 in
theorem lz_copy (C : lz_C p s m c b L xs qK qV D T) (hL : L ≤ 3072) (hi : i + 6 ≤ L) (hf : cells + 4 ≤ 600000 ∧ slots + 484 ≤ 7302250) (hrel : zRel θ em_T0 σ μ tc Fs Dd) (hl : lv_has ls 4 [(3, .int (nI i)), (0, .ref b), (1, .ref (h 0)), (2, .ref (hm 0))]) (hW : lz_W D T s h θ σ hm em_T0 μ H locs) (kk : lz_K p l e s m below meth c b i D T hm cells slots Q) : W p l e room_1 s m #[Value.ref b] below meth c H locs cells slots Q (F0 m 825 ls []) := by
  have hx := C.1.1.1
  have hb := C.1.1.2.1
  have hB := hrel.1
  have hBm := hrel.2.1
  have F1 := sx_F1 C.1
  have hfc : cells ≤ 600000 ∧ slots ≤ 7302250 := ⟨by omega, by omega⟩
  obtain ⟨r, σ1, μ1, D1, e1, e2, hrel1⟩ := c_copy hrel (xs (i + 1)) (xs (i + 2)) (xs (i + 3)) (xs (i + 4)) (xs (i + 5))
  refine lv_aload_n hx hb dL_law_825 rfl (lv_at hl 2 rfl) ?_
  refine lz_arg C hL hW.1.2.2 1 hl (by omega) (by decide) dL_law_826 dL_law_827 dL_law_828 dL_law_829 dL_law_830 ?_
  refine lz_arg C hL hW.1.2.2 2 hl (by omega) (by decide) dL_law_831 dL_law_832 dL_law_833 dL_law_834 dL_law_835 ?_
  refine lz_arg C hL hW.1.2.2 3 hl (by omega) (by decide) dL_law_836 dL_law_837 dL_law_838 dL_law_839 dL_law_840 ?_
  refine lz_arg C hL hW.1.2.2 4 hl (by omega) (by decide) dL_law_841 dL_law_842 dL_law_843 dL_law_844 dL_law_845 ?_
  refine lz_arg C hL hW.1.2.2 5 hl (by omega) (by decide) dL_law_846 dL_law_847 dL_law_848 dL_law_849 dL_law_850 ?_
  refine lz_goI (σ' := σ1) (r := r) hW (sv_runV (C := RX7) F1 hW.1 (k_X7_copy hB e1 H.size) gL_law_X7_copy rfl ⟨rfl, rfl⟩ 5 (by decide +kernel) ⟨Nat.le_of_ble_eq_true rfl, Nat.le_of_ble_eq_true rfl⟩ (sx_i 0 hB (by decide)) (sx_c0 hB) rfl rfl hl.1 rfl (Nat.le_of_ble_eq_true rfl) dL_law_851 hfc) (fun H locs hW => ?_)
  refine lv_aload_n hx hb dL_law_854 rfl (lv_at hl 3 rfl) ?_
  refine lz_arg C hL hW.1.2.2 1 hl (by omega) (by decide) dL_law_855 dL_law_856 dL_law_857 dL_law_858 dL_law_859 ?_
  refine lz_arg C hL hW.1.2.2 2 hl (by omega) (by decide) dL_law_860 dL_law_861 dL_law_862 dL_law_863 dL_law_864 ?_
  refine lz_arg C hL hW.1.2.2 3 hl (by omega) (by decide) dL_law_865 dL_law_866 dL_law_867 dL_law_868 dL_law_869 ?_
  refine lz_arg C hL hW.1.2.2 4 hl (by omega) (by decide) dL_law_870 dL_law_871 dL_law_872 dL_law_873 dL_law_874 ?_
  refine lz_arg C hL hW.1.2.2 5 hl (by omega) (by decide) dL_law_875 dL_law_876 dL_law_877 dL_law_878 dL_law_879 ?_
  refine lz_goI (σ' := μ1) (r := r) (lz_sw hW) (sv_runV (C := RX8) C.2.1 hW.2.1 (k_X8_copy hBm e2 H.size) gL_law_X8_copy rfl ⟨rfl, rfl⟩ 5 (by decide +kernel) ⟨Nat.le_of_ble_eq_true rfl, Nat.le_of_ble_eq_true rfl⟩ (sm_i 0 hBm (by decide)) (sm_c0 hBm) rfl rfl hl.1 rfl (Nat.le_of_ble_eq_true rfl) dL_law_880 hfc) (fun H locs hW => ?_)
  refine lv_icmp_eq (tgt := 974) hx hb dL_law_883 (by decide) (fun _ => ?_) (fun q => absurd rfl q)
  refine W.widen (k := cells + 4) (n := slots + 484) (by omega) (by omega) ?_
  exact kk h θ σ1 μ1 tc Fs D1 ls H locs hl (lz_sw hW) hrel1
set_option maxHeartbeats 4000000 in
theorem lz_bargains (C : lz_C p s m c b L xs qK qV D T) (hL : L ≤ 3072) (hi : i + 6 ≤ L) (hf : cells + 4 ≤ 600000 ∧ slots + 484 ≤ 7302250) (hrel : zRel θ em_T0 σ μ tc Fs Dd) (hl : lv_has ls 4 [(3, .int (nI i)), (0, .ref b), (1, .ref (h 0)), (2, .ref (hm 0))]) (hW : lz_W D T s h θ σ hm em_T0 μ H locs) (kk : lz_K p l e s m below meth c b i D T hm cells slots Q) : W p l e room_1 s m #[Value.ref b] below meth c H locs cells slots Q (F0 m 888 ls []) := by
  have hx := C.1.1.1
  have hb := C.1.1.2.1
  have hB := hrel.1
  have hBm := hrel.2.1
  have F1 := sx_F1 C.1
  have hfc : cells ≤ 600000 ∧ slots ≤ 7302250 := ⟨by omega, by omega⟩
  obtain ⟨r, σ1, μ1, D1, e1, e2, hrel1⟩ := c_bargains hrel (xs (i + 1)) (xs (i + 2)) (xs (i + 3)) (xs (i + 4))
  refine lv_aload_n hx hb dL_law_888 rfl (lv_at hl 2 rfl) ?_
  refine lz_arg C hL hW.1.2.2 1 hl (by omega) (by decide) dL_law_889 dL_law_890 dL_law_891 dL_law_892 dL_law_893 ?_
  refine lz_arg C hL hW.1.2.2 2 hl (by omega) (by decide) dL_law_894 dL_law_895 dL_law_896 dL_law_897 dL_law_898 ?_
  refine lz_arg C hL hW.1.2.2 3 hl (by omega) (by decide) dL_law_899 dL_law_900 dL_law_901 dL_law_902 dL_law_903 ?_
  refine lz_arg C hL hW.1.2.2 4 hl (by omega) (by decide) dL_law_904 dL_law_905 dL_law_906 dL_law_907 dL_law_908 ?_
  refine lz_goI (σ' := σ1) (r := r) hW (sv_runV (C := RX7) F1 hW.1 (k_X7_bargains hB e1 H.size) gL_law_X7_bargains rfl ⟨rfl, rfl⟩ 4 (by decide +kernel) ⟨Nat.le_of_ble_eq_true rfl, Nat.le_of_ble_eq_true rfl⟩ (sx_i 0 hB (by decide)) (sx_c0 hB) rfl rfl hl.1 rfl (Nat.le_of_ble_eq_true rfl) dL_law_909 hfc) (fun H locs hW => ?_)
  refine lv_aload_n hx hb dL_law_912 rfl (lv_at hl 3 rfl) ?_
  refine lz_arg C hL hW.1.2.2 1 hl (by omega) (by decide) dL_law_913 dL_law_914 dL_law_915 dL_law_916 dL_law_917 ?_
  refine lz_arg C hL hW.1.2.2 2 hl (by omega) (by decide) dL_law_918 dL_law_919 dL_law_920 dL_law_921 dL_law_922 ?_
  refine lz_arg C hL hW.1.2.2 3 hl (by omega) (by decide) dL_law_923 dL_law_924 dL_law_925 dL_law_926 dL_law_927 ?_
  refine lz_arg C hL hW.1.2.2 4 hl (by omega) (by decide) dL_law_928 dL_law_929 dL_law_930 dL_law_931 dL_law_932 ?_
  refine lz_goI (σ' := μ1) (r := r) (lz_sw hW) (sv_runV (C := RX8) C.2.1 hW.2.1 (k_X8_bargains hBm e2 H.size) gL_law_X8_bargains rfl ⟨rfl, rfl⟩ 4 (by decide +kernel) ⟨Nat.le_of_ble_eq_true rfl, Nat.le_of_ble_eq_true rfl⟩ (sm_i 0 hBm (by decide)) (sm_c0 hBm) rfl rfl hl.1 rfl (Nat.le_of_ble_eq_true rfl) dL_law_933 hfc) (fun H locs hW => ?_)
  refine lv_icmp_eq (tgt := 974) hx hb dL_law_936 (by decide) (fun _ => ?_) (fun q => absurd rfl q)
  refine W.widen (k := cells + 4) (n := slots + 484) (by omega) (by omega) ?_
  exact kk h θ σ1 μ1 tc Fs D1 ls H locs hl (lz_sw hW) hrel1
set_option maxHeartbeats 4000000 in
theorem lz_taken (C : lz_C p s m c b L xs qK qV D T) (hL : L ≤ 3072) (hi : i + 6 ≤ L) (hf : cells + 4 ≤ 600000 ∧ slots + 484 ≤ 7302250) (hrel : zRel θ em_T0 σ μ tc Fs Dd) (hl : lv_has ls 4 [(3, .int (nI i)), (0, .ref b), (1, .ref (h 0)), (2, .ref (hm 0))]) (hW : lz_W D T s h θ σ hm em_T0 μ H locs) (kk : lz_K p l e s m below meth c b i D T hm cells slots Q) : W p l e room_1 s m #[Value.ref b] below meth c H locs cells slots Q (F0 m 941 ls []) := by
  have hx := C.1.1.1
  have hb := C.1.1.2.1
  have hB := hrel.1
  have hBm := hrel.2.1
  have F1 := sx_F1 C.1
  have hfc : cells ≤ 600000 ∧ slots ≤ 7302250 := ⟨by omega, by omega⟩
  obtain ⟨r, σ1, μ1, D1, e1, e2, hrel1⟩ := c_taken hrel (xs (i + 1)) (xs (i + 2))
  refine lv_aload_n hx hb dL_law_941 rfl (lv_at hl 2 rfl) ?_
  refine lz_arg C hL hW.1.2.2 1 hl (by omega) (by decide) dL_law_942 dL_law_943 dL_law_944 dL_law_945 dL_law_946 ?_
  refine lz_arg C hL hW.1.2.2 2 hl (by omega) (by decide) dL_law_947 dL_law_948 dL_law_949 dL_law_950 dL_law_951 ?_
  refine lz_goI (σ' := σ1) (r := r) hW (sv_runV (C := RX7) F1 hW.1 (k_X7_taken hB e1 H.size) gL_law_X7_taken rfl ⟨rfl, rfl⟩ 2 (by decide +kernel) ⟨Nat.le_of_ble_eq_true rfl, Nat.le_of_ble_eq_true rfl⟩ (sx_i 0 hB (by decide)) (sx_c0 hB) rfl rfl hl.1 rfl (Nat.le_of_ble_eq_true rfl) dL_law_952 hfc) (fun H locs hW => ?_)
  refine lv_aload_n hx hb dL_law_955 rfl (lv_at hl 3 rfl) ?_
  refine lz_arg C hL hW.1.2.2 1 hl (by omega) (by decide) dL_law_956 dL_law_957 dL_law_958 dL_law_959 dL_law_960 ?_
  refine lz_arg C hL hW.1.2.2 2 hl (by omega) (by decide) dL_law_961 dL_law_962 dL_law_963 dL_law_964 dL_law_965 ?_
  refine lz_goI (σ' := μ1) (r := r) (lz_sw hW) (sv_runV (C := RX8) C.2.1 hW.2.1 (k_X8_taken hBm e2 H.size) gL_law_X8_taken rfl ⟨rfl, rfl⟩ 2 (by decide +kernel) ⟨Nat.le_of_ble_eq_true rfl, Nat.le_of_ble_eq_true rfl⟩ (sm_i 0 hBm (by decide)) (sm_c0 hBm) rfl rfl hl.1 rfl (Nat.le_of_ble_eq_true rfl) dL_law_966 hfc) (fun H locs hW => ?_)
  refine lv_icmp_eq (tgt := 974) hx hb dL_law_969 (by decide) (fun _ => ?_) (fun q => absurd rfl q)
  refine W.widen (k := cells + 4) (n := slots + 484) (by omega) (by omega) ?_
  exact kk h θ σ1 μ1 tc Fs D1 ls H locs hl (lz_sw hW) hrel1
end LZC

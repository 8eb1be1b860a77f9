/-! ===== the law: its words ===== -/
def lwPc : List (List Cond) := [tables_1_1, tables_1_2, tables_1_3, tables_1_4, tables_1_5, tables_1_6, k2_sels lw_privs_1, k2_sels lw_privs_2, k2_sels lw_privs_3, k2_sels lw_privs_4, k2_sels lw_privs_5]
theorem lw_sel1 {a b : List (MethodName × Nat)} : k2_sels (a ++ b) = k2_sels a ++ k2_sels b := by unfold k2_sels; exact List.map_append
theorem lwPc_in : ∀ l ∈ lwPc, ∀ w ∈ l, w ∈ lw_tbl := by
  have eS : k2_sels lw_privs = k2_sels lw_privs_1 ++ (k2_sels lw_privs_2 ++ (k2_sels lw_privs_3 ++ (k2_sels lw_privs_4 ++ k2_sels lw_privs_5))) := by
    unfold lw_privs
    rw [lw_sel1, lw_sel1, lw_sel1, lw_sel1]
  have eT : lw_tbl = (k2_sels lw_privs_1 ++ (k2_sels lw_privs_2 ++ (k2_sels lw_privs_3 ++ (k2_sels lw_privs_4 ++ k2_sels lw_privs_5)))) ++ (tables_1_1 ++ (tables_1_2 ++ (tables_1_3 ++ (tables_1_4 ++ (tables_1_5 ++ tables_1_6))))) := by
    unfold lw_tbl tables_1
    rw [eS]
  intro l hl w hw
  rw [eT]
  unfold lwPc at hl
  rcases List.mem_cons.mp hl with rfl | hl
  · exact List.mem_append_right _ (List.mem_append_left _ hw)
  rcases List.mem_cons.mp hl with rfl | hl
  · exact List.mem_append_right _ (List.mem_append_right _ (List.mem_append_left _ hw))
  rcases List.mem_cons.mp hl with rfl | hl
  · exact List.mem_append_right _ (List.mem_append_right _ (List.mem_append_right _ (List.mem_append_left _ hw)))
  rcases List.mem_cons.mp hl with rfl | hl
  · exact List.mem_append_right _ (List.mem_append_right _ (List.mem_append_right _ (List.mem_append_right _ (List.mem_append_left _ hw))))
  rcases List.mem_cons.mp hl with rfl | hl
  · exact List.mem_append_right _ (List.mem_append_right _ (List.mem_append_right _ (List.mem_append_right _ (List.mem_append_right _ (List.mem_append_left _ hw)))))
  rcases List.mem_cons.mp hl with rfl | hl
  · exact List.mem_append_right _ (List.mem_append_right _ (List.mem_append_right _ (List.mem_append_right _ (List.mem_append_right _ (List.mem_append_right _ hw)))))
  rcases List.mem_cons.mp hl with rfl | hl
  · exact List.mem_append_left _ (List.mem_append_left _ hw)
  rcases List.mem_cons.mp hl with rfl | hl
  · exact List.mem_append_left _ (List.mem_append_right _ (List.mem_append_left _ hw))
  rcases List.mem_cons.mp hl with rfl | hl
  · exact List.mem_append_left _ (List.mem_append_right _ (List.mem_append_right _ (List.mem_append_left _ hw)))
  rcases List.mem_cons.mp hl with rfl | hl
  · exact List.mem_append_left _ (List.mem_append_right _ (List.mem_append_right _ (List.mem_append_right _ (List.mem_append_left _ hw))))
  rcases List.mem_cons.mp hl with rfl | hl
  · exact List.mem_append_left _ (List.mem_append_right _ (List.mem_append_right _ (List.mem_append_right _ (List.mem_append_right _ hw))))
  exact absurd hl List.not_mem_nil
def lwAt (k : Nat) : List Cond := (lwPc[k]?).getD []
theorem lwAt_in {k : Nat} : ∀ w ∈ lwAt k, w ∈ lw_tbl := by
  intro w hw
  unfold lwAt at hw
  cases e : lwPc[k]? with
  | none => rw [e] at hw; exact absurd hw List.not_mem_nil
  | some l =>
    rw [e] at hw
    exact lwPc_in l (List.mem_of_getElem? e) w hw
theorem law_sub (ws : List Cond) (ps : List (Nat × Nat)) (hp : ws = ps.filterMap (fun q => (lwAt q.1)[q.2]?)) : ∀ w ∈ ws, w ∈ lw_tbl := by
  intro w hw
  rw [hp] at hw
  obtain ⟨q, -, hq⟩ := List.mem_filterMap.mp hw
  exact lwAt_in w (List.mem_of_getElem? hq)
set_option maxRecDepth 20000 in
theorem law_in_wsL_law_r1 : ∀ w ∈ wsL_law_r1, w ∈ lw_tbl := law_sub _ [(0, 18), (0, 19), (0, 1), (3, 100), (3, 101), (0, 15), (0, 20), (0, 21), (0, 22), (0, 23), (0, 24), (0, 25), (0, 26), (0, 27), (0, 2), (1, 179), (1, 180), (0, 72), (0, 73), (0, 3), (1, 182), (0, 114), (1, 183), (0, 116)] rfl
set_option maxRecDepth 20000 in
theorem law_in_wsL_law_r2 : ∀ w ∈ wsL_law_r2, w ∈ lw_tbl := law_sub _ [(1, 185), (0, 118), (0, 119), (0, 4), (1, 186), (0, 140), (0, 141), (0, 5), (1, 187), (0, 71), (1, 188), (0, 209), (0, 6), (0, 51), (0, 29), (0, 30), (0, 31), (0, 32), (0, 35), (0, 38), (0, 41), (0, 44), (0, 75), (0, 76)] rfl
set_option maxRecDepth 20000 in
theorem law_in_wsL_law_r3 : ∀ w ∈ wsL_law_r3, w ∈ lw_tbl := law_sub _ [(0, 77), (0, 82), (0, 83), (0, 84), (0, 85), (0, 88), (0, 89), (0, 121), (0, 122), (0, 123), (0, 124), (0, 143), (0, 144), (0, 145), (0, 146), (0, 148), (0, 149), (0, 150), (0, 160), (0, 161), (0, 162), (0, 163), (0, 211), (0, 212)] rfl
set_option maxRecDepth 20000 in
theorem law_in_wsL_law_r4 : ∀ w ∈ wsL_law_r4, w ∈ lw_tbl := law_sub _ [(0, 213), (0, 214), (0, 216), (0, 229), (0, 230), (0, 231), (0, 7), (0, 232), (5, 66), (0, 233), (0, 234), (0, 235), (0, 236), (0, 237), (5, 67), (0, 239), (1, 0), (1, 1), (1, 2), (1, 3), (1, 4), (1, 5), (1, 6), (1, 7)] rfl
set_option maxRecDepth 20000 in
theorem law_in_wsL_law_r5 : ∀ w ∈ wsL_law_r5, w ∈ lw_tbl := law_sub _ [(1, 8), (0, 8), (1, 9), (1, 10), (1, 11), (1, 12), (1, 13), (1, 15), (1, 16), (0, 9), (1, 17), (1, 18), (1, 19), (0, 10), (1, 20), (1, 21), (1, 22), (1, 23), (1, 24), (1, 25), (1, 26), (1, 27), (1, 28), (1, 29)] rfl
set_option maxRecDepth 20000 in
theorem law_in_wsL_law_r6 : ∀ w ∈ wsL_law_r6, w ∈ lw_tbl := law_sub _ [(1, 30), (1, 31), (1, 33), (1, 35), (1, 37), (1, 38), (1, 39), (1, 40), (0, 78), (1, 42), (1, 43), (1, 44), (1, 45), (1, 46), (1, 47), (0, 87), (0, 90), (0, 80), (1, 134), (1, 135), (0, 11), (1, 48), (1, 50), (6, 0)] rfl
set_option maxRecDepth 20000 in
theorem law_in_wsL_law_r7 : ∀ w ∈ wsL_law_r7, w ∈ lw_tbl := law_sub _ [(1, 51), (0, 86), (1, 52), (1, 54), (6, 1), (1, 55), (1, 56), (1, 58), (6, 2), (1, 59), (1, 60), (1, 61), (1, 62), (1, 63), (1, 65), (6, 3), (1, 66), (1, 67), (1, 69), (6, 4), (1, 70), (1, 72), (1, 73), (1, 74)] rfl
set_option maxRecDepth 20000 in
theorem law_in_wsL_law_r8 : ∀ w ∈ wsL_law_r8, w ∈ lw_tbl := law_sub _ [(1, 75), (1, 76), (1, 77), (1, 79), (6, 5), (1, 80), (1, 81), (1, 82), (1, 83), (1, 84), (1, 86), (6, 6), (1, 87), (1, 88), (1, 89), (1, 90), (1, 91), (1, 93), (6, 7), (1, 94), (1, 95), (1, 97), (6, 8), (1, 98)] rfl
set_option maxRecDepth 20000 in
theorem law_in_wsL_law_r9 : ∀ w ∈ wsL_law_r9, w ∈ lw_tbl := law_sub _ [(1, 100), (1, 101), (1, 102), (1, 104), (6, 9), (1, 105), (1, 106), (1, 108), (6, 10), (1, 109), (1, 110), (1, 112), (6, 11), (1, 118), (1, 120), (6, 13), (1, 121), (1, 113), (1, 114), (1, 116), (6, 12), (1, 117), (1, 122), (1, 124)] rfl
set_option maxRecDepth 20000 in
theorem law_in_wsL_law_r10 : ∀ w ∈ wsL_law_r10, w ∈ lw_tbl := law_sub _ [(6, 14), (1, 133), (1, 130), (1, 132), (7, 0), (1, 125), (1, 126), (1, 128), (6, 15), (1, 129), (1, 136), (1, 137), (0, 12), (1, 138), (1, 139), (1, 140), (1, 141), (1, 142), (1, 143), (1, 145), (1, 146), (1, 147), (0, 13), (1, 148)] rfl
set_option maxRecDepth 20000 in
theorem law_in_wsL_law_r11 : ∀ w ∈ wsL_law_r11, w ∈ lw_tbl := law_sub _ [(1, 149), (1, 151), (1, 150), (0, 14), (1, 152), (1, 153), (1, 154), (1, 155), (1, 160), (1, 156), (1, 158), (1, 159), (1, 171), (1, 173), (7, 1), (1, 174), (1, 184), (1, 175), (1, 177), (7, 2), (1, 178), (3, 102), (3, 103), (3, 104)] rfl
set_option maxRecDepth 20000 in
theorem law_in_wsL_law_r12 : ∀ w ∈ wsL_law_r12, w ∈ lw_tbl := law_sub _ [(3, 105), (3, 110), (3, 111), (3, 114), (3, 117), (3, 118), (3, 119), (3, 143), (3, 144), (3, 145), (3, 146), (4, 2), (3, 149), (3, 150), (3, 151), (3, 152), (3, 112), (3, 106), (3, 108), (8, 2), (3, 109), (1, 210), (1, 211), (1, 212)] rfl
set_option maxRecDepth 20000 in
theorem law_in_wsL_law_r13 : ∀ w ∈ wsL_law_r13, w ∈ lw_tbl := law_sub _ [(1, 213), (1, 214), (0, 47), (0, 33), (0, 40), (0, 43), (0, 45), (1, 216), (1, 217), (1, 218), (1, 219), (0, 37), (1, 220), (1, 221), (1, 222), (1, 223), (1, 224), (1, 225), (1, 226), (1, 227), (0, 49), (1, 228), (4, 3), (4, 4)] rfl
set_option maxRecDepth 20000 in
theorem law_in_wsL_law_r14 : ∀ w ∈ wsL_law_r14, w ∈ lw_tbl := law_sub _ [(4, 5), (4, 6), (4, 7), (4, 8), (4, 9), (4, 10), (4, 11), (4, 13), (8, 3), (4, 14), (4, 15), (4, 16), (4, 18), (8, 4), (4, 19), (3, 120), (4, 20), (4, 21), (4, 22), (4, 23), (4, 24), (4, 25), (4, 26), (4, 27)] rfl
set_option maxRecDepth 20000 in
theorem law_in_wsL_law_r15 : ∀ w ∈ wsL_law_r15, w ∈ lw_tbl := law_sub _ [(3, 116), (4, 28), (4, 29), (4, 30), (4, 31), (4, 33), (8, 5), (4, 34), (3, 113), (1, 229), (1, 230), (1, 231), (1, 232), (0, 50), (1, 233), (1, 234), (1, 235), (1, 236), (4, 35), (4, 36), (4, 37), (4, 38), (4, 39), (1, 238)] rfl
set_option maxRecDepth 20000 in
theorem law_in_wsL_law_r16 : ∀ w ∈ wsL_law_r16, w ∈ lw_tbl := law_sub _ [(4, 40), (1, 239), (2, 0), (2, 1), (2, 2), (2, 3), (2, 4), (2, 5), (2, 6), (2, 8), (2, 9), (2, 10), (2, 11), (0, 36), (0, 126), (0, 52), (0, 128), (0, 42), (0, 130), (0, 39), (0, 46), (2, 14), (2, 15), (2, 16)] rfl
set_option maxRecDepth 20000 in
theorem law_in_wsL_law_r17 : ∀ w ∈ wsL_law_r17, w ∈ lw_tbl := law_sub _ [(2, 17), (2, 18), (2, 20), (7, 3), (2, 21), (2, 22), (2, 23), (2, 24), (2, 25), (2, 26), (2, 27), (2, 28), (2, 29), (2, 32), (2, 33), (2, 34), (2, 36), (2, 37), (2, 38), (2, 39), (0, 16), (2, 40), (2, 41), (2, 42)] rfl
set_option maxRecDepth 20000 in
theorem law_in_wsL_law_r18 : ∀ w ∈ wsL_law_r18, w ∈ lw_tbl := law_sub _ [(2, 43), (2, 44), (2, 45), (2, 46), (2, 47), (2, 48), (2, 49), (2, 50), (2, 51), (2, 52), (2, 53), (2, 54), (2, 55), (2, 56), (2, 57), (2, 58), (2, 59), (2, 60), (2, 61), (2, 62), (2, 63), (2, 64), (2, 65), (2, 66)] rfl
set_option maxRecDepth 20000 in
theorem law_in_wsL_law_r19 : ∀ w ∈ wsL_law_r19, w ∈ lw_tbl := law_sub _ [(2, 67), (2, 68), (2, 69), (2, 70), (4, 125), (4, 126), (4, 127), (4, 128), (4, 129), (4, 130), (4, 131), (4, 132), (4, 133), (4, 135), (9, 6), (4, 136), (4, 137), (4, 139), (9, 7), (4, 140), (4, 141), (4, 143), (9, 8), (4, 144)] rfl
set_option maxRecDepth 20000 in
theorem law_in_wsL_law_r20 : ∀ w ∈ wsL_law_r20, w ∈ lw_tbl := law_sub _ [(3, 121), (3, 122), (3, 123), (3, 124), (3, 125), (3, 126), (4, 145), (4, 147), (9, 9), (4, 148), (4, 50), (4, 52), (8, 6), (4, 53), (3, 127), (3, 128), (3, 129), (3, 133), (3, 134), (3, 130), (4, 54), (4, 56), (8, 7), (4, 57)] rfl
set_option maxRecDepth 20000 in
theorem law_in_wsL_law_r21 : ∀ w ∈ wsL_law_r21, w ∈ lw_tbl := law_sub _ [(3, 131), (4, 62), (4, 63), (4, 64), (4, 65), (3, 132), (4, 66), (4, 58), (4, 60), (8, 8), (4, 61), (4, 67), (4, 69), (8, 9), (4, 70), (4, 71), (4, 73), (8, 10), (4, 74), (4, 75), (4, 77), (8, 11), (4, 78), (4, 79)] rfl
set_option maxRecDepth 20000 in
theorem law_in_wsL_law_r22 : ∀ w ∈ wsL_law_r22, w ∈ lw_tbl := law_sub _ [(4, 81), (8, 12), (4, 82), (3, 135), (4, 83), (4, 85), (8, 13), (4, 86), (4, 87), (4, 89), (8, 14), (4, 102), (4, 119), (4, 103), (4, 105), (9, 2), (4, 111), (4, 113), (9, 4), (4, 114), (4, 110), (4, 95), (4, 97), (9, 0)] rfl
set_option maxRecDepth 20000 in
theorem law_in_wsL_law_r23 : ∀ w ∈ wsL_law_r23, w ∈ lw_tbl := law_sub _ [(4, 98), (4, 107), (4, 109), (9, 3), (4, 115), (4, 117), (9, 5), (4, 118), (4, 90), (4, 91), (4, 93), (8, 15), (4, 94), (4, 120), (4, 99), (4, 101), (9, 1), (4, 106), (4, 149), (4, 150), (4, 151), (4, 152), (4, 154), (9, 10)] rfl
set_option maxRecDepth 20000 in
theorem law_in_wsL_law_r24 : ∀ w ∈ wsL_law_r24, w ∈ lw_tbl := law_sub _ [(4, 155), (4, 156), (4, 158), (9, 11), (4, 159), (4, 160), (4, 162), (9, 12), (4, 163), (4, 164), (4, 166), (9, 13), (4, 167), (2, 71), (2, 72), (2, 73), (2, 74), (0, 79), (4, 41), (4, 42), (4, 43), (4, 44), (4, 45), (3, 115)] rfl
set_option maxRecDepth 20000 in
theorem law_in_wsL_law_r25 : ∀ w ∈ wsL_law_r25, w ∈ lw_tbl := law_sub _ [(2, 75), (2, 76), (2, 77), (2, 78), (0, 81), (1, 157), (4, 46), (4, 47), (4, 48), (4, 49), (2, 79), (2, 80), (2, 81), (2, 82), (2, 83), (2, 85), (7, 4), (2, 86), (4, 121), (4, 122), (4, 123), (4, 124), (2, 87), (2, 88)] rfl
set_option maxRecDepth 20000 in
theorem law_in_wsL_law_r26 : ∀ w ∈ wsL_law_r26, w ∈ lw_tbl := law_sub _ [(2, 89), (2, 90), (0, 215), (0, 219), (0, 153), (0, 155), (0, 157), (0, 159), (2, 91), (2, 93), (7, 5), (2, 94), (2, 95), (2, 97), (7, 6), (2, 98), (0, 217), (2, 99), (2, 100), (2, 101), (2, 102), (2, 104), (2, 105), (2, 106)] rfl
set_option maxRecDepth 20000 in
theorem law_in_wsL_law_r27 : ∀ w ∈ wsL_law_r27, w ∈ lw_tbl := law_sub _ [(2, 107), (2, 108), (2, 109), (2, 110), (2, 111), (2, 112), (2, 113), (2, 114), (2, 115), (0, 152), (0, 154), (0, 156), (0, 158), (2, 116), (2, 118), (2, 119), (0, 17), (2, 120), (2, 121), (2, 122), (2, 123), (2, 124), (2, 125), (2, 126)] rfl
set_option maxRecDepth 20000 in
theorem law_in_wsL_law_r28 : ∀ w ∈ wsL_law_r28, w ∈ lw_tbl := law_sub _ [(2, 127), (2, 128), (4, 168), (4, 169), (4, 170), (4, 171), (4, 175), (3, 136), (3, 137), (3, 138), (3, 139), (4, 172), (4, 173), (4, 174), (4, 176), (4, 178), (9, 14), (4, 179), (4, 180), (4, 182), (9, 15), (4, 183), (4, 184), (4, 186)] rfl
set_option maxRecDepth 20000 in
theorem law_in_wsL_law_r29 : ∀ w ∈ wsL_law_r29, w ∈ lw_tbl := law_sub _ [(10, 0), (4, 187), (4, 188), (4, 190), (10, 1), (4, 191), (3, 140), (4, 192), (4, 194), (10, 2), (4, 195), (2, 129), (2, 130), (2, 131), (2, 132), (4, 196), (4, 197), (4, 198), (4, 199), (2, 133), (2, 134), (2, 135), (2, 136), (0, 165)] rfl
set_option maxRecDepth 20000 in
theorem law_in_wsL_law_r30 : ∀ w ∈ wsL_law_r30, w ∈ lw_tbl := law_sub _ [(0, 169), (2, 137), (2, 138), (2, 139), (2, 140), (0, 34), (0, 164), (0, 166), (2, 141), (2, 142), (2, 143), (2, 144), (2, 145), (2, 146), (2, 148), (7, 7), (2, 149), (2, 151), (2, 153), (7, 8), (2, 154), (2, 155), (2, 157), (2, 158)] rfl
set_option maxRecDepth 20000 in
theorem law_in_wsL_law_r31 : ∀ w ∈ wsL_law_r31, w ∈ lw_tbl := law_sub _ [(2, 160), (7, 9), (2, 161), (2, 162), (2, 164), (7, 10), (2, 165), (2, 166), (2, 167), (2, 168), (2, 169), (2, 170), (0, 167), (0, 168), (2, 171), (2, 173), (7, 11), (2, 174), (2, 175), (2, 176), (2, 177), (2, 178), (2, 179), (4, 200)] rfl
set_option maxRecDepth 20000 in
theorem law_in_wsL_law_r32 : ∀ w ∈ wsL_law_r32, w ∈ lw_tbl := law_sub _ [(4, 201), (4, 202), (4, 203), (3, 141), (4, 204), (4, 206), (10, 3), (4, 207), (4, 208), (4, 210), (10, 4), (4, 211), (4, 212), (4, 214), (10, 5), (4, 215), (3, 142), (4, 216), (4, 218), (10, 6), (4, 219), (2, 180), (2, 181), (2, 182)] rfl
set_option maxRecDepth 20000 in
theorem law_in_wsL_law_r33 : ∀ w ∈ wsL_law_r33, w ∈ lw_tbl := law_sub _ [(2, 183), (4, 220), (4, 221), (4, 222), (4, 223), (4, 224), (2, 184), (2, 185), (2, 186), (2, 187), (0, 171), (0, 173), (2, 188), (2, 189), (2, 190), (2, 191), (0, 170), (0, 172), (2, 192), (2, 193), (2, 194), (2, 195), (2, 196), (2, 198)] rfl
set_option maxRecDepth 20000 in
theorem law_in_wsL_law_r34 : ∀ w ∈ wsL_law_r34, w ∈ lw_tbl := law_sub _ [(7, 12), (2, 199), (4, 225), (4, 226), (4, 227), (4, 228), (2, 200), (2, 201), (2, 202), (2, 203), (2, 204), (2, 205), (2, 206), (2, 207), (2, 208), (2, 210), (7, 13), (2, 211), (2, 212), (2, 213), (2, 214), (2, 215), (2, 216), (2, 217)] rfl
set_option maxRecDepth 20000 in
theorem law_in_wsL_law_r35 : ∀ w ∈ wsL_law_r35, w ∈ lw_tbl := law_sub _ [(2, 218), (2, 219), (2, 220), (2, 221), (2, 222), (2, 223), (2, 224), (2, 225), (2, 226), (2, 227), (2, 228), (4, 229), (4, 230), (4, 231), (4, 232), (4, 233), (4, 235), (10, 7), (4, 236), (2, 229), (2, 230), (2, 231), (2, 232), (2, 233)] rfl
set_option maxRecDepth 20000 in
theorem law_in_wsL_law_r36 : ∀ w ∈ wsL_law_r36, w ∈ lw_tbl := law_sub _ [(2, 235), (7, 14), (2, 236), (2, 237), (2, 239), (7, 15), (3, 0), (3, 1), (3, 2), (3, 4), (8, 0), (3, 5), (3, 6), (3, 8), (8, 1), (3, 9), (0, 127), (0, 125), (0, 129), (3, 10), (3, 11), (3, 12), (3, 13), (0, 220)] rfl
set_option maxRecDepth 20000 in
theorem law_in_wsL_law_r37 : ∀ w ∈ wsL_law_r37, w ∈ lw_tbl := law_sub _ [(3, 14), (3, 15), (4, 237), (4, 238), (4, 239), (5, 0), (5, 1), (5, 2), (5, 4), (10, 8), (5, 5), (3, 16), (3, 17), (3, 18), (3, 19), (3, 20), (3, 21), (3, 22), (3, 23), (0, 218), (3, 25), (3, 26), (3, 27), (3, 28)] rfl
set_option maxRecDepth 20000 in
theorem law_in_wsL_law_r38 : ∀ w ∈ wsL_law_r38, w ∈ lw_tbl := law_sub _ [(3, 29), (3, 30), (3, 31), (5, 6), (5, 7), (5, 8), (5, 9), (5, 10), (5, 11), (5, 12), (5, 13), (5, 14), (5, 15), (5, 16), (3, 32), (3, 33), (3, 34), (3, 35), (0, 151), (3, 36), (3, 37), (3, 38), (3, 39), (3, 40)] rfl
set_option maxRecDepth 20000 in
theorem law_in_wsL_law_r39 : ∀ w ∈ wsL_law_r39, w ∈ lw_tbl := law_sub _ [(3, 41), (3, 42), (3, 43), (3, 44), (5, 17), (5, 18), (5, 19), (5, 20), (5, 21), (5, 23), (10, 9), (5, 24), (5, 25), (3, 45), (3, 46), (3, 47), (3, 48), (3, 49), (3, 50), (3, 51), (3, 52), (5, 26), (5, 27), (5, 28)] rfl
set_option maxRecDepth 20000 in
theorem law_in_wsL_law_r40 : ∀ w ∈ wsL_law_r40, w ∈ lw_tbl := law_sub _ [(5, 29), (5, 30), (5, 31), (5, 32), (3, 53), (3, 54), (3, 55), (3, 56), (1, 181), (3, 57), (3, 58), (3, 59), (3, 60), (3, 61), (0, 48), (0, 53), (5, 33), (5, 34), (5, 35), (5, 36), (3, 147), (3, 148), (3, 62), (3, 63)] rfl
set_option maxRecDepth 20000 in
theorem law_in_wsL_law_r41 : ∀ w ∈ wsL_law_r41, w ∈ lw_tbl := law_sub _ [(3, 64), (3, 65), (5, 37), (5, 38), (5, 39), (5, 40), (3, 66), (3, 67), (3, 68), (3, 69), (5, 41), (5, 42), (5, 43), (5, 44), (3, 70), (3, 71), (3, 72), (3, 73), (5, 45), (3, 74), (3, 75), (3, 76), (3, 77), (5, 46)] rfl
set_option maxRecDepth 20000 in
theorem law_in_wsL_law_r42 : ∀ w ∈ wsL_law_r42, w ∈ lw_tbl := law_sub _ [(5, 47), (5, 48), (5, 49), (3, 78), (3, 79), (3, 80), (3, 81), (3, 82), (3, 83), (3, 84), (3, 85), (5, 50), (5, 51), (5, 52), (5, 53), (3, 86), (3, 87), (3, 88), (3, 89), (3, 90), (5, 54), (5, 55), (5, 56), (5, 57)] rfl
set_option maxRecDepth 20000 in
theorem law_in_wsL_law_r43 : ∀ w ∈ wsL_law_r43, w ∈ lw_tbl := law_sub _ [(5, 58), (3, 91), (3, 92), (3, 93), (3, 94), (3, 95), (3, 96), (3, 97), (5, 59), (5, 60), (5, 61), (5, 62), (5, 63), (5, 64), (5, 65)] rfl
set_option maxRecDepth 20000 in
theorem law_in_wsX70 : ∀ w ∈ wsX70, w ∈ lw_tbl := law_sub _ [(1, 189), (1, 191), (1, 193), (1, 195), (1, 197), (1, 199), (1, 201), (1, 203), (1, 205), (1, 207)] rfl
set_option maxRecDepth 20000 in
theorem law_in_wsX80 : ∀ w ∈ wsX80, w ∈ lw_tbl := law_sub _ [(3, 153), (3, 155), (3, 157), (3, 159), (3, 161), (3, 163), (3, 165), (3, 167), (3, 169), (3, 171), (3, 173), (3, 175), (3, 177), (3, 179), (3, 181), (3, 183), (3, 185), (3, 187), (3, 189), (3, 191), (3, 193), (3, 195), (3, 197), (3, 199), (3, 201), (3, 203), (3, 205), (3, 207), (3, 209), (3, 211), (3, 213), (3, 215), (3, 217), (3, 219), (3, 221), (3, 223), (3, 225), (3, 227), (3, 229), (3, 231), (3, 233), (3, 235), (3, 237), (3, 239)] rfl
set_option maxRecDepth 20000 in
theorem law_in_wsX20 : ∀ w ∈ wsX20, w ∈ lw_tbl := law_sub _ [(0, 54), (0, 56), (0, 58), (0, 60), (0, 62), (0, 64), (0, 66), (0, 68)] rfl
set_option maxRecDepth 20000 in
theorem law_in_wsX40 : ∀ w ∈ wsX40, w ∈ lw_tbl := law_sub _ [(0, 91), (0, 93), (0, 95), (0, 97), (0, 99), (0, 101), (0, 103), (0, 105), (0, 107), (0, 109), (0, 111)] rfl
set_option maxRecDepth 20000 in
theorem law_in_wsX00 : ∀ w ∈ wsX00, w ∈ lw_tbl := law_sub _ [(0, 131), (0, 133), (0, 135), (0, 137)] rfl
set_option maxRecDepth 20000 in
theorem law_in_wsX30 : ∀ w ∈ wsX30, w ∈ lw_tbl := law_sub _ [(0, 174), (0, 176), (0, 178), (0, 180), (0, 182), (0, 184), (0, 186), (0, 188), (0, 190), (0, 192), (0, 194), (0, 196), (0, 198), (0, 200), (0, 202), (0, 204), (0, 206)] rfl
set_option maxRecDepth 20000 in
theorem law_in_wsX50 : ∀ w ∈ wsX50, w ∈ lw_tbl := law_sub _ [(0, 221), (0, 223), (0, 225)] rfl
set_option maxRecDepth 20000 in
theorem law_in_wsX60 : ∀ w ∈ wsX60, w ∈ lw_tbl := law_sub _ [(1, 161), (1, 163), (1, 165), (1, 167)] rfl

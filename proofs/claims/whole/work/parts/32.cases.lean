set_option maxHeartbeats 4000000 in
set_option maxRecDepth 100000 in
theorem lc_set {p : Program} {l : Launch} {e0 : Env} {s : State} {m : MethodId} {below : List Frame} {meth : Method} {c : Code} {b L : Nat} {xs : Nat → Int32} (C0 : lw_At p s m meth c b L xs) (hL4 : L ≤ 4096) {X : wl_X} {Y : rf_X} (hF : lw_F s X Y) {i : Nat} (hi : i + 8 ≤ L) {d e : Nat → Nat → Int32} {π : Nat → Nat} {H : Heap} {locs : List Loc} {cells slots : Nat} (hcs : cells + 0 ≤ room_1.cells ∧ slots + 0 ≤ room_1.slots) {Q : State → Prop} (hS0 : lw_S s X Y d π e H locs) {ls : Array Slot} (hl : lv_has ls 4 [(0, .ref b), (1, .ref (X.2.1 0)), (2, .ref (Y.2.1 0)), (3, .int (nI i))]) (kk : ∀ (d e : Nat → Nat → Int32) (π : Nat → Nat) (H : Heap) (locs : List Loc), lw_S s X Y d π e H locs → W p l e0 room_1 s m #[Value.ref b] below meth c H locs cells slots Q (F0 m 702 ls [])) : W p l e0 room_1 s m #[Value.ref b] below meth c H locs cells slots Q (F0 m 120 ls []) := by
  obtain ⟨hx, hb, hr, hml, hown, hts, hX0, hbl, hlocks, hgv⟩ := C0
  obtain ⟨hX, hY, hA1, hA2, hXY1, hXY2, hK1, hK2, hN⟩ := hF
  obtain ⟨hP1, hP2, hR, hS⟩ := hS0
  have hbA : ¬ (fun q : Nat => s.heap.size ≤ q) b := Nat.not_le.mpr hbl
  have hR0 := hR
  obtain ⟨n, f, q, ts, a, hL, hB, hPp, hC, hQ, hE, hT⟩ := hR0
  refine lv_aload_n hx hb dL_law_120 rfl (lv_at hl 1 rfl) ?_
  refine lv_aload_n hx hb dL_law_121 rfl (lv_at hl 0 rfl) ?_
  refine lv_iload_n hx hb dL_law_122 rfl (lv_at hl 3 rfl) ?_
  refine lv_iconst (v := 1) hx hb dL_law_123 (by decide) ?_
  refine lv_iadd hx hb dL_law_124 ?_
  refine W.eq (g2 := F0 m 125 ls (.int (nI (i + 1)) :: .ref b :: .ref (X.2.1 0) :: [])) (by rw [show nI i + 1 = nI (i + 1) from nI_add i 1]) ?_
  refine va_sld hx hb hX0 hbl hbA hS (vp_in_nI (show i + 1 < L by omega) (by omega)) dL_law_125 ?_
  refine W.eq (g2 := F0 m 126 ls (.int (xs (i + 1)) :: .ref (X.2.1 0) :: [])) (by rw [nI_clamp (show i + 1 < 2 ^ 31 by omega)]) ?_
  refine lv_aload_n hx hb dL_law_126 rfl (lv_at hl 0 rfl) ?_
  refine lv_iload_n hx hb dL_law_127 rfl (lv_at hl 3 rfl) ?_
  refine lv_iconst (v := 2) hx hb dL_law_128 (by decide) ?_
  refine lv_iadd hx hb dL_law_129 ?_
  refine W.eq (g2 := F0 m 130 ls (.int (nI (i + 2)) :: .ref b :: .int (xs (i + 1)) :: .ref (X.2.1 0) :: [])) (by rw [show nI i + 2 = nI (i + 2) from nI_add i 2]) ?_
  refine va_sld hx hb hX0 hbl hbA hS (vp_in_nI (show i + 2 < L by omega) (by omega)) dL_law_130 ?_
  refine W.eq (g2 := F0 m 131 ls (.int (xs (i + 2)) :: .int (xs (i + 1)) :: .ref (X.2.1 0) :: [])) (by rw [nI_clamp (show i + 2 < 2 ^ 31 by omega)]) ?_
  refine gw_calliF (va_runV (As := [.int (xs (i + 1)), .int (xs (i + 2))]) (rest := []) ⟨hx, hb, hml, hown, hts⟩ (c_WatchList_set X hX d π (xs (i + 1)) (xs (i + 2)) ) ⟨callB_of 2 hts glX3_set rfl rfl rfl (hts _ tG_22) (hts _ tG_81) pdX3_set ⟨Nat.le_of_ble_eq_true rfl, Nat.le_of_ble_eq_true rfl⟩, hts _ tG_82, hts _ tG_83⟩ ⟨wl_blind, gw_recv hK1 hP1 0 (by decide) wl_c0 rfl, wl_at hP1 hK1 hN⟩ rfl rfl hl.1 rfl (lv_room (Nat.le_of_ble_eq_true rfl)) dL_law_131 hcs) hS hA1 (fun r1 u1 t1 locs hw1 hP1 hk hS => ?_)
  replace hP1 : va_P X.1 vwCl (wl_ws X u1.1 u1.2) t1.heap := hP1
  replace hP2 := gw_keep hP2 hk hXY2
  refine lv_aload_n hx hb dL_law_134 rfl (lv_at hl 2 rfl) ?_
  refine lv_aload_n hx hb dL_law_135 rfl (lv_at hl 0 rfl) ?_
  refine lv_iload_n hx hb dL_law_136 rfl (lv_at hl 3 rfl) ?_
  refine lv_iconst (v := 1) hx hb dL_law_137 (by decide) ?_
  refine lv_iadd hx hb dL_law_138 ?_
  refine W.eq (g2 := F0 m 139 ls (.int (nI (i + 1)) :: .ref b :: .ref (Y.2.1 0) :: .int r1 :: [])) (by rw [show nI i + 1 = nI (i + 1) from nI_add i 1]) ?_
  refine va_sld hx hb hX0 hbl hbA hS (vp_in_nI (show i + 1 < L by omega) (by omega)) dL_law_139 ?_
  refine W.eq (g2 := F0 m 140 ls (.int (xs (i + 1)) :: .ref (Y.2.1 0) :: .int r1 :: [])) (by rw [nI_clamp (show i + 1 < 2 ^ 31 by omega)]) ?_
  refine lv_aload_n hx hb dL_law_140 rfl (lv_at hl 0 rfl) ?_
  refine lv_iload_n hx hb dL_law_141 rfl (lv_at hl 3 rfl) ?_
  refine lv_iconst (v := 2) hx hb dL_law_142 (by decide) ?_
  refine lv_iadd hx hb dL_law_143 ?_
  refine W.eq (g2 := F0 m 144 ls (.int (nI (i + 2)) :: .ref b :: .int (xs (i + 1)) :: .ref (Y.2.1 0) :: .int r1 :: [])) (by rw [show nI i + 2 = nI (i + 2) from nI_add i 2]) ?_
  refine va_sld hx hb hX0 hbl hbA hS (vp_in_nI (show i + 2 < L by omega) (by omega)) dL_law_144 ?_
  refine W.eq (g2 := F0 m 145 ls (.int (xs (i + 2)) :: .int (xs (i + 1)) :: .ref (Y.2.1 0) :: .int r1 :: [])) (by rw [nI_clamp (show i + 2 < 2 ^ 31 by omega)]) ?_
  refine gw_calliF (va_runV (As := [.int (xs (i + 1)), .int (xs (i + 2))]) (rest := [.int r1]) ⟨hx, hb, hml, hown, hts⟩ (c_WatchListModel_set Y hY e (fun k => k) (xs (i + 1)) (xs (i + 2)) ) ⟨callB_of 2 hts glX4_set rfl rfl rfl (hts _ tG_26) (hts _ tG_240) pdX4_set ⟨Nat.le_of_ble_eq_true rfl, Nat.le_of_ble_eq_true rfl⟩, hts _ tG_241, hts _ tG_242⟩ ⟨rf_blind, gw_recv hK2 hP2 0 (by decide) rf_c0 rfl, rf_at hP2 hK2 trivial⟩ rfl rfl hl.1 rfl (lv_room (Nat.le_of_ble_eq_true rfl)) dL_law_145 hcs) hS hA2 (fun r2 u2 t2 locs hw2 hP2 hk hS => ?_)
  replace hP1 := gw_keep hP1 hk hXY1
  obtain ⟨er, hR1⟩ := op_set (rl_T hR) hw1 hw2
  refine lv_icmp_eq (tgt := 702) hx hb dL_law_148 (by decide) (fun c_1 => ?_) (fun c_1 => absurd er c_1)
  exact kk u1.1 u2.1 u1.2 _ _ ⟨hP1, lw_rho hP2, hR1, hS⟩
set_option maxHeartbeats 4000000 in
set_option maxRecDepth 100000 in
theorem lc_add {p : Program} {l : Launch} {e0 : Env} {s : State} {m : MethodId} {below : List Frame} {meth : Method} {c : Code} {b L : Nat} {xs : Nat → Int32} (C0 : lw_At p s m meth c b L xs) (hL4 : L ≤ 4096) {X : wl_X} {Y : rf_X} (hF : lw_F s X Y) {i : Nat} (hi : i + 8 ≤ L) {d e : Nat → Nat → Int32} {π : Nat → Nat} {H : Heap} {locs : List Loc} {cells slots : Nat} (hcs : cells + 0 ≤ room_1.cells ∧ slots + 0 ≤ room_1.slots) {Q : State → Prop} (hS0 : lw_S s X Y d π e H locs) {ls : Array Slot} (hl : lv_has ls 4 [(0, .ref b), (1, .ref (X.2.1 0)), (2, .ref (Y.2.1 0)), (3, .int (nI i))]) (kk : ∀ (d e : Nat → Nat → Int32) (π : Nat → Nat) (H : Heap) (locs : List Loc), lw_S s X Y d π e H locs → W p l e0 room_1 s m #[Value.ref b] below meth c H locs cells slots Q (F0 m 702 ls [])) : W p l e0 room_1 s m #[Value.ref b] below meth c H locs cells slots Q (F0 m 153 ls []) := by
  obtain ⟨hx, hb, hr, hml, hown, hts, hX0, hbl, hlocks, hgv⟩ := C0
  obtain ⟨hX, hY, hA1, hA2, hXY1, hXY2, hK1, hK2, hN⟩ := hF
  obtain ⟨hP1, hP2, hR, hS⟩ := hS0
  have hbA : ¬ (fun q : Nat => s.heap.size ≤ q) b := Nat.not_le.mpr hbl
  have hR0 := hR
  obtain ⟨n, f, q, ts, a, hL, hB, hPp, hC, hQ, hE, hT⟩ := hR0
  have hn : d 0 2 = nI n := hL.2.1
  have hn16 : n ≤ 16 := hL.1
  have hπ : ∀ j, j < 16 → π j < 16 := hL.2.2.1
  refine lv_aload_n hx hb dL_law_153 rfl (lv_at hl 1 rfl) ?_
  refine lv_aload_n hx hb dL_law_154 rfl (lv_at hl 0 rfl) ?_
  refine lv_iload_n hx hb dL_law_155 rfl (lv_at hl 3 rfl) ?_
  refine lv_iconst (v := 1) hx hb dL_law_156 (by decide) ?_
  refine lv_iadd hx hb dL_law_157 ?_
  refine W.eq (g2 := F0 m 158 ls (.int (nI (i + 1)) :: .ref b :: .ref (X.2.1 0) :: [])) (by rw [show nI i + 1 = nI (i + 1) from nI_add i 1]) ?_
  refine va_sld hx hb hX0 hbl hbA hS (vp_in_nI (show i + 1 < L by omega) (by omega)) dL_law_158 ?_
  refine W.eq (g2 := F0 m 159 ls (.int (xs (i + 1)) :: .ref (X.2.1 0) :: [])) (by rw [nI_clamp (show i + 1 < 2 ^ 31 by omega)]) ?_
  refine lv_aload_n hx hb dL_law_159 rfl (lv_at hl 0 rfl) ?_
  refine lv_iload_n hx hb dL_law_160 rfl (lv_at hl 3 rfl) ?_
  refine lv_iconst (v := 2) hx hb dL_law_161 (by decide) ?_
  refine lv_iadd hx hb dL_law_162 ?_
  refine W.eq (g2 := F0 m 163 ls (.int (nI (i + 2)) :: .ref b :: .int (xs (i + 1)) :: .ref (X.2.1 0) :: [])) (by rw [show nI i + 2 = nI (i + 2) from nI_add i 2]) ?_
  refine va_sld hx hb hX0 hbl hbA hS (vp_in_nI (show i + 2 < L by omega) (by omega)) dL_law_163 ?_
  refine W.eq (g2 := F0 m 164 ls (.int (xs (i + 2)) :: .int (xs (i + 1)) :: .ref (X.2.1 0) :: [])) (by rw [nI_clamp (show i + 2 < 2 ^ 31 by omega)]) ?_
  refine lv_aload_n hx hb dL_law_164 rfl (lv_at hl 0 rfl) ?_
  refine lv_iload_n hx hb dL_law_165 rfl (lv_at hl 3 rfl) ?_
  refine lv_iconst (v := 3) hx hb dL_law_166 (by decide) ?_
  refine lv_iadd hx hb dL_law_167 ?_
  refine W.eq (g2 := F0 m 168 ls (.int (nI (i + 3)) :: .ref b :: .int (xs (i + 2)) :: .int (xs (i + 1)) :: .ref (X.2.1 0) :: [])) (by rw [show nI i + 3 = nI (i + 3) from nI_add i 3]) ?_
  refine va_sld hx hb hX0 hbl hbA hS (vp_in_nI (show i + 3 < L by omega) (by omega)) dL_law_168 ?_
  refine W.eq (g2 := F0 m 169 ls (.int (xs (i + 3)) :: .int (xs (i + 2)) :: .int (xs (i + 1)) :: .ref (X.2.1 0) :: [])) (by rw [nI_clamp (show i + 3 < 2 ^ 31 by omega)]) ?_
  refine lv_aload_n hx hb dL_law_169 rfl (lv_at hl 0 rfl) ?_
  refine lv_iload_n hx hb dL_law_170 rfl (lv_at hl 3 rfl) ?_
  refine lv_iconst (v := 4) hx hb dL_law_171 (by decide) ?_
  refine lv_iadd hx hb dL_law_172 ?_
  refine W.eq (g2 := F0 m 173 ls (.int (nI (i + 4)) :: .ref b :: .int (xs (i + 3)) :: .int (xs (i + 2)) :: .int (xs (i + 1)) :: .ref (X.2.1 0) :: [])) (by rw [show nI i + 4 = nI (i + 4) from nI_add i 4]) ?_
  refine va_sld hx hb hX0 hbl hbA hS (vp_in_nI (show i + 4 < L by omega) (by omega)) dL_law_173 ?_
  refine W.eq (g2 := F0 m 174 ls (.int (xs (i + 4)) :: .int (xs (i + 3)) :: .int (xs (i + 2)) :: .int (xs (i + 1)) :: .ref (X.2.1 0) :: [])) (by rw [nI_clamp (show i + 4 < 2 ^ 31 by omega)]) ?_
  refine lv_aload_n hx hb dL_law_174 rfl (lv_at hl 0 rfl) ?_
  refine lv_iload_n hx hb dL_law_175 rfl (lv_at hl 3 rfl) ?_
  refine lv_iconst (v := 5) hx hb dL_law_176 (by decide) ?_
  refine lv_iadd hx hb dL_law_177 ?_
  refine W.eq (g2 := F0 m 178 ls (.int (nI (i + 5)) :: .ref b :: .int (xs (i + 4)) :: .int (xs (i + 3)) :: .int (xs (i + 2)) :: .int (xs (i + 1)) :: .ref (X.2.1 0) :: [])) (by rw [show nI i + 5 = nI (i + 5) from nI_add i 5]) ?_
  refine va_sld hx hb hX0 hbl hbA hS (vp_in_nI (show i + 5 < L by omega) (by omega)) dL_law_178 ?_
  refine W.eq (g2 := F0 m 179 ls (.int (xs (i + 5)) :: .int (xs (i + 4)) :: .int (xs (i + 3)) :: .int (xs (i + 2)) :: .int (xs (i + 1)) :: .ref (X.2.1 0) :: [])) (by rw [nI_clamp (show i + 5 < 2 ^ 31 by omega)]) ?_
  refine lv_aload_n hx hb dL_law_179 rfl (lv_at hl 0 rfl) ?_
  refine lv_iload_n hx hb dL_law_180 rfl (lv_at hl 3 rfl) ?_
  refine lv_bipush (v := 6) hx hb dL_law_181 (by decide) ?_
  refine lv_iadd hx hb dL_law_183 ?_
  refine W.eq (g2 := F0 m 184 ls (.int (nI (i + 6)) :: .ref b :: .int (xs (i + 5)) :: .int (xs (i + 4)) :: .int (xs (i + 3)) :: .int (xs (i + 2)) :: .int (xs (i + 1)) :: .ref (X.2.1 0) :: [])) (by rw [show nI i + 6 = nI (i + 6) from nI_add i 6]) ?_
  refine va_sld hx hb hX0 hbl hbA hS (vp_in_nI (show i + 6 < L by omega) (by omega)) dL_law_184 ?_
  refine W.eq (g2 := F0 m 185 ls (.int (xs (i + 6)) :: .int (xs (i + 5)) :: .int (xs (i + 4)) :: .int (xs (i + 3)) :: .int (xs (i + 2)) :: .int (xs (i + 1)) :: .ref (X.2.1 0) :: [])) (by rw [nI_clamp (show i + 6 < 2 ^ 31 by omega)]) ?_
  refine lv_aload_n hx hb dL_law_185 rfl (lv_at hl 0 rfl) ?_
  refine lv_iload_n hx hb dL_law_186 rfl (lv_at hl 3 rfl) ?_
  refine lv_bipush (v := 7) hx hb dL_law_187 (by decide) ?_
  refine lv_iadd hx hb dL_law_189 ?_
  refine W.eq (g2 := F0 m 190 ls (.int (nI (i + 7)) :: .ref b :: .int (xs (i + 6)) :: .int (xs (i + 5)) :: .int (xs (i + 4)) :: .int (xs (i + 3)) :: .int (xs (i + 2)) :: .int (xs (i + 1)) :: .ref (X.2.1 0) :: [])) (by rw [show nI i + 7 = nI (i + 7) from nI_add i 7]) ?_
  refine va_sld hx hb hX0 hbl hbA hS (vp_in_nI (show i + 7 < L by omega) (by omega)) dL_law_190 ?_
  refine W.eq (g2 := F0 m 191 ls (.int (xs (i + 7)) :: .int (xs (i + 6)) :: .int (xs (i + 5)) :: .int (xs (i + 4)) :: .int (xs (i + 3)) :: .int (xs (i + 2)) :: .int (xs (i + 1)) :: .ref (X.2.1 0) :: [])) (by rw [nI_clamp (show i + 7 < 2 ^ 31 by omega)]) ?_
  refine lv_if_eq (tgt := 198) hx hb dL_law_191 (by decide) (fun c_1 => ?_) (fun c_1 => ?_)
  · have hzc := c_1
    refine lv_iconst (v := 0) hx hb dL_law_198 (by decide) ?_
    refine gw_calliF (va_runV (As := [.int (xs (i + 1)), .int (xs (i + 2)), .int (xs (i + 3)), .int (xs (i + 4)), .int (xs (i + 5)), .int (xs (i + 6)), .int 0]) (rest := []) ⟨hx, hb, hml, hown, hts⟩ (c_WatchList_add X hX d π (xs (i + 1)) (xs (i + 2)) (xs (i + 3)) (xs (i + 4)) (xs (i + 5)) (xs (i + 6)) 0 (Or.inl rfl) n hn hn16 hπ) ⟨callB_of 7 hts glX3_add rfl rfl rfl (hts _ tG_22) (hts _ tG_88) pdX3_add ⟨Nat.le_of_ble_eq_true rfl, Nat.le_of_ble_eq_true rfl⟩, hts _ tG_89, hts _ tG_90⟩ ⟨wl_blind, gw_recv hK1 hP1 0 (by decide) wl_c0 rfl, wl_at hP1 hK1 hN⟩ rfl rfl hl.1 rfl (lv_room (Nat.le_of_ble_eq_true rfl)) dL_law_199 hcs) hS hA1 (fun r1 u1 t1 locs hw1 hP1 hk hS => ?_)
    replace hP1 : va_P X.1 vwCl (wl_ws X u1.1 u1.2) t1.heap := hP1
    replace hP2 := gw_keep hP2 hk hXY2
    refine lv_aload_n hx hb dL_law_202 rfl (lv_at hl 2 rfl) ?_
    refine lv_aload_n hx hb dL_law_203 rfl (lv_at hl 0 rfl) ?_
    refine lv_iload_n hx hb dL_law_204 rfl (lv_at hl 3 rfl) ?_
    refine lv_iconst (v := 1) hx hb dL_law_205 (by decide) ?_
    refine lv_iadd hx hb dL_law_206 ?_
    refine W.eq (g2 := F0 m 207 ls (.int (nI (i + 1)) :: .ref b :: .ref (Y.2.1 0) :: .int r1 :: [])) (by rw [show nI i + 1 = nI (i + 1) from nI_add i 1]) ?_
    refine va_sld hx hb hX0 hbl hbA hS (vp_in_nI (show i + 1 < L by omega) (by omega)) dL_law_207 ?_
    refine W.eq (g2 := F0 m 208 ls (.int (xs (i + 1)) :: .ref (Y.2.1 0) :: .int r1 :: [])) (by rw [nI_clamp (show i + 1 < 2 ^ 31 by omega)]) ?_
    refine lv_aload_n hx hb dL_law_208 rfl (lv_at hl 0 rfl) ?_
    refine lv_iload_n hx hb dL_law_209 rfl (lv_at hl 3 rfl) ?_
    refine lv_iconst (v := 2) hx hb dL_law_210 (by decide) ?_
    refine lv_iadd hx hb dL_law_211 ?_
    refine W.eq (g2 := F0 m 212 ls (.int (nI (i + 2)) :: .ref b :: .int (xs (i + 1)) :: .ref (Y.2.1 0) :: .int r1 :: [])) (by rw [show nI i + 2 = nI (i + 2) from nI_add i 2]) ?_
    refine va_sld hx hb hX0 hbl hbA hS (vp_in_nI (show i + 2 < L by omega) (by omega)) dL_law_212 ?_
    refine W.eq (g2 := F0 m 213 ls (.int (xs (i + 2)) :: .int (xs (i + 1)) :: .ref (Y.2.1 0) :: .int r1 :: [])) (by rw [nI_clamp (show i + 2 < 2 ^ 31 by omega)]) ?_
    refine lv_aload_n hx hb dL_law_213 rfl (lv_at hl 0 rfl) ?_
    refine lv_iload_n hx hb dL_law_214 rfl (lv_at hl 3 rfl) ?_
    refine lv_iconst (v := 3) hx hb dL_law_215 (by decide) ?_
    refine lv_iadd hx hb dL_law_216 ?_
    refine W.eq (g2 := F0 m 217 ls (.int (nI (i + 3)) :: .ref b :: .int (xs (i + 2)) :: .int (xs (i + 1)) :: .ref (Y.2.1 0) :: .int r1 :: [])) (by rw [show nI i + 3 = nI (i + 3) from nI_add i 3]) ?_
    refine va_sld hx hb hX0 hbl hbA hS (vp_in_nI (show i + 3 < L by omega) (by omega)) dL_law_217 ?_
    refine W.eq (g2 := F0 m 218 ls (.int (xs (i + 3)) :: .int (xs (i + 2)) :: .int (xs (i + 1)) :: .ref (Y.2.1 0) :: .int r1 :: [])) (by rw [nI_clamp (show i + 3 < 2 ^ 31 by omega)]) ?_
    refine lv_aload_n hx hb dL_law_218 rfl (lv_at hl 0 rfl) ?_
    refine lv_iload_n hx hb dL_law_219 rfl (lv_at hl 3 rfl) ?_
    refine lv_iconst (v := 4) hx hb dL_law_220 (by decide) ?_
    refine lv_iadd hx hb dL_law_221 ?_
    refine W.eq (g2 := F0 m 222 ls (.int (nI (i + 4)) :: .ref b :: .int (xs (i + 3)) :: .int (xs (i + 2)) :: .int (xs (i + 1)) :: .ref (Y.2.1 0) :: .int r1 :: [])) (by rw [show nI i + 4 = nI (i + 4) from nI_add i 4]) ?_
    refine va_sld hx hb hX0 hbl hbA hS (vp_in_nI (show i + 4 < L by omega) (by omega)) dL_law_222 ?_
    refine W.eq (g2 := F0 m 223 ls (.int (xs (i + 4)) :: .int (xs (i + 3)) :: .int (xs (i + 2)) :: .int (xs (i + 1)) :: .ref (Y.2.1 0) :: .int r1 :: [])) (by rw [nI_clamp (show i + 4 < 2 ^ 31 by omega)]) ?_
    refine lv_aload_n hx hb dL_law_223 rfl (lv_at hl 0 rfl) ?_
    refine lv_iload_n hx hb dL_law_224 rfl (lv_at hl 3 rfl) ?_
    refine lv_iconst (v := 5) hx hb dL_law_225 (by decide) ?_
    refine lv_iadd hx hb dL_law_226 ?_
    refine W.eq (g2 := F0 m 227 ls (.int (nI (i + 5)) :: .ref b :: .int (xs (i + 4)) :: .int (xs (i + 3)) :: .int (xs (i + 2)) :: .int (xs (i + 1)) :: .ref (Y.2.1 0) :: .int r1 :: [])) (by rw [show nI i + 5 = nI (i + 5) from nI_add i 5]) ?_
    refine va_sld hx hb hX0 hbl hbA hS (vp_in_nI (show i + 5 < L by omega) (by omega)) dL_law_227 ?_
    refine W.eq (g2 := F0 m 228 ls (.int (xs (i + 5)) :: .int (xs (i + 4)) :: .int (xs (i + 3)) :: .int (xs (i + 2)) :: .int (xs (i + 1)) :: .ref (Y.2.1 0) :: .int r1 :: [])) (by rw [nI_clamp (show i + 5 < 2 ^ 31 by omega)]) ?_
    refine lv_aload_n hx hb dL_law_228 rfl (lv_at hl 0 rfl) ?_
    refine lv_iload_n hx hb dL_law_229 rfl (lv_at hl 3 rfl) ?_
    refine lv_bipush (v := 6) hx hb dL_law_230 (by decide) ?_
    refine lv_iadd hx hb dL_law_232 ?_
    refine W.eq (g2 := F0 m 233 ls (.int (nI (i + 6)) :: .ref b :: .int (xs (i + 5)) :: .int (xs (i + 4)) :: .int (xs (i + 3)) :: .int (xs (i + 2)) :: .int (xs (i + 1)) :: .ref (Y.2.1 0) :: .int r1 :: [])) (by rw [show nI i + 6 = nI (i + 6) from nI_add i 6]) ?_
    refine va_sld hx hb hX0 hbl hbA hS (vp_in_nI (show i + 6 < L by omega) (by omega)) dL_law_233 ?_
    refine W.eq (g2 := F0 m 234 ls (.int (xs (i + 6)) :: .int (xs (i + 5)) :: .int (xs (i + 4)) :: .int (xs (i + 3)) :: .int (xs (i + 2)) :: .int (xs (i + 1)) :: .ref (Y.2.1 0) :: .int r1 :: [])) (by rw [nI_clamp (show i + 6 < 2 ^ 31 by omega)]) ?_
    refine lv_aload_n hx hb dL_law_234 rfl (lv_at hl 0 rfl) ?_
    refine lv_iload_n hx hb dL_law_235 rfl (lv_at hl 3 rfl) ?_
    refine lv_bipush (v := 7) hx hb dL_law_236 (by decide) ?_
    refine lv_iadd hx hb dL_law_238 ?_
    refine W.eq (g2 := F0 m 239 ls (.int (nI (i + 7)) :: .ref b :: .int (xs (i + 6)) :: .int (xs (i + 5)) :: .int (xs (i + 4)) :: .int (xs (i + 3)) :: .int (xs (i + 2)) :: .int (xs (i + 1)) :: .ref (Y.2.1 0) :: .int r1 :: [])) (by rw [show nI i + 7 = nI (i + 7) from nI_add i 7]) ?_
    refine va_sld hx hb hX0 hbl hbA hS (vp_in_nI (show i + 7 < L by omega) (by omega)) dL_law_239 ?_
    refine W.eq (g2 := F0 m 240 ls (.int (xs (i + 7)) :: .int (xs (i + 6)) :: .int (xs (i + 5)) :: .int (xs (i + 4)) :: .int (xs (i + 3)) :: .int (xs (i + 2)) :: .int (xs (i + 1)) :: .ref (Y.2.1 0) :: .int r1 :: [])) (by rw [nI_clamp (show i + 7 < 2 ^ 31 by omega)]) ?_
    refine lv_if_eq (tgt := 247) hx hb dL_law_240 (by decide) (fun c_2 => ?_) (fun c_2 => ?_)
    · refine lv_iconst (v := 0) hx hb dL_law_247 (by decide) ?_
      refine gw_calliF (va_runV (As := [.int (xs (i + 1)), .int (xs (i + 2)), .int (xs (i + 3)), .int (xs (i + 4)), .int (xs (i + 5)), .int (xs (i + 6)), .int 0]) (rest := [.int r1]) ⟨hx, hb, hml, hown, hts⟩ (c_WatchListModel_add Y hY e (fun k => k) (xs (i + 1)) (xs (i + 2)) (xs (i + 3)) (xs (i + 4)) (xs (i + 5)) (xs (i + 6)) 0 (Or.inl rfl)) ⟨callB_of 7 hts glX4_add rfl rfl rfl (hts _ tG_26) (hts _ tG_244) pdX4_add ⟨Nat.le_of_ble_eq_true rfl, Nat.le_of_ble_eq_true rfl⟩, hts _ tG_245, hts _ tG_246⟩ ⟨rf_blind, gw_recv hK2 hP2 0 (by decide) rf_c0 rfl, rf_at hP2 hK2 trivial⟩ rfl rfl hl.1 rfl (lv_room (Nat.le_of_ble_eq_true rfl)) dL_law_248 hcs) hS hA2 (fun r2 u2 t2 locs hw2 hP2 hk hS => ?_)
      replace hP1 := gw_keep hP1 hk hXY1
      obtain ⟨er, hR1⟩ := op_add (Or.inl rfl) (rl_T hR) hn hn16 hw1 hw2
      refine lv_icmp_eq (tgt := 702) hx hb dL_law_251 (by decide) (fun c_3 => ?_) (fun c_3 => absurd er c_3)
      exact kk u1.1 u2.1 u1.2 _ _ ⟨hP1, lw_rho hP2, hR1, hS⟩
    · exact absurd hzc c_2
  · have hzc := c_1
    refine lv_iconst (v := 1) hx hb dL_law_194 (by decide) ?_
    refine lv_goto (tgt := 199) hx hb dL_law_195 (by decide) ?_
    refine gw_calliF (va_runV (As := [.int (xs (i + 1)), .int (xs (i + 2)), .int (xs (i + 3)), .int (xs (i + 4)), .int (xs (i + 5)), .int (xs (i + 6)), .int 1]) (rest := []) ⟨hx, hb, hml, hown, hts⟩ (c_WatchList_add X hX d π (xs (i + 1)) (xs (i + 2)) (xs (i + 3)) (xs (i + 4)) (xs (i + 5)) (xs (i + 6)) 1 (Or.inr rfl) n hn hn16 hπ) ⟨callB_of 7 hts glX3_add rfl rfl rfl (hts _ tG_22) (hts _ tG_88) pdX3_add ⟨Nat.le_of_ble_eq_true rfl, Nat.le_of_ble_eq_true rfl⟩, hts _ tG_89, hts _ tG_90⟩ ⟨wl_blind, gw_recv hK1 hP1 0 (by decide) wl_c0 rfl, wl_at hP1 hK1 hN⟩ rfl rfl hl.1 rfl (lv_room (Nat.le_of_ble_eq_true rfl)) dL_law_199 hcs) hS hA1 (fun r1 u1 t1 locs hw1 hP1 hk hS => ?_)
    replace hP1 : va_P X.1 vwCl (wl_ws X u1.1 u1.2) t1.heap := hP1
    replace hP2 := gw_keep hP2 hk hXY2
    refine lv_aload_n hx hb dL_law_202 rfl (lv_at hl 2 rfl) ?_
    refine lv_aload_n hx hb dL_law_203 rfl (lv_at hl 0 rfl) ?_
    refine lv_iload_n hx hb dL_law_204 rfl (lv_at hl 3 rfl) ?_
    refine lv_iconst (v := 1) hx hb dL_law_205 (by decide) ?_
    refine lv_iadd hx hb dL_law_206 ?_
    refine W.eq (g2 := F0 m 207 ls (.int (nI (i + 1)) :: .ref b :: .ref (Y.2.1 0) :: .int r1 :: [])) (by rw [show nI i + 1 = nI (i + 1) from nI_add i 1]) ?_
    refine va_sld hx hb hX0 hbl hbA hS (vp_in_nI (show i + 1 < L by omega) (by omega)) dL_law_207 ?_
    refine W.eq (g2 := F0 m 208 ls (.int (xs (i + 1)) :: .ref (Y.2.1 0) :: .int r1 :: [])) (by rw [nI_clamp (show i + 1 < 2 ^ 31 by omega)]) ?_
    refine lv_aload_n hx hb dL_law_208 rfl (lv_at hl 0 rfl) ?_
    refine lv_iload_n hx hb dL_law_209 rfl (lv_at hl 3 rfl) ?_
    refine lv_iconst (v := 2) hx hb dL_law_210 (by decide) ?_
    refine lv_iadd hx hb dL_law_211 ?_
    refine W.eq (g2 := F0 m 212 ls (.int (nI (i + 2)) :: .ref b :: .int (xs (i + 1)) :: .ref (Y.2.1 0) :: .int r1 :: [])) (by rw [show nI i + 2 = nI (i + 2) from nI_add i 2]) ?_
    refine va_sld hx hb hX0 hbl hbA hS (vp_in_nI (show i + 2 < L by omega) (by omega)) dL_law_212 ?_
    refine W.eq (g2 := F0 m 213 ls (.int (xs (i + 2)) :: .int (xs (i + 1)) :: .ref (Y.2.1 0) :: .int r1 :: [])) (by rw [nI_clamp (show i + 2 < 2 ^ 31 by omega)]) ?_
    refine lv_aload_n hx hb dL_law_213 rfl (lv_at hl 0 rfl) ?_
    refine lv_iload_n hx hb dL_law_214 rfl (lv_at hl 3 rfl) ?_
    refine lv_iconst (v := 3) hx hb dL_law_215 (by decide) ?_
    refine lv_iadd hx hb dL_law_216 ?_
    refine W.eq (g2 := F0 m 217 ls (.int (nI (i + 3)) :: .ref b :: .int (xs (i + 2)) :: .int (xs (i + 1)) :: .ref (Y.2.1 0) :: .int r1 :: [])) (by rw [show nI i + 3 = nI (i + 3) from nI_add i 3]) ?_
    refine va_sld hx hb hX0 hbl hbA hS (vp_in_nI (show i + 3 < L by omega) (by omega)) dL_law_217 ?_
    refine W.eq (g2 := F0 m 218 ls (.int (xs (i + 3)) :: .int (xs (i + 2)) :: .int (xs (i + 1)) :: .ref (Y.2.1 0) :: .int r1 :: [])) (by rw [nI_clamp (show i + 3 < 2 ^ 31 by omega)]) ?_
    refine lv_aload_n hx hb dL_law_218 rfl (lv_at hl 0 rfl) ?_
    refine lv_iload_n hx hb dL_law_219 rfl (lv_at hl 3 rfl) ?_
    refine lv_iconst (v := 4) hx hb dL_law_220 (by decide) ?_
    refine lv_iadd hx hb dL_law_221 ?_
    refine W.eq (g2 := F0 m 222 ls (.int (nI (i + 4)) :: .ref b :: .int (xs (i + 3)) :: .int (xs (i + 2)) :: .int (xs (i + 1)) :: .ref (Y.2.1 0) :: .int r1 :: [])) (by rw [show nI i + 4 = nI (i + 4) from nI_add i 4]) ?_
    refine va_sld hx hb hX0 hbl hbA hS (vp_in_nI (show i + 4 < L by omega) (by omega)) dL_law_222 ?_
    refine W.eq (g2 := F0 m 223 ls (.int (xs (i + 4)) :: .int (xs (i + 3)) :: .int (xs (i + 2)) :: .int (xs (i + 1)) :: .ref (Y.2.1 0) :: .int r1 :: [])) (by rw [nI_clamp (show i + 4 < 2 ^ 31 by omega)]) ?_
    refine lv_aload_n hx hb dL_law_223 rfl (lv_at hl 0 rfl) ?_
    refine lv_iload_n hx hb dL_law_224 rfl (lv_at hl 3 rfl) ?_
    refine lv_iconst (v := 5) hx hb dL_law_225 (by decide) ?_
    refine lv_iadd hx hb dL_law_226 ?_
    refine W.eq (g2 := F0 m 227 ls (.int (nI (i + 5)) :: .ref b :: .int (xs (i + 4)) :: .int (xs (i + 3)) :: .int (xs (i + 2)) :: .int (xs (i + 1)) :: .ref (Y.2.1 0) :: .int r1 :: [])) (by rw [show nI i + 5 = nI (i + 5) from nI_add i 5]) ?_
    refine va_sld hx hb hX0 hbl hbA hS (vp_in_nI (show i + 5 < L by omega) (by omega)) dL_law_227 ?_
    refine W.eq (g2 := F0 m 228 ls (.int (xs (i + 5)) :: .int (xs (i + 4)) :: .int (xs (i + 3)) :: .int (xs (i + 2)) :: .int (xs (i + 1)) :: .ref (Y.2.1 0) :: .int r1 :: [])) (by rw [nI_clamp (show i + 5 < 2 ^ 31 by omega)]) ?_
    refine lv_aload_n hx hb dL_law_228 rfl (lv_at hl 0 rfl) ?_
    refine lv_iload_n hx hb dL_law_229 rfl (lv_at hl 3 rfl) ?_
    refine lv_bipush (v := 6) hx hb dL_law_230 (by decide) ?_
    refine lv_iadd hx hb dL_law_232 ?_
    refine W.eq (g2 := F0 m 233 ls (.int (nI (i + 6)) :: .ref b :: .int (xs (i + 5)) :: .int (xs (i + 4)) :: .int (xs (i + 3)) :: .int (xs (i + 2)) :: .int (xs (i + 1)) :: .ref (Y.2.1 0) :: .int r1 :: [])) (by rw [show nI i + 6 = nI (i + 6) from nI_add i 6]) ?_
    refine va_sld hx hb hX0 hbl hbA hS (vp_in_nI (show i + 6 < L by omega) (by omega)) dL_law_233 ?_
    refine W.eq (g2 := F0 m 234 ls (.int (xs (i + 6)) :: .int (xs (i + 5)) :: .int (xs (i + 4)) :: .int (xs (i + 3)) :: .int (xs (i + 2)) :: .int (xs (i + 1)) :: .ref (Y.2.1 0) :: .int r1 :: [])) (by rw [nI_clamp (show i + 6 < 2 ^ 31 by omega)]) ?_
    refine lv_aload_n hx hb dL_law_234 rfl (lv_at hl 0 rfl) ?_
    refine lv_iload_n hx hb dL_law_235 rfl (lv_at hl 3 rfl) ?_
    refine lv_bipush (v := 7) hx hb dL_law_236 (by decide) ?_
    refine lv_iadd hx hb dL_law_238 ?_
    refine W.eq (g2 := F0 m 239 ls (.int (nI (i + 7)) :: .ref b :: .int (xs (i + 6)) :: .int (xs (i + 5)) :: .int (xs (i + 4)) :: .int (xs (i + 3)) :: .int (xs (i + 2)) :: .int (xs (i + 1)) :: .ref (Y.2.1 0) :: .int r1 :: [])) (by rw [show nI i + 7 = nI (i + 7) from nI_add i 7]) ?_
    refine va_sld hx hb hX0 hbl hbA hS (vp_in_nI (show i + 7 < L by omega) (by omega)) dL_law_239 ?_
    refine W.eq (g2 := F0 m 240 ls (.int (xs (i + 7)) :: .int (xs (i + 6)) :: .int (xs (i + 5)) :: .int (xs (i + 4)) :: .int (xs (i + 3)) :: .int (xs (i + 2)) :: .int (xs (i + 1)) :: .ref (Y.2.1 0) :: .int r1 :: [])) (by rw [nI_clamp (show i + 7 < 2 ^ 31 by omega)]) ?_
    refine lv_if_eq (tgt := 247) hx hb dL_law_240 (by decide) (fun c_4 => ?_) (fun c_4 => ?_)
    · exact absurd c_4 hzc
    · refine lv_iconst (v := 1) hx hb dL_law_243 (by decide) ?_
      refine lv_goto (tgt := 248) hx hb dL_law_244 (by decide) ?_
      refine gw_calliF (va_runV (As := [.int (xs (i + 1)), .int (xs (i + 2)), .int (xs (i + 3)), .int (xs (i + 4)), .int (xs (i + 5)), .int (xs (i + 6)), .int 1]) (rest := [.int r1]) ⟨hx, hb, hml, hown, hts⟩ (c_WatchListModel_add Y hY e (fun k => k) (xs (i + 1)) (xs (i + 2)) (xs (i + 3)) (xs (i + 4)) (xs (i + 5)) (xs (i + 6)) 1 (Or.inr rfl)) ⟨callB_of 7 hts glX4_add rfl rfl rfl (hts _ tG_26) (hts _ tG_244) pdX4_add ⟨Nat.le_of_ble_eq_true rfl, Nat.le_of_ble_eq_true rfl⟩, hts _ tG_245, hts _ tG_246⟩ ⟨rf_blind, gw_recv hK2 hP2 0 (by decide) rf_c0 rfl, rf_at hP2 hK2 trivial⟩ rfl rfl hl.1 rfl (lv_room (Nat.le_of_ble_eq_true rfl)) dL_law_248 hcs) hS hA2 (fun r2 u2 t2 locs hw2 hP2 hk hS => ?_)
      replace hP1 := gw_keep hP1 hk hXY1
      obtain ⟨er, hR1⟩ := op_add (Or.inr rfl) (rl_T hR) hn hn16 hw1 hw2
      refine lv_icmp_eq (tgt := 702) hx hb dL_law_251 (by decide) (fun c_5 => ?_) (fun c_5 => absurd er c_5)
      exact kk u1.1 u2.1 u1.2 _ _ ⟨hP1, lw_rho hP2, hR1, hS⟩
set_option maxHeartbeats 4000000 in
set_option maxRecDepth 100000 in
theorem lc_remove {p : Program} {l : Launch} {e0 : Env} {s : State} {m : MethodId} {below : List Frame} {meth : Method} {c : Code} {b L : Nat} {xs : Nat → Int32} (C0 : lw_At p s m meth c b L xs) (hL4 : L ≤ 4096) {X : wl_X} {Y : rf_X} (hF : lw_F s X Y) {i : Nat} (hi : i + 8 ≤ L) {d e : Nat → Nat → Int32} {π : Nat → Nat} {H : Heap} {locs : List Loc} {cells slots : Nat} (hcs : cells + 0 ≤ room_1.cells ∧ slots + 0 ≤ room_1.slots) {Q : State → Prop} (hS0 : lw_S s X Y d π e H locs) {ls : Array Slot} (hl : lv_has ls 4 [(0, .ref b), (1, .ref (X.2.1 0)), (2, .ref (Y.2.1 0)), (3, .int (nI i))]) (kk : ∀ (d e : Nat → Nat → Int32) (π : Nat → Nat) (H : Heap) (locs : List Loc), lw_S s X Y d π e H locs → W p l e0 room_1 s m #[Value.ref b] below meth c H locs cells slots Q (F0 m 702 ls [])) : W p l e0 room_1 s m #[Value.ref b] below meth c H locs cells slots Q (F0 m 256 ls []) := by
  obtain ⟨hx, hb, hr, hml, hown, hts, hX0, hbl, hlocks, hgv⟩ := C0
  obtain ⟨hX, hY, hA1, hA2, hXY1, hXY2, hK1, hK2, hN⟩ := hF
  obtain ⟨hP1, hP2, hR, hS⟩ := hS0
  have hbA : ¬ (fun q : Nat => s.heap.size ≤ q) b := Nat.not_le.mpr hbl
  have hR0 := hR
  obtain ⟨n, f, q, ts, a, hL, hB, hPp, hC, hQ, hE, hT⟩ := hR0
  have hn : d 0 2 = nI n := hL.2.1
  have hn16 : n ≤ 16 := hL.1
  have hπ : ∀ j, j < 16 → π j < 16 := hL.2.2.1
  have hb3 : ∀ j, j < 256 → rf_T e 3 j = 0 ∨ rf_T e 3 j = 1 := fun j hj => by rw [rf_T_k (by decide)]; exact hB.2.1 3 j (by omega) (by omega) hj
  refine lv_aload_n hx hb dL_law_256 rfl (lv_at hl 1 rfl) ?_
  refine lv_aload_n hx hb dL_law_257 rfl (lv_at hl 0 rfl) ?_
  refine lv_iload_n hx hb dL_law_258 rfl (lv_at hl 3 rfl) ?_
  refine lv_iconst (v := 1) hx hb dL_law_259 (by decide) ?_
  refine lv_iadd hx hb dL_law_260 ?_
  refine W.eq (g2 := F0 m 261 ls (.int (nI (i + 1)) :: .ref b :: .ref (X.2.1 0) :: [])) (by rw [show nI i + 1 = nI (i + 1) from nI_add i 1]) ?_
  refine va_sld hx hb hX0 hbl hbA hS (vp_in_nI (show i + 1 < L by omega) (by omega)) dL_law_261 ?_
  refine W.eq (g2 := F0 m 262 ls (.int (xs (i + 1)) :: .ref (X.2.1 0) :: [])) (by rw [nI_clamp (show i + 1 < 2 ^ 31 by omega)]) ?_
  refine gw_calliF (va_runV (As := [.int (xs (i + 1))]) (rest := []) ⟨hx, hb, hml, hown, hts⟩ (c_WatchList_remove X hX d π (xs (i + 1)) n hn hn16 hπ) ⟨callB_of 1 hts glX3_remove rfl rfl rfl (hts _ tG_22) (hts _ tG_109) pdX3_remove ⟨Nat.le_of_ble_eq_true rfl, Nat.le_of_ble_eq_true rfl⟩, hts _ tG_110, hts _ tG_111⟩ ⟨wl_blind, gw_recv hK1 hP1 0 (by decide) wl_c0 rfl, wl_at hP1 hK1 hN⟩ rfl rfl hl.1 rfl (lv_room (Nat.le_of_ble_eq_true rfl)) dL_law_262 hcs) hS hA1 (fun r1 u1 t1 locs hw1 hP1 hk hS => ?_)
  replace hP1 : va_P X.1 vwCl (wl_ws X u1.1 u1.2) t1.heap := hP1
  replace hP2 := gw_keep hP2 hk hXY2
  refine lv_aload_n hx hb dL_law_265 rfl (lv_at hl 2 rfl) ?_
  refine lv_aload_n hx hb dL_law_266 rfl (lv_at hl 0 rfl) ?_
  refine lv_iload_n hx hb dL_law_267 rfl (lv_at hl 3 rfl) ?_
  refine lv_iconst (v := 1) hx hb dL_law_268 (by decide) ?_
  refine lv_iadd hx hb dL_law_269 ?_
  refine W.eq (g2 := F0 m 270 ls (.int (nI (i + 1)) :: .ref b :: .ref (Y.2.1 0) :: .int r1 :: [])) (by rw [show nI i + 1 = nI (i + 1) from nI_add i 1]) ?_
  refine va_sld hx hb hX0 hbl hbA hS (vp_in_nI (show i + 1 < L by omega) (by omega)) dL_law_270 ?_
  refine W.eq (g2 := F0 m 271 ls (.int (xs (i + 1)) :: .ref (Y.2.1 0) :: .int r1 :: [])) (by rw [nI_clamp (show i + 1 < 2 ^ 31 by omega)]) ?_
  refine gw_calliF (va_runV (As := [.int (xs (i + 1))]) (rest := [.int r1]) ⟨hx, hb, hml, hown, hts⟩ (c_WatchListModel_remove Y hY e (fun k => k) (xs (i + 1)) hb3) ⟨callB_of 1 hts glX4_remove rfl rfl rfl (hts _ tG_26) (hts _ tG_254) pdX4_remove ⟨Nat.le_of_ble_eq_true rfl, Nat.le_of_ble_eq_true rfl⟩, hts _ tG_255, hts _ tG_256⟩ ⟨rf_blind, gw_recv hK2 hP2 0 (by decide) rf_c0 rfl, rf_at hP2 hK2 trivial⟩ rfl rfl hl.1 rfl (lv_room (Nat.le_of_ble_eq_true rfl)) dL_law_271 hcs) hS hA2 (fun r2 u2 t2 locs hw2 hP2 hk hS => ?_)
  replace hP1 := gw_keep hP1 hk hXY1
  obtain ⟨er, hR1⟩ := op_remove (rl_T hR) hn hn16 hw1 hw2
  refine lv_icmp_eq (tgt := 702) hx hb dL_law_274 (by decide) (fun c_1 => ?_) (fun c_1 => absurd er c_1)
  exact kk u1.1 u2.1 u1.2 _ _ ⟨hP1, lw_rho hP2, hR1, hS⟩
set_option maxHeartbeats 4000000 in
set_option maxRecDepth 100000 in
theorem lc_enable {p : Program} {l : Launch} {e0 : Env} {s : State} {m : MethodId} {below : List Frame} {meth : Method} {c : Code} {b L : Nat} {xs : Nat → Int32} (C0 : lw_At p s m meth c b L xs) (hL4 : L ≤ 4096) {X : wl_X} {Y : rf_X} (hF : lw_F s X Y) {i : Nat} (hi : i + 8 ≤ L) {d e : Nat → Nat → Int32} {π : Nat → Nat} {H : Heap} {locs : List Loc} {cells slots : Nat} (hcs : cells + 0 ≤ room_1.cells ∧ slots + 0 ≤ room_1.slots) {Q : State → Prop} (hS0 : lw_S s X Y d π e H locs) {ls : Array Slot} (hl : lv_has ls 4 [(0, .ref b), (1, .ref (X.2.1 0)), (2, .ref (Y.2.1 0)), (3, .int (nI i))]) (kk : ∀ (d e : Nat → Nat → Int32) (π : Nat → Nat) (H : Heap) (locs : List Loc), lw_S s X Y d π e H locs → W p l e0 room_1 s m #[Value.ref b] below meth c H locs cells slots Q (F0 m 702 ls [])) : W p l e0 room_1 s m #[Value.ref b] below meth c H locs cells slots Q (F0 m 279 ls []) := by
  obtain ⟨hx, hb, hr, hml, hown, hts, hX0, hbl, hlocks, hgv⟩ := C0
  obtain ⟨hX, hY, hA1, hA2, hXY1, hXY2, hK1, hK2, hN⟩ := hF
  obtain ⟨hP1, hP2, hR, hS⟩ := hS0
  have hbA : ¬ (fun q : Nat => s.heap.size ≤ q) b := Nat.not_le.mpr hbl
  have hR0 := hR
  obtain ⟨n, f, q, ts, a, hL, hB, hPp, hC, hQ, hE, hT⟩ := hR0
  have hn : d 0 2 = nI n := hL.2.1
  have hn16 : n ≤ 16 := hL.1
  have hπ : ∀ j, j < 16 → π j < 16 := hL.2.2.1
  refine lv_aload_n hx hb dL_law_279 rfl (lv_at hl 1 rfl) ?_
  refine lv_aload_n hx hb dL_law_280 rfl (lv_at hl 0 rfl) ?_
  refine lv_iload_n hx hb dL_law_281 rfl (lv_at hl 3 rfl) ?_
  refine lv_iconst (v := 1) hx hb dL_law_282 (by decide) ?_
  refine lv_iadd hx hb dL_law_283 ?_
  refine W.eq (g2 := F0 m 284 ls (.int (nI (i + 1)) :: .ref b :: .ref (X.2.1 0) :: [])) (by rw [show nI i + 1 = nI (i + 1) from nI_add i 1]) ?_
  refine va_sld hx hb hX0 hbl hbA hS (vp_in_nI (show i + 1 < L by omega) (by omega)) dL_law_284 ?_
  refine W.eq (g2 := F0 m 285 ls (.int (xs (i + 1)) :: .ref (X.2.1 0) :: [])) (by rw [nI_clamp (show i + 1 < 2 ^ 31 by omega)]) ?_
  refine lv_aload_n hx hb dL_law_285 rfl (lv_at hl 0 rfl) ?_
  refine lv_iload_n hx hb dL_law_286 rfl (lv_at hl 3 rfl) ?_
  refine lv_iconst (v := 2) hx hb dL_law_287 (by decide) ?_
  refine lv_iadd hx hb dL_law_288 ?_
  refine W.eq (g2 := F0 m 289 ls (.int (nI (i + 2)) :: .ref b :: .int (xs (i + 1)) :: .ref (X.2.1 0) :: [])) (by rw [show nI i + 2 = nI (i + 2) from nI_add i 2]) ?_
  refine va_sld hx hb hX0 hbl hbA hS (vp_in_nI (show i + 2 < L by omega) (by omega)) dL_law_289 ?_
  refine W.eq (g2 := F0 m 290 ls (.int (xs (i + 2)) :: .int (xs (i + 1)) :: .ref (X.2.1 0) :: [])) (by rw [nI_clamp (show i + 2 < 2 ^ 31 by omega)]) ?_
  refine lv_if_eq (tgt := 297) hx hb dL_law_290 (by decide) (fun c_1 => ?_) (fun c_1 => ?_)
  · have hzc := c_1
    refine lv_iconst (v := 0) hx hb dL_law_297 (by decide) ?_
    refine gw_calliF (va_runV (As := [.int (xs (i + 1)), .int 0]) (rest := []) ⟨hx, hb, hml, hown, hts⟩ (c_WatchList_enable X hX d π (xs (i + 1)) 0 (Or.inl rfl) n hn hn16 hπ) ⟨callB_of 2 hts glX3_enable rfl rfl rfl (hts _ tG_22) (hts _ tG_116) pdX3_enable ⟨Nat.le_of_ble_eq_true rfl, Nat.le_of_ble_eq_true rfl⟩, hts _ tG_117, hts _ tG_118⟩ ⟨wl_blind, gw_recv hK1 hP1 0 (by decide) wl_c0 rfl, wl_at hP1 hK1 hN⟩ rfl rfl hl.1 rfl (lv_room (Nat.le_of_ble_eq_true rfl)) dL_law_298 hcs) hS hA1 (fun r1 u1 t1 locs hw1 hP1 hk hS => ?_)
    replace hP1 : va_P X.1 vwCl (wl_ws X u1.1 u1.2) t1.heap := hP1
    replace hP2 := gw_keep hP2 hk hXY2
    refine lv_aload_n hx hb dL_law_301 rfl (lv_at hl 2 rfl) ?_
    refine lv_aload_n hx hb dL_law_302 rfl (lv_at hl 0 rfl) ?_
    refine lv_iload_n hx hb dL_law_303 rfl (lv_at hl 3 rfl) ?_
    refine lv_iconst (v := 1) hx hb dL_law_304 (by decide) ?_
    refine lv_iadd hx hb dL_law_305 ?_
    refine W.eq (g2 := F0 m 306 ls (.int (nI (i + 1)) :: .ref b :: .ref (Y.2.1 0) :: .int r1 :: [])) (by rw [show nI i + 1 = nI (i + 1) from nI_add i 1]) ?_
    refine va_sld hx hb hX0 hbl hbA hS (vp_in_nI (show i + 1 < L by omega) (by omega)) dL_law_306 ?_
    refine W.eq (g2 := F0 m 307 ls (.int (xs (i + 1)) :: .ref (Y.2.1 0) :: .int r1 :: [])) (by rw [nI_clamp (show i + 1 < 2 ^ 31 by omega)]) ?_
    refine lv_aload_n hx hb dL_law_307 rfl (lv_at hl 0 rfl) ?_
    refine lv_iload_n hx hb dL_law_308 rfl (lv_at hl 3 rfl) ?_
    refine lv_iconst (v := 2) hx hb dL_law_309 (by decide) ?_
    refine lv_iadd hx hb dL_law_310 ?_
    refine W.eq (g2 := F0 m 311 ls (.int (nI (i + 2)) :: .ref b :: .int (xs (i + 1)) :: .ref (Y.2.1 0) :: .int r1 :: [])) (by rw [show nI i + 2 = nI (i + 2) from nI_add i 2]) ?_
    refine va_sld hx hb hX0 hbl hbA hS (vp_in_nI (show i + 2 < L by omega) (by omega)) dL_law_311 ?_
    refine W.eq (g2 := F0 m 312 ls (.int (xs (i + 2)) :: .int (xs (i + 1)) :: .ref (Y.2.1 0) :: .int r1 :: [])) (by rw [nI_clamp (show i + 2 < 2 ^ 31 by omega)]) ?_
    refine lv_if_eq (tgt := 319) hx hb dL_law_312 (by decide) (fun c_2 => ?_) (fun c_2 => ?_)
    · refine lv_iconst (v := 0) hx hb dL_law_319 (by decide) ?_
      refine gw_calliF (va_runV (As := [.int (xs (i + 1)), .int 0]) (rest := [.int r1]) ⟨hx, hb, hml, hown, hts⟩ (c_WatchListModel_enable Y hY e (fun k => k) (xs (i + 1)) 0 (Or.inl rfl)) ⟨callB_of 2 hts glX4_enable rfl rfl rfl (hts _ tG_26) (hts _ tG_261) pdX4_enable ⟨Nat.le_of_ble_eq_true rfl, Nat.le_of_ble_eq_true rfl⟩, hts _ tG_262, hts _ tG_263⟩ ⟨rf_blind, gw_recv hK2 hP2 0 (by decide) rf_c0 rfl, rf_at hP2 hK2 trivial⟩ rfl rfl hl.1 rfl (lv_room (Nat.le_of_ble_eq_true rfl)) dL_law_320 hcs) hS hA2 (fun r2 u2 t2 locs hw2 hP2 hk hS => ?_)
      replace hP1 := gw_keep hP1 hk hXY1
      obtain ⟨er, hR1⟩ := op_enable (Or.inl rfl) (rl_T hR) hn hn16 hw1 hw2
      refine lv_icmp_eq (tgt := 702) hx hb dL_law_323 (by decide) (fun c_3 => ?_) (fun c_3 => absurd er c_3)
      exact kk u1.1 u2.1 u1.2 _ _ ⟨hP1, lw_rho hP2, hR1, hS⟩
    · exact absurd hzc c_2
  · have hzc := c_1
    refine lv_iconst (v := 1) hx hb dL_law_293 (by decide) ?_
    refine lv_goto (tgt := 298) hx hb dL_law_294 (by decide) ?_
    refine gw_calliF (va_runV (As := [.int (xs (i + 1)), .int 1]) (rest := []) ⟨hx, hb, hml, hown, hts⟩ (c_WatchList_enable X hX d π (xs (i + 1)) 1 (Or.inr rfl) n hn hn16 hπ) ⟨callB_of 2 hts glX3_enable rfl rfl rfl (hts _ tG_22) (hts _ tG_116) pdX3_enable ⟨Nat.le_of_ble_eq_true rfl, Nat.le_of_ble_eq_true rfl⟩, hts _ tG_117, hts _ tG_118⟩ ⟨wl_blind, gw_recv hK1 hP1 0 (by decide) wl_c0 rfl, wl_at hP1 hK1 hN⟩ rfl rfl hl.1 rfl (lv_room (Nat.le_of_ble_eq_true rfl)) dL_law_298 hcs) hS hA1 (fun r1 u1 t1 locs hw1 hP1 hk hS => ?_)
    replace hP1 : va_P X.1 vwCl (wl_ws X u1.1 u1.2) t1.heap := hP1
    replace hP2 := gw_keep hP2 hk hXY2
    refine lv_aload_n hx hb dL_law_301 rfl (lv_at hl 2 rfl) ?_
    refine lv_aload_n hx hb dL_law_302 rfl (lv_at hl 0 rfl) ?_
    refine lv_iload_n hx hb dL_law_303 rfl (lv_at hl 3 rfl) ?_
    refine lv_iconst (v := 1) hx hb dL_law_304 (by decide) ?_
    refine lv_iadd hx hb dL_law_305 ?_
    refine W.eq (g2 := F0 m 306 ls (.int (nI (i + 1)) :: .ref b :: .ref (Y.2.1 0) :: .int r1 :: [])) (by rw [show nI i + 1 = nI (i + 1) from nI_add i 1]) ?_
    refine va_sld hx hb hX0 hbl hbA hS (vp_in_nI (show i + 1 < L by omega) (by omega)) dL_law_306 ?_
    refine W.eq (g2 := F0 m 307 ls (.int (xs (i + 1)) :: .ref (Y.2.1 0) :: .int r1 :: [])) (by rw [nI_clamp (show i + 1 < 2 ^ 31 by omega)]) ?_
    refine lv_aload_n hx hb dL_law_307 rfl (lv_at hl 0 rfl) ?_
    refine lv_iload_n hx hb dL_law_308 rfl (lv_at hl 3 rfl) ?_
    refine lv_iconst (v := 2) hx hb dL_law_309 (by decide) ?_
    refine lv_iadd hx hb dL_law_310 ?_
    refine W.eq (g2 := F0 m 311 ls (.int (nI (i + 2)) :: .ref b :: .int (xs (i + 1)) :: .ref (Y.2.1 0) :: .int r1 :: [])) (by rw [show nI i + 2 = nI (i + 2) from nI_add i 2]) ?_
    refine va_sld hx hb hX0 hbl hbA hS (vp_in_nI (show i + 2 < L by omega) (by omega)) dL_law_311 ?_
    refine W.eq (g2 := F0 m 312 ls (.int (xs (i + 2)) :: .int (xs (i + 1)) :: .ref (Y.2.1 0) :: .int r1 :: [])) (by rw [nI_clamp (show i + 2 < 2 ^ 31 by omega)]) ?_
    refine lv_if_eq (tgt := 319) hx hb dL_law_312 (by decide) (fun c_4 => ?_) (fun c_4 => ?_)
    · exact absurd c_4 hzc
    · refine lv_iconst (v := 1) hx hb dL_law_315 (by decide) ?_
      refine lv_goto (tgt := 320) hx hb dL_law_316 (by decide) ?_
      refine gw_calliF (va_runV (As := [.int (xs (i + 1)), .int 1]) (rest := [.int r1]) ⟨hx, hb, hml, hown, hts⟩ (c_WatchListModel_enable Y hY e (fun k => k) (xs (i + 1)) 1 (Or.inr rfl)) ⟨callB_of 2 hts glX4_enable rfl rfl rfl (hts _ tG_26) (hts _ tG_261) pdX4_enable ⟨Nat.le_of_ble_eq_true rfl, Nat.le_of_ble_eq_true rfl⟩, hts _ tG_262, hts _ tG_263⟩ ⟨rf_blind, gw_recv hK2 hP2 0 (by decide) rf_c0 rfl, rf_at hP2 hK2 trivial⟩ rfl rfl hl.1 rfl (lv_room (Nat.le_of_ble_eq_true rfl)) dL_law_320 hcs) hS hA2 (fun r2 u2 t2 locs hw2 hP2 hk hS => ?_)
      replace hP1 := gw_keep hP1 hk hXY1
      obtain ⟨er, hR1⟩ := op_enable (Or.inr rfl) (rl_T hR) hn hn16 hw1 hw2
      refine lv_icmp_eq (tgt := 702) hx hb dL_law_323 (by decide) (fun c_5 => ?_) (fun c_5 => absurd er c_5)
      exact kk u1.1 u2.1 u1.2 _ _ ⟨hP1, lw_rho hP2, hR1, hS⟩
set_option maxHeartbeats 4000000 in
set_option maxRecDepth 100000 in
theorem lc_watch {p : Program} {l : Launch} {e0 : Env} {s : State} {m : MethodId} {below : List Frame} {meth : Method} {c : Code} {b L : Nat} {xs : Nat → Int32} (C0 : lw_At p s m meth c b L xs) (hL4 : L ≤ 4096) {X : wl_X} {Y : rf_X} (hF : lw_F s X Y) {i : Nat} (hi : i + 8 ≤ L) {d e : Nat → Nat → Int32} {π : Nat → Nat} {H : Heap} {locs : List Loc} {cells slots : Nat} (hcs : cells + 0 ≤ room_1.cells ∧ slots + 0 ≤ room_1.slots) {Q : State → Prop} (hS0 : lw_S s X Y d π e H locs) {ls : Array Slot} (hl : lv_has ls 4 [(0, .ref b), (1, .ref (X.2.1 0)), (2, .ref (Y.2.1 0)), (3, .int (nI i))]) (kk : ∀ (d e : Nat → Nat → Int32) (π : Nat → Nat) (H : Heap) (locs : List Loc), lw_S s X Y d π e H locs → W p l e0 room_1 s m #[Value.ref b] below meth c H locs cells slots Q (F0 m 702 ls [])) : W p l e0 room_1 s m #[Value.ref b] below meth c H locs cells slots Q (F0 m 328 ls []) := by
  obtain ⟨hx, hb, hr, hml, hown, hts, hX0, hbl, hlocks, hgv⟩ := C0
  obtain ⟨hX, hY, hA1, hA2, hXY1, hXY2, hK1, hK2, hN⟩ := hF
  obtain ⟨hP1, hP2, hR, hS⟩ := hS0
  have hbA : ¬ (fun q : Nat => s.heap.size ≤ q) b := Nat.not_le.mpr hbl
  have hR0 := hR
  obtain ⟨n, f, q, ts, a, hL, hB, hPp, hC, hQ, hE, hT⟩ := hR0
  have hn : d 0 2 = nI n := hL.2.1
  have hn16 : n ≤ 16 := hL.1
  have hπ : ∀ j, j < 16 → π j < 16 := hL.2.2.1
  have hf : d 4 2 = nI f := hQ.1
  have hf6 : f < 64 := hQ.2.1
  have hq : d 4 3 = nI q := hQ.2.2.1
  have hq6 : q ≤ 64 := hQ.2.2.2.1
  have hqe : rf_T e 0 13 = nI q := by rw [rf_T_j (by decide)]; exact hQ.2.2.2.2.1
  have hpa : ∀ j, j < n → ∃ m, m < 32 ∧ d (8 + π j) 1 = nI m := fun j hj => by rw [(hL.2.2.2.2.2.2.2.1 j hj).2.2.1]; exact hB.1 _ (hL.2.2.2.2.1 j hj).1
  have hof : ∀ j, j < 256 → ∃ m, m < 32 ∧ rf_T e 5 j = nI m := fun j hj => by rw [rf_T_k (by decide)]; exact hB.1 j hj
  refine lv_aload_n hx hb dL_law_328 rfl (lv_at hl 1 rfl) ?_
  refine gw_calliF (va_runV (As := []) (rest := []) ⟨hx, hb, hml, hown, hts⟩ (c_WatchList_watch X hX d π  n hn hn16 hπ f q hf hq hf6 hq6 hpa) ⟨callB_of 0 hts glX3_watch rfl rfl rfl (hts _ tG_22) (hts _ tG_120) pdX3_watch ⟨Nat.le_of_ble_eq_true rfl, Nat.le_of_ble_eq_true rfl⟩, hts _ tG_121, hts _ tG_122⟩ ⟨wl_blind, gw_recv hK1 hP1 0 (by decide) wl_c0 rfl, wl_at hP1 hK1 hN⟩ rfl rfl hl.1 rfl (lv_room (Nat.le_of_ble_eq_true rfl)) dL_law_329 hcs) hS hA1 (fun r1 u1 t1 locs hw1 hP1 hk hS => ?_)
  replace hP1 : va_P X.1 vwCl (wl_ws X u1.1 u1.2) t1.heap := hP1
  replace hP2 := gw_keep hP2 hk hXY2
  refine lv_aload_n hx hb dL_law_332 rfl (lv_at hl 2 rfl) ?_
  refine gw_calliF (va_runV (As := []) (rest := [.int r1]) ⟨hx, hb, hml, hown, hts⟩ (c_WatchListModel_watch Y hY e (fun k => k)  q hqe hq6 hof) ⟨callB_of 0 hts glX4_watch rfl rfl rfl (hts _ tG_26) (hts _ tG_265) pdX4_watch ⟨Nat.le_of_ble_eq_true rfl, Nat.le_of_ble_eq_true rfl⟩, hts _ tG_266, hts _ tG_267⟩ ⟨rf_blind, gw_recv hK2 hP2 0 (by decide) rf_c0 rfl, rf_at hP2 hK2 trivial⟩ rfl rfl hl.1 rfl (lv_room (Nat.le_of_ble_eq_true rfl)) dL_law_333 hcs) hS hA2 (fun r2 u2 t2 locs hw2 hP2 hk hS => ?_)
  replace hP1 := gw_keep hP1 hk hXY1
  obtain ⟨er, hR1⟩ := op_watch (rl_T hR) hn hn16 hw1 hw2
  refine lv_icmp_eq (tgt := 702) hx hb dL_law_336 (by decide) (fun c_1 => ?_) (fun c_1 => absurd er c_1)
  exact kk u1.1 u2.1 u1.2 _ _ ⟨hP1, lw_rho hP2, hR1, hS⟩
set_option maxHeartbeats 4000000 in
set_option maxRecDepth 100000 in
theorem lc_linked {p : Program} {l : Launch} {e0 : Env} {s : State} {m : MethodId} {below : List Frame} {meth : Method} {c : Code} {b L : Nat} {xs : Nat → Int32} (C0 : lw_At p s m meth c b L xs) (hL4 : L ≤ 4096) {X : wl_X} {Y : rf_X} (hF : lw_F s X Y) {i : Nat} (hi : i + 8 ≤ L) {d e : Nat → Nat → Int32} {π : Nat → Nat} {H : Heap} {locs : List Loc} {cells slots : Nat} (hcs : cells + 0 ≤ room_1.cells ∧ slots + 0 ≤ room_1.slots) {Q : State → Prop} (hS0 : lw_S s X Y d π e H locs) {ls : Array Slot} (hl : lv_has ls 4 [(0, .ref b), (1, .ref (X.2.1 0)), (2, .ref (Y.2.1 0)), (3, .int (nI i))]) (kk : ∀ (d e : Nat → Nat → Int32) (π : Nat → Nat) (H : Heap) (locs : List Loc), lw_S s X Y d π e H locs → W p l e0 room_1 s m #[Value.ref b] below meth c H locs cells slots Q (F0 m 702 ls [])) : W p l e0 room_1 s m #[Value.ref b] below meth c H locs cells slots Q (F0 m 341 ls []) := by
  obtain ⟨hx, hb, hr, hml, hown, hts, hX0, hbl, hlocks, hgv⟩ := C0
  obtain ⟨hX, hY, hA1, hA2, hXY1, hXY2, hK1, hK2, hN⟩ := hF
  obtain ⟨hP1, hP2, hR, hS⟩ := hS0
  have hbA : ¬ (fun q : Nat => s.heap.size ≤ q) b := Nat.not_le.mpr hbl
  have hR0 := hR
  obtain ⟨n, f, q, ts, a, hL, hB, hPp, hC, hQ, hE, hT⟩ := hR0
  have hlk : d 0 4 = 0 ∨ d 0 4 = 1 := hC.2.2.1
  have hlke : rf_T e 0 12 = 0 ∨ rf_T e 0 12 = 1 := by rw [rf_T_j (by decide), ← hC.2.1]; exact hC.2.2.1
  refine lv_aload_n hx hb dL_law_341 rfl (lv_at hl 1 rfl) ?_
  refine gw_calliF (va_runV (As := []) (rest := []) ⟨hx, hb, hml, hown, hts⟩ (c_WatchList_linked X hX d π  hlk) ⟨callB_of 0 hts glX3_linked rfl rfl rfl (hts _ tG_22) (hts _ tG_131) pdX3_linked ⟨Nat.le_of_ble_eq_true rfl, Nat.le_of_ble_eq_true rfl⟩, hts _ tG_132, hts _ tG_133⟩ ⟨wl_blind, gw_recv hK1 hP1 0 (by decide) wl_c0 rfl, wl_at hP1 hK1 hN⟩ rfl rfl hl.1 rfl (lv_room (Nat.le_of_ble_eq_true rfl)) dL_law_342 hcs) hS hA1 (fun r1 u1 t1 locs hw1 hP1 hk hS => ?_)
  replace hP1 : va_P X.1 vwCl (wl_ws X u1.1 u1.2) t1.heap := hP1
  replace hP2 := gw_keep hP2 hk hXY2
  refine lv_aload_n hx hb dL_law_345 rfl (lv_at hl 2 rfl) ?_
  refine gw_calliF (va_runV (As := []) (rest := [.int r1]) ⟨hx, hb, hml, hown, hts⟩ (c_WatchListModel_linked Y hY e (fun k => k)  hlke) ⟨callB_of 0 hts glX4_linked rfl rfl rfl (hts _ tG_26) (hts _ tG_272) pdX4_linked ⟨Nat.le_of_ble_eq_true rfl, Nat.le_of_ble_eq_true rfl⟩, hts _ tG_273, hts _ tG_274⟩ ⟨rf_blind, gw_recv hK2 hP2 0 (by decide) rf_c0 rfl, rf_at hP2 hK2 trivial⟩ rfl rfl hl.1 rfl (lv_room (Nat.le_of_ble_eq_true rfl)) dL_law_346 hcs) hS hA2 (fun r2 u2 t2 locs hw2 hP2 hk hS => ?_)
  replace hP1 := gw_keep hP1 hk hXY1
  obtain ⟨er, hR1⟩ := op_linked (rl_T hR) hw1 hw2
  refine lv_icmp_eq (tgt := 702) hx hb dL_law_349 (by decide) (fun c_1 => ?_) (fun c_1 => absurd er c_1)
  exact kk u1.1 u2.1 u1.2 _ _ ⟨hP1, lw_rho hP2, hR1, hS⟩
set_option maxHeartbeats 4000000 in
set_option maxRecDepth 100000 in
theorem lc_raise {p : Program} {l : Launch} {e0 : Env} {s : State} {m : MethodId} {below : List Frame} {meth : Method} {c : Code} {b L : Nat} {xs : Nat → Int32} (C0 : lw_At p s m meth c b L xs) (hL4 : L ≤ 4096) {X : wl_X} {Y : rf_X} (hF : lw_F s X Y) {i : Nat} (hi : i + 8 ≤ L) {d e : Nat → Nat → Int32} {π : Nat → Nat} {H : Heap} {locs : List Loc} {cells slots : Nat} (hcs : cells + 0 ≤ room_1.cells ∧ slots + 0 ≤ room_1.slots) {Q : State → Prop} (hS0 : lw_S s X Y d π e H locs) {ls : Array Slot} (hl : lv_has ls 4 [(0, .ref b), (1, .ref (X.2.1 0)), (2, .ref (Y.2.1 0)), (3, .int (nI i))]) (kk : ∀ (d e : Nat → Nat → Int32) (π : Nat → Nat) (H : Heap) (locs : List Loc), lw_S s X Y d π e H locs → W p l e0 room_1 s m #[Value.ref b] below meth c H locs cells slots Q (F0 m 702 ls [])) : W p l e0 room_1 s m #[Value.ref b] below meth c H locs cells slots Q (F0 m 354 ls []) := by
  obtain ⟨hx, hb, hr, hml, hown, hts, hX0, hbl, hlocks, hgv⟩ := C0
  obtain ⟨hX, hY, hA1, hA2, hXY1, hXY2, hK1, hK2, hN⟩ := hF
  obtain ⟨hP1, hP2, hR, hS⟩ := hS0
  have hbA : ¬ (fun q : Nat => s.heap.size ≤ q) b := Nat.not_le.mpr hbl
  have hR0 := hR
  obtain ⟨n, f, q, ts, a, hL, hB, hPp, hC, hQ, hE, hT⟩ := hR0
  have hf : d 4 2 = nI f := hQ.1
  have hf6 : f < 64 := hQ.2.1
  have hq : d 4 3 = nI q := hQ.2.2.1
  have hq6 : q ≤ 64 := hQ.2.2.2.1
  have hqe : rf_T e 0 13 = nI q := by rw [rf_T_j (by decide)]; exact hQ.2.2.2.2.1
  refine lv_aload_n hx hb dL_law_354 rfl (lv_at hl 1 rfl) ?_
  refine lv_aload_n hx hb dL_law_355 rfl (lv_at hl 0 rfl) ?_
  refine lv_iload_n hx hb dL_law_356 rfl (lv_at hl 3 rfl) ?_
  refine lv_iconst (v := 1) hx hb dL_law_357 (by decide) ?_
  refine lv_iadd hx hb dL_law_358 ?_
  refine W.eq (g2 := F0 m 359 ls (.int (nI (i + 1)) :: .ref b :: .ref (X.2.1 0) :: [])) (by rw [show nI i + 1 = nI (i + 1) from nI_add i 1]) ?_
  refine va_sld hx hb hX0 hbl hbA hS (vp_in_nI (show i + 1 < L by omega) (by omega)) dL_law_359 ?_
  refine W.eq (g2 := F0 m 360 ls (.int (xs (i + 1)) :: .ref (X.2.1 0) :: [])) (by rw [nI_clamp (show i + 1 < 2 ^ 31 by omega)]) ?_
  refine lv_aload_n hx hb dL_law_360 rfl (lv_at hl 0 rfl) ?_
  refine lv_iload_n hx hb dL_law_361 rfl (lv_at hl 3 rfl) ?_
  refine lv_iconst (v := 2) hx hb dL_law_362 (by decide) ?_
  refine lv_iadd hx hb dL_law_363 ?_
  refine W.eq (g2 := F0 m 364 ls (.int (nI (i + 2)) :: .ref b :: .int (xs (i + 1)) :: .ref (X.2.1 0) :: [])) (by rw [show nI i + 2 = nI (i + 2) from nI_add i 2]) ?_
  refine va_sld hx hb hX0 hbl hbA hS (vp_in_nI (show i + 2 < L by omega) (by omega)) dL_law_364 ?_
  refine W.eq (g2 := F0 m 365 ls (.int (xs (i + 2)) :: .int (xs (i + 1)) :: .ref (X.2.1 0) :: [])) (by rw [nI_clamp (show i + 2 < 2 ^ 31 by omega)]) ?_
  refine gw_calliF (va_runV (As := [.int (xs (i + 1)), .int (xs (i + 2))]) (rest := []) ⟨hx, hb, hml, hown, hts⟩ (c_WatchList_raise X hX d π (xs (i + 1)) (xs (i + 2)) f q hf hq hf6 hq6) ⟨callB_of 2 hts glX3_raise rfl rfl rfl (hts _ tG_22) (hts _ tG_135) pdX3_raise ⟨Nat.le_of_ble_eq_true rfl, Nat.le_of_ble_eq_true rfl⟩, hts _ tG_136, hts _ tG_137⟩ ⟨wl_blind, gw_recv hK1 hP1 0 (by decide) wl_c0 rfl, wl_at hP1 hK1 hN⟩ rfl rfl hl.1 rfl (lv_room (Nat.le_of_ble_eq_true rfl)) dL_law_365 hcs) hS hA1 (fun r1 u1 t1 locs hw1 hP1 hk hS => ?_)
  replace hP1 : va_P X.1 vwCl (wl_ws X u1.1 u1.2) t1.heap := hP1
  replace hP2 := gw_keep hP2 hk hXY2
  refine lv_aload_n hx hb dL_law_368 rfl (lv_at hl 2 rfl) ?_
  refine lv_aload_n hx hb dL_law_369 rfl (lv_at hl 0 rfl) ?_
  refine lv_iload_n hx hb dL_law_370 rfl (lv_at hl 3 rfl) ?_
  refine lv_iconst (v := 1) hx hb dL_law_371 (by decide) ?_
  refine lv_iadd hx hb dL_law_372 ?_
  refine W.eq (g2 := F0 m 373 ls (.int (nI (i + 1)) :: .ref b :: .ref (Y.2.1 0) :: .int r1 :: [])) (by rw [show nI i + 1 = nI (i + 1) from nI_add i 1]) ?_
  refine va_sld hx hb hX0 hbl hbA hS (vp_in_nI (show i + 1 < L by omega) (by omega)) dL_law_373 ?_
  refine W.eq (g2 := F0 m 374 ls (.int (xs (i + 1)) :: .ref (Y.2.1 0) :: .int r1 :: [])) (by rw [nI_clamp (show i + 1 < 2 ^ 31 by omega)]) ?_
  refine lv_aload_n hx hb dL_law_374 rfl (lv_at hl 0 rfl) ?_
  refine lv_iload_n hx hb dL_law_375 rfl (lv_at hl 3 rfl) ?_
  refine lv_iconst (v := 2) hx hb dL_law_376 (by decide) ?_
  refine lv_iadd hx hb dL_law_377 ?_
  refine W.eq (g2 := F0 m 378 ls (.int (nI (i + 2)) :: .ref b :: .int (xs (i + 1)) :: .ref (Y.2.1 0) :: .int r1 :: [])) (by rw [show nI i + 2 = nI (i + 2) from nI_add i 2]) ?_
  refine va_sld hx hb hX0 hbl hbA hS (vp_in_nI (show i + 2 < L by omega) (by omega)) dL_law_378 ?_
  refine W.eq (g2 := F0 m 379 ls (.int (xs (i + 2)) :: .int (xs (i + 1)) :: .ref (Y.2.1 0) :: .int r1 :: [])) (by rw [nI_clamp (show i + 2 < 2 ^ 31 by omega)]) ?_
  refine gw_calliF (va_runV (As := [.int (xs (i + 1)), .int (xs (i + 2))]) (rest := [.int r1]) ⟨hx, hb, hml, hown, hts⟩ (c_WatchListModel_raise Y hY e (fun k => k) (xs (i + 1)) (xs (i + 2)) q hqe hq6) ⟨callB_of 2 hts glX4_raise rfl rfl rfl (hts _ tG_26) (hts _ tG_276) pdX4_raise ⟨Nat.le_of_ble_eq_true rfl, Nat.le_of_ble_eq_true rfl⟩, hts _ tG_277, hts _ tG_278⟩ ⟨rf_blind, gw_recv hK2 hP2 0 (by decide) rf_c0 rfl, rf_at hP2 hK2 trivial⟩ rfl rfl hl.1 rfl (lv_room (Nat.le_of_ble_eq_true rfl)) dL_law_379 hcs) hS hA2 (fun r2 u2 t2 locs hw2 hP2 hk hS => ?_)
  replace hP1 := gw_keep hP1 hk hXY1
  obtain ⟨er, hR1⟩ := op_raise (rl_T hR) hf hf6 hq hq6 hw1 hw2
  refine lv_icmp_eq (tgt := 702) hx hb dL_law_382 (by decide) (fun c_1 => ?_) (fun c_1 => absurd er c_1)
  exact kk u1.1 u2.1 u1.2 _ _ ⟨hP1, lw_rho hP2, hR1, hS⟩
set_option maxHeartbeats 4000000 in
set_option maxRecDepth 100000 in
theorem lc_work {p : Program} {l : Launch} {e0 : Env} {s : State} {m : MethodId} {below : List Frame} {meth : Method} {c : Code} {b L : Nat} {xs : Nat → Int32} (C0 : lw_At p s m meth c b L xs) (hL4 : L ≤ 4096) {X : wl_X} {Y : rf_X} (hF : lw_F s X Y) {i : Nat} (hi : i + 8 ≤ L) {d e : Nat → Nat → Int32} {π : Nat → Nat} {H : Heap} {locs : List Loc} {cells slots : Nat} (hcs : cells + 0 ≤ room_1.cells ∧ slots + 0 ≤ room_1.slots) {Q : State → Prop} (hS0 : lw_S s X Y d π e H locs) {ls : Array Slot} (hl : lv_has ls 4 [(0, .ref b), (1, .ref (X.2.1 0)), (2, .ref (Y.2.1 0)), (3, .int (nI i))]) (kk : ∀ (d e : Nat → Nat → Int32) (π : Nat → Nat) (H : Heap) (locs : List Loc), lw_S s X Y d π e H locs → W p l e0 room_1 s m #[Value.ref b] below meth c H locs cells slots Q (F0 m 702 ls [])) : W p l e0 room_1 s m #[Value.ref b] below meth c H locs cells slots Q (F0 m 387 ls []) := by
  obtain ⟨hx, hb, hr, hml, hown, hts, hX0, hbl, hlocks, hgv⟩ := C0
  obtain ⟨hX, hY, hA1, hA2, hXY1, hXY2, hK1, hK2, hN⟩ := hF
  obtain ⟨hP1, hP2, hR, hS⟩ := hS0
  have hbA : ¬ (fun q : Nat => s.heap.size ≤ q) b := Nat.not_le.mpr hbl
  have hR0 := hR
  obtain ⟨n, f, q, ts, a, hL, hB, hPp, hC, hQ, hE, hT⟩ := hR0
  have hf : d 4 2 = nI f := hQ.1
  have hf6 : f < 64 := hQ.2.1
  have hq : d 4 3 = nI q := hQ.2.2.1
  have hq6 : q ≤ 64 := hQ.2.2.2.1
  have hqe : rf_T e 0 13 = nI q := by rw [rf_T_j (by decide)]; exact hQ.2.2.2.2.1
  refine lv_aload_n hx hb dL_law_387 rfl (lv_at hl 1 rfl) ?_
  refine gw_calliF (va_runV (As := []) (rest := []) ⟨hx, hb, hml, hown, hts⟩ (c_WatchList_work X hX d π  f q hf hq hf6 hq6) ⟨callB_of 0 hts glX3_work rfl rfl rfl (hts _ tG_22) (hts _ tG_139) pdX3_work ⟨Nat.le_of_ble_eq_true rfl, Nat.le_of_ble_eq_true rfl⟩, hts _ tG_140, hts _ tG_141⟩ ⟨wl_blind, gw_recv hK1 hP1 0 (by decide) wl_c0 rfl, wl_at hP1 hK1 hN⟩ rfl rfl hl.1 rfl (lv_room (Nat.le_of_ble_eq_true rfl)) dL_law_388 hcs) hS hA1 (fun r1 u1 t1 locs hw1 hP1 hk hS => ?_)
  replace hP1 : va_P X.1 vwCl (wl_ws X u1.1 u1.2) t1.heap := hP1
  replace hP2 := gw_keep hP2 hk hXY2
  refine lv_aload_n hx hb dL_law_391 rfl (lv_at hl 2 rfl) ?_
  refine gw_calliF (va_runV (As := []) (rest := [.int r1]) ⟨hx, hb, hml, hown, hts⟩ (c_WatchListModel_work Y hY e (fun k => k)  q hqe hq6) ⟨callB_of 0 hts glX4_work rfl rfl rfl (hts _ tG_26) (hts _ tG_283) pdX4_work ⟨Nat.le_of_ble_eq_true rfl, Nat.le_of_ble_eq_true rfl⟩, hts _ tG_284, hts _ tG_285⟩ ⟨rf_blind, gw_recv hK2 hP2 0 (by decide) rf_c0 rfl, rf_at hP2 hK2 trivial⟩ rfl rfl hl.1 rfl (lv_room (Nat.le_of_ble_eq_true rfl)) dL_law_392 hcs) hS hA2 (fun r2 u2 t2 locs hw2 hP2 hk hS => ?_)
  replace hP1 := gw_keep hP1 hk hXY1
  obtain ⟨er, hR1⟩ := op_work (rl_T hR) hf hf6 hq hq6 hw1 hw2
  refine lv_icmp_eq (tgt := 702) hx hb dL_law_395 (by decide) (fun c_1 => ?_) (fun c_1 => absurd er c_1)
  exact kk u1.1 u2.1 u1.2 _ _ ⟨hP1, lw_rho hP2, hR1, hS⟩
set_option maxHeartbeats 4000000 in
set_option maxRecDepth 100000 in
theorem lc_lose {p : Program} {l : Launch} {e0 : Env} {s : State} {m : MethodId} {below : List Frame} {meth : Method} {c : Code} {b L : Nat} {xs : Nat → Int32} (C0 : lw_At p s m meth c b L xs) (hL4 : L ≤ 4096) {X : wl_X} {Y : rf_X} (hF : lw_F s X Y) {i : Nat} (hi : i + 8 ≤ L) {d e : Nat → Nat → Int32} {π : Nat → Nat} {H : Heap} {locs : List Loc} {cells slots : Nat} (hcs : cells + 0 ≤ room_1.cells ∧ slots + 0 ≤ room_1.slots) {Q : State → Prop} (hS0 : lw_S s X Y d π e H locs) {ls : Array Slot} (hl : lv_has ls 4 [(0, .ref b), (1, .ref (X.2.1 0)), (2, .ref (Y.2.1 0)), (3, .int (nI i))]) (kk : ∀ (d e : Nat → Nat → Int32) (π : Nat → Nat) (H : Heap) (locs : List Loc), lw_S s X Y d π e H locs → W p l e0 room_1 s m #[Value.ref b] below meth c H locs cells slots Q (F0 m 702 ls [])) : W p l e0 room_1 s m #[Value.ref b] below meth c H locs cells slots Q (F0 m 400 ls []) := by
  obtain ⟨hx, hb, hr, hml, hown, hts, hX0, hbl, hlocks, hgv⟩ := C0
  obtain ⟨hX, hY, hA1, hA2, hXY1, hXY2, hK1, hK2, hN⟩ := hF
  obtain ⟨hP1, hP2, hR, hS⟩ := hS0
  have hbA : ¬ (fun q : Nat => s.heap.size ≤ q) b := Nat.not_le.mpr hbl
  have hR0 := hR
  obtain ⟨n, f, q, ts, a, hL, hB, hPp, hC, hQ, hE, hT⟩ := hR0
  refine lv_aload_n hx hb dL_law_400 rfl (lv_at hl 1 rfl) ?_
  refine gw_calliF (va_runV (As := []) (rest := []) ⟨hx, hb, hml, hown, hts⟩ (c_WatchList_lose X hX d π  ) ⟨callB_of 0 hts glX3_lose rfl rfl rfl (hts _ tG_22) (hts _ tG_149) pdX3_lose ⟨Nat.le_of_ble_eq_true rfl, Nat.le_of_ble_eq_true rfl⟩, hts _ tG_150, hts _ tG_151⟩ ⟨wl_blind, gw_recv hK1 hP1 0 (by decide) wl_c0 rfl, wl_at hP1 hK1 hN⟩ rfl rfl hl.1 rfl (lv_room (Nat.le_of_ble_eq_true rfl)) dL_law_401 hcs) hS hA1 (fun r1 u1 t1 locs hw1 hP1 hk hS => ?_)
  replace hP1 : va_P X.1 vwCl (wl_ws X u1.1 u1.2) t1.heap := hP1
  replace hP2 := gw_keep hP2 hk hXY2
  refine lv_aload_n hx hb dL_law_404 rfl (lv_at hl 2 rfl) ?_
  refine gw_calliF (va_runV (As := []) (rest := [.int r1]) ⟨hx, hb, hml, hown, hts⟩ (c_WatchListModel_lose Y hY e (fun k => k)  ) ⟨callB_of 0 hts glX4_lose rfl rfl rfl (hts _ tG_26) (hts _ tG_287) pdX4_lose ⟨Nat.le_of_ble_eq_true rfl, Nat.le_of_ble_eq_true rfl⟩, hts _ tG_288, hts _ tG_289⟩ ⟨rf_blind, gw_recv hK2 hP2 0 (by decide) rf_c0 rfl, rf_at hP2 hK2 trivial⟩ rfl rfl hl.1 rfl (lv_room (Nat.le_of_ble_eq_true rfl)) dL_law_405 hcs) hS hA2 (fun r2 u2 t2 locs hw2 hP2 hk hS => ?_)
  replace hP1 := gw_keep hP1 hk hXY1
  obtain ⟨er, hR1⟩ := op_lose (rl_T hR) hw1 hw2
  refine lv_icmp_eq (tgt := 702) hx hb dL_law_408 (by decide) (fun c_1 => ?_) (fun c_1 => absurd er c_1)
  exact kk u1.1 u2.1 u1.2 _ _ ⟨hP1, lw_rho hP2, hR1, hS⟩
set_option maxHeartbeats 4000000 in
set_option maxRecDepth 100000 in
theorem lc_tell {p : Program} {l : Launch} {e0 : Env} {s : State} {m : MethodId} {below : List Frame} {meth : Method} {c : Code} {b L : Nat} {xs : Nat → Int32} (C0 : lw_At p s m meth c b L xs) (hL4 : L ≤ 4096) {X : wl_X} {Y : rf_X} (hF : lw_F s X Y) {i : Nat} (hi : i + 8 ≤ L) {d e : Nat → Nat → Int32} {π : Nat → Nat} {H : Heap} {locs : List Loc} {cells slots : Nat} (hcs : cells + 0 ≤ room_1.cells ∧ slots + 0 ≤ room_1.slots) {Q : State → Prop} (hS0 : lw_S s X Y d π e H locs) {ls : Array Slot} (hl : lv_has ls 4 [(0, .ref b), (1, .ref (X.2.1 0)), (2, .ref (Y.2.1 0)), (3, .int (nI i))]) (kk : ∀ (d e : Nat → Nat → Int32) (π : Nat → Nat) (H : Heap) (locs : List Loc), lw_S s X Y d π e H locs → W p l e0 room_1 s m #[Value.ref b] below meth c H locs cells slots Q (F0 m 702 ls [])) : W p l e0 room_1 s m #[Value.ref b] below meth c H locs cells slots Q (F0 m 413 ls []) := by
  obtain ⟨hx, hb, hr, hml, hown, hts, hX0, hbl, hlocks, hgv⟩ := C0
  obtain ⟨hX, hY, hA1, hA2, hXY1, hXY2, hK1, hK2, hN⟩ := hF
  obtain ⟨hP1, hP2, hR, hS⟩ := hS0
  have hbA : ¬ (fun q : Nat => s.heap.size ≤ q) b := Nat.not_le.mpr hbl
  have hR0 := hR
  obtain ⟨n, f, q, ts, a, hL, hB, hPp, hC, hQ, hE, hT⟩ := hR0
  refine lv_aload_n hx hb dL_law_413 rfl (lv_at hl 1 rfl) ?_
  refine lv_aload_n hx hb dL_law_414 rfl (lv_at hl 0 rfl) ?_
  refine lv_iload_n hx hb dL_law_415 rfl (lv_at hl 3 rfl) ?_
  refine lv_iconst (v := 1) hx hb dL_law_416 (by decide) ?_
  refine lv_iadd hx hb dL_law_417 ?_
  refine W.eq (g2 := F0 m 418 ls (.int (nI (i + 1)) :: .ref b :: .ref (X.2.1 0) :: [])) (by rw [show nI i + 1 = nI (i + 1) from nI_add i 1]) ?_
  refine va_sld hx hb hX0 hbl hbA hS (vp_in_nI (show i + 1 < L by omega) (by omega)) dL_law_418 ?_
  refine W.eq (g2 := F0 m 419 ls (.int (xs (i + 1)) :: .ref (X.2.1 0) :: [])) (by rw [nI_clamp (show i + 1 < 2 ^ 31 by omega)]) ?_
  refine lv_aload_n hx hb dL_law_419 rfl (lv_at hl 0 rfl) ?_
  refine lv_iload_n hx hb dL_law_420 rfl (lv_at hl 3 rfl) ?_
  refine lv_iconst (v := 2) hx hb dL_law_421 (by decide) ?_
  refine lv_iadd hx hb dL_law_422 ?_
  refine W.eq (g2 := F0 m 423 ls (.int (nI (i + 2)) :: .ref b :: .int (xs (i + 1)) :: .ref (X.2.1 0) :: [])) (by rw [show nI i + 2 = nI (i + 2) from nI_add i 2]) ?_
  refine va_sld hx hb hX0 hbl hbA hS (vp_in_nI (show i + 2 < L by omega) (by omega)) dL_law_423 ?_
  refine W.eq (g2 := F0 m 424 ls (.int (xs (i + 2)) :: .int (xs (i + 1)) :: .ref (X.2.1 0) :: [])) (by rw [nI_clamp (show i + 2 < 2 ^ 31 by omega)]) ?_
  refine lv_if_eq (tgt := 431) hx hb dL_law_424 (by decide) (fun c_1 => ?_) (fun c_1 => ?_)
  · have hzc := c_1
    refine lv_iconst (v := 0) hx hb dL_law_431 (by decide) ?_
    refine gw_calliF (va_runV (As := [.int (xs (i + 1)), .int 0]) (rest := []) ⟨hx, hb, hml, hown, hts⟩ (c_WatchList_tell X hX d π (xs (i + 1)) 0 (Or.inl rfl)) ⟨callB_of 2 hts glX3_tell rfl rfl rfl (hts _ tG_22) (hts _ tG_155) pdX3_tell ⟨Nat.le_of_ble_eq_true rfl, Nat.le_of_ble_eq_true rfl⟩, hts _ tG_156, hts _ tG_157⟩ ⟨wl_blind, gw_recv hK1 hP1 0 (by decide) wl_c0 rfl, wl_at hP1 hK1 hN⟩ rfl rfl hl.1 rfl (lv_room (Nat.le_of_ble_eq_true rfl)) dL_law_432 hcs) hS hA1 (fun r1 u1 t1 locs hw1 hP1 hk hS => ?_)
    replace hP1 : va_P X.1 vwCl (wl_ws X u1.1 u1.2) t1.heap := hP1
    replace hP2 := gw_keep hP2 hk hXY2
    refine lv_aload_n hx hb dL_law_435 rfl (lv_at hl 2 rfl) ?_
    refine lv_aload_n hx hb dL_law_436 rfl (lv_at hl 0 rfl) ?_
    refine lv_iload_n hx hb dL_law_437 rfl (lv_at hl 3 rfl) ?_
    refine lv_iconst (v := 1) hx hb dL_law_438 (by decide) ?_
    refine lv_iadd hx hb dL_law_439 ?_
    refine W.eq (g2 := F0 m 440 ls (.int (nI (i + 1)) :: .ref b :: .ref (Y.2.1 0) :: .int r1 :: [])) (by rw [show nI i + 1 = nI (i + 1) from nI_add i 1]) ?_
    refine va_sld hx hb hX0 hbl hbA hS (vp_in_nI (show i + 1 < L by omega) (by omega)) dL_law_440 ?_
    refine W.eq (g2 := F0 m 441 ls (.int (xs (i + 1)) :: .ref (Y.2.1 0) :: .int r1 :: [])) (by rw [nI_clamp (show i + 1 < 2 ^ 31 by omega)]) ?_
    refine lv_aload_n hx hb dL_law_441 rfl (lv_at hl 0 rfl) ?_
    refine lv_iload_n hx hb dL_law_442 rfl (lv_at hl 3 rfl) ?_
    refine lv_iconst (v := 2) hx hb dL_law_443 (by decide) ?_
    refine lv_iadd hx hb dL_law_444 ?_
    refine W.eq (g2 := F0 m 445 ls (.int (nI (i + 2)) :: .ref b :: .int (xs (i + 1)) :: .ref (Y.2.1 0) :: .int r1 :: [])) (by rw [show nI i + 2 = nI (i + 2) from nI_add i 2]) ?_
    refine va_sld hx hb hX0 hbl hbA hS (vp_in_nI (show i + 2 < L by omega) (by omega)) dL_law_445 ?_
    refine W.eq (g2 := F0 m 446 ls (.int (xs (i + 2)) :: .int (xs (i + 1)) :: .ref (Y.2.1 0) :: .int r1 :: [])) (by rw [nI_clamp (show i + 2 < 2 ^ 31 by omega)]) ?_
    refine lv_if_eq (tgt := 453) hx hb dL_law_446 (by decide) (fun c_2 => ?_) (fun c_2 => ?_)
    · refine lv_iconst (v := 0) hx hb dL_law_453 (by decide) ?_
      refine gw_calliF (va_runV (As := [.int (xs (i + 1)), .int 0]) (rest := [.int r1]) ⟨hx, hb, hml, hown, hts⟩ (c_WatchListModel_tell Y hY e (fun k => k) (xs (i + 1)) 0 ) ⟨callB_of 2 hts glX4_tell rfl rfl rfl (hts _ tG_26) (hts _ tG_291) pdX4_tell ⟨Nat.le_of_ble_eq_true rfl, Nat.le_of_ble_eq_true rfl⟩, hts _ tG_292, hts _ tG_293⟩ ⟨rf_blind, gw_recv hK2 hP2 0 (by decide) rf_c0 rfl, rf_at hP2 hK2 trivial⟩ rfl rfl hl.1 rfl (lv_room (Nat.le_of_ble_eq_true rfl)) dL_law_454 hcs) hS hA2 (fun r2 u2 t2 locs hw2 hP2 hk hS => ?_)
      replace hP1 := gw_keep hP1 hk hXY1
      obtain ⟨er, hR1⟩ := op_tell (Or.inl rfl) (rl_T hR) hw1 hw2
      refine lv_icmp_eq (tgt := 702) hx hb dL_law_457 (by decide) (fun c_3 => ?_) (fun c_3 => absurd er c_3)
      exact kk u1.1 u2.1 u1.2 _ _ ⟨hP1, lw_rho hP2, hR1, hS⟩
    · exact absurd hzc c_2
  · have hzc := c_1
    refine lv_iconst (v := 1) hx hb dL_law_427 (by decide) ?_
    refine lv_goto (tgt := 432) hx hb dL_law_428 (by decide) ?_
    refine gw_calliF (va_runV (As := [.int (xs (i + 1)), .int 1]) (rest := []) ⟨hx, hb, hml, hown, hts⟩ (c_WatchList_tell X hX d π (xs (i + 1)) 1 (Or.inr rfl)) ⟨callB_of 2 hts glX3_tell rfl rfl rfl (hts _ tG_22) (hts _ tG_155) pdX3_tell ⟨Nat.le_of_ble_eq_true rfl, Nat.le_of_ble_eq_true rfl⟩, hts _ tG_156, hts _ tG_157⟩ ⟨wl_blind, gw_recv hK1 hP1 0 (by decide) wl_c0 rfl, wl_at hP1 hK1 hN⟩ rfl rfl hl.1 rfl (lv_room (Nat.le_of_ble_eq_true rfl)) dL_law_432 hcs) hS hA1 (fun r1 u1 t1 locs hw1 hP1 hk hS => ?_)
    replace hP1 : va_P X.1 vwCl (wl_ws X u1.1 u1.2) t1.heap := hP1
    replace hP2 := gw_keep hP2 hk hXY2
    refine lv_aload_n hx hb dL_law_435 rfl (lv_at hl 2 rfl) ?_
    refine lv_aload_n hx hb dL_law_436 rfl (lv_at hl 0 rfl) ?_
    refine lv_iload_n hx hb dL_law_437 rfl (lv_at hl 3 rfl) ?_
    refine lv_iconst (v := 1) hx hb dL_law_438 (by decide) ?_
    refine lv_iadd hx hb dL_law_439 ?_
    refine W.eq (g2 := F0 m 440 ls (.int (nI (i + 1)) :: .ref b :: .ref (Y.2.1 0) :: .int r1 :: [])) (by rw [show nI i + 1 = nI (i + 1) from nI_add i 1]) ?_
    refine va_sld hx hb hX0 hbl hbA hS (vp_in_nI (show i + 1 < L by omega) (by omega)) dL_law_440 ?_
    refine W.eq (g2 := F0 m 441 ls (.int (xs (i + 1)) :: .ref (Y.2.1 0) :: .int r1 :: [])) (by rw [nI_clamp (show i + 1 < 2 ^ 31 by omega)]) ?_
    refine lv_aload_n hx hb dL_law_441 rfl (lv_at hl 0 rfl) ?_
    refine lv_iload_n hx hb dL_law_442 rfl (lv_at hl 3 rfl) ?_
    refine lv_iconst (v := 2) hx hb dL_law_443 (by decide) ?_
    refine lv_iadd hx hb dL_law_444 ?_
    refine W.eq (g2 := F0 m 445 ls (.int (nI (i + 2)) :: .ref b :: .int (xs (i + 1)) :: .ref (Y.2.1 0) :: .int r1 :: [])) (by rw [show nI i + 2 = nI (i + 2) from nI_add i 2]) ?_
    refine va_sld hx hb hX0 hbl hbA hS (vp_in_nI (show i + 2 < L by omega) (by omega)) dL_law_445 ?_
    refine W.eq (g2 := F0 m 446 ls (.int (xs (i + 2)) :: .int (xs (i + 1)) :: .ref (Y.2.1 0) :: .int r1 :: [])) (by rw [nI_clamp (show i + 2 < 2 ^ 31 by omega)]) ?_
    refine lv_if_eq (tgt := 453) hx hb dL_law_446 (by decide) (fun c_4 => ?_) (fun c_4 => ?_)
    · exact absurd c_4 hzc
    · refine lv_iconst (v := 1) hx hb dL_law_449 (by decide) ?_
      refine lv_goto (tgt := 454) hx hb dL_law_450 (by decide) ?_
      refine gw_calliF (va_runV (As := [.int (xs (i + 1)), .int 1]) (rest := [.int r1]) ⟨hx, hb, hml, hown, hts⟩ (c_WatchListModel_tell Y hY e (fun k => k) (xs (i + 1)) 1 ) ⟨callB_of 2 hts glX4_tell rfl rfl rfl (hts _ tG_26) (hts _ tG_291) pdX4_tell ⟨Nat.le_of_ble_eq_true rfl, Nat.le_of_ble_eq_true rfl⟩, hts _ tG_292, hts _ tG_293⟩ ⟨rf_blind, gw_recv hK2 hP2 0 (by decide) rf_c0 rfl, rf_at hP2 hK2 trivial⟩ rfl rfl hl.1 rfl (lv_room (Nat.le_of_ble_eq_true rfl)) dL_law_454 hcs) hS hA2 (fun r2 u2 t2 locs hw2 hP2 hk hS => ?_)
      replace hP1 := gw_keep hP1 hk hXY1
      obtain ⟨er, hR1⟩ := op_tell (Or.inr rfl) (rl_T hR) hw1 hw2
      refine lv_icmp_eq (tgt := 702) hx hb dL_law_457 (by decide) (fun c_5 => ?_) (fun c_5 => absurd er c_5)
      exact kk u1.1 u2.1 u1.2 _ _ ⟨hP1, lw_rho hP2, hR1, hS⟩
set_option maxHeartbeats 4000000 in
set_option maxRecDepth 100000 in
theorem lc_put {p : Program} {l : Launch} {e0 : Env} {s : State} {m : MethodId} {below : List Frame} {meth : Method} {c : Code} {b L : Nat} {xs : Nat → Int32} (C0 : lw_At p s m meth c b L xs) (hL4 : L ≤ 4096) {X : wl_X} {Y : rf_X} (hF : lw_F s X Y) {i : Nat} (hi : i + 8 ≤ L) {d e : Nat → Nat → Int32} {π : Nat → Nat} {H : Heap} {locs : List Loc} {cells slots : Nat} (hcs : cells + 0 ≤ room_1.cells ∧ slots + 0 ≤ room_1.slots) {Q : State → Prop} (hS0 : lw_S s X Y d π e H locs) {ls : Array Slot} (hl : lv_has ls 4 [(0, .ref b), (1, .ref (X.2.1 0)), (2, .ref (Y.2.1 0)), (3, .int (nI i))]) (kk : ∀ (d e : Nat → Nat → Int32) (π : Nat → Nat) (H : Heap) (locs : List Loc), lw_S s X Y d π e H locs → W p l e0 room_1 s m #[Value.ref b] below meth c H locs cells slots Q (F0 m 702 ls [])) : W p l e0 room_1 s m #[Value.ref b] below meth c H locs cells slots Q (F0 m 462 ls []) := by
  obtain ⟨hx, hb, hr, hml, hown, hts, hX0, hbl, hlocks, hgv⟩ := C0
  obtain ⟨hX, hY, hA1, hA2, hXY1, hXY2, hK1, hK2, hN⟩ := hF
  obtain ⟨hP1, hP2, hR, hS⟩ := hS0
  have hbA : ¬ (fun q : Nat => s.heap.size ≤ q) b := Nat.not_le.mpr hbl
  have hR0 := hR
  obtain ⟨n, f, q, ts, a, hL, hB, hPp, hC, hQ, hE, hT⟩ := hR0
  have hts0 : d 0 10 = nI ts := hT.1
  have ht : ts ≤ 256 := hT.2.2.1
  have htse : rf_T e 0 22 = nI ts := by rw [rf_T_j (by decide)]; exact hT.2.1
  refine lv_aload_n hx hb dL_law_462 rfl (lv_at hl 1 rfl) ?_
  refine lv_aload_n hx hb dL_law_463 rfl (lv_at hl 0 rfl) ?_
  refine lv_iload_n hx hb dL_law_464 rfl (lv_at hl 3 rfl) ?_
  refine lv_iconst (v := 1) hx hb dL_law_465 (by decide) ?_
  refine lv_iadd hx hb dL_law_466 ?_
  refine W.eq (g2 := F0 m 467 ls (.int (nI (i + 1)) :: .ref b :: .ref (X.2.1 0) :: [])) (by rw [show nI i + 1 = nI (i + 1) from nI_add i 1]) ?_
  refine va_sld hx hb hX0 hbl hbA hS (vp_in_nI (show i + 1 < L by omega) (by omega)) dL_law_467 ?_
  refine W.eq (g2 := F0 m 468 ls (.int (xs (i + 1)) :: .ref (X.2.1 0) :: [])) (by rw [nI_clamp (show i + 1 < 2 ^ 31 by omega)]) ?_
  refine gw_calliF (va_runV (As := [.int (xs (i + 1))]) (rest := []) ⟨hx, hb, hml, hown, hts⟩ (c_WatchList_put X hX d π (xs (i + 1)) ts hts0 ht) ⟨callB_of 1 hts glX3_put rfl rfl rfl (hts _ tG_22) (hts _ tG_159) pdX3_put ⟨Nat.le_of_ble_eq_true rfl, Nat.le_of_ble_eq_true rfl⟩, hts _ tG_160, hts _ tG_161⟩ ⟨wl_blind, gw_recv hK1 hP1 0 (by decide) wl_c0 rfl, wl_at hP1 hK1 hN⟩ rfl rfl hl.1 rfl (lv_room (Nat.le_of_ble_eq_true rfl)) dL_law_468 hcs) hS hA1 (fun r1 u1 t1 locs hw1 hP1 hk hS => ?_)
  replace hP1 : va_P X.1 vwCl (wl_ws X u1.1 u1.2) t1.heap := hP1
  replace hP2 := gw_keep hP2 hk hXY2
  refine lv_aload_n hx hb dL_law_471 rfl (lv_at hl 2 rfl) ?_
  refine lv_aload_n hx hb dL_law_472 rfl (lv_at hl 0 rfl) ?_
  refine lv_iload_n hx hb dL_law_473 rfl (lv_at hl 3 rfl) ?_
  refine lv_iconst (v := 1) hx hb dL_law_474 (by decide) ?_
  refine lv_iadd hx hb dL_law_475 ?_
  refine W.eq (g2 := F0 m 476 ls (.int (nI (i + 1)) :: .ref b :: .ref (Y.2.1 0) :: .int r1 :: [])) (by rw [show nI i + 1 = nI (i + 1) from nI_add i 1]) ?_
  refine va_sld hx hb hX0 hbl hbA hS (vp_in_nI (show i + 1 < L by omega) (by omega)) dL_law_476 ?_
  refine W.eq (g2 := F0 m 477 ls (.int (xs (i + 1)) :: .ref (Y.2.1 0) :: .int r1 :: [])) (by rw [nI_clamp (show i + 1 < 2 ^ 31 by omega)]) ?_
  refine gw_calliF (va_runV (As := [.int (xs (i + 1))]) (rest := [.int r1]) ⟨hx, hb, hml, hown, hts⟩ (c_WatchListModel_put Y hY e (fun k => k) (xs (i + 1)) ts htse ht) ⟨callB_of 1 hts glX4_put rfl rfl rfl (hts _ tG_26) (hts _ tG_295) pdX4_put ⟨Nat.le_of_ble_eq_true rfl, Nat.le_of_ble_eq_true rfl⟩, hts _ tG_296, hts _ tG_297⟩ ⟨rf_blind, gw_recv hK2 hP2 0 (by decide) rf_c0 rfl, rf_at hP2 hK2 trivial⟩ rfl rfl hl.1 rfl (lv_room (Nat.le_of_ble_eq_true rfl)) dL_law_477 hcs) hS hA2 (fun r2 u2 t2 locs hw2 hP2 hk hS => ?_)
  replace hP1 := gw_keep hP1 hk hXY1
  obtain ⟨er, hR1⟩ := op_put (rl_T hR) hts0 ht hw1 hw2
  refine lv_icmp_eq (tgt := 702) hx hb dL_law_480 (by decide) (fun c_1 => ?_) (fun c_1 => absurd er c_1)
  exact kk u1.1 u2.1 u1.2 _ _ ⟨hP1, lw_rho hP2, hR1, hS⟩
set_option maxHeartbeats 4000000 in
set_option maxRecDepth 100000 in
theorem lc_act {p : Program} {l : Launch} {e0 : Env} {s : State} {m : MethodId} {below : List Frame} {meth : Method} {c : Code} {b L : Nat} {xs : Nat → Int32} (C0 : lw_At p s m meth c b L xs) (hL4 : L ≤ 4096) {X : wl_X} {Y : rf_X} (hF : lw_F s X Y) {i : Nat} (hi : i + 8 ≤ L) {d e : Nat → Nat → Int32} {π : Nat → Nat} {H : Heap} {locs : List Loc} {cells slots : Nat} (hcs : cells + 0 ≤ room_1.cells ∧ slots + 0 ≤ room_1.slots) {Q : State → Prop} (hS0 : lw_S s X Y d π e H locs) {ls : Array Slot} (hl : lv_has ls 4 [(0, .ref b), (1, .ref (X.2.1 0)), (2, .ref (Y.2.1 0)), (3, .int (nI i))]) (kk : ∀ (d e : Nat → Nat → Int32) (π : Nat → Nat) (H : Heap) (locs : List Loc), lw_S s X Y d π e H locs → W p l e0 room_1 s m #[Value.ref b] below meth c H locs cells slots Q (F0 m 702 ls [])) : W p l e0 room_1 s m #[Value.ref b] below meth c H locs cells slots Q (F0 m 485 ls []) := by
  obtain ⟨hx, hb, hr, hml, hown, hts, hX0, hbl, hlocks, hgv⟩ := C0
  obtain ⟨hX, hY, hA1, hA2, hXY1, hXY2, hK1, hK2, hN⟩ := hF
  obtain ⟨hP1, hP2, hR, hS⟩ := hS0
  have hbA : ¬ (fun q : Nat => s.heap.size ≤ q) b := Nat.not_le.mpr hbl
  have hR0 := hR
  obtain ⟨n, f, q, ts, a, hL, hB, hPp, hC, hQ, hE, hT⟩ := hR0
  have hts0 : d 0 10 = nI ts := hT.1
  have ht : ts ≤ 256 := hT.2.2.1
  have htse : rf_T e 0 22 = nI ts := by rw [rf_T_j (by decide)]; exact hT.2.1
  have hfit : ∀ j, j < 256 → fits .byte (.int (d 5 j)) = true := fun j hj => rl_fit (hT.2.2.2.1 j hj)
  have hfte : ∀ j, j < 256 → (rf_T e 17 j).toInt8.toInt32 = rf_T e 17 j := fun j hj => by rw [rf_T_k (by decide)]; exact hT.2.2.2.2.1 j hj
  refine lv_aload_n hx hb dL_law_485 rfl (lv_at hl 1 rfl) ?_
  refine lv_aload_n hx hb dL_law_486 rfl (lv_at hl 0 rfl) ?_
  refine lv_iload_n hx hb dL_law_487 rfl (lv_at hl 3 rfl) ?_
  refine lv_iconst (v := 1) hx hb dL_law_488 (by decide) ?_
  refine lv_iadd hx hb dL_law_489 ?_
  refine W.eq (g2 := F0 m 490 ls (.int (nI (i + 1)) :: .ref b :: .ref (X.2.1 0) :: [])) (by rw [show nI i + 1 = nI (i + 1) from nI_add i 1]) ?_
  refine va_sld hx hb hX0 hbl hbA hS (vp_in_nI (show i + 1 < L by omega) (by omega)) dL_law_490 ?_
  refine W.eq (g2 := F0 m 491 ls (.int (xs (i + 1)) :: .ref (X.2.1 0) :: [])) (by rw [nI_clamp (show i + 1 < 2 ^ 31 by omega)]) ?_
  refine gw_calliF (va_runV (As := [.int (xs (i + 1))]) (rest := []) ⟨hx, hb, hml, hown, hts⟩ (c_WatchList_act X hX d π (xs (i + 1)) ts hts0 ht hfit) ⟨callB_of 1 hts glX3_act rfl rfl rfl (hts _ tG_22) (hts _ tG_163) pdX3_act ⟨Nat.le_of_ble_eq_true rfl, Nat.le_of_ble_eq_true rfl⟩, hts _ tG_164, hts _ tG_165⟩ ⟨wl_blind, gw_recv hK1 hP1 0 (by decide) wl_c0 rfl, wl_at hP1 hK1 hN⟩ rfl rfl hl.1 rfl (lv_room (Nat.le_of_ble_eq_true rfl)) dL_law_491 hcs) hS hA1 (fun r1 u1 t1 locs hw1 hP1 hk hS => ?_)
  replace hP1 : va_P X.1 vwCl (wl_ws X u1.1 u1.2) t1.heap := hP1
  replace hP2 := gw_keep hP2 hk hXY2
  refine lv_aload_n hx hb dL_law_494 rfl (lv_at hl 2 rfl) ?_
  refine lv_aload_n hx hb dL_law_495 rfl (lv_at hl 0 rfl) ?_
  refine lv_iload_n hx hb dL_law_496 rfl (lv_at hl 3 rfl) ?_
  refine lv_iconst (v := 1) hx hb dL_law_497 (by decide) ?_
  refine lv_iadd hx hb dL_law_498 ?_
  refine W.eq (g2 := F0 m 499 ls (.int (nI (i + 1)) :: .ref b :: .ref (Y.2.1 0) :: .int r1 :: [])) (by rw [show nI i + 1 = nI (i + 1) from nI_add i 1]) ?_
  refine va_sld hx hb hX0 hbl hbA hS (vp_in_nI (show i + 1 < L by omega) (by omega)) dL_law_499 ?_
  refine W.eq (g2 := F0 m 500 ls (.int (xs (i + 1)) :: .ref (Y.2.1 0) :: .int r1 :: [])) (by rw [nI_clamp (show i + 1 < 2 ^ 31 by omega)]) ?_
  refine gw_calliF (va_runV (As := [.int (xs (i + 1))]) (rest := [.int r1]) ⟨hx, hb, hml, hown, hts⟩ (c_WatchListModel_act Y hY e (fun k => k) (xs (i + 1)) ts htse ht hfte) ⟨callB_of 1 hts glX4_act rfl rfl rfl (hts _ tG_26) (hts _ tG_299) pdX4_act ⟨Nat.le_of_ble_eq_true rfl, Nat.le_of_ble_eq_true rfl⟩, hts _ tG_300, hts _ tG_301⟩ ⟨rf_blind, gw_recv hK2 hP2 0 (by decide) rf_c0 rfl, rf_at hP2 hK2 trivial⟩ rfl rfl hl.1 rfl (lv_room (Nat.le_of_ble_eq_true rfl)) dL_law_500 hcs) hS hA2 (fun r2 u2 t2 locs hw2 hP2 hk hS => ?_)
  replace hP1 := gw_keep hP1 hk hXY1
  obtain ⟨er, hR1⟩ := op_act (rl_T hR) hts0 ht hw1 hw2
  refine lv_icmp_eq (tgt := 702) hx hb dL_law_503 (by decide) (fun c_1 => ?_) (fun c_1 => absurd er c_1)
  exact kk u1.1 u2.1 u1.2 _ _ ⟨hP1, lw_rho hP2, hR1, hS⟩
set_option maxHeartbeats 4000000 in
set_option maxRecDepth 100000 in
theorem lc_drop {p : Program} {l : Launch} {e0 : Env} {s : State} {m : MethodId} {below : List Frame} {meth : Method} {c : Code} {b L : Nat} {xs : Nat → Int32} (C0 : lw_At p s m meth c b L xs) (hL4 : L ≤ 4096) {X : wl_X} {Y : rf_X} (hF : lw_F s X Y) {i : Nat} (hi : i + 8 ≤ L) {d e : Nat → Nat → Int32} {π : Nat → Nat} {H : Heap} {locs : List Loc} {cells slots : Nat} (hcs : cells + 0 ≤ room_1.cells ∧ slots + 0 ≤ room_1.slots) {Q : State → Prop} (hS0 : lw_S s X Y d π e H locs) {ls : Array Slot} (hl : lv_has ls 4 [(0, .ref b), (1, .ref (X.2.1 0)), (2, .ref (Y.2.1 0)), (3, .int (nI i))]) (kk : ∀ (d e : Nat → Nat → Int32) (π : Nat → Nat) (H : Heap) (locs : List Loc), lw_S s X Y d π e H locs → W p l e0 room_1 s m #[Value.ref b] below meth c H locs cells slots Q (F0 m 702 ls [])) : W p l e0 room_1 s m #[Value.ref b] below meth c H locs cells slots Q (F0 m 508 ls []) := by
  obtain ⟨hx, hb, hr, hml, hown, hts, hX0, hbl, hlocks, hgv⟩ := C0
  obtain ⟨hX, hY, hA1, hA2, hXY1, hXY2, hK1, hK2, hN⟩ := hF
  obtain ⟨hP1, hP2, hR, hS⟩ := hS0
  have hbA : ¬ (fun q : Nat => s.heap.size ≤ q) b := Nat.not_le.mpr hbl
  have hR0 := hR
  obtain ⟨n, f, q, ts, a, hL, hB, hPp, hC, hQ, hE, hT⟩ := hR0
  refine lv_aload_n hx hb dL_law_508 rfl (lv_at hl 1 rfl) ?_
  refine lv_aload_n hx hb dL_law_509 rfl (lv_at hl 0 rfl) ?_
  refine lv_iload_n hx hb dL_law_510 rfl (lv_at hl 3 rfl) ?_
  refine lv_iconst (v := 1) hx hb dL_law_511 (by decide) ?_
  refine lv_iadd hx hb dL_law_512 ?_
  refine W.eq (g2 := F0 m 513 ls (.int (nI (i + 1)) :: .ref b :: .ref (X.2.1 0) :: [])) (by rw [show nI i + 1 = nI (i + 1) from nI_add i 1]) ?_
  refine va_sld hx hb hX0 hbl hbA hS (vp_in_nI (show i + 1 < L by omega) (by omega)) dL_law_513 ?_
  refine W.eq (g2 := F0 m 514 ls (.int (xs (i + 1)) :: .ref (X.2.1 0) :: [])) (by rw [nI_clamp (show i + 1 < 2 ^ 31 by omega)]) ?_
  refine gw_calliF (va_runV (As := [.int (xs (i + 1))]) (rest := []) ⟨hx, hb, hml, hown, hts⟩ (c_WatchList_drop X hX d π (xs (i + 1)) ) ⟨callB_of 1 hts glX3_drop rfl rfl rfl (hts _ tG_22) (hts _ tG_174) pdX3_drop ⟨Nat.le_of_ble_eq_true rfl, Nat.le_of_ble_eq_true rfl⟩, hts _ tG_175, hts _ tG_176⟩ ⟨wl_blind, gw_recv hK1 hP1 0 (by decide) wl_c0 rfl, wl_at hP1 hK1 hN⟩ rfl rfl hl.1 rfl (lv_room (Nat.le_of_ble_eq_true rfl)) dL_law_514 hcs) hS hA1 (fun r1 u1 t1 locs hw1 hP1 hk hS => ?_)
  replace hP1 : va_P X.1 vwCl (wl_ws X u1.1 u1.2) t1.heap := hP1
  replace hP2 := gw_keep hP2 hk hXY2
  refine lv_aload_n hx hb dL_law_517 rfl (lv_at hl 2 rfl) ?_
  refine lv_aload_n hx hb dL_law_518 rfl (lv_at hl 0 rfl) ?_
  refine lv_iload_n hx hb dL_law_519 rfl (lv_at hl 3 rfl) ?_
  refine lv_iconst (v := 1) hx hb dL_law_520 (by decide) ?_
  refine lv_iadd hx hb dL_law_521 ?_
  refine W.eq (g2 := F0 m 522 ls (.int (nI (i + 1)) :: .ref b :: .ref (Y.2.1 0) :: .int r1 :: [])) (by rw [show nI i + 1 = nI (i + 1) from nI_add i 1]) ?_
  refine va_sld hx hb hX0 hbl hbA hS (vp_in_nI (show i + 1 < L by omega) (by omega)) dL_law_522 ?_
  refine W.eq (g2 := F0 m 523 ls (.int (xs (i + 1)) :: .ref (Y.2.1 0) :: .int r1 :: [])) (by rw [nI_clamp (show i + 1 < 2 ^ 31 by omega)]) ?_
  refine gw_calliF (va_runV (As := [.int (xs (i + 1))]) (rest := [.int r1]) ⟨hx, hb, hml, hown, hts⟩ (c_WatchListModel_drop Y hY e (fun k => k) (xs (i + 1)) ) ⟨callB_of 1 hts glX4_drop rfl rfl rfl (hts _ tG_26) (hts _ tG_303) pdX4_drop ⟨Nat.le_of_ble_eq_true rfl, Nat.le_of_ble_eq_true rfl⟩, hts _ tG_304, hts _ tG_305⟩ ⟨rf_blind, gw_recv hK2 hP2 0 (by decide) rf_c0 rfl, rf_at hP2 hK2 trivial⟩ rfl rfl hl.1 rfl (lv_room (Nat.le_of_ble_eq_true rfl)) dL_law_523 hcs) hS hA2 (fun r2 u2 t2 locs hw2 hP2 hk hS => ?_)
  replace hP1 := gw_keep hP1 hk hXY1
  obtain ⟨er, hR1⟩ := op_drop (rl_T hR) hw1 hw2
  refine lv_icmp_eq (tgt := 702) hx hb dL_law_526 (by decide) (fun c_1 => ?_) (fun c_1 => absurd er c_1)
  exact kk u1.1 u2.1 u1.2 _ _ ⟨hP1, lw_rho hP2, hR1, hS⟩
set_option maxHeartbeats 4000000 in
set_option maxRecDepth 100000 in
theorem lc_arm {p : Program} {l : Launch} {e0 : Env} {s : State} {m : MethodId} {below : List Frame} {meth : Method} {c : Code} {b L : Nat} {xs : Nat → Int32} (C0 : lw_At p s m meth c b L xs) (hL4 : L ≤ 4096) {X : wl_X} {Y : rf_X} (hF : lw_F s X Y) {i : Nat} (hi : i + 8 ≤ L) {d e : Nat → Nat → Int32} {π : Nat → Nat} {H : Heap} {locs : List Loc} {cells slots : Nat} (hcs : cells + 0 ≤ room_1.cells ∧ slots + 0 ≤ room_1.slots) {Q : State → Prop} (hS0 : lw_S s X Y d π e H locs) {ls : Array Slot} (hl : lv_has ls 4 [(0, .ref b), (1, .ref (X.2.1 0)), (2, .ref (Y.2.1 0)), (3, .int (nI i))]) (kk : ∀ (d e : Nat → Nat → Int32) (π : Nat → Nat) (H : Heap) (locs : List Loc), lw_S s X Y d π e H locs → W p l e0 room_1 s m #[Value.ref b] below meth c H locs cells slots Q (F0 m 702 ls [])) : W p l e0 room_1 s m #[Value.ref b] below meth c H locs cells slots Q (F0 m 531 ls []) := by
  obtain ⟨hx, hb, hr, hml, hown, hts, hX0, hbl, hlocks, hgv⟩ := C0
  obtain ⟨hX, hY, hA1, hA2, hXY1, hXY2, hK1, hK2, hN⟩ := hF
  obtain ⟨hP1, hP2, hR, hS⟩ := hS0
  have hbA : ¬ (fun q : Nat => s.heap.size ≤ q) b := Nat.not_le.mpr hbl
  have hR0 := hR
  obtain ⟨n, f, q, ts, a, hL, hB, hPp, hC, hQ, hE, hT⟩ := hR0
  refine lv_aload_n hx hb dL_law_531 rfl (lv_at hl 1 rfl) ?_
  refine lv_aload_n hx hb dL_law_532 rfl (lv_at hl 0 rfl) ?_
  refine lv_iload_n hx hb dL_law_533 rfl (lv_at hl 3 rfl) ?_
  refine lv_iconst (v := 1) hx hb dL_law_534 (by decide) ?_
  refine lv_iadd hx hb dL_law_535 ?_
  refine W.eq (g2 := F0 m 536 ls (.int (nI (i + 1)) :: .ref b :: .ref (X.2.1 0) :: [])) (by rw [show nI i + 1 = nI (i + 1) from nI_add i 1]) ?_
  refine va_sld hx hb hX0 hbl hbA hS (vp_in_nI (show i + 1 < L by omega) (by omega)) dL_law_536 ?_
  refine W.eq (g2 := F0 m 537 ls (.int (xs (i + 1)) :: .ref (X.2.1 0) :: [])) (by rw [nI_clamp (show i + 1 < 2 ^ 31 by omega)]) ?_
  refine lv_aload_n hx hb dL_law_537 rfl (lv_at hl 0 rfl) ?_
  refine lv_iload_n hx hb dL_law_538 rfl (lv_at hl 3 rfl) ?_
  refine lv_iconst (v := 2) hx hb dL_law_539 (by decide) ?_
  refine lv_iadd hx hb dL_law_540 ?_
  refine W.eq (g2 := F0 m 541 ls (.int (nI (i + 2)) :: .ref b :: .int (xs (i + 1)) :: .ref (X.2.1 0) :: [])) (by rw [show nI i + 2 = nI (i + 2) from nI_add i 2]) ?_
  refine va_sld hx hb hX0 hbl hbA hS (vp_in_nI (show i + 2 < L by omega) (by omega)) dL_law_541 ?_
  refine W.eq (g2 := F0 m 542 ls (.int (xs (i + 2)) :: .int (xs (i + 1)) :: .ref (X.2.1 0) :: [])) (by rw [nI_clamp (show i + 2 < 2 ^ 31 by omega)]) ?_
  refine lv_if_eq (tgt := 549) hx hb dL_law_542 (by decide) (fun c_1 => ?_) (fun c_1 => ?_)
  · have hzc := c_1
    refine lv_iconst (v := 0) hx hb dL_law_549 (by decide) ?_
    refine gw_calliF (va_runV (As := [.int (xs (i + 1)), .int 0]) (rest := []) ⟨hx, hb, hml, hown, hts⟩ (c_WatchList_arm X hX d π (xs (i + 1)) 0 (Or.inl rfl)) ⟨callB_of 2 hts glX3_arm rfl rfl rfl (hts _ tG_22) (hts _ tG_181) pdX3_arm ⟨Nat.le_of_ble_eq_true rfl, Nat.le_of_ble_eq_true rfl⟩, hts _ tG_182, hts _ tG_183⟩ ⟨wl_blind, gw_recv hK1 hP1 0 (by decide) wl_c0 rfl, wl_at hP1 hK1 hN⟩ rfl rfl hl.1 rfl (lv_room (Nat.le_of_ble_eq_true rfl)) dL_law_550 hcs) hS hA1 (fun r1 u1 t1 locs hw1 hP1 hk hS => ?_)
    replace hP1 : va_P X.1 vwCl (wl_ws X u1.1 u1.2) t1.heap := hP1
    replace hP2 := gw_keep hP2 hk hXY2
    refine lv_aload_n hx hb dL_law_553 rfl (lv_at hl 2 rfl) ?_
    refine lv_aload_n hx hb dL_law_554 rfl (lv_at hl 0 rfl) ?_
    refine lv_iload_n hx hb dL_law_555 rfl (lv_at hl 3 rfl) ?_
    refine lv_iconst (v := 1) hx hb dL_law_556 (by decide) ?_
    refine lv_iadd hx hb dL_law_557 ?_
    refine W.eq (g2 := F0 m 558 ls (.int (nI (i + 1)) :: .ref b :: .ref (Y.2.1 0) :: .int r1 :: [])) (by rw [show nI i + 1 = nI (i + 1) from nI_add i 1]) ?_
    refine va_sld hx hb hX0 hbl hbA hS (vp_in_nI (show i + 1 < L by omega) (by omega)) dL_law_558 ?_
    refine W.eq (g2 := F0 m 559 ls (.int (xs (i + 1)) :: .ref (Y.2.1 0) :: .int r1 :: [])) (by rw [nI_clamp (show i + 1 < 2 ^ 31 by omega)]) ?_
    refine lv_aload_n hx hb dL_law_559 rfl (lv_at hl 0 rfl) ?_
    refine lv_iload_n hx hb dL_law_560 rfl (lv_at hl 3 rfl) ?_
    refine lv_iconst (v := 2) hx hb dL_law_561 (by decide) ?_
    refine lv_iadd hx hb dL_law_562 ?_
    refine W.eq (g2 := F0 m 563 ls (.int (nI (i + 2)) :: .ref b :: .int (xs (i + 1)) :: .ref (Y.2.1 0) :: .int r1 :: [])) (by rw [show nI i + 2 = nI (i + 2) from nI_add i 2]) ?_
    refine va_sld hx hb hX0 hbl hbA hS (vp_in_nI (show i + 2 < L by omega) (by omega)) dL_law_563 ?_
    refine W.eq (g2 := F0 m 564 ls (.int (xs (i + 2)) :: .int (xs (i + 1)) :: .ref (Y.2.1 0) :: .int r1 :: [])) (by rw [nI_clamp (show i + 2 < 2 ^ 31 by omega)]) ?_
    refine lv_if_eq (tgt := 571) hx hb dL_law_564 (by decide) (fun c_2 => ?_) (fun c_2 => ?_)
    · refine lv_iconst (v := 0) hx hb dL_law_571 (by decide) ?_
      refine gw_calliF (va_runV (As := [.int (xs (i + 1)), .int 0]) (rest := [.int r1]) ⟨hx, hb, hml, hown, hts⟩ (c_WatchListModel_arm Y hY e (fun k => k) (xs (i + 1)) 0 (Or.inl rfl)) ⟨callB_of 2 hts glX4_arm rfl rfl rfl (hts _ tG_26) (hts _ tG_307) pdX4_arm ⟨Nat.le_of_ble_eq_true rfl, Nat.le_of_ble_eq_true rfl⟩, hts _ tG_308, hts _ tG_309⟩ ⟨rf_blind, gw_recv hK2 hP2 0 (by decide) rf_c0 rfl, rf_at hP2 hK2 trivial⟩ rfl rfl hl.1 rfl (lv_room (Nat.le_of_ble_eq_true rfl)) dL_law_572 hcs) hS hA2 (fun r2 u2 t2 locs hw2 hP2 hk hS => ?_)
      replace hP1 := gw_keep hP1 hk hXY1
      obtain ⟨er, hR1⟩ := op_arm (Or.inl rfl) (rl_T hR) hw1 hw2
      refine lv_icmp_eq (tgt := 702) hx hb dL_law_575 (by decide) (fun c_3 => ?_) (fun c_3 => absurd er c_3)
      exact kk u1.1 u2.1 u1.2 _ _ ⟨hP1, lw_rho hP2, hR1, hS⟩
    · exact absurd hzc c_2
  · have hzc := c_1
    refine lv_iconst (v := 1) hx hb dL_law_545 (by decide) ?_
    refine lv_goto (tgt := 550) hx hb dL_law_546 (by decide) ?_
    refine gw_calliF (va_runV (As := [.int (xs (i + 1)), .int 1]) (rest := []) ⟨hx, hb, hml, hown, hts⟩ (c_WatchList_arm X hX d π (xs (i + 1)) 1 (Or.inr rfl)) ⟨callB_of 2 hts glX3_arm rfl rfl rfl (hts _ tG_22) (hts _ tG_181) pdX3_arm ⟨Nat.le_of_ble_eq_true rfl, Nat.le_of_ble_eq_true rfl⟩, hts _ tG_182, hts _ tG_183⟩ ⟨wl_blind, gw_recv hK1 hP1 0 (by decide) wl_c0 rfl, wl_at hP1 hK1 hN⟩ rfl rfl hl.1 rfl (lv_room (Nat.le_of_ble_eq_true rfl)) dL_law_550 hcs) hS hA1 (fun r1 u1 t1 locs hw1 hP1 hk hS => ?_)
    replace hP1 : va_P X.1 vwCl (wl_ws X u1.1 u1.2) t1.heap := hP1
    replace hP2 := gw_keep hP2 hk hXY2
    refine lv_aload_n hx hb dL_law_553 rfl (lv_at hl 2 rfl) ?_
    refine lv_aload_n hx hb dL_law_554 rfl (lv_at hl 0 rfl) ?_
    refine lv_iload_n hx hb dL_law_555 rfl (lv_at hl 3 rfl) ?_
    refine lv_iconst (v := 1) hx hb dL_law_556 (by decide) ?_
    refine lv_iadd hx hb dL_law_557 ?_
    refine W.eq (g2 := F0 m 558 ls (.int (nI (i + 1)) :: .ref b :: .ref (Y.2.1 0) :: .int r1 :: [])) (by rw [show nI i + 1 = nI (i + 1) from nI_add i 1]) ?_
    refine va_sld hx hb hX0 hbl hbA hS (vp_in_nI (show i + 1 < L by omega) (by omega)) dL_law_558 ?_
    refine W.eq (g2 := F0 m 559 ls (.int (xs (i + 1)) :: .ref (Y.2.1 0) :: .int r1 :: [])) (by rw [nI_clamp (show i + 1 < 2 ^ 31 by omega)]) ?_
    refine lv_aload_n hx hb dL_law_559 rfl (lv_at hl 0 rfl) ?_
    refine lv_iload_n hx hb dL_law_560 rfl (lv_at hl 3 rfl) ?_
    refine lv_iconst (v := 2) hx hb dL_law_561 (by decide) ?_
    refine lv_iadd hx hb dL_law_562 ?_
    refine W.eq (g2 := F0 m 563 ls (.int (nI (i + 2)) :: .ref b :: .int (xs (i + 1)) :: .ref (Y.2.1 0) :: .int r1 :: [])) (by rw [show nI i + 2 = nI (i + 2) from nI_add i 2]) ?_
    refine va_sld hx hb hX0 hbl hbA hS (vp_in_nI (show i + 2 < L by omega) (by omega)) dL_law_563 ?_
    refine W.eq (g2 := F0 m 564 ls (.int (xs (i + 2)) :: .int (xs (i + 1)) :: .ref (Y.2.1 0) :: .int r1 :: [])) (by rw [nI_clamp (show i + 2 < 2 ^ 31 by omega)]) ?_
    refine lv_if_eq (tgt := 571) hx hb dL_law_564 (by decide) (fun c_4 => ?_) (fun c_4 => ?_)
    · exact absurd c_4 hzc
    · refine lv_iconst (v := 1) hx hb dL_law_567 (by decide) ?_
      refine lv_goto (tgt := 572) hx hb dL_law_568 (by decide) ?_
      refine gw_calliF (va_runV (As := [.int (xs (i + 1)), .int 1]) (rest := [.int r1]) ⟨hx, hb, hml, hown, hts⟩ (c_WatchListModel_arm Y hY e (fun k => k) (xs (i + 1)) 1 (Or.inr rfl)) ⟨callB_of 2 hts glX4_arm rfl rfl rfl (hts _ tG_26) (hts _ tG_307) pdX4_arm ⟨Nat.le_of_ble_eq_true rfl, Nat.le_of_ble_eq_true rfl⟩, hts _ tG_308, hts _ tG_309⟩ ⟨rf_blind, gw_recv hK2 hP2 0 (by decide) rf_c0 rfl, rf_at hP2 hK2 trivial⟩ rfl rfl hl.1 rfl (lv_room (Nat.le_of_ble_eq_true rfl)) dL_law_572 hcs) hS hA2 (fun r2 u2 t2 locs hw2 hP2 hk hS => ?_)
      replace hP1 := gw_keep hP1 hk hXY1
      obtain ⟨er, hR1⟩ := op_arm (Or.inr rfl) (rl_T hR) hw1 hw2
      refine lv_icmp_eq (tgt := 702) hx hb dL_law_575 (by decide) (fun c_5 => ?_) (fun c_5 => absurd er c_5)
      exact kk u1.1 u2.1 u1.2 _ _ ⟨hP1, lw_rho hP2, hR1, hS⟩
set_option maxHeartbeats 4000000 in
set_option maxRecDepth 100000 in
theorem lc_limit {p : Program} {l : Launch} {e0 : Env} {s : State} {m : MethodId} {below : List Frame} {meth : Method} {c : Code} {b L : Nat} {xs : Nat → Int32} (C0 : lw_At p s m meth c b L xs) (hL4 : L ≤ 4096) {X : wl_X} {Y : rf_X} (hF : lw_F s X Y) {i : Nat} (hi : i + 8 ≤ L) {d e : Nat → Nat → Int32} {π : Nat → Nat} {H : Heap} {locs : List Loc} {cells slots : Nat} (hcs : cells + 0 ≤ room_1.cells ∧ slots + 0 ≤ room_1.slots) {Q : State → Prop} (hS0 : lw_S s X Y d π e H locs) {ls : Array Slot} (hl : lv_has ls 4 [(0, .ref b), (1, .ref (X.2.1 0)), (2, .ref (Y.2.1 0)), (3, .int (nI i))]) (kk : ∀ (d e : Nat → Nat → Int32) (π : Nat → Nat) (H : Heap) (locs : List Loc), lw_S s X Y d π e H locs → W p l e0 room_1 s m #[Value.ref b] below meth c H locs cells slots Q (F0 m 702 ls [])) : W p l e0 room_1 s m #[Value.ref b] below meth c H locs cells slots Q (F0 m 580 ls []) := by
  obtain ⟨hx, hb, hr, hml, hown, hts, hX0, hbl, hlocks, hgv⟩ := C0
  obtain ⟨hX, hY, hA1, hA2, hXY1, hXY2, hK1, hK2, hN⟩ := hF
  obtain ⟨hP1, hP2, hR, hS⟩ := hS0
  have hbA : ¬ (fun q : Nat => s.heap.size ≤ q) b := Nat.not_le.mpr hbl
  have hR0 := hR
  obtain ⟨n, f, q, ts, a, hL, hB, hPp, hC, hQ, hE, hT⟩ := hR0
  have hn : d 0 2 = nI n := hL.2.1
  have hn16 : n ≤ 16 := hL.1
  have hπ : ∀ j, j < 16 → π j < 16 := hL.2.2.1
  have h7 : ∀ j, j < 16 → d (8 + j) 7 = 0 ∨ d (8 + j) 7 = 1 := hB.2.2.1
  have h6 : ∀ j, j < 16 → d (8 + j) 6 = 0 ∨ d (8 + j) 6 = 1 := hB.2.2.2
  refine lv_aload_n hx hb dL_law_580 rfl (lv_at hl 1 rfl) ?_
  refine lv_aload_n hx hb dL_law_581 rfl (lv_at hl 0 rfl) ?_
  refine lv_iload_n hx hb dL_law_582 rfl (lv_at hl 3 rfl) ?_
  refine lv_iconst (v := 1) hx hb dL_law_583 (by decide) ?_
  refine lv_iadd hx hb dL_law_584 ?_
  refine W.eq (g2 := F0 m 585 ls (.int (nI (i + 1)) :: .ref b :: .ref (X.2.1 0) :: [])) (by rw [show nI i + 1 = nI (i + 1) from nI_add i 1]) ?_
  refine va_sld hx hb hX0 hbl hbA hS (vp_in_nI (show i + 1 < L by omega) (by omega)) dL_law_585 ?_
  refine W.eq (g2 := F0 m 586 ls (.int (xs (i + 1)) :: .ref (X.2.1 0) :: [])) (by rw [nI_clamp (show i + 1 < 2 ^ 31 by omega)]) ?_
  refine lv_aload_n hx hb dL_law_586 rfl (lv_at hl 0 rfl) ?_
  refine lv_iload_n hx hb dL_law_587 rfl (lv_at hl 3 rfl) ?_
  refine lv_iconst (v := 2) hx hb dL_law_588 (by decide) ?_
  refine lv_iadd hx hb dL_law_589 ?_
  refine W.eq (g2 := F0 m 590 ls (.int (nI (i + 2)) :: .ref b :: .int (xs (i + 1)) :: .ref (X.2.1 0) :: [])) (by rw [show nI i + 2 = nI (i + 2) from nI_add i 2]) ?_
  refine va_sld hx hb hX0 hbl hbA hS (vp_in_nI (show i + 2 < L by omega) (by omega)) dL_law_590 ?_
  refine W.eq (g2 := F0 m 591 ls (.int (xs (i + 2)) :: .int (xs (i + 1)) :: .ref (X.2.1 0) :: [])) (by rw [nI_clamp (show i + 2 < 2 ^ 31 by omega)]) ?_
  refine gw_calliF (va_runV (As := [.int (xs (i + 1)), .int (xs (i + 2))]) (rest := []) ⟨hx, hb, hml, hown, hts⟩ (c_WatchList_limit X hX d π (xs (i + 1)) (xs (i + 2)) n hn hn16 hπ h7 h6) ⟨callB_of 2 hts glX3_limit rfl rfl rfl (hts _ tG_22) (hts _ tG_185) pdX3_limit ⟨Nat.le_of_ble_eq_true rfl, Nat.le_of_ble_eq_true rfl⟩, hts _ tG_186, hts _ tG_187⟩ ⟨wl_blind, gw_recv hK1 hP1 0 (by decide) wl_c0 rfl, wl_at hP1 hK1 hN⟩ rfl rfl hl.1 rfl (lv_room (Nat.le_of_ble_eq_true rfl)) dL_law_591 hcs) hS hA1 (fun r1 u1 t1 locs hw1 hP1 hk hS => ?_)
  replace hP1 : va_P X.1 vwCl (wl_ws X u1.1 u1.2) t1.heap := hP1
  replace hP2 := gw_keep hP2 hk hXY2
  refine lv_aload_n hx hb dL_law_594 rfl (lv_at hl 2 rfl) ?_
  refine lv_aload_n hx hb dL_law_595 rfl (lv_at hl 0 rfl) ?_
  refine lv_iload_n hx hb dL_law_596 rfl (lv_at hl 3 rfl) ?_
  refine lv_iconst (v := 1) hx hb dL_law_597 (by decide) ?_
  refine lv_iadd hx hb dL_law_598 ?_
  refine W.eq (g2 := F0 m 599 ls (.int (nI (i + 1)) :: .ref b :: .ref (Y.2.1 0) :: .int r1 :: [])) (by rw [show nI i + 1 = nI (i + 1) from nI_add i 1]) ?_
  refine va_sld hx hb hX0 hbl hbA hS (vp_in_nI (show i + 1 < L by omega) (by omega)) dL_law_599 ?_
  refine W.eq (g2 := F0 m 600 ls (.int (xs (i + 1)) :: .ref (Y.2.1 0) :: .int r1 :: [])) (by rw [nI_clamp (show i + 1 < 2 ^ 31 by omega)]) ?_
  refine lv_aload_n hx hb dL_law_600 rfl (lv_at hl 0 rfl) ?_
  refine lv_iload_n hx hb dL_law_601 rfl (lv_at hl 3 rfl) ?_
  refine lv_iconst (v := 2) hx hb dL_law_602 (by decide) ?_
  refine lv_iadd hx hb dL_law_603 ?_
  refine W.eq (g2 := F0 m 604 ls (.int (nI (i + 2)) :: .ref b :: .int (xs (i + 1)) :: .ref (Y.2.1 0) :: .int r1 :: [])) (by rw [show nI i + 2 = nI (i + 2) from nI_add i 2]) ?_
  refine va_sld hx hb hX0 hbl hbA hS (vp_in_nI (show i + 2 < L by omega) (by omega)) dL_law_604 ?_
  refine W.eq (g2 := F0 m 605 ls (.int (xs (i + 2)) :: .int (xs (i + 1)) :: .ref (Y.2.1 0) :: .int r1 :: [])) (by rw [nI_clamp (show i + 2 < 2 ^ 31 by omega)]) ?_
  refine gw_calliF (va_runV (As := [.int (xs (i + 1)), .int (xs (i + 2))]) (rest := [.int r1]) ⟨hx, hb, hml, hown, hts⟩ (c_WatchListModel_limit Y hY e (fun k => k) (xs (i + 1)) (xs (i + 2)) ) ⟨callB_of 2 hts glX4_limit rfl rfl rfl (hts _ tG_26) (hts _ tG_311) pdX4_limit ⟨Nat.le_of_ble_eq_true rfl, Nat.le_of_ble_eq_true rfl⟩, hts _ tG_312, hts _ tG_313⟩ ⟨rf_blind, gw_recv hK2 hP2 0 (by decide) rf_c0 rfl, rf_at hP2 hK2 trivial⟩ rfl rfl hl.1 rfl (lv_room (Nat.le_of_ble_eq_true rfl)) dL_law_605 hcs) hS hA2 (fun r2 u2 t2 locs hw2 hP2 hk hS => ?_)
  replace hP1 := gw_keep hP1 hk hXY1
  obtain ⟨er, hR1⟩ := op_limit (rl_T hR) hn hn16 hw1 hw2
  refine lv_icmp_eq (tgt := 702) hx hb dL_law_608 (by decide) (fun c_1 => ?_) (fun c_1 => absurd er c_1)
  exact kk u1.1 u2.1 u1.2 _ _ ⟨hP1, lw_rho hP2, hR1, hS⟩
set_option maxHeartbeats 4000000 in
set_option maxRecDepth 100000 in
theorem lc_event {p : Program} {l : Launch} {e0 : Env} {s : State} {m : MethodId} {below : List Frame} {meth : Method} {c : Code} {b L : Nat} {xs : Nat → Int32} (C0 : lw_At p s m meth c b L xs) (hL4 : L ≤ 4096) {X : wl_X} {Y : rf_X} (hF : lw_F s X Y) {i : Nat} (hi : i + 8 ≤ L) {d e : Nat → Nat → Int32} {π : Nat → Nat} {H : Heap} {locs : List Loc} {cells slots : Nat} (hcs : cells + 0 ≤ room_1.cells ∧ slots + 0 ≤ room_1.slots) {Q : State → Prop} (hS0 : lw_S s X Y d π e H locs) {ls : Array Slot} (hl : lv_has ls 4 [(0, .ref b), (1, .ref (X.2.1 0)), (2, .ref (Y.2.1 0)), (3, .int (nI i))]) (kk : ∀ (d e : Nat → Nat → Int32) (π : Nat → Nat) (H : Heap) (locs : List Loc), lw_S s X Y d π e H locs → W p l e0 room_1 s m #[Value.ref b] below meth c H locs cells slots Q (F0 m 702 ls [])) : W p l e0 room_1 s m #[Value.ref b] below meth c H locs cells slots Q (F0 m 613 ls []) := by
  obtain ⟨hx, hb, hr, hml, hown, hts, hX0, hbl, hlocks, hgv⟩ := C0
  obtain ⟨hX, hY, hA1, hA2, hXY1, hXY2, hK1, hK2, hN⟩ := hF
  obtain ⟨hP1, hP2, hR, hS⟩ := hS0
  have hbA : ¬ (fun q : Nat => s.heap.size ≤ q) b := Nat.not_le.mpr hbl
  have hR0 := hR
  obtain ⟨n, f, q, ts, a, hL, hB, hPp, hC, hQ, hE, hT⟩ := hR0
  have h0 : ∀ j, j < 32 → d (24 + j) 0 = 0 ∨ d (24 + j) 0 = 1 := fun j hj => by rw [(hE j hj).1]; split; exact Or.inr rfl; exact Or.inl rfl
  have h3 : ∀ j, j < 32 → d (24 + j) 3 = 0 ∨ d (24 + j) 3 = 1 := fun j hj => by rw [(hE j hj).2.2.1]; exact (hE j hj).2.2.2.1
  refine lv_aload_n hx hb dL_law_613 rfl (lv_at hl 1 rfl) ?_
  refine lv_aload_n hx hb dL_law_614 rfl (lv_at hl 0 rfl) ?_
  refine lv_iload_n hx hb dL_law_615 rfl (lv_at hl 3 rfl) ?_
  refine lv_iconst (v := 1) hx hb dL_law_616 (by decide) ?_
  refine lv_iadd hx hb dL_law_617 ?_
  refine W.eq (g2 := F0 m 618 ls (.int (nI (i + 1)) :: .ref b :: .ref (X.2.1 0) :: [])) (by rw [show nI i + 1 = nI (i + 1) from nI_add i 1]) ?_
  refine va_sld hx hb hX0 hbl hbA hS (vp_in_nI (show i + 1 < L by omega) (by omega)) dL_law_618 ?_
  refine W.eq (g2 := F0 m 619 ls (.int (xs (i + 1)) :: .ref (X.2.1 0) :: [])) (by rw [nI_clamp (show i + 1 < 2 ^ 31 by omega)]) ?_
  refine lv_aload_n hx hb dL_law_619 rfl (lv_at hl 0 rfl) ?_
  refine lv_iload_n hx hb dL_law_620 rfl (lv_at hl 3 rfl) ?_
  refine lv_iconst (v := 2) hx hb dL_law_621 (by decide) ?_
  refine lv_iadd hx hb dL_law_622 ?_
  refine W.eq (g2 := F0 m 623 ls (.int (nI (i + 2)) :: .ref b :: .int (xs (i + 1)) :: .ref (X.2.1 0) :: [])) (by rw [show nI i + 2 = nI (i + 2) from nI_add i 2]) ?_
  refine va_sld hx hb hX0 hbl hbA hS (vp_in_nI (show i + 2 < L by omega) (by omega)) dL_law_623 ?_
  refine W.eq (g2 := F0 m 624 ls (.int (xs (i + 2)) :: .int (xs (i + 1)) :: .ref (X.2.1 0) :: [])) (by rw [nI_clamp (show i + 2 < 2 ^ 31 by omega)]) ?_
  refine gw_calliF (va_runV (As := [.int (xs (i + 1)), .int (xs (i + 2))]) (rest := []) ⟨hx, hb, hml, hown, hts⟩ (c_WatchList_event X hX d π (xs (i + 1)) (xs (i + 2)) h0 h3) ⟨callB_of 2 hts glX3_event rfl rfl rfl (hts _ tG_22) (hts _ tG_193) pdX3_event ⟨Nat.le_of_ble_eq_true rfl, Nat.le_of_ble_eq_true rfl⟩, hts _ tG_194, hts _ tG_195⟩ ⟨wl_blind, gw_recv hK1 hP1 0 (by decide) wl_c0 rfl, wl_at hP1 hK1 hN⟩ rfl rfl hl.1 rfl (lv_room (Nat.le_of_ble_eq_true rfl)) dL_law_624 hcs) hS hA1 (fun r1 u1 t1 locs hw1 hP1 hk hS => ?_)
  replace hP1 : va_P X.1 vwCl (wl_ws X u1.1 u1.2) t1.heap := hP1
  replace hP2 := gw_keep hP2 hk hXY2
  refine lv_aload_n hx hb dL_law_627 rfl (lv_at hl 2 rfl) ?_
  refine lv_aload_n hx hb dL_law_628 rfl (lv_at hl 0 rfl) ?_
  refine lv_iload_n hx hb dL_law_629 rfl (lv_at hl 3 rfl) ?_
  refine lv_iconst (v := 1) hx hb dL_law_630 (by decide) ?_
  refine lv_iadd hx hb dL_law_631 ?_
  refine W.eq (g2 := F0 m 632 ls (.int (nI (i + 1)) :: .ref b :: .ref (Y.2.1 0) :: .int r1 :: [])) (by rw [show nI i + 1 = nI (i + 1) from nI_add i 1]) ?_
  refine va_sld hx hb hX0 hbl hbA hS (vp_in_nI (show i + 1 < L by omega) (by omega)) dL_law_632 ?_
  refine W.eq (g2 := F0 m 633 ls (.int (xs (i + 1)) :: .ref (Y.2.1 0) :: .int r1 :: [])) (by rw [nI_clamp (show i + 1 < 2 ^ 31 by omega)]) ?_
  refine lv_aload_n hx hb dL_law_633 rfl (lv_at hl 0 rfl) ?_
  refine lv_iload_n hx hb dL_law_634 rfl (lv_at hl 3 rfl) ?_
  refine lv_iconst (v := 2) hx hb dL_law_635 (by decide) ?_
  refine lv_iadd hx hb dL_law_636 ?_
  refine W.eq (g2 := F0 m 637 ls (.int (nI (i + 2)) :: .ref b :: .int (xs (i + 1)) :: .ref (Y.2.1 0) :: .int r1 :: [])) (by rw [show nI i + 2 = nI (i + 2) from nI_add i 2]) ?_
  refine va_sld hx hb hX0 hbl hbA hS (vp_in_nI (show i + 2 < L by omega) (by omega)) dL_law_637 ?_
  refine W.eq (g2 := F0 m 638 ls (.int (xs (i + 2)) :: .int (xs (i + 1)) :: .ref (Y.2.1 0) :: .int r1 :: [])) (by rw [nI_clamp (show i + 2 < 2 ^ 31 by omega)]) ?_
  refine gw_calliF (va_runV (As := [.int (xs (i + 1)), .int (xs (i + 2))]) (rest := [.int r1]) ⟨hx, hb, hml, hown, hts⟩ (c_WatchListModel_event Y hY e (fun k => k) (xs (i + 1)) (xs (i + 2)) ) ⟨callB_of 2 hts glX4_event rfl rfl rfl (hts _ tG_26) (hts _ tG_315) pdX4_event ⟨Nat.le_of_ble_eq_true rfl, Nat.le_of_ble_eq_true rfl⟩, hts _ tG_316, hts _ tG_317⟩ ⟨rf_blind, gw_recv hK2 hP2 0 (by decide) rf_c0 rfl, rf_at hP2 hK2 trivial⟩ rfl rfl hl.1 rfl (lv_room (Nat.le_of_ble_eq_true rfl)) dL_law_638 hcs) hS hA2 (fun r2 u2 t2 locs hw2 hP2 hk hS => ?_)
  replace hP1 := gw_keep hP1 hk hXY1
  obtain ⟨er, hR1⟩ := op_event (rl_T hR) hw1 hw2
  refine lv_icmp_eq (tgt := 702) hx hb dL_law_641 (by decide) (fun c_1 => ?_) (fun c_1 => absurd er c_1)
  exact kk u1.1 u2.1 u1.2 _ _ ⟨hP1, lw_rho hP2, hR1, hS⟩
set_option maxHeartbeats 4000000 in
set_option maxRecDepth 100000 in
theorem lc_actionAt {p : Program} {l : Launch} {e0 : Env} {s : State} {m : MethodId} {below : List Frame} {meth : Method} {c : Code} {b L : Nat} {xs : Nat → Int32} (C0 : lw_At p s m meth c b L xs) (hL4 : L ≤ 4096) {X : wl_X} {Y : rf_X} (hF : lw_F s X Y) {i : Nat} (hi : i + 8 ≤ L) {d e : Nat → Nat → Int32} {π : Nat → Nat} {H : Heap} {locs : List Loc} {cells slots : Nat} (hcs : cells + 0 ≤ room_1.cells ∧ slots + 0 ≤ room_1.slots) {Q : State → Prop} (hS0 : lw_S s X Y d π e H locs) {ls : Array Slot} (hl : lv_has ls 4 [(0, .ref b), (1, .ref (X.2.1 0)), (2, .ref (Y.2.1 0)), (3, .int (nI i))]) (kk : ∀ (d e : Nat → Nat → Int32) (π : Nat → Nat) (H : Heap) (locs : List Loc), lw_S s X Y d π e H locs → W p l e0 room_1 s m #[Value.ref b] below meth c H locs cells slots Q (F0 m 702 ls [])) : W p l e0 room_1 s m #[Value.ref b] below meth c H locs cells slots Q (F0 m 646 ls []) := by
  obtain ⟨hx, hb, hr, hml, hown, hts, hX0, hbl, hlocks, hgv⟩ := C0
  obtain ⟨hX, hY, hA1, hA2, hXY1, hXY2, hK1, hK2, hN⟩ := hF
  obtain ⟨hP1, hP2, hR, hS⟩ := hS0
  have hbA : ¬ (fun q : Nat => s.heap.size ≤ q) b := Nat.not_le.mpr hbl
  have hR0 := hR
  obtain ⟨n, f, q, ts, a, hL, hB, hPp, hC, hQ, hE, hT⟩ := hR0
  have hsz : ∀ j, j < 32 → ∃ z, d (24 + j) 2 = nI z ∧ z ≤ 256 := fun j hj => by obtain ⟨-, ⟨z, g1, g2, g3, g4⟩, -⟩ := hE j hj; exact ⟨z, g2, g1⟩
  have hsze : ∀ j, j < 32 → ∃ z, rf_T e 14 j = nI z ∧ z ≤ 256 := fun j hj => by obtain ⟨-, ⟨z, g1, g2, g3, g4⟩, -⟩ := hE j hj; exact ⟨z, by rw [rf_T_k (by decide)]; exact g3, g1⟩
  refine lv_aload_n hx hb dL_law_646 rfl (lv_at hl 1 rfl) ?_
  refine lv_aload_n hx hb dL_law_647 rfl (lv_at hl 0 rfl) ?_
  refine lv_iload_n hx hb dL_law_648 rfl (lv_at hl 3 rfl) ?_
  refine lv_iconst (v := 1) hx hb dL_law_649 (by decide) ?_
  refine lv_iadd hx hb dL_law_650 ?_
  refine W.eq (g2 := F0 m 651 ls (.int (nI (i + 1)) :: .ref b :: .ref (X.2.1 0) :: [])) (by rw [show nI i + 1 = nI (i + 1) from nI_add i 1]) ?_
  refine va_sld hx hb hX0 hbl hbA hS (vp_in_nI (show i + 1 < L by omega) (by omega)) dL_law_651 ?_
  refine W.eq (g2 := F0 m 652 ls (.int (xs (i + 1)) :: .ref (X.2.1 0) :: [])) (by rw [nI_clamp (show i + 1 < 2 ^ 31 by omega)]) ?_
  refine lv_aload_n hx hb dL_law_652 rfl (lv_at hl 0 rfl) ?_
  refine lv_iload_n hx hb dL_law_653 rfl (lv_at hl 3 rfl) ?_
  refine lv_iconst (v := 2) hx hb dL_law_654 (by decide) ?_
  refine lv_iadd hx hb dL_law_655 ?_
  refine W.eq (g2 := F0 m 656 ls (.int (nI (i + 2)) :: .ref b :: .int (xs (i + 1)) :: .ref (X.2.1 0) :: [])) (by rw [show nI i + 2 = nI (i + 2) from nI_add i 2]) ?_
  refine va_sld hx hb hX0 hbl hbA hS (vp_in_nI (show i + 2 < L by omega) (by omega)) dL_law_656 ?_
  refine W.eq (g2 := F0 m 657 ls (.int (xs (i + 2)) :: .int (xs (i + 1)) :: .ref (X.2.1 0) :: [])) (by rw [nI_clamp (show i + 2 < 2 ^ 31 by omega)]) ?_
  refine gw_calliF (va_runV (As := [.int (xs (i + 1)), .int (xs (i + 2))]) (rest := []) ⟨hx, hb, hml, hown, hts⟩ (c_WatchList_actionAt X hX d π (xs (i + 1)) (xs (i + 2)) hsz) ⟨callB_of 2 hts glX3_actionAt rfl rfl rfl (hts _ tG_22) (hts _ tG_199) pdX3_actionAt ⟨Nat.le_of_ble_eq_true rfl, Nat.le_of_ble_eq_true rfl⟩, hts _ tG_200, hts _ tG_201⟩ ⟨wl_blind, gw_recv hK1 hP1 0 (by decide) wl_c0 rfl, wl_at hP1 hK1 hN⟩ rfl rfl hl.1 rfl (lv_room (Nat.le_of_ble_eq_true rfl)) dL_law_657 hcs) hS hA1 (fun r1 u1 t1 locs hw1 hP1 hk hS => ?_)
  replace hP1 : va_P X.1 vwCl (wl_ws X u1.1 u1.2) t1.heap := hP1
  replace hP2 := gw_keep hP2 hk hXY2
  refine lv_aload_n hx hb dL_law_660 rfl (lv_at hl 2 rfl) ?_
  refine lv_aload_n hx hb dL_law_661 rfl (lv_at hl 0 rfl) ?_
  refine lv_iload_n hx hb dL_law_662 rfl (lv_at hl 3 rfl) ?_
  refine lv_iconst (v := 1) hx hb dL_law_663 (by decide) ?_
  refine lv_iadd hx hb dL_law_664 ?_
  refine W.eq (g2 := F0 m 665 ls (.int (nI (i + 1)) :: .ref b :: .ref (Y.2.1 0) :: .int r1 :: [])) (by rw [show nI i + 1 = nI (i + 1) from nI_add i 1]) ?_
  refine va_sld hx hb hX0 hbl hbA hS (vp_in_nI (show i + 1 < L by omega) (by omega)) dL_law_665 ?_
  refine W.eq (g2 := F0 m 666 ls (.int (xs (i + 1)) :: .ref (Y.2.1 0) :: .int r1 :: [])) (by rw [nI_clamp (show i + 1 < 2 ^ 31 by omega)]) ?_
  refine lv_aload_n hx hb dL_law_666 rfl (lv_at hl 0 rfl) ?_
  refine lv_iload_n hx hb dL_law_667 rfl (lv_at hl 3 rfl) ?_
  refine lv_iconst (v := 2) hx hb dL_law_668 (by decide) ?_
  refine lv_iadd hx hb dL_law_669 ?_
  refine W.eq (g2 := F0 m 670 ls (.int (nI (i + 2)) :: .ref b :: .int (xs (i + 1)) :: .ref (Y.2.1 0) :: .int r1 :: [])) (by rw [show nI i + 2 = nI (i + 2) from nI_add i 2]) ?_
  refine va_sld hx hb hX0 hbl hbA hS (vp_in_nI (show i + 2 < L by omega) (by omega)) dL_law_670 ?_
  refine W.eq (g2 := F0 m 671 ls (.int (xs (i + 2)) :: .int (xs (i + 1)) :: .ref (Y.2.1 0) :: .int r1 :: [])) (by rw [nI_clamp (show i + 2 < 2 ^ 31 by omega)]) ?_
  refine gw_calliF (va_runV (As := [.int (xs (i + 1)), .int (xs (i + 2))]) (rest := [.int r1]) ⟨hx, hb, hml, hown, hts⟩ (c_WatchListModel_actionAt Y hY e (fun k => k) (xs (i + 1)) (xs (i + 2)) hsze) ⟨callB_of 2 hts glX4_actionAt rfl rfl rfl (hts _ tG_26) (hts _ tG_319) pdX4_actionAt ⟨Nat.le_of_ble_eq_true rfl, Nat.le_of_ble_eq_true rfl⟩, hts _ tG_320, hts _ tG_321⟩ ⟨rf_blind, gw_recv hK2 hP2 0 (by decide) rf_c0 rfl, rf_at hP2 hK2 trivial⟩ rfl rfl hl.1 rfl (lv_room (Nat.le_of_ble_eq_true rfl)) dL_law_671 hcs) hS hA2 (fun r2 u2 t2 locs hw2 hP2 hk hS => ?_)
  replace hP1 := gw_keep hP1 hk hXY1
  obtain ⟨er, hR1⟩ := op_actionAt (rl_T hR) hw1 hw2
  refine lv_icmp_eq (tgt := 702) hx hb dL_law_674 (by decide) (fun c_1 => ?_) (fun c_1 => absurd er c_1)
  exact kk u1.1 u2.1 u1.2 _ _ ⟨hP1, lw_rho hP2, hR1, hS⟩
set_option maxHeartbeats 4000000 in
set_option maxRecDepth 100000 in
theorem lc_count {p : Program} {l : Launch} {e0 : Env} {s : State} {m : MethodId} {below : List Frame} {meth : Method} {c : Code} {b L : Nat} {xs : Nat → Int32} (C0 : lw_At p s m meth c b L xs) (hL4 : L ≤ 4096) {X : wl_X} {Y : rf_X} (hF : lw_F s X Y) {i : Nat} (hi : i + 8 ≤ L) {d e : Nat → Nat → Int32} {π : Nat → Nat} {H : Heap} {locs : List Loc} {cells slots : Nat} (hcs : cells + 0 ≤ room_1.cells ∧ slots + 0 ≤ room_1.slots) {Q : State → Prop} (hS0 : lw_S s X Y d π e H locs) {ls : Array Slot} (hl : lv_has ls 4 [(0, .ref b), (1, .ref (X.2.1 0)), (2, .ref (Y.2.1 0)), (3, .int (nI i))]) (kk : ∀ (d e : Nat → Nat → Int32) (π : Nat → Nat) (H : Heap) (locs : List Loc), lw_S s X Y d π e H locs → W p l e0 room_1 s m #[Value.ref b] below meth c H locs cells slots Q (F0 m 702 ls [])) : W p l e0 room_1 s m #[Value.ref b] below meth c H locs cells slots Q (F0 m 679 ls []) := by
  obtain ⟨hx, hb, hr, hml, hown, hts, hX0, hbl, hlocks, hgv⟩ := C0
  obtain ⟨hX, hY, hA1, hA2, hXY1, hXY2, hK1, hK2, hN⟩ := hF
  obtain ⟨hP1, hP2, hR, hS⟩ := hS0
  have hbA : ¬ (fun q : Nat => s.heap.size ≤ q) b := Nat.not_le.mpr hbl
  have hR0 := hR
  obtain ⟨n, f, q, ts, a, hL, hB, hPp, hC, hQ, hE, hT⟩ := hR0
  refine lv_aload_n hx hb dL_law_679 rfl (lv_at hl 1 rfl) ?_
  refine lv_aload_n hx hb dL_law_680 rfl (lv_at hl 0 rfl) ?_
  refine lv_iload_n hx hb dL_law_681 rfl (lv_at hl 3 rfl) ?_
  refine lv_iconst (v := 1) hx hb dL_law_682 (by decide) ?_
  refine lv_iadd hx hb dL_law_683 ?_
  refine W.eq (g2 := F0 m 684 ls (.int (nI (i + 1)) :: .ref b :: .ref (X.2.1 0) :: [])) (by rw [show nI i + 1 = nI (i + 1) from nI_add i 1]) ?_
  refine va_sld hx hb hX0 hbl hbA hS (vp_in_nI (show i + 1 < L by omega) (by omega)) dL_law_684 ?_
  refine W.eq (g2 := F0 m 685 ls (.int (xs (i + 1)) :: .ref (X.2.1 0) :: [])) (by rw [nI_clamp (show i + 1 < 2 ^ 31 by omega)]) ?_
  refine gw_calliF (va_runV (As := [.int (xs (i + 1))]) (rest := []) ⟨hx, hb, hml, hown, hts⟩ (c_WatchList_count X hX d π (xs (i + 1)) ) ⟨callB_of 1 hts glX3_count rfl rfl rfl (hts _ tG_22) (hts _ tG_205) pdX3_count ⟨Nat.le_of_ble_eq_true rfl, Nat.le_of_ble_eq_true rfl⟩, hts _ tG_206, hts _ tG_207⟩ ⟨wl_blind, gw_recv hK1 hP1 0 (by decide) wl_c0 rfl, wl_at hP1 hK1 hN⟩ rfl rfl hl.1 rfl (lv_room (Nat.le_of_ble_eq_true rfl)) dL_law_685 hcs) hS hA1 (fun r1 u1 t1 locs hw1 hP1 hk hS => ?_)
  replace hP1 : va_P X.1 vwCl (wl_ws X u1.1 u1.2) t1.heap := hP1
  replace hP2 := gw_keep hP2 hk hXY2
  refine lv_aload_n hx hb dL_law_688 rfl (lv_at hl 2 rfl) ?_
  refine lv_aload_n hx hb dL_law_689 rfl (lv_at hl 0 rfl) ?_
  refine lv_iload_n hx hb dL_law_690 rfl (lv_at hl 3 rfl) ?_
  refine lv_iconst (v := 1) hx hb dL_law_691 (by decide) ?_
  refine lv_iadd hx hb dL_law_692 ?_
  refine W.eq (g2 := F0 m 693 ls (.int (nI (i + 1)) :: .ref b :: .ref (Y.2.1 0) :: .int r1 :: [])) (by rw [show nI i + 1 = nI (i + 1) from nI_add i 1]) ?_
  refine va_sld hx hb hX0 hbl hbA hS (vp_in_nI (show i + 1 < L by omega) (by omega)) dL_law_693 ?_
  refine W.eq (g2 := F0 m 694 ls (.int (xs (i + 1)) :: .ref (Y.2.1 0) :: .int r1 :: [])) (by rw [nI_clamp (show i + 1 < 2 ^ 31 by omega)]) ?_
  refine gw_calliF (va_runV (As := [.int (xs (i + 1))]) (rest := [.int r1]) ⟨hx, hb, hml, hown, hts⟩ (c_WatchListModel_count Y hY e (fun k => k) (xs (i + 1)) ) ⟨callB_of 1 hts glX4_count rfl rfl rfl (hts _ tG_26) (hts _ tG_323) pdX4_count ⟨Nat.le_of_ble_eq_true rfl, Nat.le_of_ble_eq_true rfl⟩, hts _ tG_324, hts _ tG_325⟩ ⟨rf_blind, gw_recv hK2 hP2 0 (by decide) rf_c0 rfl, rf_at hP2 hK2 trivial⟩ rfl rfl hl.1 rfl (lv_room (Nat.le_of_ble_eq_true rfl)) dL_law_694 hcs) hS hA2 (fun r2 u2 t2 locs hw2 hP2 hk hS => ?_)
  replace hP1 := gw_keep hP1 hk hXY1
  obtain ⟨er, hR1⟩ := op_count (rl_T hR) hw1 hw2
  refine lv_icmp_eq (tgt := 702) hx hb dL_law_697 (by decide) (fun c_1 => ?_) (fun c_1 => absurd er c_1)
  exact kk u1.1 u2.1 u1.2 _ _ ⟨hP1, lw_rho hP2, hR1, hS⟩

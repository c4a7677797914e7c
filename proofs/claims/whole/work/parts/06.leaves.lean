variable {l : Launch}
set_option maxHeartbeats 4000000 in
set_option maxRecDepth 100000 in
theorem c_WatchList_isParameter (X : wl_X) (hX : gw_inj 88 X.2.1) (d : Nat → Nat → Int32) (π : Nat → Nat)  (k : Int32)  : Met l yX3_isParameter wsX3_isParameter ({ frames := 0, cells := 0, slots := 0, locals := 0 }) (wl_pre X [.int k] d π) (va_Qi (fun r u => r = wl_i (wl_ok k 32) ∧ u = (d, π)) (wl_b X) (gw_A 88 X.2.1)) 0 0 (gw_A 88 X.2.1) := by
  refine Met.ofW (cc := cX3_isParameter) (maxL := 1) (ret := (some .boolean)) (by decide) rfl ?_
  intro p e s m args below meth c s₁ B hml hv
  obtain ⟨rfl, hP, hK, hN⟩ := hv
  have hx := B.exec
  have hb := B.bytes
  have hr := B.returns
  have hts : ∀ w ∈ gG, w.before _ s = true := fun w h => atoms_spec (ws := wsX3_isParameter) B.pre w (List.mem_cons_of_mem _ h)
  have hown : s.vm.findClass RX3 = some m.cls := findClass_of_methodNamed B.named
  have hlocks := B.notSynchronized
  have hS : va_S (gw_A 88 X.2.1) s.heap s.heap [] := va_S.rf
  have hl := lv_entry ([.int k]) (n := 1) (Nat.le_of_ble_eq_true rfl)
  rw [lg_entry_eq]
  generalize (lg_sl ([.int k]) ++ List.replicate (1 - (lg_sl ([.int k])).length) Slot.unset).toArray = ls at hl ⊢
  have hl : lv_has ls 1 [(0, .int k)] := hl
  refine lv_iload_n hx hb dX3_isParameter_0 rfl (lv_at hl 0 rfl) ?_
  refine lv_if_lt (tgt := 14) hx hb dX3_isParameter_1 (by decide) (fun c_1 => ?_) (fun c_1 => ?_)
  · refine lv_iconst (v := 0) hx hb dX3_isParameter_14 (by decide) ?_
    refine gw_zret (d, π) hx hb hr hlocks (by decide) (wl_hB hP) hS dX3_isParameter_15 ?_
    rw [wl_ok_lt c_1]; exact ⟨rfl, rfl⟩
  · refine lv_iload_n hx hb dX3_isParameter_4 rfl (lv_at hl 0 rfl) ?_
    refine lv_bipush (v := 32) hx hb dX3_isParameter_5 (by decide) ?_
    refine lv_icmp_ge (tgt := 14) hx hb dX3_isParameter_7 (by decide) (fun c_2 => ?_) (fun c_2 => ?_)
    · refine lv_iconst (v := 0) hx hb dX3_isParameter_14 (by decide) ?_
      refine gw_zret (d, π) hx hb hr hlocks (by decide) (wl_hB hP) hS dX3_isParameter_15 ?_
      rw [wl_ok_ge c_2]; exact ⟨rfl, rfl⟩
    · refine lv_iconst (v := 1) hx hb dX3_isParameter_10 (by decide) ?_
      refine lv_goto (tgt := 15) hx hb dX3_isParameter_11 (by decide) ?_
      refine gw_zret (d, π) hx hb hr hlocks (by decide) (wl_hB hP) hS dX3_isParameter_15 ?_
      rw [wl_ok_t c_1 c_2]; exact ⟨rfl, rfl⟩
set_option maxHeartbeats 4000000 in
set_option maxRecDepth 100000 in
theorem c_WatchList_isEvent (X : wl_X) (hX : gw_inj 88 X.2.1) (d : Nat → Nat → Int32) (π : Nat → Nat)  (k : Int32)  : Met l yX3_isEvent wsX3_isEvent ({ frames := 0, cells := 0, slots := 0, locals := 0 }) (wl_pre X [.int k] d π) (va_Qi (fun r u => r = wl_i (wl_ok k 32) ∧ u = (d, π)) (wl_b X) (gw_A 88 X.2.1)) 0 0 (gw_A 88 X.2.1) := by
  refine Met.ofW (cc := cX3_isEvent) (maxL := 1) (ret := (some .boolean)) (by decide) rfl ?_
  intro p e s m args below meth c s₁ B hml hv
  obtain ⟨rfl, hP, hK, hN⟩ := hv
  have hx := B.exec
  have hb := B.bytes
  have hr := B.returns
  have hts : ∀ w ∈ gG, w.before _ s = true := fun w h => atoms_spec (ws := wsX3_isEvent) B.pre w (List.mem_cons_of_mem _ h)
  have hown : s.vm.findClass RX3 = some m.cls := findClass_of_methodNamed B.named
  have hlocks := B.notSynchronized
  have hS : va_S (gw_A 88 X.2.1) s.heap s.heap [] := va_S.rf
  have hl := lv_entry ([.int k]) (n := 1) (Nat.le_of_ble_eq_true rfl)
  rw [lg_entry_eq]
  generalize (lg_sl ([.int k]) ++ List.replicate (1 - (lg_sl ([.int k])).length) Slot.unset).toArray = ls at hl ⊢
  have hl : lv_has ls 1 [(0, .int k)] := hl
  refine lv_iload_n hx hb dX3_isEvent_0 rfl (lv_at hl 0 rfl) ?_
  refine lv_if_lt (tgt := 14) hx hb dX3_isEvent_1 (by decide) (fun c_1 => ?_) (fun c_1 => ?_)
  · refine lv_iconst (v := 0) hx hb dX3_isEvent_14 (by decide) ?_
    refine gw_zret (d, π) hx hb hr hlocks (by decide) (wl_hB hP) hS dX3_isEvent_15 ?_
    rw [wl_ok_lt c_1]; exact ⟨rfl, rfl⟩
  · refine lv_iload_n hx hb dX3_isEvent_4 rfl (lv_at hl 0 rfl) ?_
    refine lv_bipush (v := 32) hx hb dX3_isEvent_5 (by decide) ?_
    refine lv_icmp_ge (tgt := 14) hx hb dX3_isEvent_7 (by decide) (fun c_2 => ?_) (fun c_2 => ?_)
    · refine lv_iconst (v := 0) hx hb dX3_isEvent_14 (by decide) ?_
      refine gw_zret (d, π) hx hb hr hlocks (by decide) (wl_hB hP) hS dX3_isEvent_15 ?_
      rw [wl_ok_ge c_2]; exact ⟨rfl, rfl⟩
    · refine lv_iconst (v := 1) hx hb dX3_isEvent_10 (by decide) ?_
      refine lv_goto (tgt := 15) hx hb dX3_isEvent_11 (by decide) ?_
      refine gw_zret (d, π) hx hb hr hlocks (by decide) (wl_hB hP) hS dX3_isEvent_15 ?_
      rw [wl_ok_t c_1 c_2]; exact ⟨rfl, rfl⟩
set_option maxHeartbeats 4000000 in
set_option maxRecDepth 100000 in
theorem c_WatchList_isId (X : wl_X) (hX : gw_inj 88 X.2.1) (d : Nat → Nat → Int32) (π : Nat → Nat)  (k : Int32)  : Met l yX3_isId wsX3_isId ({ frames := 0, cells := 0, slots := 0, locals := 0 }) (wl_pre X [.int k] d π) (va_Qi (fun r u => r = wl_i (wl_ok k 256) ∧ u = (d, π)) (wl_b X) (gw_A 88 X.2.1)) 0 0 (gw_A 88 X.2.1) := by
  refine Met.ofW (cc := cX3_isId) (maxL := 1) (ret := (some .boolean)) (by decide) rfl ?_
  intro p e s m args below meth c s₁ B hml hv
  obtain ⟨rfl, hP, hK, hN⟩ := hv
  have hx := B.exec
  have hb := B.bytes
  have hr := B.returns
  have hts : ∀ w ∈ gG, w.before _ s = true := fun w h => atoms_spec (ws := wsX3_isId) B.pre w (List.mem_cons_of_mem _ h)
  have hown : s.vm.findClass RX3 = some m.cls := findClass_of_methodNamed B.named
  have hlocks := B.notSynchronized
  have hS : va_S (gw_A 88 X.2.1) s.heap s.heap [] := va_S.rf
  have hl := lv_entry ([.int k]) (n := 1) (Nat.le_of_ble_eq_true rfl)
  rw [lg_entry_eq]
  generalize (lg_sl ([.int k]) ++ List.replicate (1 - (lg_sl ([.int k])).length) Slot.unset).toArray = ls at hl ⊢
  have hl : lv_has ls 1 [(0, .int k)] := hl
  refine lv_iload_n hx hb dX3_isId_0 rfl (lv_at hl 0 rfl) ?_
  refine lv_if_lt (tgt := 15) hx hb dX3_isId_1 (by decide) (fun c_1 => ?_) (fun c_1 => ?_)
  · refine lv_iconst (v := 0) hx hb dX3_isId_15 (by decide) ?_
    refine gw_zret (d, π) hx hb hr hlocks (by decide) (wl_hB hP) hS dX3_isId_16 ?_
    rw [wl_ok_lt c_1]; exact ⟨rfl, rfl⟩
  · refine lv_iload_n hx hb dX3_isId_4 rfl (lv_at hl 0 rfl) ?_
    refine lv_sipush (v := 256) hx hb dX3_isId_5 (by decide) ?_
    refine lv_icmp_ge (tgt := 15) hx hb dX3_isId_8 (by decide) (fun c_2 => ?_) (fun c_2 => ?_)
    · refine lv_iconst (v := 0) hx hb dX3_isId_15 (by decide) ?_
      refine gw_zret (d, π) hx hb hr hlocks (by decide) (wl_hB hP) hS dX3_isId_16 ?_
      rw [wl_ok_ge c_2]; exact ⟨rfl, rfl⟩
    · refine lv_iconst (v := 1) hx hb dX3_isId_11 (by decide) ?_
      refine lv_goto (tgt := 16) hx hb dX3_isId_12 (by decide) ?_
      refine gw_zret (d, π) hx hb hr hlocks (by decide) (wl_hB hP) hS dX3_isId_16 ?_
      rw [wl_ok_t c_1 c_2]; exact ⟨rfl, rfl⟩
set_option maxHeartbeats 4000000 in
set_option maxRecDepth 100000 in
theorem c_WatchList_oneIf (X : wl_X) (hX : gw_inj 88 X.2.1) (d : Nat → Nat → Int32) (π : Nat → Nat)  (b : Int32) (hz : b = 0 ∨ b = 1) : Met l yX3_oneIf wsX3_oneIf ({ frames := 0, cells := 0, slots := 0, locals := 0 }) (wl_pre X [.int b] d π) (va_Qi (fun r u => r = b ∧ u = (d, π)) (wl_b X) (gw_A 88 X.2.1)) 0 0 (gw_A 88 X.2.1) := by
  refine Met.ofW (cc := cX3_oneIf) (maxL := 1) (ret := (some .int)) (by decide) rfl ?_
  intro p e s m args below meth c s₁ B hml hv
  obtain ⟨rfl, hP, hK, hN⟩ := hv
  have hx := B.exec
  have hb := B.bytes
  have hr := B.returns
  have hts : ∀ w ∈ gG, w.before _ s = true := fun w h => atoms_spec (ws := wsX3_oneIf) B.pre w (List.mem_cons_of_mem _ h)
  have hown : s.vm.findClass RX3 = some m.cls := findClass_of_methodNamed B.named
  have hlocks := B.notSynchronized
  have hS : va_S (gw_A 88 X.2.1) s.heap s.heap [] := va_S.rf
  have hl := lv_entry ([.int b]) (n := 1) (Nat.le_of_ble_eq_true rfl)
  rw [lg_entry_eq]
  generalize (lg_sl ([.int b]) ++ List.replicate (1 - (lg_sl ([.int b])).length) Slot.unset).toArray = ls at hl ⊢
  have hl : lv_has ls 1 [(0, .int b)] := hl
  refine lv_iload_n hx hb dX3_oneIf_0 rfl (lv_at hl 0 rfl) ?_
  refine lv_if_eq (tgt := 8) hx hb dX3_oneIf_1 (by decide) (fun c_1 => ?_) (fun c_1 => ?_)
  · refine lv_iconst (v := 0) hx hb dX3_oneIf_8 (by decide) ?_
    refine gw_iret (d, π) hx hb hr hlocks (wl_hB hP) hS dX3_oneIf_9 ?_
    exact ⟨c_1.symm, rfl⟩
  · refine lv_iconst (v := 1) hx hb dX3_oneIf_4 (by decide) ?_
    refine lv_goto (tgt := 9) hx hb dX3_oneIf_5 (by decide) ?_
    refine gw_iret (d, π) hx hb hr hlocks (wl_hB hP) hS dX3_oneIf_9 ?_
    exact ⟨(hz.resolve_left c_1).symm, rfl⟩
set_option maxHeartbeats 4000000 in
set_option maxRecDepth 100000 in
theorem c_Limit_turn (X : wl_X) (hX : gw_inj 88 X.2.1) (d : Nat → Nat → Int32) (π : Nat → Nat) (i : Nat) (hi : i < 16) (on : Int32) (hz : on = 0 ∨ on = 1) : Met l yX1_turn wsX1_turn ({ frames := 0, cells := 0, slots := 0, locals := 0 }) (wl_pre X [.ref (X.2.1 (8 + i)), .int on] d π) (va_Qv (fun u => u = (up2 (up2 d (8 + i) 7 on) (8 + i) 8 0, π)) (wl_b X) (gw_A 88 X.2.1)) 0 0 (gw_A 88 X.2.1) := by
  refine Met.ofW (cc := cX1_turn) (maxL := 2) (ret := none) (by decide) rfl ?_
  intro p e s m args below meth c s₁ B hml hv
  obtain ⟨rfl, hP, hK, hN⟩ := hv
  have hx := B.exec
  have hb := B.bytes
  have hr := B.returns
  have hts : ∀ w ∈ gG, w.before _ s = true := fun w h => atoms_spec (ws := wsX1_turn) B.pre w (List.mem_cons_of_mem _ h)
  have hown : s.vm.findClass RX1 = some m.cls := findClass_of_methodNamed B.named
  have hlocks := B.notSynchronized
  have hS : va_S (gw_A 88 X.2.1) s.heap s.heap [] := va_S.rf
  have hl := lv_entry ([.ref (X.2.1 (8 + i)), .int on]) (n := 2) (Nat.le_of_ble_eq_true rfl)
  rw [lg_entry_eq]
  generalize (lg_sl ([.ref (X.2.1 (8 + i)), .int on]) ++ List.replicate (2 - (lg_sl ([.ref (X.2.1 (8 + i)), .int on])).length) Slot.unset).toArray = ls at hl ⊢
  have hl : lv_has ls 2 [(0, .ref (X.2.1 (8 + i))), (1, .int on)] := hl
  refine lv_aload_n hx hb dX1_turn_0 rfl (lv_at hl 0 rfl) ?_
  refine lv_iload_n hx hb dX1_turn_1 rfl (lv_at hl 1 rfl) ?_
  refine gw_put hx hb hts inX1 tyX1 okX1 nmX1 hown hK hP hX hS (8 + i) (wl_kL hi) (wl_cL hi) rfl 7 (by decide) (hts _ mG_59) (fun _ h9 => h9) rfl (ty := .boolean) (v := .int on) (by decide +kernel) (gw_nz hz) (gw_fz hz) (Nat.le_of_ble_eq_true rfl) (cf' := wl_c X (up2 d (8 + i) 7 on) π) (wl_uL hi (by decide)) wl_o dX1_turn_2 (fun H locs hP hS => ?_)
  refine lv_aload_n hx hb dX1_turn_5 rfl (lv_at hl 0 rfl) ?_
  refine lv_iconst (v := 0) hx hb dX1_turn_6 (by decide) ?_
  refine gw_put hx hb hts inX1 tyX1 okX1 nmX1 hown hK hP hX hS (8 + i) (wl_kL hi) (wl_cL hi) rfl 8 (by decide) (hts _ mG_60) (fun _ h9 => h9) rfl (ty := .int) (v := .int 0) (by decide +kernel) rfl rfl (Nat.le_of_ble_eq_true rfl) (cf' := wl_c X (up2 (up2 d (8 + i) 7 on) (8 + i) 8 0) π) (wl_uL hi (by decide)) wl_o dX1_turn_7 (fun H locs hP hS => ?_)
  refine gw_vret (up2 (up2 d (8 + i) 7 on) (8 + i) 8 0, π) hx hb hr hlocks (wl_hB hP) hS dX1_turn_10 ?_
  rfl
set_option maxHeartbeats 4000000 in
set_option maxRecDepth 100000 in
theorem c_Limit_begin (X : wl_X) (hX : gw_inj 88 X.2.1) (d : Nat → Nat → Int32) (π : Nat → Nat) (i : Nat) (hi : i < 16) (id : Int32) (pa : Int32) (ti : Int32) (lo : Int32) (hi2 : Int32) (ev : Int32) (lk : Int32) (hz : lk = 0 ∨ lk = 1) : Met l yX1_begin wsX1_begin ({ frames := 1, cells := 0, slots := 0, locals := 21 }) (wl_pre X [.ref (X.2.1 (8 + i)), .int id, .int pa, .int ti, .int lo, .int hi2, .int ev, .int lk] d π) (va_Qv (fun u => u = (wl_beg d (8 + i) id pa ti lo hi2 ev lk, π)) (wl_b X) (gw_A 88 X.2.1)) 0 0 (gw_A 88 X.2.1) := by
  refine Met.ofW (cc := cX1_begin) (maxL := 8) (ret := none) (by decide) rfl ?_
  intro p e s m args below meth c s₁ B hml hv
  obtain ⟨rfl, hP, hK, hN⟩ := hv
  have hx := B.exec
  have hb := B.bytes
  have hr := B.returns
  have hts : ∀ w ∈ gG, w.before _ s = true := fun w h => atoms_spec (ws := wsX1_begin) B.pre w (List.mem_cons_of_mem _ h)
  have hown : s.vm.findClass RX1 = some m.cls := findClass_of_methodNamed B.named
  have hlocks := B.notSynchronized
  have hS : va_S (gw_A 88 X.2.1) s.heap s.heap [] := va_S.rf
  have hl := lv_entry ([.ref (X.2.1 (8 + i)), .int id, .int pa, .int ti, .int lo, .int hi2, .int ev, .int lk]) (n := 8) (Nat.le_of_ble_eq_true rfl)
  rw [lg_entry_eq]
  generalize (lg_sl ([.ref (X.2.1 (8 + i)), .int id, .int pa, .int ti, .int lo, .int hi2, .int ev, .int lk]) ++ List.replicate (8 - (lg_sl ([.ref (X.2.1 (8 + i)), .int id, .int pa, .int ti, .int lo, .int hi2, .int ev, .int lk])).length) Slot.unset).toArray = ls at hl ⊢
  have hl : lv_has ls 8 [(0, .ref (X.2.1 (8 + i))), (1, .int id), (2, .int pa), (3, .int ti), (4, .int lo), (5, .int hi2), (6, .int ev), (7, .int lk)] := hl
  refine lv_aload_n hx hb dX1_begin_0 rfl (lv_at hl 0 rfl) ?_
  refine lv_iload_n hx hb dX1_begin_1 rfl (lv_at hl 1 rfl) ?_
  refine gw_put hx hb hts inX1 tyX1 okX1 nmX1 hown hK hP hX hS (8 + i) (wl_kL hi) (wl_cL hi) rfl 0 (by decide) (hts _ mG_52) (fun _ h9 => h9) rfl (ty := .int) (v := .int id) (by decide +kernel) rfl rfl (Nat.le_of_ble_eq_true rfl) (cf' := wl_c X (up2 d (8 + i) 0 id) π) (wl_uL hi (by decide)) wl_o dX1_begin_2 (fun H locs hP hS => ?_)
  refine lv_aload_n hx hb dX1_begin_5 rfl (lv_at hl 0 rfl) ?_
  refine lv_iload_n hx hb dX1_begin_6 rfl (lv_at hl 2 rfl) ?_
  refine gw_put hx hb hts inX1 tyX1 okX1 nmX1 hown hK hP hX hS (8 + i) (wl_kL hi) (wl_cL hi) rfl 1 (by decide) (hts _ mG_53) (fun _ h9 => h9) rfl (ty := .int) (v := .int pa) (by decide +kernel) rfl rfl (Nat.le_of_ble_eq_true rfl) (cf' := wl_c X (up2 (up2 d (8 + i) 0 id) (8 + i) 1 pa) π) (wl_uL hi (by decide)) wl_o dX1_begin_7 (fun H locs hP hS => ?_)
  refine lv_aload_n hx hb dX1_begin_10 rfl (lv_at hl 0 rfl) ?_
  refine lv_iload_n hx hb dX1_begin_11 rfl (lv_at hl 3 rfl) ?_
  refine gw_put hx hb hts inX1 tyX1 okX1 nmX1 hown hK hP hX hS (8 + i) (wl_kL hi) (wl_cL hi) rfl 2 (by decide) (hts _ mG_54) (fun _ h9 => h9) rfl (ty := .int) (v := .int ti) (by decide +kernel) rfl rfl (Nat.le_of_ble_eq_true rfl) (cf' := wl_c X (up2 (up2 (up2 d (8 + i) 0 id) (8 + i) 1 pa) (8 + i) 2 ti) π) (wl_uL hi (by decide)) wl_o dX1_begin_12 (fun H locs hP hS => ?_)
  refine lv_aload_n hx hb dX1_begin_15 rfl (lv_at hl 0 rfl) ?_
  refine lv_iload hx hb dX1_begin_16 (lv_at hl 4 rfl) ?_
  refine gw_put hx hb hts inX1 tyX1 okX1 nmX1 hown hK hP hX hS (8 + i) (wl_kL hi) (wl_cL hi) rfl 3 (by decide) (hts _ mG_55) (fun _ h9 => h9) rfl (ty := .int) (v := .int lo) (by decide +kernel) rfl rfl (Nat.le_of_ble_eq_true rfl) (cf' := wl_c X (up2 (up2 (up2 (up2 d (8 + i) 0 id) (8 + i) 1 pa) (8 + i) 2 ti) (8 + i) 3 lo) π) (wl_uL hi (by decide)) wl_o dX1_begin_18 (fun H locs hP hS => ?_)
  refine lv_aload_n hx hb dX1_begin_21 rfl (lv_at hl 0 rfl) ?_
  refine lv_iload hx hb dX1_begin_22 (lv_at hl 5 rfl) ?_
  refine gw_put hx hb hts inX1 tyX1 okX1 nmX1 hown hK hP hX hS (8 + i) (wl_kL hi) (wl_cL hi) rfl 4 (by decide) (hts _ mG_56) (fun _ h9 => h9) rfl (ty := .int) (v := .int hi2) (by decide +kernel) rfl rfl (Nat.le_of_ble_eq_true rfl) (cf' := wl_c X (up2 (up2 (up2 (up2 (up2 d (8 + i) 0 id) (8 + i) 1 pa) (8 + i) 2 ti) (8 + i) 3 lo) (8 + i) 4 hi2) π) (wl_uL hi (by decide)) wl_o dX1_begin_24 (fun H locs hP hS => ?_)
  refine lv_aload_n hx hb dX1_begin_27 rfl (lv_at hl 0 rfl) ?_
  refine lv_iload hx hb dX1_begin_28 (lv_at hl 6 rfl) ?_
  refine gw_put hx hb hts inX1 tyX1 okX1 nmX1 hown hK hP hX hS (8 + i) (wl_kL hi) (wl_cL hi) rfl 5 (by decide) (hts _ mG_57) (fun _ h9 => h9) rfl (ty := .int) (v := .int ev) (by decide +kernel) rfl rfl (Nat.le_of_ble_eq_true rfl) (cf' := wl_c X (up2 (up2 (up2 (up2 (up2 (up2 d (8 + i) 0 id) (8 + i) 1 pa) (8 + i) 2 ti) (8 + i) 3 lo) (8 + i) 4 hi2) (8 + i) 5 ev) π) (wl_uL hi (by decide)) wl_o dX1_begin_30 (fun H locs hP hS => ?_)
  refine lv_aload_n hx hb dX1_begin_33 rfl (lv_at hl 0 rfl) ?_
  refine lv_iload hx hb dX1_begin_34 (lv_at hl 7 rfl) ?_
  refine gw_put hx hb hts inX1 tyX1 okX1 nmX1 hown hK hP hX hS (8 + i) (wl_kL hi) (wl_cL hi) rfl 6 (by decide) (hts _ mG_58) (fun _ h9 => h9) rfl (ty := .boolean) (v := .int lk) (by decide +kernel) (gw_nz hz) (gw_fz hz) (Nat.le_of_ble_eq_true rfl) (cf' := wl_c X (up2 (up2 (up2 (up2 (up2 (up2 (up2 d (8 + i) 0 id) (8 + i) 1 pa) (8 + i) 2 ti) (8 + i) 3 lo) (8 + i) 4 hi2) (8 + i) 5 ev) (8 + i) 6 lk) π) (wl_uL hi (by decide)) wl_o dX1_begin_36 (fun H locs hP hS => ?_)
  refine lv_aload_n hx hb dX1_begin_39 rfl (lv_at hl 0 rfl) ?_
  refine lv_iconst (v := 0) hx hb dX1_begin_40 (by decide) ?_
  refine gw_callv (va_runV (As := [.int 0]) (rest := []) ⟨hx, hb, hml, hown, hts⟩ (c_Limit_turn X hX (up2 (up2 (up2 (up2 (up2 (up2 (up2 d (8 + i) 0 id) (8 + i) 1 pa) (8 + i) 2 ti) (8 + i) 3 lo) (8 + i) 4 hi2) (8 + i) 5 ev) (8 + i) 6 lk) π i hi 0 (Or.inl rfl)) ⟨callB_of 1 hts giX1_turn rfl rfl rfl (hts _ mG_24) (hts _ mG_106) pdX1_turn ⟨Nat.le_of_ble_eq_true rfl, Nat.le_of_ble_eq_true rfl⟩, hts _ mG_107, hts _ mG_3⟩ ⟨wl_blind, gw_recv hK hP (8 + i) (wl_kL hi) (wl_cL hi) rfl, wl_at hP hK hN⟩ rfl rfl hl.1 rfl (lv_room (Nat.le_of_ble_eq_true rfl)) dX1_begin_41 ⟨Nat.le_of_ble_eq_true rfl, Nat.le_of_ble_eq_true rfl⟩) hS (fun u_1 t_1 locs hw hP hS => ?_)
  obtain rfl := hw
  have hP : va_P X.1 vwCl (wl_ws X (up2 (up2 (up2 (up2 (up2 (up2 (up2 (up2 (up2 d (8 + i) 0 id) (8 + i) 1 pa) (8 + i) 2 ti) (8 + i) 3 lo) (8 + i) 4 hi2) (8 + i) 5 ev) (8 + i) 6 lk) (8 + i) 7 0) (8 + i) 8 0) π) t_1.heap := hP
  refine gw_vret (up2 (up2 (up2 (up2 (up2 (up2 (up2 (up2 (up2 d (8 + i) 0 id) (8 + i) 1 pa) (8 + i) 2 ti) (8 + i) 3 lo) (8 + i) 4 hi2) (8 + i) 5 ev) (8 + i) 6 lk) (8 + i) 7 0) (8 + i) 8 0, π) hx hb hr hlocks (wl_hB hP) hS dX1_begin_44 ?_
  rfl
set_option maxHeartbeats 4000000 in
set_option maxRecDepth 100000 in
theorem c_Limit_breaksAt (X : wl_X) (hX : gw_inj 88 X.2.1) (d : Nat → Nat → Int32) (π : Nat → Nat) (i : Nat) (hi : i < 16) (v : Int32)  : Met l yX1_breaksAt wsX1_breaksAt ({ frames := 0, cells := 0, slots := 0, locals := 0 }) (wl_pre X [.ref (X.2.1 (8 + i)), .int v] d π) (va_Qi (fun r u => r = wl_brk d (8 + i) v ∧ u = (wl_bd d (8 + i) v, π)) (wl_b X) (gw_A 88 X.2.1)) 0 0 (gw_A 88 X.2.1) := by
  refine Met.ofW (cc := cX1_breaksAt) (maxL := 2) (ret := (some .boolean)) (by decide) rfl ?_
  intro p e s m args below meth c s₁ B hml hv
  obtain ⟨rfl, hP, hK, hN⟩ := hv
  have hx := B.exec
  have hb := B.bytes
  have hr := B.returns
  have hts : ∀ w ∈ gG, w.before _ s = true := fun w h => atoms_spec (ws := wsX1_breaksAt) B.pre w (List.mem_cons_of_mem _ h)
  have hown : s.vm.findClass RX1 = some m.cls := findClass_of_methodNamed B.named
  have hlocks := B.notSynchronized
  have hS : va_S (gw_A 88 X.2.1) s.heap s.heap [] := va_S.rf
  have hl := lv_entry ([.ref (X.2.1 (8 + i)), .int v]) (n := 2) (Nat.le_of_ble_eq_true rfl)
  rw [lg_entry_eq]
  generalize (lg_sl ([.ref (X.2.1 (8 + i)), .int v]) ++ List.replicate (2 - (lg_sl ([.ref (X.2.1 (8 + i)), .int v])).length) Slot.unset).toArray = ls at hl ⊢
  have hl : lv_has ls 2 [(0, .ref (X.2.1 (8 + i))), (1, .int v)] := hl
  refine lv_iload_n hx hb dX1_breaksAt_0 rfl (lv_at hl 1 rfl) ?_
  refine lv_aload_n hx hb dX1_breaksAt_1 rfl (lv_at hl 0 rfl) ?_
  refine gw_get hx hb hts inX1 hown hK hP (8 + i) (wl_kL hi) (wl_cL hi) rfl 3 (by decide) (hts _ mG_55) (fun _ h9 => h9) (v := .int (d (8 + i) 3)) rfl dX1_breaksAt_2 ?_
  refine lv_icmp_lt (tgt := 23) hx hb dX1_breaksAt_5 (by decide) (fun c_1 => ?_) (fun c_1 => ?_)
  · refine lv_aload_n hx hb dX1_breaksAt_23 rfl (lv_at hl 0 rfl) ?_
    refine lv_dup hx hb dX1_breaksAt_24 rfl ?_
    refine gw_get hx hb hts inX1 hown hK hP (8 + i) (wl_kL hi) (wl_cL hi) rfl 8 (by decide) (hts _ mG_60) (fun _ h9 => h9) (v := .int (d (8 + i) 8)) rfl dX1_breaksAt_25 ?_
    refine lv_iconst (v := 1) hx hb dX1_breaksAt_28 (by decide) ?_
    refine lv_iadd hx hb dX1_breaksAt_29 ?_
    refine gw_put hx hb hts inX1 tyX1 okX1 nmX1 hown hK hP hX hS (8 + i) (wl_kL hi) (wl_cL hi) rfl 8 (by decide) (hts _ mG_60) (fun _ h9 => h9) rfl (ty := .int) (v := .int ((d (8 + i) 8) + 1)) (by decide +kernel) rfl rfl (Nat.le_of_ble_eq_true rfl) (cf' := wl_c X (up2 d (8 + i) 8 ((d (8 + i) 8) + 1)) π) (wl_uL hi (by decide)) wl_o dX1_breaksAt_30 (fun H locs hP hS => ?_)
    refine lv_aload_n hx hb dX1_breaksAt_33 rfl (lv_at hl 0 rfl) ?_
    refine gw_get hx hb hts inX1 hown hK hP (8 + i) (wl_kL hi) (wl_cL hi) rfl 8 (by decide) (hts _ mG_60) (fun _ h9 => h9) (v := .int ((up2 d (8 + i) 8 ((d (8 + i) 8) + 1)) (8 + i) 8)) rfl dX1_breaksAt_34 ?_
    refine lv_aload_n hx hb dX1_breaksAt_37 rfl (lv_at hl 0 rfl) ?_
    refine gw_get hx hb hts inX1 hown hK hP (8 + i) (wl_kL hi) (wl_cL hi) rfl 2 (by decide) (hts _ mG_54) (fun _ h9 => h9) (v := .int ((up2 d (8 + i) 8 ((d (8 + i) 8) + 1)) (8 + i) 2)) rfl dX1_breaksAt_38 ?_
    refine lv_icmp_ne (tgt := 48) hx hb dX1_breaksAt_41 (by decide) (fun c_2 => ?_) (fun c_2 => ?_)
    · refine lv_iconst (v := 0) hx hb dX1_breaksAt_48 (by decide) ?_
      refine gw_zret (up2 d (8 + i) 8 ((d (8 + i) 8) + 1), π) hx hb hr hlocks (by decide) (wl_hB hP) hS dX1_breaksAt_49 ?_
      rw [up2_s, up2_j (by decide)] at c_2
      constructor <;> (try simp only [wl_brk, wl_bd, wl_inr_lt c_1, Bool.false_eq_true, if_false, decide_eq_false c_2]) <;> (try rfl)
    · refine lv_iconst (v := 1) hx hb dX1_breaksAt_44 (by decide) ?_
      refine lv_goto (tgt := 49) hx hb dX1_breaksAt_45 (by decide) ?_
      refine gw_zret (up2 d (8 + i) 8 ((d (8 + i) 8) + 1), π) hx hb hr hlocks (by decide) (wl_hB hP) hS dX1_breaksAt_49 ?_
      rw [up2_s, up2_j (by decide)] at c_2
      constructor <;> (try simp only [wl_brk, wl_bd, wl_inr_lt c_1, Bool.false_eq_true, if_false, decide_eq_true c_2]) <;> (try rfl)
  · refine lv_iload_n hx hb dX1_breaksAt_8 rfl (lv_at hl 1 rfl) ?_
    refine lv_aload_n hx hb dX1_breaksAt_9 rfl (lv_at hl 0 rfl) ?_
    refine gw_get hx hb hts inX1 hown hK hP (8 + i) (wl_kL hi) (wl_cL hi) rfl 4 (by decide) (hts _ mG_56) (fun _ h9 => h9) (v := .int (d (8 + i) 4)) rfl dX1_breaksAt_10 ?_
    refine lv_icmp_gt (tgt := 23) hx hb dX1_breaksAt_13 (by decide) (fun c_3 => ?_) (fun c_3 => ?_)
    · refine lv_aload_n hx hb dX1_breaksAt_23 rfl (lv_at hl 0 rfl) ?_
      refine lv_dup hx hb dX1_breaksAt_24 rfl ?_
      refine gw_get hx hb hts inX1 hown hK hP (8 + i) (wl_kL hi) (wl_cL hi) rfl 8 (by decide) (hts _ mG_60) (fun _ h9 => h9) (v := .int (d (8 + i) 8)) rfl dX1_breaksAt_25 ?_
      refine lv_iconst (v := 1) hx hb dX1_breaksAt_28 (by decide) ?_
      refine lv_iadd hx hb dX1_breaksAt_29 ?_
      refine gw_put hx hb hts inX1 tyX1 okX1 nmX1 hown hK hP hX hS (8 + i) (wl_kL hi) (wl_cL hi) rfl 8 (by decide) (hts _ mG_60) (fun _ h9 => h9) rfl (ty := .int) (v := .int ((d (8 + i) 8) + 1)) (by decide +kernel) rfl rfl (Nat.le_of_ble_eq_true rfl) (cf' := wl_c X (up2 d (8 + i) 8 ((d (8 + i) 8) + 1)) π) (wl_uL hi (by decide)) wl_o dX1_breaksAt_30 (fun H locs hP hS => ?_)
      refine lv_aload_n hx hb dX1_breaksAt_33 rfl (lv_at hl 0 rfl) ?_
      refine gw_get hx hb hts inX1 hown hK hP (8 + i) (wl_kL hi) (wl_cL hi) rfl 8 (by decide) (hts _ mG_60) (fun _ h9 => h9) (v := .int ((up2 d (8 + i) 8 ((d (8 + i) 8) + 1)) (8 + i) 8)) rfl dX1_breaksAt_34 ?_
      refine lv_aload_n hx hb dX1_breaksAt_37 rfl (lv_at hl 0 rfl) ?_
      refine gw_get hx hb hts inX1 hown hK hP (8 + i) (wl_kL hi) (wl_cL hi) rfl 2 (by decide) (hts _ mG_54) (fun _ h9 => h9) (v := .int ((up2 d (8 + i) 8 ((d (8 + i) 8) + 1)) (8 + i) 2)) rfl dX1_breaksAt_38 ?_
      refine lv_icmp_ne (tgt := 48) hx hb dX1_breaksAt_41 (by decide) (fun c_4 => ?_) (fun c_4 => ?_)
      · refine lv_iconst (v := 0) hx hb dX1_breaksAt_48 (by decide) ?_
        refine gw_zret (up2 d (8 + i) 8 ((d (8 + i) 8) + 1), π) hx hb hr hlocks (by decide) (wl_hB hP) hS dX1_breaksAt_49 ?_
        rw [up2_s, up2_j (by decide)] at c_4
        constructor <;> (try simp only [wl_brk, wl_bd, wl_inr_gt c_3, Bool.false_eq_true, if_false, decide_eq_false c_4]) <;> (try rfl)
      · refine lv_iconst (v := 1) hx hb dX1_breaksAt_44 (by decide) ?_
        refine lv_goto (tgt := 49) hx hb dX1_breaksAt_45 (by decide) ?_
        refine gw_zret (up2 d (8 + i) 8 ((d (8 + i) 8) + 1), π) hx hb hr hlocks (by decide) (wl_hB hP) hS dX1_breaksAt_49 ?_
        rw [up2_s, up2_j (by decide)] at c_4
        constructor <;> (try simp only [wl_brk, wl_bd, wl_inr_gt c_3, Bool.false_eq_true, if_false, decide_eq_true c_4]) <;> (try rfl)
    · refine lv_aload_n hx hb dX1_breaksAt_16 rfl (lv_at hl 0 rfl) ?_
      refine lv_iconst (v := 0) hx hb dX1_breaksAt_17 (by decide) ?_
      refine gw_put hx hb hts inX1 tyX1 okX1 nmX1 hown hK hP hX hS (8 + i) (wl_kL hi) (wl_cL hi) rfl 8 (by decide) (hts _ mG_60) (fun _ h9 => h9) rfl (ty := .int) (v := .int 0) (by decide +kernel) rfl rfl (Nat.le_of_ble_eq_true rfl) (cf' := wl_c X (up2 d (8 + i) 8 0) π) (wl_uL hi (by decide)) wl_o dX1_breaksAt_18 (fun H locs hP hS => ?_)
      refine lv_iconst (v := 0) hx hb dX1_breaksAt_21 (by decide) ?_
      refine gw_zret (up2 d (8 + i) 8 0, π) hx hb hr hlocks (by decide) (wl_hB hP) hS dX1_breaksAt_22 ?_
      constructor <;> (try simp only [wl_brk, wl_bd, wl_inr_t c_1 c_3, if_true]) <;> (try rfl)
set_option maxHeartbeats 4000000 in
set_option maxRecDepth 100000 in
theorem c_Limit_tellOf (X : wl_X) (hX : gw_inj 88 X.2.1) (d : Nat → Nat → Int32) (π : Nat → Nat) (i : Nat) (hi : i < 16) (w : Int32) (h7 : d (8 + i) 7 = 0 ∨ d (8 + i) 7 = 1) (h6 : d (8 + i) 6 = 0 ∨ d (8 + i) 6 = 1) : Met l yX1_tellOf wsX1_tellOf ({ frames := 1, cells := 0, slots := 0, locals := 20 }) (wl_pre X [.ref (X.2.1 (8 + i)), .int w] d π) (va_Qi (fun r u => r = wl_ltell d (8 + i) w ∧ u = (d, π)) (wl_b X) (gw_A 88 X.2.1)) 0 0 (gw_A 88 X.2.1) := by
  refine Met.ofW (cc := cX1_tellOf) (maxL := 2) (ret := (some .int)) (by decide) rfl ?_
  intro p e s m args below meth c s₁ B hml hv
  obtain ⟨rfl, hP, hK, hN⟩ := hv
  have hx := B.exec
  have hb := B.bytes
  have hr := B.returns
  have hts : ∀ w ∈ gG, w.before _ s = true := fun w h => atoms_spec (ws := wsX1_tellOf) B.pre w (List.mem_cons_of_mem _ h)
  have hown : s.vm.findClass RX1 = some m.cls := findClass_of_methodNamed B.named
  have hlocks := B.notSynchronized
  have hS : va_S (gw_A 88 X.2.1) s.heap s.heap [] := va_S.rf
  have hl := lv_entry ([.ref (X.2.1 (8 + i)), .int w]) (n := 2) (Nat.le_of_ble_eq_true rfl)
  rw [lg_entry_eq]
  generalize (lg_sl ([.ref (X.2.1 (8 + i)), .int w]) ++ List.replicate (2 - (lg_sl ([.ref (X.2.1 (8 + i)), .int w])).length) Slot.unset).toArray = ls at hl ⊢
  have hl : lv_has ls 2 [(0, .ref (X.2.1 (8 + i))), (1, .int w)] := hl
  refine lv_iload_n hx hb dX1_tellOf_0 rfl (lv_at hl 1 rfl) ?_
  by_cases c_1 : w.toInt < 0 ∨ 5 < w.toInt
  · refine lv_tableOut (tgt := 76) hx hb dX1_tellOf_1 c_1 (by decide) ?_
    refine lv_iconst (v := (-1)) hx hb dX1_tellOf_76 (by decide) ?_
    refine gw_iret (d, π) hx hb hr hlocks (wl_hB hP) hS dX1_tellOf_77 ?_
    rw [wl_ltell_o c_1]; exact ⟨rfl, rfl⟩
  · have h_c_1 : w = 0 ∨ w = 1 ∨ w = 2 ∨ w = 3 ∨ w = 4 ∨ w = 5 := wl_sw0_5 c_1
    rcases h_c_1 with e_c_1 | e_c_1 | e_c_1 | e_c_1 | e_c_1 | e_c_1
    · refine lv_tableIn (tgt := 40) hx hb dX1_tellOf_1 (by rw [e_c_1]; decide) (by rw [e_c_1]; decide) (by rw [e_c_1]; rfl) (by decide) ?_
      refine lv_aload_n hx hb dX1_tellOf_40 rfl (lv_at hl 0 rfl) ?_
      refine gw_get hx hb hts inX1 hown hK hP (8 + i) (wl_kL hi) (wl_cL hi) rfl 7 (by decide) (hts _ mG_59) (fun _ h9 => h9) (v := .int (d (8 + i) 7)) rfl dX1_tellOf_41 ?_
      refine gw_calli (va_runSN (As := [.int (d (8 + i) 7)]) (rest := []) ⟨hx, hb, hml, hown, hts⟩ (c_WatchList_oneIf X hX d π (d (8 + i) 7) h7) ⟨va_cnB 1 hts giX3_oneIf rfl rfl rfl (hN _ (List.mem_of_getElem? (i := 23) rfl)) (hts _ mG_22) pdX3_oneIf ⟨Nat.le_of_ble_eq_true rfl, Nat.le_of_ble_eq_true rfl⟩, hts _ mG_191, trivial⟩ ⟨wl_blind, wl_at hP hK hN⟩ rfl rfl hl.1 rfl (lv_room (Nat.le_of_ble_eq_true rfl)) dX1_tellOf_44 ⟨Nat.le_of_ble_eq_true rfl, Nat.le_of_ble_eq_true rfl⟩) hS (fun r_2 u_2 t_2 locs hw hP hS => ?_)
      obtain ⟨rfl, rfl⟩ := hw
      have hP : va_P X.1 vwCl (wl_ws X d π) t_2.heap := hP
      refine gw_iret (d, π) hx hb hr hlocks (wl_hB hP) hS dX1_tellOf_47 ?_
      rw [e_c_1]; exact ⟨rfl, rfl⟩
    · refine lv_tableIn (tgt := 48) hx hb dX1_tellOf_1 (by rw [e_c_1]; decide) (by rw [e_c_1]; decide) (by rw [e_c_1]; rfl) (by decide) ?_
      refine lv_aload_n hx hb dX1_tellOf_48 rfl (lv_at hl 0 rfl) ?_
      refine gw_get hx hb hts inX1 hown hK hP (8 + i) (wl_kL hi) (wl_cL hi) rfl 8 (by decide) (hts _ mG_60) (fun _ h9 => h9) (v := .int (d (8 + i) 8)) rfl dX1_tellOf_49 ?_
      refine gw_iret (d, π) hx hb hr hlocks (wl_hB hP) hS dX1_tellOf_52 ?_
      rw [e_c_1]; exact ⟨rfl, rfl⟩
    · refine lv_tableIn (tgt := 53) hx hb dX1_tellOf_1 (by rw [e_c_1]; decide) (by rw [e_c_1]; decide) (by rw [e_c_1]; rfl) (by decide) ?_
      refine lv_aload_n hx hb dX1_tellOf_53 rfl (lv_at hl 0 rfl) ?_
      refine gw_get hx hb hts inX1 hown hK hP (8 + i) (wl_kL hi) (wl_cL hi) rfl 1 (by decide) (hts _ mG_53) (fun _ h9 => h9) (v := .int (d (8 + i) 1)) rfl dX1_tellOf_54 ?_
      refine gw_iret (d, π) hx hb hr hlocks (wl_hB hP) hS dX1_tellOf_57 ?_
      rw [e_c_1]; exact ⟨rfl, rfl⟩
    · refine lv_tableIn (tgt := 58) hx hb dX1_tellOf_1 (by rw [e_c_1]; decide) (by rw [e_c_1]; decide) (by rw [e_c_1]; rfl) (by decide) ?_
      refine lv_aload_n hx hb dX1_tellOf_58 rfl (lv_at hl 0 rfl) ?_
      refine gw_get hx hb hts inX1 hown hK hP (8 + i) (wl_kL hi) (wl_cL hi) rfl 2 (by decide) (hts _ mG_54) (fun _ h9 => h9) (v := .int (d (8 + i) 2)) rfl dX1_tellOf_59 ?_
      refine gw_iret (d, π) hx hb hr hlocks (wl_hB hP) hS dX1_tellOf_62 ?_
      rw [e_c_1]; exact ⟨rfl, rfl⟩
    · refine lv_tableIn (tgt := 63) hx hb dX1_tellOf_1 (by rw [e_c_1]; decide) (by rw [e_c_1]; decide) (by rw [e_c_1]; rfl) (by decide) ?_
      refine lv_aload_n hx hb dX1_tellOf_63 rfl (lv_at hl 0 rfl) ?_
      refine gw_get hx hb hts inX1 hown hK hP (8 + i) (wl_kL hi) (wl_cL hi) rfl 5 (by decide) (hts _ mG_57) (fun _ h9 => h9) (v := .int (d (8 + i) 5)) rfl dX1_tellOf_64 ?_
      refine gw_iret (d, π) hx hb hr hlocks (wl_hB hP) hS dX1_tellOf_67 ?_
      rw [e_c_1]; exact ⟨rfl, rfl⟩
    · refine lv_tableIn (tgt := 68) hx hb dX1_tellOf_1 (by rw [e_c_1]; decide) (by rw [e_c_1]; decide) (by rw [e_c_1]; rfl) (by decide) ?_
      refine lv_aload_n hx hb dX1_tellOf_68 rfl (lv_at hl 0 rfl) ?_
      refine gw_get hx hb hts inX1 hown hK hP (8 + i) (wl_kL hi) (wl_cL hi) rfl 6 (by decide) (hts _ mG_58) (fun _ h9 => h9) (v := .int (d (8 + i) 6)) rfl dX1_tellOf_69 ?_
      refine gw_calli (va_runSN (As := [.int (d (8 + i) 6)]) (rest := []) ⟨hx, hb, hml, hown, hts⟩ (c_WatchList_oneIf X hX d π (d (8 + i) 6) h6) ⟨va_cnB 1 hts giX3_oneIf rfl rfl rfl (hN _ (List.mem_of_getElem? (i := 23) rfl)) (hts _ mG_22) pdX3_oneIf ⟨Nat.le_of_ble_eq_true rfl, Nat.le_of_ble_eq_true rfl⟩, hts _ mG_191, trivial⟩ ⟨wl_blind, wl_at hP hK hN⟩ rfl rfl hl.1 rfl (lv_room (Nat.le_of_ble_eq_true rfl)) dX1_tellOf_72 ⟨Nat.le_of_ble_eq_true rfl, Nat.le_of_ble_eq_true rfl⟩) hS (fun r_3 u_3 t_3 locs hw hP hS => ?_)
      obtain ⟨rfl, rfl⟩ := hw
      have hP : va_P X.1 vwCl (wl_ws X d π) t_3.heap := hP
      refine gw_iret (d, π) hx hb hr hlocks (wl_hB hP) hS dX1_tellOf_75 ?_
      rw [e_c_1]; exact ⟨rfl, rfl⟩
set_option maxHeartbeats 4000000 in
set_option maxRecDepth 100000 in
theorem c_Event_hasAction (X : wl_X) (hX : gw_inj 88 X.2.1) (d : Nat → Nat → Int32) (π : Nat → Nat) (i : Nat) (hi : i < 32)   : Met l yX0_hasAction wsX0_hasAction ({ frames := 0, cells := 0, slots := 0, locals := 0 }) (wl_pre X [.ref (X.2.1 (24 + i))] d π) (va_Qi (fun r u => r = wl_i (decide (0 < d (24 + i) 2)) ∧ u = (d, π)) (wl_b X) (gw_A 88 X.2.1)) 0 0 (gw_A 88 X.2.1) := by
  refine Met.ofW (cc := cX0_hasAction) (maxL := 1) (ret := (some .boolean)) (by decide) rfl ?_
  intro p e s m args below meth c s₁ B hml hv
  obtain ⟨rfl, hP, hK, hN⟩ := hv
  have hx := B.exec
  have hb := B.bytes
  have hr := B.returns
  have hts : ∀ w ∈ gG, w.before _ s = true := fun w h => atoms_spec (ws := wsX0_hasAction) B.pre w (List.mem_cons_of_mem _ h)
  have hown : s.vm.findClass RX0 = some m.cls := findClass_of_methodNamed B.named
  have hlocks := B.notSynchronized
  have hS : va_S (gw_A 88 X.2.1) s.heap s.heap [] := va_S.rf
  have hl := lv_entry ([.ref (X.2.1 (24 + i))]) (n := 1) (Nat.le_of_ble_eq_true rfl)
  rw [lg_entry_eq]
  generalize (lg_sl ([.ref (X.2.1 (24 + i))]) ++ List.replicate (1 - (lg_sl ([.ref (X.2.1 (24 + i))])).length) Slot.unset).toArray = ls at hl ⊢
  have hl : lv_has ls 1 [(0, .ref (X.2.1 (24 + i)))] := hl
  refine lv_aload_n hx hb dX0_hasAction_0 rfl (lv_at hl 0 rfl) ?_
  refine gw_get hx hb hts inX0 hown hK hP (24 + i) (wl_kE hi) (wl_cE hi) rfl 2 (by decide) (hts _ mG_68) (fun _ h9 => h9) (v := .int (d (24 + i) 2)) rfl dX0_hasAction_1 ?_
  refine lv_if_le (tgt := 11) hx hb dX0_hasAction_4 (by decide) (fun c_1 => ?_) (fun c_1 => ?_)
  · refine lv_iconst (v := 0) hx hb dX0_hasAction_11 (by decide) ?_
    refine gw_zret (d, π) hx hb hr hlocks (by decide) (wl_hB hP) hS dX0_hasAction_12 ?_
    rw [wl_pos_f c_1]; exact ⟨rfl, rfl⟩
  · refine lv_iconst (v := 1) hx hb dX0_hasAction_7 (by decide) ?_
    refine lv_goto (tgt := 12) hx hb dX0_hasAction_8 (by decide) ?_
    refine gw_zret (d, π) hx hb hr hlocks (by decide) (wl_hB hP) hS dX0_hasAction_12 ?_
    rw [wl_pos_t c_1]; exact ⟨rfl, rfl⟩
set_option maxHeartbeats 4000000 in
set_option maxRecDepth 100000 in
theorem c_Event_byteAt (X : wl_X) (hX : gw_inj 88 X.2.1) (d : Nat → Nat → Int32) (π : Nat → Nat) (i : Nat) (hi : i < 32) (k : Int32) (z : Nat) (hsz : d (24 + i) 2 = nI z) (hz : z ≤ 256) : Met l yX0_byteAt wsX0_byteAt ({ frames := 0, cells := 0, slots := 0, locals := 0 }) (wl_pre X [.ref (X.2.1 (24 + i)), .int k] d π) (va_Qi (fun r u => r = (if wl_ok k (d (24 + i) 2) = true then d (56 + i) k.toNatClampNeg &&& 255 else -1) ∧ u = (d, π)) (wl_b X) (gw_A 88 X.2.1)) 0 0 (gw_A 88 X.2.1) := by
  refine Met.ofW (cc := cX0_byteAt) (maxL := 2) (ret := (some .int)) (by decide) rfl ?_
  intro p e s m args below meth c s₁ B hml hv
  obtain ⟨rfl, hP, hK, hN⟩ := hv
  have hx := B.exec
  have hb := B.bytes
  have hr := B.returns
  have hts : ∀ w ∈ gG, w.before _ s = true := fun w h => atoms_spec (ws := wsX0_byteAt) B.pre w (List.mem_cons_of_mem _ h)
  have hown : s.vm.findClass RX0 = some m.cls := findClass_of_methodNamed B.named
  have hlocks := B.notSynchronized
  have hS : va_S (gw_A 88 X.2.1) s.heap s.heap [] := va_S.rf
  have hl := lv_entry ([.ref (X.2.1 (24 + i)), .int k]) (n := 2) (Nat.le_of_ble_eq_true rfl)
  rw [lg_entry_eq]
  generalize (lg_sl ([.ref (X.2.1 (24 + i)), .int k]) ++ List.replicate (2 - (lg_sl ([.ref (X.2.1 (24 + i)), .int k])).length) Slot.unset).toArray = ls at hl ⊢
  have hl : lv_has ls 2 [(0, .ref (X.2.1 (24 + i))), (1, .int k)] := hl
  refine lv_iload_n hx hb dX0_byteAt_0 rfl (lv_at hl 1 rfl) ?_
  refine lv_if_lt (tgt := 25) hx hb dX0_byteAt_1 (by decide) (fun c_1 => ?_) (fun c_1 => ?_)
  · refine lv_iconst (v := (-1)) hx hb dX0_byteAt_25 (by decide) ?_
    refine gw_iret (d, π) hx hb hr hlocks (wl_hB hP) hS dX0_byteAt_26 ?_
    constructor <;> (try simp only [wl_ok_lt c_1, Bool.false_eq_true, if_false]) <;> (try rfl)
  · refine lv_iload_n hx hb dX0_byteAt_4 rfl (lv_at hl 1 rfl) ?_
    refine lv_aload_n hx hb dX0_byteAt_5 rfl (lv_at hl 0 rfl) ?_
    refine gw_get hx hb hts inX0 hown hK hP (24 + i) (wl_kE hi) (wl_cE hi) rfl 2 (by decide) (hts _ mG_68) (fun _ h9 => h9) (v := .int (d (24 + i) 2)) rfl dX0_byteAt_6 ?_
    refine lv_icmp_ge (tgt := 25) hx hb dX0_byteAt_9 (by decide) (fun c_2 => ?_) (fun c_2 => ?_)
    · refine lv_iconst (v := (-1)) hx hb dX0_byteAt_25 (by decide) ?_
      refine gw_iret (d, π) hx hb hr hlocks (wl_hB hP) hS dX0_byteAt_26 ?_
      constructor <;> (try simp only [wl_ok_ge c_2, Bool.false_eq_true, if_false]) <;> (try rfl)
    · refine lv_aload_n hx hb dX0_byteAt_12 rfl (lv_at hl 0 rfl) ?_
      refine gw_get hx hb hts inX0 hown hK hP (24 + i) (wl_kE hi) (wl_cE hi) rfl 1 (by decide) (hts _ mG_67) (fun _ h9 => h9) (v := .ref (X.2.1 (56 + i))) rfl dX0_byteAt_13 ?_
      refine lv_iload_n hx hb dX0_byteAt_16 rfl (lv_at hl 1 rfl) ?_
      refine gw_bald hx hb hK hP (56 + i) 1 (wl_kB hi) (wl_cB hi) rfl (i := k) (wl_in_sz c_1 (by rw [← hsz]; exact c_2) hz (by omega)) dX0_byteAt_17 ?_
      refine lv_sipush (v := 255) hx hb dX0_byteAt_18 (by decide) ?_
      refine lv_iand hx hb dX0_byteAt_21 ?_
      refine lv_goto (tgt := 26) hx hb dX0_byteAt_22 (by decide) ?_
      refine gw_iret (d, π) hx hb hr hlocks (wl_hB hP) hS dX0_byteAt_26 ?_
      constructor <;> (try simp only [wl_ok_t c_1 c_2, if_true]) <;> (try rfl)
set_option maxHeartbeats 4000000 in
set_option maxRecDepth 100000 in
theorem c_Event_tellOf (X : wl_X) (hX : gw_inj 88 X.2.1) (d : Nat → Nat → Int32) (π : Nat → Nat) (i : Nat) (hi : i < 32) (w : Int32) (h0 : d (24 + i) 0 = 0 ∨ d (24 + i) 0 = 1) (h3 : d (24 + i) 3 = 0 ∨ d (24 + i) 3 = 1) : Met l yX0_tellOf wsX0_tellOf ({ frames := 1, cells := 0, slots := 0, locals := 20 }) (wl_pre X [.ref (X.2.1 (24 + i)), .int w] d π) (va_Qi (fun r u => r = wl_etell d (24 + i) w ∧ u = (d, π)) (wl_b X) (gw_A 88 X.2.1)) 0 0 (gw_A 88 X.2.1) := by
  refine Met.ofW (cc := cX0_tellOf) (maxL := 2) (ret := (some .int)) (by decide) rfl ?_
  intro p e s m args below meth c s₁ B hml hv
  obtain ⟨rfl, hP, hK, hN⟩ := hv
  have hx := B.exec
  have hb := B.bytes
  have hr := B.returns
  have hts : ∀ w ∈ gG, w.before _ s = true := fun w h => atoms_spec (ws := wsX0_tellOf) B.pre w (List.mem_cons_of_mem _ h)
  have hown : s.vm.findClass RX0 = some m.cls := findClass_of_methodNamed B.named
  have hlocks := B.notSynchronized
  have hS : va_S (gw_A 88 X.2.1) s.heap s.heap [] := va_S.rf
  have hl := lv_entry ([.ref (X.2.1 (24 + i)), .int w]) (n := 2) (Nat.le_of_ble_eq_true rfl)
  rw [lg_entry_eq]
  generalize (lg_sl ([.ref (X.2.1 (24 + i)), .int w]) ++ List.replicate (2 - (lg_sl ([.ref (X.2.1 (24 + i)), .int w])).length) Slot.unset).toArray = ls at hl ⊢
  have hl : lv_has ls 2 [(0, .ref (X.2.1 (24 + i))), (1, .int w)] := hl
  refine lv_iload_n hx hb dX0_tellOf_0 rfl (lv_at hl 1 rfl) ?_
  by_cases c_1 : w.toInt < 0 ∨ 2 < w.toInt
  · refine lv_tableOut (tgt := 49) hx hb dX0_tellOf_1 c_1 (by decide) ?_
    refine lv_iconst (v := (-1)) hx hb dX0_tellOf_49 (by decide) ?_
    refine gw_iret (d, π) hx hb hr hlocks (wl_hB hP) hS dX0_tellOf_50 ?_
    rw [wl_etell_o c_1]; exact ⟨rfl, rfl⟩
  · have h_c_1 : w = 0 ∨ w = 1 ∨ w = 2 := wl_sw0_2 c_1
    rcases h_c_1 with e_c_1 | e_c_1 | e_c_1
    · refine lv_tableIn (tgt := 28) hx hb dX0_tellOf_1 (by rw [e_c_1]; decide) (by rw [e_c_1]; decide) (by rw [e_c_1]; rfl) (by decide) ?_
      refine lv_aload_n hx hb dX0_tellOf_28 rfl (lv_at hl 0 rfl) ?_
      refine gw_get hx hb hts inX0 hown hK hP (24 + i) (wl_kE hi) (wl_cE hi) rfl 0 (by decide) (hts _ mG_66) (fun _ h9 => h9) (v := .int (d (24 + i) 0)) rfl dX0_tellOf_29 ?_
      refine gw_calli (va_runSN (As := [.int (d (24 + i) 0)]) (rest := []) ⟨hx, hb, hml, hown, hts⟩ (c_WatchList_oneIf X hX d π (d (24 + i) 0) h0) ⟨va_cnB 1 hts giX3_oneIf rfl rfl rfl (hN _ (List.mem_of_getElem? (i := 25) rfl)) (hts _ mG_22) pdX3_oneIf ⟨Nat.le_of_ble_eq_true rfl, Nat.le_of_ble_eq_true rfl⟩, hts _ mG_191, trivial⟩ ⟨wl_blind, wl_at hP hK hN⟩ rfl rfl hl.1 rfl (lv_room (Nat.le_of_ble_eq_true rfl)) dX0_tellOf_32 ⟨Nat.le_of_ble_eq_true rfl, Nat.le_of_ble_eq_true rfl⟩) hS (fun r_2 u_2 t_2 locs hw hP hS => ?_)
      obtain ⟨rfl, rfl⟩ := hw
      have hP : va_P X.1 vwCl (wl_ws X d π) t_2.heap := hP
      refine gw_iret (d, π) hx hb hr hlocks (wl_hB hP) hS dX0_tellOf_35 ?_
      rw [e_c_1]; exact ⟨rfl, rfl⟩
    · refine lv_tableIn (tgt := 36) hx hb dX0_tellOf_1 (by rw [e_c_1]; decide) (by rw [e_c_1]; decide) (by rw [e_c_1]; rfl) (by decide) ?_
      refine lv_aload_n hx hb dX0_tellOf_36 rfl (lv_at hl 0 rfl) ?_
      refine gw_get hx hb hts inX0 hown hK hP (24 + i) (wl_kE hi) (wl_cE hi) rfl 2 (by decide) (hts _ mG_68) (fun _ h9 => h9) (v := .int (d (24 + i) 2)) rfl dX0_tellOf_37 ?_
      refine gw_iret (d, π) hx hb hr hlocks (wl_hB hP) hS dX0_tellOf_40 ?_
      rw [e_c_1]; exact ⟨rfl, rfl⟩
    · refine lv_tableIn (tgt := 41) hx hb dX0_tellOf_1 (by rw [e_c_1]; decide) (by rw [e_c_1]; decide) (by rw [e_c_1]; rfl) (by decide) ?_
      refine lv_aload_n hx hb dX0_tellOf_41 rfl (lv_at hl 0 rfl) ?_
      refine gw_get hx hb hts inX0 hown hK hP (24 + i) (wl_kE hi) (wl_cE hi) rfl 3 (by decide) (hts _ mG_69) (fun _ h9 => h9) (v := .int (d (24 + i) 3)) rfl dX0_tellOf_42 ?_
      refine gw_calli (va_runSN (As := [.int (d (24 + i) 3)]) (rest := []) ⟨hx, hb, hml, hown, hts⟩ (c_WatchList_oneIf X hX d π (d (24 + i) 3) h3) ⟨va_cnB 1 hts giX3_oneIf rfl rfl rfl (hN _ (List.mem_of_getElem? (i := 25) rfl)) (hts _ mG_22) pdX3_oneIf ⟨Nat.le_of_ble_eq_true rfl, Nat.le_of_ble_eq_true rfl⟩, hts _ mG_191, trivial⟩ ⟨wl_blind, wl_at hP hK hN⟩ rfl rfl hl.1 rfl (lv_room (Nat.le_of_ble_eq_true rfl)) dX0_tellOf_45 ⟨Nat.le_of_ble_eq_true rfl, Nat.le_of_ble_eq_true rfl⟩) hS (fun r_3 u_3 t_3 locs hw hP hS => ?_)
      obtain ⟨rfl, rfl⟩ := hw
      have hP : va_P X.1 vwCl (wl_ws X d π) t_3.heap := hP
      refine gw_iret (d, π) hx hb hr hlocks (wl_hB hP) hS dX0_tellOf_48 ?_
      rw [e_c_1]; exact ⟨rfl, rfl⟩
set_option maxHeartbeats 4000000 in
set_option maxRecDepth 100000 in
theorem c_Event_takeAction (X : wl_X) (hX : gw_inj 88 X.2.1) (d : Nat → Nat → Int32) (π : Nat → Nat) (i : Nat) (hi : i < 32) (z : Nat)  (hz : z ≤ 256) (hfit : ∀ j, j < 256 → fits .byte (.int (d 5 j)) = true) : Met l yX0_takeAction wsX0_takeAction ({ frames := 1, cells := 0, slots := 0, locals := 40 }) (wl_pre X [.ref (X.2.1 (24 + i)), .ref (X.2.1 5), .int (nI z)] d π) (va_Qv (fun u => u = (up2 (up2 (va_up d (56 + i) (va_cpy (d 5) (d (56 + i)) 0 0 z)) (24 + i) 2 (nI z)) (24 + i) 3 0, π)) (wl_b X) (gw_A 88 X.2.1)) 0 0 (gw_A 88 X.2.1) := by
  refine Met.ofW (cc := cX0_takeAction) (maxL := 3) (ret := none) (by decide) rfl ?_
  intro p e s m args below meth c s₁ B hml hv
  obtain ⟨rfl, hP, hK, hN⟩ := hv
  have hx := B.exec
  have hb := B.bytes
  have hr := B.returns
  have hts : ∀ w ∈ gG, w.before _ s = true := fun w h => atoms_spec (ws := wsX0_takeAction) B.pre w (List.mem_cons_of_mem _ h)
  have hown : s.vm.findClass RX0 = some m.cls := findClass_of_methodNamed B.named
  have hlocks := B.notSynchronized
  have hS : va_S (gw_A 88 X.2.1) s.heap s.heap [] := va_S.rf
  have hl := lv_entry ([.ref (X.2.1 (24 + i)), .ref (X.2.1 5), .int (nI z)]) (n := 3) (Nat.le_of_ble_eq_true rfl)
  rw [lg_entry_eq]
  generalize (lg_sl ([.ref (X.2.1 (24 + i)), .ref (X.2.1 5), .int (nI z)]) ++ List.replicate (3 - (lg_sl ([.ref (X.2.1 (24 + i)), .ref (X.2.1 5), .int (nI z)])).length) Slot.unset).toArray = ls at hl ⊢
  have hl : lv_has ls 3 [(0, .ref (X.2.1 (24 + i))), (1, .ref (X.2.1 5)), (2, .int (nI z))] := hl
  refine lv_aload_n hx hb dX0_takeAction_0 rfl (lv_at hl 1 rfl) ?_
  refine lv_iconst (v := 0) hx hb dX0_takeAction_1 (by decide) ?_
  refine lv_aload_n hx hb dX0_takeAction_2 rfl (lv_at hl 0 rfl) ?_
  refine gw_get hx hb hts inX0 hown hK hP (24 + i) (wl_kE hi) (wl_cE hi) rfl 1 (by decide) (hts _ mG_67) (fun _ h9 => h9) (v := .ref (X.2.1 (56 + i))) rfl dX0_takeAction_3 ?_
  refine lv_iconst (v := 0) hx hb dX0_takeAction_6 (by decide) ?_
  refine lv_iload_n hx hb dX0_takeAction_7 rfl (lv_at hl 2 rfl) ?_
  refine gw_copyb hx hb (hml.trans hl.1.symm) hown (hts _ mG_171) (hts _ mG_173) (hts _ mG_172) (hts _ mG_27) hK hP hX hS 5 (56 + i) 1 1 (by decide) (wl_kB hi) wl_c5 (wl_cB hi) rfl rfl (z := z) (by omega) hz hz (fun j hj => hfit j (by omega)) (Nat.le_of_ble_eq_true rfl) (Nat.le_of_ble_eq_true rfl) (cf' := wl_c X (va_up d (56 + i) (va_cpy (d 5) (d (56 + i)) 0 0 z)) π) (by rw [wl_cB hi, va_up_self]) wl_ov dX0_takeAction_8 (fun H locs hP hS => ?_)
  refine lv_aload_n hx hb dX0_takeAction_11 rfl (lv_at hl 0 rfl) ?_
  refine lv_iload_n hx hb dX0_takeAction_12 rfl (lv_at hl 2 rfl) ?_
  refine gw_put hx hb hts inX0 tyX0 okX0 nmX0 hown hK hP hX hS (24 + i) (wl_kE hi) (wl_cE hi) rfl 2 (by decide) (hts _ mG_68) (fun _ h9 => h9) rfl (ty := .int) (v := .int (nI z)) (by decide +kernel) rfl rfl (Nat.le_of_ble_eq_true rfl) (cf' := wl_c X (up2 (va_up d (56 + i) (va_cpy (d 5) (d (56 + i)) 0 0 z)) (24 + i) 2 (nI z)) π) (wl_uE2 hi) wl_o dX0_takeAction_13 (fun H locs hP hS => ?_)
  refine lv_aload_n hx hb dX0_takeAction_16 rfl (lv_at hl 0 rfl) ?_
  refine lv_iconst (v := 0) hx hb dX0_takeAction_17 (by decide) ?_
  refine gw_put hx hb hts inX0 tyX0 okX0 nmX0 hown hK hP hX hS (24 + i) (wl_kE hi) (wl_cE hi) rfl 3 (by decide) (hts _ mG_69) (fun _ h9 => h9) rfl (ty := .boolean) (v := .int 0) (by decide +kernel) (gw_nz (by decide)) (gw_fz (by decide)) (Nat.le_of_ble_eq_true rfl) (cf' := wl_c X (up2 (up2 (va_up d (56 + i) (va_cpy (d 5) (d (56 + i)) 0 0 z)) (24 + i) 2 (nI z)) (24 + i) 3 0) π) (wl_uE3 hi) wl_o dX0_takeAction_18 (fun H locs hP hS => ?_)
  refine gw_vret (up2 (up2 (va_up d (56 + i) (va_cpy (d 5) (d (56 + i)) 0 0 z)) (24 + i) 2 (nI z)) (24 + i) 3 0, π) hx hb hr hlocks (wl_hB hP) hS dX0_takeAction_21 ?_
  rfl
set_option maxHeartbeats 4000000 in
set_option maxRecDepth 100000 in
theorem c_Queue_append (X : wl_X) (hX : gw_inj 88 X.2.1) (d : Nat → Nat → Int32) (π : Nat → Nat)  (ev : Int32) (nu : Int32) (f : Nat) (q : Nat) (hf : d 4 2 = nI f) (hq : d 4 3 = nI q) (hf6 : f < 64) (hq6 : q ≤ 64) : Met l yX2_append wsX2_append ({ frames := 0, cells := 0, slots := 0, locals := 0 }) (wl_pre X [.ref (X.2.1 4), .int ev, .int nu] d π) (va_Qv (fun u => u = (wl_app d f q ev nu, π)) (wl_b X) (gw_A 88 X.2.1)) 0 0 (gw_A 88 X.2.1) := by
  refine Met.ofW (cc := cX2_append) (maxL := 4) (ret := none) (by decide) rfl ?_
  intro p e s m args below meth c s₁ B hml hv
  obtain ⟨rfl, hP, hK, hN⟩ := hv
  have hx := B.exec
  have hb := B.bytes
  have hr := B.returns
  have hts : ∀ w ∈ gG, w.before _ s = true := fun w h => atoms_spec (ws := wsX2_append) B.pre w (List.mem_cons_of_mem _ h)
  have hown : s.vm.findClass RX2 = some m.cls := findClass_of_methodNamed B.named
  have hlocks := B.notSynchronized
  have hS : va_S (gw_A 88 X.2.1) s.heap s.heap [] := va_S.rf
  have hl := lv_entry ([.ref (X.2.1 4), .int ev, .int nu]) (n := 4) (Nat.le_of_ble_eq_true rfl)
  rw [lg_entry_eq]
  generalize (lg_sl ([.ref (X.2.1 4), .int ev, .int nu]) ++ List.replicate (4 - (lg_sl ([.ref (X.2.1 4), .int ev, .int nu])).length) Slot.unset).toArray = ls at hl ⊢
  have hl : lv_has ls 4 [(0, .ref (X.2.1 4)), (1, .int ev), (2, .int nu)] := hl
  refine lv_aload_n hx hb dX2_append_0 rfl (lv_at hl 0 rfl) ?_
  refine gw_get hx hb hts inX2 hown hK hP 4 (by decide) wl_c4 rfl 2 (by decide) (hts _ mG_45) (fun _ h9 => h9) (v := .int (d 4 2)) rfl dX2_append_1 ?_
  refine lv_aload_n hx hb dX2_append_4 rfl (lv_at hl 0 rfl) ?_
  refine gw_get hx hb hts inX2 hown hK hP 4 (by decide) wl_c4 rfl 3 (by decide) (hts _ mG_46) (fun _ h9 => h9) (v := .int (d 4 3)) rfl dX2_append_5 ?_
  refine lv_iadd hx hb dX2_append_8 ?_
  refine lv_bipush (v := 64) hx hb dX2_append_9 (by decide) ?_
  refine lv_irem hx hb dX2_append_11 (by decide) ?_
  refine W.eq (g2 := F0 m 12 ls (.int (nI ((f + q) % 64)) :: [])) (by rw [wl_ring hf hq (by omega) (by omega)]) ?_
  refine lv_istore_n (lv' := [(3, .int (nI ((f + q) % 64))), (0, .ref (X.2.1 4)), (1, .int ev), (2, .int nu)]) hx hb dX2_append_12 rfl hl (by decide) rfl (fun ls hl => ?_)
  refine lv_aload_n hx hb dX2_append_13 rfl (lv_at hl 1 rfl) ?_
  refine gw_get hx hb hts inX2 hown hK hP 4 (by decide) wl_c4 rfl 0 (by decide) (hts _ mG_43) (fun _ h9 => h9) (v := .ref (X.2.1 6)) rfl dX2_append_14 ?_
  refine lv_iload_n hx hb dX2_append_17 rfl (lv_at hl 0 rfl) ?_
  refine lv_iload_n hx hb dX2_append_18 rfl (lv_at hl 2 rfl) ?_
  refine gw_iast hx hb hK hP hX hS 6 0 (by decide) wl_c6 rfl (i := nI ((f + q) % 64)) (x := ev) (vp_in_nI (by omega) (by omega)) (cf' := wl_c X (up2 d 6 (nI ((f + q) % 64)).toNatClampNeg ev) π) rfl wl_o dX2_append_19 (fun H locs hP hS => ?_)
  refine lv_aload_n hx hb dX2_append_20 rfl (lv_at hl 1 rfl) ?_
  refine gw_get hx hb hts inX2 hown hK hP 4 (by decide) wl_c4 rfl 1 (by decide) (hts _ mG_44) (fun _ h9 => h9) (v := .ref (X.2.1 7)) rfl dX2_append_21 ?_
  refine lv_iload_n hx hb dX2_append_24 rfl (lv_at hl 0 rfl) ?_
  refine lv_iload_n hx hb dX2_append_25 rfl (lv_at hl 3 rfl) ?_
  refine gw_iast hx hb hK hP hX hS 7 0 (by decide) wl_c7 rfl (i := nI ((f + q) % 64)) (x := nu) (vp_in_nI (by omega) (by omega)) (cf' := wl_c X (up2 (up2 d 6 (nI ((f + q) % 64)).toNatClampNeg ev) 7 (nI ((f + q) % 64)).toNatClampNeg nu) π) rfl wl_o dX2_append_26 (fun H locs hP hS => ?_)
  refine lv_aload_n hx hb dX2_append_27 rfl (lv_at hl 1 rfl) ?_
  refine lv_dup hx hb dX2_append_28 rfl ?_
  refine gw_get hx hb hts inX2 hown hK hP 4 (by decide) wl_c4 rfl 3 (by decide) (hts _ mG_46) (fun _ h9 => h9) (v := .int ((up2 (up2 d 6 (nI ((f + q) % 64)).toNatClampNeg ev) 7 (nI ((f + q) % 64)).toNatClampNeg nu) 4 3)) rfl dX2_append_29 ?_
  refine lv_iconst (v := 1) hx hb dX2_append_32 (by decide) ?_
  refine lv_iadd hx hb dX2_append_33 ?_
  refine gw_put hx hb hts inX2 tyX2 okX2 nmX2 hown hK hP hX hS 4 (by decide) wl_c4 rfl 3 (by decide) (hts _ mG_46) (fun _ h9 => h9) rfl (ty := .int) (v := .int (((up2 (up2 d 6 (nI ((f + q) % 64)).toNatClampNeg ev) 7 (nI ((f + q) % 64)).toNatClampNeg nu) 4 3) + 1)) (by decide +kernel) rfl rfl (Nat.le_of_ble_eq_true rfl) (cf' := wl_c X (up2 (up2 (up2 d 6 (nI ((f + q) % 64)).toNatClampNeg ev) 7 (nI ((f + q) % 64)).toNatClampNeg nu) 4 3 (((up2 (up2 d 6 (nI ((f + q) % 64)).toNatClampNeg ev) 7 (nI ((f + q) % 64)).toNatClampNeg nu) 4 3) + 1)) π) rfl wl_o dX2_append_34 (fun H locs hP hS => ?_)
  refine gw_vret (up2 (up2 (up2 d 6 (nI ((f + q) % 64)).toNatClampNeg ev) 7 (nI ((f + q) % 64)).toNatClampNeg nu) 4 3 (((up2 (up2 d 6 (nI ((f + q) % 64)).toNatClampNeg ev) 7 (nI ((f + q) % 64)).toNatClampNeg nu) 4 3) + 1), π) hx hb hr hlocks (wl_hB hP) hS dX2_append_37 ?_
  have e9 : ((f + q) % 64) < 2 ^ 31 := by omega
  unfold wl_app
  rw [nI_clamp e9, up2_k (by decide), up2_k (by decide), hq, nI_1]
set_option maxHeartbeats 4000000 in
set_option maxRecDepth 100000 in
theorem c_Queue_firstEvent (X : wl_X) (hX : gw_inj 88 X.2.1) (d : Nat → Nat → Int32) (π : Nat → Nat)   (f : Nat) (hf : d 4 2 = nI f) (hf6 : f < 64) : Met l yX2_firstEvent wsX2_firstEvent ({ frames := 0, cells := 0, slots := 0, locals := 0 }) (wl_pre X [.ref (X.2.1 4)] d π) (va_Qi (fun r u => r = d 6 f ∧ u = (d, π)) (wl_b X) (gw_A 88 X.2.1)) 0 0 (gw_A 88 X.2.1) := by
  refine Met.ofW (cc := cX2_firstEvent) (maxL := 1) (ret := (some .int)) (by decide) rfl ?_
  intro p e s m args below meth c s₁ B hml hv
  obtain ⟨rfl, hP, hK, hN⟩ := hv
  have hx := B.exec
  have hb := B.bytes
  have hr := B.returns
  have hts : ∀ w ∈ gG, w.before _ s = true := fun w h => atoms_spec (ws := wsX2_firstEvent) B.pre w (List.mem_cons_of_mem _ h)
  have hown : s.vm.findClass RX2 = some m.cls := findClass_of_methodNamed B.named
  have hlocks := B.notSynchronized
  have hS : va_S (gw_A 88 X.2.1) s.heap s.heap [] := va_S.rf
  have hl := lv_entry ([.ref (X.2.1 4)]) (n := 1) (Nat.le_of_ble_eq_true rfl)
  rw [lg_entry_eq]
  generalize (lg_sl ([.ref (X.2.1 4)]) ++ List.replicate (1 - (lg_sl ([.ref (X.2.1 4)])).length) Slot.unset).toArray = ls at hl ⊢
  have hl : lv_has ls 1 [(0, .ref (X.2.1 4))] := hl
  refine lv_aload_n hx hb dX2_firstEvent_0 rfl (lv_at hl 0 rfl) ?_
  refine gw_get hx hb hts inX2 hown hK hP 4 (by decide) wl_c4 rfl 0 (by decide) (hts _ mG_43) (fun _ h9 => h9) (v := .ref (X.2.1 6)) rfl dX2_firstEvent_1 ?_
  refine lv_aload_n hx hb dX2_firstEvent_4 rfl (lv_at hl 0 rfl) ?_
  refine gw_get hx hb hts inX2 hown hK hP 4 (by decide) wl_c4 rfl 2 (by decide) (hts _ mG_45) (fun _ h9 => h9) (v := .int (d 4 2)) rfl dX2_firstEvent_5 ?_
  refine gw_iald hx hb hK hP 6 0 (by decide) wl_c6 rfl (i := d 4 2) (by rw [hf]; exact vp_in_nI hf6 (by omega)) dX2_firstEvent_8 ?_
  refine gw_iret (d, π) hx hb hr hlocks (wl_hB hP) hS dX2_firstEvent_9 ?_
  rw [hf, nI_clamp (by omega)]; exact ⟨rfl, rfl⟩
set_option maxHeartbeats 4000000 in
set_option maxRecDepth 100000 in
theorem c_Queue_firstNumber (X : wl_X) (hX : gw_inj 88 X.2.1) (d : Nat → Nat → Int32) (π : Nat → Nat)   (f : Nat) (hf : d 4 2 = nI f) (hf6 : f < 64) : Met l yX2_firstNumber wsX2_firstNumber ({ frames := 0, cells := 0, slots := 0, locals := 0 }) (wl_pre X [.ref (X.2.1 4)] d π) (va_Qi (fun r u => r = d 7 f ∧ u = (d, π)) (wl_b X) (gw_A 88 X.2.1)) 0 0 (gw_A 88 X.2.1) := by
  refine Met.ofW (cc := cX2_firstNumber) (maxL := 1) (ret := (some .int)) (by decide) rfl ?_
  intro p e s m args below meth c s₁ B hml hv
  obtain ⟨rfl, hP, hK, hN⟩ := hv
  have hx := B.exec
  have hb := B.bytes
  have hr := B.returns
  have hts : ∀ w ∈ gG, w.before _ s = true := fun w h => atoms_spec (ws := wsX2_firstNumber) B.pre w (List.mem_cons_of_mem _ h)
  have hown : s.vm.findClass RX2 = some m.cls := findClass_of_methodNamed B.named
  have hlocks := B.notSynchronized
  have hS : va_S (gw_A 88 X.2.1) s.heap s.heap [] := va_S.rf
  have hl := lv_entry ([.ref (X.2.1 4)]) (n := 1) (Nat.le_of_ble_eq_true rfl)
  rw [lg_entry_eq]
  generalize (lg_sl ([.ref (X.2.1 4)]) ++ List.replicate (1 - (lg_sl ([.ref (X.2.1 4)])).length) Slot.unset).toArray = ls at hl ⊢
  have hl : lv_has ls 1 [(0, .ref (X.2.1 4))] := hl
  refine lv_aload_n hx hb dX2_firstNumber_0 rfl (lv_at hl 0 rfl) ?_
  refine gw_get hx hb hts inX2 hown hK hP 4 (by decide) wl_c4 rfl 1 (by decide) (hts _ mG_44) (fun _ h9 => h9) (v := .ref (X.2.1 7)) rfl dX2_firstNumber_1 ?_
  refine lv_aload_n hx hb dX2_firstNumber_4 rfl (lv_at hl 0 rfl) ?_
  refine gw_get hx hb hts inX2 hown hK hP 4 (by decide) wl_c4 rfl 2 (by decide) (hts _ mG_45) (fun _ h9 => h9) (v := .int (d 4 2)) rfl dX2_firstNumber_5 ?_
  refine gw_iald hx hb hK hP 7 0 (by decide) wl_c7 rfl (i := d 4 2) (by rw [hf]; exact vp_in_nI hf6 (by omega)) dX2_firstNumber_8 ?_
  refine gw_iret (d, π) hx hb hr hlocks (wl_hB hP) hS dX2_firstNumber_9 ?_
  rw [hf, nI_clamp (by omega)]; exact ⟨rfl, rfl⟩
set_option maxHeartbeats 4000000 in
set_option maxRecDepth 100000 in
theorem c_Queue_takeFirst (X : wl_X) (hX : gw_inj 88 X.2.1) (d : Nat → Nat → Int32) (π : Nat → Nat)   (f : Nat) (hf : d 4 2 = nI f) (hf6 : f < 64) : Met l yX2_takeFirst wsX2_takeFirst ({ frames := 0, cells := 0, slots := 0, locals := 0 }) (wl_pre X [.ref (X.2.1 4)] d π) (va_Qv (fun u => u = (up2 (up2 d 4 2 (nI ((f + 1) % 64))) 4 3 (d 4 3 - 1), π)) (wl_b X) (gw_A 88 X.2.1)) 0 0 (gw_A 88 X.2.1) := by
  refine Met.ofW (cc := cX2_takeFirst) (maxL := 1) (ret := none) (by decide) rfl ?_
  intro p e s m args below meth c s₁ B hml hv
  obtain ⟨rfl, hP, hK, hN⟩ := hv
  have hx := B.exec
  have hb := B.bytes
  have hr := B.returns
  have hts : ∀ w ∈ gG, w.before _ s = true := fun w h => atoms_spec (ws := wsX2_takeFirst) B.pre w (List.mem_cons_of_mem _ h)
  have hown : s.vm.findClass RX2 = some m.cls := findClass_of_methodNamed B.named
  have hlocks := B.notSynchronized
  have hS : va_S (gw_A 88 X.2.1) s.heap s.heap [] := va_S.rf
  have hl := lv_entry ([.ref (X.2.1 4)]) (n := 1) (Nat.le_of_ble_eq_true rfl)
  rw [lg_entry_eq]
  generalize (lg_sl ([.ref (X.2.1 4)]) ++ List.replicate (1 - (lg_sl ([.ref (X.2.1 4)])).length) Slot.unset).toArray = ls at hl ⊢
  have hl : lv_has ls 1 [(0, .ref (X.2.1 4))] := hl
  refine lv_aload_n hx hb dX2_takeFirst_0 rfl (lv_at hl 0 rfl) ?_
  refine lv_aload_n hx hb dX2_takeFirst_1 rfl (lv_at hl 0 rfl) ?_
  refine gw_get hx hb hts inX2 hown hK hP 4 (by decide) wl_c4 rfl 2 (by decide) (hts _ mG_45) (fun _ h9 => h9) (v := .int (d 4 2)) rfl dX2_takeFirst_2 ?_
  refine lv_iconst (v := 1) hx hb dX2_takeFirst_5 (by decide) ?_
  refine lv_iadd hx hb dX2_takeFirst_6 ?_
  refine lv_bipush (v := 64) hx hb dX2_takeFirst_7 (by decide) ?_
  refine lv_irem hx hb dX2_takeFirst_9 (by decide) ?_
  refine W.eq (g2 := F0 m 10 ls (.int (nI ((f + 1) % 64)) :: .ref (X.2.1 4) :: [])) (by rw [wl_ring1 hf (by omega)]) ?_
  refine gw_put hx hb hts inX2 tyX2 okX2 nmX2 hown hK hP hX hS 4 (by decide) wl_c4 rfl 2 (by decide) (hts _ mG_45) (fun _ h9 => h9) rfl (ty := .int) (v := .int (nI ((f + 1) % 64))) (by decide +kernel) rfl rfl (Nat.le_of_ble_eq_true rfl) (cf' := wl_c X (up2 d 4 2 (nI ((f + 1) % 64))) π) rfl wl_o dX2_takeFirst_10 (fun H locs hP hS => ?_)
  refine lv_aload_n hx hb dX2_takeFirst_13 rfl (lv_at hl 0 rfl) ?_
  refine lv_dup hx hb dX2_takeFirst_14 rfl ?_
  refine gw_get hx hb hts inX2 hown hK hP 4 (by decide) wl_c4 rfl 3 (by decide) (hts _ mG_46) (fun _ h9 => h9) (v := .int ((up2 d 4 2 (nI ((f + 1) % 64))) 4 3)) rfl dX2_takeFirst_15 ?_
  refine lv_iconst (v := 1) hx hb dX2_takeFirst_18 (by decide) ?_
  refine lv_isub hx hb dX2_takeFirst_19 ?_
  refine gw_put hx hb hts inX2 tyX2 okX2 nmX2 hown hK hP hX hS 4 (by decide) wl_c4 rfl 3 (by decide) (hts _ mG_46) (fun _ h9 => h9) rfl (ty := .int) (v := .int (((up2 d 4 2 (nI ((f + 1) % 64))) 4 3) - 1)) (by decide +kernel) rfl rfl (Nat.le_of_ble_eq_true rfl) (cf' := wl_c X (up2 (up2 d 4 2 (nI ((f + 1) % 64))) 4 3 (((up2 d 4 2 (nI ((f + 1) % 64))) 4 3) - 1)) π) rfl wl_o dX2_takeFirst_20 (fun H locs hP hS => ?_)
  refine gw_vret (up2 (up2 d 4 2 (nI ((f + 1) % 64))) 4 3 (((up2 d 4 2 (nI ((f + 1) % 64))) 4 3) - 1), π) hx hb hr hlocks (wl_hB hP) hS dX2_takeFirst_23 ?_
  rw [up2_j (by decide)]
set_option maxHeartbeats 4000000 in
set_option maxRecDepth 100000 in
theorem c_Queue_empty (X : wl_X) (hX : gw_inj 88 X.2.1) (d : Nat → Nat → Int32) (π : Nat → Nat)    : Met l yX2_empty wsX2_empty ({ frames := 0, cells := 0, slots := 0, locals := 0 }) (wl_pre X [.ref (X.2.1 4)] d π) (va_Qv (fun u => u = (up2 d 4 3 0, π)) (wl_b X) (gw_A 88 X.2.1)) 0 0 (gw_A 88 X.2.1) := by
  refine Met.ofW (cc := cX2_empty) (maxL := 1) (ret := none) (by decide) rfl ?_
  intro p e s m args below meth c s₁ B hml hv
  obtain ⟨rfl, hP, hK, hN⟩ := hv
  have hx := B.exec
  have hb := B.bytes
  have hr := B.returns
  have hts : ∀ w ∈ gG, w.before _ s = true := fun w h => atoms_spec (ws := wsX2_empty) B.pre w (List.mem_cons_of_mem _ h)
  have hown : s.vm.findClass RX2 = some m.cls := findClass_of_methodNamed B.named
  have hlocks := B.notSynchronized
  have hS : va_S (gw_A 88 X.2.1) s.heap s.heap [] := va_S.rf
  have hl := lv_entry ([.ref (X.2.1 4)]) (n := 1) (Nat.le_of_ble_eq_true rfl)
  rw [lg_entry_eq]
  generalize (lg_sl ([.ref (X.2.1 4)]) ++ List.replicate (1 - (lg_sl ([.ref (X.2.1 4)])).length) Slot.unset).toArray = ls at hl ⊢
  have hl : lv_has ls 1 [(0, .ref (X.2.1 4))] := hl
  refine lv_aload_n hx hb dX2_empty_0 rfl (lv_at hl 0 rfl) ?_
  refine lv_iconst (v := 0) hx hb dX2_empty_1 (by decide) ?_
  refine gw_put hx hb hts inX2 tyX2 okX2 nmX2 hown hK hP hX hS 4 (by decide) wl_c4 rfl 3 (by decide) (hts _ mG_46) (fun _ h9 => h9) rfl (ty := .int) (v := .int 0) (by decide +kernel) rfl rfl (Nat.le_of_ble_eq_true rfl) (cf' := wl_c X (up2 d 4 3 0) π) rfl wl_o dX2_empty_2 (fun H locs hP hS => ?_)
  refine gw_vret (up2 d 4 3 0, π) hx hb hr hlocks (wl_hB hP) hS dX2_empty_5 ?_
  rfl

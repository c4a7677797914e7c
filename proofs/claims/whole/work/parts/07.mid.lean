variable {l : Launch}
set_option maxHeartbeats 4000000 in
set_option maxRecDepth 100000 in
theorem c_WatchList_waitOrLose (X : wl_X) (hX : gw_inj 88 X.2.1) (d : Nat → Nat → Int32) (π : Nat → Nat)  (ev : Int32) (nu : Int32) (f : Nat) (q : Nat) (hf : d 4 2 = nI f) (hq : d 4 3 = nI q) (hf6 : f < 64) (hq6 : q ≤ 64) : Met l yX3_waitOrLose wsX3_waitOrLose ({ frames := 1, cells := 0, slots := 0, locals := 23 }) (wl_pre X [.ref (X.2.1 0), .int ev, .int nu] d π) (va_Qi (fun r u => r = wl_i (decide (q < 64)) ∧ u = (wl_wol d f q ev nu, π)) (wl_b X) (gw_A 88 X.2.1)) 0 0 (gw_A 88 X.2.1) := by
  refine Met.ofW (cc := cX3_waitOrLose) (maxL := 3) (ret := (some .boolean)) (by decide) rfl ?_
  intro p e s m args below meth c s₁ B hml hv
  obtain ⟨rfl, hP, hK, hN⟩ := hv
  have hx := B.exec
  have hb := B.bytes
  have hr := B.returns
  have hts : ∀ w ∈ gG, w.before _ s = true := fun w h => atoms_spec (ws := wsX3_waitOrLose) B.pre w (List.mem_cons_of_mem _ h)
  have hown : s.vm.findClass RX3 = some m.cls := findClass_of_methodNamed B.named
  have hlocks := B.notSynchronized
  have hS : va_S (gw_A 88 X.2.1) s.heap s.heap [] := va_S.rf
  have hl := lv_entry ([.ref (X.2.1 0), .int ev, .int nu]) (n := 3) (Nat.le_of_ble_eq_true rfl)
  rw [lg_entry_eq]
  generalize (lg_sl ([.ref (X.2.1 0), .int ev, .int nu]) ++ List.replicate (3 - (lg_sl ([.ref (X.2.1 0), .int ev, .int nu])).length) Slot.unset).toArray = ls at hl ⊢
  have hl : lv_has ls 3 [(0, .ref (X.2.1 0)), (1, .int ev), (2, .int nu)] := hl
  refine lv_aload_n hx hb dX3_waitOrLose_0 rfl (lv_at hl 0 rfl) ?_
  refine gw_get hx hb hts inX3 hown hK hP 0 (by decide) wl_c0 rfl 6 (by decide) (hts _ mG_76) (fun _ h9 => h9) (v := .ref (X.2.1 4)) rfl dX3_waitOrLose_1 ?_
  refine gw_getN hx hb hts inX2 hown hK hP 4 (by decide) wl_c4 rfl 3 (by decide) (hN _ (List.mem_of_getElem? (i := 1) rfl)) (fun _ h9 => h9) (v := .int (d 4 3)) rfl dX3_waitOrLose_4 ?_
  refine lv_bipush (v := 64) hx hb dX3_waitOrLose_7 (by decide) ?_
  refine lv_icmp_lt (tgt := 24) hx hb dX3_waitOrLose_9 (by decide) (fun c_1 => ?_) (fun c_1 => ?_)
  · refine lv_aload_n hx hb dX3_waitOrLose_24 rfl (lv_at hl 0 rfl) ?_
    refine gw_get hx hb hts inX3 hown hK hP 0 (by decide) wl_c0 rfl 6 (by decide) (hts _ mG_76) (fun _ h9 => h9) (v := .ref (X.2.1 4)) rfl dX3_waitOrLose_25 ?_
    refine lv_iload_n hx hb dX3_waitOrLose_28 rfl (lv_at hl 1 rfl) ?_
    refine lv_iload_n hx hb dX3_waitOrLose_29 rfl (lv_at hl 2 rfl) ?_
    refine gw_callv (va_runVN (As := [.int ev, .int nu]) (rest := []) ⟨hx, hb, hml, hown, hts⟩ (c_Queue_append X hX d π ev nu f q hf hq hf6 hq6) ⟨va_cnB 2 hts giX2_append rfl rfl rfl (hN _ (List.mem_of_getElem? (i := 15) rfl)) (hts _ mG_23) pdX2_append ⟨Nat.le_of_ble_eq_true rfl, Nat.le_of_ble_eq_true rfl⟩, hts _ mG_129, hts _ mG_7⟩ ⟨wl_blind, gw_recv hK hP 4 (by decide) wl_c4 rfl, wl_at hP hK hN⟩ rfl rfl hl.1 rfl (lv_room (Nat.le_of_ble_eq_true rfl)) dX3_waitOrLose_30 ⟨Nat.le_of_ble_eq_true rfl, Nat.le_of_ble_eq_true rfl⟩) hS (fun u_2 t_2 locs hw hP hS => ?_)
    obtain rfl := hw
    have hP : va_P X.1 vwCl (wl_ws X (wl_app d f q ev nu) π) t_2.heap := hP
    refine lv_iconst (v := 1) hx hb dX3_waitOrLose_33 (by decide) ?_
    refine gw_zret (wl_app d f q ev nu, π) hx hb hr hlocks (by decide) (wl_hB hP) hS dX3_waitOrLose_34 ?_
    have e9 := wl_lt64 hq c_1 hq6
    unfold wl_wol
    rw [if_neg (by omega), decide_eq_true e9]; exact ⟨rfl, rfl⟩
  · refine lv_aload_n hx hb dX3_waitOrLose_12 rfl (lv_at hl 0 rfl) ?_
    refine lv_dup hx hb dX3_waitOrLose_13 rfl ?_
    refine gw_get hx hb hts inX3 hown hK hP 0 (by decide) wl_c0 rfl 7 (by decide) (hts _ mG_77) (fun _ h9 => h9) (v := .int (d 0 7)) rfl dX3_waitOrLose_14 ?_
    refine lv_iconst (v := 1) hx hb dX3_waitOrLose_17 (by decide) ?_
    refine lv_iadd hx hb dX3_waitOrLose_18 ?_
    refine gw_put hx hb hts inX3 tyX3 okX3 nmX3 hown hK hP hX hS 0 (by decide) wl_c0 rfl 7 (by decide) (hts _ mG_77) (fun _ h9 => h9) rfl (ty := .int) (v := .int ((d 0 7) + 1)) (by decide +kernel) rfl rfl (Nat.le_of_ble_eq_true rfl) (cf' := wl_c X (up2 d 0 7 ((d 0 7) + 1)) π) rfl wl_o dX3_waitOrLose_19 (fun H locs hP hS => ?_)
    refine lv_iconst (v := 0) hx hb dX3_waitOrLose_22 (by decide) ?_
    refine gw_zret (up2 d 0 7 ((d 0 7) + 1), π) hx hb hr hlocks (by decide) (wl_hB hP) hS dX3_waitOrLose_23 ?_
    have e9 := wl_nlt64 hq c_1 hq6
    unfold wl_wol
    rw [if_pos (by omega), decide_eq_false e9]; exact ⟨rfl, rfl⟩
set_option maxHeartbeats 4000000 in
set_option maxRecDepth 100000 in
theorem c_WatchList_actionFailure (X : wl_X) (hX : gw_inj 88 X.2.1) (d : Nat → Nat → Int32) (π : Nat → Nat)  (ev : Int32)  : Met l yX3_actionFailure wsX3_actionFailure ({ frames := 1, cells := 0, slots := 0, locals := 20 }) (wl_pre X [.ref (X.2.1 0), .int ev] d π) (va_Qi (fun r u => r = (if wl_ok ev 32 = true then (if 0 < d (24 + ev.toNatClampNeg) 2 then 0 else 30) else 16) ∧ u = (d, π)) (wl_b X) (gw_A 88 X.2.1)) 0 0 (gw_A 88 X.2.1) := by
  refine Met.ofW (cc := cX3_actionFailure) (maxL := 2) (ret := (some .int)) (by decide) rfl ?_
  intro p e s m args below meth c s₁ B hml hv
  obtain ⟨rfl, hP, hK, hN⟩ := hv
  have hx := B.exec
  have hb := B.bytes
  have hr := B.returns
  have hts : ∀ w ∈ gG, w.before _ s = true := fun w h => atoms_spec (ws := wsX3_actionFailure) B.pre w (List.mem_cons_of_mem _ h)
  have hown : s.vm.findClass RX3 = some m.cls := findClass_of_methodNamed B.named
  have hlocks := B.notSynchronized
  have hS : va_S (gw_A 88 X.2.1) s.heap s.heap [] := va_S.rf
  have hl := lv_entry ([.ref (X.2.1 0), .int ev]) (n := 2) (Nat.le_of_ble_eq_true rfl)
  rw [lg_entry_eq]
  generalize (lg_sl ([.ref (X.2.1 0), .int ev]) ++ List.replicate (2 - (lg_sl ([.ref (X.2.1 0), .int ev])).length) Slot.unset).toArray = ls at hl ⊢
  have hl : lv_has ls 2 [(0, .ref (X.2.1 0)), (1, .int ev)] := hl
  refine lv_iload_n hx hb dX3_actionFailure_0 rfl (lv_at hl 1 rfl) ?_
  refine gw_calli (va_runS (As := [.int ev]) (rest := []) ⟨hx, hb, hml, hown, hts⟩ (c_WatchList_isEvent X hX d π ev ) ⟨callB_of 1 hts giX3_isEvent rfl rfl rfl (hts _ mG_22) (hts _ mG_95) pdX3_isEvent ⟨Nat.le_of_ble_eq_true rfl, Nat.le_of_ble_eq_true rfl⟩, hts _ mG_96⟩ ⟨wl_blind, wl_at hP hK hN⟩ rfl rfl hl.1 rfl (lv_room (Nat.le_of_ble_eq_true rfl)) dX3_actionFailure_1 ⟨Nat.le_of_ble_eq_true rfl, Nat.le_of_ble_eq_true rfl⟩) hS (fun r_1 u_1 t_1 locs hw hP hS => ?_)
  obtain ⟨rfl, rfl⟩ := hw
  have hP : va_P X.1 vwCl (wl_ws X d π) t_1.heap := hP
  refine lv_if_ne (tgt := 10) hx hb dX3_actionFailure_4 (by decide) (fun c_2 => ?_) (fun c_2 => ?_)
  · have ok_1 := wl_it c_2
    have hj := wl_ok32c ok_1
    refine lv_aload_n hx hb dX3_actionFailure_10 rfl (lv_at hl 0 rfl) ?_
    refine gw_get hx hb hts inX3 hown hK hP 0 (by decide) wl_c0 rfl 5 (by decide) (hts _ mG_75) (fun _ h9 => h9) (v := .ref (X.2.1 3)) rfl dX3_actionFailure_11 ?_
    refine lv_iload_n hx hb dX3_actionFailure_14 rfl (lv_at hl 1 rfl) ?_
    refine gw_aald hx hb hK hP 3 3 (by decide) wl_c3 rfl (i := ev) hj.1 (k := 24 + ev.toNatClampNeg) rfl dX3_actionFailure_15 ?_
    refine gw_calli (va_runVN (As := []) (rest := []) ⟨hx, hb, hml, hown, hts⟩ (c_Event_hasAction X hX d π ev.toNatClampNeg hj.2  ) ⟨va_cnB 0 hts giX0_hasAction rfl rfl rfl (hN _ (List.mem_of_getElem? (i := 20) rfl)) (hts _ mG_25) pdX0_hasAction ⟨Nat.le_of_ble_eq_true rfl, Nat.le_of_ble_eq_true rfl⟩, hts _ mG_167, hts _ mG_12⟩ ⟨wl_blind, gw_recv hK hP (24 + ev.toNatClampNeg) (wl_kE hj.2) (wl_cE hj.2) rfl, wl_at hP hK hN⟩ rfl rfl hl.1 rfl (lv_room (Nat.le_of_ble_eq_true rfl)) dX3_actionFailure_16 ⟨Nat.le_of_ble_eq_true rfl, Nat.le_of_ble_eq_true rfl⟩) hS (fun r_3 u_3 t_3 locs hw hP hS => ?_)
    obtain ⟨rfl, rfl⟩ := hw
    have hP : va_P X.1 vwCl (wl_ws X d π) t_3.heap := hP
    refine lv_if_eq (tgt := 26) hx hb dX3_actionFailure_19 (by decide) (fun c_4 => ?_) (fun c_4 => ?_)
    · have ha := wl_if c_4
      refine lv_bipush (v := 30) hx hb dX3_actionFailure_26 (by decide) ?_
      refine gw_iret (d, π) hx hb hr hlocks (wl_hB hP) hS dX3_actionFailure_28 ?_
      rw [if_pos ok_1, if_neg (of_decide_eq_false ha)]; exact ⟨rfl, rfl⟩
    · have ha := wl_it c_4
      refine lv_iconst (v := 0) hx hb dX3_actionFailure_22 (by decide) ?_
      refine lv_goto (tgt := 28) hx hb dX3_actionFailure_23 (by decide) ?_
      refine gw_iret (d, π) hx hb hr hlocks (wl_hB hP) hS dX3_actionFailure_28 ?_
      rw [if_pos ok_1, if_pos (of_decide_eq_true ha)]; exact ⟨rfl, rfl⟩
  · have ok_1 := wl_if c_2
    refine lv_bipush (v := 16) hx hb dX3_actionFailure_7 (by decide) ?_
    refine gw_iret (d, π) hx hb hr hlocks (wl_hB hP) hS dX3_actionFailure_9 ?_
    rw [if_neg (by rw [ok_1]; decide)]; exact ⟨rfl, rfl⟩
set_option maxHeartbeats 4000000 in
set_option maxRecDepth 100000 in
theorem c_WatchList_placeOf (X : wl_X) (hX : gw_inj 88 X.2.1) (d : Nat → Nat → Int32) (π : Nat → Nat)  (id : Int32) (n : Nat) (hn : d 0 2 = nI n) (hn16 : n ≤ 16) (hπ : ∀ j, j < 16 → π j < 16) : Met l yX3_placeOf wsX3_placeOf ({ frames := 0, cells := 0, slots := 0, locals := 0 }) (wl_pre X [.ref (X.2.1 0), .int id] d π) (va_Qi (fun r u => u = (d, π) ∧ ((∃ i, i < n ∧ r = nI i ∧ d (8 + π i) 0 = id ∧ ∀ j, j < i → ¬ d (8 + π j) 0 = id) ∨ (r = -1 ∧ ∀ j, j < n → ¬ d (8 + π j) 0 = id))) (wl_b X) (gw_A 88 X.2.1)) 0 0 (gw_A 88 X.2.1) := by
  refine Met.ofW (cc := cX3_placeOf) (maxL := 3) (ret := (some .int)) (by decide) rfl ?_
  intro p e s m args below meth c s₁ B hml hv
  obtain ⟨rfl, hP, hK, hN⟩ := hv
  have hx := B.exec
  have hb := B.bytes
  have hr := B.returns
  have hts : ∀ w ∈ gG, w.before _ s = true := fun w h => atoms_spec (ws := wsX3_placeOf) B.pre w (List.mem_cons_of_mem _ h)
  have hown : s.vm.findClass RX3 = some m.cls := findClass_of_methodNamed B.named
  have hlocks := B.notSynchronized
  have hS : va_S (gw_A 88 X.2.1) s.heap s.heap [] := va_S.rf
  have hl := lv_entry ([.ref (X.2.1 0), .int id]) (n := 3) (Nat.le_of_ble_eq_true rfl)
  rw [lg_entry_eq]
  generalize (lg_sl ([.ref (X.2.1 0), .int id]) ++ List.replicate (3 - (lg_sl ([.ref (X.2.1 0), .int id])).length) Slot.unset).toArray = ls at hl ⊢
  have hl : lv_has ls 3 [(0, .ref (X.2.1 0)), (1, .int id)] := hl
  refine lv_iconst (v := 0) hx hb dX3_placeOf_0 (by decide) ?_
  refine lv_istore_n (lv' := [(2, .int 0), (0, .ref (X.2.1 0)), (1, .int id)]) hx hb dX3_placeOf_1 rfl hl (by decide) rfl (fun ls hl => ?_)
  obtain ⟨i, hi⟩ : ∃ i : Nat, i = 0 := ⟨0, rfl⟩
  have hi1 : i ≤ n := by omega
  replace hl : lv_has ls 3 [(2, .int (nI i)), (0, .ref (X.2.1 0)), (1, .int id)] := by rw [hi, nI_0]; exact hl
  obtain ⟨g, hg⟩ : ∃ g : Nat, n < i + g := ⟨n + 1, by omega⟩
  have hf : ∀ j, j < i → ¬ d (8 + π j) 0 = id := fun j h => absurd h (by omega)
  clear hi
  induction g generalizing i ls with
  | zero => exact absurd hg (by omega)
  | succ g ih =>
    refine lv_iload_n hx hb dX3_placeOf_2 rfl (lv_at hl 0 rfl) ?_
    refine lv_aload_n hx hb dX3_placeOf_3 rfl (lv_at hl 1 rfl) ?_
    refine gw_get hx hb hts inX3 hown hK hP 0 (by decide) wl_c0 rfl 2 (by decide) (hts _ mG_72) (fun _ h9 => h9) (v := .int (d 0 2)) rfl dX3_placeOf_4 ?_
    refine lv_icmp_ge (tgt := 31) hx hb dX3_placeOf_7 (by decide) (fun c_1 => ?_) (fun c_1 => ?_)
    · have hc1 : nI n ≤ nI i := by rw [← hn]; exact c_1
      refine lv_iconst (v := (-1)) hx hb dX3_placeOf_31 (by decide) ?_
      refine gw_iret (d, π) hx hb hr hlocks (wl_hB hP) hS dX3_placeOf_32 ?_
      exact ⟨rfl, Or.inr ⟨rfl, fun j h => hf j (by have := (nI_leI (by omega) (by omega)).mp hc1; omega)⟩⟩
    · have hlt : i < n := Nat.lt_of_not_le (fun z => c_1 (by rw [hn]; exact nI_le z (by omega)))
      refine lv_aload_n hx hb dX3_placeOf_10 rfl (lv_at hl 1 rfl) ?_
      refine gw_get hx hb hts inX3 hown hK hP 0 (by decide) wl_c0 rfl 1 (by decide) (hts _ mG_71) (fun _ h9 => h9) (v := .ref (X.2.1 2)) rfl dX3_placeOf_11 ?_
      refine lv_iload_n hx hb dX3_placeOf_14 rfl (lv_at hl 0 rfl) ?_
      refine gw_aald hx hb hK hP 2 2 (by decide) wl_c2 rfl (i := nI i) (vp_in_nI (by omega) (by omega)) (k := 8 + (π i)) (by show some (X.2.1 (8 + π (nI i).toNatClampNeg)) = _; rw [nI_clamp (by omega)]) dX3_placeOf_15 ?_
      refine gw_getN hx hb hts inX1 hown hK hP (8 + (π i)) (wl_kL (hπ i (by omega))) (wl_cL (hπ i (by omega))) rfl 0 (by decide) (hN _ (List.mem_of_getElem? (i := 3) rfl)) (fun _ h9 => h9) (v := .int (d (8 + (π i)) 0)) rfl dX3_placeOf_16 ?_
      refine lv_iload_n hx hb dX3_placeOf_19 rfl (lv_at hl 2 rfl) ?_
      refine lv_icmp_ne (tgt := 25) hx hb dX3_placeOf_20 (by decide) (fun c_2 => ?_) (fun c_2 => ?_)
      · have c_9 := c_2
        refine lv_iinc (v := nI (i + 1)) (lv' := [(2, .int (nI (i + 1))), (0, .ref (X.2.1 0)), (1, .int id)]) hx hb dX3_placeOf_25 hl (k := 0) rfl (nI_1 i) (by decide) rfl (fun ls hl => ?_)
        refine lv_goto (tgt := 2) hx hb dX3_placeOf_28 (by decide) ?_
        exact ih (i := i + 1) (ls := ls) (hi1 := by omega) (hl := hl) (hg := by omega) (hf := lt_s hf c_9)
      · have c_9 := c_2
        refine lv_iload_n hx hb dX3_placeOf_23 rfl (lv_at hl 0 rfl) ?_
        refine gw_iret (d, π) hx hb hr hlocks (wl_hB hP) hS dX3_placeOf_24 ?_
        exact ⟨rfl, Or.inl ⟨i, hlt, rfl, c_9, hf⟩⟩
set_option maxHeartbeats 4000000 in
set_option maxRecDepth 100000 in
theorem c_WatchList_openPlaceFor (X : wl_X) (hX : gw_inj 88 X.2.1) (d : Nat → Nat → Int32) (π : Nat → Nat)  (id : Int32) (n : Nat) (hn : d 0 2 = nI n) (hn16 : n < 16) (hπ : ∀ j, j < 16 → π j < 16) : Met l yX3_openPlaceFor wsX3_openPlaceFor ({ frames := 0, cells := 0, slots := 0, locals := 0 }) (wl_pre X [.ref (X.2.1 0), .int id] d π) (va_Qr (fun u => u.2.2 = 8 + π n ∧ ∃ pl, pl ≤ n ∧ (∀ j, pl ≤ j → j < n → id < d (8 + π j) 0) ∧ (0 < pl → d (8 + π (pl - 1)) 0 ≤ id) ∧ u.1 = up2 d 0 2 (nI (n + 1)) ∧ u.2.1 = va_up (wl_sh π n pl) pl (π n)) (wl_br X) (gw_A 88 X.2.1)) 0 0 (gw_A 88 X.2.1) := by
  refine Met.ofW (cc := cX3_openPlaceFor) (maxL := 4) (ret := (some (.object "WatchList$Limit"))) (by decide) rfl ?_
  intro p e s m args below meth c s₁ B hml hv
  obtain ⟨rfl, hP, hK, hN⟩ := hv
  have hx := B.exec
  have hb := B.bytes
  have hr := B.returns
  have hts : ∀ w ∈ gG, w.before _ s = true := fun w h => atoms_spec (ws := wsX3_openPlaceFor) B.pre w (List.mem_cons_of_mem _ h)
  have hown : s.vm.findClass RX3 = some m.cls := findClass_of_methodNamed B.named
  have hlocks := B.notSynchronized
  have hS : va_S (gw_A 88 X.2.1) s.heap s.heap [] := va_S.rf
  have hl := lv_entry ([.ref (X.2.1 0), .int id]) (n := 4) (Nat.le_of_ble_eq_true rfl)
  rw [lg_entry_eq]
  generalize (lg_sl ([.ref (X.2.1 0), .int id]) ++ List.replicate (4 - (lg_sl ([.ref (X.2.1 0), .int id])).length) Slot.unset).toArray = ls at hl ⊢
  have hl : lv_has ls 4 [(0, .ref (X.2.1 0)), (1, .int id)] := hl
  refine lv_aload_n hx hb dX3_openPlaceFor_0 rfl (lv_at hl 0 rfl) ?_
  refine gw_get hx hb hts inX3 hown hK hP 0 (by decide) wl_c0 rfl 1 (by decide) (hts _ mG_71) (fun _ h9 => h9) (v := .ref (X.2.1 2)) rfl dX3_openPlaceFor_1 ?_
  refine lv_aload_n hx hb dX3_openPlaceFor_4 rfl (lv_at hl 0 rfl) ?_
  refine gw_get hx hb hts inX3 hown hK hP 0 (by decide) wl_c0 rfl 2 (by decide) (hts _ mG_72) (fun _ h9 => h9) (v := .int (d 0 2)) rfl dX3_openPlaceFor_5 ?_
  refine gw_aald hx hb hK hP 2 2 (by decide) wl_c2 rfl (i := d 0 2) (by rw [hn]; exact vp_in_nI hn16 (by omega)) (k := 8 + (π n)) (by show some (X.2.1 (8 + π (d 0 2).toNatClampNeg)) = _; rw [hn, nI_clamp (by omega)]) dX3_openPlaceFor_8 ?_
  refine lv_astore_n (lv' := [(2, .ref (X.2.1 (8 + (π n)))), (0, .ref (X.2.1 0)), (1, .int id)]) hx hb dX3_openPlaceFor_9 rfl hl (by decide) rfl (fun ls hl => ?_)
  refine lv_aload_n hx hb dX3_openPlaceFor_10 rfl (lv_at hl 1 rfl) ?_
  refine gw_get hx hb hts inX3 hown hK hP 0 (by decide) wl_c0 rfl 2 (by decide) (hts _ mG_72) (fun _ h9 => h9) (v := .int (d 0 2)) rfl dX3_openPlaceFor_11 ?_
  refine lv_istore_n (lv' := [(3, .int (d 0 2)), (2, .ref (X.2.1 (8 + (π n)))), (0, .ref (X.2.1 0)), (1, .int id)]) hx hb dX3_openPlaceFor_14 rfl hl (by decide) rfl (fun ls hl => ?_)
  obtain ⟨pl, hi⟩ : ∃ i : Nat, i = n := ⟨n, rfl⟩
  obtain ⟨H, hH⟩ : ∃ z : Heap, z = s.heap := ⟨_, rfl⟩
  obtain ⟨locs, hlo⟩ : ∃ z : List Loc, z = [] := ⟨_, rfl⟩
  replace hS : va_S (gw_A 88 X.2.1) s.heap H locs := by rw [hH, hlo]; exact hS
  replace hP : va_P X.1 vwCl (wl_ws X d (wl_sh π n pl)) H := by rw [hi, wl_sh_n, hH]; exact hP
  rw [← hH, ← hlo]
  have hi1 : pl ≤ n := by omega
  replace hl : lv_has ls 4 [(3, .int (nI pl)), (2, .ref (X.2.1 (8 + π n))), (0, .ref (X.2.1 0)), (1, .int id)] := by rw [hi, ← hn]; exact hl
  obtain ⟨g, hg⟩ : ∃ g : Nat, pl < g := ⟨n + 1, by omega⟩
  have hmo : ∀ j, pl ≤ j → j < n → id < d (8 + π j) 0 := fun j h1 h2 => absurd h1 (by omega)
  clear hi hlo hH
  induction g generalizing pl ls H locs with
  | zero => exact absurd hg (by omega)
  | succ g ih =>
    refine lv_iload_n hx hb dX3_openPlaceFor_15 rfl (lv_at hl 0 rfl) ?_
    refine lv_if_le (tgt := 54) hx hb dX3_openPlaceFor_16 (by decide) (fun c_1 => ?_) (fun c_1 => ?_)
    · have hz0 : pl = 0 := by have := (nI_leI (b := 0) (by omega) (by omega)).mp c_1; omega
      refine lv_aload_n hx hb dX3_openPlaceFor_54 rfl (lv_at hl 2 rfl) ?_
      refine gw_get hx hb hts inX3 hown hK hP 0 (by decide) wl_c0 rfl 1 (by decide) (hts _ mG_71) (fun _ h9 => h9) (v := .ref (X.2.1 2)) rfl dX3_openPlaceFor_55 ?_
      refine lv_iload_n hx hb dX3_openPlaceFor_58 rfl (lv_at hl 0 rfl) ?_
      refine lv_aload_n hx hb dX3_openPlaceFor_59 rfl (lv_at hl 1 rfl) ?_
      refine gw_aast hx hb hK hP hX hS 2 2 (8 + (π n)) 1 (by decide) (wl_kL (hπ n hn16)) wl_c2 rfl (wl_cL (hπ n hn16)) rfl (i := nI pl) (vp_in_nI (by omega) (by omega)) (cf' := wl_c X d (va_up (wl_sh π n pl) pl (π n))) (by rw [wl_u2, nI_clamp (by omega)]) wl_op dX3_openPlaceFor_60 (fun H locs hP hS => ?_)
      refine lv_aload_n hx hb dX3_openPlaceFor_61 rfl (lv_at hl 2 rfl) ?_
      refine lv_dup hx hb dX3_openPlaceFor_62 rfl ?_
      refine gw_get hx hb hts inX3 hown hK hP 0 (by decide) wl_c0 rfl 2 (by decide) (hts _ mG_72) (fun _ h9 => h9) (v := .int (d 0 2)) rfl dX3_openPlaceFor_63 ?_
      refine lv_iconst (v := 1) hx hb dX3_openPlaceFor_66 (by decide) ?_
      refine lv_iadd hx hb dX3_openPlaceFor_67 ?_
      refine gw_put hx hb hts inX3 tyX3 okX3 nmX3 hown hK hP hX hS 0 (by decide) wl_c0 rfl 2 (by decide) (hts _ mG_72) (fun _ h9 => h9) rfl (ty := .int) (v := .int ((d 0 2) + 1)) (by decide +kernel) rfl rfl (Nat.le_of_ble_eq_true rfl) (cf' := wl_c X (up2 d 0 2 ((d 0 2) + 1)) (va_up (wl_sh π n pl) pl (π n))) rfl wl_o dX3_openPlaceFor_68 (fun H locs hP hS => ?_)
      refine lv_aload_n hx hb dX3_openPlaceFor_71 rfl (lv_at hl 1 rfl) ?_
      refine gw_aret (up2 d 0 2 ((d 0 2) + 1), va_up (wl_sh π n pl) pl (π n), 8 + π n) hx hb hr hlocks (wl_hBr (k := 8 + π n) hP) hS dX3_openPlaceFor_72 ?_
      exact ⟨rfl, pl, hi1, hmo, fun z => absurd z (by omega), by show up2 d 0 2 (d 0 2 + 1) = _; rw [hn, nI_1], rfl⟩
    · have hp0 : 0 < pl := Nat.pos_of_ne_zero (fun z => c_1 (by rw [z]; decide))
      refine lv_aload_n hx hb dX3_openPlaceFor_19 rfl (lv_at hl 2 rfl) ?_
      refine gw_get hx hb hts inX3 hown hK hP 0 (by decide) wl_c0 rfl 1 (by decide) (hts _ mG_71) (fun _ h9 => h9) (v := .ref (X.2.1 2)) rfl dX3_openPlaceFor_20 ?_
      refine lv_iload_n hx hb dX3_openPlaceFor_23 rfl (lv_at hl 0 rfl) ?_
      refine lv_iconst (v := 1) hx hb dX3_openPlaceFor_24 (by decide) ?_
      refine lv_isub hx hb dX3_openPlaceFor_25 ?_
      refine W.eq (g2 := F0 m 26 ls (.int (nI (pl - 1)) :: .ref (X.2.1 2) :: [])) (by rw [show nI pl - 1 = nI (pl - 1) by rw [show pl = (pl - 1) + 1 by omega, nI_pred, Nat.add_sub_cancel]]) ?_
      refine gw_aald hx hb hK hP 2 2 (by decide) wl_c2 rfl (i := nI (pl - 1)) (vp_in_nI (by omega) (by omega)) (k := 8 + (π (pl - 1))) (by show some (X.2.1 (8 + wl_sh π n pl (nI (pl - 1)).toNatClampNeg)) = _; rw [nI_clamp (by omega), wl_sh_lo (by omega)]) dX3_openPlaceFor_26 ?_
      refine gw_getN hx hb hts inX1 hown hK hP (8 + (π (pl - 1))) (wl_kL (hπ (pl - 1) (by omega))) (wl_cL (hπ (pl - 1) (by omega))) rfl 0 (by decide) (hN _ (List.mem_of_getElem? (i := 3) rfl)) (fun _ h9 => h9) (v := .int (d (8 + (π (pl - 1))) 0)) rfl dX3_openPlaceFor_27 ?_
      refine lv_iload_n hx hb dX3_openPlaceFor_30 rfl (lv_at hl 3 rfl) ?_
      refine lv_icmp_le (tgt := 54) hx hb dX3_openPlaceFor_31 (by decide) (fun c_2 => ?_) (fun c_2 => ?_)
      · have hle : d (8 + π (pl - 1)) 0 ≤ id := c_2
        refine lv_aload_n hx hb dX3_openPlaceFor_54 rfl (lv_at hl 2 rfl) ?_
        refine gw_get hx hb hts inX3 hown hK hP 0 (by decide) wl_c0 rfl 1 (by decide) (hts _ mG_71) (fun _ h9 => h9) (v := .ref (X.2.1 2)) rfl dX3_openPlaceFor_55 ?_
        refine lv_iload_n hx hb dX3_openPlaceFor_58 rfl (lv_at hl 0 rfl) ?_
        refine lv_aload_n hx hb dX3_openPlaceFor_59 rfl (lv_at hl 1 rfl) ?_
        refine gw_aast hx hb hK hP hX hS 2 2 (8 + (π n)) 1 (by decide) (wl_kL (hπ n hn16)) wl_c2 rfl (wl_cL (hπ n hn16)) rfl (i := nI pl) (vp_in_nI (by omega) (by omega)) (cf' := wl_c X d (va_up (wl_sh π n pl) pl (π n))) (by rw [wl_u2, nI_clamp (by omega)]) wl_op dX3_openPlaceFor_60 (fun H locs hP hS => ?_)
        refine lv_aload_n hx hb dX3_openPlaceFor_61 rfl (lv_at hl 2 rfl) ?_
        refine lv_dup hx hb dX3_openPlaceFor_62 rfl ?_
        refine gw_get hx hb hts inX3 hown hK hP 0 (by decide) wl_c0 rfl 2 (by decide) (hts _ mG_72) (fun _ h9 => h9) (v := .int (d 0 2)) rfl dX3_openPlaceFor_63 ?_
        refine lv_iconst (v := 1) hx hb dX3_openPlaceFor_66 (by decide) ?_
        refine lv_iadd hx hb dX3_openPlaceFor_67 ?_
        refine gw_put hx hb hts inX3 tyX3 okX3 nmX3 hown hK hP hX hS 0 (by decide) wl_c0 rfl 2 (by decide) (hts _ mG_72) (fun _ h9 => h9) rfl (ty := .int) (v := .int ((d 0 2) + 1)) (by decide +kernel) rfl rfl (Nat.le_of_ble_eq_true rfl) (cf' := wl_c X (up2 d 0 2 ((d 0 2) + 1)) (va_up (wl_sh π n pl) pl (π n))) rfl wl_o dX3_openPlaceFor_68 (fun H locs hP hS => ?_)
        refine lv_aload_n hx hb dX3_openPlaceFor_71 rfl (lv_at hl 1 rfl) ?_
        refine gw_aret (up2 d 0 2 ((d 0 2) + 1), va_up (wl_sh π n pl) pl (π n), 8 + π n) hx hb hr hlocks (wl_hBr (k := 8 + π n) hP) hS dX3_openPlaceFor_72 ?_
        exact ⟨rfl, pl, hi1, hmo, fun _ => hle, by show up2 d 0 2 (d 0 2 + 1) = _; rw [hn, nI_1], rfl⟩
      · have hmo' : ∀ j, pl - 1 ≤ j → j < n → id < d (8 + π j) 0 := fun j h1 h2 => by
          by_cases e : j = pl - 1
          · rw [e]; exact wl_lt_of c_2
          · exact hmo j (by omega) h2
        refine lv_aload_n hx hb dX3_openPlaceFor_34 rfl (lv_at hl 2 rfl) ?_
        refine gw_get hx hb hts inX3 hown hK hP 0 (by decide) wl_c0 rfl 1 (by decide) (hts _ mG_71) (fun _ h9 => h9) (v := .ref (X.2.1 2)) rfl dX3_openPlaceFor_35 ?_
        refine lv_iload_n hx hb dX3_openPlaceFor_38 rfl (lv_at hl 0 rfl) ?_
        refine lv_aload_n hx hb dX3_openPlaceFor_39 rfl (lv_at hl 2 rfl) ?_
        refine gw_get hx hb hts inX3 hown hK hP 0 (by decide) wl_c0 rfl 1 (by decide) (hts _ mG_71) (fun _ h9 => h9) (v := .ref (X.2.1 2)) rfl dX3_openPlaceFor_40 ?_
        refine lv_iload_n hx hb dX3_openPlaceFor_43 rfl (lv_at hl 0 rfl) ?_
        refine lv_iconst (v := 1) hx hb dX3_openPlaceFor_44 (by decide) ?_
        refine lv_isub hx hb dX3_openPlaceFor_45 ?_
        refine W.eq (g2 := F0 m 46 ls (.int (nI (pl - 1)) :: .ref (X.2.1 2) :: .int (nI pl) :: .ref (X.2.1 2) :: [])) (by rw [show nI pl - 1 = nI (pl - 1) by rw [show pl = (pl - 1) + 1 by omega, nI_pred, Nat.add_sub_cancel]]) ?_
        refine gw_aald hx hb hK hP 2 2 (by decide) wl_c2 rfl (i := nI (pl - 1)) (vp_in_nI (by omega) (by omega)) (k := 8 + (π (pl - 1))) (by show some (X.2.1 (8 + wl_sh π n pl (nI (pl - 1)).toNatClampNeg)) = _; rw [nI_clamp (by omega), wl_sh_lo (by omega)]) dX3_openPlaceFor_46 ?_
        refine gw_aast hx hb hK hP hX hS 2 2 (8 + (π (pl - 1))) 1 (by decide) (wl_kL (hπ (pl - 1) (by omega))) wl_c2 rfl (wl_cL (hπ (pl - 1) (by omega))) rfl (i := nI pl) (vp_in_nI (by omega) (by omega)) (cf' := wl_c X d (wl_sh π n (pl - 1))) (by rw [← wl_sh_step hp0 hi1, wl_u2, nI_clamp (by omega)]) wl_op dX3_openPlaceFor_47 (fun H locs hP hS => ?_)
        refine lv_iinc (v := nI (pl - 1)) (lv' := [(3, .int (nI (pl - 1))), (2, .ref (X.2.1 (8 + (π n)))), (0, .ref (X.2.1 0)), (1, .int id)]) hx hb dX3_openPlaceFor_48 hl (k := 0) rfl (by rw [show pl = (pl - 1) + 1 by omega]; exact pk_m1 _) (by decide) rfl (fun ls hl => ?_)
        refine lv_goto (tgt := 15) hx hb dX3_openPlaceFor_51 (by decide) ?_
        exact ih (pl := pl - 1) (ls := ls) (H := H) (locs := locs) (hS := hS) (hP := hP) (hi1 := by omega) (hl := hl) (hg := by omega) (hmo := hmo')
set_option maxHeartbeats 4000000 in
set_option maxRecDepth 100000 in
theorem c_WatchList_closePlace (X : wl_X) (hX : gw_inj 88 X.2.1) (d : Nat → Nat → Int32) (π : Nat → Nat) (pl : Nat)  (n : Nat) (hn : d 0 2 = nI n) (hn16 : n ≤ 16) (hpl : pl < n) (hπ : ∀ j, j < 16 → π j < 16) : Met l yX3_closePlace wsX3_closePlace ({ frames := 0, cells := 0, slots := 0, locals := 0 }) (wl_pre X [.ref (X.2.1 0), .int (nI pl)] d π) (va_Qv (fun u => u = (up2 d 0 2 (nI (n - 1)), va_up (wl_sl π pl (n - 1)) (n - 1) (π pl))) (wl_b X) (gw_A 88 X.2.1)) 0 0 (gw_A 88 X.2.1) := by
  refine Met.ofW (cc := cX3_closePlace) (maxL := 4) (ret := none) (by decide) rfl ?_
  intro p e s m args below meth c s₁ B hml hv
  obtain ⟨rfl, hP, hK, hN⟩ := hv
  have hx := B.exec
  have hb := B.bytes
  have hr := B.returns
  have hts : ∀ w ∈ gG, w.before _ s = true := fun w h => atoms_spec (ws := wsX3_closePlace) B.pre w (List.mem_cons_of_mem _ h)
  have hown : s.vm.findClass RX3 = some m.cls := findClass_of_methodNamed B.named
  have hlocks := B.notSynchronized
  have hS : va_S (gw_A 88 X.2.1) s.heap s.heap [] := va_S.rf
  have hl := lv_entry ([.ref (X.2.1 0), .int (nI pl)]) (n := 4) (Nat.le_of_ble_eq_true rfl)
  rw [lg_entry_eq]
  generalize (lg_sl ([.ref (X.2.1 0), .int (nI pl)]) ++ List.replicate (4 - (lg_sl ([.ref (X.2.1 0), .int (nI pl)])).length) Slot.unset).toArray = ls at hl ⊢
  have hl : lv_has ls 4 [(0, .ref (X.2.1 0)), (1, .int (nI pl))] := hl
  have hn1 : d 0 2 - 1 = nI (n - 1) := by rw [hn, show n = (n - 1) + 1 by omega, nI_pred, Nat.add_sub_cancel]
  refine lv_aload_n hx hb dX3_closePlace_0 rfl (lv_at hl 0 rfl) ?_
  refine gw_get hx hb hts inX3 hown hK hP 0 (by decide) wl_c0 rfl 1 (by decide) (hts _ mG_71) (fun _ h9 => h9) (v := .ref (X.2.1 2)) rfl dX3_closePlace_1 ?_
  refine lv_iload_n hx hb dX3_closePlace_4 rfl (lv_at hl 1 rfl) ?_
  refine gw_aald hx hb hK hP 2 2 (by decide) wl_c2 rfl (i := (nI pl)) (vp_in_nI (by omega) (by omega)) (k := 8 + (π pl)) (by show some (X.2.1 (8 + π (nI pl).toNatClampNeg)) = _; rw [nI_clamp (by omega)]) dX3_closePlace_5 ?_
  refine lv_astore_n (lv' := [(2, .ref (X.2.1 (8 + (π pl)))), (0, .ref (X.2.1 0)), (1, .int (nI pl))]) hx hb dX3_closePlace_6 rfl hl (by decide) rfl (fun ls hl => ?_)
  refine lv_aload_n hx hb dX3_closePlace_7 rfl (lv_at hl 1 rfl) ?_
  refine lv_dup hx hb dX3_closePlace_8 rfl ?_
  refine gw_get hx hb hts inX3 hown hK hP 0 (by decide) wl_c0 rfl 2 (by decide) (hts _ mG_72) (fun _ h9 => h9) (v := .int (d 0 2)) rfl dX3_closePlace_9 ?_
  refine lv_iconst (v := 1) hx hb dX3_closePlace_12 (by decide) ?_
  refine lv_isub hx hb dX3_closePlace_13 ?_
  refine gw_put hx hb hts inX3 tyX3 okX3 nmX3 hown hK hP hX hS 0 (by decide) wl_c0 rfl 2 (by decide) (hts _ mG_72) (fun _ h9 => h9) rfl (ty := .int) (v := .int ((d 0 2) - 1)) (by decide +kernel) rfl rfl (Nat.le_of_ble_eq_true rfl) (cf' := wl_c X (up2 d 0 2 ((d 0 2) - 1)) π) rfl wl_o dX3_closePlace_14 (fun H locs hP hS => ?_)
  refine lv_iload_n hx hb dX3_closePlace_17 rfl (lv_at hl 2 rfl) ?_
  refine lv_istore_n (lv' := [(3, .int (nI pl)), (2, .ref (X.2.1 (8 + (π pl)))), (0, .ref (X.2.1 0)), (1, .int (nI pl))]) hx hb dX3_closePlace_18 rfl hl (by decide) rfl (fun ls hl => ?_)
  obtain ⟨i, hi⟩ : ∃ i : Nat, i = pl := ⟨pl, rfl⟩
  replace hP : va_P X.1 vwCl (wl_ws X (up2 d 0 2 (nI (n - 1))) (wl_sl π pl i)) H := by rw [hi, wl_sl_0, ← hn1]; exact hP
  have hi0 : pl ≤ i := by omega
  have hi1 : i ≤ n - 1 := by omega
  replace hl : lv_has ls 4 [(3, .int (nI i)), (2, .ref (X.2.1 (8 + π pl))), (0, .ref (X.2.1 0)), (1, .int (nI pl))] := by rw [hi]; exact hl
  obtain ⟨g, hg⟩ : ∃ g : Nat, n < i + g := ⟨n + 1, by omega⟩
  clear hi
  induction g generalizing i ls H locs with
  | zero => exact absurd hg (by omega)
  | succ g ih =>
    refine lv_iload_n hx hb dX3_closePlace_19 rfl (lv_at hl 0 rfl) ?_
    refine lv_aload_n hx hb dX3_closePlace_20 rfl (lv_at hl 2 rfl) ?_
    refine gw_get hx hb hts inX3 hown hK hP 0 (by decide) wl_c0 rfl 2 (by decide) (hts _ mG_72) (fun _ h9 => h9) (v := .int ((up2 d 0 2 (nI (n - 1))) 0 2)) rfl dX3_closePlace_21 ?_
    refine lv_icmp_ge (tgt := 47) hx hb dX3_closePlace_24 (by decide) (fun c_1 => ?_) (fun c_1 => ?_)
    · have hex : n - 1 ≤ i := (nI_leI (by omega) (by omega)).mp c_1
      refine lv_aload_n hx hb dX3_closePlace_47 rfl (lv_at hl 2 rfl) ?_
      refine gw_get hx hb hts inX3 hown hK hP 0 (by decide) wl_c0 rfl 1 (by decide) (hts _ mG_71) (fun _ h9 => h9) (v := .ref (X.2.1 2)) rfl dX3_closePlace_48 ?_
      refine lv_aload_n hx hb dX3_closePlace_51 rfl (lv_at hl 2 rfl) ?_
      refine gw_get hx hb hts inX3 hown hK hP 0 (by decide) wl_c0 rfl 2 (by decide) (hts _ mG_72) (fun _ h9 => h9) (v := .int ((up2 d 0 2 (nI (n - 1))) 0 2)) rfl dX3_closePlace_52 ?_
      refine lv_aload_n hx hb dX3_closePlace_55 rfl (lv_at hl 1 rfl) ?_
      refine gw_aast hx hb hK hP hX hS 2 2 (8 + (π pl)) 1 (by decide) (wl_kL (hπ pl (by omega))) wl_c2 rfl (wl_cL (hπ pl (by omega))) rfl (i := (up2 d 0 2 (nI (n - 1))) 0 2) (vp_in_nI (n := n - 1) (by omega) (by omega)) (cf' := wl_c X (up2 d 0 2 (nI (n - 1))) (va_up (wl_sl π pl i) i (π pl))) (by rw [wl_u2, up2_s, show n - 1 = i by omega, nI_clamp (by omega)]) wl_op dX3_closePlace_56 (fun H locs hP hS => ?_)
      refine gw_vret (up2 d 0 2 (nI (n - 1)), va_up (wl_sl π pl i) i (π pl)) hx hb hr hlocks (wl_hB hP) hS dX3_closePlace_57 ?_
      rw [show n - 1 = i by omega]
    · have hlt : i < n - 1 := Nat.lt_of_not_le (fun z => c_1 (nI_le z (by omega)))
      refine lv_aload_n hx hb dX3_closePlace_27 rfl (lv_at hl 2 rfl) ?_
      refine gw_get hx hb hts inX3 hown hK hP 0 (by decide) wl_c0 rfl 1 (by decide) (hts _ mG_71) (fun _ h9 => h9) (v := .ref (X.2.1 2)) rfl dX3_closePlace_28 ?_
      refine lv_iload_n hx hb dX3_closePlace_31 rfl (lv_at hl 0 rfl) ?_
      refine lv_aload_n hx hb dX3_closePlace_32 rfl (lv_at hl 2 rfl) ?_
      refine gw_get hx hb hts inX3 hown hK hP 0 (by decide) wl_c0 rfl 1 (by decide) (hts _ mG_71) (fun _ h9 => h9) (v := .ref (X.2.1 2)) rfl dX3_closePlace_33 ?_
      refine lv_iload_n hx hb dX3_closePlace_36 rfl (lv_at hl 0 rfl) ?_
      refine lv_iconst (v := 1) hx hb dX3_closePlace_37 (by decide) ?_
      refine lv_iadd hx hb dX3_closePlace_38 ?_
      refine W.eq (g2 := F0 m 39 ls (.int (nI (i + 1)) :: .ref (X.2.1 2) :: .int (nI i) :: .ref (X.2.1 2) :: [])) (by rw [nI_1]) ?_
      refine gw_aald hx hb hK hP 2 2 (by decide) wl_c2 rfl (i := nI (i + 1)) (vp_in_nI (by omega) (by omega)) (k := 8 + (π (i + 1))) (by show some (X.2.1 (8 + wl_sl π pl i (nI (i + 1)).toNatClampNeg)) = _; rw [nI_clamp (by omega), wl_sl_hi (by omega)]) dX3_closePlace_39 ?_
      refine gw_aast hx hb hK hP hX hS 2 2 (8 + (π (i + 1))) 1 (by decide) (wl_kL (hπ (i + 1) (by omega))) wl_c2 rfl (wl_cL (hπ (i + 1) (by omega))) rfl (i := nI i) (vp_in_nI (by omega) (by omega)) (cf' := wl_c X (up2 d 0 2 (nI (n - 1))) (wl_sl π pl (i + 1))) (by rw [← wl_sl_step hi0, wl_u2, nI_clamp (by omega)]) wl_op dX3_closePlace_40 (fun H locs hP hS => ?_)
      refine lv_iinc (v := nI (i + 1)) (lv' := [(3, .int (nI (i + 1))), (2, .ref (X.2.1 (8 + (π pl)))), (0, .ref (X.2.1 0)), (1, .int (nI pl))]) hx hb dX3_closePlace_41 hl (k := 0) rfl (nI_1 i) (by decide) rfl (fun ls hl => ?_)
      refine lv_goto (tgt := 19) hx hb dX3_closePlace_44 (by decide) ?_
      exact ih (i := i + 1) (ls := ls) (H := H) (locs := locs) (hS := hS) (hP := hP) (hi0 := by omega) (hi1 := by omega) (hl := hl) (hg := by omega)

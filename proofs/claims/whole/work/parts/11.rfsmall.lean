variable {l : Launch}
set_option maxHeartbeats 4000000 in
set_option maxRecDepth 100000 in
theorem c_WatchListModel_isIn (X : rf_X) (hX : gw_inj 18 X.2.1) (d : Nat → Nat → Int32) (π : Nat → Nat)  (v : Int32) (a : Int32) (b : Int32)  : Met l yX4_isIn wsX4_isIn ({ frames := 0, cells := 0, slots := 0, locals := 0 }) (rf_pre X [.int v, .int a, .int b] d π) (va_Qi (fun r u => r = wl_i (rf_in v a b) ∧ u = (d, π)) (rf_b X) (gw_A 18 X.2.1)) 0 0 (gw_A 18 X.2.1) := by
  refine Met.ofW (cc := cX4_isIn) (maxL := 3) (ret := (some .boolean)) (by decide) rfl ?_
  intro p e s m args below meth c s₁ B hml hv
  obtain ⟨rfl, hP, hK, hN⟩ := hv
  have hx := B.exec
  have hb := B.bytes
  have hr := B.returns
  have hts : ∀ w ∈ gG, w.before _ s = true := fun w h => atoms_spec (ws := wsX4_isIn) B.pre w (List.mem_cons_of_mem _ h)
  have hown : s.vm.findClass RX4 = some m.cls := findClass_of_methodNamed B.named
  have hlocks := B.notSynchronized
  have hS : va_S (gw_A 18 X.2.1) s.heap s.heap [] := va_S.rf
  have hl := lv_entry ([.int v, .int a, .int b]) (n := 3) (Nat.le_of_ble_eq_true rfl)
  rw [lg_entry_eq]
  generalize (lg_sl ([.int v, .int a, .int b]) ++ List.replicate (3 - (lg_sl ([.int v, .int a, .int b])).length) Slot.unset).toArray = ls at hl ⊢
  have hl : lv_has ls 3 [(0, .int v), (1, .int a), (2, .int b)] := hl
  refine lv_iload_n hx hb dX4_isIn_0 rfl (lv_at hl 0 rfl) ?_
  refine lv_iload_n hx hb dX4_isIn_1 rfl (lv_at hl 1 rfl) ?_
  refine lv_icmp_lt (tgt := 14) hx hb dX4_isIn_2 (by decide) (fun c_1 => ?_) (fun c_1 => ?_)
  · refine lv_iconst (v := 0) hx hb dX4_isIn_14 (by decide) ?_
    refine gw_zret (d, π) hx hb hr hlocks (by decide) (rf_hB hP) hS dX4_isIn_15 ?_
    rw [rf_in_lt c_1]; exact ⟨rfl, rfl⟩
  · refine lv_iload_n hx hb dX4_isIn_5 rfl (lv_at hl 0 rfl) ?_
    refine lv_iload_n hx hb dX4_isIn_6 rfl (lv_at hl 2 rfl) ?_
    refine lv_icmp_gt (tgt := 14) hx hb dX4_isIn_7 (by decide) (fun c_2 => ?_) (fun c_2 => ?_)
    · refine lv_iconst (v := 0) hx hb dX4_isIn_14 (by decide) ?_
      refine gw_zret (d, π) hx hb hr hlocks (by decide) (rf_hB hP) hS dX4_isIn_15 ?_
      rw [rf_in_gt c_2]; exact ⟨rfl, rfl⟩
    · refine lv_iconst (v := 1) hx hb dX4_isIn_10 (by decide) ?_
      refine lv_goto (tgt := 15) hx hb dX4_isIn_11 (by decide) ?_
      refine gw_zret (d, π) hx hb hr hlocks (by decide) (rf_hB hP) hS dX4_isIn_15 ?_
      rw [rf_in_t c_1 c_2]; exact ⟨rfl, rfl⟩
set_option maxHeartbeats 4000000 in
set_option maxRecDepth 100000 in
theorem c_WatchListModel_isEvent (X : rf_X) (hX : gw_inj 18 X.2.1) (d : Nat → Nat → Int32) (π : Nat → Nat)  (ev : Int32)  : Met l yX4_isEvent wsX4_isEvent ({ frames := 1, cells := 0, slots := 0, locals := 22 }) (rf_pre X [.int ev] d π) (va_Qi (fun r u => r = wl_i (wl_ok ev 32) ∧ u = (d, π)) (rf_b X) (gw_A 18 X.2.1)) 0 0 (gw_A 18 X.2.1) := by
  refine Met.ofW (cc := cX4_isEvent) (maxL := 1) (ret := (some .boolean)) (by decide) rfl ?_
  intro p e s m args below meth c s₁ B hml hv
  obtain ⟨rfl, hP, hK, hN⟩ := hv
  have hx := B.exec
  have hb := B.bytes
  have hr := B.returns
  have hts : ∀ w ∈ gG, w.before _ s = true := fun w h => atoms_spec (ws := wsX4_isEvent) B.pre w (List.mem_cons_of_mem _ h)
  have hown : s.vm.findClass RX4 = some m.cls := findClass_of_methodNamed B.named
  have hlocks := B.notSynchronized
  have hS : va_S (gw_A 18 X.2.1) s.heap s.heap [] := va_S.rf
  have hl := lv_entry ([.int ev]) (n := 1) (Nat.le_of_ble_eq_true rfl)
  rw [lg_entry_eq]
  generalize (lg_sl ([.int ev]) ++ List.replicate (1 - (lg_sl ([.int ev])).length) Slot.unset).toArray = ls at hl ⊢
  have hl : lv_has ls 1 [(0, .int ev)] := hl
  refine lv_iload_n hx hb dX4_isEvent_0 rfl (lv_at hl 0 rfl) ?_
  refine lv_iconst (v := 0) hx hb dX4_isEvent_1 (by decide) ?_
  refine lv_bipush (v := 31) hx hb dX4_isEvent_2 (by decide) ?_
  refine gw_calli (va_runS (As := [.int ev, .int 0, .int 31]) (rest := []) ⟨hx, hb, hml, hown, hts⟩ (c_WatchListModel_isIn X hX d π ev 0 31 ) ⟨callB_of 3 hts giX4_isIn rfl rfl rfl (hts _ mG_26) (hts _ mG_248) pdX4_isIn ⟨Nat.le_of_ble_eq_true rfl, Nat.le_of_ble_eq_true rfl⟩, hts _ mG_249⟩ ⟨rf_blind, rf_at hP hK hN⟩ rfl rfl hl.1 rfl (lv_room (Nat.le_of_ble_eq_true rfl)) dX4_isEvent_4 ⟨Nat.le_of_ble_eq_true rfl, Nat.le_of_ble_eq_true rfl⟩) hS (fun r_1 u_1 t_1 locs hw hP hS => ?_)
  obtain ⟨rfl, rfl⟩ := hw
  have hP : va_P X.1 vwCl (rf_ws X d π) t_1.heap := hP
  refine gw_zret (d, π) hx hb hr hlocks (wl_i01 _) (rf_hB hP) hS dX4_isEvent_7 ?_
  exact ⟨by rw [rf_in31], rfl⟩
set_option maxHeartbeats 4000000 in
set_option maxRecDepth 100000 in
theorem c_WatchListModel_isThere (X : rf_X) (hX : gw_inj 18 X.2.1) (d : Nat → Nat → Int32) (π : Nat → Nat)  (id : Int32)  : Met l yX4_isThere wsX4_isThere ({ frames := 0, cells := 0, slots := 0, locals := 0 }) (rf_pre X [.ref (X.2.1 0), .int id] d π) (va_Qi (fun r u => r = wl_i (rf_th d id) ∧ u = (d, π)) (rf_b X) (gw_A 18 X.2.1)) 0 0 (gw_A 18 X.2.1) := by
  refine Met.ofW (cc := cX4_isThere) (maxL := 2) (ret := (some .boolean)) (by decide) rfl ?_
  intro p e s m args below meth c s₁ B hml hv
  obtain ⟨rfl, hP, hK, hN⟩ := hv
  have hx := B.exec
  have hb := B.bytes
  have hr := B.returns
  have hts : ∀ w ∈ gG, w.before _ s = true := fun w h => atoms_spec (ws := wsX4_isThere) B.pre w (List.mem_cons_of_mem _ h)
  have hown : s.vm.findClass RX4 = some m.cls := findClass_of_methodNamed B.named
  have hlocks := B.notSynchronized
  have hS : va_S (gw_A 18 X.2.1) s.heap s.heap [] := va_S.rf
  have hl := lv_entry ([.ref (X.2.1 0), .int id]) (n := 2) (Nat.le_of_ble_eq_true rfl)
  rw [lg_entry_eq]
  generalize (lg_sl ([.ref (X.2.1 0), .int id]) ++ List.replicate (2 - (lg_sl ([.ref (X.2.1 0), .int id])).length) Slot.unset).toArray = ls at hl ⊢
  have hl : lv_has ls 2 [(0, .ref (X.2.1 0)), (1, .int id)] := hl
  refine lv_iload_n hx hb dX4_isThere_0 rfl (lv_at hl 1 rfl) ?_
  refine lv_if_lt (tgt := 24) hx hb dX4_isThere_1 (by decide) (fun c_1 => ?_) (fun c_1 => ?_)
  · refine lv_iconst (v := 0) hx hb dX4_isThere_24 (by decide) ?_
    refine gw_zret (d, π) hx hb hr hlocks (by decide) (rf_hB hP) hS dX4_isThere_25 ?_
    rw [rf_th0 (wl_ok_lt c_1)]; exact ⟨rfl, rfl⟩
  · refine lv_iload_n hx hb dX4_isThere_4 rfl (lv_at hl 1 rfl) ?_
    refine lv_sipush (v := 256) hx hb dX4_isThere_5 (by decide) ?_
    refine lv_icmp_ge (tgt := 24) hx hb dX4_isThere_8 (by decide) (fun c_2 => ?_) (fun c_2 => ?_)
    · refine lv_iconst (v := 0) hx hb dX4_isThere_24 (by decide) ?_
      refine gw_zret (d, π) hx hb hr hlocks (by decide) (rf_hB hP) hS dX4_isThere_25 ?_
      rw [rf_th0 (wl_ok_ge c_2)]; exact ⟨rfl, rfl⟩
    · refine lv_aload_n hx hb dX4_isThere_11 rfl (lv_at hl 0 rfl) ?_
      refine gw_get hx hb hts inX4 hown hK hP 0 (by decide) rf_c0 rfl 2 (by decide) (hts _ mG_217) (fun _ h9 => h9) (v := .ref (X.2.1 2)) rfl dX4_isThere_12 ?_
      refine lv_iload_n hx hb dX4_isThere_15 rfl (lv_at hl 1 rfl) ?_
      refine gw_zald hx hb hK hP 2 1 (by decide) rf_c2 rfl (i := id) (rf_ok256c (wl_ok_t c_1 c_2)).1 dX4_isThere_16 ?_
      refine lv_if_eq (tgt := 24) hx hb dX4_isThere_17 (by decide) (fun c_3 => ?_) (fun c_3 => ?_)
      · refine lv_iconst (v := 0) hx hb dX4_isThere_24 (by decide) ?_
        refine gw_zret (d, π) hx hb hr hlocks (by decide) (rf_hB hP) hS dX4_isThere_25 ?_
        rw [rf_th1 c_3]; exact ⟨rfl, rfl⟩
      · refine lv_iconst (v := 1) hx hb dX4_isThere_20 (by decide) ?_
        refine lv_goto (tgt := 25) hx hb dX4_isThere_21 (by decide) ?_
        refine gw_zret (d, π) hx hb hr hlocks (by decide) (rf_hB hP) hS dX4_isThere_25 ?_
        rw [rf_th2 (wl_ok_t c_1 c_2) c_3]; exact ⟨rfl, rfl⟩
set_option maxHeartbeats 4000000 in
set_option maxRecDepth 100000 in
theorem c_WatchListModel_limits (X : rf_X) (hX : gw_inj 18 X.2.1) (d : Nat → Nat → Int32) (π : Nat → Nat)    : Met l yX4_limits wsX4_limits ({ frames := 0, cells := 0, slots := 0, locals := 0 }) (rf_pre X [.ref (X.2.1 0)] d π) (va_Qi (fun r u => r = nI (rf_cnt (d 2) 256) ∧ u = (d, π)) (rf_b X) (gw_A 18 X.2.1)) 0 0 (gw_A 18 X.2.1) := by
  refine Met.ofW (cc := cX4_limits) (maxL := 3) (ret := (some .int)) (by decide) rfl ?_
  intro p e s m args below meth c s₁ B hml hv
  obtain ⟨rfl, hP, hK, hN⟩ := hv
  have hx := B.exec
  have hb := B.bytes
  have hr := B.returns
  have hts : ∀ w ∈ gG, w.before _ s = true := fun w h => atoms_spec (ws := wsX4_limits) B.pre w (List.mem_cons_of_mem _ h)
  have hown : s.vm.findClass RX4 = some m.cls := findClass_of_methodNamed B.named
  have hlocks := B.notSynchronized
  have hS : va_S (gw_A 18 X.2.1) s.heap s.heap [] := va_S.rf
  have hl := lv_entry ([.ref (X.2.1 0)]) (n := 3) (Nat.le_of_ble_eq_true rfl)
  rw [lg_entry_eq]
  generalize (lg_sl ([.ref (X.2.1 0)]) ++ List.replicate (3 - (lg_sl ([.ref (X.2.1 0)])).length) Slot.unset).toArray = ls at hl ⊢
  have hl : lv_has ls 3 [(0, .ref (X.2.1 0))] := hl
  refine lv_iconst (v := 0) hx hb dX4_limits_0 (by decide) ?_
  refine lv_istore_n (lv' := [(1, .int 0), (0, .ref (X.2.1 0))]) hx hb dX4_limits_1 rfl hl (by decide) rfl (fun ls hl => ?_)
  refine lv_iconst (v := 0) hx hb dX4_limits_2 (by decide) ?_
  refine lv_istore_n (lv' := [(2, .int 0), (1, .int 0), (0, .ref (X.2.1 0))]) hx hb dX4_limits_3 rfl hl (by decide) rfl (fun ls hl => ?_)
  obtain ⟨i, hi⟩ : ∃ i : Nat, i = 0 := ⟨0, rfl⟩
  have hi1 : i ≤ 256 := by omega
  replace hl : lv_has ls 3 [(2, .int (nI i)), (1, .int (nI (rf_cnt (d 2) i))), (0, .ref (X.2.1 0))] := by rw [hi]; exact hl
  obtain ⟨g, hg⟩ : ∃ g : Nat, 256 < i + g := ⟨257, by omega⟩
  clear hi
  induction g generalizing i ls with
  | zero => exact absurd hg (by omega)
  | succ g ih =>
    refine lv_iload_n hx hb dX4_limits_4 rfl (lv_at hl 0 rfl) ?_
    refine lv_sipush (v := 256) hx hb dX4_limits_5 (by decide) ?_
    refine lv_icmp_ge (tgt := 34) hx hb dX4_limits_8 (by decide) (fun c_1 => ?_) (fun c_1 => ?_)
    · have hex : 256 ≤ i := (nI_leI (a := 256) (by omega) (by omega)).mp c_1
      refine lv_iload_n hx hb dX4_limits_34 rfl (lv_at hl 1 rfl) ?_
      refine gw_iret (d, π) hx hb hr hlocks (rf_hB hP) hS dX4_limits_35 ?_
      rw [show i = 256 by omega]; exact ⟨rfl, rfl⟩
    · have hlt : i < 256 := Nat.lt_of_not_le (fun z => c_1 (nI_le z (by omega)))
      refine lv_iload_n hx hb dX4_limits_11 rfl (lv_at hl 1 rfl) ?_
      refine lv_aload_n hx hb dX4_limits_12 rfl (lv_at hl 2 rfl) ?_
      refine gw_get hx hb hts inX4 hown hK hP 0 (by decide) rf_c0 rfl 2 (by decide) (hts _ mG_217) (fun _ h9 => h9) (v := .ref (X.2.1 2)) rfl dX4_limits_13 ?_
      refine lv_iload_n hx hb dX4_limits_16 rfl (lv_at hl 0 rfl) ?_
      refine gw_zald hx hb hK hP 2 1 (by decide) rf_c2 rfl (i := nI i) (vp_in_nI hlt (by omega)) dX4_limits_17 ?_
      refine W.eq (g2 := F0 m 18 ls (.int (d 2 i) :: .int (nI (rf_cnt (d 2) i)) :: [])) (by rw [nI_clamp (show i < 2 ^ 31 by omega)]) ?_
      refine lv_if_eq (tgt := 25) hx hb dX4_limits_18 (by decide) (fun c_2 => ?_) (fun c_2 => ?_)
      · have e9 : rf_cnt (d 2) (i + 1) = rf_cnt (d 2) i + 0 := by show rf_cnt (d 2) i + _ = _; rw [if_pos c_2]
        refine lv_iconst (v := 0) hx hb dX4_limits_25 (by decide) ?_
        refine lv_iadd hx hb dX4_limits_26 ?_
        refine W.eq (g2 := F0 m 27 ls (.int (nI (rf_cnt (d 2) i + 0)) :: [])) (by rw [show nI (rf_cnt (d 2) i) + 0 = nI (rf_cnt (d 2) i + 0) from nI_add _ 0]) ?_
        refine lv_istore_n (lv' := [(1, .int (nI (rf_cnt (d 2) i + 0))), (2, .int (nI i)), (0, .ref (X.2.1 0))]) hx hb dX4_limits_27 rfl hl (by decide) rfl (fun ls hl => ?_)
        refine lv_iinc (v := nI (i + 1)) (lv' := [(2, .int (nI (i + 1))), (1, .int (nI (rf_cnt (d 2) i + 0))), (0, .ref (X.2.1 0))]) hx hb dX4_limits_28 hl (k := 1) rfl (nI_1 i) (by decide) rfl (fun ls hl => ?_)
        refine lv_goto (tgt := 4) hx hb dX4_limits_31 (by decide) ?_
        exact ih (i := i + 1) (ls := ls) (hi1 := by omega) (hl := by rw [e9]; exact lv_sub hl [0, 1, 2] rfl) (hg := by omega)
      · have e9 : rf_cnt (d 2) (i + 1) = rf_cnt (d 2) i + 1 := by show rf_cnt (d 2) i + _ = _; rw [if_neg c_2]
        refine lv_iconst (v := 1) hx hb dX4_limits_21 (by decide) ?_
        refine lv_goto (tgt := 26) hx hb dX4_limits_22 (by decide) ?_
        refine lv_iadd hx hb dX4_limits_26 ?_
        refine W.eq (g2 := F0 m 27 ls (.int (nI (rf_cnt (d 2) i + 1)) :: [])) (by rw [nI_1]) ?_
        refine lv_istore_n (lv' := [(1, .int (nI (rf_cnt (d 2) i + 1))), (2, .int (nI i)), (0, .ref (X.2.1 0))]) hx hb dX4_limits_27 rfl hl (by decide) rfl (fun ls hl => ?_)
        refine lv_iinc (v := nI (i + 1)) (lv' := [(2, .int (nI (i + 1))), (1, .int (nI (rf_cnt (d 2) i + 1))), (0, .ref (X.2.1 0))]) hx hb dX4_limits_28 hl (k := 1) rfl (nI_1 i) (by decide) rfl (fun ls hl => ?_)
        refine lv_goto (tgt := 4) hx hb dX4_limits_31 (by decide) ?_
        exact ih (i := i + 1) (ls := ls) (hi1 := by omega) (hl := by rw [e9]; exact lv_sub hl [0, 1, 2] rfl) (hg := by omega)
set_option maxHeartbeats 4000000 in
set_option maxRecDepth 100000 in
theorem c_WatchListModel_waits (X : rf_X) (hX : gw_inj 18 X.2.1) (d : Nat → Nat → Int32) (π : Nat → Nat)  (ev : Int32) (nu : Int32) (q : Nat) (hq : d 0 13 = nI q) (hq6 : q ≤ 64) : Met l yX4_waits wsX4_waits ({ frames := 0, cells := 0, slots := 0, locals := 0 }) (rf_pre X [.ref (X.2.1 0), .int ev, .int nu] d π) (va_Qi (fun r u => r = wl_i (decide (q < 64)) ∧ u = (rf_wt d q ev nu, π)) (rf_b X) (gw_A 18 X.2.1)) 0 0 (gw_A 18 X.2.1) := by
  refine Met.ofW (cc := cX4_waits) (maxL := 3) (ret := (some .boolean)) (by decide) rfl ?_
  intro p e s m args below meth c s₁ B hml hv
  obtain ⟨rfl, hP, hK, hN⟩ := hv
  have hx := B.exec
  have hb := B.bytes
  have hr := B.returns
  have hts : ∀ w ∈ gG, w.before _ s = true := fun w h => atoms_spec (ws := wsX4_waits) B.pre w (List.mem_cons_of_mem _ h)
  have hown : s.vm.findClass RX4 = some m.cls := findClass_of_methodNamed B.named
  have hlocks := B.notSynchronized
  have hS : va_S (gw_A 18 X.2.1) s.heap s.heap [] := va_S.rf
  have hl := lv_entry ([.ref (X.2.1 0), .int ev, .int nu]) (n := 3) (Nat.le_of_ble_eq_true rfl)
  rw [lg_entry_eq]
  generalize (lg_sl ([.ref (X.2.1 0), .int ev, .int nu]) ++ List.replicate (3 - (lg_sl ([.ref (X.2.1 0), .int ev, .int nu])).length) Slot.unset).toArray = ls at hl ⊢
  have hl : lv_has ls 3 [(0, .ref (X.2.1 0)), (1, .int ev), (2, .int nu)] := hl
  refine lv_aload_n hx hb dX4_waits_0 rfl (lv_at hl 0 rfl) ?_
  refine gw_get hx hb hts inX4 hown hK hP 0 (by decide) rf_c0 rfl 13 (by decide) (hts _ mG_228) (fun _ h9 => h9) (v := .int (d 0 13)) rfl dX4_waits_1 ?_
  refine lv_bipush (v := 64) hx hb dX4_waits_4 (by decide) ?_
  refine lv_icmp_ne (tgt := 21) hx hb dX4_waits_6 (by decide) (fun c_1 => ?_) (fun c_1 => ?_)
  · have e9 := rf_q64 hq c_1 hq6
    refine lv_aload_n hx hb dX4_waits_21 rfl (lv_at hl 0 rfl) ?_
    refine gw_get hx hb hts inX4 hown hK hP 0 (by decide) rf_c0 rfl 14 (by decide) (hts _ mG_229) (fun _ h9 => h9) (v := .ref (X.2.1 11)) rfl dX4_waits_22 ?_
    refine lv_aload_n hx hb dX4_waits_25 rfl (lv_at hl 0 rfl) ?_
    refine gw_get hx hb hts inX4 hown hK hP 0 (by decide) rf_c0 rfl 13 (by decide) (hts _ mG_228) (fun _ h9 => h9) (v := .int (d 0 13)) rfl dX4_waits_26 ?_
    refine lv_iload_n hx hb dX4_waits_29 rfl (lv_at hl 1 rfl) ?_
    refine gw_iast hx hb hK hP hX hS 11 0 (by decide) rf_c11 rfl (i := d 0 13) (x := ev) (by rw [hq]; exact vp_in_nI e9 (by omega)) (cf' := rf_c X (up2 d 11 (d 0 13).toNatClampNeg ev) π) rfl rf_o dX4_waits_30 (fun H locs hP hS => ?_)
    refine lv_aload_n hx hb dX4_waits_31 rfl (lv_at hl 0 rfl) ?_
    refine gw_get hx hb hts inX4 hown hK hP 0 (by decide) rf_c0 rfl 15 (by decide) (hts _ mG_230) (fun _ h9 => h9) (v := .ref (X.2.1 12)) rfl dX4_waits_32 ?_
    refine lv_aload_n hx hb dX4_waits_35 rfl (lv_at hl 0 rfl) ?_
    refine gw_get hx hb hts inX4 hown hK hP 0 (by decide) rf_c0 rfl 13 (by decide) (hts _ mG_228) (fun _ h9 => h9) (v := .int (d 0 13)) rfl dX4_waits_36 ?_
    refine lv_iload_n hx hb dX4_waits_39 rfl (lv_at hl 2 rfl) ?_
    refine gw_iast hx hb hK hP hX hS 12 0 (by decide) rf_c12 rfl (i := d 0 13) (x := nu) (by rw [hq]; exact vp_in_nI e9 (by omega)) (cf' := rf_c X (up2 (up2 d 11 (d 0 13).toNatClampNeg ev) 12 (d 0 13).toNatClampNeg nu) π) rfl rf_o dX4_waits_40 (fun H locs hP hS => ?_)
    refine lv_aload_n hx hb dX4_waits_41 rfl (lv_at hl 0 rfl) ?_
    refine lv_dup hx hb dX4_waits_42 rfl ?_
    refine gw_get hx hb hts inX4 hown hK hP 0 (by decide) rf_c0 rfl 13 (by decide) (hts _ mG_228) (fun _ h9 => h9) (v := .int (d 0 13)) rfl dX4_waits_43 ?_
    refine lv_iconst (v := 1) hx hb dX4_waits_46 (by decide) ?_
    refine lv_iadd hx hb dX4_waits_47 ?_
    refine gw_put hx hb hts inX4 tyX4 okX4 nmX4 hown hK hP hX hS 0 (by decide) rf_c0 rfl 13 (by decide) (hts _ mG_228) (fun _ h9 => h9) rfl (ty := .int) (v := .int ((d 0 13) + 1)) (by decide +kernel) rfl rfl (Nat.le_of_ble_eq_true rfl) (cf' := rf_c X (up2 (up2 (up2 d 11 (d 0 13).toNatClampNeg ev) 12 (d 0 13).toNatClampNeg nu) 0 13 ((d 0 13) + 1)) π) rfl rf_o dX4_waits_48 (fun H locs hP hS => ?_)
    refine lv_iconst (v := 1) hx hb dX4_waits_51 (by decide) ?_
    refine gw_zret (up2 (up2 (up2 d 11 (d 0 13).toNatClampNeg ev) 12 (d 0 13).toNatClampNeg nu) 0 13 ((d 0 13) + 1), π) hx hb hr hlocks (by decide) (rf_hB hP) hS dX4_waits_52 ?_
    unfold rf_wt
    rw [if_pos e9, hq, nI_clamp (by omega), nI_1, decide_eq_true e9]; exact ⟨rfl, rfl⟩
  · have e9 := rf_q64e hq c_1 hq6
    refine lv_aload_n hx hb dX4_waits_9 rfl (lv_at hl 0 rfl) ?_
    refine lv_dup hx hb dX4_waits_10 rfl ?_
    refine gw_get hx hb hts inX4 hown hK hP 0 (by decide) rf_c0 rfl 16 (by decide) (hts _ mG_231) (fun _ h9 => h9) (v := .int (d 0 16)) rfl dX4_waits_11 ?_
    refine lv_iconst (v := 1) hx hb dX4_waits_14 (by decide) ?_
    refine lv_iadd hx hb dX4_waits_15 ?_
    refine gw_put hx hb hts inX4 tyX4 okX4 nmX4 hown hK hP hX hS 0 (by decide) rf_c0 rfl 16 (by decide) (hts _ mG_231) (fun _ h9 => h9) rfl (ty := .int) (v := .int ((d 0 16) + 1)) (by decide +kernel) rfl rfl (Nat.le_of_ble_eq_true rfl) (cf' := rf_c X (up2 d 0 16 ((d 0 16) + 1)) π) rfl rf_o dX4_waits_16 (fun H locs hP hS => ?_)
    refine lv_iconst (v := 0) hx hb dX4_waits_19 (by decide) ?_
    refine gw_zret (up2 d 0 16 ((d 0 16) + 1), π) hx hb hr hlocks (by decide) (rf_hB hP) hS dX4_waits_20 ?_
    unfold rf_wt
    rw [if_neg (by omega), decide_eq_false (by omega)]; exact ⟨rfl, rfl⟩

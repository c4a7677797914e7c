variable {l : Launch}
set_option maxHeartbeats 4000000 in
set_option maxRecDepth 100000 in
theorem c_WatchList_watch (X : wl_X) (hX : gw_inj 88 X.2.1) (d : Nat → Nat → Int32) (π : Nat → Nat)   (n : Nat) (hn : d 0 2 = nI n) (hn16 : n ≤ 16) (hπ : ∀ j, j < 16 → π j < 16) (f : Nat) (q : Nat) (hf : d 4 2 = nI f) (hq : d 4 3 = nI q) (hf6 : f < 64) (hq6 : q ≤ 64) (hpa : ∀ j, j < n → ∃ m, m < 32 ∧ d (8 + π j) 1 = nI m) : Met l yX3_watch wsX3_watch ({ frames := 2, cells := 0, slots := 0, locals := 45 }) (wl_pre X [.ref (X.2.1 0)] d π) (va_Qi (fun r u => r = (wl_w π d n).2 ∧ u = (up2 (wl_w π d n).1 0 3 ((wl_w π d n).1 0 3 + (wl_w π d n).2), π)) (wl_b X) (gw_A 88 X.2.1)) 0 0 (gw_A 88 X.2.1) := by
  refine Met.ofW (cc := cX3_watch) (maxL := 5) (ret := (some .int)) (by decide) rfl ?_
  intro p e s m args below meth c s₁ B hml hv
  obtain ⟨rfl, hP, hK, hN⟩ := hv
  have hx := B.exec
  have hb := B.bytes
  have hr := B.returns
  have hts : ∀ w ∈ gG, w.before _ s = true := fun w h => atoms_spec (ws := wsX3_watch) B.pre w (List.mem_cons_of_mem _ h)
  have hown : s.vm.findClass RX3 = some m.cls := findClass_of_methodNamed B.named
  have hlocks := B.notSynchronized
  have hS : va_S (gw_A 88 X.2.1) s.heap s.heap [] := va_S.rf
  have hl := lv_entry ([.ref (X.2.1 0)]) (n := 5) (Nat.le_of_ble_eq_true rfl)
  rw [lg_entry_eq]
  generalize (lg_sl ([.ref (X.2.1 0)]) ++ List.replicate (5 - (lg_sl ([.ref (X.2.1 0)])).length) Slot.unset).toArray = ls at hl ⊢
  have hl : lv_has ls 5 [(0, .ref (X.2.1 0))] := hl
  refine lv_iconst (v := 0) hx hb dX3_watch_0 (by decide) ?_
  refine lv_istore_n (lv' := [(1, .int 0), (0, .ref (X.2.1 0))]) hx hb dX3_watch_1 rfl hl (by decide) rfl (fun ls hl => ?_)
  refine lv_aload_n hx hb dX3_watch_2 rfl (lv_at hl 1 rfl) ?_
  refine lv_iconst (v := 0) hx hb dX3_watch_3 (by decide) ?_
  refine gw_put hx hb hts inX3 tyX3 okX3 nmX3 hown hK hP hX hS 0 (by decide) wl_c0 rfl 4 (by decide) (hts _ mG_74) (fun _ h9 => h9) rfl (ty := .boolean) (v := .int 0) (by decide +kernel) (gw_nz (by decide)) (gw_fz (by decide)) (Nat.le_of_ble_eq_true rfl) (cf' := wl_c X (up2 d 0 4 0) π) rfl wl_o dX3_watch_4 (fun H locs hP hS => ?_)
  refine lv_iconst (v := 0) hx hb dX3_watch_7 (by decide) ?_
  refine lv_istore_n (lv' := [(2, .int 0), (1, .int 0), (0, .ref (X.2.1 0))]) hx hb dX3_watch_8 rfl hl (by decide) rfl (fun ls hl => ?_)
  obtain ⟨i, hi⟩ : ∃ i : Nat, i = 0 := ⟨0, rfl⟩
  replace hP : va_P X.1 vwCl (wl_ws X (wl_w π d i).1 π) H := by rw [hi]; exact hP
  have hi1 : i ≤ n := by omega
  replace hl : lv_has ls 5 [(2, .int (nI i)), (1, .int (wl_w π d i).2), (0, .ref (X.2.1 0))] := by rw [hi, nI_0]; exact hl
  obtain ⟨g, hg⟩ : ∃ g : Nat, n < i + g := ⟨n + 1, by omega⟩
  clear hi
  induction g generalizing i ls H locs with
  | zero => exact absurd hg (by omega)
  | succ g ih =>
    obtain ⟨hI1, hI2, hI3, hI4, q1, hI5, hI6⟩ := wl_w_I (π := π) hf hq hf6 hq6 i
    refine lv_iload_n hx hb dX3_watch_9 rfl (lv_at hl 0 rfl) ?_
    refine lv_aload_n hx hb dX3_watch_10 rfl (lv_at hl 2 rfl) ?_
    refine gw_get hx hb hts inX3 hown hK hP 0 (by decide) wl_c0 rfl 2 (by decide) (hts _ mG_72) (fun _ h9 => h9) (v := .int (((wl_w π d i).1) 0 2)) rfl dX3_watch_11 ?_
    refine lv_icmp_ge (tgt := 94) hx hb dX3_watch_14 (by decide) (fun c_1 => ?_) (fun c_1 => ?_)
    · have hex : n ≤ i := (nI_leI (by omega) (by omega)).mp (by rw [← hn, ← hI1]; exact c_1)
      refine lv_aload_n hx hb dX3_watch_94 rfl (lv_at hl 2 rfl) ?_
      refine lv_dup hx hb dX3_watch_95 rfl ?_
      refine gw_get hx hb hts inX3 hown hK hP 0 (by decide) wl_c0 rfl 3 (by decide) (hts _ mG_73) (fun _ h9 => h9) (v := .int (((wl_w π d i).1) 0 3)) rfl dX3_watch_96 ?_
      refine lv_iload_n hx hb dX3_watch_99 rfl (lv_at hl 1 rfl) ?_
      refine lv_iadd hx hb dX3_watch_100 ?_
      refine gw_put hx hb hts inX3 tyX3 okX3 nmX3 hown hK hP hX hS 0 (by decide) wl_c0 rfl 3 (by decide) (hts _ mG_73) (fun _ h9 => h9) rfl (ty := .int) (v := .int ((((wl_w π d i).1) 0 3) + ((wl_w π d i).2))) (by decide +kernel) rfl rfl (Nat.le_of_ble_eq_true rfl) (cf' := wl_c X (up2 ((wl_w π d i).1) 0 3 ((((wl_w π d i).1) 0 3) + ((wl_w π d i).2))) π) rfl wl_o dX3_watch_101 (fun H locs hP hS => ?_)
      refine lv_iload_n hx hb dX3_watch_104 rfl (lv_at hl 1 rfl) ?_
      refine gw_iret (up2 ((wl_w π d i).1) 0 3 ((((wl_w π d i).1) 0 3) + ((wl_w π d i).2)), π) hx hb hr hlocks (wl_hB hP) hS dX3_watch_105 ?_
      rw [show i = n by omega]; exact ⟨rfl, rfl⟩
    · have hlt : i < n := Nat.lt_of_not_le (fun z => c_1 (by rw [hI1, hn]; exact nI_le z (by omega)))
      obtain ⟨m9, hm1, hm2⟩ := hpa i hlt
      have hpm : (wl_w π d i).1 (8 + (π i)) 1 = nI m9 := by rw [hI3 _ _ (by omega) (by decide)]; exact hm2
      refine lv_aload_n hx hb dX3_watch_17 rfl (lv_at hl 2 rfl) ?_
      refine gw_get hx hb hts inX3 hown hK hP 0 (by decide) wl_c0 rfl 1 (by decide) (hts _ mG_71) (fun _ h9 => h9) (v := .ref (X.2.1 2)) rfl dX3_watch_18 ?_
      refine lv_iload_n hx hb dX3_watch_21 rfl (lv_at hl 0 rfl) ?_
      refine gw_aald hx hb hK hP 2 2 (by decide) wl_c2 rfl (i := nI i) (vp_in_nI (by omega) (by omega)) (k := 8 + (π i)) (by show some (X.2.1 (8 + π (nI i).toNatClampNeg)) = _; rw [nI_clamp (by omega)]) dX3_watch_22 ?_
      refine lv_astore_n (lv' := [(3, .ref (X.2.1 (8 + (π i)))), (2, .int (nI i)), (1, .int ((wl_w π d i).2)), (0, .ref (X.2.1 0))]) hx hb dX3_watch_23 rfl hl (by decide) rfl (fun ls hl => ?_)
      refine lv_aload_n hx hb dX3_watch_24 rfl (lv_at hl 3 rfl) ?_
      refine gw_get hx hb hts inX3 hown hK hP 0 (by decide) wl_c0 rfl 0 (by decide) (hts _ mG_70) (fun _ h9 => h9) (v := .ref (X.2.1 1)) rfl dX3_watch_25 ?_
      refine lv_aload_n hx hb dX3_watch_28 rfl (lv_at hl 0 rfl) ?_
      refine gw_getN hx hb hts inX1 hown hK hP (8 + (π i)) (wl_kL (hπ i (by omega))) (wl_cL (hπ i (by omega))) rfl 1 (by decide) (hN _ (List.mem_of_getElem? (i := 4) rfl)) (fun _ h9 => h9) (v := .int (((wl_w π d i).1) (8 + (π i)) 1)) rfl dX3_watch_29 ?_
      refine gw_iald hx hb hK hP 1 0 (by decide) wl_c1 rfl (i := ((wl_w π d i).1) (8 + (π i)) 1) (by rw [hpm]; exact vp_in_nI hm1 (by omega)) dX3_watch_32 ?_
      refine lv_istore (lv' := [(4, .int (wl_val (wl_w π d i).1 (8 + (π i)))), (3, .ref (X.2.1 (8 + (π i)))), (2, .int (nI i)), (1, .int ((wl_w π d i).2)), (0, .ref (X.2.1 0))]) hx hb dX3_watch_33 hl (by decide) rfl (fun ls hl => ?_)
      refine lv_aload_n hx hb dX3_watch_35 rfl (lv_at hl 1 rfl) ?_
      refine gw_getN hx hb hts inX1 hown hK hP (8 + (π i)) (wl_kL (hπ i (by omega))) (wl_cL (hπ i (by omega))) rfl 7 (by decide) (hN _ (List.mem_of_getElem? (i := 7) rfl)) (fun _ h9 => h9) (v := .int (((wl_w π d i).1) (8 + (π i)) 7)) rfl dX3_watch_36 ?_
      refine lv_if_eq (tgt := 88) hx hb dX3_watch_39 (by decide) (fun c_2 => ?_) (fun c_2 => ?_)
      · have off := c_2
        have e9 : wl_w π d (i + 1) = ((wl_w π d i).1, (wl_w π d i).2) := wl_step0 off
        refine lv_iinc (v := nI (i + 1)) (lv' := [(2, .int (nI (i + 1))), (4, .int (wl_val (wl_w π d i).1 (8 + (π i)))), (3, .ref (X.2.1 (8 + (π i)))), (1, .int ((wl_w π d i).2)), (0, .ref (X.2.1 0))]) hx hb dX3_watch_88 hl (k := 2) rfl (nI_1 i) (by decide) rfl (fun ls hl => ?_)
        have hl9 := lv_sub hl [0, 3, 4] rfl
        refine lv_goto (tgt := 9) hx hb dX3_watch_91 (by decide) ?_
        exact ih (i := i + 1) (ls := ls) (H := _) (locs := locs) (hS := hS) (hP := by rw [e9]; exact hP) (hi1 := by omega) (hl := by rw [e9]; exact hl9) (hg := by omega)
      · have off := c_2
        refine lv_aload_n hx hb dX3_watch_42 rfl (lv_at hl 1 rfl) ?_
        refine lv_iload hx hb dX3_watch_43 (lv_at hl 0 rfl) ?_
        refine gw_calli (va_runVN (As := [.int (wl_val (wl_w π d i).1 (8 + (π i)))]) (rest := []) ⟨hx, hb, hml, hown, hts⟩ (c_Limit_breaksAt X hX ((wl_w π d i).1) π (π i) (hπ i (by omega)) (wl_val (wl_w π d i).1 (8 + (π i))) ) ⟨va_cnB 1 hts giX1_breaksAt rfl rfl rfl (hN _ (List.mem_of_getElem? (i := 14) rfl)) (hts _ mG_24) pdX1_breaksAt ⟨Nat.le_of_ble_eq_true rfl, Nat.le_of_ble_eq_true rfl⟩, hts _ mG_124, hts _ mG_5⟩ ⟨wl_blind, gw_recv hK hP (8 + (π i)) (wl_kL (hπ i (by omega))) (wl_cL (hπ i (by omega))) rfl, wl_at hP hK hN⟩ rfl rfl hl.1 rfl (lv_room (Nat.le_of_ble_eq_true rfl)) dX3_watch_45 ⟨Nat.le_of_ble_eq_true rfl, Nat.le_of_ble_eq_true rfl⟩) hS (fun r_3 u_3 t_3 locs hw hP hS => ?_)
        obtain ⟨rfl, rfl⟩ := hw
        have hP : va_P X.1 vwCl (wl_ws X (wl_bd ((wl_w π d i).1) (8 + (π i)) (wl_val (wl_w π d i).1 (8 + (π i)))) π) t_3.heap := hP
        refine lv_if_eq (tgt := 88) hx hb dX3_watch_48 (by decide) (fun c_4 => ?_) (fun c_4 => ?_)
        · have brk := c_4
          have e9 : wl_w π d (i + 1) = (wl_bd (wl_w π d i).1 (8 + (π i)) (wl_val (wl_w π d i).1 (8 + (π i))), (wl_w π d i).2) := wl_step1 off brk
          refine lv_iinc (v := nI (i + 1)) (lv' := [(2, .int (nI (i + 1))), (4, .int (wl_val (wl_w π d i).1 (8 + (π i)))), (3, .ref (X.2.1 (8 + (π i)))), (1, .int ((wl_w π d i).2)), (0, .ref (X.2.1 0))]) hx hb dX3_watch_88 hl (k := 2) rfl (nI_1 i) (by decide) rfl (fun ls hl => ?_)
          have hl9 := lv_sub hl [0, 3, 4] rfl
          refine lv_goto (tgt := 9) hx hb dX3_watch_91 (by decide) ?_
          exact ih (i := i + 1) (ls := ls) (H := _) (locs := locs) (hS := hS) (hP := by rw [e9]; exact hP) (hi1 := by omega) (hl := by rw [e9]; exact hl9) (hg := by omega)
        · have brk := c_4
          refine lv_iinc (v := ((wl_w π d i).2) + 1) (lv' := [(1, .int (((wl_w π d i).2) + 1)), (4, .int (wl_val (wl_w π d i).1 (8 + (π i)))), (3, .ref (X.2.1 (8 + (π i)))), (2, .int (nI i)), (0, .ref (X.2.1 0))]) hx hb dX3_watch_51 hl (k := 3) rfl rfl (by decide) rfl (fun ls hl => ?_)
          refine lv_aload_n hx hb dX3_watch_54 rfl (lv_at hl 4 rfl) ?_
          refine lv_aload_n hx hb dX3_watch_55 rfl (lv_at hl 4 rfl) ?_
          refine gw_get hx hb hts inX3 hown hK hP 0 (by decide) wl_c0 rfl 4 (by decide) (hts _ mG_74) (fun _ h9 => h9) (v := .int ((wl_bd ((wl_w π d i).1) (8 + (π i)) (wl_val (wl_w π d i).1 (8 + (π i)))) 0 4)) rfl dX3_watch_56 ?_
          refine lv_if_ne (tgt := 69) hx hb dX3_watch_59 (by decide) (fun c_5 => ?_) (fun c_5 => ?_)
          · have lb := c_5
            refine lv_iconst (v := 1) hx hb dX3_watch_69 (by decide) ?_
            refine lv_goto (tgt := 74) hx hb dX3_watch_70 (by decide) ?_
            refine gw_put hx hb hts inX3 tyX3 okX3 nmX3 hown hK hP hX hS 0 (by decide) wl_c0 rfl 4 (by decide) (hts _ mG_74) (fun _ h9 => h9) rfl (ty := .boolean) (v := .int 1) (by decide +kernel) (gw_nz (by decide)) (gw_fz (by decide)) (Nat.le_of_ble_eq_true rfl) (cf' := wl_c X (up2 (wl_bd ((wl_w π d i).1) (8 + (π i)) (wl_val (wl_w π d i).1 (8 + (π i)))) 0 4 1) π) rfl wl_o dX3_watch_74 (fun H locs hP hS => ?_)
            have hP : va_P X.1 vwCl (wl_ws X (wl_bl (wl_w π d i).1 (8 + (π i)) (wl_val (wl_w π d i).1 (8 + (π i)))) π) H := by
              unfold wl_bl
              rw [show wl_or (wl_bd (wl_w π d i).1 (8 + π i) (wl_val (wl_w π d i).1 (8 + π i)) 0 4) (wl_bd (wl_w π d i).1 (8 + π i) (wl_val (wl_w π d i).1 (8 + π i)) (8 + π i) 6) = 1 from by unfold wl_or; rw [if_neg lb]]; exact hP
            have g4 : wl_bl (wl_w π d i).1 (8 + (π i)) (wl_val (wl_w π d i).1 (8 + (π i))) 4 2 = nI f := by rw [wl_bl_k (by omega) (by omega)]; exact hI4
            have g6 : wl_bl (wl_w π d i).1 (8 + (π i)) (wl_val (wl_w π d i).1 (8 + (π i))) 4 3 = nI q1 := by rw [wl_bl_k (by omega) (by omega)]; exact hI6
            refine lv_aload_n hx hb dX3_watch_77 rfl (lv_at hl 4 rfl) ?_
            refine lv_aload_n hx hb dX3_watch_78 rfl (lv_at hl 2 rfl) ?_
            refine gw_getN hx hb hts inX1 hown hK hP (8 + (π i)) (wl_kL (hπ i (by omega))) (wl_cL (hπ i (by omega))) rfl 5 (by decide) (hN _ (List.mem_of_getElem? (i := 5) rfl)) (fun _ h9 => h9) (v := .int ((wl_bl (wl_w π d i).1 (8 + (π i)) (wl_val (wl_w π d i).1 (8 + (π i)))) (8 + (π i)) 5)) rfl dX3_watch_79 ?_
            refine lv_iload hx hb dX3_watch_82 (lv_at hl 1 rfl) ?_
            refine gw_calli (va_runV (As := [.int ((wl_bl (wl_w π d i).1 (8 + (π i)) (wl_val (wl_w π d i).1 (8 + (π i)))) (8 + (π i)) 5), .int (wl_val (wl_w π d i).1 (8 + (π i)))]) (rest := []) ⟨hx, hb, hml, hown, hts⟩ (c_WatchList_waitOrLose X hX (wl_bl (wl_w π d i).1 (8 + (π i)) (wl_val (wl_w π d i).1 (8 + (π i)))) π ((wl_bl (wl_w π d i).1 (8 + (π i)) (wl_val (wl_w π d i).1 (8 + (π i)))) (8 + (π i)) 5) (wl_val (wl_w π d i).1 (8 + (π i))) f q1 g4 g6 hf6 hI5) ⟨callB_of 2 hts giX3_waitOrLose rfl rfl rfl (hts _ mG_22) (hts _ mG_126) pdX3_waitOrLose ⟨Nat.le_of_ble_eq_true rfl, Nat.le_of_ble_eq_true rfl⟩, hts _ mG_127, hts _ mG_6⟩ ⟨wl_blind, gw_recv hK hP 0 (by decide) wl_c0 rfl, wl_at hP hK hN⟩ rfl rfl hl.1 rfl (lv_room (Nat.le_of_ble_eq_true rfl)) dX3_watch_84 ⟨Nat.le_of_ble_eq_true rfl, Nat.le_of_ble_eq_true rfl⟩) hS (fun r_6 u_6 t_6 locs hw hP hS => ?_)
            obtain ⟨rfl, rfl⟩ := hw
            have hP : va_P X.1 vwCl (wl_ws X (wl_wol (wl_bl (wl_w π d i).1 (8 + (π i)) (wl_val (wl_w π d i).1 (8 + (π i)))) f q1 ((wl_bl (wl_w π d i).1 (8 + (π i)) (wl_val (wl_w π d i).1 (8 + (π i)))) (8 + (π i)) 5) (wl_val (wl_w π d i).1 (8 + (π i)))) π) t_6.heap := hP
            refine lv_pop hx hb dX3_watch_87 rfl ?_
            have e9 : wl_w π d (i + 1) = (wl_wol (wl_bl (wl_w π d i).1 (8 + (π i)) (wl_val (wl_w π d i).1 (8 + (π i)))) f q1 (wl_bl (wl_w π d i).1 (8 + (π i)) (wl_val (wl_w π d i).1 (8 + (π i))) (8 + (π i)) 5) (wl_val (wl_w π d i).1 (8 + (π i))), (wl_w π d i).2 + 1) := by
              rw [← wl_wolD_eq g4 g6 (by omega) (by omega)]; exact wl_step2 off brk
            refine lv_iinc (v := nI (i + 1)) (lv' := [(2, .int (nI (i + 1))), (1, .int (((wl_w π d i).2) + 1)), (4, .int (wl_val (wl_w π d i).1 (8 + (π i)))), (3, .ref (X.2.1 (8 + (π i)))), (0, .ref (X.2.1 0))]) hx hb dX3_watch_88 hl (k := 3) rfl (nI_1 i) (by decide) rfl (fun ls hl => ?_)
            have hl9 := lv_sub hl [0, 1, 4] rfl
            refine lv_goto (tgt := 9) hx hb dX3_watch_91 (by decide) ?_
            exact ih (i := i + 1) (ls := ls) (H := _) (locs := locs) (hS := hS) (hP := by rw [e9]; exact hP) (hi1 := by omega) (hl := by rw [e9]; exact hl9) (hg := by omega)
          · have lb := c_5
            refine lv_aload_n hx hb dX3_watch_62 rfl (lv_at hl 2 rfl) ?_
            refine gw_getN hx hb hts inX1 hown hK hP (8 + (π i)) (wl_kL (hπ i (by omega))) (wl_cL (hπ i (by omega))) rfl 6 (by decide) (hN _ (List.mem_of_getElem? (i := 6) rfl)) (fun _ h9 => h9) (v := .int ((wl_bd ((wl_w π d i).1) (8 + (π i)) (wl_val (wl_w π d i).1 (8 + (π i)))) (8 + (π i)) 6)) rfl dX3_watch_63 ?_
            refine lv_if_eq (tgt := 73) hx hb dX3_watch_66 (by decide) (fun c_7 => ?_) (fun c_7 => ?_)
            · have lk := c_7
              refine lv_iconst (v := 0) hx hb dX3_watch_73 (by decide) ?_
              refine gw_put hx hb hts inX3 tyX3 okX3 nmX3 hown hK hP hX hS 0 (by decide) wl_c0 rfl 4 (by decide) (hts _ mG_74) (fun _ h9 => h9) rfl (ty := .boolean) (v := .int 0) (by decide +kernel) (gw_nz (by decide)) (gw_fz (by decide)) (Nat.le_of_ble_eq_true rfl) (cf' := wl_c X (up2 (wl_bd ((wl_w π d i).1) (8 + (π i)) (wl_val (wl_w π d i).1 (8 + (π i)))) 0 4 0) π) rfl wl_o dX3_watch_74 (fun H locs hP hS => ?_)
              have hP : va_P X.1 vwCl (wl_ws X (wl_bl (wl_w π d i).1 (8 + (π i)) (wl_val (wl_w π d i).1 (8 + (π i)))) π) H := by
                unfold wl_bl
                rw [show wl_or (wl_bd (wl_w π d i).1 (8 + π i) (wl_val (wl_w π d i).1 (8 + π i)) 0 4) (wl_bd (wl_w π d i).1 (8 + π i) (wl_val (wl_w π d i).1 (8 + π i)) (8 + π i) 6) = 0 from by unfold wl_or; rw [if_pos lb, if_pos lk]]; exact hP
              have g4 : wl_bl (wl_w π d i).1 (8 + (π i)) (wl_val (wl_w π d i).1 (8 + (π i))) 4 2 = nI f := by rw [wl_bl_k (by omega) (by omega)]; exact hI4
              have g6 : wl_bl (wl_w π d i).1 (8 + (π i)) (wl_val (wl_w π d i).1 (8 + (π i))) 4 3 = nI q1 := by rw [wl_bl_k (by omega) (by omega)]; exact hI6
              refine lv_aload_n hx hb dX3_watch_77 rfl (lv_at hl 4 rfl) ?_
              refine lv_aload_n hx hb dX3_watch_78 rfl (lv_at hl 2 rfl) ?_
              refine gw_getN hx hb hts inX1 hown hK hP (8 + (π i)) (wl_kL (hπ i (by omega))) (wl_cL (hπ i (by omega))) rfl 5 (by decide) (hN _ (List.mem_of_getElem? (i := 5) rfl)) (fun _ h9 => h9) (v := .int ((wl_bl (wl_w π d i).1 (8 + (π i)) (wl_val (wl_w π d i).1 (8 + (π i)))) (8 + (π i)) 5)) rfl dX3_watch_79 ?_
              refine lv_iload hx hb dX3_watch_82 (lv_at hl 1 rfl) ?_
              refine gw_calli (va_runV (As := [.int ((wl_bl (wl_w π d i).1 (8 + (π i)) (wl_val (wl_w π d i).1 (8 + (π i)))) (8 + (π i)) 5), .int (wl_val (wl_w π d i).1 (8 + (π i)))]) (rest := []) ⟨hx, hb, hml, hown, hts⟩ (c_WatchList_waitOrLose X hX (wl_bl (wl_w π d i).1 (8 + (π i)) (wl_val (wl_w π d i).1 (8 + (π i)))) π ((wl_bl (wl_w π d i).1 (8 + (π i)) (wl_val (wl_w π d i).1 (8 + (π i)))) (8 + (π i)) 5) (wl_val (wl_w π d i).1 (8 + (π i))) f q1 g4 g6 hf6 hI5) ⟨callB_of 2 hts giX3_waitOrLose rfl rfl rfl (hts _ mG_22) (hts _ mG_126) pdX3_waitOrLose ⟨Nat.le_of_ble_eq_true rfl, Nat.le_of_ble_eq_true rfl⟩, hts _ mG_127, hts _ mG_6⟩ ⟨wl_blind, gw_recv hK hP 0 (by decide) wl_c0 rfl, wl_at hP hK hN⟩ rfl rfl hl.1 rfl (lv_room (Nat.le_of_ble_eq_true rfl)) dX3_watch_84 ⟨Nat.le_of_ble_eq_true rfl, Nat.le_of_ble_eq_true rfl⟩) hS (fun r_8 u_8 t_8 locs hw hP hS => ?_)
              obtain ⟨rfl, rfl⟩ := hw
              have hP : va_P X.1 vwCl (wl_ws X (wl_wol (wl_bl (wl_w π d i).1 (8 + (π i)) (wl_val (wl_w π d i).1 (8 + (π i)))) f q1 ((wl_bl (wl_w π d i).1 (8 + (π i)) (wl_val (wl_w π d i).1 (8 + (π i)))) (8 + (π i)) 5) (wl_val (wl_w π d i).1 (8 + (π i)))) π) t_8.heap := hP
              refine lv_pop hx hb dX3_watch_87 rfl ?_
              have e9 : wl_w π d (i + 1) = (wl_wol (wl_bl (wl_w π d i).1 (8 + (π i)) (wl_val (wl_w π d i).1 (8 + (π i)))) f q1 (wl_bl (wl_w π d i).1 (8 + (π i)) (wl_val (wl_w π d i).1 (8 + (π i))) (8 + (π i)) 5) (wl_val (wl_w π d i).1 (8 + (π i))), (wl_w π d i).2 + 1) := by
                rw [← wl_wolD_eq g4 g6 (by omega) (by omega)]; exact wl_step2 off brk
              refine lv_iinc (v := nI (i + 1)) (lv' := [(2, .int (nI (i + 1))), (1, .int (((wl_w π d i).2) + 1)), (4, .int (wl_val (wl_w π d i).1 (8 + (π i)))), (3, .ref (X.2.1 (8 + (π i)))), (0, .ref (X.2.1 0))]) hx hb dX3_watch_88 hl (k := 3) rfl (nI_1 i) (by decide) rfl (fun ls hl => ?_)
              have hl9 := lv_sub hl [0, 1, 4] rfl
              refine lv_goto (tgt := 9) hx hb dX3_watch_91 (by decide) ?_
              exact ih (i := i + 1) (ls := ls) (H := _) (locs := locs) (hS := hS) (hP := by rw [e9]; exact hP) (hi1 := by omega) (hl := by rw [e9]; exact hl9) (hg := by omega)
            · have lk := c_7
              refine lv_iconst (v := 1) hx hb dX3_watch_69 (by decide) ?_
              refine lv_goto (tgt := 74) hx hb dX3_watch_70 (by decide) ?_
              refine gw_put hx hb hts inX3 tyX3 okX3 nmX3 hown hK hP hX hS 0 (by decide) wl_c0 rfl 4 (by decide) (hts _ mG_74) (fun _ h9 => h9) rfl (ty := .boolean) (v := .int 1) (by decide +kernel) (gw_nz (by decide)) (gw_fz (by decide)) (Nat.le_of_ble_eq_true rfl) (cf' := wl_c X (up2 (wl_bd ((wl_w π d i).1) (8 + (π i)) (wl_val (wl_w π d i).1 (8 + (π i)))) 0 4 1) π) rfl wl_o dX3_watch_74 (fun H locs hP hS => ?_)
              have hP : va_P X.1 vwCl (wl_ws X (wl_bl (wl_w π d i).1 (8 + (π i)) (wl_val (wl_w π d i).1 (8 + (π i)))) π) H := by
                unfold wl_bl
                rw [show wl_or (wl_bd (wl_w π d i).1 (8 + π i) (wl_val (wl_w π d i).1 (8 + π i)) 0 4) (wl_bd (wl_w π d i).1 (8 + π i) (wl_val (wl_w π d i).1 (8 + π i)) (8 + π i) 6) = 1 from by unfold wl_or; rw [if_pos lb, if_neg lk]]; exact hP
              have g4 : wl_bl (wl_w π d i).1 (8 + (π i)) (wl_val (wl_w π d i).1 (8 + (π i))) 4 2 = nI f := by rw [wl_bl_k (by omega) (by omega)]; exact hI4
              have g6 : wl_bl (wl_w π d i).1 (8 + (π i)) (wl_val (wl_w π d i).1 (8 + (π i))) 4 3 = nI q1 := by rw [wl_bl_k (by omega) (by omega)]; exact hI6
              refine lv_aload_n hx hb dX3_watch_77 rfl (lv_at hl 4 rfl) ?_
              refine lv_aload_n hx hb dX3_watch_78 rfl (lv_at hl 2 rfl) ?_
              refine gw_getN hx hb hts inX1 hown hK hP (8 + (π i)) (wl_kL (hπ i (by omega))) (wl_cL (hπ i (by omega))) rfl 5 (by decide) (hN _ (List.mem_of_getElem? (i := 5) rfl)) (fun _ h9 => h9) (v := .int ((wl_bl (wl_w π d i).1 (8 + (π i)) (wl_val (wl_w π d i).1 (8 + (π i)))) (8 + (π i)) 5)) rfl dX3_watch_79 ?_
              refine lv_iload hx hb dX3_watch_82 (lv_at hl 1 rfl) ?_
              refine gw_calli (va_runV (As := [.int ((wl_bl (wl_w π d i).1 (8 + (π i)) (wl_val (wl_w π d i).1 (8 + (π i)))) (8 + (π i)) 5), .int (wl_val (wl_w π d i).1 (8 + (π i)))]) (rest := []) ⟨hx, hb, hml, hown, hts⟩ (c_WatchList_waitOrLose X hX (wl_bl (wl_w π d i).1 (8 + (π i)) (wl_val (wl_w π d i).1 (8 + (π i)))) π ((wl_bl (wl_w π d i).1 (8 + (π i)) (wl_val (wl_w π d i).1 (8 + (π i)))) (8 + (π i)) 5) (wl_val (wl_w π d i).1 (8 + (π i))) f q1 g4 g6 hf6 hI5) ⟨callB_of 2 hts giX3_waitOrLose rfl rfl rfl (hts _ mG_22) (hts _ mG_126) pdX3_waitOrLose ⟨Nat.le_of_ble_eq_true rfl, Nat.le_of_ble_eq_true rfl⟩, hts _ mG_127, hts _ mG_6⟩ ⟨wl_blind, gw_recv hK hP 0 (by decide) wl_c0 rfl, wl_at hP hK hN⟩ rfl rfl hl.1 rfl (lv_room (Nat.le_of_ble_eq_true rfl)) dX3_watch_84 ⟨Nat.le_of_ble_eq_true rfl, Nat.le_of_ble_eq_true rfl⟩) hS (fun r_9 u_9 t_9 locs hw hP hS => ?_)
              obtain ⟨rfl, rfl⟩ := hw
              have hP : va_P X.1 vwCl (wl_ws X (wl_wol (wl_bl (wl_w π d i).1 (8 + (π i)) (wl_val (wl_w π d i).1 (8 + (π i)))) f q1 ((wl_bl (wl_w π d i).1 (8 + (π i)) (wl_val (wl_w π d i).1 (8 + (π i)))) (8 + (π i)) 5) (wl_val (wl_w π d i).1 (8 + (π i)))) π) t_9.heap := hP
              refine lv_pop hx hb dX3_watch_87 rfl ?_
              have e9 : wl_w π d (i + 1) = (wl_wol (wl_bl (wl_w π d i).1 (8 + (π i)) (wl_val (wl_w π d i).1 (8 + (π i)))) f q1 (wl_bl (wl_w π d i).1 (8 + (π i)) (wl_val (wl_w π d i).1 (8 + (π i))) (8 + (π i)) 5) (wl_val (wl_w π d i).1 (8 + (π i))), (wl_w π d i).2 + 1) := by
                rw [← wl_wolD_eq g4 g6 (by omega) (by omega)]; exact wl_step2 off brk
              refine lv_iinc (v := nI (i + 1)) (lv' := [(2, .int (nI (i + 1))), (1, .int (((wl_w π d i).2) + 1)), (4, .int (wl_val (wl_w π d i).1 (8 + (π i)))), (3, .ref (X.2.1 (8 + (π i)))), (0, .ref (X.2.1 0))]) hx hb dX3_watch_88 hl (k := 3) rfl (nI_1 i) (by decide) rfl (fun ls hl => ?_)
              have hl9 := lv_sub hl [0, 1, 4] rfl
              refine lv_goto (tgt := 9) hx hb dX3_watch_91 (by decide) ?_
              exact ih (i := i + 1) (ls := ls) (H := _) (locs := locs) (hS := hS) (hP := by rw [e9]; exact hP) (hi1 := by omega) (hl := by rw [e9]; exact hl9) (hg := by omega)

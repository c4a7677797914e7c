variable {l : Launch}
set_option maxHeartbeats 4000000 in
set_option maxRecDepth 100000 in
theorem c_WatchListModel_watch (X : rf_X) (hX : gw_inj 18 X.2.1) (d : Nat → Nat → Int32) (π : Nat → Nat)   (q : Nat) (hq : rf_T d 0 13 = nI q) (hq6 : q ≤ 64) (hof : ∀ j, j < 256 → ∃ m, m < 32 ∧ rf_T d 5 j = nI m) : Met l yX4_watch wsX4_watch ({ frames := 1, cells := 0, slots := 0, locals := 22 }) (rf_pre X [.ref (X.2.1 0)] d π) (va_Qi (fun r u => r = (rf_w (rf_T d) 256).2 ∧ u = (up2 (rf_w (rf_T d) 256).1 0 11 ((rf_w (rf_T d) 256).1 0 11 + (rf_w (rf_T d) 256).2), π)) (rf_b X) (gw_A 18 X.2.1)) 0 0 (gw_A 18 X.2.1) := by
  refine Met.ofW (cc := cX4_watch) (maxL := 5) (ret := (some .int)) (by decide) rfl ?_
  intro p e s m args below meth c s₁ B hml hv
  obtain ⟨rfl, hP, hK, hN⟩ := hv
  have hx := B.exec
  have hb := B.bytes
  have hr := B.returns
  have hts : ∀ w ∈ gG, w.before _ s = true := fun w h => atoms_spec (ws := wsX4_watch) B.pre w (List.mem_cons_of_mem _ h)
  have hown : s.vm.findClass RX4 = some m.cls := findClass_of_methodNamed B.named
  have hlocks := B.notSynchronized
  have hS : va_S (gw_A 18 X.2.1) s.heap s.heap [] := va_S.rf
  have hl := lv_entry ([.ref (X.2.1 0)]) (n := 5) (Nat.le_of_ble_eq_true rfl)
  rw [lg_entry_eq]
  generalize (lg_sl ([.ref (X.2.1 0)]) ++ List.replicate (5 - (lg_sl ([.ref (X.2.1 0)])).length) Slot.unset).toArray = ls at hl ⊢
  have hl : lv_has ls 5 [(0, .ref (X.2.1 0))] := hl
  refine lv_aload_n hx hb dX4_watch_0 rfl (lv_at hl 0 rfl) ?_
  refine lv_iconst (v := 0) hx hb dX4_watch_1 (by decide) ?_
  refine gw_put hx hb hts inX4 tyX4 okX4 nmX4 hown hK hP hX hS 0 (by decide) rf_c0 rfl 0 (by decide) (hts _ mG_215) (fun _ h9 => h9) rfl (ty := .int) (v := .int 0) (by decide +kernel) rfl rfl (Nat.le_of_ble_eq_true rfl) (cf' := rf_c X (up2 d 0 0 0) π) rfl rf_o dX4_watch_2 (fun H locs hP hS => ?_)
  have hP : va_P X.1 vwCl (rf_ws X (rf_T d) π) H := hP
  refine lv_iconst (v := 0) hx hb dX4_watch_5 (by decide) ?_
  refine lv_istore_n (lv' := [(1, .int 0), (0, .ref (X.2.1 0))]) hx hb dX4_watch_6 rfl hl (by decide) rfl (fun ls hl => ?_)
  refine lv_aload_n hx hb dX4_watch_7 rfl (lv_at hl 1 rfl) ?_
  refine lv_iconst (v := 0) hx hb dX4_watch_8 (by decide) ?_
  refine gw_put hx hb hts inX4 tyX4 okX4 nmX4 hown hK hP hX hS 0 (by decide) rf_c0 rfl 12 (by decide) (hts _ mG_227) (fun _ h9 => h9) rfl (ty := .boolean) (v := .int 0) (by decide +kernel) (gw_nz (by decide)) (gw_fz (by decide)) (Nat.le_of_ble_eq_true rfl) (cf' := rf_c X (up2 (rf_T d) 0 12 0) π) rfl rf_o dX4_watch_9 (fun H locs hP hS => ?_)
  refine lv_iconst (v := 0) hx hb dX4_watch_12 (by decide) ?_
  refine lv_istore_n (lv' := [(2, .int 0), (1, .int 0), (0, .ref (X.2.1 0))]) hx hb dX4_watch_13 rfl hl (by decide) rfl (fun ls hl => ?_)
  obtain ⟨i, hi⟩ : ∃ i : Nat, i = 0 := ⟨0, rfl⟩
  replace hP : va_P X.1 vwCl (rf_ws X (rf_w (rf_T d) i).1 π) H := by rw [hi]; exact hP
  have hi1 : i ≤ 256 := by omega
  replace hl : lv_has ls 5 [(2, .int (nI i)), (1, .int (rf_w (rf_T d) i).2), (0, .ref (X.2.1 0))] := by rw [hi, nI_0]; exact hl
  obtain ⟨g, hg⟩ : ∃ g : Nat, 256 < i + g := ⟨257, by omega⟩
  clear hi
  induction g generalizing i ls H locs with
  | zero => exact absurd hg (by omega)
  | succ g ih =>
    obtain ⟨hI1, hI2, q1, hI5, hI6⟩ := rf_w_I hq hq6 i
    have hci : (nI i).toNatClampNeg = i := nI_clamp (show i < 2 ^ 31 by omega)
    obtain ⟨D, hD⟩ : ∃ z, z = (rf_w (rf_T d) i).1 := ⟨_, rfl⟩
    rw [← hD] at hP hI1 hI2 hI6
    refine lv_iload_n hx hb dX4_watch_14 rfl (lv_at hl 0 rfl) ?_
    refine lv_sipush (v := 256) hx hb dX4_watch_15 (by decide) ?_
    refine lv_icmp_ge (tgt := 150) hx hb dX4_watch_18 (by decide) (fun c_1 => ?_) (fun c_1 => ?_)
    · have hex : 256 ≤ i := (nI_leI (a := 256) (by omega) (by omega)).mp c_1
      refine lv_aload_n hx hb dX4_watch_150 rfl (lv_at hl 2 rfl) ?_
      refine lv_dup hx hb dX4_watch_151 rfl ?_
      refine gw_get hx hb hts inX4 hown hK hP 0 (by decide) rf_c0 rfl 11 (by decide) (hts _ mG_226) (fun _ h9 => h9) (v := .int (D 0 11)) rfl dX4_watch_152 ?_
      refine lv_iload_n hx hb dX4_watch_155 rfl (lv_at hl 1 rfl) ?_
      refine lv_iadd hx hb dX4_watch_156 ?_
      refine gw_put hx hb hts inX4 tyX4 okX4 nmX4 hown hK hP hX hS 0 (by decide) rf_c0 rfl 11 (by decide) (hts _ mG_226) (fun _ h9 => h9) rfl (ty := .int) (v := .int ((D 0 11) + ((rf_w (rf_T d) i).2))) (by decide +kernel) rfl rfl (Nat.le_of_ble_eq_true rfl) (cf' := rf_c X (up2 D 0 11 ((D 0 11) + ((rf_w (rf_T d) i).2))) π) rfl rf_o dX4_watch_157 (fun H locs hP hS => ?_)
      refine lv_iload_n hx hb dX4_watch_160 rfl (lv_at hl 1 rfl) ?_
      refine gw_iret (up2 D 0 11 ((D 0 11) + ((rf_w (rf_T d) i).2)), π) hx hb hr hlocks (rf_hB hP) hS dX4_watch_161 ?_
      rw [hD, show i = 256 by omega]; exact ⟨rfl, rfl⟩
    · have hlt : i < 256 := Nat.lt_of_not_le (fun z => c_1 (nI_le z (by omega)))
      obtain ⟨m9, hm1, hm2⟩ := hof i hlt
      have hpm : D 5 i = nI m9 := by rw [hI1 5 i (by decide) (by decide) (by decide) (by decide)]; exact hm2
      have g6 : rf_ct D i 0 13 = nI q1 := by rw [rf_ct_k (by decide)]; exact hI6
      refine lv_aload_n hx hb dX4_watch_21 rfl (lv_at hl 2 rfl) ?_
      refine gw_get hx hb hts inX4 hown hK hP 0 (by decide) rf_c0 rfl 1 (by decide) (hts _ mG_216) (fun _ h9 => h9) (v := .ref (X.2.1 1)) rfl dX4_watch_22 ?_
      refine lv_aload_n hx hb dX4_watch_25 rfl (lv_at hl 2 rfl) ?_
      refine gw_get hx hb hts inX4 hown hK hP 0 (by decide) rf_c0 rfl 5 (by decide) (hts _ mG_220) (fun _ h9 => h9) (v := .ref (X.2.1 5)) rfl dX4_watch_26 ?_
      refine lv_iload_n hx hb dX4_watch_29 rfl (lv_at hl 0 rfl) ?_
      refine gw_iald hx hb hK hP 5 0 (by decide) rf_c5 rfl (i := nI i) (vp_in_nI hlt (by omega)) dX4_watch_30 ?_
      refine W.eq (g2 := F0 m 31 ls (.int (D 5 i) :: .ref (X.2.1 1) :: [])) (by rw [hci]) ?_
      refine gw_iald hx hb hK hP 1 0 (by decide) rf_c1 rfl (i := D 5 i) (by rw [hpm]; exact vp_in_nI hm1 (by omega)) dX4_watch_31 ?_
      refine lv_istore_n (lv' := [(3, .int (rf_v D i)), (2, .int (nI i)), (1, .int ((rf_w (rf_T d) i).2)), (0, .ref (X.2.1 0))]) hx hb dX4_watch_32 rfl hl (by decide) rfl (fun ls hl => ?_)
      refine lv_aload_n hx hb dX4_watch_33 rfl (lv_at hl 3 rfl) ?_
      refine gw_get hx hb hts inX4 hown hK hP 0 (by decide) rf_c0 rfl 2 (by decide) (hts _ mG_217) (fun _ h9 => h9) (v := .ref (X.2.1 2)) rfl dX4_watch_34 ?_
      refine lv_iload_n hx hb dX4_watch_37 rfl (lv_at hl 1 rfl) ?_
      refine gw_zald hx hb hK hP 2 1 (by decide) rf_c2 rfl (i := nI i) (vp_in_nI hlt (by omega)) dX4_watch_38 ?_
      refine W.eq (g2 := F0 m 39 ls (.int (D 2 i) :: [])) (by rw [hci]) ?_
      refine lv_if_eq (tgt := 144) hx hb dX4_watch_39 (by decide) (fun c_2 => ?_) (fun c_2 => ?_)
      · have th_1 : D 2 i = 0 := c_2
        rw [hD] at th_1
        have e9 : rf_w (rf_T d) (i + 1) = (D, (rf_w (rf_T d) i).2) := by rw [hD]; exact rf_step0 th_1
        refine lv_iinc (v := nI (i + 1)) (lv' := [(2, .int (nI (i + 1))), (3, .int (rf_v D i)), (1, .int ((rf_w (rf_T d) i).2)), (0, .ref (X.2.1 0))]) hx hb dX4_watch_144 hl (k := 1) rfl (nI_1 i) (by decide) rfl (fun ls hl => ?_)
        have hl9 := lv_sub hl [0, 2, 3] rfl
        refine lv_goto (tgt := 14) hx hb dX4_watch_147 (by decide) ?_
        exact ih (i := i + 1) (ls := ls) (H := _) (locs := locs) (hS := hS) (hP := by rw [e9]; exact hP) (hi1 := by omega) (hl := by rw [e9]; exact hl9) (hg := by omega)
      · have th_1 : ¬ D 2 i = 0 := c_2
        rw [hD] at th_1
        refine lv_aload_n hx hb dX4_watch_42 rfl (lv_at hl 3 rfl) ?_
        refine gw_get hx hb hts inX4 hown hK hP 0 (by decide) rf_c0 rfl 3 (by decide) (hts _ mG_218) (fun _ h9 => h9) (v := .ref (X.2.1 3)) rfl dX4_watch_43 ?_
        refine lv_iload_n hx hb dX4_watch_46 rfl (lv_at hl 1 rfl) ?_
        refine gw_zald hx hb hK hP 3 1 (by decide) rf_c3 rfl (i := nI i) (vp_in_nI hlt (by omega)) dX4_watch_47 ?_
        refine W.eq (g2 := F0 m 48 ls (.int (D 3 i) :: [])) (by rw [hci]) ?_
        refine lv_if_eq (tgt := 144) hx hb dX4_watch_48 (by decide) (fun c_3 => ?_) (fun c_3 => ?_)
        · have on_1 : D 3 i = 0 := c_3
          rw [hD] at on_1
          have e9 : rf_w (rf_T d) (i + 1) = (D, (rf_w (rf_T d) i).2) := by rw [hD]; exact rf_step1 th_1 on_1
          refine lv_iinc (v := nI (i + 1)) (lv' := [(2, .int (nI (i + 1))), (3, .int (rf_v D i)), (1, .int ((rf_w (rf_T d) i).2)), (0, .ref (X.2.1 0))]) hx hb dX4_watch_144 hl (k := 1) rfl (nI_1 i) (by decide) rfl (fun ls hl => ?_)
          have hl9 := lv_sub hl [0, 2, 3] rfl
          refine lv_goto (tgt := 14) hx hb dX4_watch_147 (by decide) ?_
          exact ih (i := i + 1) (ls := ls) (H := _) (locs := locs) (hS := hS) (hP := by rw [e9]; exact hP) (hi1 := by omega) (hl := by rw [e9]; exact hl9) (hg := by omega)
        · have on_1 : ¬ D 3 i = 0 := c_3
          rw [hD] at on_1
          refine lv_aload_n hx hb dX4_watch_51 rfl (lv_at hl 3 rfl) ?_
          refine gw_get hx hb hts inX4 hown hK hP 0 (by decide) rf_c0 rfl 10 (by decide) (hts _ mG_225) (fun _ h9 => h9) (v := .ref (X.2.1 10)) rfl dX4_watch_52 ?_
          refine lv_iload_n hx hb dX4_watch_55 rfl (lv_at hl 1 rfl) ?_
          refine lv_iload_n hx hb dX4_watch_56 rfl (lv_at hl 0 rfl) ?_
          refine lv_aload_n hx hb dX4_watch_57 rfl (lv_at hl 3 rfl) ?_
          refine gw_get hx hb hts inX4 hown hK hP 0 (by decide) rf_c0 rfl 7 (by decide) (hts _ mG_222) (fun _ h9 => h9) (v := .ref (X.2.1 7)) rfl dX4_watch_58 ?_
          refine lv_iload_n hx hb dX4_watch_61 rfl (lv_at hl 1 rfl) ?_
          refine gw_iald hx hb hK hP 7 0 (by decide) rf_c7 rfl (i := nI i) (vp_in_nI hlt (by omega)) dX4_watch_62 ?_
          refine W.eq (g2 := F0 m 63 ls (.int (D 7 i) :: .int (rf_v D i) :: .int (nI i) :: .ref (X.2.1 10) :: [])) (by rw [hci]) ?_
          refine lv_aload_n hx hb dX4_watch_63 rfl (lv_at hl 3 rfl) ?_
          refine gw_get hx hb hts inX4 hown hK hP 0 (by decide) rf_c0 rfl 8 (by decide) (hts _ mG_223) (fun _ h9 => h9) (v := .ref (X.2.1 8)) rfl dX4_watch_64 ?_
          refine lv_iload_n hx hb dX4_watch_67 rfl (lv_at hl 1 rfl) ?_
          refine gw_iald hx hb hK hP 8 0 (by decide) rf_c8 rfl (i := nI i) (vp_in_nI hlt (by omega)) dX4_watch_68 ?_
          refine W.eq (g2 := F0 m 69 ls (.int (D 8 i) :: .int (D 7 i) :: .int (rf_v D i) :: .int (nI i) :: .ref (X.2.1 10) :: [])) (by rw [hci]) ?_
          refine gw_calli (va_runS (As := [.int (rf_v D i), .int (D 7 i), .int (D 8 i)]) (rest := [.int (nI i), .ref (X.2.1 10)]) ⟨hx, hb, hml, hown, hts⟩ (c_WatchListModel_isIn X hX D π (rf_v D i) (D 7 i) (D 8 i) ) ⟨callB_of 3 hts giX4_isIn rfl rfl rfl (hts _ mG_26) (hts _ mG_248) pdX4_isIn ⟨Nat.le_of_ble_eq_true rfl, Nat.le_of_ble_eq_true rfl⟩, hts _ mG_249⟩ ⟨rf_blind, rf_at hP hK hN⟩ rfl rfl hl.1 rfl (lv_room (Nat.le_of_ble_eq_true rfl)) dX4_watch_69 ⟨Nat.le_of_ble_eq_true rfl, Nat.le_of_ble_eq_true rfl⟩) hS (fun r_4 u_4 t_4 locs hw hP hS => ?_)
          obtain ⟨rfl, rfl⟩ := hw
          have hP : va_P X.1 vwCl (rf_ws X D π) t_4.heap := hP
          refine lv_if_eq (tgt := 79) hx hb dX4_watch_72 (by decide) (fun c_5 => ?_) (fun c_5 => ?_)
          · have in_1 : rf_in (rf_v D i) (D 7 i) (D 8 i) = false := wl_if c_5
            refine lv_aload_n hx hb dX4_watch_79 rfl (lv_at hl 3 rfl) ?_
            refine gw_get hx hb hts inX4 hown hK hP 0 (by decide) rf_c0 rfl 10 (by decide) (hts _ mG_225) (fun _ h9 => h9) (v := .ref (X.2.1 10)) rfl dX4_watch_80 ?_
            refine lv_iload_n hx hb dX4_watch_83 rfl (lv_at hl 1 rfl) ?_
            refine gw_iald hx hb hK hP 10 0 (by decide) rf_c10 rfl (i := nI i) (vp_in_nI hlt (by omega)) dX4_watch_84 ?_
            refine W.eq (g2 := F0 m 85 ls (.int (D 10 i) :: .int (nI i) :: .ref (X.2.1 10) :: [])) (by rw [hci]) ?_
            refine lv_iconst (v := 1) hx hb dX4_watch_85 (by decide) ?_
            refine lv_iadd hx hb dX4_watch_86 ?_
            refine gw_iast hx hb hK hP hX hS 10 0 (by decide) rf_c10 rfl (i := nI i) (x := (D 10 i) + 1) (vp_in_nI hlt (by omega)) (cf' := rf_c X (up2 D 10 (nI i).toNatClampNeg ((D 10 i) + 1)) π) rfl rf_o dX4_watch_87 (fun H locs hP hS => ?_)
            replace hP : va_P X.1 vwCl (rf_ws X (rf_ct D i) π) H := by unfold rf_ct; rw [if_neg (by rw [in_1]; decide)]; rw [hci] at hP; exact hP
            refine lv_aload_n hx hb dX4_watch_88 rfl (lv_at hl 3 rfl) ?_
            refine gw_get hx hb hts inX4 hown hK hP 0 (by decide) rf_c0 rfl 10 (by decide) (hts _ mG_225) (fun _ h9 => h9) (v := .ref (X.2.1 10)) rfl dX4_watch_89 ?_
            refine lv_iload_n hx hb dX4_watch_92 rfl (lv_at hl 1 rfl) ?_
            refine gw_iald hx hb hK hP 10 0 (by decide) rf_c10 rfl (i := nI i) (vp_in_nI hlt (by omega)) dX4_watch_93 ?_
            refine W.eq (g2 := F0 m 94 ls (.int ((rf_ct D i) 10 i) :: [])) (by rw [hci]) ?_
            refine lv_aload_n hx hb dX4_watch_94 rfl (lv_at hl 3 rfl) ?_
            refine gw_get hx hb hts inX4 hown hK hP 0 (by decide) rf_c0 rfl 6 (by decide) (hts _ mG_221) (fun _ h9 => h9) (v := .ref (X.2.1 6)) rfl dX4_watch_95 ?_
            refine lv_iload_n hx hb dX4_watch_98 rfl (lv_at hl 1 rfl) ?_
            refine gw_iald hx hb hK hP 6 0 (by decide) rf_c6 rfl (i := nI i) (vp_in_nI hlt (by omega)) dX4_watch_99 ?_
            refine W.eq (g2 := F0 m 100 ls (.int ((rf_ct D i) 6 i) :: .int ((rf_ct D i) 10 i) :: [])) (by rw [hci]) ?_
            refine lv_icmp_ne (tgt := 144) hx hb dX4_watch_100 (by decide) (fun c_6 => ?_) (fun c_6 => ?_)
            · have k_1 : ¬ rf_ct D i 10 i = rf_ct D i 6 i := c_6
              rw [hD] at k_1
              have e9 : rf_w (rf_T d) (i + 1) = (rf_ct D i, (rf_w (rf_T d) i).2) := by rw [hD]; exact rf_step2 th_1 on_1 k_1
              refine lv_iinc (v := nI (i + 1)) (lv' := [(2, .int (nI (i + 1))), (3, .int (rf_v D i)), (1, .int ((rf_w (rf_T d) i).2)), (0, .ref (X.2.1 0))]) hx hb dX4_watch_144 hl (k := 1) rfl (nI_1 i) (by decide) rfl (fun ls hl => ?_)
              have hl9 := lv_sub hl [0, 2, 3] rfl
              refine lv_goto (tgt := 14) hx hb dX4_watch_147 (by decide) ?_
              exact ih (i := i + 1) (ls := ls) (H := _) (locs := locs) (hS := hS) (hP := by rw [e9]; exact hP) (hi1 := by omega) (hl := by rw [e9]; exact hl9) (hg := by omega)
            · have k_1 : rf_ct D i 10 i = rf_ct D i 6 i := c_6
              rw [hD] at k_1
              refine lv_aload_n hx hb dX4_watch_103 rfl (lv_at hl 3 rfl) ?_
              refine lv_aload_n hx hb dX4_watch_104 rfl (lv_at hl 3 rfl) ?_
              refine gw_get hx hb hts inX4 hown hK hP 0 (by decide) rf_c0 rfl 9 (by decide) (hts _ mG_224) (fun _ h9 => h9) (v := .ref (X.2.1 9)) rfl dX4_watch_105 ?_
              refine lv_iload_n hx hb dX4_watch_108 rfl (lv_at hl 1 rfl) ?_
              refine gw_iald hx hb hK hP 9 0 (by decide) rf_c9 rfl (i := nI i) (vp_in_nI hlt (by omega)) dX4_watch_109 ?_
              refine W.eq (g2 := F0 m 110 ls (.int ((rf_ct D i) 9 i) :: .ref (X.2.1 0) :: [])) (by rw [hci]) ?_
              refine lv_iload_n hx hb dX4_watch_110 rfl (lv_at hl 0 rfl) ?_
              refine gw_calli (va_runV (As := [.int ((rf_ct D i) 9 i), .int (rf_v D i)]) (rest := []) ⟨hx, hb, hml, hown, hts⟩ (c_WatchListModel_waits X hX (rf_ct D i) π ((rf_ct D i) 9 i) (rf_v D i) q1 g6 hI5) ⟨callB_of 2 hts giX4_waits rfl rfl rfl (hts _ mG_26) (hts _ mG_269) pdX4_waits ⟨Nat.le_of_ble_eq_true rfl, Nat.le_of_ble_eq_true rfl⟩, hts _ mG_270, hts _ mG_20⟩ ⟨rf_blind, gw_recv hK hP 0 (by decide) rf_c0 rfl, rf_at hP hK hN⟩ rfl rfl hl.1 rfl (lv_room (Nat.le_of_ble_eq_true rfl)) dX4_watch_111 ⟨Nat.le_of_ble_eq_true rfl, Nat.le_of_ble_eq_true rfl⟩) hS (fun r_7 u_7 t_7 locs hw hP hS => ?_)
              obtain ⟨rfl, rfl⟩ := hw
              have hP : va_P X.1 vwCl (rf_ws X (rf_wt (rf_ct D i) q1 ((rf_ct D i) 9 i) (rf_v D i)) π) t_7.heap := hP
              replace hP : va_P X.1 vwCl (rf_ws X (rf_bk D i) π) t_7.heap := by unfold rf_bk; rw [rf_wtD_eq g6 (by omega)]; exact hP
              refine lv_istore (lv' := [(4, .int (wl_i (decide (q1 < 64)))), (3, .int (rf_v D i)), (2, .int (nI i)), (1, .int ((rf_w (rf_T d) i).2)), (0, .ref (X.2.1 0))]) hx hb dX4_watch_114 hl (by decide) rfl (fun ls hl => ?_)
              refine lv_aload_n hx hb dX4_watch_116 rfl (lv_at hl 4 rfl) ?_
              refine lv_aload_n hx hb dX4_watch_117 rfl (lv_at hl 4 rfl) ?_
              refine gw_get hx hb hts inX4 hown hK hP 0 (by decide) rf_c0 rfl 12 (by decide) (hts _ mG_227) (fun _ h9 => h9) (v := .int ((rf_bk D i) 0 12)) rfl dX4_watch_118 ?_
              refine lv_if_ne (tgt := 133) hx hb dX4_watch_121 (by decide) (fun c_8 => ?_) (fun c_8 => ?_)
              · have lb : ¬ rf_bk D i 0 12 = 0 := c_8
                refine lv_iconst (v := 1) hx hb dX4_watch_133 (by decide) ?_
                refine lv_goto (tgt := 138) hx hb dX4_watch_134 (by decide) ?_
                refine gw_put hx hb hts inX4 tyX4 okX4 nmX4 hown hK hP hX hS 0 (by decide) rf_c0 rfl 12 (by decide) (hts _ mG_227) (fun _ h9 => h9) rfl (ty := .boolean) (v := .int 1) (by decide +kernel) (gw_nz (by decide)) (gw_fz (by decide)) (Nat.le_of_ble_eq_true rfl) (cf' := rf_c X (up2 (rf_bk D i) 0 12 1) π) rfl rf_o dX4_watch_138 (fun H locs hP hS => ?_)
                replace hP : va_P X.1 vwCl (rf_ws X (up2 (rf_bk D i) 0 12 (wl_or (rf_bk D i 0 12) (rf_bk D i 4 i))) π) H := by rw [show wl_or (rf_bk D i 0 12) (rf_bk D i 4 i) = 1 from by unfold wl_or; rw [if_neg lb]]; exact hP
                refine lv_iinc (v := ((rf_w (rf_T d) i).2) + 1) (lv' := [(1, .int (((rf_w (rf_T d) i).2) + 1)), (4, .int (wl_i (decide (q1 < 64)))), (3, .int (rf_v D i)), (2, .int (nI i)), (0, .ref (X.2.1 0))]) hx hb dX4_watch_141 hl (k := 3) rfl rfl (by decide) rfl (fun ls hl => ?_)
                have e9 : rf_w (rf_T d) (i + 1) = (up2 (rf_bk D i) 0 12 (wl_or (rf_bk D i 0 12) (rf_bk D i 4 i)), (rf_w (rf_T d) i).2 + 1) := by rw [hD]; exact rf_step3 th_1 on_1 k_1
                refine lv_iinc (v := nI (i + 1)) (lv' := [(2, .int (nI (i + 1))), (1, .int (((rf_w (rf_T d) i).2) + 1)), (4, .int (wl_i (decide (q1 < 64)))), (3, .int (rf_v D i)), (0, .ref (X.2.1 0))]) hx hb dX4_watch_144 hl (k := 3) rfl (nI_1 i) (by decide) rfl (fun ls hl => ?_)
                have hl9 := lv_sub hl [0, 1, 4] rfl
                refine lv_goto (tgt := 14) hx hb dX4_watch_147 (by decide) ?_
                exact ih (i := i + 1) (ls := ls) (H := _) (locs := locs) (hS := hS) (hP := by rw [e9]; exact hP) (hi1 := by omega) (hl := by rw [e9]; exact hl9) (hg := by omega)
              · have lb : rf_bk D i 0 12 = 0 := c_8
                refine lv_aload_n hx hb dX4_watch_124 rfl (lv_at hl 4 rfl) ?_
                refine gw_get hx hb hts inX4 hown hK hP 0 (by decide) rf_c0 rfl 4 (by decide) (hts _ mG_219) (fun _ h9 => h9) (v := .ref (X.2.1 4)) rfl dX4_watch_125 ?_
                refine lv_iload_n hx hb dX4_watch_128 rfl (lv_at hl 2 rfl) ?_
                refine gw_zald hx hb hK hP 4 1 (by decide) rf_c4 rfl (i := nI i) (vp_in_nI hlt (by omega)) dX4_watch_129 ?_
                refine W.eq (g2 := F0 m 130 ls (.int ((rf_bk D i) 4 i) :: .ref (X.2.1 0) :: [])) (by rw [hci]) ?_
                refine lv_if_eq (tgt := 137) hx hb dX4_watch_130 (by decide) (fun c_9 => ?_) (fun c_9 => ?_)
                · have lk : rf_bk D i 4 i = 0 := c_9
                  refine lv_iconst (v := 0) hx hb dX4_watch_137 (by decide) ?_
                  refine gw_put hx hb hts inX4 tyX4 okX4 nmX4 hown hK hP hX hS 0 (by decide) rf_c0 rfl 12 (by decide) (hts _ mG_227) (fun _ h9 => h9) rfl (ty := .boolean) (v := .int 0) (by decide +kernel) (gw_nz (by decide)) (gw_fz (by decide)) (Nat.le_of_ble_eq_true rfl) (cf' := rf_c X (up2 (rf_bk D i) 0 12 0) π) rfl rf_o dX4_watch_138 (fun H locs hP hS => ?_)
                  replace hP : va_P X.1 vwCl (rf_ws X (up2 (rf_bk D i) 0 12 (wl_or (rf_bk D i 0 12) (rf_bk D i 4 i))) π) H := by rw [show wl_or (rf_bk D i 0 12) (rf_bk D i 4 i) = 0 from by unfold wl_or; rw [if_pos lb, if_pos lk]]; exact hP
                  refine lv_iinc (v := ((rf_w (rf_T d) i).2) + 1) (lv' := [(1, .int (((rf_w (rf_T d) i).2) + 1)), (4, .int (wl_i (decide (q1 < 64)))), (3, .int (rf_v D i)), (2, .int (nI i)), (0, .ref (X.2.1 0))]) hx hb dX4_watch_141 hl (k := 3) rfl rfl (by decide) rfl (fun ls hl => ?_)
                  have e9 : rf_w (rf_T d) (i + 1) = (up2 (rf_bk D i) 0 12 (wl_or (rf_bk D i 0 12) (rf_bk D i 4 i)), (rf_w (rf_T d) i).2 + 1) := by rw [hD]; exact rf_step3 th_1 on_1 k_1
                  refine lv_iinc (v := nI (i + 1)) (lv' := [(2, .int (nI (i + 1))), (1, .int (((rf_w (rf_T d) i).2) + 1)), (4, .int (wl_i (decide (q1 < 64)))), (3, .int (rf_v D i)), (0, .ref (X.2.1 0))]) hx hb dX4_watch_144 hl (k := 3) rfl (nI_1 i) (by decide) rfl (fun ls hl => ?_)
                  have hl9 := lv_sub hl [0, 1, 4] rfl
                  refine lv_goto (tgt := 14) hx hb dX4_watch_147 (by decide) ?_
                  exact ih (i := i + 1) (ls := ls) (H := _) (locs := locs) (hS := hS) (hP := by rw [e9]; exact hP) (hi1 := by omega) (hl := by rw [e9]; exact hl9) (hg := by omega)
                · have lk : ¬ rf_bk D i 4 i = 0 := c_9
                  refine lv_iconst (v := 1) hx hb dX4_watch_133 (by decide) ?_
                  refine lv_goto (tgt := 138) hx hb dX4_watch_134 (by decide) ?_
                  refine gw_put hx hb hts inX4 tyX4 okX4 nmX4 hown hK hP hX hS 0 (by decide) rf_c0 rfl 12 (by decide) (hts _ mG_227) (fun _ h9 => h9) rfl (ty := .boolean) (v := .int 1) (by decide +kernel) (gw_nz (by decide)) (gw_fz (by decide)) (Nat.le_of_ble_eq_true rfl) (cf' := rf_c X (up2 (rf_bk D i) 0 12 1) π) rfl rf_o dX4_watch_138 (fun H locs hP hS => ?_)
                  replace hP : va_P X.1 vwCl (rf_ws X (up2 (rf_bk D i) 0 12 (wl_or (rf_bk D i 0 12) (rf_bk D i 4 i))) π) H := by rw [show wl_or (rf_bk D i 0 12) (rf_bk D i 4 i) = 1 from by unfold wl_or; rw [if_pos lb, if_neg lk]]; exact hP
                  refine lv_iinc (v := ((rf_w (rf_T d) i).2) + 1) (lv' := [(1, .int (((rf_w (rf_T d) i).2) + 1)), (4, .int (wl_i (decide (q1 < 64)))), (3, .int (rf_v D i)), (2, .int (nI i)), (0, .ref (X.2.1 0))]) hx hb dX4_watch_141 hl (k := 3) rfl rfl (by decide) rfl (fun ls hl => ?_)
                  have e9 : rf_w (rf_T d) (i + 1) = (up2 (rf_bk D i) 0 12 (wl_or (rf_bk D i 0 12) (rf_bk D i 4 i)), (rf_w (rf_T d) i).2 + 1) := by rw [hD]; exact rf_step3 th_1 on_1 k_1
                  refine lv_iinc (v := nI (i + 1)) (lv' := [(2, .int (nI (i + 1))), (1, .int (((rf_w (rf_T d) i).2) + 1)), (4, .int (wl_i (decide (q1 < 64)))), (3, .int (rf_v D i)), (0, .ref (X.2.1 0))]) hx hb dX4_watch_144 hl (k := 3) rfl (nI_1 i) (by decide) rfl (fun ls hl => ?_)
                  have hl9 := lv_sub hl [0, 1, 4] rfl
                  refine lv_goto (tgt := 14) hx hb dX4_watch_147 (by decide) ?_
                  exact ih (i := i + 1) (ls := ls) (H := _) (locs := locs) (hS := hS) (hP := by rw [e9]; exact hP) (hi1 := by omega) (hl := by rw [e9]; exact hl9) (hg := by omega)
          · have in_1 : rf_in (rf_v D i) (D 7 i) (D 8 i) = true := wl_it c_5
            refine lv_iconst (v := 0) hx hb dX4_watch_75 (by decide) ?_
            refine lv_goto (tgt := 87) hx hb dX4_watch_76 (by decide) ?_
            refine gw_iast hx hb hK hP hX hS 10 0 (by decide) rf_c10 rfl (i := nI i) (x := 0) (vp_in_nI hlt (by omega)) (cf' := rf_c X (up2 D 10 (nI i).toNatClampNeg 0) π) rfl rf_o dX4_watch_87 (fun H locs hP hS => ?_)
            replace hP : va_P X.1 vwCl (rf_ws X (rf_ct D i) π) H := by unfold rf_ct; rw [if_pos in_1]; rw [hci] at hP; exact hP
            refine lv_aload_n hx hb dX4_watch_88 rfl (lv_at hl 3 rfl) ?_
            refine gw_get hx hb hts inX4 hown hK hP 0 (by decide) rf_c0 rfl 10 (by decide) (hts _ mG_225) (fun _ h9 => h9) (v := .ref (X.2.1 10)) rfl dX4_watch_89 ?_
            refine lv_iload_n hx hb dX4_watch_92 rfl (lv_at hl 1 rfl) ?_
            refine gw_iald hx hb hK hP 10 0 (by decide) rf_c10 rfl (i := nI i) (vp_in_nI hlt (by omega)) dX4_watch_93 ?_
            refine W.eq (g2 := F0 m 94 ls (.int ((rf_ct D i) 10 i) :: [])) (by rw [hci]) ?_
            refine lv_aload_n hx hb dX4_watch_94 rfl (lv_at hl 3 rfl) ?_
            refine gw_get hx hb hts inX4 hown hK hP 0 (by decide) rf_c0 rfl 6 (by decide) (hts _ mG_221) (fun _ h9 => h9) (v := .ref (X.2.1 6)) rfl dX4_watch_95 ?_
            refine lv_iload_n hx hb dX4_watch_98 rfl (lv_at hl 1 rfl) ?_
            refine gw_iald hx hb hK hP 6 0 (by decide) rf_c6 rfl (i := nI i) (vp_in_nI hlt (by omega)) dX4_watch_99 ?_
            refine W.eq (g2 := F0 m 100 ls (.int ((rf_ct D i) 6 i) :: .int ((rf_ct D i) 10 i) :: [])) (by rw [hci]) ?_
            refine lv_icmp_ne (tgt := 144) hx hb dX4_watch_100 (by decide) (fun c_10 => ?_) (fun c_10 => ?_)
            · have k_1 : ¬ rf_ct D i 10 i = rf_ct D i 6 i := c_10
              rw [hD] at k_1
              have e9 : rf_w (rf_T d) (i + 1) = (rf_ct D i, (rf_w (rf_T d) i).2) := by rw [hD]; exact rf_step2 th_1 on_1 k_1
              refine lv_iinc (v := nI (i + 1)) (lv' := [(2, .int (nI (i + 1))), (3, .int (rf_v D i)), (1, .int ((rf_w (rf_T d) i).2)), (0, .ref (X.2.1 0))]) hx hb dX4_watch_144 hl (k := 1) rfl (nI_1 i) (by decide) rfl (fun ls hl => ?_)
              have hl9 := lv_sub hl [0, 2, 3] rfl
              refine lv_goto (tgt := 14) hx hb dX4_watch_147 (by decide) ?_
              exact ih (i := i + 1) (ls := ls) (H := _) (locs := locs) (hS := hS) (hP := by rw [e9]; exact hP) (hi1 := by omega) (hl := by rw [e9]; exact hl9) (hg := by omega)
            · have k_1 : rf_ct D i 10 i = rf_ct D i 6 i := c_10
              rw [hD] at k_1
              refine lv_aload_n hx hb dX4_watch_103 rfl (lv_at hl 3 rfl) ?_
              refine lv_aload_n hx hb dX4_watch_104 rfl (lv_at hl 3 rfl) ?_
              refine gw_get hx hb hts inX4 hown hK hP 0 (by decide) rf_c0 rfl 9 (by decide) (hts _ mG_224) (fun _ h9 => h9) (v := .ref (X.2.1 9)) rfl dX4_watch_105 ?_
              refine lv_iload_n hx hb dX4_watch_108 rfl (lv_at hl 1 rfl) ?_
              refine gw_iald hx hb hK hP 9 0 (by decide) rf_c9 rfl (i := nI i) (vp_in_nI hlt (by omega)) dX4_watch_109 ?_
              refine W.eq (g2 := F0 m 110 ls (.int ((rf_ct D i) 9 i) :: .ref (X.2.1 0) :: [])) (by rw [hci]) ?_
              refine lv_iload_n hx hb dX4_watch_110 rfl (lv_at hl 0 rfl) ?_
              refine gw_calli (va_runV (As := [.int ((rf_ct D i) 9 i), .int (rf_v D i)]) (rest := []) ⟨hx, hb, hml, hown, hts⟩ (c_WatchListModel_waits X hX (rf_ct D i) π ((rf_ct D i) 9 i) (rf_v D i) q1 g6 hI5) ⟨callB_of 2 hts giX4_waits rfl rfl rfl (hts _ mG_26) (hts _ mG_269) pdX4_waits ⟨Nat.le_of_ble_eq_true rfl, Nat.le_of_ble_eq_true rfl⟩, hts _ mG_270, hts _ mG_20⟩ ⟨rf_blind, gw_recv hK hP 0 (by decide) rf_c0 rfl, rf_at hP hK hN⟩ rfl rfl hl.1 rfl (lv_room (Nat.le_of_ble_eq_true rfl)) dX4_watch_111 ⟨Nat.le_of_ble_eq_true rfl, Nat.le_of_ble_eq_true rfl⟩) hS (fun r_11 u_11 t_11 locs hw hP hS => ?_)
              obtain ⟨rfl, rfl⟩ := hw
              have hP : va_P X.1 vwCl (rf_ws X (rf_wt (rf_ct D i) q1 ((rf_ct D i) 9 i) (rf_v D i)) π) t_11.heap := hP
              replace hP : va_P X.1 vwCl (rf_ws X (rf_bk D i) π) t_11.heap := by unfold rf_bk; rw [rf_wtD_eq g6 (by omega)]; exact hP
              refine lv_istore (lv' := [(4, .int (wl_i (decide (q1 < 64)))), (3, .int (rf_v D i)), (2, .int (nI i)), (1, .int ((rf_w (rf_T d) i).2)), (0, .ref (X.2.1 0))]) hx hb dX4_watch_114 hl (by decide) rfl (fun ls hl => ?_)
              refine lv_aload_n hx hb dX4_watch_116 rfl (lv_at hl 4 rfl) ?_
              refine lv_aload_n hx hb dX4_watch_117 rfl (lv_at hl 4 rfl) ?_
              refine gw_get hx hb hts inX4 hown hK hP 0 (by decide) rf_c0 rfl 12 (by decide) (hts _ mG_227) (fun _ h9 => h9) (v := .int ((rf_bk D i) 0 12)) rfl dX4_watch_118 ?_
              refine lv_if_ne (tgt := 133) hx hb dX4_watch_121 (by decide) (fun c_12 => ?_) (fun c_12 => ?_)
              · have lb : ¬ rf_bk D i 0 12 = 0 := c_12
                refine lv_iconst (v := 1) hx hb dX4_watch_133 (by decide) ?_
                refine lv_goto (tgt := 138) hx hb dX4_watch_134 (by decide) ?_
                refine gw_put hx hb hts inX4 tyX4 okX4 nmX4 hown hK hP hX hS 0 (by decide) rf_c0 rfl 12 (by decide) (hts _ mG_227) (fun _ h9 => h9) rfl (ty := .boolean) (v := .int 1) (by decide +kernel) (gw_nz (by decide)) (gw_fz (by decide)) (Nat.le_of_ble_eq_true rfl) (cf' := rf_c X (up2 (rf_bk D i) 0 12 1) π) rfl rf_o dX4_watch_138 (fun H locs hP hS => ?_)
                replace hP : va_P X.1 vwCl (rf_ws X (up2 (rf_bk D i) 0 12 (wl_or (rf_bk D i 0 12) (rf_bk D i 4 i))) π) H := by rw [show wl_or (rf_bk D i 0 12) (rf_bk D i 4 i) = 1 from by unfold wl_or; rw [if_neg lb]]; exact hP
                refine lv_iinc (v := ((rf_w (rf_T d) i).2) + 1) (lv' := [(1, .int (((rf_w (rf_T d) i).2) + 1)), (4, .int (wl_i (decide (q1 < 64)))), (3, .int (rf_v D i)), (2, .int (nI i)), (0, .ref (X.2.1 0))]) hx hb dX4_watch_141 hl (k := 3) rfl rfl (by decide) rfl (fun ls hl => ?_)
                have e9 : rf_w (rf_T d) (i + 1) = (up2 (rf_bk D i) 0 12 (wl_or (rf_bk D i 0 12) (rf_bk D i 4 i)), (rf_w (rf_T d) i).2 + 1) := by rw [hD]; exact rf_step3 th_1 on_1 k_1
                refine lv_iinc (v := nI (i + 1)) (lv' := [(2, .int (nI (i + 1))), (1, .int (((rf_w (rf_T d) i).2) + 1)), (4, .int (wl_i (decide (q1 < 64)))), (3, .int (rf_v D i)), (0, .ref (X.2.1 0))]) hx hb dX4_watch_144 hl (k := 3) rfl (nI_1 i) (by decide) rfl (fun ls hl => ?_)
                have hl9 := lv_sub hl [0, 1, 4] rfl
                refine lv_goto (tgt := 14) hx hb dX4_watch_147 (by decide) ?_
                exact ih (i := i + 1) (ls := ls) (H := _) (locs := locs) (hS := hS) (hP := by rw [e9]; exact hP) (hi1 := by omega) (hl := by rw [e9]; exact hl9) (hg := by omega)
              · have lb : rf_bk D i 0 12 = 0 := c_12
                refine lv_aload_n hx hb dX4_watch_124 rfl (lv_at hl 4 rfl) ?_
                refine gw_get hx hb hts inX4 hown hK hP 0 (by decide) rf_c0 rfl 4 (by decide) (hts _ mG_219) (fun _ h9 => h9) (v := .ref (X.2.1 4)) rfl dX4_watch_125 ?_
                refine lv_iload_n hx hb dX4_watch_128 rfl (lv_at hl 2 rfl) ?_
                refine gw_zald hx hb hK hP 4 1 (by decide) rf_c4 rfl (i := nI i) (vp_in_nI hlt (by omega)) dX4_watch_129 ?_
                refine W.eq (g2 := F0 m 130 ls (.int ((rf_bk D i) 4 i) :: .ref (X.2.1 0) :: [])) (by rw [hci]) ?_
                refine lv_if_eq (tgt := 137) hx hb dX4_watch_130 (by decide) (fun c_13 => ?_) (fun c_13 => ?_)
                · have lk : rf_bk D i 4 i = 0 := c_13
                  refine lv_iconst (v := 0) hx hb dX4_watch_137 (by decide) ?_
                  refine gw_put hx hb hts inX4 tyX4 okX4 nmX4 hown hK hP hX hS 0 (by decide) rf_c0 rfl 12 (by decide) (hts _ mG_227) (fun _ h9 => h9) rfl (ty := .boolean) (v := .int 0) (by decide +kernel) (gw_nz (by decide)) (gw_fz (by decide)) (Nat.le_of_ble_eq_true rfl) (cf' := rf_c X (up2 (rf_bk D i) 0 12 0) π) rfl rf_o dX4_watch_138 (fun H locs hP hS => ?_)
                  replace hP : va_P X.1 vwCl (rf_ws X (up2 (rf_bk D i) 0 12 (wl_or (rf_bk D i 0 12) (rf_bk D i 4 i))) π) H := by rw [show wl_or (rf_bk D i 0 12) (rf_bk D i 4 i) = 0 from by unfold wl_or; rw [if_pos lb, if_pos lk]]; exact hP
                  refine lv_iinc (v := ((rf_w (rf_T d) i).2) + 1) (lv' := [(1, .int (((rf_w (rf_T d) i).2) + 1)), (4, .int (wl_i (decide (q1 < 64)))), (3, .int (rf_v D i)), (2, .int (nI i)), (0, .ref (X.2.1 0))]) hx hb dX4_watch_141 hl (k := 3) rfl rfl (by decide) rfl (fun ls hl => ?_)
                  have e9 : rf_w (rf_T d) (i + 1) = (up2 (rf_bk D i) 0 12 (wl_or (rf_bk D i 0 12) (rf_bk D i 4 i)), (rf_w (rf_T d) i).2 + 1) := by rw [hD]; exact rf_step3 th_1 on_1 k_1
                  refine lv_iinc (v := nI (i + 1)) (lv' := [(2, .int (nI (i + 1))), (1, .int (((rf_w (rf_T d) i).2) + 1)), (4, .int (wl_i (decide (q1 < 64)))), (3, .int (rf_v D i)), (0, .ref (X.2.1 0))]) hx hb dX4_watch_144 hl (k := 3) rfl (nI_1 i) (by decide) rfl (fun ls hl => ?_)
                  have hl9 := lv_sub hl [0, 1, 4] rfl
                  refine lv_goto (tgt := 14) hx hb dX4_watch_147 (by decide) ?_
                  exact ih (i := i + 1) (ls := ls) (H := _) (locs := locs) (hS := hS) (hP := by rw [e9]; exact hP) (hi1 := by omega) (hl := by rw [e9]; exact hl9) (hg := by omega)
                · have lk : ¬ rf_bk D i 4 i = 0 := c_13
                  refine lv_iconst (v := 1) hx hb dX4_watch_133 (by decide) ?_
                  refine lv_goto (tgt := 138) hx hb dX4_watch_134 (by decide) ?_
                  refine gw_put hx hb hts inX4 tyX4 okX4 nmX4 hown hK hP hX hS 0 (by decide) rf_c0 rfl 12 (by decide) (hts _ mG_227) (fun _ h9 => h9) rfl (ty := .boolean) (v := .int 1) (by decide +kernel) (gw_nz (by decide)) (gw_fz (by decide)) (Nat.le_of_ble_eq_true rfl) (cf' := rf_c X (up2 (rf_bk D i) 0 12 1) π) rfl rf_o dX4_watch_138 (fun H locs hP hS => ?_)
                  replace hP : va_P X.1 vwCl (rf_ws X (up2 (rf_bk D i) 0 12 (wl_or (rf_bk D i 0 12) (rf_bk D i 4 i))) π) H := by rw [show wl_or (rf_bk D i 0 12) (rf_bk D i 4 i) = 1 from by unfold wl_or; rw [if_pos lb, if_neg lk]]; exact hP
                  refine lv_iinc (v := ((rf_w (rf_T d) i).2) + 1) (lv' := [(1, .int (((rf_w (rf_T d) i).2) + 1)), (4, .int (wl_i (decide (q1 < 64)))), (3, .int (rf_v D i)), (2, .int (nI i)), (0, .ref (X.2.1 0))]) hx hb dX4_watch_141 hl (k := 3) rfl rfl (by decide) rfl (fun ls hl => ?_)
                  have e9 : rf_w (rf_T d) (i + 1) = (up2 (rf_bk D i) 0 12 (wl_or (rf_bk D i 0 12) (rf_bk D i 4 i)), (rf_w (rf_T d) i).2 + 1) := by rw [hD]; exact rf_step3 th_1 on_1 k_1
                  refine lv_iinc (v := nI (i + 1)) (lv' := [(2, .int (nI (i + 1))), (1, .int (((rf_w (rf_T d) i).2) + 1)), (4, .int (wl_i (decide (q1 < 64)))), (3, .int (rf_v D i)), (0, .ref (X.2.1 0))]) hx hb dX4_watch_144 hl (k := 3) rfl (nI_1 i) (by decide) rfl (fun ls hl => ?_)
                  have hl9 := lv_sub hl [0, 1, 4] rfl
                  refine lv_goto (tgt := 14) hx hb dX4_watch_147 (by decide) ?_
                  exact ih (i := i + 1) (ls := ls) (H := _) (locs := locs) (hS := hS) (hP := by rw [e9]; exact hP) (hi1 := by omega) (hl := by rw [e9]; exact hl9) (hg := by omega)

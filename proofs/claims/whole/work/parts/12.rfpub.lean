variable {l : Launch}
set_option maxHeartbeats 4000000 in
set_option maxRecDepth 100000 in
theorem c_WatchListModel_set (X : rf_X) (hX : gw_inj 18 X.2.1) (d : Nat → Nat → Int32) (π : Nat → Nat)  (k : Int32) (v : Int32)  : Met l yX4_set wsX4_set ({ frames := 0, cells := 0, slots := 0, locals := 0 }) (rf_pre X [.ref (X.2.1 0), .int k, .int v] d π) (va_Qi (fun r u => r = wl_i (wl_ok k 32) ∧ u = (if wl_ok k 32 = true then up2 (rf_T d) 1 k.toNatClampNeg v else rf_T d, π)) (rf_b X) (gw_A 18 X.2.1)) 0 0 (gw_A 18 X.2.1) := by
  refine Met.ofW (cc := cX4_set) (maxL := 3) (ret := (some .boolean)) (by decide) rfl ?_
  intro p e s m args below meth c s₁ B hml hv
  obtain ⟨rfl, hP, hK, hN⟩ := hv
  have hx := B.exec
  have hb := B.bytes
  have hr := B.returns
  have hts : ∀ w ∈ gG, w.before _ s = true := fun w h => atoms_spec (ws := wsX4_set) B.pre w (List.mem_cons_of_mem _ h)
  have hown : s.vm.findClass RX4 = some m.cls := findClass_of_methodNamed B.named
  have hlocks := B.notSynchronized
  have hS : va_S (gw_A 18 X.2.1) s.heap s.heap [] := va_S.rf
  have hl := lv_entry ([.ref (X.2.1 0), .int k, .int v]) (n := 3) (Nat.le_of_ble_eq_true rfl)
  rw [lg_entry_eq]
  generalize (lg_sl ([.ref (X.2.1 0), .int k, .int v]) ++ List.replicate (3 - (lg_sl ([.ref (X.2.1 0), .int k, .int v])).length) Slot.unset).toArray = ls at hl ⊢
  have hl : lv_has ls 3 [(0, .ref (X.2.1 0)), (1, .int k), (2, .int v)] := hl
  refine lv_aload_n hx hb dX4_set_0 rfl (lv_at hl 0 rfl) ?_
  refine lv_iconst (v := 0) hx hb dX4_set_1 (by decide) ?_
  refine gw_put hx hb hts inX4 tyX4 okX4 nmX4 hown hK hP hX hS 0 (by decide) rf_c0 rfl 0 (by decide) (hts _ mG_215) (fun _ h9 => h9) rfl (ty := .int) (v := .int 0) (by decide +kernel) rfl rfl (Nat.le_of_ble_eq_true rfl) (cf' := rf_c X (up2 d 0 0 0) π) rfl rf_o dX4_set_2 (fun H locs hP hS => ?_)
  have hP : va_P X.1 vwCl (rf_ws X (rf_T d) π) H := hP
  refine lv_iload_n hx hb dX4_set_5 rfl (lv_at hl 1 rfl) ?_
  refine lv_if_lt (tgt := 15) hx hb dX4_set_6 (by decide) (fun c_1 => ?_) (fun c_1 => ?_)
  · refine lv_iconst (v := 0) hx hb dX4_set_15 (by decide) ?_
    refine gw_zret (rf_T d, π) hx hb hr hlocks (by decide) (rf_hB hP) hS dX4_set_16 ?_
    have ok_1 : wl_ok k 32 = false := wl_ok_lt c_1
    constructor <;> (try simp only [ok_1, Bool.false_eq_true, if_false]) <;> (try rfl)
  · refine lv_iload_n hx hb dX4_set_9 rfl (lv_at hl 1 rfl) ?_
    refine lv_bipush (v := 31) hx hb dX4_set_10 (by decide) ?_
    refine lv_icmp_le (tgt := 17) hx hb dX4_set_12 (by decide) (fun c_2 => ?_) (fun c_2 => ?_)
    · have ok_1 : wl_ok k 32 = true := by rw [← rf_in31]; exact rf_in_t c_1 (wl_nlt_of c_2)
      have hj := wl_ok32c ok_1
      refine lv_aload_n hx hb dX4_set_17 rfl (lv_at hl 0 rfl) ?_
      refine gw_get hx hb hts inX4 hown hK hP 0 (by decide) rf_c0 rfl 1 (by decide) (hts _ mG_216) (fun _ h9 => h9) (v := .ref (X.2.1 1)) rfl dX4_set_18 ?_
      refine lv_iload_n hx hb dX4_set_21 rfl (lv_at hl 1 rfl) ?_
      refine lv_iload_n hx hb dX4_set_22 rfl (lv_at hl 2 rfl) ?_
      refine gw_iast hx hb hK hP hX hS 1 0 (by decide) rf_c1 rfl (i := k) (x := v) hj.1 (cf' := rf_c X (up2 (rf_T d) 1 k.toNatClampNeg v) π) rfl rf_o dX4_set_23 (fun H locs hP hS => ?_)
      refine lv_iconst (v := 1) hx hb dX4_set_24 (by decide) ?_
      refine gw_zret (up2 (rf_T d) 1 k.toNatClampNeg v, π) hx hb hr hlocks (by decide) (rf_hB hP) hS dX4_set_25 ?_
      constructor <;> (try simp only [ok_1, if_true]) <;> (try rfl)
    · have ok_1 : wl_ok k 32 = false := by rw [← rf_in31]; exact rf_in_gt (wl_lt_of c_2)
      refine lv_iconst (v := 0) hx hb dX4_set_15 (by decide) ?_
      refine gw_zret (rf_T d, π) hx hb hr hlocks (by decide) (rf_hB hP) hS dX4_set_16 ?_
      constructor <;> (try simp only [ok_1, Bool.false_eq_true, if_false]) <;> (try rfl)
set_option maxHeartbeats 4000000 in
set_option maxRecDepth 100000 in
theorem c_WatchListModel_add (X : rf_X) (hX : gw_inj 18 X.2.1) (d : Nat → Nat → Int32) (π : Nat → Nat)  (id : Int32) (pa : Int32) (ti : Int32) (lo : Int32) (hi2 : Int32) (ev : Int32) (lk : Int32) (hz : lk = 0 ∨ lk = 1) : Met l yX4_add wsX4_add ({ frames := 1, cells := 0, slots := 0, locals := 22 }) (rf_pre X [.ref (X.2.1 0), .int id, .int pa, .int ti, .int lo, .int hi2, .int ev, .int lk] d π) (va_Qi (fun r u => (r = 13 ∧ u = (rf_T d, π) ∧ wl_bad id pa ti lo hi2 ev = true) ∨ (wl_bad id pa ti lo hi2 ev = false ∧ ((r = 25 ∧ u = (rf_T d, π) ∧ ¬ rf_T d 2 id.toNatClampNeg = 0) ∨ (rf_T d 2 id.toNatClampNeg = 0 ∧ ((r = 26 ∧ u = (rf_T d, π) ∧ rf_cnt (rf_T d 2) 256 = 16) ∨ (r = 0 ∧ ¬ rf_cnt (rf_T d 2) 256 = 16 ∧ u = (rf_add (rf_T d) id.toNatClampNeg pa ti lo hi2 ev lk, π))))))) (rf_b X) (gw_A 18 X.2.1)) 0 0 (gw_A 18 X.2.1) := by
  refine Met.ofW (cc := cX4_add) (maxL := 8) (ret := (some .int)) (by decide) rfl ?_
  intro p e s m args below meth c s₁ B hml hv
  obtain ⟨rfl, hP, hK, hN⟩ := hv
  have hx := B.exec
  have hb := B.bytes
  have hr := B.returns
  have hts : ∀ w ∈ gG, w.before _ s = true := fun w h => atoms_spec (ws := wsX4_add) B.pre w (List.mem_cons_of_mem _ h)
  have hown : s.vm.findClass RX4 = some m.cls := findClass_of_methodNamed B.named
  have hlocks := B.notSynchronized
  have hS : va_S (gw_A 18 X.2.1) s.heap s.heap [] := va_S.rf
  have hl := lv_entry ([.ref (X.2.1 0), .int id, .int pa, .int ti, .int lo, .int hi2, .int ev, .int lk]) (n := 8) (Nat.le_of_ble_eq_true rfl)
  rw [lg_entry_eq]
  generalize (lg_sl ([.ref (X.2.1 0), .int id, .int pa, .int ti, .int lo, .int hi2, .int ev, .int lk]) ++ List.replicate (8 - (lg_sl ([.ref (X.2.1 0), .int id, .int pa, .int ti, .int lo, .int hi2, .int ev, .int lk])).length) Slot.unset).toArray = ls at hl ⊢
  have hl : lv_has ls 8 [(0, .ref (X.2.1 0)), (1, .int id), (2, .int pa), (3, .int ti), (4, .int lo), (5, .int hi2), (6, .int ev), (7, .int lk)] := hl
  refine lv_aload_n hx hb dX4_add_0 rfl (lv_at hl 0 rfl) ?_
  refine lv_iconst (v := 0) hx hb dX4_add_1 (by decide) ?_
  refine gw_put hx hb hts inX4 tyX4 okX4 nmX4 hown hK hP hX hS 0 (by decide) rf_c0 rfl 0 (by decide) (hts _ mG_215) (fun _ h9 => h9) rfl (ty := .int) (v := .int 0) (by decide +kernel) rfl rfl (Nat.le_of_ble_eq_true rfl) (cf' := rf_c X (up2 d 0 0 0) π) rfl rf_o dX4_add_2 (fun H locs hP hS => ?_)
  have hP : va_P X.1 vwCl (rf_ws X (rf_T d) π) H := hP
  refine lv_iload_n hx hb dX4_add_5 rfl (lv_at hl 3 rfl) ?_
  refine lv_iconst (v := 1) hx hb dX4_add_6 (by decide) ?_
  refine lv_sipush (v := 255) hx hb dX4_add_7 (by decide) ?_
  refine gw_calli (va_runS (As := [.int ti, .int 1, .int 255]) (rest := []) ⟨hx, hb, hml, hown, hts⟩ (c_WatchListModel_isIn X hX (rf_T d) π ti 1 255 ) ⟨callB_of 3 hts giX4_isIn rfl rfl rfl (hts _ mG_26) (hts _ mG_248) pdX4_isIn ⟨Nat.le_of_ble_eq_true rfl, Nat.le_of_ble_eq_true rfl⟩, hts _ mG_249⟩ ⟨rf_blind, rf_at hP hK hN⟩ rfl rfl hl.1 rfl (lv_room (Nat.le_of_ble_eq_true rfl)) dX4_add_10 ⟨Nat.le_of_ble_eq_true rfl, Nat.le_of_ble_eq_true rfl⟩) hS (fun r_1 u_1 t_1 locs hw hP hS => ?_)
  obtain ⟨rfl, rfl⟩ := hw
  have hP : va_P X.1 vwCl (rf_ws X (rf_T d) π) t_1.heap := hP
  refine lv_if_eq (tgt := 55) hx hb dX4_add_13 (by decide) (fun c_2 => ?_) (fun c_2 => ?_)
  · have k_1 := wl_if c_2
    refine lv_bipush (v := 13) hx hb dX4_add_55 (by decide) ?_
    refine gw_iret (rf_T d, π) hx hb hr hlocks (rf_hB hP) hS dX4_add_57 ?_
    exact Or.inl ⟨rfl, rfl, rf_bad1 k_1⟩
  · have k_1 := wl_it c_2
    refine lv_iload hx hb dX4_add_16 (lv_at hl 4 rfl) ?_
    refine lv_iload hx hb dX4_add_18 (lv_at hl 5 rfl) ?_
    refine lv_icmp_gt (tgt := 55) hx hb dX4_add_20 (by decide) (fun c_3 => ?_) (fun c_3 => ?_)
    · have k_2 := c_3
      refine lv_bipush (v := 13) hx hb dX4_add_55 (by decide) ?_
      refine gw_iret (rf_T d, π) hx hb hr hlocks (rf_hB hP) hS dX4_add_57 ?_
      exact Or.inl ⟨rfl, rfl, wl_bad6 (wl_nle_of k_2)⟩
    · have k_2 := c_3
      refine lv_iload_n hx hb dX4_add_23 rfl (lv_at hl 2 rfl) ?_
      refine lv_iconst (v := 0) hx hb dX4_add_24 (by decide) ?_
      refine lv_bipush (v := 31) hx hb dX4_add_25 (by decide) ?_
      refine gw_calli (va_runS (As := [.int pa, .int 0, .int 31]) (rest := []) ⟨hx, hb, hml, hown, hts⟩ (c_WatchListModel_isIn X hX (rf_T d) π pa 0 31 ) ⟨callB_of 3 hts giX4_isIn rfl rfl rfl (hts _ mG_26) (hts _ mG_248) pdX4_isIn ⟨Nat.le_of_ble_eq_true rfl, Nat.le_of_ble_eq_true rfl⟩, hts _ mG_249⟩ ⟨rf_blind, rf_at hP hK hN⟩ rfl rfl hl.1 rfl (lv_room (Nat.le_of_ble_eq_true rfl)) dX4_add_27 ⟨Nat.le_of_ble_eq_true rfl, Nat.le_of_ble_eq_true rfl⟩) hS (fun r_4 u_4 t_4 locs hw hP hS => ?_)
      obtain ⟨rfl, rfl⟩ := hw
      have hP : va_P X.1 vwCl (rf_ws X (rf_T d) π) t_4.heap := hP
      refine lv_if_eq (tgt := 55) hx hb dX4_add_30 (by decide) (fun c_5 => ?_) (fun c_5 => ?_)
      · have k_3 := wl_if c_5
        refine lv_bipush (v := 13) hx hb dX4_add_55 (by decide) ?_
        refine gw_iret (rf_T d, π) hx hb hr hlocks (rf_hB hP) hS dX4_add_57 ?_
        exact Or.inl ⟨rfl, rfl, rf_bad2 k_3⟩
      · have k_3 := wl_it c_5
        refine lv_iload hx hb dX4_add_33 (lv_at hl 6 rfl) ?_
        refine lv_iconst (v := 0) hx hb dX4_add_35 (by decide) ?_
        refine lv_bipush (v := 31) hx hb dX4_add_36 (by decide) ?_
        refine gw_calli (va_runS (As := [.int ev, .int 0, .int 31]) (rest := []) ⟨hx, hb, hml, hown, hts⟩ (c_WatchListModel_isIn X hX (rf_T d) π ev 0 31 ) ⟨callB_of 3 hts giX4_isIn rfl rfl rfl (hts _ mG_26) (hts _ mG_248) pdX4_isIn ⟨Nat.le_of_ble_eq_true rfl, Nat.le_of_ble_eq_true rfl⟩, hts _ mG_249⟩ ⟨rf_blind, rf_at hP hK hN⟩ rfl rfl hl.1 rfl (lv_room (Nat.le_of_ble_eq_true rfl)) dX4_add_38 ⟨Nat.le_of_ble_eq_true rfl, Nat.le_of_ble_eq_true rfl⟩) hS (fun r_6 u_6 t_6 locs hw hP hS => ?_)
        obtain ⟨rfl, rfl⟩ := hw
        have hP : va_P X.1 vwCl (rf_ws X (rf_T d) π) t_6.heap := hP
        refine lv_if_eq (tgt := 55) hx hb dX4_add_41 (by decide) (fun c_7 => ?_) (fun c_7 => ?_)
        · have k_4 := wl_if c_7
          refine lv_bipush (v := 13) hx hb dX4_add_55 (by decide) ?_
          refine gw_iret (rf_T d, π) hx hb hr hlocks (rf_hB hP) hS dX4_add_57 ?_
          exact Or.inl ⟨rfl, rfl, rf_bad3 k_4⟩
        · have k_4 := wl_it c_7
          refine lv_iload_n hx hb dX4_add_44 rfl (lv_at hl 1 rfl) ?_
          refine lv_iconst (v := 0) hx hb dX4_add_45 (by decide) ?_
          refine lv_sipush (v := 255) hx hb dX4_add_46 (by decide) ?_
          refine gw_calli (va_runS (As := [.int id, .int 0, .int 255]) (rest := []) ⟨hx, hb, hml, hown, hts⟩ (c_WatchListModel_isIn X hX (rf_T d) π id 0 255 ) ⟨callB_of 3 hts giX4_isIn rfl rfl rfl (hts _ mG_26) (hts _ mG_248) pdX4_isIn ⟨Nat.le_of_ble_eq_true rfl, Nat.le_of_ble_eq_true rfl⟩, hts _ mG_249⟩ ⟨rf_blind, rf_at hP hK hN⟩ rfl rfl hl.1 rfl (lv_room (Nat.le_of_ble_eq_true rfl)) dX4_add_49 ⟨Nat.le_of_ble_eq_true rfl, Nat.le_of_ble_eq_true rfl⟩) hS (fun r_8 u_8 t_8 locs hw hP hS => ?_)
          obtain ⟨rfl, rfl⟩ := hw
          have hP : va_P X.1 vwCl (rf_ws X (rf_T d) π) t_8.heap := hP
          refine lv_if_ne (tgt := 58) hx hb dX4_add_52 (by decide) (fun c_9 => ?_) (fun c_9 => ?_)
          · have k_5 := wl_it c_9
            have hj := rf_ok256c ((rf_in255 id).symm.trans k_5)
            refine lv_aload_n hx hb dX4_add_58 rfl (lv_at hl 0 rfl) ?_
            refine gw_get hx hb hts inX4 hown hK hP 0 (by decide) rf_c0 rfl 2 (by decide) (hts _ mG_217) (fun _ h9 => h9) (v := .ref (X.2.1 2)) rfl dX4_add_59 ?_
            refine lv_iload_n hx hb dX4_add_62 rfl (lv_at hl 1 rfl) ?_
            refine gw_zald hx hb hK hP 2 1 (by decide) rf_c2 rfl (i := id) hj.1 dX4_add_63 ?_
            refine lv_if_eq (tgt := 70) hx hb dX4_add_64 (by decide) (fun c_10 => ?_) (fun c_10 => ?_)
            · have th_1 := c_10
              refine lv_aload_n hx hb dX4_add_70 rfl (lv_at hl 0 rfl) ?_
              refine gw_calli (va_runV (As := []) (rest := []) ⟨hx, hb, hml, hown, hts⟩ (c_WatchListModel_limits X hX (rf_T d) π  ) ⟨callB_of 0 hts giX4_limits rfl rfl rfl (hts _ mG_26) (hts _ mG_251) pdX4_limits ⟨Nat.le_of_ble_eq_true rfl, Nat.le_of_ble_eq_true rfl⟩, hts _ mG_252, hts _ mG_18⟩ ⟨rf_blind, gw_recv hK hP 0 (by decide) rf_c0 rfl, rf_at hP hK hN⟩ rfl rfl hl.1 rfl (lv_room (Nat.le_of_ble_eq_true rfl)) dX4_add_71 ⟨Nat.le_of_ble_eq_true rfl, Nat.le_of_ble_eq_true rfl⟩) hS (fun r_11 u_11 t_11 locs hw hP hS => ?_)
              obtain ⟨rfl, rfl⟩ := hw
              have hP : va_P X.1 vwCl (rf_ws X (rf_T d) π) t_11.heap := hP
              refine lv_bipush (v := 16) hx hb dX4_add_74 (by decide) ?_
              refine lv_icmp_ne (tgt := 82) hx hb dX4_add_76 (by decide) (fun c_12 => ?_) (fun c_12 => ?_)
              · have n_1 : ¬ rf_cnt (rf_T d 2) 256 = 16 := fun z => c_12 (by rw [z]; rfl)
                refine lv_aload_n hx hb dX4_add_82 rfl (lv_at hl 0 rfl) ?_
                refine gw_get hx hb hts inX4 hown hK hP 0 (by decide) rf_c0 rfl 2 (by decide) (hts _ mG_217) (fun _ h9 => h9) (v := .ref (X.2.1 2)) rfl dX4_add_83 ?_
                refine lv_iload_n hx hb dX4_add_86 rfl (lv_at hl 1 rfl) ?_
                refine lv_iconst (v := 1) hx hb dX4_add_87 (by decide) ?_
                refine gw_zast hx hb hK hP hX hS 2 1 (by decide) rf_c2 rfl (i := id) (x := 1) hj.1 (cf' := rf_c X (up2 (rf_T d) 2 id.toNatClampNeg 1) π) (by rw [gw_vz (by decide)]; rfl) rf_o dX4_add_88 (fun H locs hP hS => ?_)
                refine lv_aload_n hx hb dX4_add_89 rfl (lv_at hl 0 rfl) ?_
                refine gw_get hx hb hts inX4 hown hK hP 0 (by decide) rf_c0 rfl 3 (by decide) (hts _ mG_218) (fun _ h9 => h9) (v := .ref (X.2.1 3)) rfl dX4_add_90 ?_
                refine lv_iload_n hx hb dX4_add_93 rfl (lv_at hl 1 rfl) ?_
                refine lv_iconst (v := 0) hx hb dX4_add_94 (by decide) ?_
                refine gw_zast hx hb hK hP hX hS 3 1 (by decide) rf_c3 rfl (i := id) (x := 0) hj.1 (cf' := rf_c X (up2 (up2 (rf_T d) 2 id.toNatClampNeg 1) 3 id.toNatClampNeg 0) π) (by rw [gw_vz (by decide)]; rfl) rf_o dX4_add_95 (fun H locs hP hS => ?_)
                refine lv_aload_n hx hb dX4_add_96 rfl (lv_at hl 0 rfl) ?_
                refine gw_get hx hb hts inX4 hown hK hP 0 (by decide) rf_c0 rfl 4 (by decide) (hts _ mG_219) (fun _ h9 => h9) (v := .ref (X.2.1 4)) rfl dX4_add_97 ?_
                refine lv_iload_n hx hb dX4_add_100 rfl (lv_at hl 1 rfl) ?_
                refine lv_iload hx hb dX4_add_101 (lv_at hl 7 rfl) ?_
                refine gw_zast hx hb hK hP hX hS 4 1 (by decide) rf_c4 rfl (i := id) (x := lk) hj.1 (cf' := rf_c X (up2 (up2 (up2 (rf_T d) 2 id.toNatClampNeg 1) 3 id.toNatClampNeg 0) 4 id.toNatClampNeg lk) π) (by rw [gw_vz hz]; rfl) rf_o dX4_add_103 (fun H locs hP hS => ?_)
                refine lv_aload_n hx hb dX4_add_104 rfl (lv_at hl 0 rfl) ?_
                refine gw_get hx hb hts inX4 hown hK hP 0 (by decide) rf_c0 rfl 5 (by decide) (hts _ mG_220) (fun _ h9 => h9) (v := .ref (X.2.1 5)) rfl dX4_add_105 ?_
                refine lv_iload_n hx hb dX4_add_108 rfl (lv_at hl 1 rfl) ?_
                refine lv_iload_n hx hb dX4_add_109 rfl (lv_at hl 2 rfl) ?_
                refine gw_iast hx hb hK hP hX hS 5 0 (by decide) rf_c5 rfl (i := id) (x := pa) hj.1 (cf' := rf_c X (up2 (up2 (up2 (up2 (rf_T d) 2 id.toNatClampNeg 1) 3 id.toNatClampNeg 0) 4 id.toNatClampNeg lk) 5 id.toNatClampNeg pa) π) rfl rf_o dX4_add_110 (fun H locs hP hS => ?_)
                refine lv_aload_n hx hb dX4_add_111 rfl (lv_at hl 0 rfl) ?_
                refine gw_get hx hb hts inX4 hown hK hP 0 (by decide) rf_c0 rfl 6 (by decide) (hts _ mG_221) (fun _ h9 => h9) (v := .ref (X.2.1 6)) rfl dX4_add_112 ?_
                refine lv_iload_n hx hb dX4_add_115 rfl (lv_at hl 1 rfl) ?_
                refine lv_iload_n hx hb dX4_add_116 rfl (lv_at hl 3 rfl) ?_
                refine gw_iast hx hb hK hP hX hS 6 0 (by decide) rf_c6 rfl (i := id) (x := ti) hj.1 (cf' := rf_c X (up2 (up2 (up2 (up2 (up2 (rf_T d) 2 id.toNatClampNeg 1) 3 id.toNatClampNeg 0) 4 id.toNatClampNeg lk) 5 id.toNatClampNeg pa) 6 id.toNatClampNeg ti) π) rfl rf_o dX4_add_117 (fun H locs hP hS => ?_)
                refine lv_aload_n hx hb dX4_add_118 rfl (lv_at hl 0 rfl) ?_
                refine gw_get hx hb hts inX4 hown hK hP 0 (by decide) rf_c0 rfl 7 (by decide) (hts _ mG_222) (fun _ h9 => h9) (v := .ref (X.2.1 7)) rfl dX4_add_119 ?_
                refine lv_iload_n hx hb dX4_add_122 rfl (lv_at hl 1 rfl) ?_
                refine lv_iload hx hb dX4_add_123 (lv_at hl 4 rfl) ?_
                refine gw_iast hx hb hK hP hX hS 7 0 (by decide) rf_c7 rfl (i := id) (x := lo) hj.1 (cf' := rf_c X (up2 (up2 (up2 (up2 (up2 (up2 (rf_T d) 2 id.toNatClampNeg 1) 3 id.toNatClampNeg 0) 4 id.toNatClampNeg lk) 5 id.toNatClampNeg pa) 6 id.toNatClampNeg ti) 7 id.toNatClampNeg lo) π) rfl rf_o dX4_add_125 (fun H locs hP hS => ?_)
                refine lv_aload_n hx hb dX4_add_126 rfl (lv_at hl 0 rfl) ?_
                refine gw_get hx hb hts inX4 hown hK hP 0 (by decide) rf_c0 rfl 8 (by decide) (hts _ mG_223) (fun _ h9 => h9) (v := .ref (X.2.1 8)) rfl dX4_add_127 ?_
                refine lv_iload_n hx hb dX4_add_130 rfl (lv_at hl 1 rfl) ?_
                refine lv_iload hx hb dX4_add_131 (lv_at hl 5 rfl) ?_
                refine gw_iast hx hb hK hP hX hS 8 0 (by decide) rf_c8 rfl (i := id) (x := hi2) hj.1 (cf' := rf_c X (up2 (up2 (up2 (up2 (up2 (up2 (up2 (rf_T d) 2 id.toNatClampNeg 1) 3 id.toNatClampNeg 0) 4 id.toNatClampNeg lk) 5 id.toNatClampNeg pa) 6 id.toNatClampNeg ti) 7 id.toNatClampNeg lo) 8 id.toNatClampNeg hi2) π) rfl rf_o dX4_add_133 (fun H locs hP hS => ?_)
                refine lv_aload_n hx hb dX4_add_134 rfl (lv_at hl 0 rfl) ?_
                refine gw_get hx hb hts inX4 hown hK hP 0 (by decide) rf_c0 rfl 9 (by decide) (hts _ mG_224) (fun _ h9 => h9) (v := .ref (X.2.1 9)) rfl dX4_add_135 ?_
                refine lv_iload_n hx hb dX4_add_138 rfl (lv_at hl 1 rfl) ?_
                refine lv_iload hx hb dX4_add_139 (lv_at hl 6 rfl) ?_
                refine gw_iast hx hb hK hP hX hS 9 0 (by decide) rf_c9 rfl (i := id) (x := ev) hj.1 (cf' := rf_c X (up2 (up2 (up2 (up2 (up2 (up2 (up2 (up2 (rf_T d) 2 id.toNatClampNeg 1) 3 id.toNatClampNeg 0) 4 id.toNatClampNeg lk) 5 id.toNatClampNeg pa) 6 id.toNatClampNeg ti) 7 id.toNatClampNeg lo) 8 id.toNatClampNeg hi2) 9 id.toNatClampNeg ev) π) rfl rf_o dX4_add_141 (fun H locs hP hS => ?_)
                refine lv_aload_n hx hb dX4_add_142 rfl (lv_at hl 0 rfl) ?_
                refine gw_get hx hb hts inX4 hown hK hP 0 (by decide) rf_c0 rfl 10 (by decide) (hts _ mG_225) (fun _ h9 => h9) (v := .ref (X.2.1 10)) rfl dX4_add_143 ?_
                refine lv_iload_n hx hb dX4_add_146 rfl (lv_at hl 1 rfl) ?_
                refine lv_iconst (v := 0) hx hb dX4_add_147 (by decide) ?_
                refine gw_iast hx hb hK hP hX hS 10 0 (by decide) rf_c10 rfl (i := id) (x := 0) hj.1 (cf' := rf_c X (up2 (up2 (up2 (up2 (up2 (up2 (up2 (up2 (up2 (rf_T d) 2 id.toNatClampNeg 1) 3 id.toNatClampNeg 0) 4 id.toNatClampNeg lk) 5 id.toNatClampNeg pa) 6 id.toNatClampNeg ti) 7 id.toNatClampNeg lo) 8 id.toNatClampNeg hi2) 9 id.toNatClampNeg ev) 10 id.toNatClampNeg 0) π) rfl rf_o dX4_add_148 (fun H locs hP hS => ?_)
                refine lv_iconst (v := 0) hx hb dX4_add_149 (by decide) ?_
                refine gw_iret (up2 (up2 (up2 (up2 (up2 (up2 (up2 (up2 (up2 (rf_T d) 2 id.toNatClampNeg 1) 3 id.toNatClampNeg 0) 4 id.toNatClampNeg lk) 5 id.toNatClampNeg pa) 6 id.toNatClampNeg ti) 7 id.toNatClampNeg lo) 8 id.toNatClampNeg hi2) 9 id.toNatClampNeg ev) 10 id.toNatClampNeg 0, π) hx hb hr hlocks (rf_hB hP) hS dX4_add_150 ?_
                exact Or.inr ⟨rf_good k_1 k_2 k_3 k_4 k_5, Or.inr ⟨th_1, Or.inr ⟨rfl, n_1, rfl⟩⟩⟩
              · have n_1 : rf_cnt (rf_T d 2) 256 = 16 := (nI_eq (b := 16) (by have := rf_cnt_le (rf_T d 2) 256; omega) (by omega)).mp c_12
                refine lv_bipush (v := 26) hx hb dX4_add_79 (by decide) ?_
                refine gw_iret (rf_T d, π) hx hb hr hlocks (rf_hB hP) hS dX4_add_81 ?_
                exact Or.inr ⟨rf_good k_1 k_2 k_3 k_4 k_5, Or.inr ⟨th_1, Or.inl ⟨rfl, rfl, n_1⟩⟩⟩
            · have th_1 := c_10
              refine lv_bipush (v := 25) hx hb dX4_add_67 (by decide) ?_
              refine gw_iret (rf_T d, π) hx hb hr hlocks (rf_hB hP) hS dX4_add_69 ?_
              exact Or.inr ⟨rf_good k_1 k_2 k_3 k_4 k_5, Or.inl ⟨rfl, rfl, th_1⟩⟩
          · have k_5 := wl_if c_9
            refine lv_bipush (v := 13) hx hb dX4_add_55 (by decide) ?_
            refine gw_iret (rf_T d, π) hx hb hr hlocks (rf_hB hP) hS dX4_add_57 ?_
            exact Or.inl ⟨rfl, rfl, rf_bad4 k_5⟩
set_option maxHeartbeats 4000000 in
set_option maxRecDepth 100000 in
theorem c_WatchListModel_remove (X : rf_X) (hX : gw_inj 18 X.2.1) (d : Nat → Nat → Int32) (π : Nat → Nat)  (id : Int32) (hb3 : ∀ j, j < 256 → rf_T d 3 j = 0 ∨ rf_T d 3 j = 1) : Met l yX4_remove wsX4_remove ({ frames := 1, cells := 0, slots := 0, locals := 21 }) (rf_pre X [.ref (X.2.1 0), .int id] d π) (va_Qi (fun r u => (rf_th (rf_T d) id = false ∧ r = 27 ∧ u = (rf_T d, π)) ∨ (rf_th (rf_T d) id = true ∧ ((¬ rf_T d 3 id.toNatClampNeg = 0 ∧ r = 15) ∨ (rf_T d 3 id.toNatClampNeg = 0 ∧ r = 0)) ∧ u = (up2 (rf_T d) 2 id.toNatClampNeg (rf_T d 3 id.toNatClampNeg), π))) (rf_b X) (gw_A 18 X.2.1)) 0 0 (gw_A 18 X.2.1) := by
  refine Met.ofW (cc := cX4_remove) (maxL := 2) (ret := (some .int)) (by decide) rfl ?_
  intro p e s m args below meth c s₁ B hml hv
  obtain ⟨rfl, hP, hK, hN⟩ := hv
  have hx := B.exec
  have hb := B.bytes
  have hr := B.returns
  have hts : ∀ w ∈ gG, w.before _ s = true := fun w h => atoms_spec (ws := wsX4_remove) B.pre w (List.mem_cons_of_mem _ h)
  have hown : s.vm.findClass RX4 = some m.cls := findClass_of_methodNamed B.named
  have hlocks := B.notSynchronized
  have hS : va_S (gw_A 18 X.2.1) s.heap s.heap [] := va_S.rf
  have hl := lv_entry ([.ref (X.2.1 0), .int id]) (n := 2) (Nat.le_of_ble_eq_true rfl)
  rw [lg_entry_eq]
  generalize (lg_sl ([.ref (X.2.1 0), .int id]) ++ List.replicate (2 - (lg_sl ([.ref (X.2.1 0), .int id])).length) Slot.unset).toArray = ls at hl ⊢
  have hl : lv_has ls 2 [(0, .ref (X.2.1 0)), (1, .int id)] := hl
  refine lv_aload_n hx hb dX4_remove_0 rfl (lv_at hl 0 rfl) ?_
  refine lv_iconst (v := 0) hx hb dX4_remove_1 (by decide) ?_
  refine gw_put hx hb hts inX4 tyX4 okX4 nmX4 hown hK hP hX hS 0 (by decide) rf_c0 rfl 0 (by decide) (hts _ mG_215) (fun _ h9 => h9) rfl (ty := .int) (v := .int 0) (by decide +kernel) rfl rfl (Nat.le_of_ble_eq_true rfl) (cf' := rf_c X (up2 d 0 0 0) π) rfl rf_o dX4_remove_2 (fun H locs hP hS => ?_)
  have hP : va_P X.1 vwCl (rf_ws X (rf_T d) π) H := hP
  refine lv_aload_n hx hb dX4_remove_5 rfl (lv_at hl 0 rfl) ?_
  refine lv_iload_n hx hb dX4_remove_6 rfl (lv_at hl 1 rfl) ?_
  refine gw_calli (va_runV (As := [.int id]) (rest := []) ⟨hx, hb, hml, hown, hts⟩ (c_WatchListModel_isThere X hX (rf_T d) π id ) ⟨callB_of 1 hts giX4_isThere rfl rfl rfl (hts _ mG_26) (hts _ mG_258) pdX4_isThere ⟨Nat.le_of_ble_eq_true rfl, Nat.le_of_ble_eq_true rfl⟩, hts _ mG_259, hts _ mG_19⟩ ⟨rf_blind, gw_recv hK hP 0 (by decide) rf_c0 rfl, rf_at hP hK hN⟩ rfl rfl hl.1 rfl (lv_room (Nat.le_of_ble_eq_true rfl)) dX4_remove_7 ⟨Nat.le_of_ble_eq_true rfl, Nat.le_of_ble_eq_true rfl⟩) hS (fun r_1 u_1 t_1 locs hw hP hS => ?_)
  obtain ⟨rfl, rfl⟩ := hw
  have hP : va_P X.1 vwCl (rf_ws X (rf_T d) π) t_1.heap := hP
  refine lv_if_ne (tgt := 16) hx hb dX4_remove_10 (by decide) (fun c_2 => ?_) (fun c_2 => ?_)
  · have th_1 := wl_it c_2
    have hj := rf_ok256c (rf_th_ok th_1).1
    refine lv_aload_n hx hb dX4_remove_16 rfl (lv_at hl 0 rfl) ?_
    refine gw_get hx hb hts inX4 hown hK hP 0 (by decide) rf_c0 rfl 2 (by decide) (hts _ mG_217) (fun _ h9 => h9) (v := .ref (X.2.1 2)) rfl dX4_remove_17 ?_
    refine lv_iload_n hx hb dX4_remove_20 rfl (lv_at hl 1 rfl) ?_
    refine lv_aload_n hx hb dX4_remove_21 rfl (lv_at hl 0 rfl) ?_
    refine gw_get hx hb hts inX4 hown hK hP 0 (by decide) rf_c0 rfl 3 (by decide) (hts _ mG_218) (fun _ h9 => h9) (v := .ref (X.2.1 3)) rfl dX4_remove_22 ?_
    refine lv_iload_n hx hb dX4_remove_25 rfl (lv_at hl 1 rfl) ?_
    refine gw_zald hx hb hK hP 3 1 (by decide) rf_c3 rfl (i := id) hj.1 dX4_remove_26 ?_
    refine gw_zast hx hb hK hP hX hS 2 1 (by decide) rf_c2 rfl (i := id) (x := (rf_T d) 3 id.toNatClampNeg) hj.1 (cf' := rf_c X (up2 (rf_T d) 2 id.toNatClampNeg ((rf_T d) 3 id.toNatClampNeg)) π) (by rw [gw_vz (hb3 _ hj.2)]; rfl) rf_o dX4_remove_27 (fun H locs hP hS => ?_)
    refine lv_aload_n hx hb dX4_remove_28 rfl (lv_at hl 0 rfl) ?_
    refine gw_get hx hb hts inX4 hown hK hP 0 (by decide) rf_c0 rfl 3 (by decide) (hts _ mG_218) (fun _ h9 => h9) (v := .ref (X.2.1 3)) rfl dX4_remove_29 ?_
    refine lv_iload_n hx hb dX4_remove_32 rfl (lv_at hl 1 rfl) ?_
    refine gw_zald hx hb hK hP 3 1 (by decide) rf_c3 rfl (i := id) hj.1 dX4_remove_33 ?_
    refine lv_if_eq (tgt := 42) hx hb dX4_remove_34 (by decide) (fun c_3 => ?_) (fun c_3 => ?_)
    · have on_1 : rf_T d 3 id.toNatClampNeg = 0 := c_3
      refine lv_iconst (v := 0) hx hb dX4_remove_42 (by decide) ?_
      refine gw_iret (up2 (rf_T d) 2 id.toNatClampNeg ((rf_T d) 3 id.toNatClampNeg), π) hx hb hr hlocks (rf_hB hP) hS dX4_remove_43 ?_
      exact Or.inr ⟨th_1, Or.inr ⟨on_1, rfl⟩, rfl⟩
    · have on_1 : ¬ rf_T d 3 id.toNatClampNeg = 0 := c_3
      refine lv_bipush (v := 15) hx hb dX4_remove_37 (by decide) ?_
      refine lv_goto (tgt := 43) hx hb dX4_remove_39 (by decide) ?_
      refine gw_iret (up2 (rf_T d) 2 id.toNatClampNeg ((rf_T d) 3 id.toNatClampNeg), π) hx hb hr hlocks (rf_hB hP) hS dX4_remove_43 ?_
      exact Or.inr ⟨th_1, Or.inl ⟨on_1, rfl⟩, rfl⟩
  · have th_1 := wl_if c_2
    refine lv_bipush (v := 27) hx hb dX4_remove_13 (by decide) ?_
    refine gw_iret (rf_T d, π) hx hb hr hlocks (rf_hB hP) hS dX4_remove_15 ?_
    exact Or.inl ⟨th_1, rfl, rfl⟩
set_option maxHeartbeats 4000000 in
set_option maxRecDepth 100000 in
theorem c_WatchListModel_enable (X : rf_X) (hX : gw_inj 18 X.2.1) (d : Nat → Nat → Int32) (π : Nat → Nat)  (id : Int32) (on : Int32) (hz : on = 0 ∨ on = 1) : Met l yX4_enable wsX4_enable ({ frames := 1, cells := 0, slots := 0, locals := 21 }) (rf_pre X [.ref (X.2.1 0), .int id, .int on] d π) (va_Qi (fun r u => (rf_th (rf_T d) id = false ∧ r = 27 ∧ u = (rf_T d, π)) ∨ (rf_th (rf_T d) id = true ∧ r = 0 ∧ u = (up2 (up2 (rf_T d) 3 id.toNatClampNeg on) 10 id.toNatClampNeg 0, π))) (rf_b X) (gw_A 18 X.2.1)) 0 0 (gw_A 18 X.2.1) := by
  refine Met.ofW (cc := cX4_enable) (maxL := 3) (ret := (some .int)) (by decide) rfl ?_
  intro p e s m args below meth c s₁ B hml hv
  obtain ⟨rfl, hP, hK, hN⟩ := hv
  have hx := B.exec
  have hb := B.bytes
  have hr := B.returns
  have hts : ∀ w ∈ gG, w.before _ s = true := fun w h => atoms_spec (ws := wsX4_enable) B.pre w (List.mem_cons_of_mem _ h)
  have hown : s.vm.findClass RX4 = some m.cls := findClass_of_methodNamed B.named
  have hlocks := B.notSynchronized
  have hS : va_S (gw_A 18 X.2.1) s.heap s.heap [] := va_S.rf
  have hl := lv_entry ([.ref (X.2.1 0), .int id, .int on]) (n := 3) (Nat.le_of_ble_eq_true rfl)
  rw [lg_entry_eq]
  generalize (lg_sl ([.ref (X.2.1 0), .int id, .int on]) ++ List.replicate (3 - (lg_sl ([.ref (X.2.1 0), .int id, .int on])).length) Slot.unset).toArray = ls at hl ⊢
  have hl : lv_has ls 3 [(0, .ref (X.2.1 0)), (1, .int id), (2, .int on)] := hl
  refine lv_aload_n hx hb dX4_enable_0 rfl (lv_at hl 0 rfl) ?_
  refine lv_iconst (v := 0) hx hb dX4_enable_1 (by decide) ?_
  refine gw_put hx hb hts inX4 tyX4 okX4 nmX4 hown hK hP hX hS 0 (by decide) rf_c0 rfl 0 (by decide) (hts _ mG_215) (fun _ h9 => h9) rfl (ty := .int) (v := .int 0) (by decide +kernel) rfl rfl (Nat.le_of_ble_eq_true rfl) (cf' := rf_c X (up2 d 0 0 0) π) rfl rf_o dX4_enable_2 (fun H locs hP hS => ?_)
  have hP : va_P X.1 vwCl (rf_ws X (rf_T d) π) H := hP
  refine lv_aload_n hx hb dX4_enable_5 rfl (lv_at hl 0 rfl) ?_
  refine lv_iload_n hx hb dX4_enable_6 rfl (lv_at hl 1 rfl) ?_
  refine gw_calli (va_runV (As := [.int id]) (rest := []) ⟨hx, hb, hml, hown, hts⟩ (c_WatchListModel_isThere X hX (rf_T d) π id ) ⟨callB_of 1 hts giX4_isThere rfl rfl rfl (hts _ mG_26) (hts _ mG_258) pdX4_isThere ⟨Nat.le_of_ble_eq_true rfl, Nat.le_of_ble_eq_true rfl⟩, hts _ mG_259, hts _ mG_19⟩ ⟨rf_blind, gw_recv hK hP 0 (by decide) rf_c0 rfl, rf_at hP hK hN⟩ rfl rfl hl.1 rfl (lv_room (Nat.le_of_ble_eq_true rfl)) dX4_enable_7 ⟨Nat.le_of_ble_eq_true rfl, Nat.le_of_ble_eq_true rfl⟩) hS (fun r_1 u_1 t_1 locs hw hP hS => ?_)
  obtain ⟨rfl, rfl⟩ := hw
  have hP : va_P X.1 vwCl (rf_ws X (rf_T d) π) t_1.heap := hP
  refine lv_if_ne (tgt := 16) hx hb dX4_enable_10 (by decide) (fun c_2 => ?_) (fun c_2 => ?_)
  · have th_1 := wl_it c_2
    have hj := rf_ok256c (rf_th_ok th_1).1
    refine lv_aload_n hx hb dX4_enable_16 rfl (lv_at hl 0 rfl) ?_
    refine gw_get hx hb hts inX4 hown hK hP 0 (by decide) rf_c0 rfl 3 (by decide) (hts _ mG_218) (fun _ h9 => h9) (v := .ref (X.2.1 3)) rfl dX4_enable_17 ?_
    refine lv_iload_n hx hb dX4_enable_20 rfl (lv_at hl 1 rfl) ?_
    refine lv_iload_n hx hb dX4_enable_21 rfl (lv_at hl 2 rfl) ?_
    refine gw_zast hx hb hK hP hX hS 3 1 (by decide) rf_c3 rfl (i := id) (x := on) hj.1 (cf' := rf_c X (up2 (rf_T d) 3 id.toNatClampNeg on) π) (by rw [gw_vz hz]; rfl) rf_o dX4_enable_22 (fun H locs hP hS => ?_)
    refine lv_aload_n hx hb dX4_enable_23 rfl (lv_at hl 0 rfl) ?_
    refine gw_get hx hb hts inX4 hown hK hP 0 (by decide) rf_c0 rfl 10 (by decide) (hts _ mG_225) (fun _ h9 => h9) (v := .ref (X.2.1 10)) rfl dX4_enable_24 ?_
    refine lv_iload_n hx hb dX4_enable_27 rfl (lv_at hl 1 rfl) ?_
    refine lv_iconst (v := 0) hx hb dX4_enable_28 (by decide) ?_
    refine gw_iast hx hb hK hP hX hS 10 0 (by decide) rf_c10 rfl (i := id) (x := 0) hj.1 (cf' := rf_c X (up2 (up2 (rf_T d) 3 id.toNatClampNeg on) 10 id.toNatClampNeg 0) π) rfl rf_o dX4_enable_29 (fun H locs hP hS => ?_)
    refine lv_iconst (v := 0) hx hb dX4_enable_30 (by decide) ?_
    refine gw_iret (up2 (up2 (rf_T d) 3 id.toNatClampNeg on) 10 id.toNatClampNeg 0, π) hx hb hr hlocks (rf_hB hP) hS dX4_enable_31 ?_
    exact Or.inr ⟨th_1, rfl, rfl⟩
  · have th_1 := wl_if c_2
    refine lv_bipush (v := 27) hx hb dX4_enable_13 (by decide) ?_
    refine gw_iret (rf_T d, π) hx hb hr hlocks (rf_hB hP) hS dX4_enable_15 ?_
    exact Or.inl ⟨th_1, rfl, rfl⟩
set_option maxHeartbeats 4000000 in
set_option maxRecDepth 100000 in
theorem c_WatchListModel_linked (X : rf_X) (hX : gw_inj 18 X.2.1) (d : Nat → Nat → Int32) (π : Nat → Nat)   (hz : rf_T d 0 12 = 0 ∨ rf_T d 0 12 = 1) : Met l yX4_linked wsX4_linked ({ frames := 0, cells := 0, slots := 0, locals := 0 }) (rf_pre X [.ref (X.2.1 0)] d π) (va_Qi (fun r u => r = rf_T d 0 12 ∧ u = (rf_T d, π)) (rf_b X) (gw_A 18 X.2.1)) 0 0 (gw_A 18 X.2.1) := by
  refine Met.ofW (cc := cX4_linked) (maxL := 1) (ret := (some .boolean)) (by decide) rfl ?_
  intro p e s m args below meth c s₁ B hml hv
  obtain ⟨rfl, hP, hK, hN⟩ := hv
  have hx := B.exec
  have hb := B.bytes
  have hr := B.returns
  have hts : ∀ w ∈ gG, w.before _ s = true := fun w h => atoms_spec (ws := wsX4_linked) B.pre w (List.mem_cons_of_mem _ h)
  have hown : s.vm.findClass RX4 = some m.cls := findClass_of_methodNamed B.named
  have hlocks := B.notSynchronized
  have hS : va_S (gw_A 18 X.2.1) s.heap s.heap [] := va_S.rf
  have hl := lv_entry ([.ref (X.2.1 0)]) (n := 1) (Nat.le_of_ble_eq_true rfl)
  rw [lg_entry_eq]
  generalize (lg_sl ([.ref (X.2.1 0)]) ++ List.replicate (1 - (lg_sl ([.ref (X.2.1 0)])).length) Slot.unset).toArray = ls at hl ⊢
  have hl : lv_has ls 1 [(0, .ref (X.2.1 0))] := hl
  refine lv_aload_n hx hb dX4_linked_0 rfl (lv_at hl 0 rfl) ?_
  refine lv_iconst (v := 0) hx hb dX4_linked_1 (by decide) ?_
  refine gw_put hx hb hts inX4 tyX4 okX4 nmX4 hown hK hP hX hS 0 (by decide) rf_c0 rfl 0 (by decide) (hts _ mG_215) (fun _ h9 => h9) rfl (ty := .int) (v := .int 0) (by decide +kernel) rfl rfl (Nat.le_of_ble_eq_true rfl) (cf' := rf_c X (up2 d 0 0 0) π) rfl rf_o dX4_linked_2 (fun H locs hP hS => ?_)
  have hP : va_P X.1 vwCl (rf_ws X (rf_T d) π) H := hP
  refine lv_aload_n hx hb dX4_linked_5 rfl (lv_at hl 0 rfl) ?_
  refine gw_get hx hb hts inX4 hown hK hP 0 (by decide) rf_c0 rfl 12 (by decide) (hts _ mG_227) (fun _ h9 => h9) (v := .int ((rf_T d) 0 12)) rfl dX4_linked_6 ?_
  refine gw_zret (rf_T d, π) hx hb hr hlocks hz (rf_hB hP) hS dX4_linked_9 ?_
  exact ⟨rfl, rfl⟩
set_option maxHeartbeats 4000000 in
set_option maxRecDepth 100000 in
theorem c_WatchListModel_raise (X : rf_X) (hX : gw_inj 18 X.2.1) (d : Nat → Nat → Int32) (π : Nat → Nat)  (ev : Int32) (nu : Int32) (q : Nat) (hq : rf_T d 0 13 = nI q) (hq6 : q ≤ 64) : Met l yX4_raise wsX4_raise ({ frames := 2, cells := 0, slots := 0, locals := 42 }) (rf_pre X [.ref (X.2.1 0), .int ev, .int nu] d π) (va_Qi (fun r u => (wl_ok ev 32 = true → r = wl_i (decide (q < 64)) ∧ u = (rf_wt (rf_T d) q ev nu, π)) ∧ (wl_ok ev 32 = false → r = 0 ∧ u = (rf_T d, π))) (rf_b X) (gw_A 18 X.2.1)) 0 0 (gw_A 18 X.2.1) := by
  refine Met.ofW (cc := cX4_raise) (maxL := 3) (ret := (some .boolean)) (by decide) rfl ?_
  intro p e s m args below meth c s₁ B hml hv
  obtain ⟨rfl, hP, hK, hN⟩ := hv
  have hx := B.exec
  have hb := B.bytes
  have hr := B.returns
  have hts : ∀ w ∈ gG, w.before _ s = true := fun w h => atoms_spec (ws := wsX4_raise) B.pre w (List.mem_cons_of_mem _ h)
  have hown : s.vm.findClass RX4 = some m.cls := findClass_of_methodNamed B.named
  have hlocks := B.notSynchronized
  have hS : va_S (gw_A 18 X.2.1) s.heap s.heap [] := va_S.rf
  have hl := lv_entry ([.ref (X.2.1 0), .int ev, .int nu]) (n := 3) (Nat.le_of_ble_eq_true rfl)
  rw [lg_entry_eq]
  generalize (lg_sl ([.ref (X.2.1 0), .int ev, .int nu]) ++ List.replicate (3 - (lg_sl ([.ref (X.2.1 0), .int ev, .int nu])).length) Slot.unset).toArray = ls at hl ⊢
  have hl : lv_has ls 3 [(0, .ref (X.2.1 0)), (1, .int ev), (2, .int nu)] := hl
  refine lv_aload_n hx hb dX4_raise_0 rfl (lv_at hl 0 rfl) ?_
  refine lv_iconst (v := 0) hx hb dX4_raise_1 (by decide) ?_
  refine gw_put hx hb hts inX4 tyX4 okX4 nmX4 hown hK hP hX hS 0 (by decide) rf_c0 rfl 0 (by decide) (hts _ mG_215) (fun _ h9 => h9) rfl (ty := .int) (v := .int 0) (by decide +kernel) rfl rfl (Nat.le_of_ble_eq_true rfl) (cf' := rf_c X (up2 d 0 0 0) π) rfl rf_o dX4_raise_2 (fun H locs hP hS => ?_)
  have hP : va_P X.1 vwCl (rf_ws X (rf_T d) π) H := hP
  refine lv_iload_n hx hb dX4_raise_5 rfl (lv_at hl 1 rfl) ?_
  refine gw_calli (va_runS (As := [.int ev]) (rest := []) ⟨hx, hb, hml, hown, hts⟩ (c_WatchListModel_isEvent X hX (rf_T d) π ev ) ⟨callB_of 1 hts giX4_isEvent rfl rfl rfl (hts _ mG_26) (hts _ mG_280) pdX4_isEvent ⟨Nat.le_of_ble_eq_true rfl, Nat.le_of_ble_eq_true rfl⟩, hts _ mG_281⟩ ⟨rf_blind, rf_at hP hK hN⟩ rfl rfl hl.1 rfl (lv_room (Nat.le_of_ble_eq_true rfl)) dX4_raise_6 ⟨Nat.le_of_ble_eq_true rfl, Nat.le_of_ble_eq_true rfl⟩) hS (fun r_1 u_1 t_1 locs hw hP hS => ?_)
  obtain ⟨rfl, rfl⟩ := hw
  have hP : va_P X.1 vwCl (rf_ws X (rf_T d) π) t_1.heap := hP
  refine lv_if_eq (tgt := 25) hx hb dX4_raise_9 (by decide) (fun c_2 => ?_) (fun c_2 => ?_)
  · have ok_1 := wl_if c_2
    refine lv_iconst (v := 0) hx hb dX4_raise_25 (by decide) ?_
    refine gw_zret (rf_T d, π) hx hb hr hlocks (by decide) (rf_hB hP) hS dX4_raise_26 ?_
    exact ⟨fun z => absurd (ok_1.symm.trans z) (by decide), fun _ => ⟨rfl, rfl⟩⟩
  · have ok_1 := wl_it c_2
    have hj := wl_ok32c ok_1
    refine lv_aload_n hx hb dX4_raise_12 rfl (lv_at hl 0 rfl) ?_
    refine lv_iload_n hx hb dX4_raise_13 rfl (lv_at hl 1 rfl) ?_
    refine lv_iload_n hx hb dX4_raise_14 rfl (lv_at hl 2 rfl) ?_
    refine gw_calli (va_runV (As := [.int ev, .int nu]) (rest := []) ⟨hx, hb, hml, hown, hts⟩ (c_WatchListModel_waits X hX (rf_T d) π ev nu q hq hq6) ⟨callB_of 2 hts giX4_waits rfl rfl rfl (hts _ mG_26) (hts _ mG_269) pdX4_waits ⟨Nat.le_of_ble_eq_true rfl, Nat.le_of_ble_eq_true rfl⟩, hts _ mG_270, hts _ mG_20⟩ ⟨rf_blind, gw_recv hK hP 0 (by decide) rf_c0 rfl, rf_at hP hK hN⟩ rfl rfl hl.1 rfl (lv_room (Nat.le_of_ble_eq_true rfl)) dX4_raise_15 ⟨Nat.le_of_ble_eq_true rfl, Nat.le_of_ble_eq_true rfl⟩) hS (fun r_3 u_3 t_3 locs hw hP hS => ?_)
    obtain ⟨rfl, rfl⟩ := hw
    have hP : va_P X.1 vwCl (rf_ws X (rf_wt (rf_T d) q ev nu) π) t_3.heap := hP
    refine lv_if_eq (tgt := 25) hx hb dX4_raise_18 (by decide) (fun c_4 => ?_) (fun c_4 => ?_)
    · have w_1 := c_4
      refine lv_iconst (v := 0) hx hb dX4_raise_25 (by decide) ?_
      refine gw_zret (rf_wt (rf_T d) q ev nu, π) hx hb hr hlocks (by decide) (rf_hB hP) hS dX4_raise_26 ?_
      exact ⟨fun _ => ⟨w_1.symm, rfl⟩, fun z => absurd (ok_1.symm.trans z) (by decide)⟩
    · have w_1 := c_4
      refine lv_iconst (v := 1) hx hb dX4_raise_21 (by decide) ?_
      refine lv_goto (tgt := 26) hx hb dX4_raise_22 (by decide) ?_
      refine gw_zret (rf_wt (rf_T d) q ev nu, π) hx hb hr hlocks (by decide) (rf_hB hP) hS dX4_raise_26 ?_
      exact ⟨fun _ => ⟨by rw [wl_it w_1]; rfl, rfl⟩, fun z => absurd (ok_1.symm.trans z) (by decide)⟩
set_option maxHeartbeats 4000000 in
set_option maxRecDepth 100000 in
theorem c_WatchListModel_work (X : rf_X) (hX : gw_inj 18 X.2.1) (d : Nat → Nat → Int32) (π : Nat → Nat)   (q : Nat) (hq : rf_T d 0 13 = nI q) (hq6 : q ≤ 64) : Met l yX4_work wsX4_work ({ frames := 0, cells := 0, slots := 0, locals := 0 }) (rf_pre X [.ref (X.2.1 0)] d π) (va_Qi (fun r u => (q = 0 ∧ r = -1 ∧ u = (rf_T d, π)) ∨ (0 < q ∧ r = rf_T d 11 0 ∧ u = (rf_sh (up2 (up2 (rf_T d) 0 17 (rf_T d 12 0)) 0 13 (nI (q - 1))) (q - 1), π))) (rf_b X) (gw_A 18 X.2.1)) 0 0 (gw_A 18 X.2.1) := by
  refine Met.ofW (cc := cX4_work) (maxL := 3) (ret := (some .int)) (by decide) rfl ?_
  intro p e s m args below meth c s₁ B hml hv
  obtain ⟨rfl, hP, hK, hN⟩ := hv
  have hx := B.exec
  have hb := B.bytes
  have hr := B.returns
  have hts : ∀ w ∈ gG, w.before _ s = true := fun w h => atoms_spec (ws := wsX4_work) B.pre w (List.mem_cons_of_mem _ h)
  have hown : s.vm.findClass RX4 = some m.cls := findClass_of_methodNamed B.named
  have hlocks := B.notSynchronized
  have hS : va_S (gw_A 18 X.2.1) s.heap s.heap [] := va_S.rf
  have hl := lv_entry ([.ref (X.2.1 0)]) (n := 3) (Nat.le_of_ble_eq_true rfl)
  rw [lg_entry_eq]
  generalize (lg_sl ([.ref (X.2.1 0)]) ++ List.replicate (3 - (lg_sl ([.ref (X.2.1 0)])).length) Slot.unset).toArray = ls at hl ⊢
  have hl : lv_has ls 3 [(0, .ref (X.2.1 0))] := hl
  refine lv_aload_n hx hb dX4_work_0 rfl (lv_at hl 0 rfl) ?_
  refine lv_iconst (v := 0) hx hb dX4_work_1 (by decide) ?_
  refine gw_put hx hb hts inX4 tyX4 okX4 nmX4 hown hK hP hX hS 0 (by decide) rf_c0 rfl 0 (by decide) (hts _ mG_215) (fun _ h9 => h9) rfl (ty := .int) (v := .int 0) (by decide +kernel) rfl rfl (Nat.le_of_ble_eq_true rfl) (cf' := rf_c X (up2 d 0 0 0) π) rfl rf_o dX4_work_2 (fun H locs hP hS => ?_)
  have hP : va_P X.1 vwCl (rf_ws X (rf_T d) π) H := hP
  refine lv_aload_n hx hb dX4_work_5 rfl (lv_at hl 0 rfl) ?_
  refine gw_get hx hb hts inX4 hown hK hP 0 (by decide) rf_c0 rfl 13 (by decide) (hts _ mG_228) (fun _ h9 => h9) (v := .int ((rf_T d) 0 13)) rfl dX4_work_6 ?_
  refine lv_if_ne (tgt := 14) hx hb dX4_work_9 (by decide) (fun c_1 => ?_) (fun c_1 => ?_)
  · have qz := c_1
    refine lv_aload_n hx hb dX4_work_14 rfl (lv_at hl 0 rfl) ?_
    refine gw_get hx hb hts inX4 hown hK hP 0 (by decide) rf_c0 rfl 14 (by decide) (hts _ mG_229) (fun _ h9 => h9) (v := .ref (X.2.1 11)) rfl dX4_work_15 ?_
    refine lv_iconst (v := 0) hx hb dX4_work_18 (by decide) ?_
    refine gw_iald hx hb hK hP 11 0 (by decide) rf_c11 rfl (i := 0) rf_v0 dX4_work_19 ?_
    refine W.eq (g2 := F0 m 20 ls (.int (rf_T d 11 0) :: [])) (by rw [sb_cl0]) ?_
    refine lv_istore_n (lv' := [(1, .int (rf_T d 11 0)), (0, .ref (X.2.1 0))]) hx hb dX4_work_20 rfl hl (by decide) rfl (fun ls hl => ?_)
    refine lv_aload_n hx hb dX4_work_21 rfl (lv_at hl 1 rfl) ?_
    refine lv_aload_n hx hb dX4_work_22 rfl (lv_at hl 1 rfl) ?_
    refine gw_get hx hb hts inX4 hown hK hP 0 (by decide) rf_c0 rfl 15 (by decide) (hts _ mG_230) (fun _ h9 => h9) (v := .ref (X.2.1 12)) rfl dX4_work_23 ?_
    refine lv_iconst (v := 0) hx hb dX4_work_26 (by decide) ?_
    refine gw_iald hx hb hK hP 12 0 (by decide) rf_c12 rfl (i := 0) rf_v0 dX4_work_27 ?_
    refine W.eq (g2 := F0 m 28 ls (.int (rf_T d 12 0) :: .ref (X.2.1 0) :: [])) (by rw [sb_cl0]) ?_
    refine gw_put hx hb hts inX4 tyX4 okX4 nmX4 hown hK hP hX hS 0 (by decide) rf_c0 rfl 17 (by decide) (hts _ mG_232) (fun _ h9 => h9) rfl (ty := .int) (v := .int (rf_T d 12 0)) (by decide +kernel) rfl rfl (Nat.le_of_ble_eq_true rfl) (cf' := rf_c X (up2 (rf_T d) 0 17 (rf_T d 12 0)) π) rfl rf_o dX4_work_28 (fun H locs hP hS => ?_)
    refine lv_aload_n hx hb dX4_work_31 rfl (lv_at hl 1 rfl) ?_
    refine lv_dup hx hb dX4_work_32 rfl ?_
    refine gw_get hx hb hts inX4 hown hK hP 0 (by decide) rf_c0 rfl 13 (by decide) (hts _ mG_228) (fun _ h9 => h9) (v := .int (rf_T d 0 13)) rfl dX4_work_33 ?_
    refine lv_iconst (v := 1) hx hb dX4_work_36 (by decide) ?_
    refine lv_isub hx hb dX4_work_37 ?_
    refine gw_put hx hb hts inX4 tyX4 okX4 nmX4 hown hK hP hX hS 0 (by decide) rf_c0 rfl 13 (by decide) (hts _ mG_228) (fun _ h9 => h9) rfl (ty := .int) (v := .int ((rf_T d 0 13) - 1)) (by decide +kernel) rfl rfl (Nat.le_of_ble_eq_true rfl) (cf' := rf_c X (up2 (up2 (rf_T d) 0 17 (rf_T d 12 0)) 0 13 ((rf_T d 0 13) - 1)) π) rfl rf_o dX4_work_38 (fun H locs hP hS => ?_)
    replace hP : va_P X.1 vwCl (rf_ws X (up2 (up2 (rf_T d) 0 17 (rf_T d 12 0)) 0 13 (nI (q - 1))) π) H := by rw [← wl_pm1 (wl_q0 hq qz hq6), ← hq]; exact hP
    refine lv_iconst (v := 0) hx hb dX4_work_41 (by decide) ?_
    refine lv_istore_n (lv' := [(2, .int 0), (1, .int (rf_T d 11 0)), (0, .ref (X.2.1 0))]) hx hb dX4_work_42 rfl hl (by decide) rfl (fun ls hl => ?_)
    obtain ⟨D0, hD0⟩ : ∃ z, z = up2 (up2 (rf_T d) 0 17 (rf_T d 12 0)) 0 13 (nI (q - 1)) := ⟨_, rfl⟩
    have h13 : D0 0 13 = nI (q - 1) := by rw [hD0, up2_s]
    obtain ⟨k, hk⟩ : ∃ i : Nat, i = 0 := ⟨0, rfl⟩
    replace hP : va_P X.1 vwCl (rf_ws X (rf_sh D0 k) π) H := by rw [hk, rf_sh_0, hD0]; exact hP
    have hk1 : k ≤ q - 1 := by omega
    replace hl : lv_has ls 3 [(2, .int (nI k)), (1, .int (rf_T d 11 0)), (0, .ref (X.2.1 0))] := by rw [hk, nI_0]; exact hl
    obtain ⟨g, hg⟩ : ∃ g : Nat, q < k + g := ⟨q + 1, by omega⟩
    clear hk
    induction g generalizing k ls H locs with
    | zero => exact absurd hg (by omega)
    | succ g ih =>
      refine lv_iload_n hx hb dX4_work_43 rfl (lv_at hl 0 rfl) ?_
      refine lv_aload_n hx hb dX4_work_44 rfl (lv_at hl 2 rfl) ?_
      refine gw_get hx hb hts inX4 hown hK hP 0 (by decide) rf_c0 rfl 13 (by decide) (hts _ mG_228) (fun _ h9 => h9) (v := .int ((rf_sh D0 k) 0 13)) rfl dX4_work_45 ?_
      refine lv_icmp_ge (tgt := 85) hx hb dX4_work_48 (by decide) (fun c_2 => ?_) (fun c_2 => ?_)
      · have hex : q - 1 ≤ k := (nI_leI (by omega) (by omega)).mp (by rw [← h13]; exact c_2)
        refine lv_iload_n hx hb dX4_work_85 rfl (lv_at hl 1 rfl) ?_
        refine gw_iret (rf_sh D0 k, π) hx hb hr hlocks (rf_hB hP) hS dX4_work_86 ?_
        refine Or.inr ⟨wl_q0 hq qz hq6, rfl, ?_⟩
        rw [show q - 1 = k by omega] at hD0 ⊢
        rw [hD0]
      · have hlt : k < q - 1 := Nat.lt_of_not_le (fun z => c_2 (by show D0 0 13 ≤ _; rw [h13]; exact nI_le z (by omega)))
        refine lv_aload_n hx hb dX4_work_51 rfl (lv_at hl 2 rfl) ?_
        refine gw_get hx hb hts inX4 hown hK hP 0 (by decide) rf_c0 rfl 14 (by decide) (hts _ mG_229) (fun _ h9 => h9) (v := .ref (X.2.1 11)) rfl dX4_work_52 ?_
        refine lv_iload_n hx hb dX4_work_55 rfl (lv_at hl 0 rfl) ?_
        refine lv_aload_n hx hb dX4_work_56 rfl (lv_at hl 2 rfl) ?_
        refine gw_get hx hb hts inX4 hown hK hP 0 (by decide) rf_c0 rfl 14 (by decide) (hts _ mG_229) (fun _ h9 => h9) (v := .ref (X.2.1 11)) rfl dX4_work_57 ?_
        refine lv_iload_n hx hb dX4_work_60 rfl (lv_at hl 0 rfl) ?_
        refine lv_iconst (v := 1) hx hb dX4_work_61 (by decide) ?_
        refine lv_iadd hx hb dX4_work_62 ?_
        refine W.eq (g2 := F0 m 63 ls (.int (nI (k + 1)) :: .ref (X.2.1 11) :: .int (nI k) :: .ref (X.2.1 11) :: [])) (by rw [nI_1]) ?_
        refine gw_iald hx hb hK hP 11 0 (by decide) rf_c11 rfl (i := nI (k + 1)) (vp_in_nI (by omega) (by omega)) dX4_work_63 ?_
        refine W.eq (g2 := F0 m 64 ls (.int (D0 11 (k + 1)) :: .int (nI k) :: .ref (X.2.1 11) :: [])) (by rw [nI_clamp (show k + 1 < 2 ^ 31 by omega), rf_sh_11, rf_sf_hi (by omega)]) ?_
        refine gw_iast hx hb hK hP hX hS 11 0 (by decide) rf_c11 rfl (i := nI k) (x := D0 11 (k + 1)) (vp_in_nI (by omega) (by omega)) (cf' := rf_c X (up2 (rf_sh D0 k) 11 (nI k).toNatClampNeg (D0 11 (k + 1))) π) rfl rf_o dX4_work_64 (fun H locs hP hS => ?_)
        rw [nI_clamp (show k < 2 ^ 31 by omega)] at hP
        refine lv_aload_n hx hb dX4_work_65 rfl (lv_at hl 2 rfl) ?_
        refine gw_get hx hb hts inX4 hown hK hP 0 (by decide) rf_c0 rfl 15 (by decide) (hts _ mG_230) (fun _ h9 => h9) (v := .ref (X.2.1 12)) rfl dX4_work_66 ?_
        refine lv_iload_n hx hb dX4_work_69 rfl (lv_at hl 0 rfl) ?_
        refine lv_aload_n hx hb dX4_work_70 rfl (lv_at hl 2 rfl) ?_
        refine gw_get hx hb hts inX4 hown hK hP 0 (by decide) rf_c0 rfl 15 (by decide) (hts _ mG_230) (fun _ h9 => h9) (v := .ref (X.2.1 12)) rfl dX4_work_71 ?_
        refine lv_iload_n hx hb dX4_work_74 rfl (lv_at hl 0 rfl) ?_
        refine lv_iconst (v := 1) hx hb dX4_work_75 (by decide) ?_
        refine lv_iadd hx hb dX4_work_76 ?_
        refine W.eq (g2 := F0 m 77 ls (.int (nI (k + 1)) :: .ref (X.2.1 12) :: .int (nI k) :: .ref (X.2.1 12) :: [])) (by rw [nI_1]) ?_
        refine gw_iald hx hb hK hP 12 0 (by decide) rf_c12 rfl (i := nI (k + 1)) (vp_in_nI (by omega) (by omega)) dX4_work_77 ?_
        refine W.eq (g2 := F0 m 78 ls (.int (D0 12 (k + 1)) :: .int (nI k) :: .ref (X.2.1 12) :: [])) (by rw [nI_clamp (show k + 1 < 2 ^ 31 by omega), up2_ne (by decide), rf_sh_12, rf_sf_hi (by omega)]) ?_
        refine gw_iast hx hb hK hP hX hS 12 0 (by decide) rf_c12 rfl (i := nI k) (x := D0 12 (k + 1)) (vp_in_nI (by omega) (by omega)) (cf' := rf_c X (up2 (up2 (rf_sh D0 k) 11 k (D0 11 (k + 1))) 12 (nI k).toNatClampNeg (D0 12 (k + 1))) π) rfl rf_o dX4_work_78 (fun H locs hP hS => ?_)
        rw [nI_clamp (show k < 2 ^ 31 by omega)] at hP
        refine lv_iinc (v := nI (k + 1)) (lv' := [(2, .int (nI (k + 1))), (1, .int (rf_T d 11 0)), (0, .ref (X.2.1 0))]) hx hb dX4_work_79 hl (k := 0) rfl (nI_1 k) (by decide) rfl (fun ls hl => ?_)
        refine lv_goto (tgt := 43) hx hb dX4_work_82 (by decide) ?_
        exact ih (k := k + 1) (ls := ls) (H := _) (locs := locs) (hS := hS) (hP := by rw [← rf_sh_step]; exact hP) (hk1 := by omega) (hl := lv_sub hl [0, 1, 2] rfl) (hg := by omega)
  · have qz := c_1
    refine lv_iconst (v := (-1)) hx hb dX4_work_12 (by decide) ?_
    refine gw_iret (rf_T d, π) hx hb hr hlocks (rf_hB hP) hS dX4_work_13 ?_
    exact Or.inl ⟨wl_q1 hq qz hq6, rfl, rfl⟩
set_option maxHeartbeats 4000000 in
set_option maxRecDepth 100000 in
theorem c_WatchListModel_lose (X : rf_X) (hX : gw_inj 18 X.2.1) (d : Nat → Nat → Int32) (π : Nat → Nat)    : Met l yX4_lose wsX4_lose ({ frames := 0, cells := 0, slots := 0, locals := 0 }) (rf_pre X [.ref (X.2.1 0)] d π) (va_Qi (fun r u => r = rf_T d 0 13 ∧ u = (up2 (up2 (rf_T d) 0 13 0) 0 16 (rf_T d 0 16 + rf_T d 0 13), π)) (rf_b X) (gw_A 18 X.2.1)) 0 0 (gw_A 18 X.2.1) := by
  refine Met.ofW (cc := cX4_lose) (maxL := 2) (ret := (some .int)) (by decide) rfl ?_
  intro p e s m args below meth c s₁ B hml hv
  obtain ⟨rfl, hP, hK, hN⟩ := hv
  have hx := B.exec
  have hb := B.bytes
  have hr := B.returns
  have hts : ∀ w ∈ gG, w.before _ s = true := fun w h => atoms_spec (ws := wsX4_lose) B.pre w (List.mem_cons_of_mem _ h)
  have hown : s.vm.findClass RX4 = some m.cls := findClass_of_methodNamed B.named
  have hlocks := B.notSynchronized
  have hS : va_S (gw_A 18 X.2.1) s.heap s.heap [] := va_S.rf
  have hl := lv_entry ([.ref (X.2.1 0)]) (n := 2) (Nat.le_of_ble_eq_true rfl)
  rw [lg_entry_eq]
  generalize (lg_sl ([.ref (X.2.1 0)]) ++ List.replicate (2 - (lg_sl ([.ref (X.2.1 0)])).length) Slot.unset).toArray = ls at hl ⊢
  have hl : lv_has ls 2 [(0, .ref (X.2.1 0))] := hl
  refine lv_aload_n hx hb dX4_lose_0 rfl (lv_at hl 0 rfl) ?_
  refine lv_iconst (v := 0) hx hb dX4_lose_1 (by decide) ?_
  refine gw_put hx hb hts inX4 tyX4 okX4 nmX4 hown hK hP hX hS 0 (by decide) rf_c0 rfl 0 (by decide) (hts _ mG_215) (fun _ h9 => h9) rfl (ty := .int) (v := .int 0) (by decide +kernel) rfl rfl (Nat.le_of_ble_eq_true rfl) (cf' := rf_c X (up2 d 0 0 0) π) rfl rf_o dX4_lose_2 (fun H locs hP hS => ?_)
  have hP : va_P X.1 vwCl (rf_ws X (rf_T d) π) H := hP
  refine lv_aload_n hx hb dX4_lose_5 rfl (lv_at hl 0 rfl) ?_
  refine gw_get hx hb hts inX4 hown hK hP 0 (by decide) rf_c0 rfl 13 (by decide) (hts _ mG_228) (fun _ h9 => h9) (v := .int ((rf_T d) 0 13)) rfl dX4_lose_6 ?_
  refine lv_istore_n (lv' := [(1, .int ((rf_T d) 0 13)), (0, .ref (X.2.1 0))]) hx hb dX4_lose_9 rfl hl (by decide) rfl (fun ls hl => ?_)
  refine lv_aload_n hx hb dX4_lose_10 rfl (lv_at hl 1 rfl) ?_
  refine lv_iconst (v := 0) hx hb dX4_lose_11 (by decide) ?_
  refine gw_put hx hb hts inX4 tyX4 okX4 nmX4 hown hK hP hX hS 0 (by decide) rf_c0 rfl 13 (by decide) (hts _ mG_228) (fun _ h9 => h9) rfl (ty := .int) (v := .int 0) (by decide +kernel) rfl rfl (Nat.le_of_ble_eq_true rfl) (cf' := rf_c X (up2 (rf_T d) 0 13 0) π) rfl rf_o dX4_lose_12 (fun H locs hP hS => ?_)
  refine lv_aload_n hx hb dX4_lose_15 rfl (lv_at hl 1 rfl) ?_
  refine lv_dup hx hb dX4_lose_16 rfl ?_
  refine gw_get hx hb hts inX4 hown hK hP 0 (by decide) rf_c0 rfl 16 (by decide) (hts _ mG_231) (fun _ h9 => h9) (v := .int ((up2 (rf_T d) 0 13 0) 0 16)) rfl dX4_lose_17 ?_
  refine lv_iload_n hx hb dX4_lose_20 rfl (lv_at hl 0 rfl) ?_
  refine lv_iadd hx hb dX4_lose_21 ?_
  refine gw_put hx hb hts inX4 tyX4 okX4 nmX4 hown hK hP hX hS 0 (by decide) rf_c0 rfl 16 (by decide) (hts _ mG_231) (fun _ h9 => h9) rfl (ty := .int) (v := .int (((up2 (rf_T d) 0 13 0) 0 16) + ((rf_T d) 0 13))) (by decide +kernel) rfl rfl (Nat.le_of_ble_eq_true rfl) (cf' := rf_c X (up2 (up2 (rf_T d) 0 13 0) 0 16 (((up2 (rf_T d) 0 13 0) 0 16) + ((rf_T d) 0 13))) π) rfl rf_o dX4_lose_22 (fun H locs hP hS => ?_)
  refine lv_iload_n hx hb dX4_lose_25 rfl (lv_at hl 0 rfl) ?_
  refine gw_iret (up2 (up2 (rf_T d) 0 13 0) 0 16 (((up2 (rf_T d) 0 13 0) 0 16) + ((rf_T d) 0 13)), π) hx hb hr hlocks (rf_hB hP) hS dX4_lose_26 ?_
  exact ⟨rfl, rfl⟩
set_option maxHeartbeats 4000000 in
set_option maxRecDepth 100000 in
theorem c_WatchListModel_tell (X : rf_X) (hX : gw_inj 18 X.2.1) (d : Nat → Nat → Int32) (π : Nat → Nat)  (ev : Int32) (on : Int32)  : Met l yX4_tell wsX4_tell ({ frames := 2, cells := 0, slots := 0, locals := 42 }) (rf_pre X [.ref (X.2.1 0), .int ev, .int on] d π) (va_Qi (fun r u => (wl_ok ev 32 = true → r = 0 ∧ u = (up2 (rf_T d) 13 ev.toNatClampNeg (if on = 0 then 1 else 0), π)) ∧ (wl_ok ev 32 = false → r = 16 ∧ u = (rf_T d, π))) (rf_b X) (gw_A 18 X.2.1)) 0 0 (gw_A 18 X.2.1) := by
  refine Met.ofW (cc := cX4_tell) (maxL := 3) (ret := (some .int)) (by decide) rfl ?_
  intro p e s m args below meth c s₁ B hml hv
  obtain ⟨rfl, hP, hK, hN⟩ := hv
  have hx := B.exec
  have hb := B.bytes
  have hr := B.returns
  have hts : ∀ w ∈ gG, w.before _ s = true := fun w h => atoms_spec (ws := wsX4_tell) B.pre w (List.mem_cons_of_mem _ h)
  have hown : s.vm.findClass RX4 = some m.cls := findClass_of_methodNamed B.named
  have hlocks := B.notSynchronized
  have hS : va_S (gw_A 18 X.2.1) s.heap s.heap [] := va_S.rf
  have hl := lv_entry ([.ref (X.2.1 0), .int ev, .int on]) (n := 3) (Nat.le_of_ble_eq_true rfl)
  rw [lg_entry_eq]
  generalize (lg_sl ([.ref (X.2.1 0), .int ev, .int on]) ++ List.replicate (3 - (lg_sl ([.ref (X.2.1 0), .int ev, .int on])).length) Slot.unset).toArray = ls at hl ⊢
  have hl : lv_has ls 3 [(0, .ref (X.2.1 0)), (1, .int ev), (2, .int on)] := hl
  refine lv_aload_n hx hb dX4_tell_0 rfl (lv_at hl 0 rfl) ?_
  refine lv_iconst (v := 0) hx hb dX4_tell_1 (by decide) ?_
  refine gw_put hx hb hts inX4 tyX4 okX4 nmX4 hown hK hP hX hS 0 (by decide) rf_c0 rfl 0 (by decide) (hts _ mG_215) (fun _ h9 => h9) rfl (ty := .int) (v := .int 0) (by decide +kernel) rfl rfl (Nat.le_of_ble_eq_true rfl) (cf' := rf_c X (up2 d 0 0 0) π) rfl rf_o dX4_tell_2 (fun H locs hP hS => ?_)
  have hP : va_P X.1 vwCl (rf_ws X (rf_T d) π) H := hP
  refine lv_iload_n hx hb dX4_tell_5 rfl (lv_at hl 1 rfl) ?_
  refine gw_calli (va_runS (As := [.int ev]) (rest := []) ⟨hx, hb, hml, hown, hts⟩ (c_WatchListModel_isEvent X hX (rf_T d) π ev ) ⟨callB_of 1 hts giX4_isEvent rfl rfl rfl (hts _ mG_26) (hts _ mG_280) pdX4_isEvent ⟨Nat.le_of_ble_eq_true rfl, Nat.le_of_ble_eq_true rfl⟩, hts _ mG_281⟩ ⟨rf_blind, rf_at hP hK hN⟩ rfl rfl hl.1 rfl (lv_room (Nat.le_of_ble_eq_true rfl)) dX4_tell_6 ⟨Nat.le_of_ble_eq_true rfl, Nat.le_of_ble_eq_true rfl⟩) hS (fun r_1 u_1 t_1 locs hw hP hS => ?_)
  obtain ⟨rfl, rfl⟩ := hw
  have hP : va_P X.1 vwCl (rf_ws X (rf_T d) π) t_1.heap := hP
  refine lv_if_ne (tgt := 15) hx hb dX4_tell_9 (by decide) (fun c_2 => ?_) (fun c_2 => ?_)
  · have ok_1 := wl_it c_2
    have hj := wl_ok32c ok_1
    refine lv_aload_n hx hb dX4_tell_15 rfl (lv_at hl 0 rfl) ?_
    refine gw_get hx hb hts inX4 hown hK hP 0 (by decide) rf_c0 rfl 18 (by decide) (hts _ mG_233) (fun _ h9 => h9) (v := .ref (X.2.1 13)) rfl dX4_tell_16 ?_
    refine lv_iload_n hx hb dX4_tell_19 rfl (lv_at hl 1 rfl) ?_
    refine lv_iload_n hx hb dX4_tell_20 rfl (lv_at hl 2 rfl) ?_
    refine lv_if_ne (tgt := 28) hx hb dX4_tell_21 (by decide) (fun c_3 => ?_) (fun c_3 => ?_)
    · have on_1 := c_3
      refine lv_iconst (v := 0) hx hb dX4_tell_28 (by decide) ?_
      refine gw_zast hx hb hK hP hX hS 13 1 (by decide) rf_c13 rfl (i := ev) (x := 0) hj.1 (cf' := rf_c X (up2 (rf_T d) 13 ev.toNatClampNeg 0) π) (by rw [gw_vz (by decide)]; rfl) rf_o dX4_tell_29 (fun H locs hP hS => ?_)
      refine lv_iconst (v := 0) hx hb dX4_tell_30 (by decide) ?_
      refine gw_iret (up2 (rf_T d) 13 ev.toNatClampNeg 0, π) hx hb hr hlocks (rf_hB hP) hS dX4_tell_31 ?_
      exact ⟨fun _ => ⟨rfl, by rw [if_neg on_1]⟩, fun z => absurd (ok_1.symm.trans z) (by decide)⟩
    · have on_1 := c_3
      refine lv_iconst (v := 1) hx hb dX4_tell_24 (by decide) ?_
      refine lv_goto (tgt := 29) hx hb dX4_tell_25 (by decide) ?_
      refine gw_zast hx hb hK hP hX hS 13 1 (by decide) rf_c13 rfl (i := ev) (x := 1) hj.1 (cf' := rf_c X (up2 (rf_T d) 13 ev.toNatClampNeg 1) π) (by rw [gw_vz (by decide)]; rfl) rf_o dX4_tell_29 (fun H locs hP hS => ?_)
      refine lv_iconst (v := 0) hx hb dX4_tell_30 (by decide) ?_
      refine gw_iret (up2 (rf_T d) 13 ev.toNatClampNeg 1, π) hx hb hr hlocks (rf_hB hP) hS dX4_tell_31 ?_
      exact ⟨fun _ => ⟨rfl, by rw [if_pos on_1]⟩, fun z => absurd (ok_1.symm.trans z) (by decide)⟩
  · have ok_1 := wl_if c_2
    refine lv_bipush (v := 16) hx hb dX4_tell_12 (by decide) ?_
    refine gw_iret (rf_T d, π) hx hb hr hlocks (rf_hB hP) hS dX4_tell_14 ?_
    exact ⟨fun z => absurd (ok_1.symm.trans z) (by decide), fun _ => ⟨rfl, rfl⟩⟩
set_option maxHeartbeats 4000000 in
set_option maxRecDepth 100000 in
theorem c_WatchListModel_put (X : rf_X) (hX : gw_inj 18 X.2.1) (d : Nat → Nat → Int32) (π : Nat → Nat)  (b : Int32) (ts : Nat) (hts2 : rf_T d 0 22 = nI ts) (ht256 : ts ≤ 256) : Met l yX4_put wsX4_put ({ frames := 0, cells := 0, slots := 0, locals := 0 }) (rf_pre X [.ref (X.2.1 0), .int b] d π) (va_Qi (fun r u => (ts < 256 ∧ r = nI (ts + 1) ∧ u = (up2 (up2 (rf_T d) 17 ts b.toInt8.toInt32) 0 22 (nI (ts + 1)), π)) ∨ (ts = 256 ∧ r = -1 ∧ u = (rf_T d, π))) (rf_b X) (gw_A 18 X.2.1)) 0 0 (gw_A 18 X.2.1) := by
  refine Met.ofW (cc := cX4_put) (maxL := 2) (ret := (some .int)) (by decide) rfl ?_
  intro p e s m args below meth c s₁ B hml hv
  obtain ⟨rfl, hP, hK, hN⟩ := hv
  have hx := B.exec
  have hb := B.bytes
  have hr := B.returns
  have hts : ∀ w ∈ gG, w.before _ s = true := fun w h => atoms_spec (ws := wsX4_put) B.pre w (List.mem_cons_of_mem _ h)
  have hown : s.vm.findClass RX4 = some m.cls := findClass_of_methodNamed B.named
  have hlocks := B.notSynchronized
  have hS : va_S (gw_A 18 X.2.1) s.heap s.heap [] := va_S.rf
  have hl := lv_entry ([.ref (X.2.1 0), .int b]) (n := 2) (Nat.le_of_ble_eq_true rfl)
  rw [lg_entry_eq]
  generalize (lg_sl ([.ref (X.2.1 0), .int b]) ++ List.replicate (2 - (lg_sl ([.ref (X.2.1 0), .int b])).length) Slot.unset).toArray = ls at hl ⊢
  have hl : lv_has ls 2 [(0, .ref (X.2.1 0)), (1, .int b)] := hl
  refine lv_aload_n hx hb dX4_put_0 rfl (lv_at hl 0 rfl) ?_
  refine lv_iconst (v := 0) hx hb dX4_put_1 (by decide) ?_
  refine gw_put hx hb hts inX4 tyX4 okX4 nmX4 hown hK hP hX hS 0 (by decide) rf_c0 rfl 0 (by decide) (hts _ mG_215) (fun _ h9 => h9) rfl (ty := .int) (v := .int 0) (by decide +kernel) rfl rfl (Nat.le_of_ble_eq_true rfl) (cf' := rf_c X (up2 d 0 0 0) π) rfl rf_o dX4_put_2 (fun H locs hP hS => ?_)
  have hP : va_P X.1 vwCl (rf_ws X (rf_T d) π) H := hP
  refine lv_aload_n hx hb dX4_put_5 rfl (lv_at hl 0 rfl) ?_
  refine gw_get hx hb hts inX4 hown hK hP 0 (by decide) rf_c0 rfl 22 (by decide) (hts _ mG_237) (fun _ h9 => h9) (v := .int ((rf_T d) 0 22)) rfl dX4_put_6 ?_
  refine lv_sipush (v := 256) hx hb dX4_put_9 (by decide) ?_
  refine lv_icmp_ne (tgt := 17) hx hb dX4_put_12 (by decide) (fun c_1 => ?_) (fun c_1 => ?_)
  · have e9 := rf_t256 hts2 c_1 ht256
    refine lv_aload_n hx hb dX4_put_17 rfl (lv_at hl 0 rfl) ?_
    refine gw_get hx hb hts inX4 hown hK hP 0 (by decide) rf_c0 rfl 23 (by decide) (hts _ mG_238) (fun _ h9 => h9) (v := .ref (X.2.1 17)) rfl dX4_put_18 ?_
    refine lv_aload_n hx hb dX4_put_21 rfl (lv_at hl 0 rfl) ?_
    refine gw_get hx hb hts inX4 hown hK hP 0 (by decide) rf_c0 rfl 22 (by decide) (hts _ mG_237) (fun _ h9 => h9) (v := .int ((rf_T d) 0 22)) rfl dX4_put_22 ?_
    refine lv_iload_n hx hb dX4_put_25 rfl (lv_at hl 1 rfl) ?_
    refine lv_i2b hx hb dX4_put_26 rfl ?_
    refine gw_bast hx hb hK hP hX hS 17 2 (by decide) rf_c17 rfl (i := (rf_T d) 0 22) (x := b.toInt8.toInt32) (by rw [hts2]; exact vp_in_nI e9 (by omega)) (cf' := rf_c X (up2 (rf_T d) 17 ((rf_T d) 0 22).toNatClampNeg b.toInt8.toInt32) π) (by rw [pk_vb]; rfl) rf_o dX4_put_27 (fun H locs hP hS => ?_)
    refine lv_aload_n hx hb dX4_put_28 rfl (lv_at hl 0 rfl) ?_
    refine lv_dup hx hb dX4_put_29 rfl ?_
    refine gw_get hx hb hts inX4 hown hK hP 0 (by decide) rf_c0 rfl 22 (by decide) (hts _ mG_237) (fun _ h9 => h9) (v := .int (rf_T d 0 22)) rfl dX4_put_30 ?_
    refine lv_iconst (v := 1) hx hb dX4_put_33 (by decide) ?_
    refine lv_iadd hx hb dX4_put_34 ?_
    refine gw_put hx hb hts inX4 tyX4 okX4 nmX4 hown hK hP hX hS 0 (by decide) rf_c0 rfl 22 (by decide) (hts _ mG_237) (fun _ h9 => h9) rfl (ty := .int) (v := .int ((rf_T d 0 22) + 1)) (by decide +kernel) rfl rfl (Nat.le_of_ble_eq_true rfl) (cf' := rf_c X (up2 (up2 (rf_T d) 17 ((rf_T d) 0 22).toNatClampNeg b.toInt8.toInt32) 0 22 ((rf_T d 0 22) + 1)) π) rfl rf_o dX4_put_35 (fun H locs hP hS => ?_)
    refine lv_aload_n hx hb dX4_put_38 rfl (lv_at hl 0 rfl) ?_
    refine gw_get hx hb hts inX4 hown hK hP 0 (by decide) rf_c0 rfl 22 (by decide) (hts _ mG_237) (fun _ h9 => h9) (v := .int (rf_T d 0 22 + 1)) rfl dX4_put_39 ?_
    refine gw_iret (up2 (up2 (rf_T d) 17 ((rf_T d) 0 22).toNatClampNeg b.toInt8.toInt32) 0 22 ((rf_T d 0 22) + 1), π) hx hb hr hlocks (rf_hB hP) hS dX4_put_42 ?_
    refine Or.inl ⟨e9, ?_, ?_⟩
    · rw [hts2, nI_1]
    · rw [hts2, nI_1, nI_clamp (by omega)]
  · have e9 := rf_t256e hts2 c_1 ht256
    refine lv_iconst (v := (-1)) hx hb dX4_put_15 (by decide) ?_
    refine gw_iret (rf_T d, π) hx hb hr hlocks (rf_hB hP) hS dX4_put_16 ?_
    exact Or.inr ⟨e9, rfl, rfl⟩
set_option maxHeartbeats 4000000 in
set_option maxRecDepth 100000 in
theorem c_WatchListModel_act (X : rf_X) (hX : gw_inj 18 X.2.1) (d : Nat → Nat → Int32) (π : Nat → Nat)  (ev : Int32) (ts : Nat) (hts2 : rf_T d 0 22 = nI ts) (ht256 : ts ≤ 256) (hft : ∀ j, j < 256 → (rf_T d 17 j).toInt8.toInt32 = rf_T d 17 j) : Met l yX4_act wsX4_act ({ frames := 2, cells := 0, slots := 0, locals := 42 }) (rf_pre X [.ref (X.2.1 0), .int ev] d π) (va_Qi (fun r u => (r = 16 ∧ wl_ok ev 32 = false ∧ u = (up2 (rf_T d) 0 22 0, π)) ∨ (wl_ok ev 32 = true ∧ ((r = 22 ∧ ts = 0 ∧ u = (up2 (rf_T d) 0 22 0, π)) ∨ (0 < ts ∧ ((r = 29 ∧ 0 < rf_T d 14 ev.toNatClampNeg ∧ u = (up2 (rf_T d) 0 22 0, π)) ∨ (r = 0 ∧ ¬ 0 < rf_T d 14 ev.toNatClampNeg ∧ u = (rf_cp (up2 (up2 (up2 (rf_T d) 0 22 0) 14 ev.toNatClampNeg (nI ts)) 15 ev.toNatClampNeg 0) ev.toNatClampNeg ts, π))))))) (rf_b X) (gw_A 18 X.2.1)) 0 0 (gw_A 18 X.2.1) := by
  refine Met.ofW (cc := cX4_act) (maxL := 4) (ret := (some .int)) (by decide) rfl ?_
  intro p e s m args below meth c s₁ B hml hv
  obtain ⟨rfl, hP, hK, hN⟩ := hv
  have hx := B.exec
  have hb := B.bytes
  have hr := B.returns
  have hts : ∀ w ∈ gG, w.before _ s = true := fun w h => atoms_spec (ws := wsX4_act) B.pre w (List.mem_cons_of_mem _ h)
  have hown : s.vm.findClass RX4 = some m.cls := findClass_of_methodNamed B.named
  have hlocks := B.notSynchronized
  have hS : va_S (gw_A 18 X.2.1) s.heap s.heap [] := va_S.rf
  have hl := lv_entry ([.ref (X.2.1 0), .int ev]) (n := 4) (Nat.le_of_ble_eq_true rfl)
  rw [lg_entry_eq]
  generalize (lg_sl ([.ref (X.2.1 0), .int ev]) ++ List.replicate (4 - (lg_sl ([.ref (X.2.1 0), .int ev])).length) Slot.unset).toArray = ls at hl ⊢
  have hl : lv_has ls 4 [(0, .ref (X.2.1 0)), (1, .int ev)] := hl
  refine lv_aload_n hx hb dX4_act_0 rfl (lv_at hl 0 rfl) ?_
  refine lv_iconst (v := 0) hx hb dX4_act_1 (by decide) ?_
  refine gw_put hx hb hts inX4 tyX4 okX4 nmX4 hown hK hP hX hS 0 (by decide) rf_c0 rfl 0 (by decide) (hts _ mG_215) (fun _ h9 => h9) rfl (ty := .int) (v := .int 0) (by decide +kernel) rfl rfl (Nat.le_of_ble_eq_true rfl) (cf' := rf_c X (up2 d 0 0 0) π) rfl rf_o dX4_act_2 (fun H locs hP hS => ?_)
  have hP : va_P X.1 vwCl (rf_ws X (rf_T d) π) H := hP
  refine lv_aload_n hx hb dX4_act_5 rfl (lv_at hl 0 rfl) ?_
  refine gw_get hx hb hts inX4 hown hK hP 0 (by decide) rf_c0 rfl 22 (by decide) (hts _ mG_237) (fun _ h9 => h9) (v := .int ((rf_T d) 0 22)) rfl dX4_act_6 ?_
  refine lv_istore_n (lv' := [(2, .int ((rf_T d) 0 22)), (0, .ref (X.2.1 0)), (1, .int ev)]) hx hb dX4_act_9 rfl hl (by decide) rfl (fun ls hl => ?_)
  refine lv_aload_n hx hb dX4_act_10 rfl (lv_at hl 1 rfl) ?_
  refine lv_iconst (v := 0) hx hb dX4_act_11 (by decide) ?_
  refine gw_put hx hb hts inX4 tyX4 okX4 nmX4 hown hK hP hX hS 0 (by decide) rf_c0 rfl 22 (by decide) (hts _ mG_237) (fun _ h9 => h9) rfl (ty := .int) (v := .int 0) (by decide +kernel) rfl rfl (Nat.le_of_ble_eq_true rfl) (cf' := rf_c X (up2 (rf_T d) 0 22 0) π) rfl rf_o dX4_act_12 (fun H locs hP hS => ?_)
  refine lv_iload_n hx hb dX4_act_15 rfl (lv_at hl 2 rfl) ?_
  refine gw_calli (va_runS (As := [.int ev]) (rest := []) ⟨hx, hb, hml, hown, hts⟩ (c_WatchListModel_isEvent X hX (up2 (rf_T d) 0 22 0) π ev ) ⟨callB_of 1 hts giX4_isEvent rfl rfl rfl (hts _ mG_26) (hts _ mG_280) pdX4_isEvent ⟨Nat.le_of_ble_eq_true rfl, Nat.le_of_ble_eq_true rfl⟩, hts _ mG_281⟩ ⟨rf_blind, rf_at hP hK hN⟩ rfl rfl hl.1 rfl (lv_room (Nat.le_of_ble_eq_true rfl)) dX4_act_16 ⟨Nat.le_of_ble_eq_true rfl, Nat.le_of_ble_eq_true rfl⟩) hS (fun r_1 u_1 t_1 locs hw hP hS => ?_)
  obtain ⟨rfl, rfl⟩ := hw
  have hP : va_P X.1 vwCl (rf_ws X (up2 (rf_T d) 0 22 0) π) t_1.heap := hP
  refine lv_if_eq (tgt := 35) hx hb dX4_act_19 (by decide) (fun c_2 => ?_) (fun c_2 => ?_)
  · have ok_1 := wl_if c_2
    refine lv_iload_n hx hb dX4_act_35 rfl (lv_at hl 2 rfl) ?_
    refine gw_calli (va_runS (As := [.int ev]) (rest := []) ⟨hx, hb, hml, hown, hts⟩ (c_WatchListModel_isEvent X hX (up2 (rf_T d) 0 22 0) π ev ) ⟨callB_of 1 hts giX4_isEvent rfl rfl rfl (hts _ mG_26) (hts _ mG_280) pdX4_isEvent ⟨Nat.le_of_ble_eq_true rfl, Nat.le_of_ble_eq_true rfl⟩, hts _ mG_281⟩ ⟨rf_blind, rf_at hP hK hN⟩ rfl rfl hl.1 rfl (lv_room (Nat.le_of_ble_eq_true rfl)) dX4_act_36 ⟨Nat.le_of_ble_eq_true rfl, Nat.le_of_ble_eq_true rfl⟩) hS (fun r_3 u_3 t_3 locs hw hP hS => ?_)
    obtain ⟨rfl, rfl⟩ := hw
    have hP : va_P X.1 vwCl (rf_ws X (up2 (rf_T d) 0 22 0) π) t_3.heap := hP
    refine lv_if_ne (tgt := 47) hx hb dX4_act_39 (by decide) (fun c_4 => ?_) (fun c_4 => ?_)
    · exact absurd (ok_1.symm.trans (wl_it c_4)) (by decide)
    · refine lv_bipush (v := 16) hx hb dX4_act_42 (by decide) ?_
      refine lv_goto (tgt := 58) hx hb dX4_act_44 (by decide) ?_
      refine gw_iret (up2 (rf_T d) 0 22 0, π) hx hb hr hlocks (rf_hB hP) hS dX4_act_58 ?_
      exact Or.inl ⟨rfl, ok_1, rfl⟩
  · have ok_1 := wl_it c_2
    have hj := wl_ok32c ok_1
    refine lv_iload_n hx hb dX4_act_22 rfl (lv_at hl 0 rfl) ?_
    refine lv_if_eq (tgt := 35) hx hb dX4_act_23 (by decide) (fun c_5 => ?_) (fun c_5 => ?_)
    · have sz := c_5
      refine lv_iload_n hx hb dX4_act_35 rfl (lv_at hl 2 rfl) ?_
      refine gw_calli (va_runS (As := [.int ev]) (rest := []) ⟨hx, hb, hml, hown, hts⟩ (c_WatchListModel_isEvent X hX (up2 (rf_T d) 0 22 0) π ev ) ⟨callB_of 1 hts giX4_isEvent rfl rfl rfl (hts _ mG_26) (hts _ mG_280) pdX4_isEvent ⟨Nat.le_of_ble_eq_true rfl, Nat.le_of_ble_eq_true rfl⟩, hts _ mG_281⟩ ⟨rf_blind, rf_at hP hK hN⟩ rfl rfl hl.1 rfl (lv_room (Nat.le_of_ble_eq_true rfl)) dX4_act_36 ⟨Nat.le_of_ble_eq_true rfl, Nat.le_of_ble_eq_true rfl⟩) hS (fun r_6 u_6 t_6 locs hw hP hS => ?_)
      obtain ⟨rfl, rfl⟩ := hw
      have hP : va_P X.1 vwCl (rf_ws X (up2 (rf_T d) 0 22 0) π) t_6.heap := hP
      refine lv_if_ne (tgt := 47) hx hb dX4_act_39 (by decide) (fun c_7 => ?_) (fun c_7 => ?_)
      · refine lv_iload_n hx hb dX4_act_47 rfl (lv_at hl 0 rfl) ?_
        refine lv_if_ne (tgt := 56) hx hb dX4_act_48 (by decide) (fun c_8 => ?_) (fun c_8 => ?_)
        · exact absurd sz c_8
        · refine lv_bipush (v := 22) hx hb dX4_act_51 (by decide) ?_
          refine lv_goto (tgt := 58) hx hb dX4_act_53 (by decide) ?_
          refine gw_iret (up2 (rf_T d) 0 22 0, π) hx hb hr hlocks (rf_hB hP) hS dX4_act_58 ?_
          exact Or.inr ⟨ok_1, Or.inl ⟨rfl, wl_ts1 hts2 sz ht256, rfl⟩⟩
      · exact absurd (ok_1.symm.trans (wl_if c_7)) (by decide)
    · have sz := c_5
      refine lv_aload_n hx hb dX4_act_26 rfl (lv_at hl 1 rfl) ?_
      refine gw_get hx hb hts inX4 hown hK hP 0 (by decide) rf_c0 rfl 19 (by decide) (hts _ mG_234) (fun _ h9 => h9) (v := .ref (X.2.1 14)) rfl dX4_act_27 ?_
      refine lv_iload_n hx hb dX4_act_30 rfl (lv_at hl 2 rfl) ?_
      refine gw_iald hx hb hK hP 14 0 (by decide) rf_c14 rfl (i := ev) hj.1 dX4_act_31 ?_
      refine lv_if_le (tgt := 59) hx hb dX4_act_32 (by decide) (fun c_9 => ?_) (fun c_9 => ?_)
      · have s_1 : rf_T d 14 ev.toNatClampNeg ≤ 0 := c_9
        refine lv_aload_n hx hb dX4_act_59 rfl (lv_at hl 1 rfl) ?_
        refine gw_get hx hb hts inX4 hown hK hP 0 (by decide) rf_c0 rfl 19 (by decide) (hts _ mG_234) (fun _ h9 => h9) (v := .ref (X.2.1 14)) rfl dX4_act_60 ?_
        refine lv_iload_n hx hb dX4_act_63 rfl (lv_at hl 2 rfl) ?_
        refine lv_iload_n hx hb dX4_act_64 rfl (lv_at hl 0 rfl) ?_
        refine gw_iast hx hb hK hP hX hS 14 0 (by decide) rf_c14 rfl (i := ev) (x := (rf_T d) 0 22) hj.1 (cf' := rf_c X (up2 (up2 (rf_T d) 0 22 0) 14 ev.toNatClampNeg ((rf_T d) 0 22)) π) rfl rf_o dX4_act_65 (fun H locs hP hS => ?_)
        refine lv_aload_n hx hb dX4_act_66 rfl (lv_at hl 1 rfl) ?_
        refine gw_get hx hb hts inX4 hown hK hP 0 (by decide) rf_c0 rfl 20 (by decide) (hts _ mG_235) (fun _ h9 => h9) (v := .ref (X.2.1 15)) rfl dX4_act_67 ?_
        refine lv_iload_n hx hb dX4_act_70 rfl (lv_at hl 2 rfl) ?_
        refine lv_iconst (v := 0) hx hb dX4_act_71 (by decide) ?_
        refine gw_zast hx hb hK hP hX hS 15 1 (by decide) rf_c15 rfl (i := ev) (x := 0) hj.1 (cf' := rf_c X (up2 (up2 (up2 (rf_T d) 0 22 0) 14 ev.toNatClampNeg ((rf_T d) 0 22)) 15 ev.toNatClampNeg 0) π) (by rw [gw_vz (by decide)]; rfl) rf_o dX4_act_72 (fun H locs hP hS => ?_)
        refine lv_iconst (v := 0) hx hb dX4_act_73 (by decide) ?_
        refine lv_istore_n (lv' := [(3, .int 0), (2, .int ((rf_T d) 0 22)), (0, .ref (X.2.1 0)), (1, .int ev)]) hx hb dX4_act_74 rfl hl (by decide) rfl (fun ls hl => ?_)
        obtain ⟨j, hj3, hj4⟩ : ∃ j : Nat, j < 32 ∧ ev = nI j := wl_ok32 ok_1
        obtain ⟨D0, hD0⟩ : ∃ z, z = up2 (up2 (up2 (rf_T d) 0 22 0) 14 ev.toNatClampNeg (nI ts)) 15 ev.toNatClampNeg 0 := ⟨_, rfl⟩
        have h17 : ∀ k, D0 17 k = rf_T d 17 k := fun k => by rw [hD0, up2_k (by decide), up2_k (by decide), up2_k (by decide)]
        obtain ⟨k, hk⟩ : ∃ i : Nat, i = 0 := ⟨0, rfl⟩
        replace hP : va_P X.1 vwCl (rf_ws X (rf_cp D0 j k) π) H := by rw [hk, rf_cp_0, hD0, ← hts2]; exact hP
        have hk1 : k ≤ ts := by omega
        replace hl : lv_has ls 4 [(3, .int (nI k)), (2, .int (nI ts)), (0, .ref (X.2.1 0)), (1, .int (nI j))] := by rw [hk, nI_0, ← hj4, ← hts2]; exact hl
        obtain ⟨g, hg⟩ : ∃ g : Nat, ts < k + g := ⟨ts + 1, by omega⟩
        clear hk
        induction g generalizing k ls H locs with
        | zero => exact absurd hg (by omega)
        | succ g ih =>
          refine lv_iload_n hx hb dX4_act_75 rfl (lv_at hl 0 rfl) ?_
          refine lv_iload_n hx hb dX4_act_76 rfl (lv_at hl 1 rfl) ?_
          refine lv_icmp_ge (tgt := 104) hx hb dX4_act_77 (by decide) (fun c_10 => ?_) (fun c_10 => ?_)
          · have hex : ts ≤ k := (nI_leI (by omega) (by omega)).mp c_10
            refine lv_iconst (v := 0) hx hb dX4_act_104 (by decide) ?_
            refine gw_iret (rf_cp D0 j k, π) hx hb hr hlocks (rf_hB hP) hS dX4_act_105 ?_
            refine Or.inr ⟨ok_1, Or.inr ⟨wl_ts0 hts2 sz ht256, Or.inr ⟨rfl, wl_nlt_of s_1, ?_⟩⟩⟩
            rw [show ts = k by omega] at hD0 ⊢
            rw [hD0, hj4, nI_clamp (by omega)]
          · have hlt : k < ts := Nat.lt_of_not_le (fun z => c_10 (nI_le z (by omega)))
            refine lv_aload_n hx hb dX4_act_80 rfl (lv_at hl 2 rfl) ?_
            refine gw_get hx hb hts inX4 hown hK hP 0 (by decide) rf_c0 rfl 21 (by decide) (hts _ mG_236) (fun _ h9 => h9) (v := .ref (X.2.1 16)) rfl dX4_act_81 ?_
            refine lv_sipush (v := 256) hx hb dX4_act_84 (by decide) ?_
            refine lv_iload_n hx hb dX4_act_87 rfl (lv_at hl 3 rfl) ?_
            refine lv_imul hx hb dX4_act_88 ?_
            refine W.eq (g2 := F0 m 89 ls (.int (nI (256 * j)) :: .ref (X.2.1 16) :: [])) (by rw [show (256 : Int32) * nI j = nI (256 * j) from pk_mul 256 j]) ?_
            refine lv_iload_n hx hb dX4_act_89 rfl (lv_at hl 0 rfl) ?_
            refine lv_iadd hx hb dX4_act_90 ?_
            refine W.eq (g2 := F0 m 91 ls (.int (nI (256 * j + k)) :: .ref (X.2.1 16) :: [])) (by rw [nI_add]) ?_
            refine lv_aload_n hx hb dX4_act_91 rfl (lv_at hl 2 rfl) ?_
            refine gw_get hx hb hts inX4 hown hK hP 0 (by decide) rf_c0 rfl 23 (by decide) (hts _ mG_238) (fun _ h9 => h9) (v := .ref (X.2.1 17)) rfl dX4_act_92 ?_
            refine lv_iload_n hx hb dX4_act_95 rfl (lv_at hl 0 rfl) ?_
            refine gw_bald hx hb hK hP 17 2 (by decide) rf_c17 rfl (i := nI k) (vp_in_nI (by omega) (by omega)) dX4_act_96 ?_
            refine W.eq (g2 := F0 m 97 ls (.int (D0 17 k) :: .int (nI (256 * j + k)) :: .ref (X.2.1 16) :: [])) (by rw [nI_clamp (show k < 2 ^ 31 by omega), rf_cp_ne (by decide)]) ?_
            refine gw_bast hx hb hK hP hX hS 16 2 (by decide) rf_c16 rfl (i := nI (256 * j + k)) (x := D0 17 k) (vp_in_nI (by omega) (by omega)) (cf' := rf_c X (up2 (rf_cp D0 j k) 16 (nI (256 * j + k)).toNatClampNeg (D0 17 k)) π) (by rw [vp_nar_byte, h17, hft k (by omega)]; rfl) rf_o dX4_act_97 (fun H locs hP hS => ?_)
            rw [nI_clamp (show 256 * j + k < 2 ^ 31 by omega)] at hP
            refine lv_iinc (v := nI (k + 1)) (lv' := [(3, .int (nI (k + 1))), (2, .int (nI ts)), (0, .ref (X.2.1 0)), (1, .int (nI j))]) hx hb dX4_act_98 hl (k := 0) rfl (nI_1 k) (by decide) rfl (fun ls hl => ?_)
            refine lv_goto (tgt := 75) hx hb dX4_act_101 (by decide) ?_
            exact ih (k := k + 1) (ls := ls) (H := _) (locs := locs) (hS := hS) (hP := by rw [← rf_cp_step]; exact hP) (hk1 := by omega) (hl := lv_sub hl [0, 1, 2, 3] rfl) (hg := by omega)
      · have s_1 : ¬ rf_T d 14 ev.toNatClampNeg ≤ 0 := c_9
        refine lv_iload_n hx hb dX4_act_35 rfl (lv_at hl 2 rfl) ?_
        refine gw_calli (va_runS (As := [.int ev]) (rest := []) ⟨hx, hb, hml, hown, hts⟩ (c_WatchListModel_isEvent X hX (up2 (rf_T d) 0 22 0) π ev ) ⟨callB_of 1 hts giX4_isEvent rfl rfl rfl (hts _ mG_26) (hts _ mG_280) pdX4_isEvent ⟨Nat.le_of_ble_eq_true rfl, Nat.le_of_ble_eq_true rfl⟩, hts _ mG_281⟩ ⟨rf_blind, rf_at hP hK hN⟩ rfl rfl hl.1 rfl (lv_room (Nat.le_of_ble_eq_true rfl)) dX4_act_36 ⟨Nat.le_of_ble_eq_true rfl, Nat.le_of_ble_eq_true rfl⟩) hS (fun r_11 u_11 t_11 locs hw hP hS => ?_)
        obtain ⟨rfl, rfl⟩ := hw
        have hP : va_P X.1 vwCl (rf_ws X (up2 (rf_T d) 0 22 0) π) t_11.heap := hP
        refine lv_if_ne (tgt := 47) hx hb dX4_act_39 (by decide) (fun c_12 => ?_) (fun c_12 => ?_)
        · refine lv_iload_n hx hb dX4_act_47 rfl (lv_at hl 0 rfl) ?_
          refine lv_if_ne (tgt := 56) hx hb dX4_act_48 (by decide) (fun c_13 => ?_) (fun c_13 => ?_)
          · refine lv_bipush (v := 29) hx hb dX4_act_56 (by decide) ?_
            refine gw_iret (up2 (rf_T d) 0 22 0, π) hx hb hr hlocks (rf_hB hP) hS dX4_act_58 ?_
            exact Or.inr ⟨ok_1, Or.inr ⟨wl_ts0 hts2 sz ht256, Or.inl ⟨rfl, rf_lt_pos s_1, rfl⟩⟩⟩
          · exact absurd c_13 sz
        · exact absurd (ok_1.symm.trans (wl_if c_12)) (by decide)
set_option maxHeartbeats 4000000 in
set_option maxRecDepth 100000 in
theorem c_WatchListModel_drop (X : rf_X) (hX : gw_inj 18 X.2.1) (d : Nat → Nat → Int32) (π : Nat → Nat)  (ev : Int32)  : Met l yX4_drop wsX4_drop ({ frames := 2, cells := 0, slots := 0, locals := 42 }) (rf_pre X [.ref (X.2.1 0), .int ev] d π) (va_Qi (fun r u => (wl_ok ev 32 = false ∧ r = 16 ∧ u = (rf_T d, π)) ∨ (wl_ok ev 32 = true ∧ ((rf_T d 14 ev.toNatClampNeg = 0 ∧ r = 30 ∧ u = (rf_T d, π)) ∨ (¬ rf_T d 14 ev.toNatClampNeg = 0 ∧ ((¬ rf_T d 15 ev.toNatClampNeg = 0 ∧ r = 15 ∧ u = (rf_T d, π)) ∨ (rf_T d 15 ev.toNatClampNeg = 0 ∧ r = 0 ∧ u = (up2 (rf_T d) 14 ev.toNatClampNeg 0, π))))))) (rf_b X) (gw_A 18 X.2.1)) 0 0 (gw_A 18 X.2.1) := by
  refine Met.ofW (cc := cX4_drop) (maxL := 2) (ret := (some .int)) (by decide) rfl ?_
  intro p e s m args below meth c s₁ B hml hv
  obtain ⟨rfl, hP, hK, hN⟩ := hv
  have hx := B.exec
  have hb := B.bytes
  have hr := B.returns
  have hts : ∀ w ∈ gG, w.before _ s = true := fun w h => atoms_spec (ws := wsX4_drop) B.pre w (List.mem_cons_of_mem _ h)
  have hown : s.vm.findClass RX4 = some m.cls := findClass_of_methodNamed B.named
  have hlocks := B.notSynchronized
  have hS : va_S (gw_A 18 X.2.1) s.heap s.heap [] := va_S.rf
  have hl := lv_entry ([.ref (X.2.1 0), .int ev]) (n := 2) (Nat.le_of_ble_eq_true rfl)
  rw [lg_entry_eq]
  generalize (lg_sl ([.ref (X.2.1 0), .int ev]) ++ List.replicate (2 - (lg_sl ([.ref (X.2.1 0), .int ev])).length) Slot.unset).toArray = ls at hl ⊢
  have hl : lv_has ls 2 [(0, .ref (X.2.1 0)), (1, .int ev)] := hl
  refine lv_aload_n hx hb dX4_drop_0 rfl (lv_at hl 0 rfl) ?_
  refine lv_iconst (v := 0) hx hb dX4_drop_1 (by decide) ?_
  refine gw_put hx hb hts inX4 tyX4 okX4 nmX4 hown hK hP hX hS 0 (by decide) rf_c0 rfl 0 (by decide) (hts _ mG_215) (fun _ h9 => h9) rfl (ty := .int) (v := .int 0) (by decide +kernel) rfl rfl (Nat.le_of_ble_eq_true rfl) (cf' := rf_c X (up2 d 0 0 0) π) rfl rf_o dX4_drop_2 (fun H locs hP hS => ?_)
  have hP : va_P X.1 vwCl (rf_ws X (rf_T d) π) H := hP
  refine lv_iload_n hx hb dX4_drop_5 rfl (lv_at hl 1 rfl) ?_
  refine gw_calli (va_runS (As := [.int ev]) (rest := []) ⟨hx, hb, hml, hown, hts⟩ (c_WatchListModel_isEvent X hX (rf_T d) π ev ) ⟨callB_of 1 hts giX4_isEvent rfl rfl rfl (hts _ mG_26) (hts _ mG_280) pdX4_isEvent ⟨Nat.le_of_ble_eq_true rfl, Nat.le_of_ble_eq_true rfl⟩, hts _ mG_281⟩ ⟨rf_blind, rf_at hP hK hN⟩ rfl rfl hl.1 rfl (lv_room (Nat.le_of_ble_eq_true rfl)) dX4_drop_6 ⟨Nat.le_of_ble_eq_true rfl, Nat.le_of_ble_eq_true rfl⟩) hS (fun r_1 u_1 t_1 locs hw hP hS => ?_)
  obtain ⟨rfl, rfl⟩ := hw
  have hP : va_P X.1 vwCl (rf_ws X (rf_T d) π) t_1.heap := hP
  refine lv_if_eq (tgt := 30) hx hb dX4_drop_9 (by decide) (fun c_2 => ?_) (fun c_2 => ?_)
  · have ok_1 := wl_if c_2
    refine lv_iload_n hx hb dX4_drop_30 rfl (lv_at hl 1 rfl) ?_
    refine gw_calli (va_runS (As := [.int ev]) (rest := []) ⟨hx, hb, hml, hown, hts⟩ (c_WatchListModel_isEvent X hX (rf_T d) π ev ) ⟨callB_of 1 hts giX4_isEvent rfl rfl rfl (hts _ mG_26) (hts _ mG_280) pdX4_isEvent ⟨Nat.le_of_ble_eq_true rfl, Nat.le_of_ble_eq_true rfl⟩, hts _ mG_281⟩ ⟨rf_blind, rf_at hP hK hN⟩ rfl rfl hl.1 rfl (lv_room (Nat.le_of_ble_eq_true rfl)) dX4_drop_31 ⟨Nat.le_of_ble_eq_true rfl, Nat.le_of_ble_eq_true rfl⟩) hS (fun r_3 u_3 t_3 locs hw hP hS => ?_)
    obtain ⟨rfl, rfl⟩ := hw
    have hP : va_P X.1 vwCl (rf_ws X (rf_T d) π) t_3.heap := hP
    refine lv_if_ne (tgt := 42) hx hb dX4_drop_34 (by decide) (fun c_4 => ?_) (fun c_4 => ?_)
    · exact absurd (ok_1.symm.trans (wl_it c_4)) (by decide)
    · refine lv_bipush (v := 16) hx hb dX4_drop_37 (by decide) ?_
      refine lv_goto (tgt := 58) hx hb dX4_drop_39 (by decide) ?_
      refine gw_iret (rf_T d, π) hx hb hr hlocks (rf_hB hP) hS dX4_drop_58 ?_
      exact Or.inl ⟨ok_1, rfl, rfl⟩
  · have ok_1 := wl_it c_2
    have hj := wl_ok32c ok_1
    refine lv_aload_n hx hb dX4_drop_12 rfl (lv_at hl 0 rfl) ?_
    refine gw_get hx hb hts inX4 hown hK hP 0 (by decide) rf_c0 rfl 19 (by decide) (hts _ mG_234) (fun _ h9 => h9) (v := .ref (X.2.1 14)) rfl dX4_drop_13 ?_
    refine lv_iload_n hx hb dX4_drop_16 rfl (lv_at hl 1 rfl) ?_
    refine gw_iald hx hb hK hP 14 0 (by decide) rf_c14 rfl (i := ev) hj.1 dX4_drop_17 ?_
    refine lv_if_eq (tgt := 30) hx hb dX4_drop_18 (by decide) (fun c_5 => ?_) (fun c_5 => ?_)
    · have s_1 := c_5
      refine lv_iload_n hx hb dX4_drop_30 rfl (lv_at hl 1 rfl) ?_
      refine gw_calli (va_runS (As := [.int ev]) (rest := []) ⟨hx, hb, hml, hown, hts⟩ (c_WatchListModel_isEvent X hX (rf_T d) π ev ) ⟨callB_of 1 hts giX4_isEvent rfl rfl rfl (hts _ mG_26) (hts _ mG_280) pdX4_isEvent ⟨Nat.le_of_ble_eq_true rfl, Nat.le_of_ble_eq_true rfl⟩, hts _ mG_281⟩ ⟨rf_blind, rf_at hP hK hN⟩ rfl rfl hl.1 rfl (lv_room (Nat.le_of_ble_eq_true rfl)) dX4_drop_31 ⟨Nat.le_of_ble_eq_true rfl, Nat.le_of_ble_eq_true rfl⟩) hS (fun r_6 u_6 t_6 locs hw hP hS => ?_)
      obtain ⟨rfl, rfl⟩ := hw
      have hP : va_P X.1 vwCl (rf_ws X (rf_T d) π) t_6.heap := hP
      refine lv_if_ne (tgt := 42) hx hb dX4_drop_34 (by decide) (fun c_7 => ?_) (fun c_7 => ?_)
      · refine lv_aload_n hx hb dX4_drop_42 rfl (lv_at hl 0 rfl) ?_
        refine gw_get hx hb hts inX4 hown hK hP 0 (by decide) rf_c0 rfl 19 (by decide) (hts _ mG_234) (fun _ h9 => h9) (v := .ref (X.2.1 14)) rfl dX4_drop_43 ?_
        refine lv_iload_n hx hb dX4_drop_46 rfl (lv_at hl 1 rfl) ?_
        refine gw_iald hx hb hK hP 14 0 (by decide) rf_c14 rfl (i := ev) hj.1 dX4_drop_47 ?_
        refine lv_if_ne (tgt := 56) hx hb dX4_drop_48 (by decide) (fun c_8 => ?_) (fun c_8 => ?_)
        · exact absurd s_1 c_8
        · refine lv_bipush (v := 30) hx hb dX4_drop_51 (by decide) ?_
          refine lv_goto (tgt := 58) hx hb dX4_drop_53 (by decide) ?_
          refine gw_iret (rf_T d, π) hx hb hr hlocks (rf_hB hP) hS dX4_drop_58 ?_
          exact Or.inr ⟨ok_1, Or.inl ⟨s_1, rfl, rfl⟩⟩
      · exact absurd (ok_1.symm.trans (wl_if c_7)) (by decide)
    · have s_1 := c_5
      refine lv_aload_n hx hb dX4_drop_21 rfl (lv_at hl 0 rfl) ?_
      refine gw_get hx hb hts inX4 hown hK hP 0 (by decide) rf_c0 rfl 20 (by decide) (hts _ mG_235) (fun _ h9 => h9) (v := .ref (X.2.1 15)) rfl dX4_drop_22 ?_
      refine lv_iload_n hx hb dX4_drop_25 rfl (lv_at hl 1 rfl) ?_
      refine gw_zald hx hb hK hP 15 1 (by decide) rf_c15 rfl (i := ev) hj.1 dX4_drop_26 ?_
      refine lv_if_eq (tgt := 59) hx hb dX4_drop_27 (by decide) (fun c_9 => ?_) (fun c_9 => ?_)
      · have a_1 := c_9
        refine lv_aload_n hx hb dX4_drop_59 rfl (lv_at hl 0 rfl) ?_
        refine gw_get hx hb hts inX4 hown hK hP 0 (by decide) rf_c0 rfl 19 (by decide) (hts _ mG_234) (fun _ h9 => h9) (v := .ref (X.2.1 14)) rfl dX4_drop_60 ?_
        refine lv_iload_n hx hb dX4_drop_63 rfl (lv_at hl 1 rfl) ?_
        refine lv_iconst (v := 0) hx hb dX4_drop_64 (by decide) ?_
        refine gw_iast hx hb hK hP hX hS 14 0 (by decide) rf_c14 rfl (i := ev) (x := 0) hj.1 (cf' := rf_c X (up2 (rf_T d) 14 ev.toNatClampNeg 0) π) rfl rf_o dX4_drop_65 (fun H locs hP hS => ?_)
        refine lv_iconst (v := 0) hx hb dX4_drop_66 (by decide) ?_
        refine gw_iret (up2 (rf_T d) 14 ev.toNatClampNeg 0, π) hx hb hr hlocks (rf_hB hP) hS dX4_drop_67 ?_
        exact Or.inr ⟨ok_1, Or.inr ⟨s_1, Or.inr ⟨a_1, rfl, rfl⟩⟩⟩
      · have a_1 := c_9
        refine lv_iload_n hx hb dX4_drop_30 rfl (lv_at hl 1 rfl) ?_
        refine gw_calli (va_runS (As := [.int ev]) (rest := []) ⟨hx, hb, hml, hown, hts⟩ (c_WatchListModel_isEvent X hX (rf_T d) π ev ) ⟨callB_of 1 hts giX4_isEvent rfl rfl rfl (hts _ mG_26) (hts _ mG_280) pdX4_isEvent ⟨Nat.le_of_ble_eq_true rfl, Nat.le_of_ble_eq_true rfl⟩, hts _ mG_281⟩ ⟨rf_blind, rf_at hP hK hN⟩ rfl rfl hl.1 rfl (lv_room (Nat.le_of_ble_eq_true rfl)) dX4_drop_31 ⟨Nat.le_of_ble_eq_true rfl, Nat.le_of_ble_eq_true rfl⟩) hS (fun r_10 u_10 t_10 locs hw hP hS => ?_)
        obtain ⟨rfl, rfl⟩ := hw
        have hP : va_P X.1 vwCl (rf_ws X (rf_T d) π) t_10.heap := hP
        refine lv_if_ne (tgt := 42) hx hb dX4_drop_34 (by decide) (fun c_11 => ?_) (fun c_11 => ?_)
        · refine lv_aload_n hx hb dX4_drop_42 rfl (lv_at hl 0 rfl) ?_
          refine gw_get hx hb hts inX4 hown hK hP 0 (by decide) rf_c0 rfl 19 (by decide) (hts _ mG_234) (fun _ h9 => h9) (v := .ref (X.2.1 14)) rfl dX4_drop_43 ?_
          refine lv_iload_n hx hb dX4_drop_46 rfl (lv_at hl 1 rfl) ?_
          refine gw_iald hx hb hK hP 14 0 (by decide) rf_c14 rfl (i := ev) hj.1 dX4_drop_47 ?_
          refine lv_if_ne (tgt := 56) hx hb dX4_drop_48 (by decide) (fun c_12 => ?_) (fun c_12 => ?_)
          · refine lv_bipush (v := 15) hx hb dX4_drop_56 (by decide) ?_
            refine gw_iret (rf_T d, π) hx hb hr hlocks (rf_hB hP) hS dX4_drop_58 ?_
            exact Or.inr ⟨ok_1, Or.inr ⟨s_1, Or.inl ⟨a_1, rfl, rfl⟩⟩⟩
          · exact absurd c_12 s_1
        · exact absurd (ok_1.symm.trans (wl_if c_11)) (by decide)
set_option maxHeartbeats 4000000 in
set_option maxRecDepth 100000 in
theorem c_WatchListModel_arm (X : rf_X) (hX : gw_inj 18 X.2.1) (d : Nat → Nat → Int32) (π : Nat → Nat)  (ev : Int32) (on : Int32) (hz : on = 0 ∨ on = 1) : Met l yX4_arm wsX4_arm ({ frames := 2, cells := 0, slots := 0, locals := 42 }) (rf_pre X [.ref (X.2.1 0), .int ev, .int on] d π) (va_Qi (fun r u => (wl_ok ev 32 = false ∧ r = 16 ∧ u = (rf_T d, π)) ∨ (wl_ok ev 32 = true ∧ ((rf_T d 14 ev.toNatClampNeg = 0 ∧ r = 30 ∧ u = (rf_T d, π)) ∨ (¬ rf_T d 14 ev.toNatClampNeg = 0 ∧ r = 0 ∧ u = (up2 (rf_T d) 15 ev.toNatClampNeg on, π))))) (rf_b X) (gw_A 18 X.2.1)) 0 0 (gw_A 18 X.2.1) := by
  refine Met.ofW (cc := cX4_arm) (maxL := 3) (ret := (some .int)) (by decide) rfl ?_
  intro p e s m args below meth c s₁ B hml hv
  obtain ⟨rfl, hP, hK, hN⟩ := hv
  have hx := B.exec
  have hb := B.bytes
  have hr := B.returns
  have hts : ∀ w ∈ gG, w.before _ s = true := fun w h => atoms_spec (ws := wsX4_arm) B.pre w (List.mem_cons_of_mem _ h)
  have hown : s.vm.findClass RX4 = some m.cls := findClass_of_methodNamed B.named
  have hlocks := B.notSynchronized
  have hS : va_S (gw_A 18 X.2.1) s.heap s.heap [] := va_S.rf
  have hl := lv_entry ([.ref (X.2.1 0), .int ev, .int on]) (n := 3) (Nat.le_of_ble_eq_true rfl)
  rw [lg_entry_eq]
  generalize (lg_sl ([.ref (X.2.1 0), .int ev, .int on]) ++ List.replicate (3 - (lg_sl ([.ref (X.2.1 0), .int ev, .int on])).length) Slot.unset).toArray = ls at hl ⊢
  have hl : lv_has ls 3 [(0, .ref (X.2.1 0)), (1, .int ev), (2, .int on)] := hl
  refine lv_aload_n hx hb dX4_arm_0 rfl (lv_at hl 0 rfl) ?_
  refine lv_iconst (v := 0) hx hb dX4_arm_1 (by decide) ?_
  refine gw_put hx hb hts inX4 tyX4 okX4 nmX4 hown hK hP hX hS 0 (by decide) rf_c0 rfl 0 (by decide) (hts _ mG_215) (fun _ h9 => h9) rfl (ty := .int) (v := .int 0) (by decide +kernel) rfl rfl (Nat.le_of_ble_eq_true rfl) (cf' := rf_c X (up2 d 0 0 0) π) rfl rf_o dX4_arm_2 (fun H locs hP hS => ?_)
  have hP : va_P X.1 vwCl (rf_ws X (rf_T d) π) H := hP
  refine lv_iload_n hx hb dX4_arm_5 rfl (lv_at hl 1 rfl) ?_
  refine gw_calli (va_runS (As := [.int ev]) (rest := []) ⟨hx, hb, hml, hown, hts⟩ (c_WatchListModel_isEvent X hX (rf_T d) π ev ) ⟨callB_of 1 hts giX4_isEvent rfl rfl rfl (hts _ mG_26) (hts _ mG_280) pdX4_isEvent ⟨Nat.le_of_ble_eq_true rfl, Nat.le_of_ble_eq_true rfl⟩, hts _ mG_281⟩ ⟨rf_blind, rf_at hP hK hN⟩ rfl rfl hl.1 rfl (lv_room (Nat.le_of_ble_eq_true rfl)) dX4_arm_6 ⟨Nat.le_of_ble_eq_true rfl, Nat.le_of_ble_eq_true rfl⟩) hS (fun r_1 u_1 t_1 locs hw hP hS => ?_)
  obtain ⟨rfl, rfl⟩ := hw
  have hP : va_P X.1 vwCl (rf_ws X (rf_T d) π) t_1.heap := hP
  refine lv_if_eq (tgt := 21) hx hb dX4_arm_9 (by decide) (fun c_2 => ?_) (fun c_2 => ?_)
  · have ok_1 := wl_if c_2
    refine lv_iload_n hx hb dX4_arm_21 rfl (lv_at hl 1 rfl) ?_
    refine gw_calli (va_runS (As := [.int ev]) (rest := []) ⟨hx, hb, hml, hown, hts⟩ (c_WatchListModel_isEvent X hX (rf_T d) π ev ) ⟨callB_of 1 hts giX4_isEvent rfl rfl rfl (hts _ mG_26) (hts _ mG_280) pdX4_isEvent ⟨Nat.le_of_ble_eq_true rfl, Nat.le_of_ble_eq_true rfl⟩, hts _ mG_281⟩ ⟨rf_blind, rf_at hP hK hN⟩ rfl rfl hl.1 rfl (lv_room (Nat.le_of_ble_eq_true rfl)) dX4_arm_22 ⟨Nat.le_of_ble_eq_true rfl, Nat.le_of_ble_eq_true rfl⟩) hS (fun r_3 u_3 t_3 locs hw hP hS => ?_)
    obtain ⟨rfl, rfl⟩ := hw
    have hP : va_P X.1 vwCl (rf_ws X (rf_T d) π) t_3.heap := hP
    refine lv_if_ne (tgt := 33) hx hb dX4_arm_25 (by decide) (fun c_4 => ?_) (fun c_4 => ?_)
    · exact absurd (ok_1.symm.trans (wl_it c_4)) (by decide)
    · refine lv_bipush (v := 16) hx hb dX4_arm_28 (by decide) ?_
      refine lv_goto (tgt := 35) hx hb dX4_arm_30 (by decide) ?_
      refine gw_iret (rf_T d, π) hx hb hr hlocks (rf_hB hP) hS dX4_arm_35 ?_
      exact Or.inl ⟨ok_1, rfl, rfl⟩
  · have ok_1 := wl_it c_2
    have hj := wl_ok32c ok_1
    refine lv_aload_n hx hb dX4_arm_12 rfl (lv_at hl 0 rfl) ?_
    refine gw_get hx hb hts inX4 hown hK hP 0 (by decide) rf_c0 rfl 19 (by decide) (hts _ mG_234) (fun _ h9 => h9) (v := .ref (X.2.1 14)) rfl dX4_arm_13 ?_
    refine lv_iload_n hx hb dX4_arm_16 rfl (lv_at hl 1 rfl) ?_
    refine gw_iald hx hb hK hP 14 0 (by decide) rf_c14 rfl (i := ev) hj.1 dX4_arm_17 ?_
    refine lv_if_ne (tgt := 36) hx hb dX4_arm_18 (by decide) (fun c_5 => ?_) (fun c_5 => ?_)
    · have s_1 := c_5
      refine lv_aload_n hx hb dX4_arm_36 rfl (lv_at hl 0 rfl) ?_
      refine gw_get hx hb hts inX4 hown hK hP 0 (by decide) rf_c0 rfl 20 (by decide) (hts _ mG_235) (fun _ h9 => h9) (v := .ref (X.2.1 15)) rfl dX4_arm_37 ?_
      refine lv_iload_n hx hb dX4_arm_40 rfl (lv_at hl 1 rfl) ?_
      refine lv_iload_n hx hb dX4_arm_41 rfl (lv_at hl 2 rfl) ?_
      refine gw_zast hx hb hK hP hX hS 15 1 (by decide) rf_c15 rfl (i := ev) (x := on) hj.1 (cf' := rf_c X (up2 (rf_T d) 15 ev.toNatClampNeg on) π) (by rw [gw_vz hz]; rfl) rf_o dX4_arm_42 (fun H locs hP hS => ?_)
      refine lv_iconst (v := 0) hx hb dX4_arm_43 (by decide) ?_
      refine gw_iret (up2 (rf_T d) 15 ev.toNatClampNeg on, π) hx hb hr hlocks (rf_hB hP) hS dX4_arm_44 ?_
      exact Or.inr ⟨ok_1, Or.inr ⟨s_1, rfl, rfl⟩⟩
    · have s_1 := c_5
      refine lv_iload_n hx hb dX4_arm_21 rfl (lv_at hl 1 rfl) ?_
      refine gw_calli (va_runS (As := [.int ev]) (rest := []) ⟨hx, hb, hml, hown, hts⟩ (c_WatchListModel_isEvent X hX (rf_T d) π ev ) ⟨callB_of 1 hts giX4_isEvent rfl rfl rfl (hts _ mG_26) (hts _ mG_280) pdX4_isEvent ⟨Nat.le_of_ble_eq_true rfl, Nat.le_of_ble_eq_true rfl⟩, hts _ mG_281⟩ ⟨rf_blind, rf_at hP hK hN⟩ rfl rfl hl.1 rfl (lv_room (Nat.le_of_ble_eq_true rfl)) dX4_arm_22 ⟨Nat.le_of_ble_eq_true rfl, Nat.le_of_ble_eq_true rfl⟩) hS (fun r_6 u_6 t_6 locs hw hP hS => ?_)
      obtain ⟨rfl, rfl⟩ := hw
      have hP : va_P X.1 vwCl (rf_ws X (rf_T d) π) t_6.heap := hP
      refine lv_if_ne (tgt := 33) hx hb dX4_arm_25 (by decide) (fun c_7 => ?_) (fun c_7 => ?_)
      · refine lv_bipush (v := 30) hx hb dX4_arm_33 (by decide) ?_
        refine gw_iret (rf_T d, π) hx hb hr hlocks (rf_hB hP) hS dX4_arm_35 ?_
        exact Or.inr ⟨ok_1, Or.inl ⟨s_1, rfl, rfl⟩⟩
      · exact absurd (ok_1.symm.trans (wl_if c_7)) (by decide)
set_option maxHeartbeats 4000000 in
set_option maxRecDepth 100000 in
theorem c_WatchListModel_limit (X : rf_X) (hX : gw_inj 18 X.2.1) (d : Nat → Nat → Int32) (π : Nat → Nat)  (id : Int32) (w : Int32)  : Met l yX4_limit wsX4_limit ({ frames := 1, cells := 0, slots := 0, locals := 21 }) (rf_pre X [.ref (X.2.1 0), .int id, .int w] d π) (va_Qi (fun r u => (rf_th (rf_T d) id = false ∧ r = -1 ∧ u = (rf_T d, π)) ∨ (rf_th (rf_T d) id = true ∧ r = rf_ltell (rf_T d) id.toNatClampNeg w ∧ u = (rf_T d, π))) (rf_b X) (gw_A 18 X.2.1)) 0 0 (gw_A 18 X.2.1) := by
  refine Met.ofW (cc := cX4_limit) (maxL := 3) (ret := (some .int)) (by decide) rfl ?_
  intro p e s m args below meth c s₁ B hml hv
  obtain ⟨rfl, hP, hK, hN⟩ := hv
  have hx := B.exec
  have hb := B.bytes
  have hr := B.returns
  have hts : ∀ w ∈ gG, w.before _ s = true := fun w h => atoms_spec (ws := wsX4_limit) B.pre w (List.mem_cons_of_mem _ h)
  have hown : s.vm.findClass RX4 = some m.cls := findClass_of_methodNamed B.named
  have hlocks := B.notSynchronized
  have hS : va_S (gw_A 18 X.2.1) s.heap s.heap [] := va_S.rf
  have hl := lv_entry ([.ref (X.2.1 0), .int id, .int w]) (n := 3) (Nat.le_of_ble_eq_true rfl)
  rw [lg_entry_eq]
  generalize (lg_sl ([.ref (X.2.1 0), .int id, .int w]) ++ List.replicate (3 - (lg_sl ([.ref (X.2.1 0), .int id, .int w])).length) Slot.unset).toArray = ls at hl ⊢
  have hl : lv_has ls 3 [(0, .ref (X.2.1 0)), (1, .int id), (2, .int w)] := hl
  refine lv_aload_n hx hb dX4_limit_0 rfl (lv_at hl 0 rfl) ?_
  refine lv_iconst (v := 0) hx hb dX4_limit_1 (by decide) ?_
  refine gw_put hx hb hts inX4 tyX4 okX4 nmX4 hown hK hP hX hS 0 (by decide) rf_c0 rfl 0 (by decide) (hts _ mG_215) (fun _ h9 => h9) rfl (ty := .int) (v := .int 0) (by decide +kernel) rfl rfl (Nat.le_of_ble_eq_true rfl) (cf' := rf_c X (up2 d 0 0 0) π) rfl rf_o dX4_limit_2 (fun H locs hP hS => ?_)
  have hP : va_P X.1 vwCl (rf_ws X (rf_T d) π) H := hP
  refine lv_aload_n hx hb dX4_limit_5 rfl (lv_at hl 0 rfl) ?_
  refine lv_iload_n hx hb dX4_limit_6 rfl (lv_at hl 1 rfl) ?_
  refine gw_calli (va_runV (As := [.int id]) (rest := []) ⟨hx, hb, hml, hown, hts⟩ (c_WatchListModel_isThere X hX (rf_T d) π id ) ⟨callB_of 1 hts giX4_isThere rfl rfl rfl (hts _ mG_26) (hts _ mG_258) pdX4_isThere ⟨Nat.le_of_ble_eq_true rfl, Nat.le_of_ble_eq_true rfl⟩, hts _ mG_259, hts _ mG_19⟩ ⟨rf_blind, gw_recv hK hP 0 (by decide) rf_c0 rfl, rf_at hP hK hN⟩ rfl rfl hl.1 rfl (lv_room (Nat.le_of_ble_eq_true rfl)) dX4_limit_7 ⟨Nat.le_of_ble_eq_true rfl, Nat.le_of_ble_eq_true rfl⟩) hS (fun r_1 u_1 t_1 locs hw hP hS => ?_)
  obtain ⟨rfl, rfl⟩ := hw
  have hP : va_P X.1 vwCl (rf_ws X (rf_T d) π) t_1.heap := hP
  refine lv_if_ne (tgt := 15) hx hb dX4_limit_10 (by decide) (fun c_2 => ?_) (fun c_2 => ?_)
  · have th_1 := wl_it c_2
    have hj := rf_ok256c (rf_th_ok th_1).1
    refine lv_iload_n hx hb dX4_limit_15 rfl (lv_at hl 2 rfl) ?_
    by_cases c_3 : w.toInt < 0 ∨ 5 < w.toInt
    · refine lv_tableOut (tgt := 114) hx hb dX4_limit_16 c_3 (by decide) ?_
      refine lv_iconst (v := (-1)) hx hb dX4_limit_114 (by decide) ?_
      refine gw_iret (rf_T d, π) hx hb hr hlocks (rf_hB hP) hS dX4_limit_115 ?_
      exact Or.inr ⟨th_1, by rw [rf_ltell_o c_3], rfl⟩
    · have h_c_3 : w = 0 ∨ w = 1 ∨ w = 2 ∨ w = 3 ∨ w = 4 ∨ w = 5 := wl_sw0_5 c_3
      rcases h_c_3 with e_c_3 | e_c_3 | e_c_3 | e_c_3 | e_c_3 | e_c_3
      · refine lv_tableIn (tgt := 56) hx hb dX4_limit_16 (by rw [e_c_3]; decide) (by rw [e_c_3]; decide) (by rw [e_c_3]; rfl) (by decide) ?_
        refine lv_aload_n hx hb dX4_limit_56 rfl (lv_at hl 0 rfl) ?_
        refine gw_get hx hb hts inX4 hown hK hP 0 (by decide) rf_c0 rfl 3 (by decide) (hts _ mG_218) (fun _ h9 => h9) (v := .ref (X.2.1 3)) rfl dX4_limit_57 ?_
        refine lv_iload_n hx hb dX4_limit_60 rfl (lv_at hl 1 rfl) ?_
        refine gw_zald hx hb hK hP 3 1 (by decide) rf_c3 rfl (i := id) hj.1 dX4_limit_61 ?_
        refine lv_if_eq (tgt := 69) hx hb dX4_limit_62 (by decide) (fun c_4 => ?_) (fun c_4 => ?_)
        · have b_1 := c_4
          refine lv_iconst (v := 0) hx hb dX4_limit_69 (by decide) ?_
          refine gw_iret (rf_T d, π) hx hb hr hlocks (rf_hB hP) hS dX4_limit_70 ?_
          exact Or.inr ⟨th_1, by rw [e_c_3]; show (0 : Int32) = if _ = _ then 0 else 1; rw [if_pos b_1], rfl⟩
        · have b_1 := c_4
          refine lv_iconst (v := 1) hx hb dX4_limit_65 (by decide) ?_
          refine lv_goto (tgt := 70) hx hb dX4_limit_66 (by decide) ?_
          refine gw_iret (rf_T d, π) hx hb hr hlocks (rf_hB hP) hS dX4_limit_70 ?_
          exact Or.inr ⟨th_1, by rw [e_c_3]; show (1 : Int32) = if _ = _ then 0 else 1; rw [if_neg b_1], rfl⟩
      · refine lv_tableIn (tgt := 71) hx hb dX4_limit_16 (by rw [e_c_3]; decide) (by rw [e_c_3]; decide) (by rw [e_c_3]; rfl) (by decide) ?_
        refine lv_aload_n hx hb dX4_limit_71 rfl (lv_at hl 0 rfl) ?_
        refine gw_get hx hb hts inX4 hown hK hP 0 (by decide) rf_c0 rfl 10 (by decide) (hts _ mG_225) (fun _ h9 => h9) (v := .ref (X.2.1 10)) rfl dX4_limit_72 ?_
        refine lv_iload_n hx hb dX4_limit_75 rfl (lv_at hl 1 rfl) ?_
        refine gw_iald hx hb hK hP 10 0 (by decide) rf_c10 rfl (i := id) hj.1 dX4_limit_76 ?_
        refine gw_iret (rf_T d, π) hx hb hr hlocks (rf_hB hP) hS dX4_limit_77 ?_
        exact Or.inr ⟨th_1, by rw [e_c_3]; rfl, rfl⟩
      · refine lv_tableIn (tgt := 78) hx hb dX4_limit_16 (by rw [e_c_3]; decide) (by rw [e_c_3]; decide) (by rw [e_c_3]; rfl) (by decide) ?_
        refine lv_aload_n hx hb dX4_limit_78 rfl (lv_at hl 0 rfl) ?_
        refine gw_get hx hb hts inX4 hown hK hP 0 (by decide) rf_c0 rfl 5 (by decide) (hts _ mG_220) (fun _ h9 => h9) (v := .ref (X.2.1 5)) rfl dX4_limit_79 ?_
        refine lv_iload_n hx hb dX4_limit_82 rfl (lv_at hl 1 rfl) ?_
        refine gw_iald hx hb hK hP 5 0 (by decide) rf_c5 rfl (i := id) hj.1 dX4_limit_83 ?_
        refine gw_iret (rf_T d, π) hx hb hr hlocks (rf_hB hP) hS dX4_limit_84 ?_
        exact Or.inr ⟨th_1, by rw [e_c_3]; rfl, rfl⟩
      · refine lv_tableIn (tgt := 85) hx hb dX4_limit_16 (by rw [e_c_3]; decide) (by rw [e_c_3]; decide) (by rw [e_c_3]; rfl) (by decide) ?_
        refine lv_aload_n hx hb dX4_limit_85 rfl (lv_at hl 0 rfl) ?_
        refine gw_get hx hb hts inX4 hown hK hP 0 (by decide) rf_c0 rfl 6 (by decide) (hts _ mG_221) (fun _ h9 => h9) (v := .ref (X.2.1 6)) rfl dX4_limit_86 ?_
        refine lv_iload_n hx hb dX4_limit_89 rfl (lv_at hl 1 rfl) ?_
        refine gw_iald hx hb hK hP 6 0 (by decide) rf_c6 rfl (i := id) hj.1 dX4_limit_90 ?_
        refine gw_iret (rf_T d, π) hx hb hr hlocks (rf_hB hP) hS dX4_limit_91 ?_
        exact Or.inr ⟨th_1, by rw [e_c_3]; rfl, rfl⟩
      · refine lv_tableIn (tgt := 92) hx hb dX4_limit_16 (by rw [e_c_3]; decide) (by rw [e_c_3]; decide) (by rw [e_c_3]; rfl) (by decide) ?_
        refine lv_aload_n hx hb dX4_limit_92 rfl (lv_at hl 0 rfl) ?_
        refine gw_get hx hb hts inX4 hown hK hP 0 (by decide) rf_c0 rfl 9 (by decide) (hts _ mG_224) (fun _ h9 => h9) (v := .ref (X.2.1 9)) rfl dX4_limit_93 ?_
        refine lv_iload_n hx hb dX4_limit_96 rfl (lv_at hl 1 rfl) ?_
        refine gw_iald hx hb hK hP 9 0 (by decide) rf_c9 rfl (i := id) hj.1 dX4_limit_97 ?_
        refine gw_iret (rf_T d, π) hx hb hr hlocks (rf_hB hP) hS dX4_limit_98 ?_
        exact Or.inr ⟨th_1, by rw [e_c_3]; rfl, rfl⟩
      · refine lv_tableIn (tgt := 99) hx hb dX4_limit_16 (by rw [e_c_3]; decide) (by rw [e_c_3]; decide) (by rw [e_c_3]; rfl) (by decide) ?_
        refine lv_aload_n hx hb dX4_limit_99 rfl (lv_at hl 0 rfl) ?_
        refine gw_get hx hb hts inX4 hown hK hP 0 (by decide) rf_c0 rfl 4 (by decide) (hts _ mG_219) (fun _ h9 => h9) (v := .ref (X.2.1 4)) rfl dX4_limit_100 ?_
        refine lv_iload_n hx hb dX4_limit_103 rfl (lv_at hl 1 rfl) ?_
        refine gw_zald hx hb hK hP 4 1 (by decide) rf_c4 rfl (i := id) hj.1 dX4_limit_104 ?_
        refine lv_if_eq (tgt := 112) hx hb dX4_limit_105 (by decide) (fun c_5 => ?_) (fun c_5 => ?_)
        · have b_1 := c_5
          refine lv_iconst (v := 0) hx hb dX4_limit_112 (by decide) ?_
          refine gw_iret (rf_T d, π) hx hb hr hlocks (rf_hB hP) hS dX4_limit_113 ?_
          exact Or.inr ⟨th_1, by rw [e_c_3]; show (0 : Int32) = if _ = _ then 0 else 1; rw [if_pos b_1], rfl⟩
        · have b_1 := c_5
          refine lv_iconst (v := 1) hx hb dX4_limit_108 (by decide) ?_
          refine lv_goto (tgt := 113) hx hb dX4_limit_109 (by decide) ?_
          refine gw_iret (rf_T d, π) hx hb hr hlocks (rf_hB hP) hS dX4_limit_113 ?_
          exact Or.inr ⟨th_1, by rw [e_c_3]; show (1 : Int32) = if _ = _ then 0 else 1; rw [if_neg b_1], rfl⟩
  · have th_1 := wl_if c_2
    refine lv_iconst (v := (-1)) hx hb dX4_limit_13 (by decide) ?_
    refine gw_iret (rf_T d, π) hx hb hr hlocks (rf_hB hP) hS dX4_limit_14 ?_
    exact Or.inl ⟨th_1, rfl, rfl⟩
set_option maxHeartbeats 4000000 in
set_option maxRecDepth 100000 in
theorem c_WatchListModel_event (X : rf_X) (hX : gw_inj 18 X.2.1) (d : Nat → Nat → Int32) (π : Nat → Nat)  (ev : Int32) (w : Int32)  : Met l yX4_event wsX4_event ({ frames := 2, cells := 0, slots := 0, locals := 42 }) (rf_pre X [.ref (X.2.1 0), .int ev, .int w] d π) (va_Qi (fun r u => u = (rf_T d, π) ∧ r = (if wl_ok ev 32 = true then rf_etell (rf_T d) ev.toNatClampNeg w else -1)) (rf_b X) (gw_A 18 X.2.1)) 0 0 (gw_A 18 X.2.1) := by
  refine Met.ofW (cc := cX4_event) (maxL := 3) (ret := (some .int)) (by decide) rfl ?_
  intro p e s m args below meth c s₁ B hml hv
  obtain ⟨rfl, hP, hK, hN⟩ := hv
  have hx := B.exec
  have hb := B.bytes
  have hr := B.returns
  have hts : ∀ w ∈ gG, w.before _ s = true := fun w h => atoms_spec (ws := wsX4_event) B.pre w (List.mem_cons_of_mem _ h)
  have hown : s.vm.findClass RX4 = some m.cls := findClass_of_methodNamed B.named
  have hlocks := B.notSynchronized
  have hS : va_S (gw_A 18 X.2.1) s.heap s.heap [] := va_S.rf
  have hl := lv_entry ([.ref (X.2.1 0), .int ev, .int w]) (n := 3) (Nat.le_of_ble_eq_true rfl)
  rw [lg_entry_eq]
  generalize (lg_sl ([.ref (X.2.1 0), .int ev, .int w]) ++ List.replicate (3 - (lg_sl ([.ref (X.2.1 0), .int ev, .int w])).length) Slot.unset).toArray = ls at hl ⊢
  have hl : lv_has ls 3 [(0, .ref (X.2.1 0)), (1, .int ev), (2, .int w)] := hl
  refine lv_aload_n hx hb dX4_event_0 rfl (lv_at hl 0 rfl) ?_
  refine lv_iconst (v := 0) hx hb dX4_event_1 (by decide) ?_
  refine gw_put hx hb hts inX4 tyX4 okX4 nmX4 hown hK hP hX hS 0 (by decide) rf_c0 rfl 0 (by decide) (hts _ mG_215) (fun _ h9 => h9) rfl (ty := .int) (v := .int 0) (by decide +kernel) rfl rfl (Nat.le_of_ble_eq_true rfl) (cf' := rf_c X (up2 d 0 0 0) π) rfl rf_o dX4_event_2 (fun H locs hP hS => ?_)
  have hP : va_P X.1 vwCl (rf_ws X (rf_T d) π) H := hP
  refine lv_iload_n hx hb dX4_event_5 rfl (lv_at hl 1 rfl) ?_
  refine gw_calli (va_runS (As := [.int ev]) (rest := []) ⟨hx, hb, hml, hown, hts⟩ (c_WatchListModel_isEvent X hX (rf_T d) π ev ) ⟨callB_of 1 hts giX4_isEvent rfl rfl rfl (hts _ mG_26) (hts _ mG_280) pdX4_isEvent ⟨Nat.le_of_ble_eq_true rfl, Nat.le_of_ble_eq_true rfl⟩, hts _ mG_281⟩ ⟨rf_blind, rf_at hP hK hN⟩ rfl rfl hl.1 rfl (lv_room (Nat.le_of_ble_eq_true rfl)) dX4_event_6 ⟨Nat.le_of_ble_eq_true rfl, Nat.le_of_ble_eq_true rfl⟩) hS (fun r_1 u_1 t_1 locs hw hP hS => ?_)
  obtain ⟨rfl, rfl⟩ := hw
  have hP : va_P X.1 vwCl (rf_ws X (rf_T d) π) t_1.heap := hP
  refine lv_if_ne (tgt := 14) hx hb dX4_event_9 (by decide) (fun c_2 => ?_) (fun c_2 => ?_)
  · have ok_1 := wl_it c_2
    have hj := wl_ok32c ok_1
    refine lv_iload_n hx hb dX4_event_14 rfl (lv_at hl 2 rfl) ?_
    refine lv_if_ne (tgt := 35) hx hb dX4_event_15 (by decide) (fun c_3 => ?_) (fun c_3 => ?_)
    · have w_0 := c_3
      refine lv_iload_n hx hb dX4_event_35 rfl (lv_at hl 2 rfl) ?_
      refine lv_iconst (v := 1) hx hb dX4_event_36 (by decide) ?_
      refine lv_icmp_ne (tgt := 49) hx hb dX4_event_37 (by decide) (fun c_4 => ?_) (fun c_4 => ?_)
      · have w_1 := c_4
        refine lv_iload_n hx hb dX4_event_49 rfl (lv_at hl 2 rfl) ?_
        refine lv_iconst (v := 2) hx hb dX4_event_50 (by decide) ?_
        refine lv_icmp_ne (tgt := 80) hx hb dX4_event_51 (by decide) (fun c_5 => ?_) (fun c_5 => ?_)
        · have w_2 := c_5
          refine lv_iconst (v := (-1)) hx hb dX4_event_80 (by decide) ?_
          refine gw_iret (rf_T d, π) hx hb hr hlocks (rf_hB hP) hS dX4_event_81 ?_
          refine ⟨rfl, ?_⟩; rw [if_pos ok_1]; unfold rf_etell; rw [if_neg w_0, if_neg w_1, if_neg w_2]
        · have w_2 := c_5
          refine lv_aload_n hx hb dX4_event_54 rfl (lv_at hl 0 rfl) ?_
          refine gw_get hx hb hts inX4 hown hK hP 0 (by decide) rf_c0 rfl 19 (by decide) (hts _ mG_234) (fun _ h9 => h9) (v := .ref (X.2.1 14)) rfl dX4_event_55 ?_
          refine lv_iload_n hx hb dX4_event_58 rfl (lv_at hl 1 rfl) ?_
          refine gw_iald hx hb hK hP 14 0 (by decide) rf_c14 rfl (i := ev) hj.1 dX4_event_59 ?_
          refine lv_if_le (tgt := 76) hx hb dX4_event_60 (by decide) (fun c_6 => ?_) (fun c_6 => ?_)
          · have s_1 := c_6
            refine lv_iconst (v := 0) hx hb dX4_event_76 (by decide) ?_
            refine lv_goto (tgt := 81) hx hb dX4_event_77 (by decide) ?_
            refine gw_iret (rf_T d, π) hx hb hr hlocks (rf_hB hP) hS dX4_event_81 ?_
            refine ⟨rfl, ?_⟩; rw [if_pos ok_1]; unfold rf_etell; rw [if_neg w_0, if_neg w_1, if_pos w_2, if_neg (wl_nlt_of s_1)]
          · have s_1 := c_6
            refine lv_aload_n hx hb dX4_event_63 rfl (lv_at hl 0 rfl) ?_
            refine gw_get hx hb hts inX4 hown hK hP 0 (by decide) rf_c0 rfl 20 (by decide) (hts _ mG_235) (fun _ h9 => h9) (v := .ref (X.2.1 15)) rfl dX4_event_64 ?_
            refine lv_iload_n hx hb dX4_event_67 rfl (lv_at hl 1 rfl) ?_
            refine gw_zald hx hb hK hP 15 1 (by decide) rf_c15 rfl (i := ev) hj.1 dX4_event_68 ?_
            refine lv_if_eq (tgt := 76) hx hb dX4_event_69 (by decide) (fun c_7 => ?_) (fun c_7 => ?_)
            · have a_1 := c_7
              refine lv_iconst (v := 0) hx hb dX4_event_76 (by decide) ?_
              refine lv_goto (tgt := 81) hx hb dX4_event_77 (by decide) ?_
              refine gw_iret (rf_T d, π) hx hb hr hlocks (rf_hB hP) hS dX4_event_81 ?_
              refine ⟨rfl, ?_⟩; rw [if_pos ok_1]; unfold rf_etell; rw [if_neg w_0, if_neg w_1, if_pos w_2, if_pos (rf_lt_pos s_1), if_pos a_1]
            · have a_1 := c_7
              refine lv_iconst (v := 1) hx hb dX4_event_72 (by decide) ?_
              refine lv_goto (tgt := 81) hx hb dX4_event_73 (by decide) ?_
              refine gw_iret (rf_T d, π) hx hb hr hlocks (rf_hB hP) hS dX4_event_81 ?_
              refine ⟨rfl, ?_⟩; rw [if_pos ok_1]; unfold rf_etell; rw [if_neg w_0, if_neg w_1, if_pos w_2, if_pos (rf_lt_pos s_1), if_neg a_1]
      · have w_1 := c_4
        refine lv_aload_n hx hb dX4_event_40 rfl (lv_at hl 0 rfl) ?_
        refine gw_get hx hb hts inX4 hown hK hP 0 (by decide) rf_c0 rfl 19 (by decide) (hts _ mG_234) (fun _ h9 => h9) (v := .ref (X.2.1 14)) rfl dX4_event_41 ?_
        refine lv_iload_n hx hb dX4_event_44 rfl (lv_at hl 1 rfl) ?_
        refine gw_iald hx hb hK hP 14 0 (by decide) rf_c14 rfl (i := ev) hj.1 dX4_event_45 ?_
        refine lv_goto (tgt := 81) hx hb dX4_event_46 (by decide) ?_
        refine gw_iret (rf_T d, π) hx hb hr hlocks (rf_hB hP) hS dX4_event_81 ?_
        refine ⟨rfl, ?_⟩; rw [if_pos ok_1]; unfold rf_etell; rw [if_neg w_0, if_pos w_1]
    · have w_0 := c_3
      refine lv_aload_n hx hb dX4_event_18 rfl (lv_at hl 0 rfl) ?_
      refine gw_get hx hb hts inX4 hown hK hP 0 (by decide) rf_c0 rfl 18 (by decide) (hts _ mG_233) (fun _ h9 => h9) (v := .ref (X.2.1 13)) rfl dX4_event_19 ?_
      refine lv_iload_n hx hb dX4_event_22 rfl (lv_at hl 1 rfl) ?_
      refine gw_zald hx hb hK hP 13 1 (by decide) rf_c13 rfl (i := ev) hj.1 dX4_event_23 ?_
      refine lv_if_eq (tgt := 31) hx hb dX4_event_24 (by decide) (fun c_8 => ?_) (fun c_8 => ?_)
      · have b_1 := c_8
        refine lv_iconst (v := 1) hx hb dX4_event_31 (by decide) ?_
        refine lv_goto (tgt := 81) hx hb dX4_event_32 (by decide) ?_
        refine gw_iret (rf_T d, π) hx hb hr hlocks (rf_hB hP) hS dX4_event_81 ?_
        refine ⟨rfl, ?_⟩; rw [if_pos ok_1]; unfold rf_etell; rw [if_pos w_0, if_pos b_1]
      · have b_1 := c_8
        refine lv_iconst (v := 0) hx hb dX4_event_27 (by decide) ?_
        refine lv_goto (tgt := 81) hx hb dX4_event_28 (by decide) ?_
        refine gw_iret (rf_T d, π) hx hb hr hlocks (rf_hB hP) hS dX4_event_81 ?_
        refine ⟨rfl, ?_⟩; rw [if_pos ok_1]; unfold rf_etell; rw [if_pos w_0, if_neg b_1]
  · have ok_1 := wl_if c_2
    refine lv_iconst (v := (-1)) hx hb dX4_event_12 (by decide) ?_
    refine gw_iret (rf_T d, π) hx hb hr hlocks (rf_hB hP) hS dX4_event_13 ?_
    exact ⟨rfl, by rw [if_neg (by rw [ok_1]; decide)]⟩
set_option maxHeartbeats 4000000 in
set_option maxRecDepth 100000 in
theorem c_WatchListModel_actionAt (X : rf_X) (hX : gw_inj 18 X.2.1) (d : Nat → Nat → Int32) (π : Nat → Nat)  (ev : Int32) (k : Int32) (hsz : ∀ j, j < 32 → ∃ z, rf_T d 14 j = nI z ∧ z ≤ 256) : Met l yX4_actionAt wsX4_actionAt ({ frames := 2, cells := 0, slots := 0, locals := 42 }) (rf_pre X [.ref (X.2.1 0), .int ev, .int k] d π) (va_Qi (fun r u => u = (rf_T d, π) ∧ r = (if wl_ok ev 32 = true then (if wl_ok k (rf_T d 14 ev.toNatClampNeg) = true then rf_T d 16 (256 * ev.toNatClampNeg + k.toNatClampNeg) &&& 255 else -1) else -1)) (rf_b X) (gw_A 18 X.2.1)) 0 0 (gw_A 18 X.2.1) := by
  refine Met.ofW (cc := cX4_actionAt) (maxL := 3) (ret := (some .int)) (by decide) rfl ?_
  intro p e s m args below meth c s₁ B hml hv
  obtain ⟨rfl, hP, hK, hN⟩ := hv
  have hx := B.exec
  have hb := B.bytes
  have hr := B.returns
  have hts : ∀ w ∈ gG, w.before _ s = true := fun w h => atoms_spec (ws := wsX4_actionAt) B.pre w (List.mem_cons_of_mem _ h)
  have hown : s.vm.findClass RX4 = some m.cls := findClass_of_methodNamed B.named
  have hlocks := B.notSynchronized
  have hS : va_S (gw_A 18 X.2.1) s.heap s.heap [] := va_S.rf
  have hl := lv_entry ([.ref (X.2.1 0), .int ev, .int k]) (n := 3) (Nat.le_of_ble_eq_true rfl)
  rw [lg_entry_eq]
  generalize (lg_sl ([.ref (X.2.1 0), .int ev, .int k]) ++ List.replicate (3 - (lg_sl ([.ref (X.2.1 0), .int ev, .int k])).length) Slot.unset).toArray = ls at hl ⊢
  have hl : lv_has ls 3 [(0, .ref (X.2.1 0)), (1, .int ev), (2, .int k)] := hl
  refine lv_aload_n hx hb dX4_actionAt_0 rfl (lv_at hl 0 rfl) ?_
  refine lv_iconst (v := 0) hx hb dX4_actionAt_1 (by decide) ?_
  refine gw_put hx hb hts inX4 tyX4 okX4 nmX4 hown hK hP hX hS 0 (by decide) rf_c0 rfl 0 (by decide) (hts _ mG_215) (fun _ h9 => h9) rfl (ty := .int) (v := .int 0) (by decide +kernel) rfl rfl (Nat.le_of_ble_eq_true rfl) (cf' := rf_c X (up2 d 0 0 0) π) rfl rf_o dX4_actionAt_2 (fun H locs hP hS => ?_)
  have hP : va_P X.1 vwCl (rf_ws X (rf_T d) π) H := hP
  refine lv_iload_n hx hb dX4_actionAt_5 rfl (lv_at hl 1 rfl) ?_
  refine gw_calli (va_runS (As := [.int ev]) (rest := []) ⟨hx, hb, hml, hown, hts⟩ (c_WatchListModel_isEvent X hX (rf_T d) π ev ) ⟨callB_of 1 hts giX4_isEvent rfl rfl rfl (hts _ mG_26) (hts _ mG_280) pdX4_isEvent ⟨Nat.le_of_ble_eq_true rfl, Nat.le_of_ble_eq_true rfl⟩, hts _ mG_281⟩ ⟨rf_blind, rf_at hP hK hN⟩ rfl rfl hl.1 rfl (lv_room (Nat.le_of_ble_eq_true rfl)) dX4_actionAt_6 ⟨Nat.le_of_ble_eq_true rfl, Nat.le_of_ble_eq_true rfl⟩) hS (fun r_1 u_1 t_1 locs hw hP hS => ?_)
  obtain ⟨rfl, rfl⟩ := hw
  have hP : va_P X.1 vwCl (rf_ws X (rf_T d) π) t_1.heap := hP
  refine lv_if_eq (tgt := 45) hx hb dX4_actionAt_9 (by decide) (fun c_2 => ?_) (fun c_2 => ?_)
  · have ok_1 := wl_if c_2
    refine lv_iconst (v := (-1)) hx hb dX4_actionAt_45 (by decide) ?_
    refine gw_iret (rf_T d, π) hx hb hr hlocks (rf_hB hP) hS dX4_actionAt_46 ?_
    exact ⟨rfl, by rw [if_neg (by rw [ok_1]; decide)]⟩
  · have ok_1 := wl_it c_2
    have hj := wl_ok32c ok_1
    obtain ⟨z, hsz1, hsz2⟩ := hsz _ hj.2
    refine lv_iload_n hx hb dX4_actionAt_12 rfl (lv_at hl 2 rfl) ?_
    refine lv_if_lt (tgt := 45) hx hb dX4_actionAt_13 (by decide) (fun c_3 => ?_) (fun c_3 => ?_)
    · have k_1 := c_3
      refine lv_iconst (v := (-1)) hx hb dX4_actionAt_45 (by decide) ?_
      refine gw_iret (rf_T d, π) hx hb hr hlocks (rf_hB hP) hS dX4_actionAt_46 ?_
      exact ⟨rfl, by rw [if_pos ok_1, if_neg (by rw [wl_ok_lt k_1]; decide)]⟩
    · have k_1 := c_3
      refine lv_iload_n hx hb dX4_actionAt_16 rfl (lv_at hl 2 rfl) ?_
      refine lv_aload_n hx hb dX4_actionAt_17 rfl (lv_at hl 0 rfl) ?_
      refine gw_get hx hb hts inX4 hown hK hP 0 (by decide) rf_c0 rfl 19 (by decide) (hts _ mG_234) (fun _ h9 => h9) (v := .ref (X.2.1 14)) rfl dX4_actionAt_18 ?_
      refine lv_iload_n hx hb dX4_actionAt_21 rfl (lv_at hl 1 rfl) ?_
      refine gw_iald hx hb hK hP 14 0 (by decide) rf_c14 rfl (i := ev) hj.1 dX4_actionAt_22 ?_
      refine lv_icmp_ge (tgt := 45) hx hb dX4_actionAt_23 (by decide) (fun c_4 => ?_) (fun c_4 => ?_)
      · have k_2 := c_4
        refine lv_iconst (v := (-1)) hx hb dX4_actionAt_45 (by decide) ?_
        refine gw_iret (rf_T d, π) hx hb hr hlocks (rf_hB hP) hS dX4_actionAt_46 ?_
        exact ⟨rfl, by rw [if_pos ok_1, if_neg (by rw [wl_ok_ge k_2]; decide)]⟩
      · have k_2 := c_4
        obtain ⟨j, hj3, ej⟩ := wl_ok32 ok_1
        obtain ⟨kk, hk3, ek⟩ := vp_in_of (wl_in_sz k_1 (by rw [← hsz1]; exact k_2) hsz2 (by omega)) (by omega)
        refine lv_aload_n hx hb dX4_actionAt_26 rfl (lv_at hl 0 rfl) ?_
        refine gw_get hx hb hts inX4 hown hK hP 0 (by decide) rf_c0 rfl 21 (by decide) (hts _ mG_236) (fun _ h9 => h9) (v := .ref (X.2.1 16)) rfl dX4_actionAt_27 ?_
        refine lv_sipush (v := 256) hx hb dX4_actionAt_30 (by decide) ?_
        refine lv_iload_n hx hb dX4_actionAt_33 rfl (lv_at hl 1 rfl) ?_
        refine lv_imul hx hb dX4_actionAt_34 ?_
        refine W.eq (g2 := F0 m 35 ls (.int (nI (256 * j)) :: .ref (X.2.1 16) :: [])) (by rw [ej, show (256 : Int32) * nI j = nI (256 * j) from pk_mul 256 j]) ?_
        refine lv_iload_n hx hb dX4_actionAt_35 rfl (lv_at hl 2 rfl) ?_
        refine lv_iadd hx hb dX4_actionAt_36 ?_
        refine W.eq (g2 := F0 m 37 ls (.int (nI (256 * j + kk)) :: .ref (X.2.1 16) :: [])) (by rw [ek, nI_add]) ?_
        refine gw_bald hx hb hK hP 16 2 (by decide) rf_c16 rfl (i := nI (256 * j + kk)) (vp_in_nI (by omega) (by omega)) dX4_actionAt_37 ?_
        refine W.eq (g2 := F0 m 38 ls (.int (rf_T d 16 (256 * j + kk)) :: [])) (by rw [nI_clamp (show 256 * j + kk < 2 ^ 31 by omega)]) ?_
        refine lv_sipush (v := 255) hx hb dX4_actionAt_38 (by decide) ?_
        refine lv_iand hx hb dX4_actionAt_41 ?_
        refine lv_goto (tgt := 46) hx hb dX4_actionAt_42 (by decide) ?_
        refine gw_iret (rf_T d, π) hx hb hr hlocks (rf_hB hP) hS dX4_actionAt_46 ?_
        exact ⟨rfl, by rw [if_pos ok_1, if_pos (wl_ok_t k_1 k_2), ej, ek, nI_clamp (show j < 2 ^ 31 by omega), nI_clamp (show kk < 2 ^ 31 by omega)]⟩
set_option maxHeartbeats 4000000 in
set_option maxRecDepth 100000 in
theorem c_WatchListModel_count (X : rf_X) (hX : gw_inj 18 X.2.1) (d : Nat → Nat → Int32) (π : Nat → Nat)  (w : Int32)  : Met l yX4_count wsX4_count ({ frames := 1, cells := 0, slots := 0, locals := 22 }) (rf_pre X [.ref (X.2.1 0), .int w] d π) (va_Qi (fun r u => u = (rf_T d, π) ∧ r = rf_count (rf_T d) w) (rf_b X) (gw_A 18 X.2.1)) 0 0 (gw_A 18 X.2.1) := by
  refine Met.ofW (cc := cX4_count) (maxL := 2) (ret := (some .int)) (by decide) rfl ?_
  intro p e s m args below meth c s₁ B hml hv
  obtain ⟨rfl, hP, hK, hN⟩ := hv
  have hx := B.exec
  have hb := B.bytes
  have hr := B.returns
  have hts : ∀ w ∈ gG, w.before _ s = true := fun w h => atoms_spec (ws := wsX4_count) B.pre w (List.mem_cons_of_mem _ h)
  have hown : s.vm.findClass RX4 = some m.cls := findClass_of_methodNamed B.named
  have hlocks := B.notSynchronized
  have hS : va_S (gw_A 18 X.2.1) s.heap s.heap [] := va_S.rf
  have hl := lv_entry ([.ref (X.2.1 0), .int w]) (n := 2) (Nat.le_of_ble_eq_true rfl)
  rw [lg_entry_eq]
  generalize (lg_sl ([.ref (X.2.1 0), .int w]) ++ List.replicate (2 - (lg_sl ([.ref (X.2.1 0), .int w])).length) Slot.unset).toArray = ls at hl ⊢
  have hl : lv_has ls 2 [(0, .ref (X.2.1 0)), (1, .int w)] := hl
  refine lv_aload_n hx hb dX4_count_0 rfl (lv_at hl 0 rfl) ?_
  refine lv_iconst (v := 0) hx hb dX4_count_1 (by decide) ?_
  refine gw_put hx hb hts inX4 tyX4 okX4 nmX4 hown hK hP hX hS 0 (by decide) rf_c0 rfl 0 (by decide) (hts _ mG_215) (fun _ h9 => h9) rfl (ty := .int) (v := .int 0) (by decide +kernel) rfl rfl (Nat.le_of_ble_eq_true rfl) (cf' := rf_c X (up2 d 0 0 0) π) rfl rf_o dX4_count_2 (fun H locs hP hS => ?_)
  have hP : va_P X.1 vwCl (rf_ws X (rf_T d) π) H := hP
  refine lv_iload_n hx hb dX4_count_5 rfl (lv_at hl 1 rfl) ?_
  refine lv_if_ne (tgt := 16) hx hb dX4_count_6 (by decide) (fun c_1 => ?_) (fun c_1 => ?_)
  · have w_0 := c_1
    refine lv_iload_n hx hb dX4_count_16 rfl (lv_at hl 1 rfl) ?_
    refine lv_iconst (v := 1) hx hb dX4_count_17 (by decide) ?_
    refine lv_icmp_ne (tgt := 28) hx hb dX4_count_18 (by decide) (fun c_2 => ?_) (fun c_2 => ?_)
    · have w_1 := c_2
      refine lv_iload_n hx hb dX4_count_28 rfl (lv_at hl 1 rfl) ?_
      refine lv_iconst (v := 2) hx hb dX4_count_29 (by decide) ?_
      refine lv_icmp_ne (tgt := 40) hx hb dX4_count_30 (by decide) (fun c_3 => ?_) (fun c_3 => ?_)
      · have w_2 := c_3
        refine lv_iload_n hx hb dX4_count_40 rfl (lv_at hl 1 rfl) ?_
        refine lv_iconst (v := 3) hx hb dX4_count_41 (by decide) ?_
        refine lv_icmp_ne (tgt := 52) hx hb dX4_count_42 (by decide) (fun c_4 => ?_) (fun c_4 => ?_)
        · have w_3 := c_4
          refine lv_iload_n hx hb dX4_count_52 rfl (lv_at hl 1 rfl) ?_
          refine lv_iconst (v := 4) hx hb dX4_count_53 (by decide) ?_
          refine lv_icmp_ne (tgt := 64) hx hb dX4_count_54 (by decide) (fun c_5 => ?_) (fun c_5 => ?_)
          · have w_4 := c_5
            refine lv_iconst (v := (-1)) hx hb dX4_count_64 (by decide) ?_
            refine gw_iret (rf_T d, π) hx hb hr hlocks (rf_hB hP) hS dX4_count_65 ?_
            refine ⟨rfl, ?_⟩; unfold rf_count; rw [if_neg w_0, if_neg w_1, if_neg w_2, if_neg w_3, if_neg w_4]
          · have w_4 := c_5
            refine lv_aload_n hx hb dX4_count_57 rfl (lv_at hl 0 rfl) ?_
            refine gw_get hx hb hts inX4 hown hK hP 0 (by decide) rf_c0 rfl 17 (by decide) (hts _ mG_232) (fun _ h9 => h9) (v := .int ((rf_T d) 0 17)) rfl dX4_count_58 ?_
            refine lv_goto (tgt := 65) hx hb dX4_count_61 (by decide) ?_
            refine gw_iret (rf_T d, π) hx hb hr hlocks (rf_hB hP) hS dX4_count_65 ?_
            refine ⟨rfl, ?_⟩; unfold rf_count; rw [if_neg w_0, if_neg w_1, if_neg w_2, if_neg w_3, if_pos w_4]
        · have w_3 := c_4
          refine lv_aload_n hx hb dX4_count_45 rfl (lv_at hl 0 rfl) ?_
          refine gw_get hx hb hts inX4 hown hK hP 0 (by decide) rf_c0 rfl 16 (by decide) (hts _ mG_231) (fun _ h9 => h9) (v := .int ((rf_T d) 0 16)) rfl dX4_count_46 ?_
          refine lv_goto (tgt := 65) hx hb dX4_count_49 (by decide) ?_
          refine gw_iret (rf_T d, π) hx hb hr hlocks (rf_hB hP) hS dX4_count_65 ?_
          refine ⟨rfl, ?_⟩; unfold rf_count; rw [if_neg w_0, if_neg w_1, if_neg w_2, if_pos w_3]
      · have w_2 := c_3
        refine lv_aload_n hx hb dX4_count_33 rfl (lv_at hl 0 rfl) ?_
        refine gw_get hx hb hts inX4 hown hK hP 0 (by decide) rf_c0 rfl 13 (by decide) (hts _ mG_228) (fun _ h9 => h9) (v := .int ((rf_T d) 0 13)) rfl dX4_count_34 ?_
        refine lv_goto (tgt := 65) hx hb dX4_count_37 (by decide) ?_
        refine gw_iret (rf_T d, π) hx hb hr hlocks (rf_hB hP) hS dX4_count_65 ?_
        refine ⟨rfl, ?_⟩; unfold rf_count; rw [if_neg w_0, if_neg w_1, if_pos w_2]
    · have w_1 := c_2
      refine lv_aload_n hx hb dX4_count_21 rfl (lv_at hl 0 rfl) ?_
      refine gw_get hx hb hts inX4 hown hK hP 0 (by decide) rf_c0 rfl 11 (by decide) (hts _ mG_226) (fun _ h9 => h9) (v := .int ((rf_T d) 0 11)) rfl dX4_count_22 ?_
      refine lv_goto (tgt := 65) hx hb dX4_count_25 (by decide) ?_
      refine gw_iret (rf_T d, π) hx hb hr hlocks (rf_hB hP) hS dX4_count_65 ?_
      refine ⟨rfl, ?_⟩; unfold rf_count; rw [if_neg w_0, if_pos w_1]
  · have w_0 := c_1
    refine lv_aload_n hx hb dX4_count_9 rfl (lv_at hl 0 rfl) ?_
    refine gw_calli (va_runV (As := []) (rest := []) ⟨hx, hb, hml, hown, hts⟩ (c_WatchListModel_limits X hX (rf_T d) π  ) ⟨callB_of 0 hts giX4_limits rfl rfl rfl (hts _ mG_26) (hts _ mG_251) pdX4_limits ⟨Nat.le_of_ble_eq_true rfl, Nat.le_of_ble_eq_true rfl⟩, hts _ mG_252, hts _ mG_18⟩ ⟨rf_blind, gw_recv hK hP 0 (by decide) rf_c0 rfl, rf_at hP hK hN⟩ rfl rfl hl.1 rfl (lv_room (Nat.le_of_ble_eq_true rfl)) dX4_count_10 ⟨Nat.le_of_ble_eq_true rfl, Nat.le_of_ble_eq_true rfl⟩) hS (fun r_6 u_6 t_6 locs hw hP hS => ?_)
    obtain ⟨rfl, rfl⟩ := hw
    have hP : va_P X.1 vwCl (rf_ws X (rf_T d) π) t_6.heap := hP
    refine lv_goto (tgt := 65) hx hb dX4_count_13 (by decide) ?_
    refine gw_iret (rf_T d, π) hx hb hr hlocks (rf_hB hP) hS dX4_count_65 ?_
    refine ⟨rfl, ?_⟩; unfold rf_count; rw [if_pos w_0]

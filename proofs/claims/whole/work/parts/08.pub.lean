variable {l : Launch}
set_option maxHeartbeats 4000000 in
set_option maxRecDepth 100000 in
theorem c_WatchList_set (X : wl_X) (hX : gw_inj 88 X.2.1) (d : Nat → Nat → Int32) (π : Nat → Nat)  (k : Int32) (v : Int32)  : Met l yX3_set wsX3_set ({ frames := 1, cells := 0, slots := 0, locals := 20 }) (wl_pre X [.ref (X.2.1 0), .int k, .int v] d π) (va_Qi (fun r u => r = wl_i (wl_ok k 32) ∧ u = (if wl_ok k 32 = true then up2 d 1 k.toNatClampNeg v else d, π)) (wl_b X) (gw_A 88 X.2.1)) 0 0 (gw_A 88 X.2.1) := by
  refine Met.ofW (cc := cX3_set) (maxL := 3) (ret := (some .boolean)) (by decide) rfl ?_
  intro p e s m args below meth c s₁ B hml hv
  obtain ⟨rfl, hP, hK, hN⟩ := hv
  have hx := B.exec
  have hb := B.bytes
  have hr := B.returns
  have hts : ∀ w ∈ gG, w.before _ s = true := fun w h => atoms_spec (ws := wsX3_set) B.pre w (List.mem_cons_of_mem _ h)
  have hown : s.vm.findClass RX3 = some m.cls := findClass_of_methodNamed B.named
  have hlocks := B.notSynchronized
  have hS : va_S (gw_A 88 X.2.1) s.heap s.heap [] := va_S.rf
  have hl := lv_entry ([.ref (X.2.1 0), .int k, .int v]) (n := 3) (Nat.le_of_ble_eq_true rfl)
  rw [lg_entry_eq]
  generalize (lg_sl ([.ref (X.2.1 0), .int k, .int v]) ++ List.replicate (3 - (lg_sl ([.ref (X.2.1 0), .int k, .int v])).length) Slot.unset).toArray = ls at hl ⊢
  have hl : lv_has ls 3 [(0, .ref (X.2.1 0)), (1, .int k), (2, .int v)] := hl
  refine lv_iload_n hx hb dX3_set_0 rfl (lv_at hl 1 rfl) ?_
  refine gw_calli (va_runS (As := [.int k]) (rest := []) ⟨hx, hb, hml, hown, hts⟩ (c_WatchList_isParameter X hX d π k ) ⟨callB_of 1 hts giX3_isParameter rfl rfl rfl (hts _ mG_22) (hts _ mG_85) pdX3_isParameter ⟨Nat.le_of_ble_eq_true rfl, Nat.le_of_ble_eq_true rfl⟩, hts _ mG_86⟩ ⟨wl_blind, wl_at hP hK hN⟩ rfl rfl hl.1 rfl (lv_room (Nat.le_of_ble_eq_true rfl)) dX3_set_1 ⟨Nat.le_of_ble_eq_true rfl, Nat.le_of_ble_eq_true rfl⟩) hS (fun r_1 u_1 t_1 locs hw hP hS => ?_)
  obtain ⟨rfl, rfl⟩ := hw
  have hP : va_P X.1 vwCl (wl_ws X d π) t_1.heap := hP
  refine lv_if_ne (tgt := 9) hx hb dX3_set_4 (by decide) (fun c_2 => ?_) (fun c_2 => ?_)
  · have ok_1 := wl_it c_2
    have hj := wl_ok32c ok_1
    refine lv_aload_n hx hb dX3_set_9 rfl (lv_at hl 0 rfl) ?_
    refine gw_get hx hb hts inX3 hown hK hP 0 (by decide) wl_c0 rfl 0 (by decide) (hts _ mG_70) (fun _ h9 => h9) (v := .ref (X.2.1 1)) rfl dX3_set_10 ?_
    refine lv_iload_n hx hb dX3_set_13 rfl (lv_at hl 1 rfl) ?_
    refine lv_iload_n hx hb dX3_set_14 rfl (lv_at hl 2 rfl) ?_
    refine gw_iast hx hb hK hP hX hS 1 0 (by decide) wl_c1 rfl (i := k) (x := v) hj.1 (cf' := wl_c X (up2 d 1 k.toNatClampNeg v) π) rfl wl_o dX3_set_15 (fun H locs hP hS => ?_)
    refine lv_iconst (v := 1) hx hb dX3_set_16 (by decide) ?_
    refine gw_zret (up2 d 1 k.toNatClampNeg v, π) hx hb hr hlocks (by decide) (wl_hB hP) hS dX3_set_17 ?_
    constructor <;> (try simp only [ok_1, if_true]) <;> (try rfl)
  · have ok_1 := wl_if c_2
    refine lv_iconst (v := 0) hx hb dX3_set_7 (by decide) ?_
    refine gw_zret (d, π) hx hb hr hlocks (by decide) (wl_hB hP) hS dX3_set_8 ?_
    constructor <;> (try simp only [ok_1, Bool.false_eq_true, if_false]) <;> (try rfl)
set_option maxHeartbeats 4000000 in
set_option maxRecDepth 100000 in
theorem c_WatchList_add (X : wl_X) (hX : gw_inj 88 X.2.1) (d : Nat → Nat → Int32) (π : Nat → Nat)  (id : Int32) (pa : Int32) (ti : Int32) (lo : Int32) (hi2 : Int32) (ev : Int32) (lk : Int32) (hz : lk = 0 ∨ lk = 1) (n : Nat) (hn : d 0 2 = nI n) (hn16 : n ≤ 16) (hπ : ∀ j, j < 16 → π j < 16) : Met l yX3_add wsX3_add ({ frames := 2, cells := 0, slots := 0, locals := 48 }) (wl_pre X [.ref (X.2.1 0), .int id, .int pa, .int ti, .int lo, .int hi2, .int ev, .int lk] d π) (va_Qi (fun r u => (r = 13 ∧ u = (d, π) ∧ wl_bad id pa ti lo hi2 ev = true) ∨ (wl_bad id pa ti lo hi2 ev = false ∧ ((r = 25 ∧ u = (d, π) ∧ ∃ i, i < n ∧ d (8 + π i) 0 = id) ∨ ((∀ j, j < n → ¬ d (8 + π j) 0 = id) ∧ ((r = 26 ∧ u = (d, π) ∧ n = 16) ∨ (r = 0 ∧ n < 16 ∧ ∃ pl, pl ≤ n ∧ (∀ j, pl ≤ j → j < n → id < d (8 + π j) 0) ∧ (0 < pl → d (8 + π (pl - 1)) 0 ≤ id) ∧ u = (wl_beg (up2 d 0 2 (nI (n + 1))) (8 + π n) id pa ti lo hi2 ev lk, va_up (wl_sh π n pl) pl (π n)))))))) (wl_b X) (gw_A 88 X.2.1)) 0 0 (gw_A 88 X.2.1) := by
  refine Met.ofW (cc := cX3_add) (maxL := 10) (ret := (some .int)) (by decide) rfl ?_
  intro p e s m args below meth c s₁ B hml hv
  obtain ⟨rfl, hP, hK, hN⟩ := hv
  have hx := B.exec
  have hb := B.bytes
  have hr := B.returns
  have hts : ∀ w ∈ gG, w.before _ s = true := fun w h => atoms_spec (ws := wsX3_add) B.pre w (List.mem_cons_of_mem _ h)
  have hown : s.vm.findClass RX3 = some m.cls := findClass_of_methodNamed B.named
  have hlocks := B.notSynchronized
  have hS : va_S (gw_A 88 X.2.1) s.heap s.heap [] := va_S.rf
  have hl := lv_entry ([.ref (X.2.1 0), .int id, .int pa, .int ti, .int lo, .int hi2, .int ev, .int lk]) (n := 10) (Nat.le_of_ble_eq_true rfl)
  rw [lg_entry_eq]
  generalize (lg_sl ([.ref (X.2.1 0), .int id, .int pa, .int ti, .int lo, .int hi2, .int ev, .int lk]) ++ List.replicate (10 - (lg_sl ([.ref (X.2.1 0), .int id, .int pa, .int ti, .int lo, .int hi2, .int ev, .int lk])).length) Slot.unset).toArray = ls at hl ⊢
  have hl : lv_has ls 10 [(0, .ref (X.2.1 0)), (1, .int id), (2, .int pa), (3, .int ti), (4, .int lo), (5, .int hi2), (6, .int ev), (7, .int lk)] := hl
  refine lv_iload_n hx hb dX3_add_0 rfl (lv_at hl 1 rfl) ?_
  refine gw_calli (va_runS (As := [.int id]) (rest := []) ⟨hx, hb, hml, hown, hts⟩ (c_WatchList_isId X hX d π id ) ⟨callB_of 1 hts giX3_isId rfl rfl rfl (hts _ mG_22) (hts _ mG_92) pdX3_isId ⟨Nat.le_of_ble_eq_true rfl, Nat.le_of_ble_eq_true rfl⟩, hts _ mG_93⟩ ⟨wl_blind, wl_at hP hK hN⟩ rfl rfl hl.1 rfl (lv_room (Nat.le_of_ble_eq_true rfl)) dX3_add_1 ⟨Nat.le_of_ble_eq_true rfl, Nat.le_of_ble_eq_true rfl⟩) hS (fun r_1 u_1 t_1 locs hw hP hS => ?_)
  obtain ⟨rfl, rfl⟩ := hw
  have hP : va_P X.1 vwCl (wl_ws X d π) t_1.heap := hP
  refine lv_if_eq (tgt := 26) hx hb dX3_add_4 (by decide) (fun c_2 => ?_) (fun c_2 => ?_)
  · have k_1 := wl_if c_2
    refine lv_iconst (v := 0) hx hb dX3_add_26 (by decide) ?_
    refine lv_istore (lv' := [(8, .int 0), (0, .ref (X.2.1 0)), (1, .int id), (2, .int pa), (3, .int ti), (4, .int lo), (5, .int hi2), (6, .int ev), (7, .int lk)]) hx hb dX3_add_27 hl (by decide) rfl (fun ls hl => ?_)
    refine lv_iload hx hb dX3_add_29 (lv_at hl 0 rfl) ?_
    refine lv_if_eq (tgt := 53) hx hb dX3_add_31 (by decide) (fun c_3 => ?_) (fun c_3 => ?_)
    · refine lv_bipush (v := 13) hx hb dX3_add_53 (by decide) ?_
      refine gw_iret (d, π) hx hb hr hlocks (wl_hB hP) hS dX3_add_55 ?_
      exact Or.inl ⟨rfl, rfl, wl_bad1 k_1⟩
    · exact absurd rfl c_3
  · have k_1 := wl_it c_2
    refine lv_iload_n hx hb dX3_add_7 rfl (lv_at hl 2 rfl) ?_
    refine gw_calli (va_runS (As := [.int pa]) (rest := []) ⟨hx, hb, hml, hown, hts⟩ (c_WatchList_isParameter X hX d π pa ) ⟨callB_of 1 hts giX3_isParameter rfl rfl rfl (hts _ mG_22) (hts _ mG_85) pdX3_isParameter ⟨Nat.le_of_ble_eq_true rfl, Nat.le_of_ble_eq_true rfl⟩, hts _ mG_86⟩ ⟨wl_blind, wl_at hP hK hN⟩ rfl rfl hl.1 rfl (lv_room (Nat.le_of_ble_eq_true rfl)) dX3_add_8 ⟨Nat.le_of_ble_eq_true rfl, Nat.le_of_ble_eq_true rfl⟩) hS (fun r_4 u_4 t_4 locs hw hP hS => ?_)
    obtain ⟨rfl, rfl⟩ := hw
    have hP : va_P X.1 vwCl (wl_ws X d π) t_4.heap := hP
    refine lv_if_eq (tgt := 26) hx hb dX3_add_11 (by decide) (fun c_5 => ?_) (fun c_5 => ?_)
    · have k_2 := wl_if c_5
      refine lv_iconst (v := 0) hx hb dX3_add_26 (by decide) ?_
      refine lv_istore (lv' := [(8, .int 0), (0, .ref (X.2.1 0)), (1, .int id), (2, .int pa), (3, .int ti), (4, .int lo), (5, .int hi2), (6, .int ev), (7, .int lk)]) hx hb dX3_add_27 hl (by decide) rfl (fun ls hl => ?_)
      refine lv_iload hx hb dX3_add_29 (lv_at hl 0 rfl) ?_
      refine lv_if_eq (tgt := 53) hx hb dX3_add_31 (by decide) (fun c_6 => ?_) (fun c_6 => ?_)
      · refine lv_bipush (v := 13) hx hb dX3_add_53 (by decide) ?_
        refine gw_iret (d, π) hx hb hr hlocks (wl_hB hP) hS dX3_add_55 ?_
        exact Or.inl ⟨rfl, rfl, wl_bad2 k_2⟩
      · exact absurd rfl c_6
    · have k_2 := wl_it c_5
      refine lv_iload hx hb dX3_add_14 (lv_at hl 6 rfl) ?_
      refine gw_calli (va_runS (As := [.int ev]) (rest := []) ⟨hx, hb, hml, hown, hts⟩ (c_WatchList_isEvent X hX d π ev ) ⟨callB_of 1 hts giX3_isEvent rfl rfl rfl (hts _ mG_22) (hts _ mG_95) pdX3_isEvent ⟨Nat.le_of_ble_eq_true rfl, Nat.le_of_ble_eq_true rfl⟩, hts _ mG_96⟩ ⟨wl_blind, wl_at hP hK hN⟩ rfl rfl hl.1 rfl (lv_room (Nat.le_of_ble_eq_true rfl)) dX3_add_16 ⟨Nat.le_of_ble_eq_true rfl, Nat.le_of_ble_eq_true rfl⟩) hS (fun r_7 u_7 t_7 locs hw hP hS => ?_)
      obtain ⟨rfl, rfl⟩ := hw
      have hP : va_P X.1 vwCl (wl_ws X d π) t_7.heap := hP
      refine lv_if_eq (tgt := 26) hx hb dX3_add_19 (by decide) (fun c_8 => ?_) (fun c_8 => ?_)
      · have k_3 := wl_if c_8
        refine lv_iconst (v := 0) hx hb dX3_add_26 (by decide) ?_
        refine lv_istore (lv' := [(8, .int 0), (0, .ref (X.2.1 0)), (1, .int id), (2, .int pa), (3, .int ti), (4, .int lo), (5, .int hi2), (6, .int ev), (7, .int lk)]) hx hb dX3_add_27 hl (by decide) rfl (fun ls hl => ?_)
        refine lv_iload hx hb dX3_add_29 (lv_at hl 0 rfl) ?_
        refine lv_if_eq (tgt := 53) hx hb dX3_add_31 (by decide) (fun c_9 => ?_) (fun c_9 => ?_)
        · refine lv_bipush (v := 13) hx hb dX3_add_53 (by decide) ?_
          refine gw_iret (d, π) hx hb hr hlocks (wl_hB hP) hS dX3_add_55 ?_
          exact Or.inl ⟨rfl, rfl, wl_bad3 k_3⟩
        · exact absurd rfl c_9
      · have k_3 := wl_it c_8
        refine lv_iconst (v := 1) hx hb dX3_add_22 (by decide) ?_
        refine lv_goto (tgt := 27) hx hb dX3_add_23 (by decide) ?_
        refine lv_istore (lv' := [(8, .int 1), (0, .ref (X.2.1 0)), (1, .int id), (2, .int pa), (3, .int ti), (4, .int lo), (5, .int hi2), (6, .int ev), (7, .int lk)]) hx hb dX3_add_27 hl (by decide) rfl (fun ls hl => ?_)
        refine lv_iload hx hb dX3_add_29 (lv_at hl 0 rfl) ?_
        refine lv_if_eq (tgt := 53) hx hb dX3_add_31 (by decide) (fun c_10 => ?_) (fun c_10 => ?_)
        · exact absurd c_10 (by decide)
        · refine lv_iload_n hx hb dX3_add_34 rfl (lv_at hl 4 rfl) ?_
          refine lv_iconst (v := 1) hx hb dX3_add_35 (by decide) ?_
          refine lv_icmp_lt (tgt := 53) hx hb dX3_add_36 (by decide) (fun c_11 => ?_) (fun c_11 => ?_)
          · have t_1 := c_11
            refine lv_bipush (v := 13) hx hb dX3_add_53 (by decide) ?_
            refine gw_iret (d, π) hx hb hr hlocks (wl_hB hP) hS dX3_add_55 ?_
            exact Or.inl ⟨rfl, rfl, wl_bad4 t_1⟩
          · have t_1 := c_11
            refine lv_iload_n hx hb dX3_add_39 rfl (lv_at hl 4 rfl) ?_
            refine lv_sipush (v := 255) hx hb dX3_add_40 (by decide) ?_
            refine lv_icmp_gt (tgt := 53) hx hb dX3_add_43 (by decide) (fun c_12 => ?_) (fun c_12 => ?_)
            · have t_2 := c_12
              refine lv_bipush (v := 13) hx hb dX3_add_53 (by decide) ?_
              refine gw_iret (d, π) hx hb hr hlocks (wl_hB hP) hS dX3_add_55 ?_
              exact Or.inl ⟨rfl, rfl, wl_bad5 t_2⟩
            · have t_2 := c_12
              refine lv_iload hx hb dX3_add_46 (lv_at hl 5 rfl) ?_
              refine lv_iload hx hb dX3_add_48 (lv_at hl 6 rfl) ?_
              refine lv_icmp_le (tgt := 56) hx hb dX3_add_50 (by decide) (fun c_13 => ?_) (fun c_13 => ?_)
              · have t_3 := c_13
                refine lv_aload_n hx hb dX3_add_56 rfl (lv_at hl 1 rfl) ?_
                refine lv_iload_n hx hb dX3_add_57 rfl (lv_at hl 2 rfl) ?_
                refine gw_calli (va_runV (As := [.int id]) (rest := []) ⟨hx, hb, hml, hown, hts⟩ (c_WatchList_placeOf X hX d π id n hn hn16 hπ) ⟨callB_of 1 hts giX3_placeOf rfl rfl rfl (hts _ mG_22) (hts _ mG_98) pdX3_placeOf ⟨Nat.le_of_ble_eq_true rfl, Nat.le_of_ble_eq_true rfl⟩, hts _ mG_99, hts _ mG_0⟩ ⟨wl_blind, gw_recv hK hP 0 (by decide) wl_c0 rfl, wl_at hP hK hN⟩ rfl rfl hl.1 rfl (lv_room (Nat.le_of_ble_eq_true rfl)) dX3_add_58 ⟨Nat.le_of_ble_eq_true rfl, Nat.le_of_ble_eq_true rfl⟩) hS (fun r_14 u_14 t_14 locs hw hP hS => ?_)
                obtain ⟨rfl, hpo⟩ := hw
                have hP : va_P X.1 vwCl (wl_ws X d π) t_14.heap := hP
                refine lv_iconst (v := (-1)) hx hb dX3_add_61 (by decide) ?_
                refine lv_icmp_eq (tgt := 68) hx hb dX3_add_62 (by decide) (fun c_15 => ?_) (fun c_15 => ?_)
                · have hnone := (hpo.resolve_left (fun ⟨i, hi, ei, _⟩ => wl_nm1 (by omega) (ei.symm.trans c_15))).2
                  refine lv_aload_n hx hb dX3_add_68 rfl (lv_at hl 1 rfl) ?_
                  refine gw_get hx hb hts inX3 hown hK hP 0 (by decide) wl_c0 rfl 2 (by decide) (hts _ mG_72) (fun _ h9 => h9) (v := .int (d 0 2)) rfl dX3_add_69 ?_
                  refine lv_bipush (v := 16) hx hb dX3_add_72 (by decide) ?_
                  refine lv_icmp_lt (tgt := 80) hx hb dX3_add_74 (by decide) (fun c_16 => ?_) (fun c_16 => ?_)
                  · have hlt16 : n < 16 := wl_lt16 hn c_16 hn16
                    refine lv_aload_n hx hb dX3_add_80 rfl (lv_at hl 1 rfl) ?_
                    refine lv_iload_n hx hb dX3_add_81 rfl (lv_at hl 2 rfl) ?_
                    refine gw_callr (va_runV (As := [.int id]) (rest := []) ⟨hx, hb, hml, hown, hts⟩ (c_WatchList_openPlaceFor X hX d π id n hn hlt16 hπ) ⟨callB_of 1 hts giX3_openPlaceFor rfl rfl rfl (hts _ mG_22) (hts _ mG_101) pdX3_openPlaceFor ⟨Nat.le_of_ble_eq_true rfl, Nat.le_of_ble_eq_true rfl⟩, hts _ mG_102, hts _ mG_1⟩ ⟨wl_blind, gw_recv hK hP 0 (by decide) wl_c0 rfl, wl_at hP hK hN⟩ rfl rfl hl.1 rfl (lv_room (Nat.le_of_ble_eq_true rfl)) dX3_add_82 ⟨Nat.le_of_ble_eq_true rfl, Nat.le_of_ble_eq_true rfl⟩) hS (fun u_17 a_17 t_17 locs hw hP hS => ?_)
                    obtain ⟨d_17, π_17, k_17⟩ := u_17
                    obtain ⟨hk_17, pl, hpl1, hpl2, hpl3, hd_17, hp_17⟩ := hw
                    obtain ⟨ha_17, hP⟩ := hP
                    dsimp only at hk_17 hd_17 hp_17 ha_17
                    subst hk_17 hd_17 hp_17 ha_17
                    have hP : va_P X.1 vwCl (wl_ws X (up2 d 0 2 (nI (n + 1))) (va_up (wl_sh π n pl) pl (π n))) t_17.heap := hP
                    refine lv_astore (lv' := [(9, .ref (X.2.1 (8 + (π n)))), (8, .int 1), (0, .ref (X.2.1 0)), (1, .int id), (2, .int pa), (3, .int ti), (4, .int lo), (5, .int hi2), (6, .int ev), (7, .int lk)]) hx hb dX3_add_85 hl (by decide) rfl (fun ls hl => ?_)
                    refine lv_aload hx hb dX3_add_87 (lv_at hl 0 rfl) ?_
                    refine lv_iload_n hx hb dX3_add_89 rfl (lv_at hl 3 rfl) ?_
                    refine lv_iload_n hx hb dX3_add_90 rfl (lv_at hl 4 rfl) ?_
                    refine lv_iload_n hx hb dX3_add_91 rfl (lv_at hl 5 rfl) ?_
                    refine lv_iload hx hb dX3_add_92 (lv_at hl 6 rfl) ?_
                    refine lv_iload hx hb dX3_add_94 (lv_at hl 7 rfl) ?_
                    refine lv_iload hx hb dX3_add_96 (lv_at hl 8 rfl) ?_
                    refine lv_iload hx hb dX3_add_98 (lv_at hl 9 rfl) ?_
                    refine gw_callv (va_runVN (As := [.int id, .int pa, .int ti, .int lo, .int hi2, .int ev, .int lk]) (rest := []) ⟨hx, hb, hml, hown, hts⟩ (c_Limit_begin X hX (up2 d 0 2 (nI (n + 1))) (va_up (wl_sh π n pl) pl (π n)) (π n) (hπ n hlt16) id pa ti lo hi2 ev lk hz) ⟨va_cnB 7 hts giX1_begin rfl rfl rfl (hN _ (List.mem_of_getElem? (i := 12) rfl)) (hts _ mG_24) pdX1_begin ⟨Nat.le_of_ble_eq_true rfl, Nat.le_of_ble_eq_true rfl⟩, hts _ mG_104, hts _ mG_2⟩ ⟨wl_blind, gw_recv hK hP (8 + (π n)) (wl_kL (hπ n hlt16)) (wl_cL (hπ n hlt16)) rfl, wl_at hP hK hN⟩ rfl rfl hl.1 rfl (lv_room (Nat.le_of_ble_eq_true rfl)) dX3_add_100 ⟨Nat.le_of_ble_eq_true rfl, Nat.le_of_ble_eq_true rfl⟩) hS (fun u_18 t_18 locs hw hP hS => ?_)
                    obtain rfl := hw
                    have hP : va_P X.1 vwCl (wl_ws X (wl_beg (up2 d 0 2 (nI (n + 1))) (8 + (π n)) id pa ti lo hi2 ev lk) (va_up (wl_sh π n pl) pl (π n))) t_18.heap := hP
                    refine lv_iconst (v := 0) hx hb dX3_add_103 (by decide) ?_
                    refine gw_iret (wl_beg (up2 d 0 2 (nI (n + 1))) (8 + (π n)) id pa ti lo hi2 ev lk, va_up (wl_sh π n pl) pl (π n)) hx hb hr hlocks (wl_hB hP) hS dX3_add_104 ?_
                    exact Or.inr ⟨wl_good k_1 k_2 k_3 t_1 t_2 t_3, Or.inr ⟨hnone, Or.inr ⟨rfl, hlt16, pl, hpl1, hpl2, hpl3, rfl⟩⟩⟩
                  · have h16 : n = 16 := wl_ge16 hn c_16 hn16
                    refine lv_bipush (v := 26) hx hb dX3_add_77 (by decide) ?_
                    refine gw_iret (d, π) hx hb hr hlocks (wl_hB hP) hS dX3_add_79 ?_
                    exact Or.inr ⟨wl_good k_1 k_2 k_3 t_1 t_2 t_3, Or.inr ⟨hnone, Or.inl ⟨rfl, rfl, h16⟩⟩⟩
                · obtain ⟨i, hi, ei, hid, hfst⟩ := hpo.resolve_right (fun z => c_15 z.1)
                  subst ei
                  refine lv_bipush (v := 25) hx hb dX3_add_65 (by decide) ?_
                  refine gw_iret (d, π) hx hb hr hlocks (wl_hB hP) hS dX3_add_67 ?_
                  exact Or.inr ⟨wl_good k_1 k_2 k_3 t_1 t_2 t_3, Or.inl ⟨rfl, rfl, i, hi, hid⟩⟩
              · have t_3 := c_13
                refine lv_bipush (v := 13) hx hb dX3_add_53 (by decide) ?_
                refine gw_iret (d, π) hx hb hr hlocks (wl_hB hP) hS dX3_add_55 ?_
                exact Or.inl ⟨rfl, rfl, wl_bad6 t_3⟩
set_option maxHeartbeats 4000000 in
set_option maxRecDepth 100000 in
theorem c_WatchList_remove (X : wl_X) (hX : gw_inj 88 X.2.1) (d : Nat → Nat → Int32) (π : Nat → Nat)  (id : Int32) (n : Nat) (hn : d 0 2 = nI n) (hn16 : n ≤ 16) (hπ : ∀ j, j < 16 → π j < 16) : Met l yX3_remove wsX3_remove ({ frames := 1, cells := 0, slots := 0, locals := 23 }) (wl_pre X [.ref (X.2.1 0), .int id] d π) (va_Qi (fun r u => (r = 27 ∧ u = (d, π) ∧ ∀ j, j < n → ¬ d (8 + π j) 0 = id) ∨ ∃ i, i < n ∧ d (8 + π i) 0 = id ∧ (∀ j, j < i → ¬ d (8 + π j) 0 = id) ∧ ((r = 15 ∧ u = (d, π) ∧ ¬ d (8 + π i) 7 = 0) ∨ (r = 0 ∧ d (8 + π i) 7 = 0 ∧ u = (up2 d 0 2 (nI (n - 1)), va_up (wl_sl π i (n - 1)) (n - 1) (π i))))) (wl_b X) (gw_A 88 X.2.1)) 0 0 (gw_A 88 X.2.1) := by
  refine Met.ofW (cc := cX3_remove) (maxL := 3) (ret := (some .int)) (by decide) rfl ?_
  intro p e s m args below meth c s₁ B hml hv
  obtain ⟨rfl, hP, hK, hN⟩ := hv
  have hx := B.exec
  have hb := B.bytes
  have hr := B.returns
  have hts : ∀ w ∈ gG, w.before _ s = true := fun w h => atoms_spec (ws := wsX3_remove) B.pre w (List.mem_cons_of_mem _ h)
  have hown : s.vm.findClass RX3 = some m.cls := findClass_of_methodNamed B.named
  have hlocks := B.notSynchronized
  have hS : va_S (gw_A 88 X.2.1) s.heap s.heap [] := va_S.rf
  have hl := lv_entry ([.ref (X.2.1 0), .int id]) (n := 3) (Nat.le_of_ble_eq_true rfl)
  rw [lg_entry_eq]
  generalize (lg_sl ([.ref (X.2.1 0), .int id]) ++ List.replicate (3 - (lg_sl ([.ref (X.2.1 0), .int id])).length) Slot.unset).toArray = ls at hl ⊢
  have hl : lv_has ls 3 [(0, .ref (X.2.1 0)), (1, .int id)] := hl
  refine lv_aload_n hx hb dX3_remove_0 rfl (lv_at hl 0 rfl) ?_
  refine lv_iload_n hx hb dX3_remove_1 rfl (lv_at hl 1 rfl) ?_
  refine gw_calli (va_runV (As := [.int id]) (rest := []) ⟨hx, hb, hml, hown, hts⟩ (c_WatchList_placeOf X hX d π id n hn hn16 hπ) ⟨callB_of 1 hts giX3_placeOf rfl rfl rfl (hts _ mG_22) (hts _ mG_98) pdX3_placeOf ⟨Nat.le_of_ble_eq_true rfl, Nat.le_of_ble_eq_true rfl⟩, hts _ mG_99, hts _ mG_0⟩ ⟨wl_blind, gw_recv hK hP 0 (by decide) wl_c0 rfl, wl_at hP hK hN⟩ rfl rfl hl.1 rfl (lv_room (Nat.le_of_ble_eq_true rfl)) dX3_remove_2 ⟨Nat.le_of_ble_eq_true rfl, Nat.le_of_ble_eq_true rfl⟩) hS (fun r_1 u_1 t_1 locs hw hP hS => ?_)
  obtain ⟨rfl, hpo⟩ := hw
  have hP : va_P X.1 vwCl (wl_ws X d π) t_1.heap := hP
  refine lv_istore_n (lv' := [(2, .int r_1), (0, .ref (X.2.1 0)), (1, .int id)]) hx hb dX3_remove_5 rfl hl (by decide) rfl (fun ls hl => ?_)
  refine lv_iload_n hx hb dX3_remove_6 rfl (lv_at hl 0 rfl) ?_
  refine lv_iconst (v := (-1)) hx hb dX3_remove_7 (by decide) ?_
  refine lv_icmp_ne (tgt := 14) hx hb dX3_remove_8 (by decide) (fun c_2 => ?_) (fun c_2 => ?_)
  · obtain ⟨i, hi, ei, hid, hfst⟩ := hpo.resolve_right (fun z => c_2 z.1)
    subst ei
    refine lv_aload_n hx hb dX3_remove_14 rfl (lv_at hl 1 rfl) ?_
    refine gw_get hx hb hts inX3 hown hK hP 0 (by decide) wl_c0 rfl 1 (by decide) (hts _ mG_71) (fun _ h9 => h9) (v := .ref (X.2.1 2)) rfl dX3_remove_15 ?_
    refine lv_iload_n hx hb dX3_remove_18 rfl (lv_at hl 0 rfl) ?_
    refine gw_aald hx hb hK hP 2 2 (by decide) wl_c2 rfl (i := nI i) (vp_in_nI (by omega) (by omega)) (k := 8 + (π i)) (by show some (X.2.1 (8 + π (nI i).toNatClampNeg)) = _; rw [nI_clamp (by omega)]) dX3_remove_19 ?_
    refine gw_getN hx hb hts inX1 hown hK hP (8 + (π i)) (wl_kL (hπ i (by omega))) (wl_cL (hπ i (by omega))) rfl 7 (by decide) (hN _ (List.mem_of_getElem? (i := 7) rfl)) (fun _ h9 => h9) (v := .int (d (8 + (π i)) 7)) rfl dX3_remove_20 ?_
    refine lv_if_eq (tgt := 29) hx hb dX3_remove_23 (by decide) (fun c_3 => ?_) (fun c_3 => ?_)
    · have on_1 := c_3
      refine lv_aload_n hx hb dX3_remove_29 rfl (lv_at hl 1 rfl) ?_
      refine lv_iload_n hx hb dX3_remove_30 rfl (lv_at hl 0 rfl) ?_
      refine gw_callv (va_runV (As := [.int (nI i)]) (rest := []) ⟨hx, hb, hml, hown, hts⟩ (c_WatchList_closePlace X hX d π i n hn hn16 hi hπ) ⟨callB_of 1 hts giX3_closePlace rfl rfl rfl (hts _ mG_22) (hts _ mG_113) pdX3_closePlace ⟨Nat.le_of_ble_eq_true rfl, Nat.le_of_ble_eq_true rfl⟩, hts _ mG_114, hts _ mG_4⟩ ⟨wl_blind, gw_recv hK hP 0 (by decide) wl_c0 rfl, wl_at hP hK hN⟩ rfl rfl hl.1 rfl (lv_room (Nat.le_of_ble_eq_true rfl)) dX3_remove_31 ⟨Nat.le_of_ble_eq_true rfl, Nat.le_of_ble_eq_true rfl⟩) hS (fun u_4 t_4 locs hw hP hS => ?_)
      obtain rfl := hw
      have hP : va_P X.1 vwCl (wl_ws X (up2 d 0 2 (nI (n - 1))) (va_up (wl_sl π i (n - 1)) (n - 1) (π i))) t_4.heap := hP
      refine lv_iconst (v := 0) hx hb dX3_remove_34 (by decide) ?_
      refine gw_iret (up2 d 0 2 (nI (n - 1)), va_up (wl_sl π i (n - 1)) (n - 1) (π i)) hx hb hr hlocks (wl_hB hP) hS dX3_remove_35 ?_
      exact Or.inr ⟨i, hi, hid, hfst, Or.inr ⟨rfl, on_1, rfl⟩⟩
    · have on_1 := c_3
      refine lv_bipush (v := 15) hx hb dX3_remove_26 (by decide) ?_
      refine gw_iret (d, π) hx hb hr hlocks (wl_hB hP) hS dX3_remove_28 ?_
      exact Or.inr ⟨i, hi, hid, hfst, Or.inl ⟨rfl, rfl, on_1⟩⟩
  · have hnone := (hpo.resolve_left (fun ⟨i, hi, ei, _⟩ => wl_nm1 (by omega) (ei.symm.trans c_2))).2
    refine lv_bipush (v := 27) hx hb dX3_remove_11 (by decide) ?_
    refine gw_iret (d, π) hx hb hr hlocks (wl_hB hP) hS dX3_remove_13 ?_
    exact Or.inl ⟨rfl, rfl, hnone⟩
set_option maxHeartbeats 4000000 in
set_option maxRecDepth 100000 in
theorem c_WatchList_enable (X : wl_X) (hX : gw_inj 88 X.2.1) (d : Nat → Nat → Int32) (π : Nat → Nat)  (id : Int32) (on : Int32) (hz : on = 0 ∨ on = 1) (n : Nat) (hn : d 0 2 = nI n) (hn16 : n ≤ 16) (hπ : ∀ j, j < 16 → π j < 16) : Met l yX3_enable wsX3_enable ({ frames := 1, cells := 0, slots := 0, locals := 22 }) (wl_pre X [.ref (X.2.1 0), .int id, .int on] d π) (va_Qi (fun r u => (r = 27 ∧ u = (d, π) ∧ ∀ j, j < n → ¬ d (8 + π j) 0 = id) ∨ (r = 0 ∧ ∃ i, i < n ∧ d (8 + π i) 0 = id ∧ (∀ j, j < i → ¬ d (8 + π j) 0 = id) ∧ u = (up2 (up2 d (8 + π i) 7 on) (8 + π i) 8 0, π))) (wl_b X) (gw_A 88 X.2.1)) 0 0 (gw_A 88 X.2.1) := by
  refine Met.ofW (cc := cX3_enable) (maxL := 4) (ret := (some .int)) (by decide) rfl ?_
  intro p e s m args below meth c s₁ B hml hv
  obtain ⟨rfl, hP, hK, hN⟩ := hv
  have hx := B.exec
  have hb := B.bytes
  have hr := B.returns
  have hts : ∀ w ∈ gG, w.before _ s = true := fun w h => atoms_spec (ws := wsX3_enable) B.pre w (List.mem_cons_of_mem _ h)
  have hown : s.vm.findClass RX3 = some m.cls := findClass_of_methodNamed B.named
  have hlocks := B.notSynchronized
  have hS : va_S (gw_A 88 X.2.1) s.heap s.heap [] := va_S.rf
  have hl := lv_entry ([.ref (X.2.1 0), .int id, .int on]) (n := 4) (Nat.le_of_ble_eq_true rfl)
  rw [lg_entry_eq]
  generalize (lg_sl ([.ref (X.2.1 0), .int id, .int on]) ++ List.replicate (4 - (lg_sl ([.ref (X.2.1 0), .int id, .int on])).length) Slot.unset).toArray = ls at hl ⊢
  have hl : lv_has ls 4 [(0, .ref (X.2.1 0)), (1, .int id), (2, .int on)] := hl
  refine lv_aload_n hx hb dX3_enable_0 rfl (lv_at hl 0 rfl) ?_
  refine lv_iload_n hx hb dX3_enable_1 rfl (lv_at hl 1 rfl) ?_
  refine gw_calli (va_runV (As := [.int id]) (rest := []) ⟨hx, hb, hml, hown, hts⟩ (c_WatchList_placeOf X hX d π id n hn hn16 hπ) ⟨callB_of 1 hts giX3_placeOf rfl rfl rfl (hts _ mG_22) (hts _ mG_98) pdX3_placeOf ⟨Nat.le_of_ble_eq_true rfl, Nat.le_of_ble_eq_true rfl⟩, hts _ mG_99, hts _ mG_0⟩ ⟨wl_blind, gw_recv hK hP 0 (by decide) wl_c0 rfl, wl_at hP hK hN⟩ rfl rfl hl.1 rfl (lv_room (Nat.le_of_ble_eq_true rfl)) dX3_enable_2 ⟨Nat.le_of_ble_eq_true rfl, Nat.le_of_ble_eq_true rfl⟩) hS (fun r_1 u_1 t_1 locs hw hP hS => ?_)
  obtain ⟨rfl, hpo⟩ := hw
  have hP : va_P X.1 vwCl (wl_ws X d π) t_1.heap := hP
  refine lv_istore_n (lv' := [(3, .int r_1), (0, .ref (X.2.1 0)), (1, .int id), (2, .int on)]) hx hb dX3_enable_5 rfl hl (by decide) rfl (fun ls hl => ?_)
  refine lv_iload_n hx hb dX3_enable_6 rfl (lv_at hl 0 rfl) ?_
  refine lv_iconst (v := (-1)) hx hb dX3_enable_7 (by decide) ?_
  refine lv_icmp_ne (tgt := 14) hx hb dX3_enable_8 (by decide) (fun c_2 => ?_) (fun c_2 => ?_)
  · obtain ⟨i, hi, ei, hid, hfst⟩ := hpo.resolve_right (fun z => c_2 z.1)
    subst ei
    refine lv_aload_n hx hb dX3_enable_14 rfl (lv_at hl 1 rfl) ?_
    refine gw_get hx hb hts inX3 hown hK hP 0 (by decide) wl_c0 rfl 1 (by decide) (hts _ mG_71) (fun _ h9 => h9) (v := .ref (X.2.1 2)) rfl dX3_enable_15 ?_
    refine lv_iload_n hx hb dX3_enable_18 rfl (lv_at hl 0 rfl) ?_
    refine gw_aald hx hb hK hP 2 2 (by decide) wl_c2 rfl (i := nI i) (vp_in_nI (by omega) (by omega)) (k := 8 + (π i)) (by show some (X.2.1 (8 + π (nI i).toNatClampNeg)) = _; rw [nI_clamp (by omega)]) dX3_enable_19 ?_
    refine lv_iload_n hx hb dX3_enable_20 rfl (lv_at hl 3 rfl) ?_
    refine gw_callv (va_runVN (As := [.int on]) (rest := []) ⟨hx, hb, hml, hown, hts⟩ (c_Limit_turn X hX d π (π i) (hπ i (by omega)) on hz) ⟨va_cnB 1 hts giX1_turn rfl rfl rfl (hN _ (List.mem_of_getElem? (i := 13) rfl)) (hts _ mG_24) pdX1_turn ⟨Nat.le_of_ble_eq_true rfl, Nat.le_of_ble_eq_true rfl⟩, hts _ mG_107, hts _ mG_3⟩ ⟨wl_blind, gw_recv hK hP (8 + (π i)) (wl_kL (hπ i (by omega))) (wl_cL (hπ i (by omega))) rfl, wl_at hP hK hN⟩ rfl rfl hl.1 rfl (lv_room (Nat.le_of_ble_eq_true rfl)) dX3_enable_21 ⟨Nat.le_of_ble_eq_true rfl, Nat.le_of_ble_eq_true rfl⟩) hS (fun u_3 t_3 locs hw hP hS => ?_)
    obtain rfl := hw
    have hP : va_P X.1 vwCl (wl_ws X (up2 (up2 d (8 + (π i)) 7 on) (8 + (π i)) 8 0) π) t_3.heap := hP
    refine lv_iconst (v := 0) hx hb dX3_enable_24 (by decide) ?_
    refine gw_iret (up2 (up2 d (8 + (π i)) 7 on) (8 + (π i)) 8 0, π) hx hb hr hlocks (wl_hB hP) hS dX3_enable_25 ?_
    exact Or.inr ⟨rfl, i, hi, hid, hfst, rfl⟩
  · have hnone := (hpo.resolve_left (fun ⟨i, hi, ei, _⟩ => wl_nm1 (by omega) (ei.symm.trans c_2))).2
    refine lv_bipush (v := 27) hx hb dX3_enable_11 (by decide) ?_
    refine gw_iret (d, π) hx hb hr hlocks (wl_hB hP) hS dX3_enable_13 ?_
    exact Or.inl ⟨rfl, rfl, hnone⟩
set_option maxHeartbeats 4000000 in
set_option maxRecDepth 100000 in
theorem c_WatchList_linked (X : wl_X) (hX : gw_inj 88 X.2.1) (d : Nat → Nat → Int32) (π : Nat → Nat)   (hz : d 0 4 = 0 ∨ d 0 4 = 1) : Met l yX3_linked wsX3_linked ({ frames := 0, cells := 0, slots := 0, locals := 0 }) (wl_pre X [.ref (X.2.1 0)] d π) (va_Qi (fun r u => r = d 0 4 ∧ u = (d, π)) (wl_b X) (gw_A 88 X.2.1)) 0 0 (gw_A 88 X.2.1) := by
  refine Met.ofW (cc := cX3_linked) (maxL := 1) (ret := (some .boolean)) (by decide) rfl ?_
  intro p e s m args below meth c s₁ B hml hv
  obtain ⟨rfl, hP, hK, hN⟩ := hv
  have hx := B.exec
  have hb := B.bytes
  have hr := B.returns
  have hts : ∀ w ∈ gG, w.before _ s = true := fun w h => atoms_spec (ws := wsX3_linked) B.pre w (List.mem_cons_of_mem _ h)
  have hown : s.vm.findClass RX3 = some m.cls := findClass_of_methodNamed B.named
  have hlocks := B.notSynchronized
  have hS : va_S (gw_A 88 X.2.1) s.heap s.heap [] := va_S.rf
  have hl := lv_entry ([.ref (X.2.1 0)]) (n := 1) (Nat.le_of_ble_eq_true rfl)
  rw [lg_entry_eq]
  generalize (lg_sl ([.ref (X.2.1 0)]) ++ List.replicate (1 - (lg_sl ([.ref (X.2.1 0)])).length) Slot.unset).toArray = ls at hl ⊢
  have hl : lv_has ls 1 [(0, .ref (X.2.1 0))] := hl
  refine lv_aload_n hx hb dX3_linked_0 rfl (lv_at hl 0 rfl) ?_
  refine gw_get hx hb hts inX3 hown hK hP 0 (by decide) wl_c0 rfl 4 (by decide) (hts _ mG_74) (fun _ h9 => h9) (v := .int (d 0 4)) rfl dX3_linked_1 ?_
  refine gw_zret (d, π) hx hb hr hlocks hz (wl_hB hP) hS dX3_linked_4 ?_
  exact ⟨rfl, rfl⟩
set_option maxHeartbeats 4000000 in
set_option maxRecDepth 100000 in
theorem c_WatchList_raise (X : wl_X) (hX : gw_inj 88 X.2.1) (d : Nat → Nat → Int32) (π : Nat → Nat)  (ev : Int32) (nu : Int32) (f : Nat) (q : Nat) (hf : d 4 2 = nI f) (hq : d 4 3 = nI q) (hf6 : f < 64) (hq6 : q ≤ 64) : Met l yX3_raise wsX3_raise ({ frames := 2, cells := 0, slots := 0, locals := 45 }) (wl_pre X [.ref (X.2.1 0), .int ev, .int nu] d π) (va_Qi (fun r u => (wl_ok ev 32 = true → r = wl_i (decide (q < 64)) ∧ u = (wl_wol d f q ev nu, π)) ∧ (wl_ok ev 32 = false → r = 0 ∧ u = (d, π))) (wl_b X) (gw_A 88 X.2.1)) 0 0 (gw_A 88 X.2.1) := by
  refine Met.ofW (cc := cX3_raise) (maxL := 3) (ret := (some .boolean)) (by decide) rfl ?_
  intro p e s m args below meth c s₁ B hml hv
  obtain ⟨rfl, hP, hK, hN⟩ := hv
  have hx := B.exec
  have hb := B.bytes
  have hr := B.returns
  have hts : ∀ w ∈ gG, w.before _ s = true := fun w h => atoms_spec (ws := wsX3_raise) B.pre w (List.mem_cons_of_mem _ h)
  have hown : s.vm.findClass RX3 = some m.cls := findClass_of_methodNamed B.named
  have hlocks := B.notSynchronized
  have hS : va_S (gw_A 88 X.2.1) s.heap s.heap [] := va_S.rf
  have hl := lv_entry ([.ref (X.2.1 0), .int ev, .int nu]) (n := 3) (Nat.le_of_ble_eq_true rfl)
  rw [lg_entry_eq]
  generalize (lg_sl ([.ref (X.2.1 0), .int ev, .int nu]) ++ List.replicate (3 - (lg_sl ([.ref (X.2.1 0), .int ev, .int nu])).length) Slot.unset).toArray = ls at hl ⊢
  have hl : lv_has ls 3 [(0, .ref (X.2.1 0)), (1, .int ev), (2, .int nu)] := hl
  refine lv_iload_n hx hb dX3_raise_0 rfl (lv_at hl 1 rfl) ?_
  refine gw_calli (va_runS (As := [.int ev]) (rest := []) ⟨hx, hb, hml, hown, hts⟩ (c_WatchList_isEvent X hX d π ev ) ⟨callB_of 1 hts giX3_isEvent rfl rfl rfl (hts _ mG_22) (hts _ mG_95) pdX3_isEvent ⟨Nat.le_of_ble_eq_true rfl, Nat.le_of_ble_eq_true rfl⟩, hts _ mG_96⟩ ⟨wl_blind, wl_at hP hK hN⟩ rfl rfl hl.1 rfl (lv_room (Nat.le_of_ble_eq_true rfl)) dX3_raise_1 ⟨Nat.le_of_ble_eq_true rfl, Nat.le_of_ble_eq_true rfl⟩) hS (fun r_1 u_1 t_1 locs hw hP hS => ?_)
  obtain ⟨rfl, rfl⟩ := hw
  have hP : va_P X.1 vwCl (wl_ws X d π) t_1.heap := hP
  refine lv_if_eq (tgt := 20) hx hb dX3_raise_4 (by decide) (fun c_2 => ?_) (fun c_2 => ?_)
  · have ok_1 := wl_if c_2
    refine lv_iconst (v := 0) hx hb dX3_raise_20 (by decide) ?_
    refine gw_zret (d, π) hx hb hr hlocks (by decide) (wl_hB hP) hS dX3_raise_21 ?_
    exact ⟨fun z => absurd (ok_1.symm.trans z) (by decide), fun _ => ⟨rfl, rfl⟩⟩
  · have ok_1 := wl_it c_2
    have hj := wl_ok32c ok_1
    refine lv_aload_n hx hb dX3_raise_7 rfl (lv_at hl 0 rfl) ?_
    refine lv_iload_n hx hb dX3_raise_8 rfl (lv_at hl 1 rfl) ?_
    refine lv_iload_n hx hb dX3_raise_9 rfl (lv_at hl 2 rfl) ?_
    refine gw_calli (va_runV (As := [.int ev, .int nu]) (rest := []) ⟨hx, hb, hml, hown, hts⟩ (c_WatchList_waitOrLose X hX d π ev nu f q hf hq hf6 hq6) ⟨callB_of 2 hts giX3_waitOrLose rfl rfl rfl (hts _ mG_22) (hts _ mG_126) pdX3_waitOrLose ⟨Nat.le_of_ble_eq_true rfl, Nat.le_of_ble_eq_true rfl⟩, hts _ mG_127, hts _ mG_6⟩ ⟨wl_blind, gw_recv hK hP 0 (by decide) wl_c0 rfl, wl_at hP hK hN⟩ rfl rfl hl.1 rfl (lv_room (Nat.le_of_ble_eq_true rfl)) dX3_raise_10 ⟨Nat.le_of_ble_eq_true rfl, Nat.le_of_ble_eq_true rfl⟩) hS (fun r_3 u_3 t_3 locs hw hP hS => ?_)
    obtain ⟨rfl, rfl⟩ := hw
    have hP : va_P X.1 vwCl (wl_ws X (wl_wol d f q ev nu) π) t_3.heap := hP
    refine lv_if_eq (tgt := 20) hx hb dX3_raise_13 (by decide) (fun c_4 => ?_) (fun c_4 => ?_)
    · have w_1 := c_4
      refine lv_iconst (v := 0) hx hb dX3_raise_20 (by decide) ?_
      refine gw_zret (wl_wol d f q ev nu, π) hx hb hr hlocks (by decide) (wl_hB hP) hS dX3_raise_21 ?_
      exact ⟨fun _ => ⟨w_1.symm, rfl⟩, fun z => absurd (ok_1.symm.trans z) (by decide)⟩
    · have w_1 := c_4
      refine lv_iconst (v := 1) hx hb dX3_raise_16 (by decide) ?_
      refine lv_goto (tgt := 21) hx hb dX3_raise_17 (by decide) ?_
      refine gw_zret (wl_wol d f q ev nu, π) hx hb hr hlocks (by decide) (wl_hB hP) hS dX3_raise_21 ?_
      exact ⟨fun _ => ⟨by rw [wl_it w_1]; rfl, rfl⟩, fun z => absurd (ok_1.symm.trans z) (by decide)⟩
set_option maxHeartbeats 4000000 in
set_option maxRecDepth 100000 in
theorem c_WatchList_work (X : wl_X) (hX : gw_inj 88 X.2.1) (d : Nat → Nat → Int32) (π : Nat → Nat)   (f : Nat) (q : Nat) (hf : d 4 2 = nI f) (hq : d 4 3 = nI q) (hf6 : f < 64) (hq6 : q ≤ 64) : Met l yX3_work wsX3_work ({ frames := 1, cells := 0, slots := 0, locals := 20 }) (wl_pre X [.ref (X.2.1 0)] d π) (va_Qi (fun r u => (q = 0 ∧ r = -1 ∧ u = (d, π)) ∨ (0 < q ∧ r = d 6 f ∧ u = (up2 (up2 (up2 d 0 8 (d 7 f)) 4 2 (nI ((f + 1) % 64))) 4 3 (nI (q - 1)), π))) (wl_b X) (gw_A 88 X.2.1)) 0 0 (gw_A 88 X.2.1) := by
  refine Met.ofW (cc := cX3_work) (maxL := 2) (ret := (some .int)) (by decide) rfl ?_
  intro p e s m args below meth c s₁ B hml hv
  obtain ⟨rfl, hP, hK, hN⟩ := hv
  have hx := B.exec
  have hb := B.bytes
  have hr := B.returns
  have hts : ∀ w ∈ gG, w.before _ s = true := fun w h => atoms_spec (ws := wsX3_work) B.pre w (List.mem_cons_of_mem _ h)
  have hown : s.vm.findClass RX3 = some m.cls := findClass_of_methodNamed B.named
  have hlocks := B.notSynchronized
  have hS : va_S (gw_A 88 X.2.1) s.heap s.heap [] := va_S.rf
  have hl := lv_entry ([.ref (X.2.1 0)]) (n := 2) (Nat.le_of_ble_eq_true rfl)
  rw [lg_entry_eq]
  generalize (lg_sl ([.ref (X.2.1 0)]) ++ List.replicate (2 - (lg_sl ([.ref (X.2.1 0)])).length) Slot.unset).toArray = ls at hl ⊢
  have hl : lv_has ls 2 [(0, .ref (X.2.1 0))] := hl
  refine lv_aload_n hx hb dX3_work_0 rfl (lv_at hl 0 rfl) ?_
  refine gw_get hx hb hts inX3 hown hK hP 0 (by decide) wl_c0 rfl 6 (by decide) (hts _ mG_76) (fun _ h9 => h9) (v := .ref (X.2.1 4)) rfl dX3_work_1 ?_
  refine gw_getN hx hb hts inX2 hown hK hP 4 (by decide) wl_c4 rfl 3 (by decide) (hN _ (List.mem_of_getElem? (i := 1) rfl)) (fun _ h9 => h9) (v := .int (d 4 3)) rfl dX3_work_4 ?_
  refine lv_if_ne (tgt := 12) hx hb dX3_work_7 (by decide) (fun c_1 => ?_) (fun c_1 => ?_)
  · have qz := c_1
    refine lv_aload_n hx hb dX3_work_12 rfl (lv_at hl 0 rfl) ?_
    refine gw_get hx hb hts inX3 hown hK hP 0 (by decide) wl_c0 rfl 6 (by decide) (hts _ mG_76) (fun _ h9 => h9) (v := .ref (X.2.1 4)) rfl dX3_work_13 ?_
    refine gw_calli (va_runVN (As := []) (rest := []) ⟨hx, hb, hml, hown, hts⟩ (c_Queue_firstEvent X hX d π  f hf hf6) ⟨va_cnB 0 hts giX2_firstEvent rfl rfl rfl (hN _ (List.mem_of_getElem? (i := 16) rfl)) (hts _ mG_23) pdX2_firstEvent ⟨Nat.le_of_ble_eq_true rfl, Nat.le_of_ble_eq_true rfl⟩, hts _ mG_143, hts _ mG_8⟩ ⟨wl_blind, gw_recv hK hP 4 (by decide) wl_c4 rfl, wl_at hP hK hN⟩ rfl rfl hl.1 rfl (lv_room (Nat.le_of_ble_eq_true rfl)) dX3_work_16 ⟨Nat.le_of_ble_eq_true rfl, Nat.le_of_ble_eq_true rfl⟩) hS (fun r_2 u_2 t_2 locs hw hP hS => ?_)
    obtain ⟨rfl, rfl⟩ := hw
    have hP : va_P X.1 vwCl (wl_ws X d π) t_2.heap := hP
    refine lv_istore_n (lv' := [(1, .int (d 6 f)), (0, .ref (X.2.1 0))]) hx hb dX3_work_19 rfl hl (by decide) rfl (fun ls hl => ?_)
    refine lv_aload_n hx hb dX3_work_20 rfl (lv_at hl 1 rfl) ?_
    refine lv_aload_n hx hb dX3_work_21 rfl (lv_at hl 1 rfl) ?_
    refine gw_get hx hb hts inX3 hown hK hP 0 (by decide) wl_c0 rfl 6 (by decide) (hts _ mG_76) (fun _ h9 => h9) (v := .ref (X.2.1 4)) rfl dX3_work_22 ?_
    refine gw_calli (va_runVN (As := []) (rest := [.ref (X.2.1 0)]) ⟨hx, hb, hml, hown, hts⟩ (c_Queue_firstNumber X hX d π  f hf hf6) ⟨va_cnB 0 hts giX2_firstNumber rfl rfl rfl (hN _ (List.mem_of_getElem? (i := 17) rfl)) (hts _ mG_23) pdX2_firstNumber ⟨Nat.le_of_ble_eq_true rfl, Nat.le_of_ble_eq_true rfl⟩, hts _ mG_145, hts _ mG_9⟩ ⟨wl_blind, gw_recv hK hP 4 (by decide) wl_c4 rfl, wl_at hP hK hN⟩ rfl rfl hl.1 rfl (lv_room (Nat.le_of_ble_eq_true rfl)) dX3_work_25 ⟨Nat.le_of_ble_eq_true rfl, Nat.le_of_ble_eq_true rfl⟩) hS (fun r_3 u_3 t_3 locs hw hP hS => ?_)
    obtain ⟨rfl, rfl⟩ := hw
    have hP : va_P X.1 vwCl (wl_ws X d π) t_3.heap := hP
    refine gw_put hx hb hts inX3 tyX3 okX3 nmX3 hown hK hP hX hS 0 (by decide) wl_c0 rfl 8 (by decide) (hts _ mG_78) (fun _ h9 => h9) rfl (ty := .int) (v := .int (d 7 f)) (by decide +kernel) rfl rfl (Nat.le_of_ble_eq_true rfl) (cf' := wl_c X (up2 d 0 8 (d 7 f)) π) rfl wl_o dX3_work_28 (fun H locs hP hS => ?_)
    refine lv_aload_n hx hb dX3_work_31 rfl (lv_at hl 1 rfl) ?_
    refine gw_get hx hb hts inX3 hown hK hP 0 (by decide) wl_c0 rfl 6 (by decide) (hts _ mG_76) (fun _ h9 => h9) (v := .ref (X.2.1 4)) rfl dX3_work_32 ?_
    refine gw_callv (va_runVN (As := []) (rest := []) ⟨hx, hb, hml, hown, hts⟩ (c_Queue_takeFirst X hX (up2 d 0 8 (d 7 f)) π  f (by rw [up2_k (by decide)]; exact hf) hf6) ⟨va_cnB 0 hts giX2_takeFirst rfl rfl rfl (hN _ (List.mem_of_getElem? (i := 18) rfl)) (hts _ mG_23) pdX2_takeFirst ⟨Nat.le_of_ble_eq_true rfl, Nat.le_of_ble_eq_true rfl⟩, hts _ mG_147, hts _ mG_10⟩ ⟨wl_blind, gw_recv hK hP 4 (by decide) wl_c4 rfl, wl_at hP hK hN⟩ rfl rfl hl.1 rfl (lv_room (Nat.le_of_ble_eq_true rfl)) dX3_work_35 ⟨Nat.le_of_ble_eq_true rfl, Nat.le_of_ble_eq_true rfl⟩) hS (fun u_4 t_4 locs hw hP hS => ?_)
    obtain rfl := hw
    have hP : va_P X.1 vwCl (wl_ws X (up2 (up2 (up2 d 0 8 (d 7 f)) 4 2 (nI ((f + 1) % 64))) 4 3 ((up2 d 0 8 (d 7 f)) 4 3 - 1)) π) t_4.heap := hP
    refine lv_iload_n hx hb dX3_work_38 rfl (lv_at hl 0 rfl) ?_
    refine gw_iret (up2 (up2 (up2 d 0 8 (d 7 f)) 4 2 (nI ((f + 1) % 64))) 4 3 ((up2 d 0 8 (d 7 f)) 4 3 - 1), π) hx hb hr hlocks (wl_hB hP) hS dX3_work_39 ?_
    refine Or.inr ⟨wl_q0 hq qz hq6, rfl, ?_⟩
    rw [up2_k (by decide), hq, wl_pm1 (wl_q0 hq qz hq6)]
  · have qz := c_1
    refine lv_iconst (v := (-1)) hx hb dX3_work_10 (by decide) ?_
    refine gw_iret (d, π) hx hb hr hlocks (wl_hB hP) hS dX3_work_11 ?_
    exact Or.inl ⟨wl_q1 hq qz hq6, rfl, rfl⟩
set_option maxHeartbeats 4000000 in
set_option maxRecDepth 100000 in
theorem c_WatchList_lose (X : wl_X) (hX : gw_inj 88 X.2.1) (d : Nat → Nat → Int32) (π : Nat → Nat)    : Met l yX3_lose wsX3_lose ({ frames := 1, cells := 0, slots := 0, locals := 20 }) (wl_pre X [.ref (X.2.1 0)] d π) (va_Qi (fun r u => r = d 4 3 ∧ u = (up2 (up2 d 4 3 0) 0 7 (d 0 7 + d 4 3), π)) (wl_b X) (gw_A 88 X.2.1)) 0 0 (gw_A 88 X.2.1) := by
  refine Met.ofW (cc := cX3_lose) (maxL := 2) (ret := (some .int)) (by decide) rfl ?_
  intro p e s m args below meth c s₁ B hml hv
  obtain ⟨rfl, hP, hK, hN⟩ := hv
  have hx := B.exec
  have hb := B.bytes
  have hr := B.returns
  have hts : ∀ w ∈ gG, w.before _ s = true := fun w h => atoms_spec (ws := wsX3_lose) B.pre w (List.mem_cons_of_mem _ h)
  have hown : s.vm.findClass RX3 = some m.cls := findClass_of_methodNamed B.named
  have hlocks := B.notSynchronized
  have hS : va_S (gw_A 88 X.2.1) s.heap s.heap [] := va_S.rf
  have hl := lv_entry ([.ref (X.2.1 0)]) (n := 2) (Nat.le_of_ble_eq_true rfl)
  rw [lg_entry_eq]
  generalize (lg_sl ([.ref (X.2.1 0)]) ++ List.replicate (2 - (lg_sl ([.ref (X.2.1 0)])).length) Slot.unset).toArray = ls at hl ⊢
  have hl : lv_has ls 2 [(0, .ref (X.2.1 0))] := hl
  refine lv_aload_n hx hb dX3_lose_0 rfl (lv_at hl 0 rfl) ?_
  refine gw_get hx hb hts inX3 hown hK hP 0 (by decide) wl_c0 rfl 6 (by decide) (hts _ mG_76) (fun _ h9 => h9) (v := .ref (X.2.1 4)) rfl dX3_lose_1 ?_
  refine gw_getN hx hb hts inX2 hown hK hP 4 (by decide) wl_c4 rfl 3 (by decide) (hN _ (List.mem_of_getElem? (i := 1) rfl)) (fun _ h9 => h9) (v := .int (d 4 3)) rfl dX3_lose_4 ?_
  refine lv_istore_n (lv' := [(1, .int (d 4 3)), (0, .ref (X.2.1 0))]) hx hb dX3_lose_7 rfl hl (by decide) rfl (fun ls hl => ?_)
  refine lv_aload_n hx hb dX3_lose_8 rfl (lv_at hl 1 rfl) ?_
  refine gw_get hx hb hts inX3 hown hK hP 0 (by decide) wl_c0 rfl 6 (by decide) (hts _ mG_76) (fun _ h9 => h9) (v := .ref (X.2.1 4)) rfl dX3_lose_9 ?_
  refine gw_callv (va_runVN (As := []) (rest := []) ⟨hx, hb, hml, hown, hts⟩ (c_Queue_empty X hX d π  ) ⟨va_cnB 0 hts giX2_empty rfl rfl rfl (hN _ (List.mem_of_getElem? (i := 19) rfl)) (hts _ mG_23) pdX2_empty ⟨Nat.le_of_ble_eq_true rfl, Nat.le_of_ble_eq_true rfl⟩, hts _ mG_153, hts _ mG_11⟩ ⟨wl_blind, gw_recv hK hP 4 (by decide) wl_c4 rfl, wl_at hP hK hN⟩ rfl rfl hl.1 rfl (lv_room (Nat.le_of_ble_eq_true rfl)) dX3_lose_12 ⟨Nat.le_of_ble_eq_true rfl, Nat.le_of_ble_eq_true rfl⟩) hS (fun u_1 t_1 locs hw hP hS => ?_)
  obtain rfl := hw
  have hP : va_P X.1 vwCl (wl_ws X (up2 d 4 3 0) π) t_1.heap := hP
  refine lv_aload_n hx hb dX3_lose_15 rfl (lv_at hl 1 rfl) ?_
  refine lv_dup hx hb dX3_lose_16 rfl ?_
  refine gw_get hx hb hts inX3 hown hK hP 0 (by decide) wl_c0 rfl 7 (by decide) (hts _ mG_77) (fun _ h9 => h9) (v := .int ((up2 d 4 3 0) 0 7)) rfl dX3_lose_17 ?_
  refine lv_iload_n hx hb dX3_lose_20 rfl (lv_at hl 0 rfl) ?_
  refine lv_iadd hx hb dX3_lose_21 ?_
  refine gw_put hx hb hts inX3 tyX3 okX3 nmX3 hown hK hP hX hS 0 (by decide) wl_c0 rfl 7 (by decide) (hts _ mG_77) (fun _ h9 => h9) rfl (ty := .int) (v := .int (((up2 d 4 3 0) 0 7) + (d 4 3))) (by decide +kernel) rfl rfl (Nat.le_of_ble_eq_true rfl) (cf' := wl_c X (up2 (up2 d 4 3 0) 0 7 (((up2 d 4 3 0) 0 7) + (d 4 3))) π) rfl wl_o dX3_lose_22 (fun H locs hP hS => ?_)
  refine lv_iload_n hx hb dX3_lose_25 rfl (lv_at hl 0 rfl) ?_
  refine gw_iret (up2 (up2 d 4 3 0) 0 7 (((up2 d 4 3 0) 0 7) + (d 4 3)), π) hx hb hr hlocks (wl_hB hP) hS dX3_lose_26 ?_
  exact ⟨rfl, rfl⟩
set_option maxHeartbeats 4000000 in
set_option maxRecDepth 100000 in
theorem c_WatchList_tell (X : wl_X) (hX : gw_inj 88 X.2.1) (d : Nat → Nat → Int32) (π : Nat → Nat)  (ev : Int32) (on : Int32) (hz : on = 0 ∨ on = 1) : Met l yX3_tell wsX3_tell ({ frames := 1, cells := 0, slots := 0, locals := 20 }) (wl_pre X [.ref (X.2.1 0), .int ev, .int on] d π) (va_Qi (fun r u => (wl_ok ev 32 = true → r = 0 ∧ u = (up2 d (24 + ev.toNatClampNeg) 0 on, π)) ∧ (wl_ok ev 32 = false → r = 16 ∧ u = (d, π))) (wl_b X) (gw_A 88 X.2.1)) 0 0 (gw_A 88 X.2.1) := by
  refine Met.ofW (cc := cX3_tell) (maxL := 3) (ret := (some .int)) (by decide) rfl ?_
  intro p e s m args below meth c s₁ B hml hv
  obtain ⟨rfl, hP, hK, hN⟩ := hv
  have hx := B.exec
  have hb := B.bytes
  have hr := B.returns
  have hts : ∀ w ∈ gG, w.before _ s = true := fun w h => atoms_spec (ws := wsX3_tell) B.pre w (List.mem_cons_of_mem _ h)
  have hown : s.vm.findClass RX3 = some m.cls := findClass_of_methodNamed B.named
  have hlocks := B.notSynchronized
  have hS : va_S (gw_A 88 X.2.1) s.heap s.heap [] := va_S.rf
  have hl := lv_entry ([.ref (X.2.1 0), .int ev, .int on]) (n := 3) (Nat.le_of_ble_eq_true rfl)
  rw [lg_entry_eq]
  generalize (lg_sl ([.ref (X.2.1 0), .int ev, .int on]) ++ List.replicate (3 - (lg_sl ([.ref (X.2.1 0), .int ev, .int on])).length) Slot.unset).toArray = ls at hl ⊢
  have hl : lv_has ls 3 [(0, .ref (X.2.1 0)), (1, .int ev), (2, .int on)] := hl
  refine lv_iload_n hx hb dX3_tell_0 rfl (lv_at hl 1 rfl) ?_
  refine gw_calli (va_runS (As := [.int ev]) (rest := []) ⟨hx, hb, hml, hown, hts⟩ (c_WatchList_isEvent X hX d π ev ) ⟨callB_of 1 hts giX3_isEvent rfl rfl rfl (hts _ mG_22) (hts _ mG_95) pdX3_isEvent ⟨Nat.le_of_ble_eq_true rfl, Nat.le_of_ble_eq_true rfl⟩, hts _ mG_96⟩ ⟨wl_blind, wl_at hP hK hN⟩ rfl rfl hl.1 rfl (lv_room (Nat.le_of_ble_eq_true rfl)) dX3_tell_1 ⟨Nat.le_of_ble_eq_true rfl, Nat.le_of_ble_eq_true rfl⟩) hS (fun r_1 u_1 t_1 locs hw hP hS => ?_)
  obtain ⟨rfl, rfl⟩ := hw
  have hP : va_P X.1 vwCl (wl_ws X d π) t_1.heap := hP
  refine lv_if_ne (tgt := 10) hx hb dX3_tell_4 (by decide) (fun c_2 => ?_) (fun c_2 => ?_)
  · have ok_1 := wl_it c_2
    have hj := wl_ok32c ok_1
    refine lv_aload_n hx hb dX3_tell_10 rfl (lv_at hl 0 rfl) ?_
    refine gw_get hx hb hts inX3 hown hK hP 0 (by decide) wl_c0 rfl 5 (by decide) (hts _ mG_75) (fun _ h9 => h9) (v := .ref (X.2.1 3)) rfl dX3_tell_11 ?_
    refine lv_iload_n hx hb dX3_tell_14 rfl (lv_at hl 1 rfl) ?_
    refine gw_aald hx hb hK hP 3 3 (by decide) wl_c3 rfl (i := ev) hj.1 (k := 24 + ev.toNatClampNeg) rfl dX3_tell_15 ?_
    refine lv_iload_n hx hb dX3_tell_16 rfl (lv_at hl 2 rfl) ?_
    refine gw_putN hx hb hts inX0 tyX0 okX0 nmX0 hown hK hP hX hS (24 + ev.toNatClampNeg) (wl_kE hj.2) (wl_cE hj.2) rfl 0 (by decide) (hN _ (List.mem_of_getElem? (i := 9) rfl)) (fun _ h9 => h9) rfl (ty := .boolean) (v := .int on) (by decide +kernel) (gw_nz hz) (gw_fz hz) (Nat.le_of_ble_eq_true rfl) (cf' := wl_c X (up2 d (24 + ev.toNatClampNeg) 0 on) π) (wl_uE0 hj.2) wl_o dX3_tell_17 (fun H locs hP hS => ?_)
    refine lv_iconst (v := 0) hx hb dX3_tell_20 (by decide) ?_
    refine gw_iret (up2 d (24 + ev.toNatClampNeg) 0 on, π) hx hb hr hlocks (wl_hB hP) hS dX3_tell_21 ?_
    exact ⟨fun _ => ⟨rfl, rfl⟩, fun z => absurd (ok_1.symm.trans z) (by decide)⟩
  · have ok_1 := wl_if c_2
    refine lv_bipush (v := 16) hx hb dX3_tell_7 (by decide) ?_
    refine gw_iret (d, π) hx hb hr hlocks (wl_hB hP) hS dX3_tell_9 ?_
    exact ⟨fun z => absurd (ok_1.symm.trans z) (by decide), fun _ => ⟨rfl, rfl⟩⟩
set_option maxHeartbeats 4000000 in
set_option maxRecDepth 100000 in
theorem c_WatchList_put (X : wl_X) (hX : gw_inj 88 X.2.1) (d : Nat → Nat → Int32) (π : Nat → Nat)  (b : Int32) (ts : Nat) (hts2 : d 0 10 = nI ts) (ht256 : ts ≤ 256) : Met l yX3_put wsX3_put ({ frames := 0, cells := 0, slots := 0, locals := 0 }) (wl_pre X [.ref (X.2.1 0), .int b] d π) (va_Qi (fun r u => (ts < 256 ∧ r = nI (ts + 1) ∧ u = (up2 (up2 d 5 ts b.toInt8.toInt32) 0 10 (nI (ts + 1)), π)) ∨ (ts = 256 ∧ r = -1 ∧ u = (d, π))) (wl_b X) (gw_A 88 X.2.1)) 0 0 (gw_A 88 X.2.1) := by
  refine Met.ofW (cc := cX3_put) (maxL := 2) (ret := (some .int)) (by decide) rfl ?_
  intro p e s m args below meth c s₁ B hml hv
  obtain ⟨rfl, hP, hK, hN⟩ := hv
  have hx := B.exec
  have hb := B.bytes
  have hr := B.returns
  have hts : ∀ w ∈ gG, w.before _ s = true := fun w h => atoms_spec (ws := wsX3_put) B.pre w (List.mem_cons_of_mem _ h)
  have hown : s.vm.findClass RX3 = some m.cls := findClass_of_methodNamed B.named
  have hlocks := B.notSynchronized
  have hS : va_S (gw_A 88 X.2.1) s.heap s.heap [] := va_S.rf
  have hl := lv_entry ([.ref (X.2.1 0), .int b]) (n := 2) (Nat.le_of_ble_eq_true rfl)
  rw [lg_entry_eq]
  generalize (lg_sl ([.ref (X.2.1 0), .int b]) ++ List.replicate (2 - (lg_sl ([.ref (X.2.1 0), .int b])).length) Slot.unset).toArray = ls at hl ⊢
  have hl : lv_has ls 2 [(0, .ref (X.2.1 0)), (1, .int b)] := hl
  refine lv_aload_n hx hb dX3_put_0 rfl (lv_at hl 0 rfl) ?_
  refine gw_get hx hb hts inX3 hown hK hP 0 (by decide) wl_c0 rfl 10 (by decide) (hts _ mG_80) (fun _ h9 => h9) (v := .int (d 0 10)) rfl dX3_put_1 ?_
  refine lv_sipush (v := 256) hx hb dX3_put_4 (by decide) ?_
  refine lv_icmp_lt (tgt := 12) hx hb dX3_put_7 (by decide) (fun c_1 => ?_) (fun c_1 => ?_)
  · have tz := c_1
    refine lv_aload_n hx hb dX3_put_12 rfl (lv_at hl 0 rfl) ?_
    refine gw_get hx hb hts inX3 hown hK hP 0 (by decide) wl_c0 rfl 9 (by decide) (hts _ mG_79) (fun _ h9 => h9) (v := .ref (X.2.1 5)) rfl dX3_put_13 ?_
    refine lv_aload_n hx hb dX3_put_16 rfl (lv_at hl 0 rfl) ?_
    refine gw_get hx hb hts inX3 hown hK hP 0 (by decide) wl_c0 rfl 10 (by decide) (hts _ mG_80) (fun _ h9 => h9) (v := .int (d 0 10)) rfl dX3_put_17 ?_
    refine lv_iload_n hx hb dX3_put_20 rfl (lv_at hl 1 rfl) ?_
    refine lv_i2b hx hb dX3_put_21 rfl ?_
    refine gw_bast hx hb hK hP hX hS 5 1 (by decide) wl_c5 rfl (i := d 0 10) (x := b.toInt8.toInt32) (by rw [hts2]; exact vp_in_nI (wl_lt256 hts2 tz ht256) (by omega)) (cf' := wl_c X (up2 d 5 (d 0 10).toNatClampNeg b.toInt8.toInt32) π) wl_u5 wl_o dX3_put_22 (fun H locs hP hS => ?_)
    refine lv_aload_n hx hb dX3_put_23 rfl (lv_at hl 0 rfl) ?_
    refine lv_dup hx hb dX3_put_24 rfl ?_
    refine gw_get hx hb hts inX3 hown hK hP 0 (by decide) wl_c0 rfl 10 (by decide) (hts _ mG_80) (fun _ h9 => h9) (v := .int ((up2 d 5 (d 0 10).toNatClampNeg b.toInt8.toInt32) 0 10)) rfl dX3_put_25 ?_
    refine lv_iconst (v := 1) hx hb dX3_put_28 (by decide) ?_
    refine lv_iadd hx hb dX3_put_29 ?_
    refine gw_put hx hb hts inX3 tyX3 okX3 nmX3 hown hK hP hX hS 0 (by decide) wl_c0 rfl 10 (by decide) (hts _ mG_80) (fun _ h9 => h9) rfl (ty := .int) (v := .int (((up2 d 5 (d 0 10).toNatClampNeg b.toInt8.toInt32) 0 10) + 1)) (by decide +kernel) rfl rfl (Nat.le_of_ble_eq_true rfl) (cf' := wl_c X (up2 (up2 d 5 (d 0 10).toNatClampNeg b.toInt8.toInt32) 0 10 (((up2 d 5 (d 0 10).toNatClampNeg b.toInt8.toInt32) 0 10) + 1)) π) rfl wl_o dX3_put_30 (fun H locs hP hS => ?_)
    refine lv_aload_n hx hb dX3_put_33 rfl (lv_at hl 0 rfl) ?_
    refine gw_get hx hb hts inX3 hown hK hP 0 (by decide) wl_c0 rfl 10 (by decide) (hts _ mG_80) (fun _ h9 => h9) (v := .int ((up2 (up2 d 5 (d 0 10).toNatClampNeg b.toInt8.toInt32) 0 10 (((up2 d 5 (d 0 10).toNatClampNeg b.toInt8.toInt32) 0 10) + 1)) 0 10)) rfl dX3_put_34 ?_
    refine gw_iret (up2 (up2 d 5 (d 0 10).toNatClampNeg b.toInt8.toInt32) 0 10 (((up2 d 5 (d 0 10).toNatClampNeg b.toInt8.toInt32) 0 10) + 1), π) hx hb hr hlocks (wl_hB hP) hS dX3_put_37 ?_
    have e9 := wl_lt256 hts2 tz ht256
    refine Or.inl ⟨e9, ?_, ?_⟩
    · rw [up2_s, up2_k (by decide), hts2, nI_1]
    · rw [up2_k (by decide), hts2, nI_1, nI_clamp (by omega)]
  · have tz := c_1
    refine lv_iconst (v := (-1)) hx hb dX3_put_10 (by decide) ?_
    refine gw_iret (d, π) hx hb hr hlocks (wl_hB hP) hS dX3_put_11 ?_
    exact Or.inr ⟨wl_ge256 hts2 tz ht256, rfl, rfl⟩
set_option maxHeartbeats 4000000 in
set_option maxRecDepth 100000 in
theorem c_WatchList_act (X : wl_X) (hX : gw_inj 88 X.2.1) (d : Nat → Nat → Int32) (π : Nat → Nat)  (ev : Int32) (ts : Nat) (hts2 : d 0 10 = nI ts) (ht256 : ts ≤ 256) (hfit : ∀ j, j < 256 → fits .byte (.int (d 5 j)) = true) : Met l yX3_act wsX3_act ({ frames := 2, cells := 0, slots := 0, locals := 62 }) (wl_pre X [.ref (X.2.1 0), .int ev] d π) (va_Qi (fun r u => (r = 16 ∧ wl_ok ev 32 = false ∧ u = (up2 d 0 10 0, π)) ∨ (wl_ok ev 32 = true ∧ ((r = 22 ∧ ts = 0 ∧ u = (up2 d 0 10 0, π)) ∨ (0 < ts ∧ ((r = 29 ∧ 0 < d (24 + ev.toNatClampNeg) 2 ∧ u = (up2 d 0 10 0, π)) ∨ (r = 0 ∧ ¬ 0 < d (24 + ev.toNatClampNeg) 2 ∧ u = (up2 (up2 (va_up (up2 d 0 10 0) (56 + ev.toNatClampNeg) (va_cpy (d 5) (d (56 + ev.toNatClampNeg)) 0 0 ts)) (24 + ev.toNatClampNeg) 2 (nI ts)) (24 + ev.toNatClampNeg) 3 0, π))))))) (wl_b X) (gw_A 88 X.2.1)) 0 0 (gw_A 88 X.2.1) := by
  refine Met.ofW (cc := cX3_act) (maxL := 3) (ret := (some .int)) (by decide) rfl ?_
  intro p e s m args below meth c s₁ B hml hv
  obtain ⟨rfl, hP, hK, hN⟩ := hv
  have hx := B.exec
  have hb := B.bytes
  have hr := B.returns
  have hts : ∀ w ∈ gG, w.before _ s = true := fun w h => atoms_spec (ws := wsX3_act) B.pre w (List.mem_cons_of_mem _ h)
  have hown : s.vm.findClass RX3 = some m.cls := findClass_of_methodNamed B.named
  have hlocks := B.notSynchronized
  have hS : va_S (gw_A 88 X.2.1) s.heap s.heap [] := va_S.rf
  have hl := lv_entry ([.ref (X.2.1 0), .int ev]) (n := 3) (Nat.le_of_ble_eq_true rfl)
  rw [lg_entry_eq]
  generalize (lg_sl ([.ref (X.2.1 0), .int ev]) ++ List.replicate (3 - (lg_sl ([.ref (X.2.1 0), .int ev])).length) Slot.unset).toArray = ls at hl ⊢
  have hl : lv_has ls 3 [(0, .ref (X.2.1 0)), (1, .int ev)] := hl
  refine lv_aload_n hx hb dX3_act_0 rfl (lv_at hl 0 rfl) ?_
  refine gw_get hx hb hts inX3 hown hK hP 0 (by decide) wl_c0 rfl 10 (by decide) (hts _ mG_80) (fun _ h9 => h9) (v := .int (d 0 10)) rfl dX3_act_1 ?_
  refine lv_istore_n (lv' := [(2, .int (d 0 10)), (0, .ref (X.2.1 0)), (1, .int ev)]) hx hb dX3_act_4 rfl hl (by decide) rfl (fun ls hl => ?_)
  refine lv_aload_n hx hb dX3_act_5 rfl (lv_at hl 1 rfl) ?_
  refine lv_iconst (v := 0) hx hb dX3_act_6 (by decide) ?_
  refine gw_put hx hb hts inX3 tyX3 okX3 nmX3 hown hK hP hX hS 0 (by decide) wl_c0 rfl 10 (by decide) (hts _ mG_80) (fun _ h9 => h9) rfl (ty := .int) (v := .int 0) (by decide +kernel) rfl rfl (Nat.le_of_ble_eq_true rfl) (cf' := wl_c X (up2 d 0 10 0) π) rfl wl_o dX3_act_7 (fun H locs hP hS => ?_)
  refine lv_iload_n hx hb dX3_act_10 rfl (lv_at hl 2 rfl) ?_
  refine gw_calli (va_runS (As := [.int ev]) (rest := []) ⟨hx, hb, hml, hown, hts⟩ (c_WatchList_isEvent X hX (up2 d 0 10 0) π ev ) ⟨callB_of 1 hts giX3_isEvent rfl rfl rfl (hts _ mG_22) (hts _ mG_95) pdX3_isEvent ⟨Nat.le_of_ble_eq_true rfl, Nat.le_of_ble_eq_true rfl⟩, hts _ mG_96⟩ ⟨wl_blind, wl_at hP hK hN⟩ rfl rfl hl.1 rfl (lv_room (Nat.le_of_ble_eq_true rfl)) dX3_act_11 ⟨Nat.le_of_ble_eq_true rfl, Nat.le_of_ble_eq_true rfl⟩) hS (fun r_1 u_1 t_1 locs hw hP hS => ?_)
  obtain ⟨rfl, rfl⟩ := hw
  have hP : va_P X.1 vwCl (wl_ws X (up2 d 0 10 0) π) t_1.heap := hP
  refine lv_if_ne (tgt := 20) hx hb dX3_act_14 (by decide) (fun c_2 => ?_) (fun c_2 => ?_)
  · have ok_1 := wl_it c_2
    have hj := wl_ok32c ok_1
    refine lv_iload_n hx hb dX3_act_20 rfl (lv_at hl 0 rfl) ?_
    refine lv_if_ne (tgt := 27) hx hb dX3_act_21 (by decide) (fun c_3 => ?_) (fun c_3 => ?_)
    · have sz := c_3
      refine lv_aload_n hx hb dX3_act_27 rfl (lv_at hl 1 rfl) ?_
      refine gw_get hx hb hts inX3 hown hK hP 0 (by decide) wl_c0 rfl 5 (by decide) (hts _ mG_75) (fun _ h9 => h9) (v := .ref (X.2.1 3)) rfl dX3_act_28 ?_
      refine lv_iload_n hx hb dX3_act_31 rfl (lv_at hl 2 rfl) ?_
      refine gw_aald hx hb hK hP 3 3 (by decide) wl_c3 rfl (i := ev) hj.1 (k := 24 + ev.toNatClampNeg) rfl dX3_act_32 ?_
      refine gw_calli (va_runVN (As := []) (rest := []) ⟨hx, hb, hml, hown, hts⟩ (c_Event_hasAction X hX (up2 d 0 10 0) π ev.toNatClampNeg hj.2  ) ⟨va_cnB 0 hts giX0_hasAction rfl rfl rfl (hN _ (List.mem_of_getElem? (i := 20) rfl)) (hts _ mG_25) pdX0_hasAction ⟨Nat.le_of_ble_eq_true rfl, Nat.le_of_ble_eq_true rfl⟩, hts _ mG_167, hts _ mG_12⟩ ⟨wl_blind, gw_recv hK hP (24 + ev.toNatClampNeg) (wl_kE hj.2) (wl_cE hj.2) rfl, wl_at hP hK hN⟩ rfl rfl hl.1 rfl (lv_room (Nat.le_of_ble_eq_true rfl)) dX3_act_33 ⟨Nat.le_of_ble_eq_true rfl, Nat.le_of_ble_eq_true rfl⟩) hS (fun r_4 u_4 t_4 locs hw hP hS => ?_)
      obtain ⟨rfl, rfl⟩ := hw
      have hP : va_P X.1 vwCl (wl_ws X (up2 d 0 10 0) π) t_4.heap := hP
      refine lv_if_eq (tgt := 42) hx hb dX3_act_36 (by decide) (fun c_5 => ?_) (fun c_5 => ?_)
      · have ha := wl_if c_5
        refine lv_aload_n hx hb dX3_act_42 rfl (lv_at hl 1 rfl) ?_
        refine gw_get hx hb hts inX3 hown hK hP 0 (by decide) wl_c0 rfl 5 (by decide) (hts _ mG_75) (fun _ h9 => h9) (v := .ref (X.2.1 3)) rfl dX3_act_43 ?_
        refine lv_iload_n hx hb dX3_act_46 rfl (lv_at hl 2 rfl) ?_
        refine gw_aald hx hb hK hP 3 3 (by decide) wl_c3 rfl (i := ev) hj.1 (k := 24 + ev.toNatClampNeg) rfl dX3_act_47 ?_
        refine lv_aload_n hx hb dX3_act_48 rfl (lv_at hl 1 rfl) ?_
        refine gw_get hx hb hts inX3 hown hK hP 0 (by decide) wl_c0 rfl 9 (by decide) (hts _ mG_79) (fun _ h9 => h9) (v := .ref (X.2.1 5)) rfl dX3_act_49 ?_
        refine lv_iload_n hx hb dX3_act_52 rfl (lv_at hl 0 rfl) ?_
        refine W.eq (g2 := F0 m 53 ls (.int (nI ts) :: .ref (X.2.1 5) :: .ref (X.2.1 (24 + ev.toNatClampNeg)) :: [])) (by rw [hts2]) ?_
        refine gw_callv (va_runVN (As := [.ref (X.2.1 5), .int (nI ts)]) (rest := []) ⟨hx, hb, hml, hown, hts⟩ (c_Event_takeAction X hX (up2 d 0 10 0) π ev.toNatClampNeg hj.2 ts ht256 (fun j h => by rw [up2_k (by decide)]; exact hfit j h)) ⟨va_cnB 2 hts giX0_takeAction rfl rfl rfl (hN _ (List.mem_of_getElem? (i := 21) rfl)) (hts _ mG_25) pdX0_takeAction ⟨Nat.le_of_ble_eq_true rfl, Nat.le_of_ble_eq_true rfl⟩, hts _ mG_169, hts _ mG_13⟩ ⟨wl_blind, gw_recv hK hP (24 + ev.toNatClampNeg) (wl_kE hj.2) (wl_cE hj.2) rfl, wl_at hP hK hN⟩ rfl rfl hl.1 rfl (lv_room (Nat.le_of_ble_eq_true rfl)) dX3_act_53 ⟨Nat.le_of_ble_eq_true rfl, Nat.le_of_ble_eq_true rfl⟩) hS (fun u_6 t_6 locs hw hP hS => ?_)
        obtain rfl := hw
        have hP : va_P X.1 vwCl (wl_ws X (up2 (up2 (va_up (up2 d 0 10 0) (56 + ev.toNatClampNeg) (va_cpy ((up2 d 0 10 0) 5) ((up2 d 0 10 0) (56 + ev.toNatClampNeg)) 0 0 ts)) (24 + ev.toNatClampNeg) 2 (nI ts)) (24 + ev.toNatClampNeg) 3 0) π) t_6.heap := hP
        refine lv_iconst (v := 0) hx hb dX3_act_56 (by decide) ?_
        refine gw_iret (up2 (up2 (va_up (up2 d 0 10 0) (56 + ev.toNatClampNeg) (va_cpy ((up2 d 0 10 0) 5) ((up2 d 0 10 0) (56 + ev.toNatClampNeg)) 0 0 ts)) (24 + ev.toNatClampNeg) 2 (nI ts)) (24 + ev.toNatClampNeg) 3 0, π) hx hb hr hlocks (wl_hB hP) hS dX3_act_57 ?_
        refine Or.inr ⟨ok_1, Or.inr ⟨wl_ts0 hts2 sz ht256, Or.inr ⟨rfl, ?_, ?_⟩⟩⟩
        · rw [up2_k (by omega)] at ha; exact of_decide_eq_false ha
        · rw [up2_ne (by omega), up2_ne (by omega)]
      · have ha := wl_it c_5
        refine lv_bipush (v := 29) hx hb dX3_act_39 (by decide) ?_
        refine gw_iret (up2 d 0 10 0, π) hx hb hr hlocks (wl_hB hP) hS dX3_act_41 ?_
        refine Or.inr ⟨ok_1, Or.inr ⟨wl_ts0 hts2 sz ht256, Or.inl ⟨rfl, ?_, rfl⟩⟩⟩
        rw [up2_k (by omega)] at ha; exact of_decide_eq_true ha
    · have sz := c_3
      refine lv_bipush (v := 22) hx hb dX3_act_24 (by decide) ?_
      refine gw_iret (up2 d 0 10 0, π) hx hb hr hlocks (wl_hB hP) hS dX3_act_26 ?_
      exact Or.inr ⟨ok_1, Or.inl ⟨rfl, wl_ts1 hts2 sz ht256, rfl⟩⟩
  · have ok_1 := wl_if c_2
    refine lv_bipush (v := 16) hx hb dX3_act_17 (by decide) ?_
    refine gw_iret (up2 d 0 10 0, π) hx hb hr hlocks (wl_hB hP) hS dX3_act_19 ?_
    exact Or.inl ⟨rfl, ok_1, rfl⟩
set_option maxHeartbeats 4000000 in
set_option maxRecDepth 100000 in
theorem c_WatchList_drop (X : wl_X) (hX : gw_inj 88 X.2.1) (d : Nat → Nat → Int32) (π : Nat → Nat)  (ev : Int32)  : Met l yX3_drop wsX3_drop ({ frames := 2, cells := 0, slots := 0, locals := 41 }) (wl_pre X [.ref (X.2.1 0), .int ev] d π) (va_Qi (fun r u => (wl_ok ev 32 = false ∧ r = 16 ∧ u = (d, π)) ∨ (wl_ok ev 32 = true ∧ ((¬ 0 < d (24 + ev.toNatClampNeg) 2 ∧ r = 30 ∧ u = (d, π)) ∨ (0 < d (24 + ev.toNatClampNeg) 2 ∧ ((¬ d (24 + ev.toNatClampNeg) 3 = 0 ∧ r = 15 ∧ u = (d, π)) ∨ (d (24 + ev.toNatClampNeg) 3 = 0 ∧ r = 0 ∧ u = (up2 d (24 + ev.toNatClampNeg) 2 0, π))))))) (wl_b X) (gw_A 88 X.2.1)) 0 0 (gw_A 88 X.2.1) := by
  refine Met.ofW (cc := cX3_drop) (maxL := 3) (ret := (some .int)) (by decide) rfl ?_
  intro p e s m args below meth c s₁ B hml hv
  obtain ⟨rfl, hP, hK, hN⟩ := hv
  have hx := B.exec
  have hb := B.bytes
  have hr := B.returns
  have hts : ∀ w ∈ gG, w.before _ s = true := fun w h => atoms_spec (ws := wsX3_drop) B.pre w (List.mem_cons_of_mem _ h)
  have hown : s.vm.findClass RX3 = some m.cls := findClass_of_methodNamed B.named
  have hlocks := B.notSynchronized
  have hS : va_S (gw_A 88 X.2.1) s.heap s.heap [] := va_S.rf
  have hl := lv_entry ([.ref (X.2.1 0), .int ev]) (n := 3) (Nat.le_of_ble_eq_true rfl)
  rw [lg_entry_eq]
  generalize (lg_sl ([.ref (X.2.1 0), .int ev]) ++ List.replicate (3 - (lg_sl ([.ref (X.2.1 0), .int ev])).length) Slot.unset).toArray = ls at hl ⊢
  have hl : lv_has ls 3 [(0, .ref (X.2.1 0)), (1, .int ev)] := hl
  refine lv_aload_n hx hb dX3_drop_0 rfl (lv_at hl 0 rfl) ?_
  refine lv_iload_n hx hb dX3_drop_1 rfl (lv_at hl 1 rfl) ?_
  refine gw_calli (va_runV (As := [.int ev]) (rest := []) ⟨hx, hb, hml, hown, hts⟩ (c_WatchList_actionFailure X hX d π ev ) ⟨callB_of 1 hts giX3_actionFailure rfl rfl rfl (hts _ mG_22) (hts _ mG_178) pdX3_actionFailure ⟨Nat.le_of_ble_eq_true rfl, Nat.le_of_ble_eq_true rfl⟩, hts _ mG_179, hts _ mG_14⟩ ⟨wl_blind, gw_recv hK hP 0 (by decide) wl_c0 rfl, wl_at hP hK hN⟩ rfl rfl hl.1 rfl (lv_room (Nat.le_of_ble_eq_true rfl)) dX3_drop_2 ⟨Nat.le_of_ble_eq_true rfl, Nat.le_of_ble_eq_true rfl⟩) hS (fun r_1 u_1 t_1 locs hw hP hS => ?_)
  obtain ⟨rfl, rfl⟩ := hw
  have hP : va_P X.1 vwCl (wl_ws X d π) t_1.heap := hP
  refine lv_istore_n (lv' := [(2, .int (if wl_ok ev 32 = true then (if 0 < d (24 + ev.toNatClampNeg) 2 then 0 else 30) else 16)), (0, .ref (X.2.1 0)), (1, .int ev)]) hx hb dX3_drop_5 rfl hl (by decide) rfl (fun ls hl => ?_)
  refine lv_iload_n hx hb dX3_drop_6 rfl (lv_at hl 0 rfl) ?_
  refine lv_if_eq (tgt := 12) hx hb dX3_drop_7 (by decide) (fun c_2 => ?_) (fun c_2 => ?_)
  · have af := wl_af c_2
    have hj := wl_ok32c af.1
    refine lv_aload_n hx hb dX3_drop_12 rfl (lv_at hl 1 rfl) ?_
    refine gw_get hx hb hts inX3 hown hK hP 0 (by decide) wl_c0 rfl 5 (by decide) (hts _ mG_75) (fun _ h9 => h9) (v := .ref (X.2.1 3)) rfl dX3_drop_13 ?_
    refine lv_iload_n hx hb dX3_drop_16 rfl (lv_at hl 2 rfl) ?_
    refine gw_aald hx hb hK hP 3 3 (by decide) wl_c3 rfl (i := ev) hj.1 (k := 24 + ev.toNatClampNeg) rfl dX3_drop_17 ?_
    refine gw_getN hx hb hts inX0 hown hK hP (24 + ev.toNatClampNeg) (wl_kE hj.2) (wl_cE hj.2) rfl 3 (by decide) (hN _ (List.mem_of_getElem? (i := 11) rfl)) (fun _ h9 => h9) (v := .int (d (24 + ev.toNatClampNeg) 3)) rfl dX3_drop_18 ?_
    refine lv_if_eq (tgt := 27) hx hb dX3_drop_21 (by decide) (fun c_3 => ?_) (fun c_3 => ?_)
    · have on_1 := c_3
      refine lv_aload_n hx hb dX3_drop_27 rfl (lv_at hl 1 rfl) ?_
      refine gw_get hx hb hts inX3 hown hK hP 0 (by decide) wl_c0 rfl 5 (by decide) (hts _ mG_75) (fun _ h9 => h9) (v := .ref (X.2.1 3)) rfl dX3_drop_28 ?_
      refine lv_iload_n hx hb dX3_drop_31 rfl (lv_at hl 2 rfl) ?_
      refine gw_aald hx hb hK hP 3 3 (by decide) wl_c3 rfl (i := ev) hj.1 (k := 24 + ev.toNatClampNeg) rfl dX3_drop_32 ?_
      refine lv_iconst (v := 0) hx hb dX3_drop_33 (by decide) ?_
      refine gw_putN hx hb hts inX0 tyX0 okX0 nmX0 hown hK hP hX hS (24 + ev.toNatClampNeg) (wl_kE hj.2) (wl_cE hj.2) rfl 2 (by decide) (hN _ (List.mem_of_getElem? (i := 10) rfl)) (fun _ h9 => h9) rfl (ty := .int) (v := .int 0) (by decide +kernel) rfl rfl (Nat.le_of_ble_eq_true rfl) (cf' := wl_c X (up2 d (24 + ev.toNatClampNeg) 2 0) π) (wl_uE2 hj.2) wl_o dX3_drop_34 (fun H locs hP hS => ?_)
      refine lv_iconst (v := 0) hx hb dX3_drop_37 (by decide) ?_
      refine gw_iret (up2 d (24 + ev.toNatClampNeg) 2 0, π) hx hb hr hlocks (wl_hB hP) hS dX3_drop_38 ?_
      exact Or.inr ⟨af.1, Or.inr ⟨af.2, Or.inr ⟨on_1, rfl, rfl⟩⟩⟩
    · have on_1 := c_3
      refine lv_bipush (v := 15) hx hb dX3_drop_24 (by decide) ?_
      refine gw_iret (d, π) hx hb hr hlocks (wl_hB hP) hS dX3_drop_26 ?_
      exact Or.inr ⟨af.1, Or.inr ⟨af.2, Or.inl ⟨on_1, rfl, rfl⟩⟩⟩
  · have af := c_2
    refine lv_iload_n hx hb dX3_drop_10 rfl (lv_at hl 0 rfl) ?_
    refine gw_iret (d, π) hx hb hr hlocks (wl_hB hP) hS dX3_drop_11 ?_
    rcases wl_afn af with ⟨a1, a2⟩ | ⟨a1, a2, a3⟩
    · exact Or.inl ⟨a1, a2, rfl⟩
    · exact Or.inr ⟨a1, Or.inl ⟨a2, a3, rfl⟩⟩
set_option maxHeartbeats 4000000 in
set_option maxRecDepth 100000 in
theorem c_WatchList_arm (X : wl_X) (hX : gw_inj 88 X.2.1) (d : Nat → Nat → Int32) (π : Nat → Nat)  (ev : Int32) (on : Int32) (hz : on = 0 ∨ on = 1) : Met l yX3_arm wsX3_arm ({ frames := 2, cells := 0, slots := 0, locals := 41 }) (wl_pre X [.ref (X.2.1 0), .int ev, .int on] d π) (va_Qi (fun r u => (wl_ok ev 32 = false ∧ r = 16 ∧ u = (d, π)) ∨ (wl_ok ev 32 = true ∧ ((¬ 0 < d (24 + ev.toNatClampNeg) 2 ∧ r = 30 ∧ u = (d, π)) ∨ (0 < d (24 + ev.toNatClampNeg) 2 ∧ r = 0 ∧ u = (up2 d (24 + ev.toNatClampNeg) 3 on, π))))) (wl_b X) (gw_A 88 X.2.1)) 0 0 (gw_A 88 X.2.1) := by
  refine Met.ofW (cc := cX3_arm) (maxL := 4) (ret := (some .int)) (by decide) rfl ?_
  intro p e s m args below meth c s₁ B hml hv
  obtain ⟨rfl, hP, hK, hN⟩ := hv
  have hx := B.exec
  have hb := B.bytes
  have hr := B.returns
  have hts : ∀ w ∈ gG, w.before _ s = true := fun w h => atoms_spec (ws := wsX3_arm) B.pre w (List.mem_cons_of_mem _ h)
  have hown : s.vm.findClass RX3 = some m.cls := findClass_of_methodNamed B.named
  have hlocks := B.notSynchronized
  have hS : va_S (gw_A 88 X.2.1) s.heap s.heap [] := va_S.rf
  have hl := lv_entry ([.ref (X.2.1 0), .int ev, .int on]) (n := 4) (Nat.le_of_ble_eq_true rfl)
  rw [lg_entry_eq]
  generalize (lg_sl ([.ref (X.2.1 0), .int ev, .int on]) ++ List.replicate (4 - (lg_sl ([.ref (X.2.1 0), .int ev, .int on])).length) Slot.unset).toArray = ls at hl ⊢
  have hl : lv_has ls 4 [(0, .ref (X.2.1 0)), (1, .int ev), (2, .int on)] := hl
  refine lv_aload_n hx hb dX3_arm_0 rfl (lv_at hl 0 rfl) ?_
  refine lv_iload_n hx hb dX3_arm_1 rfl (lv_at hl 1 rfl) ?_
  refine gw_calli (va_runV (As := [.int ev]) (rest := []) ⟨hx, hb, hml, hown, hts⟩ (c_WatchList_actionFailure X hX d π ev ) ⟨callB_of 1 hts giX3_actionFailure rfl rfl rfl (hts _ mG_22) (hts _ mG_178) pdX3_actionFailure ⟨Nat.le_of_ble_eq_true rfl, Nat.le_of_ble_eq_true rfl⟩, hts _ mG_179, hts _ mG_14⟩ ⟨wl_blind, gw_recv hK hP 0 (by decide) wl_c0 rfl, wl_at hP hK hN⟩ rfl rfl hl.1 rfl (lv_room (Nat.le_of_ble_eq_true rfl)) dX3_arm_2 ⟨Nat.le_of_ble_eq_true rfl, Nat.le_of_ble_eq_true rfl⟩) hS (fun r_1 u_1 t_1 locs hw hP hS => ?_)
  obtain ⟨rfl, rfl⟩ := hw
  have hP : va_P X.1 vwCl (wl_ws X d π) t_1.heap := hP
  refine lv_istore_n (lv' := [(3, .int (if wl_ok ev 32 = true then (if 0 < d (24 + ev.toNatClampNeg) 2 then 0 else 30) else 16)), (0, .ref (X.2.1 0)), (1, .int ev), (2, .int on)]) hx hb dX3_arm_5 rfl hl (by decide) rfl (fun ls hl => ?_)
  refine lv_iload_n hx hb dX3_arm_6 rfl (lv_at hl 0 rfl) ?_
  refine lv_if_eq (tgt := 12) hx hb dX3_arm_7 (by decide) (fun c_2 => ?_) (fun c_2 => ?_)
  · have af := wl_af c_2
    have hj := wl_ok32c af.1
    refine lv_aload_n hx hb dX3_arm_12 rfl (lv_at hl 1 rfl) ?_
    refine gw_get hx hb hts inX3 hown hK hP 0 (by decide) wl_c0 rfl 5 (by decide) (hts _ mG_75) (fun _ h9 => h9) (v := .ref (X.2.1 3)) rfl dX3_arm_13 ?_
    refine lv_iload_n hx hb dX3_arm_16 rfl (lv_at hl 2 rfl) ?_
    refine gw_aald hx hb hK hP 3 3 (by decide) wl_c3 rfl (i := ev) hj.1 (k := 24 + ev.toNatClampNeg) rfl dX3_arm_17 ?_
    refine lv_iload_n hx hb dX3_arm_18 rfl (lv_at hl 3 rfl) ?_
    refine gw_putN hx hb hts inX0 tyX0 okX0 nmX0 hown hK hP hX hS (24 + ev.toNatClampNeg) (wl_kE hj.2) (wl_cE hj.2) rfl 3 (by decide) (hN _ (List.mem_of_getElem? (i := 11) rfl)) (fun _ h9 => h9) rfl (ty := .boolean) (v := .int on) (by decide +kernel) (gw_nz hz) (gw_fz hz) (Nat.le_of_ble_eq_true rfl) (cf' := wl_c X (up2 d (24 + ev.toNatClampNeg) 3 on) π) (wl_uE3 hj.2) wl_o dX3_arm_19 (fun H locs hP hS => ?_)
    refine lv_iconst (v := 0) hx hb dX3_arm_22 (by decide) ?_
    refine gw_iret (up2 d (24 + ev.toNatClampNeg) 3 on, π) hx hb hr hlocks (wl_hB hP) hS dX3_arm_23 ?_
    exact Or.inr ⟨af.1, Or.inr ⟨af.2, rfl, rfl⟩⟩
  · have af := c_2
    refine lv_iload_n hx hb dX3_arm_10 rfl (lv_at hl 0 rfl) ?_
    refine gw_iret (d, π) hx hb hr hlocks (wl_hB hP) hS dX3_arm_11 ?_
    rcases wl_afn af with ⟨a1, a2⟩ | ⟨a1, a2, a3⟩
    · exact Or.inl ⟨a1, a2, rfl⟩
    · exact Or.inr ⟨a1, Or.inl ⟨a2, a3, rfl⟩⟩
set_option maxHeartbeats 4000000 in
set_option maxRecDepth 100000 in
theorem c_WatchList_limit (X : wl_X) (hX : gw_inj 88 X.2.1) (d : Nat → Nat → Int32) (π : Nat → Nat)  (id : Int32) (w : Int32) (n : Nat) (hn : d 0 2 = nI n) (hn16 : n ≤ 16) (hπ : ∀ j, j < 16 → π j < 16) (h7 : ∀ j, j < 16 → d (8 + j) 7 = 0 ∨ d (8 + j) 7 = 1) (h6 : ∀ j, j < 16 → d (8 + j) 6 = 0 ∨ d (8 + j) 6 = 1) : Met l yX3_limit wsX3_limit ({ frames := 2, cells := 0, slots := 0, locals := 41 }) (wl_pre X [.ref (X.2.1 0), .int id, .int w] d π) (va_Qi (fun r u => u = (d, π) ∧ ((r = -1 ∧ ∀ j, j < n → ¬ d (8 + π j) 0 = id) ∨ (∃ i, i < n ∧ d (8 + π i) 0 = id ∧ r = wl_ltell d (8 + π i) w))) (wl_b X) (gw_A 88 X.2.1)) 0 0 (gw_A 88 X.2.1) := by
  refine Met.ofW (cc := cX3_limit) (maxL := 4) (ret := (some .int)) (by decide) rfl ?_
  intro p e s m args below meth c s₁ B hml hv
  obtain ⟨rfl, hP, hK, hN⟩ := hv
  have hx := B.exec
  have hb := B.bytes
  have hr := B.returns
  have hts : ∀ w ∈ gG, w.before _ s = true := fun w h => atoms_spec (ws := wsX3_limit) B.pre w (List.mem_cons_of_mem _ h)
  have hown : s.vm.findClass RX3 = some m.cls := findClass_of_methodNamed B.named
  have hlocks := B.notSynchronized
  have hS : va_S (gw_A 88 X.2.1) s.heap s.heap [] := va_S.rf
  have hl := lv_entry ([.ref (X.2.1 0), .int id, .int w]) (n := 4) (Nat.le_of_ble_eq_true rfl)
  rw [lg_entry_eq]
  generalize (lg_sl ([.ref (X.2.1 0), .int id, .int w]) ++ List.replicate (4 - (lg_sl ([.ref (X.2.1 0), .int id, .int w])).length) Slot.unset).toArray = ls at hl ⊢
  have hl : lv_has ls 4 [(0, .ref (X.2.1 0)), (1, .int id), (2, .int w)] := hl
  refine lv_aload_n hx hb dX3_limit_0 rfl (lv_at hl 0 rfl) ?_
  refine lv_iload_n hx hb dX3_limit_1 rfl (lv_at hl 1 rfl) ?_
  refine gw_calli (va_runV (As := [.int id]) (rest := []) ⟨hx, hb, hml, hown, hts⟩ (c_WatchList_placeOf X hX d π id n hn hn16 hπ) ⟨callB_of 1 hts giX3_placeOf rfl rfl rfl (hts _ mG_22) (hts _ mG_98) pdX3_placeOf ⟨Nat.le_of_ble_eq_true rfl, Nat.le_of_ble_eq_true rfl⟩, hts _ mG_99, hts _ mG_0⟩ ⟨wl_blind, gw_recv hK hP 0 (by decide) wl_c0 rfl, wl_at hP hK hN⟩ rfl rfl hl.1 rfl (lv_room (Nat.le_of_ble_eq_true rfl)) dX3_limit_2 ⟨Nat.le_of_ble_eq_true rfl, Nat.le_of_ble_eq_true rfl⟩) hS (fun r_1 u_1 t_1 locs hw hP hS => ?_)
  obtain ⟨rfl, hpo⟩ := hw
  have hP : va_P X.1 vwCl (wl_ws X d π) t_1.heap := hP
  refine lv_istore_n (lv' := [(3, .int r_1), (0, .ref (X.2.1 0)), (1, .int id), (2, .int w)]) hx hb dX3_limit_5 rfl hl (by decide) rfl (fun ls hl => ?_)
  refine lv_iload_n hx hb dX3_limit_6 rfl (lv_at hl 0 rfl) ?_
  refine lv_iconst (v := (-1)) hx hb dX3_limit_7 (by decide) ?_
  refine lv_icmp_ne (tgt := 15) hx hb dX3_limit_8 (by decide) (fun c_2 => ?_) (fun c_2 => ?_)
  · obtain ⟨i, hi, ei, hid, hfst⟩ := hpo.resolve_right (fun z => c_2 z.1)
    subst ei
    refine lv_aload_n hx hb dX3_limit_15 rfl (lv_at hl 1 rfl) ?_
    refine gw_get hx hb hts inX3 hown hK hP 0 (by decide) wl_c0 rfl 1 (by decide) (hts _ mG_71) (fun _ h9 => h9) (v := .ref (X.2.1 2)) rfl dX3_limit_16 ?_
    refine lv_iload_n hx hb dX3_limit_19 rfl (lv_at hl 0 rfl) ?_
    refine gw_aald hx hb hK hP 2 2 (by decide) wl_c2 rfl (i := nI i) (vp_in_nI (by omega) (by omega)) (k := 8 + (π i)) (by show some (X.2.1 (8 + π (nI i).toNatClampNeg)) = _; rw [nI_clamp (by omega)]) dX3_limit_20 ?_
    refine lv_iload_n hx hb dX3_limit_21 rfl (lv_at hl 3 rfl) ?_
    refine gw_calli (va_runVN (As := [.int w]) (rest := []) ⟨hx, hb, hml, hown, hts⟩ (c_Limit_tellOf X hX d π (π i) (hπ i (by omega)) w (h7 _ (hπ i (by omega))) (h6 _ (hπ i (by omega)))) ⟨va_cnB 1 hts giX1_tellOf rfl rfl rfl (hN _ (List.mem_of_getElem? (i := 22) rfl)) (hts _ mG_24) pdX1_tellOf ⟨Nat.le_of_ble_eq_true rfl, Nat.le_of_ble_eq_true rfl⟩, hts _ mG_189, hts _ mG_15⟩ ⟨wl_blind, gw_recv hK hP (8 + (π i)) (wl_kL (hπ i (by omega))) (wl_cL (hπ i (by omega))) rfl, wl_at hP hK hN⟩ rfl rfl hl.1 rfl (lv_room (Nat.le_of_ble_eq_true rfl)) dX3_limit_22 ⟨Nat.le_of_ble_eq_true rfl, Nat.le_of_ble_eq_true rfl⟩) hS (fun r_3 u_3 t_3 locs hw hP hS => ?_)
    obtain ⟨rfl, rfl⟩ := hw
    have hP : va_P X.1 vwCl (wl_ws X d π) t_3.heap := hP
    refine gw_iret (d, π) hx hb hr hlocks (wl_hB hP) hS dX3_limit_25 ?_
    exact ⟨rfl, Or.inr ⟨i, hi, hid, rfl⟩⟩
  · have hnone := (hpo.resolve_left (fun ⟨i, hi, ei, _⟩ => wl_nm1 (by omega) (ei.symm.trans c_2))).2
    refine lv_iconst (v := (-1)) hx hb dX3_limit_11 (by decide) ?_
    refine lv_goto (tgt := 25) hx hb dX3_limit_12 (by decide) ?_
    refine gw_iret (d, π) hx hb hr hlocks (wl_hB hP) hS dX3_limit_25 ?_
    exact ⟨rfl, Or.inl ⟨rfl, hnone⟩⟩
set_option maxHeartbeats 4000000 in
set_option maxRecDepth 100000 in
theorem c_WatchList_event (X : wl_X) (hX : gw_inj 88 X.2.1) (d : Nat → Nat → Int32) (π : Nat → Nat)  (ev : Int32) (w : Int32) (h0 : ∀ j, j < 32 → d (24 + j) 0 = 0 ∨ d (24 + j) 0 = 1) (h3 : ∀ j, j < 32 → d (24 + j) 3 = 0 ∨ d (24 + j) 3 = 1) : Met l yX3_event wsX3_event ({ frames := 2, cells := 0, slots := 0, locals := 41 }) (wl_pre X [.ref (X.2.1 0), .int ev, .int w] d π) (va_Qi (fun r u => u = (d, π) ∧ r = (if wl_ok ev 32 = true then wl_etell d (24 + ev.toNatClampNeg) w else -1)) (wl_b X) (gw_A 88 X.2.1)) 0 0 (gw_A 88 X.2.1) := by
  refine Met.ofW (cc := cX3_event) (maxL := 3) (ret := (some .int)) (by decide) rfl ?_
  intro p e s m args below meth c s₁ B hml hv
  obtain ⟨rfl, hP, hK, hN⟩ := hv
  have hx := B.exec
  have hb := B.bytes
  have hr := B.returns
  have hts : ∀ w ∈ gG, w.before _ s = true := fun w h => atoms_spec (ws := wsX3_event) B.pre w (List.mem_cons_of_mem _ h)
  have hown : s.vm.findClass RX3 = some m.cls := findClass_of_methodNamed B.named
  have hlocks := B.notSynchronized
  have hS : va_S (gw_A 88 X.2.1) s.heap s.heap [] := va_S.rf
  have hl := lv_entry ([.ref (X.2.1 0), .int ev, .int w]) (n := 3) (Nat.le_of_ble_eq_true rfl)
  rw [lg_entry_eq]
  generalize (lg_sl ([.ref (X.2.1 0), .int ev, .int w]) ++ List.replicate (3 - (lg_sl ([.ref (X.2.1 0), .int ev, .int w])).length) Slot.unset).toArray = ls at hl ⊢
  have hl : lv_has ls 3 [(0, .ref (X.2.1 0)), (1, .int ev), (2, .int w)] := hl
  refine lv_iload_n hx hb dX3_event_0 rfl (lv_at hl 1 rfl) ?_
  refine gw_calli (va_runS (As := [.int ev]) (rest := []) ⟨hx, hb, hml, hown, hts⟩ (c_WatchList_isEvent X hX d π ev ) ⟨callB_of 1 hts giX3_isEvent rfl rfl rfl (hts _ mG_22) (hts _ mG_95) pdX3_isEvent ⟨Nat.le_of_ble_eq_true rfl, Nat.le_of_ble_eq_true rfl⟩, hts _ mG_96⟩ ⟨wl_blind, wl_at hP hK hN⟩ rfl rfl hl.1 rfl (lv_room (Nat.le_of_ble_eq_true rfl)) dX3_event_1 ⟨Nat.le_of_ble_eq_true rfl, Nat.le_of_ble_eq_true rfl⟩) hS (fun r_1 u_1 t_1 locs hw hP hS => ?_)
  obtain ⟨rfl, rfl⟩ := hw
  have hP : va_P X.1 vwCl (wl_ws X d π) t_1.heap := hP
  refine lv_if_eq (tgt := 20) hx hb dX3_event_4 (by decide) (fun c_2 => ?_) (fun c_2 => ?_)
  · have ok_1 := wl_if c_2
    refine lv_iconst (v := (-1)) hx hb dX3_event_20 (by decide) ?_
    refine gw_iret (d, π) hx hb hr hlocks (wl_hB hP) hS dX3_event_21 ?_
    exact ⟨rfl, by rw [if_neg (by rw [ok_1]; decide)]⟩
  · have ok_1 := wl_it c_2
    have hj := wl_ok32c ok_1
    refine lv_aload_n hx hb dX3_event_7 rfl (lv_at hl 0 rfl) ?_
    refine gw_get hx hb hts inX3 hown hK hP 0 (by decide) wl_c0 rfl 5 (by decide) (hts _ mG_75) (fun _ h9 => h9) (v := .ref (X.2.1 3)) rfl dX3_event_8 ?_
    refine lv_iload_n hx hb dX3_event_11 rfl (lv_at hl 1 rfl) ?_
    refine gw_aald hx hb hK hP 3 3 (by decide) wl_c3 rfl (i := ev) hj.1 (k := 24 + ev.toNatClampNeg) rfl dX3_event_12 ?_
    refine lv_iload_n hx hb dX3_event_13 rfl (lv_at hl 2 rfl) ?_
    refine gw_calli (va_runVN (As := [.int w]) (rest := []) ⟨hx, hb, hml, hown, hts⟩ (c_Event_tellOf X hX d π ev.toNatClampNeg hj.2 w (h0 _ hj.2) (h3 _ hj.2)) ⟨va_cnB 1 hts giX0_tellOf rfl rfl rfl (hN _ (List.mem_of_getElem? (i := 24) rfl)) (hts _ mG_25) pdX0_tellOf ⟨Nat.le_of_ble_eq_true rfl, Nat.le_of_ble_eq_true rfl⟩, hts _ mG_197, hts _ mG_16⟩ ⟨wl_blind, gw_recv hK hP (24 + ev.toNatClampNeg) (wl_kE hj.2) (wl_cE hj.2) rfl, wl_at hP hK hN⟩ rfl rfl hl.1 rfl (lv_room (Nat.le_of_ble_eq_true rfl)) dX3_event_14 ⟨Nat.le_of_ble_eq_true rfl, Nat.le_of_ble_eq_true rfl⟩) hS (fun r_3 u_3 t_3 locs hw hP hS => ?_)
    obtain ⟨rfl, rfl⟩ := hw
    have hP : va_P X.1 vwCl (wl_ws X d π) t_3.heap := hP
    refine lv_goto (tgt := 21) hx hb dX3_event_17 (by decide) ?_
    refine gw_iret (d, π) hx hb hr hlocks (wl_hB hP) hS dX3_event_21 ?_
    exact ⟨rfl, by rw [if_pos ok_1]⟩
set_option maxHeartbeats 4000000 in
set_option maxRecDepth 100000 in
theorem c_WatchList_actionAt (X : wl_X) (hX : gw_inj 88 X.2.1) (d : Nat → Nat → Int32) (π : Nat → Nat)  (ev : Int32) (k : Int32) (hsz : ∀ j, j < 32 → ∃ z, d (24 + j) 2 = nI z ∧ z ≤ 256) : Met l yX3_actionAt wsX3_actionAt ({ frames := 1, cells := 0, slots := 0, locals := 21 }) (wl_pre X [.ref (X.2.1 0), .int ev, .int k] d π) (va_Qi (fun r u => u = (d, π) ∧ r = (if wl_ok ev 32 = true then (if wl_ok k (d (24 + ev.toNatClampNeg) 2) = true then d (56 + ev.toNatClampNeg) k.toNatClampNeg &&& 255 else -1) else -1)) (wl_b X) (gw_A 88 X.2.1)) 0 0 (gw_A 88 X.2.1) := by
  refine Met.ofW (cc := cX3_actionAt) (maxL := 3) (ret := (some .int)) (by decide) rfl ?_
  intro p e s m args below meth c s₁ B hml hv
  obtain ⟨rfl, hP, hK, hN⟩ := hv
  have hx := B.exec
  have hb := B.bytes
  have hr := B.returns
  have hts : ∀ w ∈ gG, w.before _ s = true := fun w h => atoms_spec (ws := wsX3_actionAt) B.pre w (List.mem_cons_of_mem _ h)
  have hown : s.vm.findClass RX3 = some m.cls := findClass_of_methodNamed B.named
  have hlocks := B.notSynchronized
  have hS : va_S (gw_A 88 X.2.1) s.heap s.heap [] := va_S.rf
  have hl := lv_entry ([.ref (X.2.1 0), .int ev, .int k]) (n := 3) (Nat.le_of_ble_eq_true rfl)
  rw [lg_entry_eq]
  generalize (lg_sl ([.ref (X.2.1 0), .int ev, .int k]) ++ List.replicate (3 - (lg_sl ([.ref (X.2.1 0), .int ev, .int k])).length) Slot.unset).toArray = ls at hl ⊢
  have hl : lv_has ls 3 [(0, .ref (X.2.1 0)), (1, .int ev), (2, .int k)] := hl
  refine lv_iload_n hx hb dX3_actionAt_0 rfl (lv_at hl 1 rfl) ?_
  refine gw_calli (va_runS (As := [.int ev]) (rest := []) ⟨hx, hb, hml, hown, hts⟩ (c_WatchList_isEvent X hX d π ev ) ⟨callB_of 1 hts giX3_isEvent rfl rfl rfl (hts _ mG_22) (hts _ mG_95) pdX3_isEvent ⟨Nat.le_of_ble_eq_true rfl, Nat.le_of_ble_eq_true rfl⟩, hts _ mG_96⟩ ⟨wl_blind, wl_at hP hK hN⟩ rfl rfl hl.1 rfl (lv_room (Nat.le_of_ble_eq_true rfl)) dX3_actionAt_1 ⟨Nat.le_of_ble_eq_true rfl, Nat.le_of_ble_eq_true rfl⟩) hS (fun r_1 u_1 t_1 locs hw hP hS => ?_)
  obtain ⟨rfl, rfl⟩ := hw
  have hP : va_P X.1 vwCl (wl_ws X d π) t_1.heap := hP
  refine lv_if_eq (tgt := 20) hx hb dX3_actionAt_4 (by decide) (fun c_2 => ?_) (fun c_2 => ?_)
  · have ok_1 := wl_if c_2
    refine lv_iconst (v := (-1)) hx hb dX3_actionAt_20 (by decide) ?_
    refine gw_iret (d, π) hx hb hr hlocks (wl_hB hP) hS dX3_actionAt_21 ?_
    exact ⟨rfl, by rw [if_neg (by rw [ok_1]; decide)]⟩
  · have ok_1 := wl_it c_2
    have hj := wl_ok32c ok_1
    obtain ⟨z, hsz1, hsz2⟩ := hsz _ hj.2
    refine lv_aload_n hx hb dX3_actionAt_7 rfl (lv_at hl 0 rfl) ?_
    refine gw_get hx hb hts inX3 hown hK hP 0 (by decide) wl_c0 rfl 5 (by decide) (hts _ mG_75) (fun _ h9 => h9) (v := .ref (X.2.1 3)) rfl dX3_actionAt_8 ?_
    refine lv_iload_n hx hb dX3_actionAt_11 rfl (lv_at hl 1 rfl) ?_
    refine gw_aald hx hb hK hP 3 3 (by decide) wl_c3 rfl (i := ev) hj.1 (k := 24 + ev.toNatClampNeg) rfl dX3_actionAt_12 ?_
    refine lv_iload_n hx hb dX3_actionAt_13 rfl (lv_at hl 2 rfl) ?_
    refine gw_calli (va_runVN (As := [.int k]) (rest := []) ⟨hx, hb, hml, hown, hts⟩ (c_Event_byteAt X hX d π ev.toNatClampNeg hj.2 k z hsz1 hsz2) ⟨va_cnB 1 hts giX0_byteAt rfl rfl rfl (hN _ (List.mem_of_getElem? (i := 26) rfl)) (hts _ mG_25) pdX0_byteAt ⟨Nat.le_of_ble_eq_true rfl, Nat.le_of_ble_eq_true rfl⟩, hts _ mG_203, hts _ mG_17⟩ ⟨wl_blind, gw_recv hK hP (24 + ev.toNatClampNeg) (wl_kE hj.2) (wl_cE hj.2) rfl, wl_at hP hK hN⟩ rfl rfl hl.1 rfl (lv_room (Nat.le_of_ble_eq_true rfl)) dX3_actionAt_14 ⟨Nat.le_of_ble_eq_true rfl, Nat.le_of_ble_eq_true rfl⟩) hS (fun r_3 u_3 t_3 locs hw hP hS => ?_)
    obtain ⟨rfl, rfl⟩ := hw
    have hP : va_P X.1 vwCl (wl_ws X d π) t_3.heap := hP
    refine lv_goto (tgt := 21) hx hb dX3_actionAt_17 (by decide) ?_
    refine gw_iret (d, π) hx hb hr hlocks (wl_hB hP) hS dX3_actionAt_21 ?_
    exact ⟨rfl, by rw [if_pos ok_1]⟩
set_option maxHeartbeats 4000000 in
set_option maxRecDepth 100000 in
theorem c_WatchList_count (X : wl_X) (hX : gw_inj 88 X.2.1) (d : Nat → Nat → Int32) (π : Nat → Nat)  (w : Int32)  : Met l yX3_count wsX3_count ({ frames := 0, cells := 0, slots := 0, locals := 0 }) (wl_pre X [.ref (X.2.1 0), .int w] d π) (va_Qi (fun r u => u = (d, π) ∧ r = wl_cnt d w) (wl_b X) (gw_A 88 X.2.1)) 0 0 (gw_A 88 X.2.1) := by
  refine Met.ofW (cc := cX3_count) (maxL := 2) (ret := (some .int)) (by decide) rfl ?_
  intro p e s m args below meth c s₁ B hml hv
  obtain ⟨rfl, hP, hK, hN⟩ := hv
  have hx := B.exec
  have hb := B.bytes
  have hr := B.returns
  have hts : ∀ w ∈ gG, w.before _ s = true := fun w h => atoms_spec (ws := wsX3_count) B.pre w (List.mem_cons_of_mem _ h)
  have hown : s.vm.findClass RX3 = some m.cls := findClass_of_methodNamed B.named
  have hlocks := B.notSynchronized
  have hS : va_S (gw_A 88 X.2.1) s.heap s.heap [] := va_S.rf
  have hl := lv_entry ([.ref (X.2.1 0), .int w]) (n := 2) (Nat.le_of_ble_eq_true rfl)
  rw [lg_entry_eq]
  generalize (lg_sl ([.ref (X.2.1 0), .int w]) ++ List.replicate (2 - (lg_sl ([.ref (X.2.1 0), .int w])).length) Slot.unset).toArray = ls at hl ⊢
  have hl : lv_has ls 2 [(0, .ref (X.2.1 0)), (1, .int w)] := hl
  refine lv_iload_n hx hb dX3_count_0 rfl (lv_at hl 1 rfl) ?_
  by_cases c_1 : w.toInt < 0 ∨ 4 < w.toInt
  · refine lv_tableOut (tgt := 64) hx hb dX3_count_1 c_1 (by decide) ?_
    refine lv_iconst (v := (-1)) hx hb dX3_count_64 (by decide) ?_
    refine gw_iret (d, π) hx hb hr hlocks (wl_hB hP) hS dX3_count_65 ?_
    exact ⟨rfl, by rw [wl_cnt_o c_1]⟩
  · have h_c_1 : w = 0 ∨ w = 1 ∨ w = 2 ∨ w = 3 ∨ w = 4 := wl_sw0_4 c_1
    rcases h_c_1 with e_c_1 | e_c_1 | e_c_1 | e_c_1 | e_c_1
    · refine lv_tableIn (tgt := 36) hx hb dX3_count_1 (by rw [e_c_1]; decide) (by rw [e_c_1]; decide) (by rw [e_c_1]; rfl) (by decide) ?_
      refine lv_aload_n hx hb dX3_count_36 rfl (lv_at hl 0 rfl) ?_
      refine gw_get hx hb hts inX3 hown hK hP 0 (by decide) wl_c0 rfl 2 (by decide) (hts _ mG_72) (fun _ h9 => h9) (v := .int (d 0 2)) rfl dX3_count_37 ?_
      refine gw_iret (d, π) hx hb hr hlocks (wl_hB hP) hS dX3_count_40 ?_
      rw [e_c_1]; exact ⟨rfl, rfl⟩
    · refine lv_tableIn (tgt := 41) hx hb dX3_count_1 (by rw [e_c_1]; decide) (by rw [e_c_1]; decide) (by rw [e_c_1]; rfl) (by decide) ?_
      refine lv_aload_n hx hb dX3_count_41 rfl (lv_at hl 0 rfl) ?_
      refine gw_get hx hb hts inX3 hown hK hP 0 (by decide) wl_c0 rfl 3 (by decide) (hts _ mG_73) (fun _ h9 => h9) (v := .int (d 0 3)) rfl dX3_count_42 ?_
      refine gw_iret (d, π) hx hb hr hlocks (wl_hB hP) hS dX3_count_45 ?_
      rw [e_c_1]; exact ⟨rfl, rfl⟩
    · refine lv_tableIn (tgt := 46) hx hb dX3_count_1 (by rw [e_c_1]; decide) (by rw [e_c_1]; decide) (by rw [e_c_1]; rfl) (by decide) ?_
      refine lv_aload_n hx hb dX3_count_46 rfl (lv_at hl 0 rfl) ?_
      refine gw_get hx hb hts inX3 hown hK hP 0 (by decide) wl_c0 rfl 6 (by decide) (hts _ mG_76) (fun _ h9 => h9) (v := .ref (X.2.1 4)) rfl dX3_count_47 ?_
      refine gw_getN hx hb hts inX2 hown hK hP 4 (by decide) wl_c4 rfl 3 (by decide) (hN _ (List.mem_of_getElem? (i := 1) rfl)) (fun _ h9 => h9) (v := .int (d 4 3)) rfl dX3_count_50 ?_
      refine gw_iret (d, π) hx hb hr hlocks (wl_hB hP) hS dX3_count_53 ?_
      rw [e_c_1]; exact ⟨rfl, rfl⟩
    · refine lv_tableIn (tgt := 54) hx hb dX3_count_1 (by rw [e_c_1]; decide) (by rw [e_c_1]; decide) (by rw [e_c_1]; rfl) (by decide) ?_
      refine lv_aload_n hx hb dX3_count_54 rfl (lv_at hl 0 rfl) ?_
      refine gw_get hx hb hts inX3 hown hK hP 0 (by decide) wl_c0 rfl 7 (by decide) (hts _ mG_77) (fun _ h9 => h9) (v := .int (d 0 7)) rfl dX3_count_55 ?_
      refine gw_iret (d, π) hx hb hr hlocks (wl_hB hP) hS dX3_count_58 ?_
      rw [e_c_1]; exact ⟨rfl, rfl⟩
    · refine lv_tableIn (tgt := 59) hx hb dX3_count_1 (by rw [e_c_1]; decide) (by rw [e_c_1]; decide) (by rw [e_c_1]; rfl) (by decide) ?_
      refine lv_aload_n hx hb dX3_count_59 rfl (lv_at hl 0 rfl) ?_
      refine gw_get hx hb hts inX3 hown hK hP 0 (by decide) wl_c0 rfl 8 (by decide) (hts _ mG_78) (fun _ h9 => h9) (v := .int (d 0 8)) rfl dX3_count_60 ?_
      refine gw_iret (d, π) hx hb hr hlocks (wl_hB hP) hS dX3_count_63 ?_
      rw [e_c_1]; exact ⟨rfl, rfl⟩

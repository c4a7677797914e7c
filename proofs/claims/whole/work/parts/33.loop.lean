/-! PART 33: the law's loop -/
set_option maxHeartbeats 4000000 in
set_option maxRecDepth 100000 in
theorem law_loop {p : Program} {l : Launch} {e0 : Env} {s : State} {m : MethodId} {below : List Frame} {meth : Method} {c : Code} {b L : Nat} {xs : Nat → Int32} (C0 : lw_At p s m meth c b L xs) (hL4 : L ≤ 4096) {X : wl_X} {Y : rf_X} (hF : lw_F s X Y) {cells slots : Nat} (hcs : cells + 0 ≤ room_1.cells ∧ slots + 0 ≤ room_1.slots) :
    ∀ (g i : Nat) (d e : Nat → Nat → Int32) (π : Nat → Nat) (H : Heap) (locs : List Loc), i ≤ L → L < i + g → lw_S s X Y d π e H locs → ∀ (ls : Array Slot), lv_has ls 4 [(0, .ref b), (1, .ref (X.2.1 0)), (2, .ref (Y.2.1 0)), (3, .int (nI i))] → W p l e0 room_1 s m #[Value.ref b] below meth c H locs cells slots (lw_Z below #[Value.ref b] s) (F0 m 18 ls []) := by
  intro g
  induction g with
  | zero => intro i d e π H locs h1 h2; exact absurd h2 (by omega)
  | succ g ih =>
    intro i d e π H locs hi0 hg hS0 ls hl
    have C1 := C0
    obtain ⟨hx, hb, hr, hml, hown, hts, hX0, hbl, hlocks, hgv⟩ := C0
    have hbA : ¬ (fun q : Nat => s.heap.size ≤ q) b := Nat.not_le.mpr hbl
    have hS := hS0.2.2.2
    refine lv_iload_n hx hb dL_law_18 rfl (lv_at hl 3 rfl) ?_
    refine lv_aload_n hx hb dL_law_19 rfl (lv_at hl 0 rfl) ?_
    refine va_slen hx hb hX0 hbl hbA hS dL_law_20 ?_
    refine lv_bipush (v := 8) hx hb dL_law_21 (by decide) ?_
    refine lv_isub hx hb dL_law_23 ?_
    have hsub : (Int32.ofNat L - 8).toInt = (L : Int) - 8 := pk_sub_toInt (a := L) (b := 8) (by omega) (by omega)
    refine lv_icmp_gt (tgt := 708) hx hb dL_law_24 (by decide) (fun c_1 => ?_) (fun c_1 => ?_)
    · refine lv_iconst (v := 1) hx hb dL_law_708 (by decide) ?_
      refine va_forget (fun q hq => hS.2.2 q hq) ?_
      refine W.widen (k := 600000) (n := 7302250) hcs.1 hcs.2 ?_
      exact lw_ret hx hb hr hlocks dL_law_709
    · have hi : i + 8 ≤ L := by
        rw [Int32.lt_iff_toInt_lt, hsub, nI_toInt (by omega)] at c_1
        omega
      refine lv_aload_n hx hb dL_law_27 rfl (lv_at hl 0 rfl) ?_
      refine lv_iload_n hx hb dL_law_28 rfl (lv_at hl 3 rfl) ?_
      refine va_sld hx hb hX0 hbl hbA hS (vp_in_nI (show i < L by omega) (by omega)) dL_law_29 ?_
      refine lv_bipush (v := 31) hx hb dL_law_30 (by decide) ?_
      refine lv_iand hx hb dL_law_32 ?_
      have kk : ∀ (d e : Nat → Nat → Int32) (π : Nat → Nat) (H : Heap) (locs : List Loc), lw_S s X Y d π e H locs → W p l e0 room_1 s m #[Value.ref b] below meth c H locs cells slots (lw_Z below #[Value.ref b] s) (F0 m 702 ls []) := by
        intro d e π H locs hS1
        refine lv_iinc (v := nI (i + 8)) (lv' := [(3, .int (nI (i + 8))), (0, .ref b), (1, .ref (X.2.1 0)), (2, .ref (Y.2.1 0))]) hx hb dL_law_702 hl (k := 3) rfl (nI_add i 8) (by decide) rfl (fun ls hl => ?_)
        refine lv_goto (tgt := 18) hx hb dL_law_705 (by decide) ?_
        exact ih (i + 8) d e π H locs hi (by omega) hS1 ls (lv_sub hl [1, 2, 3, 0] rfl)
      generalize xs (nI i).toNatClampNeg &&& 31 = x
      by_cases c_2 : x.toInt < 0 ∨ 17 < x.toInt
      · refine lv_tableOut (tgt := 702) hx hb dL_law_33 c_2 (by decide) ?_
        exact kk d e π H locs hS0
      · obtain ⟨j, hj, ej⟩ := wl_sw 17 (by omega) c_2
        rcases (show j = 0 ∨ j = 1 ∨ j = 2 ∨ j = 3 ∨ j = 4 ∨ j = 5 ∨ j = 6 ∨ j = 7 ∨ j = 8 ∨ j = 9 ∨ j = 10 ∨ j = 11 ∨ j = 12 ∨ j = 13 ∨ j = 14 ∨ j = 15 ∨ j = 16 ∨ j = 17 by omega) with rfl | rfl | rfl | rfl | rfl | rfl | rfl | rfl | rfl | rfl | rfl | rfl | rfl | rfl | rfl | rfl | rfl | rfl
        · refine lv_tableIn (tgt := 120) hx hb dL_law_33 (by rw [ej]; decide) (by rw [ej]; decide) (by rw [ej]; rfl) (by decide) ?_
          exact lc_set C1 hL4 hF hi hcs hS0 hl kk
        · refine lv_tableIn (tgt := 153) hx hb dL_law_33 (by rw [ej]; decide) (by rw [ej]; decide) (by rw [ej]; rfl) (by decide) ?_
          exact lc_add C1 hL4 hF hi hcs hS0 hl kk
        · refine lv_tableIn (tgt := 256) hx hb dL_law_33 (by rw [ej]; decide) (by rw [ej]; decide) (by rw [ej]; rfl) (by decide) ?_
          exact lc_remove C1 hL4 hF hi hcs hS0 hl kk
        · refine lv_tableIn (tgt := 279) hx hb dL_law_33 (by rw [ej]; decide) (by rw [ej]; decide) (by rw [ej]; rfl) (by decide) ?_
          exact lc_enable C1 hL4 hF hi hcs hS0 hl kk
        · refine lv_tableIn (tgt := 328) hx hb dL_law_33 (by rw [ej]; decide) (by rw [ej]; decide) (by rw [ej]; rfl) (by decide) ?_
          exact lc_watch C1 hL4 hF hi hcs hS0 hl kk
        · refine lv_tableIn (tgt := 341) hx hb dL_law_33 (by rw [ej]; decide) (by rw [ej]; decide) (by rw [ej]; rfl) (by decide) ?_
          exact lc_linked C1 hL4 hF hi hcs hS0 hl kk
        · refine lv_tableIn (tgt := 354) hx hb dL_law_33 (by rw [ej]; decide) (by rw [ej]; decide) (by rw [ej]; rfl) (by decide) ?_
          exact lc_raise C1 hL4 hF hi hcs hS0 hl kk
        · refine lv_tableIn (tgt := 387) hx hb dL_law_33 (by rw [ej]; decide) (by rw [ej]; decide) (by rw [ej]; rfl) (by decide) ?_
          exact lc_work C1 hL4 hF hi hcs hS0 hl kk
        · refine lv_tableIn (tgt := 400) hx hb dL_law_33 (by rw [ej]; decide) (by rw [ej]; decide) (by rw [ej]; rfl) (by decide) ?_
          exact lc_lose C1 hL4 hF hi hcs hS0 hl kk
        · refine lv_tableIn (tgt := 413) hx hb dL_law_33 (by rw [ej]; decide) (by rw [ej]; decide) (by rw [ej]; rfl) (by decide) ?_
          exact lc_tell C1 hL4 hF hi hcs hS0 hl kk
        · refine lv_tableIn (tgt := 462) hx hb dL_law_33 (by rw [ej]; decide) (by rw [ej]; decide) (by rw [ej]; rfl) (by decide) ?_
          exact lc_put C1 hL4 hF hi hcs hS0 hl kk
        · refine lv_tableIn (tgt := 485) hx hb dL_law_33 (by rw [ej]; decide) (by rw [ej]; decide) (by rw [ej]; rfl) (by decide) ?_
          exact lc_act C1 hL4 hF hi hcs hS0 hl kk
        · refine lv_tableIn (tgt := 508) hx hb dL_law_33 (by rw [ej]; decide) (by rw [ej]; decide) (by rw [ej]; rfl) (by decide) ?_
          exact lc_drop C1 hL4 hF hi hcs hS0 hl kk
        · refine lv_tableIn (tgt := 531) hx hb dL_law_33 (by rw [ej]; decide) (by rw [ej]; decide) (by rw [ej]; rfl) (by decide) ?_
          exact lc_arm C1 hL4 hF hi hcs hS0 hl kk
        · refine lv_tableIn (tgt := 580) hx hb dL_law_33 (by rw [ej]; decide) (by rw [ej]; decide) (by rw [ej]; rfl) (by decide) ?_
          exact lc_limit C1 hL4 hF hi hcs hS0 hl kk
        · refine lv_tableIn (tgt := 613) hx hb dL_law_33 (by rw [ej]; decide) (by rw [ej]; decide) (by rw [ej]; rfl) (by decide) ?_
          exact lc_event C1 hL4 hF hi hcs hS0 hl kk
        · refine lv_tableIn (tgt := 646) hx hb dL_law_33 (by rw [ej]; decide) (by rw [ej]; decide) (by rw [ej]; rfl) (by decide) ?_
          exact lc_actionAt C1 hL4 hF hi hcs hS0 hl kk
        · refine lv_tableIn (tgt := 679) hx hb dL_law_33 (by rw [ej]; decide) (by rw [ej]; decide) (by rw [ej]; rfl) (by decide) ?_
          exact lc_count C1 hL4 hF hi hcs hS0 hl kk

/-! PART 34: the law from its entry -/
theorem wl_nest_tbl : ∀ w ∈ wl_nest, w ∈ lw_tbl := List.forall_mem_cons.mpr ⟨(List.mem_append_right _ (List.mem_append_left _ (List.mem_of_getElem? (i := 21) rfl))), List.forall_mem_cons.mpr ⟨(List.mem_append_right _ (List.mem_append_left _ (List.mem_of_getElem? (i := 29) rfl))), List.forall_mem_cons.mpr ⟨(List.mem_append_right _ (List.mem_append_left _ (List.mem_of_getElem? (i := 41) rfl))), List.forall_mem_cons.mpr ⟨(List.mem_append_right _ (List.mem_append_left _ (List.mem_of_getElem? (i := 46) rfl))), List.forall_mem_cons.mpr ⟨(List.mem_append_right _ (List.mem_append_left _ (List.mem_of_getElem? (i := 48) rfl))), List.forall_mem_cons.mpr ⟨(List.mem_append_right _ (List.mem_append_left _ (List.mem_of_getElem? (i := 53) rfl))), List.forall_mem_cons.mpr ⟨(List.mem_append_right _ (List.mem_append_left _ (List.mem_of_getElem? (i := 55) rfl))), List.forall_mem_cons.mpr ⟨(List.mem_append_right _ (List.mem_append_left _ (List.mem_of_getElem? (i := 57) rfl))), List.forall_mem_cons.mpr ⟨(List.mem_append_right _ (List.mem_append_left _ (List.mem_of_getElem? (i := 80) rfl))), List.forall_mem_cons.mpr ⟨(List.mem_append_right _ (List.mem_append_left _ (List.mem_of_getElem? (i := 85) rfl))), List.forall_mem_cons.mpr ⟨(List.mem_append_right _ (List.mem_append_left _ (List.mem_of_getElem? (i := 88) rfl))), List.forall_mem_cons.mpr ⟨(List.mem_append_right _ (List.mem_append_left _ (List.mem_of_getElem? (i := 90) rfl))), List.forall_mem_cons.mpr ⟨(List.mem_append_right _ (List.mem_append_left _ (List.mem_of_getElem? (i := 159) rfl))), List.forall_mem_cons.mpr ⟨(List.mem_append_right _ (List.mem_append_left _ (List.mem_of_getElem? (i := 179) rfl))), List.forall_mem_cons.mpr ⟨(List.mem_append_right _ (List.mem_append_left _ (List.mem_of_getElem? (i := 184) rfl))), List.forall_mem_cons.mpr ⟨(List.mem_append_right _ (List.mem_append_left _ (List.mem_of_getElem? (i := 192) rfl))), List.forall_mem_cons.mpr ⟨(List.mem_append_right _ (List.mem_append_left _ (List.mem_of_getElem? (i := 208) rfl))), List.forall_mem_cons.mpr ⟨(List.mem_append_right _ (List.mem_append_left _ (List.mem_of_getElem? (i := 212) rfl))), List.forall_mem_cons.mpr ⟨(List.mem_append_right _ (List.mem_append_left _ (List.mem_of_getElem? (i := 216) rfl))), List.forall_mem_cons.mpr ⟨(List.mem_append_right _ (List.mem_append_left _ (List.mem_of_getElem? (i := 224) rfl))), List.forall_mem_cons.mpr ⟨(List.mem_append_right _ (List.mem_append_right _ (List.mem_of_getElem? (i := 0) rfl))), List.forall_mem_cons.mpr ⟨(List.mem_append_right _ (List.mem_append_right _ (List.mem_of_getElem? (i := 4) rfl))), List.forall_mem_cons.mpr ⟨(List.mem_append_right _ (List.mem_append_right _ (List.mem_of_getElem? (i := 27) rfl))), List.forall_mem_cons.mpr ⟨(List.mem_append_right _ (List.mem_append_right _ (List.mem_of_getElem? (i := 31) rfl))), List.forall_mem_cons.mpr ⟨(List.mem_append_right _ (List.mem_append_right _ (List.mem_of_getElem? (i := 38) rfl))), List.forall_mem_cons.mpr ⟨(List.mem_append_right _ (List.mem_append_right _ (List.mem_of_getElem? (i := 42) rfl))), List.forall_mem_cons.mpr ⟨(List.mem_append_right _ (List.mem_append_right _ (List.mem_of_getElem? (i := 47) rfl))), fun _ h => absurd h List.not_mem_nil⟩⟩⟩⟩⟩⟩⟩⟩⟩⟩⟩⟩⟩⟩⟩⟩⟩⟩⟩⟩⟩⟩⟩⟩⟩⟩⟩
theorem wl_N_of {A : Array Value} {s : State} (h : ∀ w ∈ wl_nest, w.before A s = true) : wl_N s := by
  intro w hw
  have h1 := wl_nest_ok w hw
  have h2 := h w hw
  cases w <;> first | (simp [wl_isNest] at h1; done) | exact va_Nw.of rfl h2
/-- at the start all is empty on both sides -/
theorem rl_start : rl wl_d0 (fun k => k) (fun _ _ => 0) := by
  have z : ∀ k j, (k < 24 ∨ 56 ≤ k ∨ j ≠ 0) → wl_d0 k j = 0 := fun k j h => by unfold wl_d0; rw [if_neg (by omega)]
  have c0 : ∀ N, rf_cnt (fun _ => 0) N = 0 := fun N => by
    induction N with
    | zero => rfl
    | succ N ih => unfold rf_cnt; rw [ih, if_pos rfl]
  refine ⟨0, 0, 0, 0, fun k => k, ⟨by omega, ?_, fun i h => h, fun i j _ _ h => h, fun i h => absurd h (by omega), fun i j _ h => absurd h (by omega), fun j hj => ⟨fun h => absurd rfl h, fun ⟨i, h, _⟩ => absurd h (by omega)⟩, fun i h => absurd h (by omega), c0 256⟩, ⟨fun j hj => ⟨0, by omega, nI_0.symm⟩, fun k j _ _ _ => Or.inl rfl, fun j hj => Or.inl (z _ _ (by omega)), fun j hj => Or.inl (z _ _ (by omega))⟩, fun j hj => z _ _ (by omega), ⟨z _ _ (by omega), z _ _ (by omega), Or.inl (z _ _ (by omega)), z _ _ (by omega), z _ _ (by omega)⟩, ⟨?_, by omega, ?_, by omega, nI_0.symm, fun j h => absurd h (by omega)⟩, fun j hj => ⟨?_, ⟨0, by omega, ?_, nI_0.symm, fun k h => absurd h (by omega)⟩, z _ _ (by omega), Or.inl rfl, fun _ => rfl⟩, ⟨?_, nI_0.symm, by omega, fun j hj => ?_, fun j hj => ?_, fun j h => absurd h (by omega)⟩⟩
  · rw [z _ _ (by omega)]; exact nI_0.symm
  · rw [z _ _ (by omega)]; exact nI_0.symm
  · rw [z _ _ (by omega)]; exact nI_0.symm
  · unfold wl_d0; rw [if_pos (by omega), if_pos rfl]
  · rw [z _ _ (by omega)]; exact nI_0.symm
  · rw [z _ _ (by omega)]; exact nI_0.symm
  · rw [z _ _ (by omega)]; decide
  · show (0 : Int32).toInt8.toInt32 = 0
    decide
set_option maxHeartbeats 4000000 in
set_option maxRecDepth 100000 in
theorem whole_start {p : Program} {e : Env} {s : State} {m : MethodId} {below : List Frame} {meth : Method} {c : Code} (l : Launch) {b L : Nat} {xs : Nat → Int32} (hL : L ≤ 4096) (C0 : lw_At p s m meth c b L xs) : W p l e room_1 s m #[Value.ref b] below meth c s.heap [] 0 0 (lw_Z below #[Value.ref b] s) (entryFrame m ([Value.ref b] : List Value).toArray 4) := by
  obtain ⟨hx, hb, hr, hml, hown, hts, hX0, hbl, hlocks, hgv⟩ := id C0
  have hA : ∀ q : Nat, s.heap.size ≤ q → (fun q : Nat => s.heap.size ≤ q) q := fun _ h => h
  obtain ⟨c0, iS0, hKn0⟩ := u_known (C := RX0) (T := TX0) (N := 4) (n := 4) hts tGl_X0 (hts _ tG_62)
  obtain ⟨c1, iS1, hKn1⟩ := u_known (C := RX1) (T := TX1) (N := 9) (n := 9) hts tGl_X1 (hts _ tG_48)
  obtain ⟨c2, iS2, hKn2⟩ := u_known (C := RX2) (T := TX2) (N := 4) (n := 4) hts tGl_X2 (hts _ tG_39)
  obtain ⟨c3, iS3, hKn3⟩ := u_known (C := RX3) (T := TX3) (N := 11) (n := 11) hts tGl_X3 (hts _ tG_29)
  obtain ⟨c4, iS4, hKn4⟩ := u_known (C := RX4) (T := TX4) (N := 24) (n := 24) hts tGl_X4 (hts _ tG_210)
  obtain ⟨dC, dI, hKc⟩ : ∃ (dC : Nat → ClassId) (dI : Nat → Nat → Nat), ∀ (k : Nat) (q : vw_C), vwCl[k]? = some q → u_Kn s q.1 q.2.1 q.2.2 (dC k) (dI k) := by
    refine ⟨fun k => if k = 0 then c0 else if k = 1 then c1 else if k = 2 then c2 else if k = 3 then c3 else c4, fun k => if k = 0 then iS0 else if k = 1 then iS1 else if k = 2 then iS2 else if k = 3 then iS3 else iS4, ?_⟩
    intro k q hq
    match k, hq with
    | 0, hq => cases hq; exact hKn0
    | 1, hq => cases hq; exact hKn1
    | 2, hq => cases hq; exact hKn2
    | 3, hq => cases hq; exact hKn3
    | 4, hq => cases hq; exact hKn4
    | k + 5, hq => simp [vwCl] at hq
  obtain ⟨D, hDe⟩ : ∃ D : va_G, D = (dC, dI) := ⟨_, rfl⟩
  have hN : wl_N s := wl_N_of (fun w hw => hts w (wl_nest_tbl w hw))
  have hO1 : va_AO "WatchList$Limit" s := va_AO.of (hts (.arrayOver (.object "WatchList$Limit")) (List.mem_append_right _ (List.mem_append_left _ (List.mem_of_getElem? (i := 16) rfl))))
  have hO2 : va_AO "WatchList$Event" s := va_AO.of (hts (.arrayOver (.object "WatchList$Event")) (List.mem_append_right _ (List.mem_append_left _ (List.mem_of_getElem? (i := 18) rfl))))
  have hS : va_S (fun q : Nat => s.heap.size ≤ q) s.heap s.heap [] := va_S.rf
  have hK : va_K D vwCl [] s := by rw [hDe]; exact ⟨hKc, fun k q h => by simp at h⟩
  have hP : va_P D vwCl [] s.heap := fun k q h => by simp at h
  have hD : va_D (fun q : Nat => s.heap.size ≤ q) [] := ⟨fun i j p q h => by simp at h, fun k q h => by simp at h⟩
  have hl := lv_entry ([.ref b]) (n := 4) (Nat.le_of_ble_eq_true rfl)
  rw [lg_entry_eq]
  generalize (lg_sl ([.ref b]) ++ List.replicate (4 - (lg_sl ([.ref b])).length) Slot.unset).toArray = ls at hl ⊢
  have hl : lv_has ls 4 [(0, .ref b)] := hl
  refine va_new (D := D) (ci := 3) (fs := [.null, .null, .int 0, .int 0, .int 0, .null, .null, .int 0, .int 0, .null, .int 0]) (C := RX3) (T := TX3) (N := 11) hx hb hts tGl_X3 tyX3 okX3 hown (hts _ tG_28) (hts _ tG_29) (hts _ tG_22) hK hP hD hS hA rfl (fun j hj => by rcases (show j = 0 ∨ j = 1 ∨ j = 2 ∨ j = 3 ∨ j = 4 ∨ j = 5 ∨ j = 6 ∨ j = 7 ∨ j = 8 ∨ j = 9 ∨ j = 10 by omega) with rfl | rfl | rfl | rfl | rfl | rfl | rfl | rfl | rfl | rfl | rfl <;> rfl) (Nat.le_of_ble_eq_true rfl) (Nat.le_of_ble_eq_true rfl) dL_law_0 (fun qx H hP hD hS => ?_)
  have hP : va_P D vwCl [(qx, .inr (3, [.null, .null, .int 0, .int 0, .int 0, .null, .null, .int 0, .int 0, .null, .int 0]))] H := hP
  have hD : va_D (fun q : Nat => s.heap.size ≤ q) [(qx, .inr (3, [.null, .null, .int 0, .int 0, .int 0, .null, .null, .int 0, .int 0, .null, .int 0]))] := hD
  refine W.widen (k := 1) (n := 11) (by omega) (by omega) ?_
  refine lv_dup hx hb dL_law_3 rfl ?_
  have hqx : s.heap.size ≤ qx := hD.2 0 _ rfl
  have hHs : s.heap.size ≤ H.size := hS.1
  have hFc := va_free (wc := [(qx, .inr (3, [.null, .null, .int 0, .int 0, .int 0, .null, .null, .int 0, .int 0, .null, .int 0]))]) hD hS hA [0] rfl
  refine va_callv (va_runI (As := []) (rest := [.ref qx]) ⟨hx, hb, hml, hown, hts⟩ (c_List_init D qx H.size) ⟨callB_of 0 hts glX3_init rfl rfl rfl (hts _ tG_22) (hts _ tG_30) pdX3_init ⟨Nat.le_of_ble_eq_true rfl, Nat.le_of_ble_eq_true rfl⟩, rfl, (hts _ tG_31)⟩ ⟨fun a U g mk q => by obtain ⟨q0, q1, qP, qK, qN, qO1, qO2⟩ := q; exact ⟨q0, q1, qP, va_K.moved (u := U) (U := U.calling g mk a) (Vm.Alike.refl U.vm) qK, wl_N.same (u := U) (U := U.calling g mk a) rfl qN, va_AO.moved (u := U) (U := U.calling g mk a) (Vm.Alike.refl U.vm) qO1, va_AO.moved (u := U) (U := U.calling g mk a) (Vm.Alike.refl U.vm) qO2⟩, fun U hU hW => ⟨rfl, by rw [hU], by rw [hU]; exact hP, va_K.moved hW.alike hK, hN.warm hW, va_AO.moved hW.alike hO1, va_AO.moved hW.alike hO2⟩⟩ rfl rfl hl.1 rfl (lv_room (Nat.le_of_ble_eq_true rfl)) dL_law_4 ⟨(Nat.le_of_ble_eq_true rfl), (Nat.le_of_ble_eq_true rfl)⟩) hS (fun q _ h => hFc q h) hFc (fun X t H1 locs ht hvm hw hB hz1 hk1 hS => ?_)
  obtain ⟨x1, x2, x3, x4⟩ := hw
  obtain ⟨hP1, hK1⟩ := hB
  rw [ht] at hP1
  have hK1 := va_K.moved hvm.symm hK1
  have hXA : ∀ k, k < 88 → s.heap.size ≤ X.2.1 k := fun k hk => by
    by_cases h : k = 0
    · rw [h, x2]; exact hqx
    · have := x4 k (by omega) hk; omega
  refine W.widen (k := 88) (n := 8943) (by omega) (by omega) ?_
  clear hP hD hk1
  refine lv_astore_n (lv' := [(1, .ref qx), (0, .ref b)]) hx hb dL_law_7 rfl hl (by decide) rfl (fun ls hl => ?_)
  have hDx : va_D (fun q : Nat => s.heap.size ≤ q) (wl_ws X wl_d0 (fun k => k)) := (gw_D x3 _).weaken (fun k q _ ⟨j, hj, e⟩ => by rw [e]; exact hXA j hj)
  refine va_new (D := D) (ci := 4) (fs := [.int 0, .null, .null, .null, .null, .null, .null, .null, .null, .null, .null, .int 0, .int 0, .int 0, .null, .null, .int 0, .int 0, .null, .null, .null, .null, .int 0, .null]) (C := RX4) (T := TX4) (N := 24) hx hb hts tGl_X4 tyX4 okX4 hown (hts _ tG_209) (hts _ tG_210) (hts _ tG_26) hK hP1 hDx hS hA rfl (fun j hj => by rcases (show j = 0 ∨ j = 1 ∨ j = 2 ∨ j = 3 ∨ j = 4 ∨ j = 5 ∨ j = 6 ∨ j = 7 ∨ j = 8 ∨ j = 9 ∨ j = 10 ∨ j = 11 ∨ j = 12 ∨ j = 13 ∨ j = 14 ∨ j = 15 ∨ j = 16 ∨ j = 17 ∨ j = 18 ∨ j = 19 ∨ j = 20 ∨ j = 21 ∨ j = 22 ∨ j = 23 by omega) with rfl | rfl | rfl | rfl | rfl | rfl | rfl | rfl | rfl | rfl | rfl | rfl | rfl | rfl | rfl | rfl | rfl | rfl | rfl | rfl | rfl | rfl | rfl | rfl <;> rfl) (Nat.le_of_ble_eq_true rfl) (Nat.le_of_ble_eq_true rfl) dL_law_8 (fun qm H hP hD hS => ?_)
  refine W.widen (k := 89) (n := 8967) (by omega) (by omega) ?_
  refine lv_dup hx hb dL_law_11 rfl ?_
  have hPc := gw_last hP
  have hFc := gw_lastA hD hS hA
  have hqm : s.heap.size ≤ qm := hFc qm (Or.inl ⟨0, _, rfl⟩)
  have hPx : va_P D vwCl (wl_ws X wl_d0 (fun k => k)) H := fun k q hq => hP k q (by rw [List.getElem?_append_left (List.getElem?_eq_some_iff.mp hq).1]; exact hq)
  have hxl : ∀ k, k < 88 → X.2.1 k < H.size := fun k hk => (hPx k _ (gw_get? hk)).lt
  have hxm : ∀ k, k < 88 → X.2.1 k ≠ qm := fun k hk z => by
    have h1 : (wl_ws X wl_d0 (fun k => k))[k]? = some (X.2.1 k, wl_c X wl_d0 (fun k => k) k) := gw_get? hk
    have hlen : k < (wl_ws X wl_d0 (fun k => k)).length := (List.getElem?_eq_some_iff.mp h1).1
    have := hD.1 k (wl_ws X wl_d0 (fun k => k)).length _ (qm, .inr (4, [.int 0, .null, .null, .null, .null, .null, .null, .null, .null, .null, .null, .int 0, .int 0, .int 0, .null, .null, .int 0, .int 0, .null, .null, .null, .null, .int 0, .null])) (by rw [List.getElem?_append_left hlen]; exact h1) (by simp) z
    omega
  have hHs2 : s.heap.size ≤ H.size := hS.1
  refine va_callv (va_runI (As := []) (rest := [.ref qm]) ⟨hx, hb, hml, hown, hts⟩ (c_Model_init D qm H.size) ⟨callB_of 0 hts glX4_init rfl rfl rfl (hts _ tG_26) (hts _ tG_211) pdX4_init ⟨Nat.le_of_ble_eq_true rfl, Nat.le_of_ble_eq_true rfl⟩, rfl, (hts _ tG_212)⟩ ⟨fun a U g mk q => by obtain ⟨q0, q1, qP, qK⟩ := q; exact ⟨q0, q1, qP, va_K.moved (u := U) (U := U.calling g mk a) (Vm.Alike.refl U.vm) qK⟩, fun U hU hW => ⟨rfl, by rw [hU], by rw [hU]; exact hPc, va_K.moved hW.alike hK⟩⟩ rfl rfl hl.1 rfl (lv_room (Nat.le_of_ble_eq_true rfl)) dL_law_12 ⟨(Nat.le_of_ble_eq_true rfl), (Nat.le_of_ble_eq_true rfl)⟩) hS (fun q _ h => hFc q h) hFc (fun Y t H1 locs ht hvm hw hB hz1 hk1 hS => ?_)
  obtain ⟨y1, y2, y3, y4⟩ := hw
  obtain ⟨hP2, hK2⟩ := hB
  rw [ht] at hP2
  have hK2 := va_K.moved hvm.symm hK2
  have hPx1 := gw_keep hPx hk1 (fun k hk z => by
    rcases z with ⟨x, e9, z⟩ | z
    · have h2 := List.mem_of_getElem? z
      rw [List.mem_singleton] at h2
      exact hxm k hk (congrArg Prod.fst h2)
    · have := hxl k hk; omega)
  have hxy : ∀ k j, k < 88 → j < 18 → X.2.1 k ≠ Y.2.1 j := fun k j hk hj z => by
    by_cases h : j = 0
    · rw [h, y2] at z; exact hxm k hk z
    · have h1 := y4 j (by omega) hj
      have h2 := hxl k hk
      omega
  have hYA : ∀ k, k < 18 → s.heap.size ≤ Y.2.1 k := fun k hk => by
    by_cases h : k = 0
    · rw [h, y2]; exact hqm
    · have := y4 k (by omega) hk; omega
  refine lv_astore_n (lv' := [(2, .ref qm), (1, .ref qx), (0, .ref b)]) hx hb dL_law_15 rfl hl (by decide) rfl (fun ls hl => ?_)
  refine lv_iconst (v := 0) hx hb dL_law_16 (by decide) ?_
  refine lv_istore_n (lv' := [(3, .int 0), (2, .ref qm), (1, .ref qx), (0, .ref b)]) hx hb dL_law_17 rfl hl (by decide) rfl (fun ls hl => ?_)
  refine W.widen (k := 600000) (n := 7302250) (by omega) (by omega) ?_
  have hF : lw_F s X Y := ⟨x3, y3, fun q ⟨k, hk, e⟩ => by rw [e]; exact hXA k hk, fun q ⟨k, hk, e⟩ => by rw [e]; exact hYA k hk, fun k hk ⟨j, hj, e⟩ => hxy k j hk hj e, fun k hk ⟨j, hj, e⟩ => hxy j k hj hk e.symm, by rw [x1]; exact hK1, by rw [y1]; exact hK2, hN⟩
  exact law_loop C0 hL hF ⟨Nat.le_of_ble_eq_true rfl, Nat.le_of_ble_eq_true rfl⟩ (L + 1) 0 wl_d0 (fun _ _ => 0) (fun k => k) _ _ (by omega) (by omega) ⟨by rw [x1]; exact hPx1, by rw [y1]; exact hP2, rl_start, hS⟩ ls (by rw [x2, y2, nI_0]; exact lv_sub hl [3, 2, 1, 0] rfl)

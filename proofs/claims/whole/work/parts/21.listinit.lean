/-! PART 21: the class's own constructor -/
variable {l : Launch}
def wl_d0 : Nat → Nat → Int32 := fun k j => if 24 ≤ k ∧ k < 56 ∧ j = 0 then 1 else 0
/-- the cells in the order in which they are made: 0 the list, 1 parameters, 2 limits, 3 events, 4 the queue, 5, 6 its arrays, 7 text, then 16 Limits, then 32 times an Event and its bytes -/
def in_c (α : Nat → Nat) (cI cB cL cE : ClassId) (F G : Nat → Option Nat) (k : Nat) : va_E :=
  if k = 0 then .inr (3, [.ref (α 1), .ref (α 2), .int 0, .int 0, .int 0, .ref (α 3), .ref (α 4), .int 0, .int 0, .ref (α 7), .int 0])
  else if k = 1 then .inl (cI, 32, .inl (fun _ => 0))
  else if k = 2 then .inl (cL, 16, .inr (.inr (.inr (.inr F))))
  else if k = 3 then .inl (cE, 32, .inr (.inr (.inr (.inr G))))
  else if k = 4 then .inr (2, [.ref (α 5), .ref (α 6), .int 0, .int 0])
  else if k = 5 then .inl (cI, 64, .inl (fun _ => 0))
  else if k = 6 then .inl (cI, 64, .inl (fun _ => 0))
  else if k = 7 then .inl (cB, 256, .inl (fun _ => 0))
  else if k < 24 then .inr (1, [.int 0, .int 0, .int 0, .int 0, .int 0, .int 0, .int 0, .int 0, .int 0])
  else if k % 2 = 0 then .inr (0, [.int 1, .ref (α (k + 1)), .int 0, .int 0])
  else .inl (cB, 256, .inl (fun _ => 0))
section INC
variable {α : Nat → Nat} {cI cB cL cE : ClassId} {F G : Nat → Option Nat}
theorem in_c0 : in_c α cI cB cL cE F G 0 = .inr (3, [.ref (α 1), .ref (α 2), .int 0, .int 0, .int 0, .ref (α 3), .ref (α 4), .int 0, .int 0, .ref (α 7), .int 0]) := rfl
theorem in_c2 : in_c α cI cB cL cE F G 2 = .inl (cL, 16, .inr (.inr (.inr (.inr F)))) := rfl
theorem in_c3 : in_c α cI cB cL cE F G 3 = .inl (cE, 32, .inr (.inr (.inr (.inr G)))) := rfl
theorem in_cL {k : Nat} (h1 : 8 ≤ k) (h2 : k < 24) : in_c α cI cB cL cE F G k = .inr (1, [.int 0, .int 0, .int 0, .int 0, .int 0, .int 0, .int 0, .int 0, .int 0]) := by
  unfold in_c
  rw [if_neg (by omega), if_neg (by omega), if_neg (by omega), if_neg (by omega), if_neg (by omega), if_neg (by omega), if_neg (by omega), if_neg (by omega), if_pos h2]
theorem in_cE {k : Nat} (h1 : 24 ≤ k) (h2 : k % 2 = 0) : in_c α cI cB cL cE F G k = .inr (0, [.int 1, .ref (α (k + 1)), .int 0, .int 0]) := by
  unfold in_c
  rw [if_neg (by omega), if_neg (by omega), if_neg (by omega), if_neg (by omega), if_neg (by omega), if_neg (by omega), if_neg (by omega), if_neg (by omega), if_neg (by omega), if_pos h2]
theorem in_cB {k : Nat} (h1 : 24 ≤ k) (h2 : ¬ k % 2 = 0) : in_c α cI cB cL cE F G k = .inl (cB, 256, .inl (fun _ => 0)) := by
  unfold in_c
  rw [if_neg (by omega), if_neg (by omega), if_neg (by omega), if_neg (by omega), if_neg (by omega), if_neg (by omega), if_neg (by omega), if_neg (by omega), if_neg (by omega), if_neg h2]
/-- other addresses beyond n: the cells below stay -/
theorem in_c_al {α' : Nat → Nat} {n : Nat} (hn : 8 ≤ n) (hn2 : 24 ≤ n → n % 2 = 0) (ha : ∀ k, k < n → α' k = α k) {k : Nat} (hk : k < n) : in_c α' cI cB cL cE F G k = in_c α cI cB cL cE F G k := by
  by_cases h8 : k < 8
  · unfold in_c
    rw [ha 1 (by omega), ha 2 (by omega), ha 3 (by omega), ha 4 (by omega), ha 5 (by omega), ha 6 (by omega), ha 7 (by omega)]
    rcases (show k = 0 ∨ k = 1 ∨ k = 2 ∨ k = 3 ∨ k = 4 ∨ k = 5 ∨ k = 6 ∨ k = 7 by omega) with rfl | rfl | rfl | rfl | rfl | rfl | rfl | rfl <;> rfl
  · by_cases h24 : k < 24
    · rw [in_cL (by omega) h24, in_cL (by omega) h24]
    · by_cases h2 : k % 2 = 0
      · have := hn2 (by omega)
        rw [in_cE (by omega) h2, in_cE (by omega) h2, ha (k + 1) (by omega)]
      · rw [in_cB (by omega) h2, in_cB (by omega) h2]
theorem in_c_F {F' : Nat → Option Nat} : ∀ k, k ≠ 2 → in_c α cI cB cL cE F' G k = in_c α cI cB cL cE F G k := by
  intro k h
  unfold in_c
  rw [if_neg h, if_neg h]
theorem in_c_G {G' : Nat → Option Nat} : ∀ k, k ≠ 3 → in_c α cI cB cL cE F G' k = in_c α cI cB cL cE F G k := by
  intro k h
  unfold in_c
  rw [if_neg h, if_neg h]
end INC
theorem gw_last {D : va_G} {cl : List vw_C} {ws : va_W} {x : Nat × va_E} {H : Heap} (hP : va_P D cl (ws ++ [x]) H) : va_P D cl [x] H := fun k z hk => by
  have h1 := List.mem_of_getElem? hk
  rw [List.mem_singleton] at h1
  rw [h1]
  exact hP ws.length x (by simp)
theorem gw_lastA {A : Nat → Prop} {ws : va_W} {x : Nat × va_E} {H0 H : Heap} {locs : List Loc} (hD : va_D A (ws ++ [x])) (hS : va_S A H0 H locs) (hA : ∀ q, H0.size ≤ q → A q) : ∀ q, va_A [x] H.size q → A q := by
  intro q h
  rcases h with ⟨k, e, h⟩ | h
  · have h1 := List.mem_of_getElem? h
    rw [List.mem_singleton] at h1
    have h2 := hD.2 ws.length x (by simp)
    rw [← h1] at h2
    exact h2
  · exact hA q (Nat.le_trans hS.1 h)
/-- behind a call whose world was the last cell -/
theorem gw_join1 {A : Nat → Prop} {D : va_G} {cl : List vw_C} {ws w1 : va_W} {x : Nat × va_E} {H H1 : Heap} (hP : va_P D cl (ws ++ [x]) H) (hD : va_D A (ws ++ [x])) (hk : ∀ q : Nat, q < H.size → ¬ va_A [x] H.size q → H1[q]? = H[q]?) (hF : ∀ q, va_A [x] H.size q → A q) (hP1 : va_P D cl w1 H1) (hD1 : va_D (va_A [x] H.size) w1) : va_P D cl (ws ++ w1) H1 ∧ va_D A (ws ++ w1) := by
  have old : ∀ (k : Nat) (q : Nat × va_E), ws[k]? = some q → (ws ++ [x])[k]? = some q := fun k q h => by
    rw [List.getElem?_append_left (List.getElem?_eq_some_iff.mp h).1]; exact h
  have apart : ∀ (k : Nat) (q : Nat × va_E), ws[k]? = some q → q.1 < H.size ∧ ¬ va_A [x] H.size q.1 := by
    intro k q h
    have hl := (hP k q (old k q h)).lt
    refine ⟨hl, fun z => ?_⟩
    rcases z with ⟨k2, e, z⟩ | z
    · have h1 := List.mem_of_getElem? z
      rw [List.mem_singleton] at h1
      have h2 := hD.1 k ws.length q x (old k q h) (by simp) (show q.1 = x.1 by rw [← h1])
      have := (List.getElem?_eq_some_iff.mp h).1
      omega
    · omega
  refine ⟨va_P.app (fun k q h => ?_) hP1, va_D.app ⟨fun i j p q hi hj e => hD.1 i j p q (old i p hi) (old j q hj) e, fun k q h => hD.2 k q (old k q h)⟩ (hD1.weaken (fun k q _ h => hF q.1 h)) (fun i j p q hi hj e => ?_)⟩
  · obtain ⟨g1, g2⟩ := apart k q h
    exact (hP k q (old k q h)).kept (hk q.1 g1 g2)
  · exact (apart i p hi).2 (by rw [e]; exact hD1.2 j q hj)
theorem gw_push2 {n : Nat} {α : Nat → Nat} {cf : Nat → va_E} {q q2 : Nat} {e e2 : va_E} : gw_W n α cf ++ [(q, e), (q2, e2)] = gw_W (n + 1 + 1) (va_up (va_up α n q) (n + 1) q2) (va_up (va_up cf n e) (n + 1) e2) := by
  rw [← gw_push, ← gw_push, List.append_assoc]
  rfl
theorem gw_refs {cA : ClassId} {N : Nat} {f g : Nat → Option Nat} (h : ∀ j, j < N → f j = g j) : vp_cell cA (N, .inr (.inr (.inr (.inr f)))) = vp_cell cA (N, .inr (.inr (.inr (.inr g)))) := by
  rw [vp_cell_q, vp_cell_q]
  unfold arrV
  congr 1
  apply Array.ext
  · simp
  · intro i h1 h2
    simp only [Array.getElem_ofFn]
    rw [h i (by simpa using h1)]
/-- from the order of making to the class's own keys -/
def in_s (k : Nat) : Nat := if k = 5 then 7 else if k = 6 then 5 else if k = 7 then 6 else if k < 24 then k else if k < 56 then 24 + 2 * (k - 24) else 25 + 2 * (k - 56)
theorem in_s_lt {k : Nat} (h : k < 88) : in_s k < 88 := by
  unfold in_s
  (repeat' split) <;> omega
theorem in_s_inj {i j : Nat} (hi : i < 88) (hj : j < 88) (h : in_s i = in_s j) : i = j := by
  unfold in_s at h
  (repeat' split at h) <;> omega
theorem in_s_pos {k : Nat} (h : 0 < k) (h2 : k < 88) : 0 < in_s k := by
  unfold in_s
  (repeat' split) <;> omega
theorem in_fin {D : va_G} {α : Nat → Nat} {cI cB cL cE : ClassId} {F G : Nat → Option Nat} {H : Heap} (hP : va_P D vwCl (gw_W 88 α (in_c α cI cB cL cE F G)) H) (hF : ∀ j, j < 16 → F j = some (α (8 + j))) (hG : ∀ j, j < 32 → G j = some (α (24 + 2 * j))) : va_P D vwCl (wl_ws (D, (fun k => α (in_s k)), cI, cB, cL, cE) wl_d0 (fun k => k)) H := by
  intro k q hk
  obtain ⟨h1, rfl⟩ := gw_of hk
  have hz := hP _ _ (gw_get? (in_s_lt h1))
  by_cases h8 : k < 8
  · rcases (show k = 0 ∨ k = 1 ∨ k = 2 ∨ k = 3 ∨ k = 4 ∨ k = 5 ∨ k = 6 ∨ k = 7 by omega) with rfl | rfl | rfl | rfl | rfl | rfl | rfl | rfl
    · exact hz
    · exact hz
    · have h3 : H[α 2]? = some (vp_cell cL (16, .inr (.inr (.inr (.inr F))))) := hz
      show H[α 2]? = some (vp_cell cL (16, .inr (.inr (.inr (.inr (fun i => some (α (in_s (8 + i)))))))))
      rw [h3, gw_refs (g := fun i => some (α (in_s (8 + i)))) (fun j hj => by rw [hF j hj]; unfold in_s; rw [if_neg (by omega), if_neg (by omega), if_neg (by omega), if_pos (by omega)])]
    · have h3 : H[α 3]? = some (vp_cell cE (32, .inr (.inr (.inr (.inr G))))) := hz
      show H[α 3]? = some (vp_cell cE (32, .inr (.inr (.inr (.inr (fun i => some (α (in_s (24 + i)))))))))
      rw [h3, gw_refs (g := fun i => some (α (in_s (24 + i)))) (fun j hj => by rw [hG j hj]; unfold in_s; rw [if_neg (by omega), if_neg (by omega), if_neg (by omega), if_neg (by omega), if_pos (by omega), show 24 + j - 24 = j by omega])]
    · exact hz
    · exact hz
    · exact hz
    · exact hz
  · by_cases h24 : k < 24
    · have e1 : in_s k = k := by unfold in_s; rw [if_neg (by omega), if_neg (by omega), if_neg (by omega), if_pos h24]
      obtain ⟨i, rfl⟩ : ∃ i, k = 8 + i := ⟨k - 8, by omega⟩
      rw [e1] at hz
      rw [in_cL (by omega) h24] at hz
      show va_at D vwCl (α (in_s (8 + i)), wl_c _ wl_d0 (fun k => k) (8 + i)) H
      rw [e1, wl_cL (by omega)]
      have z0 : ∀ j, wl_d0 (8 + i) j = 0 := fun j => by unfold wl_d0; rw [if_neg (by omega)]
      rw [z0, z0, z0, z0, z0, z0, z0, z0, z0]
      exact hz
    · by_cases h56 : k < 56
      · obtain ⟨i, rfl⟩ : ∃ i, k = 24 + i := ⟨k - 24, by omega⟩
        have e1 : in_s (24 + i) = 24 + 2 * i := by unfold in_s; rw [if_neg (by omega), if_neg (by omega), if_neg (by omega), if_neg (by omega), if_pos (by omega), show 24 + i - 24 = i by omega]
        have e2 : in_s (56 + i) = 24 + 2 * i + 1 := by unfold in_s; rw [if_neg (by omega), if_neg (by omega), if_neg (by omega), if_neg (by omega), if_neg (by omega), show 56 + i - 56 = i by omega]; omega
        rw [e1] at hz
        rw [in_cE (by omega) (by omega)] at hz
        show va_at D vwCl (α (in_s (24 + i)), wl_c _ wl_d0 (fun k => k) (24 + i)) H
        rw [e1, wl_cE (by omega)]
        have z0 : wl_d0 (24 + i) 0 = 1 := by unfold wl_d0; rw [if_pos (by omega)]
        have z2 : wl_d0 (24 + i) 2 = 0 := by unfold wl_d0; rw [if_neg (by omega)]
        have z3 : wl_d0 (24 + i) 3 = 0 := by unfold wl_d0; rw [if_neg (by omega)]
        rw [z0, z2, z3]
        show va_at D vwCl (α (24 + 2 * i), .inr (0, [.int 1, .ref (α (in_s (56 + i))), .int 0, .int 0])) H
        rw [e2]
        exact hz
      · obtain ⟨i, rfl⟩ : ∃ i, k = 56 + i := ⟨k - 56, by omega⟩
        have e2 : in_s (56 + i) = 25 + 2 * i := by unfold in_s; rw [if_neg (by omega), if_neg (by omega), if_neg (by omega), if_neg (by omega), if_neg (by omega), show 56 + i - 56 = i by omega]
        rw [e2] at hz
        rw [in_cB (by omega) (by omega)] at hz
        show va_at D vwCl (α (in_s (56 + i)), wl_c _ wl_d0 (fun k => k) (56 + i)) H
        rw [e2, wl_cB (by omega)]
        have z0 : wl_d0 (56 + i) = fun _ => 0 := funext (fun j => by unfold wl_d0; rw [if_neg (by omega)])
        rw [z0]
        exact hz
set_option maxHeartbeats 4000000 in
set_option maxRecDepth 100000 in
theorem c_List_init (D : va_G) (h0 sz : Nat) : Met l yX3_init wsX3_init ({ frames := 2, cells := 87, slots := 8932, locals := 32 }) (va_Pc [.ref h0] (fun U => U.heap.size = sz ∧ va_P D vwCl [(h0, .inr (3, [.null, .null, .int 0, .int 0, .int 0, .null, .null, .int 0, .int 0, .null, .int 0]))] U.heap ∧ va_K D vwCl [] U ∧ wl_N U ∧ va_AO "WatchList$Limit" U ∧ va_AO "WatchList$Event" U)) (va_Qv (fun u : wl_X => u.1 = D ∧ u.2.1 0 = h0 ∧ gw_inj 88 u.2.1 ∧ ∀ k, 0 < k → k < 88 → sz ≤ u.2.1 k) (fun u t => va_P D vwCl (wl_ws u wl_d0 (fun k => k)) t.heap ∧ va_K D vwCl (wl_ty u) t) (va_A [(h0, .inr (3, [.null, .null, .int 0, .int 0, .int 0, .null, .null, .int 0, .int 0, .null, .int 0]))] sz)) 87 8932 (va_A [(h0, .inr (3, [.null, .null, .int 0, .int 0, .int 0, .null, .null, .int 0, .int 0, .null, .int 0]))] sz) := by
  refine Met.ofW (cc := cX3_init) (maxL := 2) (ret := none) (by decide) rfl ?_
  intro p e s m args below meth c s₁ B hml hv
  obtain ⟨rfl, hsz, hP, hK, hN, hO1, hO2⟩ := hv
  have hx := B.exec
  have hb := B.bytes
  have hr := B.returns
  have hts : ∀ w ∈ gG, w.before _ s = true := fun w h => atoms_spec (ws := wsX3_init) B.pre w (List.mem_cons_of_mem _ h)
  have hown : s.vm.findClass RX3 = some m.cls := findClass_of_methodNamed B.named
  have hlocks := B.notSynchronized
  have hin : meth.name = "<init>" := (name_of_methodNamed B.named B.method).1
  have hl := lv_entry ([.ref h0]) (n := 2) (Nat.le_of_ble_eq_true rfl)
  rw [lg_entry_eq]
  generalize (lg_sl ([.ref h0]) ++ List.replicate (2 - (lg_sl ([.ref h0])).length) Slot.unset).toArray = ls at hl ⊢
  have hl : lv_has ls 2 [(0, .ref h0)] := hl
  subst hsz
  have hD := gw_D1 (A := va_A [(h0, .inr (3, [.null, .null, .int 0, .int 0, .int 0, .null, .null, .int 0, .int 0, .null, .int 0]))] s.heap.size) (a := h0) (e := .inr (3, [.null, .null, .int 0, .int 0, .int 0, .null, .null, .int 0, .int 0, .null, .int 0])) (Or.inl ⟨0, _, rfl⟩)
  generalize hAe : va_A [(h0, .inr (3, [.null, .null, .int 0, .int 0, .int 0, .null, .null, .int 0, .int 0, .null, .int 0]))] s.heap.size = A at hD ⊢
  have hA : ∀ q : Nat, s.heap.size ≤ q → A q := fun q h => by rw [← hAe]; exact Or.inr h
  have hS : va_S A s.heap s.heap [] := va_S.rf
  have hP : va_P D vwCl [(h0, .inr (3, [.null, .null, .int 0, .int 0, .int 0, .null, .null, .int 0, .int 0, .null, .int 0]))] s.heap := hP
  refine lv_aload_n hx hb dX3_init_0 rfl (lv_at hl 0 rfl) ?_
  refine W.objInit hx hb hown (hts _ mG_33) (hts _ mG_34) (hts _ mG_35) rfl (by rw [hml]; exact hl.1) rfl dX3_init_1 (Nat.le_of_ble_eq_true rfl) (Nat.le_of_ble_eq_true rfl) ?_
  refine W.eq (g2 := F0 m 4 ls []) rfl ?_
  refine lv_aload_n hx hb dX3_init_4 rfl (lv_at hl 0 rfl) ?_
  refine lv_bipush (v := 32) hx hb dX3_init_5 (by decide) ?_
  refine va_newa (atype := .int) (ty := .int) (a0 := (32, .inl (fun _ => 0))) (N' := 32) hx hb (hts _ mG_47) rfl hK hP hD hS hA (fun _ => rfl) (by decide) (by decide) (by decide) (Nat.le_of_ble_eq_true rfl) (Nat.le_of_ble_eq_true rfl) dX3_init_7 (fun q1 c1 H hK hP hD hS => ?_)
  replace hP : va_P D vwCl [(h0, .inr (3, [.null, .null, .int 0, .int 0, .int 0, .null, .null, .int 0, .int 0, .null, .int 0])), (q1, .inl (c1, 32, .inl (fun _ => 0)))] H := hP
  replace hD : va_D A [(h0, .inr (3, [.null, .null, .int 0, .int 0, .int 0, .null, .null, .int 0, .int 0, .null, .int 0])), (q1, .inl (c1, 32, .inl (fun _ => 0)))] := hD
  have hK : va_K D vwCl [(c1, .int)] s := hK
  refine W.widen (k := 1) (n := 32) (by omega) (by omega) ?_
  refine va_putF (D := D) (ci := 3) (v := .ref q1) (ty := .array .int) (C := RX3) (T := TX3) (N := 11) hx hb hts inX3 tyX3 okX3 nmX3 hown hK hP hD hS 0 rfl rfl 0 (by decide) (hts _ mG_70) (fun _ h9 => h9) rfl hin rfl (by decide +kernel) rfl rfl (Nat.le_of_ble_eq_true rfl) dX3_init_9 (fun H locs hP hD hS => ?_)
  replace hP : va_P D vwCl [(h0, .inr (3, [.ref q1, .null, .int 0, .int 0, .int 0, .null, .null, .int 0, .int 0, .null, .int 0])), (q1, .inl (c1, 32, .inl (fun _ => 0)))] H := hP
  replace hD : va_D A [(h0, .inr (3, [.ref q1, .null, .int 0, .int 0, .int 0, .null, .null, .int 0, .int 0, .null, .int 0])), (q1, .inl (c1, 32, .inl (fun _ => 0)))] := hD
  refine lv_aload_n hx hb dX3_init_12 rfl (lv_at hl 0 rfl) ?_
  refine lv_bipush (v := 16) hx hb dX3_init_13 (by decide) ?_
  refine va_newq (C := "WatchList$Limit") (N' := 16) hx hb hown (hts _ mG_36) hO1 hK hP hD hS hA (by decide) (by decide) (by decide) (Nat.le_of_ble_eq_true rfl) (Nat.le_of_ble_eq_true rfl) dX3_init_15 (fun q2 c2 H hK hP hD hS => ?_)
  replace hP : va_P D vwCl [(h0, .inr (3, [.ref q1, .null, .int 0, .int 0, .int 0, .null, .null, .int 0, .int 0, .null, .int 0])), (q1, .inl (c1, 32, .inl (fun _ => 0))), (q2, .inl (c2, 16, .inr (.inr (.inr (.inr (fun _ => none))))))] H := hP
  replace hD : va_D A [(h0, .inr (3, [.ref q1, .null, .int 0, .int 0, .int 0, .null, .null, .int 0, .int 0, .null, .int 0])), (q1, .inl (c1, 32, .inl (fun _ => 0))), (q2, .inl (c2, 16, .inr (.inr (.inr (.inr (fun _ => none))))))] := hD
  have hK : va_K D vwCl [(c1, .int), (c2, .object "WatchList$Limit")] s := hK
  refine W.widen (k := 2) (n := 48) (by omega) (by omega) ?_
  refine va_putF (D := D) (ci := 3) (v := .ref q2) (ty := .array (.object "WatchList$Limit")) (C := RX3) (T := TX3) (N := 11) hx hb hts inX3 tyX3 okX3 nmX3 hown hK hP hD hS 0 rfl rfl 1 (by decide) (hts _ mG_71) (fun _ h9 => h9) rfl hin rfl (by decide +kernel) rfl rfl (Nat.le_of_ble_eq_true rfl) dX3_init_18 (fun H locs hP hD hS => ?_)
  replace hP : va_P D vwCl [(h0, .inr (3, [.ref q1, .ref q2, .int 0, .int 0, .int 0, .null, .null, .int 0, .int 0, .null, .int 0])), (q1, .inl (c1, 32, .inl (fun _ => 0))), (q2, .inl (c2, 16, .inr (.inr (.inr (.inr (fun _ => none))))))] H := hP
  replace hD : va_D A [(h0, .inr (3, [.ref q1, .ref q2, .int 0, .int 0, .int 0, .null, .null, .int 0, .int 0, .null, .int 0])), (q1, .inl (c1, 32, .inl (fun _ => 0))), (q2, .inl (c2, 16, .inr (.inr (.inr (.inr (fun _ => none))))))] := hD
  refine lv_aload_n hx hb dX3_init_21 rfl (lv_at hl 0 rfl) ?_
  refine lv_bipush (v := 32) hx hb dX3_init_22 (by decide) ?_
  refine va_newq (C := "WatchList$Event") (N' := 32) hx hb hown (hts _ mG_37) hO2 hK hP hD hS hA (by decide) (by decide) (by decide) (Nat.le_of_ble_eq_true rfl) (Nat.le_of_ble_eq_true rfl) dX3_init_24 (fun q3 c3 H hK hP hD hS => ?_)
  replace hP : va_P D vwCl [(h0, .inr (3, [.ref q1, .ref q2, .int 0, .int 0, .int 0, .null, .null, .int 0, .int 0, .null, .int 0])), (q1, .inl (c1, 32, .inl (fun _ => 0))), (q2, .inl (c2, 16, .inr (.inr (.inr (.inr (fun _ => none)))))), (q3, .inl (c3, 32, .inr (.inr (.inr (.inr (fun _ => none))))))] H := hP
  replace hD : va_D A [(h0, .inr (3, [.ref q1, .ref q2, .int 0, .int 0, .int 0, .null, .null, .int 0, .int 0, .null, .int 0])), (q1, .inl (c1, 32, .inl (fun _ => 0))), (q2, .inl (c2, 16, .inr (.inr (.inr (.inr (fun _ => none)))))), (q3, .inl (c3, 32, .inr (.inr (.inr (.inr (fun _ => none))))))] := hD
  have hK : va_K D vwCl [(c1, .int), (c2, .object "WatchList$Limit"), (c3, .object "WatchList$Event")] s := hK
  refine W.widen (k := 3) (n := 80) (by omega) (by omega) ?_
  refine va_putF (D := D) (ci := 3) (v := .ref q3) (ty := .array (.object "WatchList$Event")) (C := RX3) (T := TX3) (N := 11) hx hb hts inX3 tyX3 okX3 nmX3 hown hK hP hD hS 0 rfl rfl 5 (by decide) (hts _ mG_75) (fun _ h9 => h9) rfl hin rfl (by decide +kernel) rfl rfl (Nat.le_of_ble_eq_true rfl) dX3_init_27 (fun H locs hP hD hS => ?_)
  replace hP : va_P D vwCl [(h0, .inr (3, [.ref q1, .ref q2, .int 0, .int 0, .int 0, .ref q3, .null, .int 0, .int 0, .null, .int 0])), (q1, .inl (c1, 32, .inl (fun _ => 0))), (q2, .inl (c2, 16, .inr (.inr (.inr (.inr (fun _ => none)))))), (q3, .inl (c3, 32, .inr (.inr (.inr (.inr (fun _ => none))))))] H := hP
  replace hD : va_D A [(h0, .inr (3, [.ref q1, .ref q2, .int 0, .int 0, .int 0, .ref q3, .null, .int 0, .int 0, .null, .int 0])), (q1, .inl (c1, 32, .inl (fun _ => 0))), (q2, .inl (c2, 16, .inr (.inr (.inr (.inr (fun _ => none)))))), (q3, .inl (c3, 32, .inr (.inr (.inr (.inr (fun _ => none))))))] := hD
  refine lv_aload_n hx hb dX3_init_30 rfl (lv_at hl 0 rfl) ?_
  refine va_new (D := D) (ci := 2) (fs := [.null, .null, .int 0, .int 0]) (C := RX2) (T := TX2) (N := 4) hx hb hts inX2 tyX2 okX2 hown (hts _ mG_38) (hts _ mG_39) (hts _ mG_23) hK hP hD hS hA rfl (fun j hj => by rcases (show j = 0 ∨ j = 1 ∨ j = 2 ∨ j = 3 by omega) with rfl | rfl | rfl | rfl <;> rfl) (Nat.le_of_ble_eq_true rfl) (Nat.le_of_ble_eq_true rfl) dX3_init_31 (fun q4 H hP hD hS => ?_)
  replace hP : va_P D vwCl [(h0, .inr (3, [.ref q1, .ref q2, .int 0, .int 0, .int 0, .ref q3, .null, .int 0, .int 0, .null, .int 0])), (q1, .inl (c1, 32, .inl (fun _ => 0))), (q2, .inl (c2, 16, .inr (.inr (.inr (.inr (fun _ => none)))))), (q3, .inl (c3, 32, .inr (.inr (.inr (.inr (fun _ => none)))))), (q4, .inr (2, [.null, .null, .int 0, .int 0]))] H := hP
  replace hD : va_D A [(h0, .inr (3, [.ref q1, .ref q2, .int 0, .int 0, .int 0, .ref q3, .null, .int 0, .int 0, .null, .int 0])), (q1, .inl (c1, 32, .inl (fun _ => 0))), (q2, .inl (c2, 16, .inr (.inr (.inr (.inr (fun _ => none)))))), (q3, .inl (c3, 32, .inr (.inr (.inr (.inr (fun _ => none)))))), (q4, .inr (2, [.null, .null, .int 0, .int 0]))] := hD
  refine W.widen (k := 4) (n := 84) (by omega) (by omega) ?_
  refine lv_dup hx hb dX3_init_34 rfl ?_
  have hPc := hP.sub (ws' := [(q4, .inr (2, [.null, .null, .int 0, .int 0]))]) [4] rfl
  have hKc := hK.sub (tys' := []) [] rfl
  have hFc := va_free (wc := [(q4, .inr (2, [.null, .null, .int 0, .int 0]))]) hD hS hA [4] rfl
  refine va_callv (va_runIN (As := []) (rest := [.ref q4, .ref h0]) ⟨hx, hb, hml, hown, hts⟩ (c_Queue_init D q4 H.size) ⟨va_cnB 0 hts giX2_init rfl rfl rfl (hN _ (List.mem_of_getElem? (i := 0) rfl)) (hts _ mG_23) pdX2_init ⟨Nat.le_of_ble_eq_true rfl, Nat.le_of_ble_eq_true rfl⟩, rfl, hts _ mG_40⟩ ⟨fun a U g mk q => by obtain ⟨q0, q1, qP, qK⟩ := q; exact ⟨q0, q1, qP, va_K.moved (u := U) (U := U.calling g mk a) (Vm.Alike.refl U.vm) qK⟩, fun U hU hW => ⟨rfl, by rw [hU], by rw [hU]; exact hPc, va_K.moved hW.alike hKc⟩⟩ rfl rfl hl.1 rfl (lv_room (Nat.le_of_ble_eq_true rfl)) dX3_init_35 ⟨Nat.le_of_ble_eq_true rfl, Nat.le_of_ble_eq_true rfl⟩) hS (fun q _ h => hFc q h) hFc (fun u t H1 locs ht hvm hw hB hz1 hk1 hS => ?_)
  obtain ⟨q5, q6, cq⟩ := u
  obtain ⟨hP1, hK1, hD1⟩ := hB
  rw [ht] at hP1
  have hK1 := va_K.moved hvm.symm hK1
  dsimp only at hP1 hK1 hD1
  obtain ⟨hP, hD⟩ := va_join (wr := [(h0, .inr (3, [.ref q1, .ref q2, .int 0, .int 0, .int 0, .ref q3, .null, .int 0, .int 0, .null, .int 0])), (q1, .inl (c1, 32, .inl (fun _ => 0))), (q2, .inl (c2, 16, .inr (.inr (.inr (.inr (fun _ => none)))))), (q3, .inl (c3, 32, .inr (.inr (.inr (.inr (fun _ => none))))))]) (w1 := [(q4, .inr (2, [.ref q5, .ref q6, .int 0, .int 0])), (q5, .inl (cq, 64, .inl (fun _ => 0))), (q6, .inl (cq, 64, .inl (fun _ => 0)))]) hP hD [4] [0, 1, 2, 3] rfl rfl (by decide) (by decide) hk1 hFc hP1 hD1
  have hK := (hK.sub (tys' := [(c1, .int), (c2, .object "WatchList$Limit"), (c3, .object "WatchList$Event")]) [0, 1, 2] rfl).app hK1
  generalize H1 = H at hP hS ⊢
  replace hP : va_P D vwCl [(h0, .inr (3, [.ref q1, .ref q2, .int 0, .int 0, .int 0, .ref q3, .null, .int 0, .int 0, .null, .int 0])), (q1, .inl (c1, 32, .inl (fun _ => 0))), (q2, .inl (c2, 16, .inr (.inr (.inr (.inr (fun _ => none)))))), (q3, .inl (c3, 32, .inr (.inr (.inr (.inr (fun _ => none)))))), (q4, .inr (2, [.ref q5, .ref q6, .int 0, .int 0])), (q5, .inl (cq, 64, .inl (fun _ => 0))), (q6, .inl (cq, 64, .inl (fun _ => 0)))] H := hP
  replace hD : va_D A [(h0, .inr (3, [.ref q1, .ref q2, .int 0, .int 0, .int 0, .ref q3, .null, .int 0, .int 0, .null, .int 0])), (q1, .inl (c1, 32, .inl (fun _ => 0))), (q2, .inl (c2, 16, .inr (.inr (.inr (.inr (fun _ => none)))))), (q3, .inl (c3, 32, .inr (.inr (.inr (.inr (fun _ => none)))))), (q4, .inr (2, [.ref q5, .ref q6, .int 0, .int 0])), (q5, .inl (cq, 64, .inl (fun _ => 0))), (q6, .inl (cq, 64, .inl (fun _ => 0)))] := hD
  have hK : va_K D vwCl [(c1, .int), (c2, .object "WatchList$Limit"), (c3, .object "WatchList$Event"), (cq, .int)] s := hK
  obtain rfl : c1 = cq := gw_cidI hK 0 3 rfl rfl
  replace hP : va_P D vwCl [(h0, .inr (3, [.ref q1, .ref q2, .int 0, .int 0, .int 0, .ref q3, .null, .int 0, .int 0, .null, .int 0])), (q1, .inl (c1, 32, .inl (fun _ => 0))), (q2, .inl (c2, 16, .inr (.inr (.inr (.inr (fun _ => none)))))), (q3, .inl (c3, 32, .inr (.inr (.inr (.inr (fun _ => none)))))), (q4, .inr (2, [.ref q5, .ref q6, .int 0, .int 0])), (q5, .inl (c1, 64, .inl (fun _ => 0))), (q6, .inl (c1, 64, .inl (fun _ => 0)))] H := hP
  replace hD : va_D A [(h0, .inr (3, [.ref q1, .ref q2, .int 0, .int 0, .int 0, .ref q3, .null, .int 0, .int 0, .null, .int 0])), (q1, .inl (c1, 32, .inl (fun _ => 0))), (q2, .inl (c2, 16, .inr (.inr (.inr (.inr (fun _ => none)))))), (q3, .inl (c3, 32, .inr (.inr (.inr (.inr (fun _ => none)))))), (q4, .inr (2, [.ref q5, .ref q6, .int 0, .int 0])), (q5, .inl (c1, 64, .inl (fun _ => 0))), (q6, .inl (c1, 64, .inl (fun _ => 0)))] := hD
  have hK : va_K D vwCl [(c1, .int), (c2, .object "WatchList$Limit"), (c3, .object "WatchList$Event")] s := hK.sub [0, 1, 2] rfl
  refine W.widen (k := 6) (n := 212) (by omega) (by omega) ?_
  refine va_putF (D := D) (ci := 3) (v := .ref q4) (ty := .object "WatchList$Queue") (C := RX3) (T := TX3) (N := 11) hx hb hts inX3 tyX3 okX3 nmX3 hown hK hP hD hS 0 rfl rfl 6 (by decide) (hts _ mG_76) (fun _ h9 => h9) rfl hin rfl (by decide +kernel) rfl rfl (Nat.le_of_ble_eq_true rfl) dX3_init_38 (fun H locs hP hD hS => ?_)
  replace hP : va_P D vwCl [(h0, .inr (3, [.ref q1, .ref q2, .int 0, .int 0, .int 0, .ref q3, .ref q4, .int 0, .int 0, .null, .int 0])), (q1, .inl (c1, 32, .inl (fun _ => 0))), (q2, .inl (c2, 16, .inr (.inr (.inr (.inr (fun _ => none)))))), (q3, .inl (c3, 32, .inr (.inr (.inr (.inr (fun _ => none)))))), (q4, .inr (2, [.ref q5, .ref q6, .int 0, .int 0])), (q5, .inl (c1, 64, .inl (fun _ => 0))), (q6, .inl (c1, 64, .inl (fun _ => 0)))] H := hP
  replace hD : va_D A [(h0, .inr (3, [.ref q1, .ref q2, .int 0, .int 0, .int 0, .ref q3, .ref q4, .int 0, .int 0, .null, .int 0])), (q1, .inl (c1, 32, .inl (fun _ => 0))), (q2, .inl (c2, 16, .inr (.inr (.inr (.inr (fun _ => none)))))), (q3, .inl (c3, 32, .inr (.inr (.inr (.inr (fun _ => none)))))), (q4, .inr (2, [.ref q5, .ref q6, .int 0, .int 0])), (q5, .inl (c1, 64, .inl (fun _ => 0))), (q6, .inl (c1, 64, .inl (fun _ => 0)))] := hD
  refine lv_aload_n hx hb dX3_init_41 rfl (lv_at hl 0 rfl) ?_
  refine lv_sipush (v := 256) hx hb dX3_init_42 (by decide) ?_
  refine va_newa (atype := .byte) (ty := .byte) (a0 := (256, .inl (fun _ => 0))) (N' := 256) hx hb (hts _ mG_61) rfl hK hP hD hS hA (fun _ => rfl) (by decide) (by decide) (by decide) (Nat.le_of_ble_eq_true rfl) (Nat.le_of_ble_eq_true rfl) dX3_init_45 (fun q7 c7 H hK hP hD hS => ?_)
  replace hP : va_P D vwCl [(h0, .inr (3, [.ref q1, .ref q2, .int 0, .int 0, .int 0, .ref q3, .ref q4, .int 0, .int 0, .null, .int 0])), (q1, .inl (c1, 32, .inl (fun _ => 0))), (q2, .inl (c2, 16, .inr (.inr (.inr (.inr (fun _ => none)))))), (q3, .inl (c3, 32, .inr (.inr (.inr (.inr (fun _ => none)))))), (q4, .inr (2, [.ref q5, .ref q6, .int 0, .int 0])), (q5, .inl (c1, 64, .inl (fun _ => 0))), (q6, .inl (c1, 64, .inl (fun _ => 0))), (q7, .inl (c7, 256, .inl (fun _ => 0)))] H := hP
  replace hD : va_D A [(h0, .inr (3, [.ref q1, .ref q2, .int 0, .int 0, .int 0, .ref q3, .ref q4, .int 0, .int 0, .null, .int 0])), (q1, .inl (c1, 32, .inl (fun _ => 0))), (q2, .inl (c2, 16, .inr (.inr (.inr (.inr (fun _ => none)))))), (q3, .inl (c3, 32, .inr (.inr (.inr (.inr (fun _ => none)))))), (q4, .inr (2, [.ref q5, .ref q6, .int 0, .int 0])), (q5, .inl (c1, 64, .inl (fun _ => 0))), (q6, .inl (c1, 64, .inl (fun _ => 0))), (q7, .inl (c7, 256, .inl (fun _ => 0)))] := hD
  have hK : va_K D vwCl [(c1, .int), (c2, .object "WatchList$Limit"), (c3, .object "WatchList$Event"), (c7, .byte)] s := hK
  refine W.widen (k := 7) (n := 468) (by omega) (by omega) ?_
  refine va_putF (D := D) (ci := 3) (v := .ref q7) (ty := .array .byte) (C := RX3) (T := TX3) (N := 11) hx hb hts inX3 tyX3 okX3 nmX3 hown hK hP hD hS 0 rfl rfl 9 (by decide) (hts _ mG_79) (fun _ h9 => h9) rfl hin rfl (by decide +kernel) rfl rfl (Nat.le_of_ble_eq_true rfl) dX3_init_47 (fun H locs hP hD hS => ?_)
  replace hP : va_P D vwCl [(h0, .inr (3, [.ref q1, .ref q2, .int 0, .int 0, .int 0, .ref q3, .ref q4, .int 0, .int 0, .ref q7, .int 0])), (q1, .inl (c1, 32, .inl (fun _ => 0))), (q2, .inl (c2, 16, .inr (.inr (.inr (.inr (fun _ => none)))))), (q3, .inl (c3, 32, .inr (.inr (.inr (.inr (fun _ => none)))))), (q4, .inr (2, [.ref q5, .ref q6, .int 0, .int 0])), (q5, .inl (c1, 64, .inl (fun _ => 0))), (q6, .inl (c1, 64, .inl (fun _ => 0))), (q7, .inl (c7, 256, .inl (fun _ => 0)))] H := hP
  replace hD : va_D A [(h0, .inr (3, [.ref q1, .ref q2, .int 0, .int 0, .int 0, .ref q3, .ref q4, .int 0, .int 0, .ref q7, .int 0])), (q1, .inl (c1, 32, .inl (fun _ => 0))), (q2, .inl (c2, 16, .inr (.inr (.inr (.inr (fun _ => none)))))), (q3, .inl (c3, 32, .inr (.inr (.inr (.inr (fun _ => none)))))), (q4, .inr (2, [.ref q5, .ref q6, .int 0, .int 0])), (q5, .inl (c1, 64, .inl (fun _ => 0))), (q6, .inl (c1, 64, .inl (fun _ => 0))), (q7, .inl (c7, 256, .inl (fun _ => 0)))] := hD
  refine lv_iconst (v := 0) hx hb dX3_init_50 (by decide) ?_
  refine lv_istore_n (lv' := [(1, .int 0), (0, .ref h0)]) hx hb dX3_init_51 rfl hl (by decide) rfl (fun ls hl => ?_)
  obtain ⟨α, hα⟩ : ∃ α : Nat → Nat, α = fun k => [h0, q1, q2, q3, q4, q5, q6, q7].getD k 0 := ⟨_, rfl⟩
  obtain ⟨i, hi⟩ : ∃ i : Nat, i = 0 := ⟨0, rfl⟩
  obtain ⟨F, hFe⟩ : ∃ F : Nat → Option Nat, F = fun _ => none := ⟨_, rfl⟩
  have hα0 : α 0 = h0 := by rw [hα]; rfl
  replace hP : va_P D vwCl (gw_W (8 + i) α (in_c α c1 c7 c2 c3 F (fun _ => none))) H := by rw [hi, hα, hFe]; exact hP
  replace hD : va_D A (gw_W (8 + i) α (in_c α c1 c7 c2 c3 F (fun _ => none))) := by rw [hi, hα, hFe]; exact hD
  have hF : ∀ j, j < i → F j = some (α (8 + j)) := fun j hj => absurd hj (by omega)
  have hi1 : i ≤ 16 := by omega
  replace hl : lv_has ls 2 [(1, .int (nI i)), (0, .ref (α 0))] := by rw [hi, nI_0, hα0]; exact hl
  refine W.widen (k := 7 + i) (n := 468 + 9 * i) (by omega) (by omega) ?_
  obtain ⟨g, hg⟩ : ∃ g : Nat, 16 < i + g := ⟨17, by omega⟩
  clear hi hα hFe
  induction g generalizing i α F ls H locs with
  | zero => exact absurd hg (by omega)
  | succ g ih =>
    refine lv_iload_n hx hb dX3_init_52 rfl (lv_at hl 0 rfl) ?_
    refine lv_bipush (v := 16) hx hb dX3_init_53 (by decide) ?_
    refine lv_icmp_ge (tgt := 77) hx hb dX3_init_55 (by decide) (fun c_1 => ?_) (fun c_1 => ?_)
    · have hi16 : i = 16 := by have := (nI_leI (a := 16) (by omega) (by omega)).mp c_1; omega
      subst hi16
      clear ih hg hi1 c_1
      refine lv_iconst (v := 0) hx hb dX3_init_77 (by decide) ?_
      refine lv_istore_n (lv' := [(1, .int 0), (0, .ref (α 0))]) hx hb dX3_init_78 rfl hl (by decide) rfl (fun ls9 hl9 => ?_)
      clear hl
      obtain ⟨k, hk⟩ : ∃ k : Nat, k = 0 := ⟨0, rfl⟩
      obtain ⟨G, hGe⟩ : ∃ G : Nat → Option Nat, G = fun _ => none := ⟨_, rfl⟩
      replace hP : va_P D vwCl (gw_W (24 + 2 * k) α (in_c α c1 c7 c2 c3 F G)) H := by rw [hk, hGe]; exact hP
      replace hD : va_D A (gw_W (24 + 2 * k) α (in_c α c1 c7 c2 c3 F G)) := by rw [hk, hGe]; exact hD
      have hG : ∀ j, j < k → G j = some (α (24 + 2 * j)) := fun j hj => absurd hj (by omega)
      have hk1 : k ≤ 32 := by omega
      have hl : lv_has ls9 2 [(1, .int (nI k)), (0, .ref (α 0))] := by rw [hk, nI_0]; exact hl9
      clear hl9
      refine W.widen (k := 23 + 2 * k) (n := 612 + 260 * k) (by omega) (by omega) ?_
      obtain ⟨g, hg⟩ : ∃ g : Nat, 32 < k + g := ⟨33, by omega⟩
      clear hk hGe
      induction g generalizing k α G ls9 H locs with
      | zero => exact absurd hg (by omega)
      | succ g ih =>
        refine lv_iload_n hx hb dX3_init_79 rfl (lv_at hl 0 rfl) ?_
        refine lv_bipush (v := 32) hx hb dX3_init_80 (by decide) ?_
        refine lv_icmp_ge (tgt := 104) hx hb dX3_init_82 (by decide) (fun c_1 => ?_) (fun c_1 => ?_)
        · have hk32 : k = 32 := by have := (nI_leI (a := 32) (by omega) (by omega)).mp c_1; omega
          subst hk32
          have hP8 := in_fin hP hF hG
          have hj0 := gw_inj_of hD
          have hj : gw_inj 88 (fun k => α (in_s k)) := fun x y hx hy e => in_s_inj hx hy (hj0 _ _ (in_s_lt hx) (in_s_lt hy) e)
          have hK8 : va_K D vwCl (wl_ty (D, (fun k => α (in_s k)), c1, c7, c2, c3)) s := hK.sub [0, 3, 1, 2] rfl
          have hfr : ∀ k, 0 < k → k < 88 → s.heap.size ≤ α (in_s k) := fun k k0 k1 => by
            have h1 := gw_A_of hD (in_s k) (in_s_lt k1)
            rw [← hAe] at h1
            rcases h1 with ⟨x, z, hz⟩ | h1
            · have h2 := List.mem_of_getElem? hz
              rw [List.mem_singleton] at h2
              have h3 : α (in_s k) = α 0 := (congrArg Prod.fst h2).trans hα0.symm
              have h4 := hj0 _ 0 (in_s_lt k1) (by omega) h3
              have := in_s_pos k0 k1
              omega
            · exact h1
          refine W.widen (k := 87) (n := 8932) (by omega) (by omega) ?_
          exact W.vret hx hb hr (fun t ht hW => ⟨⟨(D, (fun k => α (in_s k)), c1, c7, c2, c3), rfl, ⟨rfl, hα0, hj, hfr⟩, by rw [ht]; exact hP8, va_K.moved hW.alike hK8⟩, hS.F ht⟩) hS.2.2 dX3_init_104
        · have hlt : k < 32 := Nat.lt_of_not_le (fun z => c_1 (nI_le z (by omega)))
          refine lv_aload_n hx hb dX3_init_85 rfl (lv_at hl 1 rfl) ?_
          refine gw_get hx hb hts inX3 hown hK hP 0 (by omega) in_c0 rfl 5 (by decide) (hts _ mG_75) (fun _ h9 => h9) (v := .ref (α 3)) rfl dX3_init_86 ?_
          refine lv_iload_n hx hb dX3_init_89 rfl (lv_at hl 0 rfl) ?_
          refine va_new (D := D) (ci := 0) (fs := [.int 0, .null, .int 0, .int 0]) (C := RX0) (T := TX0) (N := 4) hx hb hts inX0 tyX0 okX0 hown (hts _ mG_37) (hts _ mG_62) (hts _ mG_25) hK hP hD hS hA rfl (fun j hj => by rcases (show j = 0 ∨ j = 1 ∨ j = 2 ∨ j = 3 by omega) with rfl | rfl | rfl | rfl <;> rfl) (show 23 + 2 * k + 1 ≤ 87 by omega) (show 612 + 260 * k + 4 ≤ 8932 by omega) dX3_init_90 (fun qe H hP hD hS => ?_)
          refine lv_dup hx hb dX3_init_93 rfl ?_
          have hPc := gw_last hP
          have hKc := hK.sub (tys' := []) [] rfl
          have hFc := gw_lastA hD hS hA
          refine va_callv (va_runIN (As := []) (rest := [.ref qe, .int (nI k), .ref (α 3)]) ⟨hx, hb, hml, hown, hts⟩ (c_Event_init D qe H.size) ⟨va_cnB 0 hts giX0_init rfl rfl rfl (hN _ (List.mem_of_getElem? (i := 8) rfl)) (hts _ mG_25) pdX0_init ⟨Nat.le_of_ble_eq_true rfl, Nat.le_of_ble_eq_true rfl⟩, rfl, hts _ mG_63⟩ ⟨fun a U g mk q => by obtain ⟨q0, q1, qP, qK⟩ := q; exact ⟨q0, q1, qP, va_K.moved (u := U) (U := U.calling g mk a) (Vm.Alike.refl U.vm) qK⟩, fun U hU hW => ⟨rfl, by rw [hU], by rw [hU]; exact hPc, va_K.moved hW.alike hKc⟩⟩ rfl rfl hl.1 rfl (lv_room (Nat.le_of_ble_eq_true rfl)) dX3_init_94 ⟨show 23 + 2 * k + 1 + 1 ≤ 87 by omega, show 612 + 260 * k + 4 + 256 ≤ 8932 by omega⟩) hS (fun q _ h => hFc q h) hFc (fun u t H1 locs ht hvm hw hB hz1 hk1 hS => ?_)
          obtain ⟨qb, cb⟩ := u
          obtain ⟨hP1, hK1, hD1⟩ := hB
          rw [ht] at hP1
          have hK1 := va_K.moved hvm.symm hK1
          dsimp only at hP1 hK1 hD1
          obtain rfl : c7 = cb := gw_cidB (hK.app hK1) 3 4 rfl rfl
          obtain ⟨hP9, hD9⟩ := gw_join1 hP hD hk1 hFc hP1 hD1
          rw [gw_push2] at hP9 hD9
          have ea : ∀ x, x < 24 + 2 * k → va_up (va_up α (24 + 2 * k) qe) (24 + 2 * k + 1) qb x = α x := fun x hx => by rw [va_up_ne _ _ (by omega), va_up_ne _ _ (by omega)]
          have eq1 : va_up (va_up α (24 + 2 * k) qe) (24 + 2 * k + 1) qb (24 + 2 * k) = qe := by rw [va_up_ne _ _ (by omega), va_up_self]
          have eq2 : va_up (va_up α (24 + 2 * k) qe) (24 + 2 * k + 1) qb (24 + 2 * k + 1) = qb := va_up_self _ _ _
          generalize hα' : va_up (va_up α (24 + 2 * k) qe) (24 + 2 * k + 1) qb = α' at hP9 hD9 ea eq1 eq2
          have ec : gw_W (24 + 2 * k + 1 + 1) α' (va_up (va_up (in_c α c1 c7 c2 c3 F G) (24 + 2 * k) (.inr (0, [.int 1, .ref qb, .int 0, .int 0]))) (24 + 2 * k + 1) (.inl (c7, 256, .inl (fun _ => 0)))) = gw_W (24 + 2 * k + 1 + 1) α' (in_c α' c1 c7 c2 c3 F G) := gw_congr (fun x hx => by
            by_cases h1 : x = 24 + 2 * k + 1
            · rw [h1, va_up_self, in_cB (by omega) (by omega)]
            · rw [va_up_ne _ _ h1]
              by_cases h2 : x = 24 + 2 * k
              · rw [h2, va_up_self, in_cE (by omega) (by omega), eq2]
              · rw [va_up_ne _ _ h2, in_c_al (n := 24 + 2 * k) (by omega) (fun _ => by omega) ea (by omega)])
          rw [ec] at hP9 hD9
          refine W.eq (g2 := F0 m 97 ls9 (.ref (α' (24 + 2 * k)) :: .int (nI k) :: .ref (α' 3) :: [])) (by rw [eq1, ea 3 (by omega)]) ?_
          refine va_astq hx hb hK hP9 hD9 hS 3 2 (24 + 2 * k) 0 (by rw [gw_get? (by omega), in_c3]) rfl (by rw [gw_get? (by omega), in_cE (by omega) (by omega)]) rfl (i := nI k) (vp_in_nI hlt (by omega)) dX3_init_97 (fun H locs hP hD hS => ?_)
          rw [nI_clamp (show k < 2 ^ 31 by omega), gw_set (cf' := in_c α' c1 c7 c2 c3 F (va_up G k (some (α' (24 + 2 * k))))) in_c3 in_c_G] at hP hD
          refine lv_iinc (v := nI (k + 1)) (lv' := [(1, .int (nI (k + 1))), (0, .ref (α 0))]) hx hb dX3_init_98 hl (k := 0) rfl (nI_1 k) (by decide) rfl (fun ls hl => ?_)
          refine lv_goto (tgt := 79) hx hb dX3_init_101 (by decide) ?_
          refine W.widen (k := 23 + 2 * (k + 1)) (n := 612 + 260 * (k + 1)) (by omega) (by omega) ?_
          exact ih (k := k + 1) (α := α') (G := va_up G k (some (α' (24 + 2 * k)))) (ls9 := ls) (H := H) (locs := locs) (hα0 := by rw [ea 0 (by omega)]; exact hα0) (hF := fun j hj => by rw [hF j hj, ea (8 + j) (by omega)]) (hS := hS) (hP := hP) (hD := hD) (hG := fun j hj => by
            by_cases h1 : j = k
            · rw [h1, va_up_self]
            · rw [va_up_ne _ _ h1, hG j (by omega), ea _ (by omega)]) (hk1 := by omega) (hl := by rw [ea 0 (by omega)]; exact hl) (hg := by omega)
    · have hlt : i < 16 := Nat.lt_of_not_le (fun z => c_1 (nI_le z (by omega)))
      refine lv_aload_n hx hb dX3_init_58 rfl (lv_at hl 1 rfl) ?_
      refine gw_get hx hb hts inX3 hown hK hP 0 (by omega) in_c0 rfl 1 (by decide) (hts _ mG_71) (fun _ h9 => h9) (v := .ref (α 2)) rfl dX3_init_59 ?_
      refine lv_iload_n hx hb dX3_init_62 rfl (lv_at hl 0 rfl) ?_
      refine va_new (D := D) (ci := 1) (fs := [.int 0, .int 0, .int 0, .int 0, .int 0, .int 0, .int 0, .int 0, .int 0]) (C := RX1) (T := TX1) (N := 9) hx hb hts inX1 tyX1 okX1 hown (hts _ mG_36) (hts _ mG_48) (hts _ mG_24) hK hP hD hS hA rfl (fun j hj => by rcases (show j = 0 ∨ j = 1 ∨ j = 2 ∨ j = 3 ∨ j = 4 ∨ j = 5 ∨ j = 6 ∨ j = 7 ∨ j = 8 by omega) with rfl | rfl | rfl | rfl | rfl | rfl | rfl | rfl | rfl <;> rfl) (show 7 + i + 1 ≤ 87 by omega) (show 468 + 9 * i + 9 ≤ 8932 by omega) dX3_init_63 (fun qe H hP hD hS => ?_)
      rw [gw_push] at hP hD
      have ea : ∀ x, x < 8 + i → va_up α (8 + i) qe x = α x := fun x hx => va_up_ne _ _ (by omega)
      have eq1 : va_up α (8 + i) qe (8 + i) = qe := va_up_self _ _ _
      generalize hα' : va_up α (8 + i) qe = α' at hP hD ea eq1
      have ec : gw_W (8 + i + 1) α' (va_up (in_c α c1 c7 c2 c3 F (fun _ => none)) (8 + i) (.inr (1, [.int 0, .int 0, .int 0, .int 0, .int 0, .int 0, .int 0, .int 0, .int 0]))) = gw_W (8 + i + 1) α' (in_c α' c1 c7 c2 c3 F (fun _ => none)) := gw_congr (fun x hx => by
        by_cases h2 : x = 8 + i
        · rw [h2, va_up_self, in_cL (by omega) (by omega)]
        · rw [va_up_ne _ _ h2, in_c_al (n := 8 + i) (by omega) (fun _ => by omega) ea (by omega)])
      rw [ec] at hP hD
      refine lv_dup hx hb dX3_init_66 rfl ?_
      refine gw_csv (va_runIN (As := []) (rest := [.ref qe, .int (nI i), .ref (α 2)]) ⟨hx, hb, hml, hown, hts⟩ (c_Limit_init qe) ⟨va_cnB 0 hts giX1_init rfl rfl rfl (hN _ (List.mem_of_getElem? (i := 2) rfl)) (hts _ mG_24) pdX1_init ⟨Nat.le_of_ble_eq_true rfl, Nat.le_of_ble_eq_true rfl⟩, rfl, hts _ mG_49⟩ ⟨fun a U g mk q => q, fun U hU hW => ⟨rfl, trivial⟩⟩ rfl rfl hl.1 rfl (lv_room (Nat.le_of_ble_eq_true rfl)) dX3_init_67 ⟨show 7 + i + 1 ≤ 87 by omega, show 468 + 9 * i + 9 ≤ 8932 by omega⟩) ?_
      refine W.eq (g2 := F0 m 70 ls (.ref (α' (8 + i)) :: .int (nI i) :: .ref (α' 2) :: [])) (by rw [eq1, ea 2 (by omega)]) ?_
      refine va_astq hx hb hK hP hD hS 2 1 (8 + i) 1 (by rw [gw_get? (by omega), in_c2]) rfl (by rw [gw_get? (by omega), in_cL (by omega) (by omega)]) rfl (i := nI i) (vp_in_nI hlt (by omega)) dX3_init_70 (fun H locs hP hD hS => ?_)
      rw [nI_clamp (show i < 2 ^ 31 by omega), gw_set (cf' := in_c α' c1 c7 c2 c3 (va_up F i (some (α' (8 + i)))) (fun _ => none)) in_c2 in_c_F] at hP hD
      refine lv_iinc (v := nI (i + 1)) (lv' := [(1, .int (nI (i + 1))), (0, .ref (α 0))]) hx hb dX3_init_71 hl (k := 0) rfl (nI_1 i) (by decide) rfl (fun ls hl => ?_)
      refine lv_goto (tgt := 52) hx hb dX3_init_74 (by decide) ?_
      refine W.widen (k := 7 + (i + 1)) (n := 468 + 9 * (i + 1)) (by omega) (by omega) ?_
      exact ih (i := i + 1) (α := α') (F := va_up F i (some (α' (8 + i)))) (ls := ls) (H := H) (locs := locs) (hα0 := by rw [ea 0 (by omega)]; exact hα0) (hS := hS) (hP := hP) (hD := hD) (hF := fun j hj => by
        by_cases h1 : j = i
        · rw [h1, va_up_self]
        · rw [va_up_ne _ _ h1, hF j (by omega), ea _ (by omega)]) (hi1 := by omega) (hl := by rw [ea 0 (by omega)]; exact hl) (hg := by omega)

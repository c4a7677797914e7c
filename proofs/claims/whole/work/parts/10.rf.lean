/-! PART 10: the reference's world: 18 cells. 0 the object, 1 parameters, 2 there, 3 on, 4 links, 5 of, 6 times, 7 low, 8 high, 9 raises, 10 counts, 11 events, 12 numbers, 13 silent, 14 sizes, 15 armed, 16 actions, 17 text. (π is carried along, and means nothing here.) -/
abbrev rf_X : Type := va_G × (Nat → Nat) × ClassId × ClassId × ClassId
def rf_row (X : rf_X) (k : Nat) (r : Nat → Int32) : va_E :=
  if k = 0 then .inr (4, [.int (r 0), .ref (X.2.1 1), .ref (X.2.1 2), .ref (X.2.1 3), .ref (X.2.1 4), .ref (X.2.1 5), .ref (X.2.1 6), .ref (X.2.1 7), .ref (X.2.1 8), .ref (X.2.1 9), .ref (X.2.1 10), .int (r 11), .int (r 12), .int (r 13), .ref (X.2.1 11), .ref (X.2.1 12), .int (r 16), .int (r 17), .ref (X.2.1 13), .ref (X.2.1 14), .ref (X.2.1 15), .ref (X.2.1 16), .int (r 22), .ref (X.2.1 17)])
  else if k = 1 then .inl (X.2.2.1, 32, .inl r)
  else if k = 2 then .inl (X.2.2.2.1, 256, .inl r)
  else if k = 3 then .inl (X.2.2.2.1, 256, .inl r)
  else if k = 4 then .inl (X.2.2.2.1, 256, .inl r)
  else if k = 11 then .inl (X.2.2.1, 64, .inl r)
  else if k = 12 then .inl (X.2.2.1, 64, .inl r)
  else if k = 13 then .inl (X.2.2.2.1, 32, .inl r)
  else if k = 14 then .inl (X.2.2.1, 32, .inl r)
  else if k = 15 then .inl (X.2.2.2.1, 32, .inl r)
  else if k = 16 then .inl (X.2.2.2.2, 8192, .inl r)
  else if k = 17 then .inl (X.2.2.2.2, 256, .inl r)
  else .inl (X.2.2.1, 256, .inl r)
def rf_c (X : rf_X) (d : Nat → Nat → Int32) (_ : Nat → Nat) (k : Nat) : va_E := rf_row X k (d k)
def rf_ty (X : rf_X) : List (ClassId × FieldType) := [(X.2.2.1, .int), (X.2.2.2.1, .boolean), (X.2.2.2.2, .byte)]
abbrev rf_ws (X : rf_X) (d : Nat → Nat → Int32) (π : Nat → Nat) : va_W := gw_W 18 X.2.1 (rf_c X d π)
section RFC
variable {X : rf_X} {d : Nat → Nat → Int32} {π : Nat → Nat}
theorem rf_c0 : rf_c X d π 0 = .inr (4, [.int (d 0 0), .ref (X.2.1 1), .ref (X.2.1 2), .ref (X.2.1 3), .ref (X.2.1 4), .ref (X.2.1 5), .ref (X.2.1 6), .ref (X.2.1 7), .ref (X.2.1 8), .ref (X.2.1 9), .ref (X.2.1 10), .int (d 0 11), .int (d 0 12), .int (d 0 13), .ref (X.2.1 11), .ref (X.2.1 12), .int (d 0 16), .int (d 0 17), .ref (X.2.1 13), .ref (X.2.1 14), .ref (X.2.1 15), .ref (X.2.1 16), .int (d 0 22), .ref (X.2.1 17)]) := rfl
theorem rf_c1 : rf_c X d π 1 = .inl (X.2.2.1, 32, .inl (d 1)) := rfl
theorem rf_c2 : rf_c X d π 2 = .inl (X.2.2.2.1, 256, .inl (d 2)) := rfl
theorem rf_c3 : rf_c X d π 3 = .inl (X.2.2.2.1, 256, .inl (d 3)) := rfl
theorem rf_c4 : rf_c X d π 4 = .inl (X.2.2.2.1, 256, .inl (d 4)) := rfl
theorem rf_c5 : rf_c X d π 5 = .inl (X.2.2.1, 256, .inl (d 5)) := rfl
theorem rf_c6 : rf_c X d π 6 = .inl (X.2.2.1, 256, .inl (d 6)) := rfl
theorem rf_c7 : rf_c X d π 7 = .inl (X.2.2.1, 256, .inl (d 7)) := rfl
theorem rf_c8 : rf_c X d π 8 = .inl (X.2.2.1, 256, .inl (d 8)) := rfl
theorem rf_c9 : rf_c X d π 9 = .inl (X.2.2.1, 256, .inl (d 9)) := rfl
theorem rf_c10 : rf_c X d π 10 = .inl (X.2.2.1, 256, .inl (d 10)) := rfl
theorem rf_c11 : rf_c X d π 11 = .inl (X.2.2.1, 64, .inl (d 11)) := rfl
theorem rf_c12 : rf_c X d π 12 = .inl (X.2.2.1, 64, .inl (d 12)) := rfl
theorem rf_c13 : rf_c X d π 13 = .inl (X.2.2.2.1, 32, .inl (d 13)) := rfl
theorem rf_c14 : rf_c X d π 14 = .inl (X.2.2.1, 32, .inl (d 14)) := rfl
theorem rf_c15 : rf_c X d π 15 = .inl (X.2.2.2.1, 32, .inl (d 15)) := rfl
theorem rf_c16 : rf_c X d π 16 = .inl (X.2.2.2.2, 8192, .inl (d 16)) := rfl
theorem rf_c17 : rf_c X d π 17 = .inl (X.2.2.2.2, 256, .inl (d 17)) := rfl
theorem rf_o {k j : Nat} {v : Int32} : ∀ a, a ≠ k → rf_c X (up2 d k j v) π a = rf_c X d π a := by
  intro a h
  unfold rf_c
  rw [up2_ne h]
end RFC
theorem gw_vz {x : Int32} (h : x = 0 ∨ x = 1) : vp_nar .boolean x = x := by
  rcases h with rfl | rfl <;> rfl
def rf_pre (X : rf_X) (av : List Value) (d : Nat → Nat → Int32) (π : Nat → Nat) : Array Value → State → Prop := va_Pc av (fun U => va_P X.1 vwCl (rf_ws X d π) U.heap ∧ va_K X.1 vwCl (rf_ty X) U ∧ True)
def rf_b (X : rf_X) (u : (Nat → Nat → Int32) × (Nat → Nat)) (t : State) : Prop := va_P X.1 vwCl (rf_ws X u.1 u.2) t.heap
theorem rf_blind {X : rf_X} {av : List Value} {d : Nat → Nat → Int32} {π : Nat → Nat} : FrameBlind (rf_pre X av d π) := by
  intro a U g mk q
  obtain ⟨q0, qP, qK, qN⟩ := q
  exact ⟨q0, qP, va_K.moved (u := U) (U := U.calling g mk a) (Vm.Alike.refl U.vm) qK, qN⟩
theorem rf_at {X : rf_X} {av : List Value} {d : Nat → Nat → Int32} {π : Nat → Nat} {s : State} {H : Heap} (hP : va_P X.1 vwCl (rf_ws X d π) H) (hK : va_K X.1 vwCl (rf_ty X) s) (_ : True) : ∀ U : State, U.heap = H → s.WarmedH U.vm → rf_pre X av d π av.toArray U :=
  fun U hU hW => ⟨rfl, by rw [hU]; exact hP, va_K.moved hW.alike hK, trivial⟩
theorem rf_hB {X : rf_X} {d : Nat → Nat → Int32} {π : Nat → Nat} {H : Heap} (hP : va_P X.1 vwCl (rf_ws X d π) H) : ∀ t : State, t.heap = H → rf_b X (d, π) t := fun t ht => by
  show va_P X.1 vwCl (rf_ws X d π) t.heap
  rw [ht]; exact hP
/-! what the reference's methods answer and do -/
def rf_T (d : Nat → Nat → Int32) : Nat → Nat → Int32 := up2 d 0 0 0
theorem rf_T_k {d : Nat → Nat → Int32} {k j : Nat} (h : k ≠ 0) : rf_T d k j = d k j := up2_k h
theorem rf_T_j {d : Nat → Nat → Int32} {j : Nat} (h : j ≠ 0) : rf_T d 0 j = d 0 j := up2_j h
theorem rf_T_r {d : Nat → Nat → Int32} {k : Nat} (h : k ≠ 0) : rf_T d k = d k := up2_ne h
def rf_in (v a b : Int32) : Bool := decide (a ≤ v) && decide (v ≤ b)
theorem rf_in_lt {v a b : Int32} (h : v < a) : rf_in v a b = false := by simp [rf_in, wl_nle_of h]
theorem rf_in_gt {v a b : Int32} (h : b < v) : rf_in v a b = false := by simp [rf_in, wl_nle_of h]
theorem rf_in_t {v a b : Int32} (h1 : ¬ v < a) (h2 : ¬ b < v) : rf_in v a b = true := by simp [rf_in, wl_le_of h1, wl_le_of h2]
theorem rf_le_lt {k : Int32} (m : Nat) (hm : m + 1 < 2 ^ 31) : k ≤ nI m ↔ k < nI (m + 1) := by
  rw [Int32.le_iff_toInt_le, Int32.lt_iff_toInt_lt, nI_toInt (by omega), nI_toInt hm]
  omega
theorem rf_in31 (k : Int32) : rf_in k 0 31 = wl_ok k 32 := by
  unfold rf_in wl_ok
  congr 1
  exact decide_eq_decide.mpr (rf_le_lt 31 (by omega))
theorem rf_in255 (k : Int32) : rf_in k 0 255 = wl_ok k 256 := by
  unfold rf_in wl_ok
  congr 1
  exact decide_eq_decide.mpr (rf_le_lt 255 (by omega))
theorem rf_ok256c {k : Int32} (h : wl_ok k 256 = true) : vp_in k 256 ∧ k.toNatClampNeg < 256 := by
  obtain ⟨j, hj, rfl⟩ := wl_ok256 h
  rw [nI_clamp (by omega)]
  exact ⟨vp_in_nI hj (by omega), hj⟩
def rf_th (d : Nat → Nat → Int32) (id : Int32) : Bool := wl_ok id 256 && decide (¬ d 2 id.toNatClampNeg = 0)
theorem rf_th0 {d : Nat → Nat → Int32} {id : Int32} (h : wl_ok id 256 = false) : rf_th d id = false := by simp [rf_th, h]
theorem rf_th1 {d : Nat → Nat → Int32} {id : Int32} (h : d 2 id.toNatClampNeg = 0) : rf_th d id = false := by simp [rf_th, h]
theorem rf_th2 {d : Nat → Nat → Int32} {id : Int32} (h1 : wl_ok id 256 = true) (h : ¬ d 2 id.toNatClampNeg = 0) : rf_th d id = true := by simp [rf_th, h1, h]
theorem rf_th_ok {d : Nat → Nat → Int32} {id : Int32} (h : rf_th d id = true) : wl_ok id 256 = true ∧ ¬ d 2 id.toNatClampNeg = 0 := by
  simpa [rf_th] using h
/-- how many of the first places are not 0 -/
def rf_cnt (g : Nat → Int32) : Nat → Nat
  | 0 => 0
  | i + 1 => rf_cnt g i + (if g i = 0 then 0 else 1)
theorem rf_cnt_le (g : Nat → Int32) (i : Nat) : rf_cnt g i ≤ i := by
  induction i with
  | zero => exact Nat.le_refl 0
  | succ i ih =>
    unfold rf_cnt
    split <;> omega
def rf_wt (d : Nat → Nat → Int32) (q : Nat) (ev nu : Int32) : Nat → Nat → Int32 := if q < 64 then up2 (up2 (up2 d 11 q ev) 12 q nu) 0 13 (nI (q + 1)) else up2 d 0 16 (d 0 16 + 1)
def rf_add (d : Nat → Nat → Int32) (j : Nat) (pa ti lo hi ev lk : Int32) : Nat → Nat → Int32 := up2 (up2 (up2 (up2 (up2 (up2 (up2 (up2 (up2 d 2 j 1) 3 j 0) 4 j lk) 5 j pa) 6 j ti) 7 j lo) 8 j hi) 9 j ev) 10 j 0
/-- one id is watched -/
def rf_v (d : Nat → Nat → Int32) (i : Nat) : Int32 := d 1 (d 5 i).toNatClampNeg
def rf_ct (d : Nat → Nat → Int32) (i : Nat) : Nat → Nat → Int32 := up2 d 10 i (if rf_in (rf_v d i) (d 7 i) (d 8 i) = true then 0 else d 10 i + 1)
def rf_wtD (d : Nat → Nat → Int32) (ev nu : Int32) : Nat → Nat → Int32 := rf_wt d (d 0 13).toNatClampNeg ev nu
def rf_bk (d : Nat → Nat → Int32) (i : Nat) : Nat → Nat → Int32 := rf_wtD (rf_ct d i) (rf_ct d i 9 i) (rf_v d i)
def rf_step (i : Nat) (d : Nat → Nat → Int32) (b : Int32) : (Nat → Nat → Int32) × Int32 :=
  if d 2 i = 0 then (d, b) else if d 3 i = 0 then (d, b) else if rf_ct d i 10 i = rf_ct d i 6 i then (up2 (rf_bk d i) 0 12 (wl_or (rf_bk d i 0 12) (rf_bk d i 4 i)), b + 1) else (rf_ct d i, b)
def rf_w (d : Nat → Nat → Int32) : Nat → (Nat → Nat → Int32) × Int32
  | 0 => (up2 d 0 12 0, 0)
  | i + 1 => rf_step i (rf_w d i).1 (rf_w d i).2
theorem rf_step0 {i : Nat} {d : Nat → Nat → Int32} {b : Int32} (h : d 2 i = 0) : rf_step i d b = (d, b) := by unfold rf_step; rw [if_pos h]
theorem rf_step1 {i : Nat} {d : Nat → Nat → Int32} {b : Int32} (h : ¬ d 2 i = 0) (h2 : d 3 i = 0) : rf_step i d b = (d, b) := by unfold rf_step; rw [if_neg h, if_pos h2]
theorem rf_step2 {i : Nat} {d : Nat → Nat → Int32} {b : Int32} (h : ¬ d 2 i = 0) (h2 : ¬ d 3 i = 0) (h3 : ¬ rf_ct d i 10 i = rf_ct d i 6 i) : rf_step i d b = (rf_ct d i, b) := by unfold rf_step; rw [if_neg h, if_neg h2, if_neg h3]
theorem rf_step3 {i : Nat} {d : Nat → Nat → Int32} {b : Int32} (h : ¬ d 2 i = 0) (h2 : ¬ d 3 i = 0) (h3 : rf_ct d i 10 i = rf_ct d i 6 i) : rf_step i d b = (up2 (rf_bk d i) 0 12 (wl_or (rf_bk d i 0 12) (rf_bk d i 4 i)), b + 1) := by unfold rf_step; rw [if_neg h, if_neg h2, if_pos h3]
theorem rf_wtD_eq {d : Nat → Nat → Int32} {q : Nat} {ev nu : Int32} (hq : d 0 13 = nI q) (h2 : q < 2 ^ 31) : rf_wtD d ev nu = rf_wt d q ev nu := by
  unfold rf_wtD
  rw [hq, nI_clamp h2]
theorem rf_ct_k {d : Nat → Nat → Int32} {i k j : Nat} (h : k ≠ 10) : rf_ct d i k j = d k j := up2_k h
theorem rf_wt_k {d : Nat → Nat → Int32} {q : Nat} {ev nu : Int32} {k j : Nat} (h : (k ≠ 0 ∨ (j ≠ 13 ∧ j ≠ 16)) ∧ k ≠ 11 ∧ k ≠ 12) : rf_wt d q ev nu k j = d k j := by
  unfold rf_wt
  split
  · rw [up2_at, if_neg (by omega), up2_k (by omega), up2_k (by omega)]
  · rw [up2_at, if_neg (by omega)]
theorem rf_wt_q {d : Nat → Nat → Int32} {q : Nat} {ev nu : Int32} (hq : d 0 13 = nI q) (h6 : q ≤ 64) : ∃ q', q' ≤ 64 ∧ rf_wt d q ev nu 0 13 = nI q' := by
  unfold rf_wt
  split
  · exact ⟨q + 1, by omega, up2_s⟩
  · exact ⟨q, h6, by rw [up2_j (by decide)]; exact hq⟩
/-- what the reference's watching keeps -/
def rf_wI (d0 d : Nat → Nat → Int32) : Prop := (∀ k j, k ≠ 0 → k ≠ 10 → k ≠ 11 → k ≠ 12 → d k j = d0 k j) ∧ (d 0 12 = 0 ∨ d 0 12 = 1) ∧ ∃ q, q ≤ 64 ∧ d 0 13 = nI q
theorem wl_or01 (a b : Int32) : wl_or a b = 0 ∨ wl_or a b = 1 := by
  unfold wl_or
  split
  · split
    · exact Or.inl rfl
    · exact Or.inr rfl
  · exact Or.inr rfl
theorem rf_step_I {i : Nat} {d0 d : Nat → Nat → Int32} {b : Int32} (h : rf_wI d0 d) : rf_wI d0 (rf_step i d b).1 := by
  obtain ⟨h1, h2, q, h5, h6⟩ := h
  unfold rf_step
  split
  · exact ⟨h1, h2, q, h5, h6⟩
  · split
    · exact ⟨h1, h2, q, h5, h6⟩
    · split
      · have g6 : rf_ct d i 0 13 = nI q := by rw [rf_ct_k (by omega)]; exact h6
        dsimp only
        unfold rf_bk
        rw [rf_wtD_eq g6 (by omega)]
        refine ⟨fun k j a0 a1 a2 a3 => ?_, ?_, ?_⟩
        · rw [up2_k a0, rf_wt_k (by omega), rf_ct_k a1]; exact h1 k j a0 a1 a2 a3
        · rw [up2_s]; exact wl_or01 _ _
        · obtain ⟨q', e1, e2⟩ := rf_wt_q (ev := rf_ct d i 9 i) (nu := rf_v d i) g6 h5
          exact ⟨q', e1, by rw [up2_j (by decide)]; exact e2⟩
      · dsimp only
        refine ⟨fun k j a0 a1 a2 a3 => by rw [rf_ct_k a1]; exact h1 k j a0 a1 a2 a3, by rw [rf_ct_k (by omega)]; exact h2, q, h5, by rw [rf_ct_k (by omega)]; exact h6⟩
theorem rf_w_I {q : Nat} {d : Nat → Nat → Int32} (hq : d 0 13 = nI q) (hq6 : q ≤ 64) (i : Nat) : rf_wI d (rf_w d i).1 := by
  induction i with
  | zero =>
    show rf_wI d (up2 d 0 12 0)
    refine ⟨fun k j a0 a1 a2 a3 => by rw [up2_k a0], Or.inl up2_s, q, hq6, by rw [up2_j (by decide)]; exact hq⟩
  | succ i ih => exact rf_step_I ih
/-- the first of the queue is taken out: the others move down, k of them have -/
def rf_sf (g : Nat → Int32) (k : Nat) : Nat → Int32 := fun j => if j < k then g (j + 1) else g j
theorem rf_sf_step (g : Nat → Int32) (k : Nat) : upd (rf_sf g k) k (g (k + 1)) = rf_sf g (k + 1) := by
  funext j
  unfold upd rf_sf
  by_cases e : j = k
  · subst e
    rw [if_pos rfl, if_pos (by omega)]
  · rw [if_neg e]
    by_cases h : j < k
    · rw [if_pos h, if_pos (by omega)]
    · rw [if_neg h, if_neg (by omega)]
theorem rf_sf_0 (g : Nat → Int32) : rf_sf g 0 = g := by
  funext j
  unfold rf_sf
  rw [if_neg (by omega)]
theorem rf_sf_hi {g : Nat → Int32} {k j : Nat} (h : k ≤ j) : rf_sf g k j = g j := by
  unfold rf_sf
  rw [if_neg (by omega)]
def rf_sh (d : Nat → Nat → Int32) (k : Nat) : Nat → Nat → Int32 := va_up (va_up d 11 (rf_sf (d 11) k)) 12 (rf_sf (d 12) k)
theorem rf_sh_0 (d : Nat → Nat → Int32) : rf_sh d 0 = d := by
  funext k
  unfold rf_sh
  rw [rf_sf_0, rf_sf_0]
  unfold va_up
  by_cases e : k = 12
  · rw [if_pos e, e]
  · rw [if_neg e]
    by_cases e2 : k = 11
    · rw [if_pos e2, e2]
    · rw [if_neg e2]
theorem rf_sh_11 {d : Nat → Nat → Int32} {k : Nat} : rf_sh d k 11 = rf_sf (d 11) k := by
  unfold rf_sh
  rw [va_up_ne _ _ (by decide), va_up_self]
theorem rf_sh_12 {d : Nat → Nat → Int32} {k : Nat} : rf_sh d k 12 = rf_sf (d 12) k := by
  unfold rf_sh
  rw [va_up_self]
theorem rf_sh_ne {d : Nat → Nat → Int32} {k a : Nat} (h : a ≠ 11) (h2 : a ≠ 12) : rf_sh d k a = d a := by
  unfold rf_sh
  rw [va_up_ne _ _ h2, va_up_ne _ _ h]
theorem rf_sh_step (d : Nat → Nat → Int32) (k : Nat) : up2 (up2 (rf_sh d k) 11 k (d 11 (k + 1))) 12 k (d 12 (k + 1)) = rf_sh d (k + 1) := by
  funext a
  by_cases e : a = 12
  · subst e
    rw [up2_same, up2_ne (by decide), rf_sh_12, rf_sh_12, rf_sf_step]
  · rw [up2_ne e]
    by_cases e2 : a = 11
    · subst e2
      rw [up2_same, rf_sh_11, rf_sh_11, rf_sf_step]
    · rw [up2_ne e2, rf_sh_ne e2 e, rf_sh_ne e2 e]
/-- an action's bytes: k of them have been copied -/
def rf_cp (d : Nat → Nat → Int32) (j k : Nat) : Nat → Nat → Int32 := va_up d 16 (fun i => if 256 * j ≤ i ∧ i < 256 * j + k then d 17 (i - 256 * j) else d 16 i)
theorem rf_cp_0 (d : Nat → Nat → Int32) (j : Nat) : rf_cp d j 0 = d := by
  funext a
  unfold rf_cp va_up
  by_cases e : a = 16
  · rw [if_pos e]
    funext i
    rw [if_neg (by omega), e]
  · rw [if_neg e]
theorem rf_cp_ne {d : Nat → Nat → Int32} {j k a : Nat} (h : a ≠ 16) : rf_cp d j k a = d a := va_up_ne _ _ h
theorem rf_cp_step (d : Nat → Nat → Int32) (j k : Nat) : up2 (rf_cp d j k) 16 (256 * j + k) (d 17 k) = rf_cp d j (k + 1) := by
  funext a
  by_cases e : a = 16
  · subst e
    rw [up2_same]
    unfold rf_cp
    rw [va_up_self, va_up_self]
    funext i
    unfold upd
    by_cases g : i = 256 * j + k
    · rw [if_pos g, if_pos (by omega), g, Nat.add_sub_cancel_left]
    · rw [if_neg g]
      dsimp only
      by_cases h : 256 * j ≤ i ∧ i < 256 * j + k
      · rw [if_pos h, if_pos (by omega)]
      · rw [if_neg h, if_neg (by omega)]
  · rw [up2_ne e, rf_cp_ne e, rf_cp_ne e]
def rf_ltell (d : Nat → Nat → Int32) (j : Nat) (w : Int32) : Int32 := if w = 0 then (if d 3 j = 0 then 0 else 1) else if w = 1 then d 10 j else if w = 2 then d 5 j else if w = 3 then d 6 j else if w = 4 then d 9 j else if w = 5 then (if d 4 j = 0 then 0 else 1) else -1
theorem rf_ltell_o {d : Nat → Nat → Int32} {k : Nat} {w : Int32} (h : w.toInt < 0 ∨ 5 < w.toInt) : rf_ltell d k w = -1 := by
  have a := wl_out 5 h
  unfold rf_ltell
  rw [if_neg (show ¬ w = 0 from a 0 (by omega) (by omega)), if_neg (show ¬ w = 1 from a 1 (by omega) (by omega)), if_neg (show ¬ w = 2 from a 2 (by omega) (by omega)), if_neg (show ¬ w = 3 from a 3 (by omega) (by omega)), if_neg (show ¬ w = 4 from a 4 (by omega) (by omega)), if_neg (show ¬ w = 5 from a 5 (by omega) (by omega))]
def rf_etell (d : Nat → Nat → Int32) (j : Nat) (w : Int32) : Int32 := if w = 0 then (if d 13 j = 0 then 1 else 0) else if w = 1 then d 14 j else if w = 2 then (if 0 < d 14 j then (if d 15 j = 0 then 0 else 1) else 0) else -1
def rf_count (d : Nat → Nat → Int32) (w : Int32) : Int32 := if w = 0 then nI (rf_cnt (d 2) 256) else if w = 1 then d 0 11 else if w = 2 then d 0 13 else if w = 3 then d 0 16 else if w = 4 then d 0 17 else -1
theorem rf_q64 {x : Int32} {q : Nat} (hq : x = nI q) (h : ¬ x = 64) (h6 : q ≤ 64) : q < 64 := by
  have : ¬ q = 64 := fun z => h (by rw [hq, z]; rfl)
  omega
theorem rf_q64e {x : Int32} {q : Nat} (hq : x = nI q) (h : x = 64) (h6 : q ≤ 64) : q = 64 := (nI_eq (b := 64) (by omega) (by omega)).mp (by rw [← hq]; exact h)
theorem rf_t256 {x : Int32} {q : Nat} (hq : x = nI q) (h : ¬ x = 256) (h6 : q ≤ 256) : q < 256 := by
  have : ¬ q = 256 := fun z => h (by rw [hq, z]; rfl)
  omega
theorem rf_t256e {x : Int32} {q : Nat} (hq : x = nI q) (h : x = 256) (h6 : q ≤ 256) : q = 256 := (nI_eq (b := 256) (by omega) (by omega)).mp (by rw [← hq]; exact h)
section RFB
variable {id pa ti lo hi ev : Int32}
theorem rf_in1 {ti : Int32} : rf_in ti 1 255 = (decide (1 ≤ ti) && decide (ti ≤ 255)) := rfl
theorem rf_bad1 (h : rf_in ti 1 255 = false) : wl_bad id pa ti lo hi ev = true := by
  unfold wl_bad
  rw [rf_in1] at h
  cases h1 : decide (1 ≤ ti) <;> simp_all
theorem rf_bad2 (h : rf_in pa 0 31 = false) : wl_bad id pa ti lo hi ev = true := wl_bad2 (by rw [← rf_in31]; exact h)
theorem rf_bad3 (h : rf_in ev 0 31 = false) : wl_bad id pa ti lo hi ev = true := wl_bad3 (by rw [← rf_in31]; exact h)
theorem rf_bad4 (h : rf_in id 0 255 = false) : wl_bad id pa ti lo hi ev = true := wl_bad1 (by rw [← rf_in255]; exact h)
theorem rf_good (h1 : rf_in ti 1 255 = true) (h2 : ¬ hi < lo) (h3 : rf_in pa 0 31 = true) (h4 : rf_in ev 0 31 = true) (h5 : rf_in id 0 255 = true) : wl_bad id pa ti lo hi ev = false := by
  rw [rf_in31] at h3 h4
  rw [rf_in255] at h5
  rw [rf_in1, Bool.and_eq_true] at h1
  simp [wl_bad, h3, h4, h5, h1.1, h1.2, wl_le_of h2]
end RFB
theorem rf_lt_pos {x : Int32} (h : ¬ x ≤ 0) : 0 < x := wl_lt_of h
theorem rf_v0 : vp_in 0 64 := vp_in_nI (n := 0) (by omega) (by omega)

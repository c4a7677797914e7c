/-! PART 03: the class's own world: 88 cells. 0 the list, 1 parameters, 2 limits, 3 events, 4 the queue, 5 text, 6 queue's events, 7 queue's numbers, 8..23 Limit objects, 24..55 Event objects, 56..87 their actions' bytes.
d k j: the int in slot j of cell k; π i: which Limit object stands at place i. -/
abbrev wl_X : Type := va_G × (Nat → Nat) × ClassId × ClassId × ClassId × ClassId
def wl_row (X : wl_X) (k : Nat) (r : Nat → Int32) : va_E :=
  if k = 0 then .inr (3, [.ref (X.2.1 1), .ref (X.2.1 2), .int (r 2), .int (r 3), .int (r 4), .ref (X.2.1 3), .ref (X.2.1 4), .int (r 7), .int (r 8), .ref (X.2.1 5), .int (r 10)])
  else if k = 1 then .inl (X.2.2.1, 32, .inl r)
  else if k = 3 then .inl (X.2.2.2.2.2, 32, .inr (.inr (.inr (.inr (fun i => some (X.2.1 (24 + i)))))))
  else if k = 4 then .inr (2, [.ref (X.2.1 6), .ref (X.2.1 7), .int (r 2), .int (r 3)])
  else if k = 5 then .inl (X.2.2.2.1, 256, .inl r)
  else if k = 6 then .inl (X.2.2.1, 64, .inl r)
  else if k = 7 then .inl (X.2.2.1, 64, .inl r)
  else if k < 24 then .inr (1, [.int (r 0), .int (r 1), .int (r 2), .int (r 3), .int (r 4), .int (r 5), .int (r 6), .int (r 7), .int (r 8)])
  else if k < 56 then .inr (0, [.int (r 0), .ref (X.2.1 (k + 32)), .int (r 2), .int (r 3)])
  else .inl (X.2.2.2.1, 256, .inl r)
def wl_c (X : wl_X) (d : Nat → Nat → Int32) (π : Nat → Nat) (k : Nat) : va_E :=
  if k = 2 then .inl (X.2.2.2.2.1, 16, .inr (.inr (.inr (.inr (fun i => some (X.2.1 (8 + π i))))))) else wl_row X k (d k)
def wl_ty (X : wl_X) : List (ClassId × FieldType) := [(X.2.2.1, .int), (X.2.2.2.1, .byte), (X.2.2.2.2.1, .object "WatchList$Limit"), (X.2.2.2.2.2, .object "WatchList$Event")]
abbrev wl_ws (X : wl_X) (d : Nat → Nat → Int32) (π : Nat → Nat) : va_W := gw_W 88 X.2.1 (wl_c X d π)
section WLC
variable {X : wl_X} {d : Nat → Nat → Int32} {π : Nat → Nat}
theorem wl_c0 : wl_c X d π 0 = .inr (3, [.ref (X.2.1 1), .ref (X.2.1 2), .int (d 0 2), .int (d 0 3), .int (d 0 4), .ref (X.2.1 3), .ref (X.2.1 4), .int (d 0 7), .int (d 0 8), .ref (X.2.1 5), .int (d 0 10)]) := rfl
theorem wl_c1 : wl_c X d π 1 = .inl (X.2.2.1, 32, .inl (d 1)) := rfl
theorem wl_c2 : wl_c X d π 2 = .inl (X.2.2.2.2.1, 16, .inr (.inr (.inr (.inr (fun i => some (X.2.1 (8 + π i))))))) := rfl
theorem wl_c3 : wl_c X d π 3 = .inl (X.2.2.2.2.2, 32, .inr (.inr (.inr (.inr (fun i => some (X.2.1 (24 + i))))))) := rfl
theorem wl_c4 : wl_c X d π 4 = .inr (2, [.ref (X.2.1 6), .ref (X.2.1 7), .int (d 4 2), .int (d 4 3)]) := rfl
theorem wl_c5 : wl_c X d π 5 = .inl (X.2.2.2.1, 256, .inl (d 5)) := rfl
theorem wl_c6 : wl_c X d π 6 = .inl (X.2.2.1, 64, .inl (d 6)) := rfl
theorem wl_c7 : wl_c X d π 7 = .inl (X.2.2.1, 64, .inl (d 7)) := rfl
theorem wl_cL {i : Nat} (hi : i < 16) : wl_c X d π (8 + i) = .inr (1, [.int (d (8 + i) 0), .int (d (8 + i) 1), .int (d (8 + i) 2), .int (d (8 + i) 3), .int (d (8 + i) 4), .int (d (8 + i) 5), .int (d (8 + i) 6), .int (d (8 + i) 7), .int (d (8 + i) 8)]) := by
  unfold wl_c wl_row
  rw [if_neg (by omega), if_neg (by omega), if_neg (by omega), if_neg (by omega), if_neg (by omega), if_neg (by omega), if_neg (by omega), if_neg (by omega), if_pos (by omega)]
theorem wl_cE {i : Nat} (hi : i < 32) : wl_c X d π (24 + i) = .inr (0, [.int (d (24 + i) 0), .ref (X.2.1 (56 + i)), .int (d (24 + i) 2), .int (d (24 + i) 3)]) := by
  unfold wl_c wl_row
  rw [if_neg (by omega), if_neg (by omega), if_neg (by omega), if_neg (by omega), if_neg (by omega), if_neg (by omega), if_neg (by omega), if_neg (by omega), if_neg (by omega), if_pos (by omega), show 24 + i + 32 = 56 + i by omega]
theorem wl_cB {i : Nat} (hi : i < 32) : wl_c X d π (56 + i) = .inl (X.2.2.2.1, 256, .inl (d (56 + i))) := by
  unfold wl_c wl_row
  rw [if_neg (by omega), if_neg (by omega), if_neg (by omega), if_neg (by omega), if_neg (by omega), if_neg (by omega), if_neg (by omega), if_neg (by omega), if_neg (by omega), if_neg (by omega)]
theorem wl_kL {i : Nat} (hi : i < 16) : 8 + i < 88 := by omega
theorem wl_kE {i : Nat} (hi : i < 32) : 24 + i < 88 := by omega
theorem wl_kB {i : Nat} (hi : i < 32) : 56 + i < 88 := by omega
/-- another cell stays -/
theorem wl_o {k j : Nat} {v : Int32} : ∀ a, a ≠ k → wl_c X (up2 d k j v) π a = wl_c X d π a := by
  intro a h
  unfold wl_c
  rw [up2_ne h]
theorem wl_ov {k : Nat} {r : Nat → Int32} : ∀ a, a ≠ k → wl_c X (va_up d k r) π a = wl_c X d π a := by
  intro a h
  unfold wl_c
  rw [va_up_ne _ _ h]
theorem wl_op {π' : Nat → Nat} : ∀ a, a ≠ 2 → wl_c X d π' a = wl_c X d π a := by
  intro a h
  unfold wl_c
  rw [if_neg h, if_neg h]
theorem wl_uL {i j : Nat} {v : Int32} (hi : i < 16) (hj : j < 9) : wl_c X (up2 d (8 + i) j v) π (8 + i) = .inr (1, [.int (d (8 + i) 0), .int (d (8 + i) 1), .int (d (8 + i) 2), .int (d (8 + i) 3), .int (d (8 + i) 4), .int (d (8 + i) 5), .int (d (8 + i) 6), .int (d (8 + i) 7), .int (d (8 + i) 8)].set j (.int v)) := by
  rw [wl_cL hi, up2_same]
  match j, hj with
  | 0, _ => rfl
  | 1, _ => rfl
  | 2, _ => rfl
  | 3, _ => rfl
  | 4, _ => rfl
  | 5, _ => rfl
  | 6, _ => rfl
  | 7, _ => rfl
  | 8, _ => rfl
  | j + 9, h => exact absurd h (by omega)
theorem wl_uE0 {i : Nat} {v : Int32} (hi : i < 32) : wl_c X (up2 d (24 + i) 0 v) π (24 + i) = .inr (0, [.int (d (24 + i) 0), .ref (X.2.1 (56 + i)), .int (d (24 + i) 2), .int (d (24 + i) 3)].set 0 (.int v)) := by
  rw [wl_cE hi, up2_same]; rfl
theorem wl_uE2 {i : Nat} {v : Int32} (hi : i < 32) : wl_c X (up2 d (24 + i) 2 v) π (24 + i) = .inr (0, [.int (d (24 + i) 0), .ref (X.2.1 (56 + i)), .int (d (24 + i) 2), .int (d (24 + i) 3)].set 2 (.int v)) := by
  rw [wl_cE hi, up2_same]; rfl
theorem wl_uE3 {i : Nat} {v : Int32} (hi : i < 32) : wl_c X (up2 d (24 + i) 3 v) π (24 + i) = .inr (0, [.int (d (24 + i) 0), .ref (X.2.1 (56 + i)), .int (d (24 + i) 2), .int (d (24 + i) 3)].set 3 (.int v)) := by
  rw [wl_cE hi, up2_same]; rfl
theorem wl_u2 {i x : Nat} : wl_c X d (va_up π i x) 2 = .inl (X.2.2.2.2.1, 16, .inr (.inr (.inr (.inr (va_up (fun i => some (X.2.1 (8 + π i))) i (some (X.2.1 (8 + x)))))))) := by
  rw [wl_c2]
  have e : (fun a => some (X.2.1 (8 + va_up π i x a))) = va_up (fun a => some (X.2.1 (8 + π a))) i (some (X.2.1 (8 + x))) := by
    funext a
    unfold va_up
    by_cases h : a = i
    · rw [if_pos h, if_pos h]
    · rw [if_neg h, if_neg h]
  rw [e]
theorem wl_u5 {i : Nat} {x : Int32} : wl_c X (up2 d 5 i x.toInt8.toInt32) π 5 = .inl (X.2.2.2.1, 256, .inl (upd (d 5) i (vp_nar .byte x.toInt8.toInt32))) := by
  rw [wl_c5, up2_same, pk_vb]
end WLC
/-- the private members of nest mates that the class's code names -/
def wl_nest : List Cond := [.methodLinkNest "WatchList" 27 yX2_init "WatchList", .fieldLinkNest "WatchList" 98 "WatchList$Queue" "size" "I" "WatchList", .methodLinkNest "WatchList" 36 yX1_init "WatchList", .fieldLinkNest "WatchList" 150 "WatchList$Limit" "id" "I" "WatchList", .fieldLinkNest "WatchList" 79 "WatchList$Limit" "parameter" "I" "WatchList", .fieldLinkNest "WatchList" 88 "WatchList$Limit" "event" "I" "WatchList", .fieldLinkNest "WatchList" 85 "WatchList$Limit" "linked" "Z" "WatchList", .fieldLinkNest "WatchList" 64 "WatchList$Limit" "on" "Z" "WatchList", .methodLinkNest "WatchList" 37 yX0_init "WatchList", .fieldLinkNest "WatchList" 120 "WatchList$Event" "told" "Z" "WatchList", .fieldLinkNest "WatchList" 140 "WatchList$Event" "actionSize" "I" "WatchList", .fieldLinkNest "WatchList" 137 "WatchList$Event" "actionOn" "Z" "WatchList", .methodLinkNest "WatchList" 60 yX1_begin "WatchList", .methodLinkNest "WatchList" 72 yX1_turn "WatchList", .methodLinkNest "WatchList" 82 yX1_breaksAt "WatchList", .methodLinkNest "WatchList" 153 yX2_append "WatchList", .methodLinkNest "WatchList" 101 yX2_firstEvent "WatchList", .methodLinkNest "WatchList" 105 yX2_firstNumber "WatchList", .methodLinkNest "WatchList" 111 yX2_takeFirst "WatchList", .methodLinkNest "WatchList" 114 yX2_empty "WatchList", .methodLinkNest "WatchList" 126 yX0_hasAction "WatchList", .methodLinkNest "WatchList" 130 yX0_takeAction "WatchList", .methodLinkNest "WatchList" 143 yX1_tellOf "WatchList", .methodLinkNest "WatchList$Limit" 44 yX3_oneIf "WatchList", .methodLinkNest "WatchList" 146 yX0_tellOf "WatchList", .methodLinkNest "WatchList$Event" 32 yX3_oneIf "WatchList", .methodLinkNest "WatchList" 147 yX0_byteAt "WatchList"]
def wl_N (U : State) : Prop := ∀ w ∈ wl_nest, va_Nw w U
def wl_isNest : Cond → Bool
  | .fieldLinkNest .. => true
  | .methodLinkNest .. => true
  | _ => false
theorem wl_nest_ok : ∀ w ∈ wl_nest, wl_isNest w = true := by decide +kernel
theorem wl_N.same {u U : State} (h : u.vm = U.vm) (hN : wl_N u) : wl_N U := by
  intro w hw
  have h1 := wl_nest_ok w hw
  have h2 := hN w hw
  cases w <;> first | (simp [wl_isNest] at h1; done) | exact va_Nw.same rfl h h2
theorem wl_N.warm {s U : State} (hW : s.WarmedH U.vm) (hN : wl_N s) : wl_N U := by
  intro w hw
  have h1 := wl_nest_ok w hw
  have h2 := hN w hw
  cases w <;> first | (simp [wl_isNest] at h1; done) | exact va_Nw.warmF hW h2 | exact va_Nw.warmM hW h2
/-- a contract's start and end -/
def wl_pre (X : wl_X) (av : List Value) (d : Nat → Nat → Int32) (π : Nat → Nat) : Array Value → State → Prop := va_Pc av (fun U => va_P X.1 vwCl (wl_ws X d π) U.heap ∧ va_K X.1 vwCl (wl_ty X) U ∧ wl_N U)
def wl_b (X : wl_X) (u : (Nat → Nat → Int32) × (Nat → Nat)) (t : State) : Prop := va_P X.1 vwCl (wl_ws X u.1 u.2) t.heap
def wl_br (X : wl_X) (u : (Nat → Nat → Int32) × (Nat → Nat) × Nat) (a : Nat) (t : State) : Prop := a = X.2.1 u.2.2 ∧ va_P X.1 vwCl (wl_ws X u.1 u.2.1) t.heap
theorem wl_blind {X : wl_X} {av : List Value} {d : Nat → Nat → Int32} {π : Nat → Nat} : FrameBlind (wl_pre X av d π) := by
  intro a U g mk q
  obtain ⟨q0, qP, qK, qN⟩ := q
  exact ⟨q0, qP, va_K.moved (u := U) (U := U.calling g mk a) (Vm.Alike.refl U.vm) qK, wl_N.same (u := U) (U := U.calling g mk a) rfl qN⟩
theorem wl_at {X : wl_X} {av : List Value} {d : Nat → Nat → Int32} {π : Nat → Nat} {s : State} {H : Heap} (hP : va_P X.1 vwCl (wl_ws X d π) H) (hK : va_K X.1 vwCl (wl_ty X) s) (hN : wl_N s) : ∀ U : State, U.heap = H → s.WarmedH U.vm → wl_pre X av d π av.toArray U :=
  fun U hU hW => ⟨rfl, by rw [hU]; exact hP, va_K.moved hW.alike hK, hN.warm hW⟩
theorem wl_hB {X : wl_X} {d : Nat → Nat → Int32} {π : Nat → Nat} {H : Heap} (hP : va_P X.1 vwCl (wl_ws X d π) H) : ∀ t : State, t.heap = H → wl_b X (d, π) t := fun t ht => by
  show va_P X.1 vwCl (wl_ws X d π) t.heap
  rw [ht]; exact hP
theorem wl_hBr {X : wl_X} {d : Nat → Nat → Int32} {π : Nat → Nat} {k : Nat} {H : Heap} (hP : va_P X.1 vwCl (wl_ws X d π) H) : ∀ t : State, t.heap = H → wl_br X (d, π, k) (X.2.1 k) t := fun t ht => by
  refine ⟨rfl, ?_⟩
  show va_P X.1 vwCl (wl_ws X d π) t.heap
  rw [ht]; exact hP
/-! small words: truth as an int, a number in its range -/
def wl_i (b : Bool) : Int32 := if b = true then 1 else 0
theorem wl_i01 (b : Bool) : wl_i b = 0 ∨ wl_i b = 1 := by cases b <;> decide
theorem wl_it {b : Bool} (h : ¬ wl_i b = 0) : b = true := by cases b with
  | true => rfl
  | false => exact absurd rfl h
theorem wl_if {b : Bool} (h : wl_i b = 0) : b = false := by cases b with
  | false => rfl
  | true => exact absurd h (by decide)
def wl_ok (k n : Int32) : Bool := decide (0 ≤ k) && decide (k < n)
theorem wl_ok_lt {k n : Int32} (h : k < 0) : wl_ok k n = false := by
  have h0 : ¬ (0 : Int32) ≤ k := by
    rw [Int32.le_iff_toInt_le]; rw [Int32.lt_iff_toInt_lt] at h; omega
  simp [wl_ok, h0]
theorem wl_ok_ge {k n : Int32} (h : n ≤ k) : wl_ok k n = false := by
  have h0 : ¬ k < n := by
    rw [Int32.lt_iff_toInt_lt]; rw [Int32.le_iff_toInt_le] at h; omega
  simp [wl_ok, h0]
theorem wl_ok_t {k n : Int32} (h1 : ¬ k < 0) (h2 : ¬ n ≤ k) : wl_ok k n = true := by
  have a1 : (0 : Int32) ≤ k := by
    rw [Int32.le_iff_toInt_le]; rw [Int32.lt_iff_toInt_lt] at h1; omega
  have a2 : k < n := by
    rw [Int32.lt_iff_toInt_lt]; rw [Int32.le_iff_toInt_le] at h2; omega
  simp [wl_ok, a1, a2]
theorem wl_ok_of {k : Int32} {n : Nat} (hn : n < 2 ^ 31) (h : wl_ok k (nI n) = true) : ∃ j : Nat, j < n ∧ k = nI j := by
  simp only [wl_ok, Bool.and_eq_true, decide_eq_true_eq] at h
  refine vp_in_of (vp_in_iff.mpr ?_) hn
  have h1 := Int32.le_iff_toInt_le.mp h.1
  have h2 := Int32.lt_iff_toInt_lt.mp h.2
  rw [nI_toInt hn] at h2
  have h0 : (0 : Int32).toInt = 0 := by decide
  omega
theorem wl_ok_nI {j n : Nat} (h : j < n) (hn : n < 2 ^ 31) : wl_ok (nI j) (nI n) = true := wl_ok_t (nI_pos (by omega)) (nI_ge h hn)
theorem wl_ok32 {k : Int32} (h : wl_ok k 32 = true) : ∃ j : Nat, j < 32 ∧ k = nI j := wl_ok_of (n := 32) (by omega) h
theorem wl_ok256 {k : Int32} (h : wl_ok k 256 = true) : ∃ j : Nat, j < 256 ∧ k = nI j := wl_ok_of (n := 256) (by omega) h
theorem wl_sw (n : Nat) {x : Int32} (hn : n < 100) (h : ¬ (x.toInt < 0 ∨ (n : Int) < x.toInt)) : ∃ j : Nat, j ≤ n ∧ x = nI j := by
  have h1 : ¬ x < 0 := by
    rw [Int32.lt_iff_toInt_lt]
    have h0 : (0 : Int32).toInt = 0 := by decide
    omega
  obtain ⟨j, hj, e⟩ := nI_of h1
  refine ⟨j, ?_, e⟩
  rw [e, nI_toInt hj] at h
  omega
theorem wl_sw0_2 {x : Int32} (h : ¬ (x.toInt < 0 ∨ 2 < x.toInt)) : x = 0 ∨ x = 1 ∨ x = 2 := by
  obtain ⟨j, hj, e⟩ := wl_sw 2 (by omega) h
  rw [e]
  match j, hj with
  | 0, _ => decide
  | 1, _ => decide
  | 2, _ => decide
  | j + 3, h => exact absurd h (by omega)
theorem wl_sw0_4 {x : Int32} (h : ¬ (x.toInt < 0 ∨ 4 < x.toInt)) : x = 0 ∨ x = 1 ∨ x = 2 ∨ x = 3 ∨ x = 4 := by
  obtain ⟨j, hj, e⟩ := wl_sw 4 (by omega) h
  rw [e]
  match j, hj with
  | 0, _ => decide
  | 1, _ => decide
  | 2, _ => decide
  | 3, _ => decide
  | 4, _ => decide
  | j + 5, h => exact absurd h (by omega)
theorem wl_sw0_5 {x : Int32} (h : ¬ (x.toInt < 0 ∨ 5 < x.toInt)) : x = 0 ∨ x = 1 ∨ x = 2 ∨ x = 3 ∨ x = 4 ∨ x = 5 := by
  obtain ⟨j, hj, e⟩ := wl_sw 5 (by omega) h
  rw [e]
  match j, hj with
  | 0, _ => decide
  | 1, _ => decide
  | 2, _ => decide
  | 3, _ => decide
  | 4, _ => decide
  | 5, _ => decide
  | j + 6, h => exact absurd h (by omega)

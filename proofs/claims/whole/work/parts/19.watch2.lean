/-! PART 19: watching: the class by its places, the reference by ids -/
theorem up2_comm {d : Nat → Nat → Int32} {k j k' j' : Nat} {v v' : Int32} (h : k ≠ k' ∨ j ≠ j') : up2 (up2 d k j v) k' j' v' = up2 (up2 d k' j' v') k j v := by
  funext x y
  rw [up2_at, up2_at, up2_at, up2_at]
  by_cases h1 : x = k ∧ y = j
  · rw [if_neg (show ¬ (x = k' ∧ y = j') by omega), if_pos h1, if_pos h1]
  · rw [if_neg h1, if_neg h1]
def rlW (d e : Nat → Nat → Int32) (π : Nat → Nat) (n : Nat) (a : Nat → Nat) (f ts : Nat) : Prop := rlL d e π n a ∧ rlB d e ∧ rlP d e ∧ rlC d e ∧ (∃ q, rlQ d e f q) ∧ rlE d e ∧ rlT d e ts
section WA
variable {d e : Nat → Nat → Int32} {π π' : Nat → Nat} {n f ts : Nat} {a : Nat → Nat}
theorem rf_cnt_mono (g : Nat → Int32) {i j : Nat} (h : i ≤ j) : rf_cnt g i ≤ rf_cnt g j := by
  induction j with
  | zero => rw [show i = 0 by omega]; exact Nat.le_refl _
  | succ j ih =>
    by_cases e : i = j + 1
    · rw [e]; exact Nat.le_refl _
    · have := ih (by omega)
      show rf_cnt g i ≤ rf_cnt g j + _
      omega
/-- so many places stand before the id j -/
theorem rl_cnt (hL : rlL d e π n a) (j : Nat) (hj : j ≤ 256) : ∀ i, i < n → (a i < j ↔ i < rf_cnt (e 2) j) := by
  obtain ⟨l1, l2, l3, l4, l5, l6, l7, l8, l9⟩ := hL
  induction j with
  | zero => intro i hi; exact ⟨fun h => absurd h (by omega), fun h => absurd h (Nat.not_lt_zero i)⟩
  | succ j ih =>
    intro i hi
    have ih := ih (by omega)
    show a i < j + 1 ↔ i < rf_cnt (e 2) j + (if e 2 j = 0 then 0 else 1)
    by_cases g : e 2 j = 0
    · rw [if_pos g]
      have h1 := ih i hi
      have : a i ≠ j := fun z => (l7 j (by omega)).mpr ⟨i, hi, z⟩ g
      omega
    · rw [if_neg g]
      obtain ⟨i0, h0, ha⟩ := (l7 j (by omega)).mp g
      have hc : i0 = rf_cnt (e 2) j := by
        rcases Nat.lt_trichotomy i0 (rf_cnt (e 2) j) with z | z | z
        · have := (ih i0 h0).mpr z; omega
        · exact z
        · have h3 := l6 _ _ z h0
          rw [ha] at h3
          have := (ih _ (by omega)).mp h3
          omega
      have h1 := ih i hi
      rw [← hc] at h1 ⊢
      constructor
      · intro h
        by_cases z : a i < j
        · have := h1.mp z; omega
        · have e1 : a i = a i0 := by omega
          rcases Nat.lt_trichotomy i i0 with y | y | y
          · omega
          · omega
          · have := l6 _ _ y hi; omega
      · intro h
        by_cases z : i = i0
        · rw [z]; omega
        · have := h1.mpr (by omega); omega
theorem rl_at (hL : rlL d e π n a) {j : Nat} (hj : j < 256) (g : ¬ e 2 j = 0) : rf_cnt (e 2) j < n ∧ a (rf_cnt (e 2) j) = j := by
  have hc := rl_cnt hL j (by omega)
  obtain ⟨l1, l2, l3, l4, l5, l6, l7, l8, l9⟩ := hL
  obtain ⟨i0, h0, ha⟩ := (l7 j hj).mp g
  have e0 : i0 = rf_cnt (e 2) j := by
    rcases Nat.lt_trichotomy i0 (rf_cnt (e 2) j) with z | z | z
    · have := (hc i0 h0).mpr z; omega
    · exact z
    · have h3 := l6 _ _ z h0
      rw [ha] at h3
      have := (hc _ (by omega)).mp h3
      omega
  rw [← e0]
  exact ⟨h0, ha⟩
theorem rlW_raise {q : Nat} {ev nu : Int32} (h : rlW d e π n a f ts) (hQ : rlQ d e f q) : rlW (wl_wol d f q ev nu) (rf_wt e q ev nu) π n a f ts := by
  obtain ⟨hL, hB, hP, hC, -, hE, hT⟩ := h
  exact ⟨rlL_c (wl_wol_k (by omega)) (fun k j k1 k2 => wl_wol_k (by omega)) (fun k j k1 k2 => rf_wt_k (by omega)) hL, rlB_c (fun k j k1 k2 => wl_wol_k (by omega)) (fun k j k1 k2 => rf_wt_k (by omega)) hB, rlP_c (fun j => wl_wol_k (by omega)) (fun j => rf_wt_k (by omega)) hP, rl_raiseC hC, rl_raise hQ, rlE_c (fun k j k1 => wl_wol_k (by omega)) (fun k j k1 k2 => rf_wt_k (by omega)) hE, rlT_c (wl_wol_k (by omega)) (fun j => wl_wol_k (by omega)) (rf_wt_k (by omega)) (fun j => rf_wt_k (by omega)) hT⟩
theorem rlW_link {x : Int32} (hx : x = 0 ∨ x = 1) (h : rlW d e π n a f ts) : rlW (up2 d 0 4 x) (up2 e 0 12 x) π n a f ts := by
  obtain ⟨hL, hB, hP, ⟨c1, c2, c3, c4, c5⟩, ⟨q, hQ⟩, hE, hT⟩ := h
  exact ⟨rlL_c (up2_j (by decide)) (fun k j k1 k2 => up2_k (by omega)) (fun k j k1 k2 => up2_k (by omega)) hL, rlB_c (fun k j k1 k2 => up2_k (by omega)) (fun k j k1 k2 => up2_k (by omega)) hB, rlP_c (fun j => up2_k (by omega)) (fun j => up2_k (by omega)) hP, ⟨by rw [up2_j (by decide), up2_j (by decide)]; exact c1, by rw [up2_s, up2_s], by rw [up2_s]; exact hx, by rw [up2_j (by decide), up2_j (by decide)]; exact c4, by rw [up2_j (by decide), up2_j (by decide)]; exact c5⟩, ⟨q, rlQ_c (fun k j hk => up2_k (by omega)) (up2_j (by decide)) (fun k j hk => up2_k (by omega)) hQ⟩, rlE_c (fun k j k1 => up2_k (by omega)) (fun k j k1 k2 => up2_k (by omega)) hE, rlT_c (up2_j (by decide)) (fun j => up2_k (by omega)) (up2_j (by decide)) (fun j => up2_k (by omega)) hT⟩
theorem rlW_broken {x : Int32} (h : rlW d e π n a f ts) : rlW (up2 d 0 3 (d 0 3 + x)) (up2 e 0 11 (e 0 11 + x)) π n a f ts := by
  obtain ⟨hL, hB, hP, ⟨c1, c2, c3, c4, c5⟩, ⟨q, hQ⟩, hE, hT⟩ := h
  exact ⟨rlL_c (up2_j (by decide)) (fun k j k1 k2 => up2_k (by omega)) (fun k j k1 k2 => up2_k (by omega)) hL, rlB_c (fun k j k1 k2 => up2_k (by omega)) (fun k j k1 k2 => up2_k (by omega)) hB, rlP_c (fun j => up2_k (by omega)) (fun j => up2_k (by omega)) hP, ⟨by rw [up2_s, up2_s, c1], by rw [up2_j (by decide), up2_j (by decide)]; exact c2, by rw [up2_j (by decide)]; exact c3, by rw [up2_j (by decide), up2_j (by decide)]; exact c4, by rw [up2_j (by decide), up2_j (by decide)]; exact c5⟩, ⟨q, rlQ_c (fun k j hk => up2_k (by omega)) (up2_j (by decide)) (fun k j hk => up2_k (by omega)) hQ⟩, rlE_c (fun k j k1 => up2_k (by omega)) (fun k j k1 k2 => up2_k (by omega)) hE, rlT_c (up2_j (by decide)) (fun j => up2_k (by omega)) (up2_j (by decide)) (fun j => up2_k (by omega)) hT⟩
theorem rlW_ct {i : Nat} {x : Int32} (hi : i < n) (h : rlW d e π n a f ts) : rlW (up2 d (8 + π i) 8 x) (up2 e 10 (a i) x) π n a f ts := by
  obtain ⟨hL, hB, hP, hC, ⟨q, hQ⟩, hE, hT⟩ := h
  have hpi := hL.2.2.1 i (by have := hL.1; omega)
  obtain ⟨f1, f2, f3, f4, f5, f6, f7, f8, f9⟩ := hL.2.2.2.2.2.2.2.1 i hi
  refine ⟨rlL_u hL hi (up2_k (by omega)) (fun k x k1 k2 k3 => up2_k k3) (up2_j (by decide)) (fun j => up2_k (by decide)) (fun k j k1 k2 k3 => by rw [up2_at, if_neg (fun z => k3 z.2)]) ?_, ⟨fun j hj => by rw [up2_k (by decide)]; exact hB.1 j hj, fun k j k1 k2 hj => by rw [up2_k (by omega)]; exact hB.2.1 k j k1 k2 hj, fun j hj => by rw [up2_at, if_neg (by omega)]; exact hB.2.2.1 j hj, fun j hj => by rw [up2_at, if_neg (by omega)]; exact hB.2.2.2 j hj⟩, rlP_c (fun j => up2_k (by omega)) (fun j => up2_k (by omega)) hP, rlC_c (fun j hj => up2_k (by omega)) (fun j hj => up2_k (by omega)) hC, ⟨q, rlQ_c (fun k j hk => up2_k (by omega)) (up2_k (by omega)) (fun k j hk => up2_k (by omega)) hQ⟩, rlE_c (fun k j k1 => up2_k (by omega)) (fun k j k1 k2 => up2_k (by omega)) hE, rlT_c (up2_k (by omega)) (fun j => up2_k (by omega)) (up2_k (by omega)) (fun j => up2_k (by omega)) hT⟩
  refine ⟨?_, ?_, ?_, ?_, ?_, ?_, ?_, ?_, ?_⟩
  · rw [up2_j (by decide), up2_k (by decide)]; exact f1
  · rw [up2_j (by decide), up2_k (by decide)]; exact f2
  · rw [up2_j (by decide), up2_k (by decide)]; exact f3
  · rw [up2_j (by decide), up2_k (by decide)]; exact f4
  · rw [up2_j (by decide), up2_k (by decide)]; exact f5
  · rw [up2_j (by decide), up2_k (by decide)]; exact f6
  · rw [up2_j (by decide), up2_k (by decide)]; exact f7
  · rw [up2_s, up2_s]
  · rw [up2_k (by decide)]; exact f9
theorem rf_wt_link {q : Nat} {ev nu x : Int32} : rf_wt (up2 e 0 12 x) q ev nu = up2 (rf_wt e q ev nu) 0 12 x := by
  unfold rf_wt
  split
  · rw [up2_comm (k := 0) (k' := 11) (by omega), up2_comm (k := 0) (k' := 12) (by omega), up2_comm (k := 0) (j := 12) (k' := 0) (j' := 13) (by omega)]
  · rw [up2_j (by decide), up2_comm (k := 0) (j := 12) (k' := 0) (j' := 16) (by omega)]
/-- one limit is watched on both sides -/
theorem rlW_step {i : Nat} {b : Int32} (hi : i < n) (h : rlW d e π n a f ts) (h2 : ¬ e 2 (a i) = 0) : rlW (wl_step π i d b).1 (rf_step (a i) e b).1 π n a f ts ∧ (wl_step π i d b).2 = (rf_step (a i) e b).2 := by
  have h' := h
  obtain ⟨hL, hB, hP, hC, ⟨q, hQ⟩, hE, hT⟩ := h'
  have hai := (hL.2.2.2.2.1 i hi).1
  have hpi := hL.2.2.1 i (by have := hL.1; omega)
  obtain ⟨f1, f2, f3, f4, f5, f6, f7, f8, f9⟩ := hL.2.2.2.2.2.2.2.1 i hi
  have hv : wl_val d (8 + π i) = rf_v e (a i) := by
    unfold wl_val rf_v
    obtain ⟨m, hm, em⟩ := hB.1 _ hai
    rw [f3, em, nI_clamp (by omega)]
    exact hP m hm
  have hin : ∀ v, wl_inr d (8 + π i) v = rf_in v (e 7 (a i)) (e 8 (a i)) := fun v => by
    unfold wl_inr rf_in
    rw [f5, f6]
  by_cases o1 : d (8 + π i) 7 = 0
  · rw [wl_step0 o1, rf_step1 h2 (f1.symm.trans o1)]
    exact ⟨h, rfl⟩
  have o2 : ¬ e 3 (a i) = 0 := fun z => o1 (f1.trans z)
  have hbd : wl_bd d (8 + π i) (wl_val d (8 + π i)) = up2 d (8 + π i) 8 (if rf_in (rf_v e (a i)) (e 7 (a i)) (e 8 (a i)) = true then 0 else e 10 (a i) + 1) := by
    unfold wl_bd
    rw [hin, hv, f8]
  have hW1 : rlW (wl_bd d (8 + π i) (wl_val d (8 + π i))) (rf_ct e (a i)) π n a f ts := by
    rw [hbd]
    exact rlW_ct hi h
  have hk : wl_brk d (8 + π i) (wl_val d (8 + π i)) = 0 ↔ ¬ rf_ct e (a i) 10 (a i) = rf_ct e (a i) 6 (a i) := by
    unfold wl_brk rf_ct
    rw [hin, hv, up2_s, up2_k (by decide), f8, f4]
    cases rf_in (rf_v e (a i)) (e 7 (a i)) (e 8 (a i)) with
    | true =>
      rw [if_pos rfl, if_pos rfl]
      exact ⟨fun _ z => f9 z.symm, fun _ => rfl⟩
    | false =>
      rw [if_neg (by decide), if_neg (by decide)]
      by_cases g : e 10 (a i) + 1 = e 6 (a i)
      · rw [decide_eq_true g]
        exact ⟨fun z => absurd z (by decide), fun z => absurd g z⟩
      · rw [decide_eq_false g]
        exact ⟨fun _ => g, fun _ => rfl⟩
  by_cases b1 : wl_brk d (8 + π i) (wl_val d (8 + π i)) = 0
  · rw [wl_step1 o1 b1, rf_step2 h2 o2 (hk.mp b1)]
    exact ⟨hW1, rfl⟩
  · rw [wl_step2 o1 b1, rf_step3 h2 o2 (Decidable.not_not.mp (fun z => b1 (hk.mpr z)))]
    refine ⟨?_, rfl⟩
    dsimp only
    have h1' := hW1
    obtain ⟨hL1, hB1, hP1, hC1, ⟨q1, hQ1⟩, hE1, hT1⟩ := h1'
    have g1 := hL1.2.2.2.2.2.2.2.1 i hi
    generalize hD1 : wl_bd d (8 + π i) (wl_val d (8 + π i)) = D1 at *
    generalize hE9 : rf_ct e (a i) = E1 at *
    have hbl : wl_bl d (8 + π i) (wl_val d (8 + π i)) = up2 D1 0 4 (wl_or (E1 0 12) (E1 4 (a i))) := by
      unfold wl_bl
      rw [hD1, hC1.2.1, g1.2.1]
    have hbk : rf_bk e (a i) = rf_wt E1 q1 (E1 9 (a i)) (rf_v e (a i)) := by
      unfold rf_bk
      rw [hE9, rf_wtD_eq hQ1.2.2.2.2.1 (by have := hQ1.2.2.2.1; omega)]
    have hW2 := rlW_link (wl_or01 (E1 0 12) (E1 4 (a i))) hW1
    have hQ2 : rlQ (up2 D1 0 4 (wl_or (E1 0 12) (E1 4 (a i)))) (up2 E1 0 12 (wl_or (E1 0 12) (E1 4 (a i)))) f q1 := rlQ_c (fun k j hk => up2_k (by omega)) (up2_j (by decide)) (fun k j hk => up2_k (by omega)) hQ1
    have hW3 := rlW_raise (ev := E1 9 (a i)) (nu := rf_v e (a i)) hW2 hQ2
    rw [rf_wt_link] at hW3
    rw [hbl, hbk, rf_wt_k (by omega), rf_wt_k (by omega), wl_wolD_eq hQ2.1 hQ2.2.2.1 (by have := hQ2.2.1; omega) (by have := hQ2.2.2.2.1; omega), hv, up2_k (by omega), g1.2.2.2.2.2.2.1]
    exact hW3
theorem rl_watch (h : rlW d e π n a f ts) (j : Nat) (hj : j ≤ 256) : rlW (wl_w π d (rf_cnt (e 2) j)).1 (rf_w e j).1 π n a f ts ∧ (wl_w π d (rf_cnt (e 2) j)).2 = (rf_w e j).2 := by
  have h' := h
  obtain ⟨hL, hB, hP, hC, ⟨q, hQ⟩, hE, hT⟩ := h'
  induction j with
  | zero => exact ⟨rlW_link (Or.inl rfl) h, rfl⟩
  | succ j ih =>
    have ih := ih (by omega)
    have hI := rf_w_I hQ.2.2.2.2.1 hQ.2.2.2.1 j
    have e2 : (rf_w e j).1 2 j = e 2 j := hI.1 2 j (by decide) (by decide) (by decide) (by decide)
    by_cases g : e 2 j = 0
    · have c1 : rf_cnt (e 2) (j + 1) = rf_cnt (e 2) j := by
        show rf_cnt (e 2) j + (if e 2 j = 0 then 0 else 1) = _
        rw [if_pos g]
        omega
      have c2 : rf_w e (j + 1) = ((rf_w e j).1, (rf_w e j).2) := rf_step0 (e2.trans g)
      rw [c1, c2]
      exact ih
    · have c1 : rf_cnt (e 2) (j + 1) = rf_cnt (e 2) j + 1 := by
        show rf_cnt (e 2) j + (if e 2 j = 0 then 0 else 1) = _
        rw [if_neg g]
      obtain ⟨g1, g2⟩ := rl_at hL (by omega) g
      rw [c1]
      show rlW (wl_step π _ _ _).1 (rf_step j _ _).1 π n a f ts ∧ (wl_step π _ _ _).2 = (rf_step j _ _).2
      rw [ih.2]
      have := rlW_step (b := (rf_w e j).2) g1 ih.1 (by rw [g2, e2]; exact g)
      rw [g2] at this
      exact this
theorem op_watch {r1 r2 : Int32} {u1 u2 : (Nat → Nat → Int32) × (Nat → Nat)} (h : rl d π e) (hn : d 0 2 = nI n) (hn16 : n ≤ 16) (h1 : r1 = (wl_w π d n).2 ∧ u1 = (up2 (wl_w π d n).1 0 3 ((wl_w π d n).1 0 3 + (wl_w π d n).2), π)) (h2 : r2 = (rf_w e 256).2 ∧ u2 = (up2 (rf_w e 256).1 0 11 ((rf_w e 256).1 0 11 + (rf_w e 256).2), π')) : r1 = r2 ∧ rl u1.1 u1.2 u2.1 := by
  rw [h1.1, h1.2, h2.1, h2.2]
  clear h1 h2
  obtain ⟨n', f, q, ts, a, hL, hB, hP, hC, hQ, hE, hT⟩ := h
  have en : n' = n := (nI_eq (by have := hL.1; omega) (by omega)).mp (hL.2.1.symm.trans hn)
  subst en
  obtain ⟨hw, hb⟩ := rl_watch (d := d) (e := e) (π := π) (n := n') (a := a) (f := f) (ts := ts) ⟨hL, hB, hP, hC, ⟨q, hQ⟩, hE, hT⟩ 256 (by omega)
  have l9 := hL.2.2.2.2.2.2.2.2
  rw [l9] at hw hb
  refine ⟨hb, ?_⟩
  dsimp only
  rw [← hb]
  obtain ⟨wL, wB, wP, wC, ⟨q', wQ⟩, wE, wT⟩ := rlW_broken (x := (wl_w π d n').2) hw
  exact ⟨n', f, q', ts, a, wL, wB, wP, wC, wQ, wE, wT⟩
end WA

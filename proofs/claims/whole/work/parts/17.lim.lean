/-! PART 17: the calls on limits -/
theorem rf_cnt_congr {g g' : Nat → Int32} (N : Nat) (h : ∀ x, x < N → (g x = 0 ↔ g' x = 0)) : rf_cnt g N = rf_cnt g' N := by
  induction N with
  | zero => rfl
  | succ N ih =>
    unfold rf_cnt
    rw [ih (fun x hx => h x (by omega))]
    by_cases e : g N = 0
    · rw [if_pos e, if_pos ((h N (by omega)).mp e)]
    · rw [if_neg e, if_neg (fun z => e ((h N (by omega)).mpr z))]
theorem rf_cnt_up {g : Nat → Int32} {j : Nat} {v : Int32} (N : Nat) (hj : j < N) (h0 : g j = 0) (hv : ¬ v = 0) : rf_cnt (upd g j v) N = rf_cnt g N + 1 := by
  induction N with
  | zero => exact absurd hj (by omega)
  | succ N ih =>
    unfold rf_cnt
    by_cases e : j = N
    · subst e
      rw [rf_cnt_congr (g := upd g j v) (g' := g) j (fun x hx => by rw [pk_un (by omega)]), pk_us, if_neg hv, if_pos h0]
    · rw [ih (by omega), pk_un (fun z => e z.symm)]
      omega
theorem rf_cnt_off {g : Nat → Int32} {j : Nat} (N : Nat) (hj : j < N) (h0 : ¬ g j = 0) : rf_cnt (upd g j 0) N + 1 = rf_cnt g N := by
  have h := rf_cnt_up (g := upd g j 0) (j := j) (v := g j) N hj pk_us h0
  rw [← h]
  exact rf_cnt_congr N (fun x _ => by
    by_cases e : x = j
    · subst e; rw [pk_us]
    · rw [pk_un e, pk_un e])
section LM
variable {d d' e e' : Nat → Nat → Int32} {π : Nat → Nat} {n : Nat} {a : Nat → Nat}
theorem rl_found {i : Nat} {id : Int32} (hL : rlL d e π n a) (hi : i < n) (hid : d (8 + π i) 0 = id) : rf_th e id = true ∧ id.toNatClampNeg = a i := by
  obtain ⟨l1, l2, l3, l4, l5, l6, l7, l8, l9⟩ := hL
  obtain ⟨h1, h2⟩ := l5 i hi
  have e1 : id = nI (a i) := hid.symm.trans h2
  have e2 : id.toNatClampNeg = a i := by rw [e1, nI_clamp (by omega)]
  refine ⟨rf_th2 ?_ ?_, e2⟩
  · rw [e1]; exact wl_ok_nI (n := 256) h1 (by omega)
  · rw [e2]; exact (l7 _ h1).mpr ⟨i, hi, rfl⟩
theorem rl_none {id : Int32} (hL : rlL d e π n a) (h : ∀ j, j < n → ¬ d (8 + π j) 0 = id) : rf_th e id = false := by
  obtain ⟨l1, l2, l3, l4, l5, l6, l7, l8, l9⟩ := hL
  cases hh : rf_th e id with
  | false => rfl
  | true =>
    obtain ⟨ok, p⟩ := rf_th_ok hh
    obtain ⟨x, hx, rfl⟩ := wl_ok256 ok
    rw [nI_clamp (by omega)] at p
    obtain ⟨i, hi, ha⟩ := (l7 x hx).mp p
    exact absurd ((l5 i hi).2.trans (by rw [ha])) (h i hi)
theorem rl_ne {i j : Nat} (hL : rlL d e π n a) (hi : i < n) (hj : j < n) (h : i ≠ j) : 8 + π i ≠ 8 + π j ∧ a i ≠ a j := by
  obtain ⟨l1, l2, l3, l4, l5, l6, l7, l8, l9⟩ := hL
  refine ⟨fun z => h (l4 i j (by omega) (by omega) (by omega)), fun z => ?_⟩
  rcases Nat.lt_or_gt_of_ne h with g | g
  · have := l6 i j g hj; omega
  · have := l6 j i g hi; omega
/-- one limit changes -/
theorem rlL_u {i0 : Nat} (hL : rlL d e π n a) (hi0 : i0 < n) (h0 : d' 0 2 = d 0 2) (hd : ∀ k x, 8 ≤ k → k < 24 → k ≠ 8 + π i0 → d' k x = d k x) (hid : d' (8 + π i0) 0 = d (8 + π i0) 0) (he2 : ∀ j, e' 2 j = e 2 j) (he : ∀ k j, 3 ≤ k → k ≤ 10 → j ≠ a i0 → e' k j = e k j) (hF : rlF d' e' (8 + π i0) (a i0)) : rlL d' e' π n a := by
  have hne := fun i (hi : i < n) (h : i ≠ i0) => rl_ne hL hi hi0 h
  obtain ⟨l1, l2, l3, l4, l5, l6, l7, l8, l9⟩ := hL
  have e2 : e' 2 = e 2 := funext he2
  refine ⟨l1, by rw [h0]; exact l2, l3, l4, fun i hi => ⟨(l5 i hi).1, ?_⟩, l6, fun j hj => by rw [e2]; exact l7 j hj, fun i hi => ?_, by rw [e2]; exact l9⟩
  · by_cases g : i = i0
    · subst g; rw [hid]; exact (l5 i hi).2
    · have := l3 i (by omega)
      rw [hd _ _ (by omega) (by omega) (hne i hi g).1]; exact (l5 i hi).2
  · by_cases g : i = i0
    · subst g; exact hF
    · have := l3 i (by omega)
      exact rlF_c (fun x => hd _ _ (by omega) (by omega) (hne i hi g).1) (fun x x1 x2 => he x _ x1 x2 (hne i hi g).2) (l8 i hi)
end LM
section OP3
variable {d e : Nat → Nat → Int32} {π π' : Nat → Nat} {r1 r2 : Int32} {u1 u2 : (Nat → Nat → Int32) × (Nat → Nat)} {n : Nat} {iv : Int32}
theorem op_limit {w : Int32} (h : rl d π e) (hn : d 0 2 = nI n) (hn16 : n ≤ 16) (h1 : u1 = (d, π) ∧ ((r1 = -1 ∧ ∀ j, j < n → ¬ d (8 + π j) 0 = iv) ∨ (∃ i, i < n ∧ d (8 + π i) 0 = iv ∧ r1 = wl_ltell d (8 + π i) w))) (h2 : (rf_th e iv = false ∧ r2 = -1 ∧ u2 = (e, π')) ∨ (rf_th e iv = true ∧ r2 = rf_ltell e iv.toNatClampNeg w ∧ u2 = (e, π'))) : r1 = r2 ∧ rl u1.1 u1.2 u2.1 := by
  obtain ⟨rfl, h1⟩ := h1
  have h' := h
  obtain ⟨n', f, q, ts, a, hL, hB, hP, hC, hQ, hE, hT⟩ := h'
  have en : n' = n := (nI_eq (by have := hL.1; omega) (by omega)).mp (hL.2.1.symm.trans hn)
  subst en
  rcases h1 with ⟨rfl, hno⟩ | ⟨i, hi, hid, rfl⟩
  · have g := rl_none hL hno
    rcases h2 with ⟨-, rfl, rfl⟩ | ⟨g2, -, -⟩
    · exact ⟨rfl, h⟩
    · rw [g] at g2; cases g2
  · obtain ⟨g, g3⟩ := rl_found hL hi hid
    rcases h2 with ⟨g2, -, -⟩ | ⟨-, rfl, rfl⟩
    · rw [g] at g2; cases g2
    · refine ⟨?_, h⟩
      rw [g3]
      have hai := (hL.2.2.2.2.1 i hi).1
      obtain ⟨f1, f2, f3, f4, f5, f6, f7, f8, f9⟩ := hL.2.2.2.2.2.2.2.1 i hi
      unfold wl_ltell rf_ltell
      rw [f1, f2, f3, f4, f7, f8, rl_01 (hB.2.1 3 _ (by omega) (by omega) hai), rl_01 (hB.2.1 4 _ (by omega) (by omega) hai)]
theorem op_enable {on : Int32} (hz : on = 0 ∨ on = 1) (h : rl d π e) (hn : d 0 2 = nI n) (hn16 : n ≤ 16) (h1 : (r1 = 27 ∧ u1 = (d, π) ∧ ∀ j, j < n → ¬ d (8 + π j) 0 = iv) ∨ (r1 = 0 ∧ ∃ i, i < n ∧ d (8 + π i) 0 = iv ∧ (∀ j, j < i → ¬ d (8 + π j) 0 = iv) ∧ u1 = (up2 (up2 d (8 + π i) 7 on) (8 + π i) 8 0, π))) (h2 : (rf_th e iv = false ∧ r2 = 27 ∧ u2 = (e, π')) ∨ (rf_th e iv = true ∧ r2 = 0 ∧ u2 = (up2 (up2 e 3 iv.toNatClampNeg on) 10 iv.toNatClampNeg 0, π'))) : r1 = r2 ∧ rl u1.1 u1.2 u2.1 := by
  have h' := h
  obtain ⟨n', f, q, ts, a, hL, hB, hP, hC, hQ, hE, hT⟩ := h'
  have en : n' = n := (nI_eq (by have := hL.1; omega) (by omega)).mp (hL.2.1.symm.trans hn)
  subst en
  rcases h1 with ⟨rfl, rfl, hno⟩ | ⟨rfl, i, hi, hid, hfst, rfl⟩
  · have g := rl_none hL hno
    rcases h2 with ⟨-, rfl, rfl⟩ | ⟨g2, -, -⟩
    · exact ⟨rfl, h⟩
    · rw [g] at g2; cases g2
  · obtain ⟨g, g3⟩ := rl_found hL hi hid
    rcases h2 with ⟨g2, -, -⟩ | ⟨-, rfl, rfl⟩
    · rw [g] at g2; cases g2
    · refine ⟨rfl, ?_⟩
      dsimp only
      rw [g3]
      have hai := (hL.2.2.2.2.1 i hi).1
      have hpi := hL.2.2.1 i (by omega)
      obtain ⟨f1, f2, f3, f4, f5, f6, f7, f8, f9⟩ := hL.2.2.2.2.2.2.2.1 i hi
      have dr : ∀ k j, k ≠ 8 + π i → up2 (up2 d (8 + π i) 7 on) (8 + π i) 8 0 k j = d k j := fun k j a1 => by rw [up2_k a1, up2_k a1]
      have er : ∀ k j, k ≠ 3 → k ≠ 10 → up2 (up2 e 3 (a i) on) 10 (a i) 0 k j = e k j := fun k j a1 a2 => by rw [up2_k a2, up2_k a1]
      refine ⟨n', f, q, ts, a, rlL_u hL hi (dr 0 2 (by omega)) (fun k x k1 k2 k3 => dr k x k3) (by rw [up2_j (by decide), up2_j (by decide)]) (fun j => er 2 j (by decide) (by decide)) (fun k j k1 k2 k3 => by rw [up2_at, if_neg (by omega), up2_at, if_neg (by omega)]) ?_, ⟨fun j hj => by rw [er 5 j (by decide) (by decide)]; exact hB.1 j hj, fun k j k1 k2 hj => ?_, fun j hj => ?_, fun j hj => ?_⟩, rlP_c (fun j => dr 1 j (by omega)) (fun j => er 1 j (by decide) (by decide)) hP, rlC_c (fun j hj => dr 0 j (by omega)) (fun j hj => er 0 j (by decide) (by decide)) hC, rlQ_c (fun k j hk => dr k j (by omega)) (er 0 13 (by decide) (by decide)) (fun k j hk => er k j (by omega) (by omega)) hQ, rlE_c (fun k j k1 => dr k j (by omega)) (fun k j k1 k2 => er k j (by omega) (by omega)) hE, rlT_c (dr 0 10 (by omega)) (fun j => dr 5 j (by omega)) (er 0 22 (by decide) (by decide)) (fun j => er 17 j (by decide) (by decide)) hT⟩
      · unfold rlF
        simp [up2_at, f2, f3, f4, f5, f6, f7, f9]
      · rw [up2_k (by omega), up2_at]
        split
        · exact hz
        · exact hB.2.1 k j k1 k2 hj
      · rw [up2_at, if_neg (by omega), up2_at]
        split
        · exact hz
        · exact hB.2.2.1 j hj
      · rw [up2_at, if_neg (by omega), up2_at, if_neg (by omega)]
        exact hB.2.2.2 j hj
/-- a limit goes: the others keep their order -/
theorem rlL_rm {a : Nat → Nat} {i : Nat} (hL : rlL d e π n a) (hi : i < n) : rlL (up2 d 0 2 (nI (n - 1))) (up2 e 2 (a i) 0) (va_up (wl_sl π i (n - 1)) (n - 1) (π i)) (n - 1) (fun x => if x < i then a x else a (x + 1)) := by
  have hne := fun j (hj : j < n) (h : j ≠ i) => rl_ne hL hj hi h
  obtain ⟨l1, l2, l3, l4, l5, l6, l7, l8, l9⟩ := hL
  have hp : ∀ x, va_up (wl_sl π i (n - 1)) (n - 1) (π i) x = π (if x < i then x else if x < n - 1 then x + 1 else if x = n - 1 then i else x) := by
    intro x
    unfold va_up wl_sl
    by_cases h1 : x = n - 1
    · rw [if_pos h1, if_neg (by omega), if_neg (by omega), if_pos h1]
    · rw [if_neg h1]
      by_cases h2 : x < i
      · rw [if_neg (by omega), if_pos h2]
      · rw [if_neg h2]
        by_cases h3 : x < n - 1
        · rw [if_pos (by omega), if_pos h3]
        · rw [if_neg (by omega), if_neg h3, if_neg h1]
  have hs : ∀ x, x < n - 1 → va_up (wl_sl π i (n - 1)) (n - 1) (π i) x = π (if x < i then x else x + 1) := by
    intro x hx
    rw [hp]
    congr 1
    split
    · rfl
    · first | rfl | rw [if_pos hx]
  have ha : ∀ x, (if x < i then a x else a (x + 1)) = a (if x < i then x else x + 1) := by
    intro x; split <;> rfl
  refine ⟨by omega, up2_s, fun x hx => ?_, fun x y hx hy hxy => ?_, fun x hx => ?_, fun x y hxy hy => ?_, fun j hj => ?_, fun x hx => ?_, ?_⟩
  · rw [hp]
    apply l3
    split
    · omega
    · split
      · omega
      · split <;> omega
  · rw [hp, hp] at hxy
    have := l4 _ _ (by split; omega; split; omega; split <;> omega) (by split; omega; split; omega; split <;> omega) hxy
    revert this
    split <;> split <;> (try split) <;> (try split) <;> (try split) <;> (try split) <;> omega
  · dsimp only
    rw [ha, hs x hx]
    have h9 : (if x < i then x else x + 1) < n := by split <;> omega
    refine ⟨(l5 _ h9).1, ?_⟩
    rw [up2_k (by omega)]
    exact (l5 _ h9).2
  · dsimp only
    rw [ha, ha]
    exact l6 _ _ (by split <;> split <;> omega) (by split <;> omega)
  · rw [up2_same]
    constructor
    · intro h
      have h2 : j ≠ a i := fun z => h (by rw [z, pk_us])
      rw [pk_un h2] at h
      obtain ⟨x, hx, hxa⟩ := (l7 j hj).mp h
      have hxi : x ≠ i := fun z => h2 (by rw [← hxa, z])
      by_cases g : x < i
      · exact ⟨x, by omega, by dsimp only; rw [if_pos g]; exact hxa⟩
      · exact ⟨x - 1, by omega, by dsimp only; rw [if_neg (by omega), show x - 1 + 1 = x by omega]; exact hxa⟩
    · intro ⟨x, hx, hxa⟩
      dsimp only at hxa
      rw [ha] at hxa
      have h9 : (if x < i then x else x + 1) < n := by split <;> omega
      have h8 : (if x < i then x else x + 1) ≠ i := by split <;> omega
      have h7 := (hne _ h9 h8).2
      rw [hxa] at h7
      rw [pk_un h7]
      exact (l7 j hj).mpr ⟨_, h9, hxa⟩
  · dsimp only
    rw [ha, hs x hx]
    have h9 : (if x < i then x else x + 1) < n := by split <;> omega
    exact rlF_c (fun z => up2_k (by omega)) (fun z z1 z2 => up2_k (by omega)) (l8 _ h9)
  · rw [up2_same]
    have := rf_cnt_off (g := e 2) 256 (l5 i hi).1 ((l7 _ (l5 i hi).1).mpr ⟨i, hi, rfl⟩)
    omega
theorem up2_id {d : Nat → Nat → Int32} {k j : Nat} {v : Int32} (h : v = d k j) : up2 d k j v = d := by
  funext x y
  rw [up2_at]
  split
  · rename_i g; rw [g.1, g.2, h]
  · rfl
theorem op_remove (h : rl d π e) (hn : d 0 2 = nI n) (hn16 : n ≤ 16) (h1 : (r1 = 27 ∧ u1 = (d, π) ∧ ∀ j, j < n → ¬ d (8 + π j) 0 = iv) ∨ ∃ i, i < n ∧ d (8 + π i) 0 = iv ∧ (∀ j, j < i → ¬ d (8 + π j) 0 = iv) ∧ ((r1 = 15 ∧ u1 = (d, π) ∧ ¬ d (8 + π i) 7 = 0) ∨ (r1 = 0 ∧ d (8 + π i) 7 = 0 ∧ u1 = (up2 d 0 2 (nI (n - 1)), va_up (wl_sl π i (n - 1)) (n - 1) (π i))))) (h2 : (rf_th e iv = false ∧ r2 = 27 ∧ u2 = (e, π')) ∨ (rf_th e iv = true ∧ ((¬ e 3 iv.toNatClampNeg = 0 ∧ r2 = 15) ∨ (e 3 iv.toNatClampNeg = 0 ∧ r2 = 0)) ∧ u2 = (up2 e 2 iv.toNatClampNeg (e 3 iv.toNatClampNeg), π'))) : r1 = r2 ∧ rl u1.1 u1.2 u2.1 := by
  have h' := h
  obtain ⟨n', f, q, ts, a, hL, hB, hP, hC, hQ, hE, hT⟩ := h'
  have en : n' = n := (nI_eq (by have := hL.1; omega) (by omega)).mp (hL.2.1.symm.trans hn)
  subst en
  rcases h1 with ⟨rfl, rfl, hno⟩ | ⟨i, hi, hid, hfst, h1⟩
  · have g := rl_none hL hno
    rcases h2 with ⟨-, rfl, rfl⟩ | ⟨g2, -, -⟩
    · exact ⟨rfl, h⟩
    · rw [g] at g2; cases g2
  · obtain ⟨g, g3⟩ := rl_found hL hi hid
    rcases h2 with ⟨g2, -, -⟩ | ⟨-, h2, rfl⟩
    · rw [g] at g2; cases g2
    rw [g3] at h2 ⊢
    have hai := (hL.2.2.2.2.1 i hi).1
    have f1 := (hL.2.2.2.2.2.2.2.1 i hi).1
    rw [f1] at h1
    rcases h1 with ⟨rfl, rfl, o1⟩ | ⟨rfl, o1, rfl⟩
    · rcases h2 with ⟨-, rfl⟩ | ⟨o2, -⟩
      · refine ⟨rfl, ?_⟩
        dsimp only
        rw [up2_id]
        · exact h
        · have p3 := (hB.2.1 3 _ (by omega) (by omega) hai).resolve_left o1
          have p2 := (hB.2.1 2 _ (by omega) (by omega) hai).resolve_left ((hL.2.2.2.2.2.2.1 _ hai).mpr ⟨i, hi, rfl⟩)
          rw [p3, p2]
      · exact absurd o2 o1
    · rcases h2 with ⟨o2, -⟩ | ⟨-, rfl⟩
      · exact absurd o1 o2
      · refine ⟨rfl, ?_⟩
        dsimp only
        rw [o1]
        refine ⟨n' - 1, f, q, ts, _, rlL_rm hL hi, ⟨fun j hj => by rw [up2_k (by decide)]; exact hB.1 j hj, fun k j k1 k2 hj => ?_, fun j hj => by rw [up2_k (by omega)]; exact hB.2.2.1 j hj, fun j hj => by rw [up2_k (by omega)]; exact hB.2.2.2 j hj⟩, rlP_c (fun j => up2_k (by omega)) (fun j => up2_k (by decide)) hP, rlC_c (fun j hj => up2_j (by omega)) (fun j hj => up2_k (by decide)) hC, rlQ_c (fun k j hk => up2_k (by omega)) (up2_k (by decide)) (fun k j hk => up2_k (by omega)) hQ, rlE_c (fun k j k1 => up2_k (by omega)) (fun k j k1 k2 => up2_k (by omega)) hE, rlT_c (up2_j (by decide)) (fun j => up2_k (by decide)) (up2_k (by decide)) (fun j => up2_k (by decide)) hT⟩
        rw [up2_at]
        split
        · exact Or.inl rfl
        · exact hB.2.1 k j k1 k2 hj
end OP3

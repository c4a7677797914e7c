/-! PART 18: a limit comes -/
section AD
variable {d e : Nat → Nat → Int32} {id pa ti lo hi ev lk : Int32}
theorem wl_beg_k {k k' x : Nat} (h : k' ≠ k) : wl_beg d k id pa ti lo hi ev lk k' x = d k' x := by
  unfold wl_beg
  rw [up2_k h, up2_k h, up2_k h, up2_k h, up2_k h, up2_k h, up2_k h, up2_k h, up2_k h]
theorem wl_beg_s {k : Nat} : wl_beg d k id pa ti lo hi ev lk k 0 = id ∧ wl_beg d k id pa ti lo hi ev lk k 1 = pa ∧ wl_beg d k id pa ti lo hi ev lk k 2 = ti ∧ wl_beg d k id pa ti lo hi ev lk k 3 = lo ∧ wl_beg d k id pa ti lo hi ev lk k 4 = hi ∧ wl_beg d k id pa ti lo hi ev lk k 5 = ev ∧ wl_beg d k id pa ti lo hi ev lk k 6 = lk ∧ wl_beg d k id pa ti lo hi ev lk k 7 = 0 ∧ wl_beg d k id pa ti lo hi ev lk k 8 = 0 := by
  unfold wl_beg
  simp [up2_at]
theorem rf_add_x {j k x : Nat} (h : x ≠ j) : rf_add e j pa ti lo hi ev lk k x = e k x := by
  unfold rf_add
  rw [up2_at, if_neg (fun z => h z.2), up2_at, if_neg (fun z => h z.2), up2_at, if_neg (fun z => h z.2), up2_at, if_neg (fun z => h z.2), up2_at, if_neg (fun z => h z.2), up2_at, if_neg (fun z => h z.2), up2_at, if_neg (fun z => h z.2), up2_at, if_neg (fun z => h z.2), up2_at, if_neg (fun z => h z.2)]
theorem rf_add_k {j k x : Nat} (h : k < 2 ∨ 10 < k) : rf_add e j pa ti lo hi ev lk k x = e k x := by
  unfold rf_add
  rw [up2_k (by omega), up2_k (by omega), up2_k (by omega), up2_k (by omega), up2_k (by omega), up2_k (by omega), up2_k (by omega), up2_k (by omega), up2_k (by omega)]
theorem rf_add_s {j : Nat} : rf_add e j pa ti lo hi ev lk 2 j = 1 ∧ rf_add e j pa ti lo hi ev lk 3 j = 0 ∧ rf_add e j pa ti lo hi ev lk 4 j = lk ∧ rf_add e j pa ti lo hi ev lk 5 j = pa ∧ rf_add e j pa ti lo hi ev lk 6 j = ti ∧ rf_add e j pa ti lo hi ev lk 7 j = lo ∧ rf_add e j pa ti lo hi ev lk 8 j = hi ∧ rf_add e j pa ti lo hi ev lk 9 j = ev ∧ rf_add e j pa ti lo hi ev lk 10 j = 0 := by
  unfold rf_add
  simp [up2_at]
theorem rf_add_2 {j : Nat} : rf_add e j pa ti lo hi ev lk 2 = upd (e 2) j 1 := by
  funext x
  unfold upd
  by_cases g : x = j
  · rw [if_pos g, g]; exact rf_add_s.1
  · rw [if_neg g]; exact rf_add_x g
theorem rlL_ad {π : Nat → Nat} {n j pl : Nat} {a : Nat → Nat} (hL : rlL d e π n a) (hn : n < 16) (hj : j < 256) (h0 : e 2 j = 0) (hpl : pl ≤ n) (hup : ∀ y, pl ≤ y → y < n → j < a y) (hdn : 0 < pl → a (pl - 1) < j) (hti : ¬ ti = 0) :
    rlL (wl_beg (up2 d 0 2 (nI (n + 1))) (8 + π n) (nI j) pa ti lo hi ev lk) (rf_add e j pa ti lo hi ev lk) (va_up (wl_sh π n pl) pl (π n)) (n + 1) (fun x => if x < pl then a x else if x = pl then j else a (x - 1)) := by
  obtain ⟨l1, l2, l3, l4, l5, l6, l7, l8, l9⟩ := hL
  have hp : ∀ x, va_up (wl_sh π n pl) pl (π n) x = π (if x < pl then x else if x = pl then n else if x ≤ n then x - 1 else x) := by
    intro x
    unfold va_up wl_sh
    by_cases h1 : x = pl
    · rw [if_pos h1, if_neg (by omega), if_pos h1]
    · rw [if_neg h1, if_neg h1]
      by_cases h2 : x < pl
      · rw [if_neg (by omega), if_pos h2]
      · rw [if_neg h2]
        by_cases h3 : x ≤ n
        · rw [if_pos (by omega), if_pos h3]
        · rw [if_neg (by omega), if_neg h3]
  have hpn := l3 n hn
  have old : ∀ y, y < n → π y ≠ π n := fun y hy z => by have := l4 y n (by omega) hn z; omega
  have aj : ∀ y, y < n → a y ≠ j := fun y hy z => (l7 j hj).mpr ⟨y, hy, z⟩ h0
  -- the place x < n + 1: either pl, or an old one y
  have cases : ∀ x, x < n + 1 → (x = pl ∧ va_up (wl_sh π n pl) pl (π n) x = π n ∧ (if x < pl then a x else if x = pl then j else a (x - 1)) = j) ∨ ∃ y, y < n ∧ va_up (wl_sh π n pl) pl (π n) x = π y ∧ (if x < pl then a x else if x = pl then j else a (x - 1)) = a y ∧ ((x < pl ∧ y = x) ∨ (pl < x ∧ y + 1 = x)) := by
    intro x hx
    by_cases h1 : x = pl
    · left
      refine ⟨h1, ?_, ?_⟩
      · rw [hp, if_neg (by omega), if_pos h1]
      · rw [if_neg (by omega), if_pos h1]
    · right
      by_cases h2 : x < pl
      · refine ⟨x, by omega, ?_, ?_, Or.inl ⟨h2, rfl⟩⟩
        · rw [hp, if_pos h2]
        · rw [if_pos h2]
      · refine ⟨x - 1, by omega, ?_, ?_, Or.inr ⟨by omega, by omega⟩⟩
        · rw [hp, if_neg h2, if_neg h1, if_pos (by omega)]
        · rw [if_neg h2, if_neg h1]
  have dB : ∀ y x, y < n → wl_beg (up2 d 0 2 (nI (n + 1))) (8 + π n) (nI j) pa ti lo hi ev lk (8 + π y) x = d (8 + π y) x := fun y x hy => by
    have := old y hy
    rw [wl_beg_k (by omega), up2_k (by omega)]
  have inc : ∀ x y, x < y → y < n + 1 → (if x < pl then a x else if x = pl then j else a (x - 1)) < (if y < pl then a y else if y = pl then j else a (y - 1)) := by
    intro x y hxy hy
    rcases cases x (by omega) with ⟨x1, -, x2⟩ | ⟨x1, x2, -, x3, x4⟩
    · rcases cases y hy with ⟨y1, -, y2⟩ | ⟨y1, y2, -, y3, y4⟩
      · omega
      · rw [x2, y3]; exact hup _ (by omega) y2
    · rcases cases y hy with ⟨y1, -, y2⟩ | ⟨y1, y2, -, y3, y4⟩
      · rw [x3, y2]
        by_cases g : x1 = pl - 1
        · rw [g]; exact hdn (by omega)
        · exact Nat.lt_trans (l6 x1 (pl - 1) (by omega) (by omega)) (hdn (by omega))
      · rw [x3, y3]; exact l6 _ _ (by omega) y2
  refine ⟨by omega, ?_, fun x hx => ?_, fun x y hx hy hxy => ?_, fun x hx => ?_, inc, fun m hm => ?_, fun x hx => ?_, ?_⟩
  · rw [wl_beg_k (by omega), up2_s]
  · rw [hp]
    apply l3
    split
    · omega
    · split
      · omega
      · split <;> omega
  · rw [hp, hp] at hxy
    have := l4 _ _ (by split; omega; split; omega; split <;> omega) (by split; omega; split; omega; split <;> omega) hxy
    revert this
    split <;> split <;> (try split) <;> (try split) <;> (try split) <;> (try split) <;> omega
  · dsimp only
    rcases cases x hx with ⟨x1, x2, x3⟩ | ⟨y, y1, y2, y3, y4⟩
    · rw [x2, x3]
      exact ⟨hj, wl_beg_s.1⟩
    · rw [y2, y3, dB y 0 y1]
      exact l5 y y1
  · rw [rf_add_2]
    by_cases g : m = j
    · subst g
      rw [pk_us]
      refine ⟨fun _ => ⟨pl, by omega, ?_⟩, fun _ => by decide⟩
      dsimp only
      rw [if_neg (by omega), if_pos rfl]
    · rw [pk_un g, l7 m hm]
      constructor
      · rintro ⟨y, hy, rfl⟩
        by_cases g2 : y < pl
        · exact ⟨y, by omega, by dsimp only; rw [if_pos g2]⟩
        · exact ⟨y + 1, by omega, by dsimp only; rw [if_neg (by omega), if_neg (by omega), Nat.add_sub_cancel]⟩
      · rintro ⟨x, hx, hxa⟩
        dsimp only at hxa
        rcases cases x hx with ⟨x1, x2, x3⟩ | ⟨y, y1, y2, y3, y4⟩
        · exact absurd (hxa.symm.trans x3) g
        · exact ⟨y, y1, y3.symm.trans hxa⟩
  · dsimp only
    rcases cases x hx with ⟨x1, x2, x3⟩ | ⟨y, y1, y2, y3, y4⟩
    · rw [x2, x3]
      obtain ⟨s0, s1, s2, s3, s4, s5, s6, s7, s8⟩ := wl_beg_s (d := up2 d 0 2 (nI (n + 1))) (k := 8 + π n) (id := nI j) (pa := pa) (ti := ti) (lo := lo) (hi := hi) (ev := ev) (lk := lk)
      obtain ⟨t2, t3, t4, t5, t6, t7, t8, t9, t10⟩ := rf_add_s (e := e) (j := j) (pa := pa) (ti := ti) (lo := lo) (hi := hi) (ev := ev) (lk := lk)
      exact ⟨s7.trans t3.symm, s6.trans t4.symm, s1.trans t5.symm, s2.trans t6.symm, s3.trans t7.symm, s4.trans t8.symm, s5.trans t9.symm, s8.trans t10.symm, by rw [t6]; exact hti⟩
    · rw [y2, y3]
      exact rlF_c (fun z => dB y z y1) (fun z z1 z2 => rf_add_x (aj y y1)) (l8 y y1)
  · rw [rf_add_2, rf_cnt_up 256 hj h0 (by decide), l9]
end AD
theorem wl_badf {id pa ti lo hi ev : Int32} (h : wl_bad id pa ti lo hi ev = false) : wl_ok id 256 = true ∧ wl_ok pa 32 = true ∧ wl_ok ev 32 = true ∧ 1 ≤ ti ∧ ti ≤ 255 ∧ lo ≤ hi := by
  unfold wl_bad at h
  simp only [Bool.not_eq_false', Bool.and_eq_true, decide_eq_true_eq] at h
  obtain ⟨⟨⟨⟨⟨h1, h2⟩, h3⟩, h4⟩, h5⟩, h6⟩ := h
  exact ⟨h1, h2, h3, h4, h5, h6⟩
section OP4
variable {d e : Nat → Nat → Int32} {π π' : Nat → Nat} {r1 r2 : Int32} {u1 u2 : (Nat → Nat → Int32) × (Nat → Nat)} {n : Nat} {iv pa ti lo hi ev lk : Int32}
theorem op_add (hz : lk = 0 ∨ lk = 1) (h : rl d π e) (hn : d 0 2 = nI n) (hn16 : n ≤ 16)
    (h1 : (r1 = 13 ∧ u1 = (d, π) ∧ wl_bad iv pa ti lo hi ev = true) ∨ (wl_bad iv pa ti lo hi ev = false ∧ ((r1 = 25 ∧ u1 = (d, π) ∧ ∃ i, i < n ∧ d (8 + π i) 0 = iv) ∨ ((∀ j, j < n → ¬ d (8 + π j) 0 = iv) ∧ ((r1 = 26 ∧ u1 = (d, π) ∧ n = 16) ∨ (r1 = 0 ∧ n < 16 ∧ ∃ pl, pl ≤ n ∧ (∀ j, pl ≤ j → j < n → iv < d (8 + π j) 0) ∧ (0 < pl → d (8 + π (pl - 1)) 0 ≤ iv) ∧ u1 = (wl_beg (up2 d 0 2 (nI (n + 1))) (8 + π n) iv pa ti lo hi ev lk, va_up (wl_sh π n pl) pl (π n))))))))
    (h2 : (r2 = 13 ∧ u2 = (e, π') ∧ wl_bad iv pa ti lo hi ev = true) ∨ (wl_bad iv pa ti lo hi ev = false ∧ ((r2 = 25 ∧ u2 = (e, π') ∧ ¬ e 2 iv.toNatClampNeg = 0) ∨ (e 2 iv.toNatClampNeg = 0 ∧ ((r2 = 26 ∧ u2 = (e, π') ∧ rf_cnt (e 2) 256 = 16) ∨ (r2 = 0 ∧ ¬ rf_cnt (e 2) 256 = 16 ∧ u2 = (rf_add e iv.toNatClampNeg pa ti lo hi ev lk, π'))))))) : r1 = r2 ∧ rl u1.1 u1.2 u2.1 := by
  have h' := h
  obtain ⟨n', f, q, ts, a, hL, hB, hP, hC, hQ, hE, hT⟩ := h'
  have en : n' = n := (nI_eq (by have := hL.1; omega) (by omega)).mp (hL.2.1.symm.trans hn)
  subst en
  rcases h1 with ⟨rfl, rfl, b1⟩ | ⟨b1, h1⟩
  · rcases h2 with ⟨rfl, rfl, -⟩ | ⟨b2, -⟩
    · exact ⟨rfl, h⟩
    · rw [b1] at b2; cases b2
  rcases h2 with ⟨-, -, b2⟩ | ⟨-, h2⟩
  · rw [b1] at b2; cases b2
  obtain ⟨o1, o2, o3, o4, o5, o6⟩ := wl_badf b1
  rcases h1 with ⟨rfl, rfl, i, hi, hid⟩ | ⟨hno, h1⟩
  · obtain ⟨g, g3⟩ := rl_found hL hi hid
    rcases h2 with ⟨rfl, rfl, -⟩ | ⟨z, -⟩
    · exact ⟨rfl, h⟩
    · exact absurd z (rf_th_ok g).2
  have g := rl_none hL hno
  obtain ⟨j, hj, rfl⟩ := wl_ok256 o1
  rw [nI_clamp (by omega)] at h2
  have z0 : e 2 j = 0 := Decidable.not_not.mp (fun z => by
    have := rf_th2 (d := e) o1 (by rw [nI_clamp (by omega)]; exact z)
    rw [g] at this; cases this)
  rcases h2 with ⟨-, -, z⟩ | ⟨-, h2⟩
  · exact absurd z0 z
  have l9 := hL.2.2.2.2.2.2.2.2
  rw [l9] at h2
  rcases h1 with ⟨rfl, rfl, n1⟩ | ⟨rfl, n1, pl, p1, p2, p3, rfl⟩
  · rcases h2 with ⟨rfl, rfl, -⟩ | ⟨-, n2, -⟩
    · exact ⟨rfl, h⟩
    · exact absurd n1 n2
  rcases h2 with ⟨-, -, n2⟩ | ⟨rfl, -, rfl⟩
  · omega
  refine ⟨rfl, ?_⟩
  dsimp only
  have l5 := hL.2.2.2.2.1
  have hti : ¬ ti = 0 := fun z => by rw [z] at o4; exact absurd o4 (by decide)
  have hpn := hL.2.2.1 n' n1
  have dk : ∀ k x, k ≠ 8 + π n' → k ≠ 0 → wl_beg (up2 d 0 2 (nI (n' + 1))) (8 + π n') (nI j) pa ti lo hi ev lk k x = d k x := fun k x a1 a2 => by rw [wl_beg_k a1, up2_k a2]
  have d0 : ∀ x, x ≠ 2 → wl_beg (up2 d 0 2 (nI (n' + 1))) (8 + π n') (nI j) pa ti lo hi ev lk 0 x = d 0 x := fun x a1 => by rw [wl_beg_k (by omega), up2_j a1]
  refine ⟨n' + 1, f, q, ts, _, rlL_ad hL n1 hj z0 p1 (fun y y1 y2 => ?_) (fun y0 => ?_) hti, ⟨fun m hm => ?_, fun k m k1 k2 hm => ?_, fun m hm => ?_, fun m hm => ?_⟩, rlP_c (fun m => dk 1 m (by omega) (by omega)) (fun m => rf_add_k (by omega)) hP, rlC_c (fun m hm => d0 m (by omega)) (fun m hm => rf_add_k (by omega)) hC, rlQ_c (fun k m hk => dk k m (by omega) (by omega)) (rf_add_k (by omega)) (fun k m hk => rf_add_k (by omega)) hQ, rlE_c (fun k m k1 => dk k m (by omega) (by omega)) (fun k m k1 k2 => rf_add_k (by omega)) hE, rlT_c (d0 10 (by omega)) (fun m => dk 5 m (by omega) (by omega)) (rf_add_k (by omega)) (fun m => rf_add_k (by omega)) hT⟩
  · have := p2 y y1 y2
    rw [(l5 y y2).2] at this
    exact (nI_ltI (by omega) (by have := (l5 y y2).1; omega)).mp this
  · have := p3 y0
    rw [(l5 (pl - 1) (by omega)).2] at this
    have h3 := (nI_leI (by have := (l5 (pl - 1) (by omega)).1; omega) (by omega)).mp this
    have h4 : a (pl - 1) ≠ j := fun z => (hL.2.2.2.2.2.2.1 j hj).mpr ⟨pl - 1, by omega, z⟩ z0
    omega
  · by_cases g : m = j
    · rw [g, rf_add_s.2.2.2.1]
      exact wl_ok32 o2
    · rw [rf_add_x g]; exact hB.1 m hm
  · by_cases g : m = j
    · rw [g]
      obtain ⟨t2, t3, t4, -⟩ := rf_add_s (e := e) (j := j) (pa := pa) (ti := ti) (lo := lo) (hi := hi) (ev := ev) (lk := lk)
      rcases (show k = 2 ∨ k = 3 ∨ k = 4 by omega) with rfl | rfl | rfl
      · rw [t2]; exact Or.inr rfl
      · rw [t3]; exact Or.inl rfl
      · rw [t4]; exact hz
    · rw [rf_add_x g]; exact hB.2.1 k m k1 k2 hm
  · by_cases g : 8 + m = 8 + π n'
    · rw [g, wl_beg_s.2.2.2.2.2.2.2.1]; exact Or.inl rfl
    · rw [dk _ _ g (by omega)]; exact hB.2.2.1 m hm
  · by_cases g : 8 + m = 8 + π n'
    · rw [g, wl_beg_s.2.2.2.2.2.2.1]; exact hz
    · rw [dk _ _ g (by omega)]; exact hB.2.2.2 m hm
end OP4

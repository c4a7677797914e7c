/-! PART 04: what the class's methods answer and do, as functions of d and π -/
def wl_beg (d : Nat → Nat → Int32) (k : Nat) (id pa ti lo hi ev lk : Int32) : Nat → Nat → Int32 := up2 (up2 (up2 (up2 (up2 (up2 (up2 (up2 (up2 d k 0 id) k 1 pa) k 2 ti) k 3 lo) k 4 hi) k 5 ev) k 6 lk) k 7 0) k 8 0
def wl_inr (d : Nat → Nat → Int32) (k : Nat) (v : Int32) : Bool := decide (d k 3 ≤ v) && decide (v ≤ d k 4)
theorem wl_le_of {a b : Int32} (h : ¬ b < a) : a ≤ b := by
  rw [Int32.le_iff_toInt_le]; rw [Int32.lt_iff_toInt_lt] at h; omega
theorem wl_nle_of {a b : Int32} (h : b < a) : ¬ a ≤ b := by
  rw [Int32.le_iff_toInt_le]; rw [Int32.lt_iff_toInt_lt] at h; omega
theorem wl_lt_of {a b : Int32} (h : ¬ b ≤ a) : a < b := by
  rw [Int32.lt_iff_toInt_lt]; rw [Int32.le_iff_toInt_le] at h; omega
theorem wl_nlt_of {a b : Int32} (h : b ≤ a) : ¬ a < b := by
  rw [Int32.lt_iff_toInt_lt]; rw [Int32.le_iff_toInt_le] at h; omega
theorem wl_inr_lt {d : Nat → Nat → Int32} {k : Nat} {v : Int32} (h : v < d k 3) : wl_inr d k v = false := by
  simp [wl_inr, wl_nle_of h]
theorem wl_inr_gt {d : Nat → Nat → Int32} {k : Nat} {v : Int32} (h : d k 4 < v) : wl_inr d k v = false := by
  simp [wl_inr, wl_nle_of h]
theorem wl_inr_t {d : Nat → Nat → Int32} {k : Nat} {v : Int32} (h1 : ¬ v < d k 3) (h2 : ¬ d k 4 < v) : wl_inr d k v = true := by
  simp [wl_inr, wl_le_of h1, wl_le_of h2]
def wl_ltell (d : Nat → Nat → Int32) (k : Nat) (w : Int32) : Int32 := if w = 0 then d k 7 else if w = 1 then d k 8 else if w = 2 then d k 1 else if w = 3 then d k 2 else if w = 4 then d k 5 else if w = 5 then d k 6 else -1
def wl_etell (d : Nat → Nat → Int32) (k : Nat) (w : Int32) : Int32 := if w = 0 then d k 0 else if w = 1 then d k 2 else if w = 2 then d k 3 else -1
def wl_cnt (d : Nat → Nat → Int32) (w : Int32) : Int32 := if w = 0 then d 0 2 else if w = 1 then d 0 3 else if w = 2 then d 4 3 else if w = 3 then d 0 7 else if w = 4 then d 0 8 else -1
theorem wl_out (n : Nat) {w : Int32} (h : w.toInt < 0 ∨ (n : Int) < w.toInt) : ∀ j, j ≤ n → n < 100 → w ≠ nI j := by
  intro j hj hn e
  rw [e, nI_toInt (by omega)] at h
  omega
theorem wl_ltell_o {d : Nat → Nat → Int32} {k : Nat} {w : Int32} (h : w.toInt < 0 ∨ 5 < w.toInt) : wl_ltell d k w = -1 := by
  have a := wl_out 5 h
  unfold wl_ltell
  rw [if_neg (show ¬ w = 0 from a 0 (by omega) (by omega)), if_neg (show ¬ w = 1 from a 1 (by omega) (by omega)), if_neg (show ¬ w = 2 from a 2 (by omega) (by omega)), if_neg (show ¬ w = 3 from a 3 (by omega) (by omega)), if_neg (show ¬ w = 4 from a 4 (by omega) (by omega)), if_neg (show ¬ w = 5 from a 5 (by omega) (by omega))]
theorem wl_etell_o {d : Nat → Nat → Int32} {k : Nat} {w : Int32} (h : w.toInt < 0 ∨ 2 < w.toInt) : wl_etell d k w = -1 := by
  have a := wl_out 2 h
  unfold wl_etell
  rw [if_neg (show ¬ w = 0 from a 0 (by omega) (by omega)), if_neg (show ¬ w = 1 from a 1 (by omega) (by omega)), if_neg (show ¬ w = 2 from a 2 (by omega) (by omega))]
theorem wl_cnt_o {d : Nat → Nat → Int32} {w : Int32} (h : w.toInt < 0 ∨ 4 < w.toInt) : wl_cnt d w = -1 := by
  have a := wl_out 4 h
  unfold wl_cnt
  rw [if_neg (show ¬ w = 0 from a 0 (by omega) (by omega)), if_neg (show ¬ w = 1 from a 1 (by omega) (by omega)), if_neg (show ¬ w = 2 from a 2 (by omega) (by omega)), if_neg (show ¬ w = 3 from a 3 (by omega) (by omega)), if_neg (show ¬ w = 4 from a 4 (by omega) (by omega))]
theorem wl_pos_f {x : Int32} (h : x ≤ 0) : decide (0 < x) = false := decide_eq_false (wl_nlt_of h)
theorem wl_pos_t {x : Int32} (h : ¬ x ≤ 0) : decide (0 < x) = true := decide_eq_true (wl_lt_of h)
theorem wl_in_sz {k : Int32} {z n : Nat} (h1 : ¬ k < 0) (h2 : ¬ nI z ≤ k) (hz : z ≤ n) (hn : n < 2 ^ 31) : vp_in k n := by
  obtain ⟨j, hj, rfl⟩ := nI_of h1
  have : ¬ z ≤ j := fun q => h2 (nI_le q hj)
  exact vp_in_nI (by omega) hn
theorem wl_ring {a b : Int32} {f q : Nat} (h1 : a = nI f) (h2 : b = nI q) (hf : f < 1000) (hq : q < 1000) : a + b - (a + b) / 64 * 64 = nI ((f + q) % 64) := by
  rw [h1, h2, nI_add]
  exact pk_rem (d := 64) (by omega) (by omega) (by omega)
theorem wl_ring1 {a : Int32} {f : Nat} (h1 : a = nI f) (hf : f < 1000) : a + 1 - (a + 1) / 64 * 64 = nI ((f + 1) % 64) := by
  rw [h1, nI_1]
  exact pk_rem (d := 64) (by omega) (by omega) (by omega)
def wl_app (d : Nat → Nat → Int32) (f q : Nat) (ev nu : Int32) : Nat → Nat → Int32 := up2 (up2 (up2 d 6 ((f + q) % 64) ev) 7 ((f + q) % 64) nu) 4 3 (nI (q + 1))
/-- an event is raised -/
def wl_wol (d : Nat → Nat → Int32) (f q : Nat) (ev nu : Int32) : Nat → Nat → Int32 := if 64 ≤ q then up2 d 0 7 (d 0 7 + 1) else wl_app d f q ev nu
theorem wl_ok32c {k : Int32} (h : wl_ok k 32 = true) : vp_in k 32 ∧ k.toNatClampNeg < 32 := by
  obtain ⟨j, hj, rfl⟩ := wl_ok32 h
  rw [nI_clamp (by omega)]
  exact ⟨vp_in_nI hj (by omega), hj⟩
theorem wl_lt64 {x : Int32} {q : Nat} (hq : x = nI q) (h : x < 64) (h6 : q ≤ 64) : q < 64 := (nI_ltI (b := 64) (by omega) (by omega)).mp (by rw [← hq]; exact h)
theorem wl_nlt64 {x : Int32} {q : Nat} (hq : x = nI q) (h : ¬ x < 64) (h6 : q ≤ 64) : ¬ q < 64 := fun z => h (by rw [hq]; exact (nI_ltI (b := 64) (by omega) (by omega)).mpr z)
/-- the places pl+1 .. n hold what pl .. n-1 held -/
def wl_sh (π : Nat → Nat) (n pl : Nat) : Nat → Nat := fun j => if pl < j ∧ j ≤ n then π (j - 1) else π j
theorem wl_sh_n (π : Nat → Nat) (n : Nat) : wl_sh π n n = π := by
  funext j
  unfold wl_sh
  rw [if_neg (by omega)]
theorem wl_sh_lo {π : Nat → Nat} {n pl j : Nat} (h : j ≤ pl) : wl_sh π n pl j = π j := by
  unfold wl_sh
  rw [if_neg (by omega)]
theorem wl_sh_step {π : Nat → Nat} {n pl : Nat} (h0 : 0 < pl) (h : pl ≤ n) : va_up (wl_sh π n pl) pl (π (pl - 1)) = wl_sh π n (pl - 1) := by
  funext j
  unfold va_up wl_sh
  by_cases e : j = pl
  · subst e
    rw [if_pos rfl, if_pos (by omega)]
  · rw [if_neg e]
    by_cases g : pl < j ∧ j ≤ n
    · rw [if_pos g, if_pos (by omega)]
    · rw [if_neg g, if_neg (by omega)]
/-- the places a .. i-1 hold what a+1 .. i held -/
def wl_sl (π : Nat → Nat) (a i : Nat) : Nat → Nat := fun j => if a ≤ j ∧ j < i then π (j + 1) else π j
theorem wl_sl_0 (π : Nat → Nat) (a : Nat) : wl_sl π a a = π := by
  funext j
  unfold wl_sl
  rw [if_neg (by omega)]
theorem wl_sl_hi {π : Nat → Nat} {a i j : Nat} (h : i ≤ j) : wl_sl π a i j = π j := by
  unfold wl_sl
  rw [if_neg (by omega)]
theorem wl_sl_step {π : Nat → Nat} {a i : Nat} (h : a ≤ i) : va_up (wl_sl π a i) i (π (i + 1)) = wl_sl π a (i + 1) := by
  funext j
  unfold va_up wl_sl
  by_cases e : j = i
  · subst e
    rw [if_pos rfl, if_pos (by omega)]
  · rw [if_neg e]
    by_cases g : a ≤ j ∧ j < i
    · rw [if_pos g, if_pos (by omega)]
    · rw [if_neg g, if_neg (by omega)]
def wl_bad (id pa ti lo hi ev : Int32) : Bool := !(wl_ok id 256 && wl_ok pa 32 && wl_ok ev 32 && decide (1 ≤ ti) && decide (ti ≤ 255) && decide (lo ≤ hi))
section WLB
variable {id pa ti lo hi ev : Int32}
theorem wl_bad1 (h : wl_ok id 256 = false) : wl_bad id pa ti lo hi ev = true := by simp [wl_bad, h]
theorem wl_bad2 (h : wl_ok pa 32 = false) : wl_bad id pa ti lo hi ev = true := by simp [wl_bad, h]
theorem wl_bad3 (h : wl_ok ev 32 = false) : wl_bad id pa ti lo hi ev = true := by simp [wl_bad, h]
theorem wl_bad4 (h : ti < 1) : wl_bad id pa ti lo hi ev = true := by simp [wl_bad, wl_nle_of h]
theorem wl_bad5 (h : 255 < ti) : wl_bad id pa ti lo hi ev = true := by simp [wl_bad, wl_nle_of h]
theorem wl_bad6 (h : ¬ lo ≤ hi) : wl_bad id pa ti lo hi ev = true := by simp [wl_bad, h]
theorem wl_good (h1 : wl_ok id 256 = true) (h2 : wl_ok pa 32 = true) (h3 : wl_ok ev 32 = true) (h4 : ¬ ti < 1) (h5 : ¬ 255 < ti) (h6 : lo ≤ hi) : wl_bad id pa ti lo hi ev = false := by
  simp [wl_bad, h1, h2, h3, wl_le_of h4, wl_le_of h5, h6]
end WLB
theorem wl_nm1 {i : Nat} (h : i < 2 ^ 31) (e : nI i = -1) : False := by
  have := congrArg Int32.toInt e
  rw [nI_toInt h] at this
  have h1 : (-1 : Int32).toInt = -1 := by decide
  omega
theorem wl_cmpn {x : Int32} {q : Nat} (m : Nat) (hm : m < 2 ^ 31) (hq : x = nI q) (h6 : q < 2 ^ 31) : x < nI m ↔ q < m := by rw [hq]; exact nI_ltI h6 hm
theorem wl_lt16 {x : Int32} {n : Nat} (hn : x = nI n) (h : x < 16) (h6 : n ≤ 16) : n < 16 := (wl_cmpn 16 (by omega) hn (by omega)).mp h
theorem wl_ge16 {x : Int32} {n : Nat} (hn : x = nI n) (h : ¬ x < 16) (h6 : n ≤ 16) : n = 16 := by
  have : ¬ n < 16 := fun z => h ((wl_cmpn 16 (by omega) hn (by omega)).mpr z)
  omega
theorem wl_lt256 {x : Int32} {n : Nat} (hn : x = nI n) (h : x < 256) (h6 : n ≤ 256) : n < 256 := (wl_cmpn 256 (by omega) hn (by omega)).mp h
theorem wl_ge256 {x : Int32} {n : Nat} (hn : x = nI n) (h : ¬ x < 256) (h6 : n ≤ 256) : n = 256 := by
  have : ¬ n < 256 := fun z => h ((wl_cmpn 256 (by omega) hn (by omega)).mpr z)
  omega
theorem wl_eq0 {x : Int32} {n : Nat} (hn : x = nI n) (h6 : n < 2 ^ 31) : x = 0 ↔ n = 0 := by rw [hn]; exact nI_eq (b := 0) h6 (by omega)
theorem wl_q0 {x : Int32} {q : Nat} (hq : x = nI q) (h : ¬ x = 0) (h6 : q ≤ 64) : 0 < q := Nat.pos_of_ne_zero (fun z => h ((wl_eq0 hq (by omega)).mpr z))
theorem wl_q1 {x : Int32} {q : Nat} (hq : x = nI q) (h : x = 0) (h6 : q ≤ 64) : q = 0 := (wl_eq0 hq (by omega)).mp h
theorem wl_ts0 {x : Int32} {q : Nat} (hq : x = nI q) (h : ¬ x = 0) (h6 : q ≤ 256) : 0 < q := Nat.pos_of_ne_zero (fun z => h ((wl_eq0 hq (by omega)).mpr z))
theorem wl_ts1 {x : Int32} {q : Nat} (hq : x = nI q) (h : x = 0) (h6 : q ≤ 256) : q = 0 := (wl_eq0 hq (by omega)).mp h
theorem wl_pm1 {q : Nat} (h : 0 < q) : nI q - 1 = nI (q - 1) := by rw [show q = (q - 1) + 1 by omega, nI_pred, Nat.add_sub_cancel]
theorem wl_af {b : Bool} {x : Int32} (h : (if b = true then (if 0 < x then 0 else 30) else 16 : Int32) = 0) : b = true ∧ 0 < x := by
  cases b with
  | false =>
    rw [if_neg (by decide)] at h
    exact absurd h (by decide)
  | true =>
    refine ⟨rfl, ?_⟩
    by_cases g : 0 < x
    · exact g
    · rw [if_pos rfl, if_neg g] at h
      exact absurd h (by decide)
theorem wl_afn {b : Bool} {x : Int32} (h : ¬ (if b = true then (if 0 < x then 0 else 30) else 16 : Int32) = 0) : (b = false ∧ (if b = true then (if 0 < x then 0 else 30) else 16 : Int32) = 16) ∨ (b = true ∧ ¬ 0 < x ∧ (if b = true then (if 0 < x then 0 else 30) else 16 : Int32) = 30) := by
  cases b with
  | false => exact Or.inl ⟨rfl, rfl⟩
  | true =>
    by_cases g : 0 < x
    · rw [if_pos rfl, if_pos g] at h
      exact absurd rfl h
    · exact Or.inr ⟨rfl, g, by rw [if_pos rfl, if_neg g]⟩
/-! watching -/
def wl_brk (d : Nat → Nat → Int32) (k : Nat) (v : Int32) : Int32 := if wl_inr d k v = true then 0 else wl_i (decide (d k 8 + 1 = d k 2))
def wl_bd (d : Nat → Nat → Int32) (k : Nat) (v : Int32) : Nat → Nat → Int32 := up2 d k 8 (if wl_inr d k v = true then 0 else d k 8 + 1)
def wl_or (a b : Int32) : Int32 := if a = 0 then (if b = 0 then 0 else 1) else 1
def wl_wolD (d : Nat → Nat → Int32) (ev nu : Int32) : Nat → Nat → Int32 := wl_wol d (d 4 2).toNatClampNeg (d 4 3).toNatClampNeg ev nu
def wl_bl (d : Nat → Nat → Int32) (k : Nat) (v : Int32) : Nat → Nat → Int32 := up2 (wl_bd d k v) 0 4 (wl_or (wl_bd d k v 0 4) (wl_bd d k v k 6))
def wl_val (d : Nat → Nat → Int32) (k : Nat) : Int32 := d 1 (d k 1).toNatClampNeg
def wl_step (π : Nat → Nat) (i : Nat) (d : Nat → Nat → Int32) (b : Int32) : (Nat → Nat → Int32) × Int32 :=
  if d (8 + π i) 7 = 0 then (d, b) else if wl_brk d (8 + π i) (wl_val d (8 + π i)) = 0 then (wl_bd d (8 + π i) (wl_val d (8 + π i)), b)
  else (wl_wolD (wl_bl d (8 + π i) (wl_val d (8 + π i))) (wl_bl d (8 + π i) (wl_val d (8 + π i)) (8 + π i) 5) (wl_val d (8 + π i)), b + 1)
def wl_w (π : Nat → Nat) (d : Nat → Nat → Int32) : Nat → (Nat → Nat → Int32) × Int32
  | 0 => (up2 d 0 4 0, 0)
  | i + 1 => wl_step π i (wl_w π d i).1 (wl_w π d i).2
theorem wl_w0 {π : Nat → Nat} {d : Nat → Nat → Int32} : wl_w π d 0 = (up2 d 0 4 0, 0) := rfl
theorem wl_ws_ {π : Nat → Nat} {d : Nat → Nat → Int32} {i : Nat} : wl_w π d (i + 1) = wl_step π i (wl_w π d i).1 (wl_w π d i).2 := rfl
theorem wl_step0 {π : Nat → Nat} {i : Nat} {d : Nat → Nat → Int32} {b : Int32} (h : d (8 + π i) 7 = 0) : wl_step π i d b = (d, b) := by
  unfold wl_step; rw [if_pos h]
theorem wl_step1 {π : Nat → Nat} {i : Nat} {d : Nat → Nat → Int32} {b : Int32} (h : ¬ d (8 + π i) 7 = 0) (h2 : wl_brk d (8 + π i) (wl_val d (8 + π i)) = 0) : wl_step π i d b = (wl_bd d (8 + π i) (wl_val d (8 + π i)), b) := by
  unfold wl_step; rw [if_neg h, if_pos h2]
theorem wl_step2 {π : Nat → Nat} {i : Nat} {d : Nat → Nat → Int32} {b : Int32} (h : ¬ d (8 + π i) 7 = 0) (h2 : ¬ wl_brk d (8 + π i) (wl_val d (8 + π i)) = 0) : wl_step π i d b = (wl_wolD (wl_bl d (8 + π i) (wl_val d (8 + π i))) (wl_bl d (8 + π i) (wl_val d (8 + π i)) (8 + π i) 5) (wl_val d (8 + π i)), b + 1) := by
  unfold wl_step; rw [if_neg h, if_neg h2]
theorem wl_wolD_eq {d : Nat → Nat → Int32} {f q : Nat} {ev nu : Int32} (hf : d 4 2 = nI f) (hq : d 4 3 = nI q) (h1 : f < 2 ^ 31) (h2 : q < 2 ^ 31) : wl_wolD d ev nu = wl_wol d f q ev nu := by
  unfold wl_wolD
  rw [hf, hq, nI_clamp h1, nI_clamp h2]
theorem wl_bd_k {d : Nat → Nat → Int32} {k k' j : Nat} {v : Int32} (h : k' ≠ k) : wl_bd d k v k' j = d k' j := up2_k h
theorem wl_bd_j {d : Nat → Nat → Int32} {k j : Nat} {v : Int32} (h : j ≠ 8) : wl_bd d k v k j = d k j := up2_j h
theorem wl_bl_k {d : Nat → Nat → Int32} {k k' j : Nat} {v : Int32} (h : k' ≠ k) (h0 : k' ≠ 0) : wl_bl d k v k' j = d k' j := by
  unfold wl_bl
  rw [up2_k h0, wl_bd_k h]
theorem wl_bl_j {d : Nat → Nat → Int32} {k j : Nat} {v : Int32} (h : j ≠ 8) (h0 : k ≠ 0) : wl_bl d k v k j = d k j := by
  unfold wl_bl
  rw [up2_k h0, wl_bd_j h]
/-- what the raising of an event leaves as it was -/
theorem wl_wol_k {d : Nat → Nat → Int32} {f q : Nat} {ev nu : Int32} {k j : Nat} (h : (k ≠ 0 ∨ j ≠ 7) ∧ k ≠ 6 ∧ k ≠ 7 ∧ (k ≠ 4 ∨ j ≠ 3)) : wl_wol d f q ev nu k j = d k j := by
  unfold wl_wol wl_app
  split
  · rw [up2_at, if_neg (by omega)]
  · rw [up2_at, if_neg (by omega), up2_k (by omega), up2_k (by omega)]
theorem wl_wol_q {d : Nat → Nat → Int32} {f q : Nat} {ev nu : Int32} (hq : d 4 3 = nI q) (h6 : q ≤ 64) : ∃ q', q' ≤ 64 ∧ wl_wol d f q ev nu 4 3 = nI q' := by
  unfold wl_wol wl_app
  split
  · exact ⟨q, h6, by rw [up2_k (by decide)]; exact hq⟩
  · exact ⟨q + 1, by omega, up2_s⟩
/-- what watching keeps, and what it needs -/
def wl_wI (d0 d : Nat → Nat → Int32) (f : Nat) : Prop := d 0 2 = d0 0 2 ∧ (∀ j, d 1 j = d0 1 j) ∧ (∀ k j, 8 ≤ k → j ≠ 8 → d k j = d0 k j) ∧ d 4 2 = nI f ∧ ∃ q, q ≤ 64 ∧ d 4 3 = nI q
theorem wl_step_I {π : Nat → Nat} {i f : Nat} {d0 d : Nat → Nat → Int32} {b : Int32} (hf : f < 64) (h : wl_wI d0 d f) : wl_wI d0 (wl_step π i d b).1 f := by
  obtain ⟨h1, h2, h3, h4, q, h5, h6⟩ := h
  unfold wl_step
  have e3 : ∀ (v : Int32) k j, 8 ≤ k → j ≠ 8 → wl_bd d (8 + π i) v k j = d k j := by
    intro v k j hk hj
    by_cases e : k = 8 + π i
    · rw [e, wl_bd_j hj]
    · rw [wl_bd_k e]
  split
  · exact ⟨h1, h2, h3, h4, q, h5, h6⟩
  · split
    · dsimp only
      refine ⟨by rw [wl_bd_k (by omega)]; exact h1, fun j => by rw [wl_bd_k (by omega)]; exact h2 j, fun k j hk hj => by rw [e3 _ k j hk hj]; exact h3 k j hk hj, by rw [wl_bd_k (by omega)]; exact h4, q, h5, by rw [wl_bd_k (by omega)]; exact h6⟩
    · have g4 : wl_bl d (8 + π i) (wl_val d (8 + π i)) 4 2 = nI f := by rw [wl_bl_k (by omega) (by omega)]; exact h4
      have g6 : wl_bl d (8 + π i) (wl_val d (8 + π i)) 4 3 = nI q := by rw [wl_bl_k (by omega) (by omega)]; exact h6
      dsimp only
      rw [wl_wolD_eq g4 g6 (by omega) (by omega)]
      refine ⟨?_, fun j => ?_, fun k j hk hj => ?_, ?_, wl_wol_q g6 h5⟩
      · rw [wl_wol_k (by omega)]; unfold wl_bl; rw [up2_j (by decide), wl_bd_k (by omega)]; exact h1
      · rw [wl_wol_k (by omega), wl_bl_k (by omega) (by omega)]; exact h2 j
      · rw [wl_wol_k (by omega)]; unfold wl_bl; rw [up2_k (by omega), e3 _ k j hk hj]; exact h3 k j hk hj
      · rw [wl_wol_k (by omega)]; exact g4
theorem wl_w_I {π : Nat → Nat} {f q : Nat} {d : Nat → Nat → Int32} (hf : d 4 2 = nI f) (hq : d 4 3 = nI q) (hf6 : f < 64) (hq6 : q ≤ 64) (i : Nat) : wl_wI d (wl_w π d i).1 f := by
  induction i with
  | zero =>
    rw [wl_w0]
    dsimp only
    exact ⟨by rw [up2_j (by decide)], fun j => by rw [up2_k (by decide)], fun k j hk hj => by rw [up2_k (by omega)], by rw [up2_k (by decide)]; exact hf, q, hq6, by rw [up2_k (by decide)]; exact hq⟩
  | succ i ih => exact wl_step_I hf6 ih

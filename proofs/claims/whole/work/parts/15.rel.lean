/-! PART 15: what ties the class's state (d, π) to the reference's state e -/
def rlF (d e : Nat → Nat → Int32) (k j : Nat) : Prop := d k 7 = e 3 j ∧ d k 6 = e 4 j ∧ d k 1 = e 5 j ∧ d k 2 = e 6 j ∧ d k 3 = e 7 j ∧ d k 4 = e 8 j ∧ d k 5 = e 9 j ∧ d k 8 = e 10 j ∧ ¬ e 6 j = 0
def rlL (d e : Nat → Nat → Int32) (π : Nat → Nat) (n : Nat) (a : Nat → Nat) : Prop :=
  n ≤ 16 ∧ d 0 2 = nI n ∧ (∀ i, i < 16 → π i < 16) ∧ (∀ i j, i < 16 → j < 16 → π i = π j → i = j) ∧
  (∀ i, i < n → a i < 256 ∧ d (8 + π i) 0 = nI (a i)) ∧ (∀ i j, i < j → j < n → a i < a j) ∧
  (∀ j, j < 256 → (¬ e 2 j = 0 ↔ ∃ i, i < n ∧ a i = j)) ∧ (∀ i, i < n → rlF d e (8 + π i) (a i)) ∧ rf_cnt (e 2) 256 = n
def rlB (d e : Nat → Nat → Int32) : Prop := (∀ j, j < 256 → ∃ m, m < 32 ∧ e 5 j = nI m) ∧ (∀ k j, 2 ≤ k → k ≤ 4 → j < 256 → e k j = 0 ∨ e k j = 1) ∧ (∀ j, j < 16 → d (8 + j) 7 = 0 ∨ d (8 + j) 7 = 1) ∧ (∀ j, j < 16 → d (8 + j) 6 = 0 ∨ d (8 + j) 6 = 1)
def rlP (d e : Nat → Nat → Int32) : Prop := ∀ j, j < 32 → d 1 j = e 1 j
def rlC (d e : Nat → Nat → Int32) : Prop := d 0 3 = e 0 11 ∧ d 0 4 = e 0 12 ∧ (d 0 4 = 0 ∨ d 0 4 = 1) ∧ d 0 7 = e 0 16 ∧ d 0 8 = e 0 17
def rlQ (d e : Nat → Nat → Int32) (f q : Nat) : Prop := d 4 2 = nI f ∧ f < 64 ∧ d 4 3 = nI q ∧ q ≤ 64 ∧ e 0 13 = nI q ∧ ∀ j, j < q → d 6 ((f + j) % 64) = e 11 j ∧ d 7 ((f + j) % 64) = e 12 j
def rlE (d e : Nat → Nat → Int32) : Prop := ∀ j, j < 32 → d (24 + j) 0 = (if e 13 j = 0 then 1 else 0) ∧ (∃ z, z ≤ 256 ∧ d (24 + j) 2 = nI z ∧ e 14 j = nI z ∧ ∀ k, k < z → d (56 + j) k = e 16 (256 * j + k)) ∧ d (24 + j) 3 = e 15 j ∧ (e 15 j = 0 ∨ e 15 j = 1) ∧ (e 14 j = 0 → e 15 j = 0)
def rlT (d e : Nat → Nat → Int32) (ts : Nat) : Prop := d 0 10 = nI ts ∧ e 0 22 = nI ts ∧ ts ≤ 256 ∧ (∀ j, j < 256 → (d 5 j).toInt8.toInt32 = d 5 j) ∧ (∀ j, j < 256 → (e 17 j).toInt8.toInt32 = e 17 j) ∧ ∀ j, j < ts → d 5 j = e 17 j
def rl (d : Nat → Nat → Int32) (π : Nat → Nat) (e : Nat → Nat → Int32) : Prop := ∃ (n f q ts : Nat) (a : Nat → Nat), rlL d e π n a ∧ rlB d e ∧ rlP d e ∧ rlC d e ∧ rlQ d e f q ∧ rlE d e ∧ rlT d e ts
section RL
variable {d d' e e' : Nat → Nat → Int32} {π : Nat → Nat} {n f q ts : Nat} {a : Nat → Nat}
theorem rlF_c {k j : Nat} (hd : ∀ x, d' k x = d k x) (he : ∀ x, 3 ≤ x → x ≤ 10 → e' x j = e x j) (h : rlF d e k j) : rlF d' e' k j := by
  unfold rlF at h ⊢
  rw [hd, hd, hd, hd, hd, hd, hd, hd, he 3 (by omega) (by omega), he 4 (by omega) (by omega), he 5 (by omega) (by omega), he 6 (by omega) (by omega), he 7 (by omega) (by omega), he 8 (by omega) (by omega), he 9 (by omega) (by omega), he 10 (by omega) (by omega)]
  exact h
theorem rlL_c (h0 : d' 0 2 = d 0 2) (hd : ∀ k j, 8 ≤ k → k < 24 → d' k j = d k j) (he : ∀ k j, 2 ≤ k → k ≤ 10 → e' k j = e k j) (h : rlL d e π n a) : rlL d' e' π n a := by
  obtain ⟨h1, h2, h3, h4, h5, h6, h7, h8, h9⟩ := h
  have e2 : e' 2 = e 2 := funext (fun j => he 2 j (by omega) (by omega))
  refine ⟨h1, by rw [h0]; exact h2, h3, h4, fun i hi => ⟨(h5 i hi).1, ?_⟩, h6, fun j hj => by rw [e2]; exact h7 j hj, fun i hi => rlF_c (fun x => ?_) (fun x x1 x2 => he x _ (by omega) x2) (h8 i hi), by rw [e2]; exact h9⟩
  · have := h3 i (by omega)
    rw [hd _ _ (by omega) (by omega)]; exact (h5 i hi).2
  · have := h3 i (by omega)
    exact hd _ _ (by omega) (by omega)
theorem rlB_c (hd : ∀ k j, 8 ≤ k → k < 24 → d' k j = d k j) (he : ∀ k j, 2 ≤ k → k ≤ 5 → e' k j = e k j) (h : rlB d e) : rlB d' e' := by
  obtain ⟨h1, h2, h3, h4⟩ := h
  refine ⟨fun j hj => by rw [he 5 j (by omega) (by omega)]; exact h1 j hj, fun k j k1 k2 hj => by rw [he k j k1 (by omega)]; exact h2 k j k1 k2 hj, fun j hj => by rw [hd _ _ (by omega) (by omega)]; exact h3 j hj, fun j hj => by rw [hd _ _ (by omega) (by omega)]; exact h4 j hj⟩
theorem rlP_c (hd : ∀ j, d' 1 j = d 1 j) (he : ∀ j, e' 1 j = e 1 j) (h : rlP d e) : rlP d' e' := fun j hj => by rw [hd, he]; exact h j hj
theorem rlC_c (hd : ∀ j, j = 3 ∨ j = 4 ∨ j = 7 ∨ j = 8 → d' 0 j = d 0 j) (he : ∀ j, j = 11 ∨ j = 12 ∨ j = 16 ∨ j = 17 → e' 0 j = e 0 j) (h : rlC d e) : rlC d' e' := by
  unfold rlC at h ⊢
  rw [hd 3 (by omega), hd 4 (by omega), hd 7 (by omega), hd 8 (by omega), he 11 (by omega), he 12 (by omega), he 16 (by omega), he 17 (by omega)]
  exact h
theorem rlQ_c (hd : ∀ k j, k = 4 ∨ k = 6 ∨ k = 7 → d' k j = d k j) (h0 : e' 0 13 = e 0 13) (he : ∀ k j, k = 11 ∨ k = 12 → e' k j = e k j) (h : rlQ d e f q) : rlQ d' e' f q := by
  obtain ⟨h1, h2, h3, h4, h5, h6⟩ := h
  refine ⟨by rw [hd 4 2 (by omega)]; exact h1, h2, by rw [hd 4 3 (by omega)]; exact h3, h4, by rw [h0]; exact h5, fun j hj => ?_⟩
  rw [hd 6 _ (by omega), hd 7 _ (by omega), he 11 _ (by omega), he 12 _ (by omega)]
  exact h6 j hj
theorem rlE_c (hd : ∀ k j, 24 ≤ k → d' k j = d k j) (he : ∀ k j, 13 ≤ k → k ≤ 16 → e' k j = e k j) (h : rlE d e) : rlE d' e' := by
  intro j hj
  obtain ⟨h1, ⟨z, h2, h3, h4, h5⟩, h6, h7, h8⟩ := h j hj
  rw [hd _ _ (by omega), hd _ _ (by omega), hd _ _ (by omega), he 13 _ (by omega) (by omega), he 14 _ (by omega) (by omega), he 15 _ (by omega) (by omega)]
  exact ⟨h1, ⟨z, h2, h3, h4, fun k hk => by rw [hd _ _ (by omega), he 16 _ (by omega) (by omega)]; exact h5 k hk⟩, h6, h7, h8⟩
theorem rlT_c (h0 : d' 0 10 = d 0 10) (hd : ∀ j, d' 5 j = d 5 j) (h1 : e' 0 22 = e 0 22) (he : ∀ j, e' 17 j = e 17 j) (h : rlT d e ts) : rlT d' e' ts := by
  obtain ⟨g1, g2, g3, g4, g5, g6⟩ := h
  exact ⟨by rw [h0]; exact g1, by rw [h1]; exact g2, g3, fun j hj => by rw [hd]; exact g4 j hj, fun j hj => by rw [he]; exact g5 j hj, fun j hj => by rw [hd, he]; exact g6 j hj⟩
/-- 'thrown' means nothing -/
theorem rl_T (h : rl d π e) : rl d π (rf_T e) := by
  obtain ⟨n, f, q, ts, a, hL, hB, hP, hC, hQ, hE, hT⟩ := h
  exact ⟨n, f, q, ts, a, rlL_c rfl (fun _ _ _ _ => rfl) (fun k j k1 k2 => rf_T_k (by omega)) hL, rlB_c (fun _ _ _ _ => rfl) (fun k j k1 k2 => rf_T_k (by omega)) hB, rlP_c (fun _ => rfl) (fun j => rf_T_k (by omega)) hP, rlC_c (fun _ _ => rfl) (fun j hj => rf_T_j (by omega)) hC, rlQ_c (fun _ _ _ => rfl) (rf_T_j (by omega)) (fun k j hk => rf_T_k (by omega)) hQ, rlE_c (fun _ _ _ => rfl) (fun k j k1 k2 => rf_T_k (by omega)) hE, rlT_c rfl (fun _ => rfl) (rf_T_j (by omega)) (fun j => rf_T_k (by omega)) hT⟩
end RL
/-! the answers, and the states behind a call: calls that touch no limit -/
section OP
variable {d e : Nat → Nat → Int32} {π π' : Nat → Nat} {r1 r2 : Int32} {u1 u2 : (Nat → Nat → Int32) × (Nat → Nat)}
theorem op_set {k v : Int32} (h : rl d π e) (h1 : r1 = wl_i (wl_ok k 32) ∧ u1 = (if wl_ok k 32 = true then up2 d 1 k.toNatClampNeg v else d, π)) (h2 : r2 = wl_i (wl_ok k 32) ∧ u2 = (if wl_ok k 32 = true then up2 e 1 k.toNatClampNeg v else e, π')) : r1 = r2 ∧ rl u1.1 u1.2 u2.1 := by
  obtain ⟨rfl, rfl⟩ := h1
  obtain ⟨rfl, rfl⟩ := h2
  refine ⟨rfl, ?_⟩
  dsimp only
  split
  · obtain ⟨n, f, q, ts, a, hL, hB, hP, hC, hQ, hE, hT⟩ := h
    refine ⟨n, f, q, ts, a, rlL_c (up2_k (by omega)) (fun k j k1 k2 => up2_k (by omega)) (fun k j k1 k2 => up2_k (by omega)) hL, rlB_c (fun k j k1 k2 => up2_k (by omega)) (fun k j k1 k2 => up2_k (by omega)) hB, fun j hj => ?_, rlC_c (fun j hj => up2_k (by omega)) (fun j hj => up2_k (by omega)) hC, rlQ_c (fun k j hk => up2_k (by omega)) (up2_k (by omega)) (fun k j hk => up2_k (by omega)) hQ, rlE_c (fun k j k1 => up2_k (by omega)) (fun k j k1 k2 => up2_k (by omega)) hE, rlT_c (up2_k (by omega)) (fun j => up2_k (by omega)) (up2_k (by omega)) (fun j => up2_k (by omega)) hT⟩
    rw [up2_at, up2_at]
    split
    · rfl
    · exact hP j hj
  · exact h
theorem op_linked (h : rl d π e) (h1 : r1 = d 0 4 ∧ u1 = (d, π)) (h2 : r2 = e 0 12 ∧ u2 = (e, π')) : r1 = r2 ∧ rl u1.1 u1.2 u2.1 := by
  obtain ⟨rfl, rfl⟩ := h1
  obtain ⟨rfl, rfl⟩ := h2
  refine ⟨?_, h⟩
  obtain ⟨n, f, q, ts, a, hL, hB, hP, hC, hQ, hE, hT⟩ := h
  exact hC.2.1
/-- raising an event on both sides -/
theorem rl_raise {f q : Nat} {ev nu : Int32} (hQ : rlQ d e f q) : ∃ q', rlQ (wl_wol d f q ev nu) (rf_wt e q ev nu) f q' := by
  obtain ⟨h1, h2, h3, h4, h5, h6⟩ := hQ
  unfold wl_wol rf_wt
  by_cases hq : q < 64
  · rw [if_neg (by omega), if_pos hq]
    unfold wl_app
    refine ⟨q + 1, ?_, h2, up2_s, by omega, up2_s, fun j hj => ?_⟩
    · rw [up2_j (by decide), up2_k (by decide), up2_k (by decide)]; exact h1
    · have A6 : ∀ x, up2 (up2 (up2 d 6 ((f + q) % 64) ev) 7 ((f + q) % 64) nu) 4 3 (nI (q + 1)) 6 x = if x = (f + q) % 64 then ev else d 6 x := fun x => by
        rw [up2_k (show 6 ≠ 4 by decide), up2_k (show 6 ≠ 7 by decide), up2_same]; rfl
      have A7 : ∀ x, up2 (up2 (up2 d 6 ((f + q) % 64) ev) 7 ((f + q) % 64) nu) 4 3 (nI (q + 1)) 7 x = if x = (f + q) % 64 then nu else d 7 x := fun x => by
        rw [up2_k (show 7 ≠ 4 by decide), up2_same, up2_ne (show 7 ≠ 6 by decide)]; rfl
      have A1 : ∀ x, up2 (up2 (up2 e 11 q ev) 12 q nu) 0 13 (nI (q + 1)) 11 x = if x = q then ev else e 11 x := fun x => by
        rw [up2_k (show 11 ≠ 0 by decide), up2_k (show 11 ≠ 12 by decide), up2_same]; rfl
      have A2 : ∀ x, up2 (up2 (up2 e 11 q ev) 12 q nu) 0 13 (nI (q + 1)) 12 x = if x = q then nu else e 12 x := fun x => by
        rw [up2_k (show 12 ≠ 0 by decide), up2_same, up2_ne (show 12 ≠ 11 by decide)]; rfl
      rw [A6, A7, A1, A2]
      by_cases e9 : j = q
      · subst e9
        rw [if_pos rfl, if_pos rfl, if_pos rfl, if_pos rfl]
        exact ⟨rfl, rfl⟩
      · have e8 : ¬ (f + j) % 64 = (f + q) % 64 := by omega
        rw [if_neg e8, if_neg e8, if_neg e9, if_neg e9]
        exact h6 j (by omega)
  · rw [if_pos (by omega), if_neg hq]
    exact ⟨q, rlQ_c (fun k j hk => up2_k (by omega)) (up2_j (by decide)) (fun k j hk => up2_k (by omega)) ⟨h1, h2, h3, h4, h5, h6⟩⟩
theorem rl_raiseC {f q : Nat} {ev nu : Int32} (hC : rlC d e) : rlC (wl_wol d f q ev nu) (rf_wt e q ev nu) := by
  obtain ⟨h1, h2, h3, h4, h5⟩ := hC
  unfold wl_wol rf_wt
  by_cases hq : q < 64
  · rw [if_neg (by omega), if_pos hq]
    unfold wl_app
    exact rlC_c (fun j hj => by rw [up2_k (by decide), up2_k (by decide), up2_k (by decide)]) (fun j hj => by rw [up2_j (by omega), up2_k (by decide), up2_k (by decide)]) ⟨h1, h2, h3, h4, h5⟩
  · rw [if_pos (by omega), if_neg hq]
    refine ⟨by rw [up2_j (by decide), up2_j (by decide)]; exact h1, by rw [up2_j (by decide), up2_j (by decide)]; exact h2, by rw [up2_j (by decide)]; exact h3, by rw [up2_s, up2_s, h4], by rw [up2_j (by decide), up2_j (by decide)]; exact h5⟩
theorem op_raise {f q : Nat} {ev nu : Int32} (h : rl d π e) (hq1 : d 4 2 = nI f) (hf : f < 64) (hq2 : d 4 3 = nI q) (hq6 : q ≤ 64) (h1 : (wl_ok ev 32 = true → r1 = wl_i (decide (q < 64)) ∧ u1 = (wl_wol d f q ev nu, π)) ∧ (wl_ok ev 32 = false → r1 = 0 ∧ u1 = (d, π))) (h2 : (wl_ok ev 32 = true → r2 = wl_i (decide (q < 64)) ∧ u2 = (rf_wt e q ev nu, π')) ∧ (wl_ok ev 32 = false → r2 = 0 ∧ u2 = (e, π'))) : r1 = r2 ∧ rl u1.1 u1.2 u2.1 := by
  cases ok : wl_ok ev 32 with
  | false =>
    obtain ⟨rfl, rfl⟩ := h1.2 ok
    obtain ⟨rfl, rfl⟩ := h2.2 ok
    exact ⟨rfl, h⟩
  | true =>
    obtain ⟨rfl, rfl⟩ := h1.1 ok
    obtain ⟨rfl, rfl⟩ := h2.1 ok
    refine ⟨rfl, ?_⟩
    obtain ⟨n, f', q', ts, a, hL, hB, hP, hC, hQ, hE, hT⟩ := h
    have ef : f' = f := (nI_eq (by have := hQ.2.1; omega) (by omega)).mp (hQ.1.symm.trans hq1)
    have eq : q' = q := (nI_eq (by have := hQ.2.2.2.1; omega) (by omega)).mp (hQ.2.2.1.symm.trans hq2)
    subst ef eq
    obtain ⟨q2, hQ2⟩ := rl_raise (ev := ev) (nu := nu) hQ
    exact ⟨n, f', q2, ts, a, rlL_c (wl_wol_k (by omega)) (fun k j k1 k2 => wl_wol_k (by omega)) (fun k j k1 k2 => rf_wt_k (by omega)) hL, rlB_c (fun k j k1 k2 => wl_wol_k (by omega)) (fun k j k1 k2 => rf_wt_k (by omega)) hB, rlP_c (fun j => wl_wol_k (by omega)) (fun j => rf_wt_k (by omega)) hP, rl_raiseC hC, hQ2, rlE_c (fun k j k1 => wl_wol_k (by omega)) (fun k j k1 k2 => rf_wt_k (by omega)) hE, rlT_c (wl_wol_k (by omega)) (fun j => wl_wol_k (by omega)) (rf_wt_k (by omega)) (fun j => rf_wt_k (by omega)) hT⟩
theorem op_work {f q : Nat} (h : rl d π e) (hq1 : d 4 2 = nI f) (hf : f < 64) (hq2 : d 4 3 = nI q) (hq6 : q ≤ 64) (h1 : (q = 0 ∧ r1 = -1 ∧ u1 = (d, π)) ∨ (0 < q ∧ r1 = d 6 f ∧ u1 = (up2 (up2 (up2 d 0 8 (d 7 f)) 4 2 (nI ((f + 1) % 64))) 4 3 (nI (q - 1)), π))) (h2 : (q = 0 ∧ r2 = -1 ∧ u2 = (e, π')) ∨ (0 < q ∧ r2 = e 11 0 ∧ u2 = (rf_sh (up2 (up2 e 0 17 (e 12 0)) 0 13 (nI (q - 1))) (q - 1), π'))) : r1 = r2 ∧ rl u1.1 u1.2 u2.1 := by
  rcases h1 with ⟨q0, rfl, rfl⟩ | ⟨q0, rfl, rfl⟩
  · rcases h2 with ⟨-, rfl, rfl⟩ | ⟨q1, -, -⟩
    · exact ⟨rfl, h⟩
    · omega
  · rcases h2 with ⟨q1, -, -⟩ | ⟨-, rfl, rfl⟩
    · omega
    · obtain ⟨n, f', q', ts, a, hL, hB, hP, hC, hQ, hE, hT⟩ := h
      have ef : f' = f := (nI_eq (by have := hQ.2.1; omega) (by omega)).mp (hQ.1.symm.trans hq1)
      have eq : q' = q := (nI_eq (by have := hQ.2.2.2.1; omega) (by omega)).mp (hQ.2.2.1.symm.trans hq2)
      subst ef eq
      have z0 := hQ.2.2.2.2.2 0 q0
      rw [Nat.add_zero, Nat.mod_eq_of_lt hf] at z0
      have er : ∀ k j, k ≠ 0 → k ≠ 11 → k ≠ 12 → rf_sh (up2 (up2 e 0 17 (e 12 0)) 0 13 (nI (q' - 1))) (q' - 1) k j = e k j := fun k j a1 a2 a3 => by rw [rf_sh_ne a2 a3, up2_k a1, up2_k a1]
      have e0 : ∀ j, j ≠ 17 → j ≠ 13 → rf_sh (up2 (up2 e 0 17 (e 12 0)) 0 13 (nI (q' - 1))) (q' - 1) 0 j = e 0 j := fun j a1 a2 => by rw [rf_sh_ne (by decide) (by decide), up2_j a2, up2_j a1]
      have dr : ∀ k j, k ≠ 0 → k ≠ 4 → up2 (up2 (up2 d 0 8 (d 7 f')) 4 2 (nI ((f' + 1) % 64))) 4 3 (nI (q' - 1)) k j = d k j := fun k j a1 a2 => by rw [up2_k a2, up2_k a2, up2_k a1]
      have d0 : ∀ j, j ≠ 8 → up2 (up2 (up2 d 0 8 (d 7 f')) 4 2 (nI ((f' + 1) % 64))) 4 3 (nI (q' - 1)) 0 j = d 0 j := fun j a1 => by rw [up2_k (by decide), up2_k (by decide), up2_j a1]
      dsimp only
      refine ⟨z0.1, n, (f' + 1) % 64, q' - 1, ts, a, rlL_c (d0 2 (by decide)) (fun k j k1 k2 => dr k j (by omega) (by omega)) (fun k j k1 k2 => er k j (by omega) (by omega) (by omega)) hL, rlB_c (fun k j k1 k2 => dr k j (by omega) (by omega)) (fun k j k1 k2 => er k j (by omega) (by omega) (by omega)) hB, rlP_c (fun j => dr 1 j (by omega) (by omega)) (fun j => er 1 j (by omega) (by omega) (by omega)) hP, ?_, ?_, rlE_c (fun k j k1 => dr k j (by omega) (by omega)) (fun k j k1 k2 => er k j (by omega) (by omega) (by omega)) hE, rlT_c (d0 10 (by decide)) (fun j => dr 5 j (by omega) (by omega)) (e0 22 (by decide) (by decide)) (fun j => er 17 j (by omega) (by omega) (by omega)) hT⟩
      · obtain ⟨c1, c2, c3, c4, c5⟩ := hC
        refine ⟨by rw [d0 3 (by decide), e0 11 (by decide) (by decide)]; exact c1, by rw [d0 4 (by decide), e0 12 (by decide) (by decide)]; exact c2, by rw [d0 4 (by decide)]; exact c3, by rw [d0 7 (by decide), e0 16 (by decide) (by decide)]; exact c4, ?_⟩
        rw [up2_k (by decide), up2_k (by decide), up2_s, rf_sh_ne (by decide) (by decide), up2_j (by decide), up2_s]
        exact z0.2
      · refine ⟨by rw [up2_j (by decide), up2_s], by omega, up2_s, by omega, by rw [rf_sh_ne (by decide) (by decide), up2_s], fun j hj => ?_⟩
        have zj := hQ.2.2.2.2.2 (j + 1) (by omega)
        rw [dr 6 _ (by decide) (by decide), dr 7 _ (by decide) (by decide), rf_sh_11, rf_sh_12]
        unfold rf_sf
        rw [if_pos hj, if_pos hj, up2_k (by decide), up2_k (by decide), up2_k (by decide), up2_k (by decide), show ((f' + 1) % 64 + j) % 64 = (f' + (j + 1)) % 64 by omega]
        exact zj
theorem op_lose (h : rl d π e) (h1 : r1 = d 4 3 ∧ u1 = (up2 (up2 d 4 3 0) 0 7 (d 0 7 + d 4 3), π)) (h2 : r2 = e 0 13 ∧ u2 = (up2 (up2 e 0 13 0) 0 16 (e 0 16 + e 0 13), π')) : r1 = r2 ∧ rl u1.1 u1.2 u2.1 := by
  obtain ⟨rfl, rfl⟩ := h1
  obtain ⟨rfl, rfl⟩ := h2
  obtain ⟨n, f, q, ts, a, hL, hB, hP, hC, hQ, hE, hT⟩ := h
  obtain ⟨c1, c2, c3, c4, c5⟩ := hC
  have ew : d 4 3 = e 0 13 := hQ.2.2.1.trans hQ.2.2.2.2.1.symm
  have dr : ∀ k j, k ≠ 0 → k ≠ 4 → up2 (up2 d 4 3 0) 0 7 (d 0 7 + d 4 3) k j = d k j := fun k j a1 a2 => by rw [up2_k a1, up2_k a2]
  have d0 : ∀ j, j ≠ 7 → up2 (up2 d 4 3 0) 0 7 (d 0 7 + d 4 3) 0 j = d 0 j := fun j a1 => by rw [up2_j a1, up2_k (by decide)]
  have er : ∀ k j, k ≠ 0 → up2 (up2 e 0 13 0) 0 16 (e 0 16 + e 0 13) k j = e k j := fun k j a1 => by rw [up2_k a1, up2_k a1]
  have e0 : ∀ j, j ≠ 13 → j ≠ 16 → up2 (up2 e 0 13 0) 0 16 (e 0 16 + e 0 13) 0 j = e 0 j := fun j a1 a2 => by rw [up2_j a2, up2_j a1]
  dsimp only
  refine ⟨ew, n, f, 0, ts, a, rlL_c (d0 2 (by decide)) (fun k j k1 k2 => dr k j (by omega) (by omega)) (fun k j k1 k2 => er k j (by omega)) hL, rlB_c (fun k j k1 k2 => dr k j (by omega) (by omega)) (fun k j k1 k2 => er k j (by omega)) hB, rlP_c (fun j => dr 1 j (by omega) (by omega)) (fun j => er 1 j (by omega)) hP, ?_, ?_, rlE_c (fun k j k1 => dr k j (by omega) (by omega)) (fun k j k1 k2 => er k j (by omega)) hE, rlT_c (d0 10 (by decide)) (fun j => dr 5 j (by omega) (by omega)) (e0 22 (by decide) (by decide)) (fun j => er 17 j (by omega)) hT⟩
  · refine ⟨by rw [d0 3 (by decide), e0 11 (by decide) (by decide)]; exact c1, by rw [d0 4 (by decide), e0 12 (by decide) (by decide)]; exact c2, by rw [d0 4 (by decide)]; exact c3, by rw [up2_s, up2_s, c4, ew], by rw [d0 8 (by decide), e0 17 (by decide) (by decide)]; exact c5⟩
  · exact ⟨by rw [up2_k (show 4 ≠ 0 by decide), up2_j (show 2 ≠ 3 by decide)]; exact hQ.1, hQ.2.1, by rw [up2_k (show 4 ≠ 0 by decide), up2_s]; exact nI_0.symm, by omega, by rw [up2_j (show 13 ≠ 16 by decide), up2_s]; exact nI_0.symm, fun j hj => absurd hj (by omega)⟩
end OP

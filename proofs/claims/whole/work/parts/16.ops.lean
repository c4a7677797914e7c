/-! PART 16: the calls on events, actions and text; what a limit's calls find -/
def rlE1 (d e : Nat → Nat → Int32) (j : Nat) : Prop := d (24 + j) 0 = (if e 13 j = 0 then 1 else 0) ∧ (∃ z, z ≤ 256 ∧ d (24 + j) 2 = nI z ∧ e 14 j = nI z ∧ ∀ k, k < z → d (56 + j) k = e 16 (256 * j + k)) ∧ d (24 + j) 3 = e 15 j ∧ (e 15 j = 0 ∨ e 15 j = 1) ∧ (e 14 j = 0 → e 15 j = 0)
section RLE
variable {d d' e e' : Nat → Nat → Int32}
theorem rlE_u {j0 : Nat} (hd : ∀ j x, j < 32 → j ≠ j0 → d' (24 + j) x = d (24 + j) x ∧ d' (56 + j) x = d (56 + j) x) (he : ∀ j, j < 32 → j ≠ j0 → e' 13 j = e 13 j ∧ e' 14 j = e 14 j ∧ e' 15 j = e 15 j ∧ ∀ k, k < 256 → e' 16 (256 * j + k) = e 16 (256 * j + k)) (h0 : rlE1 d' e' j0) (h : rlE d e) : rlE d' e' := by
  intro j hj
  by_cases e9 : j = j0
  · subst e9
    exact h0
  · obtain ⟨h1, ⟨z, h2, h3, h4, h5⟩, h6, h7, h8⟩ := h j hj
    obtain ⟨g1, g2, g3, g4⟩ := he j hj e9
    have q : ∀ x, d' (24 + j) x = d (24 + j) x := fun x => (hd j x hj e9).1
    rw [q, q, q, g1, g2, g3]
    exact ⟨h1, ⟨z, h2, h3, h4, fun k hk => by rw [(hd j k hj e9).2, g4 k (by omega)]; exact h5 k hk⟩, h6, h7, h8⟩
theorem rl_pos {z : Nat} (hz : z ≤ 256) : 0 < nI z ↔ ¬ nI z = 0 := by
  rw [← nI_0, nI_ltI (by omega) (by omega), nI_eq (by omega) (by omega)]
  omega
theorem rl_by (x : Int32) : x.toInt8.toInt32.toInt8.toInt32 = x.toInt8.toInt32 := by rw [← vp_nar_byte, pk_vb]
theorem rl_fit {x : Int32} (h : x.toInt8.toInt32 = x) : fits .byte (.int x) = true := by rw [← h]; exact pk_fb x
end RLE
section OP2
variable {d e : Nat → Nat → Int32} {π π' : Nat → Nat} {r1 r2 : Int32} {u1 u2 : (Nat → Nat → Int32) × (Nat → Nat)}
theorem op_tell {ev on : Int32} (hz : on = 0 ∨ on = 1) (h : rl d π e) (h1 : (wl_ok ev 32 = true → r1 = 0 ∧ u1 = (up2 d (24 + ev.toNatClampNeg) 0 on, π)) ∧ (wl_ok ev 32 = false → r1 = 16 ∧ u1 = (d, π))) (h2 : (wl_ok ev 32 = true → r2 = 0 ∧ u2 = (up2 e 13 ev.toNatClampNeg (if on = 0 then 1 else 0), π')) ∧ (wl_ok ev 32 = false → r2 = 16 ∧ u2 = (e, π'))) : r1 = r2 ∧ rl u1.1 u1.2 u2.1 := by
  cases ok : wl_ok ev 32 with
  | false =>
    obtain ⟨rfl, rfl⟩ := h1.2 ok
    obtain ⟨rfl, rfl⟩ := h2.2 ok
    exact ⟨rfl, h⟩
  | true =>
    obtain ⟨rfl, rfl⟩ := h1.1 ok
    obtain ⟨rfl, rfl⟩ := h2.1 ok
    have hj := (wl_ok32c ok).2
    generalize ev.toNatClampNeg = j0 at hj ⊢
    refine ⟨rfl, ?_⟩
    dsimp only
    obtain ⟨n, f, q, ts, a, hL, hB, hP, hC, hQ, hE, hT⟩ := h
    refine ⟨n, f, q, ts, a, rlL_c (up2_k (by omega)) (fun k j k1 k2 => up2_k (by omega)) (fun k j k1 k2 => up2_k (by omega)) hL, rlB_c (fun k j k1 k2 => up2_k (by omega)) (fun k j k1 k2 => up2_k (by omega)) hB, rlP_c (fun j => up2_k (by omega)) (fun j => up2_k (by omega)) hP, rlC_c (fun j hj => up2_k (by omega)) (fun j hj => up2_k (by omega)) hC, rlQ_c (fun k j hk => up2_k (by omega)) (up2_k (by omega)) (fun k j hk => up2_k (by omega)) hQ, rlE_u (j0 := j0) (fun j x a1 a2 => ⟨up2_k (by omega), up2_k (by omega)⟩) (fun j a1 a2 => ⟨up2_j a2, up2_k (by omega), up2_k (by omega), fun k _ => up2_k (by omega)⟩) ?_ hE, rlT_c (up2_k (by omega)) (fun j => up2_k (by omega)) (up2_k (by omega)) (fun j => up2_k (by omega)) hT⟩
    obtain ⟨g1, ⟨z, g2, g3, g4, g5⟩, g6, g7, g8⟩ := hE j0 hj
    unfold rlE1
    rw [up2_s, up2_s, up2_j (show 2 ≠ 0 by decide), up2_j (show 3 ≠ 0 by decide), up2_k (show 14 ≠ 13 by decide), up2_k (show 15 ≠ 13 by decide)]
    refine ⟨?_, ⟨z, g2, g3, g4, fun k hk => by rw [up2_k (by omega), up2_k (by omega)]; exact g5 k hk⟩, g6, g7, g8⟩
    rcases hz with rfl | rfl
    · rfl
    · rfl
theorem op_put {ts : Nat} {b : Int32} (h : rl d π e) (hts : d 0 10 = nI ts) (ht : ts ≤ 256) (h1 : (ts < 256 ∧ r1 = nI (ts + 1) ∧ u1 = (up2 (up2 d 5 ts b.toInt8.toInt32) 0 10 (nI (ts + 1)), π)) ∨ (ts = 256 ∧ r1 = -1 ∧ u1 = (d, π))) (h2 : (ts < 256 ∧ r2 = nI (ts + 1) ∧ u2 = (up2 (up2 e 17 ts b.toInt8.toInt32) 0 22 (nI (ts + 1)), π')) ∨ (ts = 256 ∧ r2 = -1 ∧ u2 = (e, π'))) : r1 = r2 ∧ rl u1.1 u1.2 u2.1 := by
  rcases h1 with ⟨t1, rfl, rfl⟩ | ⟨t1, rfl, rfl⟩
  · rcases h2 with ⟨-, rfl, rfl⟩ | ⟨t2, -, -⟩
    · obtain ⟨n, f, q, ts', a, hL, hB, hP, hC, hQ, hE, hT⟩ := h
      have et : ts' = ts := (nI_eq (by have := hT.2.2.1; omega) (by omega)).mp (hT.1.symm.trans hts)
      subst et
      have dr : ∀ k j, k ≠ 0 → k ≠ 5 → up2 (up2 d 5 ts' b.toInt8.toInt32) 0 10 (nI (ts' + 1)) k j = d k j := fun k j a1 a2 => by rw [up2_k a1, up2_k a2]
      have d0 : ∀ j, j ≠ 10 → up2 (up2 d 5 ts' b.toInt8.toInt32) 0 10 (nI (ts' + 1)) 0 j = d 0 j := fun j a1 => by rw [up2_j a1, up2_k (by decide)]
      have er : ∀ k j, k ≠ 0 → k ≠ 17 → up2 (up2 e 17 ts' b.toInt8.toInt32) 0 22 (nI (ts' + 1)) k j = e k j := fun k j a1 a2 => by rw [up2_k a1, up2_k a2]
      have e0 : ∀ j, j ≠ 22 → up2 (up2 e 17 ts' b.toInt8.toInt32) 0 22 (nI (ts' + 1)) 0 j = e 0 j := fun j a1 => by rw [up2_j a1, up2_k (by decide)]
      dsimp only
      refine ⟨rfl, n, f, q, ts' + 1, a, rlL_c (d0 2 (by decide)) (fun k j k1 k2 => dr k j (by omega) (by omega)) (fun k j k1 k2 => er k j (by omega) (by omega)) hL, rlB_c (fun k j k1 k2 => dr k j (by omega) (by omega)) (fun k j k1 k2 => er k j (by omega) (by omega)) hB, rlP_c (fun j => dr 1 j (by omega) (by omega)) (fun j => er 1 j (by omega) (by omega)) hP, rlC_c (fun j hj => d0 j (by omega)) (fun j hj => e0 j (by omega)) hC, rlQ_c (fun k j hk => dr k j (by omega) (by omega)) (e0 13 (by decide)) (fun k j hk => er k j (by omega) (by omega)) hQ, rlE_c (fun k j k1 => dr k j (by omega) (by omega)) (fun k j k1 k2 => er k j (by omega) (by omega)) hE, ?_⟩
      obtain ⟨g1, g2, g3, g4, g5, g6⟩ := hT
      have A : ∀ x, up2 (up2 d 5 ts' b.toInt8.toInt32) 0 10 (nI (ts' + 1)) 5 x = if x = ts' then b.toInt8.toInt32 else d 5 x := fun x => by
        rw [up2_k (by decide), up2_same]; rfl
      have B : ∀ x, up2 (up2 e 17 ts' b.toInt8.toInt32) 0 22 (nI (ts' + 1)) 17 x = if x = ts' then b.toInt8.toInt32 else e 17 x := fun x => by
        rw [up2_k (by decide), up2_same]; rfl
      refine ⟨up2_s, up2_s, by omega, fun j hj => ?_, fun j hj => ?_, fun j hj => ?_⟩
      · rw [A]
        split
        · exact rl_by b
        · exact g4 j hj
      · rw [B]
        split
        · exact rl_by b
        · exact g5 j hj
      · rw [A, B]
        by_cases e9 : j = ts'
        · rw [if_pos e9, if_pos e9]
        · rw [if_neg e9, if_neg e9]
          exact g6 j (by omega)
    · omega
  · rcases h2 with ⟨t2, -, -⟩ | ⟨-, rfl, rfl⟩
    · omega
    · exact ⟨rfl, h⟩
/-- the text is spent -/
theorem rl_spent (h : rl d π e) : rl (up2 d 0 10 0) π (up2 e 0 22 0) := by
  obtain ⟨n, f, q, ts, a, hL, hB, hP, hC, hQ, hE, hT⟩ := h
  obtain ⟨g1, g2, g3, g4, g5, g6⟩ := hT
  exact ⟨n, f, q, 0, a, rlL_c (up2_j (by decide)) (fun k j k1 k2 => up2_k (by omega)) (fun k j k1 k2 => up2_k (by omega)) hL, rlB_c (fun k j k1 k2 => up2_k (by omega)) (fun k j k1 k2 => up2_k (by omega)) hB, rlP_c (fun j => up2_k (by omega)) (fun j => up2_k (by omega)) hP, rlC_c (fun j hj => up2_j (by omega)) (fun j hj => up2_j (by omega)) hC, rlQ_c (fun k j hk => up2_k (by omega)) (up2_j (by decide)) (fun k j hk => up2_k (by omega)) hQ, rlE_c (fun k j k1 => up2_k (by omega)) (fun k j k1 k2 => up2_k (by omega)) hE, up2_s.trans nI_0.symm, up2_s.trans nI_0.symm, by omega, fun j hj => by rw [up2_k (by decide)]; exact g4 j hj, fun j hj => by rw [up2_k (by decide)]; exact g5 j hj, fun j hj => absurd hj (by omega)⟩
theorem op_act {ts : Nat} {ev : Int32} (h : rl d π e) (hts : d 0 10 = nI ts) (ht : ts ≤ 256)
    (h1 : (r1 = 16 ∧ wl_ok ev 32 = false ∧ u1 = (up2 d 0 10 0, π)) ∨ (wl_ok ev 32 = true ∧ ((r1 = 22 ∧ ts = 0 ∧ u1 = (up2 d 0 10 0, π)) ∨ (0 < ts ∧ ((r1 = 29 ∧ 0 < d (24 + ev.toNatClampNeg) 2 ∧ u1 = (up2 d 0 10 0, π)) ∨ (r1 = 0 ∧ ¬ 0 < d (24 + ev.toNatClampNeg) 2 ∧ u1 = (up2 (up2 (va_up (up2 d 0 10 0) (56 + ev.toNatClampNeg) (va_cpy (d 5) (d (56 + ev.toNatClampNeg)) 0 0 ts)) (24 + ev.toNatClampNeg) 2 (nI ts)) (24 + ev.toNatClampNeg) 3 0, π)))))))
    (h2 : (r2 = 16 ∧ wl_ok ev 32 = false ∧ u2 = (up2 e 0 22 0, π')) ∨ (wl_ok ev 32 = true ∧ ((r2 = 22 ∧ ts = 0 ∧ u2 = (up2 e 0 22 0, π')) ∨ (0 < ts ∧ ((r2 = 29 ∧ 0 < e 14 ev.toNatClampNeg ∧ u2 = (up2 e 0 22 0, π')) ∨ (r2 = 0 ∧ ¬ 0 < e 14 ev.toNatClampNeg ∧ u2 = (rf_cp (up2 (up2 (up2 e 0 22 0) 14 ev.toNatClampNeg (nI ts)) 15 ev.toNatClampNeg 0) ev.toNatClampNeg ts, π'))))))) : r1 = r2 ∧ rl u1.1 u1.2 u2.1 := by
  rcases h1 with ⟨rfl, ok, rfl⟩ | ⟨ok, h1⟩
  · rcases h2 with ⟨rfl, -, rfl⟩ | ⟨ok2, -⟩
    · exact ⟨rfl, rl_spent h⟩
    · rw [ok] at ok2; cases ok2
  · rcases h2 with ⟨-, ok2, -⟩ | ⟨-, h2⟩
    · rw [ok] at ok2; cases ok2
    have hj := (wl_ok32c ok).2
    generalize ev.toNatClampNeg = j0 at hj h1 h2
    rcases h1 with ⟨rfl, t1, rfl⟩ | ⟨t1, h1⟩
    · rcases h2 with ⟨rfl, -, rfl⟩ | ⟨t2, -⟩
      · exact ⟨rfl, rl_spent h⟩
      · omega
    rcases h2 with ⟨-, t2, -⟩ | ⟨-, h2⟩
    · omega
    have hsz : d (24 + j0) 2 = e 14 j0 := by
      obtain ⟨n, f, q, ts', a, hL, hB, hP, hC, hQ, hE, hT⟩ := h
      obtain ⟨g1, ⟨z, g2, g3, g4, g5⟩, g6, g7, g8⟩ := hE j0 hj
      exact g3.trans g4.symm
    rcases h1 with ⟨rfl, p1, rfl⟩ | ⟨rfl, p1, rfl⟩
    · rcases h2 with ⟨rfl, -, rfl⟩ | ⟨-, p2, -⟩
      · exact ⟨rfl, rl_spent h⟩
      · rw [hsz] at p1; exact absurd p1 p2
    rcases h2 with ⟨-, p2, -⟩ | ⟨rfl, -, rfl⟩
    · rw [hsz] at p1; exact absurd p2 p1
    refine ⟨rfl, ?_⟩
    dsimp only
    have hT0 : ∀ k, k < ts → d 5 k = e 17 k := by
      obtain ⟨n, f, q, ts', a, hL, hB, hP, hC, hQ, hE, hT⟩ := h
      have et : ts' = ts := (nI_eq (by have := hT.2.2.1; omega) (by omega)).mp (hT.1.symm.trans hts)
      subst et
      exact hT.2.2.2.2.2
    obtain ⟨n, f, q, ts', a, hL, hB, hP, hC, hQ, hE, hT⟩ := rl_spent h
    have dr : ∀ k j, k ≠ 24 + j0 → k ≠ 56 + j0 → up2 (up2 (va_up (up2 d 0 10 0) (56 + j0) (va_cpy (d 5) (d (56 + j0)) 0 0 ts)) (24 + j0) 2 (nI ts)) (24 + j0) 3 0 k j = up2 d 0 10 0 k j := fun k j a1 a2 => by rw [up2_k a1, up2_k a1, va_up_ne _ _ a2]
    have er : ∀ k j, k ≠ 14 → k ≠ 15 → k ≠ 16 → rf_cp (up2 (up2 (up2 e 0 22 0) 14 j0 (nI ts)) 15 j0 0) j0 ts k j = up2 e 0 22 0 k j := fun k j a1 a2 a3 => by rw [rf_cp_ne a3, up2_k a2, up2_k a1]
    refine ⟨n, f, q, ts', a, rlL_c (dr 0 2 (by omega) (by omega)) (fun k j k1 k2 => dr k j (by omega) (by omega)) (fun k j k1 k2 => er k j (by omega) (by omega) (by omega)) hL, rlB_c (fun k j k1 k2 => dr k j (by omega) (by omega)) (fun k j k1 k2 => er k j (by omega) (by omega) (by omega)) hB, rlP_c (fun j => dr 1 j (by omega) (by omega)) (fun j => er 1 j (by omega) (by omega) (by omega)) hP, rlC_c (fun j hj => dr 0 j (by omega) (by omega)) (fun j hj => er 0 j (by omega) (by omega) (by omega)) hC, rlQ_c (fun k j hk => dr k j (by omega) (by omega)) (er 0 13 (by decide) (by decide) (by decide)) (fun k j hk => er k j (by omega) (by omega) (by omega)) hQ, rlE_u (j0 := j0) (fun j x a1 a2 => ⟨dr _ x (by omega) (by omega), dr _ x (by omega) (by omega)⟩) (fun j a1 a2 => ⟨er 13 j (by omega) (by omega) (by omega), ?_, ?_, fun k hk => ?_⟩) ?_ hE, rlT_c (dr 0 10 (by omega) (by omega)) (fun j => dr 5 j (by omega) (by omega)) (er 0 22 (by decide) (by decide) (by decide)) (fun j => er 17 j (by omega) (by omega) (by omega)) hT⟩
    · rw [rf_cp_ne (by decide), up2_k (by decide), up2_j a2]
    · rw [rf_cp_ne (by decide), up2_j a2, up2_k (by decide)]
    · unfold rf_cp
      rw [va_up_self, if_neg (by omega), up2_k (by decide), up2_k (by decide)]
    · obtain ⟨g1, ⟨z, g2, g3, g4, g5⟩, g6, g7, g8⟩ := hE j0 hj
      rw [up2_k (by omega), up2_k (by omega)] at g1
      unfold rlE1
      rw [up2_j (show 0 ≠ 3 by decide), up2_j (show 0 ≠ 2 by decide), va_up_ne _ _ (show 24 + j0 ≠ 56 + j0 by omega), up2_k (show 24 + j0 ≠ 0 by omega), er 13 j0 (by decide) (by decide) (by decide), up2_k (show 13 ≠ 0 by decide), up2_j (show 2 ≠ 3 by decide), up2_s, up2_s, rf_cp_ne (show 14 ≠ 16 by decide), up2_k (show 14 ≠ 15 by decide), up2_s, rf_cp_ne (show 15 ≠ 16 by decide), up2_s]
      refine ⟨g1, ⟨ts, ht, rfl, rfl, fun k hk => ?_⟩, rfl, Or.inl rfl, fun _ => rfl⟩
      rw [up2_k (by omega), up2_k (by omega), va_up_self, pk_cpy_in (by omega) (by omega)]
      unfold rf_cp
      rw [va_up_self, if_pos (by omega), up2_k (by decide), up2_k (by decide), up2_k (by decide), show 256 * j0 + k - 256 * j0 = k by omega, show 0 + (k - 0) = k by omega]
      exact hT0 k hk
theorem op_drop {ev : Int32} (h : rl d π e) (h1 : (wl_ok ev 32 = false ∧ r1 = 16 ∧ u1 = (d, π)) ∨ (wl_ok ev 32 = true ∧ ((¬ 0 < d (24 + ev.toNatClampNeg) 2 ∧ r1 = 30 ∧ u1 = (d, π)) ∨ (0 < d (24 + ev.toNatClampNeg) 2 ∧ ((¬ d (24 + ev.toNatClampNeg) 3 = 0 ∧ r1 = 15 ∧ u1 = (d, π)) ∨ (d (24 + ev.toNatClampNeg) 3 = 0 ∧ r1 = 0 ∧ u1 = (up2 d (24 + ev.toNatClampNeg) 2 0, π)))))))
    (h2 : (wl_ok ev 32 = false ∧ r2 = 16 ∧ u2 = (e, π')) ∨ (wl_ok ev 32 = true ∧ ((e 14 ev.toNatClampNeg = 0 ∧ r2 = 30 ∧ u2 = (e, π')) ∨ (¬ e 14 ev.toNatClampNeg = 0 ∧ ((¬ e 15 ev.toNatClampNeg = 0 ∧ r2 = 15 ∧ u2 = (e, π')) ∨ (e 15 ev.toNatClampNeg = 0 ∧ r2 = 0 ∧ u2 = (up2 e 14 ev.toNatClampNeg 0, π'))))))) : r1 = r2 ∧ rl u1.1 u1.2 u2.1 := by
  rcases h1 with ⟨ok, rfl, rfl⟩ | ⟨ok, h1⟩
  · rcases h2 with ⟨-, rfl, rfl⟩ | ⟨ok2, -⟩
    · exact ⟨rfl, h⟩
    · rw [ok] at ok2; cases ok2
  · rcases h2 with ⟨ok2, -, -⟩ | ⟨-, h2⟩
    · rw [ok] at ok2; cases ok2
    have hj := (wl_ok32c ok).2
    generalize ev.toNatClampNeg = j0 at hj h1 h2
    obtain ⟨n, f, q, ts, a, hL, hB, hP, hC, hQ, hE, hT⟩ := id h
    obtain ⟨g1, ⟨z, g2, g3, g4, g5⟩, g6, g7, g8⟩ := hE j0 hj
    have hp : 0 < d (24 + j0) 2 ↔ ¬ e 14 j0 = 0 := by rw [g3, g4]; exact rl_pos g2
    rw [hp, g6] at h1
    rcases h1 with ⟨p1, rfl, rfl⟩ | ⟨p1, h1⟩
    · rcases h2 with ⟨-, rfl, rfl⟩ | ⟨p2, -⟩
      · exact ⟨rfl, h⟩
      · exact absurd p2 p1
    rcases h2 with ⟨p2, -, -⟩ | ⟨-, h2⟩
    · exact absurd p2 p1
    rcases h1 with ⟨o1, rfl, rfl⟩ | ⟨o1, rfl, rfl⟩
    · rcases h2 with ⟨-, rfl, rfl⟩ | ⟨o2, -, -⟩
      · exact ⟨rfl, h⟩
      · exact absurd o2 o1
    rcases h2 with ⟨o2, -, -⟩ | ⟨-, rfl, rfl⟩
    · exact absurd o1 o2
    refine ⟨rfl, ?_⟩
    dsimp only
    refine ⟨n, f, q, ts, a, rlL_c (up2_k (by omega)) (fun k j k1 k2 => up2_k (by omega)) (fun k j k1 k2 => up2_k (by omega)) hL, rlB_c (fun k j k1 k2 => up2_k (by omega)) (fun k j k1 k2 => up2_k (by omega)) hB, rlP_c (fun j => up2_k (by omega)) (fun j => up2_k (by omega)) hP, rlC_c (fun j hj => up2_k (by omega)) (fun j hj => up2_k (by omega)) hC, rlQ_c (fun k j hk => up2_k (by omega)) (up2_k (by omega)) (fun k j hk => up2_k (by omega)) hQ, rlE_u (j0 := j0) (fun j x a1 a2 => ⟨up2_k (by omega), up2_k (by omega)⟩) (fun j a1 a2 => ⟨up2_k (by omega), up2_j a2, up2_k (by omega), fun k _ => up2_k (by omega)⟩) ?_ hE, rlT_c (up2_k (by omega)) (fun j => up2_k (by omega)) (up2_k (by omega)) (fun j => up2_k (by omega)) hT⟩
    unfold rlE1
    rw [up2_j (show 0 ≠ 2 by decide), up2_k (show 13 ≠ 14 by decide), up2_s, up2_s, up2_j (show 3 ≠ 2 by decide), up2_k (show 15 ≠ 14 by decide)]
    exact ⟨g1, ⟨0, by omega, nI_0.symm, nI_0.symm, fun k hk => absurd hk (by omega)⟩, g6, g7, fun _ => o1⟩
theorem op_arm {ev on : Int32} (hz : on = 0 ∨ on = 1) (h : rl d π e) (h1 : (wl_ok ev 32 = false ∧ r1 = 16 ∧ u1 = (d, π)) ∨ (wl_ok ev 32 = true ∧ ((¬ 0 < d (24 + ev.toNatClampNeg) 2 ∧ r1 = 30 ∧ u1 = (d, π)) ∨ (0 < d (24 + ev.toNatClampNeg) 2 ∧ r1 = 0 ∧ u1 = (up2 d (24 + ev.toNatClampNeg) 3 on, π)))))
    (h2 : (wl_ok ev 32 = false ∧ r2 = 16 ∧ u2 = (e, π')) ∨ (wl_ok ev 32 = true ∧ ((e 14 ev.toNatClampNeg = 0 ∧ r2 = 30 ∧ u2 = (e, π')) ∨ (¬ e 14 ev.toNatClampNeg = 0 ∧ r2 = 0 ∧ u2 = (up2 e 15 ev.toNatClampNeg on, π'))))) : r1 = r2 ∧ rl u1.1 u1.2 u2.1 := by
  rcases h1 with ⟨ok, rfl, rfl⟩ | ⟨ok, h1⟩
  · rcases h2 with ⟨-, rfl, rfl⟩ | ⟨ok2, -⟩
    · exact ⟨rfl, h⟩
    · rw [ok] at ok2; cases ok2
  · rcases h2 with ⟨ok2, -, -⟩ | ⟨-, h2⟩
    · rw [ok] at ok2; cases ok2
    have hj := (wl_ok32c ok).2
    generalize ev.toNatClampNeg = j0 at hj h1 h2
    obtain ⟨n, f, q, ts, a, hL, hB, hP, hC, hQ, hE, hT⟩ := id h
    obtain ⟨g1, ⟨z, g2, g3, g4, g5⟩, g6, g7, g8⟩ := hE j0 hj
    have hp : 0 < d (24 + j0) 2 ↔ ¬ e 14 j0 = 0 := by rw [g3, g4]; exact rl_pos g2
    rw [hp] at h1
    rcases h1 with ⟨p1, rfl, rfl⟩ | ⟨p1, rfl, rfl⟩
    · rcases h2 with ⟨-, rfl, rfl⟩ | ⟨p2, -, -⟩
      · exact ⟨rfl, h⟩
      · exact absurd p2 p1
    rcases h2 with ⟨p2, -, -⟩ | ⟨-, rfl, rfl⟩
    · exact absurd p2 p1
    refine ⟨rfl, ?_⟩
    dsimp only
    refine ⟨n, f, q, ts, a, rlL_c (up2_k (by omega)) (fun k j k1 k2 => up2_k (by omega)) (fun k j k1 k2 => up2_k (by omega)) hL, rlB_c (fun k j k1 k2 => up2_k (by omega)) (fun k j k1 k2 => up2_k (by omega)) hB, rlP_c (fun j => up2_k (by omega)) (fun j => up2_k (by omega)) hP, rlC_c (fun j hj => up2_k (by omega)) (fun j hj => up2_k (by omega)) hC, rlQ_c (fun k j hk => up2_k (by omega)) (up2_k (by omega)) (fun k j hk => up2_k (by omega)) hQ, rlE_u (j0 := j0) (fun j x a1 a2 => ⟨up2_k (by omega), up2_k (by omega)⟩) (fun j a1 a2 => ⟨up2_k (by omega), up2_k (by omega), up2_j a2, fun k _ => up2_k (by omega)⟩) ?_ hE, rlT_c (up2_k (by omega)) (fun j => up2_k (by omega)) (up2_k (by omega)) (fun j => up2_k (by omega)) hT⟩
    unfold rlE1
    rw [up2_j (show 0 ≠ 3 by decide), up2_k (show 13 ≠ 15 by decide), up2_j (show 2 ≠ 3 by decide), up2_k (show 14 ≠ 15 by decide), up2_s, up2_s]
    exact ⟨g1, ⟨z, g2, g3, g4, fun k hk => by rw [up2_k (by omega), up2_k (by omega)]; exact g5 k hk⟩, rfl, hz, fun q => absurd q p1⟩
theorem rl_01 {x : Int32} (h : x = 0 ∨ x = 1) : (if x = 0 then 0 else 1 : Int32) = x := by
  rcases h with rfl | rfl <;> rfl
theorem op_event {ev w : Int32} (h : rl d π e) (h1 : u1 = (d, π) ∧ r1 = (if wl_ok ev 32 = true then wl_etell d (24 + ev.toNatClampNeg) w else -1)) (h2 : u2 = (e, π') ∧ r2 = (if wl_ok ev 32 = true then rf_etell e ev.toNatClampNeg w else -1)) : r1 = r2 ∧ rl u1.1 u1.2 u2.1 := by
  obtain ⟨rfl, rfl⟩ := h1
  obtain ⟨rfl, rfl⟩ := h2
  refine ⟨?_, h⟩
  split
  · rename_i ok
    have hj := (wl_ok32c ok).2
    generalize ev.toNatClampNeg = j0 at hj ⊢
    obtain ⟨n, f, q, ts, a, hL, hB, hP, hC, hQ, hE, hT⟩ := h
    obtain ⟨g1, ⟨z, g2, g3, g4, g5⟩, g6, g7, g8⟩ := hE j0 hj
    unfold wl_etell rf_etell
    rw [g1, g3, g6, g4, rl_01 g7]
    have : e 15 j0 = if 0 < nI z then e 15 j0 else 0 := by
      split
      · rfl
      · rename_i hn
        rw [rl_pos g2] at hn
        exact g8 (by rw [g4]; exact Decidable.not_not.mp hn)
    rw [← this]
  · rfl
theorem op_actionAt {ev k : Int32} (h : rl d π e) (h1 : u1 = (d, π) ∧ r1 = (if wl_ok ev 32 = true then (if wl_ok k (d (24 + ev.toNatClampNeg) 2) = true then d (56 + ev.toNatClampNeg) k.toNatClampNeg &&& 255 else -1) else -1)) (h2 : u2 = (e, π') ∧ r2 = (if wl_ok ev 32 = true then (if wl_ok k (e 14 ev.toNatClampNeg) = true then e 16 (256 * ev.toNatClampNeg + k.toNatClampNeg) &&& 255 else -1) else -1)) : r1 = r2 ∧ rl u1.1 u1.2 u2.1 := by
  obtain ⟨rfl, rfl⟩ := h1
  obtain ⟨rfl, rfl⟩ := h2
  refine ⟨?_, h⟩
  split
  · rename_i ok
    have hj := (wl_ok32c ok).2
    generalize ev.toNatClampNeg = j0 at hj ⊢
    obtain ⟨n, f, q, ts, a, hL, hB, hP, hC, hQ, hE, hT⟩ := h
    obtain ⟨g1, ⟨z, g2, g3, g4, g5⟩, g6, g7, g8⟩ := hE j0 hj
    rw [g3, g4]
    split
    · rename_i ok2
      obtain ⟨x, hx, rfl⟩ := wl_ok_of (by omega) ok2
      rw [nI_clamp (by omega), g5 x hx]
    · rfl
  · rfl
theorem op_count {w : Int32} (h : rl d π e) (h1 : u1 = (d, π) ∧ r1 = wl_cnt d w) (h2 : u2 = (e, π') ∧ r2 = rf_count e w) : r1 = r2 ∧ rl u1.1 u1.2 u2.1 := by
  obtain ⟨rfl, rfl⟩ := h1
  obtain ⟨rfl, rfl⟩ := h2
  refine ⟨?_, h⟩
  obtain ⟨n, f, q, ts, a, hL, hB, hP, hC, hQ, hE, hT⟩ := h
  obtain ⟨l1, l2, l3, l4, l5, l6, l7, l8, l9⟩ := hL
  obtain ⟨c1, c2, c3, c4, c5⟩ := hC
  unfold wl_cnt rf_count
  rw [l2, l9, c1, hQ.2.2.1, hQ.2.2.2.2.1, c4, c5]
end OP2

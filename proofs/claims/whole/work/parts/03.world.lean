/-! PART 02: a world of n cells at addresses α 0 .. α (n-1), all apart; cell k holds cf k. Rows of the kit, said for such a world. -/
def up2 (d : Nat → Nat → Int32) (k j : Nat) (v : Int32) : Nat → Nat → Int32 := va_up d k (upd (d k) j v)
theorem up2_same {d : Nat → Nat → Int32} {k j : Nat} {v : Int32} : up2 d k j v k = upd (d k) j v := va_up_self _ _ _
theorem up2_ne {d : Nat → Nat → Int32} {k j k' : Nat} {v : Int32} (h : k' ≠ k) : up2 d k j v k' = d k' := va_up_ne _ _ h
theorem up2_at (d : Nat → Nat → Int32) (k j : Nat) (v : Int32) (a b : Nat) : up2 d k j v a b = if a = k ∧ b = j then v else d a b := by
  unfold up2 va_up upd
  by_cases h : a = k
  · subst h
    by_cases h2 : b = j
    · simp [h2]
    · simp [h2]
  · simp [h]
def gw_W (n : Nat) (α : Nat → Nat) (cf : Nat → va_E) : va_W := (List.range n).map (fun k => (α k, cf k))
theorem gw_get? {n : Nat} {α : Nat → Nat} {cf : Nat → va_E} {k : Nat} (h : k < n) : (gw_W n α cf)[k]? = some (α k, cf k) := by
  simp [gw_W, h]
theorem gw_none {n : Nat} {α : Nat → Nat} {cf : Nat → va_E} {k : Nat} (h : ¬ k < n) : (gw_W n α cf)[k]? = none := by
  simp [gw_W]; omega
theorem gw_of {n : Nat} {α : Nat → Nat} {cf : Nat → va_E} {k : Nat} {q : Nat × va_E} (h : (gw_W n α cf)[k]? = some q) : k < n ∧ q = (α k, cf k) := by
  by_cases hk : k < n
  · rw [gw_get? hk] at h
    exact ⟨hk, (Option.some.inj h).symm⟩
  · rw [gw_none hk] at h
    cases h
def gw_inj (n : Nat) (α : Nat → Nat) : Prop := ∀ i j : Nat, i < n → j < n → α i = α j → i = j
def gw_A (n : Nat) (α : Nat → Nat) : Nat → Prop := fun q => ∃ k : Nat, k < n ∧ q = α k
theorem gw_D {n : Nat} {α : Nat → Nat} (h : gw_inj n α) (cf : Nat → va_E) : va_D (gw_A n α) (gw_W n α cf) := by
  refine ⟨fun i j p q hi hj e => ?_, fun k q hk => ?_⟩
  · obtain ⟨h1, rfl⟩ := gw_of hi
    obtain ⟨h2, rfl⟩ := gw_of hj
    exact h i j h1 h2 e
  · obtain ⟨h1, rfl⟩ := gw_of hk
    exact ⟨k, h1, rfl⟩
theorem gw_set {n : Nat} {α : Nat → Nat} {cf cf' : Nat → va_E} {k : Nat} {e : va_E} (hc : cf' k = e) (ho : ∀ j, j ≠ k → cf' j = cf j) : (gw_W n α cf).set k (α k, e) = gw_W n α cf' := by
  apply List.ext_getElem?
  intro i
  by_cases hn : i < n
  · by_cases hi : i = k
    · subst hi
      rw [List.getElem?_set_self (by simp [gw_W, hn]), gw_get? hn, hc]
    · rw [List.getElem?_set_ne (Ne.symm hi), gw_get? hn, gw_get? hn, ho i hi]
  · rw [gw_none hn]
    apply List.getElem?_eq_none
    simp [gw_W]; omega
theorem gw_congr {n : Nat} {α : Nat → Nat} {cf cf' : Nat → va_E} (h : ∀ k, k < n → cf k = cf' k) : gw_W n α cf = gw_W n α cf' := by
  apply List.ext_getElem?
  intro i
  by_cases hn : i < n
  · rw [gw_get? hn, gw_get? hn, h i hn]
  · rw [gw_none hn, gw_none hn]
section GW
variable {p : Program} {l : Launch} {e : Env} {R : Room} {s : State} {m : MethodId} {args : Array Value} {below : List Frame} {meth : Method} {c : Code} {H : Heap} {locs : List Loc} {cells slots : Nat} {Q : State → Prop}
variable {cc : ByteArray} {pc : Nat} {ls : Array Slot} {rest : List Value} {D : va_G} {cl : List vw_C} {tys : List (ClassId × FieldType)} {H0 : Heap} {n : Nat} {α : Nat → Nat} {cf : Nat → va_E}
/-- getfield of cell k0, field k -/
theorem gw_get (hexec : p.tables.exec = Jvm.exec) (hb : c.code = cc) {own ref C : String} {T : u_T} {N ci index : Nat} {Ts : List Cond} (hts : ∀ w ∈ Ts, w.before args s = true) (hin : ∀ w ∈ u_ws C T N, w ∈ Ts) (hown : s.vm.findClass own = some m.cls) (hK : va_K D cl tys s) (hP : va_P D cl (gw_W n α cf) H) (k0 : Nat) (hk0 : k0 < n) {fs : List Value} (he : cf k0 = .inr (ci, fs)) (hc : cl[ci]? = some (C, T, N)) (k : Nat) (hk : k < N) (hlink : (Cond.fieldLink own index ref (T k).2.1 (T k).2.2.1).before args s = true) (hsame : ∀ x, s.fieldFound? (T k).1 (T k).2.1 (T k).2.2.1 = some x → s.fieldFound? ref (T k).2.1 (T k).2.2.1 = some x) {v : Value} (hv : fs[k]? = some v) (hdg : decode cc pc = .ok (.getfield index, 3))
    (kk : W p l e R s m args below meth c H locs cells slots Q (F0 m (pc + 3) ls (v :: rest))) : W p l e R s m args below meth c H locs cells slots Q (F0 m pc ls (.ref (α k0) :: rest)) :=
  va_get hexec hb hts hin hown hK hP k0 (fs := fs) (by rw [gw_get? hk0, he]) hc k hk hlink hsame hv hdg kk
/-- the same of a nest mate's -/
theorem gw_getN (hexec : p.tables.exec = Jvm.exec) (hb : c.code = cc) {own ref C host : String} {T : u_T} {N ci index : Nat} {Ts : List Cond} (hts : ∀ w ∈ Ts, w.before args s = true) (hin : ∀ w ∈ u_ws C T N, w ∈ Ts) (hown : s.vm.findClass own = some m.cls) (hK : va_K D cl tys s) (hP : va_P D cl (gw_W n α cf) H) (k0 : Nat) (hk0 : k0 < n) {fs : List Value} (he : cf k0 = .inr (ci, fs)) (hc : cl[ci]? = some (C, T, N)) (k : Nat) (hk : k < N) (hlink : va_Nw (Cond.fieldLinkNest own index ref (T k).2.1 (T k).2.2.1 host) s) (hsame : ∀ x, s.fieldFound? (T k).1 (T k).2.1 (T k).2.2.1 = some x → s.fieldFound? ref (T k).2.1 (T k).2.2.1 = some x) {v : Value} (hv : fs[k]? = some v) (hdg : decode cc pc = .ok (.getfield index, 3))
    (kk : W p l e R s m args below meth c H locs cells slots Q (F0 m (pc + 3) ls (v :: rest))) : W p l e R s m args below meth c H locs cells slots Q (F0 m pc ls (.ref (α k0) :: rest)) :=
  va_getN hexec hb hts hin hown hK hP k0 (fs := fs) (by rw [gw_get? hk0, he]) hc k hk (va_Nw.use rfl hlink) hsame hv hdg kk
theorem gw_put (hexec : p.tables.exec = Jvm.exec) (hb : c.code = cc) {own ref C : String} {T : u_T} {N ci index : Nat} {Ts : List Cond} (hts : ∀ w ∈ Ts, w.before args s = true) (hin : ∀ w ∈ u_ws C T N, w ∈ Ts) (ty0 : Nat → FieldType) (hty : ∀ k, k < N → parseFieldDescriptor (T k).2.2.1 = some (ty0 k)) (hnm : ∀ a, a < N → ∀ b, b < N → a ≠ b → (T a).2.1 ≠ (T b).2.1) (hown : s.vm.findClass own = some m.cls) (hK : va_K D cl tys s) (hP : va_P D cl (gw_W n α cf) H) (hj : gw_inj n α) (hS0 : va_S (gw_A n α) H0 H locs) (k0 : Nat) (hk0 : k0 < n) {fs : List Value} (he : cf k0 = .inr (ci, fs)) (hc : cl[ci]? = some (C, T, N)) (k : Nat) (hk : k < N) (hlink : (Cond.fieldLink own index ref (T k).2.1 (T k).2.2.1).before args s = true) (hsame : ∀ x, s.fieldFound? (T k).1 (T k).2.1 (T k).2.2.1 = some x → s.fieldFound? ref (T k).2.1 (T k).2.2.1 = some x) (hfin : (T k).2.2.2 = false) {ty : FieldType} {v : Value} (hd : parseFieldDescriptor (T k).2.2.1 = some ty) (hn : narrow ty v = v) (hfit : fits ty v = true) (hl : k < fs.length) {cf' : Nat → va_E} (hc' : cf' k0 = .inr (ci, fs.set k v)) (ho : ∀ j, j ≠ k0 → cf' j = cf j)
    (hdg : decode cc pc = .ok (.putfield index, 3)) (kk : ∀ (H1 : Heap) (locs1 : List Loc), va_P D cl (gw_W n α cf') H1 → va_S (gw_A n α) H0 H1 locs1 → W p l e R s m args below meth c H1 locs1 cells slots Q (F0 m (pc + 3) ls rest)) : W p l e R s m args below meth c H locs cells slots Q (F0 m pc ls (v :: .ref (α k0) :: rest)) :=
  va_put hexec hb hts hin ty0 hty hnm hown hK hP (gw_D hj cf) hS0 k0 (fs := fs) (by rw [gw_get? hk0, he]) hc k hk hlink hsame hfin hd hn hfit hl hdg (fun H1 locs1 hP1 _ hS1 => kk H1 locs1 (by rw [gw_set hc' ho] at hP1; exact hP1) hS1)
theorem gw_putN (hexec : p.tables.exec = Jvm.exec) (hb : c.code = cc) {own ref C host : String} {T : u_T} {N ci index : Nat} {Ts : List Cond} (hts : ∀ w ∈ Ts, w.before args s = true) (hin : ∀ w ∈ u_ws C T N, w ∈ Ts) (ty0 : Nat → FieldType) (hty : ∀ k, k < N → parseFieldDescriptor (T k).2.2.1 = some (ty0 k)) (hnm : ∀ a, a < N → ∀ b, b < N → a ≠ b → (T a).2.1 ≠ (T b).2.1) (hown : s.vm.findClass own = some m.cls) (hK : va_K D cl tys s) (hP : va_P D cl (gw_W n α cf) H) (hj : gw_inj n α) (hS0 : va_S (gw_A n α) H0 H locs) (k0 : Nat) (hk0 : k0 < n) {fs : List Value} (he : cf k0 = .inr (ci, fs)) (hc : cl[ci]? = some (C, T, N)) (k : Nat) (hk : k < N) (hlink : va_Nw (Cond.fieldLinkNest own index ref (T k).2.1 (T k).2.2.1 host) s) (hsame : ∀ x, s.fieldFound? (T k).1 (T k).2.1 (T k).2.2.1 = some x → s.fieldFound? ref (T k).2.1 (T k).2.2.1 = some x) (hfin : (T k).2.2.2 = false) {ty : FieldType} {v : Value} (hd : parseFieldDescriptor (T k).2.2.1 = some ty) (hn : narrow ty v = v) (hfit : fits ty v = true) (hl : k < fs.length) {cf' : Nat → va_E} (hc' : cf' k0 = .inr (ci, fs.set k v)) (ho : ∀ j, j ≠ k0 → cf' j = cf j)
    (hdg : decode cc pc = .ok (.putfield index, 3)) (kk : ∀ (H1 : Heap) (locs1 : List Loc), va_P D cl (gw_W n α cf') H1 → va_S (gw_A n α) H0 H1 locs1 → W p l e R s m args below meth c H1 locs1 cells slots Q (F0 m (pc + 3) ls rest)) : W p l e R s m args below meth c H locs cells slots Q (F0 m pc ls (v :: .ref (α k0) :: rest)) :=
  va_putN hexec hb hts hin ty0 hty hnm hown hK hP (gw_D hj cf) hS0 k0 (fs := fs) (by rw [gw_get? hk0, he]) hc k hk (va_Nw.use rfl hlink) hsame hfin hd hn hfit hl hdg (fun H1 locs1 hP1 _ hS1 => kk H1 locs1 (by rw [gw_set hc' ho] at hP1; exact hP1) hS1)
theorem gw_iald (hexec : p.tables.exec = Jvm.exec) (hb : c.code = cc) (hK : va_K D cl tys s) (hP : va_P D cl (gw_W n α cf) H) (k0 t0 : Nat) (hk0 : k0 < n) {cA : ClassId} {N : Nat} {f : Nat → Int32} (he : cf k0 = .inl (cA, N, .inl f)) (ht : tys[t0]? = some (cA, .int)) {i : Int32} (hin : vp_in i N) (hdg : decode cc pc = .ok (.iaload, 1))
    (kk : W p l e R s m args below meth c H locs cells slots Q (F0 m (pc + 1) ls (.int (f i.toNatClampNeg) :: rest))) : W p l e R s m args below meth c H locs cells slots Q (F0 m pc ls (.int i :: .ref (α k0) :: rest)) :=
  va_iald hexec hb hK hP k0 t0 (by rw [gw_get? hk0, he]) ht hin hdg kk
theorem gw_bald (hexec : p.tables.exec = Jvm.exec) (hb : c.code = cc) (hK : va_K D cl tys s) (hP : va_P D cl (gw_W n α cf) H) (k0 t0 : Nat) (hk0 : k0 < n) {cA : ClassId} {N : Nat} {f : Nat → Int32} (he : cf k0 = .inl (cA, N, .inl f)) (ht : tys[t0]? = some (cA, .byte)) {i : Int32} (hin : vp_in i N) (hdg : decode cc pc = .ok (.baload, 1))
    (kk : W p l e R s m args below meth c H locs cells slots Q (F0 m (pc + 1) ls (.int (f i.toNatClampNeg) :: rest))) : W p l e R s m args below meth c H locs cells slots Q (F0 m pc ls (.int i :: .ref (α k0) :: rest)) :=
  va_bald hexec hb hK hP k0 t0 (by rw [gw_get? hk0, he]) ht hin hdg kk
theorem gw_zald (hexec : p.tables.exec = Jvm.exec) (hb : c.code = cc) (hK : va_K D cl tys s) (hP : va_P D cl (gw_W n α cf) H) (k0 t0 : Nat) (hk0 : k0 < n) {cA : ClassId} {N : Nat} {f : Nat → Int32} (he : cf k0 = .inl (cA, N, .inl f)) (ht : tys[t0]? = some (cA, .boolean)) {i : Int32} (hin : vp_in i N) (hdg : decode cc pc = .ok (.baload, 1))
    (kk : W p l e R s m args below meth c H locs cells slots Q (F0 m (pc + 1) ls (.int (f i.toNatClampNeg) :: rest))) : W p l e R s m args below meth c H locs cells slots Q (F0 m pc ls (.int i :: .ref (α k0) :: rest)) :=
  va_zald hexec hb hK hP k0 t0 (by rw [gw_get? hk0, he]) ht hin hdg kk
theorem gw_aald (hexec : p.tables.exec = Jvm.exec) (hb : c.code = cc) (hK : va_K D cl tys s) (hP : va_P D cl (gw_W n α cf) H) (k0 t0 : Nat) (hk0 : k0 < n) {cA : ClassId} {C : String} {N : Nat} {f : Nat → Option Nat} (he : cf k0 = .inl (cA, N, .inr (.inr (.inr (.inr f))))) (ht : tys[t0]? = some (cA, .object C)) {i : Int32} (hin : vp_in i N) {k : Nat} (hf : f i.toNatClampNeg = some (α k)) (hdg : decode cc pc = .ok (.aaload, 1))
    (kk : W p l e R s m args below meth c H locs cells slots Q (F0 m (pc + 1) ls (.ref (α k) :: rest))) : W p l e R s m args below meth c H locs cells slots Q (F0 m pc ls (.int i :: .ref (α k0) :: rest)) :=
  va_aldq hexec hb hK hP k0 t0 (by rw [gw_get? hk0, he]) ht hin hdg (by rw [hf]; exact kk)
theorem gw_iast (hexec : p.tables.exec = Jvm.exec) (hb : c.code = cc) (hK : va_K D cl tys s) (hP : va_P D cl (gw_W n α cf) H) (hj : gw_inj n α) (hS : va_S (gw_A n α) H0 H locs) (k0 t0 : Nat) (hk0 : k0 < n) {cA : ClassId} {N : Nat} {f : Nat → Int32} (he : cf k0 = .inl (cA, N, .inl f)) (ht : tys[t0]? = some (cA, .int)) {i : Int32} {x : Int32} (hin : vp_in i N) {cf' : Nat → va_E} (hc' : cf' k0 = .inl (cA, N, .inl (upd f i.toNatClampNeg x))) (ho : ∀ j, j ≠ k0 → cf' j = cf j) (hdg : decode cc pc = .ok (.iastore, 1))
    (kk : ∀ (H1 : Heap) (locs1 : List Loc), va_P D cl (gw_W n α cf') H1 → va_S (gw_A n α) H0 H1 locs1 → W p l e R s m args below meth c H1 locs1 cells slots Q (F0 m (pc + 1) ls rest)) : W p l e R s m args below meth c H locs cells slots Q (F0 m pc ls (.int x :: .int i :: .ref (α k0) :: rest)) :=
  va_iast hexec hb hK hP (gw_D hj cf) hS k0 t0 (by rw [gw_get? hk0, he]) ht hin hdg (fun H1 locs1 hP1 _ hS1 => kk H1 locs1 (by rw [gw_set hc' ho] at hP1; exact hP1) hS1)
theorem gw_bast (hexec : p.tables.exec = Jvm.exec) (hb : c.code = cc) (hK : va_K D cl tys s) (hP : va_P D cl (gw_W n α cf) H) (hj : gw_inj n α) (hS : va_S (gw_A n α) H0 H locs) (k0 t0 : Nat) (hk0 : k0 < n) {cA : ClassId} {N : Nat} {f : Nat → Int32} (he : cf k0 = .inl (cA, N, .inl f)) (ht : tys[t0]? = some (cA, .byte)) {i : Int32} {x : Int32} (hin : vp_in i N) {cf' : Nat → va_E} (hc' : cf' k0 = .inl (cA, N, .inl (upd f i.toNatClampNeg (vp_nar .byte x)))) (ho : ∀ j, j ≠ k0 → cf' j = cf j) (hdg : decode cc pc = .ok (.bastore, 1))
    (kk : ∀ (H1 : Heap) (locs1 : List Loc), va_P D cl (gw_W n α cf') H1 → va_S (gw_A n α) H0 H1 locs1 → W p l e R s m args below meth c H1 locs1 cells slots Q (F0 m (pc + 1) ls rest)) : W p l e R s m args below meth c H locs cells slots Q (F0 m pc ls (.int x :: .int i :: .ref (α k0) :: rest)) :=
  va_bast hexec hb hK hP (gw_D hj cf) hS k0 t0 (by rw [gw_get? hk0, he]) ht hin hdg (fun H1 locs1 hP1 _ hS1 => kk H1 locs1 (by rw [gw_set hc' ho] at hP1; exact hP1) hS1)
theorem gw_zast (hexec : p.tables.exec = Jvm.exec) (hb : c.code = cc) (hK : va_K D cl tys s) (hP : va_P D cl (gw_W n α cf) H) (hj : gw_inj n α) (hS : va_S (gw_A n α) H0 H locs) (k0 t0 : Nat) (hk0 : k0 < n) {cA : ClassId} {N : Nat} {f : Nat → Int32} (he : cf k0 = .inl (cA, N, .inl f)) (ht : tys[t0]? = some (cA, .boolean)) {i : Int32} {x : Int32} (hin : vp_in i N) {cf' : Nat → va_E} (hc' : cf' k0 = .inl (cA, N, .inl (upd f i.toNatClampNeg (vp_nar .boolean x)))) (ho : ∀ j, j ≠ k0 → cf' j = cf j) (hdg : decode cc pc = .ok (.bastore, 1))
    (kk : ∀ (H1 : Heap) (locs1 : List Loc), va_P D cl (gw_W n α cf') H1 → va_S (gw_A n α) H0 H1 locs1 → W p l e R s m args below meth c H1 locs1 cells slots Q (F0 m (pc + 1) ls rest)) : W p l e R s m args below meth c H locs cells slots Q (F0 m pc ls (.int x :: .int i :: .ref (α k0) :: rest)) :=
  va_zast hexec hb hK hP (gw_D hj cf) hS k0 t0 (by rw [gw_get? hk0, he]) ht hin hdg (fun H1 locs1 hP1 _ hS1 => kk H1 locs1 (by rw [gw_set hc' ho] at hP1; exact hP1) hS1)
theorem gw_aast (hexec : p.tables.exec = Jvm.exec) (hb : c.code = cc) (hK : va_K D cl tys s) (hP : va_P D cl (gw_W n α cf) H) (hj : gw_inj n α) (hS : va_S (gw_A n α) H0 H locs) (k0 t0 k1 ci : Nat) (hk0 : k0 < n) (hk1 : k1 < n) {cA : ClassId} {r : vw_C} {N : Nat} {vs : List Value} {f : Nat → Option Nat} (he : cf k0 = .inl (cA, N, .inr (.inr (.inr (.inr f))))) (ht : tys[t0]? = some (cA, .object r.1)) (hv : cf k1 = .inr (ci, vs)) (hc : cl[ci]? = some r) {i : Int32} (hin : vp_in i N) {cf' : Nat → va_E} (hc' : cf' k0 = .inl (cA, N, .inr (.inr (.inr (.inr (va_up f i.toNatClampNeg (some (α k1)))))))) (ho : ∀ j, j ≠ k0 → cf' j = cf j) (hdg : decode cc pc = .ok (.aastore, 1))
    (kk : ∀ (H1 : Heap) (locs1 : List Loc), va_P D cl (gw_W n α cf') H1 → va_S (gw_A n α) H0 H1 locs1 → W p l e R s m args below meth c H1 locs1 cells slots Q (F0 m (pc + 1) ls rest)) : W p l e R s m args below meth c H locs cells slots Q (F0 m pc ls (.ref (α k1) :: .int i :: .ref (α k0) :: rest)) :=
  va_astq hexec hb hK hP (gw_D hj cf) hS k0 t0 k1 ci (by rw [gw_get? hk0, he]) ht (vs := vs) (by rw [gw_get? hk1, hv]) hc hin hdg (fun H1 locs1 hP1 _ hS1 => kk H1 locs1 (by rw [gw_set hc' ho] at hP1; exact hP1) hS1)
theorem gw_recv (hK : va_K D cl tys s) (hP : va_P D cl (gw_W n α cf) H) (k0 : Nat) (hk0 : k0 < n) {ci : Nat} {fs : List Value} (he : cf k0 = .inr (ci, fs)) {q : vw_C} (hc : cl[ci]? = some q) : ∃ cell : Cell, H[α k0]? = some cell ∧ cell.vm.isStatics = false ∧ s.vm.findClass q.1 = some cell.cls :=
  va_recv hK hP hc (q0 := k0) (fs := fs) (by rw [gw_get? hk0, he])
/-- behind a call that makes no cell and changes none outside A -/
theorem gw_calli {S : Type} {post : Int32 → S → Prop} {B : S → State → Prop} {A : Nat → Prop} {st0 : List Value} {a : Array Value} (hr : va_Run p l e R s m args below meth c H locs cells slots 0 0 (F0 m pc ls st0) rest (va_Qi post B A a) A) (hS : va_S A H0 H locs)
    (kk : ∀ (r : Int32) (u : S) (t : State) (locs1 : List Loc), post r u → B u t → va_S A H0 t.heap locs1 → W p l e R s m args below meth c t.heap locs1 cells slots Q (F0 m (pc + 3) ls (.int r :: rest))) : W p l e R s m args below meth c H locs cells slots Q (F0 m pc ls st0) :=
  va_calli hr hS (fun _ _ h => h) (fun _ h => h) (fun r u t H1 locs1 ht _ hp hb _ _ hS1 => by subst ht; exact kk r u t locs1 hp hb hS1)
theorem gw_callv {S : Type} {post : S → Prop} {B : S → State → Prop} {A : Nat → Prop} {st0 : List Value} {a : Array Value} (hr : va_Run p l e R s m args below meth c H locs cells slots 0 0 (F0 m pc ls st0) rest (va_Qv post B A a) A) (hS : va_S A H0 H locs)
    (kk : ∀ (u : S) (t : State) (locs1 : List Loc), post u → B u t → va_S A H0 t.heap locs1 → W p l e R s m args below meth c t.heap locs1 cells slots Q (F0 m (pc + 3) ls rest)) : W p l e R s m args below meth c H locs cells slots Q (F0 m pc ls st0) :=
  va_callv hr hS (fun _ _ h => h) (fun _ h => h) (fun u t H1 locs1 ht _ hp hb _ _ hS1 => by subst ht; exact kk u t locs1 hp hb hS1)
theorem gw_callr {S : Type} {post : S → Prop} {B : S → Nat → State → Prop} {A : Nat → Prop} {st0 : List Value} {a : Array Value} (hr : va_Run p l e R s m args below meth c H locs cells slots 0 0 (F0 m pc ls st0) rest (va_Qr post B A a) A) (hS : va_S A H0 H locs)
    (kk : ∀ (u : S) (ra : Nat) (t : State) (locs1 : List Loc), post u → B u ra t → va_S A H0 t.heap locs1 → W p l e R s m args below meth c t.heap locs1 cells slots Q (F0 m (pc + 3) ls (.ref ra :: rest))) : W p l e R s m args below meth c H locs cells slots Q (F0 m pc ls st0) :=
  va_callr hr hS (fun _ _ h => h) (fun _ h => h) (fun u ra t H1 locs1 ht _ hp hb _ _ hS1 => by subst ht; exact kk u ra t locs1 hp hb hS1)
/-- a method's ends -/
theorem gw_iret {S : Type} {post : Int32 → S → Prop} {B : S → State → Prop} {A : Nat → Prop} {v : Int32} (u : S) (hexec : p.tables.exec = Jvm.exec) (hb : c.code = cc) (hr : meth.sig.returnType = some .int) (hlocks : meth.locks = false) (hB : ∀ t : State, t.heap = H → B u t) (hS : va_S A s.heap H locs) (hdg : decode cc pc = .ok (.ireturn, 1)) (hp : post v u) : W p l e R s m args below meth c H locs cells slots (MQ below (va_Qi post B A) args s cells slots A) (F0 m pc ls [.int v]) :=
  W.iret hexec hb hr (fun t ht _ => ⟨⟨v, u, rfl, hp, hB t ht⟩, hS.F ht⟩) hS.2.2 hdg hlocks
theorem gw_nz {v : Int32} (h : v = 0 ∨ v = 1) : narrow .boolean (.int v) = .int v := by
  rcases h with rfl | rfl <;> decide
theorem gw_fz {v : Int32} (h : v = 0 ∨ v = 1) : fits .boolean (.int v) = true := by
  rcases h with rfl | rfl <;> decide
theorem gw_zret {S : Type} {post : Int32 → S → Prop} {B : S → State → Prop} {A : Nat → Prop} {v : Int32} (u : S) (hexec : p.tables.exec = Jvm.exec) (hb : c.code = cc) (hr : meth.sig.returnType = some .boolean) (hlocks : meth.locks = false) (hz : v = 0 ∨ v = 1) (hB : ∀ t : State, t.heap = H → B u t) (hS : va_S A s.heap H locs) (hdg : decode cc pc = .ok (.ireturn, 1)) (hp : post v u) : W p l e R s m args below meth c H locs cells slots (MQ below (va_Qi post B A) args s cells slots A) (F0 m pc ls [.int v]) :=
  W.zret hexec hb hr (gw_nz hz) (fun t ht _ => ⟨⟨v, u, rfl, hp, hB t ht⟩, hS.F ht⟩) hS.2.2 hdg hlocks
theorem gw_vret {S : Type} {post : S → Prop} {B : S → State → Prop} {A : Nat → Prop} (u : S) (hexec : p.tables.exec = Jvm.exec) (hb : c.code = cc) (hr : meth.sig.returnType = none) (hlocks : meth.locks = false) (hB : ∀ t : State, t.heap = H → B u t) (hS : va_S A s.heap H locs) (hdg : decode cc pc = .ok (.return_, 1)) (hp : post u) : W p l e R s m args below meth c H locs cells slots (MQ below (va_Qv post B A) args s cells slots A) (F0 m pc ls []) :=
  W.vret hexec hb hr (fun t ht _ => ⟨⟨u, rfl, hp, hB t ht⟩, hS.F ht⟩) hS.2.2 hdg hlocks
theorem gw_aret {S : Type} {post : S → Prop} {B : S → Nat → State → Prop} {A : Nat → Prop} {v : Nat} {C : String} (u : S) (hexec : p.tables.exec = Jvm.exec) (hb : c.code = cc) (hr : meth.sig.returnType = some (.object C)) (hlocks : meth.locks = false) (hB : ∀ t : State, t.heap = H → B u v t) (hS : va_S A s.heap H locs) (hdg : decode cc pc = .ok (.areturn, 1)) (hp : post u) : W p l e R s m args below meth c H locs cells slots (MQ below (va_Qr post B A) args s cells slots A) (F0 m pc ls [.ref v]) :=
  W.aret hexec hb hr (Or.inl ⟨C, rfl⟩) (Or.inr ⟨v, rfl⟩) (fun t ht _ => ⟨⟨u, v, rfl, hp, hB t ht⟩, hS.F ht⟩) hS.2.2 hdg hlocks
end GW
theorem up2_s {d : Nat → Nat → Int32} {k j : Nat} {v : Int32} : up2 d k j v k j = v := by rw [up2_at, if_pos ⟨rfl, rfl⟩]
theorem up2_j {d : Nat → Nat → Int32} {k j j' : Nat} {v : Int32} (h : j' ≠ j) : up2 d k j v k j' = d k j' := by rw [up2_at, if_neg (fun z => h z.2)]
theorem up2_k {d : Nat → Nat → Int32} {k j k' j' : Nat} {v : Int32} (h : k' ≠ k) : up2 d k j v k' j' = d k' j' := by rw [up2_ne h]
section GWC
variable {p : Program} {l : Launch} {e : Env} {R : Room} {s : State} {m : MethodId} {args : Array Value} {below : List Frame} {meth : Method} {c : Code} {H : Heap} {locs : List Loc} {cells slots : Nat} {Q : State → Prop}
variable {cc : ByteArray} {pc : Nat} {ls : Array Slot} {rest : List Value} {D : va_G} {cl : List vw_C} {tys : List (ClassId × FieldType)} {H0 : Heap} {n : Nat} {α : Nat → Nat} {cf : Nat → va_E}
/-- System.arraycopy between two arrays of bytes, both from place 0 -/
theorem gw_copyb (hexec : p.tables.exec = Jvm.exec) (hb : c.code = cc) (hml : c.maxLocals = ls.size) {own : String} {index : Nat} (hown : s.vm.findClass own = some m.cls) (hlink : (Cond.methodLink own index arraycopyName).before args s = true) (hnat : (Cond.native arraycopyName).before args s = true) (hstat : (Cond.static arraycopyName).before args s = true) (hini : (Cond.initialized "java/lang/System").before args s = true)
    (hK : va_K D cl tys s) (hP : va_P D cl (gw_W n α cf) H) (hj : gw_inj n α) (hS : va_S (gw_A n α) H0 H locs) (k0 k1 t0 t1 : Nat) (hk0 : k0 < n) (hk1 : k1 < n) {c0 c1 : ClassId} {n0 n1 : Nat} {f g : Nat → Int32} (he0 : cf k0 = .inl (c0, n0, .inl f)) (he1 : cf k1 = .inl (c1, n1, .inl g)) (ht0 : tys[t0]? = some (c0, .byte)) (ht1 : tys[t1]? = some (c1, .byte))
    {z : Nat} (hz : z < 2 ^ 31) (h4 : z ≤ n0) (h5 : z ≤ n1) (hfit : ∀ i, i < z → fits .byte (.int (f i)) = true)
    (hframes : 1 ≤ R.frames) (hlocals : (rest.map fun v => v.category).sum + (nativeFrameWords "java/lang/System" "arraycopy" 5 + 11) ≤ R.locals) {cf' : Nat → va_E} (hc' : cf' k1 = .inl (c1, n1, .inl (va_cpy f g 0 0 z))) (ho : ∀ j, j ≠ k1 → cf' j = cf j) (hdg : decode cc pc = .ok (.invokestatic index, 3))
    (kk : ∀ (H1 : Heap) (locs1 : List Loc), va_P D cl (gw_W n α cf') H1 → va_S (gw_A n α) H0 H1 locs1 → W p l e R s m args below meth c H1 locs1 cells slots Q (F0 m (pc + 3) ls rest)) : W p l e R s m args below meth c H locs cells slots Q (F0 m pc ls (.int (nI z) :: .int 0 :: .ref (α k1) :: .int 0 :: .ref (α k0) :: rest)) := by
  have e0 : (0 : Int32).toNatClampNeg = 0 := by decide
  refine va_copyi (ty := .byte) (sp := 0) (dp := 0) (n := nI z) hexec hb hml hown hlink hnat hstat hini hK hP (gw_D hj cf) hS k0 k1 t0 t1 (by rw [gw_get? hk0, he0]) (by rw [gw_get? hk1, he1]) ht0 ht1 rfl (by decide) (by decide) (nI_pos hz) (by rw [nI_clamp hz, e0]; omega) (by rw [nI_clamp hz, e0]; omega) (fun i hi => by rw [nI_clamp hz] at hi; rw [e0, Nat.zero_add]; exact hfit i hi) hframes hlocals hdg (fun H1 locs1 hP1 _ hS1 => kk H1 locs1 ?_ hS1)
  rw [nI_clamp hz, e0, gw_set hc' ho] at hP1
  exact hP1
end GWC
/-! making such a world -/
theorem gw_push {n : Nat} {α : Nat → Nat} {cf : Nat → va_E} {q : Nat} {e : va_E} : gw_W n α cf ++ [(q, e)] = gw_W (n + 1) (va_up α n q) (va_up cf n e) := by
  unfold gw_W
  rw [List.range_succ, List.map_append]
  congr 1
  · apply List.map_congr_left
    intro k hk
    have h : k ≠ n := by have := List.mem_range.mp hk; omega
    rw [va_up_ne _ _ h, va_up_ne _ _ h]
  · simp [va_up_self]
theorem gw_inj_of {A : Nat → Prop} {n : Nat} {α : Nat → Nat} {cf : Nat → va_E} (h : va_D A (gw_W n α cf)) : gw_inj n α := fun i j hi hj e => h.1 i j _ _ (gw_get? hi) (gw_get? hj) e
theorem gw_A_of {A : Nat → Prop} {n : Nat} {α : Nat → Nat} {cf : Nat → va_E} (h : va_D A (gw_W n α cf)) : ∀ k, k < n → A (α k) := fun k hk => h.2 k _ (gw_get? hk)
theorem gw_perm {D : va_G} {cl : List vw_C} {n m : Nat} {α : Nat → Nat} {cf : Nat → va_E} {H : Heap} (f : Nat → Nat) (hf : ∀ k, k < m → f k < n) (hP : va_P D cl (gw_W n α cf) H) : va_P D cl (gw_W m (fun k => α (f k)) (fun k => cf (f k))) H := fun k q hk => by
  obtain ⟨h1, rfl⟩ := gw_of hk
  exact hP _ _ (gw_get? (hf k h1))
section GWN
variable {p : Program} {l : Launch} {e : Env} {R : Room} {s : State} {m : MethodId} {args : Array Value} {below : List Frame} {meth : Method} {c : Code} {H : Heap} {locs : List Loc} {cells slots : Nat} {Q : State → Prop}
variable {pc : Nat} {ls : Array Slot} {rest st0 : List Value} {a : Array Value}
/-- behind a call that leaves the heap alone -/
theorem gw_csv {post : Unit → Prop} (hr : va_Run p l e R s m args below meth c H locs cells slots 0 0 (F0 m pc ls st0) rest (va_Sv post a) (fun _ => False)) (kk : W p l e R s m args below meth c H locs cells slots Q (F0 m (pc + 3) ls rest)) : W p l e R s m args below meth c H locs cells slots Q (F0 m pc ls st0) := by
  refine va_csv (post := post) (a := a) ?_ (fun _ => kk)
  intro T hT X
  obtain ⟨v, st₀, t, T', L, h0, X', hL, e1, -, hq, st⟩ := hr T hT X
  exact ⟨v, st₀, t, T', L, h0, X', hL, e1, hq, st⟩
end GWN
/-! two worlds side by side: a call that works in A alone leaves the other as it was -/
theorem gw_keep {D : va_G} {cl : List vw_C} {n : Nat} {α : Nat → Nat} {cf : Nat → va_E} {H H1 : Heap} {A : Nat → Prop} (hP : va_P D cl (gw_W n α cf) H) (hk : ∀ q : Nat, q < H.size → ¬ A q → H1[q]? = H[q]?) (ho : ∀ k, k < n → ¬ A (α k)) : va_P D cl (gw_W n α cf) H1 :=
  hP.kept (fun k q hq => by
    have hl := (hP k q hq).lt
    obtain ⟨h, rfl⟩ := gw_of hq
    exact hk _ hl (ho k h))
section GWF
variable {p : Program} {l : Launch} {e : Env} {R : Room} {s : State} {m : MethodId} {args : Array Value} {below : List Frame} {meth : Method} {c : Code} {H H0 : Heap} {locs : List Loc} {cells slots : Nat} {Q : State → Prop}
variable {pc : Nat} {ls : Array Slot} {rest st0 : List Value} {a : Array Value}
theorem gw_calliF {S : Type} {post : Int32 → S → Prop} {B : S → State → Prop} {A A0 : Nat → Prop} (hr : va_Run p l e R s m args below meth c H locs cells slots 0 0 (F0 m pc ls st0) rest (va_Qi post B A a) A) (hS : va_S A0 H0 H locs) (hA : ∀ q, A q → A0 q)
    (kk : ∀ (r : Int32) (u : S) (t : State) (locs1 : List Loc), post r u → B u t → (∀ q : Nat, q < H.size → ¬ A q → t.heap[q]? = H[q]?) → va_S A0 H0 t.heap locs1 → W p l e R s m args below meth c t.heap locs1 cells slots Q (F0 m (pc + 3) ls (.int r :: rest))) : W p l e R s m args below meth c H locs cells slots Q (F0 m pc ls st0) :=
  va_calli hr hS (fun q _ h => hA q h) (fun q h => hA q h) (fun r u t H1 locs1 ht _ hp hb _ hk hS1 => by subst ht; exact kk r u t locs1 hp hb hk hS1)
end GWF

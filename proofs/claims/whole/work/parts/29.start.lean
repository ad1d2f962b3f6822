/-! THE START: both objects made, the world of zeroes -/
def cellsC (h0 : Nat) (u : Nat → Nat) (cI cZ cQ : ClassId) : va_W := [(h0, .inr (6, [.ref (u 0), .ref (u 1), .ref (u 2), .ref (u 3), .ref (u 4), .ref (u 5), .int 0])), ((u 0), .inr (2, [.ref (u 6), .ref (u 7), .int 0])), ((u 1), .inr (5, [.ref (u 16), .ref (u 17), .ref (u 18), .ref (u 19), .ref (u 20), .int 0])), ((u 2), .inr (4, [.ref (u 21), .ref (u 22), .int 0])), ((u 3), .inr (1, [.ref (u 23), .ref (u 24), .ref (u 25), .ref (u 26), .ref (u 27), .ref (u 28), .ref (u 29), .int 0])), ((u 4), .inr (3, [.ref (u 30), .ref (u 31), .ref (u 32), .ref (u 33), .int 0])), ((u 5), .inr (0, [.ref (u 34), .ref (u 45), .int 0])), ((u 6), .inl (cI, 8, .inl (fun _ => 0))), ((u 7), .inl (cQ, 8, .inr (.inr (.inr (.inr (fun i => if i < 8 then some (u (8 + i)) else none)))))), ((u 8), .inl (cI, 5, .inl (fun _ => 0))), ((u 9), .inl (cI, 5, .inl (fun _ => 0))), ((u 10), .inl (cI, 5, .inl (fun _ => 0))), ((u 11), .inl (cI, 5, .inl (fun _ => 0))), ((u 12), .inl (cI, 5, .inl (fun _ => 0))), ((u 13), .inl (cI, 5, .inl (fun _ => 0))), ((u 14), .inl (cI, 5, .inl (fun _ => 0))), ((u 15), .inl (cI, 5, .inl (fun _ => 0))), ((u 16), .inl (cI, 6, .inl (fun _ => 0))), ((u 17), .inl (cI, 6, .inl (fun _ => 0))), ((u 18), .inl (cI, 6, .inl (fun _ => 0))), ((u 19), .inl (cI, 6, .inl (fun _ => 0))), ((u 20), .inl (cI, 6, .inl (fun _ => 0))), ((u 21), .inl (cI, 10, .inl (fun _ => 0))), ((u 22), .inl (cI, 10, .inl (fun _ => 0))), ((u 23), .inl (cI, 60, .inl (fun _ => 0))), ((u 24), .inl (cI, 60, .inl (fun _ => 0))), ((u 25), .inl (cZ, 60, .inl (fun _ => 0))), ((u 26), .inl (cI, 60, .inl (fun _ => 0))), ((u 27), .inl (cZ, 60, .inl (fun _ => 0))), ((u 28), .inl (cZ, 60, .inl (fun _ => 0))), ((u 29), .inl (cZ, 60, .inl (fun _ => 0))), ((u 30), .inl (cI, 10, .inl (fun _ => 0))), ((u 31), .inl (cI, 10, .inl (fun _ => 0))), ((u 32), .inl (cI, 10, .inl (fun _ => 0))), ((u 33), .inl (cI, 10, .inl (fun _ => 0))), ((u 34), .inl (cQ, 10, .inr (.inr (.inr (.inr (fun i => if i < 10 then some (u (35 + i)) else none)))))), ((u 35), .inl (cI, 6, .inl (fun _ => 0))), ((u 36), .inl (cI, 6, .inl (fun _ => 0))), ((u 37), .inl (cI, 6, .inl (fun _ => 0))), ((u 38), .inl (cI, 6, .inl (fun _ => 0))), ((u 39), .inl (cI, 6, .inl (fun _ => 0))), ((u 40), .inl (cI, 6, .inl (fun _ => 0))), ((u 41), .inl (cI, 6, .inl (fun _ => 0))), ((u 42), .inl (cI, 6, .inl (fun _ => 0))), ((u 43), .inl (cI, 6, .inl (fun _ => 0))), ((u 44), .inl (cI, 6, .inl (fun _ => 0))), ((u 45), .inl (cQ, 10, .inr (.inr (.inr (.inr (fun i => if i < 10 then some (u (46 + i)) else none)))))), ((u 46), .inl (cI, 6, .inl (fun _ => 0))), ((u 47), .inl (cI, 6, .inl (fun _ => 0))), ((u 48), .inl (cI, 6, .inl (fun _ => 0))), ((u 49), .inl (cI, 6, .inl (fun _ => 0))), ((u 50), .inl (cI, 6, .inl (fun _ => 0))), ((u 51), .inl (cI, 6, .inl (fun _ => 0))), ((u 52), .inl (cI, 6, .inl (fun _ => 0))), ((u 53), .inl (cI, 6, .inl (fun _ => 0))), ((u 54), .inl (cI, 6, .inl (fun _ => 0))), ((u 55), .inl (cI, 6, .inl (fun _ => 0)))]
def cellsM (h0 : Nat) (u : Nat → Nat) (cI cZ cQ : ClassId) : va_W := [(h0, .inr (7, [.int 0, .ref (u 0), .ref (u 1), .int 0, .ref (u 2), .ref (u 3), .int 0, .ref (u 4), .ref (u 5), .int 0, .ref (u 6), .ref (u 7), .ref (u 8), .ref (u 9), .ref (u 10), .ref (u 11), .int 0, .ref (u 12), .ref (u 13), .ref (u 14), .ref (u 15), .ref (u 16), .int 0, .int 0, .ref (u 17), .ref (u 18), .ref (u 19), .ref (u 20), .ref (u 21)])), ((u 0), .inl (cI, 8, .inl (fun _ => 0))), ((u 1), .inl (cI, 40, .inl (fun _ => 0))), ((u 2), .inl (cI, 6, .inl (fun _ => 0))), ((u 3), .inl (cI, 6, .inl (fun _ => 0))), ((u 4), .inl (cI, 10, .inl (fun _ => 0))), ((u 5), .inl (cI, 10, .inl (fun _ => 0))), ((u 6), .inl (cZ, 60, .inl (fun _ => 0))), ((u 7), .inl (cI, 60, .inl (fun _ => 0))), ((u 8), .inl (cI, 60, .inl (fun _ => 0))), ((u 9), .inl (cI, 60, .inl (fun _ => 0))), ((u 10), .inl (cZ, 60, .inl (fun _ => 0))), ((u 11), .inl (cZ, 60, .inl (fun _ => 0))), ((u 12), .inl (cI, 10, .inl (fun _ => 0))), ((u 13), .inl (cI, 10, .inl (fun _ => 0))), ((u 14), .inl (cI, 10, .inl (fun _ => 0))), ((u 15), .inl (cI, 10, .inl (fun _ => 0))), ((u 16), .inl (cI, 60, .inl (fun _ => 0))), ((u 17), .inl (cI, 3600, .inl (fun _ => 0))), ((u 18), .inl (cI, 60, .inl (fun _ => 0))), ((u 19), .inl (cI, 6, .inl (fun _ => 0))), ((u 20), .inl (cI, 6, .inl (fun _ => 0))), ((u 21), .inl (cI, 6, .inl (fun _ => 0)))]
def mkE (q0 : Nat) (u : Nat → Nat) (m0 : Nat) (v : Nat → Nat) (t : Nat) (D : va_G) (cI cZ cQ : ClassId) : En := (fun k => if k = 0 then q0 else if k < 57 then u (k - 1) else if k = 57 then m0 else v (k - 58), t, D, (cI, cZ, cQ))
abbrev wz : W0 := fun _ _ => 0
set_option maxRecDepth 20000 in
theorem wl_list (E : En) (w : W0) : wl E w = [(E.1 0, cE E w 0), (E.1 1, cE E w 1), (E.1 2, cE E w 2), (E.1 3, cE E w 3), (E.1 4, cE E w 4), (E.1 5, cE E w 5), (E.1 6, cE E w 6), (E.1 7, cE E w 7), (E.1 8, cE E w 8), (E.1 9, cE E w 9), (E.1 10, cE E w 10), (E.1 11, cE E w 11), (E.1 12, cE E w 12), (E.1 13, cE E w 13), (E.1 14, cE E w 14), (E.1 15, cE E w 15), (E.1 16, cE E w 16), (E.1 17, cE E w 17), (E.1 18, cE E w 18), (E.1 19, cE E w 19), (E.1 20, cE E w 20), (E.1 21, cE E w 21), (E.1 22, cE E w 22), (E.1 23, cE E w 23), (E.1 24, cE E w 24), (E.1 25, cE E w 25), (E.1 26, cE E w 26), (E.1 27, cE E w 27), (E.1 28, cE E w 28), (E.1 29, cE E w 29), (E.1 30, cE E w 30), (E.1 31, cE E w 31), (E.1 32, cE E w 32), (E.1 33, cE E w 33), (E.1 34, cE E w 34), (E.1 35, cE E w 35), (E.1 36, cE E w 36), (E.1 37, cE E w 37), (E.1 38, cE E w 38), (E.1 39, cE E w 39), (E.1 40, cE E w 40), (E.1 41, cE E w 41), (E.1 42, cE E w 42), (E.1 43, cE E w 43), (E.1 44, cE E w 44), (E.1 45, cE E w 45), (E.1 46, cE E w 46), (E.1 47, cE E w 47), (E.1 48, cE E w 48), (E.1 49, cE E w 49), (E.1 50, cE E w 50), (E.1 51, cE E w 51), (E.1 52, cE E w 52), (E.1 53, cE E w 53), (E.1 54, cE E w 54), (E.1 55, cE E w 55), (E.1 56, cE E w 56), (E.1 57, cE E w 57), (E.1 58, cE E w 58), (E.1 59, cE E w 59), (E.1 60, cE E w 60), (E.1 61, cE E w 61), (E.1 62, cE E w 62), (E.1 63, cE E w 63), (E.1 64, cE E w 64), (E.1 65, cE E w 65), (E.1 66, cE E w 66), (E.1 67, cE E w 67), (E.1 68, cE E w 68), (E.1 69, cE E w 69), (E.1 70, cE E w 70), (E.1 71, cE E w 71), (E.1 72, cE E w 72), (E.1 73, cE E w 73), (E.1 74, cE E w 74), (E.1 75, cE E w 75), (E.1 76, cE E w 76), (E.1 77, cE E w 77), (E.1 78, cE E w 78), (E.1 79, cE E w 79)] := rfl
theorem mkE_u {q0 m0 t : Nat} {u v : Nat → Nat} {D : va_G} {cI cZ cQ : ClassId} {k : Nat} (h1 : 0 < k) (h2 : k < 57) : (mkE q0 u m0 v t D cI cZ cQ).1 k = u (k - 1) := by
  show (if k = 0 then q0 else if k < 57 then u (k - 1) else if k = 57 then m0 else v (k - 58)) = _
  rw [if_neg (by omega), if_pos h2]
theorem cE_rows {q0 m0 t : Nat} {u v : Nat → Nat} {D : va_G} {cI cZ cQ : ClassId} {p n a : Nat} (hs : sh p = (3, n)) (hr : ∀ i, i < n → rfT p i = some (a + 1 + i)) (hn : ∀ i, n ≤ i → rfT p i = none) (ha : a + n ≤ 56) : cE (mkE q0 u m0 v t D cI cZ cQ) wz p = .inl (cQ, n, .inr (.inr (.inr (.inr (fun i => if i < n then some (u (a + i)) else none))))) := by
  rw [cE_3 hs]
  have e : (fun i => (rfT p i).map (mkE q0 u m0 v t D cI cZ cQ).1) = (fun i => if i < n then some (u (a + i)) else none) := by
    funext i
    by_cases h : i < n
    · rw [hr i h, if_pos h]
      show some ((mkE q0 u m0 v t D cI cZ cQ).1 (a + 1 + i)) = _
      rw [mkE_u (by omega) (by omega), show a + 1 + i - 1 = a + i by omega]
    · rw [hn i (by omega), if_neg h]
      rfl
  rw [e]
  rfl
theorem rfT_out {p n : Nat} (h : (rfL.getD p []).length ≤ n) : ∀ i, n ≤ i → rfT p i = none := by
  intro i hi
  unfold rfT
  rw [List.getD_eq_getElem?_getD, List.getElem?_eq_none (by omega)]
  rfl
set_option maxRecDepth 20000 in
set_option maxHeartbeats 4000000 in
theorem wl_start (q0 : Nat) (u : Nat → Nat) (m0 : Nat) (v : Nat → Nat) (t : Nat) (D : va_G) (cI cZ cQ : ClassId) : wl (mkE q0 u m0 v t D cI cZ cQ) wz = cellsC q0 u cI cZ cQ ++ cellsM m0 v cI cZ cQ := by
  have e8 := cE_rows (q0 := q0) (u := u) (m0 := m0) (v := v) (t := t) (D := D) (cI := cI) (cZ := cZ) (cQ := cQ) (p := 8) (n := 8) (a := 8) rfl rf_8 (rfT_out (by decide)) (by decide)
  have e35 := cE_rows (q0 := q0) (u := u) (m0 := m0) (v := v) (t := t) (D := D) (cI := cI) (cZ := cZ) (cQ := cQ) (p := 35) (n := 10) (a := 35) rfl rf_35 (rfT_out (by decide)) (by decide)
  have e46 := cE_rows (q0 := q0) (u := u) (m0 := m0) (v := v) (t := t) (D := D) (cI := cI) (cZ := cZ) (cQ := cQ) (p := 46) (n := 10) (a := 46) rfl rf_46 (rfT_out (by decide)) (by decide)
  rw [wl_list, e8, e35, e46]
  rfl
theorem liL_0 : Cond.instantiable RX0 3 ∈ tblG := tblG_in 203 (by decide +kernel) (by decide +kernel)
theorem liL_1 : Cond.instantiable RX1 8 ∈ tblG := tblG_in 147 (by decide +kernel) (by decide +kernel)
theorem liL_2 : Cond.instantiable RX2 3 ∈ tblG := tblG_in 84 (by decide +kernel) (by decide +kernel)
theorem liL_3 : Cond.instantiable RX3 5 ∈ tblG := tblG_in 180 (by decide +kernel) (by decide +kernel)
theorem liL_4 : Cond.instantiable RX4 3 ∈ tblG := tblG_in 130 (by decide +kernel) (by decide +kernel)
theorem liL_5 : Cond.instantiable RX5 6 ∈ tblG := tblG_in 104 (by decide +kernel) (by decide +kernel)
theorem liL_6 : Cond.instantiable RX6 7 ∈ tblG := tblG_in 76 (by decide +kernel) (by decide +kernel)
theorem liL_7 : Cond.instantiable RX7 29 ∈ tblG := tblG_in 592 (by decide +kernel) (by decide +kernel)
theorem lcL_7 : Cond.classLink RL 7 RX6 ∈ tblG := tblG_in 75 (by decide +kernel) (by decide +kernel)
theorem lcL_10 : Cond.classLink RL 10 RX7 ∈ tblG := tblG_in 591 (by decide +kernel) (by decide +kernel)
theorem lkL_9 : Cond.methodLink RL 9 yX6_init ∈ tblG := tblG_in 77 (by decide +kernel) (by decide +kernel)
theorem ln_X6_init : Cond.instanceMethod yX6_init ∈ tblG := tblG_in 78 (by decide +kernel) (by decide +kernel)
theorem lc_X6_init : Cond.code yX6_init cX6_init 1 (none) ∈ tblG := tblG_in 79 (by decide +kernel) (by decide +kernel)
theorem lkL_12 : Cond.methodLink RL 12 yX7_init ∈ tblG := tblG_in 593 (by decide +kernel) (by decide +kernel)
theorem ln_X7_init : Cond.instanceMethod yX7_init ∈ tblG := tblG_in 594 (by decide +kernel) (by decide +kernel)
theorem lc_X7_init : Cond.code yX7_init cX7_init 1 (none) ∈ tblG := tblG_in 595 (by decide +kernel) (by decide +kernel)
theorem lys : Cond.laysStatic "WardCourt" "BEFORE_ANY_LAW" "[I" ∈ lw_tbl := List.mem_of_getElem? (i := 266) (by decide +kernel)
theorem lao : Cond.arrayOver (.array .int) ∈ lw_tbl := List.mem_of_getElem? (i := 90) (by decide +kernel)
theorem tbl_row {b : Nat} {s : State} (hgv : (Jvm.Cond.and given_1 narrow_1).before #[Value.ref b] s = true) (hts : ∀ w ∈ lw_tbl, w.before #[Value.ref b] s = true) : ∃ t : Nat, va_Z "WardCourt" "BEFORE_ANY_LAW" "[I" (.ref t) (A0 s) s s.heap ∧ va_T .int t 5 (fun j => .int (bef j)) (A0 s) s s.heap := by
  have hs := flat_of_before _ hgv
  have hA : ∀ a : Nat, a < s.heap.size → ¬ A0 s a := fun a h => Nat.not_le.mpr h
  have har : (Cond.arrayOf (Term.static "WardCourt" "BEFORE_ANY_LAW" "[I") .int).before #[Value.ref b] s = true := hs _ (by decide +kernel)
  have hle : (Cond.eq (.length (Term.static "WardCourt" "BEFORE_ANY_LAW" "[I")) (.int 5)).before #[Value.ref b] s = true := hs _ (by decide +kernel)
  have h0 : (Cond.eq (.elem (Term.static "WardCourt" "BEFORE_ANY_LAW" "[I") (.int 0)) (.int 21)).before #[Value.ref b] s = true := hs _ (by decide +kernel)
  have h1 : (Cond.eq (.elem (Term.static "WardCourt" "BEFORE_ANY_LAW" "[I") (.int 1)) (.int 100)).before #[Value.ref b] s = true := hs _ (by decide +kernel)
  have h2 : (Cond.eq (.elem (Term.static "WardCourt" "BEFORE_ANY_LAW" "[I") (.int 2)) (.int 5)).before #[Value.ref b] s = true := hs _ (by decide +kernel)
  have h3 : (Cond.eq (.elem (Term.static "WardCourt" "BEFORE_ANY_LAW" "[I") (.int 3)) (.int 50)).before #[Value.ref b] s = true := hs _ (by decide +kernel)
  have h4 : (Cond.eq (.elem (Term.static "WardCourt" "BEFORE_ANY_LAW" "[I") (.int 4)) (.int 3)).before #[Value.ref b] s = true := hs _ (by decide +kernel)
  obtain ⟨t, ht, hT⟩ := va_Tof (tm := (Term.static "WardCourt" "BEFORE_ANY_LAW" "[I")) (ty := .int) (N := 5) (f := fun j => .int (bef j)) (A := A0 s) (by decide) har (va_eqt hle) (fun j hj => by
    rcases (show j = 0 ∨ j = 1 ∨ j = 2 ∨ j = 3 ∨ j = 4 by omega) with rfl | rfl | rfl | rfl | rfl
    · exact va_eqt h0
    · exact va_eqt h1
    · exact va_eqt h2
    · exact va_eqt h3
    · exact va_eqt h4) hA
  have hini := hts _ (List.mem_filter.mp li_X6).1
  exact ⟨t, va_Zref (hts _ lys) hini ht hA, hT⟩
theorem Nw_start {b : Nat} {s : State} (hts : ∀ w ∈ lw_tbl, w.before #[Value.ref b] s = true) : ∀ x ∈ tblN, va_Nw x s := by
  intro x hx
  have h := hts x (List.mem_filter.mp hx).1
  have hn := (List.mem_filter.mp hx).2
  cases x <;> first | exact va_Nw.of rfl h | (simp [isNest] at hn)
theorem arrT_of {s : State} {ty : FieldType} {cA : ClassId} {kA : Class} {comp : ClassId} (h2 : s.vm.classes[cA]? = some kA) (h3 : kA.kind = .array comp ty) : ArrOfT s cA ty := fun n z => ⟨fun k h => (by cases h), kA, h2, comp, h3⟩
set_option maxHeartbeats 8000000 in
set_option maxRecDepth 100000 in
/-- YOUR PART: from the entry, for every script of at most 3584 ints, the law comes to its end with true -/
theorem whole_start {p : Program} {e : Env} {s : State} {m : MethodId} {below : List Frame} {meth : Method} {c : Code} (l : Launch) (hflags : l.flags = flags0) {b L : Nat} {xs : Nat → Int32} (hL : L ≤ 3584) (C0 : lw_At p s m meth c b L xs) : W p l e room_1 s m #[Value.ref b] below meth c s.heap [] 0 0 (lw_Z below #[Value.ref b] s) (entryFrame m ([Value.ref b] : List Value).toArray 4) := by
  obtain ⟨hx, hb0, hr, hml, hown, hts, hX, hbl, hlocks, hgv⟩ := id C0
  have hb : c.code = cL_law := hb0
  have htG : ∀ x ∈ tblG, x.before #[Value.ref b] s = true := fun x hx => hts x (List.mem_filter.mp hx).1
  have hA : ∀ q : Nat, s.heap.size ≤ q → A0 s q := fun _ h => h

  obtain ⟨c0, i0, n0⟩ := u_known (C := RX0) (T := TX0) (N := 3) (n := 3) htG igX0 (htG _ liL_0)
  obtain ⟨c1, i1, n1⟩ := u_known (C := RX1) (T := TX1) (N := 8) (n := 8) htG igX1 (htG _ liL_1)
  obtain ⟨c2, i2, n2⟩ := u_known (C := RX2) (T := TX2) (N := 3) (n := 3) htG igX2 (htG _ liL_2)
  obtain ⟨c3, i3, n3⟩ := u_known (C := RX3) (T := TX3) (N := 5) (n := 5) htG igX3 (htG _ liL_3)
  obtain ⟨c4, i4, n4⟩ := u_known (C := RX4) (T := TX4) (N := 3) (n := 3) htG igX4 (htG _ liL_4)
  obtain ⟨c5, i5, n5⟩ := u_known (C := RX5) (T := TX5) (N := 6) (n := 6) htG igX5 (htG _ liL_5)
  obtain ⟨c6, i6, n6⟩ := u_known (C := RX6) (T := TX6) (N := 7) (n := 7) htG igX6 (htG _ liL_6)
  obtain ⟨c7, i7, n7⟩ := u_known (C := RX7) (T := TX7) (N := 29) (n := 29) htG igX7 (htG _ liL_7)
  obtain ⟨D, hKD⟩ : ∃ D : va_G, ∀ (k : Nat) (q : vw_C), vwCl[k]? = some q → u_Kn s q.1 q.2.1 q.2.2 (D.1 k) (D.2 k) := by
    refine ⟨(fun k => match k with | 0 => c0 | 1 => c1 | 2 => c2 | 3 => c3 | 4 => c4 | 5 => c5 | 6 => c6 | _ => c7, fun k => match k with | 0 => i0 | 1 => i1 | 2 => i2 | 3 => i3 | 4 => i4 | 5 => i5 | 6 => i6 | _ => i7), ?_⟩
    intro k q hq
    match k, hq with
    | 0, hq => cases hq; exact n0
    | 1, hq => cases hq; exact n1
    | 2, hq => cases hq; exact n2
    | 3, hq => cases hq; exact n3
    | 4, hq => cases hq; exact n4
    | 5, hq => cases hq; exact n5
    | 6, hq => cases hq; exact n6
    | 7, hq => cases hq; exact n7
    | k + 8, hq => simp [vwCl] at hq
  obtain ⟨cI, kI, compI, fI, gI, eI⟩ := Cond.arrayClass_spec (htG _ la_I)
  obtain ⟨cZ, kZ, compZ, fZ, gZ, eZ⟩ := Cond.arrayClass_spec (htG _ la_Z)
  have hAO : va_AOA .int s := hts _ lao
  obtain ⟨compQ, cQ, kQ, gQ, eQ, fQ⟩ := AOA_spec hAO
  have hK : va_K D vwCl [(cI, .int), (cZ, .boolean), (cQ, .array .int)] s := by
    refine ⟨hKD, ?_⟩
    intro k q hq
    match k, hq with
    | 0, hq => cases hq; exact ⟨arrT_of gI eI, fI⟩
    | 1, hq => cases hq; exact ⟨arrT_of gZ eZ, fZ⟩
    | 2, hq => cases hq; exact ⟨arrT_of gQ eQ, fQ⟩
    | k + 3, hq => simp at hq
  have hKc0 : Kc D cI cZ cQ s := ⟨hK, hAO, Nw_start hts⟩
  obtain ⟨tr, hZ, hT⟩ := tbl_row hgv hts
  have hS : va_S (A0 s) s.heap s.heap [] := va_S.rf
  have hP : va_P D vwCl [] s.heap := fun k q h => by simp at h
  have hD : va_D (A0 s) [] := ⟨fun i j p q h => by simp at h, fun k q h => by simp at h⟩
  have hl := lv_entry ([.ref b]) (n := 4) (Nat.le_of_ble_eq_true rfl)
  rw [lg_entry_eq]
  generalize (lg_sl ([.ref b]) ++ List.replicate (4 - (lg_sl ([.ref b])).length) Slot.unset).toArray = ls at hl ⊢
  have hl : lv_has ls 4 [(0, .ref b)] := hl
  refine va_new (D := D) (ci := 6) (fs := [.null, .null, .null, .null, .null, .null, .int 0]) (C := RX6) (T := TX6) (N := 7) hx hb htG igX6 tyX6 tyX6_ok hown (htG _ lcL_7) (htG _ liL_6) (htG _ li_X6) hK hP hD hS hA rfl (fun j hj => by rcases (show j = 0 ∨ j = 1 ∨ j = 2 ∨ j = 3 ∨ j = 4 ∨ j = 5 ∨ j = 6 by omega) with rfl | rfl | rfl | rfl | rfl | rfl | rfl <;> rfl) (Nat.le_of_ble_eq_true rfl) (Nat.le_of_ble_eq_true rfl) dL_law_0 (fun q0 H hP hD hS => ?_)
  have hP : va_P D vwCl [(q0, .inr (6, [.null, .null, .null, .null, .null, .null, .int 0]))] H := hP
  have hD : va_D (A0 s) [(q0, .inr (6, [.null, .null, .null, .null, .null, .null, .int 0]))] := hD
  refine W.widen (k := 1) (n := 7) (Nat.le_of_ble_eq_true rfl) (Nat.le_of_ble_eq_true rfl) ?_
  refine lv_dup hx hb dL_law_3 rfl ?_
  have hPc := hP.sub (ws' := [(q0, .inr (6, [.null, .null, .null, .null, .null, .null, .int 0]))]) [0] rfl
  have hDc := hD.sub (ws' := [(q0, .inr (6, [.null, .null, .null, .null, .null, .null, .int 0]))]) [0] (by decide) rfl
  have hFc := va_free (wc := [(q0, .inr (6, [.null, .null, .null, .null, .null, .null, .int 0]))]) hD hS hA [0] rfl
  refine va_callv (va_runI (n := 0) (As := []) (b := q0) (rest := [.ref q0]) (Ts := tblG) ⟨hx, hb, hml, hown, htG⟩ (c_X6_init l D cI cZ cQ q0 H.size) ⟨callB_of 0 htG (tblG_self lc_X6_init (fun _ h => h)) rfl rfl rfl (htG _ li_X6) (htG _ lkL_9) (by decide +kernel) ⟨(Nat.le_of_ble_eq_true rfl), (Nat.le_of_ble_eq_true rfl)⟩, rfl, htG _ ln_X6_init⟩ ⟨Pi_blind, fun U hU hW => ⟨rfl, by rw [hU], hKc0.warm hW, by rw [hU]; exact hPc, hDc.weaken (fun _ _ _ _ => trivial)⟩⟩ rfl rfl hl.1 rfl (lv_room (Nat.le_of_ble_eq_true rfl)) dL_law_4 ⟨(Nat.le_of_ble_eq_true rfl), (Nat.le_of_ble_eq_true rfl)⟩) hS (fun q _ h => hFc q h) hFc (fun u t H1 locs ht hvm hw hB hz1 hk1 hS => ?_)
  obtain ⟨hP1, hD1⟩ := hB
  rw [ht] at hP1
  have hP1 : va_P D vwCl (cellsC q0 u cI cZ cQ) H1 := hP1
  have hD1 : va_D (va_A [(q0, .inr (6, [.null, .null, .null, .null, .null, .null, .int 0]))] H.size) (cellsC q0 u cI cZ cQ) := hD1
  obtain ⟨hP, hD⟩ := va_join (wr := []) (w1 := cellsC q0 u cI cZ cQ) hP hD [0] [] rfl rfl (by decide) (by decide) hk1 hFc hP1 hD1
  clear hP1 hD1 hPc hDc hFc hz1 hk1
  generalize H1 = H at hP hS ⊢
  have hP : va_P D vwCl (cellsC q0 u cI cZ cQ) H := hP
  have hD : va_D (A0 s) (cellsC q0 u cI cZ cQ) := hD
  refine W.widen (k := 57) (n := 741) (Nat.le_of_ble_eq_true rfl) (Nat.le_of_ble_eq_true rfl) ?_
  refine lv_astore_n (lv' := [(1, .ref q0), (0, .ref b)]) hx hb dL_law_7 rfl hl (by decide) rfl (fun ls hl => ?_)
  refine va_new (D := D) (ci := 7) (fs := [.int 0, .null, .null, .int 0, .null, .null, .int 0, .null, .null, .int 0, .null, .null, .null, .null, .null, .null, .int 0, .null, .null, .null, .null, .null, .int 0, .int 0, .null, .null, .null, .null, .null]) (C := RX7) (T := TX7) (N := 29) hx hb htG igX7 tyX7 tyX7_ok hown (htG _ lcL_10) (htG _ liL_7) (htG _ li_X7) hK hP hD hS hA rfl (fun j hj => by rcases (show j = 0 ∨ j = 1 ∨ j = 2 ∨ j = 3 ∨ j = 4 ∨ j = 5 ∨ j = 6 ∨ j = 7 ∨ j = 8 ∨ j = 9 ∨ j = 10 ∨ j = 11 ∨ j = 12 ∨ j = 13 ∨ j = 14 ∨ j = 15 ∨ j = 16 ∨ j = 17 ∨ j = 18 ∨ j = 19 ∨ j = 20 ∨ j = 21 ∨ j = 22 ∨ j = 23 ∨ j = 24 ∨ j = 25 ∨ j = 26 ∨ j = 27 ∨ j = 28 by omega) with rfl | rfl | rfl | rfl | rfl | rfl | rfl | rfl | rfl | rfl | rfl | rfl | rfl | rfl | rfl | rfl | rfl | rfl | rfl | rfl | rfl | rfl | rfl | rfl | rfl | rfl | rfl | rfl | rfl <;> rfl) (Nat.le_of_ble_eq_true rfl) (Nat.le_of_ble_eq_true rfl) dL_law_8 (fun m0 H hP hD hS => ?_)
  refine W.widen (k := 58) (n := 770) (Nat.le_of_ble_eq_true rfl) (Nat.le_of_ble_eq_true rfl) ?_
  refine lv_dup hx hb dL_law_11 rfl ?_
  have hPc := hP.sub (ws' := [(m0, .inr (7, [.int 0, .null, .null, .int 0, .null, .null, .int 0, .null, .null, .int 0, .null, .null, .null, .null, .null, .null, .int 0, .null, .null, .null, .null, .null, .int 0, .int 0, .null, .null, .null, .null, .null]))]) [57] rfl
  have hDc := hD.sub (ws' := [(m0, .inr (7, [.int 0, .null, .null, .int 0, .null, .null, .int 0, .null, .null, .int 0, .null, .null, .null, .null, .null, .null, .int 0, .null, .null, .null, .null, .null, .int 0, .int 0, .null, .null, .null, .null, .null]))]) [57] (by decide) rfl
  have hFc := va_free (wc := [(m0, .inr (7, [.int 0, .null, .null, .int 0, .null, .null, .int 0, .null, .null, .int 0, .null, .null, .null, .null, .null, .null, .int 0, .null, .null, .null, .null, .null, .int 0, .int 0, .null, .null, .null, .null, .null]))]) hD hS hA [57] rfl
  refine va_callv (va_runI (n := 0) (As := []) (b := m0) (rest := [.ref m0]) (Ts := tblG) ⟨hx, hb, hml, hown, htG⟩ (c_X7_init l D cI cZ cQ m0 H.size) ⟨callB_of 0 htG (tblG_self lc_X7_init (fun _ h => h)) rfl rfl rfl (htG _ li_X7) (htG _ lkL_12) (by decide +kernel) ⟨(Nat.le_of_ble_eq_true rfl), (Nat.le_of_ble_eq_true rfl)⟩, rfl, htG _ ln_X7_init⟩ ⟨Pi_blind, fun U hU hW => ⟨rfl, by rw [hU], hKc0.warm hW, by rw [hU]; exact hPc, hDc.weaken (fun _ _ _ _ => trivial)⟩⟩ rfl rfl hl.1 rfl (lv_room (Nat.le_of_ble_eq_true rfl)) dL_law_12 ⟨(Nat.le_of_ble_eq_true rfl), (Nat.le_of_ble_eq_true rfl)⟩) hS (fun q _ h => hFc q h) hFc (fun v t H1 locs ht hvm hw hB hz1 hk1 hS => ?_)
  obtain ⟨hP1, hD1⟩ := hB
  rw [ht] at hP1
  have hP1 : va_P D vwCl (cellsM m0 v cI cZ cQ) H1 := hP1
  have hD1 : va_D (va_A [(m0, .inr (7, [.int 0, .null, .null, .int 0, .null, .null, .int 0, .null, .null, .int 0, .null, .null, .null, .null, .null, .null, .int 0, .null, .null, .null, .null, .null, .int 0, .int 0, .null, .null, .null, .null, .null]))] H.size) (cellsM m0 v cI cZ cQ) := hD1
  obtain ⟨hP, hD⟩ := va_join (wr := cellsC q0 u cI cZ cQ) (w1 := cellsM m0 v cI cZ cQ) hP hD [57] [0, 1, 2, 3, 4, 5, 6, 7, 8, 9, 10, 11, 12, 13, 14, 15, 16, 17, 18, 19, 20, 21, 22, 23, 24, 25, 26, 27, 28, 29, 30, 31, 32, 33, 34, 35, 36, 37, 38, 39, 40, 41, 42, 43, 44, 45, 46, 47, 48, 49, 50, 51, 52, 53, 54, 55, 56] rfl rfl (by decide) (by decide) hk1 hFc hP1 hD1
  clear hP1 hD1 hPc hDc hFc hz1 hk1
  generalize H1 = H at hP hS ⊢
  refine W.widen (k := 80) (n := 4988) (Nat.le_of_ble_eq_true rfl) (Nat.le_of_ble_eq_true rfl) ?_
  refine lv_astore_n (lv' := [(2, .ref m0), (1, .ref q0), (0, .ref b)]) hx hb dL_law_15 rfl hl (by decide) rfl (fun ls hl => ?_)
  refine lv_iconst (v := 0) hx hb dL_law_16 (by decide) ?_
  refine lv_istore_n (lv' := [(3, .int 0), (2, .ref m0), (1, .ref q0), (0, .ref b)]) hx hb dL_law_17 rfl hl (by decide) rfl (fun ls hl => ?_)
  rw [← wl_start q0 u m0 v tr D cI cZ cQ] at hP hD
  have hlw : LW (mkE q0 u m0 v tr D cI cZ cQ) s := by
    refine ⟨hK, hZ, hT, Nw_start hts, fun i j hi hj he => ?_, fun i hi => ?_⟩
    · exact hD.1 i j _ _ (wl_get _ _ hi) (wl_get _ _ hj) he
    · exact hD.2 i _ (wl_get _ _ hi)
  exact law_loop (E := mkE q0 u m0 v tr D cI cZ cQ) hL (L + 1) 0 wz (by omega) (Nat.zero_le L) Rel_zero p e s m below meth c H locs ls C0 hlw hP hS (lv_sub hl [3, 2, 1, 0] rfl)

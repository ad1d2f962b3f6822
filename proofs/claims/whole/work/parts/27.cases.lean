/-! THE CASES: the two answers are the same, and the relation stays -/
def Case (E : En) (d : Nat) (y : MethodName) (cc : ByteArray) (nL : Nat) (d' : Nat) (y' : MethodName) (cc' : ByteArray) (nL' : Nat) (av : List Value) (w : W0) : Prop := ∃ (rv : Int32) (w1 w2 : W0), Mt E d y cc nL (some .int) (.ref (E.1 0) :: av) w (some (.int rv)) w1 ∧ Mt E d' y' cc' nL' (some .int) (.ref (E.1 57) :: av) w1 (some (.int rv)) w2 ∧ Rel w2
theorem Mt.to {E : En} {d : Nat} {y : MethodName} {cc : ByteArray} {nL : Nat} {ret : Option FieldType} {av : List Value} {w : W0} {rv rv' : Option Value} {w1 w1' : W0} (h : Mt E d y cc nL ret av w rv w1) (h1 : rv = rv') (h2 : w1 = w1') : Mt E d y cc nL ret av w rv' w1' := h1 ▸ h2 ▸ h
theorem Rel.at {w : W0} {nl nw nv ne ni : Nat} (h : Told w nl nw nv ne ni) (hC : w 0 6 = 0 → LC w w nl nw ni) (hM : ¬ w 57 23 = 0 → LM w w nl nw ni) : Rel w := ⟨nl, nw, nv, ne, ni, h, hC, hM⟩
section CASES
variable {E : En} {w : W0}
theorem case_law (hR : Rel w) {day a b c e f : Int32} : Case E 2 yX6_law cX6_law 7 2 yX7_law cX7_law 8 [.int day, .int a, .int b, .int c, .int e, .int f] w := by
  obtain ⟨nl, nw, nv, ne, ni, hT, hC, hM⟩ := hR
  have t := t_X6_law (E := E) (w := w) (day := day) (a := a) (b := b) (c := c) (e := e) (f := f) hT.1.2.1 hT.1.1
  by_cases hc : lawP day a b c e f ∧ ¬ 8 ≤ nl
  · rw [if_pos hc] at t
    have e1 : lawW w nl day a b c e f 57 = w 57 := by simp (disch := omega) only [lawW, setW_ne]
    have u := t_X7_law (E := E) (w := lawW w nl day a b c e f) (day := day) (a := a) (b := b) (c := c) (e := e) (f := f) (by rw [e1]; exact hT.1.2.2.1) hT.1.1
    rw [if_pos hc] at u
    exact ⟨_, _, _, t, u, Rel_law hT hc.1 hc.2⟩
  · rw [if_neg hc] at t
    have u := t_X7_law (E := E) (w := w) (day := day) (a := a) (b := b) (c := c) (e := e) (f := f) hT.1.2.2.1 hT.1.1
    rw [if_neg hc] at u
    exact ⟨_, _, _, t, u, Rel.at hT hC hM⟩
theorem case_force (hR : Rel w) {day z : Int32} : Case E 2 yX6_force cX6_force 3 2 yX7_force cX7_force 3 [.int day, .int z] w := by
  obtain ⟨nl, nw, nv, ne, ni, hT, hC, hM⟩ := hR
  have t := t_X6_force (E := E) (w := w) (day := day) (z := z) hT.1.2.1 hT.1.1
  have u := t_X7_force (E := E) (w := w) (day := day) (z := z) hT.1.2.2.1 hT.1.1
  refine ⟨_, _, _, t, u.to ?_ rfl, Rel.at hT hC hM⟩
  by_cases hc : dayP day ∧ (0 ≤ z.toInt ∧ z.toInt ≤ 4)
  · rw [if_pos hc, if_pos hc, law_eq hT.1 _ (nat_lt hc.2.1 (by omega))]
  · rw [if_neg hc, if_neg hc]
theorem case_ward (hR : Rel w) {x : Int32} : Case E 2 yX6_ward cX6_ward 2 2 yX7_ward cX7_ward 2 [.int x] w := by
  obtain ⟨nl, nw, nv, ne, ni, hT, hC, hM⟩ := hR
  have t := t_X6_ward (E := E) (w := w) (x := x) hT.2.1.2.1 hT.2.1.1
  by_cases hc : bornP x ∧ ¬ 6 ≤ nw
  · rw [if_pos hc] at t
    have e1 : wardW w nw x 57 = w 57 := by simp (disch := omega) only [wardW, setW_ne]
    have u := t_X7_ward (E := E) (w := wardW w nw x) (x := x) (by rw [e1]; exact hT.2.1.2.2.1) hT.2.1.1
    rw [if_pos hc] at u
    exact ⟨_, _, _, t, u, Rel_ward hT hc.1 hc.2⟩
  · rw [if_neg hc] at t
    have u := t_X7_ward (E := E) (w := w) (x := x) hT.2.1.2.2.1 hT.2.1.1
    rw [if_neg hc] at u
    exact ⟨_, _, _, t, u, Rel.at hT hC hM⟩
theorem case_dies (hR : Rel w) {i day : Int32} : Case E 2 yX6_dies cX6_dies 4 2 yX7_dies cX7_dies 4 [.int i, .int day] w := by
  obtain ⟨nl, nw, nv, ne, ni, hT, hC, hM⟩ := hR
  have hh : ∀ x : Int32, hasW w x ↔ inP x nw := fun x => in_has (N := 6) hT.2.1.2.1 hT.2.1.1 (by decide)
  have t := t_X6_dies (E := E) (w := w) (i := i) (day := day)
  have u0 := t_X7_dies (E := E) (w := w) (i := i) (day := day) hT.2.1.2.2.1 hT.2.1.1
  by_cases hp : inP i nw
  · have hk := hT.2.1.2.2.2 _ (nat_lt hp.1 hp.2)
    by_cases hb : badD w i day
    · have hbm : badM w i day := by
        unfold badM
        rw [hk.1]
        exact hb
      rw [if_pos ((hh i).mpr hp), if_pos hb, if_neg (fun z => z.2 hb)] at t
      rw [if_pos hp, if_pos hbm, if_neg (fun z => z.2 hbm)] at u0
      exact ⟨_, _, _, t, u0, Rel.at hT hC hM⟩
    · rw [if_pos ((hh i).mpr hp), if_neg hb, if_pos ⟨(hh i).mpr hp, hb⟩] at t
      have e57 : diesW w i day 57 = w 57 := by simp (disch := omega) only [diesW, setW_ne]
      have e60 : diesW w i day 60 = w 60 := by simp (disch := omega) only [diesW, setW_ne]
      have e61 : diesW w i day 61 = w 61 := by simp (disch := omega) only [diesW, setW_ne]
      have hbm : ¬ badM (diesW w i day) i day := by
        unfold badM
        rw [e60, hk.1]
        exact hb
      have u := t_X7_dies (E := E) (w := diesW w i day) (i := i) (day := day) (by rw [e57]; exact hT.2.1.2.2.1) hT.2.1.1
      rw [if_pos hp, if_neg hbm, if_pos ⟨hp, hbm⟩, e61, hk.2.1] at u
      exact ⟨_, _, _, t, u, Rel_dies hT hp⟩
  · rw [if_neg (fun z => hp ((hh i).mp z)), if_neg (fun z => hp ((hh i).mp z.1))] at t
    rw [if_neg hp, if_neg (fun z => hp z.1)] at u0
    exact ⟨_, _, _, t, u0, Rel.at hT hC hM⟩
theorem lk10 {w : W0} {nl nw nv ne ni k : Nat} (h : Told w nl nw nv ne ni) (hk : k < ni) : (w 67 k).toInt < 10 := by
  have hv := h.2.2.1.1
  have he := h.2.2.2.2.1.1
  obtain ⟨a1, a2, a3, a4, a5, a6, a7, a8⟩ := h.2.2.2.1.2.2.2.1 k hk
  rw [a3]
  have m1 : (-1 : Int32).toInt = -1 := rfl
  rcases a8 with ⟨-, -, b | ⟨b1, b2⟩⟩ | ⟨-, -, b | ⟨b1, b2⟩⟩
  · rw [b, m1]; omega
  · omega
  · rw [b, m1]; omega
  · omega
theorem lke10 {w : W0} {nl nw nv ne ni k : Nat} (h : Told w nl nw nv ne ni) (hk : k < ne) : (w 73 k).toInt < 10 := by
  have hv := h.2.2.1.1
  obtain ⟨a1, a2, a3, a4, a5, a6⟩ := h.2.2.2.2.1.2.2.2 k hk
  rw [a4]
  have m1 : (-1 : Int32).toInt = -1 := rfl
  rcases a5 with b | ⟨b1, b2⟩
  · rw [b, m1]; omega
  · omega
theorem case_about (hR : Rel w) {i what : Int32} : Case E 7 yX6_about cX6_about 3 4 yX7_about cX7_about 3 [.int i, .int what] w := by
  obtain ⟨nl, nw, nv, ne, ni, hT, hC, hM⟩ := hR
  have hh : ∀ x : Int32, hasW w x ↔ inP x nw := fun x => in_has (N := 6) hT.2.1.2.1 hT.2.1.1 (by decide)
  obtain ⟨T2, c1, m2, C2, M2⟩ := lay_both hT hC hM
  have T1 := Told_setl hT
  have ho : ∀ k, k < ni → (setlW w nl nw ni 67 k).toInt < 10 := fun k hk => lk10 T1 hk
  have ho0 : ∀ k, k < ni → (w 67 k).toInt < 10 := fun k hk => lk10 hT hk
  have t := t_X6_about (E := E) (w := w) hT.1.2.1 hT.1.1 hT.2.1.2.1 hT.2.1.1 hT.2.2.2.1.2.1 hT.2.2.2.1.1 (i := i) (what := what)
  by_cases hp : inP i nw
  · rw [if_pos ((hh i).mpr hp), if_pos ((hh i).mpr hp)] at t
    have u := t_X7_about (E := E) (w := setlW w nl nw ni) T1.1.2.2.1 T1.1.1 T1.2.1.2.2.1 T1.2.1.1 T1.2.2.2.1.2.2.1 T1.2.2.2.1.1 ho (i := i) (what := what)
    rw [if_pos hp, if_pos hp] at u
    refine ⟨_, _, _, t, u.to ?_ rfl, ⟨nl, nw, nv, ne, ni, T2, fun _ => C2, fun _ => M2⟩⟩
    have hk := nat_lt hp.1 hp.2
    obtain ⟨a1, a2, a3⟩ := c1.1 _ hk
    obtain ⟨b1, b2, b3⟩ := m2.1 _ hk
    obtain ⟨g1, g2, -⟩ := hT.2.1.2.2.2 _ hk
    unfold aboutM aboutF
    rw [b1, b2, b3, a1, a2, a3, layM_ne (by omega), layM_ne (by omega), setlW_ne (by omega), setlW_ne (by omega), setlW_ne (by omega), setlW_ne (by omega), g1, g2]
  · rw [if_neg (fun z => hp ((hh i).mp z)), if_neg (fun z => hp ((hh i).mp z))] at t
    have u := t_X7_about (E := E) (w := w) hT.1.2.2.1 hT.1.1 hT.2.1.2.2.1 hT.2.1.1 hT.2.2.2.1.2.2.1 hT.2.2.2.1.1 ho0 (i := i) (what := what)
    rw [if_neg hp, if_neg hp] at u
    exact ⟨_, _, _, t, u, Rel.at hT hC hM⟩
theorem case_heads (hR : Rel w) {day : Int32} : Case E 7 yX6_heads cX6_heads 2 4 yX7_heads cX7_heads 2 [.int day] w := by
  obtain ⟨nl, nw, nv, ne, ni, hT, hC, hM⟩ := hR
  obtain ⟨T2, c1, m2, C2, M2⟩ := lay_both hT hC hM
  have T1 := Told_setl hT
  have ho : ∀ k, k < ni → (setlW w nl nw ni 67 k).toInt < 10 := fun k hk => lk10 T1 hk
  have ho0 : ∀ k, k < ni → (w 67 k).toInt < 10 := fun k hk => lk10 hT hk
  have t := t_X6_heads (E := E) (w := w) hT.1.2.1 hT.1.1 hT.2.1.2.1 hT.2.1.1 hT.2.2.2.1.2.1 hT.2.2.2.1.1 (day := day)
  by_cases hp : dayP day
  · rw [if_pos hp, if_pos hp] at t
    have u := t_X7_heads (E := E) (w := setlW w nl nw ni) T1.1.2.2.1 T1.1.1 T1.2.1.2.2.1 T1.2.1.1 T1.2.2.2.1.2.2.1 T1.2.2.2.1.1 ho (day := day)
    rw [if_pos hp, if_pos hp] at u
    refine ⟨_, _, _, t, u.to ?_ rfl, ⟨nl, nw, nv, ne, ni, T2, fun _ => C2, fun _ => M2⟩⟩
    rw [hdM_congr (n := nw) (bo' := setlW w nl nw ni 17) (di' := setlW w nl nw ni 18) (gd' := setlW w nl nw ni 20) (fun k hk => by
      obtain ⟨a1, a2, a3⟩ := c1.1 k hk
      obtain ⟨b1, b2, b3⟩ := m2.1 k hk
      obtain ⟨g1, g2, -⟩ := hT.2.1.2.2.2 k hk
      rw [b2, a2, layM_ne (by omega), layM_ne (by omega), setlW_ne (by omega), setlW_ne (by omega), setlW_ne (by omega), setlW_ne (by omega), g1, g2]
      exact ⟨rfl, rfl, rfl⟩), hdM1_heads (fun k hk => rfl)]
  · rw [if_neg hp, if_neg hp] at t
    have u := t_X7_heads (E := E) (w := w) hT.1.2.2.1 hT.1.1 hT.2.1.2.2.1 hT.2.1.1 hT.2.2.2.1.2.2.1 hT.2.2.2.1.1 ho0 (day := day)
    rw [if_neg hp, if_neg hp] at u
    exact ⟨_, _, _, t, u, Rel.at hT hC hM⟩
theorem case_leave (hR : Rel w) {x : Int32} : Case E 2 yX6_leave cX6_leave 2 2 yX7_leave cX7_leave 2 [.int x] w := by
  obtain ⟨nl, nw, nv, ne, ni, hT, hC, hM⟩ := hR
  have t := t_X6_leave (E := E) (w := w) (x := x) hT.2.2.1.2.1 hT.2.2.1.1
  by_cases hc : coinP x ∧ ¬ 10 ≤ nv
  · rw [if_pos hc] at t
    have e1 : leaveW w nv x 57 = w 57 := by simp (disch := omega) only [leaveW, setW_ne]
    have u := t_X7_leave (E := E) (w := leaveW w nv x) (x := x) (by rw [e1]; exact hT.2.2.1.2.2.1) hT.2.2.1.1
    rw [if_pos hc] at u
    exact ⟨_, _, _, t, u, Rel_leave hT hC hM hc.2⟩
  · rw [if_neg hc] at t
    have u := t_X7_leave (E := E) (w := w) (x := x) hT.2.2.1.2.2.1 hT.2.2.1.1
    rw [if_neg hc] at u
    exact ⟨_, _, _, t, u, Rel.at hT hC hM⟩
theorem case_ofLeave (hR : Rel w) {i what : Int32} : Case E 2 yX6_ofLeave cX6_ofLeave 3 2 yX7_ofLeave cX7_ofLeave 3 [.int i, .int what] w := by
  obtain ⟨nl, nw, nv, ne, ni, hT, hC, hM⟩ := hR
  have hh : ∀ x : Int32, hasL w x ↔ inP x nv := fun x => in_has (N := 10) hT.2.2.1.2.1 hT.2.2.1.1 (by decide)
  have t := t_X6_ofLeave (E := E) (w := w) (i := i) (what := what)
  have u := t_X7_ofLeave (E := E) (w := w) (i := i) (what := what) hT.2.2.1.2.2.1 hT.2.2.1.1
  refine ⟨_, _, _, t, u.to ?_ rfl, Rel.at hT hC hM⟩
  by_cases hp : inP i nv
  · obtain ⟨a1, a2⟩ := hT.2.2.1.2.2.2 _ (nat_lt hp.1 hp.2)
    have w0 : what = 0 ↔ what.toInt = 0 := ⟨fun z => by rw [z]; rfl, fun z => ti_eq (z.trans (show (0 : Int) = (0 : Int32).toInt from rfl))⟩
    have w1 : what = 1 ↔ what.toInt = 1 := ⟨fun z => by rw [z]; rfl, fun z => ti_eq (z.trans (show (1 : Int) = (1 : Int32).toInt from rfl))⟩
    rw [if_pos hp, if_pos ((hh i).mpr hp)]
    unfold limC useC
    rw [if_pos ((hh i).mpr hp), if_pos ((hh i).mpr hp), a1, a2]
    simp only [w0, w1]
  · rw [if_neg hp, if_neg (fun z => hp ((hh i).mp z))]
theorem case_receive (hR : Rel w) {d c l : Int32} : Case E 2 yX6_receive cX6_receive 4 2 yX7_receive cX7_receive 4 [.int d, .int c, .int l] w := by
  obtain ⟨nl, nw, nv, ne, ni, hT, hC, hM⟩ := hR
  have hh : ∀ x : Int32, hasE w x ↔ inP x ne := fun x => in_has (N := 10) hT.2.2.2.2.1.2.1 hT.2.2.2.2.1.1 (by decide)
  have t := t_X6_receive (E := E) (w := w) (d := d) (c := c) (l := l) hT.2.2.2.1.2.1 hT.2.2.2.1.1
  simp only [hh] at t
  by_cases hc : ¬ (¬ l = -1 ∧ ¬ inP l ne) ∧ (dayP d ∧ coinP c) ∧ ¬ 60 ≤ ni
  · rw [if_pos hc] at t
    have e1 : setW (itemW w ni d c 1 l) 0 6 1 57 = w 57 := by simp (disch := omega) only [itemW, setW_ne]
    have u := t_X7_receive (E := E) (w := setW (itemW w ni d c 1 l) 0 6 1) (d := d) (c := c) (l := l) (by rw [e1]; exact hT.2.2.2.1.2.2.1) hT.2.2.2.1.1 (by rw [e1]; exact hT.2.2.2.2.1.2.2.1) hT.2.2.2.2.1.1
    rw [if_pos hc] at u
    refine ⟨_, _, _, t, u, Rel_receive hT ?_ hc.2.2⟩
    by_cases h1 : l = -1
    · exact Or.inl h1
    · exact Or.inr (Decidable.not_not.mp (fun z => hc.1 ⟨h1, z⟩))
  · rw [if_neg hc] at t
    have u := t_X7_receive (E := E) (w := w) (d := d) (c := c) (l := l) hT.2.2.2.1.2.2.1 hT.2.2.2.1.1 hT.2.2.2.2.1.2.2.1 hT.2.2.2.2.1.1
    rw [if_neg hc] at u
    exact ⟨_, _, _, t, u, Rel.at hT hC hM⟩
theorem case_pay (hR : Rel w) {d c l : Int32} : Case E 3 yX6_pay cX6_pay 5 2 yX7_pay cX7_pay 4 [.int d, .int c, .int l] w := by
  obtain ⟨nl, nw, nv, ne, ni, hT, hC, hM⟩ := hR
  have hh : ∀ x : Int32, hasL w x ↔ inP x nv := fun x => in_has (N := 10) hT.2.2.1.2.1 hT.2.2.1.1 (by decide)
  have t := t_X6_pay (E := E) (w := w) (d := d) (c := c) (l := l) hT.2.2.2.1.2.1 hT.2.2.2.1.1
  have u0 := t_X7_pay (E := E) (w := w) (d := d) (c := c) (l := l) hT.2.2.2.1.2.2.1 hT.2.2.2.1.1 hT.2.2.1.2.2.1 hT.2.2.1.1
  simp only [hh] at t
  by_cases c1 : ¬ l = -1 ∧ ¬ inP l nv
  · rw [if_pos c1, if_neg (fun z => z.1 c1)] at t
    rw [if_pos c1, if_neg (fun z => z.1 c1)] at u0
    exact ⟨_, _, _, t, u0, Rel.at hT hC hM⟩
  · have hl : lkP l nv := by
      by_cases h1 : l = -1
      · exact Or.inl h1
      · exact Or.inr (Decidable.not_not.mp (fun z => c1 ⟨h1, z⟩))
    have hu := use_eq hT.2.2.1 hl
    simp only [hu] at t
    by_cases hc : ¬ (¬ l = -1 ∧ ¬ inP l nv) ∧ (dayP d ∧ coinP c) ∧ ¬ 60 ≤ ni ∧ ¬ usedP w l
    · rw [if_neg c1, if_neg (fun z => z hc.2.1), if_neg hc.2.2.1, if_neg hc.2.2.2, if_pos hc] at t
      rcases hl with hl | hl
      · have hul : useW (itemW w ni d c 0 l) l (nI ni) = itemW w ni d c 0 l := if_neg (fun z => by
          have z1 := z.1
          rw [hl] at z1
          exact absurd z1 (by decide))
        rw [hul] at t
        have e57 : setW (itemW w ni d c 0 l) 0 6 1 57 = w 57 := by simp (disch := omega) only [itemW, setW_ne]
        have e63 : setW (itemW w ni d c 0 l) 0 6 1 63 = w 63 := by simp (disch := omega) only [itemW, setW_ne]
        have u := t_X7_pay (E := E) (w := setW (itemW w ni d c 0 l) 0 6 1) (d := d) (c := c) (l := l) (by rw [e57]; exact hT.2.2.2.1.2.2.1) hT.2.2.2.1.1 (by rw [e57]; exact hT.2.2.1.2.2.1) hT.2.2.1.1
        have hus : ¬ usedP (setW (itemW w ni d c 0 l) 0 6 1) l := by
          unfold usedP
          rw [e63]
          exact hc.2.2.2
        rw [if_neg c1, if_neg (fun z => z hc.2.1), if_neg hc.2.2.1, if_neg hus, if_pos ⟨hc.1, hc.2.1, hc.2.2.1, hus⟩] at u
        refine ⟨_, _, _, t, u.to rfl ?_, Rel_pay0 (d := d) (c := c) hT hl hc.2.2.1⟩
        unfold payMW usedMW
        rw [if_neg (by rw [hl]; decide)]
      · have hul : useW (itemW w ni d c 0 l) l (nI ni) = setW (itemW w ni d c 0 l) 23 l.toNatClampNeg (nI ni) := if_pos (by
          have e3 : itemW w ni d c 0 l 3 = w 3 := by simp (disch := omega) only [itemW, setW_ne]
          unfold hasL
          rw [e3]
          exact (hh l).mpr hl)
        rw [hul] at t
        have e57 : setW (setW (itemW w ni d c 0 l) 23 l.toNatClampNeg (nI ni)) 0 6 1 57 = w 57 := by simp (disch := omega) only [itemW, setW_ne]
        have e63 : setW (setW (itemW w ni d c 0 l) 23 l.toNatClampNeg (nI ni)) 0 6 1 63 = w 63 := by simp (disch := omega) only [itemW, setW_ne]
        have u := t_X7_pay (E := E) (w := setW (setW (itemW w ni d c 0 l) 23 l.toNatClampNeg (nI ni)) 0 6 1) (d := d) (c := c) (l := l) (by rw [e57]; exact hT.2.2.2.1.2.2.1) hT.2.2.2.1.1 (by rw [e57]; exact hT.2.2.1.2.2.1) hT.2.2.1.1
        have hus : ¬ usedP (setW (setW (itemW w ni d c 0 l) 23 l.toNatClampNeg (nI ni)) 0 6 1) l := by
          unfold usedP
          rw [e63]
          exact hc.2.2.2
        rw [if_neg c1, if_neg (fun z => z hc.2.1), if_neg hc.2.2.1, if_neg hus, if_pos ⟨hc.1, hc.2.1, hc.2.2.1, hus⟩] at u
        refine ⟨_, _, _, t, u.to rfl ?_, Rel_pay1 (d := d) (c := c) hT hl hc.2.2.1⟩
        unfold payMW usedMW
        rw [if_pos hl.1]
    · rw [if_neg hc] at t u0
      exact ⟨_, _, _, t, u0, Rel.at hT hC hM⟩
theorem case_vouch (hR : Rel w) {i z : Int32} (hz : z = 0 ∨ z = 1) : Case E 2 yX6_vouch cX6_vouch 4 2 yX7_vouch cX7_vouch 4 [.int i, .int z] w := by
  obtain ⟨nl, nw, nv, ne, ni, hT, hC, hM⟩ := hR
  have hh : ∀ x : Int32, hasI w x ↔ inP x ni := fun x => in_has (N := 60) hT.2.2.2.1.2.1 hT.2.2.2.1.1 (by decide)
  have hb : hasI w i → w 28 i.toNatClampNeg = 0 ∨ w 28 i.toNatClampNeg = 1 := fun q => by
    have hp := (hh i).mp q
    obtain ⟨a1, a2, a3, a4, a5, a6, a7, a8⟩ := hT.2.2.2.1.2.2.2.1 _ (nat_lt hp.1 hp.2)
    exact a6
  have t := t_X6_vouch (E := E) (w := w) (i := i) (z := z) hT.2.2.2.1.2.1 hT.2.2.2.1.1 hz hb
  have u0 := t_X7_vouch (E := E) (w := w) (i := i) (z := z) hT.2.2.2.1.2.2.1 hT.2.2.2.1.1 hz
  by_cases hp : inP i ni
  · have hq := (hh i).mpr hp
    obtain ⟨a1, a2, a3, a4, a5, a6, a7, a8⟩ := hT.2.2.2.1.2.2.2.1 _ (nat_lt hp.1 hp.2)
    rcases a8 with ⟨b1, b2, -⟩ | ⟨b1, b2, -⟩
    · have n1 : ¬ w 26 i.toNatClampNeg = 0 := by rw [b1]; decide
      rw [if_pos hq, if_pos n1, if_neg (fun y => y.2 n1)] at t
      rw [if_pos hp, if_pos b2, if_neg (fun y => y.2 b2)] at u0
      exact ⟨_, _, _, t, u0, Rel.at hT hC hM⟩
    · have n2 : ¬ w 64 i.toNatClampNeg = 0 := by rw [b2]; decide
      rw [if_pos hq, if_neg (fun y => y b1), if_pos ⟨hq, fun y => y b1⟩] at t
      have e57 : setW (setW w 28 i.toNatClampNeg z) 0 6 1 57 = w 57 := by simp (disch := omega) only [setW_ne]
      have e64 : setW (setW w 28 i.toNatClampNeg z) 0 6 1 64 = w 64 := by simp (disch := omega) only [setW_ne]
      have e68 : setW (setW w 28 i.toNatClampNeg z) 0 6 1 68 = w 68 := by simp (disch := omega) only [setW_ne]
      have u := t_X7_vouch (E := E) (w := setW (setW w 28 i.toNatClampNeg z) 0 6 1) (i := i) (z := z) (by rw [e57]; exact hT.2.2.2.1.2.2.1) hT.2.2.2.1.1 hz
      rw [e64, e68, a4, if_pos hp, if_neg n2, if_pos (show inP i ni ∧ ¬ w 64 i.toNatClampNeg = 0 from ⟨hp, n2⟩)] at u
      refine ⟨_, _, _, t, u.to ?_ rfl, Rel_vouch hT hp hz⟩
      rcases a6 with r | r
      · rw [r]; rfl
      · rw [r]; rfl
  · rw [if_neg (fun y => hp ((hh i).mp y)), if_neg (fun y => hp ((hh i).mp y.1))] at t
    rw [if_neg hp, if_neg (fun y => hp y.1)] at u0
    exact ⟨_, _, _, t, u0, Rel.at hT hC hM⟩
theorem case_challenge (hR : Rel w) {i z : Int32} (hz : z = 0 ∨ z = 1) : Case E 2 yX6_challenge cX6_challenge 4 2 yX7_challenge cX7_challenge 4 [.int i, .int z] w := by
  obtain ⟨nl, nw, nv, ne, ni, hT, hC, hM⟩ := hR
  have hh : ∀ x : Int32, hasI w x ↔ inP x ni := fun x => in_has (N := 60) hT.2.2.2.1.2.1 hT.2.2.2.1.1 (by decide)
  have hb : hasI w i → w 29 i.toNatClampNeg = 0 ∨ w 29 i.toNatClampNeg = 1 := fun q => by
    have hp := (hh i).mp q
    obtain ⟨a1, a2, a3, a4, a5, a6, a7, a8⟩ := hT.2.2.2.1.2.2.2.1 _ (nat_lt hp.1 hp.2)
    exact a7
  have t := t_X6_challenge (E := E) (w := w) (i := i) (z := z) hT.2.2.2.1.2.1 hT.2.2.2.1.1 hz hb
  have u0 := t_X7_challenge (E := E) (w := w) (i := i) (z := z) hT.2.2.2.1.2.2.1 hT.2.2.2.1.1 hz
  by_cases hp : inP i ni
  · have hq := (hh i).mpr hp
    obtain ⟨a1, a2, a3, a4, a5, a6, a7, a8⟩ := hT.2.2.2.1.2.2.2.1 _ (nat_lt hp.1 hp.2)
    rcases a8 with ⟨b1, b2, -⟩ | ⟨b1, b2, -⟩
    · have n1 : ¬ w 26 i.toNatClampNeg = 0 := by rw [b1]; decide
      rw [if_pos hq, if_pos n1, if_neg (fun y => y.2 n1)] at t
      rw [if_pos hp, if_pos b2, if_neg (fun y => y.2 b2)] at u0
      exact ⟨_, _, _, t, u0, Rel.at hT hC hM⟩
    · have n2 : ¬ w 64 i.toNatClampNeg = 0 := by rw [b2]; decide
      rw [if_pos hq, if_neg (fun y => y b1), if_pos ⟨hq, fun y => y b1⟩] at t
      have e57 : setW (setW w 29 i.toNatClampNeg z) 0 6 1 57 = w 57 := by simp (disch := omega) only [setW_ne]
      have e64 : setW (setW w 29 i.toNatClampNeg z) 0 6 1 64 = w 64 := by simp (disch := omega) only [setW_ne]
      have e68 : setW (setW w 29 i.toNatClampNeg z) 0 6 1 69 = w 69 := by simp (disch := omega) only [setW_ne]
      have u := t_X7_challenge (E := E) (w := setW (setW w 29 i.toNatClampNeg z) 0 6 1) (i := i) (z := z) (by rw [e57]; exact hT.2.2.2.1.2.2.1) hT.2.2.2.1.1 hz
      rw [e64, e68, a5, if_pos hp, if_neg n2, if_pos (show inP i ni ∧ ¬ w 64 i.toNatClampNeg = 0 from ⟨hp, n2⟩)] at u
      refine ⟨_, _, _, t, u.to ?_ rfl, Rel_challenge hT hp hz⟩
      rcases a7 with r | r
      · rw [r]; rfl
      · rw [r]; rfl
  · rw [if_neg (fun y => hp ((hh i).mp y)), if_neg (fun y => hp ((hh i).mp y.1))] at t
    rw [if_neg hp, if_neg (fun y => hp y.1)] at u0
    exact ⟨_, _, _, t, u0, Rel.at hT hC hM⟩
theorem case_barred (hR : Rel w) {i : Int32} : Case E 4 yX6_barred cX6_barred 2 3 yX7_barred cX7_barred 2 [.int i] w := by
  obtain ⟨nl, nw, nv, ne, ni, hT, hC, hM⟩ := hR
  have hh : ∀ x : Int32, hasI w x ↔ inP x ni := fun x => in_has (N := 60) hT.2.2.2.1.2.1 hT.2.2.2.1.1 (by decide)
  have t := t_X6_barred (E := E) (w := w) (i := i) hT.2.2.2.1.2.1 hT.2.2.2.1.1 hT.1.2.1 hT.1.1
  have u := t_X7_barred (E := E) (w := w) (i := i) hT.2.2.2.1.2.2.1 hT.2.2.2.1.1 hT.1.2.2.1 hT.1.1 (fun k hk => lk10 hT hk)
  refine ⟨_, _, _, t, u.to ?_ rfl, Rel.at hT hC hM⟩
  by_cases hp : inP i ni
  · rw [if_pos hp, if_pos ((hh i).mpr hp), bars_eq hT.1 hT.2.2.1 hT.2.2.2.1 (nat_lt hp.1 hp.2)]
  · rw [if_neg hp, if_neg (fun z => hp ((hh i).mp z))]
theorem case_let (hR : Rel w) {d y r l : Int32} : Case E 3 yX6_let cX6_let 6 2 yX7_let cX7_let 5 [.int d, .int y, .int r, .int l] w := by
  obtain ⟨nl, nw, nv, ne, ni, hT, hC, hM⟩ := hR
  have hh : ∀ x : Int32, hasL w x ↔ inP x nv := fun x => in_has (N := 10) hT.2.2.1.2.1 hT.2.2.1.1 (by decide)
  have t := t_X6_let (E := E) (w := w) (d := d) (y := y) (r := r) (l := l) hT.2.2.2.2.1.2.1 hT.2.2.2.2.1.1
  have u0 := t_X7_let (E := E) (w := w) (d := d) (y := y) (r := r) (l := l) hT.2.2.2.2.1.2.2.1 hT.2.2.2.2.1.1 hT.2.2.1.2.2.1 hT.2.2.1.1
  simp only [hh] at t
  by_cases c1 : ¬ l = -1 ∧ ¬ inP l nv
  · rw [if_pos c1, if_neg (fun z => z.1 c1)] at t
    rw [if_pos c1, if_neg (fun z => z.1 c1)] at u0
    exact ⟨_, _, _, t, u0, Rel.at hT hC hM⟩
  · have hl : lkP l nv := by
      by_cases h1 : l = -1
      · exact Or.inl h1
      · exact Or.inr (Decidable.not_not.mp (fun z => c1 ⟨h1, z⟩))
    have hu := use_eq hT.2.2.1 hl
    simp only [hu] at t
    by_cases hc : ¬ (¬ l = -1 ∧ ¬ inP l nv) ∧ letP d y r ∧ ¬ 10 ≤ ne ∧ ¬ usedP w l
    · rw [if_neg c1, if_neg (fun z => z hc.2.1), if_neg hc.2.2.1, if_neg hc.2.2.2, if_pos hc] at t
      rcases hl with hl | hl
      · have hul : useW (leaseW w ne d y r l) l (nI (100 + ne)) = leaseW w ne d y r l := if_neg (fun z => by
          have z1 := z.1
          rw [hl] at z1
          exact absurd z1 (by decide))
        rw [hul] at t
        have e57 : leaseW w ne d y r l 57 = w 57 := by simp (disch := omega) only [leaseW, setW_ne]
        have e63 : leaseW w ne d y r l 63 = w 63 := by simp (disch := omega) only [leaseW, setW_ne]
        have u := t_X7_let (E := E) (w := leaseW w ne d y r l) (d := d) (y := y) (r := r) (l := l) (by rw [e57]; exact hT.2.2.2.2.1.2.2.1) hT.2.2.2.2.1.1 (by rw [e57]; exact hT.2.2.1.2.2.1) hT.2.2.1.1
        have hus : ¬ usedP (leaseW w ne d y r l) l := by
          unfold usedP
          rw [e63]
          exact hc.2.2.2
        rw [if_neg c1, if_neg (fun z => z hc.2.1), if_neg hc.2.2.1, if_neg hus, if_pos ⟨hc.1, hc.2.1, hc.2.2.1, hus⟩] at u
        refine ⟨_, _, _, t, u.to rfl ?_, Rel_let0 hT hC hM hl hc.2.1 hc.2.2.1⟩
        unfold letMW usedMW
        rw [if_neg (by rw [hl]; decide)]
      · have hul : useW (leaseW w ne d y r l) l (nI (100 + ne)) = setW (leaseW w ne d y r l) 23 l.toNatClampNeg (nI (100 + ne)) := if_pos (by
          have e3 : leaseW w ne d y r l 3 = w 3 := by simp (disch := omega) only [leaseW, setW_ne]
          unfold hasL
          rw [e3]
          exact (hh l).mpr hl)
        rw [hul] at t
        have e57 : setW (leaseW w ne d y r l) 23 l.toNatClampNeg (nI (100 + ne)) 57 = w 57 := by simp (disch := omega) only [leaseW, setW_ne]
        have e63 : setW (leaseW w ne d y r l) 23 l.toNatClampNeg (nI (100 + ne)) 63 = w 63 := by simp (disch := omega) only [leaseW, setW_ne]
        have u := t_X7_let (E := E) (w := setW (leaseW w ne d y r l) 23 l.toNatClampNeg (nI (100 + ne))) (d := d) (y := y) (r := r) (l := l) (by rw [e57]; exact hT.2.2.2.2.1.2.2.1) hT.2.2.2.2.1.1 (by rw [e57]; exact hT.2.2.1.2.2.1) hT.2.2.1.1
        have hus : ¬ usedP (setW (leaseW w ne d y r l) 23 l.toNatClampNeg (nI (100 + ne))) l := by
          unfold usedP
          rw [e63]
          exact hc.2.2.2
        rw [if_neg c1, if_neg (fun z => z hc.2.1), if_neg hc.2.2.1, if_neg hus, if_pos ⟨hc.1, hc.2.1, hc.2.2.1, hus⟩] at u
        refine ⟨_, _, _, t, u.to rfl ?_, Rel_let1 hT hC hM hl hc.2.1 hc.2.2.1⟩
        unfold letMW usedMW
        rw [if_pos hl.1]
    · rw [if_neg hc] at t u0
      exact ⟨_, _, _, t, u0, Rel.at hT hC hM⟩
theorem case_isVoid (hR : Rel w) {i : Int32} : Case E 4 yX6_isVoid cX6_isVoid 2 3 yX7_isVoid cX7_isVoid 2 [.int i] w := by
  obtain ⟨nl, nw, nv, ne, ni, hT, hC, hM⟩ := hR
  have hh : ∀ x : Int32, hasE w x ↔ inP x ne := fun x => in_has (N := 10) hT.2.2.2.2.1.2.1 hT.2.2.2.2.1.1 (by decide)
  have t := t_X6_isVoid (E := E) (w := w) (i := i) hT.2.2.2.2.1.2.1 hT.2.2.2.2.1.1 hT.1.2.1 hT.1.1
  have u := t_X7_isVoid (E := E) (w := w) (i := i) hT.2.2.2.2.1.2.2.1 hT.2.2.2.2.1.1 hT.1.2.2.1 hT.1.1 (fun k hk => lke10 hT hk)
  refine ⟨_, _, _, t, u.to ?_ rfl, Rel.at hT hC hM⟩
  by_cases hp : inP i ne
  · rw [if_pos hp, if_pos ((hh i).mpr hp), flaw_eq hT.1 hT.2.2.1 hT.2.2.2.2.1 (nat_lt hp.1 hp.2)]
  · rw [if_neg hp, if_neg (fun z => hp ((hh i).mp z))]
theorem case_arrears (hR : Rel w) {i day : Int32} : Case E 4 yX6_arrears cX6_arrears 5 3 yX7_arrears cX7_arrears 5 [.int i, .int day] w := by
  obtain ⟨nl, nw, nv, ne, ni, hT, hC, hM⟩ := hR
  have hh : ∀ x : Int32, hasE w x ↔ inP x ne := fun x => in_has (N := 10) hT.2.2.2.2.1.2.1 hT.2.2.2.2.1.1 (by decide)
  have t := t_X6_arrears (E := E) (w := w) (i := i) (day := day) hT.2.2.2.2.1.2.1 hT.2.2.2.2.1.1 hT.1.2.1 hT.1.1 hT.2.2.2.1.2.1 hT.2.2.2.1.1
  have u := t_X7_arrears (E := E) (w := w) (i := i) (day := day) (YF := fun k => (w 71 k).toNatClampNeg) hT.2.2.2.1.2.2.1 hT.2.2.2.1.1 hT.2.2.2.2.1.2.2.1 hT.2.2.2.2.1.1 hT.1.2.2.1 hT.1.1 (fun k hk => lke10 hT hk) (fun k hk => by
    obtain ⟨a1, a2, a3, a4, a5, a6⟩ := hT.2.2.2.2.1.2.2.2 k hk
    have hy := a6.2.1
    rw [← a2] at hy
    refine ⟨nI_back (by omega), ?_⟩
    have := toNat_back (x := w 71 k) (by omega)
    omega)
  refine ⟨_, _, _, t, u.to ?_ rfl, Rel.at hT hC hM⟩
  by_cases hp : inP i ne
  · by_cases hd : dayP day
    · rw [if_pos hp, if_pos ((hh i).mpr hp), if_pos hd, if_pos hd, arr_eq hT.1 hT.2.2.1 hT.2.2.2.1 hT.2.2.2.2.1 (nat_lt hp.1 hp.2) hd]
    · rw [if_pos hp, if_pos ((hh i).mpr hp), if_neg hd, if_neg hd]
  · rw [if_neg hp, if_neg (fun z => hp ((hh i).mp z))]
theorem case_pot (hR : Rel w) {day : Int32} : Case E 7 yX6_pot cX6_pot 2 4 yX7_pot cX7_pot 2 [.int day] w := by
  obtain ⟨nl, nw, nv, ne, ni, hT, hC, hM⟩ := hR
  obtain ⟨T2, c1, m2, C2, M2⟩ := lay_both hT hC hM
  have T1 := Told_setl hT
  have ho : ∀ k, k < ni → (setlW w nl nw ni 67 k).toInt < 10 := fun k hk => lk10 T1 hk
  have ho0 : ∀ k, k < ni → (w 67 k).toInt < 10 := fun k hk => lk10 hT hk
  have t := t_X6_pot (E := E) (w := w) hT.1.2.1 hT.1.1 hT.2.1.2.1 hT.2.1.1 hT.2.2.2.1.2.1 hT.2.2.2.1.1 (day := day)
  by_cases hp : dayP day
  · rw [if_pos hp, if_pos hp] at t
    have u := t_X7_pot (E := E) (w := setlW w nl nw ni) T1.1.2.2.1 T1.1.1 T1.2.1.2.2.1 T1.2.1.1 T1.2.2.2.1.2.2.1 T1.2.2.2.1.1 ho (day := day)
    rw [if_pos hp, if_pos hp] at u
    refine ⟨_, _, _, t, u.to ?_ rfl, ⟨nl, nw, nv, ne, ni, T2, fun _ => C2, fun _ => M2⟩⟩
    have hD : day.toNatClampNeg < 3600 := nat_lt hp.1 (by omega)
    rw [m2.2.1 _ hD, pot_eq c1 (setlW_ne (by omega)) (setlW_ne (by omega)) (setlW_ne (by omega)) hD]
  · rw [if_neg hp, if_neg hp] at t
    have u := t_X7_pot (E := E) (w := w) hT.1.2.2.1 hT.1.1 hT.2.1.2.2.1 hT.2.1.1 hT.2.2.2.1.2.2.1 hT.2.2.2.1.1 ho0 (day := day)
    rw [if_neg hp, if_neg hp] at u
    exact ⟨_, _, _, t, u, Rel.at hT hC hM⟩
theorem case_account (hR : Rel w) {y z : Int32} : Case E 7 yX6_account cX6_account 3 4 yX7_account cX7_account 3 [.int y, .int z] w := by
  obtain ⟨nl, nw, nv, ne, ni, hT, hC, hM⟩ := hR
  obtain ⟨T2, c1, m2, C2, M2⟩ := lay_both hT hC hM
  have T1 := Told_setl hT
  have ho : ∀ k, k < ni → (setlW w nl nw ni 67 k).toInt < 10 := fun k hk => lk10 T1 hk
  have ho0 : ∀ k, k < ni → (w 67 k).toInt < 10 := fun k hk => lk10 hT hk
  have t := t_X6_account (E := E) (w := w) hT.1.2.1 hT.1.1 hT.2.1.2.1 hT.2.1.1 hT.2.2.2.1.2.1 hT.2.2.2.1.1 (y := y) (z := z)
  by_cases hp : yearP y ∧ (0 ≤ z.toInt ∧ z.toInt ≤ 5)
  · rw [if_pos hp.1, if_pos hp.2, if_pos hp] at t
    have u := t_X7_account (E := E) (w := setlW w nl nw ni) T1.1.2.2.1 T1.1.1 T1.2.1.2.2.1 T1.2.1.1 T1.2.2.2.1.2.2.1 T1.2.2.2.1.1 ho (y := y) (z := z)
    rw [if_pos hp.1, if_pos hp.2, if_pos hp] at u
    refine ⟨_, _, _, t, u.to ?_ rfl, ⟨nl, nw, nv, ne, ni, T2, fun _ => C2, fun _ => M2⟩⟩
    rw [m2.2.2 _ (nat_lt hp.1.1 (by omega)) _ (nat_lt hp.2.1 (by omega)), c1.2.2 _ (nat_lt hp.1.1 (by omega)) _ (nat_lt hp.2.1 (by omega))]
  · rw [if_neg hp] at t
    have u := t_X7_account (E := E) (w := w) hT.1.2.2.1 hT.1.1 hT.2.1.2.2.1 hT.2.1.1 hT.2.2.2.1.2.2.1 hT.2.2.2.1.1 ho0 (y := y) (z := z)
    rw [if_neg hp] at u
    refine ⟨_, _, _, t, u.to ?_ rfl, Rel.at hT hC hM⟩
    by_cases h1 : yearP y
    · rw [if_pos h1, if_pos h1, if_neg (fun q => hp ⟨h1, q⟩), if_neg (fun q => hp ⟨h1, q⟩)]
    · rw [if_neg h1, if_neg h1]
theorem keepW_at {w : W0} {y : Nat} {q : Nat} (h : q ≠ 6 ∧ q ≠ 47 + y) : keepW w y q = w q := by
  unfold keepW keptW
  rw [setW_ne h.1, setA_ne h.2]
theorem Rel_pass {w r : W0} {nl nw nv ne ni Y : Nat} (hT : Told w nl nw nv ne ni) (hY : Y < 10) (hC : LC w w nl nw ni) (hm : LM (layM (keepW w Y) nl nw ni) w nl nw ni) (hk : layM (keepW w Y) nl nw ni = r) : Rel (passW r Y) := by
  have r57 : ∀ k, ¬ k = 23 → r 57 k = w 57 k := fun k h => by rw [← hk, layM_57 h, keepW_at (by omega)]
  have rne : ∀ q, q ≠ 6 → q ≠ 47 + Y → (q < 57 ∨ (57 < q ∧ q < 75)) → r q = w q := fun q a b c => by rw [← hk, layM_ne (by omega), keepW_at ⟨a, b⟩]
  have r6 : r 6 = keepW w Y 6 := by rw [← hk, layM_ne (by omega)]
  have r47 : r (47 + Y) = keepW w Y (47 + Y) := by rw [← hk, layM_ne (by omega)]
  rw [hk] at hm
  have pne : ∀ q, q ≠ 57 → q ≠ 74 → passW r Y q = r q := fun q a b => by
    unfold passW
    rw [setW_ne a, setA_ne b]
  have p57 : ∀ k, k ≠ 22 → passW r Y 57 k = r 57 k := fun k a => by
    unfold passW
    rw [setW_p, upd_ne a, setA_ne (by decide)]
  have k6 : ∀ j, j ≠ 2 → keepW w Y 6 j = w 6 j := fun j a => by
    unfold keepW keptW
    rw [setW_p, upd_ne a, setA_ne (by omega)]
  have k62 : keepW w Y 6 2 = w 6 2 ||| (1 <<< (nI Y &&& 31)) := by
    unfold keepW keptW
    rw [setW_p, upd_self]
  have k47 : keepW w Y (47 + Y) = fillF (w (36 + Y)) (w (47 + Y)) 6 := by
    unfold keepW keptW
    rw [setW_ne (by omega), setA_p]
  have hw : ∀ q, (0 < q ∧ q < 6) ∨ (6 < q ∧ q < 47) ∨ (57 < q ∧ q < 74) → passW r Y q = w q := fun q z => by rw [pne q (by omega) (by omega), rne q (by omega) (by omega) (by omega)]
  have h57 : ∀ k, ¬ k = 22 → ¬ k = 23 → passW r Y 57 k = w 57 k := fun k a b => by rw [p57 k a, r57 k b]
  obtain ⟨hL, hW, hV, hI, hE, hK⟩ := hT
  have s1 : Sp w (passW r Y) nl nw ni := Sp_of hL.1 (fun q z => (hw q (by omega)).symm) (fun k hk => alF_eq (fun q z => (hw q (by omega)).symm) (by rw [hw 3 (by omega)]))
  refine ⟨nl, nw, nv, ne, ni, ⟨hL.go (fun q z => hw q (by omega)) (by rw [hw 1 (by omega)]) (h57 0 (by decide) (by decide)), hW.go (fun q z => hw q (by omega)) (by rw [hw 2 (by omega)]) (h57 3 (by decide) (by decide)), hV.go (fun q z => hw q (by omega)) (by rw [hw 3 (by omega)]) (h57 6 (by decide) (by decide)), hI.go (Nat.le_refl _) (Nat.le_refl _) (fun q z => hw q (by omega)) (by rw [hw 4 (by omega)]) (h57 9 (by decide) (by decide)), hE.go (Nat.le_refl _) (fun q z => hw q (by omega)) (by rw [hw 5 (by omega)]) (h57 16 (by decide) (by decide)), ?_, ?_⟩, fun _ => hC.go s1 (fun q z => hw q (by omega)), fun _ => hm.go s1 (fun q z => pne q (by omega) (by omega))⟩
  · have e1 : passW r Y 57 22 = r 57 22 ||| (1 <<< (nI Y &&& 31)) := by
      unfold passW
      rw [setW_p, upd_self]
    rw [e1, r57 22 (by decide), pne 6 (by decide) (by decide), r6, k62, hK.1]
  · intro y hy p hp
    have e74 : passW r Y 74 = cpF (6 * Y) (r 76) (r 74) 6 := by
      unfold passW
      rw [setW_ne (by decide), setA_p]
    rw [e74]
    unfold cpF
    by_cases e : y = Y
    · subst e
      rw [if_pos (by omega), pne (47 + y) (by omega) (by omega), r47, k47, fillF_in hp, hm.2.2 y hy p hp, hC.2.2 y hy p hp]
    · rw [if_neg (by omega), pne (47 + y) (by omega) (by omega), rne (47 + y) (by omega) (by omega) (by omega), rne 74 (by omega) (by omega) (by omega)]
      exact hK.2 y hy p hp
theorem case_pass (hR : Rel w) {y : Int32} : Case E 7 yX6_pass cX6_pass 2 4 yX7_pass cX7_pass 3 [.int y] w := by
  obtain ⟨nl, nw, nv, ne, ni, hT, hC, hM⟩ := hR
  obtain ⟨T2, c1, m2, C2, M2⟩ := lay_both hT hC hM
  have T1 := Told_setl hT
  have ho : ∀ k, k < ni → (setlW w nl nw ni 67 k).toInt < 10 := fun k hk => lk10 T1 hk
  have ho0 : ∀ k, k < ni → (w 67 k).toInt < 10 := fun k hk => lk10 hT hk
  have t := t_X6_pass (E := E) (w := w) hT.1.2.1 hT.1.1 hT.2.1.2.1 hT.2.1.1 hT.2.2.2.1.2.1 hT.2.2.2.1.1 (y := y)
  by_cases hp : yearP y
  · have hY : y.toNatClampNeg < 10 := nat_lt hp.1 (by omega)
    rw [if_pos hp, if_pos hp] at t
    have hk : ∀ q, q ≠ 6 ∧ q ≠ 47 + y.toNatClampNeg → keepW (setlW w nl nw ni) y.toNatClampNeg q = setlW w nl nw ni q := fun q z => keepW_at z
    have e57 : keepW (setlW w nl nw ni) y.toNatClampNeg 57 = setlW w nl nw ni 57 := hk 57 (by omega)
    have e67 : keepW (setlW w nl nw ni) y.toNatClampNeg 67 = setlW w nl nw ni 67 := hk 67 (by omega)
    have u := t_X7_pass (E := E) (w := keepW (setlW w nl nw ni) y.toNatClampNeg) (by rw [e57]; exact T1.1.2.2.1) T1.1.1 (by rw [e57]; exact T1.2.1.2.2.1) T1.2.1.1 (by rw [e57]; exact T1.2.2.2.1.2.2.1) T1.2.2.2.1.1 (by rw [e67]; exact ho) (y := y)
    rw [if_pos hp, if_pos hp] at u
    have hnl : nl ≤ 8 := hT.1.1
    have sW : Sp w (setlW w nl nw ni) nl nw ni := Sp_of hnl (fun q z => (setlW_ne (by omega)).symm) (fun k hk => alF_eq (fun q z => (setlW_ne (by omega)).symm) (by rw [setlW_ne (by omega)]))
    have sK : Sp (setlW w nl nw ni) (keepW (setlW w nl nw ni) y.toNatClampNeg) nl nw ni := Sp_of hnl (fun q z => (hk q (by omega)).symm) (fun k _ => alF_eq (fun q z => (hk q (by omega)).symm) (by rw [hk 3 (by omega)]))
    have sK' : Sp (keepW (setlW w nl nw ni) y.toNatClampNeg) (setlW w nl nw ni) nl nw ni := Sp_of hnl (fun q z => hk q (by omega)) (fun k _ => alF_eq (fun q z => hk q (by omega)) (by rw [hk 3 (by omega)]))
    obtain ⟨kL, kW, kV, kI, kE, kK⟩ := T1
    have mL : TL (keepW (setlW w nl nw ni) y.toNatClampNeg) nl := kL.go (fun q z => hk q (by omega)) (by rw [hk 1 (by omega)]) (by rw [e57])
    have mW : TW (keepW (setlW w nl nw ni) y.toNatClampNeg) nw := kW.go (fun q z => hk q (by omega)) (by rw [hk 2 (by omega)]) (by rw [e57])
    have mV : TV (keepW (setlW w nl nw ni) y.toNatClampNeg) nv := kV.go (fun q z => hk q (by omega)) (by rw [hk 3 (by omega)]) (by rw [e57])
    have mI : TI (keepW (setlW w nl nw ni) y.toNatClampNeg) nv ne ni := kI.go (Nat.le_refl _) (Nat.le_refl _) (fun q z => hk q (by omega)) (by rw [hk 4 (by omega)]) (by rw [e57])
    have hm := (LM_lay mL mW mV mI (fun z => ((hM (by rw [e57, setlW_ne (by omega)] at z; exact z)).go sW (w' := setlW w nl nw ni) (fun q z => setlW_ne (by omega))).go sK (fun q z => hk q (by omega)))).go sK' (w' := layM (keepW (setlW w nl nw ni) y.toNatClampNeg) nl nw ni) (fun q z => rfl)
    have hc := c1.go sW (w' := setlW w nl nw ni) (fun q z => rfl)
    refine ⟨_, _, _, t, u.to ?_ rfl, Rel_pass ⟨kL, kW, kV, kI, kE, kK⟩ hY hc hm rfl⟩
    rw [hm.2.2 _ hY 5 (by decide), hc.2.2 _ hY 5 (by decide)]
  · rw [if_neg hp, if_neg hp] at t
    have u := t_X7_pass (E := E) (w := w) hT.1.2.2.1 hT.1.1 hT.2.1.2.2.1 hT.2.1.1 hT.2.2.2.1.2.2.1 hT.2.2.2.1.1 ho0 (y := y)
    rw [if_neg hp, if_neg hp] at u
    exact ⟨_, _, _, t, u, Rel.at hT hC hM⟩
theorem case_passed (hR : Rel w) {y z : Int32} : Case E 3 yX6_passed cX6_passed 3 2 yX7_passed cX7_passed 3 [.int y, .int z] w := by
  obtain ⟨nl, nw, nv, ne, ni, hT, hC, hM⟩ := hR
  have t := t_X6_passed (E := E) (w := w) (y := y) (z := z)
  have u := t_X7_passed (E := E) (w := w) (y := y) (z := z)
  refine ⟨_, _, _, t, u.to ?_ rfl, Rel.at hT hC hM⟩
  by_cases hp : yearP y
  · by_cases hq : 0 ≤ z.toInt ∧ z.toInt ≤ 5
    · rw [if_pos hp, if_pos hp, if_pos hq, if_pos hq, hT.2.2.2.2.2.1, hT.2.2.2.2.2.2 _ (nat_lt hp.1 (by omega)) _ (nat_lt hq.1 (by omega))]
      simp only [bit_iff]
    · rw [if_pos hp, if_pos hp, if_neg hq, if_neg hq]
  · rw [if_neg hp, if_neg hp]
theorem case_open (hR : Rel w) : Case E 7 yX6_open cX6_open 1 4 yX7_open cX7_open 5 [] w := by
  obtain ⟨nl, nw, nv, ne, ni, hT, hC, hM⟩ := hR
  obtain ⟨T2, c1, m2, C2, M2⟩ := lay_both hT hC hM
  have T1 := Told_setl hT
  have ho : ∀ k, k < ni → (setlW w nl nw ni 67 k).toInt < 10 := fun k hk => lk10 T1 hk
  have ho0 : ∀ k, k < ni → (w 67 k).toInt < 10 := fun k hk => lk10 hT hk
  have t := t_X6_open (E := E) (w := w) hT.1.2.1 hT.1.1 hT.2.1.2.1 hT.2.1.1 hT.2.2.2.1.2.1 hT.2.2.2.1.1
  have u := t_X7_open (E := E) (w := setlW w nl nw ni) T1.1.2.2.1 T1.1.1 T1.2.1.2.2.1 T1.2.1.1 T1.2.2.2.1.2.2.1 T1.2.2.2.1.1 ho
  refine ⟨_, _, _, t, u.to ?_ rfl, ⟨nl, nw, nv, ne, ni, T2, fun _ => C2, fun _ => M2⟩⟩
  rw [open_eq c1 m2 (T2.2.2.2.2.2.1.trans (by rw [layM_ne (by omega)])).symm (fun y hy p hp => (T2.2.2.2.2.2.2 y hy p hp).trans (by rw [layM_ne (by omega)])) 10 (Nat.le_refl _)]
theorem case_told (hR : Rel w) {what : Int32} : Case E 1 yX6_told cX6_told 2 1 yX7_told cX7_told 2 [.int what] w := by
  obtain ⟨nl, nw, nv, ne, ni, hT, hC, hM⟩ := hR
  have t := t_X6_told (E := E) (w := w) (what := what)
  have u := t_X7_told (E := E) (w := w) (what := what)
  refine ⟨_, _, _, t, u.to ?_ rfl, Rel.at hT hC hM⟩
  obtain ⟨hL, hW, hV, hI, hE, hK⟩ := hT
  rw [hL.2.1, hL.2.2.1, hW.2.1, hW.2.2.1, hV.2.1, hV.2.2.1, hI.2.1, hI.2.2.1, hE.2.1, hE.2.2.1, hK.1]
end CASES
theorem dA_zero (t : W0) (D : Nat) : dA t 0 0 0 D (z0, 0, 0, 0) = (z0, 0, 0, 0) := by
  have hm : movF t 0 (nI D) = 0 := by
    show (0 : Int32) - 0 = 0
    decide
  have hg : ∀ x, gvF t 0 z0 (nI D) x = (z0, 0, 0) := fun x => rfl
  have hl : lawF (t 7) (lpF t) 0 (nI D) 1 = 100 := by
    unfold lawF
    rw [if_pos (show (bestF (t 7) (nI D) 0).toInt < 0 from by show (-1 : Int32).toInt < 0; decide)]
    rfl
  have hc : cntF (t 7) (lpF t) 0 0 (nI D) = 0 := by
    unfold cntF
    rw [hl, if_neg (by decide)]
  unfold dA
  dsimp only
  rw [hm, Int32.add_zero, hg]
  dsimp only
  rw [Int32.sub_zero, hc]
  rfl
theorem AG_zero (t : W0) : ∀ D, AG t 0 0 0 z0 D = (z0, 0, 0, 0)
  | 0 => rfl
  | D + 1 => by
    have hy : yrZ D ((z0, 0, 0, 0) : AS) = (z0, 0, 0, 0) := by
      unfold yrZ
      split <;> rfl
    rw [AG_s, AG_zero t D, hy]
    unfold dayG
    rw [dA_zero]
    split
    · show (z0, (0 : Int32) + ((0 : Int64) / 36000).toInt32, (0 : Int32), (0 : Int64)) = _
      rw [show (0 : Int32) + ((0 : Int64) / 36000).toInt32 = 0 from by decide]
    · rfl
theorem RW_zero (y p : Nat) : RW (fun _ _ => 0) 0 0 0 y p = 0 := by
  unfold RW rowG
  rw [AG_zero, AG_zero]
  split
  · rfl
  · split
    · rfl
    · split
      · rfl
      · split
        · rfl
        · split
          · show ((0 : Int64) / 36000).toInt32 = 0
            decide
          · rfl
theorem Rel_zero : Rel (fun _ _ => 0) := by
  refine ⟨0, 0, 0, 0, 0, ⟨⟨by decide, rfl, rfl, fun k hk => absurd hk (Nat.not_lt_zero k)⟩, ⟨by decide, rfl, rfl, fun k hk => absurd hk (Nat.not_lt_zero k)⟩, ⟨by decide, rfl, rfl, fun k hk => absurd hk (Nat.not_lt_zero k)⟩, ⟨by decide, rfl, rfl, fun k hk => absurd hk (Nat.not_lt_zero k), fun k hk => ⟨rfl, rfl⟩⟩, ⟨by decide, rfl, rfl, fun k hk => absurd hk (Nat.not_lt_zero k)⟩, ⟨rfl, fun y hy p hp => rfl⟩⟩, fun _ => ?_, fun h => absurd rfl h⟩
  refine ⟨fun k hk => absurd hk (Nat.not_lt_zero k), fun k hk => absurd hk (Nat.not_lt_zero k), fun y hy p hp => ?_⟩
  exact (RW_zero y p).symm

/-! Wards -/
abbrev hasW (w : W0) (i : Int32) : Prop := 0 ≤ i.toInt ∧ i.toInt < (w 2 5).toInt ∧ i.toInt < 6
abbrev livesF (bo di : Nat → Int32) (k : Nat) (day : Int32) : Prop := (bo k).toInt ≤ day.toInt ∧ (di k = -6 ∨ day.toInt < (di k).toInt)
def headsF (bo di go : Nat → Int32) (day : Int32) : Nat → Int32
  | 0 => 0
  | k + 1 => if ¬ (¬ go k = -6 ∧ (go k).toInt < day.toInt) ∧ livesF bo di k day then headsF bo di go day k + 1 else headsF bo di go day k
theorem headsF_s (bo di go : Nat → Int32) (day : Int32) (k : Nat) : headsF bo di go day (k + 1) = if ¬ (¬ go k = -6 ∧ (go k).toInt < day.toInt) ∧ livesF bo di k day then headsF bo di go day k + 1 else headsF bo di go day k := rfl
def gbF (go sr : Nat → Int32) (a b : Int32) : Nat → Int32
  | 0 => 0
  | k + 1 => if a.toInt ≤ (go k).toInt ∧ (go k).toInt ≤ b.toInt then gbF go sr a b k + sr k else gbF go sr a b k
theorem gbF_s (go sr : Nat → Int32) (a b : Int32) (k : Nat) : gbF go sr a b (k + 1) = if a.toInt ≤ (go k).toInt ∧ (go k).toInt ≤ b.toInt then gbF go sr a b k + sr k else gbF go sr a b k := rfl
/-- what a ward gets that is given over, with h heads left and g given already -/
def shareF (held g h : Int32) : Int32 := if 0 < (held - g).toInt ∧ 0 < h.toInt then (held - g) / h else 0
def gsF (go : Nat → Int32) (day held : Int32) (s0 : Nat → Int32) (h0 : Int32) : Nat → (Nat → Int32) × Int32 × Int32
  | 0 => (s0, 0, h0)
  | k + 1 => if go k = day then (upd (gsF go day held s0 h0 k).1 k (shareF held (gsF go day held s0 h0 k).2.1 (gsF go day held s0 h0 k).2.2), (gsF go day held s0 h0 k).2.1 + shareF held (gsF go day held s0 h0 k).2.1 (gsF go day held s0 h0 k).2.2, (gsF go day held s0 h0 k).2.2 + -1) else gsF go day held s0 h0 k
theorem gsF_s (go : Nat → Int32) (day held : Int32) (s0 : Nat → Int32) (h0 : Int32) (k : Nat) : gsF go day held s0 h0 (k + 1) = if go k = day then (upd (gsF go day held s0 h0 k).1 k (shareF held (gsF go day held s0 h0 k).2.1 (gsF go day held s0 h0 k).2.2), (gsF go day held s0 h0 k).2.1 + shareF held (gsF go day held s0 h0 k).2.1 (gsF go day held s0 h0 k).2.2, (gsF go day held s0 h0 k).2.2 + -1) else gsF go day held s0 h0 k := rfl
def goF (bo di FU : Nat → Int32) (j : Nat) : Int32 := if ¬ FU j = -6 ∧ livesF bo di j (FU j) then FU j else -6
theorem goF_or (bo di FU : Nat → Int32) (j : Nat) : (¬ FU j = -6 ∧ livesF bo di j (FU j) ∧ goF bo di FU j = FU j) ∨ (¬ (¬ FU j = -6 ∧ livesF bo di j (FU j)) ∧ goF bo di FU j = -6) := by
  by_cases h : ¬ FU j = -6 ∧ livesF bo di j (FU j)
  · exact Or.inl ⟨h.1, h.2, if_pos h⟩
  · exact Or.inr ⟨h, if_neg h⟩
set_option maxRecDepth 20000 in
theorem t_X5_has {E : En} {w : W0} {i : Int32} : Mt E 0 yX5_has cX5_has 2 (some .boolean) [.ref (E.1 2), .int i] w (some (.int (bI (hasW w i)))) w := by
  refine Mt.of (by decide +kernel) (Nat.le_of_ble_eq_true rfl) ?_
  show G E 0 RX5 cX5_has 2 (some .boolean) _ _ 0 [(0, .ref (E.1 2)), (1, .int i)] [] w
  refine g_iload_n 1 dX5_has_0 rfl rfl ?_
  refine g_if_lt 22 _ dX5_has_1 (by decide) rfl (fun h1 => ?_) (fun h1 => ?_)
  · refine g_iconst 0 dX5_has_22 rfl ?_
    refine g_iret dX5_has_23 rfl rfl ?_ ?_
    · first | (rw [bI_t]; omega) | (rw [bI_f]; omega)
    · rfl
  · refine g_iload_n 1 dX5_has_4 rfl rfl ?_
    refine g_aload_n 0 dX5_has_5 rfl rfl ?_
    refine gf_X5_27 dX5_has_6 ?_
    refine g_icmp_ge 22 _ _ dX5_has_9 (by decide) rfl rfl (fun h9 => ?_) (fun h9 => ?_)
    · refine g_iconst 0 dX5_has_22 rfl ?_
      refine g_iret dX5_has_23 rfl rfl ?_ ?_
      · first | (rw [bI_t]; omega) | (rw [bI_f]; omega)
      · rfl
    · refine g_iload_n 1 dX5_has_12 rfl rfl ?_
      refine g_bipush 6 dX5_has_13 rfl ?_
      refine g_icmp_ge 22 _ 6 dX5_has_15 (by decide) rfl rfl (fun h15 => ?_) (fun h15 => ?_)
      · refine g_iconst 0 dX5_has_22 rfl ?_
        refine g_iret dX5_has_23 rfl rfl ?_ ?_
        · first | (rw [bI_t]; omega) | (rw [bI_f]; omega)
        · rfl
      · refine g_iconst 1 dX5_has_18 rfl ?_
        refine g_goto 23 dX5_has_19 (by decide) ?_
        refine g_iret dX5_has_23 rfl rfl ?_ ?_
        · first | (rw [bI_t]; omega) | (rw [bI_f]; omega)
        · rfl
set_option maxRecDepth 20000 in
theorem t_X5_birthOf {E : En} {w : W0} {i : Int32} : Mt E 1 yX5_birthOf cX5_birthOf 2 (some .int) [.ref (E.1 2), .int i] w (some (.int (if hasW w i then w 17 i.toNatClampNeg else -6))) w := by
  refine Mt.of (by decide +kernel) (Nat.le_of_ble_eq_true rfl) ?_
  show G E 1 RX5 cX5_birthOf 2 (some .int) _ _ 0 [(0, .ref (E.1 2)), (1, .int i)] [] w
  refine g_aload_n 0 dX5_birthOf_0 rfl rfl ?_
  refine g_iload_n 1 dX5_birthOf_1 rfl rfl ?_
  refine ca_X5_31 dX5_birthOf_2 (t_X5_has) (by decide) (Nat.le_of_ble_eq_true rfl) ?_
  refine g_if_eqb 17 dX5_birthOf_5 (by decide) (fun h5 => ?_) (fun h5 => ?_)
  · refine g_bipush (-6) dX5_birthOf_17 rfl ?_
    refine g_iret dX5_birthOf_19 rfl rfl ?_ ?_
    · first | (rw [if_pos]; omega) | (rw [if_neg]; omega)
    · rfl
  · refine g_aload_n 0 dX5_birthOf_8 rfl rfl ?_
    refine gf_X5_9 dX5_birthOf_9 ?_
    refine g_iload_n 1 dX5_birthOf_12 rfl rfl ?_
    refine g_iald (n := 6) _ dX5_birthOf_13 (by decide) rfl rfl (by omega) ?_
    refine g_goto 19 dX5_birthOf_14 (by decide) ?_
    refine g_iret dX5_birthOf_19 rfl rfl ?_ ?_
    · first | (rw [if_pos]; omega) | (rw [if_neg]; omega)
    · rfl
set_option maxRecDepth 20000 in
theorem t_X5_deathOf {E : En} {w : W0} {i : Int32} : Mt E 1 yX5_deathOf cX5_deathOf 2 (some .int) [.ref (E.1 2), .int i] w (some (.int (if hasW w i then w 18 i.toNatClampNeg else -6))) w := by
  refine Mt.of (by decide +kernel) (Nat.le_of_ble_eq_true rfl) ?_
  show G E 1 RX5 cX5_deathOf 2 (some .int) _ _ 0 [(0, .ref (E.1 2)), (1, .int i)] [] w
  refine g_aload_n 0 dX5_deathOf_0 rfl rfl ?_
  refine g_iload_n 1 dX5_deathOf_1 rfl rfl ?_
  refine ca_X5_31 dX5_deathOf_2 (t_X5_has) (by decide) (Nat.le_of_ble_eq_true rfl) ?_
  refine g_if_eqb 17 dX5_deathOf_5 (by decide) (fun h5 => ?_) (fun h5 => ?_)
  · refine g_bipush (-6) dX5_deathOf_17 rfl ?_
    refine g_iret dX5_deathOf_19 rfl rfl ?_ ?_
    · first | (rw [if_pos]; omega) | (rw [if_neg]; omega)
    · rfl
  · refine g_aload_n 0 dX5_deathOf_8 rfl rfl ?_
    refine gf_X5_15 dX5_deathOf_9 ?_
    refine g_iload_n 1 dX5_deathOf_12 rfl rfl ?_
    refine g_iald (n := 6) _ dX5_deathOf_13 (by decide) rfl rfl (by omega) ?_
    refine g_goto 19 dX5_deathOf_14 (by decide) ?_
    refine g_iret dX5_deathOf_19 rfl rfl ?_ ?_
    · first | (rw [if_pos]; omega) | (rw [if_neg]; omega)
    · rfl
set_option maxRecDepth 20000 in
theorem t_X5_fullAgeOf {E : En} {w : W0} {i : Int32} : Mt E 1 yX5_fullAgeOf cX5_fullAgeOf 2 (some .int) [.ref (E.1 2), .int i] w (some (.int (if hasW w i then w 19 i.toNatClampNeg else -6))) w := by
  refine Mt.of (by decide +kernel) (Nat.le_of_ble_eq_true rfl) ?_
  show G E 1 RX5 cX5_fullAgeOf 2 (some .int) _ _ 0 [(0, .ref (E.1 2)), (1, .int i)] [] w
  refine g_aload_n 0 dX5_fullAgeOf_0 rfl rfl ?_
  refine g_iload_n 1 dX5_fullAgeOf_1 rfl rfl ?_
  refine ca_X5_31 dX5_fullAgeOf_2 (t_X5_has) (by decide) (Nat.le_of_ble_eq_true rfl) ?_
  refine g_if_eqb 17 dX5_fullAgeOf_5 (by decide) (fun h5 => ?_) (fun h5 => ?_)
  · refine g_bipush (-6) dX5_fullAgeOf_17 rfl ?_
    refine g_iret dX5_fullAgeOf_19 rfl rfl ?_ ?_
    · first | (rw [if_pos]; omega) | (rw [if_neg]; omega)
    · rfl
  · refine g_aload_n 0 dX5_fullAgeOf_8 rfl rfl ?_
    refine gf_X5_18 dX5_fullAgeOf_9 ?_
    refine g_iload_n 1 dX5_fullAgeOf_12 rfl rfl ?_
    refine g_iald (n := 6) _ dX5_fullAgeOf_13 (by decide) rfl rfl (by omega) ?_
    refine g_goto 19 dX5_fullAgeOf_14 (by decide) ?_
    refine g_iret dX5_fullAgeOf_19 rfl rfl ?_ ?_
    · first | (rw [if_pos]; omega) | (rw [if_neg]; omega)
    · rfl
set_option maxRecDepth 20000 in
theorem t_X5_givenOverOf {E : En} {w : W0} {i : Int32} : Mt E 1 yX5_givenOverOf cX5_givenOverOf 2 (some .int) [.ref (E.1 2), .int i] w (some (.int (if hasW w i then w 20 i.toNatClampNeg else -6))) w := by
  refine Mt.of (by decide +kernel) (Nat.le_of_ble_eq_true rfl) ?_
  show G E 1 RX5 cX5_givenOverOf 2 (some .int) _ _ 0 [(0, .ref (E.1 2)), (1, .int i)] [] w
  refine g_aload_n 0 dX5_givenOverOf_0 rfl rfl ?_
  refine g_iload_n 1 dX5_givenOverOf_1 rfl rfl ?_
  refine ca_X5_31 dX5_givenOverOf_2 (t_X5_has) (by decide) (Nat.le_of_ble_eq_true rfl) ?_
  refine g_if_eqb 17 dX5_givenOverOf_5 (by decide) (fun h5 => ?_) (fun h5 => ?_)
  · refine g_bipush (-6) dX5_givenOverOf_17 rfl ?_
    refine g_iret dX5_givenOverOf_19 rfl rfl ?_ ?_
    · first | (rw [if_pos]; omega) | (rw [if_neg]; omega)
    · rfl
  · refine g_aload_n 0 dX5_givenOverOf_8 rfl rfl ?_
    refine gf_X5_21 dX5_givenOverOf_9 ?_
    refine g_iload_n 1 dX5_givenOverOf_12 rfl rfl ?_
    refine g_iald (n := 6) _ dX5_givenOverOf_13 (by decide) rfl rfl (by omega) ?_
    refine g_goto 19 dX5_givenOverOf_14 (by decide) ?_
    refine g_iret dX5_givenOverOf_19 rfl rfl ?_ ?_
    · first | (rw [if_pos]; omega) | (rw [if_neg]; omega)
    · rfl
set_option maxRecDepth 20000 in
theorem t_X5_shareOf {E : En} {w : W0} {i : Int32} : Mt E 1 yX5_shareOf cX5_shareOf 2 (some .int) [.ref (E.1 2), .int i] w (some (.int (if hasW w i then w 21 i.toNatClampNeg else 0))) w := by
  refine Mt.of (by decide +kernel) (Nat.le_of_ble_eq_true rfl) ?_
  show G E 1 RX5 cX5_shareOf 2 (some .int) _ _ 0 [(0, .ref (E.1 2)), (1, .int i)] [] w
  refine g_aload_n 0 dX5_shareOf_0 rfl rfl ?_
  refine g_iload_n 1 dX5_shareOf_1 rfl rfl ?_
  refine ca_X5_31 dX5_shareOf_2 (t_X5_has) (by decide) (Nat.le_of_ble_eq_true rfl) ?_
  refine g_if_eqb 17 dX5_shareOf_5 (by decide) (fun h5 => ?_) (fun h5 => ?_)
  · refine g_iconst 0 dX5_shareOf_17 rfl ?_
    refine g_iret dX5_shareOf_18 rfl rfl ?_ ?_
    · first | (rw [if_pos]; omega) | (rw [if_neg]; omega)
    · rfl
  · refine g_aload_n 0 dX5_shareOf_8 rfl rfl ?_
    refine gf_X5_24 dX5_shareOf_9 ?_
    refine g_iload_n 1 dX5_shareOf_12 rfl rfl ?_
    refine g_iald (n := 6) _ dX5_shareOf_13 (by decide) rfl rfl (by omega) ?_
    refine g_goto 18 dX5_shareOf_14 (by decide) ?_
    refine g_iret dX5_shareOf_18 rfl rfl ?_ ?_
    · first | (rw [if_pos]; omega) | (rw [if_neg]; omega)
    · rfl
set_option maxRecDepth 20000 in
theorem t_X5_setDeath {E : En} {w : W0} {i x : Int32} : Mt E 1 yX5_setDeath cX5_setDeath 3 (none) [.ref (E.1 2), .int i, .int x] w none (if hasW w i then setW w 18 i.toNatClampNeg x else w) := by
  refine Mt.of (by decide +kernel) (Nat.le_of_ble_eq_true rfl) ?_
  show G E 1 RX5 cX5_setDeath 3 (none) _ _ 0 [(0, .ref (E.1 2)), (1, .int i), (2, .int x)] [] w
  refine g_aload_n 0 dX5_setDeath_0 rfl rfl ?_
  refine g_iload_n 1 dX5_setDeath_1 rfl rfl ?_
  refine ca_X5_31 dX5_setDeath_2 (t_X5_has) (by decide) (Nat.le_of_ble_eq_true rfl) ?_
  refine g_if_eqb 15 dX5_setDeath_5 (by decide) (fun h5 => ?_) (fun h5 => ?_)
  · refine g_vret dX5_setDeath_15 rfl rfl ?_
    · first | (rw [if_pos]; omega) | (rw [if_neg]; omega)
  · refine g_aload_n 0 dX5_setDeath_8 rfl rfl ?_
    refine gf_X5_15 dX5_setDeath_9 ?_
    refine g_iload_n 1 dX5_setDeath_12 rfl rfl ?_
    refine g_iload_n 2 dX5_setDeath_13 rfl rfl ?_
    refine g_iast (n := 6) _ dX5_setDeath_14 (by decide) rfl rfl (by omega) ?_
    (try simp (disch := omega) only [setW_setA, setW_setA_ne])
    refine g_vret dX5_setDeath_15 rfl rfl ?_
    · first | (rw [if_pos]; omega) | (rw [if_neg]; omega)
set_option maxRecDepth 20000 in
theorem t_X5_add {E : En} {w : W0} {x : Int32} {n : Nat} (hc : w 2 5 = nI n) (hn : n < 6) : Mt E 0 yX5_add cX5_add 2 (none) [.ref (E.1 2), .int x] w none (setW (setW (setW (setW (setW w 17 n x) 18 n (-6)) 19 n (-6)) 20 n (-6)) 2 5 (nI (n + 1))) := by
  refine Mt.of (by decide +kernel) (Nat.le_of_ble_eq_true rfl) ?_
  show G E 0 RX5 cX5_add 2 (none) _ _ 0 [(0, .ref (E.1 2)), (1, .int x)] [] w
  have hi : (w 2 5).toInt = (n : Int) := by rw [hc]; exact nI_toInt (by omega)
  have hx : (w 2 5).toNatClampNeg = n := by rw [hc]; exact nI_clamp (by omega)
  refine g_aload_n 0 dX5_add_0 rfl rfl ?_
  refine gf_X5_27 dX5_add_1 ?_
  refine g_bipush 6 dX5_add_4 rfl ?_
  refine g_icmp_lt 10 _ 6 dX5_add_6 (by decide) rfl rfl (fun h6 => ?_) (fun h6 => False.elim (by omega))
  refine g_aload_n 0 dX5_add_10 rfl rfl ?_
  refine gf_X5_9 dX5_add_11 ?_
  refine g_aload_n 0 dX5_add_14 rfl rfl ?_
  refine gf_X5_27 dX5_add_15 ?_
  refine g_iload_n 1 dX5_add_18 rfl rfl ?_
  refine g_iast (n := 6) n dX5_add_19 (by decide) rfl hx (by omega) ?_
  refine g_aload_n 0 dX5_add_20 rfl rfl ?_
  refine gf_X5_15 dX5_add_21 ?_
  refine g_aload_n 0 dX5_add_24 rfl rfl ?_
  refine gf_X5_27 dX5_add_25 ?_
  simp (disch := omega) only [setW_ne]
  refine g_bipush (-6) dX5_add_28 rfl ?_
  refine g_iast (n := 6) n dX5_add_30 (by decide) rfl hx (by omega) ?_
  refine g_aload_n 0 dX5_add_31 rfl rfl ?_
  refine gf_X5_18 dX5_add_32 ?_
  refine g_aload_n 0 dX5_add_35 rfl rfl ?_
  refine gf_X5_27 dX5_add_36 ?_
  simp (disch := omega) only [setW_ne]
  refine g_bipush (-6) dX5_add_39 rfl ?_
  refine g_iast (n := 6) n dX5_add_41 (by decide) rfl hx (by omega) ?_
  refine g_aload_n 0 dX5_add_42 rfl rfl ?_
  refine gf_X5_21 dX5_add_43 ?_
  refine g_aload_n 0 dX5_add_46 rfl rfl ?_
  refine gf_X5_27 dX5_add_47 ?_
  simp (disch := omega) only [setW_ne]
  refine g_bipush (-6) dX5_add_50 rfl ?_
  refine g_iast (n := 6) n dX5_add_52 (by decide) rfl hx (by omega) ?_
  refine g_aload_n 0 dX5_add_53 rfl rfl ?_
  refine g_dup dX5_add_54 rfl ?_
  refine gf_X5_27 dX5_add_55 ?_
  simp (disch := omega) only [setW_ne]
  refine g_iconst 1 dX5_add_58 rfl ?_
  refine g_iadd dX5_add_59 ?_
  refine pf_X5_27 dX5_add_60 ?_
  refine g_vret dX5_add_63 rfl rfl ?_
  · rw [hc, nI_1]
set_option maxRecDepth 20000 in
theorem t_X5_isAlive {E : En} {w : W0} {nw k : Nat} {x day : Int32} (hc : w 2 5 = nI nw) (hn : nw ≤ 6) (hk : k < nw) (hx : x = nI k) : Mt E 1 yX5_isAlive cX5_isAlive 3 (some .boolean) [.ref (E.1 2), .int x, .int day] w (some (.int (bI (livesF (w 17) (w 18) k day)))) w := by
  refine Mt.of (by decide +kernel) (Nat.le_of_ble_eq_true rfl) ?_
  show G E 1 RX5 cX5_isAlive 3 (some .boolean) _ _ 0 [(0, .ref (E.1 2)), (1, .int x), (2, .int day)] [] w
  have hxi : x.toInt = (k : Int) := by rw [hx]; exact nI_toInt (by omega)
  have hxn : x.toNatClampNeg = k := by rw [hx]; exact nI_clamp (by omega)
  have hcI : (w 2 5).toInt = (nw : Int) := by rw [hc]; exact nI_toInt (by omega)
  refine g_aload_n 0 dX5_isAlive_0 rfl rfl ?_
  refine g_iload_n 1 dX5_isAlive_1 rfl rfl ?_
  refine ca_X5_31 dX5_isAlive_2 (t_X5_has) (by decide) (Nat.le_of_ble_eq_true rfl) ?_
  refine g_if_eqb 43 dX5_isAlive_5 (by decide) (fun h5 => False.elim (by omega)) (fun h5 => ?_)
  refine g_aload_n 0 dX5_isAlive_8 rfl rfl ?_
  refine gf_X5_9 dX5_isAlive_9 ?_
  refine g_iload_n 1 dX5_isAlive_12 rfl rfl ?_
  refine g_iald (n := 6) k dX5_isAlive_13 (by decide) rfl hxn (by omega) ?_
  refine g_iload_n 2 dX5_isAlive_14 rfl rfl ?_
  refine g_icmp_gt 43 _ _ dX5_isAlive_15 (by decide) rfl rfl (fun h15 => ?_) (fun h15 => ?_)
  · refine g_iconst 0 dX5_isAlive_43 rfl ?_
    refine g_iret dX5_isAlive_44 rfl rfl ?_ ?_
    · first | (rw [bI_t]; first | exact ⟨by omega, Or.inl h26⟩ | exact ⟨by omega, Or.inr (by omega)⟩) | (rw [bI_f]; rintro ⟨z1, z2 | z2⟩ <;> first | omega | exact h26 z2)
    · rfl
  · refine g_aload_n 0 dX5_isAlive_18 rfl rfl ?_
    refine gf_X5_15 dX5_isAlive_19 ?_
    refine g_iload_n 1 dX5_isAlive_22 rfl rfl ?_
    refine g_iald (n := 6) k dX5_isAlive_23 (by decide) rfl hxn (by omega) ?_
    refine g_bipush (-6) dX5_isAlive_24 rfl ?_
    refine g_icmp_eq 39 dX5_isAlive_26 (by decide) (fun h26 => ?_) (fun h26 => ?_)
    · refine g_iconst 1 dX5_isAlive_39 rfl ?_
      refine g_goto 44 dX5_isAlive_40 (by decide) ?_
      refine g_iret dX5_isAlive_44 rfl rfl ?_ ?_
      · first | (rw [bI_t]; first | exact ⟨by omega, Or.inl h26⟩ | exact ⟨by omega, Or.inr (by omega)⟩) | (rw [bI_f]; rintro ⟨z1, z2 | z2⟩ <;> first | omega | exact h26 z2)
      · rfl
    · refine g_aload_n 0 dX5_isAlive_29 rfl rfl ?_
      refine gf_X5_15 dX5_isAlive_30 ?_
      refine g_iload_n 1 dX5_isAlive_33 rfl rfl ?_
      refine g_iald (n := 6) k dX5_isAlive_34 (by decide) rfl hxn (by omega) ?_
      refine g_iload_n 2 dX5_isAlive_35 rfl rfl ?_
      refine g_icmp_le 43 _ _ dX5_isAlive_36 (by decide) rfl rfl (fun h36 => ?_) (fun h36 => ?_)
      · refine g_iconst 0 dX5_isAlive_43 rfl ?_
        refine g_iret dX5_isAlive_44 rfl rfl ?_ ?_
        · first | (rw [bI_t]; first | exact ⟨by omega, Or.inl h26⟩ | exact ⟨by omega, Or.inr (by omega)⟩) | (rw [bI_f]; rintro ⟨z1, z2 | z2⟩ <;> first | omega | exact h26 z2)
        · rfl
      · refine g_iconst 1 dX5_isAlive_39 rfl ?_
        refine g_goto 44 dX5_isAlive_40 (by decide) ?_
        refine g_iret dX5_isAlive_44 rfl rfl ?_ ?_
        · first | (rw [bI_t]; first | exact ⟨by omega, Or.inl h26⟩ | exact ⟨by omega, Or.inr (by omega)⟩) | (rw [bI_f]; rintro ⟨z1, z2 | z2⟩ <;> first | omega | exact h26 z2)
        · rfl
set_option maxRecDepth 20000 in
theorem l_headsOn {E : En} {w : W0} {nw : Nat} {day : Int32} (hc : w 2 5 = nI nw) (hn : nw ≤ 6) : ∀ (n : Nat) (k : Nat) (v x : Int32), nw + 1 ≤ k + n → k ≤ nw → x = nI k → v = headsF (w 17) (w 18) (w 20) day k → G E 2 RX5 cX5_headsOn 5 (some .int) (some (.int (headsF (w 17) (w 18) (w 20) day nw))) w 4 [(0, .ref (E.1 2)), (1, .int day), (2, .int v), (3, .int x)] [] w := by
  intro n
  induction n with
  | zero =>
    intro k v x hfu hk hx hv
    exact absurd hfu (by omega)
  | succ n ih =>
    intro k v x hfu hk hx hv
    have hxi : x.toInt = (k : Int) := by rw [hx]; exact nI_toInt (by omega)
    have hxn : x.toNatClampNeg = k := by rw [hx]; exact nI_clamp (by omega)
    have hcI : (w 2 5).toInt = (nw : Int) := by rw [hc]; exact nI_toInt (by omega)
    refine g_iload_n 3 dX5_headsOn_4 rfl rfl ?_
    refine g_aload_n 0 dX5_headsOn_5 rfl rfl ?_
    refine gf_X5_27 dX5_headsOn_6 ?_
    refine g_icmp_ge 69 (k : Int) _ dX5_headsOn_9 (by decide) hxi rfl (fun h9 => ?_) (fun h9 => ?_)
    · refine g_iload_n 2 dX5_headsOn_69 rfl rfl ?_
      refine g_iret dX5_headsOn_70 rfl rfl ?_ ?_
      · rw [hv, show k = nw by omega]
      · rfl
    · refine g_iload_n 3 dX5_headsOn_12 rfl rfl ?_
      refine g_bipush 6 dX5_headsOn_13 rfl ?_
      refine g_icmp_ge 69 (k : Int) 6 dX5_headsOn_15 (by decide) hxi rfl (fun h15 => False.elim (by omega)) (fun h15 => ?_)
      refine g_aload_n 0 dX5_headsOn_18 rfl rfl ?_
      refine gf_X5_21 dX5_headsOn_19 ?_
      refine g_iload_n 3 dX5_headsOn_22 rfl rfl ?_
      refine g_iald (n := 6) k dX5_headsOn_23 (by decide) rfl hxn (by omega) ?_
      refine g_bipush (-6) dX5_headsOn_24 rfl ?_
      refine g_icmp_eq 43 dX5_headsOn_26 (by decide) (fun h26 => ?_) (fun h26 => ?_)
      · refine g_iconst 0 dX5_headsOn_43 rfl ?_
        refine g_istN dX5_headsOn_44 (by decide) rfl ?_
        refine g_iload 0 dX5_headsOn_46 rfl ?_
        refine g_if_ne 63 dX5_headsOn_48 (by decide) (fun h48 => False.elim (by exact absurd h48 (by decide))) (fun h48 => ?_)
        refine g_aload_n 1 dX5_headsOn_51 rfl rfl ?_
        refine g_iload_n 4 dX5_headsOn_52 rfl rfl ?_
        refine g_iload_n 2 dX5_headsOn_53 rfl rfl ?_
        refine ca_X5_41 dX5_headsOn_54 (t_X5_isAlive (k := k) hc hn (by omega) hx) (by decide) (Nat.le_of_ble_eq_true rfl) ?_
        refine g_if_eqb 63 dX5_headsOn_57 (by decide) (fun h57 => ?_) (fun h57 => ?_)
        · refine g_iinc 1 [_, _, _, _] _ dX5_headsOn_63 rfl (by decide) rfl ?_
          refine g_goto 4 dX5_headsOn_66 (by decide) ?_
          refine g_lv [1, 2, 3, 4] rfl ?_
          exact ih (k + 1) _ _ (by omega) (by omega) (by rw [hx, nI_1]) (by clear ih; rw [headsF_s, ← hv]; split <;> first | rfl | (exfalso; simp_all; done) | (exfalso; simp_all; omega))
        · refine g_iinc 1 [_, _, _] _ dX5_headsOn_60 rfl (by decide) rfl ?_
          refine g_iinc 1 [_, _, _, _] _ dX5_headsOn_63 rfl (by decide) rfl ?_
          refine g_goto 4 dX5_headsOn_66 (by decide) ?_
          refine g_lv [1, 2, 3, 4] rfl ?_
          exact ih (k + 1) _ _ (by omega) (by omega) (by rw [hx, nI_1]) (by clear ih; rw [headsF_s, ← hv]; split <;> first | rfl | (exfalso; simp_all; done) | (exfalso; simp_all; omega))
      · refine g_aload_n 0 dX5_headsOn_29 rfl rfl ?_
        refine gf_X5_21 dX5_headsOn_30 ?_
        refine g_iload_n 3 dX5_headsOn_33 rfl rfl ?_
        refine g_iald (n := 6) k dX5_headsOn_34 (by decide) rfl hxn (by omega) ?_
        refine g_iload_n 1 dX5_headsOn_35 rfl rfl ?_
        refine g_icmp_ge 43 _ _ dX5_headsOn_36 (by decide) rfl rfl (fun h36 => ?_) (fun h36 => ?_)
        · refine g_iconst 0 dX5_headsOn_43 rfl ?_
          refine g_istN dX5_headsOn_44 (by decide) rfl ?_
          refine g_iload 0 dX5_headsOn_46 rfl ?_
          refine g_if_ne 63 dX5_headsOn_48 (by decide) (fun h48 => False.elim (by exact absurd h48 (by decide))) (fun h48 => ?_)
          refine g_aload_n 1 dX5_headsOn_51 rfl rfl ?_
          refine g_iload_n 4 dX5_headsOn_52 rfl rfl ?_
          refine g_iload_n 2 dX5_headsOn_53 rfl rfl ?_
          refine ca_X5_41 dX5_headsOn_54 (t_X5_isAlive (k := k) hc hn (by omega) hx) (by decide) (Nat.le_of_ble_eq_true rfl) ?_
          refine g_if_eqb 63 dX5_headsOn_57 (by decide) (fun h57 => ?_) (fun h57 => ?_)
          · refine g_iinc 1 [_, _, _, _] _ dX5_headsOn_63 rfl (by decide) rfl ?_
            refine g_goto 4 dX5_headsOn_66 (by decide) ?_
            refine g_lv [1, 2, 3, 4] rfl ?_
            exact ih (k + 1) _ _ (by omega) (by omega) (by rw [hx, nI_1]) (by clear ih; rw [headsF_s, ← hv]; split <;> first | rfl | (exfalso; simp_all; done) | (exfalso; simp_all; omega))
          · refine g_iinc 1 [_, _, _] _ dX5_headsOn_60 rfl (by decide) rfl ?_
            refine g_iinc 1 [_, _, _, _] _ dX5_headsOn_63 rfl (by decide) rfl ?_
            refine g_goto 4 dX5_headsOn_66 (by decide) ?_
            refine g_lv [1, 2, 3, 4] rfl ?_
            exact ih (k + 1) _ _ (by omega) (by omega) (by rw [hx, nI_1]) (by clear ih; rw [headsF_s, ← hv]; split <;> first | rfl | (exfalso; simp_all; done) | (exfalso; simp_all; omega))
        · refine g_iconst 1 dX5_headsOn_39 rfl ?_
          refine g_goto 44 dX5_headsOn_40 (by decide) ?_
          refine g_istN dX5_headsOn_44 (by decide) rfl ?_
          refine g_iload 0 dX5_headsOn_46 rfl ?_
          refine g_if_ne 63 dX5_headsOn_48 (by decide) (fun h48 => ?_) (fun h48 => False.elim (by exact absurd h48 (by decide)))
          refine g_iinc 1 [_, _, _, _] _ dX5_headsOn_63 rfl (by decide) rfl ?_
          refine g_goto 4 dX5_headsOn_66 (by decide) ?_
          refine g_lv [1, 2, 3, 4] rfl ?_
          exact ih (k + 1) _ _ (by omega) (by omega) (by rw [hx, nI_1]) (by clear ih; rw [headsF_s, ← hv]; split <;> first | rfl | (exfalso; simp_all; done) | (exfalso; simp_all; omega))
set_option maxRecDepth 20000 in
theorem t_X5_headsOn {E : En} {w : W0} {nw : Nat} {day : Int32} (hc : w 2 5 = nI nw) (hn : nw ≤ 6) : Mt E 2 yX5_headsOn cX5_headsOn 5 (some .int) [.ref (E.1 2), .int day] w (some (.int (headsF (w 17) (w 18) (w 20) day nw))) w := by
  refine Mt.of (by decide +kernel) (Nat.le_of_ble_eq_true rfl) ?_
  show G E 2 RX5 cX5_headsOn 5 (some .int) _ _ 0 [(0, .ref (E.1 2)), (1, .int day)] [] w
  refine g_iconst 0 dX5_headsOn_0 rfl ?_
  refine g_istN_n dX5_headsOn_1 rfl (by decide) rfl ?_
  refine g_iconst 0 dX5_headsOn_2 rfl ?_
  refine g_istN_n dX5_headsOn_3 rfl (by decide) rfl ?_
  refine g_lv [2, 3, 1, 0] rfl ?_
  exact l_headsOn hc hn (nw + 1) 0 _ _ (by omega) (by omega) rfl rfl
set_option maxRecDepth 20000 in
theorem l_givenBetween {E : En} {w : W0} {nw : Nat} {a b : Int32} (hc : w 2 5 = nI nw) (hn : nw ≤ 6) : ∀ (n : Nat) (k : Nat) (v x : Int32), nw + 1 ≤ k + n → k ≤ nw → x = nI k → v = gbF (w 20) (w 21) a b k → G E 1 RX5 cX5_givenBetween 5 (some .int) (some (.int (gbF (w 20) (w 21) a b nw))) w 5 [(0, .ref (E.1 2)), (1, .int a), (2, .int b), (3, .int v), (4, .int x)] [] w := by
  intro n
  induction n with
  | zero =>
    intro k v x hfu hk hx hv
    exact absurd hfu (by omega)
  | succ n ih =>
    intro k v x hfu hk hx hv
    have hxi : x.toInt = (k : Int) := by rw [hx]; exact nI_toInt (by omega)
    have hxn : x.toNatClampNeg = k := by rw [hx]; exact nI_clamp (by omega)
    have hcI : (w 2 5).toInt = (nw : Int) := by rw [hc]; exact nI_toInt (by omega)
    refine g_iload 4 dX5_givenBetween_5 rfl ?_
    refine g_aload_n 0 dX5_givenBetween_7 rfl rfl ?_
    refine gf_X5_27 dX5_givenBetween_8 ?_
    refine g_icmp_ge 52 (k : Int) _ dX5_givenBetween_11 (by decide) hxi rfl (fun h11 => ?_) (fun h11 => ?_)
    · refine g_iload_n 3 dX5_givenBetween_52 rfl rfl ?_
      refine g_iret dX5_givenBetween_53 rfl rfl ?_ ?_
      · rw [hv, show k = nw by omega]
      · rfl
    · refine g_iload 4 dX5_givenBetween_14 rfl ?_
      refine g_bipush 6 dX5_givenBetween_16 rfl ?_
      refine g_icmp_ge 52 (k : Int) 6 dX5_givenBetween_18 (by decide) hxi rfl (fun h18 => False.elim (by omega)) (fun h18 => ?_)
      refine g_aload_n 0 dX5_givenBetween_21 rfl rfl ?_
      refine gf_X5_21 dX5_givenBetween_22 ?_
      refine g_iload 4 dX5_givenBetween_25 rfl ?_
      refine g_iald (n := 6) k dX5_givenBetween_27 (by decide) rfl hxn (by omega) ?_
      refine g_iload_n 1 dX5_givenBetween_28 rfl rfl ?_
      refine g_iload_n 2 dX5_givenBetween_29 rfl rfl ?_
      refine ca_X5_48 dX5_givenBetween_30 (t_X6_within _ _ rfl rfl) (by decide) (Nat.le_of_ble_eq_true rfl) ?_
      refine g_if_eqb 46 dX5_givenBetween_33 (by decide) (fun h33 => ?_) (fun h33 => ?_)
      · refine g_iinc 1 [_, _, _, _] _ dX5_givenBetween_46 rfl (by decide) rfl ?_
        refine g_goto 5 dX5_givenBetween_49 (by decide) ?_
        exact ih (k + 1) _ _ (by omega) (by omega) (by rw [hx, nI_1]) (by rw [gbF_s, ← hv]; first | rw [if_pos h33] | rw [if_neg h33])
      · refine g_iload_n 3 dX5_givenBetween_36 rfl rfl ?_
        refine g_aload_n 0 dX5_givenBetween_37 rfl rfl ?_
        refine gf_X5_24 dX5_givenBetween_38 ?_
        refine g_iload 4 dX5_givenBetween_41 rfl ?_
        refine g_iald (n := 6) k dX5_givenBetween_43 (by decide) rfl hxn (by omega) ?_
        refine g_iadd dX5_givenBetween_44 ?_
        refine g_ist_n [_, _, _] _ dX5_givenBetween_45 rfl (by decide) rfl ?_
        refine g_iinc 1 [_, _, _, _] _ dX5_givenBetween_46 rfl (by decide) rfl ?_
        refine g_goto 5 dX5_givenBetween_49 (by decide) ?_
        exact ih (k + 1) _ _ (by omega) (by omega) (by rw [hx, nI_1]) (by rw [gbF_s, ← hv]; first | rw [if_pos h33] | rw [if_neg h33])
set_option maxRecDepth 20000 in
theorem t_X5_givenBetween {E : En} {w : W0} {nw : Nat} {a b : Int32} (hc : w 2 5 = nI nw) (hn : nw ≤ 6) : Mt E 1 yX5_givenBetween cX5_givenBetween 5 (some .int) [.ref (E.1 2), .int a, .int b] w (some (.int (gbF (w 20) (w 21) a b nw))) w := by
  refine Mt.of (by decide +kernel) (Nat.le_of_ble_eq_true rfl) ?_
  show G E 1 RX5 cX5_givenBetween 5 (some .int) _ _ 0 [(0, .ref (E.1 2)), (1, .int a), (2, .int b)] [] w
  refine g_iconst 0 dX5_givenBetween_0 rfl ?_
  refine g_istN_n dX5_givenBetween_1 rfl (by decide) rfl ?_
  refine g_iconst 0 dX5_givenBetween_2 rfl ?_
  refine g_istN dX5_givenBetween_3 (by decide) rfl ?_
  refine g_lv [2, 3, 4, 1, 0] rfl ?_
  exact l_givenBetween hc hn (nw + 1) 0 _ _ (by omega) (by omega) rfl rfl
set_option maxRecDepth 20000 in
theorem l_giveShares {E : En} {w : W0} {nw : Nat} {day held : Int32} (hc : w 2 5 = nI nw) (hn : nw ≤ 6) : ∀ (n : Nat) (k : Nat) (sr : Nat → Int32) (h g x : Int32), nw + 1 ≤ k + n → k ≤ nw → x = nI k → (sr, g, h) = gsF (w 20) day held (w 21) (headsF (w 17) (w 18) (w 20) day nw) k → G E 3 RX5 cX5_giveShares 7 (some .int) (some (.int (gsF (w 20) day held (w 21) (headsF (w 17) (w 18) (w 20) day nw) nw).2.1)) (setA w 21 (gsF (w 20) day held (w 21) (headsF (w 17) (w 18) (w 20) day nw) nw).1) 12 [(0, .ref (E.1 2)), (1, .int day), (2, .int held), (3, .int h), (4, .int g), (5, .int x)] [] (setA w 21 sr) := by
  intro n
  induction n with
  | zero =>
    intro k sr h g x hfu hk hx hv
    exact absurd hfu (by omega)
  | succ n ih =>
    intro k sr h g x hfu hk hx hv
    have hxi : x.toInt = (k : Int) := by rw [hx]; exact nI_toInt (by omega)
    have hxn : x.toNatClampNeg = k := by rw [hx]; exact nI_clamp (by omega)
    have hcI : (w 2 5).toInt = (nw : Int) := by rw [hc]; exact nI_toInt (by omega)
    refine g_iload 5 dX5_giveShares_12 rfl ?_
    refine g_aload_n 0 dX5_giveShares_14 rfl rfl ?_
    refine gf_X5_27 dX5_giveShares_15 ?_
    (try simp (disch := omega) only [setW_ne, setW_p, setA_ne, setA_p, upd_self, lpF_setA, lpF_setW, limC_setA, limC_setW])
    refine g_icmp_ge 90 (k : Int) _ dX5_giveShares_18 (by decide) hxi rfl (fun h18 => ?_) (fun h18 => ?_)
    · refine g_iload 4 dX5_giveShares_90 rfl ?_
      refine g_iret dX5_giveShares_92 rfl rfl ?_ ?_
      · rw [show k = nw by omega] at hv; rw [← hv]
      · rw [show k = nw by omega] at hv; rw [← hv]
    · refine g_iload 5 dX5_giveShares_21 rfl ?_
      refine g_bipush 6 dX5_giveShares_23 rfl ?_
      refine g_icmp_ge 90 (k : Int) 6 dX5_giveShares_25 (by decide) hxi rfl (fun h25 => False.elim (by omega)) (fun h25 => ?_)
      refine g_aload_n 0 dX5_giveShares_28 rfl rfl ?_
      refine gf_X5_21 dX5_giveShares_29 ?_
      refine g_iload 5 dX5_giveShares_32 rfl ?_
      refine g_iald (n := 6) k dX5_giveShares_34 (by decide) rfl hxn (by omega) ?_
      (try simp (disch := omega) only [setW_ne, setW_p, setA_ne, setA_p, upd_self, lpF_setA, lpF_setW, limC_setA, limC_setW])
      refine g_iload_n 1 dX5_giveShares_35 rfl rfl ?_
      refine g_icmp_ne 84 dX5_giveShares_36 (by decide) (fun h36 => ?_) (fun h36 => ?_)
      · refine g_iinc 1 [_, _, _, _, _] _ dX5_giveShares_84 rfl (by decide) rfl ?_
        refine g_goto 12 dX5_giveShares_87 (by decide) ?_
        exact ih (k + 1) _ _ _ _ (by omega) (by omega) (by rw [hx, nI_1]) (by rw [gsF_s, ← hv]; first | (rw [if_neg h36]; done) | (rw [if_pos h36]; simp only [shareF]; first | (rw [if_pos ⟨h53, h57⟩]; done) | (rw [if_neg (by omega)]; done)))
      · refine g_iload_n 2 dX5_giveShares_39 rfl rfl ?_
        refine g_iload 4 dX5_giveShares_40 rfl ?_
        refine g_isub dX5_giveShares_42 ?_
        refine g_istN dX5_giveShares_43 (by decide) rfl ?_
        refine g_aload_n 1 dX5_giveShares_45 rfl rfl ?_
        refine gf_X5_24 dX5_giveShares_46 ?_
        refine g_iload 6 dX5_giveShares_49 rfl ?_
        refine g_iload 0 dX5_giveShares_51 rfl ?_
        refine g_if_le 67 _ dX5_giveShares_53 (by decide) rfl (fun h53 => ?_) (fun h53 => ?_)
        · refine g_iconst 0 dX5_giveShares_67 rfl ?_
          refine g_iast (n := 6) k dX5_giveShares_68 (by decide) rfl hxn (by omega) ?_
          (try simp (disch := omega) only [setW_setA, setW_setA_ne])
          refine g_iload 5 dX5_giveShares_69 rfl ?_
          refine g_aload_n 1 dX5_giveShares_71 rfl rfl ?_
          refine gf_X5_24 dX5_giveShares_72 ?_
          refine g_iload 6 dX5_giveShares_75 rfl ?_
          refine g_iald (n := 6) k dX5_giveShares_77 (by decide) rfl hxn (by omega) ?_
          (try simp (disch := omega) only [setW_ne, setW_p, setA_ne, setA_p, upd_self, lpF_setA, lpF_setW, limC_setA, limC_setW])
          refine g_iadd dX5_giveShares_78 ?_
          refine g_ist [_, _, _, _, _] _ dX5_giveShares_79 (by decide) rfl ?_
          refine g_iinc (-1) [_, _, _, _] _ dX5_giveShares_81 rfl (by decide) rfl ?_
          refine g_iinc 1 [_, _, _, _, _, _] _ dX5_giveShares_84 rfl (by decide) rfl ?_
          refine g_goto 12 dX5_giveShares_87 (by decide) ?_
          refine g_lv [1, 2, 3, 4, 5, 6] rfl ?_
          exact ih (k + 1) _ _ _ _ (by omega) (by omega) (by rw [hx, nI_1]) (by rw [gsF_s, ← hv]; first | (rw [if_neg h36]; done) | (rw [if_pos h36]; simp only [shareF]; first | (rw [if_pos ⟨h53, h57⟩]; done) | (rw [if_neg (by omega)]; done)))
        · refine g_iload_n 4 dX5_giveShares_56 rfl rfl ?_
          refine g_if_le 67 _ dX5_giveShares_57 (by decide) rfl (fun h57 => ?_) (fun h57 => ?_)
          · refine g_iconst 0 dX5_giveShares_67 rfl ?_
            refine g_iast (n := 6) k dX5_giveShares_68 (by decide) rfl hxn (by omega) ?_
            (try simp (disch := omega) only [setW_setA, setW_setA_ne])
            refine g_iload 5 dX5_giveShares_69 rfl ?_
            refine g_aload_n 1 dX5_giveShares_71 rfl rfl ?_
            refine gf_X5_24 dX5_giveShares_72 ?_
            refine g_iload 6 dX5_giveShares_75 rfl ?_
            refine g_iald (n := 6) k dX5_giveShares_77 (by decide) rfl hxn (by omega) ?_
            (try simp (disch := omega) only [setW_ne, setW_p, setA_ne, setA_p, upd_self, lpF_setA, lpF_setW, limC_setA, limC_setW])
            refine g_iadd dX5_giveShares_78 ?_
            refine g_ist [_, _, _, _, _] _ dX5_giveShares_79 (by decide) rfl ?_
            refine g_iinc (-1) [_, _, _, _] _ dX5_giveShares_81 rfl (by decide) rfl ?_
            refine g_iinc 1 [_, _, _, _, _, _] _ dX5_giveShares_84 rfl (by decide) rfl ?_
            refine g_goto 12 dX5_giveShares_87 (by decide) ?_
            refine g_lv [1, 2, 3, 4, 5, 6] rfl ?_
            exact ih (k + 1) _ _ _ _ (by omega) (by omega) (by rw [hx, nI_1]) (by rw [gsF_s, ← hv]; first | (rw [if_neg h36]; done) | (rw [if_pos h36]; simp only [shareF]; first | (rw [if_pos ⟨h53, h57⟩]; done) | (rw [if_neg (by omega)]; done)))
          · refine g_iload 0 dX5_giveShares_60 rfl ?_
            refine g_iload_n 4 dX5_giveShares_62 rfl rfl ?_
            refine g_idiv dX5_giveShares_63 (fun z => by rw [z] at h57; exact absurd h57 (by decide)) ?_
            refine g_goto 68 dX5_giveShares_64 (by decide) ?_
            refine g_iast (n := 6) k dX5_giveShares_68 (by decide) rfl hxn (by omega) ?_
            (try simp (disch := omega) only [setW_setA, setW_setA_ne])
            refine g_iload 5 dX5_giveShares_69 rfl ?_
            refine g_aload_n 1 dX5_giveShares_71 rfl rfl ?_
            refine gf_X5_24 dX5_giveShares_72 ?_
            refine g_iload 6 dX5_giveShares_75 rfl ?_
            refine g_iald (n := 6) k dX5_giveShares_77 (by decide) rfl hxn (by omega) ?_
            (try simp (disch := omega) only [setW_ne, setW_p, setA_ne, setA_p, upd_self, lpF_setA, lpF_setW, limC_setA, limC_setW])
            refine g_iadd dX5_giveShares_78 ?_
            refine g_ist [_, _, _, _, _] _ dX5_giveShares_79 (by decide) rfl ?_
            refine g_iinc (-1) [_, _, _, _] _ dX5_giveShares_81 rfl (by decide) rfl ?_
            refine g_iinc 1 [_, _, _, _, _, _] _ dX5_giveShares_84 rfl (by decide) rfl ?_
            refine g_goto 12 dX5_giveShares_87 (by decide) ?_
            refine g_lv [1, 2, 3, 4, 5, 6] rfl ?_
            exact ih (k + 1) _ _ _ _ (by omega) (by omega) (by rw [hx, nI_1]) (by rw [gsF_s, ← hv]; first | (rw [if_neg h36]; done) | (rw [if_pos h36]; simp only [shareF]; first | (rw [if_pos ⟨h53, h57⟩]; done) | (rw [if_neg (by omega)]; done)))
set_option maxRecDepth 20000 in
theorem t_X5_giveShares {E : En} {w : W0} {nw : Nat} {day held : Int32} (hc : w 2 5 = nI nw) (hn : nw ≤ 6) : Mt E 3 yX5_giveShares cX5_giveShares 7 (some .int) [.ref (E.1 2), .int day, .int held] w (some (.int (gsF (w 20) day held (w 21) (headsF (w 17) (w 18) (w 20) day nw) nw).2.1)) (setA w 21 (gsF (w 20) day held (w 21) (headsF (w 17) (w 18) (w 20) day nw) nw).1) := by
  refine Mt.of (by decide +kernel) (Nat.le_of_ble_eq_true rfl) ?_
  show G E 3 RX5 cX5_giveShares 7 (some .int) _ _ 0 [(0, .ref (E.1 2)), (1, .int day), (2, .int held)] [] w
  refine g_aload_n 0 dX5_giveShares_0 rfl rfl ?_
  refine g_iload_n 1 dX5_giveShares_1 rfl rfl ?_
  refine ca_X5_45 dX5_giveShares_2 (t_X5_headsOn hc hn) (by decide) (Nat.le_of_ble_eq_true rfl) ?_
  refine g_istN_n dX5_giveShares_5 rfl (by decide) rfl ?_
  refine g_iconst 0 dX5_giveShares_6 rfl ?_
  refine g_istN dX5_giveShares_7 (by decide) rfl ?_
  refine g_iconst 0 dX5_giveShares_9 rfl ?_
  refine g_istN dX5_giveShares_10 (by decide) rfl ?_
  refine g_lv [3, 4, 5, 2, 1, 0] rfl ?_
  have hl := l_giveShares (E := E) (day := day) (held := held) hc hn (nw + 1) 0 (w 21) _ _ _ (by omega) (by omega) rfl rfl
  rw [setA_self] at hl
  exact hl
set_option maxRecDepth 20000 in
theorem t_X5_turnAfter {E : En} {w : W0} {nw : Nat} {a b : Int32} (hc : w 2 5 = nI nw) (hn : nw ≤ 6) : Mt E 1 yX5_turnAfter cX5_turnAfter 3 (some .int) [.ref (E.1 2), .int a, .int b] w (some (.int (nextF (w 20) a b nw))) w := by
  refine Mt.of (by decide +kernel) (Nat.le_of_ble_eq_true rfl) ?_
  show G E 1 RX5 cX5_turnAfter 3 (some .int) _ _ 0 [(0, .ref (E.1 2)), (1, .int a), (2, .int b)] [] w
  refine g_aload_n 0 dX5_turnAfter_0 rfl rfl ?_
  refine gf_X5_21 dX5_turnAfter_1 ?_
  refine g_aload_n 0 dX5_turnAfter_4 rfl rfl ?_
  refine gf_X5_27 dX5_turnAfter_5 ?_
  rw [hc]
  refine g_iload_n 1 dX5_turnAfter_8 rfl rfl ?_
  refine g_iload_n 2 dX5_turnAfter_9 rfl rfl ?_
  refine ca_X5_52 dX5_turnAfter_10 (t_X6_nextOf (q := 20) (N := 6) (by decide) rfl (by decide) (by omega)) (by decide) (Nat.le_of_ble_eq_true rfl) ?_
  refine g_iret dX5_turnAfter_13 rfl rfl ?_ ?_
  · rfl
  · rfl
def fuF (w : W0) (nl : Nat) (j : Nat) : Int32 := fullF (w 7) (lpF w) nl (w 17 j)
def daysF (w : W0) (nl nw : Nat) : W0 := setA (setA (setA w 19 (fillF (fuF w nl) (w 19) nw)) 20 (fillF (goF (w 17) (w 18) (fuF w nl)) (w 20) nw)) 21 (fillF (fun _ => 0) (w 21) nw)
set_option maxRecDepth 20000 in
theorem l_settleDays {E : En} {w : W0} {nw nl : Nat} (hc : w 2 5 = nI nw) (hn : nw ≤ 6) (hcl : w 1 2 = nI nl) (hnl : nl ≤ 8) : ∀ (n : Nat) (k : Nat) (x : Int32), nw + 1 ≤ k + n → k ≤ nw → x = nI k → G E 4 RX5 cX5_settleDays 4 (none) none (daysF w nl nw) 2 [(0, .ref (E.1 2)), (1, .ref (E.1 1)), (2, .int x)] [] (daysF w nl k) := by
  intro n
  induction n with
  | zero =>
    intro k x hfu hk hx
    exact absurd hfu (by omega)
  | succ n ih =>
    intro k x hfu hk hx
    have hxi : x.toInt = (k : Int) := by rw [hx]; exact nI_toInt (by omega)
    have hxn : x.toNatClampNeg = k := by rw [hx]; exact nI_clamp (by omega)
    have hcI : (w 2 5).toInt = (nw : Int) := by rw [hc]; exact nI_toInt (by omega)
    unfold daysF
    refine g_iload_n 2 dX5_settleDays_2 rfl rfl ?_
    refine g_aload_n 0 dX5_settleDays_3 rfl rfl ?_
    refine gf_X5_27 dX5_settleDays_4 ?_
    (try simp (disch := omega) only [setW_ne, setW_p, setA_ne, setA_p, upd_self, lpF_setA, lpF_setW, limC_setA, limC_setW])
    refine g_icmp_ge 74 (k : Int) _ dX5_settleDays_7 (by decide) hxi rfl (fun h7 => ?_) (fun h7 => ?_)
    · refine g_vret dX5_settleDays_74 rfl rfl ?_
      · rw [show k = nw by omega]
    · refine g_iload_n 2 dX5_settleDays_10 rfl rfl ?_
      refine g_bipush 6 dX5_settleDays_11 rfl ?_
      refine g_icmp_ge 74 (k : Int) 6 dX5_settleDays_13 (by decide) hxi rfl (fun h13 => False.elim (by omega)) (fun h13 => ?_)
      refine g_aload_n 1 dX5_settleDays_16 rfl rfl ?_
      refine g_aload_n 0 dX5_settleDays_17 rfl rfl ?_
      refine gf_X5_9 dX5_settleDays_18 ?_
      refine g_iload_n 2 dX5_settleDays_21 rfl rfl ?_
      refine g_iald (n := 6) k dX5_settleDays_22 (by decide) rfl hxn (by omega) ?_
      (try simp (disch := omega) only [setW_ne, setW_p, setA_ne, setA_p, upd_self, lpF_setA, lpF_setW, limC_setA, limC_setW])
      refine ca_X5_35 dX5_settleDays_23 (t_X2_fullAgeDay (nl := nl) (by (try simp (disch := omega) only [setW_ne, setA_ne]); exact hcl) hnl) (by decide) (Nat.le_of_ble_eq_true rfl) ?_
      (try simp (disch := omega) only [setW_ne, setW_p, setA_ne, setA_p, upd_self, lpF_setA, lpF_setW, limC_setA, limC_setW])
      refine g_istN_n dX5_settleDays_26 rfl (by decide) rfl ?_
      refine g_aload_n 1 dX5_settleDays_27 rfl rfl ?_
      refine gf_X5_18 dX5_settleDays_28 ?_
      refine g_iload_n 3 dX5_settleDays_31 rfl rfl ?_
      refine g_iload_n 0 dX5_settleDays_32 rfl rfl ?_
      refine g_iast (n := 6) k dX5_settleDays_33 (by decide) rfl hxn (by omega) ?_
      (try simp (disch := omega) only [setW_setA, setW_setA_ne])
      refine g_aload_n 1 dX5_settleDays_34 rfl rfl ?_
      refine gf_X5_21 dX5_settleDays_35 ?_
      refine g_iload_n 3 dX5_settleDays_38 rfl rfl ?_
      refine g_iload_n 0 dX5_settleDays_39 rfl rfl ?_
      refine g_bipush (-6) dX5_settleDays_40 rfl ?_
      refine g_icmp_eq 58 dX5_settleDays_42 (by decide) (fun h42 => ?_) (fun h42 => ?_)
      · refine g_bipush (-6) dX5_settleDays_58 rfl ?_
        refine g_iast (n := 6) k dX5_settleDays_60 (by decide) rfl hxn (by omega) ?_
        (try simp (disch := omega) only [setW_setA, setW_setA_ne])
        refine g_aload_n 1 dX5_settleDays_61 rfl rfl ?_
        refine gf_X5_24 dX5_settleDays_62 ?_
        refine g_iload_n 3 dX5_settleDays_65 rfl rfl ?_
        refine g_iconst 0 dX5_settleDays_66 rfl ?_
        refine g_iast (n := 6) k dX5_settleDays_67 (by decide) rfl hxn (by omega) ?_
        (try simp (disch := omega) only [setW_setA, setW_setA_ne])
        refine g_iinc 1 [_, _, _] _ dX5_settleDays_68 rfl (by decide) rfl ?_
        refine g_goto 2 dX5_settleDays_71 (by decide) ?_
        refine g_lv [1, 2, 3] rfl ?_
        have hh := ih (k + 1) (x + 1) (by omega) (by omega) (by rw [hx, nI_1])
        unfold daysF at hh
        rw [← fillF_s (fuF w nl), ← fillF_s (goF (w 17) (w 18) (fuF w nl)), ← fillF_s (fun _ => (0 : Int32))] at hh
        rcases goF_or (w 17) (w 18) (fuF w nl) k with ⟨z1, z2, e⟩ | ⟨z, e⟩ <;> rw [e] at hh <;> first | exact hh | exact absurd h42 z1 | exact absurd z2 h51 | exact absurd ⟨h42, h51⟩ z
        
      · refine g_aload_n 1 dX5_settleDays_45 rfl rfl ?_
        refine g_iload_n 3 dX5_settleDays_46 rfl rfl ?_
        refine g_iload_n 0 dX5_settleDays_47 rfl rfl ?_
        refine ca_X5_41 dX5_settleDays_48 (t_X5_isAlive (nw := nw) (k := k) (by (try simp (disch := omega) only [setW_ne, setA_ne]); exact hc) hn (by omega) hx) (by decide) (Nat.le_of_ble_eq_true rfl) ?_
        (try simp (disch := omega) only [setW_ne, setW_p, setA_ne, setA_p, upd_self, lpF_setA, lpF_setW, limC_setA, limC_setW])
        refine g_if_eqb 58 dX5_settleDays_51 (by decide) (fun h51 => ?_) (fun h51 => ?_)
        · refine g_bipush (-6) dX5_settleDays_58 rfl ?_
          refine g_iast (n := 6) k dX5_settleDays_60 (by decide) rfl hxn (by omega) ?_
          (try simp (disch := omega) only [setW_setA, setW_setA_ne])
          refine g_aload_n 1 dX5_settleDays_61 rfl rfl ?_
          refine gf_X5_24 dX5_settleDays_62 ?_
          refine g_iload_n 3 dX5_settleDays_65 rfl rfl ?_
          refine g_iconst 0 dX5_settleDays_66 rfl ?_
          refine g_iast (n := 6) k dX5_settleDays_67 (by decide) rfl hxn (by omega) ?_
          (try simp (disch := omega) only [setW_setA, setW_setA_ne])
          refine g_iinc 1 [_, _, _] _ dX5_settleDays_68 rfl (by decide) rfl ?_
          refine g_goto 2 dX5_settleDays_71 (by decide) ?_
          refine g_lv [1, 2, 3] rfl ?_
          have hh := ih (k + 1) (x + 1) (by omega) (by omega) (by rw [hx, nI_1])
          unfold daysF at hh
          rw [← fillF_s (fuF w nl), ← fillF_s (goF (w 17) (w 18) (fuF w nl)), ← fillF_s (fun _ => (0 : Int32))] at hh
          rcases goF_or (w 17) (w 18) (fuF w nl) k with ⟨z1, z2, e⟩ | ⟨z, e⟩ <;> rw [e] at hh <;> first | exact hh | exact absurd h42 z1 | exact absurd z2 h51 | exact absurd ⟨h42, h51⟩ z
          
        · refine g_iload_n 0 dX5_settleDays_54 rfl rfl ?_
          refine g_goto 60 dX5_settleDays_55 (by decide) ?_
          refine g_iast (n := 6) k dX5_settleDays_60 (by decide) rfl hxn (by omega) ?_
          (try simp (disch := omega) only [setW_setA, setW_setA_ne])
          refine g_aload_n 1 dX5_settleDays_61 rfl rfl ?_
          refine gf_X5_24 dX5_settleDays_62 ?_
          refine g_iload_n 3 dX5_settleDays_65 rfl rfl ?_
          refine g_iconst 0 dX5_settleDays_66 rfl ?_
          refine g_iast (n := 6) k dX5_settleDays_67 (by decide) rfl hxn (by omega) ?_
          (try simp (disch := omega) only [setW_setA, setW_setA_ne])
          refine g_iinc 1 [_, _, _] _ dX5_settleDays_68 rfl (by decide) rfl ?_
          refine g_goto 2 dX5_settleDays_71 (by decide) ?_
          refine g_lv [1, 2, 3] rfl ?_
          have hh := ih (k + 1) (x + 1) (by omega) (by omega) (by rw [hx, nI_1])
          unfold daysF at hh
          rw [← fillF_s (fuF w nl), ← fillF_s (goF (w 17) (w 18) (fuF w nl)), ← fillF_s (fun _ => (0 : Int32))] at hh
          rcases goF_or (w 17) (w 18) (fuF w nl) k with ⟨z1, z2, e⟩ | ⟨z, e⟩ <;> rw [e] at hh <;> first | exact hh | exact absurd h42 z1 | exact absurd z2 h51 | exact absurd ⟨h42, h51⟩ z
          
theorem daysF_0 (w : W0) (nl : Nat) : daysF w nl 0 = w := by
  unfold daysF
  rw [fillF_0, fillF_0, fillF_0, setA_self, setA_self, setA_self]
set_option maxRecDepth 20000 in
theorem t_X5_settleDays {E : En} {w : W0} {nw nl : Nat} (hc : w 2 5 = nI nw) (hn : nw ≤ 6) (hcl : w 1 2 = nI nl) (hnl : nl ≤ 8) : Mt E 4 yX5_settleDays cX5_settleDays 4 (none) [.ref (E.1 2), .ref (E.1 1)] w none (daysF w nl nw) := by
  refine Mt.of (by decide +kernel) (Nat.le_of_ble_eq_true rfl) ?_
  show G E 4 RX5 cX5_settleDays 4 (none) _ _ 0 [(0, .ref (E.1 2)), (1, .ref (E.1 1))] [] w
  refine g_iconst 0 dX5_settleDays_0 rfl ?_
  refine g_istN_n dX5_settleDays_1 rfl (by decide) rfl ?_
  refine g_lv [1, 2, 0] rfl ?_
  have hl := l_settleDays (E := E) hc hn hcl hnl (nw + 1) 0 _ (by omega) (by omega) rfl
  rw [daysF_0] at hl
  exact hl

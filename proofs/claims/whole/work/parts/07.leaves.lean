/-! within, isDay, isYear, isCoins; Leaves -/
set_option maxRecDepth 20000 in
theorem t_X6_within {E : En} {w : W0} {a b c : Int32} (B C : Int) (hB : b.toInt = B) (hC : c.toInt = C) : Mt E 0 yX6_within cX6_within 3 (some .boolean) [.int a, .int b, .int c] w (some (.int (bI (B ≤ a.toInt ∧ a.toInt ≤ C)))) w := by
  refine Mt.of (by decide +kernel) (Nat.le_of_ble_eq_true rfl) ?_
  show G E 0 RX6 cX6_within 3 (some .boolean) _ _ 0 [(0, .int a), (1, .int b), (2, .int c)] [] w
  refine g_iload_n 0 dX6_within_0 rfl rfl ?_
  refine g_iload_n 1 dX6_within_1 rfl rfl ?_
  refine g_icmp_lt 14 _ _ dX6_within_2 (by decide) rfl rfl (fun h2 => ?_) (fun h2 => ?_)
  · refine g_iconst 0 dX6_within_14 rfl ?_
    refine g_iret dX6_within_15 rfl rfl ?_ ?_
    · first | (rw [bI_t]; omega) | (rw [bI_f]; omega)
    · rfl
  · refine g_iload_n 0 dX6_within_5 rfl rfl ?_
    refine g_iload_n 2 dX6_within_6 rfl rfl ?_
    refine g_icmp_gt 14 _ _ dX6_within_7 (by decide) rfl rfl (fun h7 => ?_) (fun h7 => ?_)
    · refine g_iconst 0 dX6_within_14 rfl ?_
      refine g_iret dX6_within_15 rfl rfl ?_ ?_
      · first | (rw [bI_t]; omega) | (rw [bI_f]; omega)
      · rfl
    · refine g_iconst 1 dX6_within_10 rfl ?_
      refine g_goto 15 dX6_within_11 (by decide) ?_
      refine g_iret dX6_within_15 rfl rfl ?_ ?_
      · first | (rw [bI_t]; omega) | (rw [bI_f]; omega)
      · rfl
set_option maxRecDepth 20000 in
theorem t_X6_isDay {E : En} {w : W0} {a : Int32} : Mt E 1 yX6_isDay cX6_isDay 1 (some .boolean) [.int a] w (some (.int (bI (0 ≤ a.toInt ∧ a.toInt ≤ 3599)))) w := by
  refine Mt.of (by decide +kernel) (Nat.le_of_ble_eq_true rfl) ?_
  show G E 1 RX6 cX6_isDay 1 (some .boolean) _ _ 0 [(0, .int a)] [] w
  refine g_iload_n 0 dX6_isDay_0 rfl rfl ?_
  refine g_iconst 0 dX6_isDay_1 rfl ?_
  refine g_sipush 3599 dX6_isDay_2 rfl ?_
  refine ca_X6_55 dX6_isDay_5 (t_X6_within 0 3599 rfl rfl) (by decide) (Nat.le_of_ble_eq_true rfl) ?_
  refine g_iret dX6_isDay_8 rfl nar_b ?_ ?_
  · rfl
  · rfl
set_option maxRecDepth 20000 in
theorem t_X6_isYear {E : En} {w : W0} {a : Int32} : Mt E 1 yX6_isYear cX6_isYear 1 (some .boolean) [.int a] w (some (.int (bI (0 ≤ a.toInt ∧ a.toInt ≤ 9)))) w := by
  refine Mt.of (by decide +kernel) (Nat.le_of_ble_eq_true rfl) ?_
  show G E 1 RX6 cX6_isYear 1 (some .boolean) _ _ 0 [(0, .int a)] [] w
  refine g_iload_n 0 dX6_isYear_0 rfl rfl ?_
  refine g_iconst 0 dX6_isYear_1 rfl ?_
  refine g_bipush 9 dX6_isYear_2 rfl ?_
  refine ca_X6_55 dX6_isYear_4 (t_X6_within 0 9 rfl rfl) (by decide) (Nat.le_of_ble_eq_true rfl) ?_
  refine g_iret dX6_isYear_7 rfl nar_b ?_ ?_
  · rfl
  · rfl
set_option maxRecDepth 20000 in
theorem t_X6_isCoins {E : En} {w : W0} {a : Int32} : Mt E 1 yX6_isCoins cX6_isCoins 1 (some .boolean) [.int a] w (some (.int (bI (1 ≤ a.toInt ∧ a.toInt ≤ 10000)))) w := by
  refine Mt.of (by decide +kernel) (Nat.le_of_ble_eq_true rfl) ?_
  show G E 1 RX6 cX6_isCoins 1 (some .boolean) _ _ 0 [(0, .int a)] [] w
  refine g_iload_n 0 dX6_isCoins_0 rfl rfl ?_
  refine g_iconst 1 dX6_isCoins_1 rfl ?_
  refine g_sipush 10000 dX6_isCoins_2 rfl ?_
  refine ca_X6_55 dX6_isCoins_5 (t_X6_within 1 10000 rfl rfl) (by decide) (Nat.le_of_ble_eq_true rfl) ?_
  refine g_iret dX6_isCoins_8 rfl nar_b ?_ ?_
  · rfl
  · rfl
abbrev hasL (w : W0) (i : Int32) : Prop := 0 ≤ i.toInt ∧ i.toInt < (w 3 2).toInt ∧ i.toInt < 10
def limC (w : W0) (i : Int32) : Int32 := if hasL w i then w 22 i.toNatClampNeg else 0
def useC (w : W0) (i : Int32) : Int32 := if hasL w i then w 23 i.toNatClampNeg else -6
set_option maxRecDepth 20000 in
theorem t_X4_has {E : En} {w : W0} {i : Int32} : Mt E 0 yX4_has cX4_has 2 (some .boolean) [.ref (E.1 3), .int i] w (some (.int (bI (hasL w i)))) w := by
  refine Mt.of (by decide +kernel) (Nat.le_of_ble_eq_true rfl) ?_
  show G E 0 RX4 cX4_has 2 (some .boolean) _ _ 0 [(0, .ref (E.1 3)), (1, .int i)] [] w
  refine g_iload_n 1 dX4_has_0 rfl rfl ?_
  refine g_if_lt 22 _ dX4_has_1 (by decide) rfl (fun h1 => ?_) (fun h1 => ?_)
  · refine g_iconst 0 dX4_has_22 rfl ?_
    refine g_iret dX4_has_23 rfl rfl ?_ ?_
    · first | (rw [bI_t]; omega) | (rw [bI_f]; omega)
    · rfl
  · refine g_iload_n 1 dX4_has_4 rfl rfl ?_
    refine g_aload_n 0 dX4_has_5 rfl rfl ?_
    refine gf_X4_18 dX4_has_6 ?_
    refine g_icmp_ge 22 _ _ dX4_has_9 (by decide) rfl rfl (fun h9 => ?_) (fun h9 => ?_)
    · refine g_iconst 0 dX4_has_22 rfl ?_
      refine g_iret dX4_has_23 rfl rfl ?_ ?_
      · first | (rw [bI_t]; omega) | (rw [bI_f]; omega)
      · rfl
    · refine g_iload_n 1 dX4_has_12 rfl rfl ?_
      refine g_bipush 10 dX4_has_13 rfl ?_
      refine g_icmp_ge 22 _ 10 dX4_has_15 (by decide) rfl rfl (fun h15 => ?_) (fun h15 => ?_)
      · refine g_iconst 0 dX4_has_22 rfl ?_
        refine g_iret dX4_has_23 rfl rfl ?_ ?_
        · first | (rw [bI_t]; omega) | (rw [bI_f]; omega)
        · rfl
      · refine g_iconst 1 dX4_has_18 rfl ?_
        refine g_goto 23 dX4_has_19 (by decide) ?_
        refine g_iret dX4_has_23 rfl rfl ?_ ?_
        · first | (rw [bI_t]; omega) | (rw [bI_f]; omega)
        · rfl
set_option maxRecDepth 20000 in
theorem t_X4_limitOf {E : En} {w : W0} {i : Int32} : Mt E 1 yX4_limitOf cX4_limitOf 2 (some .int) [.ref (E.1 3), .int i] w (some (.int (limC w i))) w := by
  refine Mt.of (by decide +kernel) (Nat.le_of_ble_eq_true rfl) ?_
  show G E 1 RX4 cX4_limitOf 2 (some .int) _ _ 0 [(0, .ref (E.1 3)), (1, .int i)] [] w
  refine g_aload_n 0 dX4_limitOf_0 rfl rfl ?_
  refine g_iload_n 1 dX4_limitOf_1 rfl rfl ?_
  refine ca_X4_22 dX4_limitOf_2 (t_X4_has) (by decide) (Nat.le_of_ble_eq_true rfl) ?_
  refine g_if_eqb 17 dX4_limitOf_5 (by decide) (fun h5 => ?_) (fun h5 => ?_)
  · refine g_iconst 0 dX4_limitOf_17 rfl ?_
    refine g_iret dX4_limitOf_18 rfl rfl ?_ ?_
    · unfold limC; first | (rw [if_pos]; omega) | (rw [if_neg]; omega)
    · rfl
  · refine g_aload_n 0 dX4_limitOf_8 rfl rfl ?_
    refine gf_X4_9 dX4_limitOf_9 ?_
    refine g_iload_n 1 dX4_limitOf_12 rfl rfl ?_
    refine g_iald (n := 10) _ dX4_limitOf_13 (by decide) rfl rfl (by omega) ?_
    refine g_goto 18 dX4_limitOf_14 (by decide) ?_
    refine g_iret dX4_limitOf_18 rfl rfl ?_ ?_
    · unfold limC; first | (rw [if_pos]; omega) | (rw [if_neg]; omega)
    · rfl
set_option maxRecDepth 20000 in
theorem t_X4_useOf {E : En} {w : W0} {i : Int32} : Mt E 1 yX4_useOf cX4_useOf 2 (some .int) [.ref (E.1 3), .int i] w (some (.int (useC w i))) w := by
  refine Mt.of (by decide +kernel) (Nat.le_of_ble_eq_true rfl) ?_
  show G E 1 RX4 cX4_useOf 2 (some .int) _ _ 0 [(0, .ref (E.1 3)), (1, .int i)] [] w
  refine g_aload_n 0 dX4_useOf_0 rfl rfl ?_
  refine g_iload_n 1 dX4_useOf_1 rfl rfl ?_
  refine ca_X4_22 dX4_useOf_2 (t_X4_has) (by decide) (Nat.le_of_ble_eq_true rfl) ?_
  refine g_if_eqb 17 dX4_useOf_5 (by decide) (fun h5 => ?_) (fun h5 => ?_)
  · refine g_bipush (-6) dX4_useOf_17 rfl ?_
    refine g_iret dX4_useOf_19 rfl rfl ?_ ?_
    · unfold useC; first | (rw [if_pos]; omega) | (rw [if_neg]; omega)
    · rfl
  · refine g_aload_n 0 dX4_useOf_8 rfl rfl ?_
    refine gf_X4_15 dX4_useOf_9 ?_
    refine g_iload_n 1 dX4_useOf_12 rfl rfl ?_
    refine g_iald (n := 10) _ dX4_useOf_13 (by decide) rfl rfl (by omega) ?_
    refine g_goto 19 dX4_useOf_14 (by decide) ?_
    refine g_iret dX4_useOf_19 rfl rfl ?_ ?_
    · unfold useC; first | (rw [if_pos]; omega) | (rw [if_neg]; omega)
    · rfl
set_option maxRecDepth 20000 in
theorem t_X4_wasUsed {E : En} {w : W0} {i : Int32} : Mt E 2 yX4_wasUsed cX4_wasUsed 2 (some .boolean) [.ref (E.1 3), .int i] w (some (.int (bI (useC w i ≠ -6)))) w := by
  refine Mt.of (by decide +kernel) (Nat.le_of_ble_eq_true rfl) ?_
  show G E 2 RX4 cX4_wasUsed 2 (some .boolean) _ _ 0 [(0, .ref (E.1 3)), (1, .int i)] [] w
  refine g_aload_n 0 dX4_wasUsed_0 rfl rfl ?_
  refine g_iload_n 1 dX4_wasUsed_1 rfl rfl ?_
  refine ca_X4_26 dX4_wasUsed_2 (t_X4_useOf) (by decide) (Nat.le_of_ble_eq_true rfl) ?_
  refine g_bipush (-6) dX4_wasUsed_5 rfl ?_
  refine g_icmp_eq 14 dX4_wasUsed_7 (by decide) (fun h7 => ?_) (fun h7 => ?_)
  · refine g_iconst 0 dX4_wasUsed_14 rfl ?_
    refine g_iret dX4_wasUsed_15 rfl rfl ?_ ?_
    · first | (rw [bI_t]; exact h7) | (rw [bI_f]; exact fun z => z h7)
    · rfl
  · refine g_iconst 1 dX4_wasUsed_10 rfl ?_
    refine g_goto 15 dX4_wasUsed_11 (by decide) ?_
    refine g_iret dX4_wasUsed_15 rfl rfl ?_ ?_
    · first | (rw [bI_t]; exact h7) | (rw [bI_f]; exact fun z => z h7)
    · rfl
def useW (w : W0) (i x : Int32) : W0 := if hasL w i then setW w 23 i.toNatClampNeg x else w
set_option maxRecDepth 20000 in
theorem t_X4_use {E : En} {w : W0} {i x : Int32} : Mt E 1 yX4_use cX4_use 3 (none) [.ref (E.1 3), .int i, .int x] w none (useW w i x) := by
  refine Mt.of (by decide +kernel) (Nat.le_of_ble_eq_true rfl) ?_
  show G E 1 RX4 cX4_use 3 (none) _ _ 0 [(0, .ref (E.1 3)), (1, .int i), (2, .int x)] [] w
  refine g_aload_n 0 dX4_use_0 rfl rfl ?_
  refine g_iload_n 1 dX4_use_1 rfl rfl ?_
  refine ca_X4_22 dX4_use_2 (t_X4_has) (by decide) (Nat.le_of_ble_eq_true rfl) ?_
  refine g_if_eqb 15 dX4_use_5 (by decide) (fun h5 => ?_) (fun h5 => ?_)
  · refine g_vret dX4_use_15 rfl rfl ?_
    · unfold useW; first | (rw [if_pos]; omega) | (rw [if_neg]; omega)
  · refine g_aload_n 0 dX4_use_8 rfl rfl ?_
    refine gf_X4_15 dX4_use_9 ?_
    refine g_iload_n 1 dX4_use_12 rfl rfl ?_
    refine g_iload_n 2 dX4_use_13 rfl rfl ?_
    refine g_iast (n := 10) _ dX4_use_14 (by decide) rfl rfl (by omega) ?_
    refine g_vret dX4_use_15 rfl rfl ?_
    · unfold useW; first | (rw [if_pos]; omega) | (rw [if_neg]; omega)
set_option maxRecDepth 20000 in
theorem t_X4_add {E : En} {w : W0} {x : Int32} {n : Nat} (hc : w 3 2 = nI n) (hn : n < 10) : Mt E 0 yX4_add cX4_add 2 (none) [.ref (E.1 3), .int x] w none (setW (setW (setW w 22 n x) 23 n (-6)) 3 2 (nI (n + 1))) := by
  refine Mt.of (by decide +kernel) (Nat.le_of_ble_eq_true rfl) ?_
  show G E 0 RX4 cX4_add 2 (none) _ _ 0 [(0, .ref (E.1 3)), (1, .int x)] [] w
  have hi : (w 3 2).toInt = (n : Int) := by rw [hc]; exact nI_toInt (by omega)
  have hx : (w 3 2).toNatClampNeg = n := by rw [hc]; exact nI_clamp (by omega)
  refine g_aload_n 0 dX4_add_0 rfl rfl ?_
  refine gf_X4_18 dX4_add_1 ?_
  refine g_bipush 10 dX4_add_4 rfl ?_
  refine g_icmp_lt 10 _ 10 dX4_add_6 (by decide) rfl rfl (fun h6 => ?_) (fun h6 => False.elim (by omega))
  refine g_aload_n 0 dX4_add_10 rfl rfl ?_
  refine gf_X4_9 dX4_add_11 ?_
  refine g_aload_n 0 dX4_add_14 rfl rfl ?_
  refine gf_X4_18 dX4_add_15 ?_
  refine g_iload_n 1 dX4_add_18 rfl rfl ?_
  refine g_iast (n := 10) _ dX4_add_19 (by decide) rfl rfl (by omega) ?_
  refine g_aload_n 0 dX4_add_20 rfl rfl ?_
  refine gf_X4_15 dX4_add_21 ?_
  refine g_aload_n 0 dX4_add_24 rfl rfl ?_
  refine gf_X4_18 dX4_add_25 ?_
  simp (disch := omega) only [setW_ne]
  refine g_bipush (-6) dX4_add_28 rfl ?_
  refine g_iast (n := 10) _ dX4_add_30 (by decide) rfl rfl (by omega) ?_
  refine g_aload_n 0 dX4_add_31 rfl rfl ?_
  refine g_dup dX4_add_32 rfl ?_
  refine gf_X4_18 dX4_add_33 ?_
  simp (disch := omega) only [setW_ne]
  refine g_iconst 1 dX4_add_36 rfl ?_
  refine g_iadd dX4_add_37 ?_
  refine pf_X4_18 dX4_add_38 ?_
  refine g_vret dX4_add_41 rfl rfl ?_
  · rw [hx, hc, nI_1]
/-- what bars so much under a leave, or without one where so much is free -/
def onF (w : W0) (a b c : Int32) : Int32 := if a = -1 then (if c.toInt < b.toInt then 1 else 0) else (if (limC w a).toInt < b.toInt then 4 else 0)
set_option maxRecDepth 20000 in
theorem t_X4_barsOn {E : En} {w : W0} {a b c : Int32} : Mt E 2 yX4_barsOn cX4_barsOn 4 (some .int) [.ref (E.1 3), .int a, .int b, .int c] w (some (.int (onF w a b c))) w := by
  refine Mt.of (by decide +kernel) (Nat.le_of_ble_eq_true rfl) ?_
  show G E 2 RX4 cX4_barsOn 4 (some .int) _ _ 0 [(0, .ref (E.1 3)), (1, .int a), (2, .int b), (3, .int c)] [] w
  refine g_iload_n 1 dX4_barsOn_0 rfl rfl ?_
  refine g_iconst (-1) dX4_barsOn_1 rfl ?_
  refine g_icmp_ne 16 dX4_barsOn_2 (by decide) (fun h2 => ?_) (fun h2 => ?_)
  · refine g_iload_n 2 dX4_barsOn_16 rfl rfl ?_
    refine g_aload_n 0 dX4_barsOn_17 rfl rfl ?_
    refine g_iload_n 1 dX4_barsOn_18 rfl rfl ?_
    refine ca_X4_30 dX4_barsOn_19 (t_X4_limitOf) (by decide) (Nat.le_of_ble_eq_true rfl) ?_
    refine g_icmp_le 29 _ _ dX4_barsOn_22 (by decide) rfl rfl (fun h22 => ?_) (fun h22 => ?_)
    · refine g_iconst 0 dX4_barsOn_29 rfl ?_
      refine g_iret dX4_barsOn_30 rfl rfl ?_ ?_
      · unfold onF; (repeat' split) <;> first | rfl | (exfalso; omega) | (exfalso; contradiction) | (exfalso; simp_all)
      · rfl
    · refine g_iconst 4 dX4_barsOn_25 rfl ?_
      refine g_goto 30 dX4_barsOn_26 (by decide) ?_
      refine g_iret dX4_barsOn_30 rfl rfl ?_ ?_
      · unfold onF; (repeat' split) <;> first | rfl | (exfalso; omega) | (exfalso; contradiction) | (exfalso; simp_all)
      · rfl
  · refine g_iload_n 2 dX4_barsOn_5 rfl rfl ?_
    refine g_iload_n 3 dX4_barsOn_6 rfl rfl ?_
    refine g_icmp_le 14 _ _ dX4_barsOn_7 (by decide) rfl rfl (fun h7 => ?_) (fun h7 => ?_)
    · refine g_iconst 0 dX4_barsOn_14 rfl ?_
      refine g_iret dX4_barsOn_15 rfl rfl ?_ ?_
      · unfold onF; (repeat' split) <;> first | rfl | (exfalso; omega) | (exfalso; contradiction) | (exfalso; simp_all)
      · rfl
    · refine g_iconst 1 dX4_barsOn_10 rfl ?_
      refine g_goto 15 dX4_barsOn_11 (by decide) ?_
      refine g_iret dX4_barsOn_15 rfl rfl ?_ ?_
      · unfold onF; (repeat' split) <;> first | rfl | (exfalso; omega) | (exfalso; contradiction) | (exfalso; simp_all)
      · rfl

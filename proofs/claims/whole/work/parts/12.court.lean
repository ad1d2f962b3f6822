/-! WardCourt -/
abbrev dayP (a : Int32) : Prop := 0 ≤ a.toInt ∧ a.toInt ≤ 3599
abbrev coinP (a : Int32) : Prop := 1 ≤ a.toInt ∧ a.toInt ≤ 10000
abbrev yearP (a : Int32) : Prop := 0 ≤ a.toInt ∧ a.toInt ≤ 9
theorem nI_back {x : Int32} (h : 0 ≤ x.toInt) : x = nI x.toNatClampNeg := by
  apply Int32.toInt_inj.mp
  have h2 : x.toInt < 2 ^ 31 := Int32.toInt_lt x
  rw [nI_toInt (by show x.toInt.toNat < 2 ^ 31; omega)]
  show x.toInt = (x.toInt.toNat : Int)
  omega
theorem toNat_back {x : Int32} (h : 0 ≤ x.toInt) : x.toInt = (x.toNatClampNeg : Int) := by
  show x.toInt = (x.toInt.toNat : Int)
  omega
theorem daysF_ne {w : W0} {nl nw q : Nat} (h1 : q ≠ 19) (h2 : q ≠ 20) (h3 : q ≠ 21) : daysF w nl nw q = w q := by
  unfold daysF
  rw [setA_ne h3, setA_ne h2, setA_ne h1]
theorem alW_ne {w : W0} {nl n q : Nat} (h : q ≠ 30) : alW w nl n q = w q := setA_ne h
/-- what follows from what was told, laid out -/
def layC (w : W0) (nl nw ni : Nat) : W0 := (rkF (alW (daysF w nl nw) nl ni) nl nw ni 10).1
theorem layC_ne {w : W0} {nl nw ni q : Nat} (h : q < 19 ∨ (21 < q ∧ q < 30) ∨ (30 < q ∧ q < 36) ∨ 45 < q) : layC w nl nw ni q = w q := by
  unfold layC
  rw [rkF_ne (by omega) 10 (by omega), alW_ne (by omega), daysF_ne (by omega) (by omega) (by omega)]
def setlW (w : W0) (nl nw ni : Nat) : W0 := if w 0 6 = 0 then w else setW (layC w nl nw ni) 0 6 0
theorem setlW_ne {w : W0} {nl nw ni q : Nat} (h : (0 < q ∧ q < 19) ∨ (21 < q ∧ q < 30) ∨ (30 < q ∧ q < 36) ∨ 45 < q) : setlW w nl nw ni q = w q := by
  unfold setlW
  split
  · rfl
  · rw [setW_ne (by omega), layC_ne (by omega)]
theorem sw4 (x : Int32) : x.toInt = 0 ∨ x.toInt = 1 ∨ x.toInt = 2 ∨ x.toInt = 3 ∨ x.toInt = 4 ∨ (x.toInt < 0 ∨ 4 < x.toInt) := by omega
theorem sw5 (x : Int32) : x.toInt = 0 ∨ x.toInt = 1 ∨ x.toInt = 2 ∨ x.toInt = 3 ∨ x.toInt = 4 ∨ x.toInt = 5 ∨ (x.toInt < 0 ∨ 5 < x.toInt) := by omega
theorem sw1 (x : Int32) : x.toInt = 0 ∨ x.toInt = 1 ∨ (¬ x.toInt = 0 ∧ ¬ x.toInt = 1) := by omega
theorem v_X5_birthOf {E : En} {w : W0} {i : Int32} (h : hasW w i) : Mt E 1 yX5_birthOf cX5_birthOf 2 (some .int) [.ref (E.1 2), .int i] w (some (.int (w 17 i.toNatClampNeg))) w := by
  have z := t_X5_birthOf (E := E) (w := w) (i := i)
  rw [if_pos h] at z
  exact z
theorem v_X5_deathOf {E : En} {w : W0} {i : Int32} (h : hasW w i) : Mt E 1 yX5_deathOf cX5_deathOf 2 (some .int) [.ref (E.1 2), .int i] w (some (.int (w 18 i.toNatClampNeg))) w := by
  have z := t_X5_deathOf (E := E) (w := w) (i := i)
  rw [if_pos h] at z
  exact z
theorem v_X5_fullAgeOf {E : En} {w : W0} {i : Int32} (h : hasW w i) : Mt E 1 yX5_fullAgeOf cX5_fullAgeOf 2 (some .int) [.ref (E.1 2), .int i] w (some (.int (w 19 i.toNatClampNeg))) w := by
  have z := t_X5_fullAgeOf (E := E) (w := w) (i := i)
  rw [if_pos h] at z
  exact z
theorem v_X5_givenOverOf {E : En} {w : W0} {i : Int32} (h : hasW w i) : Mt E 1 yX5_givenOverOf cX5_givenOverOf 2 (some .int) [.ref (E.1 2), .int i] w (some (.int (w 20 i.toNatClampNeg))) w := by
  have z := t_X5_givenOverOf (E := E) (w := w) (i := i)
  rw [if_pos h] at z
  exact z
theorem v_X5_shareOf {E : En} {w : W0} {i : Int32} (h : hasW w i) : Mt E 1 yX5_shareOf cX5_shareOf 2 (some .int) [.ref (E.1 2), .int i] w (some (.int (w 21 i.toNatClampNeg))) w := by
  have z := t_X5_shareOf (E := E) (w := w) (i := i)
  rw [if_pos h] at z
  exact z
theorem v_X5_setDeath {E : En} {w : W0} {i x : Int32} (h : hasW w i) : Mt E 1 yX5_setDeath cX5_setDeath 3 none [.ref (E.1 2), .int i, .int x] w none (setW w 18 i.toNatClampNeg x) := by
  have z := t_X5_setDeath (E := E) (w := w) (i := i) (x := x)
  rw [if_pos h] at z
  exact z
set_option maxRecDepth 20000 in
theorem t_X6_settle {E : En} {w : W0} {nl nw ni : Nat} (hcl : w 1 2 = nI nl) (hnl : nl ≤ 8) (hcw : w 2 5 = nI nw) (hnw : nw ≤ 6) (hci : w 4 7 = nI ni) (hni : ni ≤ 60) : Mt E 6 yX6_settle cX6_settle 1 (none) [.ref (E.1 0)] w none (setlW w nl nw ni) := by
  refine Mt.of (by decide +kernel) (Nat.le_of_ble_eq_true rfl) ?_
  show G E 6 RX6 cX6_settle 1 (none) _ _ 0 [(0, .ref (E.1 0))] [] w
  refine g_aload_n 0 dX6_settle_0 rfl rfl ?_
  refine gf_X6_67 dX6_settle_1 ?_
  refine g_if_ne 8 dX6_settle_4 (by decide) (fun h4 => ?_) (fun h4 => ?_)
  · refine g_aload_n 0 dX6_settle_8 rfl rfl ?_
    refine gf_X6_19 dX6_settle_9 ?_
    refine g_aload_n 0 dX6_settle_12 rfl rfl ?_
    refine gf_X6_10 dX6_settle_13 ?_
    refine ca_X6_188 dX6_settle_16 (t_X5_settleDays hcw hnw hcl hnl) (by decide) (Nat.le_of_ble_eq_true rfl) ?_
    refine g_aload_n 0 dX6_settle_19 rfl rfl ?_
    refine gf_X6_33 dX6_settle_20 ?_
    refine g_aload_n 0 dX6_settle_23 rfl rfl ?_
    refine gf_X6_10 dX6_settle_24 ?_
    refine g_aload_n 0 dX6_settle_27 rfl rfl ?_
    refine gf_X6_26 dX6_settle_28 ?_
    refine ca_X6_192 dX6_settle_31 (t_X1_settleAllowed (ni := ni) (nl := nl) (by rw [daysF_ne (by decide) (by decide) (by decide)]; exact hci) hni (by rw [daysF_ne (by decide) (by decide) (by decide)]; exact hcl) hnl) (by decide) (Nat.le_of_ble_eq_true rfl) ?_
    refine g_aload_n 0 dX6_settle_34 rfl rfl ?_
    refine gf_X6_47 dX6_settle_35 ?_
    refine g_aload_n 0 dX6_settle_38 rfl rfl ?_
    refine gf_X6_10 dX6_settle_39 ?_
    refine g_aload_n 0 dX6_settle_42 rfl rfl ?_
    refine gf_X6_19 dX6_settle_43 ?_
    refine g_aload_n 0 dX6_settle_46 rfl rfl ?_
    refine gf_X6_33 dX6_settle_47 ?_
    refine ca_X6_196 dX6_settle_50 (t_X0_reckon (nl := nl) (nw := nw) (ni := ni) (by rw [alW_ne (by decide), daysF_ne (by decide) (by decide) (by decide)]; exact hcl) hnl (by rw [alW_ne (by decide), daysF_ne (by decide) (by decide) (by decide)]; exact hcw) hnw (by rw [alW_ne (by decide), daysF_ne (by decide) (by decide) (by decide)]; exact hci) hni) (by decide) (Nat.le_of_ble_eq_true rfl) ?_
    refine g_aload_n 0 dX6_settle_53 rfl rfl ?_
    refine g_iconst 0 dX6_settle_54 rfl ?_
    refine pf_X6_67 dX6_settle_55 rfl rfl ?_
    refine g_vret dX6_settle_58 rfl rfl ?_
    · unfold setlW; first | (rw [if_pos h4]; done) | (rw [if_neg h4]; rfl)
  · refine g_vret dX6_settle_7 rfl rfl ?_
    · unfold setlW; first | (rw [if_pos h4]; done) | (rw [if_neg h4]; rfl)
abbrev lawP (day age idle rate free term : Int32) : Prop := dayP day ∧ (10 ≤ age.toInt ∧ age.toInt ≤ 30) ∧ (0 ≤ idle.toInt ∧ idle.toInt ≤ 10000) ∧ (0 ≤ rate.toInt ∧ rate.toInt ≤ 100) ∧ (0 ≤ free.toInt ∧ free.toInt ≤ 10000) ∧ (0 ≤ term.toInt ∧ term.toInt ≤ 10)
def lawW (w : W0) (n : Nat) (day a b c e f : Int32) : W0 := setW (setW (setW (setW (setW (setW (setW (setW w 7 n day) (9 + n) 0 a) (9 + n) 1 b) (9 + n) 2 c) (9 + n) 3 e) (9 + n) 4 f) 1 2 (nI (n + 1))) 0 6 1
set_option maxRecDepth 20000 in
theorem t_X6_law {E : En} {w : W0} {nl : Nat} {day a b c e f : Int32} (hcl : w 1 2 = nI nl) (hnl : nl ≤ 8) : Mt E 2 yX6_law cX6_law 7 (some .int) [.ref (E.1 0), .int day, .int a, .int b, .int c, .int e, .int f] w (some (.int (if lawP day a b c e f then (if 8 ≤ nl then -4 else nI (nl + 1)) else -2))) (if lawP day a b c e f ∧ ¬ 8 ≤ nl then lawW w nl day a b c e f else w) := by
  refine Mt.of (by decide +kernel) (Nat.le_of_ble_eq_true rfl) ?_
  show G E 2 RX6 cX6_law 7 (some .int) _ _ 0 [(0, .ref (E.1 0)), (1, .int day), (2, .int a), (3, .int b), (4, .int c), (5, .int e), (6, .int f)] [] w
  have hclI : (w 1 2).toInt = (nl : Int) := by rw [hcl]; exact nI_toInt (by omega)
  refine g_iload_n 1 dX6_law_0 rfl rfl ?_
  refine ca_X6_51 dX6_law_1 (t_X6_isDay) (by decide) (Nat.le_of_ble_eq_true rfl) ?_
  refine g_if_eqb 63 dX6_law_4 (by decide) (fun h4 => ?_) (fun h4 => ?_)
  · refine g_bipush (-2) dX6_law_63 rfl ?_
    refine g_iret dX6_law_65 rfl rfl ?_ ?_
    · (repeat' split) <;> first | rfl | (exfalso; omega) | (exfalso; simp_all; done) | (exfalso; simp_all; omega)
    · (repeat' split) <;> first | rfl | (exfalso; omega) | (exfalso; simp_all; done) | (exfalso; simp_all; omega)
  · refine g_iload_n 2 dX6_law_7 rfl rfl ?_
    refine g_bipush 10 dX6_law_8 rfl ?_
    refine g_bipush 30 dX6_law_10 rfl ?_
    refine ca_X6_55 dX6_law_12 (t_X6_within 10 30 rfl rfl) (by decide) (Nat.le_of_ble_eq_true rfl) ?_
    refine g_if_eqb 63 dX6_law_15 (by decide) (fun h15 => ?_) (fun h15 => ?_)
    · refine g_bipush (-2) dX6_law_63 rfl ?_
      refine g_iret dX6_law_65 rfl rfl ?_ ?_
      · (repeat' split) <;> first | rfl | (exfalso; omega) | (exfalso; simp_all; done) | (exfalso; simp_all; omega)
      · (repeat' split) <;> first | rfl | (exfalso; omega) | (exfalso; simp_all; done) | (exfalso; simp_all; omega)
    · refine g_iload_n 3 dX6_law_18 rfl rfl ?_
      refine g_iconst 0 dX6_law_19 rfl ?_
      refine g_sipush 10000 dX6_law_20 rfl ?_
      refine ca_X6_55 dX6_law_23 (t_X6_within 0 10000 rfl rfl) (by decide) (Nat.le_of_ble_eq_true rfl) ?_
      refine g_if_eqb 63 dX6_law_26 (by decide) (fun h26 => ?_) (fun h26 => ?_)
      · refine g_bipush (-2) dX6_law_63 rfl ?_
        refine g_iret dX6_law_65 rfl rfl ?_ ?_
        · (repeat' split) <;> first | rfl | (exfalso; omega) | (exfalso; simp_all; done) | (exfalso; simp_all; omega)
        · (repeat' split) <;> first | rfl | (exfalso; omega) | (exfalso; simp_all; done) | (exfalso; simp_all; omega)
      · refine g_iload 4 dX6_law_29 rfl ?_
        refine g_iconst 0 dX6_law_31 rfl ?_
        refine g_bipush 100 dX6_law_32 rfl ?_
        refine ca_X6_55 dX6_law_34 (t_X6_within 0 100 rfl rfl) (by decide) (Nat.le_of_ble_eq_true rfl) ?_
        refine g_if_eqb 63 dX6_law_37 (by decide) (fun h37 => ?_) (fun h37 => ?_)
        · refine g_bipush (-2) dX6_law_63 rfl ?_
          refine g_iret dX6_law_65 rfl rfl ?_ ?_
          · (repeat' split) <;> first | rfl | (exfalso; omega) | (exfalso; simp_all; done) | (exfalso; simp_all; omega)
          · (repeat' split) <;> first | rfl | (exfalso; omega) | (exfalso; simp_all; done) | (exfalso; simp_all; omega)
        · refine g_iload 5 dX6_law_40 rfl ?_
          refine g_iconst 0 dX6_law_42 rfl ?_
          refine g_sipush 10000 dX6_law_43 rfl ?_
          refine ca_X6_55 dX6_law_46 (t_X6_within 0 10000 rfl rfl) (by decide) (Nat.le_of_ble_eq_true rfl) ?_
          refine g_if_eqb 63 dX6_law_49 (by decide) (fun h49 => ?_) (fun h49 => ?_)
          · refine g_bipush (-2) dX6_law_63 rfl ?_
            refine g_iret dX6_law_65 rfl rfl ?_ ?_
            · (repeat' split) <;> first | rfl | (exfalso; omega) | (exfalso; simp_all; done) | (exfalso; simp_all; omega)
            · (repeat' split) <;> first | rfl | (exfalso; omega) | (exfalso; simp_all; done) | (exfalso; simp_all; omega)
          · refine g_iload 6 dX6_law_52 rfl ?_
            refine g_iconst 0 dX6_law_54 rfl ?_
            refine g_bipush 10 dX6_law_55 rfl ?_
            refine ca_X6_55 dX6_law_57 (t_X6_within 0 10 rfl rfl) (by decide) (Nat.le_of_ble_eq_true rfl) ?_
            refine g_if_neb 66 dX6_law_60 (by decide) (fun h60 => ?_) (fun h60 => ?_)
            · refine g_aload_n 0 dX6_law_66 rfl rfl ?_
              refine gf_X6_10 dX6_law_67 ?_
              refine gf_X6_59 dX6_law_70 ?_
              refine g_bipush 8 dX6_law_73 rfl ?_
              refine g_icmp_lt 81 _ 8 dX6_law_75 (by decide) rfl rfl (fun h75 => ?_) (fun h75 => ?_)
              · refine g_aload_n 0 dX6_law_81 rfl rfl ?_
                refine gf_X6_10 dX6_law_82 ?_
                refine g_iload_n 1 dX6_law_85 rfl rfl ?_
                refine g_iload_n 2 dX6_law_86 rfl rfl ?_
                refine g_iload_n 3 dX6_law_87 rfl rfl ?_
                refine g_iload 4 dX6_law_88 rfl ?_
                refine g_iload 5 dX6_law_90 rfl ?_
                refine g_iload 6 dX6_law_92 rfl ?_
                refine ca_X6_63 dX6_law_94 (t_X2_add hcl (by omega)) (by decide) (Nat.le_of_ble_eq_true rfl) ?_
                (try simp (disch := omega) only [setW_ne, setW_p, setA_ne, setA_p, upd_self, lpF_setA, lpF_setW, limC_setA, limC_setW])
                refine g_aload_n 0 dX6_law_97 rfl rfl ?_
                refine g_iconst 1 dX6_law_98 rfl ?_
                refine pf_X6_67 dX6_law_99 rfl rfl ?_
                (try simp (disch := omega) only [setW_setA, setW_setA_ne])
                refine g_aload_n 0 dX6_law_102 rfl rfl ?_
                refine gf_X6_10 dX6_law_103 ?_
                refine gf_X6_59 dX6_law_106 ?_
                (try simp (disch := omega) only [setW_ne, setW_p, setA_ne, setA_p, upd_self, lpF_setA, lpF_setW, limC_setA, limC_setW])
                refine g_iret dX6_law_109 rfl rfl ?_ ?_
                · (repeat' split) <;> first | rfl | (exfalso; omega) | (exfalso; simp_all; done) | (exfalso; simp_all; omega)
                · (repeat' split) <;> first | rfl | (exfalso; omega) | (exfalso; simp_all; done) | (exfalso; simp_all; omega)
              · refine g_bipush (-4) dX6_law_78 rfl ?_
                refine g_iret dX6_law_80 rfl rfl ?_ ?_
                · (repeat' split) <;> first | rfl | (exfalso; omega) | (exfalso; simp_all; done) | (exfalso; simp_all; omega)
                · (repeat' split) <;> first | rfl | (exfalso; omega) | (exfalso; simp_all; done) | (exfalso; simp_all; omega)
            · refine g_bipush (-2) dX6_law_63 rfl ?_
              refine g_iret dX6_law_65 rfl rfl ?_ ?_
              · (repeat' split) <;> first | rfl | (exfalso; omega) | (exfalso; simp_all; done) | (exfalso; simp_all; omega)
              · (repeat' split) <;> first | rfl | (exfalso; omega) | (exfalso; simp_all; done) | (exfalso; simp_all; omega)
set_option maxRecDepth 20000 in
theorem t_X6_force {E : En} {w : W0} {nl : Nat} {day z : Int32} (hcl : w 1 2 = nI nl) (hnl : nl ≤ 8) : Mt E 2 yX6_force cX6_force 3 (some .int) [.ref (E.1 0), .int day, .int z] w (some (.int (if dayP day ∧ (0 ≤ z.toInt ∧ z.toInt ≤ 4) then lawF (w 7) (lpF w) nl day z.toNatClampNeg else -2))) w := by
  refine Mt.of (by decide +kernel) (Nat.le_of_ble_eq_true rfl) ?_
  show G E 2 RX6 cX6_force 3 (some .int) _ _ 0 [(0, .ref (E.1 0)), (1, .int day), (2, .int z)] [] w
  have hclI : (w 1 2).toInt = (nl : Int) := by rw [hcl]; exact nI_toInt (by omega)
  refine g_iload_n 1 dX6_force_0 rfl rfl ?_
  refine ca_X6_51 dX6_force_1 (t_X6_isDay) (by decide) (Nat.le_of_ble_eq_true rfl) ?_
  refine g_if_eqb 16 dX6_force_4 (by decide) (fun h4 => ?_) (fun h4 => ?_)
  · refine g_bipush (-2) dX6_force_16 rfl ?_
    refine g_iret dX6_force_18 rfl rfl ?_ ?_
    · (repeat' split) <;> first | rfl | (exfalso; omega) | (exfalso; simp_all; done) | (exfalso; simp_all; omega)
    · (repeat' split) <;> first | rfl | (exfalso; omega) | (exfalso; simp_all; done) | (exfalso; simp_all; omega)
  · refine g_iload_n 2 dX6_force_7 rfl rfl ?_
    refine g_iconst 0 dX6_force_8 rfl ?_
    refine g_iconst 4 dX6_force_9 rfl ?_
    refine ca_X6_55 dX6_force_10 (t_X6_within 0 4 rfl rfl) (by decide) (Nat.le_of_ble_eq_true rfl) ?_
    refine g_if_neb 19 dX6_force_13 (by decide) (fun h13 => ?_) (fun h13 => ?_)
    · refine g_aload_n 0 dX6_force_19 rfl rfl ?_
      refine gf_X6_10 dX6_force_20 ?_
      refine g_iload_n 1 dX6_force_23 rfl rfl ?_
      refine g_iload_n 2 dX6_force_24 rfl rfl ?_
      refine ca_X6_71 dX6_force_25 (t_X2_inForce hcl hnl (toNat_back (by omega)) (nat_lt (by omega) (by omega))) (by decide) (Nat.le_of_ble_eq_true rfl) ?_
      refine g_iret dX6_force_28 rfl rfl ?_ ?_
      · (repeat' split) <;> first | rfl | (exfalso; omega) | (exfalso; simp_all; done) | (exfalso; simp_all; omega)
      · (repeat' split) <;> first | rfl | (exfalso; omega) | (exfalso; simp_all; done) | (exfalso; simp_all; omega)
    · refine g_bipush (-2) dX6_force_16 rfl ?_
      refine g_iret dX6_force_18 rfl rfl ?_ ?_
      · (repeat' split) <;> first | rfl | (exfalso; omega) | (exfalso; simp_all; done) | (exfalso; simp_all; omega)
      · (repeat' split) <;> first | rfl | (exfalso; omega) | (exfalso; simp_all; done) | (exfalso; simp_all; omega)
def wardW (w : W0) (n : Nat) (x : Int32) : W0 := setW (setW (setW (setW (setW (setW w 17 n x) 18 n (-6)) 19 n (-6)) 20 n (-6)) 2 5 (nI (n + 1))) 0 6 1
abbrev bornP (x : Int32) : Prop := -10800 ≤ x.toInt ∧ x.toInt ≤ 3599
set_option maxRecDepth 20000 in
theorem t_X6_ward {E : En} {w : W0} {nw : Nat} {x : Int32} (hcw : w 2 5 = nI nw) (hnw : nw ≤ 6) : Mt E 2 yX6_ward cX6_ward 2 (some .int) [.ref (E.1 0), .int x] w (some (.int (if bornP x then (if 6 ≤ nw then -4 else nI nw) else -2))) (if bornP x ∧ ¬ 6 ≤ nw then wardW w nw x else w) := by
  refine Mt.of (by decide +kernel) (Nat.le_of_ble_eq_true rfl) ?_
  show G E 2 RX6 cX6_ward 2 (some .int) _ _ 0 [(0, .ref (E.1 0)), (1, .int x)] [] w
  have hcwI : (w 2 5).toInt = (nw : Int) := by rw [hcw]; exact nI_toInt (by omega)
  refine g_iload_n 1 dX6_ward_0 rfl rfl ?_
  refine g_sipush (-10800) dX6_ward_1 rfl ?_
  refine g_sipush 3599 dX6_ward_4 rfl ?_
  refine ca_X6_55 dX6_ward_7 (t_X6_within (-10800) 3599 rfl rfl) (by decide) (Nat.le_of_ble_eq_true rfl) ?_
  refine g_if_neb 16 dX6_ward_10 (by decide) (fun h10 => ?_) (fun h10 => ?_)
  · refine g_aload_n 0 dX6_ward_16 rfl rfl ?_
    refine gf_X6_19 dX6_ward_17 ?_
    refine gf_X6_75 dX6_ward_20 ?_
    refine g_bipush 6 dX6_ward_23 rfl ?_
    refine g_icmp_lt 31 _ 6 dX6_ward_25 (by decide) rfl rfl (fun h25 => ?_) (fun h25 => ?_)
    · refine g_aload_n 0 dX6_ward_31 rfl rfl ?_
      refine gf_X6_19 dX6_ward_32 ?_
      refine g_iload_n 1 dX6_ward_35 rfl rfl ?_
      refine ca_X6_76 dX6_ward_36 (t_X5_add hcw (by omega)) (by decide) (Nat.le_of_ble_eq_true rfl) ?_
      (try simp (disch := omega) only [setW_ne, setW_p, setA_ne, setA_p, upd_self, lpF_setA, lpF_setW, limC_setA, limC_setW])
      refine g_aload_n 0 dX6_ward_39 rfl rfl ?_
      refine g_iconst 1 dX6_ward_40 rfl ?_
      refine pf_X6_67 dX6_ward_41 rfl rfl ?_
      (try simp (disch := omega) only [setW_setA, setW_setA_ne])
      refine g_aload_n 0 dX6_ward_44 rfl rfl ?_
      refine gf_X6_19 dX6_ward_45 ?_
      refine gf_X6_75 dX6_ward_48 ?_
      (try simp (disch := omega) only [setW_ne, setW_p, setA_ne, setA_p, upd_self, lpF_setA, lpF_setW, limC_setA, limC_setW])
      refine g_iconst 1 dX6_ward_51 rfl ?_
      refine g_isub dX6_ward_52 ?_
      rw [nI_pred]
      refine g_iret dX6_ward_53 rfl rfl ?_ ?_
      · (repeat' split) <;> first | rfl | (exfalso; omega) | (exfalso; simp_all; done) | (exfalso; simp_all; omega)
      · (repeat' split) <;> first | rfl | (exfalso; omega) | (exfalso; simp_all; done) | (exfalso; simp_all; omega)
    · refine g_bipush (-4) dX6_ward_28 rfl ?_
      refine g_iret dX6_ward_30 rfl rfl ?_ ?_
      · (repeat' split) <;> first | rfl | (exfalso; omega) | (exfalso; simp_all; done) | (exfalso; simp_all; omega)
      · (repeat' split) <;> first | rfl | (exfalso; omega) | (exfalso; simp_all; done) | (exfalso; simp_all; omega)
  · refine g_bipush (-2) dX6_ward_13 rfl ?_
    refine g_iret dX6_ward_15 rfl rfl ?_ ?_
    · (repeat' split) <;> first | rfl | (exfalso; omega) | (exfalso; simp_all; done) | (exfalso; simp_all; omega)
    · (repeat' split) <;> first | rfl | (exfalso; omega) | (exfalso; simp_all; done) | (exfalso; simp_all; omega)
abbrev badD (w : W0) (i day : Int32) : Prop := ¬ day = -1 ∧ (¬ dayP day ∨ day.toInt < (w 17 i.toNatClampNeg).toInt)
def diesW (w : W0) (i day : Int32) : W0 := setW (setW w 18 i.toNatClampNeg (if day = -1 then -6 else day)) 0 6 1
set_option maxRecDepth 20000 in
theorem t_X6_dies {E : En} {w : W0} {i day : Int32} : Mt E 2 yX6_dies cX6_dies 4 (some .int) [.ref (E.1 0), .int i, .int day] w (some (.int (if hasW w i then (if badD w i day then -2 else w 18 i.toNatClampNeg) else -1))) (if hasW w i ∧ ¬ badD w i day then diesW w i day else w) := by
  refine Mt.of (by decide +kernel) (Nat.le_of_ble_eq_true rfl) ?_
  show G E 2 RX6 cX6_dies 4 (some .int) _ _ 0 [(0, .ref (E.1 0)), (1, .int i), (2, .int day)] [] w
  refine g_aload_n 0 dX6_dies_0 rfl rfl ?_
  refine gf_X6_19 dX6_dies_1 ?_
  refine g_iload_n 1 dX6_dies_4 rfl rfl ?_
  refine ca_X6_79 dX6_dies_5 (t_X5_has) (by decide) (Nat.le_of_ble_eq_true rfl) ?_
  refine g_if_neb 13 dX6_dies_8 (by decide) (fun h8 => ?_) (fun h8 => ?_)
  · refine g_iload_n 2 dX6_dies_13 rfl rfl ?_
    refine g_iconst (-1) dX6_dies_14 rfl ?_
    refine g_icmp_eq 40 dX6_dies_15 (by decide) (fun h15 => ?_) (fun h15 => ?_)
    · refine g_aload_n 0 dX6_dies_40 rfl rfl ?_
      refine gf_X6_19 dX6_dies_41 ?_
      refine g_iload_n 1 dX6_dies_44 rfl rfl ?_
      refine ca_X6_86 dX6_dies_45 (v_X5_deathOf h8) (by decide) (Nat.le_of_ble_eq_true rfl) ?_
      refine g_istN_n dX6_dies_48 rfl (by decide) rfl ?_
      refine g_aload_n 1 dX6_dies_49 rfl rfl ?_
      refine gf_X6_19 dX6_dies_50 ?_
      refine g_iload_n 2 dX6_dies_53 rfl rfl ?_
      refine g_iload_n 3 dX6_dies_54 rfl rfl ?_
      refine g_iconst (-1) dX6_dies_55 rfl ?_
      refine g_icmp_ne 64 dX6_dies_56 (by decide) (fun h56 => ?_) (fun h56 => ?_)
      · refine g_iload_n 3 dX6_dies_64 rfl rfl ?_
        refine ca_X6_89 dX6_dies_65 (v_X5_setDeath h8) (by decide) (Nat.le_of_ble_eq_true rfl) ?_
        (try simp (disch := omega) only [setW_ne, setW_p, setA_ne, setA_p, upd_self, lpF_setA, lpF_setW, limC_setA, limC_setW])
        refine g_aload_n 1 dX6_dies_68 rfl rfl ?_
        refine g_iconst 1 dX6_dies_69 rfl ?_
        refine pf_X6_67 dX6_dies_70 rfl rfl ?_
        (try simp (disch := omega) only [setW_setA, setW_setA_ne])
        refine g_iload_n 0 dX6_dies_73 rfl rfl ?_
        refine g_iret dX6_dies_74 rfl rfl ?_ ?_
        · (repeat' split) <;> first | rfl | (exfalso; omega) | (exfalso; simp_all; done) | (exfalso; simp_all; omega)
        · (try unfold diesW); (repeat' split) <;> first | rfl | (exfalso; omega) | (exfalso; simp_all; done) | (exfalso; simp_all; omega)
      · refine g_bipush (-6) dX6_dies_59 rfl ?_
        refine g_goto 65 dX6_dies_61 (by decide) ?_
        refine ca_X6_89 dX6_dies_65 (v_X5_setDeath h8) (by decide) (Nat.le_of_ble_eq_true rfl) ?_
        (try simp (disch := omega) only [setW_ne, setW_p, setA_ne, setA_p, upd_self, lpF_setA, lpF_setW, limC_setA, limC_setW])
        refine g_aload_n 1 dX6_dies_68 rfl rfl ?_
        refine g_iconst 1 dX6_dies_69 rfl ?_
        refine pf_X6_67 dX6_dies_70 rfl rfl ?_
        (try simp (disch := omega) only [setW_setA, setW_setA_ne])
        refine g_iload_n 0 dX6_dies_73 rfl rfl ?_
        refine g_iret dX6_dies_74 rfl rfl ?_ ?_
        · (repeat' split) <;> first | rfl | (exfalso; omega) | (exfalso; simp_all; done) | (exfalso; simp_all; omega)
        · (try unfold diesW); (repeat' split) <;> first | rfl | (exfalso; omega) | (exfalso; simp_all; done) | (exfalso; simp_all; omega)
    · refine g_iload_n 2 dX6_dies_18 rfl rfl ?_
      refine ca_X6_51 dX6_dies_19 (t_X6_isDay) (by decide) (Nat.le_of_ble_eq_true rfl) ?_
      refine g_if_eqb 37 dX6_dies_22 (by decide) (fun h22 => ?_) (fun h22 => ?_)
      · refine g_bipush (-2) dX6_dies_37 rfl ?_
        refine g_iret dX6_dies_39 rfl rfl ?_ ?_
        · (repeat' split) <;> first | rfl | (exfalso; omega) | (exfalso; simp_all; done) | (exfalso; simp_all; omega)
        · (try unfold diesW); (repeat' split) <;> first | rfl | (exfalso; omega) | (exfalso; simp_all; done) | (exfalso; simp_all; omega)
      · refine g_iload_n 2 dX6_dies_25 rfl rfl ?_
        refine g_aload_n 0 dX6_dies_26 rfl rfl ?_
        refine gf_X6_19 dX6_dies_27 ?_
        refine g_iload_n 1 dX6_dies_30 rfl rfl ?_
        refine ca_X6_82 dX6_dies_31 (v_X5_birthOf h8) (by decide) (Nat.le_of_ble_eq_true rfl) ?_
        refine g_icmp_ge 40 _ _ dX6_dies_34 (by decide) rfl rfl (fun h34 => ?_) (fun h34 => ?_)
        · refine g_aload_n 0 dX6_dies_40 rfl rfl ?_
          refine gf_X6_19 dX6_dies_41 ?_
          refine g_iload_n 1 dX6_dies_44 rfl rfl ?_
          refine ca_X6_86 dX6_dies_45 (v_X5_deathOf h8) (by decide) (Nat.le_of_ble_eq_true rfl) ?_
          refine g_istN_n dX6_dies_48 rfl (by decide) rfl ?_
          refine g_aload_n 1 dX6_dies_49 rfl rfl ?_
          refine gf_X6_19 dX6_dies_50 ?_
          refine g_iload_n 2 dX6_dies_53 rfl rfl ?_
          refine g_iload_n 3 dX6_dies_54 rfl rfl ?_
          refine g_iconst (-1) dX6_dies_55 rfl ?_
          refine g_icmp_ne 64 dX6_dies_56 (by decide) (fun h56 => ?_) (fun h56 => ?_)
          · refine g_iload_n 3 dX6_dies_64 rfl rfl ?_
            refine ca_X6_89 dX6_dies_65 (v_X5_setDeath h8) (by decide) (Nat.le_of_ble_eq_true rfl) ?_
            (try simp (disch := omega) only [setW_ne, setW_p, setA_ne, setA_p, upd_self, lpF_setA, lpF_setW, limC_setA, limC_setW])
            refine g_aload_n 1 dX6_dies_68 rfl rfl ?_
            refine g_iconst 1 dX6_dies_69 rfl ?_
            refine pf_X6_67 dX6_dies_70 rfl rfl ?_
            (try simp (disch := omega) only [setW_setA, setW_setA_ne])
            refine g_iload_n 0 dX6_dies_73 rfl rfl ?_
            refine g_iret dX6_dies_74 rfl rfl ?_ ?_
            · (repeat' split) <;> first | rfl | (exfalso; omega) | (exfalso; simp_all; done) | (exfalso; simp_all; omega)
            · (try unfold diesW); (repeat' split) <;> first | rfl | (exfalso; omega) | (exfalso; simp_all; done) | (exfalso; simp_all; omega)
          · refine g_bipush (-6) dX6_dies_59 rfl ?_
            refine g_goto 65 dX6_dies_61 (by decide) ?_
            refine ca_X6_89 dX6_dies_65 (v_X5_setDeath h8) (by decide) (Nat.le_of_ble_eq_true rfl) ?_
            (try simp (disch := omega) only [setW_ne, setW_p, setA_ne, setA_p, upd_self, lpF_setA, lpF_setW, limC_setA, limC_setW])
            refine g_aload_n 1 dX6_dies_68 rfl rfl ?_
            refine g_iconst 1 dX6_dies_69 rfl ?_
            refine pf_X6_67 dX6_dies_70 rfl rfl ?_
            (try simp (disch := omega) only [setW_setA, setW_setA_ne])
            refine g_iload_n 0 dX6_dies_73 rfl rfl ?_
            refine g_iret dX6_dies_74 rfl rfl ?_ ?_
            · (repeat' split) <;> first | rfl | (exfalso; omega) | (exfalso; simp_all; done) | (exfalso; simp_all; omega)
            · (try unfold diesW); (repeat' split) <;> first | rfl | (exfalso; omega) | (exfalso; simp_all; done) | (exfalso; simp_all; omega)
        · refine g_bipush (-2) dX6_dies_37 rfl ?_
          refine g_iret dX6_dies_39 rfl rfl ?_ ?_
          · (repeat' split) <;> first | rfl | (exfalso; omega) | (exfalso; simp_all; done) | (exfalso; simp_all; omega)
          · (try unfold diesW); (repeat' split) <;> first | rfl | (exfalso; omega) | (exfalso; simp_all; done) | (exfalso; simp_all; omega)
  · refine g_iconst (-1) dX6_dies_11 rfl ?_
    refine g_iret dX6_dies_12 rfl rfl ?_ ?_
    · (repeat' split) <;> first | rfl | (exfalso; omega) | (exfalso; simp_all; done) | (exfalso; simp_all; omega)
    · (try unfold diesW); (repeat' split) <;> first | rfl | (exfalso; omega) | (exfalso; simp_all; done) | (exfalso; simp_all; omega)
def aboutF (w : W0) (i what : Int32) : Int32 := if what.toInt = 0 then w 17 i.toNatClampNeg else if what.toInt = 1 then w 18 i.toNatClampNeg else if what.toInt = 2 then w 19 i.toNatClampNeg else if what.toInt = 3 then w 20 i.toNatClampNeg else if what.toInt = 4 then w 21 i.toNatClampNeg else -100000002
set_option maxRecDepth 20000 in
theorem t_X6_about {E : En} {w : W0} {nl nw ni : Nat} (hcl : w 1 2 = nI nl) (hnl : nl ≤ 8) (hcw : w 2 5 = nI nw) (hnw : nw ≤ 6) (hci : w 4 7 = nI ni) (hni : ni ≤ 60) {i what : Int32} : Mt E 7 yX6_about cX6_about 3 (some .int) [.ref (E.1 0), .int i, .int what] w (some (.int (if hasW w i then aboutF (setlW w nl nw ni) i what else -100000001))) (if hasW w i then setlW w nl nw ni else w) := by
  refine Mt.of (by decide +kernel) (Nat.le_of_ble_eq_true rfl) ?_
  show G E 7 RX6 cX6_about 3 (some .int) _ _ 0 [(0, .ref (E.1 0)), (1, .int i), (2, .int what)] [] w
  refine g_aload_n 0 dX6_about_0 rfl rfl ?_
  refine gf_X6_19 dX6_about_1 ?_
  refine g_iload_n 1 dX6_about_4 rfl rfl ?_
  refine ca_X6_79 dX6_about_5 (t_X5_has) (by decide) (Nat.le_of_ble_eq_true rfl) ?_
  refine g_if_neb 14 dX6_about_8 (by decide) (fun h8 => ?_) (fun h8 => ?_)
  · refine g_aload_n 0 dX6_about_14 rfl rfl ?_
    refine ca_X6_94 dX6_about_15 (t_X6_settle hcl hnl hcw hnw hci hni) (by decide) (Nat.le_of_ble_eq_true rfl) ?_
    refine g_iload_n 2 dX6_about_18 rfl rfl ?_
    rcases sw4 what with hsw | hsw | hsw | hsw | hsw | hsw
    · refine g_tableIn (off := 33) 52 dX6_about_19 (by rw [hsw]; decide) (by rw [hsw]; decide) (by rw [hsw]; rfl) (by decide) ?_
      refine g_aload_n 0 dX6_about_52 rfl rfl ?_
      refine gf_X6_19 dX6_about_53 ?_
      refine g_iload_n 1 dX6_about_56 rfl rfl ?_
      refine ca_X6_82 dX6_about_57 (v_X5_birthOf (show hasW (setlW w nl nw ni) i by unfold hasW; rw [setlW_ne (by decide)]; exact h8)) (by decide) (Nat.le_of_ble_eq_true rfl) ?_
      refine g_iret dX6_about_60 rfl rfl ?_ ?_
      · unfold aboutF; (repeat' split) <;> first | rfl | (exfalso; omega) | (exfalso; simp_all; done) | (exfalso; simp_all; omega)
      · (repeat' split) <;> first | rfl | (exfalso; omega) | (exfalso; simp_all; done) | (exfalso; simp_all; omega)
    · refine g_tableIn (off := 42) 61 dX6_about_19 (by rw [hsw]; decide) (by rw [hsw]; decide) (by rw [hsw]; rfl) (by decide) ?_
      refine g_aload_n 0 dX6_about_61 rfl rfl ?_
      refine gf_X6_19 dX6_about_62 ?_
      refine g_iload_n 1 dX6_about_65 rfl rfl ?_
      refine ca_X6_86 dX6_about_66 (v_X5_deathOf (show hasW (setlW w nl nw ni) i by unfold hasW; rw [setlW_ne (by decide)]; exact h8)) (by decide) (Nat.le_of_ble_eq_true rfl) ?_
      refine g_iret dX6_about_69 rfl rfl ?_ ?_
      · unfold aboutF; (repeat' split) <;> first | rfl | (exfalso; omega) | (exfalso; simp_all; done) | (exfalso; simp_all; omega)
      · (repeat' split) <;> first | rfl | (exfalso; omega) | (exfalso; simp_all; done) | (exfalso; simp_all; omega)
    · refine g_tableIn (off := 51) 70 dX6_about_19 (by rw [hsw]; decide) (by rw [hsw]; decide) (by rw [hsw]; rfl) (by decide) ?_
      refine g_aload_n 0 dX6_about_70 rfl rfl ?_
      refine gf_X6_19 dX6_about_71 ?_
      refine g_iload_n 1 dX6_about_74 rfl rfl ?_
      refine ca_X6_97 dX6_about_75 (v_X5_fullAgeOf (show hasW (setlW w nl nw ni) i by unfold hasW; rw [setlW_ne (by decide)]; exact h8)) (by decide) (Nat.le_of_ble_eq_true rfl) ?_
      refine g_iret dX6_about_78 rfl rfl ?_ ?_
      · unfold aboutF; (repeat' split) <;> first | rfl | (exfalso; omega) | (exfalso; simp_all; done) | (exfalso; simp_all; omega)
      · (repeat' split) <;> first | rfl | (exfalso; omega) | (exfalso; simp_all; done) | (exfalso; simp_all; omega)
    · refine g_tableIn (off := 60) 79 dX6_about_19 (by rw [hsw]; decide) (by rw [hsw]; decide) (by rw [hsw]; rfl) (by decide) ?_
      refine g_aload_n 0 dX6_about_79 rfl rfl ?_
      refine gf_X6_19 dX6_about_80 ?_
      refine g_iload_n 1 dX6_about_83 rfl rfl ?_
      refine ca_X6_100 dX6_about_84 (v_X5_givenOverOf (show hasW (setlW w nl nw ni) i by unfold hasW; rw [setlW_ne (by decide)]; exact h8)) (by decide) (Nat.le_of_ble_eq_true rfl) ?_
      refine g_iret dX6_about_87 rfl rfl ?_ ?_
      · unfold aboutF; (repeat' split) <;> first | rfl | (exfalso; omega) | (exfalso; simp_all; done) | (exfalso; simp_all; omega)
      · (repeat' split) <;> first | rfl | (exfalso; omega) | (exfalso; simp_all; done) | (exfalso; simp_all; omega)
    · refine g_tableIn (off := 69) 88 dX6_about_19 (by rw [hsw]; decide) (by rw [hsw]; decide) (by rw [hsw]; rfl) (by decide) ?_
      refine g_aload_n 0 dX6_about_88 rfl rfl ?_
      refine gf_X6_19 dX6_about_89 ?_
      refine g_iload_n 1 dX6_about_92 rfl rfl ?_
      refine ca_X6_103 dX6_about_93 (v_X5_shareOf (show hasW (setlW w nl nw ni) i by unfold hasW; rw [setlW_ne (by decide)]; exact h8)) (by decide) (Nat.le_of_ble_eq_true rfl) ?_
      refine g_iret dX6_about_96 rfl rfl ?_ ?_
      · unfold aboutF; (repeat' split) <;> first | rfl | (exfalso; omega) | (exfalso; simp_all; done) | (exfalso; simp_all; omega)
      · (repeat' split) <;> first | rfl | (exfalso; omega) | (exfalso; simp_all; done) | (exfalso; simp_all; omega)
    · refine g_tableOut 97 dX6_about_19 (by omega) (by decide) ?_
      refine g_ldc (-100000002) dX6_about_97 lk_X6_106 ?_
      refine g_iret dX6_about_99 rfl rfl ?_ ?_
      · unfold aboutF; (repeat' split) <;> first | rfl | (exfalso; omega) | (exfalso; simp_all; done) | (exfalso; simp_all; omega)
      · (repeat' split) <;> first | rfl | (exfalso; omega) | (exfalso; simp_all; done) | (exfalso; simp_all; omega)
  · refine g_ldc (-100000001) dX6_about_11 lk_X6_93 ?_
    refine g_iret dX6_about_13 rfl rfl ?_ ?_
    · unfold aboutF; (repeat' split) <;> first | rfl | (exfalso; omega) | (exfalso; simp_all; done) | (exfalso; simp_all; omega)
    · (repeat' split) <;> first | rfl | (exfalso; omega) | (exfalso; simp_all; done) | (exfalso; simp_all; omega)
set_option maxRecDepth 20000 in
theorem t_X6_heads {E : En} {w : W0} {nl nw ni : Nat} (hcl : w 1 2 = nI nl) (hnl : nl ≤ 8) (hcw : w 2 5 = nI nw) (hnw : nw ≤ 6) (hci : w 4 7 = nI ni) (hni : ni ≤ 60) {day : Int32} : Mt E 7 yX6_heads cX6_heads 2 (some .int) [.ref (E.1 0), .int day] w (some (.int (if dayP day then headsF (setlW w nl nw ni 17) (setlW w nl nw ni 18) (setlW w nl nw ni 20) day nw else -2))) (if dayP day then setlW w nl nw ni else w) := by
  refine Mt.of (by decide +kernel) (Nat.le_of_ble_eq_true rfl) ?_
  show G E 7 RX6 cX6_heads 2 (some .int) _ _ 0 [(0, .ref (E.1 0)), (1, .int day)] [] w
  refine g_iload_n 1 dX6_heads_0 rfl rfl ?_
  refine ca_X6_51 dX6_heads_1 (t_X6_isDay) (by decide) (Nat.le_of_ble_eq_true rfl) ?_
  refine g_if_neb 10 dX6_heads_4 (by decide) (fun h4 => ?_) (fun h4 => ?_)
  · refine g_aload_n 0 dX6_heads_10 rfl rfl ?_
    refine ca_X6_94 dX6_heads_11 (t_X6_settle hcl hnl hcw hnw hci hni) (by decide) (Nat.le_of_ble_eq_true rfl) ?_
    refine g_aload_n 0 dX6_heads_14 rfl rfl ?_
    refine gf_X6_19 dX6_heads_15 ?_
    refine g_iload_n 1 dX6_heads_18 rfl rfl ?_
    refine ca_X6_107 dX6_heads_19 (t_X5_headsOn (by rw [setlW_ne (by decide)]; exact hcw) hnw) (by decide) (Nat.le_of_ble_eq_true rfl) ?_
    refine g_iret dX6_heads_22 rfl rfl ?_ ?_
    · (repeat' split) <;> first | rfl | (exfalso; omega) | (exfalso; simp_all; done) | (exfalso; simp_all; omega)
    · (repeat' split) <;> first | rfl | (exfalso; omega) | (exfalso; simp_all; done) | (exfalso; simp_all; omega)
  · refine g_bipush (-2) dX6_heads_7 rfl ?_
    refine g_iret dX6_heads_9 rfl rfl ?_ ?_
    · (repeat' split) <;> first | rfl | (exfalso; omega) | (exfalso; simp_all; done) | (exfalso; simp_all; omega)
    · (repeat' split) <;> first | rfl | (exfalso; omega) | (exfalso; simp_all; done) | (exfalso; simp_all; omega)
def leaveW (w : W0) (n : Nat) (x : Int32) : W0 := setW (setW (setW w 22 n x) 23 n (-6)) 3 2 (nI (n + 1))
set_option maxRecDepth 20000 in
theorem t_X6_leave {E : En} {w : W0} {nv : Nat} {x : Int32} (hcv : w 3 2 = nI nv) (hnv : nv ≤ 10) : Mt E 2 yX6_leave cX6_leave 2 (some .int) [.ref (E.1 0), .int x] w (some (.int (if coinP x then (if 10 ≤ nv then -4 else nI nv) else -2))) (if coinP x ∧ ¬ 10 ≤ nv then leaveW w nv x else w) := by
  refine Mt.of (by decide +kernel) (Nat.le_of_ble_eq_true rfl) ?_
  show G E 2 RX6 cX6_leave 2 (some .int) _ _ 0 [(0, .ref (E.1 0)), (1, .int x)] [] w
  have hcvI : (w 3 2).toInt = (nv : Int) := by rw [hcv]; exact nI_toInt (by omega)
  refine g_iload_n 1 dX6_leave_0 rfl rfl ?_
  refine ca_X6_110 dX6_leave_1 (t_X6_isCoins) (by decide) (Nat.le_of_ble_eq_true rfl) ?_
  refine g_if_neb 10 dX6_leave_4 (by decide) (fun h4 => ?_) (fun h4 => ?_)
  · refine g_aload_n 0 dX6_leave_10 rfl rfl ?_
    refine gf_X6_26 dX6_leave_11 ?_
    refine gf_X6_113 dX6_leave_14 ?_
    refine g_bipush 10 dX6_leave_17 rfl ?_
    refine g_icmp_lt 25 _ 10 dX6_leave_19 (by decide) rfl rfl (fun h19 => ?_) (fun h19 => ?_)
    · refine g_aload_n 0 dX6_leave_25 rfl rfl ?_
      refine gf_X6_26 dX6_leave_26 ?_
      refine g_iload_n 1 dX6_leave_29 rfl rfl ?_
      refine ca_X6_114 dX6_leave_30 (t_X4_add hcv (by omega)) (by decide) (Nat.le_of_ble_eq_true rfl) ?_
      (try simp (disch := omega) only [setW_ne, setW_p, setA_ne, setA_p, upd_self, lpF_setA, lpF_setW, limC_setA, limC_setW])
      refine g_aload_n 0 dX6_leave_33 rfl rfl ?_
      refine gf_X6_26 dX6_leave_34 ?_
      refine gf_X6_113 dX6_leave_37 ?_
      (try simp (disch := omega) only [setW_ne, setW_p, setA_ne, setA_p, upd_self, lpF_setA, lpF_setW, limC_setA, limC_setW])
      refine g_iconst 1 dX6_leave_40 rfl ?_
      refine g_isub dX6_leave_41 ?_
      rw [nI_pred]
      refine g_iret dX6_leave_42 rfl rfl ?_ ?_
      · (repeat' split) <;> first | rfl | (exfalso; omega) | (exfalso; simp_all; done) | (exfalso; simp_all; omega)
      · (repeat' split) <;> first | rfl | (exfalso; omega) | (exfalso; simp_all; done) | (exfalso; simp_all; omega)
    · refine g_bipush (-4) dX6_leave_22 rfl ?_
      refine g_iret dX6_leave_24 rfl rfl ?_ ?_
      · (repeat' split) <;> first | rfl | (exfalso; omega) | (exfalso; simp_all; done) | (exfalso; simp_all; omega)
      · (repeat' split) <;> first | rfl | (exfalso; omega) | (exfalso; simp_all; done) | (exfalso; simp_all; omega)
  · refine g_bipush (-2) dX6_leave_7 rfl ?_
    refine g_iret dX6_leave_9 rfl rfl ?_ ?_
    · (repeat' split) <;> first | rfl | (exfalso; omega) | (exfalso; simp_all; done) | (exfalso; simp_all; omega)
    · (repeat' split) <;> first | rfl | (exfalso; omega) | (exfalso; simp_all; done) | (exfalso; simp_all; omega)
set_option maxRecDepth 20000 in
theorem t_X6_ofLeave {E : En} {w : W0} {i what : Int32} : Mt E 2 yX6_ofLeave cX6_ofLeave 3 (some .int) [.ref (E.1 0), .int i, .int what] w (some (.int (if hasL w i then (if what.toInt = 0 then limC w i else if what.toInt = 1 then useC w i else -2) else -1))) w := by
  refine Mt.of (by decide +kernel) (Nat.le_of_ble_eq_true rfl) ?_
  show G E 2 RX6 cX6_ofLeave 3 (some .int) _ _ 0 [(0, .ref (E.1 0)), (1, .int i), (2, .int what)] [] w
  refine g_aload_n 0 dX6_ofLeave_0 rfl rfl ?_
  refine gf_X6_26 dX6_ofLeave_1 ?_
  refine g_iload_n 1 dX6_ofLeave_4 rfl rfl ?_
  refine ca_X6_115 dX6_ofLeave_5 (t_X4_has) (by decide) (Nat.le_of_ble_eq_true rfl) ?_
  refine g_if_neb 13 dX6_ofLeave_8 (by decide) (fun h8 => ?_) (fun h8 => ?_)
  · refine g_iload_n 2 dX6_ofLeave_13 rfl rfl ?_
    rcases sw1 what with hsw | hsw | hsw
    · refine g_lookup (off := 26) 40 dX6_ofLeave_14 (by decide) (by rw [hsw]; rfl) (by decide) ?_
      refine g_aload_n 0 dX6_ofLeave_40 rfl rfl ?_
      refine gf_X6_26 dX6_ofLeave_41 ?_
      refine g_iload_n 1 dX6_ofLeave_44 rfl rfl ?_
      refine ca_X6_116 dX6_ofLeave_45 (t_X4_limitOf) (by decide) (Nat.le_of_ble_eq_true rfl) ?_
      refine g_iret dX6_ofLeave_48 rfl rfl ?_ ?_
      · (repeat' split) <;> first | rfl | (exfalso; omega) | (exfalso; simp_all; done) | (exfalso; simp_all; omega)
      · (repeat' split) <;> first | rfl | (exfalso; omega) | (exfalso; simp_all; done) | (exfalso; simp_all; omega)
    · refine g_lookup (off := 35) 49 dX6_ofLeave_14 (by decide) (by rw [hsw]; rfl) (by decide) ?_
      refine g_aload_n 0 dX6_ofLeave_49 rfl rfl ?_
      refine gf_X6_26 dX6_ofLeave_50 ?_
      refine g_iload_n 1 dX6_ofLeave_53 rfl rfl ?_
      refine ca_X6_119 dX6_ofLeave_54 (t_X4_useOf) (by decide) (Nat.le_of_ble_eq_true rfl) ?_
      refine g_iret dX6_ofLeave_57 rfl rfl ?_ ?_
      · (repeat' split) <;> first | rfl | (exfalso; omega) | (exfalso; simp_all; done) | (exfalso; simp_all; omega)
      · (repeat' split) <;> first | rfl | (exfalso; omega) | (exfalso; simp_all; done) | (exfalso; simp_all; omega)
    · refine g_lookup (off := 44) 58 dX6_ofLeave_14 (by decide) (by have e1 := Ne.symm hsw.1; have e2 := Ne.symm hsw.2; simp [Op.lookupswitch.offset, e1, e2]) (by decide) ?_
      refine g_bipush (-2) dX6_ofLeave_58 rfl ?_
      refine g_iret dX6_ofLeave_60 rfl rfl ?_ ?_
      · (repeat' split) <;> first | rfl | (exfalso; omega) | (exfalso; simp_all; done) | (exfalso; simp_all; omega)
      · (repeat' split) <;> first | rfl | (exfalso; omega) | (exfalso; simp_all; done) | (exfalso; simp_all; omega)
  · refine g_iconst (-1) dX6_ofLeave_11 rfl ?_
    refine g_iret dX6_ofLeave_12 rfl rfl ?_ ?_
    · (repeat' split) <;> first | rfl | (exfalso; omega) | (exfalso; simp_all; done) | (exfalso; simp_all; omega)
    · (repeat' split) <;> first | rfl | (exfalso; omega) | (exfalso; simp_all; done) | (exfalso; simp_all; omega)
def itemW (w : W0) (n : Nat) (d c r l : Int32) : W0 := setW (setW (setW (setW (setW w 24 n d) 25 n c) 26 n r) 27 n l) 4 7 (nI (n + 1))
set_option maxRecDepth 20000 in
theorem t_X6_receive {E : En} {w : W0} {ni : Nat} {d c l : Int32} (hci : w 4 7 = nI ni) (hni : ni ≤ 60) : Mt E 2 yX6_receive cX6_receive 4 (some .int) [.ref (E.1 0), .int d, .int c, .int l] w (some (.int (if ¬ l = -1 ∧ ¬ hasE w l then -1 else if ¬ (dayP d ∧ coinP c) then -2 else if 60 ≤ ni then -4 else nI ni))) (if ¬ (¬ l = -1 ∧ ¬ hasE w l) ∧ (dayP d ∧ coinP c) ∧ ¬ 60 ≤ ni then setW (itemW w ni d c 1 l) 0 6 1 else w) := by
  refine Mt.of (by decide +kernel) (Nat.le_of_ble_eq_true rfl) ?_
  show G E 2 RX6 cX6_receive 4 (some .int) _ _ 0 [(0, .ref (E.1 0)), (1, .int d), (2, .int c), (3, .int l)] [] w
  have hciI : (w 4 7).toInt = (ni : Int) := by rw [hci]; exact nI_toInt (by omega)
  refine g_iload_n 3 dX6_receive_0 rfl rfl ?_
  refine g_iconst (-1) dX6_receive_1 rfl ?_
  refine g_icmp_eq 18 dX6_receive_2 (by decide) (fun h2 => ?_) (fun h2 => ?_)
  · refine g_iload_n 1 dX6_receive_18 rfl rfl ?_
    refine ca_X6_51 dX6_receive_19 (t_X6_isDay) (by decide) (Nat.le_of_ble_eq_true rfl) ?_
    refine g_if_eqb 32 dX6_receive_22 (by decide) (fun h22 => ?_) (fun h22 => ?_)
    · refine g_bipush (-2) dX6_receive_32 rfl ?_
      refine g_iret dX6_receive_34 rfl rfl ?_ ?_
      · (repeat' split) <;> first | rfl | (exfalso; omega) | (exfalso; simp_all; done) | (exfalso; simp_all; omega)
      · (repeat' split) <;> first | rfl | (exfalso; omega) | (exfalso; simp_all; done) | (exfalso; simp_all; omega)
    · refine g_iload_n 2 dX6_receive_25 rfl rfl ?_
      refine ca_X6_110 dX6_receive_26 (t_X6_isCoins) (by decide) (Nat.le_of_ble_eq_true rfl) ?_
      refine g_if_neb 35 dX6_receive_29 (by decide) (fun h29 => ?_) (fun h29 => ?_)
      · refine g_aload_n 0 dX6_receive_35 rfl rfl ?_
        refine gf_X6_33 dX6_receive_36 ?_
        refine gf_X6_123 dX6_receive_39 ?_
        refine g_bipush 60 dX6_receive_42 rfl ?_
        refine g_icmp_lt 50 _ 60 dX6_receive_44 (by decide) rfl rfl (fun h44 => ?_) (fun h44 => ?_)
        · refine g_aload_n 0 dX6_receive_50 rfl rfl ?_
          refine gf_X6_33 dX6_receive_51 ?_
          refine g_iload_n 1 dX6_receive_54 rfl rfl ?_
          refine g_iload_n 2 dX6_receive_55 rfl rfl ?_
          refine g_iconst 1 dX6_receive_56 rfl ?_
          refine g_iload_n 3 dX6_receive_57 rfl rfl ?_
          refine ca_X6_124 dX6_receive_58 (t_X1_add hci (by omega) (Or.inr rfl)) (by decide) (Nat.le_of_ble_eq_true rfl) ?_
          (try simp (disch := omega) only [setW_ne, setW_p, setA_ne, setA_p, upd_self, lpF_setA, lpF_setW, limC_setA, limC_setW])
          refine g_aload_n 0 dX6_receive_61 rfl rfl ?_
          refine g_iconst 1 dX6_receive_62 rfl ?_
          refine pf_X6_67 dX6_receive_63 rfl rfl ?_
          (try simp (disch := omega) only [setW_setA, setW_setA_ne])
          refine g_aload_n 0 dX6_receive_66 rfl rfl ?_
          refine gf_X6_33 dX6_receive_67 ?_
          refine gf_X6_123 dX6_receive_70 ?_
          (try simp (disch := omega) only [setW_ne, setW_p, setA_ne, setA_p, upd_self, lpF_setA, lpF_setW, limC_setA, limC_setW])
          refine g_iconst 1 dX6_receive_73 rfl ?_
          refine g_isub dX6_receive_74 ?_
          rw [nI_pred]
          refine g_iret dX6_receive_75 rfl rfl ?_ ?_
          · (repeat' split) <;> first | rfl | (exfalso; omega) | (exfalso; simp_all; done) | (exfalso; simp_all; omega)
          · (repeat' split) <;> first | rfl | (exfalso; omega) | (exfalso; simp_all; done) | (exfalso; simp_all; omega)
        · refine g_bipush (-4) dX6_receive_47 rfl ?_
          refine g_iret dX6_receive_49 rfl rfl ?_ ?_
          · (repeat' split) <;> first | rfl | (exfalso; omega) | (exfalso; simp_all; done) | (exfalso; simp_all; omega)
          · (repeat' split) <;> first | rfl | (exfalso; omega) | (exfalso; simp_all; done) | (exfalso; simp_all; omega)
      · refine g_bipush (-2) dX6_receive_32 rfl ?_
        refine g_iret dX6_receive_34 rfl rfl ?_ ?_
        · (repeat' split) <;> first | rfl | (exfalso; omega) | (exfalso; simp_all; done) | (exfalso; simp_all; omega)
        · (repeat' split) <;> first | rfl | (exfalso; omega) | (exfalso; simp_all; done) | (exfalso; simp_all; omega)
  · refine g_aload_n 0 dX6_receive_5 rfl rfl ?_
    refine gf_X6_40 dX6_receive_6 ?_
    refine g_iload_n 3 dX6_receive_9 rfl rfl ?_
    refine ca_X6_122 dX6_receive_10 (t_X3_has) (by decide) (Nat.le_of_ble_eq_true rfl) ?_
    refine g_if_neb 18 dX6_receive_13 (by decide) (fun h13 => ?_) (fun h13 => ?_)
    · refine g_iload_n 1 dX6_receive_18 rfl rfl ?_
      refine ca_X6_51 dX6_receive_19 (t_X6_isDay) (by decide) (Nat.le_of_ble_eq_true rfl) ?_
      refine g_if_eqb 32 dX6_receive_22 (by decide) (fun h22 => ?_) (fun h22 => ?_)
      · refine g_bipush (-2) dX6_receive_32 rfl ?_
        refine g_iret dX6_receive_34 rfl rfl ?_ ?_
        · (repeat' split) <;> first | rfl | (exfalso; omega) | (exfalso; simp_all; done) | (exfalso; simp_all; omega)
        · (repeat' split) <;> first | rfl | (exfalso; omega) | (exfalso; simp_all; done) | (exfalso; simp_all; omega)
      · refine g_iload_n 2 dX6_receive_25 rfl rfl ?_
        refine ca_X6_110 dX6_receive_26 (t_X6_isCoins) (by decide) (Nat.le_of_ble_eq_true rfl) ?_
        refine g_if_neb 35 dX6_receive_29 (by decide) (fun h29 => ?_) (fun h29 => ?_)
        · refine g_aload_n 0 dX6_receive_35 rfl rfl ?_
          refine gf_X6_33 dX6_receive_36 ?_
          refine gf_X6_123 dX6_receive_39 ?_
          refine g_bipush 60 dX6_receive_42 rfl ?_
          refine g_icmp_lt 50 _ 60 dX6_receive_44 (by decide) rfl rfl (fun h44 => ?_) (fun h44 => ?_)
          · refine g_aload_n 0 dX6_receive_50 rfl rfl ?_
            refine gf_X6_33 dX6_receive_51 ?_
            refine g_iload_n 1 dX6_receive_54 rfl rfl ?_
            refine g_iload_n 2 dX6_receive_55 rfl rfl ?_
            refine g_iconst 1 dX6_receive_56 rfl ?_
            refine g_iload_n 3 dX6_receive_57 rfl rfl ?_
            refine ca_X6_124 dX6_receive_58 (t_X1_add hci (by omega) (Or.inr rfl)) (by decide) (Nat.le_of_ble_eq_true rfl) ?_
            (try simp (disch := omega) only [setW_ne, setW_p, setA_ne, setA_p, upd_self, lpF_setA, lpF_setW, limC_setA, limC_setW])
            refine g_aload_n 0 dX6_receive_61 rfl rfl ?_
            refine g_iconst 1 dX6_receive_62 rfl ?_
            refine pf_X6_67 dX6_receive_63 rfl rfl ?_
            (try simp (disch := omega) only [setW_setA, setW_setA_ne])
            refine g_aload_n 0 dX6_receive_66 rfl rfl ?_
            refine gf_X6_33 dX6_receive_67 ?_
            refine gf_X6_123 dX6_receive_70 ?_
            (try simp (disch := omega) only [setW_ne, setW_p, setA_ne, setA_p, upd_self, lpF_setA, lpF_setW, limC_setA, limC_setW])
            refine g_iconst 1 dX6_receive_73 rfl ?_
            refine g_isub dX6_receive_74 ?_
            rw [nI_pred]
            refine g_iret dX6_receive_75 rfl rfl ?_ ?_
            · (repeat' split) <;> first | rfl | (exfalso; omega) | (exfalso; simp_all; done) | (exfalso; simp_all; omega)
            · (repeat' split) <;> first | rfl | (exfalso; omega) | (exfalso; simp_all; done) | (exfalso; simp_all; omega)
          · refine g_bipush (-4) dX6_receive_47 rfl ?_
            refine g_iret dX6_receive_49 rfl rfl ?_ ?_
            · (repeat' split) <;> first | rfl | (exfalso; omega) | (exfalso; simp_all; done) | (exfalso; simp_all; omega)
            · (repeat' split) <;> first | rfl | (exfalso; omega) | (exfalso; simp_all; done) | (exfalso; simp_all; omega)
        · refine g_bipush (-2) dX6_receive_32 rfl ?_
          refine g_iret dX6_receive_34 rfl rfl ?_ ?_
          · (repeat' split) <;> first | rfl | (exfalso; omega) | (exfalso; simp_all; done) | (exfalso; simp_all; omega)
          · (repeat' split) <;> first | rfl | (exfalso; omega) | (exfalso; simp_all; done) | (exfalso; simp_all; omega)
    · refine g_iconst (-1) dX6_receive_16 rfl ?_
      refine g_iret dX6_receive_17 rfl rfl ?_ ?_
      · (repeat' split) <;> first | rfl | (exfalso; omega) | (exfalso; simp_all; done) | (exfalso; simp_all; omega)
      · (repeat' split) <;> first | rfl | (exfalso; omega) | (exfalso; simp_all; done) | (exfalso; simp_all; omega)
set_option maxRecDepth 20000 in
theorem t_X6_pay {E : En} {w : W0} {ni : Nat} {d c l : Int32} (hci : w 4 7 = nI ni) (hni : ni ≤ 60) : Mt E 3 yX6_pay cX6_pay 5 (some .int) [.ref (E.1 0), .int d, .int c, .int l] w (some (.int (if ¬ l = -1 ∧ ¬ hasL w l then -1 else if ¬ (dayP d ∧ coinP c) then -2 else if 60 ≤ ni then -4 else if useC w l ≠ -6 then -5 else nI ni))) (if ¬ (¬ l = -1 ∧ ¬ hasL w l) ∧ (dayP d ∧ coinP c) ∧ ¬ 60 ≤ ni ∧ ¬ useC w l ≠ -6 then setW (useW (itemW w ni d c 0 l) l (nI ni)) 0 6 1 else w) := by
  refine Mt.of (by decide +kernel) (Nat.le_of_ble_eq_true rfl) ?_
  show G E 3 RX6 cX6_pay 5 (some .int) _ _ 0 [(0, .ref (E.1 0)), (1, .int d), (2, .int c), (3, .int l)] [] w
  have hciI : (w 4 7).toInt = (ni : Int) := by rw [hci]; exact nI_toInt (by omega)
  refine g_iload_n 3 dX6_pay_0 rfl rfl ?_
  refine g_iconst (-1) dX6_pay_1 rfl ?_
  refine g_icmp_eq 18 dX6_pay_2 (by decide) (fun h2 => ?_) (fun h2 => ?_)
  · refine g_iload_n 1 dX6_pay_18 rfl rfl ?_
    refine ca_X6_51 dX6_pay_19 (t_X6_isDay) (by decide) (Nat.le_of_ble_eq_true rfl) ?_
    refine g_if_eqb 32 dX6_pay_22 (by decide) (fun h22 => ?_) (fun h22 => ?_)
    · refine g_bipush (-2) dX6_pay_32 rfl ?_
      refine g_iret dX6_pay_34 rfl rfl ?_ ?_
      · (repeat' split) <;> first | rfl | (exfalso; omega) | (exfalso; simp_all; done) | (exfalso; simp_all; omega)
      · (repeat' split) <;> first | rfl | (exfalso; omega) | (exfalso; simp_all; done) | (exfalso; simp_all; omega)
    · refine g_iload_n 2 dX6_pay_25 rfl rfl ?_
      refine ca_X6_110 dX6_pay_26 (t_X6_isCoins) (by decide) (Nat.le_of_ble_eq_true rfl) ?_
      refine g_if_neb 35 dX6_pay_29 (by decide) (fun h29 => ?_) (fun h29 => ?_)
      · refine g_aload_n 0 dX6_pay_35 rfl rfl ?_
        refine gf_X6_33 dX6_pay_36 ?_
        refine gf_X6_123 dX6_pay_39 ?_
        refine g_bipush 60 dX6_pay_42 rfl ?_
        refine g_icmp_lt 50 _ 60 dX6_pay_44 (by decide) rfl rfl (fun h44 => ?_) (fun h44 => ?_)
        · refine g_aload_n 0 dX6_pay_50 rfl rfl ?_
          refine gf_X6_26 dX6_pay_51 ?_
          refine g_iload_n 3 dX6_pay_54 rfl rfl ?_
          refine ca_X6_127 dX6_pay_55 (t_X4_wasUsed) (by decide) (Nat.le_of_ble_eq_true rfl) ?_
          refine g_if_eqb 64 dX6_pay_58 (by decide) (fun h58 => ?_) (fun h58 => ?_)
          · refine g_aload_n 0 dX6_pay_64 rfl rfl ?_
            refine gf_X6_33 dX6_pay_65 ?_
            refine gf_X6_123 dX6_pay_68 ?_
            rw [hci]
            refine g_istN dX6_pay_71 (by decide) rfl ?_
            refine g_aload_n 1 dX6_pay_73 rfl rfl ?_
            refine gf_X6_33 dX6_pay_74 ?_
            refine g_iload_n 2 dX6_pay_77 rfl rfl ?_
            refine g_iload_n 3 dX6_pay_78 rfl rfl ?_
            refine g_iconst 0 dX6_pay_79 rfl ?_
            refine g_iload_n 4 dX6_pay_80 rfl rfl ?_
            refine ca_X6_124 dX6_pay_81 (t_X1_add hci (by omega) (Or.inl rfl)) (by decide) (Nat.le_of_ble_eq_true rfl) ?_
            refine g_aload_n 1 dX6_pay_84 rfl rfl ?_
            refine gf_X6_26 dX6_pay_85 ?_
            refine g_iload_n 4 dX6_pay_88 rfl rfl ?_
            refine g_iload 0 dX6_pay_89 rfl ?_
            refine ca_X6_130 dX6_pay_91 (t_X4_use) (by decide) (Nat.le_of_ble_eq_true rfl) ?_
            refine g_aload_n 1 dX6_pay_94 rfl rfl ?_
            refine g_iconst 1 dX6_pay_95 rfl ?_
            refine pf_X6_67 dX6_pay_96 rfl rfl ?_
            refine g_iload 0 dX6_pay_99 rfl ?_
            refine g_iret dX6_pay_101 rfl rfl ?_ ?_
            · (repeat' split) <;> first | rfl | (exfalso; omega) | (exfalso; simp_all; done) | (exfalso; simp_all; omega)
            · (repeat' split) <;> first | rfl | (exfalso; omega) | (exfalso; simp_all; done) | (exfalso; simp_all; omega)
          · refine g_bipush (-5) dX6_pay_61 rfl ?_
            refine g_iret dX6_pay_63 rfl rfl ?_ ?_
            · (repeat' split) <;> first | rfl | (exfalso; omega) | (exfalso; simp_all; done) | (exfalso; simp_all; omega)
            · (repeat' split) <;> first | rfl | (exfalso; omega) | (exfalso; simp_all; done) | (exfalso; simp_all; omega)
        · refine g_bipush (-4) dX6_pay_47 rfl ?_
          refine g_iret dX6_pay_49 rfl rfl ?_ ?_
          · (repeat' split) <;> first | rfl | (exfalso; omega) | (exfalso; simp_all; done) | (exfalso; simp_all; omega)
          · (repeat' split) <;> first | rfl | (exfalso; omega) | (exfalso; simp_all; done) | (exfalso; simp_all; omega)
      · refine g_bipush (-2) dX6_pay_32 rfl ?_
        refine g_iret dX6_pay_34 rfl rfl ?_ ?_
        · (repeat' split) <;> first | rfl | (exfalso; omega) | (exfalso; simp_all; done) | (exfalso; simp_all; omega)
        · (repeat' split) <;> first | rfl | (exfalso; omega) | (exfalso; simp_all; done) | (exfalso; simp_all; omega)
  · refine g_aload_n 0 dX6_pay_5 rfl rfl ?_
    refine gf_X6_26 dX6_pay_6 ?_
    refine g_iload_n 3 dX6_pay_9 rfl rfl ?_
    refine ca_X6_115 dX6_pay_10 (t_X4_has) (by decide) (Nat.le_of_ble_eq_true rfl) ?_
    refine g_if_neb 18 dX6_pay_13 (by decide) (fun h13 => ?_) (fun h13 => ?_)
    · refine g_iload_n 1 dX6_pay_18 rfl rfl ?_
      refine ca_X6_51 dX6_pay_19 (t_X6_isDay) (by decide) (Nat.le_of_ble_eq_true rfl) ?_
      refine g_if_eqb 32 dX6_pay_22 (by decide) (fun h22 => ?_) (fun h22 => ?_)
      · refine g_bipush (-2) dX6_pay_32 rfl ?_
        refine g_iret dX6_pay_34 rfl rfl ?_ ?_
        · (repeat' split) <;> first | rfl | (exfalso; omega) | (exfalso; simp_all; done) | (exfalso; simp_all; omega)
        · (repeat' split) <;> first | rfl | (exfalso; omega) | (exfalso; simp_all; done) | (exfalso; simp_all; omega)
      · refine g_iload_n 2 dX6_pay_25 rfl rfl ?_
        refine ca_X6_110 dX6_pay_26 (t_X6_isCoins) (by decide) (Nat.le_of_ble_eq_true rfl) ?_
        refine g_if_neb 35 dX6_pay_29 (by decide) (fun h29 => ?_) (fun h29 => ?_)
        · refine g_aload_n 0 dX6_pay_35 rfl rfl ?_
          refine gf_X6_33 dX6_pay_36 ?_
          refine gf_X6_123 dX6_pay_39 ?_
          refine g_bipush 60 dX6_pay_42 rfl ?_
          refine g_icmp_lt 50 _ 60 dX6_pay_44 (by decide) rfl rfl (fun h44 => ?_) (fun h44 => ?_)
          · refine g_aload_n 0 dX6_pay_50 rfl rfl ?_
            refine gf_X6_26 dX6_pay_51 ?_
            refine g_iload_n 3 dX6_pay_54 rfl rfl ?_
            refine ca_X6_127 dX6_pay_55 (t_X4_wasUsed) (by decide) (Nat.le_of_ble_eq_true rfl) ?_
            refine g_if_eqb 64 dX6_pay_58 (by decide) (fun h58 => ?_) (fun h58 => ?_)
            · refine g_aload_n 0 dX6_pay_64 rfl rfl ?_
              refine gf_X6_33 dX6_pay_65 ?_
              refine gf_X6_123 dX6_pay_68 ?_
              rw [hci]
              refine g_istN dX6_pay_71 (by decide) rfl ?_
              refine g_aload_n 1 dX6_pay_73 rfl rfl ?_
              refine gf_X6_33 dX6_pay_74 ?_
              refine g_iload_n 2 dX6_pay_77 rfl rfl ?_
              refine g_iload_n 3 dX6_pay_78 rfl rfl ?_
              refine g_iconst 0 dX6_pay_79 rfl ?_
              refine g_iload_n 4 dX6_pay_80 rfl rfl ?_
              refine ca_X6_124 dX6_pay_81 (t_X1_add hci (by omega) (Or.inl rfl)) (by decide) (Nat.le_of_ble_eq_true rfl) ?_
              refine g_aload_n 1 dX6_pay_84 rfl rfl ?_
              refine gf_X6_26 dX6_pay_85 ?_
              refine g_iload_n 4 dX6_pay_88 rfl rfl ?_
              refine g_iload 0 dX6_pay_89 rfl ?_
              refine ca_X6_130 dX6_pay_91 (t_X4_use) (by decide) (Nat.le_of_ble_eq_true rfl) ?_
              refine g_aload_n 1 dX6_pay_94 rfl rfl ?_
              refine g_iconst 1 dX6_pay_95 rfl ?_
              refine pf_X6_67 dX6_pay_96 rfl rfl ?_
              refine g_iload 0 dX6_pay_99 rfl ?_
              refine g_iret dX6_pay_101 rfl rfl ?_ ?_
              · (repeat' split) <;> first | rfl | (exfalso; omega) | (exfalso; simp_all; done) | (exfalso; simp_all; omega)
              · (repeat' split) <;> first | rfl | (exfalso; omega) | (exfalso; simp_all; done) | (exfalso; simp_all; omega)
            · refine g_bipush (-5) dX6_pay_61 rfl ?_
              refine g_iret dX6_pay_63 rfl rfl ?_ ?_
              · (repeat' split) <;> first | rfl | (exfalso; omega) | (exfalso; simp_all; done) | (exfalso; simp_all; omega)
              · (repeat' split) <;> first | rfl | (exfalso; omega) | (exfalso; simp_all; done) | (exfalso; simp_all; omega)
          · refine g_bipush (-4) dX6_pay_47 rfl ?_
            refine g_iret dX6_pay_49 rfl rfl ?_ ?_
            · (repeat' split) <;> first | rfl | (exfalso; omega) | (exfalso; simp_all; done) | (exfalso; simp_all; omega)
            · (repeat' split) <;> first | rfl | (exfalso; omega) | (exfalso; simp_all; done) | (exfalso; simp_all; omega)
        · refine g_bipush (-2) dX6_pay_32 rfl ?_
          refine g_iret dX6_pay_34 rfl rfl ?_ ?_
          · (repeat' split) <;> first | rfl | (exfalso; omega) | (exfalso; simp_all; done) | (exfalso; simp_all; omega)
          · (repeat' split) <;> first | rfl | (exfalso; omega) | (exfalso; simp_all; done) | (exfalso; simp_all; omega)
    · refine g_iconst (-1) dX6_pay_16 rfl ?_
      refine g_iret dX6_pay_17 rfl rfl ?_ ?_
      · (repeat' split) <;> first | rfl | (exfalso; omega) | (exfalso; simp_all; done) | (exfalso; simp_all; omega)
      · (repeat' split) <;> first | rfl | (exfalso; omega) | (exfalso; simp_all; done) | (exfalso; simp_all; omega)
set_option maxRecDepth 20000 in
theorem t_X6_vouch {E : En} {w : W0} {ni : Nat} {i z : Int32} (hci : w 4 7 = nI ni) (hni : ni ≤ 60) (hz : z = 0 ∨ z = 1) (hb : hasI w i → w 28 i.toNatClampNeg = 0 ∨ w 28 i.toNatClampNeg = 1) : Mt E 2 yX6_vouch cX6_vouch 4 (some .int) [.ref (E.1 0), .int i, .int z] w (some (.int (if hasI w i then (if ¬ w 26 i.toNatClampNeg = 0 then -3 else w 28 i.toNatClampNeg) else -1))) (if hasI w i ∧ ¬ ¬ w 26 i.toNatClampNeg = 0 then setW (setW w 28 i.toNatClampNeg z) 0 6 1 else w) := by
  refine Mt.of (by decide +kernel) (Nat.le_of_ble_eq_true rfl) ?_
  show G E 2 RX6 cX6_vouch 4 (some .int) _ _ 0 [(0, .ref (E.1 0)), (1, .int i), (2, .int z)] [] w
  have hciI : (w 4 7).toInt = (ni : Int) := by rw [hci]; exact nI_toInt (by omega)
  refine g_aload_n 0 dX6_vouch_0 rfl rfl ?_
  refine gf_X6_33 dX6_vouch_1 ?_
  refine g_iload_n 1 dX6_vouch_4 rfl rfl ?_
  refine ca_X6_133 dX6_vouch_5 (t_X1_has) (by decide) (Nat.le_of_ble_eq_true rfl) ?_
  refine g_if_neb 13 dX6_vouch_8 (by decide) (fun h8 => ?_) (fun h8 => ?_)
  · refine g_aload_n 0 dX6_vouch_13 rfl rfl ?_
    refine gf_X6_33 dX6_vouch_14 ?_
    refine g_iload_n 1 dX6_vouch_17 rfl rfl ?_
    refine ca_X6_134 dX6_vouch_18 (t_X1_isReceipt) (by decide) (Nat.le_of_ble_eq_true rfl) ?_
    refine g_if_eqb 27 dX6_vouch_21 (by decide) (fun h21 => ?_) (fun h21 => ?_)
    · have h26 : w 26 i.toNatClampNeg = 0 := Decidable.of_not_not (fun z => h21 ⟨h8, z⟩)
      clear h21
      refine g_aload_n 0 dX6_vouch_27 rfl rfl ?_
      refine gf_X6_33 dX6_vouch_28 ?_
      refine g_iload_n 1 dX6_vouch_31 rfl rfl ?_
      refine g_iload_n 2 dX6_vouch_32 rfl rfl ?_
      refine ca_X6_137 dX6_vouch_33 (t_X1_setVoucher hci hni (nat_lt (by omega) (by omega)) (nI_back (by omega)) hz (hb h8)) (by decide) (Nat.le_of_ble_eq_true rfl) ?_
      refine g_istN_n dX6_vouch_36 rfl (by decide) rfl ?_
      refine g_aload_n 1 dX6_vouch_37 rfl rfl ?_
      refine g_iconst 1 dX6_vouch_38 rfl ?_
      refine pf_X6_67 dX6_vouch_39 rfl rfl ?_
      refine g_iload_n 0 dX6_vouch_42 rfl rfl ?_
      refine g_if_eq 50 dX6_vouch_43 (by decide) (fun h43 => ?_) (fun h43 => ?_)
      · refine g_iconst 0 dX6_vouch_50 rfl ?_
        refine g_iret dX6_vouch_51 rfl rfl ?_ ?_
        · rw [if_pos h8, if_neg (fun z => z h26)]; rcases hb h8 with hb1 | hb1 <;> first | (rw [hb1]; done) | exact absurd hb1 h43 | (rw [hb1] at h43; exact absurd h43 (by decide))
        · rw [if_pos ⟨h8, fun z => z h26⟩]
      · refine g_iconst 1 dX6_vouch_46 rfl ?_
        refine g_goto 51 dX6_vouch_47 (by decide) ?_
        refine g_iret dX6_vouch_51 rfl rfl ?_ ?_
        · rw [if_pos h8, if_neg (fun z => z h26)]; rcases hb h8 with hb1 | hb1 <;> first | (rw [hb1]; done) | exact absurd hb1 h43 | (rw [hb1] at h43; exact absurd h43 (by decide))
        · rw [if_pos ⟨h8, fun z => z h26⟩]
    · refine g_bipush (-3) dX6_vouch_24 rfl ?_
      refine g_iret dX6_vouch_26 rfl rfl ?_ ?_
      · (repeat' split) <;> first | rfl | (exfalso; omega) | (exfalso; simp_all; done) | (exfalso; simp_all; omega)
      · (repeat' split) <;> first | rfl | (exfalso; omega) | (exfalso; simp_all; done) | (exfalso; simp_all; omega)
  · refine g_iconst (-1) dX6_vouch_11 rfl ?_
    refine g_iret dX6_vouch_12 rfl rfl ?_ ?_
    · (repeat' split) <;> first | rfl | (exfalso; omega) | (exfalso; simp_all; done) | (exfalso; simp_all; omega)
    · (repeat' split) <;> first | rfl | (exfalso; omega) | (exfalso; simp_all; done) | (exfalso; simp_all; omega)
set_option maxRecDepth 20000 in
theorem t_X6_challenge {E : En} {w : W0} {ni : Nat} {i z : Int32} (hci : w 4 7 = nI ni) (hni : ni ≤ 60) (hz : z = 0 ∨ z = 1) (hb : hasI w i → w 29 i.toNatClampNeg = 0 ∨ w 29 i.toNatClampNeg = 1) : Mt E 2 yX6_challenge cX6_challenge 4 (some .int) [.ref (E.1 0), .int i, .int z] w (some (.int (if hasI w i then (if ¬ w 26 i.toNatClampNeg = 0 then -3 else w 29 i.toNatClampNeg) else -1))) (if hasI w i ∧ ¬ ¬ w 26 i.toNatClampNeg = 0 then setW (setW w 29 i.toNatClampNeg z) 0 6 1 else w) := by
  refine Mt.of (by decide +kernel) (Nat.le_of_ble_eq_true rfl) ?_
  show G E 2 RX6 cX6_challenge 4 (some .int) _ _ 0 [(0, .ref (E.1 0)), (1, .int i), (2, .int z)] [] w
  have hciI : (w 4 7).toInt = (ni : Int) := by rw [hci]; exact nI_toInt (by omega)
  refine g_aload_n 0 dX6_challenge_0 rfl rfl ?_
  refine gf_X6_33 dX6_challenge_1 ?_
  refine g_iload_n 1 dX6_challenge_4 rfl rfl ?_
  refine ca_X6_133 dX6_challenge_5 (t_X1_has) (by decide) (Nat.le_of_ble_eq_true rfl) ?_
  refine g_if_neb 13 dX6_challenge_8 (by decide) (fun h8 => ?_) (fun h8 => ?_)
  · refine g_aload_n 0 dX6_challenge_13 rfl rfl ?_
    refine gf_X6_33 dX6_challenge_14 ?_
    refine g_iload_n 1 dX6_challenge_17 rfl rfl ?_
    refine ca_X6_134 dX6_challenge_18 (t_X1_isReceipt) (by decide) (Nat.le_of_ble_eq_true rfl) ?_
    refine g_if_eqb 27 dX6_challenge_21 (by decide) (fun h21 => ?_) (fun h21 => ?_)
    · have h26 : w 26 i.toNatClampNeg = 0 := Decidable.of_not_not (fun z => h21 ⟨h8, z⟩)
      clear h21
      refine g_aload_n 0 dX6_challenge_27 rfl rfl ?_
      refine gf_X6_33 dX6_challenge_28 ?_
      refine g_iload_n 1 dX6_challenge_31 rfl rfl ?_
      refine g_iload_n 2 dX6_challenge_32 rfl rfl ?_
      refine ca_X6_141 dX6_challenge_33 (t_X1_setChallenge hci hni (nat_lt (by omega) (by omega)) (nI_back (by omega)) hz (hb h8)) (by decide) (Nat.le_of_ble_eq_true rfl) ?_
      refine g_istN_n dX6_challenge_36 rfl (by decide) rfl ?_
      refine g_aload_n 1 dX6_challenge_37 rfl rfl ?_
      refine g_iconst 1 dX6_challenge_38 rfl ?_
      refine pf_X6_67 dX6_challenge_39 rfl rfl ?_
      refine g_iload_n 0 dX6_challenge_42 rfl rfl ?_
      refine g_if_eq 50 dX6_challenge_43 (by decide) (fun h43 => ?_) (fun h43 => ?_)
      · refine g_iconst 0 dX6_challenge_50 rfl ?_
        refine g_iret dX6_challenge_51 rfl rfl ?_ ?_
        · rw [if_pos h8, if_neg (fun z => z h26)]; rcases hb h8 with hb1 | hb1 <;> first | (rw [hb1]; done) | exact absurd hb1 h43 | (rw [hb1] at h43; exact absurd h43 (by decide))
        · rw [if_pos ⟨h8, fun z => z h26⟩]
      · refine g_iconst 1 dX6_challenge_46 rfl ?_
        refine g_goto 51 dX6_challenge_47 (by decide) ?_
        refine g_iret dX6_challenge_51 rfl rfl ?_ ?_
        · rw [if_pos h8, if_neg (fun z => z h26)]; rcases hb h8 with hb1 | hb1 <;> first | (rw [hb1]; done) | exact absurd hb1 h43 | (rw [hb1] at h43; exact absurd h43 (by decide))
        · rw [if_pos ⟨h8, fun z => z h26⟩]
    · refine g_bipush (-3) dX6_challenge_24 rfl ?_
      refine g_iret dX6_challenge_26 rfl rfl ?_ ?_
      · (repeat' split) <;> first | rfl | (exfalso; omega) | (exfalso; simp_all; done) | (exfalso; simp_all; omega)
      · (repeat' split) <;> first | rfl | (exfalso; omega) | (exfalso; simp_all; done) | (exfalso; simp_all; omega)
  · refine g_iconst (-1) dX6_challenge_11 rfl ?_
    refine g_iret dX6_challenge_12 rfl rfl ?_ ?_
    · (repeat' split) <;> first | rfl | (exfalso; omega) | (exfalso; simp_all; done) | (exfalso; simp_all; omega)
    · (repeat' split) <;> first | rfl | (exfalso; omega) | (exfalso; simp_all; done) | (exfalso; simp_all; omega)
set_option maxRecDepth 20000 in
theorem t_X6_barred {E : En} {w : W0} {ni nl : Nat} {i : Int32} (hci : w 4 7 = nI ni) (hni : ni ≤ 60) (hcl : w 1 2 = nI nl) (hnl : nl ≤ 8) : Mt E 4 yX6_barred cX6_barred 2 (some .int) [.ref (E.1 0), .int i] w (some (.int (if hasI w i then barsF w nl i.toNatClampNeg else -1))) w := by
  refine Mt.of (by decide +kernel) (Nat.le_of_ble_eq_true rfl) ?_
  show G E 4 RX6 cX6_barred 2 (some .int) _ _ 0 [(0, .ref (E.1 0)), (1, .int i)] [] w
  have hciI : (w 4 7).toInt = (ni : Int) := by rw [hci]; exact nI_toInt (by omega)
  refine g_aload_n 0 dX6_barred_0 rfl rfl ?_
  refine gf_X6_33 dX6_barred_1 ?_
  refine g_iload_n 1 dX6_barred_4 rfl rfl ?_
  refine ca_X6_133 dX6_barred_5 (t_X1_has) (by decide) (Nat.le_of_ble_eq_true rfl) ?_
  refine g_if_neb 13 dX6_barred_8 (by decide) (fun h8 => ?_) (fun h8 => ?_)
  · refine g_aload_n 0 dX6_barred_13 rfl rfl ?_
    refine gf_X6_33 dX6_barred_14 ?_
    refine g_iload_n 1 dX6_barred_17 rfl rfl ?_
    refine g_aload_n 0 dX6_barred_18 rfl rfl ?_
    refine gf_X6_10 dX6_barred_19 ?_
    refine g_aload_n 0 dX6_barred_22 rfl rfl ?_
    refine gf_X6_26 dX6_barred_23 ?_
    refine ca_X6_144 dX6_barred_26 (t_X1_barsOf hci hni (nat_lt (by omega) (by omega)) (nI_back (by omega)) hcl hnl) (by decide) (Nat.le_of_ble_eq_true rfl) ?_
    refine g_iret dX6_barred_29 rfl rfl ?_ ?_
    · (repeat' split) <;> first | rfl | (exfalso; omega) | (exfalso; simp_all; done) | (exfalso; simp_all; omega)
    · (repeat' split) <;> first | rfl | (exfalso; omega) | (exfalso; simp_all; done) | (exfalso; simp_all; omega)
  · refine g_iconst (-1) dX6_barred_11 rfl ?_
    refine g_iret dX6_barred_12 rfl rfl ?_ ?_
    · (repeat' split) <;> first | rfl | (exfalso; omega) | (exfalso; simp_all; done) | (exfalso; simp_all; omega)
    · (repeat' split) <;> first | rfl | (exfalso; omega) | (exfalso; simp_all; done) | (exfalso; simp_all; omega)
def leaseW (w : W0) (n : Nat) (d y r l : Int32) : W0 := setW (setW (setW (setW (setW w 31 n d) 32 n y) 33 n r) 34 n l) 5 4 (nI (n + 1))
abbrev letP (d y r : Int32) : Prop := dayP d ∧ (1 ≤ y.toInt ∧ y.toInt ≤ 30) ∧ (1 ≤ r.toInt ∧ r.toInt ≤ 1000)
set_option maxRecDepth 20000 in
theorem t_X6_let {E : En} {w : W0} {ne : Nat} {d y r l : Int32} (hce : w 5 4 = nI ne) (hne : ne ≤ 10) : Mt E 3 yX6_let cX6_let 6 (some .int) [.ref (E.1 0), .int d, .int y, .int r, .int l] w (some (.int (if ¬ l = -1 ∧ ¬ hasL w l then -1 else if ¬ letP d y r then -2 else if 10 ≤ ne then -4 else if useC w l ≠ -6 then -5 else nI ne))) (if ¬ (¬ l = -1 ∧ ¬ hasL w l) ∧ letP d y r ∧ ¬ 10 ≤ ne ∧ ¬ useC w l ≠ -6 then useW (leaseW w ne d y r l) l (nI (100 + ne)) else w) := by
  refine Mt.of (by decide +kernel) (Nat.le_of_ble_eq_true rfl) ?_
  show G E 3 RX6 cX6_let 6 (some .int) _ _ 0 [(0, .ref (E.1 0)), (1, .int d), (2, .int y), (3, .int r), (4, .int l)] [] w
  have hceI : (w 5 4).toInt = (ne : Int) := by rw [hce]; exact nI_toInt (by omega)
  refine g_iload 4 dX6_let_0 rfl ?_
  refine g_iconst (-1) dX6_let_2 rfl ?_
  refine g_icmp_eq 20 dX6_let_3 (by decide) (fun h3 => ?_) (fun h3 => ?_)
  · refine g_iload_n 1 dX6_let_20 rfl rfl ?_
    refine ca_X6_51 dX6_let_21 (t_X6_isDay) (by decide) (Nat.le_of_ble_eq_true rfl) ?_
    refine g_if_eqb 48 dX6_let_24 (by decide) (fun h24 => ?_) (fun h24 => ?_)
    · refine g_bipush (-2) dX6_let_48 rfl ?_
      refine g_iret dX6_let_50 rfl rfl ?_ ?_
      · (repeat' split) <;> first | rfl | (exfalso; omega) | (exfalso; simp_all; done) | (exfalso; simp_all; omega)
      · (repeat' split) <;> first | rfl | (exfalso; omega) | (exfalso; simp_all; done) | (exfalso; simp_all; omega)
    · refine g_iload_n 2 dX6_let_27 rfl rfl ?_
      refine g_iconst 1 dX6_let_28 rfl ?_
      refine g_bipush 30 dX6_let_29 rfl ?_
      refine ca_X6_55 dX6_let_31 (t_X6_within 1 30 rfl rfl) (by decide) (Nat.le_of_ble_eq_true rfl) ?_
      refine g_if_eqb 48 dX6_let_34 (by decide) (fun h34 => ?_) (fun h34 => ?_)
      · refine g_bipush (-2) dX6_let_48 rfl ?_
        refine g_iret dX6_let_50 rfl rfl ?_ ?_
        · (repeat' split) <;> first | rfl | (exfalso; omega) | (exfalso; simp_all; done) | (exfalso; simp_all; omega)
        · (repeat' split) <;> first | rfl | (exfalso; omega) | (exfalso; simp_all; done) | (exfalso; simp_all; omega)
      · refine g_iload_n 3 dX6_let_37 rfl rfl ?_
        refine g_iconst 1 dX6_let_38 rfl ?_
        refine g_sipush 1000 dX6_let_39 rfl ?_
        refine ca_X6_55 dX6_let_42 (t_X6_within 1 1000 rfl rfl) (by decide) (Nat.le_of_ble_eq_true rfl) ?_
        refine g_if_neb 51 dX6_let_45 (by decide) (fun h45 => ?_) (fun h45 => ?_)
        · refine g_aload_n 0 dX6_let_51 rfl rfl ?_
          refine gf_X6_40 dX6_let_52 ?_
          refine gf_X6_148 dX6_let_55 ?_
          refine g_bipush 10 dX6_let_58 rfl ?_
          refine g_icmp_lt 66 _ 10 dX6_let_60 (by decide) rfl rfl (fun h60 => ?_) (fun h60 => ?_)
          · refine g_aload_n 0 dX6_let_66 rfl rfl ?_
            refine gf_X6_26 dX6_let_67 ?_
            refine g_iload 4 dX6_let_70 rfl ?_
            refine ca_X6_127 dX6_let_72 (t_X4_wasUsed) (by decide) (Nat.le_of_ble_eq_true rfl) ?_
            refine g_if_eqb 81 dX6_let_75 (by decide) (fun h75 => ?_) (fun h75 => ?_)
            · refine g_aload_n 0 dX6_let_81 rfl rfl ?_
              refine gf_X6_40 dX6_let_82 ?_
              refine gf_X6_148 dX6_let_85 ?_
              rw [hce]
              refine g_istN dX6_let_88 (by decide) rfl ?_
              refine g_aload_n 1 dX6_let_90 rfl rfl ?_
              refine gf_X6_40 dX6_let_91 ?_
              refine g_iload_n 2 dX6_let_94 rfl rfl ?_
              refine g_iload_n 3 dX6_let_95 rfl rfl ?_
              refine g_iload_n 4 dX6_let_96 rfl rfl ?_
              refine g_iload 5 dX6_let_97 rfl ?_
              refine ca_X6_149 dX6_let_99 (t_X3_add hce (by omega)) (by decide) (Nat.le_of_ble_eq_true rfl) ?_
              refine g_aload_n 1 dX6_let_102 rfl rfl ?_
              refine gf_X6_26 dX6_let_103 ?_
              refine g_iload 5 dX6_let_106 rfl ?_
              refine g_bipush 100 dX6_let_108 rfl ?_
              refine g_iload 0 dX6_let_110 rfl ?_
              refine g_iadd dX6_let_112 ?_
              rw [show (100 : Int32) + nI ne = nI (100 + ne) from nI_add 100 ne]
              refine ca_X6_130 dX6_let_113 (t_X4_use) (by decide) (Nat.le_of_ble_eq_true rfl) ?_
              refine g_iload 0 dX6_let_116 rfl ?_
              refine g_iret dX6_let_118 rfl rfl ?_ ?_
              · (repeat' split) <;> first | rfl | (exfalso; omega) | (exfalso; simp_all; done) | (exfalso; simp_all; omega)
              · (repeat' split) <;> first | rfl | (exfalso; omega) | (exfalso; simp_all; done) | (exfalso; simp_all; omega)
            · refine g_bipush (-5) dX6_let_78 rfl ?_
              refine g_iret dX6_let_80 rfl rfl ?_ ?_
              · (repeat' split) <;> first | rfl | (exfalso; omega) | (exfalso; simp_all; done) | (exfalso; simp_all; omega)
              · (repeat' split) <;> first | rfl | (exfalso; omega) | (exfalso; simp_all; done) | (exfalso; simp_all; omega)
          · refine g_bipush (-4) dX6_let_63 rfl ?_
            refine g_iret dX6_let_65 rfl rfl ?_ ?_
            · (repeat' split) <;> first | rfl | (exfalso; omega) | (exfalso; simp_all; done) | (exfalso; simp_all; omega)
            · (repeat' split) <;> first | rfl | (exfalso; omega) | (exfalso; simp_all; done) | (exfalso; simp_all; omega)
        · refine g_bipush (-2) dX6_let_48 rfl ?_
          refine g_iret dX6_let_50 rfl rfl ?_ ?_
          · (repeat' split) <;> first | rfl | (exfalso; omega) | (exfalso; simp_all; done) | (exfalso; simp_all; omega)
          · (repeat' split) <;> first | rfl | (exfalso; omega) | (exfalso; simp_all; done) | (exfalso; simp_all; omega)
  · refine g_aload_n 0 dX6_let_6 rfl rfl ?_
    refine gf_X6_26 dX6_let_7 ?_
    refine g_iload 4 dX6_let_10 rfl ?_
    refine ca_X6_115 dX6_let_12 (t_X4_has) (by decide) (Nat.le_of_ble_eq_true rfl) ?_
    refine g_if_neb 20 dX6_let_15 (by decide) (fun h15 => ?_) (fun h15 => ?_)
    · refine g_iload_n 1 dX6_let_20 rfl rfl ?_
      refine ca_X6_51 dX6_let_21 (t_X6_isDay) (by decide) (Nat.le_of_ble_eq_true rfl) ?_
      refine g_if_eqb 48 dX6_let_24 (by decide) (fun h24 => ?_) (fun h24 => ?_)
      · refine g_bipush (-2) dX6_let_48 rfl ?_
        refine g_iret dX6_let_50 rfl rfl ?_ ?_
        · (repeat' split) <;> first | rfl | (exfalso; omega) | (exfalso; simp_all; done) | (exfalso; simp_all; omega)
        · (repeat' split) <;> first | rfl | (exfalso; omega) | (exfalso; simp_all; done) | (exfalso; simp_all; omega)
      · refine g_iload_n 2 dX6_let_27 rfl rfl ?_
        refine g_iconst 1 dX6_let_28 rfl ?_
        refine g_bipush 30 dX6_let_29 rfl ?_
        refine ca_X6_55 dX6_let_31 (t_X6_within 1 30 rfl rfl) (by decide) (Nat.le_of_ble_eq_true rfl) ?_
        refine g_if_eqb 48 dX6_let_34 (by decide) (fun h34 => ?_) (fun h34 => ?_)
        · refine g_bipush (-2) dX6_let_48 rfl ?_
          refine g_iret dX6_let_50 rfl rfl ?_ ?_
          · (repeat' split) <;> first | rfl | (exfalso; omega) | (exfalso; simp_all; done) | (exfalso; simp_all; omega)
          · (repeat' split) <;> first | rfl | (exfalso; omega) | (exfalso; simp_all; done) | (exfalso; simp_all; omega)
        · refine g_iload_n 3 dX6_let_37 rfl rfl ?_
          refine g_iconst 1 dX6_let_38 rfl ?_
          refine g_sipush 1000 dX6_let_39 rfl ?_
          refine ca_X6_55 dX6_let_42 (t_X6_within 1 1000 rfl rfl) (by decide) (Nat.le_of_ble_eq_true rfl) ?_
          refine g_if_neb 51 dX6_let_45 (by decide) (fun h45 => ?_) (fun h45 => ?_)
          · refine g_aload_n 0 dX6_let_51 rfl rfl ?_
            refine gf_X6_40 dX6_let_52 ?_
            refine gf_X6_148 dX6_let_55 ?_
            refine g_bipush 10 dX6_let_58 rfl ?_
            refine g_icmp_lt 66 _ 10 dX6_let_60 (by decide) rfl rfl (fun h60 => ?_) (fun h60 => ?_)
            · refine g_aload_n 0 dX6_let_66 rfl rfl ?_
              refine gf_X6_26 dX6_let_67 ?_
              refine g_iload 4 dX6_let_70 rfl ?_
              refine ca_X6_127 dX6_let_72 (t_X4_wasUsed) (by decide) (Nat.le_of_ble_eq_true rfl) ?_
              refine g_if_eqb 81 dX6_let_75 (by decide) (fun h75 => ?_) (fun h75 => ?_)
              · refine g_aload_n 0 dX6_let_81 rfl rfl ?_
                refine gf_X6_40 dX6_let_82 ?_
                refine gf_X6_148 dX6_let_85 ?_
                rw [hce]
                refine g_istN dX6_let_88 (by decide) rfl ?_
                refine g_aload_n 1 dX6_let_90 rfl rfl ?_
                refine gf_X6_40 dX6_let_91 ?_
                refine g_iload_n 2 dX6_let_94 rfl rfl ?_
                refine g_iload_n 3 dX6_let_95 rfl rfl ?_
                refine g_iload_n 4 dX6_let_96 rfl rfl ?_
                refine g_iload 5 dX6_let_97 rfl ?_
                refine ca_X6_149 dX6_let_99 (t_X3_add hce (by omega)) (by decide) (Nat.le_of_ble_eq_true rfl) ?_
                refine g_aload_n 1 dX6_let_102 rfl rfl ?_
                refine gf_X6_26 dX6_let_103 ?_
                refine g_iload 5 dX6_let_106 rfl ?_
                refine g_bipush 100 dX6_let_108 rfl ?_
                refine g_iload 0 dX6_let_110 rfl ?_
                refine g_iadd dX6_let_112 ?_
                rw [show (100 : Int32) + nI ne = nI (100 + ne) from nI_add 100 ne]
                refine ca_X6_130 dX6_let_113 (t_X4_use) (by decide) (Nat.le_of_ble_eq_true rfl) ?_
                refine g_iload 0 dX6_let_116 rfl ?_
                refine g_iret dX6_let_118 rfl rfl ?_ ?_
                · (repeat' split) <;> first | rfl | (exfalso; omega) | (exfalso; simp_all; done) | (exfalso; simp_all; omega)
                · (repeat' split) <;> first | rfl | (exfalso; omega) | (exfalso; simp_all; done) | (exfalso; simp_all; omega)
              · refine g_bipush (-5) dX6_let_78 rfl ?_
                refine g_iret dX6_let_80 rfl rfl ?_ ?_
                · (repeat' split) <;> first | rfl | (exfalso; omega) | (exfalso; simp_all; done) | (exfalso; simp_all; omega)
                · (repeat' split) <;> first | rfl | (exfalso; omega) | (exfalso; simp_all; done) | (exfalso; simp_all; omega)
            · refine g_bipush (-4) dX6_let_63 rfl ?_
              refine g_iret dX6_let_65 rfl rfl ?_ ?_
              · (repeat' split) <;> first | rfl | (exfalso; omega) | (exfalso; simp_all; done) | (exfalso; simp_all; omega)
              · (repeat' split) <;> first | rfl | (exfalso; omega) | (exfalso; simp_all; done) | (exfalso; simp_all; omega)
          · refine g_bipush (-2) dX6_let_48 rfl ?_
            refine g_iret dX6_let_50 rfl rfl ?_ ?_
            · (repeat' split) <;> first | rfl | (exfalso; omega) | (exfalso; simp_all; done) | (exfalso; simp_all; omega)
            · (repeat' split) <;> first | rfl | (exfalso; omega) | (exfalso; simp_all; done) | (exfalso; simp_all; omega)
    · refine g_iconst (-1) dX6_let_18 rfl ?_
      refine g_iret dX6_let_19 rfl rfl ?_ ?_
      · (repeat' split) <;> first | rfl | (exfalso; omega) | (exfalso; simp_all; done) | (exfalso; simp_all; omega)
      · (repeat' split) <;> first | rfl | (exfalso; omega) | (exfalso; simp_all; done) | (exfalso; simp_all; omega)
set_option maxRecDepth 20000 in
theorem t_X6_isVoid {E : En} {w : W0} {ne nl : Nat} {i : Int32} (hce : w 5 4 = nI ne) (hne : ne ≤ 10) (hcl : w 1 2 = nI nl) (hnl : nl ≤ 8) : Mt E 4 yX6_isVoid cX6_isVoid 2 (some .int) [.ref (E.1 0), .int i] w (some (.int (if hasE w i then flawF w nl i.toNatClampNeg else -1))) w := by
  refine Mt.of (by decide +kernel) (Nat.le_of_ble_eq_true rfl) ?_
  show G E 4 RX6 cX6_isVoid 2 (some .int) _ _ 0 [(0, .ref (E.1 0)), (1, .int i)] [] w
  have hceI : (w 5 4).toInt = (ne : Int) := by rw [hce]; exact nI_toInt (by omega)
  refine g_aload_n 0 dX6_isVoid_0 rfl rfl ?_
  refine gf_X6_40 dX6_isVoid_1 ?_
  refine g_iload_n 1 dX6_isVoid_4 rfl rfl ?_
  refine ca_X6_122 dX6_isVoid_5 (t_X3_has) (by decide) (Nat.le_of_ble_eq_true rfl) ?_
  refine g_if_neb 13 dX6_isVoid_8 (by decide) (fun h8 => ?_) (fun h8 => ?_)
  · refine g_aload_n 0 dX6_isVoid_13 rfl rfl ?_
    refine gf_X6_40 dX6_isVoid_14 ?_
    refine g_iload_n 1 dX6_isVoid_17 rfl rfl ?_
    refine g_aload_n 0 dX6_isVoid_18 rfl rfl ?_
    refine gf_X6_10 dX6_isVoid_19 ?_
    refine g_aload_n 0 dX6_isVoid_22 rfl rfl ?_
    refine gf_X6_26 dX6_isVoid_23 ?_
    refine ca_X6_152 dX6_isVoid_26 (t_X3_flawsOf hce hne (nat_lt (by omega) (by omega)) (nI_back (by omega)) hcl hnl) (by decide) (Nat.le_of_ble_eq_true rfl) ?_
    refine g_iret dX6_isVoid_29 rfl rfl ?_ ?_
    · (repeat' split) <;> first | rfl | (exfalso; omega) | (exfalso; simp_all; done) | (exfalso; simp_all; omega)
    · (repeat' split) <;> first | rfl | (exfalso; omega) | (exfalso; simp_all; done) | (exfalso; simp_all; omega)
  · refine g_iconst (-1) dX6_isVoid_11 rfl ?_
    refine g_iret dX6_isVoid_12 rfl rfl ?_ ?_
    · (repeat' split) <;> first | rfl | (exfalso; omega) | (exfalso; simp_all; done) | (exfalso; simp_all; omega)
    · (repeat' split) <;> first | rfl | (exfalso; omega) | (exfalso; simp_all; done) | (exfalso; simp_all; omega)
set_option maxRecDepth 20000 in
theorem t_X6_arrears {E : En} {w : W0} {ne nl ni : Nat} {i day : Int32} (hce : w 5 4 = nI ne) (hne : ne ≤ 10) (hcl : w 1 2 = nI nl) (hnl : nl ≤ 8) (hci : w 4 7 = nI ni) (hni : ni ≤ 60) : Mt E 4 yX6_arrears cX6_arrears 5 (some .int) [.ref (E.1 0), .int i, .int day] w (some (.int (if hasE w i then (if dayP day then (if flawF w nl i.toNatClampNeg = 0 then dueF w i.toNatClampNeg day else 0) - hadF (w 26) (w 27) (w 24) (w 25) i day ni else -100000002) else -100000001))) w := by
  refine Mt.of (by decide +kernel) (Nat.le_of_ble_eq_true rfl) ?_
  show G E 4 RX6 cX6_arrears 5 (some .int) _ _ 0 [(0, .ref (E.1 0)), (1, .int i), (2, .int day)] [] w
  have hceI : (w 5 4).toInt = (ne : Int) := by rw [hce]; exact nI_toInt (by omega)
  refine g_aload_n 0 dX6_arrears_0 rfl rfl ?_
  refine gf_X6_40 dX6_arrears_1 ?_
  refine g_iload_n 1 dX6_arrears_4 rfl rfl ?_
  refine ca_X6_122 dX6_arrears_5 (t_X3_has) (by decide) (Nat.le_of_ble_eq_true rfl) ?_
  refine g_if_neb 14 dX6_arrears_8 (by decide) (fun h8 => ?_) (fun h8 => ?_)
  · refine g_iload_n 2 dX6_arrears_14 rfl rfl ?_
    refine ca_X6_51 dX6_arrears_15 (t_X6_isDay) (by decide) (Nat.le_of_ble_eq_true rfl) ?_
    refine g_if_neb 24 dX6_arrears_18 (by decide) (fun h18 => ?_) (fun h18 => ?_)
    · refine g_aload_n 0 dX6_arrears_24 rfl rfl ?_
      refine gf_X6_40 dX6_arrears_25 ?_
      refine g_iload_n 1 dX6_arrears_28 rfl rfl ?_
      refine g_aload_n 0 dX6_arrears_29 rfl rfl ?_
      refine gf_X6_10 dX6_arrears_30 ?_
      refine g_aload_n 0 dX6_arrears_33 rfl rfl ?_
      refine gf_X6_26 dX6_arrears_34 ?_
      refine ca_X6_152 dX6_arrears_37 (t_X3_flawsOf hce hne (nat_lt (by omega) (by omega)) (nI_back (by omega)) hcl hnl) (by decide) (Nat.le_of_ble_eq_true rfl) ?_
      refine g_if_ne 47 dX6_arrears_40 (by decide) (fun h40 => ?_) (fun h40 => ?_)
      · refine g_iconst 0 dX6_arrears_47 rfl ?_
        refine g_istN_n dX6_arrears_48 rfl (by decide) rfl ?_
        refine g_iload_n 0 dX6_arrears_49 rfl rfl ?_
        refine g_if_eq 65 dX6_arrears_50 (by decide) (fun h50 => ?_) (fun h50 => False.elim (by exact absurd h50 (by decide)))
        refine g_iconst 0 dX6_arrears_65 rfl ?_
        refine g_istN dX6_arrears_66 (by decide) rfl ?_
        refine g_iload 0 dX6_arrears_68 rfl ?_
        refine g_aload_n 2 dX6_arrears_70 rfl rfl ?_
        refine gf_X6_33 dX6_arrears_71 ?_
        refine g_iload_n 3 dX6_arrears_74 rfl rfl ?_
        refine g_iload_n 4 dX6_arrears_75 rfl rfl ?_
        refine ca_X6_158 dX6_arrears_76 (t_X1_hadOf hci hni) (by decide) (Nat.le_of_ble_eq_true rfl) ?_
        refine g_isub dX6_arrears_79 ?_
        refine g_iret dX6_arrears_80 rfl rfl ?_ ?_
        · (repeat' split) <;> first | rfl | (exfalso; omega) | (exfalso; simp_all; done) | (exfalso; simp_all; omega)
        · (repeat' split) <;> first | rfl | (exfalso; omega) | (exfalso; simp_all; done) | (exfalso; simp_all; omega)
      · refine g_iconst 1 dX6_arrears_43 rfl ?_
        refine g_goto 48 dX6_arrears_44 (by decide) ?_
        refine g_istN_n dX6_arrears_48 rfl (by decide) rfl ?_
        refine g_iload_n 0 dX6_arrears_49 rfl rfl ?_
        refine g_if_eq 65 dX6_arrears_50 (by decide) (fun h50 => False.elim (by exact absurd h50 (by decide))) (fun h50 => ?_)
        refine g_aload_n 1 dX6_arrears_53 rfl rfl ?_
        refine gf_X6_40 dX6_arrears_54 ?_
        refine g_iload_n 2 dX6_arrears_57 rfl rfl ?_
        refine g_iload_n 3 dX6_arrears_58 rfl rfl ?_
        refine ca_X6_155 dX6_arrears_59 (t_X3_dueBy hce hne (nat_lt (by omega) (by omega)) (nI_back (by omega))) (by decide) (Nat.le_of_ble_eq_true rfl) ?_
        refine g_goto 66 dX6_arrears_62 (by decide) ?_
        refine g_istN dX6_arrears_66 (by decide) rfl ?_
        refine g_iload 0 dX6_arrears_68 rfl ?_
        refine g_aload_n 2 dX6_arrears_70 rfl rfl ?_
        refine gf_X6_33 dX6_arrears_71 ?_
        refine g_iload_n 3 dX6_arrears_74 rfl rfl ?_
        refine g_iload_n 4 dX6_arrears_75 rfl rfl ?_
        refine ca_X6_158 dX6_arrears_76 (t_X1_hadOf hci hni) (by decide) (Nat.le_of_ble_eq_true rfl) ?_
        refine g_isub dX6_arrears_79 ?_
        refine g_iret dX6_arrears_80 rfl rfl ?_ ?_
        · (repeat' split) <;> first | rfl | (exfalso; omega) | (exfalso; simp_all; done) | (exfalso; simp_all; omega)
        · (repeat' split) <;> first | rfl | (exfalso; omega) | (exfalso; simp_all; done) | (exfalso; simp_all; omega)
    · refine g_ldc (-100000002) dX6_arrears_21 lk_X6_106 ?_
      refine g_iret dX6_arrears_23 rfl rfl ?_ ?_
      · (repeat' split) <;> first | rfl | (exfalso; omega) | (exfalso; simp_all; done) | (exfalso; simp_all; omega)
      · (repeat' split) <;> first | rfl | (exfalso; omega) | (exfalso; simp_all; done) | (exfalso; simp_all; omega)
  · refine g_ldc (-100000001) dX6_arrears_11 lk_X6_93 ?_
    refine g_iret dX6_arrears_13 rfl rfl ?_ ?_
    · (repeat' split) <;> first | rfl | (exfalso; omega) | (exfalso; simp_all; done) | (exfalso; simp_all; omega)
    · (repeat' split) <;> first | rfl | (exfalso; omega) | (exfalso; simp_all; done) | (exfalso; simp_all; omega)
set_option maxRecDepth 20000 in
theorem t_X6_pot {E : En} {w : W0} {nl nw ni : Nat} (hcl : w 1 2 = nI nl) (hnl : nl ≤ 8) (hcw : w 2 5 = nI nw) (hnw : nw ≤ 6) (hci : w 4 7 = nI ni) (hni : ni ≤ 60) {day : Int32} : Mt E 7 yX6_pot cX6_pot 2 (some .int) [.ref (E.1 0), .int day] w (some (.int (if dayP day then potF (setlW w nl nw ni) nw ni day.toNatClampNeg else -100000002))) (if dayP day then setlW w nl nw ni else w) := by
  refine Mt.of (by decide +kernel) (Nat.le_of_ble_eq_true rfl) ?_
  show G E 7 RX6 cX6_pot 2 (some .int) _ _ 0 [(0, .ref (E.1 0)), (1, .int day)] [] w
  refine g_iload_n 1 dX6_pot_0 rfl rfl ?_
  refine ca_X6_51 dX6_pot_1 (t_X6_isDay) (by decide) (Nat.le_of_ble_eq_true rfl) ?_
  refine g_if_neb 10 dX6_pot_4 (by decide) (fun h4 => ?_) (fun h4 => ?_)
  · refine g_aload_n 0 dX6_pot_10 rfl rfl ?_
    refine ca_X6_94 dX6_pot_11 (t_X6_settle hcl hnl hcw hnw hci hni) (by decide) (Nat.le_of_ble_eq_true rfl) ?_
    refine g_aload_n 0 dX6_pot_14 rfl rfl ?_
    refine gf_X6_47 dX6_pot_15 ?_
    refine g_iload_n 1 dX6_pot_18 rfl rfl ?_
    refine g_aload_n 0 dX6_pot_19 rfl rfl ?_
    refine gf_X6_19 dX6_pot_20 ?_
    refine g_aload_n 0 dX6_pot_23 rfl rfl ?_
    refine gf_X6_33 dX6_pot_24 ?_
    refine ca_X6_161 dX6_pot_27 (t_X0_potAfter (by rw [setlW_ne (by decide)]; exact hcw) hnw (by rw [setlW_ne (by decide)]; exact hci) hni (nat_lt (by omega) (by omega)) (nI_back (by omega))) (by decide) (Nat.le_of_ble_eq_true rfl) ?_
    refine g_iret dX6_pot_30 rfl rfl ?_ ?_
    · (repeat' split) <;> first | rfl | (exfalso; omega) | (exfalso; simp_all; done) | (exfalso; simp_all; omega)
    · (repeat' split) <;> first | rfl | (exfalso; omega) | (exfalso; simp_all; done) | (exfalso; simp_all; omega)
  · refine g_ldc (-100000002) dX6_pot_7 lk_X6_106 ?_
    refine g_iret dX6_pot_9 rfl rfl ?_ ?_
    · (repeat' split) <;> first | rfl | (exfalso; omega) | (exfalso; simp_all; done) | (exfalso; simp_all; omega)
    · (repeat' split) <;> first | rfl | (exfalso; omega) | (exfalso; simp_all; done) | (exfalso; simp_all; omega)
set_option maxRecDepth 20000 in
theorem t_X6_account {E : En} {w : W0} {nl nw ni : Nat} (hcl : w 1 2 = nI nl) (hnl : nl ≤ 8) (hcw : w 2 5 = nI nw) (hnw : nw ≤ 6) (hci : w 4 7 = nI ni) (hni : ni ≤ 60) {y z : Int32} : Mt E 7 yX6_account cX6_account 3 (some .int) [.ref (E.1 0), .int y, .int z] w (some (.int (if yearP y then (if 0 ≤ z.toInt ∧ z.toInt ≤ 5 then setlW w nl nw ni (36 + y.toNatClampNeg) z.toNatClampNeg else -100000002) else -100000001))) (if yearP y ∧ (0 ≤ z.toInt ∧ z.toInt ≤ 5) then setlW w nl nw ni else w) := by
  refine Mt.of (by decide +kernel) (Nat.le_of_ble_eq_true rfl) ?_
  show G E 7 RX6 cX6_account 3 (some .int) _ _ 0 [(0, .ref (E.1 0)), (1, .int y), (2, .int z)] [] w
  refine g_iload_n 1 dX6_account_0 rfl rfl ?_
  refine ca_X6_165 dX6_account_1 (t_X6_isYear) (by decide) (Nat.le_of_ble_eq_true rfl) ?_
  refine g_if_neb 10 dX6_account_4 (by decide) (fun h4 => ?_) (fun h4 => ?_)
  · refine g_iload_n 2 dX6_account_10 rfl rfl ?_
    refine g_iconst 0 dX6_account_11 rfl ?_
    refine g_iconst 5 dX6_account_12 rfl ?_
    refine ca_X6_55 dX6_account_13 (t_X6_within 0 5 rfl rfl) (by decide) (Nat.le_of_ble_eq_true rfl) ?_
    refine g_if_neb 22 dX6_account_16 (by decide) (fun h16 => ?_) (fun h16 => ?_)
    · refine g_aload_n 0 dX6_account_22 rfl rfl ?_
      refine ca_X6_94 dX6_account_23 (t_X6_settle hcl hnl hcw hnw hci hni) (by decide) (Nat.le_of_ble_eq_true rfl) ?_
      refine g_aload_n 0 dX6_account_26 rfl rfl ?_
      refine gf_X6_47 dX6_account_27 ?_
      refine g_iload_n 1 dX6_account_30 rfl rfl ?_
      refine g_iload_n 2 dX6_account_31 rfl rfl ?_
      refine ca_X6_168 dX6_account_32 (t_X0_entry (nat_lt (by omega) (by omega)) (nI_back (by omega)) (toNat_back (by omega)) (nat_lt (by omega) (by omega))) (by decide) (Nat.le_of_ble_eq_true rfl) ?_
      refine g_iret dX6_account_35 rfl rfl ?_ ?_
      · (repeat' split) <;> first | rfl | (exfalso; omega) | (exfalso; simp_all; done) | (exfalso; simp_all; omega)
      · (repeat' split) <;> first | rfl | (exfalso; omega) | (exfalso; simp_all; done) | (exfalso; simp_all; omega)
    · refine g_ldc (-100000002) dX6_account_19 lk_X6_106 ?_
      refine g_iret dX6_account_21 rfl rfl ?_ ?_
      · (repeat' split) <;> first | rfl | (exfalso; omega) | (exfalso; simp_all; done) | (exfalso; simp_all; omega)
      · (repeat' split) <;> first | rfl | (exfalso; omega) | (exfalso; simp_all; done) | (exfalso; simp_all; omega)
  · refine g_ldc (-100000001) dX6_account_7 lk_X6_93 ?_
    refine g_iret dX6_account_9 rfl rfl ?_ ?_
    · (repeat' split) <;> first | rfl | (exfalso; omega) | (exfalso; simp_all; done) | (exfalso; simp_all; omega)
    · (repeat' split) <;> first | rfl | (exfalso; omega) | (exfalso; simp_all; done) | (exfalso; simp_all; omega)
theorem keepW_row {w : W0} {y p : Nat} (hy : y < 10) : keepW w y (36 + y) p = w (36 + y) p := by
  unfold keepW keptW
  rw [setW_ne (by omega), setA_ne (by omega)]
set_option maxRecDepth 20000 in
theorem t_X6_pass {E : En} {w : W0} {nl nw ni : Nat} (hcl : w 1 2 = nI nl) (hnl : nl ≤ 8) (hcw : w 2 5 = nI nw) (hnw : nw ≤ 6) (hci : w 4 7 = nI ni) (hni : ni ≤ 60) {y : Int32} : Mt E 7 yX6_pass cX6_pass 2 (some .int) [.ref (E.1 0), .int y] w (some (.int (if yearP y then setlW w nl nw ni (36 + y.toNatClampNeg) 5 else -100000001))) (if yearP y then keepW (setlW w nl nw ni) y.toNatClampNeg else w) := by
  refine Mt.of (by decide +kernel) (Nat.le_of_ble_eq_true rfl) ?_
  show G E 7 RX6 cX6_pass 2 (some .int) _ _ 0 [(0, .ref (E.1 0)), (1, .int y)] [] w
  refine g_iload_n 1 dX6_pass_0 rfl rfl ?_
  refine ca_X6_165 dX6_pass_1 (t_X6_isYear) (by decide) (Nat.le_of_ble_eq_true rfl) ?_
  refine g_if_neb 10 dX6_pass_4 (by decide) (fun h4 => ?_) (fun h4 => ?_)
  · refine g_aload_n 0 dX6_pass_10 rfl rfl ?_
    refine ca_X6_94 dX6_pass_11 (t_X6_settle hcl hnl hcw hnw hci hni) (by decide) (Nat.le_of_ble_eq_true rfl) ?_
    refine g_aload_n 0 dX6_pass_14 rfl rfl ?_
    refine gf_X6_47 dX6_pass_15 ?_
    refine g_iload_n 1 dX6_pass_18 rfl rfl ?_
    refine ca_X6_171 dX6_pass_19 (t_X0_keep (nat_lt (by omega) (by omega)) (nI_back (by omega))) (by decide) (Nat.le_of_ble_eq_true rfl) ?_
    refine g_aload_n 0 dX6_pass_22 rfl rfl ?_
    refine gf_X6_47 dX6_pass_23 ?_
    refine g_iload_n 1 dX6_pass_26 rfl rfl ?_
    refine g_iconst 5 dX6_pass_27 rfl ?_
    refine ca_X6_168 dX6_pass_28 (t_X0_entry (p := 5) (nat_lt (by omega) (by omega)) (nI_back (by omega)) rfl (by decide)) (by decide) (Nat.le_of_ble_eq_true rfl) ?_
    refine g_iret dX6_pass_31 rfl rfl ?_ ?_
    · (try rw [keepW_row (nat_lt (n := 10) (by omega) (by omega))]); (repeat' split) <;> first | rfl | (exfalso; omega) | (exfalso; simp_all; done) | (exfalso; simp_all; omega)
    · (repeat' split) <;> first | rfl | (exfalso; omega) | (exfalso; simp_all; done) | (exfalso; simp_all; omega)
  · refine g_ldc (-100000001) dX6_pass_7 lk_X6_93 ?_
    refine g_iret dX6_pass_9 rfl rfl ?_ ?_
    · (try rw [keepW_row (nat_lt (n := 10) (by omega) (by omega))]); (repeat' split) <;> first | rfl | (exfalso; omega) | (exfalso; simp_all; done) | (exfalso; simp_all; omega)
    · (repeat' split) <;> first | rfl | (exfalso; omega) | (exfalso; simp_all; done) | (exfalso; simp_all; omega)
set_option maxRecDepth 20000 in
theorem t_X6_passed {E : En} {w : W0} {y z : Int32} : Mt E 3 yX6_passed cX6_passed 3 (some .int) [.ref (E.1 0), .int y, .int z] w (some (.int (if yearP y then (if 0 ≤ z.toInt ∧ z.toInt ≤ 5 then (if ¬ (w 6 2 >>> (y &&& 31)) &&& 1 = 0 then w (47 + y.toNatClampNeg) z.toNatClampNeg else -100000003) else -100000002) else -100000001))) w := by
  refine Mt.of (by decide +kernel) (Nat.le_of_ble_eq_true rfl) ?_
  show G E 3 RX6 cX6_passed 3 (some .int) _ _ 0 [(0, .ref (E.1 0)), (1, .int y), (2, .int z)] [] w
  refine g_iload_n 1 dX6_passed_0 rfl rfl ?_
  refine ca_X6_165 dX6_passed_1 (t_X6_isYear) (by decide) (Nat.le_of_ble_eq_true rfl) ?_
  refine g_if_neb 10 dX6_passed_4 (by decide) (fun h4 => ?_) (fun h4 => ?_)
  · refine g_iload_n 2 dX6_passed_10 rfl rfl ?_
    refine g_iconst 0 dX6_passed_11 rfl ?_
    refine g_iconst 5 dX6_passed_12 rfl ?_
    refine ca_X6_55 dX6_passed_13 (t_X6_within 0 5 rfl rfl) (by decide) (Nat.le_of_ble_eq_true rfl) ?_
    refine g_if_neb 22 dX6_passed_16 (by decide) (fun h16 => ?_) (fun h16 => ?_)
    · refine g_aload_n 0 dX6_passed_22 rfl rfl ?_
      refine gf_X6_47 dX6_passed_23 ?_
      refine g_iload_n 1 dX6_passed_26 rfl rfl ?_
      refine ca_X6_174 dX6_passed_27 (t_X0_wasKept (nat_lt (by omega) (by omega)) (nI_back (by omega))) (by decide) (Nat.le_of_ble_eq_true rfl) ?_
      refine g_if_neb 36 dX6_passed_30 (by decide) (fun h30 => ?_) (fun h30 => ?_)
      · refine g_aload_n 0 dX6_passed_36 rfl rfl ?_
        refine gf_X6_47 dX6_passed_37 ?_
        refine g_iload_n 1 dX6_passed_40 rfl rfl ?_
        refine g_iload_n 2 dX6_passed_41 rfl rfl ?_
        refine ca_X6_178 dX6_passed_42 (t_X0_keptEntry (nat_lt (by omega) (by omega)) (nI_back (by omega)) (toNat_back (by omega)) (nat_lt (by omega) (by omega))) (by decide) (Nat.le_of_ble_eq_true rfl) ?_
        refine g_iret dX6_passed_45 rfl rfl ?_ ?_
        · (repeat' split) <;> first | rfl | (exfalso; omega) | (exfalso; simp_all; done) | (exfalso; simp_all; omega)
        · (repeat' split) <;> first | rfl | (exfalso; omega) | (exfalso; simp_all; done) | (exfalso; simp_all; omega)
      · refine g_ldc (-100000003) dX6_passed_33 lk_X6_177 ?_
        refine g_iret dX6_passed_35 rfl rfl ?_ ?_
        · (repeat' split) <;> first | rfl | (exfalso; omega) | (exfalso; simp_all; done) | (exfalso; simp_all; omega)
        · (repeat' split) <;> first | rfl | (exfalso; omega) | (exfalso; simp_all; done) | (exfalso; simp_all; omega)
    · refine g_ldc (-100000002) dX6_passed_19 lk_X6_106 ?_
      refine g_iret dX6_passed_21 rfl rfl ?_ ?_
      · (repeat' split) <;> first | rfl | (exfalso; omega) | (exfalso; simp_all; done) | (exfalso; simp_all; omega)
      · (repeat' split) <;> first | rfl | (exfalso; omega) | (exfalso; simp_all; done) | (exfalso; simp_all; omega)
  · refine g_ldc (-100000001) dX6_passed_7 lk_X6_93 ?_
    refine g_iret dX6_passed_9 rfl rfl ?_ ?_
    · (repeat' split) <;> first | rfl | (exfalso; omega) | (exfalso; simp_all; done) | (exfalso; simp_all; omega)
    · (repeat' split) <;> first | rfl | (exfalso; omega) | (exfalso; simp_all; done) | (exfalso; simp_all; omega)
set_option maxRecDepth 20000 in
theorem t_X6_open {E : En} {w : W0} {nl nw ni : Nat} (hcl : w 1 2 = nI nl) (hnl : nl ≤ 8) (hcw : w 2 5 = nI nw) (hnw : nw ≤ 6) (hci : w 4 7 = nI ni) (hni : ni ≤ 60) : Mt E 7 yX6_open cX6_open 1 (some .int) [.ref (E.1 0)] w (some (.int (cyF (setlW w nl nw ni) 10))) (setlW w nl nw ni) := by
  refine Mt.of (by decide +kernel) (Nat.le_of_ble_eq_true rfl) ?_
  show G E 7 RX6 cX6_open 1 (some .int) _ _ 0 [(0, .ref (E.1 0))] [] w
  refine g_aload_n 0 dX6_open_0 rfl rfl ?_
  refine ca_X6_94 dX6_open_1 (t_X6_settle hcl hnl hcw hnw hci hni) (by decide) (Nat.le_of_ble_eq_true rfl) ?_
  refine g_aload_n 0 dX6_open_4 rfl rfl ?_
  refine gf_X6_47 dX6_open_5 ?_
  refine ca_X6_181 dX6_open_8 (t_X0_changedYears) (by decide) (Nat.le_of_ble_eq_true rfl) ?_
  refine g_iret dX6_open_11 rfl rfl ?_ ?_
  · rfl
  · rfl
set_option maxRecDepth 20000 in
theorem t_X6_told {E : En} {w : W0} {what : Int32} : Mt E 1 yX6_told cX6_told 2 (some .int) [.ref (E.1 0), .int what] w (some (.int (if what.toInt = 0 then w 1 2 else if what.toInt = 1 then w 2 5 else if what.toInt = 2 then w 3 2 else if what.toInt = 3 then w 4 7 else if what.toInt = 4 then w 5 4 else if what.toInt = 5 then w 6 2 else -2))) w := by
  refine Mt.of (by decide +kernel) (Nat.le_of_ble_eq_true rfl) ?_
  show G E 1 RX6 cX6_told 2 (some .int) _ _ 0 [(0, .ref (E.1 0)), (1, .int what)] [] w
  refine g_iload_n 1 dX6_told_0 rfl rfl ?_
  rcases sw5 what with hsw | hsw | hsw | hsw | hsw | hsw | hsw
  · refine g_tableIn (off := 39) 40 dX6_told_1 (by rw [hsw]; decide) (by rw [hsw]; decide) (by rw [hsw]; rfl) (by decide) ?_
    refine g_aload_n 0 dX6_told_40 rfl rfl ?_
    refine gf_X6_10 dX6_told_41 ?_
    refine gf_X6_59 dX6_told_44 ?_
    refine g_iret dX6_told_47 rfl rfl ?_ ?_
    · (repeat' split) <;> first | rfl | (exfalso; omega) | (exfalso; simp_all; done) | (exfalso; simp_all; omega)
    · (repeat' split) <;> first | rfl | (exfalso; omega) | (exfalso; simp_all; done) | (exfalso; simp_all; omega)
  · refine g_tableIn (off := 47) 48 dX6_told_1 (by rw [hsw]; decide) (by rw [hsw]; decide) (by rw [hsw]; rfl) (by decide) ?_
    refine g_aload_n 0 dX6_told_48 rfl rfl ?_
    refine gf_X6_19 dX6_told_49 ?_
    refine gf_X6_75 dX6_told_52 ?_
    refine g_iret dX6_told_55 rfl rfl ?_ ?_
    · (repeat' split) <;> first | rfl | (exfalso; omega) | (exfalso; simp_all; done) | (exfalso; simp_all; omega)
    · (repeat' split) <;> first | rfl | (exfalso; omega) | (exfalso; simp_all; done) | (exfalso; simp_all; omega)
  · refine g_tableIn (off := 55) 56 dX6_told_1 (by rw [hsw]; decide) (by rw [hsw]; decide) (by rw [hsw]; rfl) (by decide) ?_
    refine g_aload_n 0 dX6_told_56 rfl rfl ?_
    refine gf_X6_26 dX6_told_57 ?_
    refine gf_X6_113 dX6_told_60 ?_
    refine g_iret dX6_told_63 rfl rfl ?_ ?_
    · (repeat' split) <;> first | rfl | (exfalso; omega) | (exfalso; simp_all; done) | (exfalso; simp_all; omega)
    · (repeat' split) <;> first | rfl | (exfalso; omega) | (exfalso; simp_all; done) | (exfalso; simp_all; omega)
  · refine g_tableIn (off := 63) 64 dX6_told_1 (by rw [hsw]; decide) (by rw [hsw]; decide) (by rw [hsw]; rfl) (by decide) ?_
    refine g_aload_n 0 dX6_told_64 rfl rfl ?_
    refine gf_X6_33 dX6_told_65 ?_
    refine gf_X6_123 dX6_told_68 ?_
    refine g_iret dX6_told_71 rfl rfl ?_ ?_
    · (repeat' split) <;> first | rfl | (exfalso; omega) | (exfalso; simp_all; done) | (exfalso; simp_all; omega)
    · (repeat' split) <;> first | rfl | (exfalso; omega) | (exfalso; simp_all; done) | (exfalso; simp_all; omega)
  · refine g_tableIn (off := 71) 72 dX6_told_1 (by rw [hsw]; decide) (by rw [hsw]; decide) (by rw [hsw]; rfl) (by decide) ?_
    refine g_aload_n 0 dX6_told_72 rfl rfl ?_
    refine gf_X6_40 dX6_told_73 ?_
    refine gf_X6_148 dX6_told_76 ?_
    refine g_iret dX6_told_79 rfl rfl ?_ ?_
    · (repeat' split) <;> first | rfl | (exfalso; omega) | (exfalso; simp_all; done) | (exfalso; simp_all; omega)
    · (repeat' split) <;> first | rfl | (exfalso; omega) | (exfalso; simp_all; done) | (exfalso; simp_all; omega)
  · refine g_tableIn (off := 79) 80 dX6_told_1 (by rw [hsw]; decide) (by rw [hsw]; decide) (by rw [hsw]; rfl) (by decide) ?_
    refine g_aload_n 0 dX6_told_80 rfl rfl ?_
    refine gf_X6_47 dX6_told_81 ?_
    refine gf_X6_185 dX6_told_84 ?_
    refine g_iret dX6_told_87 rfl rfl ?_ ?_
    · (repeat' split) <;> first | rfl | (exfalso; omega) | (exfalso; simp_all; done) | (exfalso; simp_all; omega)
    · (repeat' split) <;> first | rfl | (exfalso; omega) | (exfalso; simp_all; done) | (exfalso; simp_all; omega)
  · refine g_tableOut 88 dX6_told_1 (by omega) (by decide) ?_
    refine g_bipush (-2) dX6_told_88 rfl ?_
    refine g_iret dX6_told_90 rfl rfl ?_ ?_
    · (repeat' split) <;> first | rfl | (exfalso; omega) | (exfalso; simp_all; done) | (exfalso; simp_all; omega)
    · (repeat' split) <;> first | rfl | (exfalso; omega) | (exfalso; simp_all; done) | (exfalso; simp_all; omega)

/-! Books -/
def turnF (w : W0) (nl nw ni : Nat) (day fin : Int32) : Int32 := nextF (w 24) day (nextF (w 20) day (nextF (w 7) day fin nl) nw) ni
def cntF (f : Nat → Int32) (lp : Nat → Nat → Int32) (nl : Nat) (held day : Int32) : Int64 := if 0 < (held - lawF f lp nl day 1).toInt then (held - lawF f lp nl day 1).toInt64 * (lawF f lp nl day 2).toInt64 else 0
theorem lpF_row {w : W0} {p i j : Nat} {v : Int32} : lpF (setW w (36 + j) i v) = lpF w := lpF_setW (by omega)
theorem lpF_row2 {w : W0} {p i j : Nat} {v : Int32} : lpF (setW w (47 + j) i v) = lpF w := lpF_setW (by omega)
abbrev YS : Type := (Nat → Int32) × Int32 × Int32 × Int64 × Int32
abbrev movF (w : W0) (ni : Nat) (day : Int32) : Int32 := sumF (w 26) (w 30) (w 24) (w 25) 1 day day ni - sumF (w 26) (w 30) (w 24) (w 25) 0 day day ni
abbrev gvF (w : W0) (nw : Nat) (sr : Nat → Int32) (day held : Int32) : (Nat → Int32) × Int32 × Int32 := gsF (w 20) day held sr (headsF (w 17) (w 18) (w 20) day nw) nw
/-- one turn of a year: shares, pot, given, counted, day -/
def turnS (w : W0) (nl nw ni : Nat) (fin : Int32) (s : YS) : YS :=
  ((gvF w nw s.1 s.2.2.2.2 (s.2.1 + movF w ni s.2.2.2.2)).1,
   s.2.1 + movF w ni s.2.2.2.2 - (gvF w nw s.1 s.2.2.2.2 (s.2.1 + movF w ni s.2.2.2.2)).2.1,
   s.2.2.1 + (gvF w nw s.1 s.2.2.2.2 (s.2.1 + movF w ni s.2.2.2.2)).2.1,
   s.2.2.2.1 + cntF (w 7) (lpF w) nl (s.2.1 + movF w ni s.2.2.2.2 - (gvF w nw s.1 s.2.2.2.2 (s.2.1 + movF w ni s.2.2.2.2)).2.1) s.2.2.2.2 * (turnF w nl nw ni s.2.2.2.2 fin - s.2.2.2.2).toInt64,
   turnF w nl nw ni s.2.2.2.2 fin)
def yrF (w : W0) (nl nw ni : Nat) (fin : Int32) : Nat → YS → YS
  | 0, s => s
  | m + 1, s => if s.2.2.2.2.toInt < fin.toInt then yrF w nl nw ni fin m (turnS w nl nw ni fin s) else s
theorem yrF_0 {w : W0} {nl nw ni : Nat} {fin : Int32} {s : YS} {t : Nat} (h : 360 ≤ t) : yrF w nl nw ni fin (360 - t) s = s := by
  rw [show 360 - t = 0 by omega]
  rfl
theorem yrF_x {w : W0} {nl nw ni : Nat} {fin : Int32} {s : YS} {m : Nat} (h : fin.toInt ≤ s.2.2.2.2.toInt) : yrF w nl nw ni fin m s = s := by
  cases m with
  | zero => rfl
  | succ m => exact if_neg (by omega)
theorem yrF_s {w : W0} {nl nw ni : Nat} {fin : Int32} {s : YS} {t : Nat} (ht : t < 360) (h : s.2.2.2.2.toInt < fin.toInt) : yrF w nl nw ni fin (360 - t) s = yrF w nl nw ni fin (360 - (t + 1)) (turnS w nl nw ni fin s) := by
  rw [show 360 - t = (360 - (t + 1)) + 1 by omega]
  exact if_pos h
/-- the year from its day 'first' on, with the pot 'begins' -/
abbrev finS (w : W0) (nl nw ni : Nat) (first begins : Int32) : YS := yrF w nl nw ni (first + 360) 360 (w 21, begins, 0, 0, first)
abbrev intF (s : YS) : Int32 := (s.2.2.2.1 / 36000).toInt32
def yearW (w : W0) (nl nw ni y : Nat) (first begins : Int32) : W0 := setA (setW (setW (setW (setW (setW (setW w (36 + y) 0 begins) (36 + y) 1 (sumF (w 26) (w 30) (w 24) (w 25) 1 first (first + 360 - 1) ni)) (36 + y) 2 (sumF (w 26) (w 30) (w 24) (w 25) 0 first (first + 360 - 1) ni)) (36 + y) 3 (finS w nl nw ni first begins).2.2.1) (36 + y) 4 (intF (finS w nl nw ni first begins))) (36 + y) 5 ((finS w nl nw ni first begins).2.1 + intF (finS w nl nw ni first begins))) 21 (finS w nl nw ni first begins).1
theorem yearW_ne {w : W0} {nl nw ni y q : Nat} {first begins : Int32} (h1 : q ≠ 21) (h2 : q ≠ 36 + y) : yearW w nl nw ni y first begins q = w q := by
  unfold yearW
  rw [setA_ne h1, setW_ne h2, setW_ne h2, setW_ne h2, setW_ne h2, setW_ne h2, setW_ne h2]
set_option maxRecDepth 20000 in
theorem t_X0_turnAfter {E : En} {w : W0} {nl nw ni : Nat} {day fin : Int32} (hcl : w 1 2 = nI nl) (hnl : nl ≤ 8) (hcw : w 2 5 = nI nw) (hnw : nw ≤ 6) (hci : w 4 7 = nI ni) (hni : ni ≤ 60) : Mt E 2 yX0_turnAfter cX0_turnAfter 6 (some .int) [.int day, .int fin, .ref (E.1 1), .ref (E.1 2), .ref (E.1 4)] w (some (.int (turnF w nl nw ni day fin))) w := by
  refine Mt.of (by decide +kernel) (Nat.le_of_ble_eq_true rfl) ?_
  show G E 2 RX0 cX0_turnAfter 6 (some .int) _ _ 0 [(0, .int day), (1, .int fin), (2, .ref (E.1 1)), (3, .ref (E.1 2)), (4, .ref (E.1 4))] [] w
  refine g_aload_n 2 dX0_turnAfter_0 rfl rfl ?_
  refine g_iload_n 0 dX0_turnAfter_1 rfl rfl ?_
  refine g_iload_n 1 dX0_turnAfter_2 rfl rfl ?_
  refine ca_X0_50 dX0_turnAfter_3 (t_X2_turnAfter hcl hnl) (by decide) (Nat.le_of_ble_eq_true rfl) ?_
  refine g_istN dX0_turnAfter_6 (by decide) rfl ?_
  refine g_aload_n 4 dX0_turnAfter_8 rfl rfl ?_
  refine g_iload_n 1 dX0_turnAfter_9 rfl rfl ?_
  refine g_iload 0 dX0_turnAfter_10 rfl ?_
  refine ca_X0_54 dX0_turnAfter_12 (t_X5_turnAfter hcw hnw) (by decide) (Nat.le_of_ble_eq_true rfl) ?_
  refine g_ist [] _ dX0_turnAfter_15 (by decide) rfl ?_
  refine g_aload 5 dX0_turnAfter_17 rfl ?_
  refine g_iload_n 1 dX0_turnAfter_19 rfl rfl ?_
  refine g_iload 0 dX0_turnAfter_20 rfl ?_
  refine ca_X0_55 dX0_turnAfter_22 (t_X1_turnAfter hci hni) (by decide) (Nat.le_of_ble_eq_true rfl) ?_
  refine g_iret dX0_turnAfter_25 rfl rfl ?_ ?_
  · rfl
  · rfl
set_option maxRecDepth 20000 in
theorem t_X0_countedADay {E : En} {w : W0} {nl : Nat} {held day : Int32} (hcl : w 1 2 = nI nl) (hnl : nl ≤ 8) : Mt E 2 yX0_countedADay cX0_countedADay 4 (some .long) [.int held, .int day, .ref (E.1 1)] w (some (.long (cntF (w 7) (lpF w) nl held day))) w := by
  refine Mt.of (by decide +kernel) (Nat.le_of_ble_eq_true rfl) ?_
  show G E 2 RX0 cX0_countedADay 4 (some .long) _ _ 0 [(0, .int held), (1, .int day), (2, .ref (E.1 1))] [] w
  refine g_iload_n 0 dX0_countedADay_0 rfl rfl ?_
  refine g_aload_n 2 dX0_countedADay_1 rfl rfl ?_
  refine g_iload_n 1 dX0_countedADay_2 rfl rfl ?_
  refine g_iconst 1 dX0_countedADay_3 rfl ?_
  refine ca_X0_56 dX0_countedADay_4 (t_X2_inForce (p := 1) hcl hnl rfl (by decide)) (by decide) (Nat.le_of_ble_eq_true rfl) ?_
  refine g_isub dX0_countedADay_7 ?_
  refine g_istN_n dX0_countedADay_8 rfl (by decide) rfl ?_
  refine g_iload_n 0 dX0_countedADay_9 rfl rfl ?_
  refine g_if_le 26 _ dX0_countedADay_10 (by decide) rfl (fun h10 => ?_) (fun h10 => ?_)
  · refine g_lconst 0 dX0_countedADay_26 rfl ?_
    refine g_lret dX0_countedADay_27 rfl ?_ ?_
    · unfold cntF; first | (rw [if_pos h10]; done) | (rw [if_neg (by omega)]; done)
    · rfl
  · refine g_iload_n 0 dX0_countedADay_13 rfl rfl ?_
    refine g_i2l dX0_countedADay_14 ?_
    refine g_aload_n 3 dX0_countedADay_15 rfl rfl ?_
    refine g_iload_n 2 dX0_countedADay_16 rfl rfl ?_
    refine g_iconst 2 dX0_countedADay_17 rfl ?_
    refine ca_X0_56 dX0_countedADay_18 (t_X2_inForce (p := 2) hcl hnl rfl (by decide)) (by decide) (Nat.le_of_ble_eq_true rfl) ?_
    refine g_i2l dX0_countedADay_21 ?_
    refine g_lmul dX0_countedADay_22 ?_
    refine g_goto 27 dX0_countedADay_23 (by decide) ?_
    refine g_lret dX0_countedADay_27 rfl ?_ ?_
    · unfold cntF; first | (rw [if_pos h10]; done) | (rw [if_neg (by omega)]; done)
    · rfl
theorem turnF_setA {w : W0} {nl nw ni : Nat} {f : Nat → Int32} : turnF (setA w 21 f) nl nw ni = turnF w nl nw ni := rfl
set_option maxRecDepth 20000 in
theorem l_reckonYear {E : En} {w : W0} {nl nw ni y : Nat} {year begins : Int32} (hcl : w 1 2 = nI nl) (hnl : nl ≤ 8) (hcw : w 2 5 = nI nw) (hnw : nw ≤ 6) (hci : w 4 7 = nI ni) (hni : ni ≤ 60) (hy : y < 10) (hyr : year = nI y) : ∀ (n : Nat) (k : Nat) (sr : Nat → Int32) (held shs dy x : Int32) (ct : Int64), 360 + 1 ≤ k + n → k ≤ 360 → x = nI k → yrF w nl nw ni (year * 360 + 360) (360 - k) (sr, held, shs, ct, dy) = (finS w nl nw ni (year * 360) begins) → G E 4 RX0 cX0_reckonYear 16 (some .int) (some (.int ((finS w nl nw ni (year * 360) begins).2.1 + intF (finS w nl nw ni (year * 360) begins)))) (yearW w nl nw ni y (year * 360) begins) 31 [(0, .ref (E.1 6)), (1, .int year), (2, .int begins), (3, .ref (E.1 1)), (4, .ref (E.1 2)), (5, .ref (E.1 4)), (6, .int (year * 360)), (7, .int (year * 360 + 360)), (8, .int held), (9, .int shs), (10, .long ct), (12, .int dy), (13, .int x)] [] (setA w 21 sr) := by
  intro n
  induction n with
  | zero =>
    intro k sr held shs dy x ct hfu hk hx hv
    exact absurd hfu (by omega)
  | succ n ih =>
    intro k sr held shs dy x ct hfu hk hx hv
    have hxi : x.toInt = (k : Int) := by rw [hx]; exact nI_toInt (by omega)
    have hxn : x.toNatClampNeg = k := by rw [hx]; exact nI_clamp (by omega)
    have hyi : year.toInt = (y : Int) := by rw [hyr]; exact nI_toInt (by omega)
    have hyn : year.toNatClampNeg = y := by rw [hyr]; exact nI_clamp (by omega)
    refine g_iload 12 dX0_reckonYear_31 rfl ?_
    refine g_sipush 360 dX0_reckonYear_33 rfl ?_
    refine g_icmp_ge 139 (k : Int) 360 dX0_reckonYear_36 (by decide) hxi rfl (fun h36 => ?_) (fun h36 => ?_)
    · first | rw [yrF_0 (by omega)] at hv | rw [yrF_x (by omega)] at hv
      refine g_lload 10 dX0_reckonYear_139 rfl ?_
      refine g_ldc2 36000 dX0_reckonYear_141 lk_X0_44 ?_
      refine g_ldiv dX0_reckonYear_144 (by decide) ?_
      refine g_l2i dX0_reckonYear_145 ?_
      refine g_ist [_, _, _, _, _, _, _, _, _, _, _, _] _ dX0_reckonYear_146 (by decide) rfl ?_
      refine g_iload 8 dX0_reckonYear_148 rfl ?_
      refine g_iload 12 dX0_reckonYear_150 rfl ?_
      refine g_iadd dX0_reckonYear_152 ?_
      refine g_ist [_, _, _, _, _, _, _, _] _ dX0_reckonYear_153 (by decide) rfl ?_
      refine g_iload_n 1 dX0_reckonYear_155 rfl rfl ?_
      refine ca_X0_46 dX0_reckonYear_156 (t_X6_isYear) (by decide) (Nat.le_of_ble_eq_true rfl) ?_
      (try simp (disch := omega) only [setW_ne, setW_p, setA_ne, setA_p, upd_self, lpF_setA, lpF_setW, lpF_row, lpF_row2, limC_setA, limC_setW])
      refine g_if_eqb 239 dX0_reckonYear_159 (by decide) (fun h159 => False.elim (by exact h159 (by omega))) (fun h159 => ?_)
      refine g_aload_n 0 dX0_reckonYear_162 rfl rfl ?_
      refine gf_X0_11 dX0_reckonYear_163 ?_
      refine g_iload_n 1 dX0_reckonYear_166 rfl rfl ?_
      refine g_aald (n := 10) (b := 36) y dX0_reckonYear_167 (by decide) rfl rf_35 hyn (by omega) (fun hj167 => ?_)
      refine g_iconst 0 dX0_reckonYear_168 rfl ?_
      refine g_iload_n 2 dX0_reckonYear_169 rfl rfl ?_
      refine g_iast (n := 6) 0 dX0_reckonYear_170 (by show _ < 80; omega) (sh_36 hj167) rfl (by decide) ?_
      (try simp (disch := omega) only [setW_setA, setW_setA_ne])
      refine g_aload_n 0 dX0_reckonYear_171 rfl rfl ?_
      refine gf_X0_11 dX0_reckonYear_172 ?_
      refine g_iload_n 1 dX0_reckonYear_175 rfl rfl ?_
      refine g_aald (n := 10) (b := 36) y dX0_reckonYear_176 (by decide) rfl rf_35 hyn (by omega) (fun hj176 => ?_)
      refine g_iconst 1 dX0_reckonYear_177 rfl ?_
      refine g_aload 5 dX0_reckonYear_178 rfl ?_
      refine g_iload 6 dX0_reckonYear_180 rfl ?_
      refine g_iload 7 dX0_reckonYear_182 rfl ?_
      refine g_iconst 1 dX0_reckonYear_184 rfl ?_
      refine g_isub dX0_reckonYear_185 ?_
      refine ca_X0_23 dX0_reckonYear_186 (t_X1_receivedBetween (ni := ni) (by (try simp (disch := omega) only [setW_ne, setA_ne]); exact hci) hni) (by decide) (Nat.le_of_ble_eq_true rfl) ?_
      (try simp (disch := omega) only [setW_ne, setW_p, setA_ne, setA_p, upd_self, lpF_setA, lpF_setW, lpF_row, lpF_row2, limC_setA, limC_setW])
      refine g_iast (n := 6) 1 dX0_reckonYear_189 (by show _ < 80; omega) (sh_36 hj176) rfl (by decide) ?_
      (try simp (disch := omega) only [setW_setA, setW_setA_ne])
      refine g_aload_n 0 dX0_reckonYear_190 rfl rfl ?_
      refine gf_X0_11 dX0_reckonYear_191 ?_
      refine g_iload_n 1 dX0_reckonYear_194 rfl rfl ?_
      refine g_aald (n := 10) (b := 36) y dX0_reckonYear_195 (by decide) rfl rf_35 hyn (by omega) (fun hj195 => ?_)
      refine g_iconst 2 dX0_reckonYear_196 rfl ?_
      refine g_aload 5 dX0_reckonYear_197 rfl ?_
      refine g_iload 6 dX0_reckonYear_199 rfl ?_
      refine g_iload 7 dX0_reckonYear_201 rfl ?_
      refine g_iconst 1 dX0_reckonYear_203 rfl ?_
      refine g_isub dX0_reckonYear_204 ?_
      refine ca_X0_29 dX0_reckonYear_205 (t_X1_paidBetween (ni := ni) (by (try simp (disch := omega) only [setW_ne, setA_ne]); exact hci) hni) (by decide) (Nat.le_of_ble_eq_true rfl) ?_
      (try simp (disch := omega) only [setW_ne, setW_p, setA_ne, setA_p, upd_self, lpF_setA, lpF_setW, lpF_row, lpF_row2, limC_setA, limC_setW])
      refine g_iast (n := 6) 2 dX0_reckonYear_208 (by show _ < 80; omega) (sh_36 hj195) rfl (by decide) ?_
      (try simp (disch := omega) only [setW_setA, setW_setA_ne])
      refine g_aload_n 0 dX0_reckonYear_209 rfl rfl ?_
      refine gf_X0_11 dX0_reckonYear_210 ?_
      refine g_iload_n 1 dX0_reckonYear_213 rfl rfl ?_
      refine g_aald (n := 10) (b := 36) y dX0_reckonYear_214 (by decide) rfl rf_35 hyn (by omega) (fun hj214 => ?_)
      refine g_iconst 3 dX0_reckonYear_215 rfl ?_
      refine g_iload 9 dX0_reckonYear_216 rfl ?_
      refine g_iast (n := 6) 3 dX0_reckonYear_218 (by show _ < 80; omega) (sh_36 hj214) rfl (by decide) ?_
      (try simp (disch := omega) only [setW_setA, setW_setA_ne])
      refine g_aload_n 0 dX0_reckonYear_219 rfl rfl ?_
      refine gf_X0_11 dX0_reckonYear_220 ?_
      refine g_iload_n 1 dX0_reckonYear_223 rfl rfl ?_
      refine g_aald (n := 10) (b := 36) y dX0_reckonYear_224 (by decide) rfl rf_35 hyn (by omega) (fun hj224 => ?_)
      refine g_iconst 4 dX0_reckonYear_225 rfl ?_
      refine g_iload 12 dX0_reckonYear_226 rfl ?_
      refine g_iast (n := 6) 4 dX0_reckonYear_228 (by show _ < 80; omega) (sh_36 hj224) rfl (by decide) ?_
      (try simp (disch := omega) only [setW_setA, setW_setA_ne])
      refine g_aload_n 0 dX0_reckonYear_229 rfl rfl ?_
      refine gf_X0_11 dX0_reckonYear_230 ?_
      refine g_iload_n 1 dX0_reckonYear_233 rfl rfl ?_
      refine g_aald (n := 10) (b := 36) y dX0_reckonYear_234 (by decide) rfl rf_35 hyn (by omega) (fun hj234 => ?_)
      refine g_iconst 5 dX0_reckonYear_235 rfl ?_
      refine g_iload 8 dX0_reckonYear_236 rfl ?_
      refine g_iast (n := 6) 5 dX0_reckonYear_238 (by show _ < 80; omega) (sh_36 hj234) rfl (by decide) ?_
      (try simp (disch := omega) only [setW_setA, setW_setA_ne])
      refine g_iload 8 dX0_reckonYear_239 rfl ?_
      refine g_iret dX0_reckonYear_241 rfl rfl ?_ ?_
      · rw [← hv]
      · unfold yearW; rw [← hv]
    · refine g_iload 11 dX0_reckonYear_39 rfl ?_
      refine g_iload 7 dX0_reckonYear_41 rfl ?_
      refine g_icmp_ge 139 _ _ dX0_reckonYear_43 (by decide) rfl rfl (fun h43 => ?_) (fun h43 => ?_)
      · first | rw [yrF_0 (by omega)] at hv | rw [yrF_x (by omega)] at hv
        refine g_lload 10 dX0_reckonYear_139 rfl ?_
        refine g_ldc2 36000 dX0_reckonYear_141 lk_X0_44 ?_
        refine g_ldiv dX0_reckonYear_144 (by decide) ?_
        refine g_l2i dX0_reckonYear_145 ?_
        refine g_ist [_, _, _, _, _, _, _, _, _, _, _, _] _ dX0_reckonYear_146 (by decide) rfl ?_
        refine g_iload 8 dX0_reckonYear_148 rfl ?_
        refine g_iload 12 dX0_reckonYear_150 rfl ?_
        refine g_iadd dX0_reckonYear_152 ?_
        refine g_ist [_, _, _, _, _, _, _, _] _ dX0_reckonYear_153 (by decide) rfl ?_
        refine g_iload_n 1 dX0_reckonYear_155 rfl rfl ?_
        refine ca_X0_46 dX0_reckonYear_156 (t_X6_isYear) (by decide) (Nat.le_of_ble_eq_true rfl) ?_
        (try simp (disch := omega) only [setW_ne, setW_p, setA_ne, setA_p, upd_self, lpF_setA, lpF_setW, lpF_row, lpF_row2, limC_setA, limC_setW])
        refine g_if_eqb 239 dX0_reckonYear_159 (by decide) (fun h159 => False.elim (by exact h159 (by omega))) (fun h159 => ?_)
        refine g_aload_n 0 dX0_reckonYear_162 rfl rfl ?_
        refine gf_X0_11 dX0_reckonYear_163 ?_
        refine g_iload_n 1 dX0_reckonYear_166 rfl rfl ?_
        refine g_aald (n := 10) (b := 36) y dX0_reckonYear_167 (by decide) rfl rf_35 hyn (by omega) (fun hj167 => ?_)
        refine g_iconst 0 dX0_reckonYear_168 rfl ?_
        refine g_iload_n 2 dX0_reckonYear_169 rfl rfl ?_
        refine g_iast (n := 6) 0 dX0_reckonYear_170 (by show _ < 80; omega) (sh_36 hj167) rfl (by decide) ?_
        (try simp (disch := omega) only [setW_setA, setW_setA_ne])
        refine g_aload_n 0 dX0_reckonYear_171 rfl rfl ?_
        refine gf_X0_11 dX0_reckonYear_172 ?_
        refine g_iload_n 1 dX0_reckonYear_175 rfl rfl ?_
        refine g_aald (n := 10) (b := 36) y dX0_reckonYear_176 (by decide) rfl rf_35 hyn (by omega) (fun hj176 => ?_)
        refine g_iconst 1 dX0_reckonYear_177 rfl ?_
        refine g_aload 5 dX0_reckonYear_178 rfl ?_
        refine g_iload 6 dX0_reckonYear_180 rfl ?_
        refine g_iload 7 dX0_reckonYear_182 rfl ?_
        refine g_iconst 1 dX0_reckonYear_184 rfl ?_
        refine g_isub dX0_reckonYear_185 ?_
        refine ca_X0_23 dX0_reckonYear_186 (t_X1_receivedBetween (ni := ni) (by (try simp (disch := omega) only [setW_ne, setA_ne]); exact hci) hni) (by decide) (Nat.le_of_ble_eq_true rfl) ?_
        (try simp (disch := omega) only [setW_ne, setW_p, setA_ne, setA_p, upd_self, lpF_setA, lpF_setW, lpF_row, lpF_row2, limC_setA, limC_setW])
        refine g_iast (n := 6) 1 dX0_reckonYear_189 (by show _ < 80; omega) (sh_36 hj176) rfl (by decide) ?_
        (try simp (disch := omega) only [setW_setA, setW_setA_ne])
        refine g_aload_n 0 dX0_reckonYear_190 rfl rfl ?_
        refine gf_X0_11 dX0_reckonYear_191 ?_
        refine g_iload_n 1 dX0_reckonYear_194 rfl rfl ?_
        refine g_aald (n := 10) (b := 36) y dX0_reckonYear_195 (by decide) rfl rf_35 hyn (by omega) (fun hj195 => ?_)
        refine g_iconst 2 dX0_reckonYear_196 rfl ?_
        refine g_aload 5 dX0_reckonYear_197 rfl ?_
        refine g_iload 6 dX0_reckonYear_199 rfl ?_
        refine g_iload 7 dX0_reckonYear_201 rfl ?_
        refine g_iconst 1 dX0_reckonYear_203 rfl ?_
        refine g_isub dX0_reckonYear_204 ?_
        refine ca_X0_29 dX0_reckonYear_205 (t_X1_paidBetween (ni := ni) (by (try simp (disch := omega) only [setW_ne, setA_ne]); exact hci) hni) (by decide) (Nat.le_of_ble_eq_true rfl) ?_
        (try simp (disch := omega) only [setW_ne, setW_p, setA_ne, setA_p, upd_self, lpF_setA, lpF_setW, lpF_row, lpF_row2, limC_setA, limC_setW])
        refine g_iast (n := 6) 2 dX0_reckonYear_208 (by show _ < 80; omega) (sh_36 hj195) rfl (by decide) ?_
        (try simp (disch := omega) only [setW_setA, setW_setA_ne])
        refine g_aload_n 0 dX0_reckonYear_209 rfl rfl ?_
        refine gf_X0_11 dX0_reckonYear_210 ?_
        refine g_iload_n 1 dX0_reckonYear_213 rfl rfl ?_
        refine g_aald (n := 10) (b := 36) y dX0_reckonYear_214 (by decide) rfl rf_35 hyn (by omega) (fun hj214 => ?_)
        refine g_iconst 3 dX0_reckonYear_215 rfl ?_
        refine g_iload 9 dX0_reckonYear_216 rfl ?_
        refine g_iast (n := 6) 3 dX0_reckonYear_218 (by show _ < 80; omega) (sh_36 hj214) rfl (by decide) ?_
        (try simp (disch := omega) only [setW_setA, setW_setA_ne])
        refine g_aload_n 0 dX0_reckonYear_219 rfl rfl ?_
        refine gf_X0_11 dX0_reckonYear_220 ?_
        refine g_iload_n 1 dX0_reckonYear_223 rfl rfl ?_
        refine g_aald (n := 10) (b := 36) y dX0_reckonYear_224 (by decide) rfl rf_35 hyn (by omega) (fun hj224 => ?_)
        refine g_iconst 4 dX0_reckonYear_225 rfl ?_
        refine g_iload 12 dX0_reckonYear_226 rfl ?_
        refine g_iast (n := 6) 4 dX0_reckonYear_228 (by show _ < 80; omega) (sh_36 hj224) rfl (by decide) ?_
        (try simp (disch := omega) only [setW_setA, setW_setA_ne])
        refine g_aload_n 0 dX0_reckonYear_229 rfl rfl ?_
        refine gf_X0_11 dX0_reckonYear_230 ?_
        refine g_iload_n 1 dX0_reckonYear_233 rfl rfl ?_
        refine g_aald (n := 10) (b := 36) y dX0_reckonYear_234 (by decide) rfl rf_35 hyn (by omega) (fun hj234 => ?_)
        refine g_iconst 5 dX0_reckonYear_235 rfl ?_
        refine g_iload 8 dX0_reckonYear_236 rfl ?_
        refine g_iast (n := 6) 5 dX0_reckonYear_238 (by show _ < 80; omega) (sh_36 hj234) rfl (by decide) ?_
        (try simp (disch := omega) only [setW_setA, setW_setA_ne])
        refine g_iload 8 dX0_reckonYear_239 rfl ?_
        refine g_iret dX0_reckonYear_241 rfl rfl ?_ ?_
        · rw [← hv]
        · unfold yearW; rw [← hv]
      · refine g_iload 8 dX0_reckonYear_46 rfl ?_
        refine g_aload 5 dX0_reckonYear_48 rfl ?_
        refine g_iload 11 dX0_reckonYear_50 rfl ?_
        refine g_iload 11 dX0_reckonYear_52 rfl ?_
        refine ca_X0_23 dX0_reckonYear_54 (t_X1_receivedBetween (ni := ni) (by (try simp (disch := omega) only [setW_ne, setA_ne]); exact hci) hni) (by decide) (Nat.le_of_ble_eq_true rfl) ?_
        (try simp (disch := omega) only [setW_ne, setW_p, setA_ne, setA_p, upd_self, lpF_setA, lpF_setW, lpF_row, lpF_row2, limC_setA, limC_setW])
        refine g_aload 5 dX0_reckonYear_57 rfl ?_
        refine g_iload 11 dX0_reckonYear_59 rfl ?_
        refine g_iload 11 dX0_reckonYear_61 rfl ?_
        refine ca_X0_29 dX0_reckonYear_63 (t_X1_paidBetween (ni := ni) (by (try simp (disch := omega) only [setW_ne, setA_ne]); exact hci) hni) (by decide) (Nat.le_of_ble_eq_true rfl) ?_
        (try simp (disch := omega) only [setW_ne, setW_p, setA_ne, setA_p, upd_self, lpF_setA, lpF_setW, lpF_row, lpF_row2, limC_setA, limC_setW])
        refine g_isub dX0_reckonYear_66 ?_
        refine g_iadd dX0_reckonYear_67 ?_
        refine g_ist [_, _, _, _, _, _, _, _] _ dX0_reckonYear_68 (by decide) rfl ?_
        refine g_aload 4 dX0_reckonYear_70 rfl ?_
        refine g_iload 11 dX0_reckonYear_72 rfl ?_
        refine g_iload 8 dX0_reckonYear_74 rfl ?_
        refine ca_X0_32 dX0_reckonYear_76 (t_X5_giveShares (nw := nw) (by (try simp (disch := omega) only [setW_ne, setA_ne]); exact hcw) hnw) (by decide) (Nat.le_of_ble_eq_true rfl) ?_
        (try simp (disch := omega) only [setW_ne, setW_p, setA_ne, setA_p, upd_self, lpF_setA, lpF_setW, lpF_row, lpF_row2, limC_setA, limC_setW])
        refine g_istN dX0_reckonYear_79 (by decide) rfl ?_
        refine g_iload 9 dX0_reckonYear_81 rfl ?_
        refine g_iload 0 dX0_reckonYear_83 rfl ?_
        refine g_isub dX0_reckonYear_85 ?_
        refine g_ist [_, _, _, _, _, _, _, _, _] _ dX0_reckonYear_86 (by decide) rfl ?_
        refine g_iload 10 dX0_reckonYear_88 rfl ?_
        refine g_iload 0 dX0_reckonYear_90 rfl ?_
        refine g_iadd dX0_reckonYear_92 ?_
        refine g_ist [_, _, _, _, _, _, _, _, _, _] _ dX0_reckonYear_93 (by decide) rfl ?_
        refine g_iload 12 dX0_reckonYear_95 rfl ?_
        refine g_iload 8 dX0_reckonYear_97 rfl ?_
        refine g_aload_n 4 dX0_reckonYear_99 rfl rfl ?_
        refine g_aload 5 dX0_reckonYear_100 rfl ?_
        refine g_aload 6 dX0_reckonYear_102 rfl ?_
        refine ca_X0_37 dX0_reckonYear_104 (t_X0_turnAfter (nl := nl) (nw := nw) (ni := ni) (by (try simp (disch := omega) only [setW_ne, setA_ne]); exact hcl) hnl (by (try simp (disch := omega) only [setW_ne, setA_ne]); exact hcw) hnw (by (try simp (disch := omega) only [setW_ne, setA_ne]); exact hci) hni) (by decide) (Nat.le_of_ble_eq_true rfl) ?_
        (try simp (disch := omega) only [setW_ne, setW_p, setA_ne, setA_p, upd_self, lpF_setA, lpF_setW, lpF_row, lpF_row2, limC_setA, limC_setW])
        refine g_istN dX0_reckonYear_107 (by decide) rfl ?_
        refine g_lload 12 dX0_reckonYear_109 rfl ?_
        refine g_iload 10 dX0_reckonYear_111 rfl ?_
        refine g_iload 13 dX0_reckonYear_113 rfl ?_
        refine g_aload_n 5 dX0_reckonYear_115 rfl rfl ?_
        refine ca_X0_40 dX0_reckonYear_116 (t_X0_countedADay (nl := nl) (by (try simp (disch := omega) only [setW_ne, setA_ne]); exact hcl) hnl) (by decide) (Nat.le_of_ble_eq_true rfl) ?_
        (try simp (disch := omega) only [setW_ne, setW_p, setA_ne, setA_p, upd_self, lpF_setA, lpF_setW, lpF_row, lpF_row2, limC_setA, limC_setW])
        refine g_iload 0 dX0_reckonYear_119 rfl ?_
        refine g_iload 13 dX0_reckonYear_121 rfl ?_
        refine g_isub dX0_reckonYear_123 ?_
        refine g_i2l dX0_reckonYear_124 ?_
        refine g_lmul dX0_reckonYear_125 ?_
        refine g_ladd dX0_reckonYear_126 ?_
        refine g_lst [_, _, _, _, _, _, _, _, _, _, _, _] _ dX0_reckonYear_127 (by decide) rfl ?_
        refine g_iload 0 dX0_reckonYear_129 rfl ?_
        refine g_ist [_, _, _, _, _, _, _, _, _, _, _, _, _] _ dX0_reckonYear_131 (by decide) rfl ?_
        refine g_iinc 1 [_, _, _, _, _, _, _, _, _, _, _, _, _, _] _ dX0_reckonYear_133 rfl (by decide) rfl ?_
        refine g_goto 31 dX0_reckonYear_136 (by decide) ?_
        refine g_lv [2, 3, 4, 5, 6, 7, 8, 9, 10, 11, 12, 13, 14] rfl ?_
        exact ih (k + 1) _ _ _ _ (x + 1) _ (by omega) (by omega) (by rw [hx, nI_1]) (by rw [yrF_s (by omega) h43] at hv; exact hv)
set_option maxRecDepth 20000 in
theorem t_X0_reckonYear {E : En} {w : W0} {nl nw ni y : Nat} {year begins : Int32} (hcl : w 1 2 = nI nl) (hnl : nl ≤ 8) (hcw : w 2 5 = nI nw) (hnw : nw ≤ 6) (hci : w 4 7 = nI ni) (hni : ni ≤ 60) (hy : y < 10) (hyr : year = nI y) : Mt E 4 yX0_reckonYear cX0_reckonYear 16 (some .int) [.ref (E.1 6), .int year, .int begins, .ref (E.1 1), .ref (E.1 2), .ref (E.1 4)] w (some (.int ((finS w nl nw ni (year * 360) begins).2.1 + intF (finS w nl nw ni (year * 360) begins)))) (yearW w nl nw ni y (year * 360) begins) := by
  refine Mt.of (by decide +kernel) (Nat.le_of_ble_eq_true rfl) ?_
  show G E 4 RX0 cX0_reckonYear 16 (some .int) _ _ 0 [(0, .ref (E.1 6)), (1, .int year), (2, .int begins), (3, .ref (E.1 1)), (4, .ref (E.1 2)), (5, .ref (E.1 4))] [] w
  refine g_iload_n 1 dX0_reckonYear_0 rfl rfl ?_
  refine g_sipush 360 dX0_reckonYear_1 rfl ?_
  refine g_imul dX0_reckonYear_4 ?_
  refine g_istN dX0_reckonYear_5 (by decide) rfl ?_
  refine g_iload 0 dX0_reckonYear_7 rfl ?_
  refine g_sipush 360 dX0_reckonYear_9 rfl ?_
  refine g_iadd dX0_reckonYear_12 ?_
  refine g_istN dX0_reckonYear_13 (by decide) rfl ?_
  refine g_iload_n 4 dX0_reckonYear_15 rfl rfl ?_
  refine g_istN dX0_reckonYear_16 (by decide) rfl ?_
  refine g_iconst 0 dX0_reckonYear_18 rfl ?_
  refine g_istN dX0_reckonYear_19 (by decide) rfl ?_
  refine g_lconst 0 dX0_reckonYear_21 rfl ?_
  refine g_lstN dX0_reckonYear_22 (by decide) rfl ?_
  refine g_iload 4 dX0_reckonYear_24 rfl ?_
  refine g_istN dX0_reckonYear_26 (by decide) rfl ?_
  refine g_iconst 0 dX0_reckonYear_28 rfl ?_
  refine g_istN dX0_reckonYear_29 (by decide) rfl ?_
  refine g_lv [7, 8, 9, 10, 11, 12, 6, 5, 4, 3, 2, 1, 0] rfl ?_
  have hl := l_reckonYear (E := E) (begins := begins) hcl hnl hcw hnw hci hni hy hyr 361 0 (w 21) _ _ _ _ _ (by omega) (by omega) rfl rfl
  rw [setA_self] at hl
  exact hl
/-- the years before the y-th, one behind the other: the world, and the pot -/
def rkF (w : W0) (nl nw ni : Nat) : Nat → W0 × Int32
  | 0 => (w, 0)
  | y + 1 => (yearW (rkF w nl nw ni y).1 nl nw ni y (nI y * 360) (rkF w nl nw ni y).2, (finS (rkF w nl nw ni y).1 nl nw ni (nI y * 360) (rkF w nl nw ni y).2).2.1 + intF (finS (rkF w nl nw ni y).1 nl nw ni (nI y * 360) (rkF w nl nw ni y).2))
theorem rkF_s (w : W0) (nl nw ni y : Nat) : rkF w nl nw ni (y + 1) = (yearW (rkF w nl nw ni y).1 nl nw ni y (nI y * 360) (rkF w nl nw ni y).2, (finS (rkF w nl nw ni y).1 nl nw ni (nI y * 360) (rkF w nl nw ni y).2).2.1 + intF (finS (rkF w nl nw ni y).1 nl nw ni (nI y * 360) (rkF w nl nw ni y).2)) := rfl
theorem rkF_ne {w : W0} {nl nw ni q : Nat} (h1 : q ≠ 21) : ∀ y, (q < 36 ∨ 36 + y ≤ q) → (rkF w nl nw ni y).1 q = w q
  | 0, _ => rfl
  | y + 1, h => by
    rw [rkF_s]
    show yearW _ _ _ _ _ _ _ q = _
    rw [yearW_ne h1 (by omega), rkF_ne h1 y (by omega)]
set_option maxRecDepth 20000 in
theorem l_reckon {E : En} {w : W0} {nl nw ni : Nat} (hcl : w 1 2 = nI nl) (hnl : nl ≤ 8) (hcw : w 2 5 = nI nw) (hnw : nw ≤ 6) (hci : w 4 7 = nI ni) (hni : ni ≤ 60) : ∀ (n : Nat) (k : Nat) (u x : Int32), 10 + 1 ≤ k + n → k ≤ 10 → x = nI k → u = (rkF w nl nw ni k).2 → G E 5 RX0 cX0_reckon 6 (none) none (rkF w nl nw ni 10).1 6 [(0, .ref (E.1 6)), (1, .ref (E.1 1)), (2, .ref (E.1 2)), (3, .ref (E.1 4)), (4, .int u), (5, .int x)] [] (rkF w nl nw ni k).1 := by
  intro n
  induction n with
  | zero =>
    intro k u x hfu hk hx hv
    exact absurd hfu (by omega)
  | succ n ih =>
    intro k u x hfu hk hx hv
    have hxi : x.toInt = (k : Int) := by rw [hx]; exact nI_toInt (by omega)
    have hxn : x.toNatClampNeg = k := by rw [hx]; exact nI_clamp (by omega)
    refine g_iload 5 dX0_reckon_6 rfl ?_
    refine g_bipush 10 dX0_reckon_8 rfl ?_
    refine g_icmp_ge 32 (k : Int) 10 dX0_reckon_10 (by decide) hxi rfl (fun h10 => ?_) (fun h10 => ?_)
    · refine g_vret dX0_reckon_32 rfl rfl ?_
      · rw [show k = 10 by omega]
    · refine g_aload_n 0 dX0_reckon_13 rfl rfl ?_
      refine g_iload 5 dX0_reckon_14 rfl ?_
      refine g_iload 4 dX0_reckon_16 rfl ?_
      refine g_aload_n 1 dX0_reckon_18 rfl rfl ?_
      refine g_aload_n 2 dX0_reckon_19 rfl rfl ?_
      refine g_aload_n 3 dX0_reckon_20 rfl rfl ?_
      refine ca_X0_19 dX0_reckon_21 (t_X0_reckonYear (nl := nl) (nw := nw) (ni := ni) (y := k) (by rw [rkF_ne (by decide) k (by omega)]; exact hcl) hnl (by rw [rkF_ne (by decide) k (by omega)]; exact hcw) hnw (by rw [rkF_ne (by decide) k (by omega)]; exact hci) hni (by omega) hx) (by decide) (Nat.le_of_ble_eq_true rfl) ?_
      rw [hv, hx]
      rw [show yearW (rkF w nl nw ni k).1 nl nw ni k (nI k * 360) (rkF w nl nw ni k).2 = (rkF w nl nw ni (k + 1)).1 from rfl]
      refine g_ist [_, _, _, _] _ dX0_reckon_24 (by decide) rfl ?_
      refine g_iinc 1 [_, _, _, _, _] _ dX0_reckon_26 rfl (by decide) rfl ?_
      refine g_goto 6 dX0_reckon_29 (by decide) ?_
      exact ih (k + 1) (rkF w nl nw ni (k + 1)).2 (nI k + 1) (by omega) (by omega) (nI_1 k) rfl
set_option maxRecDepth 20000 in
theorem t_X0_reckon {E : En} {w : W0} {nl nw ni : Nat} (hcl : w 1 2 = nI nl) (hnl : nl ≤ 8) (hcw : w 2 5 = nI nw) (hnw : nw ≤ 6) (hci : w 4 7 = nI ni) (hni : ni ≤ 60) : Mt E 5 yX0_reckon cX0_reckon 6 (none) [.ref (E.1 6), .ref (E.1 1), .ref (E.1 2), .ref (E.1 4)] w none (rkF w nl nw ni 10).1 := by
  refine Mt.of (by decide +kernel) (Nat.le_of_ble_eq_true rfl) ?_
  show G E 5 RX0 cX0_reckon 6 (none) _ _ 0 [(0, .ref (E.1 6)), (1, .ref (E.1 1)), (2, .ref (E.1 2)), (3, .ref (E.1 4))] [] w
  refine g_iconst 0 dX0_reckon_0 rfl ?_
  refine g_istN dX0_reckon_1 (by decide) rfl ?_
  refine g_iconst 0 dX0_reckon_3 rfl ?_
  refine g_istN dX0_reckon_4 (by decide) rfl ?_
  refine g_lv [2, 3, 4, 5, 1, 0] rfl ?_
  exact l_reckon hcl hnl hcw hnw hci hni 11 0 _ _ (by omega) (by omega) rfl rfl
set_option maxRecDepth 20000 in
theorem t_X0_entry {E : En} {w : W0} {y p : Nat} {year z : Int32} (hy : y < 10) (hyr : year = nI y) (hz : z.toInt = (p : Int)) (hp : p < 6) : Mt E 2 yX0_entry cX0_entry 3 (some .int) [.ref (E.1 6), .int year, .int z] w (some (.int (w (36 + y) p))) w := by
  refine Mt.of (by decide +kernel) (Nat.le_of_ble_eq_true rfl) ?_
  show G E 2 RX0 cX0_entry 3 (some .int) _ _ 0 [(0, .ref (E.1 6)), (1, .int year), (2, .int z)] [] w
  have hyi : year.toInt = (y : Int) := by rw [hyr]; exact nI_toInt (by omega)
  have hyn : year.toNatClampNeg = y := by rw [hyr]; exact nI_clamp (by omega)
  refine g_iload_n 1 dX0_entry_0 rfl rfl ?_
  refine ca_X0_46 dX0_entry_1 (t_X6_isYear) (by decide) (Nat.le_of_ble_eq_true rfl) ?_
  refine g_if_eqb 27 dX0_entry_4 (by decide) (fun h4 => False.elim (by exact h4 (by omega))) (fun h4 => ?_)
  refine g_iload_n 2 dX0_entry_7 rfl rfl ?_
  refine g_iconst 0 dX0_entry_8 rfl ?_
  refine g_iconst 5 dX0_entry_9 rfl ?_
  refine ca_X0_65 dX0_entry_10 (t_X6_within 0 5 rfl rfl) (by decide) (Nat.le_of_ble_eq_true rfl) ?_
  refine g_if_eqb 27 dX0_entry_13 (by decide) (fun h13 => False.elim (by exact h13 (by omega))) (fun h13 => ?_)
  refine g_aload_n 0 dX0_entry_16 rfl rfl ?_
  refine gf_X0_11 dX0_entry_17 ?_
  refine g_iload_n 1 dX0_entry_20 rfl rfl ?_
  refine g_aald (n := 10) (b := 36) y dX0_entry_21 (by decide) rfl rf_35 hyn (by omega) (fun hj21 => ?_)
  refine g_iload_n 2 dX0_entry_22 rfl rfl ?_
  refine g_iald (n := 6) p dX0_entry_23 (by show _ < 80; omega) (sh_36 hj21) (nat_of_int hz) (by omega) ?_
  refine g_goto 28 dX0_entry_24 (by decide) ?_
  refine g_iret dX0_entry_28 rfl rfl ?_ ?_
  · rfl
  · rfl
set_option maxRecDepth 20000 in
theorem t_X0_keptEntry {E : En} {w : W0} {y p : Nat} {year z : Int32} (hy : y < 10) (hyr : year = nI y) (hz : z.toInt = (p : Int)) (hp : p < 6) : Mt E 2 yX0_keptEntry cX0_keptEntry 3 (some .int) [.ref (E.1 6), .int year, .int z] w (some (.int (w (47 + y) p))) w := by
  refine Mt.of (by decide +kernel) (Nat.le_of_ble_eq_true rfl) ?_
  show G E 2 RX0 cX0_keptEntry 3 (some .int) _ _ 0 [(0, .ref (E.1 6)), (1, .int year), (2, .int z)] [] w
  have hyi : year.toInt = (y : Int) := by rw [hyr]; exact nI_toInt (by omega)
  have hyn : year.toNatClampNeg = y := by rw [hyr]; exact nI_clamp (by omega)
  refine g_iload_n 1 dX0_keptEntry_0 rfl rfl ?_
  refine ca_X0_46 dX0_keptEntry_1 (t_X6_isYear) (by decide) (Nat.le_of_ble_eq_true rfl) ?_
  refine g_if_eqb 27 dX0_keptEntry_4 (by decide) (fun h4 => False.elim (by exact h4 (by omega))) (fun h4 => ?_)
  refine g_iload_n 2 dX0_keptEntry_7 rfl rfl ?_
  refine g_iconst 0 dX0_keptEntry_8 rfl ?_
  refine g_iconst 5 dX0_keptEntry_9 rfl ?_
  refine ca_X0_65 dX0_keptEntry_10 (t_X6_within 0 5 rfl rfl) (by decide) (Nat.le_of_ble_eq_true rfl) ?_
  refine g_if_eqb 27 dX0_keptEntry_13 (by decide) (fun h13 => False.elim (by exact h13 (by omega))) (fun h13 => ?_)
  refine g_aload_n 0 dX0_keptEntry_16 rfl rfl ?_
  refine gf_X0_16 dX0_keptEntry_17 ?_
  refine g_iload_n 1 dX0_keptEntry_20 rfl rfl ?_
  refine g_aald (n := 10) (b := 47) y dX0_keptEntry_21 (by decide) rfl rf_46 hyn (by omega) (fun hj21 => ?_)
  refine g_iload_n 2 dX0_keptEntry_22 rfl rfl ?_
  refine g_iald (n := 6) p dX0_keptEntry_23 (by show _ < 80; omega) (sh_47 hj21) (nat_of_int hz) (by omega) ?_
  refine g_goto 28 dX0_keptEntry_24 (by decide) ?_
  refine g_iret dX0_keptEntry_28 rfl rfl ?_ ?_
  · rfl
  · rfl
set_option maxRecDepth 20000 in
theorem t_X0_wasKept {E : En} {w : W0} {y : Nat} {year : Int32} (hy : y < 10) (hyr : year = nI y) : Mt E 2 yX0_wasKept cX0_wasKept 2 (some .boolean) [.ref (E.1 6), .int year] w (some (.int (bI (¬ (w 6 2 >>> (year &&& 31)) &&& 1 = 0)))) w := by
  refine Mt.of (by decide +kernel) (Nat.le_of_ble_eq_true rfl) ?_
  show G E 2 RX0 cX0_wasKept 2 (some .boolean) _ _ 0 [(0, .ref (E.1 6)), (1, .int year)] [] w
  have hyi : year.toInt = (y : Int) := by rw [hyr]; exact nI_toInt (by omega)
  refine g_iload_n 1 dX0_wasKept_0 rfl rfl ?_
  refine ca_X0_46 dX0_wasKept_1 (t_X6_isYear) (by decide) (Nat.le_of_ble_eq_true rfl) ?_
  refine g_if_eqb 22 dX0_wasKept_4 (by decide) (fun h4 => False.elim (by exact h4 (by omega))) (fun h4 => ?_)
  refine g_aload_n 0 dX0_wasKept_7 rfl rfl ?_
  refine gf_X0_69 dX0_wasKept_8 ?_
  refine g_iload_n 1 dX0_wasKept_11 rfl rfl ?_
  refine g_ishr dX0_wasKept_12 ?_
  refine g_iconst 1 dX0_wasKept_13 rfl ?_
  refine g_iand dX0_wasKept_14 ?_
  refine g_if_eq 22 dX0_wasKept_15 (by decide) (fun h15 => ?_) (fun h15 => ?_)
  · refine g_iconst 0 dX0_wasKept_22 rfl ?_
    refine g_iret dX0_wasKept_23 rfl rfl ?_ ?_
    · first | (rw [bI_t]; exact h15) | (rw [bI_f]; exact fun z => z h15)
    · rfl
  · refine g_iconst 1 dX0_wasKept_18 rfl ?_
    refine g_goto 23 dX0_wasKept_19 (by decide) ?_
    refine g_iret dX0_wasKept_23 rfl rfl ?_ ?_
    · first | (rw [bI_t]; exact h15) | (rw [bI_f]; exact fun z => z h15)
    · rfl
abbrev chP (a b : Nat → Int32) : Prop := ¬ (a 1 = b 1 ∧ a 2 = b 2 ∧ a 3 = b 3 ∧ a 4 = b 4)
set_option maxRecDepth 20000 in
theorem t_X0_hasChanged {E : En} {w : W0} {y : Nat} {year : Int32} (hy : y < 10) (hyr : year = nI y) : Mt E 3 yX0_hasChanged cX0_hasChanged 3 (some .boolean) [.ref (E.1 6), .int year] w (some (.int (bI (chP (w (36 + y)) (w (47 + y)))))) w := by
  refine Mt.of (by decide +kernel) (Nat.le_of_ble_eq_true rfl) ?_
  show G E 3 RX0 cX0_hasChanged 3 (some .boolean) _ _ 0 [(0, .ref (E.1 6)), (1, .int year)] [] w
  refine g_iconst 1 dX0_hasChanged_0 rfl ?_
  refine g_istN_n dX0_hasChanged_1 rfl (by decide) rfl ?_
  refine g_iload_n 0 dX0_hasChanged_2 rfl rfl ?_
  refine g_iconst 4 dX0_hasChanged_3 rfl ?_
  refine g_icmp_gt 30 1 4 dX0_hasChanged_4 (by decide) rfl rfl (fun h4 => False.elim (by omega)) (fun h4 => ?_)
  refine g_aload_n 1 dX0_hasChanged_7 rfl rfl ?_
  refine g_iload_n 2 dX0_hasChanged_8 rfl rfl ?_
  refine g_iload_n 0 dX0_hasChanged_9 rfl rfl ?_
  refine ca_X0_59 dX0_hasChanged_10 (t_X0_entry (p := 1) hy hyr rfl (by decide)) (by decide) (Nat.le_of_ble_eq_true rfl) ?_
  refine g_aload_n 1 dX0_hasChanged_13 rfl rfl ?_
  refine g_iload_n 2 dX0_hasChanged_14 rfl rfl ?_
  refine g_iload_n 0 dX0_hasChanged_15 rfl rfl ?_
  refine ca_X0_79 dX0_hasChanged_16 (t_X0_keptEntry (p := 1) hy hyr rfl (by decide)) (by decide) (Nat.le_of_ble_eq_true rfl) ?_
  refine g_icmp_eq 24 dX0_hasChanged_19 (by decide) (fun h19 => ?_) (fun h19 => ?_)
  · refine g_iinc 1 [] _ dX0_hasChanged_24 rfl (by decide) rfl ?_
    refine g_goto 2 dX0_hasChanged_27 (by decide) ?_
    refine g_iload_n 0 dX0_hasChanged_2 rfl rfl ?_
    refine g_iconst 4 dX0_hasChanged_3 rfl ?_
    refine g_icmp_gt 30 2 4 dX0_hasChanged_4 (by decide) rfl rfl (fun h4 => False.elim (by omega)) (fun h4 => ?_)
    refine g_aload_n 1 dX0_hasChanged_7 rfl rfl ?_
    refine g_iload_n 2 dX0_hasChanged_8 rfl rfl ?_
    refine g_iload_n 0 dX0_hasChanged_9 rfl rfl ?_
    refine ca_X0_59 dX0_hasChanged_10 (t_X0_entry (p := 2) hy hyr rfl (by decide)) (by decide) (Nat.le_of_ble_eq_true rfl) ?_
    refine g_aload_n 1 dX0_hasChanged_13 rfl rfl ?_
    refine g_iload_n 2 dX0_hasChanged_14 rfl rfl ?_
    refine g_iload_n 0 dX0_hasChanged_15 rfl rfl ?_
    refine ca_X0_79 dX0_hasChanged_16 (t_X0_keptEntry (p := 2) hy hyr rfl (by decide)) (by decide) (Nat.le_of_ble_eq_true rfl) ?_
    refine g_icmp_eq 24 dX0_hasChanged_19 (by decide) (fun h19 => ?_) (fun h19 => ?_)
    · refine g_iinc 1 [] _ dX0_hasChanged_24 rfl (by decide) rfl ?_
      refine g_goto 2 dX0_hasChanged_27 (by decide) ?_
      refine g_iload_n 0 dX0_hasChanged_2 rfl rfl ?_
      refine g_iconst 4 dX0_hasChanged_3 rfl ?_
      refine g_icmp_gt 30 3 4 dX0_hasChanged_4 (by decide) rfl rfl (fun h4 => False.elim (by omega)) (fun h4 => ?_)
      refine g_aload_n 1 dX0_hasChanged_7 rfl rfl ?_
      refine g_iload_n 2 dX0_hasChanged_8 rfl rfl ?_
      refine g_iload_n 0 dX0_hasChanged_9 rfl rfl ?_
      refine ca_X0_59 dX0_hasChanged_10 (t_X0_entry (p := 3) hy hyr rfl (by decide)) (by decide) (Nat.le_of_ble_eq_true rfl) ?_
      refine g_aload_n 1 dX0_hasChanged_13 rfl rfl ?_
      refine g_iload_n 2 dX0_hasChanged_14 rfl rfl ?_
      refine g_iload_n 0 dX0_hasChanged_15 rfl rfl ?_
      refine ca_X0_79 dX0_hasChanged_16 (t_X0_keptEntry (p := 3) hy hyr rfl (by decide)) (by decide) (Nat.le_of_ble_eq_true rfl) ?_
      refine g_icmp_eq 24 dX0_hasChanged_19 (by decide) (fun h19 => ?_) (fun h19 => ?_)
      · refine g_iinc 1 [] _ dX0_hasChanged_24 rfl (by decide) rfl ?_
        refine g_goto 2 dX0_hasChanged_27 (by decide) ?_
        refine g_iload_n 0 dX0_hasChanged_2 rfl rfl ?_
        refine g_iconst 4 dX0_hasChanged_3 rfl ?_
        refine g_icmp_gt 30 4 4 dX0_hasChanged_4 (by decide) rfl rfl (fun h4 => False.elim (by omega)) (fun h4 => ?_)
        refine g_aload_n 1 dX0_hasChanged_7 rfl rfl ?_
        refine g_iload_n 2 dX0_hasChanged_8 rfl rfl ?_
        refine g_iload_n 0 dX0_hasChanged_9 rfl rfl ?_
        refine ca_X0_59 dX0_hasChanged_10 (t_X0_entry (p := 4) hy hyr rfl (by decide)) (by decide) (Nat.le_of_ble_eq_true rfl) ?_
        refine g_aload_n 1 dX0_hasChanged_13 rfl rfl ?_
        refine g_iload_n 2 dX0_hasChanged_14 rfl rfl ?_
        refine g_iload_n 0 dX0_hasChanged_15 rfl rfl ?_
        refine ca_X0_79 dX0_hasChanged_16 (t_X0_keptEntry (p := 4) hy hyr rfl (by decide)) (by decide) (Nat.le_of_ble_eq_true rfl) ?_
        refine g_icmp_eq 24 dX0_hasChanged_19 (by decide) (fun h19 => ?_) (fun h19 => ?_)
        · refine g_iinc 1 [] _ dX0_hasChanged_24 rfl (by decide) rfl ?_
          refine g_goto 2 dX0_hasChanged_27 (by decide) ?_
          refine g_iload_n 0 dX0_hasChanged_2 rfl rfl ?_
          refine g_iconst 4 dX0_hasChanged_3 rfl ?_
          refine g_icmp_gt 30 5 4 dX0_hasChanged_4 (by decide) rfl rfl (fun h4 => ?_) (fun h4 => False.elim (by omega))
          refine g_iconst 0 dX0_hasChanged_30 rfl ?_
          refine g_iret dX0_hasChanged_31 rfl rfl ?_ ?_
          · first | (rw [bI_t]; simp_all; done) | (rw [bI_f]; simp_all; done)
          · rfl
        · refine g_iconst 1 dX0_hasChanged_22 rfl ?_
          refine g_iret dX0_hasChanged_23 rfl rfl ?_ ?_
          · first | (rw [bI_t]; simp_all; done) | (rw [bI_f]; simp_all; done)
          · rfl
      · refine g_iconst 1 dX0_hasChanged_22 rfl ?_
        refine g_iret dX0_hasChanged_23 rfl rfl ?_ ?_
        · first | (rw [bI_t]; simp_all; done) | (rw [bI_f]; simp_all; done)
        · rfl
    · refine g_iconst 1 dX0_hasChanged_22 rfl ?_
      refine g_iret dX0_hasChanged_23 rfl rfl ?_ ?_
      · first | (rw [bI_t]; simp_all; done) | (rw [bI_f]; simp_all; done)
      · rfl
  · refine g_iconst 1 dX0_hasChanged_22 rfl ?_
    refine g_iret dX0_hasChanged_23 rfl rfl ?_ ?_
    · first | (rw [bI_t]; simp_all; done) | (rw [bI_f]; simp_all; done)
    · rfl
def cyF (w : W0) : Nat → Int32
  | 0 => 0
  | k + 1 => if ¬ (w 6 2 >>> (nI k &&& 31)) &&& 1 = 0 ∧ chP (w (36 + k)) (w (47 + k)) then cyF w k ||| (1 <<< (nI k &&& 31)) else cyF w k
theorem cyF_s (w : W0) (k : Nat) : cyF w (k + 1) = if ¬ (w 6 2 >>> (nI k &&& 31)) &&& 1 = 0 ∧ chP (w (36 + k)) (w (47 + k)) then cyF w k ||| (1 <<< (nI k &&& 31)) else cyF w k := rfl
theorem cyF_or (w : W0) (k : Nat) : (¬ (w 6 2 >>> (nI k &&& 31)) &&& 1 = 0 ∧ chP (w (36 + k)) (w (47 + k)) ∧ cyF w (k + 1) = cyF w k ||| (1 <<< (nI k &&& 31))) ∨ (¬ (¬ (w 6 2 >>> (nI k &&& 31)) &&& 1 = 0 ∧ chP (w (36 + k)) (w (47 + k))) ∧ cyF w (k + 1) = cyF w k) := by
  by_cases h : ¬ (w 6 2 >>> (nI k &&& 31)) &&& 1 = 0 ∧ chP (w (36 + k)) (w (47 + k))
  · exact Or.inl ⟨h.1, h.2, if_pos h⟩
  · exact Or.inr ⟨h, if_neg h⟩
set_option maxRecDepth 20000 in
theorem l_changedYears {E : En} {w : W0} : ∀ (n : Nat) (k : Nat) (v x : Int32), 10 + 1 ≤ k + n → k ≤ 10 → x = nI k → v = cyF w k → G E 4 RX0 cX0_changedYears 3 (some .int) (some (.int (cyF w 10))) w 4 [(0, .ref (E.1 6)), (1, .int v), (2, .int x)] [] w := by
  intro n
  induction n with
  | zero =>
    intro k v x hfu hk hx hv
    exact absurd hfu (by omega)
  | succ n ih =>
    intro k v x hfu hk hx hv
    have hxi : x.toInt = (k : Int) := by rw [hx]; exact nI_toInt (by omega)
    have hxn : x.toNatClampNeg = k := by rw [hx]; exact nI_clamp (by omega)
    refine g_iload_n 2 dX0_changedYears_4 rfl rfl ?_
    refine g_bipush 10 dX0_changedYears_5 rfl ?_
    refine g_icmp_ge 38 (k : Int) 10 dX0_changedYears_7 (by decide) hxi rfl (fun h7 => ?_) (fun h7 => ?_)
    · refine g_iload_n 1 dX0_changedYears_38 rfl rfl ?_
      refine g_iret dX0_changedYears_39 rfl rfl ?_ ?_
      · rw [hv, show k = 10 by omega]
      · rfl
    · refine g_aload_n 0 dX0_changedYears_10 rfl rfl ?_
      refine g_iload_n 2 dX0_changedYears_11 rfl rfl ?_
      refine ca_X0_73 dX0_changedYears_12 (t_X0_wasKept (y := k) (by omega) hx) (by decide) (Nat.le_of_ble_eq_true rfl) ?_
      refine g_if_eqb 32 dX0_changedYears_15 (by decide) (fun h15 => ?_) (fun h15 => ?_)
      · refine g_iinc 1 [_, _] _ dX0_changedYears_32 rfl (by decide) rfl ?_
        refine g_goto 4 dX0_changedYears_35 (by decide) ?_
        refine ih (k + 1) _ _ (by omega) (by omega) (by rw [hx, nI_1]) ?_
        clear ih
        rcases cyF_or w k with ⟨z1, z2, e⟩ | ⟨z, e⟩ <;> rw [e, hv] <;> first | rfl | (rw [hx]; done) | (exfalso; rw [hx] at h15; exact h15 z1) | (exfalso; exact h23 z2) | (exfalso; rw [hx] at h15; exact z ⟨h15, h23⟩)
      · refine g_aload_n 0 dX0_changedYears_18 rfl rfl ?_
        refine g_iload_n 2 dX0_changedYears_19 rfl rfl ?_
        refine ca_X0_76 dX0_changedYears_20 (t_X0_hasChanged (y := k) (by omega) hx) (by decide) (Nat.le_of_ble_eq_true rfl) ?_
        refine g_if_eqb 32 dX0_changedYears_23 (by decide) (fun h23 => ?_) (fun h23 => ?_)
        · refine g_iinc 1 [_, _] _ dX0_changedYears_32 rfl (by decide) rfl ?_
          refine g_goto 4 dX0_changedYears_35 (by decide) ?_
          refine ih (k + 1) _ _ (by omega) (by omega) (by rw [hx, nI_1]) ?_
          clear ih
          rcases cyF_or w k with ⟨z1, z2, e⟩ | ⟨z, e⟩ <;> rw [e, hv] <;> first | rfl | (rw [hx]; done) | (exfalso; rw [hx] at h15; exact h15 z1) | (exfalso; exact h23 z2) | (exfalso; rw [hx] at h15; exact z ⟨h15, h23⟩)
        · refine g_iload_n 1 dX0_changedYears_26 rfl rfl ?_
          refine g_iconst 1 dX0_changedYears_27 rfl ?_
          refine g_iload_n 2 dX0_changedYears_28 rfl rfl ?_
          refine g_ishl dX0_changedYears_29 ?_
          refine g_ior dX0_changedYears_30 ?_
          refine g_ist_n [_] _ dX0_changedYears_31 rfl (by decide) rfl ?_
          refine g_iinc 1 [_, _] _ dX0_changedYears_32 rfl (by decide) rfl ?_
          refine g_goto 4 dX0_changedYears_35 (by decide) ?_
          refine ih (k + 1) _ _ (by omega) (by omega) (by rw [hx, nI_1]) ?_
          clear ih
          rcases cyF_or w k with ⟨z1, z2, e⟩ | ⟨z, e⟩ <;> rw [e, hv] <;> first | rfl | (rw [hx]; done) | (exfalso; rw [hx] at h15; exact h15 z1) | (exfalso; exact h23 z2) | (exfalso; rw [hx] at h15; exact z ⟨h15, h23⟩)
set_option maxRecDepth 20000 in
theorem t_X0_changedYears {E : En} {w : W0} : Mt E 4 yX0_changedYears cX0_changedYears 3 (some .int) [.ref (E.1 6)] w (some (.int (cyF w 10))) w := by
  refine Mt.of (by decide +kernel) (Nat.le_of_ble_eq_true rfl) ?_
  show G E 4 RX0 cX0_changedYears 3 (some .int) _ _ 0 [(0, .ref (E.1 6))] [] w
  refine g_iconst 0 dX0_changedYears_0 rfl ?_
  refine g_istN_n dX0_changedYears_1 rfl (by decide) rfl ?_
  refine g_iconst 0 dX0_changedYears_2 rfl ?_
  refine g_istN_n dX0_changedYears_3 rfl (by decide) rfl ?_
  refine g_lv [2, 1, 0] rfl ?_
  exact l_changedYears 11 0 _ _ (by omega) (by omega) rfl rfl
def keptW (w : W0) (y k : Nat) : W0 := setA w (47 + y) (fillF (w (36 + y)) (w (47 + y)) k)
theorem keptW_0 (w : W0) (y : Nat) : keptW w y 0 = w := by
  unfold keptW
  rw [fillF_0, setA_self]
def keepW (w : W0) (y : Nat) : W0 := setW (keptW w y 6) 6 2 (w 6 2 ||| (1 <<< (nI y &&& 31)))
set_option maxRecDepth 20000 in
theorem l_keep {E : En} {w : W0} {y : Nat} {year : Int32} (hy : y < 10) (hyr : year = nI y) : ∀ (n : Nat) (k : Nat) (x : Int32), 6 + 1 ≤ k + n → k ≤ 6 → x = nI k → G E 2 RX0 cX0_keep 3 (none) none (keepW w y) 10 [(0, .ref (E.1 6)), (1, .int year), (2, .int x)] [] (keptW w y k) := by
  intro n
  induction n with
  | zero =>
    intro k x hfu hk hx
    exact absurd hfu (by omega)
  | succ n ih =>
    intro k x hfu hk hx
    have hxi : x.toInt = (k : Int) := by rw [hx]; exact nI_toInt (by omega)
    have hxn : x.toNatClampNeg = k := by rw [hx]; exact nI_clamp (by omega)
    have hyi : year.toInt = (y : Int) := by rw [hyr]; exact nI_toInt (by omega)
    have hyn : year.toNatClampNeg = y := by rw [hyr]; exact nI_clamp (by omega)
    unfold keptW
    refine g_iload_n 2 dX0_keep_10 rfl rfl ?_
    refine g_bipush 6 dX0_keep_11 rfl ?_
    refine g_icmp_ge 38 (k : Int) 6 dX0_keep_13 (by decide) hxi rfl (fun h13 => ?_) (fun h13 => ?_)
    · refine g_aload_n 0 dX0_keep_38 rfl rfl ?_
      refine g_dup dX0_keep_39 rfl ?_
      refine gf_X0_69 dX0_keep_40 ?_
      (try simp (disch := omega) only [setW_ne, setW_p, setA_ne, setA_p, upd_self, lpF_setA, lpF_setW, lpF_row, lpF_row2, limC_setA, limC_setW])
      refine g_iconst 1 dX0_keep_43 rfl ?_
      refine g_iload_n 1 dX0_keep_44 rfl rfl ?_
      refine g_ishl dX0_keep_45 ?_
      refine g_ior dX0_keep_46 ?_
      refine pf_X0_69 dX0_keep_47 ?_
      (try simp (disch := omega) only [setW_setA, setW_setA_ne])
      refine g_vret dX0_keep_50 rfl rfl ?_
      · unfold keepW keptW; rw [show k = 6 by omega, hyr]; try simp (disch := omega) only [setW_setA, setW_setA_ne]
    · refine g_aload_n 0 dX0_keep_16 rfl rfl ?_
      refine gf_X0_16 dX0_keep_17 ?_
      refine g_iload_n 1 dX0_keep_20 rfl rfl ?_
      refine g_aald (n := 10) (b := 47) y dX0_keep_21 (by decide) rfl rf_46 hyn (by omega) (fun hj21 => ?_)
      refine g_iload_n 2 dX0_keep_22 rfl rfl ?_
      refine g_aload_n 0 dX0_keep_23 rfl rfl ?_
      refine gf_X0_11 dX0_keep_24 ?_
      refine g_iload_n 1 dX0_keep_27 rfl rfl ?_
      refine g_aald (n := 10) (b := 36) y dX0_keep_28 (by decide) rfl rf_35 hyn (by omega) (fun hj28 => ?_)
      refine g_iload_n 2 dX0_keep_29 rfl rfl ?_
      refine g_iald (n := 6) k dX0_keep_30 (by show _ < 80; omega) (sh_36 hj28) hxn (by omega) ?_
      (try simp (disch := omega) only [setW_ne, setW_p, setA_ne, setA_p, upd_self, lpF_setA, lpF_setW, lpF_row, lpF_row2, limC_setA, limC_setW])
      refine g_iast (n := 6) k dX0_keep_31 (by show _ < 80; omega) (sh_47 hj21) hxn (by omega) ?_
      (try simp (disch := omega) only [setW_setA, setW_setA_ne])
      refine g_iinc 1 [_, _] _ dX0_keep_32 rfl (by decide) rfl ?_
      refine g_goto 10 dX0_keep_35 (by decide) ?_
      have hh := ih (k + 1) (x + 1) (by omega) (by omega) (by rw [hx, nI_1])
      unfold keptW at hh
      rw [← fillF_s] at hh
      exact hh
set_option maxRecDepth 20000 in
theorem t_X0_keep {E : En} {w : W0} {y : Nat} {year : Int32} (hy : y < 10) (hyr : year = nI y) : Mt E 2 yX0_keep cX0_keep 3 (none) [.ref (E.1 6), .int year] w none (keepW w y) := by
  refine Mt.of (by decide +kernel) (Nat.le_of_ble_eq_true rfl) ?_
  show G E 2 RX0 cX0_keep 3 (none) _ _ 0 [(0, .ref (E.1 6)), (1, .int year)] [] w
  have hyi : year.toInt = (y : Int) := by rw [hyr]; exact nI_toInt (by omega)
  have hyn : year.toNatClampNeg = y := by rw [hyr]; exact nI_clamp (by omega)
  refine g_iload_n 1 dX0_keep_0 rfl rfl ?_
  refine ca_X0_46 dX0_keep_1 (t_X6_isYear) (by decide) (Nat.le_of_ble_eq_true rfl) ?_
  refine g_if_neb 8 dX0_keep_4 (by decide) (fun h4 => ?_) (fun h4 => False.elim (by exact h4 (by omega)))
  refine g_iconst 0 dX0_keep_8 rfl ?_
  refine g_istN_n dX0_keep_9 rfl (by decide) rfl ?_
  refine g_lv [1, 2, 0] rfl ?_
  have hl := l_keep (E := E) (w := w) hy hyr 7 0 _ (by omega) (by omega) rfl
  rw [keptW_0] at hl
  exact hl
def potF (w : W0) (nw ni D : Nat) : Int32 := w (36 + D / 360) 0 + (sumF (w 26) (w 30) (w 24) (w 25) 1 (nI (D / 360 * 360)) (nI D) ni - sumF (w 26) (w 30) (w 24) (w 25) 0 (nI (D / 360 * 360)) (nI D) ni) - gbF (w 20) (w 21) (nI (D / 360 * 360)) (nI D) nw + (if D % 360 = 359 then w (36 + D / 360) 4 else 0)
set_option maxRecDepth 20000 in
theorem t_X0_potAfter {E : En} {w : W0} {nw ni D : Nat} {day : Int32} (hcw : w 2 5 = nI nw) (hnw : nw ≤ 6) (hci : w 4 7 = nI ni) (hni : ni ≤ 60) (hD : D < 3600) (hday : day = nI D) : Mt E 3 yX0_potAfter cX0_potAfter 9 (some .int) [.ref (E.1 6), .int day, .ref (E.1 2), .ref (E.1 4)] w (some (.int (potF w nw ni D))) w := by
  refine Mt.of (by decide +kernel) (Nat.le_of_ble_eq_true rfl) ?_
  show G E 3 RX0 cX0_potAfter 9 (some .int) _ _ 0 [(0, .ref (E.1 6)), (1, .int day), (2, .ref (E.1 2)), (3, .ref (E.1 4))] [] w
  subst hday
  refine g_iload_n 1 dX0_potAfter_0 rfl rfl ?_
  refine g_sipush 360 dX0_potAfter_1 rfl ?_
  refine g_idiv dX0_potAfter_4 (by decide) ?_
  rw [show nI D / 360 = nI (D / 360) from pk_div (a := D) (d := 360) (by omega) (by omega) (by omega)]
  refine g_istN dX0_potAfter_5 (by decide) rfl ?_
  refine g_iload 0 dX0_potAfter_7 rfl ?_
  refine g_sipush 360 dX0_potAfter_9 rfl ?_
  refine g_imul dX0_potAfter_12 ?_
  rw [show nI (D / 360) * 360 = nI (D / 360 * 360) from pk_mul _ 360]
  refine g_istN dX0_potAfter_13 (by decide) rfl ?_
  refine g_aload_n 5 dX0_potAfter_15 rfl rfl ?_
  refine g_iload 0 dX0_potAfter_16 rfl ?_
  refine g_iload_n 3 dX0_potAfter_18 rfl rfl ?_
  refine ca_X0_23 dX0_potAfter_19 (t_X1_receivedBetween hci hni) (by decide) (Nat.le_of_ble_eq_true rfl) ?_
  refine g_aload_n 5 dX0_potAfter_22 rfl rfl ?_
  refine g_iload 0 dX0_potAfter_23 rfl ?_
  refine g_iload_n 3 dX0_potAfter_25 rfl rfl ?_
  refine ca_X0_29 dX0_potAfter_26 (t_X1_paidBetween hci hni) (by decide) (Nat.le_of_ble_eq_true rfl) ?_
  refine g_isub dX0_potAfter_29 ?_
  refine g_istN dX0_potAfter_30 (by decide) rfl ?_
  refine g_aload_n 3 dX0_potAfter_32 rfl rfl ?_
  refine g_iload 2 dX0_potAfter_33 rfl ?_
  refine g_iconst 0 dX0_potAfter_35 rfl ?_
  refine ca_X0_59 dX0_potAfter_36 (t_X0_entry (p := 0) (by omega) rfl rfl (by decide)) (by decide) (Nat.le_of_ble_eq_true rfl) ?_
  refine g_iload 0 dX0_potAfter_39 rfl ?_
  refine g_iadd dX0_potAfter_41 ?_
  refine g_aload_n 5 dX0_potAfter_42 rfl rfl ?_
  refine g_iload 1 dX0_potAfter_43 rfl ?_
  refine g_iload_n 4 dX0_potAfter_45 rfl rfl ?_
  refine ca_X0_62 dX0_potAfter_46 (t_X5_givenBetween hcw hnw) (by decide) (Nat.le_of_ble_eq_true rfl) ?_
  refine g_isub dX0_potAfter_49 ?_
  refine g_istN dX0_potAfter_50 (by decide) rfl ?_
  refine g_iload_n 5 dX0_potAfter_52 rfl rfl ?_
  refine g_iload 2 dX0_potAfter_53 rfl ?_
  refine g_sipush 360 dX0_potAfter_55 rfl ?_
  refine g_iadd dX0_potAfter_58 ?_
  refine g_iconst 1 dX0_potAfter_59 rfl ?_
  refine g_isub dX0_potAfter_60 ?_
  refine g_icmp_ne 68 dX0_potAfter_61 (by decide) (fun h61 => ?_) (fun h61 => ?_)
  · refine g_iconst 0 dX0_potAfter_68 rfl ?_
    refine g_istN dX0_potAfter_69 (by decide) rfl ?_
    refine g_iload 0 dX0_potAfter_71 rfl ?_
    refine g_if_eq 89 dX0_potAfter_73 (by decide) (fun h73 => ?_) (fun h73 => False.elim (by exact absurd h73 (by decide)))
    refine g_iload 1 dX0_potAfter_89 rfl ?_
    refine g_iret dX0_potAfter_91 rfl rfl ?_ ?_
    · rw [show nI (D / 360 * 360) + 360 - 1 = nI (D / 360 * 360 + 359) by rw [show (360 : Int32) = nI 360 from rfl, nI_add, show D / 360 * 360 + 360 = (D / 360 * 360 + 359) + 1 by omega]; exact nI_pred _, nI_eq (by omega) (by omega)] at h61; unfold potF; first | (rw [if_pos (by omega)]; done) | (rw [if_neg (by omega), Int32.add_zero]; done)
    · rfl
  · refine g_iconst 1 dX0_potAfter_64 rfl ?_
    refine g_goto 69 dX0_potAfter_65 (by decide) ?_
    refine g_istN dX0_potAfter_69 (by decide) rfl ?_
    refine g_iload 0 dX0_potAfter_71 rfl ?_
    refine g_if_eq 89 dX0_potAfter_73 (by decide) (fun h73 => False.elim (by exact absurd h73 (by decide))) (fun h73 => ?_)
    refine g_iload 1 dX0_potAfter_76 rfl ?_
    refine g_aload_n 5 dX0_potAfter_78 rfl rfl ?_
    refine g_iload 4 dX0_potAfter_79 rfl ?_
    refine g_iconst 4 dX0_potAfter_81 rfl ?_
    refine ca_X0_59 dX0_potAfter_82 (t_X0_entry (p := 4) (by omega) rfl rfl (by decide)) (by decide) (Nat.le_of_ble_eq_true rfl) ?_
    refine g_iadd dX0_potAfter_85 ?_
    refine g_goto 91 dX0_potAfter_86 (by decide) ?_
    refine g_iret dX0_potAfter_91 rfl rfl ?_ ?_
    · rw [show nI (D / 360 * 360) + 360 - 1 = nI (D / 360 * 360 + 359) by rw [show (360 : Int32) = nI 360 from rfl, nI_add, show D / 360 * 360 + 360 = (D / 360 * 360 + 359) + 1 by omega]; exact nI_pred _, nI_eq (by omega) (by omega)] at h61; unfold potF; first | (rw [if_pos (by omega)]; done) | (rw [if_neg (by omega), Int32.add_zero]; done)
    · rfl

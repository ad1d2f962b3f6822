/-! WardCourtModel: all but lay -/
theorem bI_iff {p q : Prop} [Decidable p] [Decidable q] (h : p ↔ q) : bI p = bI q := by
  by_cases hp : p
  · rw [bI_t hp, bI_t (h.mp hp)]
  · rw [bI_f hp, bI_f (fun z => hp (h.mpr z))]
abbrev inP (i : Int32) (n : Nat) : Prop := 0 ≤ i.toInt ∧ i.toInt < (n : Int)
theorem eqN {x y : Int32} {n m : Nat} (h : x = nI n) (hy : y = nI m) (h1 : n < 1000) (h2 : m < 1000) (he : x = y) : n = m := by
  rw [h, hy] at he
  exact (nI_eq (by omega) (by omega)).mp he
theorem ltN {x y : Int32} {n m : Nat} (h : x = nI n) (hy : y = nI m) (hn : n ≤ m) (hne : ¬ x = y) : n < m := by
  rcases Nat.lt_or_ge n m with q | q
  · exact q
  · exact absurd (by rw [h, hy, show n = m by omega]) hne
theorem nI_m1 {x : Int32} {n : Nat} (h : x = nI n) (hn : n < 1000) : (x - 1).toInt = (n : Int) - 1 := by
  subst h
  exact pk_sub_toInt (a := n) (b := 1) (by omega) (by omega)
theorem ix5w {x : Int32} {n c : Nat} (hx : x = nI n) (hn : n < 8) (hc : c < 5) : (5 * x + nI c).toNatClampNeg = 5 * n + c ∧ 0 ≤ (5 * x + nI c).toInt ∧ (5 * x + nI c).toInt < 40 := by
  subst hx
  rw [show (5 : Int32) * nI n = nI (5 * n) from pk_mul 5 n, nI_add, nI_clamp (by omega), nI_toInt (by omega)]
  omega
theorem ix50 {x : Int32} {n : Nat} (hx : x = nI n) (hn : n < 8) : (5 * x).toNatClampNeg = 5 * n ∧ 0 ≤ (5 * x).toInt ∧ (5 * x).toInt < 40 := by
  subst hx
  rw [show (5 : Int32) * nI n = nI (5 * n) from pk_mul 5 n, nI_clamp (by omega), nI_toInt (by omega)]
  omega
def bestM (f : Nat → Int32) (day : Int32) : Nat → Int32
  | 0 => -6
  | k + 1 => if (f k).toInt ≤ day.toInt ∧ ((bestM f day k).toInt < 0 ∨ (f (bestM f day k).toNatClampNeg).toInt ≤ (f k).toInt) then nI k else bestM f day k
theorem bestM_s (f : Nat → Int32) (day : Int32) (k : Nat) : bestM f day (k + 1) = if (f k).toInt ≤ day.toInt ∧ ((bestM f day k).toInt < 0 ∨ (f (bestM f day k).toNatClampNeg).toInt ≤ (f k).toInt) then nI k else bestM f day k := rfl
theorem bestM_lt {f : Nat → Int32} {day : Int32} : ∀ (k : Nat), k < 1000 → (bestM f day k).toInt < k
  | 0, _ => by
    show (-6 : Int32).toInt < ((0 : Nat) : Int)
    decide
  | k + 1, h => by
    have h1 := bestM_lt (f := f) (day := day) k (by omega)
    rw [bestM_s]
    split
    · rw [nI_toInt (by omega)]
      omega
    · omega
def lawM (f g : Nat → Int32) (nl : Nat) (day : Int32) (p : Nat) : Int32 := if (bestM f day nl).toInt < 0 then bef p else g (5 * (bestM f day nl).toNatClampNeg + p)
set_option maxRecDepth 20000 in
theorem t_X7_in {E : En} {w : W0} {a b c : Int32} (B C : Int) (hB : b.toInt = B) (hC : c.toInt = C) : Mt E 0 yX7_in cX7_in 3 (some .boolean) [.int a, .int b, .int c] w (some (.int (bI (B ≤ a.toInt ∧ a.toInt ≤ C)))) w := by
  refine Mt.of (by decide +kernel) (Nat.le_of_ble_eq_true rfl) ?_
  show G E 0 RX7 cX7_in 3 (some .boolean) _ _ 0 [(0, .int a), (1, .int b), (2, .int c)] [] w
  refine g_iload_n 0 dX7_in_0 rfl rfl ?_
  refine g_iload_n 1 dX7_in_1 rfl rfl ?_
  refine g_icmp_lt 14 _ _ dX7_in_2 (by decide) rfl rfl (fun h2 => ?_) (fun h2 => ?_)
  · refine g_iconst 0 dX7_in_14 rfl ?_
    refine g_iret dX7_in_15 rfl rfl ?_ ?_
    · first | (rw [bI_t]; omega) | (rw [bI_f]; omega)
    · rfl
  · refine g_iload_n 0 dX7_in_5 rfl rfl ?_
    refine g_iload_n 2 dX7_in_6 rfl rfl ?_
    refine g_icmp_gt 14 _ _ dX7_in_7 (by decide) rfl rfl (fun h7 => ?_) (fun h7 => ?_)
    · refine g_iconst 0 dX7_in_14 rfl ?_
      refine g_iret dX7_in_15 rfl rfl ?_ ?_
      · first | (rw [bI_t]; omega) | (rw [bI_f]; omega)
      · rfl
    · refine g_iconst 1 dX7_in_10 rfl ?_
      refine g_goto 15 dX7_in_11 (by decide) ?_
      refine g_iret dX7_in_15 rfl rfl ?_ ?_
      · first | (rw [bI_t]; omega) | (rw [bI_f]; omega)
      · rfl
set_option maxRecDepth 20000 in
theorem t_X7_isDay {E : En} {w : W0} {a : Int32} : Mt E 1 yX7_isDay cX7_isDay 1 (some .boolean) [.int a] w (some (.int (bI (dayP a)))) w := by
  refine Mt.of (by decide +kernel) (Nat.le_of_ble_eq_true rfl) ?_
  show G E 1 RX7 cX7_isDay 1 (some .boolean) _ _ 0 [(0, .int a)] [] w
  refine g_iload_n 0 dX7_isDay_0 rfl rfl ?_
  refine g_iconst 0 dX7_isDay_1 rfl ?_
  refine g_sipush 3599 dX7_isDay_2 rfl ?_
  refine ca_X7_77 dX7_isDay_5 (t_X7_in 0 3599 rfl rfl) (by decide) (Nat.le_of_ble_eq_true rfl) ?_
  refine g_iret dX7_isDay_8 rfl nar_b ?_ ?_
  · rfl
  · rfl
set_option maxRecDepth 20000 in
theorem t_X7_isYear {E : En} {w : W0} {a : Int32} : Mt E 1 yX7_isYear cX7_isYear 1 (some .boolean) [.int a] w (some (.int (bI (yearP a)))) w := by
  refine Mt.of (by decide +kernel) (Nat.le_of_ble_eq_true rfl) ?_
  show G E 1 RX7 cX7_isYear 1 (some .boolean) _ _ 0 [(0, .int a)] [] w
  refine g_iload_n 0 dX7_isYear_0 rfl rfl ?_
  refine g_iconst 0 dX7_isYear_1 rfl ?_
  refine g_bipush 9 dX7_isYear_2 rfl ?_
  refine ca_X7_77 dX7_isYear_4 (t_X7_in 0 9 rfl rfl) (by decide) (Nat.le_of_ble_eq_true rfl) ?_
  refine g_iret dX7_isYear_7 rfl nar_b ?_ ?_
  · rfl
  · rfl
set_option maxRecDepth 20000 in
theorem t_X7_isWard {E : En} {w : W0} {nw : Nat} {i : Int32} (hcw : w 57 3 = nI nw) (hnw : nw ≤ 6) : Mt E 1 yX7_isWard cX7_isWard 2 (some .boolean) [.ref (E.1 57), .int i] w (some (.int (bI (inP i nw)))) w := by
  refine Mt.of (by decide +kernel) (Nat.le_of_ble_eq_true rfl) ?_
  show G E 1 RX7 cX7_isWard 2 (some .boolean) _ _ 0 [(0, .ref (E.1 57)), (1, .int i)] [] w
  refine g_iload_n 1 dX7_isWard_0 rfl rfl ?_
  refine g_iconst 0 dX7_isWard_1 rfl ?_
  refine g_aload_n 0 dX7_isWard_2 rfl rfl ?_
  refine gf_X7_101 dX7_isWard_3 ?_
  refine g_iconst 1 dX7_isWard_6 rfl ?_
  refine g_isub dX7_isWard_7 ?_
  refine ca_X7_77 dX7_isWard_8 (t_X7_in 0 _ rfl rfl) (by decide) (Nat.le_of_ble_eq_true rfl) ?_
  refine g_iret dX7_isWard_11 rfl nar_b ?_ ?_
  · refine congrArg (fun z : Int32 => some (Value.int z)) (bI_iff ?_); rw [nI_m1 hcw (by omega)]; omega
  · rfl
set_option maxRecDepth 20000 in
theorem t_X7_isLeave {E : En} {w : W0} {nv : Nat} {i : Int32} (hcv : w 57 6 = nI nv) (hnv : nv ≤ 10) : Mt E 1 yX7_isLeave cX7_isLeave 2 (some .boolean) [.ref (E.1 57), .int i] w (some (.int (bI (inP i nv)))) w := by
  refine Mt.of (by decide +kernel) (Nat.le_of_ble_eq_true rfl) ?_
  show G E 1 RX7 cX7_isLeave 2 (some .boolean) _ _ 0 [(0, .ref (E.1 57)), (1, .int i)] [] w
  refine g_iload_n 1 dX7_isLeave_0 rfl rfl ?_
  refine g_iconst 0 dX7_isLeave_1 rfl ?_
  refine g_aload_n 0 dX7_isLeave_2 rfl rfl ?_
  refine gf_X7_120 dX7_isLeave_3 ?_
  refine g_iconst 1 dX7_isLeave_6 rfl ?_
  refine g_isub dX7_isLeave_7 ?_
  refine ca_X7_77 dX7_isLeave_8 (t_X7_in 0 _ rfl rfl) (by decide) (Nat.le_of_ble_eq_true rfl) ?_
  refine g_iret dX7_isLeave_11 rfl nar_b ?_ ?_
  · refine congrArg (fun z : Int32 => some (Value.int z)) (bI_iff ?_); rw [nI_m1 hcv (by omega)]; omega
  · rfl
set_option maxRecDepth 20000 in
theorem t_X7_isLease {E : En} {w : W0} {ne : Nat} {i : Int32} (hce : w 57 16 = nI ne) (hne : ne ≤ 10) : Mt E 1 yX7_isLease cX7_isLease 2 (some .boolean) [.ref (E.1 57), .int i] w (some (.int (bI (inP i ne)))) w := by
  refine Mt.of (by decide +kernel) (Nat.le_of_ble_eq_true rfl) ?_
  show G E 1 RX7 cX7_isLease 2 (some .boolean) _ _ 0 [(0, .ref (E.1 57)), (1, .int i)] [] w
  refine g_iload_n 1 dX7_isLease_0 rfl rfl ?_
  refine g_iconst 0 dX7_isLease_1 rfl ?_
  refine g_aload_n 0 dX7_isLease_2 rfl rfl ?_
  refine gf_X7_126 dX7_isLease_3 ?_
  refine g_iconst 1 dX7_isLease_6 rfl ?_
  refine g_isub dX7_isLease_7 ?_
  refine ca_X7_77 dX7_isLease_8 (t_X7_in 0 _ rfl rfl) (by decide) (Nat.le_of_ble_eq_true rfl) ?_
  refine g_iret dX7_isLease_11 rfl nar_b ?_ ?_
  · refine congrArg (fun z : Int32 => some (Value.int z)) (bI_iff ?_); rw [nI_m1 hce (by omega)]; omega
  · rfl
set_option maxRecDepth 20000 in
theorem t_X7_isItem {E : En} {w : W0} {ni : Nat} {i : Int32} (hci : w 57 9 = nI ni) (hni : ni ≤ 60) : Mt E 1 yX7_isItem cX7_isItem 2 (some .boolean) [.ref (E.1 57), .int i] w (some (.int (bI (inP i ni)))) w := by
  refine Mt.of (by decide +kernel) (Nat.le_of_ble_eq_true rfl) ?_
  show G E 1 RX7 cX7_isItem 2 (some .boolean) _ _ 0 [(0, .ref (E.1 57)), (1, .int i)] [] w
  refine g_iload_n 1 dX7_isItem_0 rfl rfl ?_
  refine g_iconst 0 dX7_isItem_1 rfl ?_
  refine g_aload_n 0 dX7_isItem_2 rfl rfl ?_
  refine gf_X7_129 dX7_isItem_3 ?_
  refine g_iconst 1 dX7_isItem_6 rfl ?_
  refine g_isub dX7_isItem_7 ?_
  refine ca_X7_77 dX7_isItem_8 (t_X7_in 0 _ rfl rfl) (by decide) (Nat.le_of_ble_eq_true rfl) ?_
  refine g_iret dX7_isItem_11 rfl nar_b ?_ ?_
  · refine congrArg (fun z : Int32 => some (Value.int z)) (bI_iff ?_); rw [nI_m1 hci (by omega)]; omega
  · rfl
set_option maxRecDepth 20000 in
theorem l_lawOn {E : En} {w : W0} {nl : Nat} {day : Int32} (hcl : w 57 0 = nI nl) (hnl : nl ≤ 8) : ∀ (n : Nat) (k : Nat) (v x : Int32), nl + 1 ≤ k + n → k ≤ nl → x = nI k → v = bestM (w 58) day k → G E 0 RX7 cX7_lawOn 4 (some .int) (some (.int (bestM (w 58) day nl))) w 5 [(0, .ref (E.1 57)), (1, .int day), (2, .int v), (3, .int x)] [] w := by
  intro n
  induction n with
  | zero =>
    intro k v x hfu hk hx hv
    exact absurd hfu (by omega)
  | succ n ih =>
    intro k v x hfu hk hx hv
    have hxi : x.toInt = (k : Int) := by rw [hx]; exact nI_toInt (by omega)
    have hxn : x.toNatClampNeg = k := by rw [hx]; exact nI_clamp (by omega)
    have hclI : (w 57 0).toInt = (nl : Int) := by rw [hcl]; exact nI_toInt (by omega)
    have hclN : (w 57 0).toNatClampNeg = nl := by rw [hcl]; exact nI_clamp (by omega)
    have hv2 := bestM_lt (f := w 58) (day := day) k (by omega)
    rw [← hv] at hv2
    refine g_iload_n 3 dX7_lawOn_5 rfl rfl ?_
    refine g_aload_n 0 dX7_lawOn_6 rfl rfl ?_
    refine gf_X7_85 dX7_lawOn_7 ?_
    refine g_icmp_ge 54 (k : Int) _ dX7_lawOn_10 (by decide) hxi rfl (fun h10 => ?_) (fun h10 => ?_)
    · refine g_iload_n 2 dX7_lawOn_54 rfl rfl ?_
      refine g_iret dX7_lawOn_55 rfl rfl ?_ ?_
      · rw [hv, show k = nl by omega]
      · rfl
    · refine g_aload_n 0 dX7_lawOn_13 rfl rfl ?_
      refine gf_X7_7 dX7_lawOn_14 ?_
      refine g_iload_n 3 dX7_lawOn_17 rfl rfl ?_
      refine g_iald (n := 8) k dX7_lawOn_18 (by decide) rfl hxn (by omega) ?_
      refine g_iload_n 1 dX7_lawOn_19 rfl rfl ?_
      refine g_icmp_gt 46 _ _ dX7_lawOn_20 (by decide) rfl rfl (fun h20 => ?_) (fun h20 => ?_)
      · refine g_iload_n 2 dX7_lawOn_46 rfl rfl ?_
        refine g_ist_n [_, _] _ dX7_lawOn_47 rfl (by decide) rfl ?_
        refine g_iinc 1 [_, _, _] _ dX7_lawOn_48 rfl (by decide) rfl ?_
        refine g_goto 5 dX7_lawOn_51 (by decide) ?_
        exact ih (k + 1) _ _ (by omega) (by omega) (by rw [hx, nI_1]) (by rw [bestM_s, ← hv]; split <;> first | rfl | exact hx | (exfalso; omega))
      · refine g_iload_n 2 dX7_lawOn_23 rfl rfl ?_
        refine g_if_lt 42 _ dX7_lawOn_24 (by decide) rfl (fun h24 => ?_) (fun h24 => ?_)
        · refine g_iload_n 3 dX7_lawOn_42 rfl rfl ?_
          refine g_goto 47 dX7_lawOn_43 (by decide) ?_
          refine g_ist_n [_, _] _ dX7_lawOn_47 rfl (by decide) rfl ?_
          refine g_iinc 1 [_, _, _] _ dX7_lawOn_48 rfl (by decide) rfl ?_
          refine g_goto 5 dX7_lawOn_51 (by decide) ?_
          exact ih (k + 1) _ _ (by omega) (by omega) (by rw [hx, nI_1]) (by rw [bestM_s, ← hv]; split <;> first | rfl | exact hx | (exfalso; omega))
        · refine g_aload_n 0 dX7_lawOn_27 rfl rfl ?_
          refine gf_X7_7 dX7_lawOn_28 ?_
          refine g_iload_n 3 dX7_lawOn_31 rfl rfl ?_
          refine g_iald (n := 8) k dX7_lawOn_32 (by decide) rfl hxn (by omega) ?_
          refine g_aload_n 0 dX7_lawOn_33 rfl rfl ?_
          refine gf_X7_7 dX7_lawOn_34 ?_
          refine g_iload_n 2 dX7_lawOn_37 rfl rfl ?_
          refine g_iald (n := 8) _ dX7_lawOn_38 (by decide) rfl rfl (by omega) ?_
          refine g_icmp_lt 46 _ _ dX7_lawOn_39 (by decide) rfl rfl (fun h39 => ?_) (fun h39 => ?_)
          · refine g_iload_n 2 dX7_lawOn_46 rfl rfl ?_
            refine g_ist_n [_, _] _ dX7_lawOn_47 rfl (by decide) rfl ?_
            refine g_iinc 1 [_, _, _] _ dX7_lawOn_48 rfl (by decide) rfl ?_
            refine g_goto 5 dX7_lawOn_51 (by decide) ?_
            exact ih (k + 1) _ _ (by omega) (by omega) (by rw [hx, nI_1]) (by rw [bestM_s, ← hv]; split <;> first | rfl | exact hx | (exfalso; omega))
          · refine g_iload_n 3 dX7_lawOn_42 rfl rfl ?_
            refine g_goto 47 dX7_lawOn_43 (by decide) ?_
            refine g_ist_n [_, _] _ dX7_lawOn_47 rfl (by decide) rfl ?_
            refine g_iinc 1 [_, _, _] _ dX7_lawOn_48 rfl (by decide) rfl ?_
            refine g_goto 5 dX7_lawOn_51 (by decide) ?_
            exact ih (k + 1) _ _ (by omega) (by omega) (by rw [hx, nI_1]) (by rw [bestM_s, ← hv]; split <;> first | rfl | exact hx | (exfalso; omega))
set_option maxRecDepth 20000 in
theorem t_X7_lawOn {E : En} {w : W0} {nl : Nat} {day : Int32} (hcl : w 57 0 = nI nl) (hnl : nl ≤ 8) : Mt E 0 yX7_lawOn cX7_lawOn 4 (some .int) [.ref (E.1 57), .int day] w (some (.int (bestM (w 58) day nl))) w := by
  refine Mt.of (by decide +kernel) (Nat.le_of_ble_eq_true rfl) ?_
  show G E 0 RX7 cX7_lawOn 4 (some .int) _ _ 0 [(0, .ref (E.1 57)), (1, .int day)] [] w
  refine g_bipush (-6) dX7_lawOn_0 rfl ?_
  refine g_istN_n dX7_lawOn_2 rfl (by decide) rfl ?_
  refine g_iconst 0 dX7_lawOn_3 rfl ?_
  refine g_istN_n dX7_lawOn_4 rfl (by decide) rfl ?_
  refine g_lv [2, 3, 1, 0] rfl ?_
  exact l_lawOn hcl hnl (nl + 1) 0 _ _ (by omega) (by omega) rfl rfl
set_option maxRecDepth 20000 in
theorem t_X7_inForce {E : En} {w : W0} {nl p : Nat} {day z : Int32} (hcl : w 57 0 = nI nl) (hnl : nl ≤ 8) (hz : z = nI p) (hp : p < 5) : Mt E 1 yX7_inForce cX7_inForce 4 (some .int) [.ref (E.1 57), .int day, .int z] w (some (.int (lawM (w 58) (w 59) nl day p))) w := by
  refine Mt.of (by decide +kernel) (Nat.le_of_ble_eq_true rfl) ?_
  show G E 1 RX7 cX7_inForce 4 (some .int) _ _ 0 [(0, .ref (E.1 57)), (1, .int day), (2, .int z)] [] w
  subst hz
  refine g_aload_n 0 dX7_inForce_0 rfl rfl ?_
  refine g_iload_n 1 dX7_inForce_1 rfl rfl ?_
  refine ca_X7_93 dX7_inForce_2 (t_X7_lawOn hcl hnl) (by decide) (Nat.le_of_ble_eq_true rfl) ?_
  refine g_istN_n dX7_inForce_5 rfl (by decide) rfl ?_
  obtain ⟨v, hv⟩ : ∃ v, v = bestM (w 58) day nl := ⟨_, rfl⟩
  rw [← hv]
  have hv2 := bestM_lt (f := w 58) (day := day) nl (by omega)
  rw [← hv] at hv2
  refine g_iload_n 0 dX7_inForce_6 rfl rfl ?_
  refine g_if_lt 21 _ dX7_inForce_7 (by decide) rfl (fun h7 => ?_) (fun h7 => ?_)
  · refine g_iload_n 3 dX7_inForce_21 rfl rfl ?_
    refine g_if_ne 30 dX7_inForce_22 (by decide) (fun h22 => ?_) (fun h22 => ?_)
    · refine g_iload_n 3 dX7_inForce_30 rfl rfl ?_
      refine g_iconst 1 dX7_inForce_31 rfl ?_
      refine g_icmp_ne 40 dX7_inForce_32 (by decide) (fun h32 => ?_) (fun h32 => ?_)
      · refine g_iload_n 3 dX7_inForce_40 rfl rfl ?_
        refine g_iconst 2 dX7_inForce_41 rfl ?_
        refine g_icmp_ne 49 dX7_inForce_42 (by decide) (fun h42 => ?_) (fun h42 => ?_)
        · refine g_iload_n 3 dX7_inForce_49 rfl rfl ?_
          refine g_iconst 3 dX7_inForce_50 rfl ?_
          refine g_icmp_ne 59 dX7_inForce_51 (by decide) (fun h51 => ?_) (fun h51 => ?_)
          · refine g_iconst 3 dX7_inForce_59 rfl ?_
            refine g_iret dX7_inForce_60 rfl rfl ?_ ?_
            · rw [lawM, ← hv, if_pos h7]; rcases (show p = 0 ∨ p = 1 ∨ p = 2 ∨ p = 3 ∨ p = 4 by omega) with e | e | e | e | e <;> subst e <;> first | rfl | exact absurd h22 (by decide) | exact absurd h32 (by decide) | exact absurd h42 (by decide) | exact absurd h51 (by decide) | exact absurd rfl h22 | exact absurd rfl h32 | exact absurd rfl h42 | exact absurd rfl h51
            · rfl
          · refine g_bipush 50 dX7_inForce_54 rfl ?_
            refine g_goto 60 dX7_inForce_56 (by decide) ?_
            refine g_iret dX7_inForce_60 rfl rfl ?_ ?_
            · rw [lawM, ← hv, if_pos h7]; rcases (show p = 0 ∨ p = 1 ∨ p = 2 ∨ p = 3 ∨ p = 4 by omega) with e | e | e | e | e <;> subst e <;> first | rfl | exact absurd h22 (by decide) | exact absurd h32 (by decide) | exact absurd h42 (by decide) | exact absurd h51 (by decide) | exact absurd rfl h22 | exact absurd rfl h32 | exact absurd rfl h42 | exact absurd rfl h51
            · rfl
        · refine g_iconst 5 dX7_inForce_45 rfl ?_
          refine g_goto 60 dX7_inForce_46 (by decide) ?_
          refine g_iret dX7_inForce_60 rfl rfl ?_ ?_
          · rw [lawM, ← hv, if_pos h7]; rcases (show p = 0 ∨ p = 1 ∨ p = 2 ∨ p = 3 ∨ p = 4 by omega) with e | e | e | e | e <;> subst e <;> first | rfl | exact absurd h22 (by decide) | exact absurd h32 (by decide) | exact absurd h42 (by decide) | exact absurd h51 (by decide) | exact absurd rfl h22 | exact absurd rfl h32 | exact absurd rfl h42 | exact absurd rfl h51
          · rfl
      · refine g_bipush 100 dX7_inForce_35 rfl ?_
        refine g_goto 60 dX7_inForce_37 (by decide) ?_
        refine g_iret dX7_inForce_60 rfl rfl ?_ ?_
        · rw [lawM, ← hv, if_pos h7]; rcases (show p = 0 ∨ p = 1 ∨ p = 2 ∨ p = 3 ∨ p = 4 by omega) with e | e | e | e | e <;> subst e <;> first | rfl | exact absurd h22 (by decide) | exact absurd h32 (by decide) | exact absurd h42 (by decide) | exact absurd h51 (by decide) | exact absurd rfl h22 | exact absurd rfl h32 | exact absurd rfl h42 | exact absurd rfl h51
        · rfl
    · refine g_bipush 21 dX7_inForce_25 rfl ?_
      refine g_goto 60 dX7_inForce_27 (by decide) ?_
      refine g_iret dX7_inForce_60 rfl rfl ?_ ?_
      · rw [lawM, ← hv, if_pos h7]; rcases (show p = 0 ∨ p = 1 ∨ p = 2 ∨ p = 3 ∨ p = 4 by omega) with e | e | e | e | e <;> subst e <;> first | rfl | exact absurd h22 (by decide) | exact absurd h32 (by decide) | exact absurd h42 (by decide) | exact absurd h51 (by decide) | exact absurd rfl h22 | exact absurd rfl h32 | exact absurd rfl h42 | exact absurd rfl h51
      · rfl
  · refine g_aload_n 1 dX7_inForce_10 rfl rfl ?_
    refine gf_X7_13 dX7_inForce_11 ?_
    refine g_iconst 5 dX7_inForce_14 rfl ?_
    refine g_iload_n 0 dX7_inForce_15 rfl rfl ?_
    refine g_imul dX7_inForce_16 ?_
    refine g_iload_n 3 dX7_inForce_17 rfl rfl ?_
    refine g_iadd dX7_inForce_18 ?_
    refine g_iald (n := 40) (5 * v.toNatClampNeg + p) dX7_inForce_19 (by decide) rfl (ix5w (nI_back h7) (nat_lt h7 (by omega)) hp).1 ((ix5w (nI_back h7) (nat_lt h7 (by omega)) hp).2) ?_
    refine g_iret dX7_inForce_20 rfl rfl ?_ ?_
    · rw [lawM, ← hv, if_neg (by omega)]
    · rfl
def lawMW (w : W0) (n : Nat) (day a b c e f : Int32) : W0 := setW (setW (setW (setW (setW (setW (setW (setW w 58 n day) 59 (5 * n) a) 59 (5 * n + 1) b) 59 (5 * n + 2) c) 59 (5 * n + 3) e) 59 (5 * n + 4) f) 57 0 (nI (n + 1))) 57 23 0
set_option maxRecDepth 20000 in
theorem t_X7_law {E : En} {w : W0} {nl : Nat} {day a b c e f : Int32} (hcl : w 57 0 = nI nl) (hnl : nl ≤ 8) : Mt E 2 yX7_law cX7_law 8 (some .int) [.ref (E.1 57), .int day, .int a, .int b, .int c, .int e, .int f] w (some (.int (if lawP day a b c e f then (if 8 ≤ nl then -4 else nI (nl + 1)) else -2))) (if lawP day a b c e f ∧ ¬ 8 ≤ nl then lawMW w nl day a b c e f else w) := by
  refine Mt.of (by decide +kernel) (Nat.le_of_ble_eq_true rfl) ?_
  show G E 2 RX7 cX7_law 8 (some .int) _ _ 0 [(0, .ref (E.1 57)), (1, .int day), (2, .int a), (3, .int b), (4, .int c), (5, .int e), (6, .int f)] [] w
  have hclI : (w 57 0).toInt = (nl : Int) := by rw [hcl]; exact nI_toInt (by omega)
  have hclN : (w 57 0).toNatClampNeg = nl := by rw [hcl]; exact nI_clamp (by omega)
  refine g_iload_n 1 dX7_law_0 rfl rfl ?_
  refine ca_X7_81 dX7_law_1 (t_X7_isDay) (by decide) (Nat.le_of_ble_eq_true rfl) ?_
  refine g_if_eqb 67 dX7_law_4 (by decide) (fun h4 => ?_) (fun h4 => ?_)
  · refine g_iconst 0 dX7_law_67 rfl ?_
    refine g_istN dX7_law_68 (by decide) rfl ?_
    refine g_iload 0 dX7_law_70 rfl ?_
    refine g_if_ne 78 dX7_law_72 (by decide) (fun h72 => False.elim (by exact absurd h72 (by decide))) (fun h72 => ?_)
    refine g_bipush (-2) dX7_law_75 rfl ?_
    refine g_iret dX7_law_77 rfl rfl ?_ ?_
    · (try rw [hcl, nI_1]); (repeat' split) <;> first | rfl | (exfalso; omega) | (exfalso; simp_all; done) | (exfalso; simp_all; omega)
    · (try rw [hcl, nI_1]); (repeat' split) <;> first | rfl | (exfalso; omega) | (exfalso; simp_all; done) | (exfalso; simp_all; omega)
  · refine g_iload_n 2 dX7_law_7 rfl rfl ?_
    refine g_bipush 10 dX7_law_8 rfl ?_
    refine g_bipush 30 dX7_law_10 rfl ?_
    refine ca_X7_77 dX7_law_12 (t_X7_in 10 30 rfl rfl) (by decide) (Nat.le_of_ble_eq_true rfl) ?_
    refine g_if_eqb 67 dX7_law_15 (by decide) (fun h15 => ?_) (fun h15 => ?_)
    · refine g_iconst 0 dX7_law_67 rfl ?_
      refine g_istN dX7_law_68 (by decide) rfl ?_
      refine g_iload 0 dX7_law_70 rfl ?_
      refine g_if_ne 78 dX7_law_72 (by decide) (fun h72 => False.elim (by exact absurd h72 (by decide))) (fun h72 => ?_)
      refine g_bipush (-2) dX7_law_75 rfl ?_
      refine g_iret dX7_law_77 rfl rfl ?_ ?_
      · (try rw [hcl, nI_1]); (repeat' split) <;> first | rfl | (exfalso; omega) | (exfalso; simp_all; done) | (exfalso; simp_all; omega)
      · (try rw [hcl, nI_1]); (repeat' split) <;> first | rfl | (exfalso; omega) | (exfalso; simp_all; done) | (exfalso; simp_all; omega)
    · refine g_iload_n 3 dX7_law_18 rfl rfl ?_
      refine g_iconst 0 dX7_law_19 rfl ?_
      refine g_sipush 10000 dX7_law_20 rfl ?_
      refine ca_X7_77 dX7_law_23 (t_X7_in 0 10000 rfl rfl) (by decide) (Nat.le_of_ble_eq_true rfl) ?_
      refine g_if_eqb 67 dX7_law_26 (by decide) (fun h26 => ?_) (fun h26 => ?_)
      · refine g_iconst 0 dX7_law_67 rfl ?_
        refine g_istN dX7_law_68 (by decide) rfl ?_
        refine g_iload 0 dX7_law_70 rfl ?_
        refine g_if_ne 78 dX7_law_72 (by decide) (fun h72 => False.elim (by exact absurd h72 (by decide))) (fun h72 => ?_)
        refine g_bipush (-2) dX7_law_75 rfl ?_
        refine g_iret dX7_law_77 rfl rfl ?_ ?_
        · (try rw [hcl, nI_1]); (repeat' split) <;> first | rfl | (exfalso; omega) | (exfalso; simp_all; done) | (exfalso; simp_all; omega)
        · (try rw [hcl, nI_1]); (repeat' split) <;> first | rfl | (exfalso; omega) | (exfalso; simp_all; done) | (exfalso; simp_all; omega)
      · refine g_iload 4 dX7_law_29 rfl ?_
        refine g_iconst 0 dX7_law_31 rfl ?_
        refine g_bipush 100 dX7_law_32 rfl ?_
        refine ca_X7_77 dX7_law_34 (t_X7_in 0 100 rfl rfl) (by decide) (Nat.le_of_ble_eq_true rfl) ?_
        refine g_if_eqb 67 dX7_law_37 (by decide) (fun h37 => ?_) (fun h37 => ?_)
        · refine g_iconst 0 dX7_law_67 rfl ?_
          refine g_istN dX7_law_68 (by decide) rfl ?_
          refine g_iload 0 dX7_law_70 rfl ?_
          refine g_if_ne 78 dX7_law_72 (by decide) (fun h72 => False.elim (by exact absurd h72 (by decide))) (fun h72 => ?_)
          refine g_bipush (-2) dX7_law_75 rfl ?_
          refine g_iret dX7_law_77 rfl rfl ?_ ?_
          · (try rw [hcl, nI_1]); (repeat' split) <;> first | rfl | (exfalso; omega) | (exfalso; simp_all; done) | (exfalso; simp_all; omega)
          · (try rw [hcl, nI_1]); (repeat' split) <;> first | rfl | (exfalso; omega) | (exfalso; simp_all; done) | (exfalso; simp_all; omega)
        · refine g_iload 5 dX7_law_40 rfl ?_
          refine g_iconst 0 dX7_law_42 rfl ?_
          refine g_sipush 10000 dX7_law_43 rfl ?_
          refine ca_X7_77 dX7_law_46 (t_X7_in 0 10000 rfl rfl) (by decide) (Nat.le_of_ble_eq_true rfl) ?_
          refine g_if_eqb 67 dX7_law_49 (by decide) (fun h49 => ?_) (fun h49 => ?_)
          · refine g_iconst 0 dX7_law_67 rfl ?_
            refine g_istN dX7_law_68 (by decide) rfl ?_
            refine g_iload 0 dX7_law_70 rfl ?_
            refine g_if_ne 78 dX7_law_72 (by decide) (fun h72 => False.elim (by exact absurd h72 (by decide))) (fun h72 => ?_)
            refine g_bipush (-2) dX7_law_75 rfl ?_
            refine g_iret dX7_law_77 rfl rfl ?_ ?_
            · (try rw [hcl, nI_1]); (repeat' split) <;> first | rfl | (exfalso; omega) | (exfalso; simp_all; done) | (exfalso; simp_all; omega)
            · (try rw [hcl, nI_1]); (repeat' split) <;> first | rfl | (exfalso; omega) | (exfalso; simp_all; done) | (exfalso; simp_all; omega)
          · refine g_iload 6 dX7_law_52 rfl ?_
            refine g_iconst 0 dX7_law_54 rfl ?_
            refine g_bipush 10 dX7_law_55 rfl ?_
            refine ca_X7_77 dX7_law_57 (t_X7_in 0 10 rfl rfl) (by decide) (Nat.le_of_ble_eq_true rfl) ?_
            refine g_if_eqb 67 dX7_law_60 (by decide) (fun h60 => ?_) (fun h60 => ?_)
            · refine g_iconst 0 dX7_law_67 rfl ?_
              refine g_istN dX7_law_68 (by decide) rfl ?_
              refine g_iload 0 dX7_law_70 rfl ?_
              refine g_if_ne 78 dX7_law_72 (by decide) (fun h72 => False.elim (by exact absurd h72 (by decide))) (fun h72 => ?_)
              refine g_bipush (-2) dX7_law_75 rfl ?_
              refine g_iret dX7_law_77 rfl rfl ?_ ?_
              · (try rw [hcl, nI_1]); (repeat' split) <;> first | rfl | (exfalso; omega) | (exfalso; simp_all; done) | (exfalso; simp_all; omega)
              · (try rw [hcl, nI_1]); (repeat' split) <;> first | rfl | (exfalso; omega) | (exfalso; simp_all; done) | (exfalso; simp_all; omega)
            · refine g_iconst 1 dX7_law_63 rfl ?_
              refine g_goto 68 dX7_law_64 (by decide) ?_
              refine g_istN dX7_law_68 (by decide) rfl ?_
              refine g_iload 0 dX7_law_70 rfl ?_
              refine g_if_ne 78 dX7_law_72 (by decide) (fun h72 => ?_) (fun h72 => False.elim (by exact absurd h72 (by decide)))
              refine g_aload_n 1 dX7_law_78 rfl rfl ?_
              refine gf_X7_85 dX7_law_79 ?_
              refine g_bipush 8 dX7_law_82 rfl ?_
              refine g_icmp_ne 90 dX7_law_84 (by decide) (fun h84 => ?_) (fun h84 => ?_)
              · have hlt := ltN (m := 8) hcl rfl hnl h84
                refine g_aload_n 1 dX7_law_90 rfl rfl ?_
                refine gf_X7_7 dX7_law_91 ?_
                refine g_aload_n 1 dX7_law_94 rfl rfl ?_
                refine gf_X7_85 dX7_law_95 ?_
                refine g_iload_n 2 dX7_law_98 rfl rfl ?_
                refine g_iast (n := 8) nl dX7_law_99 (by decide) rfl hclN (by omega) ?_
                (try simp (disch := omega) only [setW_setA, setW_setA_ne])
                refine g_aload_n 1 dX7_law_100 rfl rfl ?_
                refine gf_X7_13 dX7_law_101 ?_
                refine g_iconst 5 dX7_law_104 rfl ?_
                refine g_aload_n 1 dX7_law_105 rfl rfl ?_
                refine gf_X7_85 dX7_law_106 ?_
                (try simp (disch := omega) only [setW_ne, setW_p, setA_ne, setA_p, upd_self, upd_ne])
                refine g_imul dX7_law_109 ?_
                refine g_iload_n 3 dX7_law_110 rfl rfl ?_
                refine g_iast (n := 40) (5 * nl) dX7_law_111 (by decide) rfl (ix50 hcl (by omega)).1 ((ix50 hcl (by omega)).2) ?_
                (try simp (disch := omega) only [setW_setA, setW_setA_ne])
                refine g_aload_n 1 dX7_law_112 rfl rfl ?_
                refine gf_X7_13 dX7_law_113 ?_
                refine g_iconst 5 dX7_law_116 rfl ?_
                refine g_aload_n 1 dX7_law_117 rfl rfl ?_
                refine gf_X7_85 dX7_law_118 ?_
                (try simp (disch := omega) only [setW_ne, setW_p, setA_ne, setA_p, upd_self, upd_ne])
                refine g_imul dX7_law_121 ?_
                refine g_iconst 1 dX7_law_122 rfl ?_
                refine g_iadd dX7_law_123 ?_
                refine g_iload_n 4 dX7_law_124 rfl rfl ?_
                refine g_iast (n := 40) (5 * nl + 1) dX7_law_125 (by decide) rfl (ix5w (c := 1) hcl (by omega) (by decide)).1 ((ix5w (c := 1) hcl (by omega) (by decide)).2) ?_
                (try simp (disch := omega) only [setW_setA, setW_setA_ne])
                refine g_aload_n 1 dX7_law_126 rfl rfl ?_
                refine gf_X7_13 dX7_law_127 ?_
                refine g_iconst 5 dX7_law_130 rfl ?_
                refine g_aload_n 1 dX7_law_131 rfl rfl ?_
                refine gf_X7_85 dX7_law_132 ?_
                (try simp (disch := omega) only [setW_ne, setW_p, setA_ne, setA_p, upd_self, upd_ne])
                refine g_imul dX7_law_135 ?_
                refine g_iconst 2 dX7_law_136 rfl ?_
                refine g_iadd dX7_law_137 ?_
                refine g_iload 5 dX7_law_138 rfl ?_
                refine g_iast (n := 40) (5 * nl + 2) dX7_law_140 (by decide) rfl (ix5w (c := 2) hcl (by omega) (by decide)).1 ((ix5w (c := 2) hcl (by omega) (by decide)).2) ?_
                (try simp (disch := omega) only [setW_setA, setW_setA_ne])
                refine g_aload_n 1 dX7_law_141 rfl rfl ?_
                refine gf_X7_13 dX7_law_142 ?_
                refine g_iconst 5 dX7_law_145 rfl ?_
                refine g_aload_n 1 dX7_law_146 rfl rfl ?_
                refine gf_X7_85 dX7_law_147 ?_
                (try simp (disch := omega) only [setW_ne, setW_p, setA_ne, setA_p, upd_self, upd_ne])
                refine g_imul dX7_law_150 ?_
                refine g_iconst 3 dX7_law_151 rfl ?_
                refine g_iadd dX7_law_152 ?_
                refine g_iload 6 dX7_law_153 rfl ?_
                refine g_iast (n := 40) (5 * nl + 3) dX7_law_155 (by decide) rfl (ix5w (c := 3) hcl (by omega) (by decide)).1 ((ix5w (c := 3) hcl (by omega) (by decide)).2) ?_
                (try simp (disch := omega) only [setW_setA, setW_setA_ne])
                refine g_aload_n 1 dX7_law_156 rfl rfl ?_
                refine gf_X7_13 dX7_law_157 ?_
                refine g_iconst 5 dX7_law_160 rfl ?_
                refine g_aload_n 1 dX7_law_161 rfl rfl ?_
                refine gf_X7_85 dX7_law_162 ?_
                (try simp (disch := omega) only [setW_ne, setW_p, setA_ne, setA_p, upd_self, upd_ne])
                refine g_imul dX7_law_165 ?_
                refine g_iconst 4 dX7_law_166 rfl ?_
                refine g_iadd dX7_law_167 ?_
                refine g_iload 7 dX7_law_168 rfl ?_
                refine g_iast (n := 40) (5 * nl + 4) dX7_law_170 (by decide) rfl (ix5w (c := 4) hcl (by omega) (by decide)).1 ((ix5w (c := 4) hcl (by omega) (by decide)).2) ?_
                (try simp (disch := omega) only [setW_setA, setW_setA_ne])
                refine g_aload_n 1 dX7_law_171 rfl rfl ?_
                refine g_dup dX7_law_172 rfl ?_
                refine gf_X7_85 dX7_law_173 ?_
                (try simp (disch := omega) only [setW_ne, setW_p, setA_ne, setA_p, upd_self, upd_ne])
                refine g_iconst 1 dX7_law_176 rfl ?_
                refine g_iadd dX7_law_177 ?_
                refine pf_X7_85 dX7_law_178 ?_
                (try simp (disch := omega) only [setW_setA, setW_setA_ne])
                refine g_aload_n 1 dX7_law_181 rfl rfl ?_
                refine g_iconst 0 dX7_law_182 rfl ?_
                refine pf_X7_89 dX7_law_183 rfl rfl ?_
                (try simp (disch := omega) only [setW_setA, setW_setA_ne])
                refine g_aload_n 1 dX7_law_186 rfl rfl ?_
                refine gf_X7_85 dX7_law_187 ?_
                (try simp (disch := omega) only [setW_ne, setW_p, setA_ne, setA_p, upd_self, upd_ne])
                refine g_iret dX7_law_190 rfl rfl ?_ ?_
                · (try rw [hcl, nI_1]); (repeat' split) <;> first | rfl | (exfalso; omega) | (exfalso; simp_all; done) | (exfalso; simp_all; omega)
                · (try rw [hcl, nI_1]); (repeat' split) <;> first | rfl | (exfalso; omega) | (exfalso; simp_all; done) | (exfalso; simp_all; omega)
              · have heq := eqN (m := 8) hcl rfl (by omega) (by decide) h84
                refine g_bipush (-4) dX7_law_87 rfl ?_
                refine g_iret dX7_law_89 rfl rfl ?_ ?_
                · (try rw [hcl, nI_1]); (repeat' split) <;> first | rfl | (exfalso; omega) | (exfalso; simp_all; done) | (exfalso; simp_all; omega)
                · (try rw [hcl, nI_1]); (repeat' split) <;> first | rfl | (exfalso; omega) | (exfalso; simp_all; done) | (exfalso; simp_all; omega)
set_option maxRecDepth 20000 in
theorem t_X7_force {E : En} {w : W0} {nl : Nat} {day z : Int32} (hcl : w 57 0 = nI nl) (hnl : nl ≤ 8) : Mt E 2 yX7_force cX7_force 3 (some .int) [.ref (E.1 57), .int day, .int z] w (some (.int (if dayP day ∧ (0 ≤ z.toInt ∧ z.toInt ≤ 4) then lawM (w 58) (w 59) nl day z.toNatClampNeg else -2))) w := by
  refine Mt.of (by decide +kernel) (Nat.le_of_ble_eq_true rfl) ?_
  show G E 2 RX7 cX7_force 3 (some .int) _ _ 0 [(0, .ref (E.1 57)), (1, .int day), (2, .int z)] [] w
  have hclI : (w 57 0).toInt = (nl : Int) := by rw [hcl]; exact nI_toInt (by omega)
  have hclN : (w 57 0).toNatClampNeg = nl := by rw [hcl]; exact nI_clamp (by omega)
  refine g_iload_n 1 dX7_force_0 rfl rfl ?_
  refine ca_X7_81 dX7_force_1 (t_X7_isDay) (by decide) (Nat.le_of_ble_eq_true rfl) ?_
  refine g_if_eqb 25 dX7_force_4 (by decide) (fun h4 => ?_) (fun h4 => ?_)
  · refine g_bipush (-2) dX7_force_25 rfl ?_
    refine g_iret dX7_force_27 rfl rfl ?_ ?_
    · (repeat' split) <;> first | rfl | (exfalso; omega) | (exfalso; simp_all; done) | (exfalso; simp_all; omega)
    · rfl
  · refine g_iload_n 2 dX7_force_7 rfl rfl ?_
    refine g_iconst 0 dX7_force_8 rfl ?_
    refine g_iconst 4 dX7_force_9 rfl ?_
    refine ca_X7_77 dX7_force_10 (t_X7_in 0 4 rfl rfl) (by decide) (Nat.le_of_ble_eq_true rfl) ?_
    refine g_if_eqb 25 dX7_force_13 (by decide) (fun h13 => ?_) (fun h13 => ?_)
    · refine g_bipush (-2) dX7_force_25 rfl ?_
      refine g_iret dX7_force_27 rfl rfl ?_ ?_
      · (repeat' split) <;> first | rfl | (exfalso; omega) | (exfalso; simp_all; done) | (exfalso; simp_all; omega)
      · rfl
    · refine g_aload_n 0 dX7_force_16 rfl rfl ?_
      refine g_iload_n 1 dX7_force_17 rfl rfl ?_
      refine g_iload_n 2 dX7_force_18 rfl rfl ?_
      refine ca_X7_97 dX7_force_19 (t_X7_inForce hcl hnl (nI_back (by omega)) (nat_lt (by omega) (by omega))) (by decide) (Nat.le_of_ble_eq_true rfl) ?_
      refine g_goto 27 dX7_force_22 (by decide) ?_
      refine g_iret dX7_force_27 rfl rfl ?_ ?_
      · (repeat' split) <;> first | rfl | (exfalso; omega) | (exfalso; simp_all; done) | (exfalso; simp_all; omega)
      · rfl
def wardMW (w : W0) (n : Nat) (x : Int32) : W0 := setW (setW (setW (setW w 60 n x) 61 n (-6)) 57 3 (nI (n + 1))) 57 23 0
set_option maxRecDepth 20000 in
theorem t_X7_ward {E : En} {w : W0} {nw : Nat} {x : Int32} (hcw : w 57 3 = nI nw) (hnw : nw ≤ 6) : Mt E 2 yX7_ward cX7_ward 2 (some .int) [.ref (E.1 57), .int x] w (some (.int (if bornP x then (if 6 ≤ nw then -4 else nI nw) else -2))) (if bornP x ∧ ¬ 6 ≤ nw then wardMW w nw x else w) := by
  refine Mt.of (by decide +kernel) (Nat.le_of_ble_eq_true rfl) ?_
  show G E 2 RX7 cX7_ward 2 (some .int) _ _ 0 [(0, .ref (E.1 57)), (1, .int x)] [] w
  have hcwI : (w 57 3).toInt = (nw : Int) := by rw [hcw]; exact nI_toInt (by omega)
  have hcwN : (w 57 3).toNatClampNeg = nw := by rw [hcw]; exact nI_clamp (by omega)
  refine g_iload_n 1 dX7_ward_0 rfl rfl ?_
  refine g_sipush (-10800) dX7_ward_1 rfl ?_
  refine g_sipush 3599 dX7_ward_4 rfl ?_
  refine ca_X7_77 dX7_ward_7 (t_X7_in (-10800) 3599 rfl rfl) (by decide) (Nat.le_of_ble_eq_true rfl) ?_
  refine g_if_neb 16 dX7_ward_10 (by decide) (fun h10 => ?_) (fun h10 => ?_)
  · refine g_aload_n 0 dX7_ward_16 rfl rfl ?_
    refine gf_X7_101 dX7_ward_17 ?_
    refine g_bipush 6 dX7_ward_20 rfl ?_
    refine g_icmp_ne 28 dX7_ward_22 (by decide) (fun h22 => ?_) (fun h22 => ?_)
    · have hlt := ltN (m := 6) hcw rfl hnw h22
      refine g_aload_n 0 dX7_ward_28 rfl rfl ?_
      refine gf_X7_16 dX7_ward_29 ?_
      refine g_aload_n 0 dX7_ward_32 rfl rfl ?_
      refine gf_X7_101 dX7_ward_33 ?_
      refine g_iload_n 1 dX7_ward_36 rfl rfl ?_
      refine g_iast (n := 6) nw dX7_ward_37 (by decide) rfl hcwN (by omega) ?_
      (try simp (disch := omega) only [setW_setA, setW_setA_ne])
      refine g_aload_n 0 dX7_ward_38 rfl rfl ?_
      refine gf_X7_19 dX7_ward_39 ?_
      refine g_aload_n 0 dX7_ward_42 rfl rfl ?_
      refine gf_X7_101 dX7_ward_43 ?_
      (try simp (disch := omega) only [setW_ne, setW_p, setA_ne, setA_p, upd_self, upd_ne])
      refine g_bipush (-6) dX7_ward_46 rfl ?_
      refine g_iast (n := 6) nw dX7_ward_48 (by decide) rfl hcwN (by omega) ?_
      (try simp (disch := omega) only [setW_setA, setW_setA_ne])
      refine g_aload_n 0 dX7_ward_49 rfl rfl ?_
      refine g_dup dX7_ward_50 rfl ?_
      refine gf_X7_101 dX7_ward_51 ?_
      (try simp (disch := omega) only [setW_ne, setW_p, setA_ne, setA_p, upd_self, upd_ne])
      refine g_iconst 1 dX7_ward_54 rfl ?_
      refine g_iadd dX7_ward_55 ?_
      refine pf_X7_101 dX7_ward_56 ?_
      (try simp (disch := omega) only [setW_setA, setW_setA_ne])
      refine g_aload_n 0 dX7_ward_59 rfl rfl ?_
      refine g_iconst 0 dX7_ward_60 rfl ?_
      refine pf_X7_89 dX7_ward_61 rfl rfl ?_
      (try simp (disch := omega) only [setW_setA, setW_setA_ne])
      refine g_aload_n 0 dX7_ward_64 rfl rfl ?_
      refine gf_X7_101 dX7_ward_65 ?_
      (try simp (disch := omega) only [setW_ne, setW_p, setA_ne, setA_p, upd_self, upd_ne])
      refine g_iconst 1 dX7_ward_68 rfl ?_
      refine g_isub dX7_ward_69 ?_
      rw [hcw, nI_1, nI_pred]
      refine g_iret dX7_ward_70 rfl rfl ?_ ?_
      · (repeat' split) <;> first | rfl | (exfalso; omega) | (exfalso; simp_all; done) | (exfalso; simp_all; omega)
      · (try rw [hcw, nI_1]); (repeat' split) <;> first | rfl | (exfalso; omega) | (exfalso; simp_all; done) | (exfalso; simp_all; omega)
    · have heq := eqN (m := 6) hcw rfl (by omega) (by decide) h22
      refine g_bipush (-4) dX7_ward_25 rfl ?_
      refine g_iret dX7_ward_27 rfl rfl ?_ ?_
      · (repeat' split) <;> first | rfl | (exfalso; omega) | (exfalso; simp_all; done) | (exfalso; simp_all; omega)
      · (try rw [hcw, nI_1]); (repeat' split) <;> first | rfl | (exfalso; omega) | (exfalso; simp_all; done) | (exfalso; simp_all; omega)
  · refine g_bipush (-2) dX7_ward_13 rfl ?_
    refine g_iret dX7_ward_15 rfl rfl ?_ ?_
    · (repeat' split) <;> first | rfl | (exfalso; omega) | (exfalso; simp_all; done) | (exfalso; simp_all; omega)
    · (try rw [hcw, nI_1]); (repeat' split) <;> first | rfl | (exfalso; omega) | (exfalso; simp_all; done) | (exfalso; simp_all; omega)
abbrev badM (w : W0) (i day : Int32) : Prop := ¬ day = -1 ∧ (¬ dayP day ∨ day.toInt < (w 60 i.toNatClampNeg).toInt)
def diesMW (w : W0) (i day : Int32) : W0 := setW (setW w 61 i.toNatClampNeg (if day = -1 then -6 else day)) 57 23 0
set_option maxRecDepth 20000 in
theorem t_X7_dies {E : En} {w : W0} {nw : Nat} {i day : Int32} (hcw : w 57 3 = nI nw) (hnw : nw ≤ 6) : Mt E 2 yX7_dies cX7_dies 4 (some .int) [.ref (E.1 57), .int i, .int day] w (some (.int (if inP i nw then (if badM w i day then -2 else w 61 i.toNatClampNeg) else -1))) (if inP i nw ∧ ¬ badM w i day then diesMW w i day else w) := by
  refine Mt.of (by decide +kernel) (Nat.le_of_ble_eq_true rfl) ?_
  show G E 2 RX7 cX7_dies 4 (some .int) _ _ 0 [(0, .ref (E.1 57)), (1, .int i), (2, .int day)] [] w
  refine g_aload_n 0 dX7_dies_0 rfl rfl ?_
  refine g_iload_n 1 dX7_dies_1 rfl rfl ?_
  refine ca_X7_104 dX7_dies_2 (t_X7_isWard hcw hnw) (by decide) (Nat.le_of_ble_eq_true rfl) ?_
  refine g_if_neb 10 dX7_dies_5 (by decide) (fun h5 => ?_) (fun h5 => ?_)
  · refine g_iload_n 2 dX7_dies_10 rfl rfl ?_
    refine g_iconst (-1) dX7_dies_11 rfl ?_
    refine g_icmp_eq 35 dX7_dies_12 (by decide) (fun h12 => ?_) (fun h12 => ?_)
    · refine g_aload_n 0 dX7_dies_35 rfl rfl ?_
      refine gf_X7_19 dX7_dies_36 ?_
      refine g_iload_n 1 dX7_dies_39 rfl rfl ?_
      refine g_iald (n := 6) _ dX7_dies_40 (by decide) rfl rfl (by omega) ?_
      refine g_istN_n dX7_dies_41 rfl (by decide) rfl ?_
      refine g_aload_n 1 dX7_dies_42 rfl rfl ?_
      refine gf_X7_19 dX7_dies_43 ?_
      refine g_iload_n 2 dX7_dies_46 rfl rfl ?_
      refine g_iload_n 3 dX7_dies_47 rfl rfl ?_
      refine g_iconst (-1) dX7_dies_48 rfl ?_
      refine g_icmp_ne 57 dX7_dies_49 (by decide) (fun h49 => ?_) (fun h49 => ?_)
      · refine g_iload_n 3 dX7_dies_57 rfl rfl ?_
        refine g_iast (n := 6) _ dX7_dies_58 (by decide) rfl rfl (by omega) ?_
        (try simp (disch := omega) only [setW_setA, setW_setA_ne])
        refine g_aload_n 1 dX7_dies_59 rfl rfl ?_
        refine g_iconst 0 dX7_dies_60 rfl ?_
        refine pf_X7_89 dX7_dies_61 rfl rfl ?_
        (try simp (disch := omega) only [setW_setA, setW_setA_ne])
        refine g_iload_n 0 dX7_dies_64 rfl rfl ?_
        refine g_iret dX7_dies_65 rfl rfl ?_ ?_
        · (repeat' split) <;> first | rfl | (exfalso; omega) | (exfalso; simp_all; done) | (exfalso; simp_all; omega)
        · (try unfold diesMW); (repeat' split) <;> first | rfl | (exfalso; omega) | (exfalso; simp_all; done) | (exfalso; simp_all; omega)
      · refine g_bipush (-6) dX7_dies_52 rfl ?_
        refine g_goto 58 dX7_dies_54 (by decide) ?_
        refine g_iast (n := 6) _ dX7_dies_58 (by decide) rfl rfl (by omega) ?_
        (try simp (disch := omega) only [setW_setA, setW_setA_ne])
        refine g_aload_n 1 dX7_dies_59 rfl rfl ?_
        refine g_iconst 0 dX7_dies_60 rfl ?_
        refine pf_X7_89 dX7_dies_61 rfl rfl ?_
        (try simp (disch := omega) only [setW_setA, setW_setA_ne])
        refine g_iload_n 0 dX7_dies_64 rfl rfl ?_
        refine g_iret dX7_dies_65 rfl rfl ?_ ?_
        · (repeat' split) <;> first | rfl | (exfalso; omega) | (exfalso; simp_all; done) | (exfalso; simp_all; omega)
        · (try unfold diesMW); (repeat' split) <;> first | rfl | (exfalso; omega) | (exfalso; simp_all; done) | (exfalso; simp_all; omega)
    · refine g_iload_n 2 dX7_dies_15 rfl rfl ?_
      refine ca_X7_81 dX7_dies_16 (t_X7_isDay) (by decide) (Nat.le_of_ble_eq_true rfl) ?_
      refine g_if_eqb 32 dX7_dies_19 (by decide) (fun h19 => ?_) (fun h19 => ?_)
      · refine g_bipush (-2) dX7_dies_32 rfl ?_
        refine g_iret dX7_dies_34 rfl rfl ?_ ?_
        · (repeat' split) <;> first | rfl | (exfalso; omega) | (exfalso; simp_all; done) | (exfalso; simp_all; omega)
        · (try unfold diesMW); (repeat' split) <;> first | rfl | (exfalso; omega) | (exfalso; simp_all; done) | (exfalso; simp_all; omega)
      · refine g_iload_n 2 dX7_dies_22 rfl rfl ?_
        refine g_aload_n 0 dX7_dies_23 rfl rfl ?_
        refine gf_X7_16 dX7_dies_24 ?_
        refine g_iload_n 1 dX7_dies_27 rfl rfl ?_
        refine g_iald (n := 6) _ dX7_dies_28 (by decide) rfl rfl (by omega) ?_
        refine g_icmp_ge 35 _ _ dX7_dies_29 (by decide) rfl rfl (fun h29 => ?_) (fun h29 => ?_)
        · refine g_aload_n 0 dX7_dies_35 rfl rfl ?_
          refine gf_X7_19 dX7_dies_36 ?_
          refine g_iload_n 1 dX7_dies_39 rfl rfl ?_
          refine g_iald (n := 6) _ dX7_dies_40 (by decide) rfl rfl (by omega) ?_
          refine g_istN_n dX7_dies_41 rfl (by decide) rfl ?_
          refine g_aload_n 1 dX7_dies_42 rfl rfl ?_
          refine gf_X7_19 dX7_dies_43 ?_
          refine g_iload_n 2 dX7_dies_46 rfl rfl ?_
          refine g_iload_n 3 dX7_dies_47 rfl rfl ?_
          refine g_iconst (-1) dX7_dies_48 rfl ?_
          refine g_icmp_ne 57 dX7_dies_49 (by decide) (fun h49 => ?_) (fun h49 => ?_)
          · refine g_iload_n 3 dX7_dies_57 rfl rfl ?_
            refine g_iast (n := 6) _ dX7_dies_58 (by decide) rfl rfl (by omega) ?_
            (try simp (disch := omega) only [setW_setA, setW_setA_ne])
            refine g_aload_n 1 dX7_dies_59 rfl rfl ?_
            refine g_iconst 0 dX7_dies_60 rfl ?_
            refine pf_X7_89 dX7_dies_61 rfl rfl ?_
            (try simp (disch := omega) only [setW_setA, setW_setA_ne])
            refine g_iload_n 0 dX7_dies_64 rfl rfl ?_
            refine g_iret dX7_dies_65 rfl rfl ?_ ?_
            · (repeat' split) <;> first | rfl | (exfalso; omega) | (exfalso; simp_all; done) | (exfalso; simp_all; omega)
            · (try unfold diesMW); (repeat' split) <;> first | rfl | (exfalso; omega) | (exfalso; simp_all; done) | (exfalso; simp_all; omega)
          · refine g_bipush (-6) dX7_dies_52 rfl ?_
            refine g_goto 58 dX7_dies_54 (by decide) ?_
            refine g_iast (n := 6) _ dX7_dies_58 (by decide) rfl rfl (by omega) ?_
            (try simp (disch := omega) only [setW_setA, setW_setA_ne])
            refine g_aload_n 1 dX7_dies_59 rfl rfl ?_
            refine g_iconst 0 dX7_dies_60 rfl ?_
            refine pf_X7_89 dX7_dies_61 rfl rfl ?_
            (try simp (disch := omega) only [setW_setA, setW_setA_ne])
            refine g_iload_n 0 dX7_dies_64 rfl rfl ?_
            refine g_iret dX7_dies_65 rfl rfl ?_ ?_
            · (repeat' split) <;> first | rfl | (exfalso; omega) | (exfalso; simp_all; done) | (exfalso; simp_all; omega)
            · (try unfold diesMW); (repeat' split) <;> first | rfl | (exfalso; omega) | (exfalso; simp_all; done) | (exfalso; simp_all; omega)
        · refine g_bipush (-2) dX7_dies_32 rfl ?_
          refine g_iret dX7_dies_34 rfl rfl ?_ ?_
          · (repeat' split) <;> first | rfl | (exfalso; omega) | (exfalso; simp_all; done) | (exfalso; simp_all; omega)
          · (try unfold diesMW); (repeat' split) <;> first | rfl | (exfalso; omega) | (exfalso; simp_all; done) | (exfalso; simp_all; omega)
  · refine g_iconst (-1) dX7_dies_8 rfl ?_
    refine g_iret dX7_dies_9 rfl rfl ?_ ?_
    · (repeat' split) <;> first | rfl | (exfalso; omega) | (exfalso; simp_all; done) | (exfalso; simp_all; omega)
    · (try unfold diesMW); (repeat' split) <;> first | rfl | (exfalso; omega) | (exfalso; simp_all; done) | (exfalso; simp_all; omega)
set_option maxRecDepth 20000 in
theorem t_X7_lives {E : En} {w : W0} {nw k : Nat} {x day : Int32} (hnw : nw ≤ 6) (hk : k < nw) (hx : x = nI k) : Mt E 0 yX7_lives cX7_lives 3 (some .boolean) [.ref (E.1 57), .int x, .int day] w (some (.int (bI (livesF (w 60) (w 61) k day)))) w := by
  refine Mt.of (by decide +kernel) (Nat.le_of_ble_eq_true rfl) ?_
  show G E 0 RX7 cX7_lives 3 (some .boolean) _ _ 0 [(0, .ref (E.1 57)), (1, .int x), (2, .int day)] [] w
  have hxi : x.toInt = (k : Int) := by rw [hx]; exact nI_toInt (by omega)
  have hxn : x.toNatClampNeg = k := by rw [hx]; exact nI_clamp (by omega)
  refine g_aload_n 0 dX7_lives_0 rfl rfl ?_
  refine gf_X7_16 dX7_lives_1 ?_
  refine g_iload_n 1 dX7_lives_4 rfl rfl ?_
  refine g_iald (n := 6) k dX7_lives_5 (by decide) rfl hxn (by omega) ?_
  refine g_iload_n 2 dX7_lives_6 rfl rfl ?_
  refine g_icmp_gt 35 _ _ dX7_lives_7 (by decide) rfl rfl (fun h7 => ?_) (fun h7 => ?_)
  · refine g_iconst 0 dX7_lives_35 rfl ?_
    refine g_iret dX7_lives_36 rfl rfl ?_ ?_
    · first | (rw [bI_t]; first | exact ⟨by omega, Or.inl h18⟩ | exact ⟨by omega, Or.inr (by omega)⟩) | (rw [bI_f]; rintro ⟨z1, z2 | z2⟩ <;> first | omega | exact h18 z2)
    · rfl
  · refine g_aload_n 0 dX7_lives_10 rfl rfl ?_
    refine gf_X7_19 dX7_lives_11 ?_
    refine g_iload_n 1 dX7_lives_14 rfl rfl ?_
    refine g_iald (n := 6) k dX7_lives_15 (by decide) rfl hxn (by omega) ?_
    refine g_bipush (-6) dX7_lives_16 rfl ?_
    refine g_icmp_eq 31 dX7_lives_18 (by decide) (fun h18 => ?_) (fun h18 => ?_)
    · refine g_iconst 1 dX7_lives_31 rfl ?_
      refine g_goto 36 dX7_lives_32 (by decide) ?_
      refine g_iret dX7_lives_36 rfl rfl ?_ ?_
      · first | (rw [bI_t]; first | exact ⟨by omega, Or.inl h18⟩ | exact ⟨by omega, Or.inr (by omega)⟩) | (rw [bI_f]; rintro ⟨z1, z2 | z2⟩ <;> first | omega | exact h18 z2)
      · rfl
    · refine g_aload_n 0 dX7_lives_21 rfl rfl ?_
      refine gf_X7_19 dX7_lives_22 ?_
      refine g_iload_n 1 dX7_lives_25 rfl rfl ?_
      refine g_iald (n := 6) k dX7_lives_26 (by decide) rfl hxn (by omega) ?_
      refine g_iload_n 2 dX7_lives_27 rfl rfl ?_
      refine g_icmp_le 35 _ _ dX7_lives_28 (by decide) rfl rfl (fun h28 => ?_) (fun h28 => ?_)
      · refine g_iconst 0 dX7_lives_35 rfl ?_
        refine g_iret dX7_lives_36 rfl rfl ?_ ?_
        · first | (rw [bI_t]; first | exact ⟨by omega, Or.inl h18⟩ | exact ⟨by omega, Or.inr (by omega)⟩) | (rw [bI_f]; rintro ⟨z1, z2 | z2⟩ <;> first | omega | exact h18 z2)
        · rfl
      · refine g_iconst 1 dX7_lives_31 rfl ?_
        refine g_goto 36 dX7_lives_32 (by decide) ?_
        refine g_iret dX7_lives_36 rfl rfl ?_ ?_
        · first | (rw [bI_t]; first | exact ⟨by omega, Or.inl h18⟩ | exact ⟨by omega, Or.inr (by omega)⟩) | (rw [bI_f]; rintro ⟨z1, z2 | z2⟩ <;> first | omega | exact h18 z2)
        · rfl
def hdM (bo di gd : Nat → Int32) (day z : Int32) : Nat → Int32
  | 0 => 0
  | k + 1 => if livesF bo di k day ∧ ¬ (¬ gd k = -6 ∧ (z = 0 ∨ (gd k).toInt < day.toInt)) then hdM bo di gd day z k + 1 else hdM bo di gd day z k
theorem hdM_s (bo di gd : Nat → Int32) (day z : Int32) (k : Nat) : hdM bo di gd day z (k + 1) = if livesF bo di k day ∧ ¬ (¬ gd k = -6 ∧ (z = 0 ∨ (gd k).toInt < day.toInt)) then hdM bo di gd day z k + 1 else hdM bo di gd day z k := rfl
set_option maxRecDepth 20000 in
theorem l_headsM {E : En} {w : W0} {nw : Nat} {day z : Int32} (hcw : w 57 3 = nI nw) (hnw : nw ≤ 6) : ∀ (n : Nat) (k : Nat) (v x : Int32), nw + 1 ≤ k + n → k ≤ nw → x = nI k → v = hdM (w 60) (w 61) (w 78) day z k → G E 1 RX7 cX7_headsOn 6 (some .int) (some (.int (hdM (w 60) (w 61) (w 78) day z nw))) w 5 [(0, .ref (E.1 57)), (1, .int day), (2, .int z), (3, .int v), (4, .int x)] [] w := by
  intro n
  induction n with
  | zero =>
    intro k v x hfu hk hx hv
    exact absurd hfu (by omega)
  | succ n ih =>
    intro k v x hfu hk hx hv
    have hxi : x.toInt = (k : Int) := by rw [hx]; exact nI_toInt (by omega)
    have hxn : x.toNatClampNeg = k := by rw [hx]; exact nI_clamp (by omega)
    have hcwI : (w 57 3).toInt = (nw : Int) := by rw [hcw]; exact nI_toInt (by omega)
    have hcwN : (w 57 3).toNatClampNeg = nw := by rw [hcw]; exact nI_clamp (by omega)
    refine g_iload 4 dX7_headsOn_5 rfl ?_
    refine g_aload_n 0 dX7_headsOn_7 rfl rfl ?_
    refine gf_X7_101 dX7_headsOn_8 ?_
    refine g_icmp_ge 77 (k : Int) _ dX7_headsOn_11 (by decide) hxi rfl (fun h11 => ?_) (fun h11 => ?_)
    · refine g_iload_n 3 dX7_headsOn_77 rfl rfl ?_
      refine g_iret dX7_headsOn_78 rfl rfl ?_ ?_
      · rw [hv, show k = nw by omega]
      · rfl
    · refine g_aload_n 0 dX7_headsOn_14 rfl rfl ?_
      refine gf_X7_71 dX7_headsOn_15 ?_
      refine g_iload 4 dX7_headsOn_18 rfl ?_
      refine g_iald (n := 6) k dX7_headsOn_20 (by decide) rfl hxn (by omega) ?_
      refine g_bipush (-6) dX7_headsOn_21 rfl ?_
      refine g_icmp_eq 45 dX7_headsOn_23 (by decide) (fun h23 => ?_) (fun h23 => ?_)
      · refine g_iconst 0 dX7_headsOn_45 rfl ?_
        refine g_istN dX7_headsOn_46 (by decide) rfl ?_
        refine g_iload_n 4 dX7_headsOn_48 rfl rfl ?_
        refine g_aload_n 1 dX7_headsOn_49 rfl rfl ?_
        refine g_iload 5 dX7_headsOn_50 rfl ?_
        refine g_iload_n 2 dX7_headsOn_52 rfl rfl ?_
        refine ca_X7_107 dX7_headsOn_53 (t_X7_lives (k := k) hnw (by omega) hx) (by decide) (Nat.le_of_ble_eq_true rfl) ?_
        refine g_if_eqb 68 dX7_headsOn_56 (by decide) (fun h56 => ?_) (fun h56 => ?_)
        · refine g_iconst 0 dX7_headsOn_68 rfl ?_
          refine g_iadd dX7_headsOn_69 ?_
          refine g_ist_n [_, _, _, _] _ dX7_headsOn_70 rfl (by decide) rfl ?_
          refine g_iinc 1 [_, _, _, _, _] _ dX7_headsOn_71 rfl (by decide) rfl ?_
          refine g_goto 5 dX7_headsOn_74 (by decide) ?_
          refine g_lv [1, 2, 3, 4, 5] rfl ?_
          (try rw [Int32.add_zero])
          exact ih (k + 1) _ _ (by omega) (by omega) (by rw [hx, nI_1]) (by clear ih; rw [hdM_s, ← hv]; split <;> first | rfl | (exfalso; simp_all; done) | (exfalso; simp_all; omega))
        · refine g_iload 0 dX7_headsOn_59 rfl ?_
          refine g_if_ne 68 dX7_headsOn_61 (by decide) (fun h61 => False.elim (by exact absurd h61 (by decide))) (fun h61 => ?_)
          refine g_iconst 1 dX7_headsOn_64 rfl ?_
          refine g_goto 69 dX7_headsOn_65 (by decide) ?_
          refine g_iadd dX7_headsOn_69 ?_
          refine g_ist_n [_, _, _, _] _ dX7_headsOn_70 rfl (by decide) rfl ?_
          refine g_iinc 1 [_, _, _, _, _] _ dX7_headsOn_71 rfl (by decide) rfl ?_
          refine g_goto 5 dX7_headsOn_74 (by decide) ?_
          refine g_lv [1, 2, 3, 4, 5] rfl ?_
          (try rw [Int32.add_zero])
          exact ih (k + 1) _ _ (by omega) (by omega) (by rw [hx, nI_1]) (by clear ih; rw [hdM_s, ← hv]; split <;> first | rfl | (exfalso; simp_all; done) | (exfalso; simp_all; omega))
      · refine g_iload_n 2 dX7_headsOn_26 rfl rfl ?_
        refine g_if_eq 41 dX7_headsOn_27 (by decide) (fun h27 => ?_) (fun h27 => ?_)
        · refine g_iconst 1 dX7_headsOn_41 rfl ?_
          refine g_goto 46 dX7_headsOn_42 (by decide) ?_
          refine g_istN dX7_headsOn_46 (by decide) rfl ?_
          refine g_iload_n 4 dX7_headsOn_48 rfl rfl ?_
          refine g_aload_n 1 dX7_headsOn_49 rfl rfl ?_
          refine g_iload 5 dX7_headsOn_50 rfl ?_
          refine g_iload_n 2 dX7_headsOn_52 rfl rfl ?_
          refine ca_X7_107 dX7_headsOn_53 (t_X7_lives (k := k) hnw (by omega) hx) (by decide) (Nat.le_of_ble_eq_true rfl) ?_
          refine g_if_eqb 68 dX7_headsOn_56 (by decide) (fun h56 => ?_) (fun h56 => ?_)
          · refine g_iconst 0 dX7_headsOn_68 rfl ?_
            refine g_iadd dX7_headsOn_69 ?_
            refine g_ist_n [_, _, _, _] _ dX7_headsOn_70 rfl (by decide) rfl ?_
            refine g_iinc 1 [_, _, _, _, _] _ dX7_headsOn_71 rfl (by decide) rfl ?_
            refine g_goto 5 dX7_headsOn_74 (by decide) ?_
            refine g_lv [1, 2, 3, 4, 5] rfl ?_
            (try rw [Int32.add_zero])
            exact ih (k + 1) _ _ (by omega) (by omega) (by rw [hx, nI_1]) (by clear ih; rw [hdM_s, ← hv]; split <;> first | rfl | (exfalso; simp_all; done) | (exfalso; simp_all; omega))
          · refine g_iload 0 dX7_headsOn_59 rfl ?_
            refine g_if_ne 68 dX7_headsOn_61 (by decide) (fun h61 => ?_) (fun h61 => False.elim (by exact absurd h61 (by decide)))
            refine g_iconst 0 dX7_headsOn_68 rfl ?_
            refine g_iadd dX7_headsOn_69 ?_
            refine g_ist_n [_, _, _, _] _ dX7_headsOn_70 rfl (by decide) rfl ?_
            refine g_iinc 1 [_, _, _, _, _] _ dX7_headsOn_71 rfl (by decide) rfl ?_
            refine g_goto 5 dX7_headsOn_74 (by decide) ?_
            refine g_lv [1, 2, 3, 4, 5] rfl ?_
            (try rw [Int32.add_zero])
            exact ih (k + 1) _ _ (by omega) (by omega) (by rw [hx, nI_1]) (by clear ih; rw [hdM_s, ← hv]; split <;> first | rfl | (exfalso; simp_all; done) | (exfalso; simp_all; omega))
        · refine g_aload_n 0 dX7_headsOn_30 rfl rfl ?_
          refine gf_X7_71 dX7_headsOn_31 ?_
          refine g_iload 4 dX7_headsOn_34 rfl ?_
          refine g_iald (n := 6) k dX7_headsOn_36 (by decide) rfl hxn (by omega) ?_
          refine g_iload_n 1 dX7_headsOn_37 rfl rfl ?_
          refine g_icmp_ge 45 _ _ dX7_headsOn_38 (by decide) rfl rfl (fun h38 => ?_) (fun h38 => ?_)
          · refine g_iconst 0 dX7_headsOn_45 rfl ?_
            refine g_istN dX7_headsOn_46 (by decide) rfl ?_
            refine g_iload_n 4 dX7_headsOn_48 rfl rfl ?_
            refine g_aload_n 1 dX7_headsOn_49 rfl rfl ?_
            refine g_iload 5 dX7_headsOn_50 rfl ?_
            refine g_iload_n 2 dX7_headsOn_52 rfl rfl ?_
            refine ca_X7_107 dX7_headsOn_53 (t_X7_lives (k := k) hnw (by omega) hx) (by decide) (Nat.le_of_ble_eq_true rfl) ?_
            refine g_if_eqb 68 dX7_headsOn_56 (by decide) (fun h56 => ?_) (fun h56 => ?_)
            · refine g_iconst 0 dX7_headsOn_68 rfl ?_
              refine g_iadd dX7_headsOn_69 ?_
              refine g_ist_n [_, _, _, _] _ dX7_headsOn_70 rfl (by decide) rfl ?_
              refine g_iinc 1 [_, _, _, _, _] _ dX7_headsOn_71 rfl (by decide) rfl ?_
              refine g_goto 5 dX7_headsOn_74 (by decide) ?_
              refine g_lv [1, 2, 3, 4, 5] rfl ?_
              (try rw [Int32.add_zero])
              exact ih (k + 1) _ _ (by omega) (by omega) (by rw [hx, nI_1]) (by clear ih; rw [hdM_s, ← hv]; split <;> first | rfl | (exfalso; simp_all; done) | (exfalso; simp_all; omega))
            · refine g_iload 0 dX7_headsOn_59 rfl ?_
              refine g_if_ne 68 dX7_headsOn_61 (by decide) (fun h61 => False.elim (by exact absurd h61 (by decide))) (fun h61 => ?_)
              refine g_iconst 1 dX7_headsOn_64 rfl ?_
              refine g_goto 69 dX7_headsOn_65 (by decide) ?_
              refine g_iadd dX7_headsOn_69 ?_
              refine g_ist_n [_, _, _, _] _ dX7_headsOn_70 rfl (by decide) rfl ?_
              refine g_iinc 1 [_, _, _, _, _] _ dX7_headsOn_71 rfl (by decide) rfl ?_
              refine g_goto 5 dX7_headsOn_74 (by decide) ?_
              refine g_lv [1, 2, 3, 4, 5] rfl ?_
              (try rw [Int32.add_zero])
              exact ih (k + 1) _ _ (by omega) (by omega) (by rw [hx, nI_1]) (by clear ih; rw [hdM_s, ← hv]; split <;> first | rfl | (exfalso; simp_all; done) | (exfalso; simp_all; omega))
          · refine g_iconst 1 dX7_headsOn_41 rfl ?_
            refine g_goto 46 dX7_headsOn_42 (by decide) ?_
            refine g_istN dX7_headsOn_46 (by decide) rfl ?_
            refine g_iload_n 4 dX7_headsOn_48 rfl rfl ?_
            refine g_aload_n 1 dX7_headsOn_49 rfl rfl ?_
            refine g_iload 5 dX7_headsOn_50 rfl ?_
            refine g_iload_n 2 dX7_headsOn_52 rfl rfl ?_
            refine ca_X7_107 dX7_headsOn_53 (t_X7_lives (k := k) hnw (by omega) hx) (by decide) (Nat.le_of_ble_eq_true rfl) ?_
            refine g_if_eqb 68 dX7_headsOn_56 (by decide) (fun h56 => ?_) (fun h56 => ?_)
            · refine g_iconst 0 dX7_headsOn_68 rfl ?_
              refine g_iadd dX7_headsOn_69 ?_
              refine g_ist_n [_, _, _, _] _ dX7_headsOn_70 rfl (by decide) rfl ?_
              refine g_iinc 1 [_, _, _, _, _] _ dX7_headsOn_71 rfl (by decide) rfl ?_
              refine g_goto 5 dX7_headsOn_74 (by decide) ?_
              refine g_lv [1, 2, 3, 4, 5] rfl ?_
              (try rw [Int32.add_zero])
              exact ih (k + 1) _ _ (by omega) (by omega) (by rw [hx, nI_1]) (by clear ih; rw [hdM_s, ← hv]; split <;> first | rfl | (exfalso; simp_all; done) | (exfalso; simp_all; omega))
            · refine g_iload 0 dX7_headsOn_59 rfl ?_
              refine g_if_ne 68 dX7_headsOn_61 (by decide) (fun h61 => ?_) (fun h61 => False.elim (by exact absurd h61 (by decide)))
              refine g_iconst 0 dX7_headsOn_68 rfl ?_
              refine g_iadd dX7_headsOn_69 ?_
              refine g_ist_n [_, _, _, _] _ dX7_headsOn_70 rfl (by decide) rfl ?_
              refine g_iinc 1 [_, _, _, _, _] _ dX7_headsOn_71 rfl (by decide) rfl ?_
              refine g_goto 5 dX7_headsOn_74 (by decide) ?_
              refine g_lv [1, 2, 3, 4, 5] rfl ?_
              (try rw [Int32.add_zero])
              exact ih (k + 1) _ _ (by omega) (by omega) (by rw [hx, nI_1]) (by clear ih; rw [hdM_s, ← hv]; split <;> first | rfl | (exfalso; simp_all; done) | (exfalso; simp_all; omega))
set_option maxRecDepth 20000 in
theorem t_X7_headsOn {E : En} {w : W0} {nw : Nat} {day z : Int32} (hcw : w 57 3 = nI nw) (hnw : nw ≤ 6) : Mt E 1 yX7_headsOn cX7_headsOn 6 (some .int) [.ref (E.1 57), .int day, .int z] w (some (.int (hdM (w 60) (w 61) (w 78) day z nw))) w := by
  refine Mt.of (by decide +kernel) (Nat.le_of_ble_eq_true rfl) ?_
  show G E 1 RX7 cX7_headsOn 6 (some .int) _ _ 0 [(0, .ref (E.1 57)), (1, .int day), (2, .int z)] [] w
  refine g_iconst 0 dX7_headsOn_0 rfl ?_
  refine g_istN_n dX7_headsOn_1 rfl (by decide) rfl ?_
  refine g_iconst 0 dX7_headsOn_2 rfl ?_
  refine g_istN dX7_headsOn_3 (by decide) rfl ?_
  refine g_lv [2, 3, 4, 1, 0] rfl ?_
  exact l_headsM hcw hnw (nw + 1) 0 _ _ (by omega) (by omega) rfl rfl
def leaveMW (w : W0) (n : Nat) (x : Int32) : W0 := setW (setW (setW w 62 n x) 63 n (-6)) 57 6 (nI (n + 1))
set_option maxRecDepth 20000 in
theorem t_X7_leave {E : En} {w : W0} {nv : Nat} {x : Int32} (hcv : w 57 6 = nI nv) (hnv : nv ≤ 10) : Mt E 2 yX7_leave cX7_leave 2 (some .int) [.ref (E.1 57), .int x] w (some (.int (if coinP x then (if 10 ≤ nv then -4 else nI nv) else -2))) (if coinP x ∧ ¬ 10 ≤ nv then leaveMW w nv x else w) := by
  refine Mt.of (by decide +kernel) (Nat.le_of_ble_eq_true rfl) ?_
  show G E 2 RX7 cX7_leave 2 (some .int) _ _ 0 [(0, .ref (E.1 57)), (1, .int x)] [] w
  have hcvI : (w 57 6).toInt = (nv : Int) := by rw [hcv]; exact nI_toInt (by omega)
  have hcvN : (w 57 6).toNatClampNeg = nv := by rw [hcv]; exact nI_clamp (by omega)
  refine g_iload_n 1 dX7_leave_0 rfl rfl ?_
  refine g_iconst 1 dX7_leave_1 rfl ?_
  refine g_sipush 10000 dX7_leave_2 rfl ?_
  refine ca_X7_77 dX7_leave_5 (t_X7_in 1 10000 rfl rfl) (by decide) (Nat.le_of_ble_eq_true rfl) ?_
  refine g_if_neb 14 dX7_leave_8 (by decide) (fun h8 => ?_) (fun h8 => ?_)
  · refine g_aload_n 0 dX7_leave_14 rfl rfl ?_
    refine gf_X7_120 dX7_leave_15 ?_
    refine g_bipush 10 dX7_leave_18 rfl ?_
    refine g_icmp_ne 26 dX7_leave_20 (by decide) (fun h20 => ?_) (fun h20 => ?_)
    · have hlt := ltN (m := 10) hcv rfl hnv h20
      refine g_aload_n 0 dX7_leave_26 rfl rfl ?_
      refine gf_X7_22 dX7_leave_27 ?_
      refine g_aload_n 0 dX7_leave_30 rfl rfl ?_
      refine gf_X7_120 dX7_leave_31 ?_
      refine g_iload_n 1 dX7_leave_34 rfl rfl ?_
      refine g_iast (n := 10) nv dX7_leave_35 (by decide) rfl hcvN (by omega) ?_
      (try simp (disch := omega) only [setW_setA, setW_setA_ne])
      refine g_aload_n 0 dX7_leave_36 rfl rfl ?_
      refine gf_X7_25 dX7_leave_37 ?_
      refine g_aload_n 0 dX7_leave_40 rfl rfl ?_
      refine gf_X7_120 dX7_leave_41 ?_
      (try simp (disch := omega) only [setW_ne, setW_p, setA_ne, setA_p, upd_self, upd_ne])
      refine g_bipush (-6) dX7_leave_44 rfl ?_
      refine g_iast (n := 10) nv dX7_leave_46 (by decide) rfl hcvN (by omega) ?_
      (try simp (disch := omega) only [setW_setA, setW_setA_ne])
      refine g_aload_n 0 dX7_leave_47 rfl rfl ?_
      refine g_dup dX7_leave_48 rfl ?_
      refine gf_X7_120 dX7_leave_49 ?_
      (try simp (disch := omega) only [setW_ne, setW_p, setA_ne, setA_p, upd_self, upd_ne])
      refine g_iconst 1 dX7_leave_52 rfl ?_
      refine g_iadd dX7_leave_53 ?_
      refine pf_X7_120 dX7_leave_54 ?_
      (try simp (disch := omega) only [setW_setA, setW_setA_ne])
      refine g_aload_n 0 dX7_leave_57 rfl rfl ?_
      refine gf_X7_120 dX7_leave_58 ?_
      (try simp (disch := omega) only [setW_ne, setW_p, setA_ne, setA_p, upd_self, upd_ne])
      refine g_iconst 1 dX7_leave_61 rfl ?_
      refine g_isub dX7_leave_62 ?_
      rw [hcv, nI_1, nI_pred]
      refine g_iret dX7_leave_63 rfl rfl ?_ ?_
      · (repeat' split) <;> first | rfl | (exfalso; omega) | (exfalso; simp_all; done) | (exfalso; simp_all; omega)
      · (try rw [hcv, nI_1]); (repeat' split) <;> first | rfl | (exfalso; omega) | (exfalso; simp_all; done) | (exfalso; simp_all; omega)
    · have heq := eqN (m := 10) hcv rfl (by omega) (by decide) h20
      refine g_bipush (-4) dX7_leave_23 rfl ?_
      refine g_iret dX7_leave_25 rfl rfl ?_ ?_
      · (repeat' split) <;> first | rfl | (exfalso; omega) | (exfalso; simp_all; done) | (exfalso; simp_all; omega)
      · (try rw [hcv, nI_1]); (repeat' split) <;> first | rfl | (exfalso; omega) | (exfalso; simp_all; done) | (exfalso; simp_all; omega)
  · refine g_bipush (-2) dX7_leave_11 rfl ?_
    refine g_iret dX7_leave_13 rfl rfl ?_ ?_
    · (repeat' split) <;> first | rfl | (exfalso; omega) | (exfalso; simp_all; done) | (exfalso; simp_all; omega)
    · (try rw [hcv, nI_1]); (repeat' split) <;> first | rfl | (exfalso; omega) | (exfalso; simp_all; done) | (exfalso; simp_all; omega)
set_option maxRecDepth 20000 in
theorem t_X7_ofLeave {E : En} {w : W0} {nv : Nat} {i what : Int32} (hcv : w 57 6 = nI nv) (hnv : nv ≤ 10) : Mt E 2 yX7_ofLeave cX7_ofLeave 3 (some .int) [.ref (E.1 57), .int i, .int what] w (some (.int (if inP i nv then (if what = 0 then w 62 i.toNatClampNeg else if what = 1 then w 63 i.toNatClampNeg else -2) else -1))) w := by
  refine Mt.of (by decide +kernel) (Nat.le_of_ble_eq_true rfl) ?_
  show G E 2 RX7 cX7_ofLeave 3 (some .int) _ _ 0 [(0, .ref (E.1 57)), (1, .int i), (2, .int what)] [] w
  refine g_aload_n 0 dX7_ofLeave_0 rfl rfl ?_
  refine g_iload_n 1 dX7_ofLeave_1 rfl rfl ?_
  refine ca_X7_123 dX7_ofLeave_2 (t_X7_isLeave hcv hnv) (by decide) (Nat.le_of_ble_eq_true rfl) ?_
  refine g_if_neb 10 dX7_ofLeave_5 (by decide) (fun h5 => ?_) (fun h5 => ?_)
  · refine g_iload_n 2 dX7_ofLeave_10 rfl rfl ?_
    refine g_if_ne 23 dX7_ofLeave_11 (by decide) (fun h11 => ?_) (fun h11 => ?_)
    · refine g_iload_n 2 dX7_ofLeave_23 rfl rfl ?_
      refine g_iconst 1 dX7_ofLeave_24 rfl ?_
      refine g_icmp_ne 37 dX7_ofLeave_25 (by decide) (fun h25 => ?_) (fun h25 => ?_)
      · refine g_bipush (-2) dX7_ofLeave_37 rfl ?_
        refine g_iret dX7_ofLeave_39 rfl rfl ?_ ?_
        · (repeat' split) <;> first | rfl | (exfalso; omega) | (exfalso; simp_all; done) | (exfalso; simp_all; omega)
        · rfl
      · refine g_aload_n 0 dX7_ofLeave_28 rfl rfl ?_
        refine gf_X7_25 dX7_ofLeave_29 ?_
        refine g_iload_n 1 dX7_ofLeave_32 rfl rfl ?_
        refine g_iald (n := 10) _ dX7_ofLeave_33 (by decide) rfl rfl (by omega) ?_
        refine g_goto 39 dX7_ofLeave_34 (by decide) ?_
        refine g_iret dX7_ofLeave_39 rfl rfl ?_ ?_
        · (repeat' split) <;> first | rfl | (exfalso; omega) | (exfalso; simp_all; done) | (exfalso; simp_all; omega)
        · rfl
    · refine g_aload_n 0 dX7_ofLeave_14 rfl rfl ?_
      refine gf_X7_22 dX7_ofLeave_15 ?_
      refine g_iload_n 1 dX7_ofLeave_18 rfl rfl ?_
      refine g_iald (n := 10) _ dX7_ofLeave_19 (by decide) rfl rfl (by omega) ?_
      refine g_goto 39 dX7_ofLeave_20 (by decide) ?_
      refine g_iret dX7_ofLeave_39 rfl rfl ?_ ?_
      · (repeat' split) <;> first | rfl | (exfalso; omega) | (exfalso; simp_all; done) | (exfalso; simp_all; omega)
      · rfl
  · refine g_iconst (-1) dX7_ofLeave_8 rfl ?_
    refine g_iret dX7_ofLeave_9 rfl rfl ?_ ?_
    · (repeat' split) <;> first | rfl | (exfalso; omega) | (exfalso; simp_all; done) | (exfalso; simp_all; omega)
    · rfl
def itemMW (w : W0) (n : Nat) (p d c l : Int32) : W0 := setW (setW (setW (setW (setW (setW (setW (setW w 64 n p) 65 n d) 66 n c) 67 n l) 68 n 0) 69 n 0) 57 9 (nI (n + 1))) 57 23 0
set_option maxRecDepth 20000 in
theorem t_X7_item {E : En} {w : W0} {ni : Nat} {p d c l : Int32} (hci : w 57 9 = nI ni) (hni : ni < 60) (hp : p = 0 ∨ p = 1) : Mt E 0 yX7_item cX7_item 5 (some .int) [.ref (E.1 57), .int p, .int d, .int c, .int l] w (some (.int (nI ni))) (itemMW w ni p d c l) := by
  refine Mt.of (by decide +kernel) (Nat.le_of_ble_eq_true rfl) ?_
  show G E 0 RX7 cX7_item 5 (some .int) _ _ 0 [(0, .ref (E.1 57)), (1, .int p), (2, .int d), (3, .int c), (4, .int l)] [] w
  have hciI : (w 57 9).toInt = (ni : Int) := by rw [hci]; exact nI_toInt (by omega)
  have hciN : (w 57 9).toNatClampNeg = ni := by rw [hci]; exact nI_clamp (by omega)
  refine g_aload_n 0 dX7_item_0 rfl rfl ?_
  refine gf_X7_28 dX7_item_1 ?_
  refine g_aload_n 0 dX7_item_4 rfl rfl ?_
  refine gf_X7_129 dX7_item_5 ?_
  refine g_iload_n 1 dX7_item_8 rfl rfl ?_
  refine g_bast (n := 60) ni dX7_item_9 (by decide) rfl hciN (by omega) (vnar01 hp) ?_
  (try simp (disch := omega) only [setW_setA, setW_setA_ne])
  refine g_aload_n 0 dX7_item_10 rfl rfl ?_
  refine gf_X7_32 dX7_item_11 ?_
  refine g_aload_n 0 dX7_item_14 rfl rfl ?_
  refine gf_X7_129 dX7_item_15 ?_
  (try simp (disch := omega) only [setW_ne, setW_p, setA_ne, setA_p, upd_self, upd_ne])
  refine g_iload_n 2 dX7_item_18 rfl rfl ?_
  refine g_iast (n := 60) ni dX7_item_19 (by decide) rfl hciN (by omega) ?_
  (try simp (disch := omega) only [setW_setA, setW_setA_ne])
  refine g_aload_n 0 dX7_item_20 rfl rfl ?_
  refine gf_X7_35 dX7_item_21 ?_
  refine g_aload_n 0 dX7_item_24 rfl rfl ?_
  refine gf_X7_129 dX7_item_25 ?_
  (try simp (disch := omega) only [setW_ne, setW_p, setA_ne, setA_p, upd_self, upd_ne])
  refine g_iload_n 3 dX7_item_28 rfl rfl ?_
  refine g_iast (n := 60) ni dX7_item_29 (by decide) rfl hciN (by omega) ?_
  (try simp (disch := omega) only [setW_setA, setW_setA_ne])
  refine g_aload_n 0 dX7_item_30 rfl rfl ?_
  refine gf_X7_38 dX7_item_31 ?_
  refine g_aload_n 0 dX7_item_34 rfl rfl ?_
  refine gf_X7_129 dX7_item_35 ?_
  (try simp (disch := omega) only [setW_ne, setW_p, setA_ne, setA_p, upd_self, upd_ne])
  refine g_iload 4 dX7_item_38 rfl ?_
  refine g_iast (n := 60) ni dX7_item_40 (by decide) rfl hciN (by omega) ?_
  (try simp (disch := omega) only [setW_setA, setW_setA_ne])
  refine g_aload_n 0 dX7_item_41 rfl rfl ?_
  refine gf_X7_41 dX7_item_42 ?_
  refine g_aload_n 0 dX7_item_45 rfl rfl ?_
  refine gf_X7_129 dX7_item_46 ?_
  (try simp (disch := omega) only [setW_ne, setW_p, setA_ne, setA_p, upd_self, upd_ne])
  refine g_iconst 0 dX7_item_49 rfl ?_
  refine g_bast (n := 60) ni dX7_item_50 (by decide) rfl hciN (by omega) rfl ?_
  (try simp (disch := omega) only [setW_setA, setW_setA_ne])
  refine g_aload_n 0 dX7_item_51 rfl rfl ?_
  refine gf_X7_44 dX7_item_52 ?_
  refine g_aload_n 0 dX7_item_55 rfl rfl ?_
  refine gf_X7_129 dX7_item_56 ?_
  (try simp (disch := omega) only [setW_ne, setW_p, setA_ne, setA_p, upd_self, upd_ne])
  refine g_iconst 0 dX7_item_59 rfl ?_
  refine g_bast (n := 60) ni dX7_item_60 (by decide) rfl hciN (by omega) rfl ?_
  (try simp (disch := omega) only [setW_setA, setW_setA_ne])
  refine g_aload_n 0 dX7_item_61 rfl rfl ?_
  refine g_dup dX7_item_62 rfl ?_
  refine gf_X7_129 dX7_item_63 ?_
  (try simp (disch := omega) only [setW_ne, setW_p, setA_ne, setA_p, upd_self, upd_ne])
  refine g_iconst 1 dX7_item_66 rfl ?_
  refine g_iadd dX7_item_67 ?_
  refine pf_X7_129 dX7_item_68 ?_
  (try simp (disch := omega) only [setW_setA, setW_setA_ne])
  refine g_aload_n 0 dX7_item_71 rfl rfl ?_
  refine g_iconst 0 dX7_item_72 rfl ?_
  refine pf_X7_89 dX7_item_73 rfl rfl ?_
  (try simp (disch := omega) only [setW_setA, setW_setA_ne])
  refine g_aload_n 0 dX7_item_76 rfl rfl ?_
  refine gf_X7_129 dX7_item_77 ?_
  (try simp (disch := omega) only [setW_ne, setW_p, setA_ne, setA_p, upd_self, upd_ne])
  refine g_iconst 1 dX7_item_80 rfl ?_
  refine g_isub dX7_item_81 ?_
  rw [hci, nI_1, nI_pred]
  refine g_iret dX7_item_82 rfl rfl ?_ ?_
  · rfl
  · rfl
set_option maxRecDepth 20000 in
theorem t_X7_receive {E : En} {w : W0} {ni ne : Nat} {d c l : Int32} (hci : w 57 9 = nI ni) (hni : ni ≤ 60) (hce : w 57 16 = nI ne) (hne : ne ≤ 10) : Mt E 2 yX7_receive cX7_receive 4 (some .int) [.ref (E.1 57), .int d, .int c, .int l] w (some (.int (if ¬ l = -1 ∧ ¬ inP l ne then -1 else if ¬ (dayP d ∧ coinP c) then -2 else if 60 ≤ ni then -4 else nI ni))) (if ¬ (¬ l = -1 ∧ ¬ inP l ne) ∧ (dayP d ∧ coinP c) ∧ ¬ 60 ≤ ni then itemMW w ni 0 d c l else w) := by
  refine Mt.of (by decide +kernel) (Nat.le_of_ble_eq_true rfl) ?_
  show G E 2 RX7 cX7_receive 4 (some .int) _ _ 0 [(0, .ref (E.1 57)), (1, .int d), (2, .int c), (3, .int l)] [] w
  have hciI : (w 57 9).toInt = (ni : Int) := by rw [hci]; exact nI_toInt (by omega)
  have hciN : (w 57 9).toNatClampNeg = ni := by rw [hci]; exact nI_clamp (by omega)
  refine g_iload_n 3 dX7_receive_0 rfl rfl ?_
  refine g_iconst (-1) dX7_receive_1 rfl ?_
  refine g_icmp_eq 15 dX7_receive_2 (by decide) (fun h2 => ?_) (fun h2 => ?_)
  · refine g_iload_n 1 dX7_receive_15 rfl rfl ?_
    refine ca_X7_81 dX7_receive_16 (t_X7_isDay) (by decide) (Nat.le_of_ble_eq_true rfl) ?_
    refine g_if_eqb 33 dX7_receive_19 (by decide) (fun h19 => ?_) (fun h19 => ?_)
    · refine g_bipush (-2) dX7_receive_33 rfl ?_
      refine g_iret dX7_receive_35 rfl rfl ?_ ?_
      · (repeat' split) <;> first | rfl | (exfalso; omega) | (exfalso; simp_all; done) | (exfalso; simp_all; omega)
      · (repeat' split) <;> first | rfl | (exfalso; omega) | (exfalso; simp_all; done) | (exfalso; simp_all; omega)
    · refine g_iload_n 2 dX7_receive_22 rfl rfl ?_
      refine g_iconst 1 dX7_receive_23 rfl ?_
      refine g_sipush 10000 dX7_receive_24 rfl ?_
      refine ca_X7_77 dX7_receive_27 (t_X7_in 1 10000 rfl rfl) (by decide) (Nat.le_of_ble_eq_true rfl) ?_
      refine g_if_neb 36 dX7_receive_30 (by decide) (fun h30 => ?_) (fun h30 => ?_)
      · refine g_aload_n 0 dX7_receive_36 rfl rfl ?_
        refine gf_X7_129 dX7_receive_37 ?_
        refine g_bipush 60 dX7_receive_40 rfl ?_
        refine g_icmp_ne 50 dX7_receive_42 (by decide) (fun h42 => ?_) (fun h42 => ?_)
        · have hlt := ltN (m := 60) hci rfl hni h42
          refine g_aload_n 0 dX7_receive_50 rfl rfl ?_
          refine g_iconst 0 dX7_receive_51 rfl ?_
          refine g_iload_n 1 dX7_receive_52 rfl rfl ?_
          refine g_iload_n 2 dX7_receive_53 rfl rfl ?_
          refine g_iload_n 3 dX7_receive_54 rfl rfl ?_
          refine ca_X7_135 dX7_receive_55 (t_X7_item hci hlt (Or.inl rfl)) (by decide) (Nat.le_of_ble_eq_true rfl) ?_
          refine g_iret dX7_receive_58 rfl rfl ?_ ?_
          · (repeat' split) <;> first | rfl | (exfalso; omega) | (exfalso; simp_all; done) | (exfalso; simp_all; omega)
          · (repeat' split) <;> first | rfl | (exfalso; omega) | (exfalso; simp_all; done) | (exfalso; simp_all; omega)
        · have heq := eqN (m := 60) hci rfl (by omega) (by decide) h42
          refine g_bipush (-4) dX7_receive_45 rfl ?_
          refine g_goto 58 dX7_receive_47 (by decide) ?_
          refine g_iret dX7_receive_58 rfl rfl ?_ ?_
          · (repeat' split) <;> first | rfl | (exfalso; omega) | (exfalso; simp_all; done) | (exfalso; simp_all; omega)
          · (repeat' split) <;> first | rfl | (exfalso; omega) | (exfalso; simp_all; done) | (exfalso; simp_all; omega)
      · refine g_bipush (-2) dX7_receive_33 rfl ?_
        refine g_iret dX7_receive_35 rfl rfl ?_ ?_
        · (repeat' split) <;> first | rfl | (exfalso; omega) | (exfalso; simp_all; done) | (exfalso; simp_all; omega)
        · (repeat' split) <;> first | rfl | (exfalso; omega) | (exfalso; simp_all; done) | (exfalso; simp_all; omega)
  · refine g_aload_n 0 dX7_receive_5 rfl rfl ?_
    refine g_iload_n 3 dX7_receive_6 rfl rfl ?_
    refine ca_X7_132 dX7_receive_7 (t_X7_isLease hce hne) (by decide) (Nat.le_of_ble_eq_true rfl) ?_
    refine g_if_neb 15 dX7_receive_10 (by decide) (fun h10 => ?_) (fun h10 => ?_)
    · refine g_iload_n 1 dX7_receive_15 rfl rfl ?_
      refine ca_X7_81 dX7_receive_16 (t_X7_isDay) (by decide) (Nat.le_of_ble_eq_true rfl) ?_
      refine g_if_eqb 33 dX7_receive_19 (by decide) (fun h19 => ?_) (fun h19 => ?_)
      · refine g_bipush (-2) dX7_receive_33 rfl ?_
        refine g_iret dX7_receive_35 rfl rfl ?_ ?_
        · (repeat' split) <;> first | rfl | (exfalso; omega) | (exfalso; simp_all; done) | (exfalso; simp_all; omega)
        · (repeat' split) <;> first | rfl | (exfalso; omega) | (exfalso; simp_all; done) | (exfalso; simp_all; omega)
      · refine g_iload_n 2 dX7_receive_22 rfl rfl ?_
        refine g_iconst 1 dX7_receive_23 rfl ?_
        refine g_sipush 10000 dX7_receive_24 rfl ?_
        refine ca_X7_77 dX7_receive_27 (t_X7_in 1 10000 rfl rfl) (by decide) (Nat.le_of_ble_eq_true rfl) ?_
        refine g_if_neb 36 dX7_receive_30 (by decide) (fun h30 => ?_) (fun h30 => ?_)
        · refine g_aload_n 0 dX7_receive_36 rfl rfl ?_
          refine gf_X7_129 dX7_receive_37 ?_
          refine g_bipush 60 dX7_receive_40 rfl ?_
          refine g_icmp_ne 50 dX7_receive_42 (by decide) (fun h42 => ?_) (fun h42 => ?_)
          · have hlt := ltN (m := 60) hci rfl hni h42
            refine g_aload_n 0 dX7_receive_50 rfl rfl ?_
            refine g_iconst 0 dX7_receive_51 rfl ?_
            refine g_iload_n 1 dX7_receive_52 rfl rfl ?_
            refine g_iload_n 2 dX7_receive_53 rfl rfl ?_
            refine g_iload_n 3 dX7_receive_54 rfl rfl ?_
            refine ca_X7_135 dX7_receive_55 (t_X7_item hci hlt (Or.inl rfl)) (by decide) (Nat.le_of_ble_eq_true rfl) ?_
            refine g_iret dX7_receive_58 rfl rfl ?_ ?_
            · (repeat' split) <;> first | rfl | (exfalso; omega) | (exfalso; simp_all; done) | (exfalso; simp_all; omega)
            · (repeat' split) <;> first | rfl | (exfalso; omega) | (exfalso; simp_all; done) | (exfalso; simp_all; omega)
          · have heq := eqN (m := 60) hci rfl (by omega) (by decide) h42
            refine g_bipush (-4) dX7_receive_45 rfl ?_
            refine g_goto 58 dX7_receive_47 (by decide) ?_
            refine g_iret dX7_receive_58 rfl rfl ?_ ?_
            · (repeat' split) <;> first | rfl | (exfalso; omega) | (exfalso; simp_all; done) | (exfalso; simp_all; omega)
            · (repeat' split) <;> first | rfl | (exfalso; omega) | (exfalso; simp_all; done) | (exfalso; simp_all; omega)
        · refine g_bipush (-2) dX7_receive_33 rfl ?_
          refine g_iret dX7_receive_35 rfl rfl ?_ ?_
          · (repeat' split) <;> first | rfl | (exfalso; omega) | (exfalso; simp_all; done) | (exfalso; simp_all; omega)
          · (repeat' split) <;> first | rfl | (exfalso; omega) | (exfalso; simp_all; done) | (exfalso; simp_all; omega)
    · refine g_iconst (-1) dX7_receive_13 rfl ?_
      refine g_iret dX7_receive_14 rfl rfl ?_ ?_
      · (repeat' split) <;> first | rfl | (exfalso; omega) | (exfalso; simp_all; done) | (exfalso; simp_all; omega)
      · (repeat' split) <;> first | rfl | (exfalso; omega) | (exfalso; simp_all; done) | (exfalso; simp_all; omega)
theorem ix6w {x z : Int32} {n c : Nat} (hx : x = nI n) (hz : z = nI c) (hn : n < 10) (hc : c < 6) : (6 * x + z).toNatClampNeg = 6 * n + c ∧ 0 ≤ (6 * x + z).toInt ∧ (6 * x + z).toInt < 60 := by
  subst hx
  subst hz
  rw [show (6 : Int32) * nI n = nI (6 * n) from pk_mul 6 n, nI_add, nI_clamp (by omega), nI_toInt (by omega)]
  omega
abbrev usedP (w : W0) (l : Int32) : Prop := 0 ≤ l.toInt ∧ ¬ w 63 l.toNatClampNeg = -6
def usedMW (w : W0) (l x : Int32) : W0 := if 0 ≤ l.toInt then setW w 63 l.toNatClampNeg x else w
def payMW (w : W0) (n : Nat) (d c l : Int32) : W0 := itemMW (usedMW w l (nI n)) n 1 d c l
def letMW (w : W0) (n : Nat) (d y r l : Int32) : W0 := setW (setW (setW (setW (setW (usedMW w l (nI (100 + n))) 70 n d) 71 n y) 72 n r) 73 n l) 57 16 (nI (n + 1))
set_option maxRecDepth 20000 in
theorem t_X7_pay {E : En} {w : W0} {ni nv : Nat} {d c l : Int32} (hci : w 57 9 = nI ni) (hni : ni ≤ 60) (hcv : w 57 6 = nI nv) (hnv : nv ≤ 10) : Mt E 2 yX7_pay cX7_pay 4 (some .int) [.ref (E.1 57), .int d, .int c, .int l] w (some (.int (if ¬ l = -1 ∧ ¬ inP l nv then -1 else if ¬ (dayP d ∧ coinP c) then -2 else if 60 ≤ ni then -4 else if usedP w l then -5 else nI ni))) (if ¬ (¬ l = -1 ∧ ¬ inP l nv) ∧ (dayP d ∧ coinP c) ∧ ¬ 60 ≤ ni ∧ ¬ usedP w l then payMW w ni d c l else w) := by
  refine Mt.of (by decide +kernel) (Nat.le_of_ble_eq_true rfl) ?_
  show G E 2 RX7 cX7_pay 4 (some .int) _ _ 0 [(0, .ref (E.1 57)), (1, .int d), (2, .int c), (3, .int l)] [] w
  have hciI : (w 57 9).toInt = (ni : Int) := by rw [hci]; exact nI_toInt (by omega)
  have hciN : (w 57 9).toNatClampNeg = ni := by rw [hci]; exact nI_clamp (by omega)
  refine g_iload_n 3 dX7_pay_0 rfl rfl ?_
  refine g_iconst (-1) dX7_pay_1 rfl ?_
  refine g_icmp_eq 15 dX7_pay_2 (by decide) (fun h2 => ?_) (fun h2 => ?_)
  · have hlr : l.toInt = -1 := by rw [h2]; rfl
    refine g_iload_n 1 dX7_pay_15 rfl rfl ?_
    refine ca_X7_81 dX7_pay_16 (t_X7_isDay) (by decide) (Nat.le_of_ble_eq_true rfl) ?_
    refine g_if_eqb 33 dX7_pay_19 (by decide) (fun h19 => ?_) (fun h19 => ?_)
    · refine g_bipush (-2) dX7_pay_33 rfl ?_
      refine g_iret dX7_pay_35 rfl rfl ?_ ?_
      · first | (repeat' split) <;> first | rfl | (exfalso; omega) | (exfalso; simp_all; done) | (exfalso; simp_all; omega)
      · (try rw [hci]); (try unfold payMW usedMW); (repeat' split) <;> first | rfl | (exfalso; omega) | (exfalso; simp_all; done) | (exfalso; simp_all; omega)
    · refine g_iload_n 2 dX7_pay_22 rfl rfl ?_
      refine g_iconst 1 dX7_pay_23 rfl ?_
      refine g_sipush 10000 dX7_pay_24 rfl ?_
      refine ca_X7_77 dX7_pay_27 (t_X7_in 1 10000 rfl rfl) (by decide) (Nat.le_of_ble_eq_true rfl) ?_
      refine g_if_neb 36 dX7_pay_30 (by decide) (fun h30 => ?_) (fun h30 => ?_)
      · refine g_aload_n 0 dX7_pay_36 rfl rfl ?_
        refine gf_X7_129 dX7_pay_37 ?_
        refine g_bipush 60 dX7_pay_40 rfl ?_
        refine g_icmp_ne 48 dX7_pay_42 (by decide) (fun h42 => ?_) (fun h42 => ?_)
        · have hlt := ltN (m := 60) hci rfl hni h42
          refine g_iload_n 3 dX7_pay_48 rfl rfl ?_
          refine g_if_lt 66 _ dX7_pay_49 (by decide) rfl (fun h49 => ?_) (fun h49 => False.elim (by first | omega | exact absurd h49 h2 | exact absurd h2 h49))
          refine g_iload_n 3 dX7_pay_66 rfl rfl ?_
          refine g_if_lt 80 _ dX7_pay_67 (by decide) rfl (fun h67 => ?_) (fun h67 => False.elim (by first | omega | exact absurd h67 h2 | exact absurd h2 h67))
          refine g_aload_n 0 dX7_pay_80 rfl rfl ?_
          refine g_iconst 1 dX7_pay_81 rfl ?_
          refine g_iload_n 1 dX7_pay_82 rfl rfl ?_
          refine g_iload_n 2 dX7_pay_83 rfl rfl ?_
          refine g_iload_n 3 dX7_pay_84 rfl rfl ?_
          refine ca_X7_135 dX7_pay_85 (t_X7_item (ni := ni) (by (try simp (disch := omega) only [setW_ne]); exact hci) hlt (Or.inr rfl)) (by decide) (Nat.le_of_ble_eq_true rfl) ?_
          refine g_iret dX7_pay_88 rfl rfl ?_ ?_
          · first | (repeat' split) <;> first | rfl | (exfalso; omega) | (exfalso; simp_all; done) | (exfalso; simp_all; omega)
          · (try rw [hci]); (try unfold payMW usedMW); (repeat' split) <;> first | rfl | (exfalso; omega) | (exfalso; simp_all; done) | (exfalso; simp_all; omega)
        · have heq := eqN (m := 60) hci rfl (by omega) (by decide) h42
          refine g_bipush (-4) dX7_pay_45 rfl ?_
          refine g_iret dX7_pay_47 rfl rfl ?_ ?_
          · first | (repeat' split) <;> first | rfl | (exfalso; omega) | (exfalso; simp_all; done) | (exfalso; simp_all; omega)
          · (try rw [hci]); (try unfold payMW usedMW); (repeat' split) <;> first | rfl | (exfalso; omega) | (exfalso; simp_all; done) | (exfalso; simp_all; omega)
      · refine g_bipush (-2) dX7_pay_33 rfl ?_
        refine g_iret dX7_pay_35 rfl rfl ?_ ?_
        · first | (repeat' split) <;> first | rfl | (exfalso; omega) | (exfalso; simp_all; done) | (exfalso; simp_all; omega)
        · (try rw [hci]); (try unfold payMW usedMW); (repeat' split) <;> first | rfl | (exfalso; omega) | (exfalso; simp_all; done) | (exfalso; simp_all; omega)
  · refine g_aload_n 0 dX7_pay_5 rfl rfl ?_
    refine g_iload_n 3 dX7_pay_6 rfl rfl ?_
    refine ca_X7_123 dX7_pay_7 (t_X7_isLeave hcv hnv) (by decide) (Nat.le_of_ble_eq_true rfl) ?_
    refine g_if_neb 15 dX7_pay_10 (by decide) (fun h10 => ?_) (fun h10 => ?_)
    · have hlr : 0 ≤ l.toInt ∧ l.toInt < 10 := by omega
      refine g_iload_n 1 dX7_pay_15 rfl rfl ?_
      refine ca_X7_81 dX7_pay_16 (t_X7_isDay) (by decide) (Nat.le_of_ble_eq_true rfl) ?_
      refine g_if_eqb 33 dX7_pay_19 (by decide) (fun h19 => ?_) (fun h19 => ?_)
      · refine g_bipush (-2) dX7_pay_33 rfl ?_
        refine g_iret dX7_pay_35 rfl rfl ?_ ?_
        · first | (repeat' split) <;> first | rfl | (exfalso; omega) | (exfalso; simp_all; done) | (exfalso; simp_all; omega)
        · (try rw [hci]); (try unfold payMW usedMW); (repeat' split) <;> first | rfl | (exfalso; omega) | (exfalso; simp_all; done) | (exfalso; simp_all; omega)
      · refine g_iload_n 2 dX7_pay_22 rfl rfl ?_
        refine g_iconst 1 dX7_pay_23 rfl ?_
        refine g_sipush 10000 dX7_pay_24 rfl ?_
        refine ca_X7_77 dX7_pay_27 (t_X7_in 1 10000 rfl rfl) (by decide) (Nat.le_of_ble_eq_true rfl) ?_
        refine g_if_neb 36 dX7_pay_30 (by decide) (fun h30 => ?_) (fun h30 => ?_)
        · refine g_aload_n 0 dX7_pay_36 rfl rfl ?_
          refine gf_X7_129 dX7_pay_37 ?_
          refine g_bipush 60 dX7_pay_40 rfl ?_
          refine g_icmp_ne 48 dX7_pay_42 (by decide) (fun h42 => ?_) (fun h42 => ?_)
          · have hlt := ltN (m := 60) hci rfl hni h42
            refine g_iload_n 3 dX7_pay_48 rfl rfl ?_
            refine g_if_lt 66 _ dX7_pay_49 (by decide) rfl (fun h49 => False.elim (by first | omega | exact absurd h49 h2 | exact absurd h2 h49)) (fun h49 => ?_)
            refine g_aload_n 0 dX7_pay_52 rfl rfl ?_
            refine gf_X7_25 dX7_pay_53 ?_
            refine g_iload_n 3 dX7_pay_56 rfl rfl ?_
            refine g_iald (n := 10) _ dX7_pay_57 (by decide) rfl rfl (by omega) ?_
            refine g_bipush (-6) dX7_pay_58 rfl ?_
            refine g_icmp_eq 66 dX7_pay_60 (by decide) (fun h60 => ?_) (fun h60 => ?_)
            · refine g_iload_n 3 dX7_pay_66 rfl rfl ?_
              refine g_if_lt 80 _ dX7_pay_67 (by decide) rfl (fun h67 => False.elim (by first | omega | exact absurd h67 h2 | exact absurd h2 h67)) (fun h67 => ?_)
              refine g_aload_n 0 dX7_pay_70 rfl rfl ?_
              refine gf_X7_25 dX7_pay_71 ?_
              refine g_iload_n 3 dX7_pay_74 rfl rfl ?_
              refine g_aload_n 0 dX7_pay_75 rfl rfl ?_
              refine gf_X7_129 dX7_pay_76 ?_
              refine g_iast (n := 10) _ dX7_pay_79 (by decide) rfl rfl (by omega) ?_
              (try simp (disch := omega) only [setW_setA, setW_setA_ne])
              refine g_aload_n 0 dX7_pay_80 rfl rfl ?_
              refine g_iconst 1 dX7_pay_81 rfl ?_
              refine g_iload_n 1 dX7_pay_82 rfl rfl ?_
              refine g_iload_n 2 dX7_pay_83 rfl rfl ?_
              refine g_iload_n 3 dX7_pay_84 rfl rfl ?_
              refine ca_X7_135 dX7_pay_85 (t_X7_item (ni := ni) (by (try simp (disch := omega) only [setW_ne]); exact hci) hlt (Or.inr rfl)) (by decide) (Nat.le_of_ble_eq_true rfl) ?_
              (try simp (disch := omega) only [setW_ne, setW_p, setA_ne, setA_p, upd_self, upd_ne])
              refine g_iret dX7_pay_88 rfl rfl ?_ ?_
              · first | (repeat' split) <;> first | rfl | (exfalso; omega) | (exfalso; simp_all; done) | (exfalso; simp_all; omega)
              · (try rw [hci]); (try unfold payMW usedMW); (repeat' split) <;> first | rfl | (exfalso; omega) | (exfalso; simp_all; done) | (exfalso; simp_all; omega)
            · refine g_bipush (-5) dX7_pay_63 rfl ?_
              refine g_iret dX7_pay_65 rfl rfl ?_ ?_
              · first | (repeat' split) <;> first | rfl | (exfalso; omega) | (exfalso; simp_all; done) | (exfalso; simp_all; omega)
              · (try rw [hci]); (try unfold payMW usedMW); (repeat' split) <;> first | rfl | (exfalso; omega) | (exfalso; simp_all; done) | (exfalso; simp_all; omega)
          · have heq := eqN (m := 60) hci rfl (by omega) (by decide) h42
            refine g_bipush (-4) dX7_pay_45 rfl ?_
            refine g_iret dX7_pay_47 rfl rfl ?_ ?_
            · first | (repeat' split) <;> first | rfl | (exfalso; omega) | (exfalso; simp_all; done) | (exfalso; simp_all; omega)
            · (try rw [hci]); (try unfold payMW usedMW); (repeat' split) <;> first | rfl | (exfalso; omega) | (exfalso; simp_all; done) | (exfalso; simp_all; omega)
        · refine g_bipush (-2) dX7_pay_33 rfl ?_
          refine g_iret dX7_pay_35 rfl rfl ?_ ?_
          · first | (repeat' split) <;> first | rfl | (exfalso; omega) | (exfalso; simp_all; done) | (exfalso; simp_all; omega)
          · (try rw [hci]); (try unfold payMW usedMW); (repeat' split) <;> first | rfl | (exfalso; omega) | (exfalso; simp_all; done) | (exfalso; simp_all; omega)
    · refine g_iconst (-1) dX7_pay_13 rfl ?_
      refine g_iret dX7_pay_14 rfl rfl ?_ ?_
      · first | (repeat' split) <;> first | rfl | (exfalso; omega) | (exfalso; simp_all; done) | (exfalso; simp_all; omega)
      · (try rw [hci]); (try unfold payMW usedMW); (repeat' split) <;> first | rfl | (exfalso; omega) | (exfalso; simp_all; done) | (exfalso; simp_all; omega)
set_option maxRecDepth 20000 in
theorem t_X7_let {E : En} {w : W0} {ne nv : Nat} {d y r l : Int32} (hce : w 57 16 = nI ne) (hne : ne ≤ 10) (hcv : w 57 6 = nI nv) (hnv : nv ≤ 10) : Mt E 2 yX7_let cX7_let 5 (some .int) [.ref (E.1 57), .int d, .int y, .int r, .int l] w (some (.int (if ¬ l = -1 ∧ ¬ inP l nv then -1 else if ¬ letP d y r then -2 else if 10 ≤ ne then -4 else if usedP w l then -5 else nI ne))) (if ¬ (¬ l = -1 ∧ ¬ inP l nv) ∧ letP d y r ∧ ¬ 10 ≤ ne ∧ ¬ usedP w l then letMW w ne d y r l else w) := by
  refine Mt.of (by decide +kernel) (Nat.le_of_ble_eq_true rfl) ?_
  show G E 2 RX7 cX7_let 5 (some .int) _ _ 0 [(0, .ref (E.1 57)), (1, .int d), (2, .int y), (3, .int r), (4, .int l)] [] w
  have hceI : (w 57 16).toInt = (ne : Int) := by rw [hce]; exact nI_toInt (by omega)
  have hceN : (w 57 16).toNatClampNeg = ne := by rw [hce]; exact nI_clamp (by omega)
  refine g_iload 4 dX7_let_0 rfl ?_
  refine g_iconst (-1) dX7_let_2 rfl ?_
  refine g_icmp_eq 17 dX7_let_3 (by decide) (fun h3 => ?_) (fun h3 => ?_)
  · have hlr : l.toInt = -1 := by rw [h3]; rfl
    refine g_iload_n 1 dX7_let_17 rfl rfl ?_
    refine ca_X7_81 dX7_let_18 (t_X7_isDay) (by decide) (Nat.le_of_ble_eq_true rfl) ?_
    refine g_if_eqb 45 dX7_let_21 (by decide) (fun h21 => ?_) (fun h21 => ?_)
    · refine g_bipush (-2) dX7_let_45 rfl ?_
      refine g_iret dX7_let_47 rfl rfl ?_ ?_
      · (repeat' split) <;> first | rfl | (exfalso; omega) | (exfalso; simp_all; done) | (exfalso; simp_all; omega)
      · (try unfold letMW usedMW); (try rw [← nI_1]); (try rw [← nI_add, ← hce]); (repeat' split) <;> first | rfl | (exfalso; omega) | (exfalso; simp_all; done) | (exfalso; simp_all; omega)
    · refine g_iload_n 2 dX7_let_24 rfl rfl ?_
      refine g_iconst 1 dX7_let_25 rfl ?_
      refine g_bipush 30 dX7_let_26 rfl ?_
      refine ca_X7_77 dX7_let_28 (t_X7_in 1 30 rfl rfl) (by decide) (Nat.le_of_ble_eq_true rfl) ?_
      refine g_if_eqb 45 dX7_let_31 (by decide) (fun h31 => ?_) (fun h31 => ?_)
      · refine g_bipush (-2) dX7_let_45 rfl ?_
        refine g_iret dX7_let_47 rfl rfl ?_ ?_
        · (repeat' split) <;> first | rfl | (exfalso; omega) | (exfalso; simp_all; done) | (exfalso; simp_all; omega)
        · (try unfold letMW usedMW); (try rw [← nI_1]); (try rw [← nI_add, ← hce]); (repeat' split) <;> first | rfl | (exfalso; omega) | (exfalso; simp_all; done) | (exfalso; simp_all; omega)
      · refine g_iload_n 3 dX7_let_34 rfl rfl ?_
        refine g_iconst 1 dX7_let_35 rfl ?_
        refine g_sipush 1000 dX7_let_36 rfl ?_
        refine ca_X7_77 dX7_let_39 (t_X7_in 1 1000 rfl rfl) (by decide) (Nat.le_of_ble_eq_true rfl) ?_
        refine g_if_neb 48 dX7_let_42 (by decide) (fun h42 => ?_) (fun h42 => ?_)
        · refine g_aload_n 0 dX7_let_48 rfl rfl ?_
          refine gf_X7_126 dX7_let_49 ?_
          refine g_bipush 10 dX7_let_52 rfl ?_
          refine g_icmp_ne 60 dX7_let_54 (by decide) (fun h54 => ?_) (fun h54 => ?_)
          · have hlt := ltN (m := 10) hce rfl hne h54
            refine g_iload 4 dX7_let_60 rfl ?_
            refine g_if_lt 80 _ dX7_let_62 (by decide) rfl (fun h62 => ?_) (fun h62 => False.elim (by first | omega | exact absurd h62 h3 | exact absurd h3 h62))
            refine g_iload 4 dX7_let_80 rfl ?_
            refine g_if_lt 99 _ dX7_let_82 (by decide) rfl (fun h82 => ?_) (fun h82 => False.elim (by first | omega | exact absurd h82 h3 | exact absurd h3 h82))
            refine g_aload_n 0 dX7_let_99 rfl rfl ?_
            refine gf_X7_47 dX7_let_100 ?_
            refine g_aload_n 0 dX7_let_103 rfl rfl ?_
            refine gf_X7_126 dX7_let_104 ?_
            refine g_iload_n 1 dX7_let_107 rfl rfl ?_
            refine g_iast (n := 10) ne dX7_let_108 (by decide) rfl hceN (by omega) ?_
            (try simp (disch := omega) only [setW_setA, setW_setA_ne])
            refine g_aload_n 0 dX7_let_109 rfl rfl ?_
            refine gf_X7_50 dX7_let_110 ?_
            refine g_aload_n 0 dX7_let_113 rfl rfl ?_
            refine gf_X7_126 dX7_let_114 ?_
            (try simp (disch := omega) only [setW_ne, setW_p, setA_ne, setA_p, upd_self, upd_ne])
            refine g_iload_n 2 dX7_let_117 rfl rfl ?_
            refine g_iast (n := 10) ne dX7_let_118 (by decide) rfl hceN (by omega) ?_
            (try simp (disch := omega) only [setW_setA, setW_setA_ne])
            refine g_aload_n 0 dX7_let_119 rfl rfl ?_
            refine gf_X7_53 dX7_let_120 ?_
            refine g_aload_n 0 dX7_let_123 rfl rfl ?_
            refine gf_X7_126 dX7_let_124 ?_
            (try simp (disch := omega) only [setW_ne, setW_p, setA_ne, setA_p, upd_self, upd_ne])
            refine g_iload_n 3 dX7_let_127 rfl rfl ?_
            refine g_iast (n := 10) ne dX7_let_128 (by decide) rfl hceN (by omega) ?_
            (try simp (disch := omega) only [setW_setA, setW_setA_ne])
            refine g_aload_n 0 dX7_let_129 rfl rfl ?_
            refine gf_X7_56 dX7_let_130 ?_
            refine g_aload_n 0 dX7_let_133 rfl rfl ?_
            refine gf_X7_126 dX7_let_134 ?_
            (try simp (disch := omega) only [setW_ne, setW_p, setA_ne, setA_p, upd_self, upd_ne])
            refine g_iload 4 dX7_let_137 rfl ?_
            refine g_iast (n := 10) ne dX7_let_139 (by decide) rfl hceN (by omega) ?_
            (try simp (disch := omega) only [setW_setA, setW_setA_ne])
            refine g_aload_n 0 dX7_let_140 rfl rfl ?_
            refine g_dup dX7_let_141 rfl ?_
            refine gf_X7_126 dX7_let_142 ?_
            (try simp (disch := omega) only [setW_ne, setW_p, setA_ne, setA_p, upd_self, upd_ne])
            refine g_iconst 1 dX7_let_145 rfl ?_
            refine g_iadd dX7_let_146 ?_
            refine pf_X7_126 dX7_let_147 ?_
            (try simp (disch := omega) only [setW_setA, setW_setA_ne])
            refine g_aload_n 0 dX7_let_150 rfl rfl ?_
            refine gf_X7_126 dX7_let_151 ?_
            (try simp (disch := omega) only [setW_ne, setW_p, setA_ne, setA_p, upd_self, upd_ne])
            refine g_iconst 1 dX7_let_154 rfl ?_
            refine g_isub dX7_let_155 ?_
            rw [hce, nI_1, nI_pred]
            refine g_iret dX7_let_156 rfl rfl ?_ ?_
            · (repeat' split) <;> first | rfl | (exfalso; omega) | (exfalso; simp_all; done) | (exfalso; simp_all; omega)
            · (try unfold letMW usedMW); (try rw [← nI_1]); (try rw [← nI_add, ← hce]); (repeat' split) <;> first | rfl | (exfalso; omega) | (exfalso; simp_all; done) | (exfalso; simp_all; omega)
          · have heq := eqN (m := 10) hce rfl (by omega) (by decide) h54
            refine g_bipush (-4) dX7_let_57 rfl ?_
            refine g_iret dX7_let_59 rfl rfl ?_ ?_
            · (repeat' split) <;> first | rfl | (exfalso; omega) | (exfalso; simp_all; done) | (exfalso; simp_all; omega)
            · (try unfold letMW usedMW); (try rw [← nI_1]); (try rw [← nI_add, ← hce]); (repeat' split) <;> first | rfl | (exfalso; omega) | (exfalso; simp_all; done) | (exfalso; simp_all; omega)
        · refine g_bipush (-2) dX7_let_45 rfl ?_
          refine g_iret dX7_let_47 rfl rfl ?_ ?_
          · (repeat' split) <;> first | rfl | (exfalso; omega) | (exfalso; simp_all; done) | (exfalso; simp_all; omega)
          · (try unfold letMW usedMW); (try rw [← nI_1]); (try rw [← nI_add, ← hce]); (repeat' split) <;> first | rfl | (exfalso; omega) | (exfalso; simp_all; done) | (exfalso; simp_all; omega)
  · refine g_aload_n 0 dX7_let_6 rfl rfl ?_
    refine g_iload 4 dX7_let_7 rfl ?_
    refine ca_X7_123 dX7_let_9 (t_X7_isLeave hcv hnv) (by decide) (Nat.le_of_ble_eq_true rfl) ?_
    refine g_if_neb 17 dX7_let_12 (by decide) (fun h12 => ?_) (fun h12 => ?_)
    · have hlr : 0 ≤ l.toInt ∧ l.toInt < 10 := by omega
      refine g_iload_n 1 dX7_let_17 rfl rfl ?_
      refine ca_X7_81 dX7_let_18 (t_X7_isDay) (by decide) (Nat.le_of_ble_eq_true rfl) ?_
      refine g_if_eqb 45 dX7_let_21 (by decide) (fun h21 => ?_) (fun h21 => ?_)
      · refine g_bipush (-2) dX7_let_45 rfl ?_
        refine g_iret dX7_let_47 rfl rfl ?_ ?_
        · (repeat' split) <;> first | rfl | (exfalso; omega) | (exfalso; simp_all; done) | (exfalso; simp_all; omega)
        · (try unfold letMW usedMW); (try rw [← nI_1]); (try rw [← nI_add, ← hce]); (repeat' split) <;> first | rfl | (exfalso; omega) | (exfalso; simp_all; done) | (exfalso; simp_all; omega)
      · refine g_iload_n 2 dX7_let_24 rfl rfl ?_
        refine g_iconst 1 dX7_let_25 rfl ?_
        refine g_bipush 30 dX7_let_26 rfl ?_
        refine ca_X7_77 dX7_let_28 (t_X7_in 1 30 rfl rfl) (by decide) (Nat.le_of_ble_eq_true rfl) ?_
        refine g_if_eqb 45 dX7_let_31 (by decide) (fun h31 => ?_) (fun h31 => ?_)
        · refine g_bipush (-2) dX7_let_45 rfl ?_
          refine g_iret dX7_let_47 rfl rfl ?_ ?_
          · (repeat' split) <;> first | rfl | (exfalso; omega) | (exfalso; simp_all; done) | (exfalso; simp_all; omega)
          · (try unfold letMW usedMW); (try rw [← nI_1]); (try rw [← nI_add, ← hce]); (repeat' split) <;> first | rfl | (exfalso; omega) | (exfalso; simp_all; done) | (exfalso; simp_all; omega)
        · refine g_iload_n 3 dX7_let_34 rfl rfl ?_
          refine g_iconst 1 dX7_let_35 rfl ?_
          refine g_sipush 1000 dX7_let_36 rfl ?_
          refine ca_X7_77 dX7_let_39 (t_X7_in 1 1000 rfl rfl) (by decide) (Nat.le_of_ble_eq_true rfl) ?_
          refine g_if_neb 48 dX7_let_42 (by decide) (fun h42 => ?_) (fun h42 => ?_)
          · refine g_aload_n 0 dX7_let_48 rfl rfl ?_
            refine gf_X7_126 dX7_let_49 ?_
            refine g_bipush 10 dX7_let_52 rfl ?_
            refine g_icmp_ne 60 dX7_let_54 (by decide) (fun h54 => ?_) (fun h54 => ?_)
            · have hlt := ltN (m := 10) hce rfl hne h54
              refine g_iload 4 dX7_let_60 rfl ?_
              refine g_if_lt 80 _ dX7_let_62 (by decide) rfl (fun h62 => False.elim (by first | omega | exact absurd h62 h3 | exact absurd h3 h62)) (fun h62 => ?_)
              refine g_aload_n 0 dX7_let_65 rfl rfl ?_
              refine gf_X7_25 dX7_let_66 ?_
              refine g_iload 4 dX7_let_69 rfl ?_
              refine g_iald (n := 10) _ dX7_let_71 (by decide) rfl rfl (by omega) ?_
              refine g_bipush (-6) dX7_let_72 rfl ?_
              refine g_icmp_eq 80 dX7_let_74 (by decide) (fun h74 => ?_) (fun h74 => ?_)
              · refine g_iload 4 dX7_let_80 rfl ?_
                refine g_if_lt 99 _ dX7_let_82 (by decide) rfl (fun h82 => False.elim (by first | omega | exact absurd h82 h3 | exact absurd h3 h82)) (fun h82 => ?_)
                refine g_aload_n 0 dX7_let_85 rfl rfl ?_
                refine gf_X7_25 dX7_let_86 ?_
                refine g_iload 4 dX7_let_89 rfl ?_
                refine g_bipush 100 dX7_let_91 rfl ?_
                refine g_aload_n 0 dX7_let_93 rfl rfl ?_
                refine gf_X7_126 dX7_let_94 ?_
                refine g_iadd dX7_let_97 ?_
                refine g_iast (n := 10) _ dX7_let_98 (by decide) rfl rfl (by omega) ?_
                (try simp (disch := omega) only [setW_setA, setW_setA_ne])
                refine g_aload_n 0 dX7_let_99 rfl rfl ?_
                refine gf_X7_47 dX7_let_100 ?_
                refine g_aload_n 0 dX7_let_103 rfl rfl ?_
                refine gf_X7_126 dX7_let_104 ?_
                (try simp (disch := omega) only [setW_ne, setW_p, setA_ne, setA_p, upd_self, upd_ne])
                refine g_iload_n 1 dX7_let_107 rfl rfl ?_
                refine g_iast (n := 10) ne dX7_let_108 (by decide) rfl hceN (by omega) ?_
                (try simp (disch := omega) only [setW_setA, setW_setA_ne])
                refine g_aload_n 0 dX7_let_109 rfl rfl ?_
                refine gf_X7_50 dX7_let_110 ?_
                refine g_aload_n 0 dX7_let_113 rfl rfl ?_
                refine gf_X7_126 dX7_let_114 ?_
                (try simp (disch := omega) only [setW_ne, setW_p, setA_ne, setA_p, upd_self, upd_ne])
                refine g_iload_n 2 dX7_let_117 rfl rfl ?_
                refine g_iast (n := 10) ne dX7_let_118 (by decide) rfl hceN (by omega) ?_
                (try simp (disch := omega) only [setW_setA, setW_setA_ne])
                refine g_aload_n 0 dX7_let_119 rfl rfl ?_
                refine gf_X7_53 dX7_let_120 ?_
                refine g_aload_n 0 dX7_let_123 rfl rfl ?_
                refine gf_X7_126 dX7_let_124 ?_
                (try simp (disch := omega) only [setW_ne, setW_p, setA_ne, setA_p, upd_self, upd_ne])
                refine g_iload_n 3 dX7_let_127 rfl rfl ?_
                refine g_iast (n := 10) ne dX7_let_128 (by decide) rfl hceN (by omega) ?_
                (try simp (disch := omega) only [setW_setA, setW_setA_ne])
                refine g_aload_n 0 dX7_let_129 rfl rfl ?_
                refine gf_X7_56 dX7_let_130 ?_
                refine g_aload_n 0 dX7_let_133 rfl rfl ?_
                refine gf_X7_126 dX7_let_134 ?_
                (try simp (disch := omega) only [setW_ne, setW_p, setA_ne, setA_p, upd_self, upd_ne])
                refine g_iload 4 dX7_let_137 rfl ?_
                refine g_iast (n := 10) ne dX7_let_139 (by decide) rfl hceN (by omega) ?_
                (try simp (disch := omega) only [setW_setA, setW_setA_ne])
                refine g_aload_n 0 dX7_let_140 rfl rfl ?_
                refine g_dup dX7_let_141 rfl ?_
                refine gf_X7_126 dX7_let_142 ?_
                (try simp (disch := omega) only [setW_ne, setW_p, setA_ne, setA_p, upd_self, upd_ne])
                refine g_iconst 1 dX7_let_145 rfl ?_
                refine g_iadd dX7_let_146 ?_
                refine pf_X7_126 dX7_let_147 ?_
                (try simp (disch := omega) only [setW_setA, setW_setA_ne])
                refine g_aload_n 0 dX7_let_150 rfl rfl ?_
                refine gf_X7_126 dX7_let_151 ?_
                (try simp (disch := omega) only [setW_ne, setW_p, setA_ne, setA_p, upd_self, upd_ne])
                refine g_iconst 1 dX7_let_154 rfl ?_
                refine g_isub dX7_let_155 ?_
                rw [hce, nI_1, nI_pred]
                refine g_iret dX7_let_156 rfl rfl ?_ ?_
                · (repeat' split) <;> first | rfl | (exfalso; omega) | (exfalso; simp_all; done) | (exfalso; simp_all; omega)
                · (try unfold letMW usedMW); (try rw [← nI_1]); (try rw [← nI_add, ← hce]); (repeat' split) <;> first | rfl | (exfalso; omega) | (exfalso; simp_all; done) | (exfalso; simp_all; omega)
              · refine g_bipush (-5) dX7_let_77 rfl ?_
                refine g_iret dX7_let_79 rfl rfl ?_ ?_
                · (repeat' split) <;> first | rfl | (exfalso; omega) | (exfalso; simp_all; done) | (exfalso; simp_all; omega)
                · (try unfold letMW usedMW); (try rw [← nI_1]); (try rw [← nI_add, ← hce]); (repeat' split) <;> first | rfl | (exfalso; omega) | (exfalso; simp_all; done) | (exfalso; simp_all; omega)
            · have heq := eqN (m := 10) hce rfl (by omega) (by decide) h54
              refine g_bipush (-4) dX7_let_57 rfl ?_
              refine g_iret dX7_let_59 rfl rfl ?_ ?_
              · (repeat' split) <;> first | rfl | (exfalso; omega) | (exfalso; simp_all; done) | (exfalso; simp_all; omega)
              · (try unfold letMW usedMW); (try rw [← nI_1]); (try rw [← nI_add, ← hce]); (repeat' split) <;> first | rfl | (exfalso; omega) | (exfalso; simp_all; done) | (exfalso; simp_all; omega)
          · refine g_bipush (-2) dX7_let_45 rfl ?_
            refine g_iret dX7_let_47 rfl rfl ?_ ?_
            · (repeat' split) <;> first | rfl | (exfalso; omega) | (exfalso; simp_all; done) | (exfalso; simp_all; omega)
            · (try unfold letMW usedMW); (try rw [← nI_1]); (try rw [← nI_add, ← hce]); (repeat' split) <;> first | rfl | (exfalso; omega) | (exfalso; simp_all; done) | (exfalso; simp_all; omega)
    · refine g_iconst (-1) dX7_let_15 rfl ?_
      refine g_iret dX7_let_16 rfl rfl ?_ ?_
      · (repeat' split) <;> first | rfl | (exfalso; omega) | (exfalso; simp_all; done) | (exfalso; simp_all; omega)
      · (try unfold letMW usedMW); (try rw [← nI_1]); (try rw [← nI_add, ← hce]); (repeat' split) <;> first | rfl | (exfalso; omega) | (exfalso; simp_all; done) | (exfalso; simp_all; omega)
set_option maxRecDepth 20000 in
theorem t_X7_vouch {E : En} {w : W0} {ni : Nat} {i z : Int32} (hci : w 57 9 = nI ni) (hni : ni ≤ 60) (hz : z = 0 ∨ z = 1) : Mt E 2 yX7_vouch cX7_vouch 4 (some .int) [.ref (E.1 57), .int i, .int z] w (some (.int (if inP i ni then (if w 64 i.toNatClampNeg = 0 then -3 else if w 68 i.toNatClampNeg = 0 then 0 else 1) else -1))) (if inP i ni ∧ ¬ w 64 i.toNatClampNeg = 0 then setW (setW w 68 i.toNatClampNeg z) 57 23 0 else w) := by
  refine Mt.of (by decide +kernel) (Nat.le_of_ble_eq_true rfl) ?_
  show G E 2 RX7 cX7_vouch 4 (some .int) _ _ 0 [(0, .ref (E.1 57)), (1, .int i), (2, .int z)] [] w
  refine g_aload_n 0 dX7_vouch_0 rfl rfl ?_
  refine g_iload_n 1 dX7_vouch_1 rfl rfl ?_
  refine ca_X7_139 dX7_vouch_2 (t_X7_isItem hci hni) (by decide) (Nat.le_of_ble_eq_true rfl) ?_
  refine g_if_neb 10 dX7_vouch_5 (by decide) (fun h5 => ?_) (fun h5 => ?_)
  · refine g_aload_n 0 dX7_vouch_10 rfl rfl ?_
    refine gf_X7_28 dX7_vouch_11 ?_
    refine g_iload_n 1 dX7_vouch_14 rfl rfl ?_
    refine g_bald (n := 60) _ dX7_vouch_15 (by decide) rfl rfl (by omega) ?_
    refine g_if_ne 22 dX7_vouch_16 (by decide) (fun h16 => ?_) (fun h16 => ?_)
    · refine g_aload_n 0 dX7_vouch_22 rfl rfl ?_
      refine gf_X7_41 dX7_vouch_23 ?_
      refine g_iload_n 1 dX7_vouch_26 rfl rfl ?_
      refine g_bald (n := 60) _ dX7_vouch_27 (by decide) rfl rfl (by omega) ?_
      refine g_if_eq 35 dX7_vouch_28 (by decide) (fun h28 => ?_) (fun h28 => ?_)
      · refine g_iconst 0 dX7_vouch_35 rfl ?_
        refine g_istN_n dX7_vouch_36 rfl (by decide) rfl ?_
        refine g_aload_n 1 dX7_vouch_37 rfl rfl ?_
        refine gf_X7_41 dX7_vouch_38 ?_
        refine g_iload_n 2 dX7_vouch_41 rfl rfl ?_
        refine g_iload_n 3 dX7_vouch_42 rfl rfl ?_
        refine g_bast (n := 60) _ dX7_vouch_43 (by decide) rfl rfl (by omega) (vnar01 hz) ?_
        (try simp (disch := omega) only [setW_setA, setW_setA_ne])
        refine g_aload_n 1 dX7_vouch_44 rfl rfl ?_
        refine g_iconst 0 dX7_vouch_45 rfl ?_
        refine pf_X7_89 dX7_vouch_46 rfl rfl ?_
        (try simp (disch := omega) only [setW_setA, setW_setA_ne])
        refine g_iload_n 0 dX7_vouch_49 rfl rfl ?_
        refine g_iret dX7_vouch_50 rfl rfl ?_ ?_
        · (repeat' split) <;> first | rfl | (exfalso; omega) | (exfalso; simp_all; done) | (exfalso; simp_all; omega)
        · (repeat' split) <;> first | rfl | (exfalso; omega) | (exfalso; simp_all; done) | (exfalso; simp_all; omega)
      · refine g_iconst 1 dX7_vouch_31 rfl ?_
        refine g_goto 36 dX7_vouch_32 (by decide) ?_
        refine g_istN_n dX7_vouch_36 rfl (by decide) rfl ?_
        refine g_aload_n 1 dX7_vouch_37 rfl rfl ?_
        refine gf_X7_41 dX7_vouch_38 ?_
        refine g_iload_n 2 dX7_vouch_41 rfl rfl ?_
        refine g_iload_n 3 dX7_vouch_42 rfl rfl ?_
        refine g_bast (n := 60) _ dX7_vouch_43 (by decide) rfl rfl (by omega) (vnar01 hz) ?_
        (try simp (disch := omega) only [setW_setA, setW_setA_ne])
        refine g_aload_n 1 dX7_vouch_44 rfl rfl ?_
        refine g_iconst 0 dX7_vouch_45 rfl ?_
        refine pf_X7_89 dX7_vouch_46 rfl rfl ?_
        (try simp (disch := omega) only [setW_setA, setW_setA_ne])
        refine g_iload_n 0 dX7_vouch_49 rfl rfl ?_
        refine g_iret dX7_vouch_50 rfl rfl ?_ ?_
        · (repeat' split) <;> first | rfl | (exfalso; omega) | (exfalso; simp_all; done) | (exfalso; simp_all; omega)
        · (repeat' split) <;> first | rfl | (exfalso; omega) | (exfalso; simp_all; done) | (exfalso; simp_all; omega)
    · refine g_bipush (-3) dX7_vouch_19 rfl ?_
      refine g_iret dX7_vouch_21 rfl rfl ?_ ?_
      · (repeat' split) <;> first | rfl | (exfalso; omega) | (exfalso; simp_all; done) | (exfalso; simp_all; omega)
      · (repeat' split) <;> first | rfl | (exfalso; omega) | (exfalso; simp_all; done) | (exfalso; simp_all; omega)
  · refine g_iconst (-1) dX7_vouch_8 rfl ?_
    refine g_iret dX7_vouch_9 rfl rfl ?_ ?_
    · (repeat' split) <;> first | rfl | (exfalso; omega) | (exfalso; simp_all; done) | (exfalso; simp_all; omega)
    · (repeat' split) <;> first | rfl | (exfalso; omega) | (exfalso; simp_all; done) | (exfalso; simp_all; omega)
set_option maxRecDepth 20000 in
theorem t_X7_challenge {E : En} {w : W0} {ni : Nat} {i z : Int32} (hci : w 57 9 = nI ni) (hni : ni ≤ 60) (hz : z = 0 ∨ z = 1) : Mt E 2 yX7_challenge cX7_challenge 4 (some .int) [.ref (E.1 57), .int i, .int z] w (some (.int (if inP i ni then (if w 64 i.toNatClampNeg = 0 then -3 else if w 69 i.toNatClampNeg = 0 then 0 else 1) else -1))) (if inP i ni ∧ ¬ w 64 i.toNatClampNeg = 0 then setW (setW w 69 i.toNatClampNeg z) 57 23 0 else w) := by
  refine Mt.of (by decide +kernel) (Nat.le_of_ble_eq_true rfl) ?_
  show G E 2 RX7 cX7_challenge 4 (some .int) _ _ 0 [(0, .ref (E.1 57)), (1, .int i), (2, .int z)] [] w
  refine g_aload_n 0 dX7_challenge_0 rfl rfl ?_
  refine g_iload_n 1 dX7_challenge_1 rfl rfl ?_
  refine ca_X7_139 dX7_challenge_2 (t_X7_isItem hci hni) (by decide) (Nat.le_of_ble_eq_true rfl) ?_
  refine g_if_neb 10 dX7_challenge_5 (by decide) (fun h5 => ?_) (fun h5 => ?_)
  · refine g_aload_n 0 dX7_challenge_10 rfl rfl ?_
    refine gf_X7_28 dX7_challenge_11 ?_
    refine g_iload_n 1 dX7_challenge_14 rfl rfl ?_
    refine g_bald (n := 60) _ dX7_challenge_15 (by decide) rfl rfl (by omega) ?_
    refine g_if_ne 22 dX7_challenge_16 (by decide) (fun h16 => ?_) (fun h16 => ?_)
    · refine g_aload_n 0 dX7_challenge_22 rfl rfl ?_
      refine gf_X7_44 dX7_challenge_23 ?_
      refine g_iload_n 1 dX7_challenge_26 rfl rfl ?_
      refine g_bald (n := 60) _ dX7_challenge_27 (by decide) rfl rfl (by omega) ?_
      refine g_if_eq 35 dX7_challenge_28 (by decide) (fun h28 => ?_) (fun h28 => ?_)
      · refine g_iconst 0 dX7_challenge_35 rfl ?_
        refine g_istN_n dX7_challenge_36 rfl (by decide) rfl ?_
        refine g_aload_n 1 dX7_challenge_37 rfl rfl ?_
        refine gf_X7_44 dX7_challenge_38 ?_
        refine g_iload_n 2 dX7_challenge_41 rfl rfl ?_
        refine g_iload_n 3 dX7_challenge_42 rfl rfl ?_
        refine g_bast (n := 60) _ dX7_challenge_43 (by decide) rfl rfl (by omega) (vnar01 hz) ?_
        (try simp (disch := omega) only [setW_setA, setW_setA_ne])
        refine g_aload_n 1 dX7_challenge_44 rfl rfl ?_
        refine g_iconst 0 dX7_challenge_45 rfl ?_
        refine pf_X7_89 dX7_challenge_46 rfl rfl ?_
        (try simp (disch := omega) only [setW_setA, setW_setA_ne])
        refine g_iload_n 0 dX7_challenge_49 rfl rfl ?_
        refine g_iret dX7_challenge_50 rfl rfl ?_ ?_
        · (repeat' split) <;> first | rfl | (exfalso; omega) | (exfalso; simp_all; done) | (exfalso; simp_all; omega)
        · (repeat' split) <;> first | rfl | (exfalso; omega) | (exfalso; simp_all; done) | (exfalso; simp_all; omega)
      · refine g_iconst 1 dX7_challenge_31 rfl ?_
        refine g_goto 36 dX7_challenge_32 (by decide) ?_
        refine g_istN_n dX7_challenge_36 rfl (by decide) rfl ?_
        refine g_aload_n 1 dX7_challenge_37 rfl rfl ?_
        refine gf_X7_44 dX7_challenge_38 ?_
        refine g_iload_n 2 dX7_challenge_41 rfl rfl ?_
        refine g_iload_n 3 dX7_challenge_42 rfl rfl ?_
        refine g_bast (n := 60) _ dX7_challenge_43 (by decide) rfl rfl (by omega) (vnar01 hz) ?_
        (try simp (disch := omega) only [setW_setA, setW_setA_ne])
        refine g_aload_n 1 dX7_challenge_44 rfl rfl ?_
        refine g_iconst 0 dX7_challenge_45 rfl ?_
        refine pf_X7_89 dX7_challenge_46 rfl rfl ?_
        (try simp (disch := omega) only [setW_setA, setW_setA_ne])
        refine g_iload_n 0 dX7_challenge_49 rfl rfl ?_
        refine g_iret dX7_challenge_50 rfl rfl ?_ ?_
        · (repeat' split) <;> first | rfl | (exfalso; omega) | (exfalso; simp_all; done) | (exfalso; simp_all; omega)
        · (repeat' split) <;> first | rfl | (exfalso; omega) | (exfalso; simp_all; done) | (exfalso; simp_all; omega)
    · refine g_bipush (-3) dX7_challenge_19 rfl ?_
      refine g_iret dX7_challenge_21 rfl rfl ?_ ?_
      · (repeat' split) <;> first | rfl | (exfalso; omega) | (exfalso; simp_all; done) | (exfalso; simp_all; omega)
      · (repeat' split) <;> first | rfl | (exfalso; omega) | (exfalso; simp_all; done) | (exfalso; simp_all; omega)
  · refine g_iconst (-1) dX7_challenge_8 rfl ?_
    refine g_iret dX7_challenge_9 rfl rfl ?_ ?_
    · (repeat' split) <;> first | rfl | (exfalso; omega) | (exfalso; simp_all; done) | (exfalso; simp_all; omega)
    · (repeat' split) <;> first | rfl | (exfalso; omega) | (exfalso; simp_all; done) | (exfalso; simp_all; omega)
def barM (w : W0) (nl k : Nat) : Int32 := if w 64 k = 0 then 0 else (if (w 67 k).toInt < 0 ∧ (lawM (w 58) (w 59) nl (w 65 k) 3).toInt < (w 66 k).toInt then 1 else 0) + (if ¬ w 69 k = 0 ∧ w 68 k = 0 then 2 else 0) + (if 0 ≤ (w 67 k).toInt ∧ (w 62 (w 67 k).toNatClampNeg).toInt < (w 66 k).toInt then 4 else 0)
def voidM (w : W0) (nl k : Nat) : Int32 := if (w 73 k).toInt < 0 then (if (lawM (w 58) (w 59) nl (w 70 k) 4).toInt < (w 71 k).toInt then 1 else 0) else (if (w 62 (w 73 k).toNatClampNeg).toInt < (w 71 k).toInt then 4 else 0)
set_option maxRecDepth 20000 in
theorem t_X7_barredFor {E : En} {w : W0} {ni nl k : Nat} {x : Int32} (hni : ni ≤ 60) (hk : k < ni) (hx : x = nI k) (hcl : w 57 0 = nI nl) (hnl : nl ≤ 8) (ho : (w 67 k).toInt < 10) : Mt E 2 yX7_barredFor cX7_barredFor 4 (some .int) [.ref (E.1 57), .int x] w (some (.int (barM w nl k))) w := by
  refine Mt.of (by decide +kernel) (Nat.le_of_ble_eq_true rfl) ?_
  show G E 2 RX7 cX7_barredFor 4 (some .int) _ _ 0 [(0, .ref (E.1 57)), (1, .int x)] [] w
  have hxi : x.toInt = (k : Int) := by rw [hx]; exact nI_toInt (by omega)
  have hxn : x.toNatClampNeg = k := by rw [hx]; exact nI_clamp (by omega)
  refine g_aload_n 0 dX7_barredFor_0 rfl rfl ?_
  refine gf_X7_28 dX7_barredFor_1 ?_
  refine g_iload_n 1 dX7_barredFor_4 rfl rfl ?_
  refine g_bald (n := 60) k dX7_barredFor_5 (by decide) rfl hxn (by omega) ?_
  refine g_if_ne 11 dX7_barredFor_6 (by decide) (fun h6 => ?_) (fun h6 => ?_)
  · refine g_aload_n 0 dX7_barredFor_11 rfl rfl ?_
    refine gf_X7_38 dX7_barredFor_12 ?_
    refine g_iload_n 1 dX7_barredFor_15 rfl rfl ?_
    refine g_iald (n := 60) k dX7_barredFor_16 (by decide) rfl hxn (by omega) ?_
    refine g_if_ge 44 _ dX7_barredFor_17 (by decide) rfl (fun h17 => ?_) (fun h17 => ?_)
    · refine g_iconst 0 dX7_barredFor_44 rfl ?_
      refine g_istN_n dX7_barredFor_45 rfl (by decide) rfl ?_
      refine g_aload_n 1 dX7_barredFor_46 rfl rfl ?_
      refine gf_X7_44 dX7_barredFor_47 ?_
      refine g_iload_n 2 dX7_barredFor_50 rfl rfl ?_
      refine g_bald (n := 60) k dX7_barredFor_51 (by decide) rfl hxn (by omega) ?_
      refine g_if_eq 68 dX7_barredFor_52 (by decide) (fun h52 => ?_) (fun h52 => ?_)
      · refine g_iconst 0 dX7_barredFor_68 rfl ?_
        refine g_istN_n dX7_barredFor_69 rfl (by decide) rfl ?_
        refine g_iload_n 1 dX7_barredFor_70 rfl rfl ?_
        refine g_iload_n 0 dX7_barredFor_71 rfl rfl ?_
        refine g_iadd dX7_barredFor_72 ?_
        refine g_aload_n 2 dX7_barredFor_73 rfl rfl ?_
        refine gf_X7_38 dX7_barredFor_74 ?_
        refine g_iload_n 3 dX7_barredFor_77 rfl rfl ?_
        refine g_iald (n := 60) k dX7_barredFor_78 (by decide) rfl hxn (by omega) ?_
        refine g_if_lt 106 _ dX7_barredFor_79 (by decide) rfl (fun h79 => ?_) (fun h79 => ?_)
        · refine g_iconst 0 dX7_barredFor_106 rfl ?_
          refine g_iadd dX7_barredFor_107 ?_
          refine g_iret dX7_barredFor_108 rfl rfl ?_ ?_
          · unfold barM; (repeat' split) <;> first | rfl | (exfalso; omega) | (exfalso; simp_all; done) | (exfalso; simp_all; omega)
          · rfl
        · refine g_aload_n 2 dX7_barredFor_82 rfl rfl ?_
          refine gf_X7_35 dX7_barredFor_83 ?_
          refine g_iload_n 3 dX7_barredFor_86 rfl rfl ?_
          refine g_iald (n := 60) k dX7_barredFor_87 (by decide) rfl hxn (by omega) ?_
          refine g_aload_n 2 dX7_barredFor_88 rfl rfl ?_
          refine gf_X7_22 dX7_barredFor_89 ?_
          refine g_aload_n 2 dX7_barredFor_92 rfl rfl ?_
          refine gf_X7_38 dX7_barredFor_93 ?_
          refine g_iload_n 3 dX7_barredFor_96 rfl rfl ?_
          refine g_iald (n := 60) k dX7_barredFor_97 (by decide) rfl hxn (by omega) ?_
          refine g_iald (n := 10) _ dX7_barredFor_98 (by decide) rfl rfl (by omega) ?_
          refine g_icmp_le 106 _ _ dX7_barredFor_99 (by decide) rfl rfl (fun h99 => ?_) (fun h99 => ?_)
          · refine g_iconst 0 dX7_barredFor_106 rfl ?_
            refine g_iadd dX7_barredFor_107 ?_
            refine g_iret dX7_barredFor_108 rfl rfl ?_ ?_
            · unfold barM; (repeat' split) <;> first | rfl | (exfalso; omega) | (exfalso; simp_all; done) | (exfalso; simp_all; omega)
            · rfl
          · refine g_iconst 4 dX7_barredFor_102 rfl ?_
            refine g_goto 107 dX7_barredFor_103 (by decide) ?_
            refine g_iadd dX7_barredFor_107 ?_
            refine g_iret dX7_barredFor_108 rfl rfl ?_ ?_
            · unfold barM; (repeat' split) <;> first | rfl | (exfalso; omega) | (exfalso; simp_all; done) | (exfalso; simp_all; omega)
            · rfl
      · refine g_aload_n 1 dX7_barredFor_55 rfl rfl ?_
        refine gf_X7_41 dX7_barredFor_56 ?_
        refine g_iload_n 2 dX7_barredFor_59 rfl rfl ?_
        refine g_bald (n := 60) k dX7_barredFor_60 (by decide) rfl hxn (by omega) ?_
        refine g_if_ne 68 dX7_barredFor_61 (by decide) (fun h61 => ?_) (fun h61 => ?_)
        · refine g_iconst 0 dX7_barredFor_68 rfl ?_
          refine g_istN_n dX7_barredFor_69 rfl (by decide) rfl ?_
          refine g_iload_n 1 dX7_barredFor_70 rfl rfl ?_
          refine g_iload_n 0 dX7_barredFor_71 rfl rfl ?_
          refine g_iadd dX7_barredFor_72 ?_
          refine g_aload_n 2 dX7_barredFor_73 rfl rfl ?_
          refine gf_X7_38 dX7_barredFor_74 ?_
          refine g_iload_n 3 dX7_barredFor_77 rfl rfl ?_
          refine g_iald (n := 60) k dX7_barredFor_78 (by decide) rfl hxn (by omega) ?_
          refine g_if_lt 106 _ dX7_barredFor_79 (by decide) rfl (fun h79 => ?_) (fun h79 => ?_)
          · refine g_iconst 0 dX7_barredFor_106 rfl ?_
            refine g_iadd dX7_barredFor_107 ?_
            refine g_iret dX7_barredFor_108 rfl rfl ?_ ?_
            · unfold barM; (repeat' split) <;> first | rfl | (exfalso; omega) | (exfalso; simp_all; done) | (exfalso; simp_all; omega)
            · rfl
          · refine g_aload_n 2 dX7_barredFor_82 rfl rfl ?_
            refine gf_X7_35 dX7_barredFor_83 ?_
            refine g_iload_n 3 dX7_barredFor_86 rfl rfl ?_
            refine g_iald (n := 60) k dX7_barredFor_87 (by decide) rfl hxn (by omega) ?_
            refine g_aload_n 2 dX7_barredFor_88 rfl rfl ?_
            refine gf_X7_22 dX7_barredFor_89 ?_
            refine g_aload_n 2 dX7_barredFor_92 rfl rfl ?_
            refine gf_X7_38 dX7_barredFor_93 ?_
            refine g_iload_n 3 dX7_barredFor_96 rfl rfl ?_
            refine g_iald (n := 60) k dX7_barredFor_97 (by decide) rfl hxn (by omega) ?_
            refine g_iald (n := 10) _ dX7_barredFor_98 (by decide) rfl rfl (by omega) ?_
            refine g_icmp_le 106 _ _ dX7_barredFor_99 (by decide) rfl rfl (fun h99 => ?_) (fun h99 => ?_)
            · refine g_iconst 0 dX7_barredFor_106 rfl ?_
              refine g_iadd dX7_barredFor_107 ?_
              refine g_iret dX7_barredFor_108 rfl rfl ?_ ?_
              · unfold barM; (repeat' split) <;> first | rfl | (exfalso; omega) | (exfalso; simp_all; done) | (exfalso; simp_all; omega)
              · rfl
            · refine g_iconst 4 dX7_barredFor_102 rfl ?_
              refine g_goto 107 dX7_barredFor_103 (by decide) ?_
              refine g_iadd dX7_barredFor_107 ?_
              refine g_iret dX7_barredFor_108 rfl rfl ?_ ?_
              · unfold barM; (repeat' split) <;> first | rfl | (exfalso; omega) | (exfalso; simp_all; done) | (exfalso; simp_all; omega)
              · rfl
        · refine g_iconst 2 dX7_barredFor_64 rfl ?_
          refine g_goto 69 dX7_barredFor_65 (by decide) ?_
          refine g_istN_n dX7_barredFor_69 rfl (by decide) rfl ?_
          refine g_iload_n 1 dX7_barredFor_70 rfl rfl ?_
          refine g_iload_n 0 dX7_barredFor_71 rfl rfl ?_
          refine g_iadd dX7_barredFor_72 ?_
          refine g_aload_n 2 dX7_barredFor_73 rfl rfl ?_
          refine gf_X7_38 dX7_barredFor_74 ?_
          refine g_iload_n 3 dX7_barredFor_77 rfl rfl ?_
          refine g_iald (n := 60) k dX7_barredFor_78 (by decide) rfl hxn (by omega) ?_
          refine g_if_lt 106 _ dX7_barredFor_79 (by decide) rfl (fun h79 => ?_) (fun h79 => ?_)
          · refine g_iconst 0 dX7_barredFor_106 rfl ?_
            refine g_iadd dX7_barredFor_107 ?_
            refine g_iret dX7_barredFor_108 rfl rfl ?_ ?_
            · unfold barM; (repeat' split) <;> first | rfl | (exfalso; omega) | (exfalso; simp_all; done) | (exfalso; simp_all; omega)
            · rfl
          · refine g_aload_n 2 dX7_barredFor_82 rfl rfl ?_
            refine gf_X7_35 dX7_barredFor_83 ?_
            refine g_iload_n 3 dX7_barredFor_86 rfl rfl ?_
            refine g_iald (n := 60) k dX7_barredFor_87 (by decide) rfl hxn (by omega) ?_
            refine g_aload_n 2 dX7_barredFor_88 rfl rfl ?_
            refine gf_X7_22 dX7_barredFor_89 ?_
            refine g_aload_n 2 dX7_barredFor_92 rfl rfl ?_
            refine gf_X7_38 dX7_barredFor_93 ?_
            refine g_iload_n 3 dX7_barredFor_96 rfl rfl ?_
            refine g_iald (n := 60) k dX7_barredFor_97 (by decide) rfl hxn (by omega) ?_
            refine g_iald (n := 10) _ dX7_barredFor_98 (by decide) rfl rfl (by omega) ?_
            refine g_icmp_le 106 _ _ dX7_barredFor_99 (by decide) rfl rfl (fun h99 => ?_) (fun h99 => ?_)
            · refine g_iconst 0 dX7_barredFor_106 rfl ?_
              refine g_iadd dX7_barredFor_107 ?_
              refine g_iret dX7_barredFor_108 rfl rfl ?_ ?_
              · unfold barM; (repeat' split) <;> first | rfl | (exfalso; omega) | (exfalso; simp_all; done) | (exfalso; simp_all; omega)
              · rfl
            · refine g_iconst 4 dX7_barredFor_102 rfl ?_
              refine g_goto 107 dX7_barredFor_103 (by decide) ?_
              refine g_iadd dX7_barredFor_107 ?_
              refine g_iret dX7_barredFor_108 rfl rfl ?_ ?_
              · unfold barM; (repeat' split) <;> first | rfl | (exfalso; omega) | (exfalso; simp_all; done) | (exfalso; simp_all; omega)
              · rfl
    · refine g_aload_n 0 dX7_barredFor_20 rfl rfl ?_
      refine gf_X7_35 dX7_barredFor_21 ?_
      refine g_iload_n 1 dX7_barredFor_24 rfl rfl ?_
      refine g_iald (n := 60) k dX7_barredFor_25 (by decide) rfl hxn (by omega) ?_
      refine g_aload_n 0 dX7_barredFor_26 rfl rfl ?_
      refine g_aload_n 0 dX7_barredFor_27 rfl rfl ?_
      refine gf_X7_32 dX7_barredFor_28 ?_
      refine g_iload_n 1 dX7_barredFor_31 rfl rfl ?_
      refine g_iald (n := 60) k dX7_barredFor_32 (by decide) rfl hxn (by omega) ?_
      refine g_iconst 3 dX7_barredFor_33 rfl ?_
      refine ca_X7_97 dX7_barredFor_34 (t_X7_inForce (p := 3) hcl hnl rfl (by decide)) (by decide) (Nat.le_of_ble_eq_true rfl) ?_
      refine g_icmp_le 44 _ _ dX7_barredFor_37 (by decide) rfl rfl (fun h37 => ?_) (fun h37 => ?_)
      · refine g_iconst 0 dX7_barredFor_44 rfl ?_
        refine g_istN_n dX7_barredFor_45 rfl (by decide) rfl ?_
        refine g_aload_n 1 dX7_barredFor_46 rfl rfl ?_
        refine gf_X7_44 dX7_barredFor_47 ?_
        refine g_iload_n 2 dX7_barredFor_50 rfl rfl ?_
        refine g_bald (n := 60) k dX7_barredFor_51 (by decide) rfl hxn (by omega) ?_
        refine g_if_eq 68 dX7_barredFor_52 (by decide) (fun h52 => ?_) (fun h52 => ?_)
        · refine g_iconst 0 dX7_barredFor_68 rfl ?_
          refine g_istN_n dX7_barredFor_69 rfl (by decide) rfl ?_
          refine g_iload_n 1 dX7_barredFor_70 rfl rfl ?_
          refine g_iload_n 0 dX7_barredFor_71 rfl rfl ?_
          refine g_iadd dX7_barredFor_72 ?_
          refine g_aload_n 2 dX7_barredFor_73 rfl rfl ?_
          refine gf_X7_38 dX7_barredFor_74 ?_
          refine g_iload_n 3 dX7_barredFor_77 rfl rfl ?_
          refine g_iald (n := 60) k dX7_barredFor_78 (by decide) rfl hxn (by omega) ?_
          refine g_if_lt 106 _ dX7_barredFor_79 (by decide) rfl (fun h79 => ?_) (fun h79 => ?_)
          · refine g_iconst 0 dX7_barredFor_106 rfl ?_
            refine g_iadd dX7_barredFor_107 ?_
            refine g_iret dX7_barredFor_108 rfl rfl ?_ ?_
            · unfold barM; (repeat' split) <;> first | rfl | (exfalso; omega) | (exfalso; simp_all; done) | (exfalso; simp_all; omega)
            · rfl
          · refine g_aload_n 2 dX7_barredFor_82 rfl rfl ?_
            refine gf_X7_35 dX7_barredFor_83 ?_
            refine g_iload_n 3 dX7_barredFor_86 rfl rfl ?_
            refine g_iald (n := 60) k dX7_barredFor_87 (by decide) rfl hxn (by omega) ?_
            refine g_aload_n 2 dX7_barredFor_88 rfl rfl ?_
            refine gf_X7_22 dX7_barredFor_89 ?_
            refine g_aload_n 2 dX7_barredFor_92 rfl rfl ?_
            refine gf_X7_38 dX7_barredFor_93 ?_
            refine g_iload_n 3 dX7_barredFor_96 rfl rfl ?_
            refine g_iald (n := 60) k dX7_barredFor_97 (by decide) rfl hxn (by omega) ?_
            refine g_iald (n := 10) _ dX7_barredFor_98 (by decide) rfl rfl (by omega) ?_
            refine g_icmp_le 106 _ _ dX7_barredFor_99 (by decide) rfl rfl (fun h99 => ?_) (fun h99 => ?_)
            · refine g_iconst 0 dX7_barredFor_106 rfl ?_
              refine g_iadd dX7_barredFor_107 ?_
              refine g_iret dX7_barredFor_108 rfl rfl ?_ ?_
              · unfold barM; (repeat' split) <;> first | rfl | (exfalso; omega) | (exfalso; simp_all; done) | (exfalso; simp_all; omega)
              · rfl
            · refine g_iconst 4 dX7_barredFor_102 rfl ?_
              refine g_goto 107 dX7_barredFor_103 (by decide) ?_
              refine g_iadd dX7_barredFor_107 ?_
              refine g_iret dX7_barredFor_108 rfl rfl ?_ ?_
              · unfold barM; (repeat' split) <;> first | rfl | (exfalso; omega) | (exfalso; simp_all; done) | (exfalso; simp_all; omega)
              · rfl
        · refine g_aload_n 1 dX7_barredFor_55 rfl rfl ?_
          refine gf_X7_41 dX7_barredFor_56 ?_
          refine g_iload_n 2 dX7_barredFor_59 rfl rfl ?_
          refine g_bald (n := 60) k dX7_barredFor_60 (by decide) rfl hxn (by omega) ?_
          refine g_if_ne 68 dX7_barredFor_61 (by decide) (fun h61 => ?_) (fun h61 => ?_)
          · refine g_iconst 0 dX7_barredFor_68 rfl ?_
            refine g_istN_n dX7_barredFor_69 rfl (by decide) rfl ?_
            refine g_iload_n 1 dX7_barredFor_70 rfl rfl ?_
            refine g_iload_n 0 dX7_barredFor_71 rfl rfl ?_
            refine g_iadd dX7_barredFor_72 ?_
            refine g_aload_n 2 dX7_barredFor_73 rfl rfl ?_
            refine gf_X7_38 dX7_barredFor_74 ?_
            refine g_iload_n 3 dX7_barredFor_77 rfl rfl ?_
            refine g_iald (n := 60) k dX7_barredFor_78 (by decide) rfl hxn (by omega) ?_
            refine g_if_lt 106 _ dX7_barredFor_79 (by decide) rfl (fun h79 => ?_) (fun h79 => ?_)
            · refine g_iconst 0 dX7_barredFor_106 rfl ?_
              refine g_iadd dX7_barredFor_107 ?_
              refine g_iret dX7_barredFor_108 rfl rfl ?_ ?_
              · unfold barM; (repeat' split) <;> first | rfl | (exfalso; omega) | (exfalso; simp_all; done) | (exfalso; simp_all; omega)
              · rfl
            · refine g_aload_n 2 dX7_barredFor_82 rfl rfl ?_
              refine gf_X7_35 dX7_barredFor_83 ?_
              refine g_iload_n 3 dX7_barredFor_86 rfl rfl ?_
              refine g_iald (n := 60) k dX7_barredFor_87 (by decide) rfl hxn (by omega) ?_
              refine g_aload_n 2 dX7_barredFor_88 rfl rfl ?_
              refine gf_X7_22 dX7_barredFor_89 ?_
              refine g_aload_n 2 dX7_barredFor_92 rfl rfl ?_
              refine gf_X7_38 dX7_barredFor_93 ?_
              refine g_iload_n 3 dX7_barredFor_96 rfl rfl ?_
              refine g_iald (n := 60) k dX7_barredFor_97 (by decide) rfl hxn (by omega) ?_
              refine g_iald (n := 10) _ dX7_barredFor_98 (by decide) rfl rfl (by omega) ?_
              refine g_icmp_le 106 _ _ dX7_barredFor_99 (by decide) rfl rfl (fun h99 => ?_) (fun h99 => ?_)
              · refine g_iconst 0 dX7_barredFor_106 rfl ?_
                refine g_iadd dX7_barredFor_107 ?_
                refine g_iret dX7_barredFor_108 rfl rfl ?_ ?_
                · unfold barM; (repeat' split) <;> first | rfl | (exfalso; omega) | (exfalso; simp_all; done) | (exfalso; simp_all; omega)
                · rfl
              · refine g_iconst 4 dX7_barredFor_102 rfl ?_
                refine g_goto 107 dX7_barredFor_103 (by decide) ?_
                refine g_iadd dX7_barredFor_107 ?_
                refine g_iret dX7_barredFor_108 rfl rfl ?_ ?_
                · unfold barM; (repeat' split) <;> first | rfl | (exfalso; omega) | (exfalso; simp_all; done) | (exfalso; simp_all; omega)
                · rfl
          · refine g_iconst 2 dX7_barredFor_64 rfl ?_
            refine g_goto 69 dX7_barredFor_65 (by decide) ?_
            refine g_istN_n dX7_barredFor_69 rfl (by decide) rfl ?_
            refine g_iload_n 1 dX7_barredFor_70 rfl rfl ?_
            refine g_iload_n 0 dX7_barredFor_71 rfl rfl ?_
            refine g_iadd dX7_barredFor_72 ?_
            refine g_aload_n 2 dX7_barredFor_73 rfl rfl ?_
            refine gf_X7_38 dX7_barredFor_74 ?_
            refine g_iload_n 3 dX7_barredFor_77 rfl rfl ?_
            refine g_iald (n := 60) k dX7_barredFor_78 (by decide) rfl hxn (by omega) ?_
            refine g_if_lt 106 _ dX7_barredFor_79 (by decide) rfl (fun h79 => ?_) (fun h79 => ?_)
            · refine g_iconst 0 dX7_barredFor_106 rfl ?_
              refine g_iadd dX7_barredFor_107 ?_
              refine g_iret dX7_barredFor_108 rfl rfl ?_ ?_
              · unfold barM; (repeat' split) <;> first | rfl | (exfalso; omega) | (exfalso; simp_all; done) | (exfalso; simp_all; omega)
              · rfl
            · refine g_aload_n 2 dX7_barredFor_82 rfl rfl ?_
              refine gf_X7_35 dX7_barredFor_83 ?_
              refine g_iload_n 3 dX7_barredFor_86 rfl rfl ?_
              refine g_iald (n := 60) k dX7_barredFor_87 (by decide) rfl hxn (by omega) ?_
              refine g_aload_n 2 dX7_barredFor_88 rfl rfl ?_
              refine gf_X7_22 dX7_barredFor_89 ?_
              refine g_aload_n 2 dX7_barredFor_92 rfl rfl ?_
              refine gf_X7_38 dX7_barredFor_93 ?_
              refine g_iload_n 3 dX7_barredFor_96 rfl rfl ?_
              refine g_iald (n := 60) k dX7_barredFor_97 (by decide) rfl hxn (by omega) ?_
              refine g_iald (n := 10) _ dX7_barredFor_98 (by decide) rfl rfl (by omega) ?_
              refine g_icmp_le 106 _ _ dX7_barredFor_99 (by decide) rfl rfl (fun h99 => ?_) (fun h99 => ?_)
              · refine g_iconst 0 dX7_barredFor_106 rfl ?_
                refine g_iadd dX7_barredFor_107 ?_
                refine g_iret dX7_barredFor_108 rfl rfl ?_ ?_
                · unfold barM; (repeat' split) <;> first | rfl | (exfalso; omega) | (exfalso; simp_all; done) | (exfalso; simp_all; omega)
                · rfl
              · refine g_iconst 4 dX7_barredFor_102 rfl ?_
                refine g_goto 107 dX7_barredFor_103 (by decide) ?_
                refine g_iadd dX7_barredFor_107 ?_
                refine g_iret dX7_barredFor_108 rfl rfl ?_ ?_
                · unfold barM; (repeat' split) <;> first | rfl | (exfalso; omega) | (exfalso; simp_all; done) | (exfalso; simp_all; omega)
                · rfl
      · refine g_iconst 1 dX7_barredFor_40 rfl ?_
        refine g_goto 45 dX7_barredFor_41 (by decide) ?_
        refine g_istN_n dX7_barredFor_45 rfl (by decide) rfl ?_
        refine g_aload_n 1 dX7_barredFor_46 rfl rfl ?_
        refine gf_X7_44 dX7_barredFor_47 ?_
        refine g_iload_n 2 dX7_barredFor_50 rfl rfl ?_
        refine g_bald (n := 60) k dX7_barredFor_51 (by decide) rfl hxn (by omega) ?_
        refine g_if_eq 68 dX7_barredFor_52 (by decide) (fun h52 => ?_) (fun h52 => ?_)
        · refine g_iconst 0 dX7_barredFor_68 rfl ?_
          refine g_istN_n dX7_barredFor_69 rfl (by decide) rfl ?_
          refine g_iload_n 1 dX7_barredFor_70 rfl rfl ?_
          refine g_iload_n 0 dX7_barredFor_71 rfl rfl ?_
          refine g_iadd dX7_barredFor_72 ?_
          refine g_aload_n 2 dX7_barredFor_73 rfl rfl ?_
          refine gf_X7_38 dX7_barredFor_74 ?_
          refine g_iload_n 3 dX7_barredFor_77 rfl rfl ?_
          refine g_iald (n := 60) k dX7_barredFor_78 (by decide) rfl hxn (by omega) ?_
          refine g_if_lt 106 _ dX7_barredFor_79 (by decide) rfl (fun h79 => ?_) (fun h79 => ?_)
          · refine g_iconst 0 dX7_barredFor_106 rfl ?_
            refine g_iadd dX7_barredFor_107 ?_
            refine g_iret dX7_barredFor_108 rfl rfl ?_ ?_
            · unfold barM; (repeat' split) <;> first | rfl | (exfalso; omega) | (exfalso; simp_all; done) | (exfalso; simp_all; omega)
            · rfl
          · refine g_aload_n 2 dX7_barredFor_82 rfl rfl ?_
            refine gf_X7_35 dX7_barredFor_83 ?_
            refine g_iload_n 3 dX7_barredFor_86 rfl rfl ?_
            refine g_iald (n := 60) k dX7_barredFor_87 (by decide) rfl hxn (by omega) ?_
            refine g_aload_n 2 dX7_barredFor_88 rfl rfl ?_
            refine gf_X7_22 dX7_barredFor_89 ?_
            refine g_aload_n 2 dX7_barredFor_92 rfl rfl ?_
            refine gf_X7_38 dX7_barredFor_93 ?_
            refine g_iload_n 3 dX7_barredFor_96 rfl rfl ?_
            refine g_iald (n := 60) k dX7_barredFor_97 (by decide) rfl hxn (by omega) ?_
            refine g_iald (n := 10) _ dX7_barredFor_98 (by decide) rfl rfl (by omega) ?_
            refine g_icmp_le 106 _ _ dX7_barredFor_99 (by decide) rfl rfl (fun h99 => ?_) (fun h99 => ?_)
            · refine g_iconst 0 dX7_barredFor_106 rfl ?_
              refine g_iadd dX7_barredFor_107 ?_
              refine g_iret dX7_barredFor_108 rfl rfl ?_ ?_
              · unfold barM; (repeat' split) <;> first | rfl | (exfalso; omega) | (exfalso; simp_all; done) | (exfalso; simp_all; omega)
              · rfl
            · refine g_iconst 4 dX7_barredFor_102 rfl ?_
              refine g_goto 107 dX7_barredFor_103 (by decide) ?_
              refine g_iadd dX7_barredFor_107 ?_
              refine g_iret dX7_barredFor_108 rfl rfl ?_ ?_
              · unfold barM; (repeat' split) <;> first | rfl | (exfalso; omega) | (exfalso; simp_all; done) | (exfalso; simp_all; omega)
              · rfl
        · refine g_aload_n 1 dX7_barredFor_55 rfl rfl ?_
          refine gf_X7_41 dX7_barredFor_56 ?_
          refine g_iload_n 2 dX7_barredFor_59 rfl rfl ?_
          refine g_bald (n := 60) k dX7_barredFor_60 (by decide) rfl hxn (by omega) ?_
          refine g_if_ne 68 dX7_barredFor_61 (by decide) (fun h61 => ?_) (fun h61 => ?_)
          · refine g_iconst 0 dX7_barredFor_68 rfl ?_
            refine g_istN_n dX7_barredFor_69 rfl (by decide) rfl ?_
            refine g_iload_n 1 dX7_barredFor_70 rfl rfl ?_
            refine g_iload_n 0 dX7_barredFor_71 rfl rfl ?_
            refine g_iadd dX7_barredFor_72 ?_
            refine g_aload_n 2 dX7_barredFor_73 rfl rfl ?_
            refine gf_X7_38 dX7_barredFor_74 ?_
            refine g_iload_n 3 dX7_barredFor_77 rfl rfl ?_
            refine g_iald (n := 60) k dX7_barredFor_78 (by decide) rfl hxn (by omega) ?_
            refine g_if_lt 106 _ dX7_barredFor_79 (by decide) rfl (fun h79 => ?_) (fun h79 => ?_)
            · refine g_iconst 0 dX7_barredFor_106 rfl ?_
              refine g_iadd dX7_barredFor_107 ?_
              refine g_iret dX7_barredFor_108 rfl rfl ?_ ?_
              · unfold barM; (repeat' split) <;> first | rfl | (exfalso; omega) | (exfalso; simp_all; done) | (exfalso; simp_all; omega)
              · rfl
            · refine g_aload_n 2 dX7_barredFor_82 rfl rfl ?_
              refine gf_X7_35 dX7_barredFor_83 ?_
              refine g_iload_n 3 dX7_barredFor_86 rfl rfl ?_
              refine g_iald (n := 60) k dX7_barredFor_87 (by decide) rfl hxn (by omega) ?_
              refine g_aload_n 2 dX7_barredFor_88 rfl rfl ?_
              refine gf_X7_22 dX7_barredFor_89 ?_
              refine g_aload_n 2 dX7_barredFor_92 rfl rfl ?_
              refine gf_X7_38 dX7_barredFor_93 ?_
              refine g_iload_n 3 dX7_barredFor_96 rfl rfl ?_
              refine g_iald (n := 60) k dX7_barredFor_97 (by decide) rfl hxn (by omega) ?_
              refine g_iald (n := 10) _ dX7_barredFor_98 (by decide) rfl rfl (by omega) ?_
              refine g_icmp_le 106 _ _ dX7_barredFor_99 (by decide) rfl rfl (fun h99 => ?_) (fun h99 => ?_)
              · refine g_iconst 0 dX7_barredFor_106 rfl ?_
                refine g_iadd dX7_barredFor_107 ?_
                refine g_iret dX7_barredFor_108 rfl rfl ?_ ?_
                · unfold barM; (repeat' split) <;> first | rfl | (exfalso; omega) | (exfalso; simp_all; done) | (exfalso; simp_all; omega)
                · rfl
              · refine g_iconst 4 dX7_barredFor_102 rfl ?_
                refine g_goto 107 dX7_barredFor_103 (by decide) ?_
                refine g_iadd dX7_barredFor_107 ?_
                refine g_iret dX7_barredFor_108 rfl rfl ?_ ?_
                · unfold barM; (repeat' split) <;> first | rfl | (exfalso; omega) | (exfalso; simp_all; done) | (exfalso; simp_all; omega)
                · rfl
          · refine g_iconst 2 dX7_barredFor_64 rfl ?_
            refine g_goto 69 dX7_barredFor_65 (by decide) ?_
            refine g_istN_n dX7_barredFor_69 rfl (by decide) rfl ?_
            refine g_iload_n 1 dX7_barredFor_70 rfl rfl ?_
            refine g_iload_n 0 dX7_barredFor_71 rfl rfl ?_
            refine g_iadd dX7_barredFor_72 ?_
            refine g_aload_n 2 dX7_barredFor_73 rfl rfl ?_
            refine gf_X7_38 dX7_barredFor_74 ?_
            refine g_iload_n 3 dX7_barredFor_77 rfl rfl ?_
            refine g_iald (n := 60) k dX7_barredFor_78 (by decide) rfl hxn (by omega) ?_
            refine g_if_lt 106 _ dX7_barredFor_79 (by decide) rfl (fun h79 => ?_) (fun h79 => ?_)
            · refine g_iconst 0 dX7_barredFor_106 rfl ?_
              refine g_iadd dX7_barredFor_107 ?_
              refine g_iret dX7_barredFor_108 rfl rfl ?_ ?_
              · unfold barM; (repeat' split) <;> first | rfl | (exfalso; omega) | (exfalso; simp_all; done) | (exfalso; simp_all; omega)
              · rfl
            · refine g_aload_n 2 dX7_barredFor_82 rfl rfl ?_
              refine gf_X7_35 dX7_barredFor_83 ?_
              refine g_iload_n 3 dX7_barredFor_86 rfl rfl ?_
              refine g_iald (n := 60) k dX7_barredFor_87 (by decide) rfl hxn (by omega) ?_
              refine g_aload_n 2 dX7_barredFor_88 rfl rfl ?_
              refine gf_X7_22 dX7_barredFor_89 ?_
              refine g_aload_n 2 dX7_barredFor_92 rfl rfl ?_
              refine gf_X7_38 dX7_barredFor_93 ?_
              refine g_iload_n 3 dX7_barredFor_96 rfl rfl ?_
              refine g_iald (n := 60) k dX7_barredFor_97 (by decide) rfl hxn (by omega) ?_
              refine g_iald (n := 10) _ dX7_barredFor_98 (by decide) rfl rfl (by omega) ?_
              refine g_icmp_le 106 _ _ dX7_barredFor_99 (by decide) rfl rfl (fun h99 => ?_) (fun h99 => ?_)
              · refine g_iconst 0 dX7_barredFor_106 rfl ?_
                refine g_iadd dX7_barredFor_107 ?_
                refine g_iret dX7_barredFor_108 rfl rfl ?_ ?_
                · unfold barM; (repeat' split) <;> first | rfl | (exfalso; omega) | (exfalso; simp_all; done) | (exfalso; simp_all; omega)
                · rfl
              · refine g_iconst 4 dX7_barredFor_102 rfl ?_
                refine g_goto 107 dX7_barredFor_103 (by decide) ?_
                refine g_iadd dX7_barredFor_107 ?_
                refine g_iret dX7_barredFor_108 rfl rfl ?_ ?_
                · unfold barM; (repeat' split) <;> first | rfl | (exfalso; omega) | (exfalso; simp_all; done) | (exfalso; simp_all; omega)
                · rfl
  · refine g_iconst 0 dX7_barredFor_9 rfl ?_
    refine g_iret dX7_barredFor_10 rfl rfl ?_ ?_
    · unfold barM; (repeat' split) <;> first | rfl | (exfalso; omega) | (exfalso; simp_all; done) | (exfalso; simp_all; omega)
    · rfl
set_option maxRecDepth 20000 in
theorem t_X7_barred {E : En} {w : W0} {ni nl : Nat} {i : Int32} (hci : w 57 9 = nI ni) (hni : ni ≤ 60) (hcl : w 57 0 = nI nl) (hnl : nl ≤ 8) (ho : ∀ k, k < ni → (w 67 k).toInt < 10) : Mt E 3 yX7_barred cX7_barred 2 (some .int) [.ref (E.1 57), .int i] w (some (.int (if inP i ni then barM w nl i.toNatClampNeg else -1))) w := by
  refine Mt.of (by decide +kernel) (Nat.le_of_ble_eq_true rfl) ?_
  show G E 3 RX7 cX7_barred 2 (some .int) _ _ 0 [(0, .ref (E.1 57)), (1, .int i)] [] w
  refine g_aload_n 0 dX7_barred_0 rfl rfl ?_
  refine g_iload_n 1 dX7_barred_1 rfl rfl ?_
  refine ca_X7_139 dX7_barred_2 (t_X7_isItem hci hni) (by decide) (Nat.le_of_ble_eq_true rfl) ?_
  refine g_if_eqb 16 dX7_barred_5 (by decide) (fun h5 => ?_) (fun h5 => ?_)
  · refine g_iconst (-1) dX7_barred_16 rfl ?_
    refine g_iret dX7_barred_17 rfl rfl ?_ ?_
    · (repeat' split) <;> first | rfl | (exfalso; omega) | (exfalso; simp_all; done) | (exfalso; simp_all; omega)
    · rfl
  · refine g_aload_n 0 dX7_barred_8 rfl rfl ?_
    refine g_iload_n 1 dX7_barred_9 rfl rfl ?_
    refine ca_X7_142 dX7_barred_10 (t_X7_barredFor hni (nat_lt h5.1 h5.2) (nI_back h5.1) hcl hnl (ho _ (nat_lt h5.1 h5.2))) (by decide) (Nat.le_of_ble_eq_true rfl) ?_
    refine g_goto 17 dX7_barred_13 (by decide) ?_
    refine g_iret dX7_barred_17 rfl rfl ?_ ?_
    · (repeat' split) <;> first | rfl | (exfalso; omega) | (exfalso; simp_all; done) | (exfalso; simp_all; omega)
    · rfl
set_option maxRecDepth 20000 in
theorem t_X7_voidFor {E : En} {w : W0} {ne nl k : Nat} {x : Int32} (hne : ne ≤ 10) (hk : k < ne) (hx : x = nI k) (hcl : w 57 0 = nI nl) (hnl : nl ≤ 8) (ho : (w 73 k).toInt < 10) : Mt E 2 yX7_voidFor cX7_voidFor 3 (some .int) [.ref (E.1 57), .int x] w (some (.int (voidM w nl k))) w := by
  refine Mt.of (by decide +kernel) (Nat.le_of_ble_eq_true rfl) ?_
  show G E 2 RX7 cX7_voidFor 3 (some .int) _ _ 0 [(0, .ref (E.1 57)), (1, .int x)] [] w
  have hxi : x.toInt = (k : Int) := by rw [hx]; exact nI_toInt (by omega)
  have hxn : x.toNatClampNeg = k := by rw [hx]; exact nI_clamp (by omega)
  refine g_aload_n 0 dX7_voidFor_0 rfl rfl ?_
  refine gf_X7_56 dX7_voidFor_1 ?_
  refine g_iload_n 1 dX7_voidFor_4 rfl rfl ?_
  refine g_iald (n := 10) k dX7_voidFor_5 (by decide) rfl hxn (by omega) ?_
  refine g_istN_n dX7_voidFor_6 rfl (by decide) rfl ?_
  refine g_iload_n 0 dX7_voidFor_7 rfl rfl ?_
  refine g_if_ge 39 _ dX7_voidFor_8 (by decide) rfl (fun h8 => ?_) (fun h8 => ?_)
  · refine g_aload_n 1 dX7_voidFor_39 rfl rfl ?_
    refine gf_X7_50 dX7_voidFor_40 ?_
    refine g_iload_n 2 dX7_voidFor_43 rfl rfl ?_
    refine g_iald (n := 10) k dX7_voidFor_44 (by decide) rfl hxn (by omega) ?_
    refine g_aload_n 1 dX7_voidFor_45 rfl rfl ?_
    refine gf_X7_22 dX7_voidFor_46 ?_
    refine g_iload_n 0 dX7_voidFor_49 rfl rfl ?_
    refine g_iald (n := 10) _ dX7_voidFor_50 (by decide) rfl rfl (by omega) ?_
    refine g_icmp_le 58 _ _ dX7_voidFor_51 (by decide) rfl rfl (fun h51 => ?_) (fun h51 => ?_)
    · refine g_iconst 0 dX7_voidFor_58 rfl ?_
      refine g_iret dX7_voidFor_59 rfl rfl ?_ ?_
      · unfold voidM; (repeat' split) <;> first | rfl | (exfalso; omega) | (exfalso; simp_all; done) | (exfalso; simp_all; omega)
      · rfl
    · refine g_iconst 4 dX7_voidFor_54 rfl ?_
      refine g_goto 59 dX7_voidFor_55 (by decide) ?_
      refine g_iret dX7_voidFor_59 rfl rfl ?_ ?_
      · unfold voidM; (repeat' split) <;> first | rfl | (exfalso; omega) | (exfalso; simp_all; done) | (exfalso; simp_all; omega)
      · rfl
  · refine g_aload_n 1 dX7_voidFor_11 rfl rfl ?_
    refine gf_X7_50 dX7_voidFor_12 ?_
    refine g_iload_n 2 dX7_voidFor_15 rfl rfl ?_
    refine g_iald (n := 10) k dX7_voidFor_16 (by decide) rfl hxn (by omega) ?_
    refine g_aload_n 1 dX7_voidFor_17 rfl rfl ?_
    refine g_aload_n 1 dX7_voidFor_18 rfl rfl ?_
    refine gf_X7_47 dX7_voidFor_19 ?_
    refine g_iload_n 2 dX7_voidFor_22 rfl rfl ?_
    refine g_iald (n := 10) k dX7_voidFor_23 (by decide) rfl hxn (by omega) ?_
    refine g_iconst 4 dX7_voidFor_24 rfl ?_
    refine ca_X7_97 dX7_voidFor_25 (t_X7_inForce (p := 4) hcl hnl rfl (by decide)) (by decide) (Nat.le_of_ble_eq_true rfl) ?_
    refine g_icmp_le 35 _ _ dX7_voidFor_28 (by decide) rfl rfl (fun h28 => ?_) (fun h28 => ?_)
    · refine g_iconst 0 dX7_voidFor_35 rfl ?_
      refine g_goto 59 dX7_voidFor_36 (by decide) ?_
      refine g_iret dX7_voidFor_59 rfl rfl ?_ ?_
      · unfold voidM; (repeat' split) <;> first | rfl | (exfalso; omega) | (exfalso; simp_all; done) | (exfalso; simp_all; omega)
      · rfl
    · refine g_iconst 1 dX7_voidFor_31 rfl ?_
      refine g_goto 59 dX7_voidFor_32 (by decide) ?_
      refine g_iret dX7_voidFor_59 rfl rfl ?_ ?_
      · unfold voidM; (repeat' split) <;> first | rfl | (exfalso; omega) | (exfalso; simp_all; done) | (exfalso; simp_all; omega)
      · rfl
set_option maxRecDepth 20000 in
theorem t_X7_isVoid {E : En} {w : W0} {ne nl : Nat} {i : Int32} (hce : w 57 16 = nI ne) (hne : ne ≤ 10) (hcl : w 57 0 = nI nl) (hnl : nl ≤ 8) (ho : ∀ k, k < ne → (w 73 k).toInt < 10) : Mt E 3 yX7_isVoid cX7_isVoid 2 (some .int) [.ref (E.1 57), .int i] w (some (.int (if inP i ne then voidM w nl i.toNatClampNeg else -1))) w := by
  refine Mt.of (by decide +kernel) (Nat.le_of_ble_eq_true rfl) ?_
  show G E 3 RX7 cX7_isVoid 2 (some .int) _ _ 0 [(0, .ref (E.1 57)), (1, .int i)] [] w
  refine g_aload_n 0 dX7_isVoid_0 rfl rfl ?_
  refine g_iload_n 1 dX7_isVoid_1 rfl rfl ?_
  refine ca_X7_132 dX7_isVoid_2 (t_X7_isLease hce hne) (by decide) (Nat.le_of_ble_eq_true rfl) ?_
  refine g_if_eqb 16 dX7_isVoid_5 (by decide) (fun h5 => ?_) (fun h5 => ?_)
  · refine g_iconst (-1) dX7_isVoid_16 rfl ?_
    refine g_iret dX7_isVoid_17 rfl rfl ?_ ?_
    · (repeat' split) <;> first | rfl | (exfalso; omega) | (exfalso; simp_all; done) | (exfalso; simp_all; omega)
    · rfl
  · refine g_aload_n 0 dX7_isVoid_8 rfl rfl ?_
    refine g_iload_n 1 dX7_isVoid_9 rfl rfl ?_
    refine ca_X7_145 dX7_isVoid_10 (t_X7_voidFor hne (nat_lt h5.1 h5.2) (nI_back h5.1) hcl hnl (ho _ (nat_lt h5.1 h5.2))) (by decide) (Nat.le_of_ble_eq_true rfl) ?_
    refine g_goto 17 dX7_isVoid_13 (by decide) ?_
    refine g_iret dX7_isVoid_17 rfl rfl ?_ ?_
    · (repeat' split) <;> first | rfl | (exfalso; omega) | (exfalso; simp_all; done) | (exfalso; simp_all; omega)
    · rfl
def arrM (fr rent day : Int32) : Nat → Int32
  | 0 => 0
  | k + 1 => if (fr + 360 * nI k).toInt ≤ day.toInt then arrM fr rent day k + rent else arrM fr rent day k
theorem arrM_s (fr rent day : Int32) (k : Nat) : arrM fr rent day (k + 1) = if (fr + 360 * nI k).toInt ≤ day.toInt then arrM fr rent day k + rent else arrM fr rent day k := rfl
def lessM (pm lk dy co : Nat → Int32) (s l u : Int32) : Nat → Int32
  | 0 => s
  | k + 1 => if pm k = 0 ∧ lk k = l ∧ (dy k).toInt ≤ u.toInt then lessM pm lk dy co s l u k - co k else lessM pm lk dy co s l u k
theorem lessM_s (pm lk dy co : Nat → Int32) (s l u : Int32) (k : Nat) : lessM pm lk dy co s l u (k + 1) = if pm k = 0 ∧ lk k = l ∧ (dy k).toInt ≤ u.toInt then lessM pm lk dy co s l u k - co k else lessM pm lk dy co s l u k := rfl
def sumM (w : W0) (nl k Y : Nat) (day : Int32) : Int32 := if voidM w nl k = 0 then arrM (w 70 k) (w 72 k) day Y else 0
set_option maxRecDepth 20000 in
theorem l_arrears2 {E : En} {w : W0} {ni : Nat} {i day s : Int32} (hci : w 57 9 = nI ni) (hni : ni ≤ 60) : ∀ (n : Nat) (k : Nat) (v x : Int32), ni + 1 ≤ k + n → k ≤ ni → x = nI k → v = lessM (w 64) (w 67) (w 65) (w 66) s i day k → G E 3 RX7 cX7_arrears 5 (some .int) (some (.int (lessM (w 64) (w 67) (w 65) (w 66) s i day ni))) w 84 [(0, .ref (E.1 57)), (1, .int i), (2, .int day), (3, .int v), (4, .int x)] [] w := by
  intro n
  induction n with
  | zero =>
    intro k v x hfu hk hx hv
    exact absurd hfu (by omega)
  | succ n ih =>
    intro k v x hfu hk hx hv
    have hxi : x.toInt = (k : Int) := by rw [hx]; exact nI_toInt (by omega)
    have hxn : x.toNatClampNeg = k := by rw [hx]; exact nI_clamp (by omega)
    have hciI : (w 57 9).toInt = (ni : Int) := by rw [hci]; exact nI_toInt (by omega)
    have hciN : (w 57 9).toNatClampNeg = ni := by rw [hci]; exact nI_clamp (by omega)
    refine g_iload 4 dX7_arrears_84 rfl ?_
    refine g_aload_n 0 dX7_arrears_86 rfl rfl ?_
    refine gf_X7_129 dX7_arrears_87 ?_
    refine g_icmp_ge 145 (k : Int) _ dX7_arrears_90 (by decide) hxi rfl (fun h90 => ?_) (fun h90 => ?_)
    · refine g_iload_n 3 dX7_arrears_145 rfl rfl ?_
      refine g_iret dX7_arrears_146 rfl rfl ?_ ?_
      · rw [hv, show k = ni by omega]
      · rfl
    · refine g_iload_n 3 dX7_arrears_93 rfl rfl ?_
      refine g_aload_n 0 dX7_arrears_94 rfl rfl ?_
      refine gf_X7_28 dX7_arrears_95 ?_
      refine g_iload 4 dX7_arrears_98 rfl ?_
      refine g_bald (n := 60) k dX7_arrears_100 (by decide) rfl hxn (by omega) ?_
      refine g_if_ne 136 dX7_arrears_101 (by decide) (fun h101 => ?_) (fun h101 => ?_)
      · refine g_iconst 0 dX7_arrears_136 rfl ?_
        refine g_isub dX7_arrears_137 ?_
        refine g_ist_n [_, _, _] _ dX7_arrears_138 rfl (by decide) rfl ?_
        refine g_iinc 1 [_, _, _, _] _ dX7_arrears_139 rfl (by decide) rfl ?_
        refine g_goto 84 dX7_arrears_142 (by decide) ?_
        (try rw [Int32.sub_zero])
        exact ih (k + 1) _ _ (by omega) (by omega) (by rw [hx, nI_1]) (by clear ih; rw [lessM_s, ← hv]; split <;> first | rfl | (exfalso; simp_all; done) | (exfalso; simp_all; omega))
      · refine g_aload_n 0 dX7_arrears_104 rfl rfl ?_
        refine gf_X7_38 dX7_arrears_105 ?_
        refine g_iload 4 dX7_arrears_108 rfl ?_
        refine g_iald (n := 60) k dX7_arrears_110 (by decide) rfl hxn (by omega) ?_
        refine g_iload_n 1 dX7_arrears_111 rfl rfl ?_
        refine g_icmp_ne 136 dX7_arrears_112 (by decide) (fun h112 => ?_) (fun h112 => ?_)
        · refine g_iconst 0 dX7_arrears_136 rfl ?_
          refine g_isub dX7_arrears_137 ?_
          refine g_ist_n [_, _, _] _ dX7_arrears_138 rfl (by decide) rfl ?_
          refine g_iinc 1 [_, _, _, _] _ dX7_arrears_139 rfl (by decide) rfl ?_
          refine g_goto 84 dX7_arrears_142 (by decide) ?_
          (try rw [Int32.sub_zero])
          exact ih (k + 1) _ _ (by omega) (by omega) (by rw [hx, nI_1]) (by clear ih; rw [lessM_s, ← hv]; split <;> first | rfl | (exfalso; simp_all; done) | (exfalso; simp_all; omega))
        · refine g_aload_n 0 dX7_arrears_115 rfl rfl ?_
          refine gf_X7_32 dX7_arrears_116 ?_
          refine g_iload 4 dX7_arrears_119 rfl ?_
          refine g_iald (n := 60) k dX7_arrears_121 (by decide) rfl hxn (by omega) ?_
          refine g_iload_n 2 dX7_arrears_122 rfl rfl ?_
          refine g_icmp_gt 136 _ _ dX7_arrears_123 (by decide) rfl rfl (fun h123 => ?_) (fun h123 => ?_)
          · refine g_iconst 0 dX7_arrears_136 rfl ?_
            refine g_isub dX7_arrears_137 ?_
            refine g_ist_n [_, _, _] _ dX7_arrears_138 rfl (by decide) rfl ?_
            refine g_iinc 1 [_, _, _, _] _ dX7_arrears_139 rfl (by decide) rfl ?_
            refine g_goto 84 dX7_arrears_142 (by decide) ?_
            (try rw [Int32.sub_zero])
            exact ih (k + 1) _ _ (by omega) (by omega) (by rw [hx, nI_1]) (by clear ih; rw [lessM_s, ← hv]; split <;> first | rfl | (exfalso; simp_all; done) | (exfalso; simp_all; omega))
          · refine g_aload_n 0 dX7_arrears_126 rfl rfl ?_
            refine gf_X7_35 dX7_arrears_127 ?_
            refine g_iload 4 dX7_arrears_130 rfl ?_
            refine g_iald (n := 60) k dX7_arrears_132 (by decide) rfl hxn (by omega) ?_
            refine g_goto 137 dX7_arrears_133 (by decide) ?_
            refine g_isub dX7_arrears_137 ?_
            refine g_ist_n [_, _, _] _ dX7_arrears_138 rfl (by decide) rfl ?_
            refine g_iinc 1 [_, _, _, _] _ dX7_arrears_139 rfl (by decide) rfl ?_
            refine g_goto 84 dX7_arrears_142 (by decide) ?_
            (try rw [Int32.sub_zero])
            exact ih (k + 1) _ _ (by omega) (by omega) (by rw [hx, nI_1]) (by clear ih; rw [lessM_s, ← hv]; split <;> first | rfl | (exfalso; simp_all; done) | (exfalso; simp_all; omega))
set_option maxRecDepth 20000 in
theorem l_arrears1 {E : En} {w : W0} {ni ne nl j Y : Nat} {i day : Int32} (hci : w 57 9 = nI ni) (hni : ni ≤ 60) (hce : w 57 16 = nI ne) (hne : ne ≤ 10) (hcl : w 57 0 = nI nl) (hnl : nl ≤ 8) (hj : j < ne) (hi : i = nI j) (ho : (w 73 j).toInt < 10) (hY : w 71 j = nI Y) (hY2 : Y ≤ 30) : ∀ (n : Nat) (k : Nat) (v x : Int32), Y + 1 ≤ k + n → k ≤ Y → x = nI k → v = arrM (w 70 j) (w 72 j) day k → voidM w nl j = 0 ∨ k = 0 → G E 3 RX7 cX7_arrears 5 (some .int) (some (.int (lessM (w 64) (w 67) (w 65) (w 66) (sumM w nl j Y day) i day ni))) w 26 [(0, .ref (E.1 57)), (1, .int i), (2, .int day), (3, .int v), (4, .int x)] [] w := by
  intro n
  induction n with
  | zero =>
    intro k v x hfu hk hx hv h0
    exact absurd hfu (by omega)
  | succ n ih =>
    intro k v x hfu hk hx hv h0
    have hxi : x.toInt = (k : Int) := by rw [hx]; exact nI_toInt (by omega)
    have hxn : x.toNatClampNeg = k := by rw [hx]; exact nI_clamp (by omega)
    have hin : i.toNatClampNeg = j := by rw [hi]; exact nI_clamp (by omega)
    have hii : i.toInt = (j : Int) := by rw [hi]; exact nI_toInt (by omega)
    have hYI : (w 71 j).toInt = (Y : Int) := by rw [hY]; exact nI_toInt (by omega)
    refine g_iload 4 dX7_arrears_26 rfl ?_
    refine g_aload_n 0 dX7_arrears_28 rfl rfl ?_
    refine gf_X7_50 dX7_arrears_29 ?_
    refine g_iload_n 1 dX7_arrears_32 rfl rfl ?_
    refine g_iald (n := 10) j dX7_arrears_33 (by decide) rfl hin (by omega) ?_
    refine g_icmp_ge 81 (k : Int) _ dX7_arrears_34 (by decide) hxi rfl (fun h34 => ?_) (fun h34 => ?_)
    · have hs : v = sumM w nl j Y day := by
        unfold sumM
        rcases h0 with h0 | h0
        · rw [if_pos h0]
          first | exact absurd h0 h42 | rw [hv, show k = Y by omega]
        · subst h0
          first | (rw [if_neg h42]; exact hv) | (rw [show Y = 0 by omega]; rw [hv]; split <;> rfl)
      refine g_iconst 0 dX7_arrears_81 rfl ?_
      refine g_ist [_, _, _, _] _ dX7_arrears_82 (by decide) rfl ?_
      exact l_arrears2 hci hni (ni + 1) 0 _ _ (by omega) (by omega) rfl hs
    · refine g_aload_n 0 dX7_arrears_37 rfl rfl ?_
      refine g_iload_n 1 dX7_arrears_38 rfl rfl ?_
      refine ca_X7_145 dX7_arrears_39 (t_X7_voidFor hne hj hi hcl hnl ho) (by decide) (Nat.le_of_ble_eq_true rfl) ?_
      refine g_if_ne 81 dX7_arrears_42 (by decide) (fun h42 => ?_) (fun h42 => ?_)
      · have hs : v = sumM w nl j Y day := by
          unfold sumM
          rcases h0 with h0 | h0
          · rw [if_pos h0]
            first | exact absurd h0 h42 | rw [hv, show k = Y by omega]
          · subst h0
            first | (rw [if_neg h42]; exact hv) | (rw [show Y = 0 by omega]; rw [hv]; split <;> rfl)
        refine g_iconst 0 dX7_arrears_81 rfl ?_
        refine g_ist [_, _, _, _] _ dX7_arrears_82 (by decide) rfl ?_
        exact l_arrears2 hci hni (ni + 1) 0 _ _ (by omega) (by omega) rfl hs
      · refine g_iload_n 3 dX7_arrears_45 rfl rfl ?_
        refine g_aload_n 0 dX7_arrears_46 rfl rfl ?_
        refine gf_X7_47 dX7_arrears_47 ?_
        refine g_iload_n 1 dX7_arrears_50 rfl rfl ?_
        refine g_iald (n := 10) j dX7_arrears_51 (by decide) rfl hin (by omega) ?_
        refine g_sipush 360 dX7_arrears_52 rfl ?_
        refine g_iload 4 dX7_arrears_55 rfl ?_
        refine g_imul dX7_arrears_57 ?_
        refine g_iadd dX7_arrears_58 ?_
        refine g_iload_n 2 dX7_arrears_59 rfl rfl ?_
        refine g_icmp_gt 72 _ _ dX7_arrears_60 (by decide) rfl rfl (fun h60 => ?_) (fun h60 => ?_)
        · refine g_iconst 0 dX7_arrears_72 rfl ?_
          refine g_iadd dX7_arrears_73 ?_
          refine g_ist_n [_, _, _] _ dX7_arrears_74 rfl (by decide) rfl ?_
          refine g_iinc 1 [_, _, _, _] _ dX7_arrears_75 rfl (by decide) rfl ?_
          refine g_goto 26 dX7_arrears_78 (by decide) ?_
          (try rw [Int32.add_zero])
          exact ih (k + 1) _ _ (by omega) (by omega) (by rw [hx, nI_1]) (by clear ih; subst hx; rw [arrM_s, ← hv]; split <;> first | rfl | (exfalso; omega)) (Or.inl h42)
        · refine g_aload_n 0 dX7_arrears_63 rfl rfl ?_
          refine gf_X7_53 dX7_arrears_64 ?_
          refine g_iload_n 1 dX7_arrears_67 rfl rfl ?_
          refine g_iald (n := 10) j dX7_arrears_68 (by decide) rfl hin (by omega) ?_
          refine g_goto 73 dX7_arrears_69 (by decide) ?_
          refine g_iadd dX7_arrears_73 ?_
          refine g_ist_n [_, _, _] _ dX7_arrears_74 rfl (by decide) rfl ?_
          refine g_iinc 1 [_, _, _, _] _ dX7_arrears_75 rfl (by decide) rfl ?_
          refine g_goto 26 dX7_arrears_78 (by decide) ?_
          (try rw [Int32.add_zero])
          exact ih (k + 1) _ _ (by omega) (by omega) (by rw [hx, nI_1]) (by clear ih; subst hx; rw [arrM_s, ← hv]; split <;> first | rfl | (exfalso; omega)) (Or.inl h42)
set_option maxRecDepth 20000 in
theorem t_X7_arrears {E : En} {w : W0} {ni ne nl : Nat} {i day : Int32} {YF : Nat → Nat} (hci : w 57 9 = nI ni) (hni : ni ≤ 60) (hce : w 57 16 = nI ne) (hne : ne ≤ 10) (hcl : w 57 0 = nI nl) (hnl : nl ≤ 8) (ho : ∀ k, k < ne → (w 73 k).toInt < 10) (hY : ∀ k, k < ne → w 71 k = nI (YF k) ∧ YF k ≤ 30) : Mt E 3 yX7_arrears cX7_arrears 5 (some .int) [.ref (E.1 57), .int i, .int day] w (some (.int (if inP i ne then (if dayP day then lessM (w 64) (w 67) (w 65) (w 66) (sumM w nl i.toNatClampNeg (YF i.toNatClampNeg) day) i day ni else -100000002) else -100000001))) w := by
  refine Mt.of (by decide +kernel) (Nat.le_of_ble_eq_true rfl) ?_
  show G E 3 RX7 cX7_arrears 5 (some .int) _ _ 0 [(0, .ref (E.1 57)), (1, .int i), (2, .int day)] [] w
  refine g_aload_n 0 dX7_arrears_0 rfl rfl ?_
  refine g_iload_n 1 dX7_arrears_1 rfl rfl ?_
  refine ca_X7_132 dX7_arrears_2 (t_X7_isLease hce hne) (by decide) (Nat.le_of_ble_eq_true rfl) ?_
  refine g_if_neb 11 dX7_arrears_5 (by decide) (fun h5 => ?_) (fun h5 => ?_)
  · refine g_iload_n 2 dX7_arrears_11 rfl rfl ?_
    refine ca_X7_81 dX7_arrears_12 (t_X7_isDay) (by decide) (Nat.le_of_ble_eq_true rfl) ?_
    refine g_if_neb 21 dX7_arrears_15 (by decide) (fun h15 => ?_) (fun h15 => ?_)
    · refine g_iconst 0 dX7_arrears_21 rfl ?_
      refine g_istN_n dX7_arrears_22 rfl (by decide) rfl ?_
      refine g_iconst 0 dX7_arrears_23 rfl ?_
      refine g_istN dX7_arrears_24 (by decide) rfl ?_
      refine g_lv [2, 3, 4, 1, 0] rfl ?_
      rw [if_pos h5, if_pos h15]
      exact l_arrears1 hci hni hce hne hcl hnl (nat_lt h5.1 h5.2) (nI_back h5.1) (ho _ (nat_lt h5.1 h5.2)) (hY _ (nat_lt h5.1 h5.2)).1 (hY _ (nat_lt h5.1 h5.2)).2 (YF i.toNatClampNeg + 1) 0 _ _ (by omega) (by omega) rfl rfl (Or.inr rfl)
    · refine g_ldc (-100000002) dX7_arrears_18 lk_X7_115 ?_
      refine g_iret dX7_arrears_20 rfl rfl ?_ ?_
      · (repeat' split) <;> first | rfl | (exfalso; omega) | (exfalso; simp_all; done) | (exfalso; simp_all; omega)
      · rfl
  · refine g_ldc (-100000001) dX7_arrears_8 lk_X7_111 ?_
    refine g_iret dX7_arrears_10 rfl rfl ?_ ?_
    · (repeat' split) <;> first | rfl | (exfalso; omega) | (exfalso; simp_all; done) | (exfalso; simp_all; omega)
    · rfl
set_option maxRecDepth 20000 in
theorem t_X7_passed {E : En} {w : W0} {y z : Int32} : Mt E 2 yX7_passed cX7_passed 3 (some .int) [.ref (E.1 57), .int y, .int z] w (some (.int (if yearP y then (if 0 ≤ z.toInt ∧ z.toInt ≤ 5 then (if (w 57 22 >>> (y &&& 31)) &&& 1 = 1 then w 74 (6 * y.toNatClampNeg + z.toNatClampNeg) else -100000003) else -100000002) else -100000001))) w := by
  refine Mt.of (by decide +kernel) (Nat.le_of_ble_eq_true rfl) ?_
  show G E 2 RX7 cX7_passed 3 (some .int) _ _ 0 [(0, .ref (E.1 57)), (1, .int y), (2, .int z)] [] w
  refine g_iload_n 1 dX7_passed_0 rfl rfl ?_
  refine ca_X7_153 dX7_passed_1 (t_X7_isYear) (by decide) (Nat.le_of_ble_eq_true rfl) ?_
  refine g_if_neb 10 dX7_passed_4 (by decide) (fun h4 => ?_) (fun h4 => ?_)
  · refine g_iload_n 2 dX7_passed_10 rfl rfl ?_
    refine g_iconst 0 dX7_passed_11 rfl ?_
    refine g_iconst 5 dX7_passed_12 rfl ?_
    refine ca_X7_77 dX7_passed_13 (t_X7_in 0 5 rfl rfl) (by decide) (Nat.le_of_ble_eq_true rfl) ?_
    refine g_if_neb 22 dX7_passed_16 (by decide) (fun h16 => ?_) (fun h16 => ?_)
    · refine g_aload_n 0 dX7_passed_22 rfl rfl ?_
      refine gf_X7_156 dX7_passed_23 ?_
      refine g_iload_n 1 dX7_passed_26 rfl rfl ?_
      refine g_ishr dX7_passed_27 ?_
      refine g_iconst 1 dX7_passed_28 rfl ?_
      refine g_iand dX7_passed_29 ?_
      refine g_iconst 1 dX7_passed_30 rfl ?_
      refine g_icmp_ne 48 dX7_passed_31 (by decide) (fun h31 => ?_) (fun h31 => ?_)
      · refine g_ldc (-100000003) dX7_passed_48 lk_X7_159 ?_
        refine g_iret dX7_passed_50 rfl rfl ?_ ?_
        · (repeat' split) <;> first | rfl | (exfalso; omega) | (exfalso; simp_all; done) | (exfalso; simp_all; omega)
        · rfl
      · refine g_aload_n 0 dX7_passed_34 rfl rfl ?_
        refine gf_X7_59 dX7_passed_35 ?_
        refine g_bipush 6 dX7_passed_38 rfl ?_
        refine g_iload_n 1 dX7_passed_40 rfl rfl ?_
        refine g_imul dX7_passed_41 ?_
        refine g_iload_n 2 dX7_passed_42 rfl rfl ?_
        refine g_iadd dX7_passed_43 ?_
        refine g_iald (n := 60) (6 * y.toNatClampNeg + z.toNatClampNeg) dX7_passed_44 (by decide) rfl (ix6w (nI_back (by omega)) (nI_back (by omega)) (nat_lt (by omega) (by omega)) (nat_lt (by omega) (by omega))).1 ((ix6w (nI_back (by omega)) (nI_back (by omega)) (nat_lt (by omega) (by omega)) (nat_lt (by omega) (by omega))).2) ?_
        refine g_goto 50 dX7_passed_45 (by decide) ?_
        refine g_iret dX7_passed_50 rfl rfl ?_ ?_
        · (repeat' split) <;> first | rfl | (exfalso; omega) | (exfalso; simp_all; done) | (exfalso; simp_all; omega)
        · rfl
    · refine g_ldc (-100000002) dX7_passed_19 lk_X7_115 ?_
      refine g_iret dX7_passed_21 rfl rfl ?_ ?_
      · (repeat' split) <;> first | rfl | (exfalso; omega) | (exfalso; simp_all; done) | (exfalso; simp_all; omega)
      · rfl
  · refine g_ldc (-100000001) dX7_passed_7 lk_X7_111 ?_
    refine g_iret dX7_passed_9 rfl rfl ?_ ?_
    · (repeat' split) <;> first | rfl | (exfalso; omega) | (exfalso; simp_all; done) | (exfalso; simp_all; omega)
    · rfl
set_option maxRecDepth 20000 in
theorem t_X7_told {E : En} {w : W0} {what : Int32} : Mt E 1 yX7_told cX7_told 2 (some .int) [.ref (E.1 57), .int what] w (some (.int (if what.toInt = 0 then w 57 0 else if what.toInt = 1 then w 57 3 else if what.toInt = 2 then w 57 6 else if what.toInt = 3 then w 57 9 else if what.toInt = 4 then w 57 16 else if what.toInt = 5 then w 57 22 else -2))) w := by
  refine Mt.of (by decide +kernel) (Nat.le_of_ble_eq_true rfl) ?_
  show G E 1 RX7 cX7_told 2 (some .int) _ _ 0 [(0, .ref (E.1 57)), (1, .int what)] [] w
  refine g_iload_n 1 dX7_told_0 rfl rfl ?_
  rcases sw5 what with hsw | hsw | hsw | hsw | hsw | hsw | hsw
  · refine g_tableIn (off := 39) 40 dX7_told_1 (by rw [hsw]; decide) (by rw [hsw]; decide) (by rw [hsw]; rfl) (by decide) ?_
    refine g_aload_n 0 dX7_told_40 rfl rfl ?_
    refine gf_X7_85 dX7_told_41 ?_
    refine g_iret dX7_told_44 rfl rfl ?_ ?_
    · (repeat' split) <;> first | rfl | (exfalso; omega) | (exfalso; simp_all; done) | (exfalso; simp_all; omega)
    · rfl
  · refine g_tableIn (off := 44) 45 dX7_told_1 (by rw [hsw]; decide) (by rw [hsw]; decide) (by rw [hsw]; rfl) (by decide) ?_
    refine g_aload_n 0 dX7_told_45 rfl rfl ?_
    refine gf_X7_101 dX7_told_46 ?_
    refine g_iret dX7_told_49 rfl rfl ?_ ?_
    · (repeat' split) <;> first | rfl | (exfalso; omega) | (exfalso; simp_all; done) | (exfalso; simp_all; omega)
    · rfl
  · refine g_tableIn (off := 49) 50 dX7_told_1 (by rw [hsw]; decide) (by rw [hsw]; decide) (by rw [hsw]; rfl) (by decide) ?_
    refine g_aload_n 0 dX7_told_50 rfl rfl ?_
    refine gf_X7_120 dX7_told_51 ?_
    refine g_iret dX7_told_54 rfl rfl ?_ ?_
    · (repeat' split) <;> first | rfl | (exfalso; omega) | (exfalso; simp_all; done) | (exfalso; simp_all; omega)
    · rfl
  · refine g_tableIn (off := 54) 55 dX7_told_1 (by rw [hsw]; decide) (by rw [hsw]; decide) (by rw [hsw]; rfl) (by decide) ?_
    refine g_aload_n 0 dX7_told_55 rfl rfl ?_
    refine gf_X7_129 dX7_told_56 ?_
    refine g_iret dX7_told_59 rfl rfl ?_ ?_
    · (repeat' split) <;> first | rfl | (exfalso; omega) | (exfalso; simp_all; done) | (exfalso; simp_all; omega)
    · rfl
  · refine g_tableIn (off := 59) 60 dX7_told_1 (by rw [hsw]; decide) (by rw [hsw]; decide) (by rw [hsw]; rfl) (by decide) ?_
    refine g_aload_n 0 dX7_told_60 rfl rfl ?_
    refine gf_X7_126 dX7_told_61 ?_
    refine g_iret dX7_told_64 rfl rfl ?_ ?_
    · (repeat' split) <;> first | rfl | (exfalso; omega) | (exfalso; simp_all; done) | (exfalso; simp_all; omega)
    · rfl
  · refine g_tableIn (off := 64) 65 dX7_told_1 (by rw [hsw]; decide) (by rw [hsw]; decide) (by rw [hsw]; rfl) (by decide) ?_
    refine g_aload_n 0 dX7_told_65 rfl rfl ?_
    refine gf_X7_156 dX7_told_66 ?_
    refine g_iret dX7_told_69 rfl rfl ?_ ?_
    · (repeat' split) <;> first | rfl | (exfalso; omega) | (exfalso; simp_all; done) | (exfalso; simp_all; omega)
    · rfl
  · refine g_tableOut 70 dX7_told_1 (by omega) (by decide) ?_
    refine g_bipush (-2) dX7_told_70 rfl ?_
    refine g_iret dX7_told_72 rfl rfl ?_ ?_
    · (repeat' split) <;> first | rfl | (exfalso; omega) | (exfalso; simp_all; done) | (exfalso; simp_all; omega)
    · rfl

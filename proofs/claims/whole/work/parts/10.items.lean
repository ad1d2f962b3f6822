/-! Items, Leases -/
abbrev hasI (w : W0) (i : Int32) : Prop := 0 ≤ i.toInt ∧ i.toInt < (w 4 7).toInt ∧ i.toInt < 60
abbrev hasE (w : W0) (i : Int32) : Prop := 0 ≤ i.toInt ∧ i.toInt < (w 5 4).toInt ∧ i.toInt < 10
def barsF (w : W0) (nl k : Nat) : Int32 := if ¬ w 26 k = 0 then 0 else if ¬ w 29 k = 0 ∧ w 28 k = 0 then onF w (w 27 k) (w 25 k) (lawF (w 7) (lpF w) nl (w 24 k) 3) + 2 else onF w (w 27 k) (w 25 k) (lawF (w 7) (lpF w) nl (w 24 k) 3)
theorem onF_setA {w : W0} {p : Nat} {f : Nat → Int32} (h : p ≠ 3 ∧ p ≠ 22) : onF (setA w p f) = onF w := by
  funext a b c
  unfold onF
  rw [limC_setA h]
theorem barsF_setA {w : W0} {nl : Nat} {f : Nat → Int32} : barsF (setA w 30 f) nl = barsF w nl := by
  funext k
  unfold barsF
  rw [onF_setA (by decide), lpF_setA (by decide)]
  rfl
def alF (w : W0) (nl k : Nat) : Int32 := if barsF w nl k = 0 then 1 else 0
theorem alF_or (w : W0) (nl k : Nat) : (barsF w nl k = 0 ∧ alF w nl k = 1) ∨ (¬ barsF w nl k = 0 ∧ alF w nl k = 0) := by
  by_cases h : barsF w nl k = 0
  · exact Or.inl ⟨h, if_pos h⟩
  · exact Or.inr ⟨h, if_neg h⟩
def alW (w : W0) (nl n : Nat) : W0 := setA w 30 (fillF (alF w nl) (w 30) n)
theorem alW_0 (w : W0) (nl : Nat) : alW w nl 0 = w := by
  unfold alW
  rw [fillF_0, setA_self]
def sumF (rc al dy co : Nat → Int32) (r a b : Int32) : Nat → Int32
  | 0 => 0
  | k + 1 => if rc k = r ∧ ¬ al k = 0 ∧ a.toInt ≤ (dy k).toInt ∧ (dy k).toInt ≤ b.toInt then sumF rc al dy co r a b k + co k else sumF rc al dy co r a b k
theorem sumF_s (rc al dy co : Nat → Int32) (r a b : Int32) (k : Nat) : sumF rc al dy co r a b (k + 1) = if rc k = r ∧ ¬ al k = 0 ∧ a.toInt ≤ (dy k).toInt ∧ (dy k).toInt ≤ b.toInt then sumF rc al dy co r a b k + co k else sumF rc al dy co r a b k := rfl
def hadF (rc lk dy co : Nat → Int32) (l u : Int32) : Nat → Int32
  | 0 => 0
  | k + 1 => if ¬ rc k = 0 ∧ lk k = l ∧ (dy k).toInt ≤ u.toInt then hadF rc lk dy co l u k + co k else hadF rc lk dy co l u k
theorem hadF_s (rc lk dy co : Nat → Int32) (l u : Int32) (k : Nat) : hadF rc lk dy co l u (k + 1) = if ¬ rc k = 0 ∧ lk k = l ∧ (dy k).toInt ≤ u.toInt then hadF rc lk dy co l u k + co k else hadF rc lk dy co l u k := rfl
theorem nar01 {v : Int32} (h : v = 0 ∨ v = 1) : narrow .boolean (.int v) = .int v := by
  rcases h with h | h <;> rw [h] <;> rfl
theorem vnar01 {v : Int32} (h : v = 0 ∨ v = 1) : vp_nar .boolean v = v := by
  rcases h with h | h <;> rw [h] <;> rfl
theorem lk_min : Cond.methodLink RX3 44 Lib.Math.min.name ∈ tblG := tblG_in 521 (by decide +kernel) (by decide +kernel)
theorem ls_min : Cond.static Lib.Math.min.name ∈ tblG := tblG_in 522 (by decide +kernel) (by decide +kernel)
theorem lc_min : Cond.code Lib.Math.min.name Lib.Math.min.code 2 (some .int) ∈ tblG := tblG_in 523 (by decide +kernel) (by decide +kernel)
theorem li_min : Cond.initialized "java/lang/Math" ∈ tblG := tblG_in 74 (by decide +kernel) (by decide +kernel)
theorem g_mmin {E : En} {d : Nat} {cc : ByteArray} {nL : Nat} {ret : Option FieldType} {rv : Option Value} {w1 : W0} {pc : Nat} {lv : List (Nat × Value)} {st : List Value} {w : W0} {x y : Int32} (hd : decode cc pc = .ok (.invokestatic 44, 3)) (hdd : 1 ≤ d) (hr : (st.map fun v => v.category).sum ≤ 8) (h : G E d RX3 cc nL ret rv w1 (pc + 3) lv (.int (if y < x then y else x) :: st) w) : G E d RX3 cc nL ret rv w1 pc lv (.int y :: .int x :: st) w :=
  fun p l e s m args below meth c H locs ls C S P F L => va_mmin C.1 C.2.1 (C.2.2.2.2.1.trans L.1.symm) C.2.2.2.2.2.1 (C.2.2.2.2.2.2 _ lk_min) (C.2.2.2.2.2.2 _ ls_min) (C.2.2.2.2.2.2 _ li_min) (C.2.2.2.2.2.2 _ lc_min) hdd (by show _ ≤ 40 * d; omega) (Nat.zero_le _) (Nat.zero_le _) hd (h p l e s m args below meth c H locs ls C S P F L)
set_option maxRecDepth 20000 in
theorem t_X1_has {E : En} {w : W0} {i : Int32} : Mt E 0 yX1_has cX1_has 2 (some .boolean) [.ref (E.1 4), .int i] w (some (.int (bI (hasI w i)))) w := by
  refine Mt.of (by decide +kernel) (Nat.le_of_ble_eq_true rfl) ?_
  show G E 0 RX1 cX1_has 2 (some .boolean) _ _ 0 [(0, .ref (E.1 4)), (1, .int i)] [] w
  refine g_iload_n 1 dX1_has_0 rfl rfl ?_
  refine g_if_lt 22 _ dX1_has_1 (by decide) rfl (fun h1 => ?_) (fun h1 => ?_)
  · refine g_iconst 0 dX1_has_22 rfl ?_
    refine g_iret dX1_has_23 rfl rfl ?_ ?_
    · first | (rw [bI_t]; omega) | (rw [bI_f]; omega)
    · rfl
  · refine g_iload_n 1 dX1_has_4 rfl rfl ?_
    refine g_aload_n 0 dX1_has_5 rfl rfl ?_
    refine gf_X1_34 dX1_has_6 ?_
    refine g_icmp_ge 22 _ _ dX1_has_9 (by decide) rfl rfl (fun h9 => ?_) (fun h9 => ?_)
    · refine g_iconst 0 dX1_has_22 rfl ?_
      refine g_iret dX1_has_23 rfl rfl ?_ ?_
      · first | (rw [bI_t]; omega) | (rw [bI_f]; omega)
      · rfl
    · refine g_iload_n 1 dX1_has_12 rfl rfl ?_
      refine g_bipush 60 dX1_has_13 rfl ?_
      refine g_icmp_ge 22 _ 60 dX1_has_15 (by decide) rfl rfl (fun h15 => ?_) (fun h15 => ?_)
      · refine g_iconst 0 dX1_has_22 rfl ?_
        refine g_iret dX1_has_23 rfl rfl ?_ ?_
        · first | (rw [bI_t]; omega) | (rw [bI_f]; omega)
        · rfl
      · refine g_iconst 1 dX1_has_18 rfl ?_
        refine g_goto 23 dX1_has_19 (by decide) ?_
        refine g_iret dX1_has_23 rfl rfl ?_ ?_
        · first | (rw [bI_t]; omega) | (rw [bI_f]; omega)
        · rfl
set_option maxRecDepth 20000 in
theorem t_X1_isReceipt {E : En} {w : W0} {i : Int32} : Mt E 1 yX1_isReceipt cX1_isReceipt 2 (some .boolean) [.ref (E.1 4), .int i] w (some (.int (bI (hasI w i ∧ ¬ w 26 i.toNatClampNeg = 0)))) w := by
  refine Mt.of (by decide +kernel) (Nat.le_of_ble_eq_true rfl) ?_
  show G E 1 RX1 cX1_isReceipt 2 (some .boolean) _ _ 0 [(0, .ref (E.1 4)), (1, .int i)] [] w
  refine g_aload_n 0 dX1_isReceipt_0 rfl rfl ?_
  refine g_iload_n 1 dX1_isReceipt_1 rfl rfl ?_
  refine ca_X1_38 dX1_isReceipt_2 (t_X1_has) (by decide) (Nat.le_of_ble_eq_true rfl) ?_
  refine g_if_eqb 21 dX1_isReceipt_5 (by decide) (fun h5 => ?_) (fun h5 => ?_)
  · refine g_iconst 0 dX1_isReceipt_21 rfl ?_
    refine g_iret dX1_isReceipt_22 rfl rfl ?_ ?_
    · first | (rw [bI_t]; exact ⟨h5, h14⟩) | (rw [bI_f]; exact fun z => z.2 h14) | (rw [bI_f]; exact fun z => h5 z.1)
    · rfl
  · refine g_aload_n 0 dX1_isReceipt_8 rfl rfl ?_
    refine gf_X1_18 dX1_isReceipt_9 ?_
    refine g_iload_n 1 dX1_isReceipt_12 rfl rfl ?_
    refine g_bald (n := 60) _ dX1_isReceipt_13 (by decide) rfl rfl (by omega) ?_
    refine g_if_eq 21 dX1_isReceipt_14 (by decide) (fun h14 => ?_) (fun h14 => ?_)
    · refine g_iconst 0 dX1_isReceipt_21 rfl ?_
      refine g_iret dX1_isReceipt_22 rfl rfl ?_ ?_
      · first | (rw [bI_t]; exact ⟨h5, h14⟩) | (rw [bI_f]; exact fun z => z.2 h14) | (rw [bI_f]; exact fun z => h5 z.1)
      · rfl
    · refine g_iconst 1 dX1_isReceipt_17 rfl ?_
      refine g_goto 22 dX1_isReceipt_18 (by decide) ?_
      refine g_iret dX1_isReceipt_22 rfl rfl ?_ ?_
      · first | (rw [bI_t]; exact ⟨h5, h14⟩) | (rw [bI_f]; exact fun z => z.2 h14) | (rw [bI_f]; exact fun z => h5 z.1)
      · rfl
set_option maxRecDepth 20000 in
theorem t_X1_setVoucher {E : En} {w : W0} {ni k : Nat} {x : Int32} (hc : w 4 7 = nI ni) (hn : ni ≤ 60) (hk : k < ni) (hx : x = nI k) {z : Int32} (hz : z = 0 ∨ z = 1) (hb : w 28 k = 0 ∨ w 28 k = 1) : Mt E 1 yX1_setVoucher cX1_setVoucher 4 (some .boolean) [.ref (E.1 4), .int x, .int z] w (some (.int (w 28 k))) (setW w 28 k z) := by
  refine Mt.of (by decide +kernel) (Nat.le_of_ble_eq_true rfl) ?_
  show G E 1 RX1 cX1_setVoucher 4 (some .boolean) _ _ 0 [(0, .ref (E.1 4)), (1, .int x), (2, .int z)] [] w
  have hxi : x.toInt = (k : Int) := by rw [hx]; exact nI_toInt (by omega)
  have hxn : x.toNatClampNeg = k := by rw [hx]; exact nI_clamp (by omega)
  have hcI : (w 4 7).toInt = (ni : Int) := by rw [hc]; exact nI_toInt (by omega)
  refine g_aload_n 0 dX1_setVoucher_0 rfl rfl ?_
  refine g_iload_n 1 dX1_setVoucher_1 rfl rfl ?_
  refine ca_X1_38 dX1_setVoucher_2 (t_X1_has) (by decide) (Nat.le_of_ble_eq_true rfl) ?_
  refine g_if_neb 10 dX1_setVoucher_5 (by decide) (fun h5 => ?_) (fun h5 => False.elim (by exact h5 (by omega)))
  refine g_aload_n 0 dX1_setVoucher_10 rfl rfl ?_
  refine gf_X1_25 dX1_setVoucher_11 ?_
  refine g_iload_n 1 dX1_setVoucher_14 rfl rfl ?_
  refine g_bald (n := 60) k dX1_setVoucher_15 (by decide) rfl hxn (by omega) ?_
  refine g_istN_n dX1_setVoucher_16 rfl (by decide) rfl ?_
  refine g_aload_n 1 dX1_setVoucher_17 rfl rfl ?_
  refine gf_X1_25 dX1_setVoucher_18 ?_
  refine g_iload_n 2 dX1_setVoucher_21 rfl rfl ?_
  refine g_iload_n 3 dX1_setVoucher_22 rfl rfl ?_
  refine g_bast (n := 60) k dX1_setVoucher_23 (by decide) rfl hxn (by omega) (vnar01 hz) ?_
  (try simp (disch := omega) only [setW_setA, setW_setA_ne])
  refine g_iload_n 0 dX1_setVoucher_24 rfl rfl ?_
  refine g_iret dX1_setVoucher_25 rfl (nar01 hb) ?_ ?_
  · rfl
  · rfl
set_option maxRecDepth 20000 in
theorem t_X1_setChallenge {E : En} {w : W0} {ni k : Nat} {x : Int32} (hc : w 4 7 = nI ni) (hn : ni ≤ 60) (hk : k < ni) (hx : x = nI k) {z : Int32} (hz : z = 0 ∨ z = 1) (hb : w 29 k = 0 ∨ w 29 k = 1) : Mt E 1 yX1_setChallenge cX1_setChallenge 4 (some .boolean) [.ref (E.1 4), .int x, .int z] w (some (.int (w 29 k))) (setW w 29 k z) := by
  refine Mt.of (by decide +kernel) (Nat.le_of_ble_eq_true rfl) ?_
  show G E 1 RX1 cX1_setChallenge 4 (some .boolean) _ _ 0 [(0, .ref (E.1 4)), (1, .int x), (2, .int z)] [] w
  have hxi : x.toInt = (k : Int) := by rw [hx]; exact nI_toInt (by omega)
  have hxn : x.toNatClampNeg = k := by rw [hx]; exact nI_clamp (by omega)
  have hcI : (w 4 7).toInt = (ni : Int) := by rw [hc]; exact nI_toInt (by omega)
  refine g_aload_n 0 dX1_setChallenge_0 rfl rfl ?_
  refine g_iload_n 1 dX1_setChallenge_1 rfl rfl ?_
  refine ca_X1_38 dX1_setChallenge_2 (t_X1_has) (by decide) (Nat.le_of_ble_eq_true rfl) ?_
  refine g_if_neb 10 dX1_setChallenge_5 (by decide) (fun h5 => ?_) (fun h5 => False.elim (by exact h5 (by omega)))
  refine g_aload_n 0 dX1_setChallenge_10 rfl rfl ?_
  refine gf_X1_28 dX1_setChallenge_11 ?_
  refine g_iload_n 1 dX1_setChallenge_14 rfl rfl ?_
  refine g_bald (n := 60) k dX1_setChallenge_15 (by decide) rfl hxn (by omega) ?_
  refine g_istN_n dX1_setChallenge_16 rfl (by decide) rfl ?_
  refine g_aload_n 1 dX1_setChallenge_17 rfl rfl ?_
  refine gf_X1_28 dX1_setChallenge_18 ?_
  refine g_iload_n 2 dX1_setChallenge_21 rfl rfl ?_
  refine g_iload_n 3 dX1_setChallenge_22 rfl rfl ?_
  refine g_bast (n := 60) k dX1_setChallenge_23 (by decide) rfl hxn (by omega) (vnar01 hz) ?_
  (try simp (disch := omega) only [setW_setA, setW_setA_ne])
  refine g_iload_n 0 dX1_setChallenge_24 rfl rfl ?_
  refine g_iret dX1_setChallenge_25 rfl (nar01 hb) ?_ ?_
  · rfl
  · rfl
set_option maxRecDepth 20000 in
theorem t_X1_add {E : En} {w : W0} {d c r l : Int32} {n : Nat} (hc : w 4 7 = nI n) (hn : n < 60) (hr : r = 0 ∨ r = 1) : Mt E 0 yX1_add cX1_add 5 (none) [.ref (E.1 4), .int d, .int c, .int r, .int l] w none (setW (setW (setW (setW (setW w 24 n d) 25 n c) 26 n r) 27 n l) 4 7 (nI (n + 1))) := by
  refine Mt.of (by decide +kernel) (Nat.le_of_ble_eq_true rfl) ?_
  show G E 0 RX1 cX1_add 5 (none) _ _ 0 [(0, .ref (E.1 4)), (1, .int d), (2, .int c), (3, .int r), (4, .int l)] [] w
  have hi : (w 4 7).toInt = (n : Int) := by rw [hc]; exact nI_toInt (by omega)
  have hx : (w 4 7).toNatClampNeg = n := by rw [hc]; exact nI_clamp (by omega)
  refine g_aload_n 0 dX1_add_0 rfl rfl ?_
  refine gf_X1_34 dX1_add_1 ?_
  refine g_bipush 60 dX1_add_4 rfl ?_
  refine g_icmp_lt 10 _ 60 dX1_add_6 (by decide) rfl rfl (fun h6 => ?_) (fun h6 => False.elim (by omega))
  refine g_aload_n 0 dX1_add_10 rfl rfl ?_
  refine gf_X1_9 dX1_add_11 ?_
  refine g_aload_n 0 dX1_add_14 rfl rfl ?_
  refine gf_X1_34 dX1_add_15 ?_
  refine g_iload_n 1 dX1_add_18 rfl rfl ?_
  refine g_iast (n := 60) n dX1_add_19 (by decide) rfl hx (by omega) ?_
  refine g_aload_n 0 dX1_add_20 rfl rfl ?_
  refine gf_X1_15 dX1_add_21 ?_
  refine g_aload_n 0 dX1_add_24 rfl rfl ?_
  refine gf_X1_34 dX1_add_25 ?_
  simp (disch := omega) only [setW_ne]
  refine g_iload_n 2 dX1_add_28 rfl rfl ?_
  refine g_iast (n := 60) n dX1_add_29 (by decide) rfl hx (by omega) ?_
  refine g_aload_n 0 dX1_add_30 rfl rfl ?_
  refine gf_X1_18 dX1_add_31 ?_
  refine g_aload_n 0 dX1_add_34 rfl rfl ?_
  refine gf_X1_34 dX1_add_35 ?_
  simp (disch := omega) only [setW_ne]
  refine g_iload_n 3 dX1_add_38 rfl rfl ?_
  refine g_bast (n := 60) n dX1_add_39 (by decide) rfl hx (by omega) (vnar01 hr) ?_
  refine g_aload_n 0 dX1_add_40 rfl rfl ?_
  refine gf_X1_22 dX1_add_41 ?_
  refine g_aload_n 0 dX1_add_44 rfl rfl ?_
  refine gf_X1_34 dX1_add_45 ?_
  simp (disch := omega) only [setW_ne]
  refine g_iload 4 dX1_add_48 rfl ?_
  refine g_iast (n := 60) n dX1_add_50 (by decide) rfl hx (by omega) ?_
  refine g_aload_n 0 dX1_add_51 rfl rfl ?_
  refine g_dup dX1_add_52 rfl ?_
  refine gf_X1_34 dX1_add_53 ?_
  simp (disch := omega) only [setW_ne]
  refine g_iconst 1 dX1_add_56 rfl ?_
  refine g_iadd dX1_add_57 ?_
  refine pf_X1_34 dX1_add_58 ?_
  refine g_vret dX1_add_61 rfl rfl ?_
  · rw [hc, nI_1]
set_option maxRecDepth 20000 in
theorem t_X1_barsOf {E : En} {w : W0} {ni k : Nat} {x : Int32} (hc : w 4 7 = nI ni) (hn : ni ≤ 60) (hk : k < ni) (hx : x = nI k) {nl : Nat} (hcl : w 1 2 = nI nl) (hnl : nl ≤ 8) : Mt E 3 yX1_barsOf cX1_barsOf 6 (some .int) [.ref (E.1 4), .int x, .ref (E.1 1), .ref (E.1 3)] w (some (.int (barsF w nl k))) w := by
  refine Mt.of (by decide +kernel) (Nat.le_of_ble_eq_true rfl) ?_
  show G E 3 RX1 cX1_barsOf 6 (some .int) _ _ 0 [(0, .ref (E.1 4)), (1, .int x), (2, .ref (E.1 1)), (3, .ref (E.1 3))] [] w
  have hxi : x.toInt = (k : Int) := by rw [hx]; exact nI_toInt (by omega)
  have hxn : x.toNatClampNeg = k := by rw [hx]; exact nI_clamp (by omega)
  have hcI : (w 4 7).toInt = (ni : Int) := by rw [hc]; exact nI_toInt (by omega)
  refine g_aload_n 0 dX1_barsOf_0 rfl rfl ?_
  refine g_iload_n 1 dX1_barsOf_1 rfl rfl ?_
  refine ca_X1_38 dX1_barsOf_2 (t_X1_has) (by decide) (Nat.le_of_ble_eq_true rfl) ?_
  refine g_if_eqb 17 dX1_barsOf_5 (by decide) (fun h5 => False.elim (by exact h5 (by omega))) (fun h5 => ?_)
  refine g_aload_n 0 dX1_barsOf_8 rfl rfl ?_
  refine gf_X1_18 dX1_barsOf_9 ?_
  refine g_iload_n 1 dX1_barsOf_12 rfl rfl ?_
  refine g_bald (n := 60) k dX1_barsOf_13 (by decide) rfl hxn (by omega) ?_
  refine g_if_eq 19 dX1_barsOf_14 (by decide) (fun h14 => ?_) (fun h14 => ?_)
  · refine g_aload_n 2 dX1_barsOf_19 rfl rfl ?_
    refine g_aload_n 0 dX1_barsOf_20 rfl rfl ?_
    refine gf_X1_9 dX1_barsOf_21 ?_
    refine g_iload_n 1 dX1_barsOf_24 rfl rfl ?_
    refine g_iald (n := 60) k dX1_barsOf_25 (by decide) rfl hxn (by omega) ?_
    refine g_iconst 3 dX1_barsOf_26 rfl ?_
    refine ca_X1_42 dX1_barsOf_27 (t_X2_inForce (p := 3) hcl hnl rfl (by decide)) (by decide) (Nat.le_of_ble_eq_true rfl) ?_
    refine g_istN dX1_barsOf_30 (by decide) rfl ?_
    refine g_aload_n 4 dX1_barsOf_32 rfl rfl ?_
    refine g_aload_n 1 dX1_barsOf_33 rfl rfl ?_
    refine gf_X1_22 dX1_barsOf_34 ?_
    refine g_iload_n 2 dX1_barsOf_37 rfl rfl ?_
    refine g_iald (n := 60) k dX1_barsOf_38 (by decide) rfl hxn (by omega) ?_
    refine g_aload_n 1 dX1_barsOf_39 rfl rfl ?_
    refine gf_X1_15 dX1_barsOf_40 ?_
    refine g_iload_n 2 dX1_barsOf_43 rfl rfl ?_
    refine g_iald (n := 60) k dX1_barsOf_44 (by decide) rfl hxn (by omega) ?_
    refine g_iload 0 dX1_barsOf_45 rfl ?_
    refine ca_X1_48 dX1_barsOf_47 (t_X4_barsOn) (by decide) (Nat.le_of_ble_eq_true rfl) ?_
    refine g_istN dX1_barsOf_50 (by decide) rfl ?_
    refine g_aload_n 2 dX1_barsOf_52 rfl rfl ?_
    refine gf_X1_28 dX1_barsOf_53 ?_
    refine g_iload_n 3 dX1_barsOf_56 rfl rfl ?_
    refine g_bald (n := 60) k dX1_barsOf_57 (by decide) rfl hxn (by omega) ?_
    refine g_if_eq 77 dX1_barsOf_58 (by decide) (fun h58 => ?_) (fun h58 => ?_)
    · refine g_iload 0 dX1_barsOf_77 rfl ?_
      refine g_iret dX1_barsOf_79 rfl rfl ?_ ?_
      · unfold barsF; (repeat' split) <;> first | rfl | (exfalso; simp_all; done)
      · rfl
    · refine g_aload_n 2 dX1_barsOf_61 rfl rfl ?_
      refine gf_X1_25 dX1_barsOf_62 ?_
      refine g_iload_n 3 dX1_barsOf_65 rfl rfl ?_
      refine g_bald (n := 60) k dX1_barsOf_66 (by decide) rfl hxn (by omega) ?_
      refine g_if_ne 77 dX1_barsOf_67 (by decide) (fun h67 => ?_) (fun h67 => ?_)
      · refine g_iload 0 dX1_barsOf_77 rfl ?_
        refine g_iret dX1_barsOf_79 rfl rfl ?_ ?_
        · unfold barsF; (repeat' split) <;> first | rfl | (exfalso; simp_all; done)
        · rfl
      · refine g_iload 0 dX1_barsOf_70 rfl ?_
        refine g_iconst 2 dX1_barsOf_72 rfl ?_
        refine g_iadd dX1_barsOf_73 ?_
        refine g_goto 79 dX1_barsOf_74 (by decide) ?_
        refine g_iret dX1_barsOf_79 rfl rfl ?_ ?_
        · unfold barsF; (repeat' split) <;> first | rfl | (exfalso; simp_all; done)
        · rfl
  · refine g_iconst 0 dX1_barsOf_17 rfl ?_
    refine g_iret dX1_barsOf_18 rfl rfl ?_ ?_
    · unfold barsF; (repeat' split) <;> first | rfl | (exfalso; simp_all; done)
    · rfl
set_option maxRecDepth 20000 in
theorem l_settleAllowed {E : En} {w : W0} {ni : Nat} (hc : w 4 7 = nI ni) (hn : ni ≤ 60) {nl : Nat} (hcl : w 1 2 = nI nl) (hnl : nl ≤ 8) : ∀ (n : Nat) (k : Nat) (x : Int32), ni + 1 ≤ k + n → k ≤ ni → x = nI k → G E 4 RX1 cX1_settleAllowed 4 (none) none (alW w nl ni) 2 [(0, .ref (E.1 4)), (1, .ref (E.1 1)), (2, .ref (E.1 3)), (3, .int x)] [] (alW w nl k) := by
  intro n
  induction n with
  | zero =>
    intro k x hfu hk hx
    exact absurd hfu (by omega)
  | succ n ih =>
    intro k x hfu hk hx
    have hxi : x.toInt = (k : Int) := by rw [hx]; exact nI_toInt (by omega)
    have hxn : x.toNatClampNeg = k := by rw [hx]; exact nI_clamp (by omega)
    have hcI : (w 4 7).toInt = (ni : Int) := by rw [hc]; exact nI_toInt (by omega)
    unfold alW
    refine g_iload_n 3 dX1_settleAllowed_2 rfl rfl ?_
    refine g_aload_n 0 dX1_settleAllowed_3 rfl rfl ?_
    refine gf_X1_34 dX1_settleAllowed_4 ?_
    (try simp (disch := omega) only [setW_ne, setW_p, setA_ne, setA_p, upd_self, lpF_setA, lpF_setW, limC_setA, limC_setW, barsF_setA])
    refine g_icmp_ge 43 (k : Int) _ dX1_settleAllowed_7 (by decide) hxi rfl (fun h7 => ?_) (fun h7 => ?_)
    · refine g_vret dX1_settleAllowed_43 rfl rfl ?_
      · rw [show k = ni by omega]
    · refine g_iload_n 3 dX1_settleAllowed_10 rfl rfl ?_
      refine g_bipush 60 dX1_settleAllowed_11 rfl ?_
      refine g_icmp_ge 43 (k : Int) 60 dX1_settleAllowed_13 (by decide) hxi rfl (fun h13 => False.elim (by omega)) (fun h13 => ?_)
      refine g_aload_n 0 dX1_settleAllowed_16 rfl rfl ?_
      refine gf_X1_31 dX1_settleAllowed_17 ?_
      refine g_iload_n 3 dX1_settleAllowed_20 rfl rfl ?_
      refine g_aload_n 0 dX1_settleAllowed_21 rfl rfl ?_
      refine g_iload_n 3 dX1_settleAllowed_22 rfl rfl ?_
      refine g_aload_n 1 dX1_settleAllowed_23 rfl rfl ?_
      refine g_aload_n 2 dX1_settleAllowed_24 rfl rfl ?_
      refine ca_X1_54 dX1_settleAllowed_25 (t_X1_barsOf (ni := ni) (k := k) (nl := nl) (by (try simp (disch := omega) only [setW_ne, setA_ne]); exact hc) hn (by omega) hx (by (try simp (disch := omega) only [setW_ne, setA_ne]); exact hcl) hnl) (by decide) (Nat.le_of_ble_eq_true rfl) ?_
      (try simp (disch := omega) only [setW_ne, setW_p, setA_ne, setA_p, upd_self, lpF_setA, lpF_setW, limC_setA, limC_setW, barsF_setA])
      refine g_if_ne 35 dX1_settleAllowed_28 (by decide) (fun h28 => ?_) (fun h28 => ?_)
      · refine g_iconst 0 dX1_settleAllowed_35 rfl ?_
        refine g_bast (n := 60) k dX1_settleAllowed_36 (by decide) rfl hxn (by omega) rfl ?_
        (try simp (disch := omega) only [setW_setA, setW_setA_ne])
        refine g_iinc 1 [_, _, _] _ dX1_settleAllowed_37 rfl (by decide) rfl ?_
        refine g_goto 2 dX1_settleAllowed_40 (by decide) ?_
        have hh := ih (k + 1) (x + 1) (by omega) (by omega) (by rw [hx, nI_1])
        unfold alW at hh
        rw [← fillF_s] at hh
        rcases alF_or w nl k with ⟨z, e⟩ | ⟨z, e⟩ <;> rw [e] at hh <;> first | exact hh | exact absurd z h28 | exact absurd h28 z
      · refine g_iconst 1 dX1_settleAllowed_31 rfl ?_
        refine g_goto 36 dX1_settleAllowed_32 (by decide) ?_
        refine g_bast (n := 60) k dX1_settleAllowed_36 (by decide) rfl hxn (by omega) rfl ?_
        (try simp (disch := omega) only [setW_setA, setW_setA_ne])
        refine g_iinc 1 [_, _, _] _ dX1_settleAllowed_37 rfl (by decide) rfl ?_
        refine g_goto 2 dX1_settleAllowed_40 (by decide) ?_
        have hh := ih (k + 1) (x + 1) (by omega) (by omega) (by rw [hx, nI_1])
        unfold alW at hh
        rw [← fillF_s] at hh
        rcases alF_or w nl k with ⟨z, e⟩ | ⟨z, e⟩ <;> rw [e] at hh <;> first | exact hh | exact absurd z h28 | exact absurd h28 z
set_option maxRecDepth 20000 in
theorem t_X1_settleAllowed {E : En} {w : W0} {ni : Nat} (hc : w 4 7 = nI ni) (hn : ni ≤ 60) {nl : Nat} (hcl : w 1 2 = nI nl) (hnl : nl ≤ 8) : Mt E 4 yX1_settleAllowed cX1_settleAllowed 4 (none) [.ref (E.1 4), .ref (E.1 1), .ref (E.1 3)] w none (alW w nl ni) := by
  refine Mt.of (by decide +kernel) (Nat.le_of_ble_eq_true rfl) ?_
  show G E 4 RX1 cX1_settleAllowed 4 (none) _ _ 0 [(0, .ref (E.1 4)), (1, .ref (E.1 1)), (2, .ref (E.1 3))] [] w
  refine g_iconst 0 dX1_settleAllowed_0 rfl ?_
  refine g_istN_n dX1_settleAllowed_1 rfl (by decide) rfl ?_
  refine g_lv [1, 2, 3, 0] rfl ?_
  have hl := l_settleAllowed (E := E) hc hn hcl hnl (ni + 1) 0 _ (by omega) (by omega) rfl
  rw [alW_0] at hl
  exact hl
set_option maxRecDepth 20000 in
theorem l_sumBetween {E : En} {w : W0} {ni : Nat} {r a b : Int32} (hc : w 4 7 = nI ni) (hn : ni ≤ 60) : ∀ (n : Nat) (k : Nat) (v x : Int32), ni + 1 ≤ k + n → k ≤ ni → x = nI k → v = sumF (w 26) (w 30) (w 24) (w 25) r a b k → G E 1 RX1 cX1_sumBetween 6 (some .int) (some (.int (sumF (w 26) (w 30) (w 24) (w 25) r a b ni))) w 6 [(0, .ref (E.1 4)), (1, .int r), (2, .int a), (3, .int b), (4, .int v), (5, .int x)] [] w := by
  intro n
  induction n with
  | zero =>
    intro k v x hfu hk hx hv
    exact absurd hfu (by omega)
  | succ n ih =>
    intro k v x hfu hk hx hv
    have hxi : x.toInt = (k : Int) := by rw [hx]; exact nI_toInt (by omega)
    have hxn : x.toNatClampNeg = k := by rw [hx]; exact nI_clamp (by omega)
    have hcI : (w 4 7).toInt = (ni : Int) := by rw [hc]; exact nI_toInt (by omega)
    refine g_iload 5 dX1_sumBetween_6 rfl ?_
    refine g_aload_n 0 dX1_sumBetween_8 rfl rfl ?_
    refine gf_X1_34 dX1_sumBetween_9 ?_
    refine g_icmp_ge 76 (k : Int) _ dX1_sumBetween_12 (by decide) hxi rfl (fun h12 => ?_) (fun h12 => ?_)
    · refine g_iload 4 dX1_sumBetween_76 rfl ?_
      refine g_iret dX1_sumBetween_78 rfl rfl ?_ ?_
      · rw [hv, show k = ni by omega]
      · rfl
    · refine g_iload 5 dX1_sumBetween_15 rfl ?_
      refine g_bipush 60 dX1_sumBetween_17 rfl ?_
      refine g_icmp_ge 76 (k : Int) 60 dX1_sumBetween_19 (by decide) hxi rfl (fun h19 => False.elim (by omega)) (fun h19 => ?_)
      refine g_aload_n 0 dX1_sumBetween_22 rfl rfl ?_
      refine gf_X1_18 dX1_sumBetween_23 ?_
      refine g_iload 5 dX1_sumBetween_26 rfl ?_
      refine g_bald (n := 60) k dX1_sumBetween_28 (by decide) rfl hxn (by omega) ?_
      refine g_iload_n 1 dX1_sumBetween_29 rfl rfl ?_
      refine g_icmp_ne 70 dX1_sumBetween_30 (by decide) (fun h30 => ?_) (fun h30 => ?_)
      · refine g_iinc 1 [_, _, _, _, _] _ dX1_sumBetween_70 rfl (by decide) rfl ?_
        refine g_goto 6 dX1_sumBetween_73 (by decide) ?_
        exact ih (k + 1) _ _ (by omega) (by omega) (by rw [hx, nI_1]) (by clear ih; rw [sumF_s, ← hv]; split <;> first | rfl | (exfalso; simp_all; done) | (exfalso; simp_all; omega))
      · refine g_aload_n 0 dX1_sumBetween_33 rfl rfl ?_
        refine gf_X1_31 dX1_sumBetween_34 ?_
        refine g_iload 5 dX1_sumBetween_37 rfl ?_
        refine g_bald (n := 60) k dX1_sumBetween_39 (by decide) rfl hxn (by omega) ?_
        refine g_if_eq 70 dX1_sumBetween_40 (by decide) (fun h40 => ?_) (fun h40 => ?_)
        · refine g_iinc 1 [_, _, _, _, _] _ dX1_sumBetween_70 rfl (by decide) rfl ?_
          refine g_goto 6 dX1_sumBetween_73 (by decide) ?_
          exact ih (k + 1) _ _ (by omega) (by omega) (by rw [hx, nI_1]) (by clear ih; rw [sumF_s, ← hv]; split <;> first | rfl | (exfalso; simp_all; done) | (exfalso; simp_all; omega))
        · refine g_aload_n 0 dX1_sumBetween_43 rfl rfl ?_
          refine gf_X1_9 dX1_sumBetween_44 ?_
          refine g_iload 5 dX1_sumBetween_47 rfl ?_
          refine g_iald (n := 60) k dX1_sumBetween_49 (by decide) rfl hxn (by omega) ?_
          refine g_iload_n 2 dX1_sumBetween_50 rfl rfl ?_
          refine g_iload_n 3 dX1_sumBetween_51 rfl rfl ?_
          refine ca_X1_62 dX1_sumBetween_52 (t_X6_within _ _ rfl rfl) (by decide) (Nat.le_of_ble_eq_true rfl) ?_
          refine g_if_eqb 70 dX1_sumBetween_55 (by decide) (fun h55 => ?_) (fun h55 => ?_)
          · refine g_iinc 1 [_, _, _, _, _] _ dX1_sumBetween_70 rfl (by decide) rfl ?_
            refine g_goto 6 dX1_sumBetween_73 (by decide) ?_
            exact ih (k + 1) _ _ (by omega) (by omega) (by rw [hx, nI_1]) (by clear ih; rw [sumF_s, ← hv]; split <;> first | rfl | (exfalso; simp_all; done) | (exfalso; simp_all; omega))
          · refine g_iload 4 dX1_sumBetween_58 rfl ?_
            refine g_aload_n 0 dX1_sumBetween_60 rfl rfl ?_
            refine gf_X1_15 dX1_sumBetween_61 ?_
            refine g_iload 5 dX1_sumBetween_64 rfl ?_
            refine g_iald (n := 60) k dX1_sumBetween_66 (by decide) rfl hxn (by omega) ?_
            refine g_iadd dX1_sumBetween_67 ?_
            refine g_ist [_, _, _, _] _ dX1_sumBetween_68 (by decide) rfl ?_
            refine g_iinc 1 [_, _, _, _, _] _ dX1_sumBetween_70 rfl (by decide) rfl ?_
            refine g_goto 6 dX1_sumBetween_73 (by decide) ?_
            exact ih (k + 1) _ _ (by omega) (by omega) (by rw [hx, nI_1]) (by clear ih; rw [sumF_s, ← hv]; split <;> first | rfl | (exfalso; simp_all; done) | (exfalso; simp_all; omega))
set_option maxRecDepth 20000 in
theorem t_X1_sumBetween {E : En} {w : W0} {ni : Nat} {r a b : Int32} (hc : w 4 7 = nI ni) (hn : ni ≤ 60) : Mt E 1 yX1_sumBetween cX1_sumBetween 6 (some .int) [.ref (E.1 4), .int r, .int a, .int b] w (some (.int (sumF (w 26) (w 30) (w 24) (w 25) r a b ni))) w := by
  refine Mt.of (by decide +kernel) (Nat.le_of_ble_eq_true rfl) ?_
  show G E 1 RX1 cX1_sumBetween 6 (some .int) _ _ 0 [(0, .ref (E.1 4)), (1, .int r), (2, .int a), (3, .int b)] [] w
  refine g_iconst 0 dX1_sumBetween_0 rfl ?_
  refine g_istN dX1_sumBetween_1 (by decide) rfl ?_
  refine g_iconst 0 dX1_sumBetween_3 rfl ?_
  refine g_istN dX1_sumBetween_4 (by decide) rfl ?_
  refine g_lv [2, 3, 4, 5, 1, 0] rfl ?_
  exact l_sumBetween hc hn (ni + 1) 0 _ _ (by omega) (by omega) rfl rfl
set_option maxRecDepth 20000 in
theorem t_X1_receivedBetween {E : En} {w : W0} {ni : Nat} {a b : Int32} (hc : w 4 7 = nI ni) (hn : ni ≤ 60) : Mt E 2 yX1_receivedBetween cX1_receivedBetween 3 (some .int) [.ref (E.1 4), .int a, .int b] w (some (.int (sumF (w 26) (w 30) (w 24) (w 25) 1 a b ni))) w := by
  refine Mt.of (by decide +kernel) (Nat.le_of_ble_eq_true rfl) ?_
  show G E 2 RX1 cX1_receivedBetween 3 (some .int) _ _ 0 [(0, .ref (E.1 4)), (1, .int a), (2, .int b)] [] w
  refine g_aload_n 0 dX1_receivedBetween_0 rfl rfl ?_
  refine g_iconst 1 dX1_receivedBetween_1 rfl ?_
  refine g_iload_n 1 dX1_receivedBetween_2 rfl rfl ?_
  refine g_iload_n 2 dX1_receivedBetween_3 rfl rfl ?_
  refine ca_X1_58 dX1_receivedBetween_4 (t_X1_sumBetween hc hn) (by decide) (Nat.le_of_ble_eq_true rfl) ?_
  refine g_iret dX1_receivedBetween_7 rfl rfl ?_ ?_
  · rfl
  · rfl
set_option maxRecDepth 20000 in
theorem t_X1_paidBetween {E : En} {w : W0} {ni : Nat} {a b : Int32} (hc : w 4 7 = nI ni) (hn : ni ≤ 60) : Mt E 2 yX1_paidBetween cX1_paidBetween 3 (some .int) [.ref (E.1 4), .int a, .int b] w (some (.int (sumF (w 26) (w 30) (w 24) (w 25) 0 a b ni))) w := by
  refine Mt.of (by decide +kernel) (Nat.le_of_ble_eq_true rfl) ?_
  show G E 2 RX1 cX1_paidBetween 3 (some .int) _ _ 0 [(0, .ref (E.1 4)), (1, .int a), (2, .int b)] [] w
  refine g_aload_n 0 dX1_paidBetween_0 rfl rfl ?_
  refine g_iconst 0 dX1_paidBetween_1 rfl ?_
  refine g_iload_n 1 dX1_paidBetween_2 rfl rfl ?_
  refine g_iload_n 2 dX1_paidBetween_3 rfl rfl ?_
  refine ca_X1_58 dX1_paidBetween_4 (t_X1_sumBetween hc hn) (by decide) (Nat.le_of_ble_eq_true rfl) ?_
  refine g_iret dX1_paidBetween_7 rfl rfl ?_ ?_
  · rfl
  · rfl
set_option maxRecDepth 20000 in
theorem l_hadOf {E : En} {w : W0} {ni : Nat} {a b : Int32} (hc : w 4 7 = nI ni) (hn : ni ≤ 60) : ∀ (n : Nat) (k : Nat) (v x : Int32), ni + 1 ≤ k + n → k ≤ ni → x = nI k → v = hadF (w 26) (w 27) (w 24) (w 25) a b k → G E 0 RX1 cX1_hadOf 5 (some .int) (some (.int (hadF (w 26) (w 27) (w 24) (w 25) a b ni))) w 5 [(0, .ref (E.1 4)), (1, .int a), (2, .int b), (3, .int v), (4, .int x)] [] w := by
  intro n
  induction n with
  | zero =>
    intro k v x hfu hk hx hv
    exact absurd hfu (by omega)
  | succ n ih =>
    intro k v x hfu hk hx hv
    have hxi : x.toInt = (k : Int) := by rw [hx]; exact nI_toInt (by omega)
    have hxn : x.toNatClampNeg = k := by rw [hx]; exact nI_clamp (by omega)
    have hcI : (w 4 7).toInt = (ni : Int) := by rw [hc]; exact nI_toInt (by omega)
    refine g_iload 4 dX1_hadOf_5 rfl ?_
    refine g_aload_n 0 dX1_hadOf_7 rfl rfl ?_
    refine gf_X1_34 dX1_hadOf_8 ?_
    refine g_icmp_ge 69 (k : Int) _ dX1_hadOf_11 (by decide) hxi rfl (fun h11 => ?_) (fun h11 => ?_)
    · refine g_iload_n 3 dX1_hadOf_69 rfl rfl ?_
      refine g_iret dX1_hadOf_70 rfl rfl ?_ ?_
      · rw [hv, show k = ni by omega]
      · rfl
    · refine g_iload 4 dX1_hadOf_14 rfl ?_
      refine g_bipush 60 dX1_hadOf_16 rfl ?_
      refine g_icmp_ge 69 (k : Int) 60 dX1_hadOf_18 (by decide) hxi rfl (fun h18 => False.elim (by omega)) (fun h18 => ?_)
      refine g_aload_n 0 dX1_hadOf_21 rfl rfl ?_
      refine gf_X1_18 dX1_hadOf_22 ?_
      refine g_iload 4 dX1_hadOf_25 rfl ?_
      refine g_bald (n := 60) k dX1_hadOf_27 (by decide) rfl hxn (by omega) ?_
      refine g_if_eq 63 dX1_hadOf_28 (by decide) (fun h28 => ?_) (fun h28 => ?_)
      · refine g_iinc 1 [_, _, _, _] _ dX1_hadOf_63 rfl (by decide) rfl ?_
        refine g_goto 5 dX1_hadOf_66 (by decide) ?_
        exact ih (k + 1) _ _ (by omega) (by omega) (by rw [hx, nI_1]) (by clear ih; rw [hadF_s, ← hv]; split <;> first | rfl | (exfalso; simp_all; done) | (exfalso; simp_all; omega))
      · refine g_aload_n 0 dX1_hadOf_31 rfl rfl ?_
        refine gf_X1_22 dX1_hadOf_32 ?_
        refine g_iload 4 dX1_hadOf_35 rfl ?_
        refine g_iald (n := 60) k dX1_hadOf_37 (by decide) rfl hxn (by omega) ?_
        refine g_iload_n 1 dX1_hadOf_38 rfl rfl ?_
        refine g_icmp_ne 63 dX1_hadOf_39 (by decide) (fun h39 => ?_) (fun h39 => ?_)
        · refine g_iinc 1 [_, _, _, _] _ dX1_hadOf_63 rfl (by decide) rfl ?_
          refine g_goto 5 dX1_hadOf_66 (by decide) ?_
          exact ih (k + 1) _ _ (by omega) (by omega) (by rw [hx, nI_1]) (by clear ih; rw [hadF_s, ← hv]; split <;> first | rfl | (exfalso; simp_all; done) | (exfalso; simp_all; omega))
        · refine g_aload_n 0 dX1_hadOf_42 rfl rfl ?_
          refine gf_X1_9 dX1_hadOf_43 ?_
          refine g_iload 4 dX1_hadOf_46 rfl ?_
          refine g_iald (n := 60) k dX1_hadOf_48 (by decide) rfl hxn (by omega) ?_
          refine g_iload_n 2 dX1_hadOf_49 rfl rfl ?_
          refine g_icmp_gt 63 _ _ dX1_hadOf_50 (by decide) rfl rfl (fun h50 => ?_) (fun h50 => ?_)
          · refine g_iinc 1 [_, _, _, _] _ dX1_hadOf_63 rfl (by decide) rfl ?_
            refine g_goto 5 dX1_hadOf_66 (by decide) ?_
            exact ih (k + 1) _ _ (by omega) (by omega) (by rw [hx, nI_1]) (by clear ih; rw [hadF_s, ← hv]; split <;> first | rfl | (exfalso; simp_all; done) | (exfalso; simp_all; omega))
          · refine g_iload_n 3 dX1_hadOf_53 rfl rfl ?_
            refine g_aload_n 0 dX1_hadOf_54 rfl rfl ?_
            refine gf_X1_15 dX1_hadOf_55 ?_
            refine g_iload 4 dX1_hadOf_58 rfl ?_
            refine g_iald (n := 60) k dX1_hadOf_60 (by decide) rfl hxn (by omega) ?_
            refine g_iadd dX1_hadOf_61 ?_
            refine g_ist_n [_, _, _] _ dX1_hadOf_62 rfl (by decide) rfl ?_
            refine g_iinc 1 [_, _, _, _] _ dX1_hadOf_63 rfl (by decide) rfl ?_
            refine g_goto 5 dX1_hadOf_66 (by decide) ?_
            exact ih (k + 1) _ _ (by omega) (by omega) (by rw [hx, nI_1]) (by clear ih; rw [hadF_s, ← hv]; split <;> first | rfl | (exfalso; simp_all; done) | (exfalso; simp_all; omega))
set_option maxRecDepth 20000 in
theorem t_X1_hadOf {E : En} {w : W0} {ni : Nat} {a b : Int32} (hc : w 4 7 = nI ni) (hn : ni ≤ 60) : Mt E 0 yX1_hadOf cX1_hadOf 5 (some .int) [.ref (E.1 4), .int a, .int b] w (some (.int (hadF (w 26) (w 27) (w 24) (w 25) a b ni))) w := by
  refine Mt.of (by decide +kernel) (Nat.le_of_ble_eq_true rfl) ?_
  show G E 0 RX1 cX1_hadOf 5 (some .int) _ _ 0 [(0, .ref (E.1 4)), (1, .int a), (2, .int b)] [] w
  refine g_iconst 0 dX1_hadOf_0 rfl ?_
  refine g_istN_n dX1_hadOf_1 rfl (by decide) rfl ?_
  refine g_iconst 0 dX1_hadOf_2 rfl ?_
  refine g_istN dX1_hadOf_3 (by decide) rfl ?_
  refine g_lv [2, 3, 4, 1, 0] rfl ?_
  exact l_hadOf hc hn (ni + 1) 0 _ _ (by omega) (by omega) rfl rfl
set_option maxRecDepth 20000 in
theorem t_X1_turnAfter {E : En} {w : W0} {ni : Nat} {a b : Int32} (hc : w 4 7 = nI ni) (hn : ni ≤ 60) : Mt E 1 yX1_turnAfter cX1_turnAfter 3 (some .int) [.ref (E.1 4), .int a, .int b] w (some (.int (nextF (w 24) a b ni))) w := by
  refine Mt.of (by decide +kernel) (Nat.le_of_ble_eq_true rfl) ?_
  show G E 1 RX1 cX1_turnAfter 3 (some .int) _ _ 0 [(0, .ref (E.1 4)), (1, .int a), (2, .int b)] [] w
  refine g_aload_n 0 dX1_turnAfter_0 rfl rfl ?_
  refine gf_X1_9 dX1_turnAfter_1 ?_
  refine g_aload_n 0 dX1_turnAfter_4 rfl rfl ?_
  refine gf_X1_34 dX1_turnAfter_5 ?_
  rw [hc]
  refine g_iload_n 1 dX1_turnAfter_8 rfl rfl ?_
  refine g_iload_n 2 dX1_turnAfter_9 rfl rfl ?_
  refine ca_X1_66 dX1_turnAfter_10 (t_X6_nextOf (q := 24) (N := 60) (by decide) rfl (by decide) (by omega)) (by decide) (Nat.le_of_ble_eq_true rfl) ?_
  refine g_iret dX1_turnAfter_13 rfl rfl ?_ ?_
  · rfl
  · rfl
set_option maxRecDepth 20000 in
theorem t_X3_has {E : En} {w : W0} {i : Int32} : Mt E 0 yX3_has cX3_has 2 (some .boolean) [.ref (E.1 5), .int i] w (some (.int (bI (hasE w i)))) w := by
  refine Mt.of (by decide +kernel) (Nat.le_of_ble_eq_true rfl) ?_
  show G E 0 RX3 cX3_has 2 (some .boolean) _ _ 0 [(0, .ref (E.1 5)), (1, .int i)] [] w
  refine g_iload_n 1 dX3_has_0 rfl rfl ?_
  refine g_if_lt 22 _ dX3_has_1 (by decide) rfl (fun h1 => ?_) (fun h1 => ?_)
  · refine g_iconst 0 dX3_has_22 rfl ?_
    refine g_iret dX3_has_23 rfl rfl ?_ ?_
    · first | (rw [bI_t]; omega) | (rw [bI_f]; omega)
    · rfl
  · refine g_iload_n 1 dX3_has_4 rfl rfl ?_
    refine g_aload_n 0 dX3_has_5 rfl rfl ?_
    refine gf_X3_24 dX3_has_6 ?_
    refine g_icmp_ge 22 _ _ dX3_has_9 (by decide) rfl rfl (fun h9 => ?_) (fun h9 => ?_)
    · refine g_iconst 0 dX3_has_22 rfl ?_
      refine g_iret dX3_has_23 rfl rfl ?_ ?_
      · first | (rw [bI_t]; omega) | (rw [bI_f]; omega)
      · rfl
    · refine g_iload_n 1 dX3_has_12 rfl rfl ?_
      refine g_bipush 10 dX3_has_13 rfl ?_
      refine g_icmp_ge 22 _ 10 dX3_has_15 (by decide) rfl rfl (fun h15 => ?_) (fun h15 => ?_)
      · refine g_iconst 0 dX3_has_22 rfl ?_
        refine g_iret dX3_has_23 rfl rfl ?_ ?_
        · first | (rw [bI_t]; omega) | (rw [bI_f]; omega)
        · rfl
      · refine g_iconst 1 dX3_has_18 rfl ?_
        refine g_goto 23 dX3_has_19 (by decide) ?_
        refine g_iret dX3_has_23 rfl rfl ?_ ?_
        · first | (rw [bI_t]; omega) | (rw [bI_f]; omega)
        · rfl
set_option maxRecDepth 20000 in
theorem t_X3_add {E : En} {w : W0} {d y r l : Int32} {n : Nat} (hc : w 5 4 = nI n) (hn : n < 10) : Mt E 0 yX3_add cX3_add 5 (none) [.ref (E.1 5), .int d, .int y, .int r, .int l] w none (setW (setW (setW (setW (setW w 31 n d) 32 n y) 33 n r) 34 n l) 5 4 (nI (n + 1))) := by
  refine Mt.of (by decide +kernel) (Nat.le_of_ble_eq_true rfl) ?_
  show G E 0 RX3 cX3_add 5 (none) _ _ 0 [(0, .ref (E.1 5)), (1, .int d), (2, .int y), (3, .int r), (4, .int l)] [] w
  have hi : (w 5 4).toInt = (n : Int) := by rw [hc]; exact nI_toInt (by omega)
  have hx : (w 5 4).toNatClampNeg = n := by rw [hc]; exact nI_clamp (by omega)
  refine g_aload_n 0 dX3_add_0 rfl rfl ?_
  refine gf_X3_24 dX3_add_1 ?_
  refine g_bipush 10 dX3_add_4 rfl ?_
  refine g_icmp_lt 10 _ 10 dX3_add_6 (by decide) rfl rfl (fun h6 => ?_) (fun h6 => False.elim (by omega))
  refine g_aload_n 0 dX3_add_10 rfl rfl ?_
  refine gf_X3_9 dX3_add_11 ?_
  refine g_aload_n 0 dX3_add_14 rfl rfl ?_
  refine gf_X3_24 dX3_add_15 ?_
  refine g_iload_n 1 dX3_add_18 rfl rfl ?_
  refine g_iast (n := 10) n dX3_add_19 (by decide) rfl hx (by omega) ?_
  refine g_aload_n 0 dX3_add_20 rfl rfl ?_
  refine gf_X3_15 dX3_add_21 ?_
  refine g_aload_n 0 dX3_add_24 rfl rfl ?_
  refine gf_X3_24 dX3_add_25 ?_
  simp (disch := omega) only [setW_ne]
  refine g_iload_n 2 dX3_add_28 rfl rfl ?_
  refine g_iast (n := 10) n dX3_add_29 (by decide) rfl hx (by omega) ?_
  refine g_aload_n 0 dX3_add_30 rfl rfl ?_
  refine gf_X3_18 dX3_add_31 ?_
  refine g_aload_n 0 dX3_add_34 rfl rfl ?_
  refine gf_X3_24 dX3_add_35 ?_
  simp (disch := omega) only [setW_ne]
  refine g_iload_n 3 dX3_add_38 rfl rfl ?_
  refine g_iast (n := 10) n dX3_add_39 (by decide) rfl hx (by omega) ?_
  refine g_aload_n 0 dX3_add_40 rfl rfl ?_
  refine gf_X3_21 dX3_add_41 ?_
  refine g_aload_n 0 dX3_add_44 rfl rfl ?_
  refine gf_X3_24 dX3_add_45 ?_
  simp (disch := omega) only [setW_ne]
  refine g_iload 4 dX3_add_48 rfl ?_
  refine g_iast (n := 10) n dX3_add_50 (by decide) rfl hx (by omega) ?_
  refine g_aload_n 0 dX3_add_51 rfl rfl ?_
  refine g_dup dX3_add_52 rfl ?_
  refine gf_X3_24 dX3_add_53 ?_
  simp (disch := omega) only [setW_ne]
  refine g_iconst 1 dX3_add_56 rfl ?_
  refine g_iadd dX3_add_57 ?_
  refine pf_X3_24 dX3_add_58 ?_
  refine g_vret dX3_add_61 rfl rfl ?_
  · rw [hc, nI_1]
def flawF (w : W0) (nl k : Nat) : Int32 := onF w (w 34 k) (w 32 k) (lawF (w 7) (lpF w) nl (w 31 k) 4)
def dueF (w : W0) (k : Nat) (day : Int32) : Int32 := if day.toInt < (w 31 k).toInt then 0 else w 33 k * (if w 32 k < (day - w 31 k) / 360 + 1 then w 32 k else (day - w 31 k) / 360 + 1)
set_option maxRecDepth 20000 in
theorem t_X3_flawsOf {E : En} {w : W0} {ne k : Nat} {x : Int32} (hc : w 5 4 = nI ne) (hn : ne ≤ 10) (hk : k < ne) (hx : x = nI k) {nl : Nat} (hcl : w 1 2 = nI nl) (hnl : nl ≤ 8) : Mt E 3 yX3_flawsOf cX3_flawsOf 5 (some .int) [.ref (E.1 5), .int x, .ref (E.1 1), .ref (E.1 3)] w (some (.int (flawF w nl k))) w := by
  refine Mt.of (by decide +kernel) (Nat.le_of_ble_eq_true rfl) ?_
  show G E 3 RX3 cX3_flawsOf 5 (some .int) _ _ 0 [(0, .ref (E.1 5)), (1, .int x), (2, .ref (E.1 1)), (3, .ref (E.1 3))] [] w
  have hxi : x.toInt = (k : Int) := by rw [hx]; exact nI_toInt (by omega)
  have hxn : x.toNatClampNeg = k := by rw [hx]; exact nI_clamp (by omega)
  have hcI : (w 5 4).toInt = (ne : Int) := by rw [hc]; exact nI_toInt (by omega)
  refine g_aload_n 0 dX3_flawsOf_0 rfl rfl ?_
  refine g_iload_n 1 dX3_flawsOf_1 rfl rfl ?_
  refine ca_X3_28 dX3_flawsOf_2 (t_X3_has) (by decide) (Nat.le_of_ble_eq_true rfl) ?_
  refine g_if_neb 10 dX3_flawsOf_5 (by decide) (fun h5 => ?_) (fun h5 => False.elim (by exact h5 (by omega)))
  refine g_aload_n 2 dX3_flawsOf_10 rfl rfl ?_
  refine g_aload_n 0 dX3_flawsOf_11 rfl rfl ?_
  refine gf_X3_9 dX3_flawsOf_12 ?_
  refine g_iload_n 1 dX3_flawsOf_15 rfl rfl ?_
  refine g_iald (n := 10) k dX3_flawsOf_16 (by decide) rfl hxn (by omega) ?_
  refine g_iconst 4 dX3_flawsOf_17 rfl ?_
  refine ca_X3_32 dX3_flawsOf_18 (t_X2_inForce (p := 4) hcl hnl rfl (by decide)) (by decide) (Nat.le_of_ble_eq_true rfl) ?_
  refine g_istN dX3_flawsOf_21 (by decide) rfl ?_
  refine g_aload_n 4 dX3_flawsOf_23 rfl rfl ?_
  refine g_aload_n 1 dX3_flawsOf_24 rfl rfl ?_
  refine gf_X3_21 dX3_flawsOf_25 ?_
  refine g_iload_n 2 dX3_flawsOf_28 rfl rfl ?_
  refine g_iald (n := 10) k dX3_flawsOf_29 (by decide) rfl hxn (by omega) ?_
  refine g_aload_n 1 dX3_flawsOf_30 rfl rfl ?_
  refine gf_X3_15 dX3_flawsOf_31 ?_
  refine g_iload_n 2 dX3_flawsOf_34 rfl rfl ?_
  refine g_iald (n := 10) k dX3_flawsOf_35 (by decide) rfl hxn (by omega) ?_
  refine g_iload 0 dX3_flawsOf_36 rfl ?_
  refine ca_X3_38 dX3_flawsOf_38 (t_X4_barsOn) (by decide) (Nat.le_of_ble_eq_true rfl) ?_
  refine g_iret dX3_flawsOf_41 rfl rfl ?_ ?_
  · rfl
  · rfl
set_option maxRecDepth 20000 in
theorem t_X3_dueBy {E : En} {w : W0} {ne k : Nat} {x : Int32} (hc : w 5 4 = nI ne) (hn : ne ≤ 10) (hk : k < ne) (hx : x = nI k) {day : Int32} : Mt E 1 yX3_dueBy cX3_dueBy 4 (some .int) [.ref (E.1 5), .int x, .int day] w (some (.int (dueF w k day))) w := by
  refine Mt.of (by decide +kernel) (Nat.le_of_ble_eq_true rfl) ?_
  show G E 1 RX3 cX3_dueBy 4 (some .int) _ _ 0 [(0, .ref (E.1 5)), (1, .int x), (2, .int day)] [] w
  have hxi : x.toInt = (k : Int) := by rw [hx]; exact nI_toInt (by omega)
  have hxn : x.toNatClampNeg = k := by rw [hx]; exact nI_clamp (by omega)
  have hcI : (w 5 4).toInt = (ne : Int) := by rw [hc]; exact nI_toInt (by omega)
  refine g_aload_n 0 dX3_dueBy_0 rfl rfl ?_
  refine g_iload_n 1 dX3_dueBy_1 rfl rfl ?_
  refine ca_X3_28 dX3_dueBy_2 (t_X3_has) (by decide) (Nat.le_of_ble_eq_true rfl) ?_
  refine g_if_eqb 18 dX3_dueBy_5 (by decide) (fun h5 => False.elim (by exact h5 (by omega))) (fun h5 => ?_)
  refine g_iload_n 2 dX3_dueBy_8 rfl rfl ?_
  refine g_aload_n 0 dX3_dueBy_9 rfl rfl ?_
  refine gf_X3_9 dX3_dueBy_10 ?_
  refine g_iload_n 1 dX3_dueBy_13 rfl rfl ?_
  refine g_iald (n := 10) k dX3_dueBy_14 (by decide) rfl hxn (by omega) ?_
  refine g_icmp_ge 20 _ _ dX3_dueBy_15 (by decide) rfl rfl (fun h15 => ?_) (fun h15 => ?_)
  · refine g_iload_n 2 dX3_dueBy_20 rfl rfl ?_
    refine g_aload_n 0 dX3_dueBy_21 rfl rfl ?_
    refine gf_X3_9 dX3_dueBy_22 ?_
    refine g_iload_n 1 dX3_dueBy_25 rfl rfl ?_
    refine g_iald (n := 10) k dX3_dueBy_26 (by decide) rfl hxn (by omega) ?_
    refine g_isub dX3_dueBy_27 ?_
    refine g_sipush 360 dX3_dueBy_28 rfl ?_
    refine g_idiv dX3_dueBy_31 (by decide) ?_
    refine g_iconst 1 dX3_dueBy_32 rfl ?_
    refine g_iadd dX3_dueBy_33 ?_
    refine g_istN_n dX3_dueBy_34 rfl (by decide) rfl ?_
    refine g_aload_n 1 dX3_dueBy_35 rfl rfl ?_
    refine gf_X3_18 dX3_dueBy_36 ?_
    refine g_iload_n 2 dX3_dueBy_39 rfl rfl ?_
    refine g_iald (n := 10) k dX3_dueBy_40 (by decide) rfl hxn (by omega) ?_
    refine g_iload_n 0 dX3_dueBy_41 rfl rfl ?_
    refine g_aload_n 1 dX3_dueBy_42 rfl rfl ?_
    refine gf_X3_15 dX3_dueBy_43 ?_
    refine g_iload_n 2 dX3_dueBy_46 rfl rfl ?_
    refine g_iald (n := 10) k dX3_dueBy_47 (by decide) rfl hxn (by omega) ?_
    refine g_mmin dX3_dueBy_48 (by decide) (Nat.le_of_ble_eq_true rfl) ?_
    refine g_imul dX3_dueBy_51 ?_
    refine g_iret dX3_dueBy_52 rfl rfl ?_ ?_
    · unfold dueF; first | (rw [if_pos h15]; done) | (rw [if_neg (by omega)]; done)
    · rfl
  · refine g_iconst 0 dX3_dueBy_18 rfl ?_
    refine g_iret dX3_dueBy_19 rfl rfl ?_ ?_
    · unfold dueF; first | (rw [if_pos h15]; done) | (rw [if_neg (by omega)]; done)
    · rfl

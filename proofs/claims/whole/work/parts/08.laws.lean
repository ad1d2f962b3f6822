/-! nextOf; Laws -/
def nextF (f : Nat → Int32) (a b : Int32) : Nat → Int32
  | 0 => b
  | k + 1 => if a.toInt < (f k).toInt ∧ (f k).toInt < (nextF f a b k).toInt then f k else nextF f a b k
theorem nextF_s (f : Nat → Int32) (a b : Int32) (k : Nat) : nextF f a b (k + 1) = if a.toInt < (f k).toInt ∧ (f k).toInt < (nextF f a b k).toInt then f k else nextF f a b k := rfl
def bestF (f : Nat → Int32) (day : Int32) : Nat → Int32
  | 0 => -1
  | k + 1 => if (f k).toInt ≤ day.toInt ∧ ((bestF f day k).toInt < 0 ∨ (f (bestF f day k).toNatClampNeg).toInt ≤ (f k).toInt) then nI k else bestF f day k
theorem bestF_s (f : Nat → Int32) (day : Int32) (k : Nat) : bestF f day (k + 1) = if (f k).toInt ≤ day.toInt ∧ ((bestF f day k).toInt < 0 ∨ (f (bestF f day k).toNatClampNeg).toInt ≤ (f k).toInt) then nI k else bestF f day k := rfl
theorem bestF_lt {f : Nat → Int32} {day : Int32} : ∀ (k : Nat), k < 1000 → -1 ≤ (bestF f day k).toInt ∧ (bestF f day k).toInt < k
  | 0, _ => by
    show -1 ≤ (-1 : Int32).toInt ∧ (-1 : Int32).toInt < ((0 : Nat) : Int)
    decide
  | k + 1, h => by
    have h1 := bestF_lt (f := f) (day := day) k (by omega)
    rw [bestF_s]
    split
    · rw [nI_toInt (by omega)]
      omega
    · omega
theorem nat_of_int {x : Int32} {n : Nat} (h : x.toInt = n) : x.toNatClampNeg = n := by
  show x.toInt.toNat = n
  rw [h]
  rfl
theorem nat_lt {x : Int32} {n : Nat} (h0 : 0 ≤ x.toInt) (h : x.toInt < n) : x.toNatClampNeg < n := by
  show x.toInt.toNat < n
  omega
def lpF (w : W0) (j i : Nat) : Int32 := if j < 8 then w (9 + j) i else 0
theorem lpF_in {w : W0} {j i : Nat} (h : j < 8) : lpF w j i = w (9 + j) i := if_pos h
theorem lpF_congr {w w' : W0} (h : ∀ q, 9 ≤ q → q ≤ 16 → w' q = w q) : lpF w' = lpF w := by
  funext j i
  unfold lpF
  split
  · rw [h _ (by omega) (by omega)]
  · rfl
/-- what is in force: the law told last of the greatest day not above, else the rule before any -/
def lawF (f : Nat → Int32) (lp : Nat → Nat → Int32) (nl : Nat) (day : Int32) (p : Nat) : Int32 := if (bestF f day nl).toInt < 0 then bef p else lp (bestF f day nl).toNatClampNeg p
def soonF (f : Nat → Int32) (lp : Nat → Nat → Int32) (nl : Nat) (born day first : Int32) : Int32 := if day.toInt < 0 ∨ first.toInt ≤ day.toInt then first else if (lawF f lp nl day 0 * 360).toInt ≤ (day - born).toInt then day else first
def faF (f : Nat → Int32) (lp : Nat → Nat → Int32) (nl : Nat) (born : Int32) : Nat → Int32
  | 0 => soonF f lp nl born (born + bef 0 * 360) (soonF f lp nl born 0 3600)
  | k + 1 => soonF f lp nl born (born + lp k 0 * 360) (soonF f lp nl born (f k) (faF f lp nl born k))
theorem faF_s (f : Nat → Int32) (lp : Nat → Nat → Int32) (nl : Nat) (born : Int32) (k : Nat) : faF f lp nl born (k + 1) = soonF f lp nl born (born + lp k 0 * 360) (soonF f lp nl born (f k) (faF f lp nl born k)) := rfl
def fullF (f : Nat → Int32) (lp : Nat → Nat → Int32) (nl : Nat) (born : Int32) : Int32 := if (faF f lp nl born nl).toInt < 3600 then faF f lp nl born nl else -6
set_option maxRecDepth 20000 in
theorem l_nextOf {E : En} {w : W0} {q c N : Nat} {a b : Int32} (hq : q < nP) (hs : sh q = (1, N)) (hN : N < 100) (hc : c ≤ N) : ∀ (n : Nat) (k : Nat) (z x : Int32), c + 1 ≤ k + n → k ≤ c → x = nI k → z = nextF (w q) a b k → G E 0 RX6 cX6_nextOf 6 (some .int) (some (.int (nextF (w q) a b c))) w 6 [(0, .ref (E.1 q)), (1, .int (nI c)), (2, .int a), (3, .int b), (4, .int z), (5, .int x)] [] w := by
  intro n
  induction n with
  | zero =>
    intro k z x hfu hk hx hz
    exact absurd hfu (by omega)
  | succ n ih =>
    intro k z x hfu hk hx hz
    have hxi : x.toInt = (k : Int) := by rw [hx]; exact nI_toInt (by omega)
    have hxn : x.toNatClampNeg = k := by rw [hx]; exact nI_clamp (by omega)
    have hcI : (nI c).toInt = (c : Int) := nI_toInt (by omega)
    refine g_iload 5 dX6_nextOf_6 rfl ?_
    refine g_iload_n 1 dX6_nextOf_8 rfl rfl ?_
    refine g_icmp_ge 48 (k : Int) (c : Int) dX6_nextOf_9 (by decide) hxi hcI (fun h9 => ?_) (fun h9 => ?_)
    · refine g_iload 4 dX6_nextOf_48 rfl ?_
      refine g_iret dX6_nextOf_50 rfl rfl ?_ ?_
      · rw [hz, show k = c by omega]
      · rfl
    · refine g_iload 5 dX6_nextOf_12 rfl ?_
      refine g_aload_n 0 dX6_nextOf_14 rfl rfl ?_
      refine g_alen (n := N) (nI N) dX6_nextOf_15 hq hs rfl ?_
      refine g_icmp_ge 48 (k : Int) _ dX6_nextOf_16 (by decide) hxi rfl (fun h16 => False.elim (by have : (nI N).toInt = (N : Int) := nI_toInt (by omega); omega)) (fun h16 => ?_)
      refine g_aload_n 0 dX6_nextOf_19 rfl rfl ?_
      refine g_iload 5 dX6_nextOf_20 rfl ?_
      refine g_iald (n := N) k dX6_nextOf_22 hq hs hxn (by omega) ?_
      refine g_iload_n 2 dX6_nextOf_23 rfl rfl ?_
      refine g_icmp_le 42 _ _ dX6_nextOf_24 (by decide) rfl rfl (fun h24 => ?_) (fun h24 => ?_)
      · refine g_iinc 1 [_, _, _, _, _] _ dX6_nextOf_42 rfl (by decide) rfl ?_
        refine g_goto 6 dX6_nextOf_45 (by decide) ?_
        exact ih (k + 1) _ _ (by omega) (by omega) (by rw [hx, nI_1]) (by rw [nextF_s, ← hz]; split <;> first | rfl | (exfalso; omega))
      · refine g_aload_n 0 dX6_nextOf_27 rfl rfl ?_
        refine g_iload 5 dX6_nextOf_28 rfl ?_
        refine g_iald (n := N) k dX6_nextOf_30 hq hs hxn (by omega) ?_
        refine g_iload 4 dX6_nextOf_31 rfl ?_
        refine g_icmp_ge 42 _ _ dX6_nextOf_33 (by decide) rfl rfl (fun h33 => ?_) (fun h33 => ?_)
        · refine g_iinc 1 [_, _, _, _, _] _ dX6_nextOf_42 rfl (by decide) rfl ?_
          refine g_goto 6 dX6_nextOf_45 (by decide) ?_
          exact ih (k + 1) _ _ (by omega) (by omega) (by rw [hx, nI_1]) (by rw [nextF_s, ← hz]; split <;> first | rfl | (exfalso; omega))
        · refine g_aload_n 0 dX6_nextOf_36 rfl rfl ?_
          refine g_iload 5 dX6_nextOf_37 rfl ?_
          refine g_iald (n := N) k dX6_nextOf_39 hq hs hxn (by omega) ?_
          refine g_ist [_, _, _, _] _ dX6_nextOf_40 (by decide) rfl ?_
          refine g_iinc 1 [_, _, _, _, _] _ dX6_nextOf_42 rfl (by decide) rfl ?_
          refine g_goto 6 dX6_nextOf_45 (by decide) ?_
          exact ih (k + 1) _ _ (by omega) (by omega) (by rw [hx, nI_1]) (by rw [nextF_s, ← hz]; split <;> first | rfl | (exfalso; omega))
set_option maxRecDepth 20000 in
theorem t_X6_nextOf {E : En} {w : W0} {q c N : Nat} {a b : Int32} (hq : q < nP) (hs : sh q = (1, N)) (hN : N < 100) (hc : c ≤ N) : Mt E 0 yX6_nextOf cX6_nextOf 6 (some .int) [.ref (E.1 q), .int (nI c), .int a, .int b] w (some (.int (nextF (w q) a b c))) w := by
  refine Mt.of (by decide +kernel) (Nat.le_of_ble_eq_true rfl) ?_
  show G E 0 RX6 cX6_nextOf 6 (some .int) _ _ 0 [(0, .ref (E.1 q)), (1, .int (nI c)), (2, .int a), (3, .int b)] [] w
  refine g_iload_n 3 dX6_nextOf_0 rfl rfl ?_
  refine g_istN dX6_nextOf_1 (by decide) rfl ?_
  refine g_iconst 0 dX6_nextOf_3 rfl ?_
  refine g_istN dX6_nextOf_4 (by decide) rfl ?_
  refine g_lv [2, 3, 4, 5, 1, 0] rfl ?_
  exact l_nextOf hq hs hN hc (c + 1) 0 _ _ (by omega) (by omega) rfl rfl
set_option maxRecDepth 20000 in
theorem l_inForce {E : En} {w : W0} {nl p : Nat} {day z : Int32} (hc : w 1 2 = nI nl) (hn : nl ≤ 8) (hz : z.toInt = (p : Int)) (hp : p < 5) : ∀ (n : Nat) (k : Nat) (v x : Int32), nl + 1 ≤ k + n → k ≤ nl → x = nI k → v = bestF (w 7) day k → G E 1 RX2 cX2_inForce 5 (some .int) (some (.int (lawF (w 7) (lpF w) nl day p))) w 16 [(0, .ref (E.1 1)), (1, .int day), (2, .int z), (3, .int v), (4, .int x)] [] w := by
  intro n
  induction n with
  | zero =>
    intro k v x hfu hk hx hv
    exact absurd hfu (by omega)
  | succ n ih =>
    intro k v x hfu hk hx hv
    have hxi : x.toInt = (k : Int) := by rw [hx]; exact nI_toInt (by omega)
    have hxn : x.toNatClampNeg = k := by rw [hx]; exact nI_clamp (by omega)
    have hcI : (w 1 2).toInt = (nl : Int) := by rw [hc]; exact nI_toInt (by omega)
    have hv2 := bestF_lt (f := w 7) (day := day) k (by omega)
    rw [← hv] at hv2
    refine g_iload 4 dX2_inForce_16 rfl ?_
    refine g_aload_n 0 dX2_inForce_18 rfl rfl ?_
    refine gf_X2_20 dX2_inForce_19 ?_
    refine g_icmp_ge 72 (k : Int) _ dX2_inForce_22 (by decide) hxi rfl (fun h22 => ?_) (fun h22 => ?_)
    · refine g_iload_n 3 dX2_inForce_72 rfl rfl ?_
      refine g_if_ge 84 _ dX2_inForce_73 (by decide) rfl (fun h73 => ?_) (fun h73 => ?_)
      · refine g_aload_n 0 dX2_inForce_84 rfl rfl ?_
        refine gf_X2_17 dX2_inForce_85 ?_
        refine g_iload_n 3 dX2_inForce_88 rfl rfl ?_
        refine g_aald (n := 8) (b := 9) _ dX2_inForce_89 (by decide) rfl rf_8 rfl (by omega) (fun hj89 => ?_)
        refine g_iload_n 2 dX2_inForce_90 rfl rfl ?_
        refine g_iald (n := 5) p dX2_inForce_91 (by show _ < 80; omega) (sh_9 hj89) (nat_of_int hz) (by omega) ?_
        refine g_iret dX2_inForce_92 rfl rfl ?_ ?_
        · rw [show k = nl by omega] at hv; rw [lawF, ← hv]; split <;> first | rfl | (rw [lpF_in (nat_lt (by omega) (by omega))]) | (exfalso; omega)
        · rfl
      · refine g_getsN dX2_inForce_76 lk_X2_28 ?_
        refine g_iload_n 2 dX2_inForce_79 rfl rfl ?_
        refine g_tld p dX2_inForce_80 (nat_of_int hz) (by omega) ?_
        refine g_goto 92 dX2_inForce_81 (by decide) ?_
        refine g_iret dX2_inForce_92 rfl rfl ?_ ?_
        · rw [show k = nl by omega] at hv; rw [lawF, ← hv]; split <;> first | rfl | (rw [lpF_in (nat_lt (by omega) (by omega))]) | (exfalso; omega)
        · rfl
    · refine g_iload 4 dX2_inForce_25 rfl ?_
      refine g_bipush 8 dX2_inForce_27 rfl ?_
      refine g_icmp_ge 72 (k : Int) 8 dX2_inForce_29 (by decide) hxi rfl (fun h29 => False.elim (by omega)) (fun h29 => ?_)
      refine g_aload_n 0 dX2_inForce_32 rfl rfl ?_
      refine gf_X2_9 dX2_inForce_33 ?_
      refine g_iload 4 dX2_inForce_36 rfl ?_
      refine g_iald (n := 8) k dX2_inForce_38 (by decide) rfl hxn (by omega) ?_
      refine g_iload_n 1 dX2_inForce_39 rfl rfl ?_
      refine g_icmp_gt 66 _ _ dX2_inForce_40 (by decide) rfl rfl (fun h40 => ?_) (fun h40 => ?_)
      · refine g_iinc 1 [_, _, _, _] _ dX2_inForce_66 rfl (by decide) rfl ?_
        refine g_goto 16 dX2_inForce_69 (by decide) ?_
        exact ih (k + 1) _ _ (by omega) (by omega) (by rw [hx, nI_1]) (by rw [bestF_s, ← hv]; split <;> first | rfl | exact hx | (exfalso; omega))
      · refine g_iload_n 3 dX2_inForce_43 rfl rfl ?_
        refine g_if_lt 63 _ dX2_inForce_44 (by decide) rfl (fun h44 => ?_) (fun h44 => ?_)
        · refine g_iload 4 dX2_inForce_63 rfl ?_
          refine g_ist_n [_, _, _] _ dX2_inForce_65 rfl (by decide) rfl ?_
          refine g_iinc 1 [_, _, _, _] _ dX2_inForce_66 rfl (by decide) rfl ?_
          refine g_goto 16 dX2_inForce_69 (by decide) ?_
          exact ih (k + 1) _ _ (by omega) (by omega) (by rw [hx, nI_1]) (by rw [bestF_s, ← hv]; split <;> first | rfl | exact hx | (exfalso; omega))
        · refine g_aload_n 0 dX2_inForce_47 rfl rfl ?_
          refine gf_X2_9 dX2_inForce_48 ?_
          refine g_iload 4 dX2_inForce_51 rfl ?_
          refine g_iald (n := 8) k dX2_inForce_53 (by decide) rfl hxn (by omega) ?_
          refine g_aload_n 0 dX2_inForce_54 rfl rfl ?_
          refine gf_X2_9 dX2_inForce_55 ?_
          refine g_iload_n 3 dX2_inForce_58 rfl rfl ?_
          refine g_iald (n := 8) _ dX2_inForce_59 (by decide) rfl rfl (by omega) ?_
          refine g_icmp_lt 66 _ _ dX2_inForce_60 (by decide) rfl rfl (fun h60 => ?_) (fun h60 => ?_)
          · refine g_iinc 1 [_, _, _, _] _ dX2_inForce_66 rfl (by decide) rfl ?_
            refine g_goto 16 dX2_inForce_69 (by decide) ?_
            exact ih (k + 1) _ _ (by omega) (by omega) (by rw [hx, nI_1]) (by rw [bestF_s, ← hv]; split <;> first | rfl | exact hx | (exfalso; omega))
          · refine g_iload 4 dX2_inForce_63 rfl ?_
            refine g_ist_n [_, _, _] _ dX2_inForce_65 rfl (by decide) rfl ?_
            refine g_iinc 1 [_, _, _, _] _ dX2_inForce_66 rfl (by decide) rfl ?_
            refine g_goto 16 dX2_inForce_69 (by decide) ?_
            exact ih (k + 1) _ _ (by omega) (by omega) (by rw [hx, nI_1]) (by rw [bestF_s, ← hv]; split <;> first | rfl | exact hx | (exfalso; omega))
set_option maxRecDepth 20000 in
theorem t_X2_inForce {E : En} {w : W0} {nl p : Nat} {day z : Int32} (hc : w 1 2 = nI nl) (hn : nl ≤ 8) (hz : z.toInt = (p : Int)) (hp : p < 5) : Mt E 1 yX2_inForce cX2_inForce 5 (some .int) [.ref (E.1 1), .int day, .int z] w (some (.int (lawF (w 7) (lpF w) nl day p))) w := by
  refine Mt.of (by decide +kernel) (Nat.le_of_ble_eq_true rfl) ?_
  show G E 1 RX2 cX2_inForce 5 (some .int) _ _ 0 [(0, .ref (E.1 1)), (1, .int day), (2, .int z)] [] w
  refine g_iload_n 2 dX2_inForce_0 rfl rfl ?_
  refine g_iconst 0 dX2_inForce_1 rfl ?_
  refine g_iconst 4 dX2_inForce_2 rfl ?_
  refine ca_X2_24 dX2_inForce_3 (t_X6_within 0 4 rfl rfl) (by decide) (Nat.le_of_ble_eq_true rfl) ?_
  refine g_if_neb 11 dX2_inForce_6 (by decide) (fun h6 => ?_) (fun h6 => False.elim (by omega))
  refine g_iconst (-1) dX2_inForce_11 rfl ?_
  refine g_istN_n dX2_inForce_12 rfl (by decide) rfl ?_
  refine g_iconst 0 dX2_inForce_13 rfl ?_
  refine g_istN dX2_inForce_14 (by decide) rfl ?_
  refine g_lv [2, 3, 4, 1, 0] rfl ?_
  exact l_inForce hc hn hz hp (nl + 1) 0 _ _ (by omega) (by omega) rfl rfl
set_option maxRecDepth 20000 in
theorem t_X2_sooner {E : En} {w : W0} {nl : Nat} {born day first : Int32} (hc : w 1 2 = nI nl) (hn : nl ≤ 8) : Mt E 2 yX2_sooner cX2_sooner 4 (some .int) [.ref (E.1 1), .int born, .int day, .int first] w (some (.int (soonF (w 7) (lpF w) nl born day first))) w := by
  refine Mt.of (by decide +kernel) (Nat.le_of_ble_eq_true rfl) ?_
  show G E 2 RX2 cX2_sooner 4 (some .int) _ _ 0 [(0, .ref (E.1 1)), (1, .int born), (2, .int day), (3, .int first)] [] w
  refine g_iload_n 2 dX2_sooner_0 rfl rfl ?_
  refine g_if_lt 9 _ dX2_sooner_1 (by decide) rfl (fun h1 => ?_) (fun h1 => ?_)
  · refine g_iload_n 3 dX2_sooner_9 rfl rfl ?_
    refine g_iret dX2_sooner_10 rfl rfl ?_ ?_
    · unfold soonF; (repeat' split) <;> first | rfl | (exfalso; omega)
    · rfl
  · refine g_iload_n 2 dX2_sooner_4 rfl rfl ?_
    refine g_iload_n 3 dX2_sooner_5 rfl rfl ?_
    refine g_icmp_lt 11 _ _ dX2_sooner_6 (by decide) rfl rfl (fun h6 => ?_) (fun h6 => ?_)
    · refine g_iload_n 2 dX2_sooner_11 rfl rfl ?_
      refine g_iload_n 1 dX2_sooner_12 rfl rfl ?_
      refine g_isub dX2_sooner_13 ?_
      refine g_aload_n 0 dX2_sooner_14 rfl rfl ?_
      refine g_iload_n 2 dX2_sooner_15 rfl rfl ?_
      refine g_iconst 0 dX2_sooner_16 rfl ?_
      refine ca_X2_35 dX2_sooner_17 (t_X2_inForce (p := 0) hc hn rfl (by decide)) (by decide) (Nat.le_of_ble_eq_true rfl) ?_
      refine g_sipush 360 dX2_sooner_20 rfl ?_
      refine g_imul dX2_sooner_23 ?_
      refine g_icmp_lt 31 _ _ dX2_sooner_24 (by decide) rfl rfl (fun h24 => ?_) (fun h24 => ?_)
      · refine g_iload_n 3 dX2_sooner_31 rfl rfl ?_
        refine g_iret dX2_sooner_32 rfl rfl ?_ ?_
        · unfold soonF; (repeat' split) <;> first | rfl | (exfalso; omega)
        · rfl
      · refine g_iload_n 2 dX2_sooner_27 rfl rfl ?_
        refine g_goto 32 dX2_sooner_28 (by decide) ?_
        refine g_iret dX2_sooner_32 rfl rfl ?_ ?_
        · unfold soonF; (repeat' split) <;> first | rfl | (exfalso; omega)
        · rfl
    · refine g_iload_n 3 dX2_sooner_9 rfl rfl ?_
      refine g_iret dX2_sooner_10 rfl rfl ?_ ?_
      · unfold soonF; (repeat' split) <;> first | rfl | (exfalso; omega)
      · rfl
set_option maxRecDepth 20000 in
theorem l_fullAgeDay {E : En} {w : W0} {nl : Nat} {born : Int32} (hc : w 1 2 = nI nl) (hn : nl ≤ 8) : ∀ (n : Nat) (k : Nat) (v x : Int32), nl + 1 ≤ k + n → k ≤ nl → x = nI k → v = faF (w 7) (lpF w) nl born k → G E 3 RX2 cX2_fullAgeDay 4 (some .int) (some (.int (fullF (w 7) (lpF w) nl born))) w 30 [(0, .ref (E.1 1)), (1, .int born), (2, .int v), (3, .int x)] [] w := by
  intro n
  induction n with
  | zero =>
    intro k v x hfu hk hx hv
    exact absurd hfu (by omega)
  | succ n ih =>
    intro k v x hfu hk hx hv
    have hxi : x.toInt = (k : Int) := by rw [hx]; exact nI_toInt (by omega)
    have hxn : x.toNatClampNeg = k := by rw [hx]; exact nI_clamp (by omega)
    have hcI : (w 1 2).toInt = (nl : Int) := by rw [hc]; exact nI_toInt (by omega)
    refine g_iload_n 3 dX2_fullAgeDay_30 rfl rfl ?_
    refine g_aload_n 0 dX2_fullAgeDay_31 rfl rfl ?_
    refine gf_X2_20 dX2_fullAgeDay_32 ?_
    refine g_icmp_ge 84 (k : Int) _ dX2_fullAgeDay_35 (by decide) hxi rfl (fun h35 => ?_) (fun h35 => ?_)
    · refine g_iload_n 2 dX2_fullAgeDay_84 rfl rfl ?_
      refine g_sipush 3600 dX2_fullAgeDay_85 rfl ?_
      refine g_icmp_ge 95 _ 3600 dX2_fullAgeDay_88 (by decide) rfl rfl (fun h88 => ?_) (fun h88 => ?_)
      · refine g_bipush (-6) dX2_fullAgeDay_95 rfl ?_
        refine g_iret dX2_fullAgeDay_97 rfl rfl ?_ ?_
        · rw [show k = nl by omega] at hv; rw [fullF, ← hv]; split <;> first | rfl | (exfalso; omega)
        · rfl
      · refine g_iload_n 2 dX2_fullAgeDay_91 rfl rfl ?_
        refine g_goto 97 dX2_fullAgeDay_92 (by decide) ?_
        refine g_iret dX2_fullAgeDay_97 rfl rfl ?_ ?_
        · rw [show k = nl by omega] at hv; rw [fullF, ← hv]; split <;> first | rfl | (exfalso; omega)
        · rfl
    · refine g_iload_n 3 dX2_fullAgeDay_38 rfl rfl ?_
      refine g_bipush 8 dX2_fullAgeDay_39 rfl ?_
      refine g_icmp_ge 84 (k : Int) 8 dX2_fullAgeDay_41 (by decide) hxi rfl (fun h41 => False.elim (by omega)) (fun h41 => ?_)
      refine g_aload_n 0 dX2_fullAgeDay_44 rfl rfl ?_
      refine g_iload_n 1 dX2_fullAgeDay_45 rfl rfl ?_
      refine g_aload_n 0 dX2_fullAgeDay_46 rfl rfl ?_
      refine gf_X2_9 dX2_fullAgeDay_47 ?_
      refine g_iload_n 3 dX2_fullAgeDay_50 rfl rfl ?_
      refine g_iald (n := 8) k dX2_fullAgeDay_51 (by decide) rfl hxn (by omega) ?_
      refine g_iload_n 2 dX2_fullAgeDay_52 rfl rfl ?_
      refine ca_X2_31 dX2_fullAgeDay_53 (t_X2_sooner hc hn) (by decide) (Nat.le_of_ble_eq_true rfl) ?_
      refine g_ist_n [_, _] _ dX2_fullAgeDay_56 rfl (by decide) rfl ?_
      refine g_aload_n 0 dX2_fullAgeDay_57 rfl rfl ?_
      refine g_iload_n 1 dX2_fullAgeDay_58 rfl rfl ?_
      refine g_iload_n 1 dX2_fullAgeDay_59 rfl rfl ?_
      refine g_aload_n 0 dX2_fullAgeDay_60 rfl rfl ?_
      refine gf_X2_17 dX2_fullAgeDay_61 ?_
      refine g_iload_n 3 dX2_fullAgeDay_64 rfl rfl ?_
      refine g_aald (n := 8) (b := 9) k dX2_fullAgeDay_65 (by decide) rfl rf_8 hxn (by omega) (fun hj65 => ?_)
      refine g_iconst 0 dX2_fullAgeDay_66 rfl ?_
      refine g_iald (n := 5) 0 dX2_fullAgeDay_67 (by show _ < 80; omega) (sh_9 hj65) rfl (by decide) ?_
      refine g_sipush 360 dX2_fullAgeDay_68 rfl ?_
      refine g_imul dX2_fullAgeDay_71 ?_
      refine g_iadd dX2_fullAgeDay_72 ?_
      refine g_iload_n 2 dX2_fullAgeDay_73 rfl rfl ?_
      refine ca_X2_31 dX2_fullAgeDay_74 (t_X2_sooner hc hn) (by decide) (Nat.le_of_ble_eq_true rfl) ?_
      refine g_ist_n [_, _] _ dX2_fullAgeDay_77 rfl (by decide) rfl ?_
      refine g_iinc 1 [_, _, _] _ dX2_fullAgeDay_78 rfl (by decide) rfl ?_
      refine g_goto 30 dX2_fullAgeDay_81 (by decide) ?_
      exact ih (k + 1) _ _ (by omega) (by omega) (by rw [hx, nI_1]) (by rw [faF_s, ← hv, lpF_in (by omega)])
set_option maxRecDepth 20000 in
theorem t_X2_fullAgeDay {E : En} {w : W0} {nl : Nat} {born : Int32} (hc : w 1 2 = nI nl) (hn : nl ≤ 8) : Mt E 3 yX2_fullAgeDay cX2_fullAgeDay 4 (some .int) [.ref (E.1 1), .int born] w (some (.int (fullF (w 7) (lpF w) nl born))) w := by
  refine Mt.of (by decide +kernel) (Nat.le_of_ble_eq_true rfl) ?_
  show G E 3 RX2 cX2_fullAgeDay 4 (some .int) _ _ 0 [(0, .ref (E.1 1)), (1, .int born)] [] w
  refine g_aload_n 0 dX2_fullAgeDay_0 rfl rfl ?_
  refine g_iload_n 1 dX2_fullAgeDay_1 rfl rfl ?_
  refine g_iconst 0 dX2_fullAgeDay_2 rfl ?_
  refine g_sipush 3600 dX2_fullAgeDay_3 rfl ?_
  refine ca_X2_31 dX2_fullAgeDay_6 (t_X2_sooner hc hn) (by decide) (Nat.le_of_ble_eq_true rfl) ?_
  refine g_istN_n dX2_fullAgeDay_9 rfl (by decide) rfl ?_
  refine g_aload_n 1 dX2_fullAgeDay_10 rfl rfl ?_
  refine g_iload_n 2 dX2_fullAgeDay_11 rfl rfl ?_
  refine g_iload_n 2 dX2_fullAgeDay_12 rfl rfl ?_
  refine g_getsN dX2_fullAgeDay_13 lk_X2_28 ?_
  refine g_iconst 0 dX2_fullAgeDay_16 rfl ?_
  refine g_tld 0 dX2_fullAgeDay_17 rfl (by decide) ?_
  refine g_sipush 360 dX2_fullAgeDay_18 rfl ?_
  refine g_imul dX2_fullAgeDay_21 ?_
  refine g_iadd dX2_fullAgeDay_22 ?_
  refine g_iload_n 0 dX2_fullAgeDay_23 rfl rfl ?_
  refine ca_X2_31 dX2_fullAgeDay_24 (t_X2_sooner hc hn) (by decide) (Nat.le_of_ble_eq_true rfl) ?_
  refine g_ist_n [] _ dX2_fullAgeDay_27 rfl (by decide) rfl ?_
  refine g_iconst 0 dX2_fullAgeDay_28 rfl ?_
  refine g_istN_n dX2_fullAgeDay_29 rfl (by decide) rfl ?_
  refine g_lv [2, 3, 1, 0] rfl ?_
  exact l_fullAgeDay hc hn (nl + 1) 0 _ _ (by omega) (by omega) rfl rfl
set_option maxRecDepth 20000 in
theorem t_X2_turnAfter {E : En} {w : W0} {nl : Nat} {a b : Int32} (hc : w 1 2 = nI nl) (hn : nl ≤ 8) : Mt E 1 yX2_turnAfter cX2_turnAfter 3 (some .int) [.ref (E.1 1), .int a, .int b] w (some (.int (nextF (w 7) a b nl))) w := by
  refine Mt.of (by decide +kernel) (Nat.le_of_ble_eq_true rfl) ?_
  show G E 1 RX2 cX2_turnAfter 3 (some .int) _ _ 0 [(0, .ref (E.1 1)), (1, .int a), (2, .int b)] [] w
  refine g_aload_n 0 dX2_turnAfter_0 rfl rfl ?_
  refine gf_X2_9 dX2_turnAfter_1 ?_
  refine g_aload_n 0 dX2_turnAfter_4 rfl rfl ?_
  refine gf_X2_20 dX2_turnAfter_5 ?_
  rw [hc]
  refine g_iload_n 1 dX2_turnAfter_8 rfl rfl ?_
  refine g_iload_n 2 dX2_turnAfter_9 rfl rfl ?_
  refine ca_X2_39 dX2_turnAfter_10 (t_X6_nextOf (q := 7) (N := 8) (by decide) rfl (by decide) (by omega)) (by decide) (Nat.le_of_ble_eq_true rfl) ?_
  refine g_iret dX2_turnAfter_13 rfl rfl ?_ ?_
  · rfl
  · rfl
set_option maxRecDepth 20000 in
theorem t_X2_add {E : En} {w : W0} {day a b c e f : Int32} {n : Nat} (hc : w 1 2 = nI n) (hn : n < 8) : Mt E 0 yX2_add cX2_add 7 (none) [.ref (E.1 1), .int day, .int a, .int b, .int c, .int e, .int f] w none (setW (setW (setW (setW (setW (setW (setW w 7 n day) (9 + n) 0 a) (9 + n) 1 b) (9 + n) 2 c) (9 + n) 3 e) (9 + n) 4 f) 1 2 (nI (n + 1))) := by
  refine Mt.of (by decide +kernel) (Nat.le_of_ble_eq_true rfl) ?_
  show G E 0 RX2 cX2_add 7 (none) _ _ 0 [(0, .ref (E.1 1)), (1, .int day), (2, .int a), (3, .int b), (4, .int c), (5, .int e), (6, .int f)] [] w
  have hi : (w 1 2).toInt = (n : Int) := by rw [hc]; exact nI_toInt (by omega)
  have hx : (w 1 2).toNatClampNeg = n := by rw [hc]; exact nI_clamp (by omega)
  refine g_aload_n 0 dX2_add_0 rfl rfl ?_
  refine gf_X2_20 dX2_add_1 ?_
  refine g_bipush 8 dX2_add_4 rfl ?_
  refine g_icmp_lt 10 _ 8 dX2_add_6 (by decide) rfl rfl (fun h6 => ?_) (fun h6 => False.elim (by omega))
  refine g_aload_n 0 dX2_add_10 rfl rfl ?_
  refine gf_X2_9 dX2_add_11 ?_
  refine g_aload_n 0 dX2_add_14 rfl rfl ?_
  refine gf_X2_20 dX2_add_15 ?_
  refine g_iload_n 1 dX2_add_18 rfl rfl ?_
  refine g_iast (n := 8) n dX2_add_19 (by decide) rfl hx (by omega) ?_
  refine g_aload_n 0 dX2_add_20 rfl rfl ?_
  refine gf_X2_17 dX2_add_21 ?_
  refine g_aload_n 0 dX2_add_24 rfl rfl ?_
  refine gf_X2_20 dX2_add_25 ?_
  simp (disch := omega) only [setW_ne]
  refine g_aald (n := 8) (b := 9) n dX2_add_28 (by decide) rfl rf_8 hx (by omega) (fun hj28 => ?_)
  refine g_iconst 0 dX2_add_29 rfl ?_
  refine g_iload_n 2 dX2_add_30 rfl rfl ?_
  refine g_iast (n := 5) 0 dX2_add_31 (by show _ < 80; omega) (sh_9 hj28) rfl (by decide) ?_
  refine g_aload_n 0 dX2_add_32 rfl rfl ?_
  refine gf_X2_17 dX2_add_33 ?_
  refine g_aload_n 0 dX2_add_36 rfl rfl ?_
  refine gf_X2_20 dX2_add_37 ?_
  simp (disch := omega) only [setW_ne]
  refine g_aald (n := 8) (b := 9) n dX2_add_40 (by decide) rfl rf_8 hx (by omega) (fun hj40 => ?_)
  refine g_iconst 1 dX2_add_41 rfl ?_
  refine g_iload_n 3 dX2_add_42 rfl rfl ?_
  refine g_iast (n := 5) 1 dX2_add_43 (by show _ < 80; omega) (sh_9 hj40) rfl (by decide) ?_
  refine g_aload_n 0 dX2_add_44 rfl rfl ?_
  refine gf_X2_17 dX2_add_45 ?_
  refine g_aload_n 0 dX2_add_48 rfl rfl ?_
  refine gf_X2_20 dX2_add_49 ?_
  simp (disch := omega) only [setW_ne]
  refine g_aald (n := 8) (b := 9) n dX2_add_52 (by decide) rfl rf_8 hx (by omega) (fun hj52 => ?_)
  refine g_iconst 2 dX2_add_53 rfl ?_
  refine g_iload 4 dX2_add_54 rfl ?_
  refine g_iast (n := 5) 2 dX2_add_56 (by show _ < 80; omega) (sh_9 hj52) rfl (by decide) ?_
  refine g_aload_n 0 dX2_add_57 rfl rfl ?_
  refine gf_X2_17 dX2_add_58 ?_
  refine g_aload_n 0 dX2_add_61 rfl rfl ?_
  refine gf_X2_20 dX2_add_62 ?_
  simp (disch := omega) only [setW_ne]
  refine g_aald (n := 8) (b := 9) n dX2_add_65 (by decide) rfl rf_8 hx (by omega) (fun hj65 => ?_)
  refine g_iconst 3 dX2_add_66 rfl ?_
  refine g_iload 5 dX2_add_67 rfl ?_
  refine g_iast (n := 5) 3 dX2_add_69 (by show _ < 80; omega) (sh_9 hj65) rfl (by decide) ?_
  refine g_aload_n 0 dX2_add_70 rfl rfl ?_
  refine gf_X2_17 dX2_add_71 ?_
  refine g_aload_n 0 dX2_add_74 rfl rfl ?_
  refine gf_X2_20 dX2_add_75 ?_
  simp (disch := omega) only [setW_ne]
  refine g_aald (n := 8) (b := 9) n dX2_add_78 (by decide) rfl rf_8 hx (by omega) (fun hj78 => ?_)
  refine g_iconst 4 dX2_add_79 rfl ?_
  refine g_iload 6 dX2_add_80 rfl ?_
  refine g_iast (n := 5) 4 dX2_add_82 (by show _ < 80; omega) (sh_9 hj78) rfl (by decide) ?_
  refine g_aload_n 0 dX2_add_83 rfl rfl ?_
  refine g_dup dX2_add_84 rfl ?_
  refine gf_X2_20 dX2_add_85 ?_
  simp (disch := omega) only [setW_ne]
  refine g_iconst 1 dX2_add_88 rfl ?_
  refine g_iadd dX2_add_89 ?_
  refine pf_X2_20 dX2_add_90 ?_
  refine g_vret dX2_add_93 rfl rfl ?_
  · rw [hc, nI_1]

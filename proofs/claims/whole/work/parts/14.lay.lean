/-! WardCourtModel: lay, and what stands on it -/
theorem setA_same (w : W0) (p : Nat) (f g : Nat → Int32) : setA (setA w p f) p g = setA w p g := by
  funext a
  unfold setA
  by_cases h : a = p <;> simp [h]
theorem setA_in {w : W0} {p q : Nat} {f g : Nat → Int32} (h : q < p) : setA (setA w p f) q g = setA (setA w q g) p f := by
  funext a
  unfold setA
  by_cases h1 : a = p
  · subst h1
    simp [show ¬ a = q by omega]
  · by_cases h2 : a = q <;> simp [h1, h2, show ¬ q = p by omega]
theorem upd_upd (f : Nat → Int32) (k : Nat) (x y : Int32) : upd (upd f k x) k y = upd f k y := by
  funext j
  unfold upd
  by_cases h : j = k <;> simp [h]
theorem upd_same {f : Nat → Int32} {k : Nat} {x : Int32} (h : f k = x) : upd f k x = f := by
  funext j
  unfold upd
  by_cases hj : j = k
  · subst hj
    simp [h]
  · simp [hj]
theorem nI_rng {n N : Nat} (h : n < N) (hN : N < 10000) : 0 ≤ (nI n).toInt ∧ (nI n).toInt < N := by
  rw [nI_toInt (by omega)]
  omega
theorem barM_setA {w : W0} {nl p : Nat} {f : Nat → Int32} (h : 69 < p) : barM (setA w p f) nl = barM w nl := by
  funext k
  unfold barM
  simp (disch := omega) only [setA_ne]
/-- the first day, below d, on which a ward born on b is of full age (-6: none) -/
def fdM (f g : Nat → Int32) (nl : Nat) (b : Int32) : Nat → Int32
  | 0 => -6
  | d + 1 => if fdM f g nl b d = -6 then (if (360 * lawM f g nl (nI d) 0).toInt ≤ (nI d - b).toInt then nI d else -6) else fdM f g nl b d
theorem fdM_s (f g : Nat → Int32) (nl : Nat) (b : Int32) (d : Nat) : fdM f g nl b (d + 1) = if fdM f g nl b d = -6 then (if (360 * lawM f g nl (nI d) 0).toInt ≤ (nI d - b).toInt then nI d else -6) else fdM f g nl b d := rfl
theorem fdM_stay {f g : Nat → Int32} {nl : Nat} {b : Int32} {d : Nat} (h : ¬ fdM f g nl b d = -6) : ∀ e, fdM f g nl b (d + e) = fdM f g nl b d
  | 0 => rfl
  | e + 1 => by
    rw [← Nat.add_assoc, fdM_s, fdM_stay h e, if_neg h]
theorem fdM_end {f g : Nat → Int32} {nl : Nat} {b : Int32} {d : Nat} (hd : d ≤ 3600) (h : ¬ fdM f g nl b d = -6) : fdM f g nl b 3600 = fdM f g nl b d := by
  have z := fdM_stay h (3600 - d)
  rwa [show d + (3600 - d) = 3600 by omega] at z
theorem hdM_nI {bo di gd : Nat → Int32} {day z : Int32} : ∀ n : Nat, ∃ c : Nat, c ≤ n ∧ hdM bo di gd day z n = nI c ∧ ∀ k, k < n → livesF bo di k day → gd k = -6 → 1 ≤ c
  | 0 => ⟨0, Nat.le_refl 0, rfl, fun k hk => absurd hk (Nat.not_lt_zero k)⟩
  | n + 1 => by
    obtain ⟨c, h1, h2, h3⟩ := hdM_nI (bo := bo) (di := di) (gd := gd) (day := day) (z := z) n
    rw [hdM_s]
    split
    · exact ⟨c + 1, by omega, by rw [h2, nI_1], fun _ _ _ _ => by omega⟩
    · next hn =>
      refine ⟨c, by omega, h2, fun k hk hl hg => ?_⟩
      rcases Nat.lt_or_ge k n with q | q
      · exact h3 k q hl hg
      · have e : k = n := by omega
        subst e
        exact absurd ⟨hl, fun q => q.1 hg⟩ hn
theorem hdM_pos {bo di gd : Nat → Int32} {day z : Int32} {n k : Nat} (hn : n ≤ 6) (hk : k < n) (hl : livesF bo di k day) (hg : gd k = -6) : ¬ hdM bo di gd day z n = 0 := by
  obtain ⟨c, h1, h2, h3⟩ := hdM_nI (bo := bo) (di := di) (gd := gd) (day := day) (z := z) n
  have h4 := h3 k hk hl hg
  rw [h2]
  intro e
  have := (nI_eq (a := c) (b := 0) (by omega) (by omega)).mp e
  omega
set_option maxRecDepth 20000 in
theorem l_fd {E : En} {w : W0} {nl K : Nat} {y : Int32} {rv : Option Value} {w1 : W0} (hcl : w 57 0 = nI nl) (hnl : nl ≤ 8) (hK : K < 6) (hy : y = nI K) (kk : G E 2 RX7 cX7_layFullDays 3 none rv w1 92 [(0, .ref (E.1 57)), (1, .int y)] [] (setA w 77 (upd (w 77) K ((fdM (w 58) (w 59) nl (w 60 K)) 3600)))) : ∀ (n : Nat) (k : Nat) (x : Int32), 3600 + 1 ≤ k + n → k ≤ 3600 → x = nI k → G E 2 RX7 cX7_layFullDays 3 (none) rv w1 35 [(0, .ref (E.1 57)), (1, .int y), (2, .int x)] [] (setA w 77 (upd (w 77) K ((fdM (w 58) (w 59) nl (w 60 K)) k))) := by
  intro n
  induction n with
  | zero =>
    intro k x hfu hk hx
    exact absurd hfu (by omega)
  | succ n ih =>
    intro k x hfu hk hx
    have hxi : x.toInt = (k : Int) := by rw [hx]; exact nI_toInt (by omega)
    have hxn : x.toNatClampNeg = k := by rw [hx]; exact nI_clamp (by omega)
    have hyn : y.toNatClampNeg = K := by rw [hy]; exact nI_clamp (by omega)
    have hyi : y.toInt = (K : Int) := by rw [hy]; exact nI_toInt (by omega)
    refine g_iload_n 2 dX7_layFullDays_35 rfl rfl ?_
    refine g_sipush 3600 dX7_layFullDays_36 rfl ?_
    refine g_icmp_ge 92 (k : Int) 3600 dX7_layFullDays_39 (by decide) hxi rfl (fun h39 => ?_) (fun h39 => ?_)
    · refine g_lv [0, 1] rfl ?_
      first | (rw [show k = 3600 by omega]; exact kk) | (rw [fdM_end (by omega) h50] at kk; exact kk)
    · refine g_aload_n 0 dX7_layFullDays_42 rfl rfl ?_
      refine gf_X7_68 dX7_layFullDays_43 ?_
      refine g_iload_n 1 dX7_layFullDays_46 rfl rfl ?_
      refine g_iald (n := 6) K dX7_layFullDays_47 (by decide) rfl hyn (by omega) ?_
      (try simp (disch := omega) only [setW_ne, setW_p, setA_ne, setA_p, upd_self, upd_ne, barM_setA])
      refine g_bipush (-6) dX7_layFullDays_48 rfl ?_
      refine g_icmp_ne 92 dX7_layFullDays_50 (by decide) (fun h50 => ?_) (fun h50 => ?_)
      · refine g_lv [0, 1] rfl ?_
        first | (rw [show k = 3600 by omega]; exact kk) | (rw [fdM_end (by omega) h50] at kk; exact kk)
      · refine g_aload_n 0 dX7_layFullDays_53 rfl rfl ?_
        refine gf_X7_68 dX7_layFullDays_54 ?_
        refine g_iload_n 1 dX7_layFullDays_57 rfl rfl ?_
        refine g_iload_n 2 dX7_layFullDays_58 rfl rfl ?_
        refine g_aload_n 0 dX7_layFullDays_59 rfl rfl ?_
        refine gf_X7_16 dX7_layFullDays_60 ?_
        refine g_iload_n 1 dX7_layFullDays_63 rfl rfl ?_
        refine g_iald (n := 6) K dX7_layFullDays_64 (by decide) rfl hyn (by omega) ?_
        (try simp (disch := omega) only [setW_ne, setW_p, setA_ne, setA_p, upd_self, upd_ne, barM_setA])
        refine g_isub dX7_layFullDays_65 ?_
        refine g_sipush 360 dX7_layFullDays_66 rfl ?_
        refine g_aload_n 0 dX7_layFullDays_69 rfl rfl ?_
        refine g_iload_n 2 dX7_layFullDays_70 rfl rfl ?_
        refine g_iconst 0 dX7_layFullDays_71 rfl ?_
        refine ca_X7_97 dX7_layFullDays_72 (t_X7_inForce (p := 0) (nl := nl) (by (try simp (disch := omega) only [setW_ne, setA_ne, upd_ne]); exact hcl) hnl rfl (by decide)) (by decide) (Nat.le_of_ble_eq_true rfl) ?_
        (try simp (disch := omega) only [setW_ne, setW_p, setA_ne, setA_p, upd_self, upd_ne, barM_setA])
        refine g_imul dX7_layFullDays_75 ?_
        refine g_icmp_lt 83 _ _ dX7_layFullDays_76 (by decide) rfl rfl (fun h76 => ?_) (fun h76 => ?_)
        · refine g_bipush (-6) dX7_layFullDays_83 rfl ?_
          refine g_iast (n := 6) K dX7_layFullDays_85 (by decide) rfl hyn (by omega) ?_
          (try simp (disch := omega) only [setW_setA, setW_setA_ne])
          rw [upd_upd]
          refine g_iinc 1 [_, _] _ dX7_layFullDays_86 rfl (by decide) rfl ?_
          refine g_goto 35 dX7_layFullDays_89 (by decide) ?_
          have hh := ih (k + 1) (x + 1) (by omega) (by omega) (by rw [hx, nI_1])
          rw [fdM_s, if_pos h50] at hh
          rw [hx] at h76
          first | (rw [if_pos h76] at hh; rw [hx] at hh ⊢; exact hh) | (rw [if_neg (by omega)] at hh; exact hh)
        · refine g_iload_n 2 dX7_layFullDays_79 rfl rfl ?_
          refine g_goto 85 dX7_layFullDays_80 (by decide) ?_
          refine g_iast (n := 6) K dX7_layFullDays_85 (by decide) rfl hyn (by omega) ?_
          (try simp (disch := omega) only [setW_setA, setW_setA_ne])
          rw [upd_upd]
          refine g_iinc 1 [_, _] _ dX7_layFullDays_86 rfl (by decide) rfl ?_
          refine g_goto 35 dX7_layFullDays_89 (by decide) ?_
          have hh := ih (k + 1) (x + 1) (by omega) (by omega) (by rw [hx, nI_1])
          rw [fdM_s, if_pos h50] at hh
          rw [hx] at h76
          first | (rw [if_pos h76] at hh; rw [hx] at hh ⊢; exact hh) | (rw [if_neg (by omega)] at hh; exact hh)
theorem l_fd0 {E : En} {w : W0} {nl K : Nat} {y : Int32} {rv : Option Value} {w1 : W0} (hcl : w 57 0 = nI nl) (hnl : nl ≤ 8) (hK : K < 6) (hy : y = nI K) (h0 : w 77 K = -6) (kk : G E 2 RX7 cX7_layFullDays 3 none rv w1 92 [(0, .ref (E.1 57)), (1, .int y)] [] (setA w 77 (upd (w 77) K ((fdM (w 58) (w 59) nl (w 60 K)) 3600)))) : G E 2 RX7 cX7_layFullDays 3 none rv w1 35 [(0, .ref (E.1 57)), (1, .int y), (2, .int 0)] [] w := by
  have h := l_fd hcl hnl hK hy kk 3601 0 0 (by omega) (by omega) rfl
  rw [show fdM (w 58) (w 59) nl (w 60 K) 0 = -6 from rfl, upd_same h0, setA_self] at h
  exact h
def fdA (w : W0) (nl j : Nat) : Int32 := fdM (w 58) (w 59) nl (w 60 j) 3600
def fullMW (w : W0) (nl nw : Nat) : W0 := setA (setA (setA w 77 (fillF (fdA w nl) (w 77) nw)) 78 (fillF (fun _ => -6) (w 78) nw)) 79 (fillF (fun _ => 0) (w 79) nw)
theorem fullMW_0 (w : W0) (nl : Nat) : fullMW w nl 0 = w := by
  unfold fullMW
  rw [fillF_0, fillF_0, fillF_0, setA_self, setA_self, setA_self]
set_option maxRecDepth 20000 in
theorem l_layFullDays {E : En} {w : W0} {nl nw : Nat} (hcl : w 57 0 = nI nl) (hnl : nl ≤ 8) (hcw : w 57 3 = nI nw) (hnw : nw ≤ 6) : ∀ (n : Nat) (k : Nat) (x : Int32), nw + 1 ≤ k + n → k ≤ nw → x = nI k → G E 2 RX7 cX7_layFullDays 3 (none) none (fullMW w nl nw) 2 [(0, .ref (E.1 57)), (1, .int x)] [] (fullMW w nl k) := by
  intro n
  induction n with
  | zero =>
    intro k x hfu hk hx
    exact absurd hfu (by omega)
  | succ n ih =>
    intro k x hfu hk hx
    have hxi : x.toInt = (k : Int) := by rw [hx]; exact nI_toInt (by omega)
    have hxn : x.toNatClampNeg = k := by rw [hx]; exact nI_clamp (by omega)
    have hcwI : (w 57 3).toInt = (nw : Int) := by rw [hcw]; exact nI_toInt (by omega)
    unfold fullMW
    refine g_iload_n 1 dX7_layFullDays_2 rfl rfl ?_
    refine g_aload_n 0 dX7_layFullDays_3 rfl rfl ?_
    refine gf_X7_101 dX7_layFullDays_4 ?_
    (try simp (disch := omega) only [setW_ne, setW_p, setA_ne, setA_p, upd_self, upd_ne, barM_setA])
    refine g_icmp_ge 98 (k : Int) _ dX7_layFullDays_7 (by decide) hxi rfl (fun h7 => ?_) (fun h7 => ?_)
    · refine g_vret dX7_layFullDays_98 rfl rfl ?_
      · rw [show k = nw by omega]
    · refine g_aload_n 0 dX7_layFullDays_10 rfl rfl ?_
      refine gf_X7_68 dX7_layFullDays_11 ?_
      refine g_iload_n 1 dX7_layFullDays_14 rfl rfl ?_
      refine g_bipush (-6) dX7_layFullDays_15 rfl ?_
      refine g_iast (n := 6) k dX7_layFullDays_17 (by decide) rfl hxn (by omega) ?_
      (try simp (disch := omega) only [setW_setA, setW_setA_ne])
      refine g_aload_n 0 dX7_layFullDays_18 rfl rfl ?_
      refine gf_X7_71 dX7_layFullDays_19 ?_
      refine g_iload_n 1 dX7_layFullDays_22 rfl rfl ?_
      refine g_bipush (-6) dX7_layFullDays_23 rfl ?_
      refine g_iast (n := 6) k dX7_layFullDays_25 (by decide) rfl hxn (by omega) ?_
      (try simp (disch := omega) only [setW_setA, setW_setA_ne])
      refine g_aload_n 0 dX7_layFullDays_26 rfl rfl ?_
      refine gf_X7_74 dX7_layFullDays_27 ?_
      refine g_iload_n 1 dX7_layFullDays_30 rfl rfl ?_
      refine g_iconst 0 dX7_layFullDays_31 rfl ?_
      refine g_iast (n := 6) k dX7_layFullDays_32 (by decide) rfl hxn (by omega) ?_
      (try simp (disch := omega) only [setW_setA, setW_setA_ne])
      refine g_iconst 0 dX7_layFullDays_33 rfl ?_
      refine g_istN_n dX7_layFullDays_34 rfl (by decide) rfl ?_
      refine g_lv [1, 2, 0] rfl ?_
      refine l_fd0 (nl := nl) (K := k) (by (try simp (disch := omega) only [setW_ne, setA_ne, upd_ne]); exact hcl) hnl (by omega) hx (by simp (disch := omega) only [setA_ne, setA_p, upd_self]) ?_
      simp (disch := omega) only [setA_ne, setA_p, setA_in, setA_same, upd_upd]
      refine g_iinc 1 [_] _ dX7_layFullDays_92 rfl (by decide) rfl ?_
      refine g_goto 2 dX7_layFullDays_95 (by decide) ?_
      have hh := ih (k + 1) (x + 1) (by omega) (by omega) (by rw [hx, nI_1])
      unfold fullMW at hh
      rw [← fillF_s (fdA w nl), ← fillF_s (fun _ => (-6 : Int32)), ← fillF_s (fun _ => (0 : Int32))] at hh
      exact hh
set_option maxRecDepth 20000 in
theorem t_X7_layFullDays {E : En} {w : W0} {nl nw : Nat} (hcl : w 57 0 = nI nl) (hnl : nl ≤ 8) (hcw : w 57 3 = nI nw) (hnw : nw ≤ 6) : Mt E 2 yX7_layFullDays cX7_layFullDays 3 (none) [.ref (E.1 57)] w none (fullMW w nl nw) := by
  refine Mt.of (by decide +kernel) (Nat.le_of_ble_eq_true rfl) ?_
  show G E 2 RX7 cX7_layFullDays 3 (none) _ _ 0 [(0, .ref (E.1 57))] [] w
  refine g_iconst 0 dX7_layFullDays_0 rfl ?_
  refine g_istN_n dX7_layFullDays_1 rfl (by decide) rfl ?_
  refine g_lv [1, 0] rfl ?_
  have hl := l_layFullDays (E := E) hcl hnl hcw hnw (nw + 1) 0 _ (by omega) (by omega) rfl
  rw [fullMW_0] at hl
  exact hl
def kF (a : Nat) (p : Int32) (ac : Nat → Int32) : Nat → Nat → Int32
  | 0 => ac
  | k + 1 => upd (kF a p ac k) (a + k) (if k = 0 then p else 0)
theorem kF_s (a : Nat) (p : Int32) (ac : Nat → Int32) (k : Nat) : kF a p ac (k + 1) = upd (kF a p ac k) (a + k) (if k = 0 then p else 0) := rfl
def itF (w : W0) (nl : Nat) (day : Int32) (a : Nat) (s : (Nat → Int32) × Int32) : Nat → (Nat → Int32) × Int32
  | 0 => s
  | k + 1 => if w 65 k = day ∧ barM w nl k = 0 then (if w 64 k = 0 then (upd (itF w nl day a s k).1 (a + 1) ((itF w nl day a s k).1 (a + 1) + w 66 k), (itF w nl day a s k).2 + w 66 k) else (upd (itF w nl day a s k).1 (a + 2) ((itF w nl day a s k).1 (a + 2) + w 66 k), (itF w nl day a s k).2 + -(w 66 k))) else itF w nl day a s k
theorem itF_s (w : W0) (nl : Nat) (day : Int32) (a : Nat) (s : (Nat → Int32) × Int32) (k : Nat) : itF w nl day a s (k + 1) = if w 65 k = day ∧ barM w nl k = 0 then (if w 64 k = 0 then (upd (itF w nl day a s k).1 (a + 1) ((itF w nl day a s k).1 (a + 1) + w 66 k), (itF w nl day a s k).2 + w 66 k) else (upd (itF w nl day a s k).1 (a + 2) ((itF w nl day a s k).1 (a + 2) + w 66 k), (itF w nl day a s k).2 + -(w 66 k))) else itF w nl day a s k := rfl
/-- shares, days given over, account, pot -/
abbrev WS : Type := (Nat → Int32) × (Nat → Int32) × (Nat → Int32) × Int32
def getM (w : W0) (nw : Nat) (day : Int32) (gd : Nat → Int32) (p : Int32) : Int32 := if 0 < p.toInt then p / hdM (w 60) (w 61) gd day 0 nw else 0
def wdF (w : W0) (nw : Nat) (day : Int32) (a : Nat) (s : WS) : Nat → WS
  | 0 => s
  | k + 1 => if (¬ w 77 k = -6 ∧ (w 77 k).toInt ≤ day.toInt) ∧ (wdF w nw day a s k).2.1 k = -6 ∧ livesF (w 60) (w 61) k day then (upd (wdF w nw day a s k).1 k (getM w nw day (wdF w nw day a s k).2.1 (wdF w nw day a s k).2.2.2), upd (wdF w nw day a s k).2.1 k day, upd (wdF w nw day a s k).2.2.1 (a + 3) ((wdF w nw day a s k).2.2.1 (a + 3) + getM w nw day (wdF w nw day a s k).2.1 (wdF w nw day a s k).2.2.2), (wdF w nw day a s k).2.2.2 - getM w nw day (wdF w nw day a s k).2.1 (wdF w nw day a s k).2.2.2) else wdF w nw day a s k
theorem wdF_s (w : W0) (nw : Nat) (day : Int32) (a : Nat) (s : WS) (k : Nat) : wdF w nw day a s (k + 1) = if (¬ w 77 k = -6 ∧ (w 77 k).toInt ≤ day.toInt) ∧ (wdF w nw day a s k).2.1 k = -6 ∧ livesF (w 60) (w 61) k day then (upd (wdF w nw day a s k).1 k (getM w nw day (wdF w nw day a s k).2.1 (wdF w nw day a s k).2.2.2), upd (wdF w nw day a s k).2.1 k day, upd (wdF w nw day a s k).2.2.1 (a + 3) ((wdF w nw day a s k).2.2.1 (a + 3) + getM w nw day (wdF w nw day a s k).2.1 (wdF w nw day a s k).2.2.2), (wdF w nw day a s k).2.2.2 - getM w nw day (wdF w nw day a s k).2.1 (wdF w nw day a s k).2.2.2) else wdF w nw day a s k := rfl
set_option maxRecDepth 20000 in
theorem l_layK {E : En} {w : W0} {a : Nat} {p day : Int32} {idl : Int64} {rv : Option Value} {w1 : W0} (ha : a ≤ 54) (kk : G E 3 RX7 cX7_lay 8 none rv w1 90 [(0, .ref (E.1 57)), (1, .int p), (2, .long idl), (4, .int day), (5, .int (nI a))] [] (setA w 76 (kF a p (w 76) 6))) : ∀ (n : Nat) (k : Nat) (x : Int32), 6 + 1 ≤ k + n → k ≤ 6 → x = nI k → G E 3 RX7 cX7_lay 8 (none) rv w1 57 [(0, .ref (E.1 57)), (1, .int p), (2, .long idl), (4, .int day), (5, .int (nI a)), (6, .int x)] [] (setA w 76 (kF a p (w 76) k)) := by
  intro n
  induction n with
  | zero =>
    intro k x hfu hk hx
    exact absurd hfu (by omega)
  | succ n ih =>
    intro k x hfu hk hx
    have hxi : x.toInt = (k : Int) := by rw [hx]; exact nI_toInt (by omega)
    have hxn : x.toNatClampNeg = k := by rw [hx]; exact nI_clamp (by omega)
    have hai : (nI a + x).toInt = ((a + k : Nat) : Int) := by rw [hx, nI_add]; exact nI_toInt (by omega)
    refine g_iload 5 dX7_lay_57 rfl ?_
    refine g_bipush 6 dX7_lay_59 rfl ?_
    refine g_icmp_ge 90 (k : Int) 6 dX7_lay_61 (by decide) hxi rfl (fun h61 => ?_) (fun h61 => ?_)
    · refine g_lv [0, 1, 2, 3, 4] rfl ?_
      rw [show k = 6 by omega]; exact kk
    · refine g_aload_n 0 dX7_lay_64 rfl rfl ?_
      refine gf_X7_65 dX7_lay_65 ?_
      refine g_iload 4 dX7_lay_68 rfl ?_
      refine g_iload 5 dX7_lay_70 rfl ?_
      refine g_iadd dX7_lay_72 ?_
      refine g_iload 5 dX7_lay_73 rfl ?_
      refine g_if_ne 82 dX7_lay_75 (by decide) (fun h75 => ?_) (fun h75 => ?_)
      · refine g_iconst 0 dX7_lay_82 rfl ?_
        refine g_iast (n := 60) (a + k) dX7_lay_83 (by decide) rfl (by rw [hx, nI_add]; exact nI_clamp (by omega)) (by omega) ?_
        (try simp (disch := omega) only [setW_setA, setW_setA_ne])
        refine g_iinc 1 [_, _, _, _, _] _ dX7_lay_84 rfl (by decide) rfl ?_
        refine g_goto 57 dX7_lay_87 (by decide) ?_
        have hh := ih (k + 1) (x + 1) (by omega) (by omega) (by rw [hx, nI_1])
        rw [kF_s] at hh
        first | (rw [if_pos (eqN (m := 0) hx rfl (by omega) (by decide) h75)] at hh; exact hh) | (rw [if_neg (fun e => h75 (by rw [hx, e]; rfl))] at hh; exact hh)
      · refine g_iload_n 1 dX7_lay_78 rfl rfl ?_
        refine g_goto 83 dX7_lay_79 (by decide) ?_
        refine g_iast (n := 60) (a + k) dX7_lay_83 (by decide) rfl (by rw [hx, nI_add]; exact nI_clamp (by omega)) (by omega) ?_
        (try simp (disch := omega) only [setW_setA, setW_setA_ne])
        refine g_iinc 1 [_, _, _, _, _] _ dX7_lay_84 rfl (by decide) rfl ?_
        refine g_goto 57 dX7_lay_87 (by decide) ?_
        have hh := ih (k + 1) (x + 1) (by omega) (by omega) (by rw [hx, nI_1])
        rw [kF_s] at hh
        first | (rw [if_pos (eqN (m := 0) hx rfl (by omega) (by decide) h75)] at hh; exact hh) | (rw [if_neg (fun e => h75 (by rw [hx, e]; rfl))] at hh; exact hh)
set_option maxRecDepth 20000 in
theorem l_layI {E : En} {w : W0} {a nl ni : Nat} {day : Int32} {idl : Int64} {s : (Nat → Int32) × Int32} {rv : Option Value} {w1 : W0} (hcl : w 57 0 = nI nl) (hnl : nl ≤ 8) (hci : w 57 9 = nI ni) (hni : ni ≤ 60) (ho : ∀ k, k < ni → (w 67 k).toInt < 10) (ha : a ≤ 54) (kk : G E 3 RX7 cX7_lay 8 none rv w1 196 [(0, .ref (E.1 57)), (1, .int (itF w nl day a s ni).2), (2, .long idl), (4, .int day), (5, .int (nI a))] [] (setA w 76 (itF w nl day a s ni).1)) : ∀ (n : Nat) (k : Nat) (ac : Nat → Int32) (p x : Int32), ni + 1 ≤ k + n → k ≤ ni → x = nI k → (ac, p) = itF w nl day a s k → G E 3 RX7 cX7_lay 8 (none) rv w1 93 [(0, .ref (E.1 57)), (1, .int p), (2, .long idl), (4, .int day), (5, .int (nI a)), (6, .int x)] [] (setA w 76 ac) := by
  intro n
  induction n with
  | zero =>
    intro k ac p x hfu hk hx hv
    exact absurd hfu (by omega)
  | succ n ih =>
    intro k ac p x hfu hk hx hv
    have hxi : x.toInt = (k : Int) := by rw [hx]; exact nI_toInt (by omega)
    have hxn : x.toNatClampNeg = k := by rw [hx]; exact nI_clamp (by omega)
    have hciI : (w 57 9).toInt = (ni : Int) := by rw [hci]; exact nI_toInt (by omega)
    refine g_iload 5 dX7_lay_93 rfl ?_
    refine g_aload_n 0 dX7_lay_95 rfl rfl ?_
    refine gf_X7_129 dX7_lay_96 ?_
    (try simp (disch := omega) only [setW_ne, setW_p, setA_ne, setA_p, upd_self, upd_ne, barM_setA])
    refine g_icmp_ge 196 (k : Int) _ dX7_lay_99 (by decide) hxi rfl (fun h99 => ?_) (fun h99 => ?_)
    · refine g_lv [0, 1, 2, 3, 4] rfl ?_
      rw [show k = ni by omega] at hv; rw [← hv] at kk; exact kk
    · refine g_aload_n 0 dX7_lay_102 rfl rfl ?_
      refine gf_X7_32 dX7_lay_103 ?_
      refine g_iload 5 dX7_lay_106 rfl ?_
      refine g_iald (n := 60) k dX7_lay_108 (by decide) rfl hxn (by omega) ?_
      (try simp (disch := omega) only [setW_ne, setW_p, setA_ne, setA_p, upd_self, upd_ne, barM_setA])
      refine g_iload 3 dX7_lay_109 rfl ?_
      refine g_icmp_ne 190 dX7_lay_111 (by decide) (fun h111 => ?_) (fun h111 => ?_)
      · refine g_iinc 1 [_, _, _, _, _] _ dX7_lay_190 rfl (by decide) rfl ?_
        refine g_goto 93 dX7_lay_193 (by decide) ?_
        exact ih (k + 1) _ _ (x + 1) (by omega) (by omega) (by rw [hx, nI_1]) (by clear ih kk; rw [itF_s, ← hv]; (repeat' split) <;> first | rfl | (exfalso; simp_all; done))
      · refine g_aload_n 0 dX7_lay_114 rfl rfl ?_
        refine g_iload 5 dX7_lay_115 rfl ?_
        refine ca_X7_142 dX7_lay_117 (t_X7_barredFor (ni := ni) (nl := nl) (k := k) hni (by omega) hx (by (try simp (disch := omega) only [setW_ne, setA_ne, upd_ne]); exact hcl) hnl (by (try simp (disch := omega) only [setA_ne]); exact ho k (by omega))) (by decide) (Nat.le_of_ble_eq_true rfl) ?_
        (try simp (disch := omega) only [setW_ne, setW_p, setA_ne, setA_p, upd_self, upd_ne, barM_setA])
        refine g_if_ne 190 dX7_lay_120 (by decide) (fun h120 => ?_) (fun h120 => ?_)
        · refine g_iinc 1 [_, _, _, _, _] _ dX7_lay_190 rfl (by decide) rfl ?_
          refine g_goto 93 dX7_lay_193 (by decide) ?_
          exact ih (k + 1) _ _ (x + 1) (by omega) (by omega) (by rw [hx, nI_1]) (by clear ih kk; rw [itF_s, ← hv]; (repeat' split) <;> first | rfl | (exfalso; simp_all; done))
        · refine g_iload_n 1 dX7_lay_123 rfl rfl ?_
          refine g_aload_n 0 dX7_lay_124 rfl rfl ?_
          refine gf_X7_28 dX7_lay_125 ?_
          refine g_iload 5 dX7_lay_128 rfl ?_
          refine g_bald (n := 60) k dX7_lay_130 (by decide) rfl hxn (by omega) ?_
          (try simp (disch := omega) only [setW_ne, setW_p, setA_ne, setA_p, upd_self, upd_ne, barM_setA])
          refine g_if_eq 145 dX7_lay_131 (by decide) (fun h131 => ?_) (fun h131 => ?_)
          · refine g_aload_n 0 dX7_lay_145 rfl rfl ?_
            refine gf_X7_35 dX7_lay_146 ?_
            refine g_iload 5 dX7_lay_149 rfl ?_
            refine g_iald (n := 60) k dX7_lay_151 (by decide) rfl hxn (by omega) ?_
            (try simp (disch := omega) only [setW_ne, setW_p, setA_ne, setA_p, upd_self, upd_ne, barM_setA])
            refine g_iadd dX7_lay_152 ?_
            refine g_ist_n [_] _ dX7_lay_153 rfl (by decide) rfl ?_
            refine g_aload_n 0 dX7_lay_154 rfl rfl ?_
            refine gf_X7_65 dX7_lay_155 ?_
            refine g_aload_n 0 dX7_lay_158 rfl rfl ?_
            refine gf_X7_28 dX7_lay_159 ?_
            refine g_iload 5 dX7_lay_162 rfl ?_
            refine g_bald (n := 60) k dX7_lay_164 (by decide) rfl hxn (by omega) ?_
            (try simp (disch := omega) only [setW_ne, setW_p, setA_ne, setA_p, upd_self, upd_ne, barM_setA])
            refine g_if_eq 175 dX7_lay_165 (by decide) (fun h165 => ?_) (fun h165 => False.elim (by first | omega | exact absurd h165 h131 | exact absurd h131 h165))
            refine g_iload 4 dX7_lay_175 rfl ?_
            refine g_iconst 1 dX7_lay_177 rfl ?_
            refine g_iadd dX7_lay_178 ?_
            rw [show nI a + 1 = nI (a + 1) from nI_add a 1]
            refine g_dup2 dX7_lay_179 rfl rfl ?_
            refine g_iald (n := 60) _ dX7_lay_180 (by decide) rfl (nI_clamp (by omega)) (nI_rng (by omega) (by decide)) ?_
            (try simp (disch := omega) only [setW_ne, setW_p, setA_ne, setA_p, upd_self, upd_ne, barM_setA])
            refine g_aload_n 0 dX7_lay_181 rfl rfl ?_
            refine gf_X7_35 dX7_lay_182 ?_
            refine g_iload 5 dX7_lay_185 rfl ?_
            refine g_iald (n := 60) k dX7_lay_187 (by decide) rfl hxn (by omega) ?_
            (try simp (disch := omega) only [setW_ne, setW_p, setA_ne, setA_p, upd_self, upd_ne, barM_setA])
            refine g_iadd dX7_lay_188 ?_
            refine g_iast (n := 60) _ dX7_lay_189 (by decide) rfl (nI_clamp (by omega)) (nI_rng (by omega) (by decide)) ?_
            (try simp (disch := omega) only [setW_setA, setW_setA_ne])
            refine g_iinc 1 [_, _, _, _, _] _ dX7_lay_190 rfl (by decide) rfl ?_
            refine g_goto 93 dX7_lay_193 (by decide) ?_
            exact ih (k + 1) _ _ (x + 1) (by omega) (by omega) (by rw [hx, nI_1]) (by clear ih kk; rw [itF_s, ← hv]; (repeat' split) <;> first | rfl | (exfalso; simp_all; done))
          · refine g_aload_n 0 dX7_lay_134 rfl rfl ?_
            refine gf_X7_35 dX7_lay_135 ?_
            refine g_iload 5 dX7_lay_138 rfl ?_
            refine g_iald (n := 60) k dX7_lay_140 (by decide) rfl hxn (by omega) ?_
            (try simp (disch := omega) only [setW_ne, setW_p, setA_ne, setA_p, upd_self, upd_ne, barM_setA])
            refine g_ineg dX7_lay_141 ?_
            refine g_goto 152 dX7_lay_142 (by decide) ?_
            refine g_iadd dX7_lay_152 ?_
            refine g_ist_n [_] _ dX7_lay_153 rfl (by decide) rfl ?_
            refine g_aload_n 0 dX7_lay_154 rfl rfl ?_
            refine gf_X7_65 dX7_lay_155 ?_
            refine g_aload_n 0 dX7_lay_158 rfl rfl ?_
            refine gf_X7_28 dX7_lay_159 ?_
            refine g_iload 5 dX7_lay_162 rfl ?_
            refine g_bald (n := 60) k dX7_lay_164 (by decide) rfl hxn (by omega) ?_
            (try simp (disch := omega) only [setW_ne, setW_p, setA_ne, setA_p, upd_self, upd_ne, barM_setA])
            refine g_if_eq 175 dX7_lay_165 (by decide) (fun h165 => False.elim (by first | omega | exact absurd h165 h131 | exact absurd h131 h165)) (fun h165 => ?_)
            refine g_iload 4 dX7_lay_168 rfl ?_
            refine g_iconst 2 dX7_lay_170 rfl ?_
            refine g_iadd dX7_lay_171 ?_
            refine g_goto 179 dX7_lay_172 (by decide) ?_
            rw [show nI a + 2 = nI (a + 2) from nI_add a 2]
            refine g_dup2 dX7_lay_179 rfl rfl ?_
            refine g_iald (n := 60) _ dX7_lay_180 (by decide) rfl (nI_clamp (by omega)) (nI_rng (by omega) (by decide)) ?_
            (try simp (disch := omega) only [setW_ne, setW_p, setA_ne, setA_p, upd_self, upd_ne, barM_setA])
            refine g_aload_n 0 dX7_lay_181 rfl rfl ?_
            refine gf_X7_35 dX7_lay_182 ?_
            refine g_iload 5 dX7_lay_185 rfl ?_
            refine g_iald (n := 60) k dX7_lay_187 (by decide) rfl hxn (by omega) ?_
            (try simp (disch := omega) only [setW_ne, setW_p, setA_ne, setA_p, upd_self, upd_ne, barM_setA])
            refine g_iadd dX7_lay_188 ?_
            refine g_iast (n := 60) _ dX7_lay_189 (by decide) rfl (nI_clamp (by omega)) (nI_rng (by omega) (by decide)) ?_
            (try simp (disch := omega) only [setW_setA, setW_setA_ne])
            refine g_iinc 1 [_, _, _, _, _] _ dX7_lay_190 rfl (by decide) rfl ?_
            refine g_goto 93 dX7_lay_193 (by decide) ?_
            exact ih (k + 1) _ _ (x + 1) (by omega) (by omega) (by rw [hx, nI_1]) (by clear ih kk; rw [itF_s, ← hv]; (repeat' split) <;> first | rfl | (exfalso; simp_all; done))
set_option maxRecDepth 20000 in
theorem l_layW {E : En} {w : W0} {a nw : Nat} {day : Int32} {idl : Int64} {s : WS} {rv : Option Value} {w1 : W0} (hcw : w 57 3 = nI nw) (hnw : nw ≤ 6) (ha : a ≤ 54) (kk : G E 3 RX7 cX7_lay 8 none rv w1 335 [(0, .ref (E.1 57)), (1, .int (wdF w nw day a s nw).2.2.2), (2, .long idl), (4, .int day), (5, .int (nI a))] [] (setA (setA (setA w 76 (wdF w nw day a s nw).2.2.1) 78 (wdF w nw day a s nw).2.1) 79 (wdF w nw day a s nw).1)) : ∀ (n : Nat) (k : Nat) (gi gd ac : Nat → Int32) (p x : Int32), nw + 1 ≤ k + n → k ≤ nw → x = nI k → (gi, gd, ac, p) = wdF w nw day a s k → G E 3 RX7 cX7_lay 8 (none) rv w1 199 [(0, .ref (E.1 57)), (1, .int p), (2, .long idl), (4, .int day), (5, .int (nI a)), (6, .int x)] [] (setA (setA (setA w 76 ac) 78 gd) 79 gi) := by
  intro n
  induction n with
  | zero =>
    intro k gi gd ac p x hfu hk hx hv
    exact absurd hfu (by omega)
  | succ n ih =>
    intro k gi gd ac p x hfu hk hx hv
    have hxi : x.toInt = (k : Int) := by rw [hx]; exact nI_toInt (by omega)
    have hxn : x.toNatClampNeg = k := by rw [hx]; exact nI_clamp (by omega)
    have hcwI : (w 57 3).toInt = (nw : Int) := by rw [hcw]; exact nI_toInt (by omega)
    refine g_iload 5 dX7_lay_199 rfl ?_
    refine g_aload_n 0 dX7_lay_201 rfl rfl ?_
    refine gf_X7_101 dX7_lay_202 ?_
    (try simp (disch := omega) only [setW_ne, setW_p, setA_ne, setA_p, upd_self, upd_ne, barM_setA])
    refine g_icmp_ge 335 (k : Int) _ dX7_lay_205 (by decide) hxi rfl (fun h205 => ?_) (fun h205 => ?_)
    · refine g_lv [0, 1, 2, 3, 4] rfl ?_
      rw [show k = nw by omega] at hv; rw [← hv] at kk; exact kk
    · refine g_aload_n 0 dX7_lay_208 rfl rfl ?_
      refine gf_X7_68 dX7_lay_209 ?_
      refine g_iload 5 dX7_lay_212 rfl ?_
      refine g_iald (n := 6) k dX7_lay_214 (by decide) rfl hxn (by omega) ?_
      (try simp (disch := omega) only [setW_ne, setW_p, setA_ne, setA_p, upd_self, upd_ne, barM_setA])
      refine g_bipush (-6) dX7_lay_215 rfl ?_
      refine g_icmp_eq 236 dX7_lay_217 (by decide) (fun h217 => ?_) (fun h217 => ?_)
      · refine g_iconst 0 dX7_lay_236 rfl ?_
        refine g_istN dX7_lay_237 (by decide) rfl ?_
        refine g_iload 0 dX7_lay_239 rfl ?_
        refine g_if_eq 329 dX7_lay_241 (by decide) (fun h241 => ?_) (fun h241 => False.elim (by exact absurd h241 (by decide)))
        refine g_iinc 1 [_, _, _, _, _, _] _ dX7_lay_329 rfl (by decide) rfl ?_
        refine g_goto 199 dX7_lay_332 (by decide) ?_
        refine g_lv [1, 2, 3, 4, 5, 6] rfl ?_
        exact ih (k + 1) _ _ _ _ (x + 1) (by omega) (by omega) (by rw [hx, nI_1]) (by clear ih kk; rw [wdF_s, ← hv]; dsimp only; split <;> first | rfl | (unfold getM; (repeat' split) <;> first | rfl | (exfalso; omega)) | (exfalso; simp_all; done) | (exfalso; simp_all; omega))
      · refine g_aload_n 0 dX7_lay_220 rfl rfl ?_
        refine gf_X7_68 dX7_lay_221 ?_
        refine g_iload 5 dX7_lay_224 rfl ?_
        refine g_iald (n := 6) k dX7_lay_226 (by decide) rfl hxn (by omega) ?_
        (try simp (disch := omega) only [setW_ne, setW_p, setA_ne, setA_p, upd_self, upd_ne, barM_setA])
        refine g_iload 3 dX7_lay_227 rfl ?_
        refine g_icmp_gt 236 _ _ dX7_lay_229 (by decide) rfl rfl (fun h229 => ?_) (fun h229 => ?_)
        · refine g_iconst 0 dX7_lay_236 rfl ?_
          refine g_istN dX7_lay_237 (by decide) rfl ?_
          refine g_iload 0 dX7_lay_239 rfl ?_
          refine g_if_eq 329 dX7_lay_241 (by decide) (fun h241 => ?_) (fun h241 => False.elim (by exact absurd h241 (by decide)))
          refine g_iinc 1 [_, _, _, _, _, _] _ dX7_lay_329 rfl (by decide) rfl ?_
          refine g_goto 199 dX7_lay_332 (by decide) ?_
          refine g_lv [1, 2, 3, 4, 5, 6] rfl ?_
          exact ih (k + 1) _ _ _ _ (x + 1) (by omega) (by omega) (by rw [hx, nI_1]) (by clear ih kk; rw [wdF_s, ← hv]; dsimp only; split <;> first | rfl | (unfold getM; (repeat' split) <;> first | rfl | (exfalso; omega)) | (exfalso; simp_all; done) | (exfalso; simp_all; omega))
        · refine g_iconst 1 dX7_lay_232 rfl ?_
          refine g_goto 237 dX7_lay_233 (by decide) ?_
          refine g_istN dX7_lay_237 (by decide) rfl ?_
          refine g_iload 0 dX7_lay_239 rfl ?_
          refine g_if_eq 329 dX7_lay_241 (by decide) (fun h241 => False.elim (by exact absurd h241 (by decide))) (fun h241 => ?_)
          refine g_aload_n 1 dX7_lay_244 rfl rfl ?_
          refine gf_X7_71 dX7_lay_245 ?_
          refine g_iload 6 dX7_lay_248 rfl ?_
          refine g_iald (n := 6) k dX7_lay_250 (by decide) rfl hxn (by omega) ?_
          (try simp (disch := omega) only [setW_ne, setW_p, setA_ne, setA_p, upd_self, upd_ne, barM_setA])
          refine g_bipush (-6) dX7_lay_251 rfl ?_
          refine g_icmp_ne 329 dX7_lay_253 (by decide) (fun h253 => ?_) (fun h253 => ?_)
          · refine g_iinc 1 [_, _, _, _, _, _] _ dX7_lay_329 rfl (by decide) rfl ?_
            refine g_goto 199 dX7_lay_332 (by decide) ?_
            refine g_lv [1, 2, 3, 4, 5, 6] rfl ?_
            exact ih (k + 1) _ _ _ _ (x + 1) (by omega) (by omega) (by rw [hx, nI_1]) (by clear ih kk; rw [wdF_s, ← hv]; dsimp only; split <;> first | rfl | (unfold getM; (repeat' split) <;> first | rfl | (exfalso; omega)) | (exfalso; simp_all; done) | (exfalso; simp_all; omega))
          · refine g_aload_n 1 dX7_lay_256 rfl rfl ?_
            refine g_iload 6 dX7_lay_257 rfl ?_
            refine g_iload 4 dX7_lay_259 rfl ?_
            refine ca_X7_107 dX7_lay_261 (t_X7_lives (nw := nw) (k := k) hnw (by omega) hx) (by decide) (Nat.le_of_ble_eq_true rfl) ?_
            (try simp (disch := omega) only [setW_ne, setW_p, setA_ne, setA_p, upd_self, upd_ne, barM_setA])
            refine g_if_eqb 329 dX7_lay_264 (by decide) (fun h264 => ?_) (fun h264 => ?_)
            · refine g_iinc 1 [_, _, _, _, _, _] _ dX7_lay_329 rfl (by decide) rfl ?_
              refine g_goto 199 dX7_lay_332 (by decide) ?_
              refine g_lv [1, 2, 3, 4, 5, 6] rfl ?_
              exact ih (k + 1) _ _ _ _ (x + 1) (by omega) (by omega) (by rw [hx, nI_1]) (by clear ih kk; rw [wdF_s, ← hv]; dsimp only; split <;> first | rfl | (unfold getM; (repeat' split) <;> first | rfl | (exfalso; omega)) | (exfalso; simp_all; done) | (exfalso; simp_all; omega))
            · refine g_aload_n 1 dX7_lay_267 rfl rfl ?_
              refine gf_X7_74 dX7_lay_268 ?_
              refine g_iload 6 dX7_lay_271 rfl ?_
              refine g_iload_n 2 dX7_lay_273 rfl rfl ?_
              refine g_if_le 289 _ dX7_lay_274 (by decide) rfl (fun h274 => ?_) (fun h274 => ?_)
              · refine g_iconst 0 dX7_lay_289 rfl ?_
                refine g_iast (n := 6) k dX7_lay_290 (by decide) rfl hxn (by omega) ?_
                (try simp (disch := omega) only [setW_setA, setW_setA_ne])
                refine g_aload_n 1 dX7_lay_291 rfl rfl ?_
                refine gf_X7_71 dX7_lay_292 ?_
                refine g_iload 6 dX7_lay_295 rfl ?_
                refine g_iload 4 dX7_lay_297 rfl ?_
                refine g_iast (n := 6) k dX7_lay_299 (by decide) rfl hxn (by omega) ?_
                (try simp (disch := omega) only [setW_setA, setW_setA_ne])
                refine g_iload_n 2 dX7_lay_300 rfl rfl ?_
                refine g_aload_n 1 dX7_lay_301 rfl rfl ?_
                refine gf_X7_74 dX7_lay_302 ?_
                refine g_iload 6 dX7_lay_305 rfl ?_
                refine g_iald (n := 6) k dX7_lay_307 (by decide) rfl hxn (by omega) ?_
                (try simp (disch := omega) only [setW_ne, setW_p, setA_ne, setA_p, upd_self, upd_ne, barM_setA])
                refine g_isub dX7_lay_308 ?_
                refine g_ist_n [_, _] _ dX7_lay_309 rfl (by decide) rfl ?_
                refine g_aload_n 1 dX7_lay_310 rfl rfl ?_
                refine gf_X7_65 dX7_lay_311 ?_
                refine g_iload 5 dX7_lay_314 rfl ?_
                refine g_iconst 3 dX7_lay_316 rfl ?_
                refine g_iadd dX7_lay_317 ?_
                rw [show nI a + 3 = nI (a + 3) from nI_add a 3]
                refine g_dup2 dX7_lay_318 rfl rfl ?_
                refine g_iald (n := 60) _ dX7_lay_319 (by decide) rfl (nI_clamp (by omega)) (nI_rng (by omega) (by decide)) ?_
                (try simp (disch := omega) only [setW_ne, setW_p, setA_ne, setA_p, upd_self, upd_ne, barM_setA])
                refine g_aload_n 1 dX7_lay_320 rfl rfl ?_
                refine gf_X7_74 dX7_lay_321 ?_
                refine g_iload 6 dX7_lay_324 rfl ?_
                refine g_iald (n := 6) k dX7_lay_326 (by decide) rfl hxn (by omega) ?_
                (try simp (disch := omega) only [setW_ne, setW_p, setA_ne, setA_p, upd_self, upd_ne, barM_setA])
                refine g_iadd dX7_lay_327 ?_
                refine g_iast (n := 60) _ dX7_lay_328 (by decide) rfl (nI_clamp (by omega)) (nI_rng (by omega) (by decide)) ?_
                (try simp (disch := omega) only [setW_setA, setW_setA_ne])
                refine g_iinc 1 [_, _, _, _, _, _] _ dX7_lay_329 rfl (by decide) rfl ?_
                refine g_goto 199 dX7_lay_332 (by decide) ?_
                refine g_lv [1, 2, 3, 4, 5, 6] rfl ?_
                exact ih (k + 1) _ _ _ _ (x + 1) (by omega) (by omega) (by rw [hx, nI_1]) (by clear ih kk; rw [wdF_s, ← hv]; dsimp only; split <;> first | rfl | (unfold getM; (repeat' split) <;> first | rfl | (exfalso; omega)) | (exfalso; simp_all; done) | (exfalso; simp_all; omega))
              · refine g_iload_n 2 dX7_lay_277 rfl rfl ?_
                refine g_aload_n 1 dX7_lay_278 rfl rfl ?_
                refine g_iload 4 dX7_lay_279 rfl ?_
                refine g_iconst 0 dX7_lay_281 rfl ?_
                refine ca_X7_116 dX7_lay_282 (t_X7_headsOn (nw := nw) (by (try simp (disch := omega) only [setW_ne, setA_ne, upd_ne]); exact hcw) hnw) (by decide) (Nat.le_of_ble_eq_true rfl) ?_
                (try simp (disch := omega) only [setW_ne, setW_p, setA_ne, setA_p, upd_self, upd_ne, barM_setA])
                refine g_idiv dX7_lay_285 (hdM_pos hnw (by omega) h264 h253) ?_
                refine g_goto 290 dX7_lay_286 (by decide) ?_
                refine g_iast (n := 6) k dX7_lay_290 (by decide) rfl hxn (by omega) ?_
                (try simp (disch := omega) only [setW_setA, setW_setA_ne])
                refine g_aload_n 1 dX7_lay_291 rfl rfl ?_
                refine gf_X7_71 dX7_lay_292 ?_
                refine g_iload 6 dX7_lay_295 rfl ?_
                refine g_iload 4 dX7_lay_297 rfl ?_
                refine g_iast (n := 6) k dX7_lay_299 (by decide) rfl hxn (by omega) ?_
                (try simp (disch := omega) only [setW_setA, setW_setA_ne])
                refine g_iload_n 2 dX7_lay_300 rfl rfl ?_
                refine g_aload_n 1 dX7_lay_301 rfl rfl ?_
                refine gf_X7_74 dX7_lay_302 ?_
                refine g_iload 6 dX7_lay_305 rfl ?_
                refine g_iald (n := 6) k dX7_lay_307 (by decide) rfl hxn (by omega) ?_
                (try simp (disch := omega) only [setW_ne, setW_p, setA_ne, setA_p, upd_self, upd_ne, barM_setA])
                refine g_isub dX7_lay_308 ?_
                refine g_ist_n [_, _] _ dX7_lay_309 rfl (by decide) rfl ?_
                refine g_aload_n 1 dX7_lay_310 rfl rfl ?_
                refine gf_X7_65 dX7_lay_311 ?_
                refine g_iload 5 dX7_lay_314 rfl ?_
                refine g_iconst 3 dX7_lay_316 rfl ?_
                refine g_iadd dX7_lay_317 ?_
                rw [show nI a + 3 = nI (a + 3) from nI_add a 3]
                refine g_dup2 dX7_lay_318 rfl rfl ?_
                refine g_iald (n := 60) _ dX7_lay_319 (by decide) rfl (nI_clamp (by omega)) (nI_rng (by omega) (by decide)) ?_
                (try simp (disch := omega) only [setW_ne, setW_p, setA_ne, setA_p, upd_self, upd_ne, barM_setA])
                refine g_aload_n 1 dX7_lay_320 rfl rfl ?_
                refine gf_X7_74 dX7_lay_321 ?_
                refine g_iload 6 dX7_lay_324 rfl ?_
                refine g_iald (n := 6) k dX7_lay_326 (by decide) rfl hxn (by omega) ?_
                (try simp (disch := omega) only [setW_ne, setW_p, setA_ne, setA_p, upd_self, upd_ne, barM_setA])
                refine g_iadd dX7_lay_327 ?_
                refine g_iast (n := 60) _ dX7_lay_328 (by decide) rfl (nI_clamp (by omega)) (nI_rng (by omega) (by decide)) ?_
                (try simp (disch := omega) only [setW_setA, setW_setA_ne])
                refine g_iinc 1 [_, _, _, _, _, _] _ dX7_lay_329 rfl (by decide) rfl ?_
                refine g_goto 199 dX7_lay_332 (by decide) ?_
                refine g_lv [1, 2, 3, 4, 5, 6] rfl ?_
                exact ih (k + 1) _ _ _ _ (x + 1) (by omega) (by omega) (by rw [hx, nI_1]) (by clear ih kk; rw [wdF_s, ← hv]; dsimp only; split <;> first | rfl | (unfold getM; (repeat' split) <;> first | rfl | (exfalso; omega)) | (exfalso; simp_all; done) | (exfalso; simp_all; omega))

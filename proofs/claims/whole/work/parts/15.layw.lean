/-! WardCourtModel: lay whole, about, heads, pot, account, pass, open -/
def W4 (w : W0) (pa ac gd gi : Nat → Int32) : W0 := setA (setA (setA (setA w 75 pa) 76 ac) 78 gd) 79 gi
theorem W4_ne {w : W0} {pa ac gd gi : Nat → Int32} {q : Nat} (h : q < 75 ∨ q = 77 ∨ 79 < q) : W4 w pa ac gd gi q = w q := by
  unfold W4
  rw [setA_ne (by omega), setA_ne (by omega), setA_ne (by omega), setA_ne (by omega)]
theorem W4_75 (w : W0) (pa ac gd gi : Nat → Int32) : W4 w pa ac gd gi 75 = pa := rfl
theorem W4_76 (w : W0) (pa ac gd gi : Nat → Int32) : W4 w pa ac gd gi 76 = ac := rfl
theorem W4_78 (w : W0) (pa ac gd gi : Nat → Int32) : W4 w pa ac gd gi 78 = gd := rfl
theorem W4_79 (w : W0) (pa ac gd gi : Nat → Int32) : W4 w pa ac gd gi 79 = gi := rfl
theorem W4_self (w : W0) : W4 w (w 75) (w 76) (w 78) (w 79) = w := by
  unfold W4
  rw [setA_self, setA_self, setA_self, setA_self]
theorem W4_s75 {w : W0} {pa ac gd gi : Nat → Int32} {i : Nat} {v : Int32} : setW (W4 w pa ac gd gi) 75 i v = W4 w (upd pa i v) ac gd gi := by
  unfold W4
  rw [setW_setA_ne (by decide), setW_setA_ne (by decide), setW_setA_ne (by decide), setW_setA]
theorem W4_s76 {w : W0} {pa ac gd gi : Nat → Int32} {i : Nat} {v : Int32} : setW (W4 w pa ac gd gi) 76 i v = W4 w pa (upd ac i v) gd gi := by
  unfold W4
  rw [setW_setA_ne (by decide), setW_setA_ne (by decide), setW_setA]
/-- the world without its accounts, for the loops of a day -/
abbrev W3 (w : W0) (pa gd gi : Nat → Int32) : W0 := setA (setA (setA w 75 pa) 78 gd) 79 gi
theorem W4_3 (w : W0) (pa ac gd gi : Nat → Int32) : setA (W3 w pa gd gi) 76 ac = W4 w pa ac gd gi := by
  unfold W3 W4
  rw [setA_in (p := 79) (q := 76) (by decide), setA_in (p := 78) (q := 76) (by decide)]
theorem W4_1 (w : W0) (pa ac gd gi : Nat → Int32) : setA (setA (setA (setA w 75 pa) 76 ac) 78 gd) 79 gi = W4 w pa ac gd gi := rfl
theorem W3_ne {w : W0} {pa gd gi : Nat → Int32} {q : Nat} (h : q < 75 ∨ q = 77 ∨ 79 < q) : W3 w pa gd gi q = w q := by
  unfold W3
  rw [setA_ne (by omega), setA_ne (by omega), setA_ne (by omega)]
theorem barM_congr {w w' : W0} {nl : Nat} (h : ∀ q, q < 75 → w' q = w q) : barM w' nl = barM w nl := by
  funext k
  unfold barM
  rw [h 58 (by decide), h 59 (by decide), h 62 (by decide), h 64 (by decide), h 65 (by decide), h 66 (by decide), h 67 (by decide), h 68 (by decide), h 69 (by decide)]
theorem itF_congr {w w' : W0} {nl a : Nat} {day : Int32} {s : (Nat → Int32) × Int32} (h : ∀ q, q < 75 → w' q = w q) : ∀ k, itF w' nl day a s k = itF w nl day a s k
  | 0 => rfl
  | k + 1 => by rw [itF_s, itF_s, itF_congr h k, barM_congr h, h 64 (by decide), h 65 (by decide), h 66 (by decide)]
theorem wdF_congr {w w' : W0} {nw a : Nat} {day : Int32} {s : WS} (h : ∀ q, q < 75 ∨ q = 77 → w' q = w q) : ∀ k, wdF w' nw day a s k = wdF w nw day a s k
  | 0 => rfl
  | k + 1 => by
    rw [wdF_s, wdF_s, wdF_congr h k]
    unfold getM
    rw [h 60 (Or.inl (by decide)), h 61 (Or.inl (by decide)), h 77 (Or.inr rfl)]
theorem l_layK0 {E : En} {w : W0} {pa ac gd gi : Nat → Int32} {a : Nat} {p day : Int32} {idl : Int64} {rv : Option Value} {w1 : W0} (ha : a ≤ 54) (kk : G E 3 RX7 cX7_lay 8 none rv w1 90 [(0, .ref (E.1 57)), (1, .int p), (2, .long idl), (4, .int day), (5, .int (nI a))] [] (W4 w pa (kF a p ac 6) gd gi)) : G E 3 RX7 cX7_lay 8 none rv w1 57 [(0, .ref (E.1 57)), (1, .int p), (2, .long idl), (4, .int day), (5, .int (nI a)), (6, .int 0)] [] (W4 w pa ac gd gi) := by
  rw [← W4_3] at kk ⊢
  have h := l_layK (E := E) (w := setA (W3 w pa gd gi) 76 ac) (a := a) (p := p) (day := day) (idl := idl) (rv := rv) (w1 := w1) ha (by rw [setA_p, setA_same]; exact kk) 7 0 0 (by omega) (by omega) rfl
  rw [setA_p, setA_same] at h
  exact h
theorem l_layI0 {E : En} {w : W0} {pa ac gd gi : Nat → Int32} {a nl ni : Nat} {p day : Int32} {idl : Int64} {rv : Option Value} {w1 : W0} (hcl : w 57 0 = nI nl) (hnl : nl ≤ 8) (hci : w 57 9 = nI ni) (hni : ni ≤ 60) (ho : ∀ k, k < ni → (w 67 k).toInt < 10) (ha : a ≤ 54) (kk : G E 3 RX7 cX7_lay 8 none rv w1 196 [(0, .ref (E.1 57)), (1, .int (itF w nl day a (ac, p) ni).2), (2, .long idl), (4, .int day), (5, .int (nI a))] [] (W4 w pa (itF w nl day a (ac, p) ni).1 gd gi)) : G E 3 RX7 cX7_lay 8 none rv w1 93 [(0, .ref (E.1 57)), (1, .int p), (2, .long idl), (4, .int day), (5, .int (nI a)), (6, .int 0)] [] (W4 w pa ac gd gi) := by
  rw [← W4_3] at kk ⊢
  have e : itF (W3 w pa gd gi) nl day a (ac, p) ni = itF w nl day a (ac, p) ni := itF_congr (fun q hq => W3_ne (Or.inl hq)) ni
  exact l_layI (E := E) (w := W3 w pa gd gi) (a := a) (s := (ac, p)) (rv := rv) (w1 := w1) (by rw [W3_ne (by decide)]; exact hcl) hnl (by rw [W3_ne (by decide)]; exact hci) hni (by rw [W3_ne (by decide)]; exact ho) ha (by rw [e]; exact kk) (ni + 1) 0 ac p 0 (by omega) (by omega) rfl rfl
theorem l_layW0 {E : En} {w : W0} {pa ac gd gi : Nat → Int32} {a nw : Nat} {p day : Int32} {idl : Int64} {rv : Option Value} {w1 : W0} (hcw : w 57 3 = nI nw) (hnw : nw ≤ 6) (ha : a ≤ 54) (kk : G E 3 RX7 cX7_lay 8 none rv w1 335 [(0, .ref (E.1 57)), (1, .int (wdF w nw day a (gi, gd, ac, p) nw).2.2.2), (2, .long idl), (4, .int day), (5, .int (nI a))] [] (W4 w pa (wdF w nw day a (gi, gd, ac, p) nw).2.2.1 (wdF w nw day a (gi, gd, ac, p) nw).2.1 (wdF w nw day a (gi, gd, ac, p) nw).1)) : G E 3 RX7 cX7_lay 8 none rv w1 199 [(0, .ref (E.1 57)), (1, .int p), (2, .long idl), (4, .int day), (5, .int (nI a)), (6, .int 0)] [] (W4 w pa ac gd gi) := by
  have e : wdF (setA w 75 pa) nw day a (gi, gd, ac, p) nw = wdF w nw day a (gi, gd, ac, p) nw := wdF_congr (fun q hq => setA_ne (by omega)) nw
  exact l_layW (E := E) (w := setA w 75 pa) (a := a) (s := (gi, gd, ac, p)) (rv := rv) (w1 := w1) (by rw [setA_ne (by decide)]; exact hcw) hnw ha (by rw [e]; exact kk) (nw + 1) 0 gi gd ac p 0 (by omega) (by omega) rfl rfl
/-- accounts, days given over, shares, pots, pot, what is counted -/
abbrev DS : Type := (Nat → Int32) × (Nat → Int32) × (Nat → Int32) × (Nat → Int32) × Int32 × Int64
abbrev itD (w : W0) (nl ni D : Nat) (s : DS) : (Nat → Int32) × Int32 := itF w nl (nI D) (6 * (D / 360)) (if D % 360 = 0 then kF (6 * (D / 360)) s.2.2.2.2.1 s.1 6 else s.1, s.2.2.2.2.1) ni
abbrev wdD (w : W0) (nl nw ni D : Nat) (s : DS) : WS := wdF w nw (nI D) (6 * (D / 360)) (s.2.2.1, s.2.1, (itD w nl ni D s).1, (itD w nl ni D s).2) nw
abbrev ovD (w : W0) (nl nw ni D : Nat) (s : DS) : Int32 := (wdD w nl nw ni D s).2.2.2 - lawM (w 58) (w 59) nl (nI D) 1
abbrev idD (w : W0) (nl nw ni D : Nat) (s : DS) : Int64 := (if D % 360 = 0 then 0 else s.2.2.2.2.2) + (if 0 < (ovD w nl nw ni D s).toInt then (ovD w nl nw ni D s).toInt64 * (lawM (w 58) (w 59) nl (nI D) 2).toInt64 else 0)
abbrev inD (w : W0) (nl nw ni D : Nat) (s : DS) : Int32 := (idD w nl nw ni D s / 36000).toInt32
/-- one day -/
def dyS (w : W0) (nl nw ni D : Nat) (s : DS) : DS :=
  if D % 360 = 359 then (upd (upd (wdD w nl nw ni D s).2.2.1 (6 * (D / 360) + 4) (inD w nl nw ni D s)) (6 * (D / 360) + 5) ((wdD w nl nw ni D s).2.2.2 + inD w nl nw ni D s), (wdD w nl nw ni D s).2.1, (wdD w nl nw ni D s).1, upd s.2.2.2.1 D ((wdD w nl nw ni D s).2.2.2 + inD w nl nw ni D s), (wdD w nl nw ni D s).2.2.2 + inD w nl nw ni D s, idD w nl nw ni D s)
  else ((wdD w nl nw ni D s).2.2.1, (wdD w nl nw ni D s).2.1, (wdD w nl nw ni D s).1, upd s.2.2.2.1 D (wdD w nl nw ni D s).2.2.2, (wdD w nl nw ni D s).2.2.2, idD w nl nw ni D s)
def dyF (w : W0) (nl nw ni : Nat) : Nat → DS
  | 0 => (w 76, w 78, w 79, w 75, 0, 0)
  | D + 1 => dyS w nl nw ni D (dyF w nl nw ni D)
theorem dyF_s (w : W0) (nl nw ni D : Nat) : dyF w nl nw ni (D + 1) = dyS w nl nw ni D (dyF w nl nw ni D) := rfl
def outM (w : W0) (s : DS) : W0 := W4 w s.2.2.2.1 s.1 s.2.1 s.2.2.1
set_option maxRecDepth 20000 in
theorem l_lay {E : En} {w : W0} {nl nw ni : Nat} (hcl : w 57 0 = nI nl) (hnl : nl ≤ 8) (hcw : w 57 3 = nI nw) (hnw : nw ≤ 6) (hci : w 57 9 = nI ni) (hni : ni ≤ 60) (ho : ∀ k, k < ni → (w 67 k).toInt < 10) : ∀ (n : Nat) (D : Nat) (ac gd gi pa : Nat → Int32) (p x : Int32) (idl : Int64), 3600 + 1 ≤ D + n → D ≤ 3600 → x = nI D → (ac, gd, gi, pa, p, idl) = dyF w nl nw ni D → G E 3 RX7 cX7_lay 8 (none) none (outM w (dyF w nl nw ni 3600)) 24 [(0, .ref (E.1 57)), (1, .int p), (2, .long idl), (4, .int x)] [] (W4 w pa ac gd gi) := by
  intro n
  induction n with
  | zero =>
    intro D ac gd gi pa p x idl hfu hk hx hv
    exact absurd hfu (by omega)
  | succ n ih =>
    intro D ac gd gi pa p x idl hfu hk hx hv
    subst hx
    refine g_iload 3 dX7_lay_24 rfl ?_
    refine g_sipush 3600 dX7_lay_26 rfl ?_
    refine g_icmp_ge 430 (D : Int) 3600 dX7_lay_29 (by decide) (nI_toInt (by omega)) rfl (fun h29 => ?_) (fun h29 => ?_)
    · refine g_vret dX7_lay_430 rfl rfl ?_
      · rw [show D = 3600 by omega] at hv; unfold outM; rw [← hv]
    · refine g_bipush 6 dX7_lay_32 rfl ?_
      refine g_iload 3 dX7_lay_34 rfl ?_
      refine g_sipush 360 dX7_lay_36 rfl ?_
      refine g_idiv dX7_lay_39 (by decide) ?_
      refine g_imul dX7_lay_40 ?_
      rw [show (6 : Int32) * (nI D / 360) = nI (6 * (D / 360)) by rw [show nI D / 360 = nI (D / 360) from pk_div (a := D) (d := 360) (by omega) (by omega) (by omega)]; exact pk_mul 6 _]
      refine g_istN dX7_lay_41 (by decide) rfl ?_
      refine g_iload 4 dX7_lay_43 rfl ?_
      refine g_sipush 360 dX7_lay_45 rfl ?_
      refine g_irem dX7_lay_48 (by decide) ?_
      rw [show nI D - nI D / 360 * 360 = nI (D % 360) from pk_rem (a := D) (d := 360) (by omega) (by omega) (by omega)]
      refine g_if_ne 90 dX7_lay_49 (by decide) (fun h49 => ?_) (fun h49 => ?_)
      · have hd0 : ¬ D % 360 = 0 := fun e => h49 (by rw [e]; rfl)
        refine g_iconst 0 dX7_lay_90 rfl ?_
        refine g_istN dX7_lay_91 (by decide) rfl ?_
        refine g_lv [2, 3, 4, 5, 1, 0] rfl ?_
        refine l_layI0 hcl hnl hci hni ho (by omega) ?_
        refine g_iconst 0 dX7_lay_196 rfl ?_
        refine g_istN dX7_lay_197 (by decide) rfl ?_
        refine g_lv [1, 2, 3, 4, 5, 0] rfl ?_
        refine l_layW0 hcw hnw (by omega) ?_
        refine g_iload_n 1 dX7_lay_335 rfl rfl ?_
        refine g_aload_n 0 dX7_lay_336 rfl rfl ?_
        refine g_iload 3 dX7_lay_337 rfl ?_
        refine g_iconst 1 dX7_lay_339 rfl ?_
        refine ca_X7_97 dX7_lay_340 (t_X7_inForce (p := 1) (nl := nl) (by rw [W4_ne (by decide)]; exact hcl) hnl rfl (by decide)) (by decide) (Nat.le_of_ble_eq_true rfl) ?_
        (try simp (disch := omega) only [W4_ne, W4_75, W4_76, W4_78, W4_79, upd_self, upd_ne])
        refine g_isub dX7_lay_343 ?_
        refine g_istN dX7_lay_344 (by decide) rfl ?_
        refine g_lload_n 3 dX7_lay_346 rfl rfl ?_
        refine g_iload 0 dX7_lay_347 rfl ?_
        refine g_if_le 367 _ dX7_lay_349 (by decide) rfl (fun h349 => ?_) (fun h349 => ?_)
        · refine g_lconst 0 dX7_lay_367 rfl ?_
          refine g_ladd dX7_lay_368 ?_
          refine g_lst_n [_, _, _] _ dX7_lay_369 rfl (by decide) rfl ?_
          refine g_iload 4 dX7_lay_370 rfl ?_
          refine g_sipush 360 dX7_lay_372 rfl ?_
          refine g_irem dX7_lay_375 (by decide) ?_
          rw [show nI D - nI D / 360 * 360 = nI (D % 360) from pk_rem (a := D) (d := 360) (by omega) (by omega) (by omega)]
          refine g_sipush 359 dX7_lay_376 rfl ?_
          refine g_icmp_ne 416 dX7_lay_379 (by decide) (fun h379 => ?_) (fun h379 => ?_)
          · have hd9 : ¬ D % 360 = 359 := fun e => h379 (by rw [e]; rfl)
            refine g_aload_n 1 dX7_lay_416 rfl rfl ?_
            refine gf_X7_62 dX7_lay_417 ?_
            refine g_iload 4 dX7_lay_420 rfl ?_
            refine g_iload_n 2 dX7_lay_422 rfl rfl ?_
            refine g_iast (n := 3600) D dX7_lay_423 (by decide) rfl (nI_clamp (by omega)) (nI_rng (by omega) (by decide)) ?_
            (try simp (disch := omega) only [W4_s75, W4_s76])
            refine g_iinc 1 [_, _, _, _] _ dX7_lay_424 rfl (by decide) rfl ?_
            refine g_goto 24 dX7_lay_427 (by decide) ?_
            refine g_lv [1, 2, 3, 4] rfl ?_
            exact ih (D + 1) _ _ _ _ _ _ _ (by omega) (by omega) (nI_1 D) (by clear ih; rw [dyF_s, ← hv]; unfold dyS; simp only [itD, wdD, ovD, idD, inD, hd0, hd9, if_true, if_false]; (repeat' split) <;> first | rfl | (exfalso; omega))
          · refine g_lload_n 3 dX7_lay_382 rfl rfl ?_
            refine g_ldc2 36000 dX7_lay_383 lk_X7_151 ?_
            refine g_ldiv dX7_lay_386 (by decide) ?_
            refine g_l2i dX7_lay_387 ?_
            refine g_istN dX7_lay_388 (by decide) rfl ?_
            refine g_iload_n 3 dX7_lay_390 rfl rfl ?_
            refine g_iload 0 dX7_lay_391 rfl ?_
            refine g_iadd dX7_lay_393 ?_
            refine g_ist_n [_, _, _] _ dX7_lay_394 rfl (by decide) rfl ?_
            refine g_aload_n 2 dX7_lay_395 rfl rfl ?_
            refine gf_X7_65 dX7_lay_396 ?_
            refine g_iload 6 dX7_lay_399 rfl ?_
            refine g_iconst 4 dX7_lay_401 rfl ?_
            refine g_iadd dX7_lay_402 ?_
            rw [show nI (6 * (D / 360)) + 4 = nI ((6 * (D / 360)) + 4) from nI_add _ 4]
            refine g_iload 0 dX7_lay_403 rfl ?_
            refine g_iast (n := 60) _ dX7_lay_405 (by decide) rfl (nI_clamp (by omega)) (nI_rng (by omega) (by decide)) ?_
            (try simp (disch := omega) only [W4_s75, W4_s76])
            refine g_aload_n 2 dX7_lay_406 rfl rfl ?_
            refine gf_X7_65 dX7_lay_407 ?_
            refine g_iload 6 dX7_lay_410 rfl ?_
            refine g_iconst 5 dX7_lay_412 rfl ?_
            refine g_iadd dX7_lay_413 ?_
            rw [show nI (6 * (D / 360)) + 5 = nI ((6 * (D / 360)) + 5) from nI_add _ 5]
            refine g_iload_n 3 dX7_lay_414 rfl rfl ?_
            refine g_iast (n := 60) _ dX7_lay_415 (by decide) rfl (nI_clamp (by omega)) (nI_rng (by omega) (by decide)) ?_
            (try simp (disch := omega) only [W4_s75, W4_s76])
            have hd9 : D % 360 = 359 := eqN (m := 359) rfl rfl (by omega) (by decide) h379
            refine g_aload_n 2 dX7_lay_416 rfl rfl ?_
            refine gf_X7_62 dX7_lay_417 ?_
            refine g_iload 5 dX7_lay_420 rfl ?_
            refine g_iload_n 3 dX7_lay_422 rfl rfl ?_
            refine g_iast (n := 3600) D dX7_lay_423 (by decide) rfl (nI_clamp (by omega)) (nI_rng (by omega) (by decide)) ?_
            (try simp (disch := omega) only [W4_s75, W4_s76])
            refine g_iinc 1 [_, _, _, _, _] _ dX7_lay_424 rfl (by decide) rfl ?_
            refine g_goto 24 dX7_lay_427 (by decide) ?_
            refine g_lv [2, 3, 4, 5] rfl ?_
            exact ih (D + 1) _ _ _ _ _ _ _ (by omega) (by omega) (nI_1 D) (by clear ih; rw [dyF_s, ← hv]; unfold dyS; simp only [itD, wdD, ovD, idD, inD, hd0, hd9, if_true, if_false]; (repeat' split) <;> first | rfl | (exfalso; omega))
        · refine g_iload 0 dX7_lay_352 rfl ?_
          refine g_i2l dX7_lay_354 ?_
          refine g_aload_n 1 dX7_lay_355 rfl rfl ?_
          refine g_iload 4 dX7_lay_356 rfl ?_
          refine g_iconst 2 dX7_lay_358 rfl ?_
          refine ca_X7_97 dX7_lay_359 (t_X7_inForce (p := 2) (nl := nl) (by rw [W4_ne (by decide)]; exact hcl) hnl rfl (by decide)) (by decide) (Nat.le_of_ble_eq_true rfl) ?_
          (try simp (disch := omega) only [W4_ne, W4_75, W4_76, W4_78, W4_79, upd_self, upd_ne])
          refine g_i2l dX7_lay_362 ?_
          refine g_lmul dX7_lay_363 ?_
          refine g_goto 368 dX7_lay_364 (by decide) ?_
          refine g_ladd dX7_lay_368 ?_
          refine g_lst_n [_, _, _] _ dX7_lay_369 rfl (by decide) rfl ?_
          refine g_iload 4 dX7_lay_370 rfl ?_
          refine g_sipush 360 dX7_lay_372 rfl ?_
          refine g_irem dX7_lay_375 (by decide) ?_
          rw [show nI D - nI D / 360 * 360 = nI (D % 360) from pk_rem (a := D) (d := 360) (by omega) (by omega) (by omega)]
          refine g_sipush 359 dX7_lay_376 rfl ?_
          refine g_icmp_ne 416 dX7_lay_379 (by decide) (fun h379 => ?_) (fun h379 => ?_)
          · have hd9 : ¬ D % 360 = 359 := fun e => h379 (by rw [e]; rfl)
            refine g_aload_n 1 dX7_lay_416 rfl rfl ?_
            refine gf_X7_62 dX7_lay_417 ?_
            refine g_iload 4 dX7_lay_420 rfl ?_
            refine g_iload_n 2 dX7_lay_422 rfl rfl ?_
            refine g_iast (n := 3600) D dX7_lay_423 (by decide) rfl (nI_clamp (by omega)) (nI_rng (by omega) (by decide)) ?_
            (try simp (disch := omega) only [W4_s75, W4_s76])
            refine g_iinc 1 [_, _, _, _] _ dX7_lay_424 rfl (by decide) rfl ?_
            refine g_goto 24 dX7_lay_427 (by decide) ?_
            refine g_lv [1, 2, 3, 4] rfl ?_
            exact ih (D + 1) _ _ _ _ _ _ _ (by omega) (by omega) (nI_1 D) (by clear ih; rw [dyF_s, ← hv]; unfold dyS; simp only [itD, wdD, ovD, idD, inD, hd0, hd9, if_true, if_false]; (repeat' split) <;> first | rfl | (exfalso; omega))
          · refine g_lload_n 3 dX7_lay_382 rfl rfl ?_
            refine g_ldc2 36000 dX7_lay_383 lk_X7_151 ?_
            refine g_ldiv dX7_lay_386 (by decide) ?_
            refine g_l2i dX7_lay_387 ?_
            refine g_istN dX7_lay_388 (by decide) rfl ?_
            refine g_iload_n 3 dX7_lay_390 rfl rfl ?_
            refine g_iload 0 dX7_lay_391 rfl ?_
            refine g_iadd dX7_lay_393 ?_
            refine g_ist_n [_, _, _] _ dX7_lay_394 rfl (by decide) rfl ?_
            refine g_aload_n 2 dX7_lay_395 rfl rfl ?_
            refine gf_X7_65 dX7_lay_396 ?_
            refine g_iload 6 dX7_lay_399 rfl ?_
            refine g_iconst 4 dX7_lay_401 rfl ?_
            refine g_iadd dX7_lay_402 ?_
            rw [show nI (6 * (D / 360)) + 4 = nI ((6 * (D / 360)) + 4) from nI_add _ 4]
            refine g_iload 0 dX7_lay_403 rfl ?_
            refine g_iast (n := 60) _ dX7_lay_405 (by decide) rfl (nI_clamp (by omega)) (nI_rng (by omega) (by decide)) ?_
            (try simp (disch := omega) only [W4_s75, W4_s76])
            refine g_aload_n 2 dX7_lay_406 rfl rfl ?_
            refine gf_X7_65 dX7_lay_407 ?_
            refine g_iload 6 dX7_lay_410 rfl ?_
            refine g_iconst 5 dX7_lay_412 rfl ?_
            refine g_iadd dX7_lay_413 ?_
            rw [show nI (6 * (D / 360)) + 5 = nI ((6 * (D / 360)) + 5) from nI_add _ 5]
            refine g_iload_n 3 dX7_lay_414 rfl rfl ?_
            refine g_iast (n := 60) _ dX7_lay_415 (by decide) rfl (nI_clamp (by omega)) (nI_rng (by omega) (by decide)) ?_
            (try simp (disch := omega) only [W4_s75, W4_s76])
            have hd9 : D % 360 = 359 := eqN (m := 359) rfl rfl (by omega) (by decide) h379
            refine g_aload_n 2 dX7_lay_416 rfl rfl ?_
            refine gf_X7_62 dX7_lay_417 ?_
            refine g_iload 5 dX7_lay_420 rfl ?_
            refine g_iload_n 3 dX7_lay_422 rfl rfl ?_
            refine g_iast (n := 3600) D dX7_lay_423 (by decide) rfl (nI_clamp (by omega)) (nI_rng (by omega) (by decide)) ?_
            (try simp (disch := omega) only [W4_s75, W4_s76])
            refine g_iinc 1 [_, _, _, _, _] _ dX7_lay_424 rfl (by decide) rfl ?_
            refine g_goto 24 dX7_lay_427 (by decide) ?_
            refine g_lv [2, 3, 4, 5] rfl ?_
            exact ih (D + 1) _ _ _ _ _ _ _ (by omega) (by omega) (nI_1 D) (by clear ih; rw [dyF_s, ← hv]; unfold dyS; simp only [itD, wdD, ovD, idD, inD, hd0, hd9, if_true, if_false]; (repeat' split) <;> first | rfl | (exfalso; omega))
      · refine g_lconst 0 dX7_lay_52 rfl ?_
        refine g_lst_n [_, _, _] _ dX7_lay_53 rfl (by decide) rfl ?_
        refine g_iconst 0 dX7_lay_54 rfl ?_
        refine g_istN dX7_lay_55 (by decide) rfl ?_
        refine g_lv [2, 3, 4, 5, 1, 0] rfl ?_
        refine l_layK0 (by omega) ?_
        have hd0 : D % 360 = 0 := eqN (m := 0) rfl rfl (by omega) (by decide) h49
        refine g_iconst 0 dX7_lay_90 rfl ?_
        refine g_istN dX7_lay_91 (by decide) rfl ?_
        refine g_lv [1, 2, 3, 4, 5, 0] rfl ?_
        refine l_layI0 hcl hnl hci hni ho (by omega) ?_
        refine g_iconst 0 dX7_lay_196 rfl ?_
        refine g_istN dX7_lay_197 (by decide) rfl ?_
        refine g_lv [1, 2, 3, 4, 5, 0] rfl ?_
        refine l_layW0 hcw hnw (by omega) ?_
        refine g_iload_n 1 dX7_lay_335 rfl rfl ?_
        refine g_aload_n 0 dX7_lay_336 rfl rfl ?_
        refine g_iload 3 dX7_lay_337 rfl ?_
        refine g_iconst 1 dX7_lay_339 rfl ?_
        refine ca_X7_97 dX7_lay_340 (t_X7_inForce (p := 1) (nl := nl) (by rw [W4_ne (by decide)]; exact hcl) hnl rfl (by decide)) (by decide) (Nat.le_of_ble_eq_true rfl) ?_
        (try simp (disch := omega) only [W4_ne, W4_75, W4_76, W4_78, W4_79, upd_self, upd_ne])
        refine g_isub dX7_lay_343 ?_
        refine g_istN dX7_lay_344 (by decide) rfl ?_
        refine g_lload_n 3 dX7_lay_346 rfl rfl ?_
        refine g_iload 0 dX7_lay_347 rfl ?_
        refine g_if_le 367 _ dX7_lay_349 (by decide) rfl (fun h349 => ?_) (fun h349 => ?_)
        · refine g_lconst 0 dX7_lay_367 rfl ?_
          refine g_ladd dX7_lay_368 ?_
          refine g_lst_n [_, _, _] _ dX7_lay_369 rfl (by decide) rfl ?_
          refine g_iload 4 dX7_lay_370 rfl ?_
          refine g_sipush 360 dX7_lay_372 rfl ?_
          refine g_irem dX7_lay_375 (by decide) ?_
          rw [show nI D - nI D / 360 * 360 = nI (D % 360) from pk_rem (a := D) (d := 360) (by omega) (by omega) (by omega)]
          refine g_sipush 359 dX7_lay_376 rfl ?_
          refine g_icmp_ne 416 dX7_lay_379 (by decide) (fun h379 => ?_) (fun h379 => ?_)
          · have hd9 : ¬ D % 360 = 359 := fun e => h379 (by rw [e]; rfl)
            refine g_aload_n 1 dX7_lay_416 rfl rfl ?_
            refine gf_X7_62 dX7_lay_417 ?_
            refine g_iload 4 dX7_lay_420 rfl ?_
            refine g_iload_n 2 dX7_lay_422 rfl rfl ?_
            refine g_iast (n := 3600) D dX7_lay_423 (by decide) rfl (nI_clamp (by omega)) (nI_rng (by omega) (by decide)) ?_
            (try simp (disch := omega) only [W4_s75, W4_s76])
            refine g_iinc 1 [_, _, _, _] _ dX7_lay_424 rfl (by decide) rfl ?_
            refine g_goto 24 dX7_lay_427 (by decide) ?_
            refine g_lv [1, 2, 3, 4] rfl ?_
            exact ih (D + 1) _ _ _ _ _ _ _ (by omega) (by omega) (nI_1 D) (by clear ih; rw [dyF_s, ← hv]; unfold dyS; simp only [itD, wdD, ovD, idD, inD, hd0, hd9, if_true, if_false]; (repeat' split) <;> first | rfl | (exfalso; omega))
          · refine g_lload_n 3 dX7_lay_382 rfl rfl ?_
            refine g_ldc2 36000 dX7_lay_383 lk_X7_151 ?_
            refine g_ldiv dX7_lay_386 (by decide) ?_
            refine g_l2i dX7_lay_387 ?_
            refine g_istN dX7_lay_388 (by decide) rfl ?_
            refine g_iload_n 3 dX7_lay_390 rfl rfl ?_
            refine g_iload 0 dX7_lay_391 rfl ?_
            refine g_iadd dX7_lay_393 ?_
            refine g_ist_n [_, _, _] _ dX7_lay_394 rfl (by decide) rfl ?_
            refine g_aload_n 2 dX7_lay_395 rfl rfl ?_
            refine gf_X7_65 dX7_lay_396 ?_
            refine g_iload 6 dX7_lay_399 rfl ?_
            refine g_iconst 4 dX7_lay_401 rfl ?_
            refine g_iadd dX7_lay_402 ?_
            rw [show nI (6 * (D / 360)) + 4 = nI ((6 * (D / 360)) + 4) from nI_add _ 4]
            refine g_iload 0 dX7_lay_403 rfl ?_
            refine g_iast (n := 60) _ dX7_lay_405 (by decide) rfl (nI_clamp (by omega)) (nI_rng (by omega) (by decide)) ?_
            (try simp (disch := omega) only [W4_s75, W4_s76])
            refine g_aload_n 2 dX7_lay_406 rfl rfl ?_
            refine gf_X7_65 dX7_lay_407 ?_
            refine g_iload 6 dX7_lay_410 rfl ?_
            refine g_iconst 5 dX7_lay_412 rfl ?_
            refine g_iadd dX7_lay_413 ?_
            rw [show nI (6 * (D / 360)) + 5 = nI ((6 * (D / 360)) + 5) from nI_add _ 5]
            refine g_iload_n 3 dX7_lay_414 rfl rfl ?_
            refine g_iast (n := 60) _ dX7_lay_415 (by decide) rfl (nI_clamp (by omega)) (nI_rng (by omega) (by decide)) ?_
            (try simp (disch := omega) only [W4_s75, W4_s76])
            have hd9 : D % 360 = 359 := eqN (m := 359) rfl rfl (by omega) (by decide) h379
            refine g_aload_n 2 dX7_lay_416 rfl rfl ?_
            refine gf_X7_62 dX7_lay_417 ?_
            refine g_iload 5 dX7_lay_420 rfl ?_
            refine g_iload_n 3 dX7_lay_422 rfl rfl ?_
            refine g_iast (n := 3600) D dX7_lay_423 (by decide) rfl (nI_clamp (by omega)) (nI_rng (by omega) (by decide)) ?_
            (try simp (disch := omega) only [W4_s75, W4_s76])
            refine g_iinc 1 [_, _, _, _, _] _ dX7_lay_424 rfl (by decide) rfl ?_
            refine g_goto 24 dX7_lay_427 (by decide) ?_
            refine g_lv [2, 3, 4, 5] rfl ?_
            exact ih (D + 1) _ _ _ _ _ _ _ (by omega) (by omega) (nI_1 D) (by clear ih; rw [dyF_s, ← hv]; unfold dyS; simp only [itD, wdD, ovD, idD, inD, hd0, hd9, if_true, if_false]; (repeat' split) <;> first | rfl | (exfalso; omega))
        · refine g_iload 0 dX7_lay_352 rfl ?_
          refine g_i2l dX7_lay_354 ?_
          refine g_aload_n 1 dX7_lay_355 rfl rfl ?_
          refine g_iload 4 dX7_lay_356 rfl ?_
          refine g_iconst 2 dX7_lay_358 rfl ?_
          refine ca_X7_97 dX7_lay_359 (t_X7_inForce (p := 2) (nl := nl) (by rw [W4_ne (by decide)]; exact hcl) hnl rfl (by decide)) (by decide) (Nat.le_of_ble_eq_true rfl) ?_
          (try simp (disch := omega) only [W4_ne, W4_75, W4_76, W4_78, W4_79, upd_self, upd_ne])
          refine g_i2l dX7_lay_362 ?_
          refine g_lmul dX7_lay_363 ?_
          refine g_goto 368 dX7_lay_364 (by decide) ?_
          refine g_ladd dX7_lay_368 ?_
          refine g_lst_n [_, _, _] _ dX7_lay_369 rfl (by decide) rfl ?_
          refine g_iload 4 dX7_lay_370 rfl ?_
          refine g_sipush 360 dX7_lay_372 rfl ?_
          refine g_irem dX7_lay_375 (by decide) ?_
          rw [show nI D - nI D / 360 * 360 = nI (D % 360) from pk_rem (a := D) (d := 360) (by omega) (by omega) (by omega)]
          refine g_sipush 359 dX7_lay_376 rfl ?_
          refine g_icmp_ne 416 dX7_lay_379 (by decide) (fun h379 => ?_) (fun h379 => ?_)
          · have hd9 : ¬ D % 360 = 359 := fun e => h379 (by rw [e]; rfl)
            refine g_aload_n 1 dX7_lay_416 rfl rfl ?_
            refine gf_X7_62 dX7_lay_417 ?_
            refine g_iload 4 dX7_lay_420 rfl ?_
            refine g_iload_n 2 dX7_lay_422 rfl rfl ?_
            refine g_iast (n := 3600) D dX7_lay_423 (by decide) rfl (nI_clamp (by omega)) (nI_rng (by omega) (by decide)) ?_
            (try simp (disch := omega) only [W4_s75, W4_s76])
            refine g_iinc 1 [_, _, _, _] _ dX7_lay_424 rfl (by decide) rfl ?_
            refine g_goto 24 dX7_lay_427 (by decide) ?_
            refine g_lv [1, 2, 3, 4] rfl ?_
            exact ih (D + 1) _ _ _ _ _ _ _ (by omega) (by omega) (nI_1 D) (by clear ih; rw [dyF_s, ← hv]; unfold dyS; simp only [itD, wdD, ovD, idD, inD, hd0, hd9, if_true, if_false]; (repeat' split) <;> first | rfl | (exfalso; omega))
          · refine g_lload_n 3 dX7_lay_382 rfl rfl ?_
            refine g_ldc2 36000 dX7_lay_383 lk_X7_151 ?_
            refine g_ldiv dX7_lay_386 (by decide) ?_
            refine g_l2i dX7_lay_387 ?_
            refine g_istN dX7_lay_388 (by decide) rfl ?_
            refine g_iload_n 3 dX7_lay_390 rfl rfl ?_
            refine g_iload 0 dX7_lay_391 rfl ?_
            refine g_iadd dX7_lay_393 ?_
            refine g_ist_n [_, _, _] _ dX7_lay_394 rfl (by decide) rfl ?_
            refine g_aload_n 2 dX7_lay_395 rfl rfl ?_
            refine gf_X7_65 dX7_lay_396 ?_
            refine g_iload 6 dX7_lay_399 rfl ?_
            refine g_iconst 4 dX7_lay_401 rfl ?_
            refine g_iadd dX7_lay_402 ?_
            rw [show nI (6 * (D / 360)) + 4 = nI ((6 * (D / 360)) + 4) from nI_add _ 4]
            refine g_iload 0 dX7_lay_403 rfl ?_
            refine g_iast (n := 60) _ dX7_lay_405 (by decide) rfl (nI_clamp (by omega)) (nI_rng (by omega) (by decide)) ?_
            (try simp (disch := omega) only [W4_s75, W4_s76])
            refine g_aload_n 2 dX7_lay_406 rfl rfl ?_
            refine gf_X7_65 dX7_lay_407 ?_
            refine g_iload 6 dX7_lay_410 rfl ?_
            refine g_iconst 5 dX7_lay_412 rfl ?_
            refine g_iadd dX7_lay_413 ?_
            rw [show nI (6 * (D / 360)) + 5 = nI ((6 * (D / 360)) + 5) from nI_add _ 5]
            refine g_iload_n 3 dX7_lay_414 rfl rfl ?_
            refine g_iast (n := 60) _ dX7_lay_415 (by decide) rfl (nI_clamp (by omega)) (nI_rng (by omega) (by decide)) ?_
            (try simp (disch := omega) only [W4_s75, W4_s76])
            have hd9 : D % 360 = 359 := eqN (m := 359) rfl rfl (by omega) (by decide) h379
            refine g_aload_n 2 dX7_lay_416 rfl rfl ?_
            refine gf_X7_62 dX7_lay_417 ?_
            refine g_iload 5 dX7_lay_420 rfl ?_
            refine g_iload_n 3 dX7_lay_422 rfl rfl ?_
            refine g_iast (n := 3600) D dX7_lay_423 (by decide) rfl (nI_clamp (by omega)) (nI_rng (by omega) (by decide)) ?_
            (try simp (disch := omega) only [W4_s75, W4_s76])
            refine g_iinc 1 [_, _, _, _, _] _ dX7_lay_424 rfl (by decide) rfl ?_
            refine g_goto 24 dX7_lay_427 (by decide) ?_
            refine g_lv [2, 3, 4, 5] rfl ?_
            exact ih (D + 1) _ _ _ _ _ _ _ (by omega) (by omega) (nI_1 D) (by clear ih; rw [dyF_s, ← hv]; unfold dyS; simp only [itD, wdD, ovD, idD, inD, hd0, hd9, if_true, if_false]; (repeat' split) <;> first | rfl | (exfalso; omega))
theorem fullMW_ne {w : W0} {nl nw q : Nat} (h : q < 77 ∨ 79 < q) : fullMW w nl nw q = w q := by
  unfold fullMW
  rw [setA_ne (by omega), setA_ne (by omega), setA_ne (by omega)]
abbrev baseM (w : W0) (nl nw : Nat) : W0 := fullMW (setW w 57 23 1) nl nw
theorem baseM_57 {w : W0} {nl nw k : Nat} (h : ¬ k = 23) : baseM w nl nw 57 k = w 57 k := by
  unfold baseM
  rw [fullMW_ne (by decide), setW_p, upd_ne h]
theorem baseM_ne {w : W0} {nl nw q : Nat} (h : q < 57 ∨ (57 < q ∧ q < 77) ∨ 79 < q) : baseM w nl nw q = w q := by
  unfold baseM
  rw [fullMW_ne (by omega), setW_ne (by omega)]
def layM (w : W0) (nl nw ni : Nat) : W0 := if w 57 23 = 0 then outM (baseM w nl nw) (dyF (baseM w nl nw) nl nw ni 3600) else w
theorem layM_57 {w : W0} {nl nw ni k : Nat} (h : ¬ k = 23) : layM w nl nw ni 57 k = w 57 k := by
  unfold layM
  split
  · unfold outM
    rw [W4_ne (by decide), baseM_57 h]
  · rfl
theorem layM_ne {w : W0} {nl nw ni q : Nat} (h : q < 57 ∨ (57 < q ∧ q < 75) ∨ 79 < q) : layM w nl nw ni q = w q := by
  unfold layM
  split
  · unfold outM
    rw [W4_ne (by omega), baseM_ne (by omega)]
  · rfl
set_option maxRecDepth 20000 in
theorem t_X7_lay {E : En} {w : W0} {nl nw ni : Nat} (hcl : w 57 0 = nI nl) (hnl : nl ≤ 8) (hcw : w 57 3 = nI nw) (hnw : nw ≤ 6) (hci : w 57 9 = nI ni) (hni : ni ≤ 60) (ho : ∀ k, k < ni → (w 67 k).toInt < 10) : Mt E 3 yX7_lay cX7_lay 8 (none) [.ref (E.1 57)] w none (layM w nl nw ni) := by
  refine Mt.of (by decide +kernel) (Nat.le_of_ble_eq_true rfl) ?_
  show G E 3 RX7 cX7_lay 8 (none) _ _ 0 [(0, .ref (E.1 57))] [] w
  refine g_aload_n 0 dX7_lay_0 rfl rfl ?_
  refine gf_X7_89 dX7_lay_1 ?_
  refine g_if_eq 8 dX7_lay_4 (by decide) (fun h4 => ?_) (fun h4 => ?_)
  · refine g_aload_n 0 dX7_lay_8 rfl rfl ?_
    refine g_iconst 1 dX7_lay_9 rfl ?_
    refine pf_X7_89 dX7_lay_10 rfl rfl ?_
    (try simp (disch := omega) only [setW_setA, setW_setA_ne])
    refine g_aload_n 0 dX7_lay_13 rfl rfl ?_
    refine ca_X7_148 dX7_lay_14 (t_X7_layFullDays (nl := nl) (nw := nw) (by simp (disch := omega) only [setW_p, upd_ne]; exact hcl) hnl (by simp (disch := omega) only [setW_p, upd_ne]; exact hcw) hnw) (by decide) (Nat.le_of_ble_eq_true rfl) ?_
    (try simp (disch := omega) only [setW_ne])
    refine g_iconst 0 dX7_lay_17 rfl ?_
    refine g_istN_n dX7_lay_18 rfl (by decide) rfl ?_
    refine g_lconst 0 dX7_lay_19 rfl ?_
    refine g_lstN_n dX7_lay_20 rfl (by decide) rfl ?_
    refine g_iconst 0 dX7_lay_21 rfl ?_
    refine g_istN dX7_lay_22 (by decide) rfl ?_
    refine g_lv [3, 2, 1, 0] rfl ?_
    rw [layM, if_pos h4]
    have hl := l_lay (E := E) (w := baseM w nl nw) (nl := nl) (nw := nw) (ni := ni) (by rw [baseM_57 (by decide)]; exact hcl) hnl (by rw [baseM_57 (by decide)]; exact hcw) hnw (by rw [baseM_57 (by decide)]; exact hci) hni (by rw [baseM_ne (by decide)]; exact ho) 3601 0 _ _ _ _ _ 0 _ (by omega) (by omega) rfl rfl
    rw [W4_self] at hl
    exact hl
  · refine g_vret dX7_lay_7 rfl rfl ?_
    · unfold layM; rw [if_neg h4]
def aboutM (w : W0) (i what : Int32) : Int32 := if what.toInt = 0 then w 60 i.toNatClampNeg else if what.toInt = 1 then w 61 i.toNatClampNeg else if what.toInt = 2 then w 77 i.toNatClampNeg else if what.toInt = 3 then w 78 i.toNatClampNeg else if what.toInt = 4 then w 79 i.toNatClampNeg else -100000002
set_option maxRecDepth 20000 in
theorem t_X7_about {E : En} {w : W0} {nl nw ni : Nat} (hcl : w 57 0 = nI nl) (hnl : nl ≤ 8) (hcw : w 57 3 = nI nw) (hnw : nw ≤ 6) (hci : w 57 9 = nI ni) (hni : ni ≤ 60) (ho : ∀ k, k < ni → (w 67 k).toInt < 10) {i what : Int32} : Mt E 4 yX7_about cX7_about 3 (some .int) [.ref (E.1 57), .int i, .int what] w (some (.int (if inP i nw then aboutM (layM w nl nw ni) i what else -100000001))) (if inP i nw then layM w nl nw ni else w) := by
  refine Mt.of (by decide +kernel) (Nat.le_of_ble_eq_true rfl) ?_
  show G E 4 RX7 cX7_about 3 (some .int) _ _ 0 [(0, .ref (E.1 57)), (1, .int i), (2, .int what)] [] w
  refine g_aload_n 0 dX7_about_0 rfl rfl ?_
  refine g_iload_n 1 dX7_about_1 rfl rfl ?_
  refine ca_X7_104 dX7_about_2 (t_X7_isWard hcw hnw) (by decide) (Nat.le_of_ble_eq_true rfl) ?_
  refine g_if_neb 11 dX7_about_5 (by decide) (fun h5 => ?_) (fun h5 => ?_)
  · refine g_aload_n 0 dX7_about_11 rfl rfl ?_
    refine ca_X7_112 dX7_about_12 (t_X7_lay hcl hnl hcw hnw hci hni ho) (by decide) (Nat.le_of_ble_eq_true rfl) ?_
    refine g_iload_n 2 dX7_about_15 rfl rfl ?_
    rcases sw4 what with hsw | hsw | hsw | hsw | hsw | hsw
    · refine g_tableIn (off := 36) 52 dX7_about_16 (by rw [hsw]; decide) (by rw [hsw]; decide) (by rw [hsw]; rfl) (by decide) ?_
      refine g_aload_n 0 dX7_about_52 rfl rfl ?_
      refine gf_X7_16 dX7_about_53 ?_
      refine g_iload_n 1 dX7_about_56 rfl rfl ?_
      refine g_iald (n := 6) _ dX7_about_57 (by decide) rfl rfl (by omega) ?_
      refine g_iret dX7_about_58 rfl rfl ?_ ?_
      · unfold aboutM; (repeat' split) <;> first | rfl | (exfalso; omega) | (exfalso; simp_all; done) | (exfalso; simp_all; omega)
      · (repeat' split) <;> first | rfl | (exfalso; omega) | (exfalso; simp_all; done) | (exfalso; simp_all; omega)
    · refine g_tableIn (off := 43) 59 dX7_about_16 (by rw [hsw]; decide) (by rw [hsw]; decide) (by rw [hsw]; rfl) (by decide) ?_
      refine g_aload_n 0 dX7_about_59 rfl rfl ?_
      refine gf_X7_19 dX7_about_60 ?_
      refine g_iload_n 1 dX7_about_63 rfl rfl ?_
      refine g_iald (n := 6) _ dX7_about_64 (by decide) rfl rfl (by omega) ?_
      refine g_iret dX7_about_65 rfl rfl ?_ ?_
      · unfold aboutM; (repeat' split) <;> first | rfl | (exfalso; omega) | (exfalso; simp_all; done) | (exfalso; simp_all; omega)
      · (repeat' split) <;> first | rfl | (exfalso; omega) | (exfalso; simp_all; done) | (exfalso; simp_all; omega)
    · refine g_tableIn (off := 50) 66 dX7_about_16 (by rw [hsw]; decide) (by rw [hsw]; decide) (by rw [hsw]; rfl) (by decide) ?_
      refine g_aload_n 0 dX7_about_66 rfl rfl ?_
      refine gf_X7_68 dX7_about_67 ?_
      refine g_iload_n 1 dX7_about_70 rfl rfl ?_
      refine g_iald (n := 6) _ dX7_about_71 (by decide) rfl rfl (by omega) ?_
      refine g_iret dX7_about_72 rfl rfl ?_ ?_
      · unfold aboutM; (repeat' split) <;> first | rfl | (exfalso; omega) | (exfalso; simp_all; done) | (exfalso; simp_all; omega)
      · (repeat' split) <;> first | rfl | (exfalso; omega) | (exfalso; simp_all; done) | (exfalso; simp_all; omega)
    · refine g_tableIn (off := 57) 73 dX7_about_16 (by rw [hsw]; decide) (by rw [hsw]; decide) (by rw [hsw]; rfl) (by decide) ?_
      refine g_aload_n 0 dX7_about_73 rfl rfl ?_
      refine gf_X7_71 dX7_about_74 ?_
      refine g_iload_n 1 dX7_about_77 rfl rfl ?_
      refine g_iald (n := 6) _ dX7_about_78 (by decide) rfl rfl (by omega) ?_
      refine g_iret dX7_about_79 rfl rfl ?_ ?_
      · unfold aboutM; (repeat' split) <;> first | rfl | (exfalso; omega) | (exfalso; simp_all; done) | (exfalso; simp_all; omega)
      · (repeat' split) <;> first | rfl | (exfalso; omega) | (exfalso; simp_all; done) | (exfalso; simp_all; omega)
    · refine g_tableIn (off := 64) 80 dX7_about_16 (by rw [hsw]; decide) (by rw [hsw]; decide) (by rw [hsw]; rfl) (by decide) ?_
      refine g_aload_n 0 dX7_about_80 rfl rfl ?_
      refine gf_X7_74 dX7_about_81 ?_
      refine g_iload_n 1 dX7_about_84 rfl rfl ?_
      refine g_iald (n := 6) _ dX7_about_85 (by decide) rfl rfl (by omega) ?_
      refine g_iret dX7_about_86 rfl rfl ?_ ?_
      · unfold aboutM; (repeat' split) <;> first | rfl | (exfalso; omega) | (exfalso; simp_all; done) | (exfalso; simp_all; omega)
      · (repeat' split) <;> first | rfl | (exfalso; omega) | (exfalso; simp_all; done) | (exfalso; simp_all; omega)
    · refine g_tableOut 87 dX7_about_16 (by omega) (by decide) ?_
      refine g_ldc (-100000002) dX7_about_87 lk_X7_115 ?_
      refine g_iret dX7_about_89 rfl rfl ?_ ?_
      · unfold aboutM; (repeat' split) <;> first | rfl | (exfalso; omega) | (exfalso; simp_all; done) | (exfalso; simp_all; omega)
      · (repeat' split) <;> first | rfl | (exfalso; omega) | (exfalso; simp_all; done) | (exfalso; simp_all; omega)
  · refine g_ldc (-100000001) dX7_about_8 lk_X7_111 ?_
    refine g_iret dX7_about_10 rfl rfl ?_ ?_
    · unfold aboutM; (repeat' split) <;> first | rfl | (exfalso; omega) | (exfalso; simp_all; done) | (exfalso; simp_all; omega)
    · (repeat' split) <;> first | rfl | (exfalso; omega) | (exfalso; simp_all; done) | (exfalso; simp_all; omega)
set_option maxRecDepth 20000 in
theorem t_X7_heads {E : En} {w : W0} {nl nw ni : Nat} (hcl : w 57 0 = nI nl) (hnl : nl ≤ 8) (hcw : w 57 3 = nI nw) (hnw : nw ≤ 6) (hci : w 57 9 = nI ni) (hni : ni ≤ 60) (ho : ∀ k, k < ni → (w 67 k).toInt < 10) {day : Int32} : Mt E 4 yX7_heads cX7_heads 2 (some .int) [.ref (E.1 57), .int day] w (some (.int (if dayP day then hdM (layM w nl nw ni 60) (layM w nl nw ni 61) (layM w nl nw ni 78) day 1 nw else -2))) (if dayP day then layM w nl nw ni else w) := by
  refine Mt.of (by decide +kernel) (Nat.le_of_ble_eq_true rfl) ?_
  show G E 4 RX7 cX7_heads 2 (some .int) _ _ 0 [(0, .ref (E.1 57)), (1, .int day)] [] w
  refine g_iload_n 1 dX7_heads_0 rfl rfl ?_
  refine ca_X7_81 dX7_heads_1 (t_X7_isDay) (by decide) (Nat.le_of_ble_eq_true rfl) ?_
  refine g_if_neb 10 dX7_heads_4 (by decide) (fun h4 => ?_) (fun h4 => ?_)
  · refine g_aload_n 0 dX7_heads_10 rfl rfl ?_
    refine ca_X7_112 dX7_heads_11 (t_X7_lay hcl hnl hcw hnw hci hni ho) (by decide) (Nat.le_of_ble_eq_true rfl) ?_
    refine g_aload_n 0 dX7_heads_14 rfl rfl ?_
    refine g_iload_n 1 dX7_heads_15 rfl rfl ?_
    refine g_iconst 1 dX7_heads_16 rfl ?_
    refine ca_X7_116 dX7_heads_17 (t_X7_headsOn (by rw [layM_57 (by decide)]; exact hcw) hnw) (by decide) (Nat.le_of_ble_eq_true rfl) ?_
    refine g_iret dX7_heads_20 rfl rfl ?_ ?_
    · (repeat' split) <;> first | rfl | (exfalso; omega) | (exfalso; simp_all; done) | (exfalso; simp_all; omega)
    · (repeat' split) <;> first | rfl | (exfalso; omega) | (exfalso; simp_all; done) | (exfalso; simp_all; omega)
  · refine g_bipush (-2) dX7_heads_7 rfl ?_
    refine g_iret dX7_heads_9 rfl rfl ?_ ?_
    · (repeat' split) <;> first | rfl | (exfalso; omega) | (exfalso; simp_all; done) | (exfalso; simp_all; omega)
    · (repeat' split) <;> first | rfl | (exfalso; omega) | (exfalso; simp_all; done) | (exfalso; simp_all; omega)
set_option maxRecDepth 20000 in
theorem t_X7_pot {E : En} {w : W0} {nl nw ni : Nat} (hcl : w 57 0 = nI nl) (hnl : nl ≤ 8) (hcw : w 57 3 = nI nw) (hnw : nw ≤ 6) (hci : w 57 9 = nI ni) (hni : ni ≤ 60) (ho : ∀ k, k < ni → (w 67 k).toInt < 10) {day : Int32} : Mt E 4 yX7_pot cX7_pot 2 (some .int) [.ref (E.1 57), .int day] w (some (.int (if dayP day then layM w nl nw ni 75 day.toNatClampNeg else -100000002))) (if dayP day then layM w nl nw ni else w) := by
  refine Mt.of (by decide +kernel) (Nat.le_of_ble_eq_true rfl) ?_
  show G E 4 RX7 cX7_pot 2 (some .int) _ _ 0 [(0, .ref (E.1 57)), (1, .int day)] [] w
  refine g_iload_n 1 dX7_pot_0 rfl rfl ?_
  refine ca_X7_81 dX7_pot_1 (t_X7_isDay) (by decide) (Nat.le_of_ble_eq_true rfl) ?_
  refine g_if_neb 10 dX7_pot_4 (by decide) (fun h4 => ?_) (fun h4 => ?_)
  · refine g_aload_n 0 dX7_pot_10 rfl rfl ?_
    refine ca_X7_112 dX7_pot_11 (t_X7_lay hcl hnl hcw hnw hci hni ho) (by decide) (Nat.le_of_ble_eq_true rfl) ?_
    refine g_aload_n 0 dX7_pot_14 rfl rfl ?_
    refine gf_X7_62 dX7_pot_15 ?_
    refine g_iload_n 1 dX7_pot_18 rfl rfl ?_
    refine g_iald (n := 3600) _ dX7_pot_19 (by decide) rfl rfl (by omega) ?_
    refine g_iret dX7_pot_20 rfl rfl ?_ ?_
    · (repeat' split) <;> first | rfl | (exfalso; omega) | (exfalso; simp_all; done) | (exfalso; simp_all; omega)
    · (repeat' split) <;> first | rfl | (exfalso; omega) | (exfalso; simp_all; done) | (exfalso; simp_all; omega)
  · refine g_ldc (-100000002) dX7_pot_7 lk_X7_115 ?_
    refine g_iret dX7_pot_9 rfl rfl ?_ ?_
    · (repeat' split) <;> first | rfl | (exfalso; omega) | (exfalso; simp_all; done) | (exfalso; simp_all; omega)
    · (repeat' split) <;> first | rfl | (exfalso; omega) | (exfalso; simp_all; done) | (exfalso; simp_all; omega)
set_option maxRecDepth 20000 in
theorem t_X7_account {E : En} {w : W0} {nl nw ni : Nat} (hcl : w 57 0 = nI nl) (hnl : nl ≤ 8) (hcw : w 57 3 = nI nw) (hnw : nw ≤ 6) (hci : w 57 9 = nI ni) (hni : ni ≤ 60) (ho : ∀ k, k < ni → (w 67 k).toInt < 10) {y z : Int32} : Mt E 4 yX7_account cX7_account 3 (some .int) [.ref (E.1 57), .int y, .int z] w (some (.int (if yearP y then (if 0 ≤ z.toInt ∧ z.toInt ≤ 5 then layM w nl nw ni 76 (6 * y.toNatClampNeg + z.toNatClampNeg) else -100000002) else -100000001))) (if yearP y ∧ (0 ≤ z.toInt ∧ z.toInt ≤ 5) then layM w nl nw ni else w) := by
  refine Mt.of (by decide +kernel) (Nat.le_of_ble_eq_true rfl) ?_
  show G E 4 RX7 cX7_account 3 (some .int) _ _ 0 [(0, .ref (E.1 57)), (1, .int y), (2, .int z)] [] w
  refine g_iload_n 1 dX7_account_0 rfl rfl ?_
  refine ca_X7_153 dX7_account_1 (t_X7_isYear) (by decide) (Nat.le_of_ble_eq_true rfl) ?_
  refine g_if_neb 10 dX7_account_4 (by decide) (fun h4 => ?_) (fun h4 => ?_)
  · refine g_iload_n 2 dX7_account_10 rfl rfl ?_
    refine g_iconst 0 dX7_account_11 rfl ?_
    refine g_iconst 5 dX7_account_12 rfl ?_
    refine ca_X7_77 dX7_account_13 (t_X7_in 0 5 rfl rfl) (by decide) (Nat.le_of_ble_eq_true rfl) ?_
    refine g_if_neb 22 dX7_account_16 (by decide) (fun h16 => ?_) (fun h16 => ?_)
    · refine g_aload_n 0 dX7_account_22 rfl rfl ?_
      refine ca_X7_112 dX7_account_23 (t_X7_lay hcl hnl hcw hnw hci hni ho) (by decide) (Nat.le_of_ble_eq_true rfl) ?_
      refine g_aload_n 0 dX7_account_26 rfl rfl ?_
      refine gf_X7_65 dX7_account_27 ?_
      refine g_bipush 6 dX7_account_30 rfl ?_
      refine g_iload_n 1 dX7_account_32 rfl rfl ?_
      refine g_imul dX7_account_33 ?_
      refine g_iload_n 2 dX7_account_34 rfl rfl ?_
      refine g_iadd dX7_account_35 ?_
      refine g_iald (n := 60) (6 * y.toNatClampNeg + z.toNatClampNeg) dX7_account_36 (by decide) rfl (ix6w (nI_back (by omega)) (nI_back (by omega)) (nat_lt (by omega) (by omega)) (nat_lt (by omega) (by omega))).1 ((ix6w (nI_back (by omega)) (nI_back (by omega)) (nat_lt (by omega) (by omega)) (nat_lt (by omega) (by omega))).2) ?_
      refine g_iret dX7_account_37 rfl rfl ?_ ?_
      · (repeat' split) <;> first | rfl | (exfalso; omega) | (exfalso; simp_all; done) | (exfalso; simp_all; omega)
      · (repeat' split) <;> first | rfl | (exfalso; omega) | (exfalso; simp_all; done) | (exfalso; simp_all; omega)
    · refine g_ldc (-100000002) dX7_account_19 lk_X7_115 ?_
      refine g_iret dX7_account_21 rfl rfl ?_ ?_
      · (repeat' split) <;> first | rfl | (exfalso; omega) | (exfalso; simp_all; done) | (exfalso; simp_all; omega)
      · (repeat' split) <;> first | rfl | (exfalso; omega) | (exfalso; simp_all; done) | (exfalso; simp_all; omega)
  · refine g_ldc (-100000001) dX7_account_7 lk_X7_111 ?_
    refine g_iret dX7_account_9 rfl rfl ?_ ?_
    · (repeat' split) <;> first | rfl | (exfalso; omega) | (exfalso; simp_all; done) | (exfalso; simp_all; omega)
    · (repeat' split) <;> first | rfl | (exfalso; omega) | (exfalso; simp_all; done) | (exfalso; simp_all; omega)
/-- dst, but src on the k places from a on -/
def cpF (a : Nat) (src dst : Nat → Int32) (k : Nat) : Nat → Int32 := fun j => if a ≤ j ∧ j < a + k then src j else dst j
theorem cpF_0 (a : Nat) (src dst : Nat → Int32) : cpF a src dst 0 = dst := by
  funext j
  unfold cpF
  rw [if_neg (by omega)]
theorem cpF_s (a : Nat) (src dst : Nat → Int32) (k : Nat) : upd (cpF a src dst k) (a + k) (src (a + k)) = cpF a src dst (k + 1) := by
  funext j
  unfold upd cpF
  by_cases h : j = a + k
  · subst h
    rw [if_pos rfl, if_pos (by omega)]
  · rw [if_neg h]
    by_cases h2 : a ≤ j ∧ j < a + k
    · rw [if_pos h2, if_pos (by omega)]
    · rw [if_neg h2, if_neg (by omega)]
def passW (w : W0) (Y : Nat) : W0 := setW (setA w 74 (cpF (6 * Y) (w 76) (w 74) 6)) 57 22 (w 57 22 ||| (1 <<< (nI Y &&& 31)))
set_option maxRecDepth 20000 in
theorem l_pass {E : En} {w : W0} {Y : Nat} (hY : Y < 10) : ∀ (n : Nat) (k : Nat) (x : Int32), 6 + 1 ≤ k + n → k ≤ 6 → x = nI k → G E 4 RX7 cX7_pass 3 (some .int) (some (.int (w 76 (6 * Y + 5)))) (passW w Y) 16 [(0, .ref (E.1 57)), (1, .int (nI Y)), (2, .int x)] [] (setA w 74 (cpF (6 * Y) (w 76) (w 74) k)) := by
  intro n
  induction n with
  | zero =>
    intro k x hfu hk hx
    exact absurd hfu (by omega)
  | succ n ih =>
    intro k x hfu hk hx
    have hxi : x.toInt = (k : Int) := by rw [hx]; exact nI_toInt (by omega)
    refine g_iload_n 2 dX7_pass_16 rfl rfl ?_
    refine g_bipush 6 dX7_pass_17 rfl ?_
    refine g_icmp_ge 50 (k : Int) 6 dX7_pass_19 (by decide) hxi rfl (fun h19 => ?_) (fun h19 => ?_)
    · refine g_aload_n 0 dX7_pass_50 rfl rfl ?_
      refine g_dup dX7_pass_51 rfl ?_
      refine gf_X7_156 dX7_pass_52 ?_
      (try simp (disch := omega) only [setW_ne, setW_p, setA_ne, setA_p, upd_self, upd_ne])
      refine g_iconst 1 dX7_pass_55 rfl ?_
      refine g_iload_n 1 dX7_pass_56 rfl rfl ?_
      refine g_ishl dX7_pass_57 ?_
      refine g_ior dX7_pass_58 ?_
      refine pf_X7_156 dX7_pass_59 ?_
      (try simp (disch := omega) only [setW_setA, setW_setA_ne])
      refine g_aload_n 0 dX7_pass_62 rfl rfl ?_
      refine gf_X7_65 dX7_pass_63 ?_
      refine g_bipush 6 dX7_pass_66 rfl ?_
      refine g_iload_n 1 dX7_pass_68 rfl rfl ?_
      refine g_imul dX7_pass_69 ?_
      refine g_iconst 5 dX7_pass_70 rfl ?_
      refine g_iadd dX7_pass_71 ?_
      refine g_iald (n := 60) (6 * Y + 5) dX7_pass_72 (by decide) rfl (ix6w (n := Y) (c := 5) rfl rfl hY (by decide)).1 ((ix6w (n := Y) (c := 5) rfl rfl hY (by decide)).2) ?_
      (try simp (disch := omega) only [setW_ne, setW_p, setA_ne, setA_p, upd_self, upd_ne])
      refine g_iret dX7_pass_73 rfl rfl ?_ ?_
      · rfl
      · rw [show k = 6 by omega]; unfold passW; try simp (disch := omega) only [setW_setA, setW_setA_ne]
    · refine g_aload_n 0 dX7_pass_22 rfl rfl ?_
      refine gf_X7_59 dX7_pass_23 ?_
      refine g_bipush 6 dX7_pass_26 rfl ?_
      refine g_iload_n 1 dX7_pass_28 rfl rfl ?_
      refine g_imul dX7_pass_29 ?_
      refine g_iload_n 2 dX7_pass_30 rfl rfl ?_
      refine g_iadd dX7_pass_31 ?_
      refine g_aload_n 0 dX7_pass_32 rfl rfl ?_
      refine gf_X7_65 dX7_pass_33 ?_
      refine g_bipush 6 dX7_pass_36 rfl ?_
      refine g_iload_n 1 dX7_pass_38 rfl rfl ?_
      refine g_imul dX7_pass_39 ?_
      refine g_iload_n 2 dX7_pass_40 rfl rfl ?_
      refine g_iadd dX7_pass_41 ?_
      refine g_iald (n := 60) (6 * Y + k) dX7_pass_42 (by decide) rfl (ix6w (n := Y) (c := k) rfl hx hY (by omega)).1 ((ix6w (n := Y) (c := k) rfl hx hY (by omega)).2) ?_
      (try simp (disch := omega) only [setW_ne, setW_p, setA_ne, setA_p, upd_self, upd_ne])
      refine g_iast (n := 60) (6 * Y + k) dX7_pass_43 (by decide) rfl (ix6w (n := Y) (c := k) rfl hx hY (by omega)).1 ((ix6w (n := Y) (c := k) rfl hx hY (by omega)).2) ?_
      (try simp (disch := omega) only [setW_setA, setW_setA_ne])
      refine g_iinc 1 [_, _] _ dX7_pass_44 rfl (by decide) rfl ?_
      refine g_goto 16 dX7_pass_47 (by decide) ?_
      have hh := ih (k + 1) (x + 1) (by omega) (by omega) (by rw [hx, nI_1])
      rw [← cpF_s] at hh
      exact hh
set_option maxRecDepth 20000 in
theorem t_X7_pass {E : En} {w : W0} {nl nw ni : Nat} (hcl : w 57 0 = nI nl) (hnl : nl ≤ 8) (hcw : w 57 3 = nI nw) (hnw : nw ≤ 6) (hci : w 57 9 = nI ni) (hni : ni ≤ 60) (ho : ∀ k, k < ni → (w 67 k).toInt < 10) {y : Int32} : Mt E 4 yX7_pass cX7_pass 3 (some .int) [.ref (E.1 57), .int y] w (some (.int (if yearP y then layM w nl nw ni 76 (6 * y.toNatClampNeg + 5) else -100000001))) (if yearP y then passW (layM w nl nw ni) y.toNatClampNeg else w) := by
  refine Mt.of (by decide +kernel) (Nat.le_of_ble_eq_true rfl) ?_
  show G E 4 RX7 cX7_pass 3 (some .int) _ _ 0 [(0, .ref (E.1 57)), (1, .int y)] [] w
  refine g_iload_n 1 dX7_pass_0 rfl rfl ?_
  refine ca_X7_153 dX7_pass_1 (t_X7_isYear) (by decide) (Nat.le_of_ble_eq_true rfl) ?_
  refine g_if_neb 10 dX7_pass_4 (by decide) (fun h4 => ?_) (fun h4 => ?_)
  · refine g_aload_n 0 dX7_pass_10 rfl rfl ?_
    refine ca_X7_112 dX7_pass_11 (t_X7_lay hcl hnl hcw hnw hci hni ho) (by decide) (Nat.le_of_ble_eq_true rfl) ?_
    refine g_iconst 0 dX7_pass_14 rfl ?_
    refine g_istN_n dX7_pass_15 rfl (by decide) rfl ?_
    refine g_lv [1, 2, 0] rfl ?_
    rw [if_pos h4, if_pos h4]
    have hl := l_pass (E := E) (w := layM w nl nw ni) (Y := y.toNatClampNeg) (nat_lt (by omega) (by omega)) 7 0 _ (by omega) (by omega) rfl
    rw [cpF_0, setA_self, ← nI_back (by omega)] at hl
    exact hl
  · refine g_ldc (-100000001) dX7_pass_7 lk_X7_111 ?_
    refine g_iret dX7_pass_9 rfl rfl ?_ ?_
    · (repeat' split) <;> first | rfl | (exfalso; omega) | (exfalso; simp_all; done) | (exfalso; simp_all; omega)
    · (repeat' split) <;> first | rfl | (exfalso; omega) | (exfalso; simp_all; done) | (exfalso; simp_all; omega)
abbrev chM (a b : Nat → Int32) (Y : Nat) : Prop := ¬ (b (6 * Y + 1) = a (6 * Y + 1) ∧ b (6 * Y + 2) = a (6 * Y + 2) ∧ b (6 * Y + 3) = a (6 * Y + 3) ∧ b (6 * Y + 4) = a (6 * Y + 4))
def cyM (w : W0) : Nat → Int32
  | 0 => 0
  | k + 1 => if chM (w 76) (w 74) k ∧ (w 57 22 >>> (nI k &&& 31)) &&& 1 = 1 then cyM w k ||| (1 <<< (nI k &&& 31)) else cyM w k
theorem cyM_s (w : W0) (k : Nat) : cyM w (k + 1) = if chM (w 76) (w 74) k ∧ (w 57 22 >>> (nI k &&& 31)) &&& 1 = 1 then cyM w k ||| (1 <<< (nI k &&& 31)) else cyM w k := rfl
set_option maxRecDepth 20000 in
theorem l_open {E : En} {w : W0} : ∀ (n : Nat) (k : Nat) (v x : Int32), 10 + 1 ≤ k + n → k ≤ 10 → x = nI k → v = cyM w k → G E 4 RX7 cX7_open 5 (some .int) (some (.int (cyM w 10))) w 8 [(0, .ref (E.1 57)), (1, .int v), (2, .int x)] [] w := by
  intro n
  induction n with
  | zero =>
    intro k v x hfu hk hx hv
    exact absurd hfu (by omega)
  | succ n ih =>
    intro k v x hfu hk hx hv
    subst hx
    refine g_iload_n 2 dX7_open_8 rfl rfl ?_
    refine g_bipush 10 dX7_open_9 rfl ?_
    refine g_icmp_ge 100 (k : Int) 10 dX7_open_11 (by decide) (nI_toInt (by omega)) rfl (fun h11 => ?_) (fun h11 => ?_)
    · refine g_iload_n 1 dX7_open_100 rfl rfl ?_
      refine g_iret dX7_open_101 rfl rfl ?_ ?_
      · rw [hv, show k = 10 by omega]
      · rfl
    · refine g_iconst 0 dX7_open_14 rfl ?_
      refine g_istN_n dX7_open_15 rfl (by decide) rfl ?_
      refine g_iconst 1 dX7_open_16 rfl ?_
      refine g_istN dX7_open_17 (by decide) rfl ?_
      refine g_iload 0 dX7_open_19 rfl ?_
      refine g_iconst 5 dX7_open_21 rfl ?_
      refine g_icmp_ge 68 1 5 dX7_open_22 (by decide) rfl rfl (fun h22 => False.elim (by omega)) (fun h22 => ?_)
      refine g_iload_n 1 dX7_open_25 rfl rfl ?_
      refine g_if_ne 56 dX7_open_26 (by decide) (fun h26 => False.elim (by exact absurd h26 (by decide))) (fun h26 => ?_)
      refine g_aload_n 2 dX7_open_29 rfl rfl ?_
      refine gf_X7_59 dX7_open_30 ?_
      refine g_bipush 6 dX7_open_33 rfl ?_
      refine g_iload_n 4 dX7_open_35 rfl rfl ?_
      refine g_imul dX7_open_36 ?_
      refine g_iload 0 dX7_open_37 rfl ?_
      refine g_iadd dX7_open_39 ?_
      refine g_iald (n := 60) (6 * k + 1) dX7_open_40 (by decide) rfl (ix6w (n := k) (c := 1) rfl rfl (by omega) (by decide)).1 ((ix6w (n := k) (c := 1) rfl rfl (by omega) (by decide)).2) ?_
      refine g_aload_n 2 dX7_open_41 rfl rfl ?_
      refine gf_X7_65 dX7_open_42 ?_
      refine g_bipush 6 dX7_open_45 rfl ?_
      refine g_iload_n 4 dX7_open_47 rfl rfl ?_
      refine g_imul dX7_open_48 ?_
      refine g_iload 0 dX7_open_49 rfl ?_
      refine g_iadd dX7_open_51 ?_
      refine g_iald (n := 60) (6 * k + 1) dX7_open_52 (by decide) rfl (ix6w (n := k) (c := 1) rfl rfl (by omega) (by decide)).1 ((ix6w (n := k) (c := 1) rfl rfl (by omega) (by decide)).2) ?_
      refine g_icmp_eq 60 dX7_open_53 (by decide) (fun h53 => ?_) (fun h53 => ?_)
      · refine g_iconst 0 dX7_open_60 rfl ?_
        refine g_ist_n [_] _ dX7_open_61 rfl (by decide) rfl ?_
        refine g_iinc 1 [] _ dX7_open_62 rfl (by decide) rfl ?_
        refine g_goto 19 dX7_open_65 (by decide) ?_
        refine g_iload 0 dX7_open_19 rfl ?_
        refine g_iconst 5 dX7_open_21 rfl ?_
        refine g_icmp_ge 68 2 5 dX7_open_22 (by decide) rfl rfl (fun h22 => False.elim (by omega)) (fun h22 => ?_)
        refine g_iload_n 1 dX7_open_25 rfl rfl ?_
        refine g_if_ne 56 dX7_open_26 (by decide) (fun h26 => False.elim (by exact absurd h26 (by decide))) (fun h26 => ?_)
        refine g_aload_n 2 dX7_open_29 rfl rfl ?_
        refine gf_X7_59 dX7_open_30 ?_
        refine g_bipush 6 dX7_open_33 rfl ?_
        refine g_iload_n 4 dX7_open_35 rfl rfl ?_
        refine g_imul dX7_open_36 ?_
        refine g_iload 0 dX7_open_37 rfl ?_
        refine g_iadd dX7_open_39 ?_
        refine g_iald (n := 60) (6 * k + 2) dX7_open_40 (by decide) rfl (ix6w (n := k) (c := 2) rfl rfl (by omega) (by decide)).1 ((ix6w (n := k) (c := 2) rfl rfl (by omega) (by decide)).2) ?_
        refine g_aload_n 2 dX7_open_41 rfl rfl ?_
        refine gf_X7_65 dX7_open_42 ?_
        refine g_bipush 6 dX7_open_45 rfl ?_
        refine g_iload_n 4 dX7_open_47 rfl rfl ?_
        refine g_imul dX7_open_48 ?_
        refine g_iload 0 dX7_open_49 rfl ?_
        refine g_iadd dX7_open_51 ?_
        refine g_iald (n := 60) (6 * k + 2) dX7_open_52 (by decide) rfl (ix6w (n := k) (c := 2) rfl rfl (by omega) (by decide)).1 ((ix6w (n := k) (c := 2) rfl rfl (by omega) (by decide)).2) ?_
        refine g_icmp_eq 60 dX7_open_53 (by decide) (fun h53 => ?_) (fun h53 => ?_)
        · refine g_iconst 0 dX7_open_60 rfl ?_
          refine g_ist_n [_] _ dX7_open_61 rfl (by decide) rfl ?_
          refine g_iinc 1 [] _ dX7_open_62 rfl (by decide) rfl ?_
          refine g_goto 19 dX7_open_65 (by decide) ?_
          refine g_iload 0 dX7_open_19 rfl ?_
          refine g_iconst 5 dX7_open_21 rfl ?_
          refine g_icmp_ge 68 3 5 dX7_open_22 (by decide) rfl rfl (fun h22 => False.elim (by omega)) (fun h22 => ?_)
          refine g_iload_n 1 dX7_open_25 rfl rfl ?_
          refine g_if_ne 56 dX7_open_26 (by decide) (fun h26 => False.elim (by exact absurd h26 (by decide))) (fun h26 => ?_)
          refine g_aload_n 2 dX7_open_29 rfl rfl ?_
          refine gf_X7_59 dX7_open_30 ?_
          refine g_bipush 6 dX7_open_33 rfl ?_
          refine g_iload_n 4 dX7_open_35 rfl rfl ?_
          refine g_imul dX7_open_36 ?_
          refine g_iload 0 dX7_open_37 rfl ?_
          refine g_iadd dX7_open_39 ?_
          refine g_iald (n := 60) (6 * k + 3) dX7_open_40 (by decide) rfl (ix6w (n := k) (c := 3) rfl rfl (by omega) (by decide)).1 ((ix6w (n := k) (c := 3) rfl rfl (by omega) (by decide)).2) ?_
          refine g_aload_n 2 dX7_open_41 rfl rfl ?_
          refine gf_X7_65 dX7_open_42 ?_
          refine g_bipush 6 dX7_open_45 rfl ?_
          refine g_iload_n 4 dX7_open_47 rfl rfl ?_
          refine g_imul dX7_open_48 ?_
          refine g_iload 0 dX7_open_49 rfl ?_
          refine g_iadd dX7_open_51 ?_
          refine g_iald (n := 60) (6 * k + 3) dX7_open_52 (by decide) rfl (ix6w (n := k) (c := 3) rfl rfl (by omega) (by decide)).1 ((ix6w (n := k) (c := 3) rfl rfl (by omega) (by decide)).2) ?_
          refine g_icmp_eq 60 dX7_open_53 (by decide) (fun h53 => ?_) (fun h53 => ?_)
          · refine g_iconst 0 dX7_open_60 rfl ?_
            refine g_ist_n [_] _ dX7_open_61 rfl (by decide) rfl ?_
            refine g_iinc 1 [] _ dX7_open_62 rfl (by decide) rfl ?_
            refine g_goto 19 dX7_open_65 (by decide) ?_
            refine g_iload 0 dX7_open_19 rfl ?_
            refine g_iconst 5 dX7_open_21 rfl ?_
            refine g_icmp_ge 68 4 5 dX7_open_22 (by decide) rfl rfl (fun h22 => False.elim (by omega)) (fun h22 => ?_)
            refine g_iload_n 1 dX7_open_25 rfl rfl ?_
            refine g_if_ne 56 dX7_open_26 (by decide) (fun h26 => False.elim (by exact absurd h26 (by decide))) (fun h26 => ?_)
            refine g_aload_n 2 dX7_open_29 rfl rfl ?_
            refine gf_X7_59 dX7_open_30 ?_
            refine g_bipush 6 dX7_open_33 rfl ?_
            refine g_iload_n 4 dX7_open_35 rfl rfl ?_
            refine g_imul dX7_open_36 ?_
            refine g_iload 0 dX7_open_37 rfl ?_
            refine g_iadd dX7_open_39 ?_
            refine g_iald (n := 60) (6 * k + 4) dX7_open_40 (by decide) rfl (ix6w (n := k) (c := 4) rfl rfl (by omega) (by decide)).1 ((ix6w (n := k) (c := 4) rfl rfl (by omega) (by decide)).2) ?_
            refine g_aload_n 2 dX7_open_41 rfl rfl ?_
            refine gf_X7_65 dX7_open_42 ?_
            refine g_bipush 6 dX7_open_45 rfl ?_
            refine g_iload_n 4 dX7_open_47 rfl rfl ?_
            refine g_imul dX7_open_48 ?_
            refine g_iload 0 dX7_open_49 rfl ?_
            refine g_iadd dX7_open_51 ?_
            refine g_iald (n := 60) (6 * k + 4) dX7_open_52 (by decide) rfl (ix6w (n := k) (c := 4) rfl rfl (by omega) (by decide)).1 ((ix6w (n := k) (c := 4) rfl rfl (by omega) (by decide)).2) ?_
            refine g_icmp_eq 60 dX7_open_53 (by decide) (fun h53 => ?_) (fun h53 => ?_)
            · refine g_iconst 0 dX7_open_60 rfl ?_
              refine g_ist_n [_] _ dX7_open_61 rfl (by decide) rfl ?_
              refine g_iinc 1 [] _ dX7_open_62 rfl (by decide) rfl ?_
              refine g_goto 19 dX7_open_65 (by decide) ?_
              refine g_iload 0 dX7_open_19 rfl ?_
              refine g_iconst 5 dX7_open_21 rfl ?_
              refine g_icmp_ge 68 5 5 dX7_open_22 (by decide) rfl rfl (fun h22 => ?_) (fun h22 => False.elim (by omega))
              refine g_iload_n 3 dX7_open_68 rfl rfl ?_
              refine g_iload_n 1 dX7_open_69 rfl rfl ?_
              refine g_if_eq 91 dX7_open_70 (by decide) (fun h70 => ?_) (fun h70 => False.elim (by exact absurd h70 (by decide)))
              refine g_iconst 0 dX7_open_91 rfl ?_
              refine g_ior dX7_open_92 ?_
              refine g_ist_n [_, _, _] _ dX7_open_93 rfl (by decide) rfl ?_
              refine g_iinc 1 [_, _, _, _] _ dX7_open_94 rfl (by decide) rfl ?_
              refine g_goto 8 dX7_open_97 (by decide) ?_
              refine g_lv [2, 3, 4] rfl ?_
              (try rw [Int32.or_zero])
              exact ih (k + 1) _ _ (by omega) (by omega) (nI_1 k) (by clear ih; rw [cyM_s, ← hv]; split <;> first | rfl | (exfalso; simp_all; done))
            · refine g_iconst 1 dX7_open_56 rfl ?_
              refine g_goto 61 dX7_open_57 (by decide) ?_
              refine g_ist_n [_] _ dX7_open_61 rfl (by decide) rfl ?_
              refine g_iinc 1 [] _ dX7_open_62 rfl (by decide) rfl ?_
              refine g_goto 19 dX7_open_65 (by decide) ?_
              refine g_iload 0 dX7_open_19 rfl ?_
              refine g_iconst 5 dX7_open_21 rfl ?_
              refine g_icmp_ge 68 5 5 dX7_open_22 (by decide) rfl rfl (fun h22 => ?_) (fun h22 => False.elim (by omega))
              refine g_iload_n 3 dX7_open_68 rfl rfl ?_
              refine g_iload_n 1 dX7_open_69 rfl rfl ?_
              refine g_if_eq 91 dX7_open_70 (by decide) (fun h70 => False.elim (by exact absurd h70 (by decide))) (fun h70 => ?_)
              refine g_aload_n 2 dX7_open_73 rfl rfl ?_
              refine gf_X7_156 dX7_open_74 ?_
              refine g_iload_n 4 dX7_open_77 rfl rfl ?_
              refine g_ishr dX7_open_78 ?_
              refine g_iconst 1 dX7_open_79 rfl ?_
              refine g_iand dX7_open_80 ?_
              refine g_iconst 1 dX7_open_81 rfl ?_
              refine g_icmp_ne 91 dX7_open_82 (by decide) (fun h82 => ?_) (fun h82 => ?_)
              · refine g_iconst 0 dX7_open_91 rfl ?_
                refine g_ior dX7_open_92 ?_
                refine g_ist_n [_, _, _] _ dX7_open_93 rfl (by decide) rfl ?_
                refine g_iinc 1 [_, _, _, _] _ dX7_open_94 rfl (by decide) rfl ?_
                refine g_goto 8 dX7_open_97 (by decide) ?_
                refine g_lv [2, 3, 4] rfl ?_
                (try rw [Int32.or_zero])
                exact ih (k + 1) _ _ (by omega) (by omega) (nI_1 k) (by clear ih; rw [cyM_s, ← hv]; split <;> first | rfl | (exfalso; simp_all; done))
              · refine g_iconst 1 dX7_open_85 rfl ?_
                refine g_iload_n 4 dX7_open_86 rfl rfl ?_
                refine g_ishl dX7_open_87 ?_
                refine g_goto 92 dX7_open_88 (by decide) ?_
                refine g_ior dX7_open_92 ?_
                refine g_ist_n [_, _, _] _ dX7_open_93 rfl (by decide) rfl ?_
                refine g_iinc 1 [_, _, _, _] _ dX7_open_94 rfl (by decide) rfl ?_
                refine g_goto 8 dX7_open_97 (by decide) ?_
                refine g_lv [2, 3, 4] rfl ?_
                (try rw [Int32.or_zero])
                exact ih (k + 1) _ _ (by omega) (by omega) (nI_1 k) (by clear ih; rw [cyM_s, ← hv]; split <;> first | rfl | (exfalso; simp_all; done))
          · refine g_iconst 1 dX7_open_56 rfl ?_
            refine g_goto 61 dX7_open_57 (by decide) ?_
            refine g_ist_n [_] _ dX7_open_61 rfl (by decide) rfl ?_
            refine g_iinc 1 [] _ dX7_open_62 rfl (by decide) rfl ?_
            refine g_goto 19 dX7_open_65 (by decide) ?_
            refine g_iload 0 dX7_open_19 rfl ?_
            refine g_iconst 5 dX7_open_21 rfl ?_
            refine g_icmp_ge 68 4 5 dX7_open_22 (by decide) rfl rfl (fun h22 => False.elim (by omega)) (fun h22 => ?_)
            refine g_iload_n 1 dX7_open_25 rfl rfl ?_
            refine g_if_ne 56 dX7_open_26 (by decide) (fun h26 => ?_) (fun h26 => False.elim (by exact absurd h26 (by decide)))
            refine g_iconst 1 dX7_open_56 rfl ?_
            refine g_goto 61 dX7_open_57 (by decide) ?_
            refine g_ist_n [_] _ dX7_open_61 rfl (by decide) rfl ?_
            refine g_iinc 1 [] _ dX7_open_62 rfl (by decide) rfl ?_
            refine g_goto 19 dX7_open_65 (by decide) ?_
            refine g_iload 0 dX7_open_19 rfl ?_
            refine g_iconst 5 dX7_open_21 rfl ?_
            refine g_icmp_ge 68 5 5 dX7_open_22 (by decide) rfl rfl (fun h22 => ?_) (fun h22 => False.elim (by omega))
            refine g_iload_n 3 dX7_open_68 rfl rfl ?_
            refine g_iload_n 1 dX7_open_69 rfl rfl ?_
            refine g_if_eq 91 dX7_open_70 (by decide) (fun h70 => False.elim (by exact absurd h70 (by decide))) (fun h70 => ?_)
            refine g_aload_n 2 dX7_open_73 rfl rfl ?_
            refine gf_X7_156 dX7_open_74 ?_
            refine g_iload_n 4 dX7_open_77 rfl rfl ?_
            refine g_ishr dX7_open_78 ?_
            refine g_iconst 1 dX7_open_79 rfl ?_
            refine g_iand dX7_open_80 ?_
            refine g_iconst 1 dX7_open_81 rfl ?_
            refine g_icmp_ne 91 dX7_open_82 (by decide) (fun h82 => ?_) (fun h82 => ?_)
            · refine g_iconst 0 dX7_open_91 rfl ?_
              refine g_ior dX7_open_92 ?_
              refine g_ist_n [_, _, _] _ dX7_open_93 rfl (by decide) rfl ?_
              refine g_iinc 1 [_, _, _, _] _ dX7_open_94 rfl (by decide) rfl ?_
              refine g_goto 8 dX7_open_97 (by decide) ?_
              refine g_lv [2, 3, 4] rfl ?_
              (try rw [Int32.or_zero])
              exact ih (k + 1) _ _ (by omega) (by omega) (nI_1 k) (by clear ih; rw [cyM_s, ← hv]; split <;> first | rfl | (exfalso; simp_all; done))
            · refine g_iconst 1 dX7_open_85 rfl ?_
              refine g_iload_n 4 dX7_open_86 rfl rfl ?_
              refine g_ishl dX7_open_87 ?_
              refine g_goto 92 dX7_open_88 (by decide) ?_
              refine g_ior dX7_open_92 ?_
              refine g_ist_n [_, _, _] _ dX7_open_93 rfl (by decide) rfl ?_
              refine g_iinc 1 [_, _, _, _] _ dX7_open_94 rfl (by decide) rfl ?_
              refine g_goto 8 dX7_open_97 (by decide) ?_
              refine g_lv [2, 3, 4] rfl ?_
              (try rw [Int32.or_zero])
              exact ih (k + 1) _ _ (by omega) (by omega) (nI_1 k) (by clear ih; rw [cyM_s, ← hv]; split <;> first | rfl | (exfalso; simp_all; done))
        · refine g_iconst 1 dX7_open_56 rfl ?_
          refine g_goto 61 dX7_open_57 (by decide) ?_
          refine g_ist_n [_] _ dX7_open_61 rfl (by decide) rfl ?_
          refine g_iinc 1 [] _ dX7_open_62 rfl (by decide) rfl ?_
          refine g_goto 19 dX7_open_65 (by decide) ?_
          refine g_iload 0 dX7_open_19 rfl ?_
          refine g_iconst 5 dX7_open_21 rfl ?_
          refine g_icmp_ge 68 3 5 dX7_open_22 (by decide) rfl rfl (fun h22 => False.elim (by omega)) (fun h22 => ?_)
          refine g_iload_n 1 dX7_open_25 rfl rfl ?_
          refine g_if_ne 56 dX7_open_26 (by decide) (fun h26 => ?_) (fun h26 => False.elim (by exact absurd h26 (by decide)))
          refine g_iconst 1 dX7_open_56 rfl ?_
          refine g_goto 61 dX7_open_57 (by decide) ?_
          refine g_ist_n [_] _ dX7_open_61 rfl (by decide) rfl ?_
          refine g_iinc 1 [] _ dX7_open_62 rfl (by decide) rfl ?_
          refine g_goto 19 dX7_open_65 (by decide) ?_
          refine g_iload 0 dX7_open_19 rfl ?_
          refine g_iconst 5 dX7_open_21 rfl ?_
          refine g_icmp_ge 68 4 5 dX7_open_22 (by decide) rfl rfl (fun h22 => False.elim (by omega)) (fun h22 => ?_)
          refine g_iload_n 1 dX7_open_25 rfl rfl ?_
          refine g_if_ne 56 dX7_open_26 (by decide) (fun h26 => ?_) (fun h26 => False.elim (by exact absurd h26 (by decide)))
          refine g_iconst 1 dX7_open_56 rfl ?_
          refine g_goto 61 dX7_open_57 (by decide) ?_
          refine g_ist_n [_] _ dX7_open_61 rfl (by decide) rfl ?_
          refine g_iinc 1 [] _ dX7_open_62 rfl (by decide) rfl ?_
          refine g_goto 19 dX7_open_65 (by decide) ?_
          refine g_iload 0 dX7_open_19 rfl ?_
          refine g_iconst 5 dX7_open_21 rfl ?_
          refine g_icmp_ge 68 5 5 dX7_open_22 (by decide) rfl rfl (fun h22 => ?_) (fun h22 => False.elim (by omega))
          refine g_iload_n 3 dX7_open_68 rfl rfl ?_
          refine g_iload_n 1 dX7_open_69 rfl rfl ?_
          refine g_if_eq 91 dX7_open_70 (by decide) (fun h70 => False.elim (by exact absurd h70 (by decide))) (fun h70 => ?_)
          refine g_aload_n 2 dX7_open_73 rfl rfl ?_
          refine gf_X7_156 dX7_open_74 ?_
          refine g_iload_n 4 dX7_open_77 rfl rfl ?_
          refine g_ishr dX7_open_78 ?_
          refine g_iconst 1 dX7_open_79 rfl ?_
          refine g_iand dX7_open_80 ?_
          refine g_iconst 1 dX7_open_81 rfl ?_
          refine g_icmp_ne 91 dX7_open_82 (by decide) (fun h82 => ?_) (fun h82 => ?_)
          · refine g_iconst 0 dX7_open_91 rfl ?_
            refine g_ior dX7_open_92 ?_
            refine g_ist_n [_, _, _] _ dX7_open_93 rfl (by decide) rfl ?_
            refine g_iinc 1 [_, _, _, _] _ dX7_open_94 rfl (by decide) rfl ?_
            refine g_goto 8 dX7_open_97 (by decide) ?_
            refine g_lv [2, 3, 4] rfl ?_
            (try rw [Int32.or_zero])
            exact ih (k + 1) _ _ (by omega) (by omega) (nI_1 k) (by clear ih; rw [cyM_s, ← hv]; split <;> first | rfl | (exfalso; simp_all; done))
          · refine g_iconst 1 dX7_open_85 rfl ?_
            refine g_iload_n 4 dX7_open_86 rfl rfl ?_
            refine g_ishl dX7_open_87 ?_
            refine g_goto 92 dX7_open_88 (by decide) ?_
            refine g_ior dX7_open_92 ?_
            refine g_ist_n [_, _, _] _ dX7_open_93 rfl (by decide) rfl ?_
            refine g_iinc 1 [_, _, _, _] _ dX7_open_94 rfl (by decide) rfl ?_
            refine g_goto 8 dX7_open_97 (by decide) ?_
            refine g_lv [2, 3, 4] rfl ?_
            (try rw [Int32.or_zero])
            exact ih (k + 1) _ _ (by omega) (by omega) (nI_1 k) (by clear ih; rw [cyM_s, ← hv]; split <;> first | rfl | (exfalso; simp_all; done))
      · refine g_iconst 1 dX7_open_56 rfl ?_
        refine g_goto 61 dX7_open_57 (by decide) ?_
        refine g_ist_n [_] _ dX7_open_61 rfl (by decide) rfl ?_
        refine g_iinc 1 [] _ dX7_open_62 rfl (by decide) rfl ?_
        refine g_goto 19 dX7_open_65 (by decide) ?_
        refine g_iload 0 dX7_open_19 rfl ?_
        refine g_iconst 5 dX7_open_21 rfl ?_
        refine g_icmp_ge 68 2 5 dX7_open_22 (by decide) rfl rfl (fun h22 => False.elim (by omega)) (fun h22 => ?_)
        refine g_iload_n 1 dX7_open_25 rfl rfl ?_
        refine g_if_ne 56 dX7_open_26 (by decide) (fun h26 => ?_) (fun h26 => False.elim (by exact absurd h26 (by decide)))
        refine g_iconst 1 dX7_open_56 rfl ?_
        refine g_goto 61 dX7_open_57 (by decide) ?_
        refine g_ist_n [_] _ dX7_open_61 rfl (by decide) rfl ?_
        refine g_iinc 1 [] _ dX7_open_62 rfl (by decide) rfl ?_
        refine g_goto 19 dX7_open_65 (by decide) ?_
        refine g_iload 0 dX7_open_19 rfl ?_
        refine g_iconst 5 dX7_open_21 rfl ?_
        refine g_icmp_ge 68 3 5 dX7_open_22 (by decide) rfl rfl (fun h22 => False.elim (by omega)) (fun h22 => ?_)
        refine g_iload_n 1 dX7_open_25 rfl rfl ?_
        refine g_if_ne 56 dX7_open_26 (by decide) (fun h26 => ?_) (fun h26 => False.elim (by exact absurd h26 (by decide)))
        refine g_iconst 1 dX7_open_56 rfl ?_
        refine g_goto 61 dX7_open_57 (by decide) ?_
        refine g_ist_n [_] _ dX7_open_61 rfl (by decide) rfl ?_
        refine g_iinc 1 [] _ dX7_open_62 rfl (by decide) rfl ?_
        refine g_goto 19 dX7_open_65 (by decide) ?_
        refine g_iload 0 dX7_open_19 rfl ?_
        refine g_iconst 5 dX7_open_21 rfl ?_
        refine g_icmp_ge 68 4 5 dX7_open_22 (by decide) rfl rfl (fun h22 => False.elim (by omega)) (fun h22 => ?_)
        refine g_iload_n 1 dX7_open_25 rfl rfl ?_
        refine g_if_ne 56 dX7_open_26 (by decide) (fun h26 => ?_) (fun h26 => False.elim (by exact absurd h26 (by decide)))
        refine g_iconst 1 dX7_open_56 rfl ?_
        refine g_goto 61 dX7_open_57 (by decide) ?_
        refine g_ist_n [_] _ dX7_open_61 rfl (by decide) rfl ?_
        refine g_iinc 1 [] _ dX7_open_62 rfl (by decide) rfl ?_
        refine g_goto 19 dX7_open_65 (by decide) ?_
        refine g_iload 0 dX7_open_19 rfl ?_
        refine g_iconst 5 dX7_open_21 rfl ?_
        refine g_icmp_ge 68 5 5 dX7_open_22 (by decide) rfl rfl (fun h22 => ?_) (fun h22 => False.elim (by omega))
        refine g_iload_n 3 dX7_open_68 rfl rfl ?_
        refine g_iload_n 1 dX7_open_69 rfl rfl ?_
        refine g_if_eq 91 dX7_open_70 (by decide) (fun h70 => False.elim (by exact absurd h70 (by decide))) (fun h70 => ?_)
        refine g_aload_n 2 dX7_open_73 rfl rfl ?_
        refine gf_X7_156 dX7_open_74 ?_
        refine g_iload_n 4 dX7_open_77 rfl rfl ?_
        refine g_ishr dX7_open_78 ?_
        refine g_iconst 1 dX7_open_79 rfl ?_
        refine g_iand dX7_open_80 ?_
        refine g_iconst 1 dX7_open_81 rfl ?_
        refine g_icmp_ne 91 dX7_open_82 (by decide) (fun h82 => ?_) (fun h82 => ?_)
        · refine g_iconst 0 dX7_open_91 rfl ?_
          refine g_ior dX7_open_92 ?_
          refine g_ist_n [_, _, _] _ dX7_open_93 rfl (by decide) rfl ?_
          refine g_iinc 1 [_, _, _, _] _ dX7_open_94 rfl (by decide) rfl ?_
          refine g_goto 8 dX7_open_97 (by decide) ?_
          refine g_lv [2, 3, 4] rfl ?_
          (try rw [Int32.or_zero])
          exact ih (k + 1) _ _ (by omega) (by omega) (nI_1 k) (by clear ih; rw [cyM_s, ← hv]; split <;> first | rfl | (exfalso; simp_all; done))
        · refine g_iconst 1 dX7_open_85 rfl ?_
          refine g_iload_n 4 dX7_open_86 rfl rfl ?_
          refine g_ishl dX7_open_87 ?_
          refine g_goto 92 dX7_open_88 (by decide) ?_
          refine g_ior dX7_open_92 ?_
          refine g_ist_n [_, _, _] _ dX7_open_93 rfl (by decide) rfl ?_
          refine g_iinc 1 [_, _, _, _] _ dX7_open_94 rfl (by decide) rfl ?_
          refine g_goto 8 dX7_open_97 (by decide) ?_
          refine g_lv [2, 3, 4] rfl ?_
          (try rw [Int32.or_zero])
          exact ih (k + 1) _ _ (by omega) (by omega) (nI_1 k) (by clear ih; rw [cyM_s, ← hv]; split <;> first | rfl | (exfalso; simp_all; done))
set_option maxRecDepth 20000 in
theorem t_X7_open {E : En} {w : W0} {nl nw ni : Nat} (hcl : w 57 0 = nI nl) (hnl : nl ≤ 8) (hcw : w 57 3 = nI nw) (hnw : nw ≤ 6) (hci : w 57 9 = nI ni) (hni : ni ≤ 60) (ho : ∀ k, k < ni → (w 67 k).toInt < 10) : Mt E 4 yX7_open cX7_open 5 (some .int) [.ref (E.1 57)] w (some (.int (cyM (layM w nl nw ni) 10))) (layM w nl nw ni) := by
  refine Mt.of (by decide +kernel) (Nat.le_of_ble_eq_true rfl) ?_
  show G E 4 RX7 cX7_open 5 (some .int) _ _ 0 [(0, .ref (E.1 57))] [] w
  refine g_aload_n 0 dX7_open_0 rfl rfl ?_
  refine ca_X7_112 dX7_open_1 (t_X7_lay hcl hnl hcw hnw hci hni ho) (by decide) (Nat.le_of_ble_eq_true rfl) ?_
  refine g_iconst 0 dX7_open_4 rfl ?_
  refine g_istN_n dX7_open_5 rfl (by decide) rfl ?_
  refine g_iconst 0 dX7_open_6 rfl ?_
  refine g_istN_n dX7_open_7 rfl (by decide) rfl ?_
  refine g_lv [2, 1, 0] rfl ?_
  exact l_open 11 0 _ _ (by omega) (by omega) rfl rfl

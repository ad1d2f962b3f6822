/-! PURE: what both sides lay is the same -/
abbrev z0 : Nat → Int32 := fun _ => 0
abbrev gW (w : W0) (nl : Nat) : Nat → Int32 := goF (w 17) (w 18) (fuF w nl)
def cW (w : W0) (nl : Nat) : W0 := setA (setA w 20 (gW w nl)) 30 (alF w nl)
theorem cW_20 (w : W0) (nl : Nat) : cW w nl 20 = gW w nl := rfl
theorem cW_30 (w : W0) (nl : Nat) : cW w nl 30 = alF w nl := rfl
theorem cW_ne {w : W0} {nl q : Nat} (h1 : q ≠ 20) (h2 : q ≠ 30) : cW w nl q = w q := by
  unfold cW
  rw [setA_ne h2, setA_ne h1]
theorem cW_lp (w : W0) (nl : Nat) : lpF (cW w nl) = lpF w := lpF_congr (fun q h1 h2 => cW_ne (by omega) (by omega))
/-- the accounts of a world's told things -/
abbrev AW (r : W0) (nl nw ni D : Nat) : AS := AG (cW r nl) nl nw ni z0 D
abbrev RW (r : W0) (nl nw ni y p : Nat) : Int32 := rowG (cW r nl) nl nw ni z0 y p
/-- the class's laid rows, as r's told things ask -/
def LC (w r : W0) (nl nw ni : Nat) : Prop := (∀ k, k < nw → w 19 k = fuF r nl k ∧ w 20 k = gW r nl k ∧ w 21 k = (AW r nl nw ni 3600).1 k) ∧ (∀ k, k < ni → w 30 k = alF r nl k) ∧ ∀ y, y < 10 → ∀ p, p < 6 → w (36 + y) p = RW r nl nw ni y p
/-- the model's -/
def LM (w r : W0) (nl nw ni : Nat) : Prop := (∀ k, k < nw → w 77 k = fuF r nl k ∧ w 78 k = gW r nl k ∧ w 79 k = (AW r nl nw ni 3600).1 k) ∧ (∀ d, d < 3600 → w 75 d = (AW r nl nw ni (d + 1)).2.1) ∧ ∀ y, y < 10 → ∀ p, p < 6 → w 76 (6 * y + p) = RW r nl nw ni y p
/-- worlds that tell the same -/
def Sp (r r' : W0) (nl nw ni : Nat) : Prop := (∀ k, k < nw → fuF r nl k = fuF r' nl k ∧ gW r nl k = gW r' nl k) ∧ (∀ k, k < ni → alF r nl k = alF r' nl k) ∧ (∀ D, (AW r nl nw ni D).2 = (AW r' nl nw ni D).2 ∧ ∀ k, k < nw → (AW r nl nw ni D).1 k = (AW r' nl nw ni D).1 k) ∧ ∀ y p, RW r nl nw ni y p = RW r' nl nw ni y p
theorem fuF_eq {r r' : W0} {nl : Nat} (h : ∀ q, 7 ≤ q → q ≤ 17 → r q = r' q) : fuF r nl = fuF r' nl := by
  have hl : lpF r = lpF r' := lpF_congr (fun q h1 h2 => h q (by omega) (by omega))
  funext k
  unfold fuF
  rw [hl, h 7 (by omega) (by omega), h 17 (by omega) (by omega)]
theorem Sp_of {r r' : W0} {nl nw ni : Nat} (hnl : nl ≤ 8) (h : ∀ q, (7 ≤ q ∧ q ≤ 18) ∨ (24 ≤ q ∧ q ≤ 26) → r q = r' q) (ha : ∀ k, k < ni → alF r nl k = alF r' nl k) : Sp r r' nl nw ni := by
  have hf : fuF r nl = fuF r' nl := fuF_eq (fun q h1 h2 => h q (Or.inl ⟨h1, by omega⟩))
  have hg : gW r nl = gW r' nl := by
    unfold gW
    rw [hf, h 17 (by omega), h 18 (by omega)]
  have hlp : lpF r = lpF r' := lpF_congr (fun q h1 h2 => h q (by omega))
  have hi : ∀ k, k < ni → cW r nl 26 k = cW r' nl 26 k ∧ cW r nl 30 k = cW r' nl 30 k ∧ cW r nl 24 k = cW r' nl 24 k ∧ cW r nl 25 k = cW r' nl 25 k := fun k hk => by
    rw [cW_30, cW_30, cW_ne (by decide) (by decide), cW_ne (by decide) (by decide), cW_ne (by decide) (by decide), cW_ne (by decide) (by decide), cW_ne (by decide) (by decide), cW_ne (by decide) (by decide), h 24 (by omega), h 25 (by omega), h 26 (by omega)]
    exact ⟨rfl, ha k hk, rfl, rfl⟩
  have hA : ∀ D, (AW r nl nw ni D).2 = (AW r' nl nw ni D).2 ∧ ∀ k, k < nw → (AW r nl nw ni D).1 k = (AW r' nl nw ni D).1 k := fun D => by
    refine AG_congr (by omega) (fun k hk => ?_) (fun k hk => ?_) hi (fun k hk => rfl) D
    · rw [cW_lp, cW_lp, hlp, cW_ne (by decide) (by decide), cW_ne (by decide) (by decide), h 7 (by omega)]
      exact ⟨rfl, fun p => rfl⟩
    · rw [cW_20, cW_20, hg, cW_ne (by decide) (by decide), cW_ne (by decide) (by decide), cW_ne (by decide) (by decide), cW_ne (by decide) (by decide), h 17 (by omega), h 18 (by omega)]
      exact ⟨rfl, rfl, rfl⟩
  exact ⟨fun k hk => ⟨by rw [hf], by rw [hg]⟩, ha, hA, fun y p => rowG_congr hi (fun D => (hA D).1) y p⟩
theorem LC.go {w w' r r' : W0} {nl nw ni : Nat} (h : LC w r nl nw ni) (hs : Sp r r' nl nw ni) (hw : ∀ q, (19 ≤ q ∧ q ≤ 21) ∨ q = 30 ∨ (36 ≤ q ∧ q ≤ 45) → w' q = w q) : LC w' r' nl nw ni := by
  obtain ⟨a, b, c⟩ := h
  obtain ⟨s1, s2, s3, s4⟩ := hs
  refine ⟨fun k hk => ?_, fun k hk => ?_, fun y hy p hp => ?_⟩
  · rw [hw 19 (by omega), hw 20 (by omega), hw 21 (by omega), ← (s1 k hk).1, ← (s1 k hk).2, ← (s3 3600).2 k hk]
    exact a k hk
  · rw [hw 30 (by omega), ← s2 k hk]
    exact b k hk
  · rw [hw (36 + y) (by omega), ← s4]
    exact c y hy p hp
theorem LM.go {w w' r r' : W0} {nl nw ni : Nat} (h : LM w r nl nw ni) (hs : Sp r r' nl nw ni) (hw : ∀ q, 75 ≤ q ∧ q ≤ 79 → w' q = w q) : LM w' r' nl nw ni := by
  obtain ⟨a, b, c⟩ := h
  obtain ⟨s1, s2, s3, s4⟩ := hs
  refine ⟨fun k hk => ?_, fun k hk => ?_, fun y hy p hp => ?_⟩
  · rw [hw 77 (by omega), hw 78 (by omega), hw 79 (by omega), ← (s1 k hk).1, ← (s1 k hk).2, ← (s3 3600).2 k hk]
    exact a k hk
  · rw [hw 75 (by omega), ← (s3 (k + 1)).1]
    exact b k hk
  · rw [hw 76 (by omega), ← s4]
    exact c y hy p hp
theorem barsF_eq {r r' : W0} {nl k : Nat} (h : ∀ q, (7 ≤ q ∧ q ≤ 16) ∨ q = 22 ∨ (24 ≤ q ∧ q ≤ 29) → r q = r' q) (h3 : r 3 2 = r' 3 2) : barsF r nl k = barsF r' nl k := by
  have hlp : lpF r = lpF r' := lpF_congr (fun q h1 h2 => h q (by omega))
  have e := h 22 (by omega)
  unfold barsF onF limC hasL
  simp only [hlp, h3, h 7 (by omega), e, h 24 (by omega), h 25 (by omega), h 26 (by omega), h 27 (by omega), h 28 (by omega), h 29 (by omega)]
theorem alF_eq {r r' : W0} {nl k : Nat} (h : ∀ q, (7 ≤ q ∧ q ≤ 16) ∨ q = 22 ∨ (24 ≤ q ∧ q ≤ 29) → r q = r' q) (h3 : r 3 2 = r' 3 2) : alF r nl k = alF r' nl k := by
  unfold alF
  rw [barsF_eq h h3]
/-! the class lays -/
theorem LC_lay {w : W0} {nl nw ni : Nat} (hnl : nl ≤ 8) : LC (layC w nl nw ni) w nl nw ni := by
  have hd : ∀ q, q ≠ 19 → q ≠ 20 → q ≠ 21 → daysF w nl nw q = w q := fun q a b c => daysF_ne a b c
  have hal : ∀ k, alF (daysF w nl nw) nl k = alF w nl k := fun k => alF_eq (fun q h => hd q (by omega) (by omega) (by omega)) (by rw [hd 3 (by decide) (by decide) (by decide)])
  have c19 : alW (daysF w nl nw) nl ni 19 = fillF (fuF w nl) (w 19) nw := by
    rw [alW_ne (by decide)]
    rfl
  have c20 : alW (daysF w nl nw) nl ni 20 = fillF (gW w nl) (w 20) nw := by
    rw [alW_ne (by decide)]
    rfl
  have c21 : alW (daysF w nl nw) nl ni 21 = fillF z0 (w 21) nw := by
    rw [alW_ne (by decide)]
    rfl
  have c30 : alW (daysF w nl nw) nl ni 30 = fillF (alF (daysF w nl nw) nl) (daysF w nl nw 30) ni := rfl
  have cne : ∀ q, q ≠ 19 → q ≠ 20 → q ≠ 21 → q ≠ 30 → alW (daysF w nl nw) nl ni q = w q := fun q a b c d => by rw [alW_ne d, hd q a b c]
  have clp : lpF (alW (daysF w nl nw) nl ni) = lpF w := lpF_congr (fun q h1 h2 => cne q (by omega) (by omega) (by omega) (by omega))
  unfold layC
  generalize hc : alW (daysF w nl nw) nl ni = c at c19 c20 c21 c30 cne clp ⊢
  obtain ⟨k1, k2, k3⟩ := rk_AG (c := c) (nl := nl) (nw := nw) (ni := ni) (by omega) 10 (Nat.le_refl _)
  have hi : ∀ k, k < ni → c 26 k = cW w nl 26 k ∧ c 30 k = cW w nl 30 k ∧ c 24 k = cW w nl 24 k ∧ c 25 k = cW w nl 25 k := fun k hk => by
    rw [cW_30, c30, fillF_in hk, hal, cW_ne (by decide) (by decide), cW_ne (by decide) (by decide), cW_ne (by decide) (by decide), cne 24 (by decide) (by decide) (by decide) (by decide), cne 25 (by decide) (by decide) (by decide) (by decide), cne 26 (by decide) (by decide) (by decide) (by decide)]
    exact ⟨rfl, rfl, rfl, rfl⟩
  have hA : ∀ D, (AG c nl nw ni (c 21) D).2 = (AW w nl nw ni D).2 ∧ ∀ k, k < nw → (AG c nl nw ni (c 21) D).1 k = (AW w nl nw ni D).1 k := fun D => by
    refine AG_congr (by omega) (fun k hk => ?_) (fun k hk => ?_) hi (fun k hk => ?_) D
    · rw [clp, cW_lp, cne 7 (by decide) (by decide) (by decide) (by decide), cW_ne (by decide) (by decide)]
      exact ⟨rfl, fun p => rfl⟩
    · rw [cW_20, c20, fillF_in hk, cW_ne (by decide) (by decide), cW_ne (by decide) (by decide), cne 17 (by decide) (by decide) (by decide) (by decide), cne 18 (by decide) (by decide) (by decide) (by decide)]
      exact ⟨rfl, rfl, rfl⟩
    · rw [c21, fillF_in hk]
  refine ⟨fun k hk => ?_, fun k hk => ?_, fun y hy p hp => ?_⟩
  · rw [rkF_ne (by decide) 10 (by omega), rkF_ne (by decide) 10 (by omega), k2, c19, c20, fillF_in hk, fillF_in hk]
    exact ⟨rfl, rfl, (hA 3600).2 k hk⟩
  · rw [rkF_ne (by decide) 10 (by omega), c30, fillF_in hk, hal]
  · rw [k3 y hy p hp]
    exact rowG_congr hi (fun D => (hA D).1) y p
theorem LC_setl {w : W0} {nl nw ni : Nat} (hnl : nl ≤ 8) (h : w 0 6 = 0 → LC w w nl nw ni) : LC (setlW w nl nw ni) w nl nw ni := by
  unfold setlW
  split
  · rename_i e
    exact h e
  · obtain ⟨a, b, c⟩ := LC_lay (w := w) (nw := nw) (ni := ni) hnl
    refine ⟨fun k hk => ?_, fun k hk => ?_, fun y hy p hp => ?_⟩
    · rw [setW_ne (by decide), setW_ne (by decide), setW_ne (by decide)]
      exact a k hk
    · rw [setW_ne (by decide)]
      exact b k hk
    · rw [setW_ne (by omega)]
      exact c y hy p hp
/-! the model lays -/
theorem gdA_all {w : W0} {nl nw k : Nat} (hL : TL w nl) (hW : TW w nw) (hk : k < nw) : gdA (gW w nl) 3600 k = gW w nl k := by
  unfold gdA
  rcases goF_or (w 17) (w 18) (fuF w nl) k with ⟨a, b, c⟩ | ⟨a, b⟩
  · have e : gW w nl k = fuF w nl k := c
    rw [e]
    rcases fullF_rng (TL_ok hL) (hW.2.2.2 k hk).2.2 with q | ⟨d, hd, q, -⟩
    · exact absurd q a
    · rw [if_pos ⟨a, by
        show (fullF (w 7) (lpF w) nl (w 17 k)).toInt < _
        rw [q, nI_toInt (by omega)]
        omega⟩]
  · have e : gW w nl k = -6 := b
    rw [e, if_neg (fun z => z.1 rfl)]
theorem law_eq7 {w : W0} {nl : Nat} (h : TL w nl) (day : Int32) {p : Nat} (hp : p < 5) : lawM (w 7) (w 59) nl day p = lawF (w 7) (lpF w) nl day p := by
  obtain ⟨h1, h2, h3, h4⟩ := h
  unfold lawM lawF
  rcases best_eq (f := w 7) (f' := w 7) (day := day) (show nl < 1000 by omega) (fun k hk => rfl) nl (Nat.le_refl _) with ⟨a, b⟩ | ⟨a, b⟩
  · rw [if_pos a, if_pos b]
  · have hx := bestF_ix (show nl < 1000 by omega) a
    rw [b, if_neg a, if_neg a, lpF_in (by omega)]
    exact (h4 _ hx).2.2.2 p hp
theorem fdM_congr {f f' g g' : Nat → Int32} {nl : Nat} {b : Int32} (h : ∀ d, d < 3600 → lawM f g nl (nI d) 0 = lawM f' g' nl (nI d) 0) : ∀ n, n ≤ 3600 → fdM f g nl b n = fdM f' g' nl b n
  | 0, _ => rfl
  | n + 1, hn => by rw [fdM_s, fdM_s, fdM_congr h n (by omega), h n (by omega)]
theorem fd_eq {w : W0} {nl nw k : Nat} (hL : TL w nl) (hW : TW w nw) (hk : k < nw) : fdM (setW w 57 23 1 58) (setW w 57 23 1 59) nl (setW w 57 23 1 60 k) 3600 = fuF w nl k := by
  have e1 : setW w 57 23 1 58 = w 58 := setW_ne (by decide)
  have e2 : setW w 57 23 1 59 = w 59 := setW_ne (by decide)
  have e3 : setW w 57 23 1 60 = w 60 := setW_ne (by decide)
  obtain ⟨a1, a2, a3⟩ := hW.2.2.2 k hk
  have e4 : fdM (w 58) (w 59) nl (w 17 k) 3600 = fdM (w 7) (w 59) nl (w 17 k) 3600 := fdM_congr (fun d hd => by rw [law_eq hL _ (by decide), law_eq7 hL _ (by decide)]) 3600 (Nat.le_refl _)
  have e5 : fullF (w 7) (lpF w) nl (w 17 k) = fdM (w 7) (w 59) nl (w 17 k) 3600 := full_eq (TL_ok hL) a3 (fun d hd => law_eq7 hL _ (by decide))
  rw [e1, e2, e3, a1, e4, ← e5]
  rfl
theorem MT_of {w : W0} {nl nw nv ne ni : Nat} (hL : TL w nl) (hW : TW w nw) (hV : TV w nv) (hI : TI w nv ne ni) : MT (baseM w nl nw) (cW w nl) nl nw ni := by
  have hb : ∀ q, 57 < q → q < 77 → baseM w nl nw q = w q := fun q a b => baseM_ne (Or.inr (Or.inl ⟨a, b⟩))
  have h77 : ∀ k, k < nw → baseM w nl nw 77 k = fuF w nl k := fun k hk => by
    have e : baseM w nl nw 77 = fillF (fdA (setW w 57 23 1) nl) (setW w 57 23 1 77) nw := rfl
    rw [e, fillF_in hk]
    unfold fdA
    exact fd_eq hL hW hk
  refine ⟨fun D hD p hp => ?_, fun k hk => ?_, fun k hk => ?_⟩
  · rw [hb 58 (by decide) (by decide), hb 59 (by decide) (by decide), cW_lp, cW_ne (by decide) (by decide)]
    exact law_eq hL _ hp
  · obtain ⟨a1, a2, a3⟩ := hW.2.2.2 k hk
    rw [hb 60 (by decide) (by decide), hb 61 (by decide) (by decide), cW_20, cW_ne (by decide) (by decide), cW_ne (by decide) (by decide), a1, a2, h77 k hk]
    refine ⟨rfl, rfl, ?_, ?_⟩
    · unfold gW goF
      rw [h77 k hk]
    · rcases fullF_rng (TL_ok hL) a3 with q | ⟨d, hd, q, hp⟩
      · exact Or.inl q
      · refine Or.inr ⟨d, hd, q, ?_⟩
        unfold ageP at hp
        have ha := age_rng (TL_ok hL) (nI d)
        omega
  · obtain ⟨a1, a2, a3, a4, a5, a6, a7, a8⟩ := hI.2.2.2.1 k hk
    rw [hb 65 (by decide) (by decide), hb 66 (by decide) (by decide), hb 64 (by decide) (by decide), cW_30, cW_ne (by decide) (by decide), cW_ne (by decide) (by decide), cW_ne (by decide) (by decide), a1, a2]
    refine ⟨rfl, rfl, ?_, ?_⟩
    · rcases a8 with ⟨b1, b2, -⟩ | ⟨b1, b2, -⟩
      · exact Or.inl ⟨b1, b2⟩
      · exact Or.inr ⟨b1, by rw [b2]; decide⟩
    · have e : barM (baseM w nl nw) nl k = barM w nl k := by
        unfold barM
        rw [hb 58 (by decide) (by decide), hb 59 (by decide) (by decide), hb 62 (by decide) (by decide), hb 64 (by decide) (by decide), hb 65 (by decide) (by decide), hb 66 (by decide) (by decide), hb 67 (by decide) (by decide), hb 68 (by decide) (by decide), hb 69 (by decide) (by decide)]
      rw [e, bars_eq hL hV hI hk]
      rcases alF_or w nl k with ⟨x, y⟩ | ⟨x, y⟩
      · rw [x, y]
        decide
      · rw [y]
        exact ⟨fun z => absurd z x, fun z => absurd rfl z⟩
theorem LM_lay {w : W0} {nl nw nv ne ni : Nat} (hL : TL w nl) (hW : TW w nw) (hV : TV w nv) (hI : TI w nv ne ni) (h : ¬ w 57 23 = 0 → LM w w nl nw ni) : LM (layM w nl nw ni) w nl nw ni := by
  unfold layM
  split
  · have hM := MT_of hL hW hV hI
    have h78 : ∀ k, k < nw → baseM w nl nw 78 k = -6 := fun k hk => by
      have e : baseM w nl nw 78 = fillF (fun _ => -6) (setW w 57 23 1 78) nw := rfl
      rw [e, fillF_in hk]
    have h79 : ∀ k, k < nw → baseM w nl nw 79 k = z0 k := fun k hk => by
      have e : baseM w nl nw 79 = fillF (fun _ => 0) (setW w 57 23 1 79) nw := rfl
      rw [e, fillF_in hk]
    have h77 : ∀ k, k < nw → baseM w nl nw 77 k = fuF w nl k := fun k hk => by
      have e : baseM w nl nw 77 = fillF (fdA (setW w 57 23 1) nl) (setW w 57 23 1 77) nw := rfl
      rw [e, fillF_in hk]
      unfold fdA
      exact fd_eq hL hW hk
    obtain ⟨r1, r2, r3, r4, r5, r6, -⟩ := RM_all (s0 := z0) hM hW.1 h78 h79 3600 (Nat.le_refl _)
    generalize dyF (baseM w nl nw) nl nw ni 3600 = s at r1 r2 r3 r4 r5 r6 ⊢
    unfold outM
    refine ⟨fun k hk => ?_, fun d hd => ?_, fun y hy p hp => ?_⟩
    · rw [W4_ne (by decide), W4_78, W4_79, h77 k hk, r4 k hk, r3 k hk, cW_20, gdA_all hL hW hk]
      exact ⟨rfl, rfl, rfl⟩
    · rw [W4_75, r5 d hd]
    · rw [W4_76, r6 y (by omega) p hp]
  · rename_i e
    exact h e

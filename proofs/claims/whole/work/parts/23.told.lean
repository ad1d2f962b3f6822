/-! PURE: accounts of worlds that agree; the told things of both sides -/
section CONG
variable {t t' : W0} {nl nw ni : Nat}
theorem dA_congr (hnl : nl < 1000) (hl : ∀ k, k < nl → t 7 k = t' 7 k ∧ ∀ p, lpF t k p = lpF t' k p) (hw : ∀ k, k < nw → t 17 k = t' 17 k ∧ t 18 k = t' 18 k ∧ t 20 k = t' 20 k) (hi : ∀ k, k < ni → t 26 k = t' 26 k ∧ t 30 k = t' 30 k ∧ t 24 k = t' 24 k ∧ t 25 k = t' 25 k) (D : Nat) {s s' : AS} (h2 : s.2 = s'.2) (h1 : ∀ k, k < nw → s.1 k = s'.1 k) :
    (dA t nl nw ni D s).2 = (dA t' nl nw ni D s').2 ∧ ∀ k, k < nw → (dA t nl nw ni D s).1 k = (dA t' nl nw ni D s').1 k := by
  have hm : movF t ni (nI D) = movF t' ni (nI D) := by
    unfold movF
    rw [sumF_congr hi, sumF_congr hi]
  have hh : headsF (t 17) (t 18) (t 20) (nI D) nw = headsF (t' 17) (t' 18) (t' 20) (nI D) nw := headsF_congr hw
  have hc : ∀ x, cntF (t 7) (lpF t) nl x (nI D) = cntF (t' 7) (lpF t') nl x (nI D) := fun x => by
    unfold cntF
    rw [lawF_congr hnl (fun k hk => (hl k hk).1) (fun k hk => Iff.rfl) (fun k hk => (hl k hk).2 1) (p := 1), lawF_congr hnl (fun k hk => (hl k hk).1) (fun k hk => Iff.rfl) (fun k hk => (hl k hk).2 2) (p := 2)]
  obtain ⟨g1, g2⟩ := gsF_congr (go := t 20) (go' := t' 20) (day := nI D) (held := s.2.1 + movF t ni (nI D)) (h0 := headsF (t 17) (t 18) (t 20) (nI D) nw) (s0 := s.1) (s0' := s'.1) (n := nw) (fun k hk => (hw k hk).2.2)
  have e1 : gvF t nw s.1 (nI D) (s.2.1 + movF t ni (nI D)) = gsF (t 20) (nI D) (s.2.1 + movF t ni (nI D)) s.1 (headsF (t 17) (t 18) (t 20) (nI D) nw) nw := rfl
  have e2 : gvF t' nw s'.1 (nI D) (s'.2.1 + movF t' ni (nI D)) = gsF (t' 20) (nI D) (s.2.1 + movF t ni (nI D)) s'.1 (headsF (t 17) (t 18) (t 20) (nI D) nw) nw := by
    rw [← h2, ← hm, hh]
  unfold dA
  rw [e1, e2, g1, ← h2, ← hm, hc]
  exact ⟨rfl, fun k hk => g2 k (Or.inl (h1 k hk))⟩
theorem AG_congr (hnl : nl < 1000) (hl : ∀ k, k < nl → t 7 k = t' 7 k ∧ ∀ p, lpF t k p = lpF t' k p) (hw : ∀ k, k < nw → t 17 k = t' 17 k ∧ t 18 k = t' 18 k ∧ t 20 k = t' 20 k) (hi : ∀ k, k < ni → t 26 k = t' 26 k ∧ t 30 k = t' 30 k ∧ t 24 k = t' 24 k ∧ t 25 k = t' 25 k) {s0 s0' : Nat → Int32} (hs : ∀ k, k < nw → s0 k = s0' k) : ∀ D,
    (AG t nl nw ni s0 D).2 = (AG t' nl nw ni s0' D).2 ∧ ∀ k, k < nw → (AG t nl nw ni s0 D).1 k = (AG t' nl nw ni s0' D).1 k
  | 0 => ⟨rfl, hs⟩
  | D + 1 => by
    obtain ⟨h2, h1⟩ := AG_congr hnl hl hw hi hs D
    have z : (yrZ D (AG t nl nw ni s0 D)).2 = (yrZ D (AG t' nl nw ni s0' D)).2 ∧ ∀ k, k < nw → (yrZ D (AG t nl nw ni s0 D)).1 k = (yrZ D (AG t' nl nw ni s0' D)).1 k := by
      unfold yrZ
      split
      · rw [h2]
        exact ⟨rfl, h1⟩
      · exact ⟨h2, h1⟩
    obtain ⟨d2, d1⟩ := dA_congr hnl hl hw hi D z.1 z.2
    rw [AG_s, AG_s]
    unfold dayG
    split
    · rw [d2]
      exact ⟨rfl, d1⟩
    · exact ⟨d2, d1⟩
theorem rowG_congr (hi : ∀ k, k < ni → t 26 k = t' 26 k ∧ t 30 k = t' 30 k ∧ t 24 k = t' 24 k ∧ t 25 k = t' 25 k) {s0 s0' : Nat → Int32} (hA : ∀ D, (AG t nl nw ni s0 D).2 = (AG t' nl nw ni s0' D).2) (y p : Nat) : rowG t nl nw ni s0 y p = rowG t' nl nw ni s0' y p := by
  unfold rowG
  rw [hA, hA, sumF_congr hi, sumF_congr hi]
/-- a share stays as it is while the ward isn't given over -/
theorem AG_stay {s0 : Nat → Int32} {k : Nat} (D : Nat) : ∀ n, (∀ e, D ≤ e → e < D + n → ¬ t 20 k = nI e) → (AG t nl nw ni s0 (D + n)).1 k = (AG t nl nw ni s0 D).1 k
  | 0, _ => rfl
  | n + 1, h => by
    have ih := AG_stay (s0 := s0) D n (fun e h1 h2 => h e h1 (by omega))
    rw [show D + (n + 1) = (D + n) + 1 from rfl, AG_s, ← ih]
    have hz : (yrZ (D + n) (AG t nl nw ni s0 (D + n))).1 = (AG t nl nw ni s0 (D + n)).1 := by
      unfold yrZ
      split <;> rfl
    have hd : (dA t nl nw ni (D + n) (yrZ (D + n) (AG t nl nw ni s0 (D + n)))).1 k = (yrZ (D + n) (AG t nl nw ni s0 (D + n))).1 k := by
      unfold dA
      exact gsF_out (h (D + n) (by omega) (by omega)) nw
    unfold dayG
    rw [← hz, ← hd]
    split <;> rfl
end CONG
/-! the told things: the same on both sides -/
def TL (w : W0) (nl : Nat) : Prop := nl ≤ 8 ∧ w 1 2 = nI nl ∧ w 57 0 = nI nl ∧ ∀ k, k < nl → w 58 k = w 7 k ∧ dayP (w 7 k) ∧ (10 ≤ (w (9 + k) 0).toInt ∧ (w (9 + k) 0).toInt ≤ 30) ∧ ∀ p, p < 5 → w 59 (5 * k + p) = w (9 + k) p
def TW (w : W0) (nw : Nat) : Prop := nw ≤ 6 ∧ w 2 5 = nI nw ∧ w 57 3 = nI nw ∧ ∀ k, k < nw → w 60 k = w 17 k ∧ w 61 k = w 18 k ∧ bornP (w 17 k)
def TV (w : W0) (nv : Nat) : Prop := nv ≤ 10 ∧ w 3 2 = nI nv ∧ w 57 6 = nI nv ∧ ∀ k, k < nv → w 62 k = w 22 k ∧ w 63 k = w 23 k
abbrev lkP (x : Int32) (n : Nat) : Prop := x = -1 ∨ inP x n
def TI (w : W0) (nv ne ni : Nat) : Prop := ni ≤ 60 ∧ w 4 7 = nI ni ∧ w 57 9 = nI ni ∧ (∀ k, k < ni → w 65 k = w 24 k ∧ w 66 k = w 25 k ∧ w 67 k = w 27 k ∧ w 68 k = w 28 k ∧ w 69 k = w 29 k ∧ (w 28 k = 0 ∨ w 28 k = 1) ∧ (w 29 k = 0 ∨ w 29 k = 1) ∧ ((w 26 k = 1 ∧ w 64 k = 0 ∧ lkP (w 27 k) ne) ∨ (w 26 k = 0 ∧ w 64 k = 1 ∧ lkP (w 27 k) nv))) ∧ ∀ k, ni ≤ k → w 28 k = 0 ∧ w 29 k = 0
def TE (w : W0) (nv ne : Nat) : Prop := ne ≤ 10 ∧ w 5 4 = nI ne ∧ w 57 16 = nI ne ∧ ∀ k, k < ne → w 70 k = w 31 k ∧ w 71 k = w 32 k ∧ w 72 k = w 33 k ∧ w 73 k = w 34 k ∧ lkP (w 34 k) nv ∧ letP (w 31 k) (w 32 k) (w 33 k)
def TK (w : W0) : Prop := w 57 22 = w 6 2 ∧ ∀ y, y < 10 → ∀ p, p < 6 → w 74 (6 * y + p) = w (47 + y) p
/-! equal answers out of equal told things -/
theorem best_eq {f f' : Nat → Int32} {day : Int32} {n : Nat} (hn : n < 1000) (h : ∀ k, k < n → f k = f' k) : ∀ m, m ≤ n → ((bestM f day m).toInt < 0 ∧ (bestF f' day m).toInt < 0) ∨ (¬ (bestF f' day m).toInt < 0 ∧ bestM f day m = bestF f' day m)
  | 0, _ => Or.inl ⟨by show (-6 : Int32).toInt < 0; decide, by show (-1 : Int32).toInt < 0; decide⟩
  | m + 1, hm => by
    have e := h m (by omega)
    have i0 : (nI m).toInt = (m : Int) := nI_toInt (by omega)
    rw [bestM_s, bestF_s, e]
    rcases best_eq (day := day) hn h m (by omega) with ⟨h1, h2⟩ | ⟨h1, h2⟩
    · by_cases hc : (f' m).toInt ≤ day.toInt
      · rw [if_pos ⟨hc, Or.inl h1⟩, if_pos ⟨hc, Or.inl h2⟩]
        exact Or.inr ⟨by omega, rfl⟩
      · rw [if_neg (fun z => hc z.1), if_neg (fun z => hc z.1)]
        exact Or.inl ⟨h1, h2⟩
    · rw [h2, h _ (Nat.lt_of_lt_of_le (bestF_ix (by omega) h1) (by omega))]
      by_cases hc : (f' m).toInt ≤ day.toInt ∧ ((bestF f' day m).toInt < 0 ∨ (f' (bestF f' day m).toNatClampNeg).toInt ≤ (f' m).toInt)
      · rw [if_pos hc]
        exact Or.inr ⟨by omega, rfl⟩
      · rw [if_neg hc]
        exact Or.inr ⟨h1, rfl⟩
theorem law_eq {w : W0} {nl : Nat} (h : TL w nl) (day : Int32) {p : Nat} (hp : p < 5) : lawM (w 58) (w 59) nl day p = lawF (w 7) (lpF w) nl day p := by
  obtain ⟨h1, h2, h3, h4⟩ := h
  unfold lawM lawF
  rcases best_eq (f := w 58) (f' := w 7) (day := day) (show nl < 1000 by omega) (fun k hk => (h4 k hk).1) nl (Nat.le_refl _) with ⟨a, b⟩ | ⟨a, b⟩
  · rw [if_pos a, if_pos b]
  · have hx := bestF_ix (show nl < 1000 by omega) a
    rw [b, if_neg a, if_neg a, lpF_in (by omega)]
    exact (h4 _ hx).2.2.2 p hp
theorem TL_ok {w : W0} {nl : Nat} (h : TL w nl) : okL (w 7) (lpF w) nl := by
  obtain ⟨h1, h2, h3, h4⟩ := h
  refine ⟨h1, fun k hk => ?_⟩
  rw [lpF_in (by omega)]
  obtain ⟨a, b, c, d⟩ := h4 k hk
  exact ⟨b, c.1, c.2⟩
theorem lk_lim {w : W0} {nv : Nat} (h : TV w nv) {x : Int32} (hx : lkP x nv) : (x = -1 ∧ x.toInt < 0 ∧ ¬ 0 ≤ x.toInt) ∨ (¬ x = -1 ∧ ¬ x.toInt < 0 ∧ 0 ≤ x.toInt ∧ limC w x = w 62 x.toNatClampNeg) := by
  obtain ⟨h1, h2, h3, h4⟩ := h
  have hv : (w 3 2).toInt = (nv : Int) := by rw [h2]; exact nI_toInt (by omega)
  rcases hx with e | ⟨a, b⟩
  · subst e
    exact Or.inl ⟨rfl, by decide, by decide⟩
  · refine Or.inr ⟨?_, by omega, a, ?_⟩
    · intro e
      rw [e] at a
      exact absurd a (by decide)
    · unfold limC
      rw [if_pos ⟨a, by omega, by omega⟩, (h4 _ (nat_lt a b)).1]
theorem bn1 {A B C D Y : Prop} [Decidable A] [Decidable B] [Decidable C] [Decidable D] [Decidable Y] (ha : A) (hc : ¬ C) : ((if A ∧ B then 1 else 0) + (if Y then 2 else 0) + (if C ∧ D then 4 else 0) : Int32) = if Y then (if B then 1 else 0) + 2 else (if B then 1 else 0) := by
  by_cases hB : B <;> by_cases hY : Y <;> simp [ha, hc, hB, hY]
theorem bn2 {A B C D Y : Prop} [Decidable A] [Decidable B] [Decidable C] [Decidable D] [Decidable Y] (ha : ¬ A) (hc : C) : ((if A ∧ B then 1 else 0) + (if Y then 2 else 0) + (if C ∧ D then 4 else 0) : Int32) = if Y then (if D then 4 else 0) + 2 else (if D then 4 else 0) := by
  by_cases hB : D <;> by_cases hY : Y <;> simp [ha, hc, hB, hY] <;> decide
theorem bars_eq {w : W0} {nl nv ne ni k : Nat} (hL : TL w nl) (hV : TV w nv) (hI : TI w nv ne ni) (hk : k < ni) : barM w nl k = barsF w nl k := by
  obtain ⟨h1, h2, h3, h4, h5⟩ := hI
  obtain ⟨a1, a2, a3, a4, a5, a6, a7, a8⟩ := h4 k hk
  unfold barM barsF
  rw [a1, a2, a3, a4, a5, law_eq hL _ (by decide)]
  rcases a8 with ⟨b1, b2, b3⟩ | ⟨b1, b2, b3⟩
  · rw [b1, b2, if_pos rfl, if_pos (by decide)]
  · rw [b1, b2, if_neg (show ¬ (1 : Int32) = 0 by decide), if_neg (show ¬ ¬ (0 : Int32) = 0 by decide)]
    unfold onF
    rcases lk_lim hV b3 with ⟨c1, c2, c3⟩ | ⟨c1, c2, c3, c4⟩
    · rw [if_pos c1]
      exact bn1 c2 c3
    · rw [if_neg c1, c4]
      exact bn2 c2 c3
theorem flaw_eq {w : W0} {nl nv ne k : Nat} (hL : TL w nl) (hV : TV w nv) (hE : TE w nv ne) (hk : k < ne) : voidM w nl k = flawF w nl k := by
  obtain ⟨h1, h2, h3, h4⟩ := hE
  obtain ⟨a1, a2, a3, a4, a5, a6⟩ := h4 k hk
  unfold voidM flawF onF
  rw [a1, a2, a4, law_eq hL _ (by decide)]
  rcases lk_lim hV a5 with ⟨c1, c2, c3⟩ | ⟨c1, c2, c3, c4⟩
  · rw [if_pos c2, if_pos c1]
  · rw [if_neg c2, if_neg c1, c4]
theorem use_eq {w : W0} {nv : Nat} (h : TV w nv) {x : Int32} (hx : lkP x nv) : useC w x ≠ -6 ↔ usedP w x := by
  obtain ⟨h1, h2, h3, h4⟩ := h
  have hv : (w 3 2).toInt = (nv : Int) := by rw [h2]; exact nI_toInt (by omega)
  unfold useC usedP
  rcases hx with e | ⟨a, b⟩
  · subst e
    rw [if_neg (fun z => absurd z.1 (by decide))]
    exact ⟨fun z => absurd rfl z, fun z => absurd z.1 (by decide)⟩
  · rw [if_pos ⟨a, by omega, by omega⟩, (h4 _ (nat_lt a b)).2]
    exact ⟨fun z => ⟨a, z⟩, fun z => z.2⟩
theorem in_has {x c : Int32} {n N : Nat} (h : c = nI n) (hn : n ≤ N) (hN : N ≤ 100) : (0 ≤ x.toInt ∧ x.toInt < c.toInt ∧ x.toInt < (N : Int)) ↔ inP x n := by
  have : c.toInt = (n : Int) := by rw [h]; exact nI_toInt (by omega)
  unfold inP
  omega
/-! arrears -/
theorem had_eq {w : W0} {nv ne ni : Nat} (hI : TI w nv ne ni) (s l u : Int32) : ∀ n, n ≤ ni → lessM (w 64) (w 67) (w 65) (w 66) s l u n = s - hadF (w 26) (w 27) (w 24) (w 25) l u n
  | 0, _ => by
    show s = s - 0
    simp
  | n + 1, hn => by
    obtain ⟨h1, h2, h3, h4, h5⟩ := hI
    obtain ⟨a1, a2, a3, a4, a5, a6, a7, a8⟩ := h4 n (by omega)
    rw [lessM_s, hadF_s, had_eq ⟨h1, h2, h3, h4, h5⟩ s l u n (by omega), a1, a2, a3]
    have hr : w 64 n = 0 ↔ ¬ w 26 n = 0 := by
      rcases a8 with ⟨b1, b2, -⟩ | ⟨b1, b2, -⟩ <;> rw [b1, b2] <;> decide
    by_cases hc : ¬ w 26 n = 0 ∧ w 27 n = l ∧ (w 24 n).toInt ≤ u.toInt
    · rw [if_pos ⟨hr.mpr hc.1, hc.2⟩, if_pos hc]
      simp only [Int32.sub_eq_add_neg, Int32.neg_add]
      ac_rfl
    · rw [if_neg (fun z => hc ⟨hr.mp z.1, z.2⟩), if_neg hc]
theorem due_at {fr rent day : Int32} (hf : dayP fr) (hd : dayP day) (hr : 1 ≤ rent.toInt ∧ rent.toInt ≤ 1000) : ∀ n : Nat, n ≤ 30 →
    (arrM fr rent day n).toInt = rent.toInt * (if day.toInt < fr.toInt then 0 else min (n : Int) ((day.toInt - fr.toInt) / 360 + 1))
  | 0, _ => by
    show (0 : Int32).toInt = _
    rw [show (0 : Int32).toInt = 0 from rfl]
    split
    · simp
    · have : min ((0 : Nat) : Int) ((day.toInt - fr.toInt) / 360 + 1) = 0 := by omega
      rw [this]
      simp
  | n + 1, hn => by
    have ih := due_at hf hd hr n (by omega)
    have i0 : (nI n).toInt = (n : Int) := nI_toInt (by omega)
    have e1 : (360 * nI n).toInt = 360 * (n : Int) := by
      rw [ti_mul (x := 360) (y := nI n)]
      · rw [i0]; rfl
      · rw [i0]; show _ ≤ 360 * (n : Int); omega
      · rw [i0]; show 360 * (n : Int) < _; omega
    have e2 : (fr + 360 * nI n).toInt = fr.toInt + 360 * (n : Int) := by
      rw [ti_add (by omega) (by omega), e1]
    rw [arrM_s, e2]
    by_cases hc : fr.toInt + 360 * (n : Int) ≤ day.toInt
    · have hnn : ¬ day.toInt < fr.toInt := by omega
      rw [if_neg hnn] at ih ⊢
      have m1 : min (n : Int) ((day.toInt - fr.toInt) / 360 + 1) = (n : Int) := by omega
      have m2 : min ((n + 1 : Nat) : Int) ((day.toInt - fr.toInt) / 360 + 1) = (n : Int) + 1 := by omega
      rw [m1] at ih
      have b1 : rent.toInt * (n : Int) ≤ 1000 * 30 := Int.mul_le_mul hr.2 (by omega) (by omega) (by omega)
      have b0 : 0 ≤ rent.toInt * (n : Int) := Int.mul_nonneg (by omega) (by omega)
      rw [if_pos hc, m2, ti_add (by omega) (by omega), ih, Int.mul_add, Int.mul_one]
    · rw [if_neg hc, ih]
      by_cases hnn : day.toInt < fr.toInt
      · rw [if_pos hnn, if_pos hnn]
      · rw [if_neg hnn, if_neg hnn]
        have m2 : min ((n + 1 : Nat) : Int) ((day.toInt - fr.toInt) / 360 + 1) = min (n : Int) ((day.toInt - fr.toInt) / 360 + 1) := by omega
        rw [m2]
theorem due_eq {w : W0} {k Y : Nat} {day : Int32} (hp : letP (w 31 k) (w 32 k) (w 33 k)) (hd : dayP day) (hY : w 32 k = nI Y) (hY2 : Y ≤ 30) : arrM (w 31 k) (w 33 k) day Y = dueF w k day := by
  obtain ⟨hf, hy, hr⟩ := hp
  apply ti_eq
  rw [due_at hf hd hr Y hY2]
  have iY : (nI Y).toInt = (Y : Int) := nI_toInt (by omega)
  unfold dueF
  by_cases hc : day.toInt < (w 31 k).toInt
  · rw [if_pos hc, if_pos hc, Int.mul_zero]
    rfl
  · rw [if_neg hc, if_neg hc, hY]
    have s1 : (day - w 31 k).toInt = day.toInt - (w 31 k).toInt := ti_sub (by omega) (by omega)
    have s2 : ((day - w 31 k) / 360).toInt = (day.toInt - (w 31 k).toInt) / 360 := by
      have i3 : (360 : Int32).toInt = 360 := rfl
      rw [Int32.toInt_div_of_ne_right _ _ (by decide), s1, i3, Int.tdiv_eq_ediv_of_nonneg (by omega)]
    have i1 : (1 : Int32).toInt = 1 := rfl
    have s3 : ((day - w 31 k) / 360 + 1).toInt = (day.toInt - (w 31 k).toInt) / 360 + 1 := by
      rw [ti_add (by rw [s2, i1]; omega) (by rw [s2, i1]; omega), s2, i1]
    have hlt : (nI Y < (day - w 31 k) / 360 + 1) ↔ (Y : Int) < (day.toInt - (w 31 k).toInt) / 360 + 1 := by
      rw [Int32.lt_iff_toInt_lt, iY, s3]
    by_cases hx : (Y : Int) < (day.toInt - (w 31 k).toInt) / 360 + 1
    · rw [if_pos (hlt.mpr hx)]
      have m : min (Y : Int) ((day.toInt - (w 31 k).toInt) / 360 + 1) = (Y : Int) := by omega
      have b1 : (w 33 k).toInt * (Y : Int) ≤ 1000 * 30 := Int.mul_le_mul hr.2 (by omega) (by omega) (by omega)
      have b0 : 0 ≤ (w 33 k).toInt * (Y : Int) := Int.mul_nonneg (by omega) (by omega)
      rw [m, ti_mul (by rw [iY]; omega) (by rw [iY]; omega), iY]
    · rw [if_neg (fun z => hx (hlt.mp z))]
      have m : min (Y : Int) ((day.toInt - (w 31 k).toInt) / 360 + 1) = (day.toInt - (w 31 k).toInt) / 360 + 1 := by omega
      have b1 : (w 33 k).toInt * ((day.toInt - (w 31 k).toInt) / 360 + 1) ≤ 1000 * 30 := Int.mul_le_mul hr.2 (by omega) (by omega) (by omega)
      have b0 : 0 ≤ (w 33 k).toInt * ((day.toInt - (w 31 k).toInt) / 360 + 1) := Int.mul_nonneg (by omega) (by omega)
      rw [m, ti_mul (by rw [s3]; omega) (by rw [s3]; omega), s3]
theorem arr_eq {w : W0} {nl nv ne ni k : Nat} {i day : Int32} (hL : TL w nl) (hV : TV w nv) (hI : TI w nv ne ni) (hE : TE w nv ne) (hk : k < ne) (hd : dayP day) : lessM (w 64) (w 67) (w 65) (w 66) (sumM w nl k (w 71 k).toNatClampNeg day) i day ni = (if flawF w nl k = 0 then dueF w k day else 0) - hadF (w 26) (w 27) (w 24) (w 25) i day ni := by
  rw [had_eq hI _ _ _ ni (Nat.le_refl _)]
  obtain ⟨a1, a2, a3, a4, a5, a6⟩ := hE.2.2.2 k hk
  unfold sumM
  rw [flaw_eq hL hV hE hk, a1, a2, a3]
  have hy := a6.2.1
  rw [due_eq a6 hd (nI_back (by omega)) (by
    have := toNat_back (x := w 32 k) (by omega)
    omega)]

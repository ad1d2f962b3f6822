/-! PURE: the class's books are the day by day accounts -/
theorem turnS_congr {t t' : W0} {nl nw ni : Nat} {fin : Int32} (h : ∀ q, q < 36 → q ≠ 21 → t' q = t q) : turnS t' nl nw ni fin = turnS t nl nw ni fin := by
  have hl : lpF t' = lpF t := lpF_congr (fun q h1 h2 => h q (by omega) (by omega))
  funext s
  unfold turnS turnF
  simp only [movF, gvF]
  rw [hl, h 7 (by decide) (by decide), h 17 (by decide) (by decide), h 18 (by decide) (by decide), h 20 (by decide) (by decide), h 24 (by decide) (by decide), h 25 (by decide) (by decide), h 26 (by decide) (by decide), h 30 (by decide) (by decide)]
theorem yrF_congr {t t' : W0} {nl nw ni : Nat} {fin : Int32} (h : ∀ q, q < 36 → q ≠ 21 → t' q = t q) : ∀ (m : Nat) (s : YS), yrF t' nl nw ni fin m s = yrF t nl nw ni fin m s
  | 0, _ => rfl
  | m + 1, s => by
    show (if _ then yrF t' nl nw ni fin m (turnS t' nl nw ni fin s) else s) = (if _ then yrF t nl nw ni fin m (turnS t nl nw ni fin s) else s)
    rw [turnS_congr h, yrF_congr h m]
theorem n360 (Y : Nat) : nI Y * 360 = nI (360 * Y) := by
  rw [show (360 : Int32) = nI 360 from rfl, pk_mul, Nat.mul_comm]
theorem n360b (Y : Nat) : nI (360 * Y) + 360 = nI (360 * Y + 360) := nI_add (360 * Y) 360
theorem n360c (Y : Nat) : nI (360 * Y + 360) - 1 = nI (360 * Y + 359) := nI_pred (360 * Y + 359)
theorem yearW_row (w : W0) (nl nw ni y : Nat) (first begins : Int32) (p : Nat) (hp : p < 6) : yearW w nl nw ni y first begins (36 + y) p =
    (if p = 0 then begins else if p = 1 then sumF (w 26) (w 30) (w 24) (w 25) 1 first (first + 360 - 1) ni else if p = 2 then sumF (w 26) (w 30) (w 24) (w 25) 0 first (first + 360 - 1) ni else if p = 3 then (finS w nl nw ni first begins).2.2.1 else if p = 4 then intF (finS w nl nw ni first begins) else (finS w nl nw ni first begins).2.1 + intF (finS w nl nw ni first begins)) := by
  unfold yearW
  rw [setA_ne (by omega)]
  rcases (show p = 0 ∨ p = 1 ∨ p = 2 ∨ p = 3 ∨ p = 4 ∨ p = 5 by omega) with e | e | e | e | e | e <;> subst e <;> simp [setW, upd]
theorem rk_AG {c : W0} {nl nw ni : Nat} (hnl : nl < 1000) : ∀ Y, Y ≤ 10 → (rkF c nl nw ni Y).2 = (AG c nl nw ni (c 21) (360 * Y)).2.1 ∧ (rkF c nl nw ni Y).1 21 = (AG c nl nw ni (c 21) (360 * Y)).1 ∧ ∀ y, y < Y → ∀ p, p < 6 → (rkF c nl nw ni Y).1 (36 + y) p = rowG c nl nw ni (c 21) y p
  | 0, _ => ⟨rfl, rfl, fun y hy => absurd hy (Nat.not_lt_zero y)⟩
  | Y + 1, hY => by
    obtain ⟨h1, h2, h3⟩ := rk_AG (c := c) (nw := nw) (ni := ni) hnl Y (by omega)
    have hne : ∀ q, q ≠ 21 → q < 36 → (rkF c nl nw ni Y).1 q = c q := fun q a b => rkF_ne a Y (Or.inl b)
    have hf : finS (rkF c nl nw ni Y).1 nl nw ni (nI Y * 360) (rkF c nl nw ni Y).2 = ((lastA c nl nw ni (c 21) Y).1, (lastA c nl nw ni (c 21) Y).2.1, (lastA c nl nw ni (c 21) Y).2.2.1, (lastA c nl nw ni (c 21) Y).2.2.2, nI (360 * Y + 360)) := by
      unfold finS
      rw [yrF_congr (fun q a b => hne q b a), n360, n360b, h1, h2]
      have h := yrF_at (t := c) (nl := nl) (nw := nw) (ni := ni) (F := 360 * Y + 360) (by omega) hnl 360 (360 * Y) ((AG c nl nw ni (c 21) (360 * Y)).1, (AG c nl nw ni (c 21) (360 * Y)).2.1, 0, 0) (by omega) (by omega)
      rw [h, show 360 * Y + 360 - 360 * Y = 360 by omega]
      rfl
    have hA := AG_year (t := c) (nl := nl) (nw := nw) (ni := ni) (s0 := c 21) (Y := Y)
    rw [show 360 * (Y + 1) = 360 * Y + 360 by omega, rkF_s]
    refine ⟨?_, ?_, ?_⟩
    · show (finS _ _ _ _ _ _).2.1 + intF _ = _
      rw [hf, hA]
    · show yearW (rkF c nl nw ni Y).1 nl nw ni Y (nI Y * 360) (rkF c nl nw ni Y).2 21 = _
      unfold yearW
      rw [setA_p, hf, hA]
    · intro y hy p hp
      rcases Nat.lt_or_ge y Y with q | q
      · show yearW (rkF c nl nw ni Y).1 nl nw ni Y (nI Y * 360) (rkF c nl nw ni Y).2 (36 + y) p = _
        rw [yearW_ne (by omega) (by omega)]
        exact h3 y q p hp
      · have e : y = Y := by omega
        subst e
        show yearW (rkF c nl nw ni y).1 nl nw ni y (nI y * 360) (rkF c nl nw ni y).2 (36 + y) p = _
        rw [yearW_row _ _ _ _ _ _ _ p hp, hf, h1, hne 24 (by decide) (by decide), hne 25 (by decide) (by decide), hne 26 (by decide) (by decide), hne 30 (by decide) (by decide), n360, n360b, n360c]
        unfold rowG
        rw [hA]
/-! the pot on a day -/
theorem gvF_sum (t : W0) (nw : Nat) (sr : Nat → Int32) (day held : Int32) : (gvF t nw sr day held).2.1 = gbF (t 20) (gvF t nw sr day held).1 day day nw := gsF_sum nw
/-- within a year: the pot, and what was given, out of the sums -/
theorem itA_sums {t : W0} {nl nw ni Y : Nat} (hY : Y < 10) (s : AS) : ∀ n, n < 360 →
    (itA t nl nw ni (360 * Y) (n + 1) (s.1, s.2.1, 0, 0)).2.2.1 = gbF (t 20) (itA t nl nw ni (360 * Y) (n + 1) (s.1, s.2.1, 0, 0)).1 (nI (360 * Y)) (nI (360 * Y + n)) nw ∧
    (itA t nl nw ni (360 * Y) (n + 1) (s.1, s.2.1, 0, 0)).2.1 = s.2.1 + (sumF (t 26) (t 30) (t 24) (t 25) 1 (nI (360 * Y)) (nI (360 * Y + n)) ni - sumF (t 26) (t 30) (t 24) (t 25) 0 (nI (360 * Y)) (nI (360 * Y + n)) ni) - (itA t nl nw ni (360 * Y) (n + 1) (s.1, s.2.1, 0, 0)).2.2.1
  | 0, _ => by
    have e : itA t nl nw ni (360 * Y) (0 + 1) (s.1, s.2.1, 0, 0) = dA t nl nw ni (360 * Y + 0) (s.1, s.2.1, 0, 0) := rfl
    rw [e]
    unfold dA
    dsimp only
    rw [Int32.zero_add]
    exact ⟨gvF_sum _ _ _ _ _, rfl⟩
  | n + 1, hn => by
    obtain ⟨h1, h2⟩ := itA_sums (t := t) (nl := nl) (nw := nw) (ni := ni) hY s n (by omega)
    have i0 : (nI (360 * Y)).toInt = ((360 * Y : Nat) : Int) := nI_toInt (by omega)
    have i1 : (nI (360 * Y + n)).toInt = ((360 * Y + n : Nat) : Int) := nI_toInt (by omega)
    have i2 : (nI (360 * Y + (n + 1))).toInt = ((360 * Y + (n + 1) : Nat) : Int) := nI_toInt (by omega)
    rw [itA_s]
    generalize itA t nl nw ni (360 * Y) (n + 1) (s.1, s.2.1, 0, 0) = r at h1 h2 ⊢
    have hg : gbF (t 20) (gvF t nw r.1 (nI (360 * Y + (n + 1))) (r.2.1 + movF t ni (nI (360 * Y + (n + 1))))).1 (nI (360 * Y)) (nI (360 * Y + n)) nw = r.2.2.1 := by
      rw [h1]
      exact gbF_congr (fun k hk => ⟨rfl, fun z => gsF_out (fun e => by rw [e, i2] at z; omega) nw⟩)
    have hs : ∀ q : Int32, sumF (t 26) (t 30) (t 24) (t 25) q (nI (360 * Y)) (nI (360 * Y + (n + 1))) ni = sumF (t 26) (t 30) (t 24) (t 25) q (nI (360 * Y)) (nI (360 * Y + n)) ni + sumF (t 26) (t 30) (t 24) (t 25) q (nI (360 * Y + (n + 1))) (nI (360 * Y + (n + 1))) ni := fun q => sumF_app (by omega) (by omega) (by omega) ni
    unfold dA
    dsimp only
    refine ⟨?_, ?_⟩
    · rw [gbF_app (b := nI (360 * Y + n)) (c := nI (360 * Y + (n + 1))) (by omega) (by omega) (by omega), hg, gvF_sum]
    · rw [hs 1, hs 0, h2]
      generalize (gvF t nw r.1 (nI (360 * Y + (n + 1))) (s.2.1 + (sumF (t 26) (t 30) (t 24) (t 25) 1 (nI (360 * Y)) (nI (360 * Y + n)) ni - sumF (t 26) (t 30) (t 24) (t 25) 0 (nI (360 * Y)) (nI (360 * Y + n)) ni) - r.2.2.1 + movF t ni (nI (360 * Y + (n + 1))))).2.1 = g
      unfold movF
      generalize sumF (t 26) (t 30) (t 24) (t 25) 1 (nI (360 * Y)) (nI (360 * Y + n)) ni = a
      generalize sumF (t 26) (t 30) (t 24) (t 25) 0 (nI (360 * Y)) (nI (360 * Y + n)) ni = b
      generalize sumF (t 26) (t 30) (t 24) (t 25) 1 (nI (360 * Y + (n + 1))) (nI (360 * Y + (n + 1))) ni = c
      generalize sumF (t 26) (t 30) (t 24) (t 25) 0 (nI (360 * Y + (n + 1))) (nI (360 * Y + (n + 1))) ni = d
      generalize r.2.2.1 = e
      generalize s.2.1 = f
      simp only [Int32.sub_eq_add_neg, Int32.neg_add]
      ac_rfl

/-! PURE: numbers, and that the reckonings look at the told places alone -/
theorem ti_rng (x : Int32) : -2147483648 ≤ x.toInt ∧ x.toInt < 2147483648 := by
  have h1 := Int32.toInt_lt x
  have h2 := Int32.le_toInt x
  omega
theorem ti_bmod {z : Int} (h1 : -2147483648 ≤ z) (h2 : z < 2147483648) : z.bmod (2 ^ 32) = z := by
  rw [Int.bmod_def]
  have e : ((2 ^ 32 : Nat) : Int) = 4294967296 := by decide
  rw [e]
  split <;> omega
theorem ti_add {x y : Int32} (h1 : -2147483648 ≤ x.toInt + y.toInt) (h2 : x.toInt + y.toInt < 2147483648) : (x + y).toInt = x.toInt + y.toInt := by
  rw [Int32.toInt_add]
  exact ti_bmod h1 h2
theorem ti_sub {x y : Int32} (h1 : -2147483648 ≤ x.toInt - y.toInt) (h2 : x.toInt - y.toInt < 2147483648) : (x - y).toInt = x.toInt - y.toInt := by
  rw [Int32.toInt_sub]
  exact ti_bmod h1 h2
theorem ti_mul {x y : Int32} (h1 : -2147483648 ≤ x.toInt * y.toInt) (h2 : x.toInt * y.toInt < 2147483648) : (x * y).toInt = x.toInt * y.toInt := by
  rw [Int32.toInt_mul]
  exact ti_bmod h1 h2
theorem ti_eq {x y : Int32} (h : x.toInt = y.toInt) : x = y := Int32.toInt_inj.mp h
/-! congruence -/
theorem bestF_ix {f : Nat → Int32} {day : Int32} {m : Nat} (hm : m < 1000) (h : ¬ (bestF f day m).toInt < 0) : (bestF f day m).toNatClampNeg < m := nat_lt (by omega) (bestF_lt m hm).2
theorem bestF_congr {f f' : Nat → Int32} {day day' : Int32} {n : Nat} (hn : n < 1000) (h : ∀ k, k < n → f k = f' k) (hd : ∀ k, k < n → ((f k).toInt ≤ day.toInt ↔ (f k).toInt ≤ day'.toInt)) : ∀ m, m ≤ n → bestF f day m = bestF f' day' m
  | 0, _ => rfl
  | m + 1, hm => by
    have ih := bestF_congr hn h hd m (by omega)
    rw [bestF_s, bestF_s, ← ih, ← h m (by omega)]
    have hdm := hd m (by omega)
    by_cases hb : (bestF f day m).toInt < 0
    · by_cases hc : (f m).toInt ≤ day.toInt
      · rw [if_pos ⟨hc, Or.inl hb⟩, if_pos ⟨hdm.mp hc, Or.inl hb⟩]
      · rw [if_neg (fun z => hc z.1), if_neg (fun z => hc (hdm.mpr z.1))]
    · rw [h _ (Nat.lt_of_lt_of_le (bestF_ix (by omega) hb) (by omega))]
      by_cases hc : (f m).toInt ≤ day.toInt ∧ ((bestF f day m).toInt < 0 ∨ (f' (bestF f day m).toNatClampNeg).toInt ≤ (f m).toInt)
      · rw [if_pos hc, if_pos ⟨hdm.mp hc.1, hc.2⟩]
      · rw [if_neg hc, if_neg (fun z => hc ⟨hdm.mpr z.1, z.2⟩)]
theorem lawF_congr {f f' : Nat → Int32} {lp lp' : Nat → Nat → Int32} {nl : Nat} {day day' : Int32} {p : Nat} (hn : nl < 1000) (h : ∀ k, k < nl → f k = f' k) (hd : ∀ k, k < nl → ((f k).toInt ≤ day.toInt ↔ (f k).toInt ≤ day'.toInt)) (hp : ∀ k, k < nl → lp k p = lp' k p) : lawF f lp nl day p = lawF f' lp' nl day' p := by
  unfold lawF
  rw [← bestF_congr hn h hd nl (Nat.le_refl _)]
  by_cases hb : (bestF f day nl).toInt < 0
  · rw [if_pos hb, if_pos hb]
  · rw [if_neg hb, if_neg hb, hp _ (bestF_ix hn hb)]
theorem lpF_at {w w' : W0} {k p : Nat} (h : w (9 + k) p = w' (9 + k) p) : lpF w k p = lpF w' k p := by
  unfold lpF
  split
  · exact h
  · rfl
theorem sumF_congr {rc rc' al al' dy dy' co co' : Nat → Int32} {r a b : Int32} : ∀ {n : Nat}, (∀ k, k < n → rc k = rc' k ∧ al k = al' k ∧ dy k = dy' k ∧ co k = co' k) → sumF rc al dy co r a b n = sumF rc' al' dy' co' r a b n
  | 0, _ => rfl
  | n + 1, h => by
    obtain ⟨h1, h2, h3, h4⟩ := h n (by omega)
    rw [sumF_s, sumF_s, sumF_congr (fun k hk => h k (by omega)), h1, h2, h3, h4]
theorem headsF_congr {bo bo' di di' go go' : Nat → Int32} {day : Int32} : ∀ {n : Nat}, (∀ k, k < n → bo k = bo' k ∧ di k = di' k ∧ go k = go' k) → headsF bo di go day n = headsF bo' di' go' day n
  | 0, _ => rfl
  | n + 1, h => by
    obtain ⟨h1, h2, h3⟩ := h n (by omega)
    rw [headsF_s, headsF_s, headsF_congr (fun k hk => h k (by omega)), h3]
    unfold livesF
    rw [h1, h2]
theorem gbF_congr {go go' sr sr' : Nat → Int32} {a b : Int32} : ∀ {n : Nat}, (∀ k, k < n → go k = go' k ∧ (a.toInt ≤ (go k).toInt ∧ (go k).toInt ≤ b.toInt → sr k = sr' k)) → gbF go sr a b n = gbF go' sr' a b n
  | 0, _ => rfl
  | n + 1, h => by
    obtain ⟨h1, h2⟩ := h n (by omega)
    rw [gbF_s, gbF_s, gbF_congr (fun k hk => h k (by omega)), ← h1]
    by_cases hc : a.toInt ≤ (go n).toInt ∧ (go n).toInt ≤ b.toInt
    · rw [if_pos hc, if_pos hc, h2 hc]
    · rw [if_neg hc, if_neg hc]
theorem nextF_congr {f f' : Nat → Int32} {a b : Int32} : ∀ {n : Nat}, (∀ k, k < n → f k = f' k) → nextF f a b n = nextF f' a b n
  | 0, _ => rfl
  | n + 1, h => by rw [nextF_s, nextF_s, nextF_congr (fun k hk => h k (by omega)), h n (by omega)]
/-- given out on a day: the sum, the heads left, and each share, don't hang on what the shares were -/
theorem gsF_congr {go go' : Nat → Int32} {day held h0 : Int32} {s0 s0' : Nat → Int32} : ∀ {n : Nat}, (∀ k, k < n → go k = go' k) → (gsF go day held s0 h0 n).2 = (gsF go' day held s0' h0 n).2 ∧ ∀ j, (s0 j = s0' j ∨ (j < n ∧ go j = day)) → (gsF go day held s0 h0 n).1 j = (gsF go' day held s0' h0 n).1 j
  | 0, _ => ⟨rfl, fun j hj => by
      rcases hj with hj | hj
      · exact hj
      · omega⟩
  | n + 1, h => by
    obtain ⟨h1, h2⟩ := gsF_congr (go := go) (go' := go') (day := day) (held := held) (h0 := h0) (s0 := s0) (s0' := s0') (n := n) (fun k hk => h k (by omega))
    have hg := h n (by omega)
    rw [gsF_s, gsF_s, ← hg]
    by_cases hc : go n = day
    · rw [if_pos hc, if_pos hc]
      refine ⟨by rw [h1], fun j hj => ?_⟩
      show upd _ n _ j = upd _ n _ j
      by_cases hjn : j = n
      · subst hjn
        rw [upd_self, upd_self, h1]
      · rw [upd_ne hjn, upd_ne hjn]
        exact h2 j (hj.elim Or.inl (fun z => Or.inr ⟨by omega, z.2⟩))
    · rw [if_neg hc, if_neg hc]
      refine ⟨h1, fun j hj => h2 j ?_⟩
      rcases hj with hj | ⟨hj, hd⟩
      · exact Or.inl hj
      · exact Or.inr ⟨by rcases Nat.lt_or_ge j n with q | q; exact q; exact absurd (by rw [show n = j by omega]; exact hd) hc, hd⟩
theorem gsF_none {go : Nat → Int32} {day held h0 : Int32} {s0 : Nat → Int32} : ∀ {n : Nat}, (∀ k, k < n → ¬ go k = day) → gsF go day held s0 h0 n = (s0, 0, h0)
  | 0, _ => rfl
  | n + 1, h => by rw [gsF_s, if_neg (h n (by omega)), gsF_none (fun k hk => h k (by omega))]
theorem sumF_none {rc al dy co : Nat → Int32} {r a b : Int32} : ∀ {n : Nat}, (∀ k, k < n → ¬ (a.toInt ≤ (dy k).toInt ∧ (dy k).toInt ≤ b.toInt)) → sumF rc al dy co r a b n = 0
  | 0, _ => rfl
  | n + 1, h => by rw [sumF_s, if_neg (fun z => h n (by omega) ⟨z.2.2.1, z.2.2.2⟩), sumF_none (fun k hk => h k (by omega))]
/-- two stretches of days beside each other -/
theorem sumF_app {rc al dy co : Nat → Int32} {r a b c d : Int32} (h1 : a.toInt ≤ c.toInt) (h2 : b.toInt + 1 = c.toInt) (h3 : b.toInt ≤ d.toInt) : ∀ n : Nat, sumF rc al dy co r a d n = sumF rc al dy co r a b n + sumF rc al dy co r c d n
  | 0 => rfl
  | n + 1 => by
    rw [sumF_s, sumF_s, sumF_s, sumF_app h1 h2 h3 n]
    by_cases hr : rc n = r ∧ ¬ al n = 0
    · by_cases hb : (dy n).toInt ≤ b.toInt
      · by_cases ha : a.toInt ≤ (dy n).toInt
        · rw [if_pos ⟨hr.1, hr.2, ha, by omega⟩, if_pos ⟨hr.1, hr.2, ha, hb⟩, if_neg (fun z => by have := z.2.2.1; omega)]
          ac_rfl
        · rw [if_neg (fun z => ha z.2.2.1), if_neg (fun z => ha z.2.2.1), if_neg (fun z => by have := z.2.2.1; omega)]
      · by_cases hd : (dy n).toInt ≤ d.toInt
        · rw [if_pos ⟨hr.1, hr.2, by omega, hd⟩, if_neg (fun z => hb z.2.2.2), if_pos ⟨hr.1, hr.2, by omega, hd⟩]
          ac_rfl
        · rw [if_neg (fun z => hd z.2.2.2), if_neg (fun z => hb z.2.2.2), if_neg (fun z => hd z.2.2.2)]
    · rw [if_neg (fun z => hr ⟨z.1, z.2.1⟩), if_neg (fun z => hr ⟨z.1, z.2.1⟩), if_neg (fun z => hr ⟨z.1, z.2.1⟩)]
theorem gbF_none {go sr : Nat → Int32} {a b : Int32} : ∀ {n : Nat}, (∀ k, k < n → ¬ (a.toInt ≤ (go k).toInt ∧ (go k).toInt ≤ b.toInt)) → gbF go sr a b n = 0
  | 0, _ => rfl
  | n + 1, h => by rw [gbF_s, if_neg (h n (by omega)), gbF_none (fun k hk => h k (by omega))]
theorem gbF_app {go sr : Nat → Int32} {a b c d : Int32} (h1 : a.toInt ≤ c.toInt) (h2 : b.toInt + 1 = c.toInt) (h3 : b.toInt ≤ d.toInt) : ∀ n : Nat, gbF go sr a d n = gbF go sr a b n + gbF go sr c d n
  | 0 => rfl
  | n + 1 => by
    rw [gbF_s, gbF_s, gbF_s, gbF_app h1 h2 h3 n]
    by_cases hb : (go n).toInt ≤ b.toInt
    · by_cases ha : a.toInt ≤ (go n).toInt
      · rw [if_pos ⟨ha, by omega⟩, if_pos ⟨ha, hb⟩, if_neg (fun z => by have := z.1; omega)]
        ac_rfl
      · rw [if_neg (fun z => ha z.1), if_neg (fun z => ha z.1), if_neg (fun z => by have := z.1; omega)]
    · by_cases hd : (go n).toInt ≤ d.toInt
      · rw [if_pos ⟨by omega, hd⟩, if_neg (fun z => hb z.2), if_pos ⟨by omega, hd⟩]
        ac_rfl
      · rw [if_neg (fun z => hd z.2), if_neg (fun z => hb z.2), if_neg (fun z => hd z.2)]
/-- what was given on a day is the sum of the shares of that day -/
theorem gsF_sum {go : Nat → Int32} {day held h0 : Int32} {s0 : Nat → Int32} : ∀ n : Nat, (gsF go day held s0 h0 n).2.1 = gbF go (gsF go day held s0 h0 n).1 day day n
  | 0 => rfl
  | n + 1 => by
    have ih := gsF_sum (go := go) (day := day) (held := held) (h0 := h0) (s0 := s0) n
    rw [gbF_s, gsF_s]
    by_cases hc : go n = day
    · rw [if_pos hc, if_pos ⟨by rw [hc]; exact Int.le_refl _, by rw [hc]; exact Int.le_refl _⟩]
      show _ + _ = gbF go (upd _ n _) day day n + upd _ n _ n
      rw [upd_self, ih]
      congr 1
      exact gbF_congr (fun k hk => ⟨rfl, fun _ => (upd_ne (by omega)).symm⟩)
    · rw [if_neg hc, if_neg (fun z => hc (ti_eq (by omega)))]
      exact ih
theorem gsF_out {go : Nat → Int32} {day held h0 : Int32} {s0 : Nat → Int32} {j : Nat} (hj : ¬ go j = day) : ∀ n : Nat, (gsF go day held s0 h0 n).1 j = s0 j
  | 0 => rfl
  | n + 1 => by
    rw [gsF_s]
    by_cases hc : go n = day
    · rw [if_pos hc]
      show upd _ n _ j = _
      rw [upd_ne (fun e => hj (by rw [e]; exact hc)), gsF_out hj n]
    · rw [if_neg hc, gsF_out hj n]
theorem gsF_far {go : Nat → Int32} {day held h0 : Int32} {s0 : Nat → Int32} {j : Nat} : ∀ n : Nat, n ≤ j → (gsF go day held s0 h0 n).1 j = s0 j
  | 0, _ => rfl
  | n + 1, h => by
    rw [gsF_s]
    by_cases hc : go n = day
    · rw [if_pos hc]
      show upd _ n _ j = _
      rw [upd_ne (by omega), gsF_far n (by omega)]
    · rw [if_neg hc, gsF_far n (by omega)]
/-- the next turn: above a, not above b, and nothing lies between -/
theorem nextF_spec {f : Nat → Int32} {a b : Int32} (hab : a.toInt < b.toInt) : ∀ n : Nat, a.toInt < (nextF f a b n).toInt ∧ (nextF f a b n).toInt ≤ b.toInt ∧ ∀ k, k < n → ¬ (a.toInt < (f k).toInt ∧ (f k).toInt < (nextF f a b n).toInt)
  | 0 => ⟨hab, Int.le_refl _, fun k hk => absurd hk (Nat.not_lt_zero k)⟩
  | n + 1 => by
    obtain ⟨h1, h2, h3⟩ := nextF_spec (f := f) hab n
    rw [nextF_s]
    by_cases hc : a.toInt < (f n).toInt ∧ (f n).toInt < (nextF f a b n).toInt
    · rw [if_pos hc]
      refine ⟨hc.1, by omega, fun k hk z => ?_⟩
      rcases Nat.lt_or_ge k n with q | q
      · exact h3 k q ⟨z.1, by omega⟩
      · have e : k = n := by omega
        subst e
        omega
    · rw [if_neg hc]
      refine ⟨h1, h2, fun k hk z => ?_⟩
      rcases Nat.lt_or_ge k n with q | q
      · exact h3 k q z
      · have e : k = n := by omega
        subst e
        exact hc z

/-! worlds with a whole row put in -/
def setA (w : W0) (p : Nat) (f : Nat → Int32) : W0 := fun a => if a = p then f else w a
theorem setA_p (w : W0) (p : Nat) (f : Nat → Int32) : setA w p f p = f := by simp [setA]
theorem setA_ne {w : W0} {p q : Nat} {f : Nat → Int32} (h : q ≠ p) : setA w p f q = w q := by simp [setA, h]
theorem setA_self (w : W0) (p : Nat) : setA w p (w p) = w := by
  funext a
  unfold setA
  split
  · next h => rw [h]
  · rfl
theorem setW_A (w : W0) (p i : Nat) (v : Int32) : setW w p i v = setA w p (upd (w p) i v) := rfl
theorem setW_setA (w : W0) (p i : Nat) (v : Int32) (f : Nat → Int32) : setW (setA w p f) p i v = setA w p (upd f i v) := by
  funext a
  unfold setW setA
  by_cases h : a = p <;> simp [h]
theorem setW_setA_ne {w : W0} {p q i : Nat} {v : Int32} {f : Nat → Int32} (h : q ≠ p) : setW (setA w p f) q i v = setA (setW w q i v) p f := by
  funext a
  unfold setW setA
  by_cases h1 : a = p
  · subst h1
    simp [Ne.symm h]
  · by_cases h2 : a = q
    · subst h2
      simp [h1]
    · simp [h1, h2]
theorem upd_self (f : Nat → Int32) (k : Nat) (x : Int32) : upd f k x k = x := by simp [upd]
theorem upd_ne {f : Nat → Int32} {k j : Nat} {x : Int32} (h : j ≠ k) : upd f k x j = f j := by simp [upd, h]
theorem lpF_setA {w : W0} {p : Nat} {f : Nat → Int32} (h : p < 9 ∨ 16 < p) : lpF (setA w p f) = lpF w := lpF_congr (fun q h1 h2 => setA_ne (by omega))
theorem lpF_setW {w : W0} {p i : Nat} {v : Int32} (h : p < 9 ∨ 16 < p) : lpF (setW w p i v) = lpF w := lpF_congr (fun q h1 h2 => setW_ne (by omega))
/-- g, but F below k -/
def fillF (F g : Nat → Int32) (k : Nat) : Nat → Int32 := fun j => if j < k then F j else g j
theorem fillF_0 (F g : Nat → Int32) : fillF F g 0 = g := by
  funext j
  simp [fillF]
theorem fillF_s (F g : Nat → Int32) (k : Nat) : upd (fillF F g k) k (F k) = fillF F g (k + 1) := by
  funext j
  unfold upd fillF
  by_cases h : j = k
  · subst h
    simp
  · rw [if_neg h]
    by_cases h2 : j < k
    · rw [if_pos h2, if_pos (by omega)]
    · rw [if_neg h2, if_neg (by omega)]
theorem fillF_in {F g : Nat → Int32} {k j : Nat} (h : j < k) : fillF F g k j = F j := if_pos h
theorem fillF_out {F g : Nat → Int32} {k j : Nat} (h : k ≤ j) : fillF F g k j = g j := if_neg (by omega)
theorem limC_setA {w : W0} {p : Nat} {f : Nat → Int32} (h : p ≠ 3 ∧ p ≠ 22) : limC (setA w p f) = limC w := by
  funext i
  unfold limC hasL
  rw [setA_ne (Ne.symm h.1), setA_ne (Ne.symm h.2)]
theorem limC_setW {w : W0} {p i : Nat} {v : Int32} (h : p ≠ 3 ∧ p ≠ 22) : limC (setW w p i v) = limC w := by
  funext i
  unfold limC hasL
  rw [setW_ne (Ne.symm h.1), setW_ne (Ne.symm h.2)]

/-! PURE: a year by turns is a year by days -/
/-- shares, pot, given, counted -/
abbrev AS : Type := (Nat → Int32) × Int32 × Int32 × Int64
/-- one day of the accounts, without a year's begin and end -/
def dA (t : W0) (nl nw ni D : Nat) (s : AS) : AS :=
  ((gvF t nw s.1 (nI D) (s.2.1 + movF t ni (nI D))).1,
   s.2.1 + movF t ni (nI D) - (gvF t nw s.1 (nI D) (s.2.1 + movF t ni (nI D))).2.1,
   s.2.2.1 + (gvF t nw s.1 (nI D) (s.2.1 + movF t ni (nI D))).2.1,
   s.2.2.2 + cntF (t 7) (lpF t) nl (s.2.1 + movF t ni (nI D) - (gvF t nw s.1 (nI D) (s.2.1 + movF t ni (nI D))).2.1) (nI D))
def itA (t : W0) (nl nw ni D : Nat) : Nat → AS → AS
  | 0, s => s
  | n + 1, s => dA t nl nw ni (D + n) (itA t nl nw ni D n s)
theorem itA_s (t : W0) (nl nw ni D n : Nat) (s : AS) : itA t nl nw ni D (n + 1) s = dA t nl nw ni (D + n) (itA t nl nw ni D n s) := rfl
theorem itA_add (t : W0) (nl nw ni D a : Nat) (s : AS) : ∀ b : Nat, itA t nl nw ni D (a + b) s = itA t nl nw ni (D + a) b (itA t nl nw ni D a s)
  | 0 => rfl
  | b + 1 => by
    rw [← Nat.add_assoc, itA_s, itA_s, itA_add t nl nw ni D a s b, Nat.add_assoc]
section YEAR
variable {t : W0} {nl nw ni : Nat}
theorem cntF_same {f : Nat → Int32} {lp : Nat → Nat → Int32} {held d d' : Int32} (hn : nl < 1000) (h : ∀ k, k < nl → ((f k).toInt ≤ d.toInt ↔ (f k).toInt ≤ d'.toInt)) : cntF f lp nl held d = cntF f lp nl held d' := by
  unfold cntF
  rw [lawF_congr hn (fun _ _ => rfl) h (fun _ _ => rfl) (p := 1), lawF_congr hn (fun _ _ => rfl) h (fun _ _ => rfl) (p := 2)]
/-- a day on which nothing happens -/
theorem dA_idle {D : Nat} (hD : D < 3600) {s : AS} (h1 : ∀ k, k < nw → ¬ t 20 k = nI D) (h2 : ∀ k, k < ni → ¬ t 24 k = nI D) : dA t nl nw ni D s = (s.1, s.2.1, s.2.2.1, s.2.2.2 + cntF (t 7) (lpF t) nl s.2.1 (nI D)) := by
  have hm : ∀ r : Int32, sumF (t 26) (t 30) (t 24) (t 25) r (nI D) (nI D) ni = 0 := fun r => sumF_none (fun k hk z => h2 k hk (ti_eq (by omega)))
  have h0 : s.2.1 + movF t ni (nI D) = s.2.1 := by
    unfold movF
    rw [hm, hm]
    simp
  unfold dA
  rw [h0]
  have hg : gvF t nw s.1 (nI D) s.2.1 = (s.1, 0, headsF (t 17) (t 18) (t 20) (nI D) nw) := gsF_none h1
  rw [hg]
  simp
theorem itA_idle {D N : Nat} (hN : N ≤ 3600) (hnl : nl < 1000) {s : AS} (h0 : ∀ k, k < nl → ¬ ((D : Int) < (t 7 k).toInt ∧ (t 7 k).toInt < N)) (h1 : ∀ k, k < nw → ¬ ((D : Int) < (t 20 k).toInt ∧ (t 20 k).toInt < N)) (h2 : ∀ k, k < ni → ¬ ((D : Int) < (t 24 k).toInt ∧ (t 24 k).toInt < N)) :
    ∀ n, D + (n + 1) ≤ N → itA t nl nw ni D (n + 1) s = ((dA t nl nw ni D s).1, (dA t nl nw ni D s).2.1, (dA t nl nw ni D s).2.2.1, s.2.2.2 + cntF (t 7) (lpF t) nl (dA t nl nw ni D s).2.1 (nI D) * lN (n + 1))
  | 0, _ => by
    show dA t nl nw ni D s = _
    have e : s.2.2.2 + cntF (t 7) (lpF t) nl (dA t nl nw ni D s).2.1 (nI D) * lN (0 + 1) = (dA t nl nw ni D s).2.2.2 := by
      rw [show lN (0 + 1) = 1 from rfl, Int64.mul_one]
      rfl
    rw [e]
  | n + 1, hn => by
    rw [itA_s, itA_idle hN hnl h0 h1 h2 n (by omega)]
    have hI : (nI (D + (n + 1))).toInt = ((D + (n + 1) : Nat) : Int) := nI_toInt (by omega)
    have hI0 : (nI D).toInt = (D : Int) := nI_toInt (by omega)
    rw [dA_idle (by omega) (fun k hk e => h1 k hk (by rw [e, hI]; omega)) (fun k hk e => h2 k hk (by rw [e, hI]; omega))]
    have hc : cntF (t 7) (lpF t) nl (dA t nl nw ni D s).2.1 (nI (D + (n + 1))) = cntF (t 7) (lpF t) nl (dA t nl nw ni D s).2.1 (nI D) := cntF_same hnl (fun k hk => by
      have := h0 k hk
      rw [hI, hI0]
      omega)
    show (_, _, _, _ + cntF (t 7) (lpF t) nl (dA t nl nw ni D s).2.1 (nI (D + (n + 1)))) = _
    rw [hc, ← lN_1 (n + 1), Int64.mul_add, Int64.mul_one, Int64.add_assoc]
/-- the turn behind a day -/
theorem turn_at {D F : Nat} (hDF : D < F) (hF : F ≤ 3600) : ∃ N, turnF t nl nw ni (nI D) (nI F) = nI N ∧ D < N ∧ N ≤ F ∧ (∀ k, k < nl → ¬ ((D : Int) < (t 7 k).toInt ∧ (t 7 k).toInt < N)) ∧ (∀ k, k < nw → ¬ ((D : Int) < (t 20 k).toInt ∧ (t 20 k).toInt < N)) ∧ (∀ k, k < ni → ¬ ((D : Int) < (t 24 k).toInt ∧ (t 24 k).toInt < N)) := by
  have hI0 : (nI D).toInt = (D : Int) := nI_toInt (by omega)
  have hIF : (nI F).toInt = (F : Int) := nI_toInt (by omega)
  obtain ⟨a1, a2, a3⟩ := nextF_spec (f := t 7) (a := nI D) (b := nI F) (by omega) nl
  obtain ⟨b1, b2, b3⟩ := nextF_spec (f := t 20) (a := nI D) (b := nextF (t 7) (nI D) (nI F) nl) a1 nw
  obtain ⟨c1, c2, c3⟩ := nextF_spec (f := t 24) (a := nI D) (b := nextF (t 20) (nI D) (nextF (t 7) (nI D) (nI F) nl) nw) b1 ni
  have hr : turnF t nl nw ni (nI D) (nI F) = nextF (t 24) (nI D) (nextF (t 20) (nI D) (nextF (t 7) (nI D) (nI F) nl) nw) ni := rfl
  rw [← hr] at c1 c2 c3
  have hN : (turnF t nl nw ni (nI D) (nI F)).toInt = ((turnF t nl nw ni (nI D) (nI F)).toNatClampNeg : Int) := toNat_back (by omega)
  refine ⟨(turnF t nl nw ni (nI D) (nI F)).toNatClampNeg, nI_back (by omega), by omega, by omega, fun k hk z => a3 k hk (by omega), fun k hk z => b3 k hk (by omega), fun k hk z => c3 k hk (by omega)⟩
theorem turnS_at {D F N : Nat} (hF : F ≤ 3600) (hnl : nl < 1000) (hDN : D < N) (hNF : N ≤ F) (hN : turnF t nl nw ni (nI D) (nI F) = nI N) (h0 : ∀ k, k < nl → ¬ ((D : Int) < (t 7 k).toInt ∧ (t 7 k).toInt < N)) (h1 : ∀ k, k < nw → ¬ ((D : Int) < (t 20 k).toInt ∧ (t 20 k).toInt < N)) (h2 : ∀ k, k < ni → ¬ ((D : Int) < (t 24 k).toInt ∧ (t 24 k).toInt < N)) (s : AS) :
    turnS t nl nw ni (nI F) (s.1, s.2.1, s.2.2.1, s.2.2.2, nI D) = ((itA t nl nw ni D (N - D) s).1, (itA t nl nw ni D (N - D) s).2.1, (itA t nl nw ni D (N - D) s).2.2.1, (itA t nl nw ni D (N - D) s).2.2.2, nI N) := by
  obtain ⟨n, hn⟩ : ∃ n, N - D = n + 1 := ⟨N - D - 1, by omega⟩
  rw [hn, itA_idle (by omega) hnl h0 h1 h2 n (by omega)]
  unfold turnS
  dsimp only
  rw [hN, pk_sub (by omega), hn, nI_l (by omega)]
  rfl
theorem yrF_at {F : Nat} (hF : F ≤ 3600) (hnl : nl < 1000) : ∀ (m D : Nat) (s : AS), D ≤ F → F - D ≤ m → yrF t nl nw ni (nI F) m (s.1, s.2.1, s.2.2.1, s.2.2.2, nI D) = ((itA t nl nw ni D (F - D) s).1, (itA t nl nw ni D (F - D) s).2.1, (itA t nl nw ni D (F - D) s).2.2.1, (itA t nl nw ni D (F - D) s).2.2.2, nI F)
  | 0, D, s, h1, h2 => by
    rw [show D = F by omega, Nat.sub_self]
    rfl
  | m + 1, D, s, h1, h2 => by
    have hI0 : (nI D).toInt = (D : Int) := nI_toInt (by omega)
    have hIF : (nI F).toInt = (F : Int) := nI_toInt (by omega)
    rcases Nat.lt_or_ge D F with q | q
    · obtain ⟨N, e, g1, g2, g3, g4, g5⟩ := turn_at (t := t) (nl := nl) (nw := nw) (ni := ni) q hF
      show (if (nI D).toInt < (nI F).toInt then _ else _) = _
      rw [if_pos (by omega), turnS_at hF hnl g1 g2 e g3 g4 g5 s]
      have ih := yrF_at hF hnl m N (itA t nl nw ni D (N - D) s) g2 (by omega)
      rw [ih]
      have ha := itA_add t nl nw ni D (N - D) s (F - N)
      rw [show N - D + (F - N) = F - D by omega, show D + (N - D) = N by omega] at ha
      rw [← ha]
    · rw [show D = F by omega, Nat.sub_self]
      exact yrF_x (fin := nI F) (s := (s.1, s.2.1, s.2.2.1, s.2.2.2, nI F)) (Int.le_refl _)
end YEAR
/-! the years one behind the other, day by day -/
def dayG (t : W0) (nl nw ni D : Nat) (s : AS) : AS :=
  if D % 360 = 359 then ((dA t nl nw ni D s).1, (dA t nl nw ni D s).2.1 + ((dA t nl nw ni D s).2.2.2 / 36000).toInt32, (dA t nl nw ni D s).2.2.1, (dA t nl nw ni D s).2.2.2) else dA t nl nw ni D s
def yrZ (D : Nat) (s : AS) : AS := if D % 360 = 0 then (s.1, s.2.1, 0, 0) else s
def AG (t : W0) (nl nw ni : Nat) (s0 : Nat → Int32) : Nat → AS
  | 0 => (s0, 0, 0, 0)
  | D + 1 => dayG t nl nw ni D (yrZ D (AG t nl nw ni s0 D))
theorem AG_s (t : W0) (nl nw ni : Nat) (s0 : Nat → Int32) (D : Nat) : AG t nl nw ni s0 (D + 1) = dayG t nl nw ni D (yrZ D (AG t nl nw ni s0 D)) := rfl
section AGS
variable {t : W0} {nl nw ni : Nat} {s0 : Nat → Int32}
theorem AG_in {Y : Nat} : ∀ n, n < 359 → AG t nl nw ni s0 (360 * Y + (n + 1)) = itA t nl nw ni (360 * Y) (n + 1) ((AG t nl nw ni s0 (360 * Y)).1, (AG t nl nw ni s0 (360 * Y)).2.1, 0, 0)
  | 0, _ => by
    rw [show 360 * Y + (0 + 1) = 360 * Y + 1 from rfl, AG_s]
    unfold dayG yrZ
    rw [if_neg (by omega), if_pos (by omega)]
    rfl
  | n + 1, hn => by
    rw [show 360 * Y + (n + 1 + 1) = (360 * Y + (n + 1)) + 1 from rfl, AG_s, itA_s]
    unfold dayG yrZ
    rw [if_neg (by omega), if_neg (by omega), AG_in n (by omega)]
/-- the last day of a year, ahead of its interest -/
def lastA (t : W0) (nl nw ni : Nat) (s0 : Nat → Int32) (Y : Nat) : AS := itA t nl nw ni (360 * Y) 360 ((AG t nl nw ni s0 (360 * Y)).1, (AG t nl nw ni s0 (360 * Y)).2.1, 0, 0)
theorem AG_year {Y : Nat} : AG t nl nw ni s0 (360 * Y + 360) = ((lastA t nl nw ni s0 Y).1, (lastA t nl nw ni s0 Y).2.1 + ((lastA t nl nw ni s0 Y).2.2.2 / 36000).toInt32, (lastA t nl nw ni s0 Y).2.2.1, (lastA t nl nw ni s0 Y).2.2.2) := by
  have h := AG_in (t := t) (nl := nl) (nw := nw) (ni := ni) (s0 := s0) (Y := Y) 358 (by omega)
  rw [show 360 * Y + 360 = (360 * Y + (358 + 1)) + 1 from rfl, AG_s]
  unfold dayG yrZ
  rw [if_pos (by omega), if_neg (by omega), h]
  rfl
/-- a year's account -/
def rowG (t : W0) (nl nw ni : Nat) (s0 : Nat → Int32) (Y p : Nat) : Int32 :=
  if p = 0 then (AG t nl nw ni s0 (360 * Y)).2.1
  else if p = 1 then sumF (t 26) (t 30) (t 24) (t 25) 1 (nI (360 * Y)) (nI (360 * Y + 359)) ni
  else if p = 2 then sumF (t 26) (t 30) (t 24) (t 25) 0 (nI (360 * Y)) (nI (360 * Y + 359)) ni
  else if p = 3 then (AG t nl nw ni s0 (360 * Y + 360)).2.2.1
  else if p = 4 then ((AG t nl nw ni s0 (360 * Y + 360)).2.2.2 / 36000).toInt32
  else (AG t nl nw ni s0 (360 * Y + 360)).2.1
end AGS

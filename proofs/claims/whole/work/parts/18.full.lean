/-! PURE: the first day of full age, by the candidates as by the days -/
/-- laws as they are told -/
def okL (f : Nat → Int32) (lp : Nat → Nat → Int32) (nl : Nat) : Prop := nl ≤ 8 ∧ ∀ k, k < nl → dayP (f k) ∧ 10 ≤ (lp k 0).toInt ∧ (lp k 0).toInt ≤ 30
theorem lawF_cases (f : Nat → Int32) (lp : Nat → Nat → Int32) {nl : Nat} (hn : nl < 1000) (day : Int32) (p : Nat) : lawF f lp nl day p = bef p ∨ ∃ j, j < nl ∧ lawF f lp nl day p = lp j p := by
  unfold lawF
  by_cases hb : (bestF f day nl).toInt < 0
  · exact Or.inl (if_pos hb)
  · exact Or.inr ⟨_, bestF_ix hn hb, if_neg hb⟩
theorem age_rng {f : Nat → Int32} {lp : Nat → Nat → Int32} {nl : Nat} (h : okL f lp nl) (day : Int32) : 10 ≤ (lawF f lp nl day 0).toInt ∧ (lawF f lp nl day 0).toInt ≤ 30 := by
  rcases lawF_cases f lp (nl := nl) (by have := h.1; omega) day 0 with e | ⟨j, hj, e⟩
  · rw [e]
    decide
  · rw [e]
    exact (h.2 j hj).2
theorem m360 {x : Int32} (h : 0 ≤ x.toInt ∧ x.toInt ≤ 30) : (x * 360).toInt = x.toInt * 360 := ti_mul (x := x) (y := 360) (by show _ ≤ x.toInt * 360; omega) (by show x.toInt * 360 < _; omega)
def ageP (f : Nat → Int32) (lp : Nat → Nat → Int32) (nl : Nat) (b : Int32) (d : Nat) : Prop := (lawF f lp nl (nI d) 0).toInt * 360 ≤ (d : Int) - b.toInt
section FULL
variable {f : Nat → Int32} {lp : Nat → Nat → Int32} {nl : Nat} {b : Int32}
theorem ageP_iff (h : okL f lp nl) (hb : bornP b) {d : Nat} (hd : d < 3600) : (lawF f lp nl (nI d) 0 * 360).toInt ≤ (nI d - b).toInt ↔ ageP f lp nl b d := by
  have h1 := age_rng h (nI d)
  have hdI : (nI d).toInt = (d : Int) := nI_toInt (by omega)
  rw [m360 ⟨by omega, h1.2⟩, ti_sub (by rw [hdI]; have := hb; omega) (by rw [hdI]; have := hb; omega), hdI]
  exact Iff.rfl
theorem fdM_spec {g : Nat → Int32} (h : okL f lp nl) (hb : bornP b) (hg : ∀ d, d < 3600 → lawM f g nl (nI d) 0 = lawF f lp nl (nI d) 0) : ∀ n, n ≤ 3600 → (fdM f g nl b n = -6 ∧ ∀ d, d < n → ¬ ageP f lp nl b d) ∨ ∃ d, d < n ∧ fdM f g nl b n = nI d ∧ ageP f lp nl b d ∧ ∀ e, e < d → ¬ ageP f lp nl b e
  | 0, _ => Or.inl ⟨rfl, fun d hd => absurd hd (Nat.not_lt_zero d)⟩
  | n + 1, hn => by
    rw [fdM_s]
    rcases fdM_spec h hb hg n (by omega) with ⟨h1, h2⟩ | ⟨d, h1, h2, h3, h4⟩
    · rw [if_pos h1, hg n (by omega), Int32.mul_comm]
      by_cases hc : ageP f lp nl b n
      · rw [if_pos ((ageP_iff h hb (by omega)).mpr hc)]
        exact Or.inr ⟨n, by omega, rfl, hc, h2⟩
      · rw [if_neg (fun z => hc ((ageP_iff h hb (by omega)).mp z))]
        refine Or.inl ⟨rfl, fun d hd => ?_⟩
        rcases Nat.lt_or_ge d n with q | q
        · exact h2 d q
        · rw [show d = n by omega]
          exact hc
    · rw [if_neg (fun z => by
        have e1 : (fdM f g nl b n).toInt = (d : Int) := by rw [h2]; exact nI_toInt (by omega)
        rw [z] at e1
        have e2 : (-6 : Int32).toInt = -6 := rfl
        omega)]
      exact Or.inr ⟨d, by omega, h2, h3, h4⟩
/-- what a candidate does -/
theorem soonF_spec (h : okL f lp nl) (hb : bornP b) {day first : Int32} (hf : first.toInt ≤ 3600) :
    (soonF f lp nl b day first = first ∨ ∃ d, d < 3600 ∧ day = nI d ∧ soonF f lp nl b day first = day ∧ ageP f lp nl b d) ∧ (soonF f lp nl b day first).toInt ≤ first.toInt ∧ ∀ d, d < 3600 → day = nI d → ageP f lp nl b d → (soonF f lp nl b day first).toInt ≤ (d : Int) := by
  unfold soonF
  by_cases hc : day.toInt < 0 ∨ first.toInt ≤ day.toInt
  · rw [if_pos hc]
    refine ⟨Or.inl rfl, Int.le_refl _, fun d hd he _ => ?_⟩
    have e1 : day.toInt = (d : Int) := by rw [he]; exact nI_toInt (by omega)
    omega
  · rw [if_neg hc]
    obtain ⟨d, hd, hday⟩ : ∃ d : Nat, d < 3600 ∧ day = nI d := ⟨day.toNatClampNeg, nat_lt (by omega) (by omega), nI_back (by omega)⟩
    have e1 : day.toInt = (d : Int) := by rw [hday]; exact nI_toInt (by omega)
    by_cases hp : ageP f lp nl b d
    · rw [if_pos (by rw [hday]; exact (ageP_iff h hb hd).mpr hp)]
      refine ⟨Or.inr ⟨d, hd, hday, rfl, hp⟩, by omega, fun e he hde _ => ?_⟩
      have e2 : day.toInt = (e : Int) := by rw [hde]; exact nI_toInt (by omega)
      omega
    · rw [if_neg (by rw [hday]; exact fun z => hp ((ageP_iff h hb hd).mp z))]
      refine ⟨Or.inl rfl, Int.le_refl _, fun e he hde hpe => ?_⟩
      have e2 : day.toInt = (e : Int) := by rw [hde]; exact nI_toInt (by omega)
      rw [show e = d by omega] at hpe
      exact absurd hpe hp
/-- a day found so far: none, or one of full age -/
def foundP (f : Nat → Int32) (lp : Nat → Nat → Int32) (nl : Nat) (b r : Int32) : Prop := r.toInt ≤ 3600 ∧ (r = 3600 ∨ ∃ d, d < 3600 ∧ r = nI d ∧ ageP f lp nl b d)
theorem soonF_found (h : okL f lp nl) (hb : bornP b) {day first : Int32} (hf : foundP f lp nl b first) : foundP f lp nl b (soonF f lp nl b day first) ∧ (soonF f lp nl b day first).toInt ≤ first.toInt ∧ ∀ d, d < 3600 → day = nI d → ageP f lp nl b d → (soonF f lp nl b day first).toInt ≤ (d : Int) := by
  obtain ⟨h1, h2, h3⟩ := soonF_spec h hb (day := day) hf.1
  refine ⟨⟨by have := hf.1; omega, ?_⟩, h2, h3⟩
  rcases h1 with e | ⟨d, hd, he, e, hp⟩
  · rw [e]; exact hf.2
  · rw [e]; exact Or.inr ⟨d, hd, he, hp⟩
theorem faF_found (h : okL f lp nl) (hb : bornP b) : ∀ k, k ≤ nl → foundP f lp nl b (faF f lp nl b k) ∧ (∀ d, d < 3600 → (d = 0 ∨ nI d = b + bef 0 * 360) → ageP f lp nl b d → (faF f lp nl b k).toInt ≤ (d : Int)) ∧ ∀ j, j < k → ∀ d, d < 3600 → (f j = nI d ∨ b + lp j 0 * 360 = nI d) → ageP f lp nl b d → (faF f lp nl b k).toInt ≤ (d : Int)
  | 0, _ => by
    obtain ⟨a1, a2, a3⟩ := soonF_found h hb (day := 0) (first := 3600) ⟨Int.le_refl _, Or.inl rfl⟩
    obtain ⟨b1, b2, b3⟩ := soonF_found h hb (day := b + bef 0 * 360) a1
    refine ⟨b1, fun d hd hc hp => ?_, fun j hj => absurd hj (Nat.not_lt_zero j)⟩
    rcases hc with hc | hc
    · have := a3 d hd (by rw [hc]; rfl) hp
      show (soonF f lp nl b (b + bef 0 * 360) (soonF f lp nl b 0 3600)).toInt ≤ _
      omega
    · exact b3 d hd hc.symm hp
  | k + 1, hk => by
    obtain ⟨c1, c2, c3⟩ := faF_found h hb k (by omega)
    obtain ⟨a1, a2, a3⟩ := soonF_found h hb (day := f k) c1
    obtain ⟨b1, b2, b3⟩ := soonF_found h hb (day := b + lp k 0 * 360) a1
    rw [faF_s]
    refine ⟨b1, fun d hd hc hp => ?_, fun j hj d hd hc hp => ?_⟩
    · have := c2 d hd hc hp
      omega
    · rcases Nat.lt_or_ge j k with q | q
      · have := c3 j q d hd hc hp
        omega
      · have e : j = k := by omega
        subst e
        rcases hc with hc | hc
        · have := a3 d hd hc hp
          omega
        · exact b3 d hd hc hp
/-- the first day of full age is a candidate -/
theorem first_cand (h : okL f lp nl) (hb : bornP b) {d : Nat} (hd : d < 3600) (hp : ageP f lp nl b d) (hmin : ∀ e, e < d → ¬ ageP f lp nl b e) : (d = 0 ∨ nI d = b + bef 0 * 360) ∨ ∃ j, j < nl ∧ (f j = nI d ∨ b + lp j 0 * 360 = nI d) := by
  by_cases h0 : d = 0
  · exact Or.inl (Or.inl h0)
  by_cases hj : ∃ j, j < nl ∧ f j = nI d
  · obtain ⟨j, h1, h2⟩ := hj
    exact Or.inr ⟨j, h1, Or.inl h2⟩
  have hdI : (nI d).toInt = (d : Int) := nI_toInt (by omega)
  have hdJ : (nI (d - 1)).toInt = ((d - 1 : Nat) : Int) := nI_toInt (by omega)
  have hsame : lawF f lp nl (nI (d - 1)) 0 = lawF f lp nl (nI d) 0 := lawF_congr (by have := h.1; omega) (fun _ _ => rfl) (fun k hk => by
    have hne : ¬ (f k).toInt = (d : Int) := fun e => hj ⟨k, hk, ti_eq (by rw [e, hdI])⟩
    rw [hdI, hdJ]
    omega) (fun _ _ => rfl)
  have h1 := hmin (d - 1) (by omega)
  unfold ageP at hp h1
  rw [hsame] at h1
  have hr := age_rng h (nI d)
  have hbb := hb
  have key : ∀ a : Int32, lawF f lp nl (nI d) 0 = a → nI d = b + a * 360 := by
    intro a ha
    rw [ha] at hp h1 hr
    apply ti_eq
    rw [hdI, ti_add (by rw [m360 ⟨by omega, hr.2⟩]; omega) (by rw [m360 ⟨by omega, hr.2⟩]; omega), m360 ⟨by omega, hr.2⟩]
    omega
  rcases lawF_cases f lp (nl := nl) (by have := h.1; omega) (nI d) 0 with e | ⟨j, hj2, e⟩
  · exact Or.inl (Or.inr (key _ e))
  · exact Or.inr ⟨j, hj2, Or.inr (key _ e).symm⟩
/-- FULL AGE: as the class reckons it, as the model does -/
theorem full_eq {g : Nat → Int32} (h : okL f lp nl) (hb : bornP b) (hg : ∀ d, d < 3600 → lawM f g nl (nI d) 0 = lawF f lp nl (nI d) 0) : fullF f lp nl b = fdM f g nl b 3600 := by
  obtain ⟨c1, c2, c3⟩ := faF_found h hb nl (Nat.le_refl _)
  have i3 : (3600 : Int32).toInt = 3600 := rfl
  unfold fullF
  rcases fdM_spec h hb hg 3600 (Nat.le_refl _) with ⟨e1, e2⟩ | ⟨d, h1, h2, h3, h4⟩
  · rw [e1, if_neg]
    rcases c1.2 with e | ⟨d, hd, e, hp⟩
    · rw [e]; decide
    · exact absurd hp (e2 d hd)
  · have hle : (faF f lp nl b nl).toInt ≤ (d : Int) := by
      rcases first_cand h hb h1 h3 h4 with hc | ⟨j, hj, hc⟩
      · exact c2 d h1 hc h3
      · exact c3 j hj d h1 hc h3
    rw [if_pos (by omega), h2]
    rcases c1.2 with e | ⟨e0, he, e, hp⟩
    · rw [e] at hle
      omega
    · rw [e]
      have e1 : (faF f lp nl b nl).toInt = (e0 : Int) := by rw [e]; exact nI_toInt (by omega)
      rcases Nat.lt_or_ge e0 d with q | q
      · exact absurd hp (h4 e0 q)
      · rw [show e0 = d by omega]
theorem fullF_rng (h : okL f lp nl) (hb : bornP b) : fullF f lp nl b = -6 ∨ ∃ d, d < 3600 ∧ fullF f lp nl b = nI d ∧ ageP f lp nl b d := by
  obtain ⟨c1, -, -⟩ := faF_found h hb nl (Nat.le_refl _)
  unfold fullF
  by_cases hc : (faF f lp nl b nl).toInt < 3600
  · rw [if_pos hc]
    rcases c1.2 with e | ⟨d, hd, e, hp⟩
    · rw [e] at hc
      exact absurd hc (by decide)
    · exact Or.inr ⟨d, hd, e, hp⟩
  · exact Or.inl (if_neg hc)
end FULL

/-! PURE: the model's days are the day by day accounts -/
/-- the model's world b holds what the carrier t holds -/
def MT (b t : W0) (nl nw ni : Nat) : Prop :=
  (∀ D, D < 3600 → ∀ p, p < 5 → lawM (b 58) (b 59) nl (nI D) p = lawF (t 7) (lpF t) nl (nI D) p) ∧
  (∀ k, k < nw → b 60 k = t 17 k ∧ b 61 k = t 18 k ∧ t 20 k = goF (t 17) (t 18) (b 77) k ∧ (b 77 k = -6 ∨ ∃ d, d < 3600 ∧ b 77 k = nI d ∧ (t 17 k).toInt ≤ (d : Int))) ∧
  (∀ k, k < ni → b 65 k = t 24 k ∧ b 66 k = t 25 k ∧ ((t 26 k = 1 ∧ b 64 k = 0) ∨ (t 26 k = 0 ∧ ¬ b 64 k = 0)) ∧ (barM b nl k = 0 ↔ ¬ t 30 k = 0))
/-- the day given over as it stands when a day begins -/
def gdA (go : Nat → Int32) (D k : Nat) : Int32 := if ¬ go k = -6 ∧ (go k).toInt < (D : Int) then go k else -6
section MOD
variable {b t : W0} {nl nw ni : Nat}
abbrev S1 (t : W0) (r : Int32) (D k : Nat) : Int32 := sumF (t 26) (t 30) (t 24) (t 25) r (nI D) (nI D) k
theorem itF_at (h : MT b t nl nw ni) {D a : Nat} {ac : Nat → Int32} {p : Int32} : ∀ k, k ≤ ni → (itF b nl (nI D) a (ac, p) k).2 = p + (S1 t 1 D k - S1 t 0 D k) ∧ ∀ j, (itF b nl (nI D) a (ac, p) k).1 j = if j = a + 1 then ac j + S1 t 1 D k else if j = a + 2 then ac j + S1 t 0 D k else ac j
  | 0, _ => by
    refine ⟨?_, fun j => ?_⟩
    · show p = p + (0 - 0)
      simp
    · show ac j = if j = a + 1 then ac j + 0 else if j = a + 2 then ac j + 0 else ac j
      simp
  | k + 1, hk => by
    obtain ⟨h1, h2⟩ := itF_at h (D := D) (a := a) (ac := ac) (p := p) k (by omega)
    obtain ⟨e1, e2, e3, e4⟩ := h.2.2 k (by omega)
    have s1 : ∀ r, S1 t r D (k + 1) = if t 26 k = r ∧ ¬ t 30 k = 0 ∧ t 24 k = nI D then S1 t r D k + t 25 k else S1 t r D k := fun r => by
      unfold S1
      rw [sumF_s]
      by_cases hc : t 26 k = r ∧ ¬ t 30 k = 0 ∧ t 24 k = nI D
      · rw [if_pos hc, if_pos ⟨hc.1, hc.2.1, by rw [hc.2.2]; exact Int.le_refl _, by rw [hc.2.2]; exact Int.le_refl _⟩]
      · rw [if_neg hc, if_neg (fun z => hc ⟨z.1, z.2.1, ti_eq (by omega)⟩)]
    rw [itF_s, e1, e2, s1 1, s1 0]
    by_cases hc : t 24 k = nI D ∧ barM b nl k = 0
    · rw [if_pos hc]
      have hal := e4.mp hc.2
      rcases e3 with ⟨r1, r2⟩ | ⟨r1, r2⟩
      · rw [if_pos r2, if_pos ⟨r1, hal, hc.1⟩, if_neg (fun z => by rw [r1] at z; exact absurd z.1 (by decide))]
        refine ⟨?_, fun j => ?_⟩
        · show (itF b nl (nI D) a (ac, p) k).2 + t 25 k = _
          rw [h1]
          simp only [Int32.sub_eq_add_neg]
          ac_rfl
        · show upd _ (a + 1) _ j = _
          by_cases hj : j = a + 1
          · subst hj
            rw [upd_self, h2, if_pos rfl, if_pos rfl, Int32.add_assoc]
          · rw [upd_ne hj, h2, if_neg hj, if_neg hj]
      · rw [if_neg r2, if_neg (fun z => by rw [r1] at z; exact absurd z.1 (by decide)), if_pos ⟨r1, hal, hc.1⟩]
        refine ⟨?_, fun j => ?_⟩
        · show (itF b nl (nI D) a (ac, p) k).2 + -(t 25 k) = _
          rw [h1]
          simp only [Int32.sub_eq_add_neg, Int32.neg_add]
          ac_rfl
        · show upd _ (a + 2) _ j = _
          by_cases hj : j = a + 2
          · subst hj
            rw [upd_self, h2, if_neg (by omega), if_pos rfl, if_neg (by omega), if_pos rfl, Int32.add_assoc]
          · rw [upd_ne hj, h2]
            by_cases hj1 : j = a + 1
            · rw [if_pos hj1, if_pos hj1]
            · rw [if_neg hj1, if_neg hj1, if_neg hj, if_neg hj]
    · have hn : ∀ r : Int32, ¬ (t 26 k = r ∧ ¬ t 30 k = 0 ∧ t 24 k = nI D) := fun r z => hc ⟨z.2.2, e4.mpr z.2.1⟩
      rw [if_neg hc, if_neg (hn 1), if_neg (hn 0)]
      exact ⟨h1, h2⟩
theorem hdM_congr {bo bo' di di' gd gd' : Nat → Int32} {day z : Int32} : ∀ {n : Nat}, (∀ k, k < n → bo k = bo' k ∧ di k = di' k ∧ gd k = gd' k) → hdM bo di gd day z n = hdM bo' di' gd' day z n
  | 0, _ => rfl
  | n + 1, h => by
    obtain ⟨h1, h2, h3⟩ := h n (by omega)
    rw [hdM_s, hdM_s, hdM_congr (fun k hk => h k (by omega)), h3]
    unfold livesF
    rw [h1, h2]
theorem hdM_upd {bo di gd : Nat → Int32} {day v : Int32} {k : Nat} (hl : livesF bo di k day) (hg : gd k = -6) (hv : ¬ v = -6) : ∀ {n : Nat}, k < n → hdM bo di (upd gd k v) day 0 n = hdM bo di gd day 0 n + -1
  | 0, hk => absurd hk (Nat.not_lt_zero k)
  | n + 1, hk => by
    rw [hdM_s, hdM_s]
    by_cases e : k = n
    · subst e
      rw [upd_self, if_neg (fun z => z.2 ⟨hv, Or.inl rfl⟩), if_pos ⟨hl, fun z => z.1 hg⟩, hdM_congr (n := k) (gd' := gd) (bo' := bo) (di' := di) (fun j hj => ⟨rfl, rfl, upd_ne (by omega)⟩), Int32.add_assoc]
      simp
    · rw [upd_ne (Ne.symm e), hdM_upd hl hg hv (show k < n by omega)]
      split
      · ac_rfl
      · rfl
theorem hdM_heads {bo di go gd : Nat → Int32} {D : Nat} (hD : D < 3600) : ∀ {n : Nat}, (∀ k, k < n → gd k = gdA go D k) → hdM bo di gd (nI D) 0 n = headsF bo di go (nI D) n
  | 0, _ => rfl
  | n + 1, h => by
    have hI : (nI D).toInt = (D : Int) := nI_toInt (by omega)
    rw [hdM_s, headsF_s, hdM_heads hD (fun k hk => h k (by omega)), h n (by omega)]
    unfold gdA
    by_cases hc : ¬ go n = -6 ∧ (go n).toInt < (D : Int)
    · rw [if_pos hc, if_neg (fun z => z.2 ⟨hc.1, Or.inl rfl⟩), if_neg (fun z => z.1 ⟨hc.1, by have := hc.2; omega⟩)]
    · have hc2 : ¬ (¬ go n = -6 ∧ (go n).toInt < (nI D).toInt) := fun z => hc ⟨z.1, by have := z.2; omega⟩
      rw [if_neg hc]
      by_cases hl : livesF bo di n (nI D)
      · rw [if_pos ⟨hl, fun z => z.1 rfl⟩, if_pos ⟨hc2, hl⟩]
      · rw [if_neg (fun z => hl z.1), if_neg (fun z => hl z.2)]
theorem hdM1_heads {bo di go gd : Nat → Int32} {day : Int32} : ∀ {n : Nat}, (∀ k, k < n → gd k = go k) → hdM bo di gd day 1 n = headsF bo di go day n
  | 0, _ => rfl
  | n + 1, h => by
    rw [hdM_s, headsF_s, hdM1_heads (fun k hk => h k (by omega)), h n (by omega)]
    by_cases hc : ¬ go n = -6 ∧ (go n).toInt < day.toInt
    · rw [if_neg (fun z => z.2 ⟨hc.1, Or.inr hc.2⟩), if_neg (fun z => z.1 hc)]
    · by_cases hl : livesF bo di n day
      · rw [if_pos ⟨hl, fun z => hc ⟨z.1, z.2.elim (fun q => absurd q (by decide)) id⟩⟩, if_pos ⟨hc, hl⟩]
      · rw [if_neg (fun z => hl z.1), if_neg (fun z => hl z.2)]
/-- on which day a ward is given over -/
theorem give_iff (h : MT b t nl nw ni) {D k : Nat} (hD : D < 3600) (hk : k < nw) {gd : Int32} (hg : gd = gdA (t 20) D k) : ((¬ b 77 k = -6 ∧ (b 77 k).toInt ≤ (nI D).toInt) ∧ gd = -6 ∧ livesF (b 60) (b 61) k (nI D)) ↔ t 20 k = nI D := by
  obtain ⟨e1, e2, e3, e4⟩ := h.2.1 k hk
  have hI : (nI D).toInt = (D : Int) := nI_toInt (by omega)
  have hm6 : (-6 : Int32).toInt = -6 := rfl
  have hl : livesF (b 60) (b 61) k (nI D) ↔ livesF (t 17) (t 18) k (nI D) := by
    unfold livesF
    rw [e1, e2]
  rw [hl]
  unfold gdA at hg
  constructor
  · rintro ⟨⟨h1, h2⟩, h3, h4⟩
    rcases e4 with e4 | ⟨d, hd, e4, e5⟩
    · exact absurd e4 h1
    have hdI : (b 77 k).toInt = (d : Int) := by rw [e4]; exact nI_toInt (by omega)
    have hlv : livesF (t 17) (t 18) k (b 77 k) := by
      refine ⟨by omega, ?_⟩
      rcases h4.2 with q | q
      · exact Or.inl q
      · exact Or.inr (by omega)
    have hgo : t 20 k = b 77 k := by
      rw [e3]
      exact if_pos ⟨h1, hlv⟩
    rw [hgo] at hg ⊢
    by_cases hlt : d < D
    · rw [if_pos ⟨h1, by omega⟩] at hg
      exact absurd (hg.symm.trans h3) h1
    · rw [e4, show d = D by omega]
  · intro hgo
    rcases goF_or (t 17) (t 18) (b 77) k with ⟨z1, z2, e⟩ | ⟨z, e⟩
    · have hf : b 77 k = nI D := by rw [← e, ← e3]; exact hgo
      rw [hf] at z2 z1
      refine ⟨⟨by rw [hf]; exact z1, by rw [hf]; exact Int.le_refl _⟩, ?_, z2⟩
      rw [hg, if_neg (fun q => by rw [hgo, hI] at q; omega)]
    · rw [← e3, hgo] at e
      have : (nI D).toInt = -6 := by rw [e]; rfl
      omega
theorem wdF_at (h : MT b t nl nw ni) (hnw : nw ≤ 6) {D a : Nat} (hD : D < 3600) {gi gd ac sr : Nat → Int32} {p : Int32} (hgd : ∀ j, j < nw → gd j = gdA (t 20) D j) (hgi : ∀ j, j < nw → gi j = sr j) : ∀ k, k ≤ nw →
    (wdF b nw (nI D) a (gi, gd, ac, p) k).2.2.2 = p - (gsF (t 20) (nI D) p sr (headsF (t 17) (t 18) (t 20) (nI D) nw) k).2.1 ∧
    (∀ j, j < nw → (wdF b nw (nI D) a (gi, gd, ac, p) k).1 j = (gsF (t 20) (nI D) p sr (headsF (t 17) (t 18) (t 20) (nI D) nw) k).1 j) ∧
    (∀ j, j < nw → (wdF b nw (nI D) a (gi, gd, ac, p) k).2.1 j = if j < k ∧ t 20 j = nI D then nI D else gd j) ∧
    (∀ j, (wdF b nw (nI D) a (gi, gd, ac, p) k).2.2.1 j = if j = a + 3 then ac j + (gsF (t 20) (nI D) p sr (headsF (t 17) (t 18) (t 20) (nI D) nw) k).2.1 else ac j) ∧
    hdM (t 17) (t 18) (wdF b nw (nI D) a (gi, gd, ac, p) k).2.1 (nI D) 0 nw = (gsF (t 20) (nI D) p sr (headsF (t 17) (t 18) (t 20) (nI D) nw) k).2.2
  | 0, _ => by
    refine ⟨?_, hgi, fun j _ => ?_, fun j => ?_, hdM_heads hD hgd⟩
    · show p = p - 0
      simp
    · show gd j = _
      rw [if_neg (by omega)]
    · show ac j = if j = a + 3 then ac j + 0 else ac j
      simp
  | k + 1, hk => by
    obtain ⟨h1, h2, h3, h4, h5⟩ := wdF_at h hnw (a := a) hD (ac := ac) (p := p) hgd hgi k (by omega)
    have hgk : (wdF b nw (nI D) a (gi, gd, ac, p) k).2.1 k = gdA (t 20) D k := by
      rw [h3 k (by omega), if_neg (by omega), hgd k (by omega)]
    have hI : (nI D).toInt = (D : Int) := nI_toInt (by omega)
    have hiff := give_iff h hD (show k < nw by omega) hgk
    rw [wdF_s, gsF_s]
    by_cases hc : t 20 k = nI D
    · have hcond := hiff.mpr hc
      rw [if_pos hcond, if_pos hc]
      have hlv : livesF (t 17) (t 18) k (nI D) := by
        obtain ⟨e1, e2, -⟩ := h.2.1 k (by omega)
        have q := hcond.2.2
        unfold livesF at q ⊢
        rw [← e1, ← e2]
        exact q
      have hpos : ¬ hdM (t 17) (t 18) (wdF b nw (nI D) a (gi, gd, ac, p) k).2.1 (nI D) 0 nw = 0 := hdM_pos hnw (show k < nw by omega) hlv hcond.2.1
      have hbd : 0 < (hdM (t 17) (t 18) (wdF b nw (nI D) a (gi, gd, ac, p) k).2.1 (nI D) 0 nw).toInt := by
        obtain ⟨c, c1, c2, c3⟩ := hdM_nI (bo := t 17) (di := t 18) (gd := (wdF b nw (nI D) a (gi, gd, ac, p) k).2.1) (day := nI D) (z := 0) nw
        have c4 := c3 k (by omega) hlv hcond.2.1
        rw [c2, nI_toInt (by omega)]
        omega
      have hM : hdM (b 60) (b 61) (wdF b nw (nI D) a (gi, gd, ac, p) k).2.1 (nI D) 0 nw = (gsF (t 20) (nI D) p sr (headsF (t 17) (t 18) (t 20) (nI D) nw) k).2.2 := by
        rw [← h5]
        exact hdM_congr (fun j hj => ⟨(h.2.1 j hj).1, (h.2.1 j hj).2.1, rfl⟩)
      rw [h5] at hbd
      have hv : getM b nw (nI D) (wdF b nw (nI D) a (gi, gd, ac, p) k).2.1 (wdF b nw (nI D) a (gi, gd, ac, p) k).2.2.2 = shareF p (gsF (t 20) (nI D) p sr (headsF (t 17) (t 18) (t 20) (nI D) nw) k).2.1 (gsF (t 20) (nI D) p sr (headsF (t 17) (t 18) (t 20) (nI D) nw) k).2.2 := by
        unfold getM shareF
        rw [hM, h1]
        by_cases hp : 0 < (p - (gsF (t 20) (nI D) p sr (headsF (t 17) (t 18) (t 20) (nI D) nw) k).2.1).toInt
        · rw [if_pos hp, if_pos ⟨hp, hbd⟩]
        · rw [if_neg hp, if_neg (fun z => hp z.1)]
      rw [hv]
      dsimp only
      refine ⟨?_, fun j hj => ?_, fun j hj => ?_, fun j => ?_, ?_⟩
      · rw [h1]
        simp only [Int32.sub_eq_add_neg, Int32.neg_add]
        ac_rfl
      · by_cases e : j = k
        · subst e
          rw [upd_self, upd_self]
        · rw [upd_ne e, upd_ne e]
          exact h2 j hj
      · by_cases e : j = k
        · subst e
          rw [upd_self, if_pos ⟨by omega, hc⟩]
        · rw [upd_ne e, h3 j hj]
          by_cases q : j < k ∧ t 20 j = nI D
          · rw [if_pos q, if_pos ⟨by omega, q.2⟩]
          · rw [if_neg q, if_neg (fun z => q ⟨by omega, z.2⟩)]
      · by_cases e : j = a + 3
        · subst e
          rw [upd_self, h4, if_pos rfl, if_pos rfl, Int32.add_assoc]
        · rw [upd_ne e, h4, if_neg e, if_neg e]
      · have hd6 : ¬ nI D = -6 := fun e => by
          have h6 : (nI D).toInt = -6 := by rw [e]; rfl
          omega
        rw [hdM_upd hlv hcond.2.1 hd6 (show k < nw by omega), h5]
    · rw [if_neg (fun z => hc (hiff.mp z)), if_neg hc]
      refine ⟨h1, h2, fun j hj => ?_, h4, h5⟩
      rw [h3 j hj]
      by_cases q : j < k ∧ t 20 j = nI D
      · rw [if_pos q, if_pos ⟨by omega, q.2⟩]
      · rw [if_neg q, if_neg (fun z => q ⟨by
          rcases Nat.lt_or_ge j k with y | y
          · exact y
          · exact absurd (by rw [show k = j by omega]; exact z.2) hc, z.2⟩)]
end MOD

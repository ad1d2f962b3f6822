/-! PURE: all the model's days -/
theorem kF_low {a : Nat} {p : Int32} {ac : Nat → Int32} {j : Nat} (h : j < a) : ∀ k, kF a p ac k j = ac j
  | 0 => rfl
  | k + 1 => by rw [kF_s, upd_ne (by omega), kF_low h k]
theorem kF_at (a : Nat) (p : Int32) (ac : Nat → Int32) : kF a p ac 6 a = p ∧ kF a p ac 6 (a + 1) = 0 ∧ kF a p ac 6 (a + 2) = 0 ∧ kF a p ac 6 (a + 3) = 0 := by
  refine ⟨?_, ?_, ?_, ?_⟩ <;> simp [kF, upd]
/-- after D days -/
def RM (b t : W0) (nl nw ni : Nat) (s0 : Nat → Int32) (D : Nat) : Prop :=
  (dyF b nl nw ni D).2.2.2.2.1 = (AG t nl nw ni s0 D).2.1 ∧
  (¬ D % 360 = 0 → (dyF b nl nw ni D).2.2.2.2.2 = (AG t nl nw ni s0 D).2.2.2) ∧
  (∀ k, k < nw → (dyF b nl nw ni D).2.2.1 k = (AG t nl nw ni s0 D).1 k) ∧
  (∀ k, k < nw → (dyF b nl nw ni D).2.1 k = gdA (t 20) D k) ∧
  (∀ d, d < D → (dyF b nl nw ni D).2.2.2.1 d = (AG t nl nw ni s0 (d + 1)).2.1) ∧
  (∀ y, 360 * y + 360 ≤ D → ∀ p, p < 6 → (dyF b nl nw ni D).1 (6 * y + p) = rowG t nl nw ni s0 y p) ∧
  (¬ D % 360 = 0 → (dyF b nl nw ni D).1 (6 * (D / 360)) = (AG t nl nw ni s0 (360 * (D / 360))).2.1 ∧ (dyF b nl nw ni D).1 (6 * (D / 360) + 1) = sumF (t 26) (t 30) (t 24) (t 25) 1 (nI (360 * (D / 360))) (nI (D - 1)) ni ∧ (dyF b nl nw ni D).1 (6 * (D / 360) + 2) = sumF (t 26) (t 30) (t 24) (t 25) 0 (nI (360 * (D / 360))) (nI (D - 1)) ni ∧ (dyF b nl nw ni D).1 (6 * (D / 360) + 3) = (AG t nl nw ni s0 D).2.2.1)
section DAYS
variable {b t : W0} {nl nw ni : Nat} {s0 : Nat → Int32}
theorem gdA_s {D : Nat} (hD : D < 3600) (k : Nat) {w : Nat} (hk : k < w) : (if k < w ∧ t 20 k = nI D then nI D else gdA (t 20) D k) = gdA (t 20) (D + 1) k := by
  have hI : (nI D).toInt = (D : Int) := nI_toInt (by omega)
  unfold gdA
  by_cases hc : t 20 k = nI D
  · have h6 : ¬ t 20 k = -6 := fun e => by
      have h7 : (t 20 k).toInt = -6 := by rw [e]; rfl
      rw [hc] at h7
      omega
    rw [if_pos ⟨hk, hc⟩, if_pos ⟨h6, by rw [hc]; omega⟩, hc]
  · have hne : ¬ (t 20 k).toInt = (D : Int) := fun e => hc (ti_eq (by omega))
    rw [if_neg (fun z => hc z.2)]
    by_cases h1 : ¬ t 20 k = -6 ∧ (t 20 k).toInt < (D : Int)
    · rw [if_pos h1, if_pos ⟨h1.1, by have := h1.2; omega⟩]
    · rw [if_neg h1, if_neg (fun z => h1 ⟨z.1, by have := z.2; omega⟩)]
/-- what one day does, put together -/
theorem day_at (h : MT b t nl nw ni) (hnw : nw ≤ 6) {D : Nat} (hD : D < 3600) (R : RM b t nl nw ni s0 D) :
    (wdD b nl nw ni D (dyF b nl nw ni D)).2.2.2 = (dA t nl nw ni D (yrZ D (AG t nl nw ni s0 D))).2.1 ∧
    (∀ k, k < nw → (wdD b nl nw ni D (dyF b nl nw ni D)).1 k = (dA t nl nw ni D (yrZ D (AG t nl nw ni s0 D))).1 k) ∧
    (∀ k, k < nw → (wdD b nl nw ni D (dyF b nl nw ni D)).2.1 k = gdA (t 20) (D + 1) k) ∧
    idD b nl nw ni D (dyF b nl nw ni D) = (dA t nl nw ni D (yrZ D (AG t nl nw ni s0 D))).2.2.2 ∧
    (∀ j, j < 6 * (D / 360) → (wdD b nl nw ni D (dyF b nl nw ni D)).2.2.1 j = (dyF b nl nw ni D).1 j) ∧
    (wdD b nl nw ni D (dyF b nl nw ni D)).2.2.1 (6 * (D / 360)) = (AG t nl nw ni s0 (360 * (D / 360))).2.1 ∧
    (wdD b nl nw ni D (dyF b nl nw ni D)).2.2.1 (6 * (D / 360) + 1) = sumF (t 26) (t 30) (t 24) (t 25) 1 (nI (360 * (D / 360))) (nI D) ni ∧
    (wdD b nl nw ni D (dyF b nl nw ni D)).2.2.1 (6 * (D / 360) + 2) = sumF (t 26) (t 30) (t 24) (t 25) 0 (nI (360 * (D / 360))) (nI D) ni ∧
    (wdD b nl nw ni D (dyF b nl nw ni D)).2.2.1 (6 * (D / 360) + 3) = (dA t nl nw ni D (yrZ D (AG t nl nw ni s0 D))).2.2.1 := by
  obtain ⟨r1, r2, r3, r4, r5, r6, r7⟩ := R
  generalize hs : dyF b nl nw ni D = s at r1 r2 r3 r4 r5 r6 r7 ⊢
  generalize hg : AG t nl nw ni s0 D = g at r1 r2 r3 r7 ⊢
  have z1 : (yrZ D g).1 = g.1 := by unfold yrZ; split <;> rfl
  have z2 : (yrZ D g).2.1 = g.2.1 := by unfold yrZ; split <;> rfl
  obtain ⟨i1, i2⟩ := itF_at h (D := D) (a := 6 * (D / 360)) (ac := if D % 360 = 0 then kF (6 * (D / 360)) s.2.2.2.2.1 s.1 6 else s.1) (p := s.2.2.2.2.1) ni (Nat.le_refl _)
  have hit : (itD b nl ni D s).2 = g.2.1 + movF t ni (nI D) := by rw [← r1]; exact i1
  obtain ⟨w1, w2, w3, w4, -⟩ := wdF_at h hnw (D := D) (a := 6 * (D / 360)) hD (gi := s.2.2.1) (gd := s.2.1) (ac := (itD b nl ni D s).1) (sr := g.1) (p := (itD b nl ni D s).2) r4 r3 nw (Nat.le_refl _)
  have hG : gvF t nw g.1 (nI D) (g.2.1 + movF t ni (nI D)) = gsF (t 20) (nI D) (itD b nl ni D s).2 g.1 (headsF (t 17) (t 18) (t 20) (nI D) nw) nw := by rw [hit]
  have a1 : (wdD b nl nw ni D s).2.2.2 = (dA t nl nw ni D (yrZ D g)).2.1 := by
    unfold dA
    dsimp only
    rw [z1, z2, hG, ← hit]
    exact w1
  have i0 : ∀ y : Nat, y ≤ 3600 → (nI y).toInt = (y : Int) := fun y hy => nI_toInt (by omega)
  have acz : (D % 360 = 0 → (if D % 360 = 0 then kF (6 * (D / 360)) s.2.2.2.2.1 s.1 6 else s.1) = kF (6 * (D / 360)) s.2.2.2.2.1 s.1 6) := fun e => if_pos e
  have acn : (¬ D % 360 = 0 → (if D % 360 = 0 then kF (6 * (D / 360)) s.2.2.2.2.1 s.1 6 else s.1) = s.1) := fun e => if_neg e
  obtain ⟨k0, k1, k2, k3⟩ := kF_at (6 * (D / 360)) s.2.2.2.2.1 s.1
  have hself : ∀ r : Int32, D % 360 = 0 → sumF (t 26) (t 30) (t 24) (t 25) r (nI (360 * (D / 360))) (nI D) ni = 0 + S1 t r D ni := fun r e => by
    rw [Int32.zero_add, show 360 * (D / 360) = D by omega]
  have happ : ∀ r : Int32, ¬ D % 360 = 0 → sumF (t 26) (t 30) (t 24) (t 25) r (nI (360 * (D / 360))) (nI D) ni = sumF (t 26) (t 30) (t 24) (t 25) r (nI (360 * (D / 360))) (nI (D - 1)) ni + S1 t r D ni := fun r e => by
    have e1 := i0 (360 * (D / 360)) (by omega)
    have e2 := i0 (D - 1) (by omega)
    have e3 := i0 D (by omega)
    exact sumF_app (by omega) (by omega) (by omega) ni
  refine ⟨a1, fun k hk => ?_, fun k hk => ?_, ?_, fun j hj => ?_, ?_, ?_, ?_, ?_⟩
  · unfold dA
    dsimp only
    rw [z1, z2, hG]
    exact w2 k hk
  · refine (w3 k hk).trans ?_
    rw [r4 k hk]
    exact gdA_s hD k hk
  · have l1 := h.1 D hD 1 (by decide)
    have l2 := h.1 D hD 2 (by decide)
    have e1 : (dA t nl nw ni D (yrZ D g)).2.2.2 = (yrZ D g).2.2.2 + cntF (t 7) (lpF t) nl (dA t nl nw ni D (yrZ D g)).2.1 (nI D) := rfl
    have e2 : (yrZ D g).2.2.2 = if D % 360 = 0 then 0 else s.2.2.2.2.2 := by
      unfold yrZ
      by_cases e : D % 360 = 0
      · rw [if_pos e, if_pos e]
      · rw [if_neg e, if_neg e, r2 e]
    rw [e1, e2]
    unfold idD ovD cntF
    rw [a1, l1, l2]
  · refine (w4 j).trans ?_
    rw [if_neg (by omega)]
    refine (i2 j).trans ?_
    rw [if_neg (by omega), if_neg (by omega)]
    by_cases e : D % 360 = 0
    · rw [acz e, kF_low hj]
    · rw [acn e]
  · refine (w4 _).trans ?_
    rw [if_neg (by omega)]
    refine (i2 _).trans ?_
    rw [if_neg (by omega), if_neg (by omega)]
    by_cases e : D % 360 = 0
    · rw [acz e, k0, r1, show 360 * (D / 360) = D by omega, hg]
    · rw [acn e]
      exact (r7 e).1
  · refine (w4 _).trans ?_
    rw [if_neg (by omega)]
    refine (i2 _).trans ?_
    rw [if_pos rfl]
    by_cases e : D % 360 = 0
    · rw [acz e, k1, hself 1 e]
    · rw [acn e, (r7 e).2.1, happ 1 e]
  · refine (w4 _).trans ?_
    rw [if_neg (by omega)]
    refine (i2 _).trans ?_
    rw [if_neg (by omega), if_pos rfl]
    by_cases e : D % 360 = 0
    · rw [acz e, k2, hself 0 e]
    · rw [acn e, (r7 e).2.2.1, happ 0 e]
  · refine (w4 _).trans ?_
    rw [if_pos rfl]
    have hq : (itD b nl ni D s).1 (6 * (D / 360) + 3) = (yrZ D g).2.2.1 := by
      refine (i2 _).trans ?_
      rw [if_neg (by omega), if_neg (by omega)]
      unfold yrZ
      by_cases e : D % 360 = 0
      · rw [acz e, k3, if_pos e]
      · rw [acn e, if_neg e, (r7 e).2.2.2]
    rw [hq]
    unfold dA
    dsimp only
    rw [z1, z2, hG]
theorem RM_s (h : MT b t nl nw ni) (hnw : nw ≤ 6) {D : Nat} (hD : D < 3600) (R : RM b t nl nw ni s0 D) : RM b t nl nw ni s0 (D + 1) := by
  obtain ⟨d1, d2, d3, d4, d5, d6, d7, d8, d9⟩ := day_at h hnw hD R
  obtain ⟨r1, r2, r3, r4, r5, r6, r7⟩ := R
  unfold RM
  rw [dyF_s, AG_s]
  unfold dyS dayG
  generalize dyF b nl nw ni D = s at d1 d2 d3 d4 d5 d6 d7 d8 d9 r1 r2 r3 r4 r5 r6 r7 ⊢
  by_cases e : D % 360 = 359
  · rw [if_pos e, if_pos e]
    have hA : AG t nl nw ni s0 (360 * (D / 360) + 360) = ((dA t nl nw ni D (yrZ D (AG t nl nw ni s0 D))).1, (dA t nl nw ni D (yrZ D (AG t nl nw ni s0 D))).2.1 + ((dA t nl nw ni D (yrZ D (AG t nl nw ni s0 D))).2.2.2 / 36000).toInt32, (dA t nl nw ni D (yrZ D (AG t nl nw ni s0 D))).2.2.1, (dA t nl nw ni D (yrZ D (AG t nl nw ni s0 D))).2.2.2) := by
      rw [show 360 * (D / 360) + 360 = D + 1 by omega, AG_s]
      unfold dayG
      rw [if_pos e]
    dsimp only
    have hin : inD b nl nw ni D s = ((dA t nl nw ni D (yrZ D (AG t nl nw ni s0 D))).2.2.2 / 36000).toInt32 := by
      unfold inD
      rw [d4]
    refine ⟨by rw [d1, hin], fun z => absurd (by omega) z, d2, d3, fun d hd => ?_, fun y hy p hp => ?_, fun z => absurd (by omega) z⟩
    · by_cases q : d = D
      · subst q
        rw [upd_self, AG_s]
        unfold dayG
        rw [if_pos e, d1, hin]
      · rw [upd_ne q]
        exact r5 d (by omega)
    · rcases Nat.lt_or_ge y (D / 360) with q | q
      · rw [upd_ne (by omega), upd_ne (by omega), d5 _ (by omega)]
        exact r6 y (by omega) p hp
      · have ey : y = D / 360 := by omega
        subst ey
        unfold rowG
        rw [hA]
        rcases (show p = 0 ∨ p = 1 ∨ p = 2 ∨ p = 3 ∨ p = 4 ∨ p = 5 by omega) with ep | ep | ep | ep | ep | ep <;> subst ep
        · rw [upd_ne (by omega), upd_ne (by omega)]
          exact d6
        · rw [upd_ne (by omega), upd_ne (by omega), d7, show 360 * (D / 360) + 359 = D by omega]
          rfl
        · rw [upd_ne (by omega), upd_ne (by omega), d8, show 360 * (D / 360) + 359 = D by omega]
          rfl
        · rw [upd_ne (by omega), upd_ne (by omega), d9]
          rfl
        · rw [upd_ne (by omega), upd_self, hin]
          rfl
        · rw [upd_self, d1, hin]
          rfl
  · rw [if_neg e, if_neg e]
    dsimp only
    have q1 : (D + 1) / 360 = D / 360 := by omega
    refine ⟨d1, fun _ => d4, d2, d3, fun d hd => ?_, fun y hy p hp => ?_, fun _ => ?_⟩
    · by_cases q : d = D
      · subst q
        rw [upd_self, AG_s]
        unfold dayG
        rw [if_neg e, d1]
      · rw [upd_ne q]
        exact r5 d (by omega)
    · rw [d5 _ (by omega)]
      exact r6 y (by omega) p hp
    · rw [q1, show D + 1 - 1 = D by omega]
      exact ⟨d6, d7, d8, d9⟩
theorem RM_all (h : MT b t nl nw ni) (hnw : nw ≤ 6) (h78 : ∀ k, k < nw → b 78 k = -6) (h79 : ∀ k, k < nw → b 79 k = s0 k) : ∀ D, D ≤ 3600 → RM b t nl nw ni s0 D
  | 0, _ => by
    refine ⟨rfl, fun z => absurd rfl z, h79, fun k hk => ?_, fun d hd => absurd hd (Nat.not_lt_zero d), fun y hy => absurd hy (by omega), fun z => absurd rfl z⟩
    show b 78 k = _
    rw [h78 k hk]
    unfold gdA
    obtain ⟨e1, e2, e3, e4⟩ := h.2.1 k hk
    rw [if_neg]
    rintro ⟨z1, z2⟩
    rcases goF_or (t 17) (t 18) (b 77) k with ⟨y1, y2, y3⟩ | ⟨y1, y2⟩
    · rw [e3, y3] at z2
      rcases e4 with e4 | ⟨d, hd, e4, -⟩
      · exact y1 e4
      · have : (b 77 k).toInt = (d : Int) := by rw [e4]; exact nI_toInt (by omega)
        omega
    · exact z1 (e3.trans y2)
  | D + 1, hD => RM_s h hnw (by omega) (RM_all h hnw h78 h79 D (by omega))
end DAYS

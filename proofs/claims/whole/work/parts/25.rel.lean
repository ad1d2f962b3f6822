/-! PURE: answers out of the laid rows; the relation of the two states -/
theorem gW_rng {w : W0} {nl nw k : Nat} (hL : TL w nl) (hW : TW w nw) (hk : k < nw) : gW w nl k = -6 ∨ ∃ d, d < 3600 ∧ gW w nl k = nI d := by
  rcases goF_or (w 17) (w 18) (fuF w nl) k with ⟨a, b, c⟩ | ⟨a, b⟩
  · rcases fullF_rng (TL_ok hL) (hW.2.2.2 k hk).2.2 with q | ⟨d, hd, q, -⟩
    · exact absurd q a
    · exact Or.inr ⟨d, hd, c.trans q⟩
  · exact Or.inl b
/-- a share that was given by day D is the last one -/
theorem share_stay {w : W0} {nl nw ni k D : Nat} (hD : D < 3600) (hg : (gW w nl k).toInt ≤ (D : Int)) : (AW w nl nw ni 3600).1 k = (AW w nl nw ni (D + 1)).1 k := by
  have h := AG_stay (t := cW w nl) (nl := nl) (nw := nw) (ni := ni) (s0 := z0) (k := k) (D + 1) (3600 - (D + 1)) (fun e h1 h2 he => by
    rw [cW_20] at he
    rw [he, nI_toInt (by omega)] at hg
    omega)
  rw [show D + 1 + (3600 - (D + 1)) = 3600 by omega] at h
  exact h
theorem pot_eq {v w : W0} {nl nw ni D : Nat} (h : LC v w nl nw ni) (h24 : v 24 = w 24) (h25 : v 25 = w 25) (h26 : v 26 = w 26) (hD : D < 3600) : potF v nw ni D = (AW w nl nw ni (D + 1)).2.1 := by
  obtain ⟨a, b, c⟩ := h
  have hY : D / 360 < 10 := by omega
  have i1 : (nI D).toInt = (D : Int) := nI_toInt (by omega)
  have hs : ∀ r x, sumF (v 26) (v 30) (v 24) (v 25) r x (nI D) ni = sumF (cW w nl 26) (cW w nl 30) (cW w nl 24) (cW w nl 25) r x (nI D) ni := fun r x => by
    refine sumF_congr (fun k hk => ?_)
    rw [cW_30, b k hk, h24, h25, h26, cW_ne (by decide) (by decide), cW_ne (by decide) (by decide), cW_ne (by decide) (by decide)]
    exact ⟨rfl, rfl, rfl, rfl⟩
  have hb : ∀ x, gbF (v 20) (v 21) x (nI D) nw = gbF (cW w nl 20) (AW w nl nw ni (D + 1)).1 x (nI D) nw := fun x => by
    refine gbF_congr (fun k hk => ?_)
    obtain ⟨a1, a2, a3⟩ := a k hk
    rw [cW_20, a2, a3]
    exact ⟨rfl, fun z => share_stay hD (by omega)⟩
  have r0 : v (36 + D / 360) 0 = (AW w nl nw ni (360 * (D / 360))).2.1 := c (D / 360) hY 0 (by decide)
  unfold potF
  rw [hs, hs, hb, r0, show D / 360 * 360 = 360 * (D / 360) by omega]
  have hn : D % 360 < 360 := by omega
  have e0 : 360 * (D / 360) + D % 360 = D := by omega
  obtain ⟨s1, s2⟩ := itA_sums (t := cW w nl) (nl := nl) (nw := nw) (ni := ni) hY (AW w nl nw ni (360 * (D / 360))) (D % 360) hn
  rw [e0] at s1 s2
  by_cases e : D % 360 = 359
  · have e4 : v (36 + D / 360) 4 = ((AW w nl nw ni (360 * (D / 360) + 360)).2.2.2 / 36000).toInt32 := c (D / 360) hY 4 (by decide)
    have hA := AG_year (t := cW w nl) (nl := nl) (nw := nw) (ni := ni) (s0 := z0) (Y := D / 360)
    have e5 : D + 1 = 360 * (D / 360) + 360 := by omega
    rw [if_pos e, e4, e5]
    unfold AW
    rw [hA]
    dsimp only
    unfold lastA
    rw [e] at s1 s2
    rw [s2, s1]
  · have hA := AG_in (t := cW w nl) (nl := nl) (nw := nw) (ni := ni) (s0 := z0) (Y := D / 360) (D % 360) (by omega)
    have e5 : D + 1 = 360 * (D / 360) + (D % 360 + 1) := by omega
    rw [if_neg e, Int32.add_zero, e5]
    unfold AW
    rw [hA, s2, s1]
theorem bit01 (x : Int32) : x &&& 1 = 0 ∨ x &&& 1 = 1 := by
  have h : (x &&& 1).toBitVec = x.toBitVec &&& 1#32 := rfl
  rcases (show x.toBitVec &&& 1#32 = 0#32 ∨ x.toBitVec &&& 1#32 = 1#32 by
    have e : (x.toBitVec &&& 1#32).toNat = x.toBitVec.toNat % 2 := by
      rw [BitVec.toNat_and]
      exact Nat.and_one_is_mod _
    rcases Nat.mod_two_eq_zero_or_one x.toBitVec.toNat with q | q
    · exact Or.inl (BitVec.eq_of_toNat_eq (by rw [e, q]; rfl))
    · exact Or.inr (BitVec.eq_of_toNat_eq (by rw [e, q]; rfl))) with q | q
  · exact Or.inl (Int32.toBitVec_inj.mp (h.trans q))
  · exact Or.inr (Int32.toBitVec_inj.mp (h.trans q))
theorem bit_iff (x : Int32) : ¬ x &&& 1 = 0 ↔ x &&& 1 = 1 := by
  rcases bit01 x with q | q <;> rw [q] <;> decide
theorem open_eq {v m r : W0} {nl nw ni : Nat} (hC : LC v r nl nw ni) (hM : LM m r nl nw ni) (hk : v 6 2 = m 57 22) (hr : ∀ y, y < 10 → ∀ p, p < 6 → m 74 (6 * y + p) = v (47 + y) p) : ∀ n, n ≤ 10 → cyF v n = cyM m n
  | 0, _ => rfl
  | n + 1, hn => by
    have ih := open_eq hC hM hk hr n (by omega)
    have e : ∀ p, p < 6 → m 76 (6 * n + p) = v (36 + n) p := fun p hp => (hM.2.2 n (by omega) p hp).trans (hC.2.2 n (by omega) p hp).symm
    have g : ∀ p, p < 6 → m 74 (6 * n + p) = v (47 + n) p := fun p hp => hr n (by omega) p hp
    have hc : chP (v (36 + n)) (v (47 + n)) ↔ chM (m 76) (m 74) n := by
      unfold chP chM
      rw [e 1 (by decide), e 2 (by decide), e 3 (by decide), e 4 (by decide), g 1 (by decide), g 2 (by decide), g 3 (by decide), g 4 (by decide)]
      constructor
      · rintro z ⟨a, b, c, d⟩
        exact z ⟨a.symm, b.symm, c.symm, d.symm⟩
      · rintro z ⟨a, b, c, d⟩
        exact z ⟨a.symm, b.symm, c.symm, d.symm⟩
    rw [cyF_s, cyM_s, ih, hk]
    by_cases q : chM (m 76) (m 74) n ∧ (m 57 22 >>> (nI n &&& 31)) &&& 1 = 1
    · rw [if_pos q, if_pos ⟨(bit_iff _).mpr q.2, hc.mpr q.1⟩]
    · rw [if_neg q, if_neg (fun z => q ⟨hc.mp z.2, (bit_iff _).mp z.1⟩)]
/-! the relation -/
def Told (w : W0) (nl nw nv ne ni : Nat) : Prop := TL w nl ∧ TW w nw ∧ TV w nv ∧ TI w nv ne ni ∧ TE w nv ne ∧ TK w
def Rel (w : W0) : Prop := ∃ nl nw nv ne ni, Told w nl nw nv ne ni ∧ (w 0 6 = 0 → LC w w nl nw ni) ∧ (¬ w 57 23 = 0 → LM w w nl nw ni)
theorem TL.go {w w' : W0} {nl : Nat} (h : TL w nl) (hq : ∀ q, q = 7 ∨ (9 ≤ q ∧ q ≤ 16) ∨ q = 58 ∨ q = 59 → w' q = w q) (h1 : w' 1 2 = w 1 2) (h2 : w' 57 0 = w 57 0) : TL w' nl := by
  obtain ⟨a, b, c, d⟩ := h
  refine ⟨a, h1.trans b, h2.trans c, fun k hk => ?_⟩
  rw [hq 58 (by omega), hq 7 (by omega), hq (9 + k) (by omega), hq 59 (by omega)]
  exact d k hk
theorem TW.go {w w' : W0} {nw : Nat} (h : TW w nw) (hq : ∀ q, q = 17 ∨ q = 18 ∨ q = 60 ∨ q = 61 → w' q = w q) (h1 : w' 2 5 = w 2 5) (h2 : w' 57 3 = w 57 3) : TW w' nw := by
  obtain ⟨a, b, c, d⟩ := h
  refine ⟨a, h1.trans b, h2.trans c, fun k hk => ?_⟩
  rw [hq 17 (by omega), hq 18 (by omega), hq 60 (by omega), hq 61 (by omega)]
  exact d k hk
theorem TV.go {w w' : W0} {nv : Nat} (h : TV w nv) (hq : ∀ q, q = 22 ∨ q = 23 ∨ q = 62 ∨ q = 63 → w' q = w q) (h1 : w' 3 2 = w 3 2) (h2 : w' 57 6 = w 57 6) : TV w' nv := by
  obtain ⟨a, b, c, d⟩ := h
  refine ⟨a, h1.trans b, h2.trans c, fun k hk => ?_⟩
  rw [hq 22 (by omega), hq 23 (by omega), hq 62 (by omega), hq 63 (by omega)]
  exact d k hk
theorem lkP.up {x : Int32} {n m : Nat} (h : lkP x n) (hm : n ≤ m) : lkP x m := by
  rcases h with h | ⟨a, b⟩
  · exact Or.inl h
  · exact Or.inr ⟨a, by omega⟩
theorem TI.go {w w' : W0} {nv ne ni nv' ne' : Nat} (h : TI w nv ne ni) (hv : nv ≤ nv') (he : ne ≤ ne') (hq : ∀ q, (24 ≤ q ∧ q ≤ 29) ∨ (64 ≤ q ∧ q ≤ 69) → w' q = w q) (h1 : w' 4 7 = w 4 7) (h2 : w' 57 9 = w 57 9) : TI w' nv' ne' ni := by
  obtain ⟨a, b, c, d, e⟩ := h
  refine ⟨a, h1.trans b, h2.trans c, fun k hk => ?_, fun k hk => ?_⟩
  · rw [hq 24 (by omega), hq 25 (by omega), hq 26 (by omega), hq 27 (by omega), hq 28 (by omega), hq 29 (by omega), hq 64 (by omega), hq 65 (by omega), hq 66 (by omega), hq 67 (by omega), hq 68 (by omega), hq 69 (by omega)]
    obtain ⟨a1, a2, a3, a4, a5, a6, a7, a8⟩ := d k hk
    refine ⟨a1, a2, a3, a4, a5, a6, a7, ?_⟩
    rcases a8 with ⟨b1, b2, b3⟩ | ⟨b1, b2, b3⟩
    · exact Or.inl ⟨b1, b2, b3.up he⟩
    · exact Or.inr ⟨b1, b2, b3.up hv⟩
  · rw [hq 28 (by omega), hq 29 (by omega)]
    exact e k hk
theorem TE.go {w w' : W0} {nv ne nv' : Nat} (h : TE w nv ne) (hv : nv ≤ nv') (hq : ∀ q, (31 ≤ q ∧ q ≤ 34) ∨ (70 ≤ q ∧ q ≤ 73) → w' q = w q) (h1 : w' 5 4 = w 5 4) (h2 : w' 57 16 = w 57 16) : TE w' nv' ne := by
  obtain ⟨a, b, c, d⟩ := h
  refine ⟨a, h1.trans b, h2.trans c, fun k hk => ?_⟩
  rw [hq 31 (by omega), hq 32 (by omega), hq 33 (by omega), hq 34 (by omega), hq 70 (by omega), hq 71 (by omega), hq 72 (by omega), hq 73 (by omega)]
  obtain ⟨a1, a2, a3, a4, a5, a6⟩ := d k hk
  exact ⟨a1, a2, a3, a4, a5.up hv, a6⟩
theorem TK.go {w w' : W0} (h : TK w) (hq : ∀ q, (47 ≤ q ∧ q ≤ 56) ∨ q = 74 → w' q = w q) (h1 : w' 6 2 = w 6 2) (h2 : w' 57 22 = w 57 22) : TK w' := by
  obtain ⟨a, b⟩ := h
  refine ⟨h2.trans (a.trans h1.symm), fun y hy p hp => ?_⟩
  rw [hq (47 + y) (by omega), hq 74 (by omega)]
  exact b y hy p hp
theorem Told.go {w w' : W0} {nl nw nv ne ni : Nat} (h : Told w nl nw nv ne ni) (hq : ∀ q, (0 < q ∧ q < 19) ∨ (21 < q ∧ q < 30) ∨ (30 < q ∧ q < 36) ∨ (45 < q ∧ q < 57) ∨ (57 < q ∧ q < 75) → w' q = w q) (h57 : ∀ k, ¬ k = 23 → w' 57 k = w 57 k) : Told w' nl nw nv ne ni := by
  obtain ⟨a, b, c, d, e, f⟩ := h
  refine ⟨a.go (fun q z => hq q (by omega)) (by rw [hq 1 (by omega)]) (h57 0 (by decide)), b.go (fun q z => hq q (by omega)) (by rw [hq 2 (by omega)]) (h57 3 (by decide)), c.go (fun q z => hq q (by omega)) (by rw [hq 3 (by omega)]) (h57 6 (by decide)), d.go (Nat.le_refl _) (Nat.le_refl _) (fun q z => hq q (by omega)) (by rw [hq 4 (by omega)]) (h57 9 (by decide)), e.go (Nat.le_refl _) (fun q z => hq q (by omega)) (by rw [hq 5 (by omega)]) (h57 16 (by decide)), f.go (fun q z => hq q (by omega)) (by rw [hq 6 (by omega)]) (h57 22 (by decide))⟩
theorem Told_setl {w : W0} {nl nw nv ne ni : Nat} (h : Told w nl nw nv ne ni) : Told (setlW w nl nw ni) nl nw nv ne ni := h.go (fun q z => setlW_ne (by omega)) (fun k _ => by rw [setlW_ne (by omega)])
theorem Told_lay {w : W0} {nl nw nv ne ni : Nat} (h : Told w nl nw nv ne ni) : Told (layM w nl nw ni) nl nw nv ne ni := h.go (fun q z => layM_ne (by omega)) (fun k hk => layM_57 hk)
/-! both sides lay: the two worlds -/
theorem lay_both {w : W0} {nl nw nv ne ni : Nat} (h : Told w nl nw nv ne ni) (h1 : w 0 6 = 0 → LC w w nl nw ni) (h2 : ¬ w 57 23 = 0 → LM w w nl nw ni) :
    Told (layM (setlW w nl nw ni) nl nw ni) nl nw nv ne ni ∧ LC (setlW w nl nw ni) w nl nw ni ∧ LM (layM (setlW w nl nw ni) nl nw ni) w nl nw ni ∧ LC (layM (setlW w nl nw ni) nl nw ni) (layM (setlW w nl nw ni) nl nw ni) nl nw ni ∧ LM (layM (setlW w nl nw ni) nl nw ni) (layM (setlW w nl nw ni) nl nw ni) nl nw ni := by
  have hnl : nl ≤ 8 := h.1.1
  have T1 := Told_setl h
  have c1 := LC_setl (nw := nw) (ni := ni) hnl h1
  have s1 : Sp w (setlW w nl nw ni) nl nw ni := Sp_of hnl (fun q z => (setlW_ne (by omega)).symm) (fun k hk => alF_eq (fun q z => (setlW_ne (by omega)).symm) (by rw [setlW_ne (by omega)]))
  have m1 : LM (layM (setlW w nl nw ni) nl nw ni) (setlW w nl nw ni) nl nw ni := LM_lay T1.1 T1.2.1 T1.2.2.1 T1.2.2.2.1 (fun z => (h2 (by rw [← setlW_ne (w := w) (nl := nl) (nw := nw) (ni := ni) (q := 57) (by omega)]; exact z)).go s1 (fun q z => setlW_ne (by omega)))
  have s2 : Sp (setlW w nl nw ni) (layM (setlW w nl nw ni) nl nw ni) nl nw ni := Sp_of hnl (fun q z => (layM_ne (by omega)).symm) (fun k hk => alF_eq (fun q z => (layM_ne (by omega)).symm) (by rw [layM_ne (by omega)]))
  have s1' : Sp (setlW w nl nw ni) w nl nw ni := Sp_of hnl (fun q z => setlW_ne (by omega)) (fun k hk => alF_eq (fun q z => setlW_ne (by omega)) (by rw [setlW_ne (by omega)]))
  refine ⟨Told_lay T1, c1, m1.go s1' (fun q z => rfl), (c1.go s1 (fun q z => rfl)).go s2 (fun q z => layM_ne (by omega)), m1.go s2 (fun q z => rfl)⟩

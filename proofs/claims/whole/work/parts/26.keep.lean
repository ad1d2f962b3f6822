/-! PURE: each told change keeps the relation -/
theorem setW_at (w : W0) (p i : Nat) (v : Int32) (q j : Nat) : setW w p i v q j = if q = p ∧ j = i then v else w q j := by
  unfold setW upd
  by_cases h : q = p
  · subst h
    by_cases hj : j = i <;> simp [hj]
  · simp [h]
theorem Rel_law {w : W0} {nl nw nv ne ni : Nat} (h : Told w nl nw nv ne ni) {day a b c e f : Int32} (hp : lawP day a b c e f) (hn : ¬ 8 ≤ nl) : Rel (lawMW (lawW w nl day a b c e f) nl day a b c e f) := by
  obtain ⟨hL, hW, hV, hI, hE, hK⟩ := h
  refine ⟨nl + 1, nw, nv, ne, ni, ⟨?_, hW.go (fun q z => by simp (disch := omega) only [lawMW, lawW, setW_ne]) (by simp (disch := omega) only [lawMW, lawW, setW_at, if_neg, if_pos, and_self, true_and, and_true, false_and, and_false, if_true, if_false]) (by simp (disch := omega) only [lawMW, lawW, setW_at, if_neg, if_pos, and_self, true_and, and_true, false_and, and_false, if_true, if_false]), hV.go (fun q z => by simp (disch := omega) only [lawMW, lawW, setW_ne]) (by simp (disch := omega) only [lawMW, lawW, setW_at, if_neg, if_pos, and_self, true_and, and_true, false_and, and_false, if_true, if_false]) (by simp (disch := omega) only [lawMW, lawW, setW_at, if_neg, if_pos, and_self, true_and, and_true, false_and, and_false, if_true, if_false]), hI.go (Nat.le_refl _) (Nat.le_refl _) (fun q z => by simp (disch := omega) only [lawMW, lawW, setW_ne]) (by simp (disch := omega) only [lawMW, lawW, setW_at, if_neg, if_pos, and_self, true_and, and_true, false_and, and_false, if_true, if_false]) (by simp (disch := omega) only [lawMW, lawW, setW_at, if_neg, if_pos, and_self, true_and, and_true, false_and, and_false, if_true, if_false]), hE.go (Nat.le_refl _) (fun q z => by simp (disch := omega) only [lawMW, lawW, setW_ne]) (by simp (disch := omega) only [lawMW, lawW, setW_at, if_neg, if_pos, and_self, true_and, and_true, false_and, and_false, if_true, if_false]) (by simp (disch := omega) only [lawMW, lawW, setW_at, if_neg, if_pos, and_self, true_and, and_true, false_and, and_false, if_true, if_false]), hK.go (fun q z => by simp (disch := omega) only [lawMW, lawW, setW_ne]) (by simp (disch := omega) only [lawMW, lawW, setW_at, if_neg, if_pos, and_self, true_and, and_true, false_and, and_false, if_true, if_false]) (by simp (disch := omega) only [lawMW, lawW, setW_at, if_neg, if_pos, and_self, true_and, and_true, false_and, and_false, if_true, if_false])⟩, fun z => absurd z (by simp (disch := omega) only [lawMW, lawW, setW_at, if_neg, if_pos, and_self, true_and, and_true, false_and, and_false, if_true, if_false]; decide), fun z => absurd (by simp (disch := omega) only [lawMW, lawW, setW_at, if_neg, if_pos, and_self, true_and, and_true, false_and, and_false, if_true, if_false]) z⟩
  obtain ⟨h1, h2, h3, h4⟩ := hL
  refine ⟨by omega, (by simp (disch := omega) only [lawMW, lawW, setW_at, if_neg, if_pos, and_self, true_and, and_true, false_and, and_false, if_true, if_false]), (by simp (disch := omega) only [lawMW, lawW, setW_at, if_neg, if_pos, and_self, true_and, and_true, false_and, and_false, if_true, if_false]), fun k hk => ?_⟩
  rcases Nat.lt_or_ge k nl with q | q
  · obtain ⟨a1, a2, a3, a4⟩ := h4 k q
    refine ⟨?_, ?_, ?_, fun p hp => ?_⟩
    · simp (disch := omega) only [lawMW, lawW, setW_at, if_neg, if_pos, and_self, true_and, and_true, false_and, and_false, if_true, if_false]
      exact a1
    · have e : lawMW (lawW w nl day a b c e f) nl day a b c e f 7 k = w 7 k := by simp (disch := omega) only [lawMW, lawW, setW_at, if_neg, if_pos, and_self, true_and, and_true, false_and, and_false, if_true, if_false]
      rw [e]
      exact a2
    · have e : lawMW (lawW w nl day a b c e f) nl day a b c e f (9 + k) 0 = w (9 + k) 0 := by simp (disch := omega) only [lawMW, lawW, setW_at, if_neg, if_pos, and_self, true_and, and_true, false_and, and_false, if_true, if_false]
      rw [e]
      exact a3
    · simp (disch := omega) only [lawMW, lawW, setW_at, if_neg, if_pos, and_self, true_and, and_true, false_and, and_false, if_true, if_false]
      exact a4 p hp
  · have e : k = nl := by omega
    subst e
    refine ⟨(by simp (disch := omega) only [lawMW, lawW, setW_at, if_neg, if_pos, and_self, true_and, and_true, false_and, and_false, if_true, if_false]), ?_, ?_, fun p hp => ?_⟩
    · have e1 : lawMW (lawW w k day a b c e f) k day a b c e f 7 k = day := by simp (disch := omega) only [lawMW, lawW, setW_at, if_neg, if_pos, and_self, true_and, and_true, false_and, and_false, if_true, if_false]
      rw [e1]
      exact hp.1
    · have e1 : lawMW (lawW w k day a b c e f) k day a b c e f (9 + k) 0 = a := by simp (disch := omega) only [lawMW, lawW, setW_at, if_neg, if_pos, and_self, true_and, and_true, false_and, and_false, if_true, if_false]
      rw [e1]
      exact hp.2.1
    · rcases (show p = 0 ∨ p = 1 ∨ p = 2 ∨ p = 3 ∨ p = 4 by omega) with e1 | e1 | e1 | e1 | e1 <;> subst e1 <;> simp (disch := omega) only [lawMW, lawW, setW_at, if_neg, if_pos, and_self, true_and, and_true, false_and, and_false, if_true, if_false]
theorem Rel_ward {w : W0} {nl nw nv ne ni : Nat} (h : Told w nl nw nv ne ni) {x : Int32} (hp : bornP x) (hn : ¬ 6 ≤ nw) : Rel (wardMW (wardW w nw x) nw x) := by
  obtain ⟨hL, hW, hV, hI, hE, hK⟩ := h
  refine ⟨nl, nw + 1, nv, ne, ni, ⟨hL.go (fun q z => by simp (disch := omega) only [wardMW, wardW, setW_ne]) (by simp (disch := omega) only [wardMW, wardW, setW_at, if_neg, if_pos, and_self, true_and, and_true, false_and, and_false, if_true, if_false]) (by simp (disch := omega) only [wardMW, wardW, setW_at, if_neg, if_pos, and_self, true_and, and_true, false_and, and_false, if_true, if_false]), ?_, hV.go (fun q z => by simp (disch := omega) only [wardMW, wardW, setW_ne]) (by simp (disch := omega) only [wardMW, wardW, setW_at, if_neg, if_pos, and_self, true_and, and_true, false_and, and_false, if_true, if_false]) (by simp (disch := omega) only [wardMW, wardW, setW_at, if_neg, if_pos, and_self, true_and, and_true, false_and, and_false, if_true, if_false]), hI.go (Nat.le_refl _) (Nat.le_refl _) (fun q z => by simp (disch := omega) only [wardMW, wardW, setW_ne]) (by simp (disch := omega) only [wardMW, wardW, setW_at, if_neg, if_pos, and_self, true_and, and_true, false_and, and_false, if_true, if_false]) (by simp (disch := omega) only [wardMW, wardW, setW_at, if_neg, if_pos, and_self, true_and, and_true, false_and, and_false, if_true, if_false]), hE.go (Nat.le_refl _) (fun q z => by simp (disch := omega) only [wardMW, wardW, setW_ne]) (by simp (disch := omega) only [wardMW, wardW, setW_at, if_neg, if_pos, and_self, true_and, and_true, false_and, and_false, if_true, if_false]) (by simp (disch := omega) only [wardMW, wardW, setW_at, if_neg, if_pos, and_self, true_and, and_true, false_and, and_false, if_true, if_false]), hK.go (fun q z => by simp (disch := omega) only [wardMW, wardW, setW_ne]) (by simp (disch := omega) only [wardMW, wardW, setW_at, if_neg, if_pos, and_self, true_and, and_true, false_and, and_false, if_true, if_false]) (by simp (disch := omega) only [wardMW, wardW, setW_at, if_neg, if_pos, and_self, true_and, and_true, false_and, and_false, if_true, if_false])⟩, fun z => absurd z (by simp (disch := omega) only [wardMW, wardW, setW_at, if_neg, if_pos, and_self, true_and, and_true, false_and, and_false, if_true, if_false]; decide), fun z => absurd (by simp (disch := omega) only [wardMW, wardW, setW_at, if_neg, if_pos, and_self, true_and, and_true, false_and, and_false, if_true, if_false]) z⟩
  obtain ⟨h1, h2, h3, h4⟩ := hW
  refine ⟨by omega, (by simp (disch := omega) only [wardMW, wardW, setW_at, if_neg, if_pos, and_self, true_and, and_true, false_and, and_false, if_true, if_false]), (by simp (disch := omega) only [wardMW, wardW, setW_at, if_neg, if_pos, and_self, true_and, and_true, false_and, and_false, if_true, if_false]), fun k hk => ?_⟩
  rcases Nat.lt_or_ge k nw with q | q
  · obtain ⟨a1, a2, a3⟩ := h4 k q
    simp (disch := omega) only [wardMW, wardW, setW_at, if_neg, if_pos, and_self, true_and, and_true, false_and, and_false, if_true, if_false]
    exact ⟨a1, a2, a3⟩
  · have e : k = nw := by omega
    subst e
    simp (disch := omega) only [wardMW, wardW, setW_at, if_neg, if_pos, and_self, true_and, and_true, false_and, and_false, if_true, if_false]
    exact hp
theorem Rel_dies {w : W0} {nl nw nv ne ni : Nat} (h : Told w nl nw nv ne ni) {i day : Int32} (hp : inP i nw) : Rel (diesMW (diesW w i day) i day) := by
  obtain ⟨hL, hW, hV, hI, hE, hK⟩ := h
  refine ⟨nl, nw, nv, ne, ni, ⟨hL.go (fun q z => by simp (disch := omega) only [diesMW, diesW, setW_ne]) (by simp (disch := omega) only [diesMW, diesW, setW_at, if_neg, if_pos, and_self, true_and, and_true, false_and, and_false, if_true, if_false]) (by simp (disch := omega) only [diesMW, diesW, setW_at, if_neg, if_pos, and_self, true_and, and_true, false_and, and_false, if_true, if_false]), ?_, hV.go (fun q z => by simp (disch := omega) only [diesMW, diesW, setW_ne]) (by simp (disch := omega) only [diesMW, diesW, setW_at, if_neg, if_pos, and_self, true_and, and_true, false_and, and_false, if_true, if_false]) (by simp (disch := omega) only [diesMW, diesW, setW_at, if_neg, if_pos, and_self, true_and, and_true, false_and, and_false, if_true, if_false]), hI.go (Nat.le_refl _) (Nat.le_refl _) (fun q z => by simp (disch := omega) only [diesMW, diesW, setW_ne]) (by simp (disch := omega) only [diesMW, diesW, setW_at, if_neg, if_pos, and_self, true_and, and_true, false_and, and_false, if_true, if_false]) (by simp (disch := omega) only [diesMW, diesW, setW_at, if_neg, if_pos, and_self, true_and, and_true, false_and, and_false, if_true, if_false]), hE.go (Nat.le_refl _) (fun q z => by simp (disch := omega) only [diesMW, diesW, setW_ne]) (by simp (disch := omega) only [diesMW, diesW, setW_at, if_neg, if_pos, and_self, true_and, and_true, false_and, and_false, if_true, if_false]) (by simp (disch := omega) only [diesMW, diesW, setW_at, if_neg, if_pos, and_self, true_and, and_true, false_and, and_false, if_true, if_false]), hK.go (fun q z => by simp (disch := omega) only [diesMW, diesW, setW_ne]) (by simp (disch := omega) only [diesMW, diesW, setW_at, if_neg, if_pos, and_self, true_and, and_true, false_and, and_false, if_true, if_false]) (by simp (disch := omega) only [diesMW, diesW, setW_at, if_neg, if_pos, and_self, true_and, and_true, false_and, and_false, if_true, if_false])⟩, fun z => absurd z (by simp (disch := omega) only [diesMW, diesW, setW_at, if_neg, if_pos, and_self, true_and, and_true, false_and, and_false, if_true, if_false]; decide), fun z => absurd (by simp (disch := omega) only [diesMW, diesW, setW_at, if_neg, if_pos, and_self, true_and, and_true, false_and, and_false, if_true, if_false]) z⟩
  obtain ⟨h1, h2, h3, h4⟩ := hW
  refine ⟨h1, by simp (disch := omega) only [diesMW, diesW, setW_at, if_neg, if_pos, and_self, true_and, and_true, false_and, and_false, if_true, if_false]; exact h2, by simp (disch := omega) only [diesMW, diesW, setW_at, if_neg, if_pos, and_self, true_and, and_true, false_and, and_false, if_true, if_false]; exact h3, fun k hk => ?_⟩
  obtain ⟨a1, a2, a3⟩ := h4 k hk
  by_cases e : k = i.toNatClampNeg
  · subst e
    simp (disch := omega) only [diesMW, diesW, setW_at, if_neg, if_pos, and_self, true_and, and_true, false_and, and_false, if_true, if_false]
    exact ⟨a1, a3⟩
  · simp (disch := omega) only [diesMW, diesW, setW_at, if_neg, if_pos, and_self, true_and, and_true, false_and, and_false, if_true, if_false]
    exact ⟨a1, a2, a3⟩
theorem barsF_lim {r r' : W0} {nl k : Nat} (h : ∀ q, (7 ≤ q ∧ q ≤ 16) ∨ (24 ≤ q ∧ q ≤ 29) → r q = r' q) (h3 : r 26 k = 0 → limC r (r 27 k) = limC r' (r 27 k)) : barsF r nl k = barsF r' nl k := by
  have hlp : lpF r = lpF r' := lpF_congr (fun q h1 h2 => h q (by omega))
  unfold barsF
  rw [← h 26 (by omega)]
  by_cases e : ¬ r 26 k = 0
  · rw [if_pos e, if_pos e]
  · have e2 := h3 (Decidable.not_not.mp e)
    rw [if_neg e, if_neg e]
    unfold onF
    rw [e2, hlp, h 7 (by omega), h 24 (by omega), h 25 (by omega), h 27 (by omega), h 28 (by omega), h 29 (by omega)]
theorem Rel_leave {w : W0} {nl nw nv ne ni : Nat} (h : Told w nl nw nv ne ni) (hC : w 0 6 = 0 → LC w w nl nw ni) (hM : ¬ w 57 23 = 0 → LM w w nl nw ni) {x : Int32} (hn : ¬ 10 ≤ nv) : Rel (leaveMW (leaveW w nv x) nv x) := by
  obtain ⟨hL, hW, hV, hI, hE, hK⟩ := h
  have hs : Sp w (leaveMW (leaveW w nv x) nv x) nl nw ni := by
    refine Sp_of hL.1 (fun q z => by simp (disch := omega) only [leaveMW, leaveW, setW_ne]) (fun k hk => ?_)
    unfold alF
    rw [barsF_lim (r := w) (r' := leaveMW (leaveW w nv x) nv x) (fun q z => by simp (disch := omega) only [leaveMW, leaveW, setW_ne]) (fun z => ?_)]
    obtain ⟨a1, a2, a3, a4, a5, a6, a7, a8⟩ := hI.2.2.2.1 k hk
    rcases a8 with ⟨b1, b2, b3⟩ | ⟨b1, b2, b3⟩
    · rw [z] at b1
      exact absurd b1 (by decide)
    · have hv : (w 3 2).toInt = (nv : Int) := by rw [hV.2.1]; exact nI_toInt (by omega)
      have hv2 : (leaveMW (leaveW w nv x) nv x 3 2).toInt = ((nv + 1 : Nat) : Int) := by
        simp (disch := omega) only [leaveMW, leaveW, setW_at, if_neg, if_pos, and_self, true_and, and_true, false_and, and_false, if_true, if_false]
        exact nI_toInt (by omega)
      unfold limC
      rcases b3 with e | ⟨p1, p2⟩
      · rw [e, if_neg (fun z => absurd z.1 (by decide)), if_neg (fun z => absurd z.1 (by decide))]
      · have hj := nat_lt p1 p2
        rw [if_pos ⟨p1, by omega, by omega⟩, if_pos ⟨p1, by omega, by omega⟩]
        simp (disch := omega) only [leaveMW, leaveW, setW_at, if_neg, if_pos, and_self, true_and, and_true, false_and, and_false, if_true, if_false]
  have e6 : leaveMW (leaveW w nv x) nv x 0 6 = w 0 6 := by simp (disch := omega) only [leaveMW, leaveW, setW_at, if_neg, if_pos, and_self, true_and, and_true, false_and, and_false, if_true, if_false]
  have e23 : leaveMW (leaveW w nv x) nv x 57 23 = w 57 23 := by simp (disch := omega) only [leaveMW, leaveW, setW_at, if_neg, if_pos, and_self, true_and, and_true, false_and, and_false, if_true, if_false]
  refine ⟨nl, nw, nv + 1, ne, ni, ⟨hL.go (fun q z => by simp (disch := omega) only [leaveMW, leaveW, setW_ne]) (by simp (disch := omega) only [leaveMW, leaveW, setW_at, if_neg, if_pos, and_self, true_and, and_true, false_and, and_false, if_true, if_false]) (by simp (disch := omega) only [leaveMW, leaveW, setW_at, if_neg, if_pos, and_self, true_and, and_true, false_and, and_false, if_true, if_false]), hW.go (fun q z => by simp (disch := omega) only [leaveMW, leaveW, setW_ne]) (by simp (disch := omega) only [leaveMW, leaveW, setW_at, if_neg, if_pos, and_self, true_and, and_true, false_and, and_false, if_true, if_false]) (by simp (disch := omega) only [leaveMW, leaveW, setW_at, if_neg, if_pos, and_self, true_and, and_true, false_and, and_false, if_true, if_false]), ?_, hI.go (by omega) (Nat.le_refl _) (fun q z => by simp (disch := omega) only [leaveMW, leaveW, setW_ne]) (by simp (disch := omega) only [leaveMW, leaveW, setW_at, if_neg, if_pos, and_self, true_and, and_true, false_and, and_false, if_true, if_false]) (by simp (disch := omega) only [leaveMW, leaveW, setW_at, if_neg, if_pos, and_self, true_and, and_true, false_and, and_false, if_true, if_false]), hE.go (by omega) (fun q z => by simp (disch := omega) only [leaveMW, leaveW, setW_ne]) (by simp (disch := omega) only [leaveMW, leaveW, setW_at, if_neg, if_pos, and_self, true_and, and_true, false_and, and_false, if_true, if_false]) (by simp (disch := omega) only [leaveMW, leaveW, setW_at, if_neg, if_pos, and_self, true_and, and_true, false_and, and_false, if_true, if_false]), hK.go (fun q z => by simp (disch := omega) only [leaveMW, leaveW, setW_ne]) (by simp (disch := omega) only [leaveMW, leaveW, setW_at, if_neg, if_pos, and_self, true_and, and_true, false_and, and_false, if_true, if_false]) (by simp (disch := omega) only [leaveMW, leaveW, setW_at, if_neg, if_pos, and_self, true_and, and_true, false_and, and_false, if_true, if_false])⟩, fun z => (hC (e6.symm.trans z)).go hs (fun q z => by simp (disch := omega) only [leaveMW, leaveW, setW_ne]), fun z => (hM (fun y => z (e23.trans y))).go hs (fun q z => by simp (disch := omega) only [leaveMW, leaveW, setW_ne])⟩
  obtain ⟨h1, h2, h3, h4⟩ := hV
  refine ⟨by omega, (by simp (disch := omega) only [leaveMW, leaveW, setW_at, if_neg, if_pos, and_self, true_and, and_true, false_and, and_false, if_true, if_false]), (by simp (disch := omega) only [leaveMW, leaveW, setW_at, if_neg, if_pos, and_self, true_and, and_true, false_and, and_false, if_true, if_false]), fun k hk => ?_⟩
  rcases Nat.lt_or_ge k nv with q | q
  · obtain ⟨a1, a2⟩ := h4 k q
    simp (disch := omega) only [leaveMW, leaveW, setW_at, if_neg, if_pos, and_self, true_and, and_true, false_and, and_false, if_true, if_false]
    exact ⟨a1, a2⟩
  · have e : k = nv := by omega
    subst e
    simp (disch := omega) only [leaveMW, leaveW, setW_at, if_neg, if_pos, and_self, true_and, and_true, false_and, and_false, if_true, if_false]
theorem Rel_receive {w : W0} {nl nw nv ne ni : Nat} (h : Told w nl nw nv ne ni) {d c l : Int32} (hl : lkP l ne) (hn : ¬ 60 ≤ ni) : Rel (itemMW (setW (itemW w ni d c 1 l) 0 6 1) ni 0 d c l) := by
  obtain ⟨hL, hW, hV, hI, hE, hK⟩ := h
  refine ⟨nl, nw, nv, ne, ni + 1, ⟨hL.go (fun q z => by simp (disch := omega) only [itemMW, itemW, setW_ne]) (by simp (disch := omega) only [itemMW, itemW, setW_at, if_neg, if_pos, and_self, true_and, and_true, false_and, and_false, if_true, if_false]) (by simp (disch := omega) only [itemMW, itemW, setW_at, if_neg, if_pos, and_self, true_and, and_true, false_and, and_false, if_true, if_false]), hW.go (fun q z => by simp (disch := omega) only [itemMW, itemW, setW_ne]) (by simp (disch := omega) only [itemMW, itemW, setW_at, if_neg, if_pos, and_self, true_and, and_true, false_and, and_false, if_true, if_false]) (by simp (disch := omega) only [itemMW, itemW, setW_at, if_neg, if_pos, and_self, true_and, and_true, false_and, and_false, if_true, if_false]), hV.go (fun q z => by simp (disch := omega) only [itemMW, itemW, setW_ne]) (by simp (disch := omega) only [itemMW, itemW, setW_at, if_neg, if_pos, and_self, true_and, and_true, false_and, and_false, if_true, if_false]) (by simp (disch := omega) only [itemMW, itemW, setW_at, if_neg, if_pos, and_self, true_and, and_true, false_and, and_false, if_true, if_false]), ?_, hE.go (Nat.le_refl _) (fun q z => by simp (disch := omega) only [itemMW, itemW, setW_ne]) (by simp (disch := omega) only [itemMW, itemW, setW_at, if_neg, if_pos, and_self, true_and, and_true, false_and, and_false, if_true, if_false]) (by simp (disch := omega) only [itemMW, itemW, setW_at, if_neg, if_pos, and_self, true_and, and_true, false_and, and_false, if_true, if_false]), hK.go (fun q z => by simp (disch := omega) only [itemMW, itemW, setW_ne]) (by simp (disch := omega) only [itemMW, itemW, setW_at, if_neg, if_pos, and_self, true_and, and_true, false_and, and_false, if_true, if_false]) (by simp (disch := omega) only [itemMW, itemW, setW_at, if_neg, if_pos, and_self, true_and, and_true, false_and, and_false, if_true, if_false])⟩, fun z => absurd z (by simp (disch := omega) only [itemMW, itemW, setW_at, if_neg, if_pos, and_self, true_and, and_true, false_and, and_false, if_true, if_false]; decide), fun z => absurd (by simp (disch := omega) only [itemMW, itemW, setW_at, if_neg, if_pos, and_self, true_and, and_true, false_and, and_false, if_true, if_false]) z⟩
  obtain ⟨h1, h2, h3, h4, h5⟩ := hI
  refine ⟨by omega, (by simp (disch := omega) only [itemMW, itemW, setW_at, if_neg, if_pos, and_self, true_and, and_true, false_and, and_false, if_true, if_false]), (by simp (disch := omega) only [itemMW, itemW, setW_at, if_neg, if_pos, and_self, true_and, and_true, false_and, and_false, if_true, if_false]), fun k hk => ?_, fun k hk => ?_⟩
  · rcases Nat.lt_or_ge k ni with q | q
    · obtain ⟨a1, a2, a3, a4, a5, a6, a7, a8⟩ := h4 k q
      simp (disch := omega) only [itemMW, itemW, setW_at, if_neg, if_pos, and_self, true_and, and_true, false_and, and_false, if_true, if_false]
      exact ⟨a1, a2, a3, a4, a5, a6, a7, a8⟩
    · have e : k = ni := by omega
      subst e
      obtain ⟨z1, z2⟩ := h5 k (Nat.le_refl _)
      simp (disch := omega) only [itemMW, itemW, setW_at, if_neg, if_pos, and_self, true_and, and_true, false_and, and_false, if_true, if_false]
      exact ⟨z1.symm, z2.symm, Or.inl z1, Or.inl z2, Or.inl hl⟩
  · obtain ⟨z1, z2⟩ := h5 k (by omega)
    simp (disch := omega) only [itemMW, itemW, setW_at, if_neg, if_pos, and_self, true_and, and_true, false_and, and_false, if_true, if_false]
    exact ⟨z1, z2⟩
theorem Rel_pay0 {w : W0} {nl nw nv ne ni : Nat} (h : Told w nl nw nv ne ni) {d c l : Int32} (hl : l = -1) (hn : ¬ 60 ≤ ni) : Rel (itemMW (setW (itemW w ni d c 0 l) 0 6 1) ni 1 d c l) := by
  obtain ⟨hL, hW, hV, hI, hE, hK⟩ := h
  refine ⟨nl, nw, nv, ne, ni + 1, ⟨hL.go (fun q z => by simp (disch := omega) only [itemMW, itemW, setW_ne]) (by simp (disch := omega) only [itemMW, itemW, setW_at, if_neg, if_pos, and_self, true_and, and_true, false_and, and_false, if_true, if_false]) (by simp (disch := omega) only [itemMW, itemW, setW_at, if_neg, if_pos, and_self, true_and, and_true, false_and, and_false, if_true, if_false]), hW.go (fun q z => by simp (disch := omega) only [itemMW, itemW, setW_ne]) (by simp (disch := omega) only [itemMW, itemW, setW_at, if_neg, if_pos, and_self, true_and, and_true, false_and, and_false, if_true, if_false]) (by simp (disch := omega) only [itemMW, itemW, setW_at, if_neg, if_pos, and_self, true_and, and_true, false_and, and_false, if_true, if_false]), ?_, ?_, hE.go (Nat.le_refl _) (fun q z => by simp (disch := omega) only [itemMW, itemW, setW_ne]) (by simp (disch := omega) only [itemMW, itemW, setW_at, if_neg, if_pos, and_self, true_and, and_true, false_and, and_false, if_true, if_false]) (by simp (disch := omega) only [itemMW, itemW, setW_at, if_neg, if_pos, and_self, true_and, and_true, false_and, and_false, if_true, if_false]), hK.go (fun q z => by simp (disch := omega) only [itemMW, itemW, setW_ne]) (by simp (disch := omega) only [itemMW, itemW, setW_at, if_neg, if_pos, and_self, true_and, and_true, false_and, and_false, if_true, if_false]) (by simp (disch := omega) only [itemMW, itemW, setW_at, if_neg, if_pos, and_self, true_and, and_true, false_and, and_false, if_true, if_false])⟩, fun z => absurd z (by simp (disch := omega) only [itemMW, itemW, setW_at, if_neg, if_pos, and_self, true_and, and_true, false_and, and_false, if_true, if_false]; decide), fun z => absurd (by simp (disch := omega) only [itemMW, itemW, setW_at, if_neg, if_pos, and_self, true_and, and_true, false_and, and_false, if_true, if_false]) z⟩
  · obtain ⟨h1, h2, h3, h4⟩ := hV
    refine ⟨h1, by simp (disch := omega) only [itemMW, itemW, setW_at, if_neg, if_pos, and_self, true_and, and_true, false_and, and_false, if_true, if_false]; exact h2, by simp (disch := omega) only [itemMW, itemW, setW_at, if_neg, if_pos, and_self, true_and, and_true, false_and, and_false, if_true, if_false]; exact h3, fun k hk => ?_⟩
    obtain ⟨a1, a2⟩ := h4 k hk
    by_cases e : k = l.toNatClampNeg
    · subst e
      simp (disch := omega) only [itemMW, itemW, setW_at, if_neg, if_pos, and_self, true_and, and_true, false_and, and_false, if_true, if_false]
      exact ⟨a1, a2⟩
    · simp (disch := omega) only [itemMW, itemW, setW_at, if_neg, if_pos, and_self, true_and, and_true, false_and, and_false, if_true, if_false]
      exact ⟨a1, a2⟩
  · obtain ⟨h1, h2, h3, h4, h5⟩ := hI
    refine ⟨by omega, (by simp (disch := omega) only [itemMW, itemW, setW_at, if_neg, if_pos, and_self, true_and, and_true, false_and, and_false, if_true, if_false]), (by simp (disch := omega) only [itemMW, itemW, setW_at, if_neg, if_pos, and_self, true_and, and_true, false_and, and_false, if_true, if_false]), fun k hk => ?_, fun k hk => ?_⟩
    · rcases Nat.lt_or_ge k ni with q | q
      · obtain ⟨a1, a2, a3, a4, a5, a6, a7, a8⟩ := h4 k q
        simp (disch := omega) only [itemMW, itemW, setW_at, if_neg, if_pos, and_self, true_and, and_true, false_and, and_false, if_true, if_false]
        exact ⟨a1, a2, a3, a4, a5, a6, a7, a8⟩
      · have e : k = ni := by omega
        subst e
        obtain ⟨z1, z2⟩ := h5 k (Nat.le_refl _)
        simp (disch := omega) only [itemMW, itemW, setW_at, if_neg, if_pos, and_self, true_and, and_true, false_and, and_false, if_true, if_false]
        exact ⟨z1.symm, z2.symm, Or.inl z1, Or.inl z2, Or.inr (Or.inl hl)⟩
    · obtain ⟨z1, z2⟩ := h5 k (by omega)
      simp (disch := omega) only [itemMW, itemW, setW_at, if_neg, if_pos, and_self, true_and, and_true, false_and, and_false, if_true, if_false]
      exact ⟨z1, z2⟩
theorem Rel_pay1 {w : W0} {nl nw nv ne ni : Nat} (h : Told w nl nw nv ne ni) {d c l : Int32} (hl : inP l nv) (hn : ¬ 60 ≤ ni) : Rel (itemMW (setW (setW (setW (itemW w ni d c 0 l) 23 l.toNatClampNeg (nI ni)) 0 6 1) 63 l.toNatClampNeg (nI ni)) ni 1 d c l) := by
  obtain ⟨hL, hW, hV, hI, hE, hK⟩ := h
  refine ⟨nl, nw, nv, ne, ni + 1, ⟨hL.go (fun q z => by simp (disch := omega) only [itemMW, itemW, setW_ne]) (by simp (disch := omega) only [itemMW, itemW, setW_at, if_neg, if_pos, and_self, true_and, and_true, false_and, and_false, if_true, if_false]) (by simp (disch := omega) only [itemMW, itemW, setW_at, if_neg, if_pos, and_self, true_and, and_true, false_and, and_false, if_true, if_false]), hW.go (fun q z => by simp (disch := omega) only [itemMW, itemW, setW_ne]) (by simp (disch := omega) only [itemMW, itemW, setW_at, if_neg, if_pos, and_self, true_and, and_true, false_and, and_false, if_true, if_false]) (by simp (disch := omega) only [itemMW, itemW, setW_at, if_neg, if_pos, and_self, true_and, and_true, false_and, and_false, if_true, if_false]), ?_, ?_, hE.go (Nat.le_refl _) (fun q z => by simp (disch := omega) only [itemMW, itemW, setW_ne]) (by simp (disch := omega) only [itemMW, itemW, setW_at, if_neg, if_pos, and_self, true_and, and_true, false_and, and_false, if_true, if_false]) (by simp (disch := omega) only [itemMW, itemW, setW_at, if_neg, if_pos, and_self, true_and, and_true, false_and, and_false, if_true, if_false]), hK.go (fun q z => by simp (disch := omega) only [itemMW, itemW, setW_ne]) (by simp (disch := omega) only [itemMW, itemW, setW_at, if_neg, if_pos, and_self, true_and, and_true, false_and, and_false, if_true, if_false]) (by simp (disch := omega) only [itemMW, itemW, setW_at, if_neg, if_pos, and_self, true_and, and_true, false_and, and_false, if_true, if_false])⟩, fun z => absurd z (by simp (disch := omega) only [itemMW, itemW, setW_at, if_neg, if_pos, and_self, true_and, and_true, false_and, and_false, if_true, if_false]; decide), fun z => absurd (by simp (disch := omega) only [itemMW, itemW, setW_at, if_neg, if_pos, and_self, true_and, and_true, false_and, and_false, if_true, if_false]) z⟩
  · obtain ⟨h1, h2, h3, h4⟩ := hV
    refine ⟨h1, by simp (disch := omega) only [itemMW, itemW, setW_at, if_neg, if_pos, and_self, true_and, and_true, false_and, and_false, if_true, if_false]; exact h2, by simp (disch := omega) only [itemMW, itemW, setW_at, if_neg, if_pos, and_self, true_and, and_true, false_and, and_false, if_true, if_false]; exact h3, fun k hk => ?_⟩
    obtain ⟨a1, a2⟩ := h4 k hk
    by_cases e : k = l.toNatClampNeg
    · subst e
      simp (disch := omega) only [itemMW, itemW, setW_at, if_neg, if_pos, and_self, true_and, and_true, false_and, and_false, if_true, if_false]
      exact a1
    · simp (disch := omega) only [itemMW, itemW, setW_at, if_neg, if_pos, and_self, true_and, and_true, false_and, and_false, if_true, if_false]
      exact ⟨a1, a2⟩
  · obtain ⟨h1, h2, h3, h4, h5⟩ := hI
    refine ⟨by omega, (by simp (disch := omega) only [itemMW, itemW, setW_at, if_neg, if_pos, and_self, true_and, and_true, false_and, and_false, if_true, if_false]), (by simp (disch := omega) only [itemMW, itemW, setW_at, if_neg, if_pos, and_self, true_and, and_true, false_and, and_false, if_true, if_false]), fun k hk => ?_, fun k hk => ?_⟩
    · rcases Nat.lt_or_ge k ni with q | q
      · obtain ⟨a1, a2, a3, a4, a5, a6, a7, a8⟩ := h4 k q
        simp (disch := omega) only [itemMW, itemW, setW_at, if_neg, if_pos, and_self, true_and, and_true, false_and, and_false, if_true, if_false]
        exact ⟨a1, a2, a3, a4, a5, a6, a7, a8⟩
      · have e : k = ni := by omega
        subst e
        obtain ⟨z1, z2⟩ := h5 k (Nat.le_refl _)
        simp (disch := omega) only [itemMW, itemW, setW_at, if_neg, if_pos, and_self, true_and, and_true, false_and, and_false, if_true, if_false]
        exact ⟨z1.symm, z2.symm, Or.inl z1, Or.inl z2, Or.inr (Or.inr hl)⟩
    · obtain ⟨z1, z2⟩ := h5 k (by omega)
      simp (disch := omega) only [itemMW, itemW, setW_at, if_neg, if_pos, and_self, true_and, and_true, false_and, and_false, if_true, if_false]
      exact ⟨z1, z2⟩
theorem Rel_vouch {w : W0} {nl nw nv ne ni : Nat} (h : Told w nl nw nv ne ni) {i z : Int32} (hp : inP i ni) (hz : z = 0 ∨ z = 1) : Rel (setW (setW (setW (setW w 28 i.toNatClampNeg z) 0 6 1) 68 i.toNatClampNeg z) 57 23 0) := by
  obtain ⟨hL, hW, hV, hI, hE, hK⟩ := h
  have hlt : i.toNatClampNeg < ni := nat_lt hp.1 hp.2
  refine ⟨nl, nw, nv, ne, ni, ⟨hL.go (fun q z => by simp (disch := omega) only [setW_ne]) (by simp (disch := omega) only [setW_at, if_neg, if_pos, and_self, true_and, and_true, false_and, and_false, if_true, if_false]) (by simp (disch := omega) only [setW_at, if_neg, if_pos, and_self, true_and, and_true, false_and, and_false, if_true, if_false]), hW.go (fun q z => by simp (disch := omega) only [setW_ne]) (by simp (disch := omega) only [setW_at, if_neg, if_pos, and_self, true_and, and_true, false_and, and_false, if_true, if_false]) (by simp (disch := omega) only [setW_at, if_neg, if_pos, and_self, true_and, and_true, false_and, and_false, if_true, if_false]), hV.go (fun q z => by simp (disch := omega) only [setW_ne]) (by simp (disch := omega) only [setW_at, if_neg, if_pos, and_self, true_and, and_true, false_and, and_false, if_true, if_false]) (by simp (disch := omega) only [setW_at, if_neg, if_pos, and_self, true_and, and_true, false_and, and_false, if_true, if_false]), ?_, hE.go (Nat.le_refl _) (fun q z => by simp (disch := omega) only [setW_ne]) (by simp (disch := omega) only [setW_at, if_neg, if_pos, and_self, true_and, and_true, false_and, and_false, if_true, if_false]) (by simp (disch := omega) only [setW_at, if_neg, if_pos, and_self, true_and, and_true, false_and, and_false, if_true, if_false]), hK.go (fun q z => by simp (disch := omega) only [setW_ne]) (by simp (disch := omega) only [setW_at, if_neg, if_pos, and_self, true_and, and_true, false_and, and_false, if_true, if_false]) (by simp (disch := omega) only [setW_at, if_neg, if_pos, and_self, true_and, and_true, false_and, and_false, if_true, if_false])⟩, fun z => absurd z (by simp (disch := omega) only [setW_at, if_neg, if_pos, and_self, true_and, and_true, false_and, and_false, if_true, if_false]; decide), fun z => absurd (by simp (disch := omega) only [setW_at, if_neg, if_pos, and_self, true_and, and_true, false_and, and_false, if_true, if_false]) z⟩
  obtain ⟨h1, h2, h3, h4, h5⟩ := hI
  refine ⟨h1, by simp (disch := omega) only [setW_at, if_neg, if_pos, and_self, true_and, and_true, false_and, and_false, if_true, if_false]; exact h2, by simp (disch := omega) only [setW_at, if_neg, if_pos, and_self, true_and, and_true, false_and, and_false, if_true, if_false]; exact h3, fun k hk => ?_, fun k hk => ?_⟩
  · obtain ⟨a1, a2, a3, a4, a5, a6, a7, a8⟩ := h4 k hk
    by_cases e : k = i.toNatClampNeg
    · subst e
      simp (disch := omega) only [setW_at, if_neg, if_pos, and_self, true_and, and_true, false_and, and_false, if_true, if_false]
      exact ⟨a1, a2, a3, a5, hz, a7, a8⟩
    · simp (disch := omega) only [setW_at, if_neg, if_pos, and_self, true_and, and_true, false_and, and_false, if_true, if_false]
      exact ⟨a1, a2, a3, a4, a5, a6, a7, a8⟩
  · obtain ⟨z1, z2⟩ := h5 k (by omega)
    simp (disch := omega) only [setW_at, if_neg, if_pos, and_self, true_and, and_true, false_and, and_false, if_true, if_false]
    exact ⟨z1, z2⟩
theorem Rel_challenge {w : W0} {nl nw nv ne ni : Nat} (h : Told w nl nw nv ne ni) {i z : Int32} (hp : inP i ni) (hz : z = 0 ∨ z = 1) : Rel (setW (setW (setW (setW w 29 i.toNatClampNeg z) 0 6 1) 69 i.toNatClampNeg z) 57 23 0) := by
  obtain ⟨hL, hW, hV, hI, hE, hK⟩ := h
  have hlt : i.toNatClampNeg < ni := nat_lt hp.1 hp.2
  refine ⟨nl, nw, nv, ne, ni, ⟨hL.go (fun q z => by simp (disch := omega) only [setW_ne]) (by simp (disch := omega) only [setW_at, if_neg, if_pos, and_self, true_and, and_true, false_and, and_false, if_true, if_false]) (by simp (disch := omega) only [setW_at, if_neg, if_pos, and_self, true_and, and_true, false_and, and_false, if_true, if_false]), hW.go (fun q z => by simp (disch := omega) only [setW_ne]) (by simp (disch := omega) only [setW_at, if_neg, if_pos, and_self, true_and, and_true, false_and, and_false, if_true, if_false]) (by simp (disch := omega) only [setW_at, if_neg, if_pos, and_self, true_and, and_true, false_and, and_false, if_true, if_false]), hV.go (fun q z => by simp (disch := omega) only [setW_ne]) (by simp (disch := omega) only [setW_at, if_neg, if_pos, and_self, true_and, and_true, false_and, and_false, if_true, if_false]) (by simp (disch := omega) only [setW_at, if_neg, if_pos, and_self, true_and, and_true, false_and, and_false, if_true, if_false]), ?_, hE.go (Nat.le_refl _) (fun q z => by simp (disch := omega) only [setW_ne]) (by simp (disch := omega) only [setW_at, if_neg, if_pos, and_self, true_and, and_true, false_and, and_false, if_true, if_false]) (by simp (disch := omega) only [setW_at, if_neg, if_pos, and_self, true_and, and_true, false_and, and_false, if_true, if_false]), hK.go (fun q z => by simp (disch := omega) only [setW_ne]) (by simp (disch := omega) only [setW_at, if_neg, if_pos, and_self, true_and, and_true, false_and, and_false, if_true, if_false]) (by simp (disch := omega) only [setW_at, if_neg, if_pos, and_self, true_and, and_true, false_and, and_false, if_true, if_false])⟩, fun z => absurd z (by simp (disch := omega) only [setW_at, if_neg, if_pos, and_self, true_and, and_true, false_and, and_false, if_true, if_false]; decide), fun z => absurd (by simp (disch := omega) only [setW_at, if_neg, if_pos, and_self, true_and, and_true, false_and, and_false, if_true, if_false]) z⟩
  obtain ⟨h1, h2, h3, h4, h5⟩ := hI
  refine ⟨h1, by simp (disch := omega) only [setW_at, if_neg, if_pos, and_self, true_and, and_true, false_and, and_false, if_true, if_false]; exact h2, by simp (disch := omega) only [setW_at, if_neg, if_pos, and_self, true_and, and_true, false_and, and_false, if_true, if_false]; exact h3, fun k hk => ?_, fun k hk => ?_⟩
  · obtain ⟨a1, a2, a3, a4, a5, a6, a7, a8⟩ := h4 k hk
    by_cases e : k = i.toNatClampNeg
    · subst e
      simp (disch := omega) only [setW_at, if_neg, if_pos, and_self, true_and, and_true, false_and, and_false, if_true, if_false]
      exact ⟨a1, a2, a3, a4, a6, hz, a8⟩
    · simp (disch := omega) only [setW_at, if_neg, if_pos, and_self, true_and, and_true, false_and, and_false, if_true, if_false]
      exact ⟨a1, a2, a3, a4, a5, a6, a7, a8⟩
  · obtain ⟨z1, z2⟩ := h5 k (by omega)
    simp (disch := omega) only [setW_at, if_neg, if_pos, and_self, true_and, and_true, false_and, and_false, if_true, if_false]
    exact ⟨z1, z2⟩
theorem Rel_let0 {w : W0} {nl nw nv ne ni : Nat} (h : Told w nl nw nv ne ni) (hC : w 0 6 = 0 → LC w w nl nw ni) (hM : ¬ w 57 23 = 0 → LM w w nl nw ni) {d y r l : Int32} (hl : l = -1) (hp : letP d y r) (hn : ¬ 10 ≤ ne) : Rel (setW (setW (setW (setW (setW (leaseW w ne d y r l) 70 ne d) 71 ne y) 72 ne r) 73 ne l) 57 16 (nI (ne + 1))) := by
  obtain ⟨hL, hW, hV, hI, hE, hK⟩ := h
  have hs : Sp w (setW (setW (setW (setW (setW (leaseW w ne d y r l) 70 ne d) 71 ne y) 72 ne r) 73 ne l) 57 16 (nI (ne + 1))) nl nw ni := Sp_of hL.1 (fun q z => by simp (disch := omega) only [leaseW, setW_ne]) (fun k hk => alF_eq (fun q z => by simp (disch := omega) only [leaseW, setW_ne]) (by simp (disch := omega) only [leaseW, setW_at, if_neg, if_pos, and_self, true_and, and_true, false_and, and_false, if_true, if_false]))
  have e6 : (setW (setW (setW (setW (setW (leaseW w ne d y r l) 70 ne d) 71 ne y) 72 ne r) 73 ne l) 57 16 (nI (ne + 1))) 0 6 = w 0 6 := by simp (disch := omega) only [leaseW, setW_at, if_neg, if_pos, and_self, true_and, and_true, false_and, and_false, if_true, if_false]
  have e23 : (setW (setW (setW (setW (setW (leaseW w ne d y r l) 70 ne d) 71 ne y) 72 ne r) 73 ne l) 57 16 (nI (ne + 1))) 57 23 = w 57 23 := by simp (disch := omega) only [leaseW, setW_at, if_neg, if_pos, and_self, true_and, and_true, false_and, and_false, if_true, if_false]
  refine ⟨nl, nw, nv, ne + 1, ni, ⟨hL.go (fun q z => by simp (disch := omega) only [leaseW, setW_ne]) (by simp (disch := omega) only [leaseW, setW_at, if_neg, if_pos, and_self, true_and, and_true, false_and, and_false, if_true, if_false]) (by simp (disch := omega) only [leaseW, setW_at, if_neg, if_pos, and_self, true_and, and_true, false_and, and_false, if_true, if_false]), hW.go (fun q z => by simp (disch := omega) only [leaseW, setW_ne]) (by simp (disch := omega) only [leaseW, setW_at, if_neg, if_pos, and_self, true_and, and_true, false_and, and_false, if_true, if_false]) (by simp (disch := omega) only [leaseW, setW_at, if_neg, if_pos, and_self, true_and, and_true, false_and, and_false, if_true, if_false]), ?_, hI.go (Nat.le_refl _) (by omega) (fun q z => by simp (disch := omega) only [leaseW, setW_ne]) (by simp (disch := omega) only [leaseW, setW_at, if_neg, if_pos, and_self, true_and, and_true, false_and, and_false, if_true, if_false]) (by simp (disch := omega) only [leaseW, setW_at, if_neg, if_pos, and_self, true_and, and_true, false_and, and_false, if_true, if_false]), ?_, hK.go (fun q z => by simp (disch := omega) only [leaseW, setW_ne]) (by simp (disch := omega) only [leaseW, setW_at, if_neg, if_pos, and_self, true_and, and_true, false_and, and_false, if_true, if_false]) (by simp (disch := omega) only [leaseW, setW_at, if_neg, if_pos, and_self, true_and, and_true, false_and, and_false, if_true, if_false])⟩, fun z => (hC (e6.symm.trans z)).go hs (fun q z => by simp (disch := omega) only [leaseW, setW_ne]), fun z => (hM (fun y => z (e23.trans y))).go hs (fun q z => by simp (disch := omega) only [leaseW, setW_ne])⟩
  · obtain ⟨h1, h2, h3, h4⟩ := hV
    refine ⟨h1, by simp (disch := omega) only [leaseW, setW_at, if_neg, if_pos, and_self, true_and, and_true, false_and, and_false, if_true, if_false]; exact h2, by simp (disch := omega) only [leaseW, setW_at, if_neg, if_pos, and_self, true_and, and_true, false_and, and_false, if_true, if_false]; exact h3, fun k hk => ?_⟩
    obtain ⟨a1, a2⟩ := h4 k hk
    by_cases e : k = l.toNatClampNeg
    · subst e
      simp (disch := omega) only [leaseW, setW_at, if_neg, if_pos, and_self, true_and, and_true, false_and, and_false, if_true, if_false]
      exact ⟨a1, a2⟩
    · simp (disch := omega) only [leaseW, setW_at, if_neg, if_pos, and_self, true_and, and_true, false_and, and_false, if_true, if_false]
      exact ⟨a1, a2⟩
  · obtain ⟨h1, h2, h3, h4⟩ := hE
    refine ⟨by omega, (by simp (disch := omega) only [leaseW, setW_at, if_neg, if_pos, and_self, true_and, and_true, false_and, and_false, if_true, if_false]), (by simp (disch := omega) only [leaseW, setW_at, if_neg, if_pos, and_self, true_and, and_true, false_and, and_false, if_true, if_false]), fun k hk => ?_⟩
    rcases Nat.lt_or_ge k ne with q | q
    · obtain ⟨a1, a2, a3, a4, a5, a6⟩ := h4 k q
      simp (disch := omega) only [leaseW, setW_at, if_neg, if_pos, and_self, true_and, and_true, false_and, and_false, if_true, if_false]
      exact ⟨a1, a2, a3, a4, a5, a6⟩
    · have e : k = ne := by omega
      subst e
      simp (disch := omega) only [leaseW, setW_at, if_neg, if_pos, and_self, true_and, and_true, false_and, and_false, if_true, if_false]
      exact ⟨Or.inl hl, hp⟩
theorem Rel_let1 {w : W0} {nl nw nv ne ni : Nat} (h : Told w nl nw nv ne ni) (hC : w 0 6 = 0 → LC w w nl nw ni) (hM : ¬ w 57 23 = 0 → LM w w nl nw ni) {d y r l : Int32} (hl : inP l nv) (hp : letP d y r) (hn : ¬ 10 ≤ ne) : Rel (setW (setW (setW (setW (setW (setW (setW (leaseW w ne d y r l) 23 l.toNatClampNeg (nI (100 + ne))) 63 l.toNatClampNeg (nI (100 + ne))) 70 ne d) 71 ne y) 72 ne r) 73 ne l) 57 16 (nI (ne + 1))) := by
  obtain ⟨hL, hW, hV, hI, hE, hK⟩ := h
  have hs : Sp w (setW (setW (setW (setW (setW (setW (setW (leaseW w ne d y r l) 23 l.toNatClampNeg (nI (100 + ne))) 63 l.toNatClampNeg (nI (100 + ne))) 70 ne d) 71 ne y) 72 ne r) 73 ne l) 57 16 (nI (ne + 1))) nl nw ni := Sp_of hL.1 (fun q z => by simp (disch := omega) only [leaseW, setW_ne]) (fun k hk => alF_eq (fun q z => by simp (disch := omega) only [leaseW, setW_ne]) (by simp (disch := omega) only [leaseW, setW_at, if_neg, if_pos, and_self, true_and, and_true, false_and, and_false, if_true, if_false]))
  have e6 : (setW (setW (setW (setW (setW (setW (setW (leaseW w ne d y r l) 23 l.toNatClampNeg (nI (100 + ne))) 63 l.toNatClampNeg (nI (100 + ne))) 70 ne d) 71 ne y) 72 ne r) 73 ne l) 57 16 (nI (ne + 1))) 0 6 = w 0 6 := by simp (disch := omega) only [leaseW, setW_at, if_neg, if_pos, and_self, true_and, and_true, false_and, and_false, if_true, if_false]
  have e23 : (setW (setW (setW (setW (setW (setW (setW (leaseW w ne d y r l) 23 l.toNatClampNeg (nI (100 + ne))) 63 l.toNatClampNeg (nI (100 + ne))) 70 ne d) 71 ne y) 72 ne r) 73 ne l) 57 16 (nI (ne + 1))) 57 23 = w 57 23 := by simp (disch := omega) only [leaseW, setW_at, if_neg, if_pos, and_self, true_and, and_true, false_and, and_false, if_true, if_false]
  refine ⟨nl, nw, nv, ne + 1, ni, ⟨hL.go (fun q z => by simp (disch := omega) only [leaseW, setW_ne]) (by simp (disch := omega) only [leaseW, setW_at, if_neg, if_pos, and_self, true_and, and_true, false_and, and_false, if_true, if_false]) (by simp (disch := omega) only [leaseW, setW_at, if_neg, if_pos, and_self, true_and, and_true, false_and, and_false, if_true, if_false]), hW.go (fun q z => by simp (disch := omega) only [leaseW, setW_ne]) (by simp (disch := omega) only [leaseW, setW_at, if_neg, if_pos, and_self, true_and, and_true, false_and, and_false, if_true, if_false]) (by simp (disch := omega) only [leaseW, setW_at, if_neg, if_pos, and_self, true_and, and_true, false_and, and_false, if_true, if_false]), ?_, hI.go (Nat.le_refl _) (by omega) (fun q z => by simp (disch := omega) only [leaseW, setW_ne]) (by simp (disch := omega) only [leaseW, setW_at, if_neg, if_pos, and_self, true_and, and_true, false_and, and_false, if_true, if_false]) (by simp (disch := omega) only [leaseW, setW_at, if_neg, if_pos, and_self, true_and, and_true, false_and, and_false, if_true, if_false]), ?_, hK.go (fun q z => by simp (disch := omega) only [leaseW, setW_ne]) (by simp (disch := omega) only [leaseW, setW_at, if_neg, if_pos, and_self, true_and, and_true, false_and, and_false, if_true, if_false]) (by simp (disch := omega) only [leaseW, setW_at, if_neg, if_pos, and_self, true_and, and_true, false_and, and_false, if_true, if_false])⟩, fun z => (hC (e6.symm.trans z)).go hs (fun q z => by simp (disch := omega) only [leaseW, setW_ne]), fun z => (hM (fun y => z (e23.trans y))).go hs (fun q z => by simp (disch := omega) only [leaseW, setW_ne])⟩
  · obtain ⟨h1, h2, h3, h4⟩ := hV
    refine ⟨h1, by simp (disch := omega) only [leaseW, setW_at, if_neg, if_pos, and_self, true_and, and_true, false_and, and_false, if_true, if_false]; exact h2, by simp (disch := omega) only [leaseW, setW_at, if_neg, if_pos, and_self, true_and, and_true, false_and, and_false, if_true, if_false]; exact h3, fun k hk => ?_⟩
    obtain ⟨a1, a2⟩ := h4 k hk
    by_cases e : k = l.toNatClampNeg
    · subst e
      simp (disch := omega) only [leaseW, setW_at, if_neg, if_pos, and_self, true_and, and_true, false_and, and_false, if_true, if_false]
      exact a1
    · simp (disch := omega) only [leaseW, setW_at, if_neg, if_pos, and_self, true_and, and_true, false_and, and_false, if_true, if_false]
      exact ⟨a1, a2⟩
  · obtain ⟨h1, h2, h3, h4⟩ := hE
    refine ⟨by omega, (by simp (disch := omega) only [leaseW, setW_at, if_neg, if_pos, and_self, true_and, and_true, false_and, and_false, if_true, if_false]), (by simp (disch := omega) only [leaseW, setW_at, if_neg, if_pos, and_self, true_and, and_true, false_and, and_false, if_true, if_false]), fun k hk => ?_⟩
    rcases Nat.lt_or_ge k ne with q | q
    · obtain ⟨a1, a2, a3, a4, a5, a6⟩ := h4 k q
      simp (disch := omega) only [leaseW, setW_at, if_neg, if_pos, and_self, true_and, and_true, false_and, and_false, if_true, if_false]
      exact ⟨a1, a2, a3, a4, a5, a6⟩
    · have e : k = ne := by omega
      subst e
      simp (disch := omega) only [leaseW, setW_at, if_neg, if_pos, and_self, true_and, and_true, false_and, and_false, if_true, if_false]
      exact ⟨Or.inr hl, hp⟩

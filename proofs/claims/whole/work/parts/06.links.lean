/-! THE LINKS: fields, constants and calls of the class and the model, a rule each (own class, pool number) -/
theorem tbl_ws {ws : List Cond} (h : ∀ w ∈ ws, w ∈ lw_tbl) (hg : ws.all goodWord = true) : ∀ w ∈ ws, w ∈ tblG := fun w hw => List.mem_filter.mpr ⟨h w hw, List.all_eq_true.mp hg w hw⟩
theorem igX0 : ∀ w ∈ wsX00, w ∈ tblG := tbl_ws iwX0 (by decide +kernel)
theorem igX1 : ∀ w ∈ wsX10, w ∈ tblG := tbl_ws iwX1 (by decide +kernel)
theorem igX2 : ∀ w ∈ wsX20, w ∈ tblG := tbl_ws iwX2 (by decide +kernel)
theorem igX3 : ∀ w ∈ wsX30, w ∈ tblG := tbl_ws iwX3 (by decide +kernel)
theorem igX4 : ∀ w ∈ wsX40, w ∈ tblG := tbl_ws iwX4 (by decide +kernel)
theorem igX5 : ∀ w ∈ wsX50, w ∈ tblG := tbl_ws iwX5 (by decide +kernel)
theorem igX6 : ∀ w ∈ wsX60, w ∈ tblG := tbl_ws iwX6 (by decide +kernel)
theorem igX7 : ∀ w ∈ wsX70, w ∈ tblG := tbl_ws iwX7 (by decide +kernel)
section LINKS
variable {E : En} {d : Nat} {own : String} {cc : ByteArray} {nL : Nat} {ret : Option FieldType} {rv : Option Value} {w1 : W0} {pc : Nat} {lv : List (Nat × Value)} {st : List Value} {w : W0}
theorem g_gf {C : String} {T : u_T} {N ci q k idx : Nat} {v : Value} (hd : decode cc pc = .ok (.getfield idx, 3)) (hin : ∀ x ∈ u_ws C T N, x ∈ tblG) (hq : q < nP) (hs : sh q = (0, ci)) (hcl : vwCl[ci]? = some (C, T, N)) (hN : clN ci = N) (hk : k < N) (hl : Cond.fieldLink own idx (T k).1 (T k).2.1 (T k).2.2.1 ∈ tblG) (hv : fV E w q k = v) (h : G E d own cc nL ret rv w1 (pc + 3) lv (v :: st) w) : G E d own cc nL ret rv w1 pc lv (.ref (E.1 q) :: st) w := by
  subst hv
  subst hN
  exact fun p l e s m args below meth c H locs ls CC S P F L => va_get (Ts := tblG) CC.1 CC.2.1 CC.2.2.2.2.2.2 hin CC.2.2.2.2.2.1 S.1 P q (wl_0 hq hs) hcl k hk (CC.2.2.2.2.2.2 _ hl) (fun _ h9 => h9) (by rw [List.getElem?_map, List.getElem?_range hk]; rfl) hd (h p l e s m args below meth c H locs ls CC S P F L)
theorem g_gfN {C host : String} {T : u_T} {N ci q k idx : Nat} {v : Value} (hd : decode cc pc = .ok (.getfield idx, 3)) (hin : ∀ x ∈ u_ws C T N, x ∈ tblG) (hq : q < nP) (hs : sh q = (0, ci)) (hcl : vwCl[ci]? = some (C, T, N)) (hN : clN ci = N) (hk : k < N) (hl : Cond.fieldLinkNest own idx (T k).1 (T k).2.1 (T k).2.2.1 host ∈ tblN) (hv : fV E w q k = v) (h : G E d own cc nL ret rv w1 (pc + 3) lv (v :: st) w) : G E d own cc nL ret rv w1 pc lv (.ref (E.1 q) :: st) w := by
  subst hv
  subst hN
  exact fun p l e s m args below meth c H locs ls CC S P F L => va_getN (Ts := tblG) CC.1 CC.2.1 CC.2.2.2.2.2.2 hin CC.2.2.2.2.2.1 S.1 P q (wl_0 hq hs) hcl k hk (Nw_use hl (S.2.2.2.1 _ hl)) (fun _ h9 => h9) (by rw [List.getElem?_map, List.getElem?_range hk]; rfl) hd (h p l e s m args below meth c H locs ls CC S P F L)
theorem g_pf {C : String} {T : u_T} {N ci q k idx : Nat} {v : Int32} (ty : FieldType) (ty0 : Nat → FieldType) (hd : decode cc pc = .ok (.putfield idx, 3)) (hin : ∀ x ∈ u_ws C T N, x ∈ tblG) (hty : ∀ k, k < N → parseFieldDescriptor (T k).2.2.1 = some (ty0 k)) (hnm : ∀ a, a < N → ∀ b, b < N → a ≠ b → (T a).2.1 ≠ (T b).2.1) (hq : q < nP) (hs : sh q = (0, ci)) (hcl : vwCl[ci]? = some (C, T, N)) (hN : clN ci = N) (hk : k < N) (hl : Cond.fieldLink own idx (T k).1 (T k).2.1 (T k).2.2.1 ∈ tblG) (hr : rfT q k = none) (hfin : (T k).2.2.2 = false) (hdd : parseFieldDescriptor (T k).2.2.1 = some ty) (hn : narrow ty (.int v) = .int v) (hfit : fits ty (.int v) = true) (h : G E d own cc nL ret rv w1 (pc + 3) lv st (setW w q k v)) : G E d own cc nL ret rv w1 pc lv (.int v :: .ref (E.1 q) :: st) w := by
  subst hN
  refine fun p l e s m args below meth c H locs ls CC S P F L => va_put (Ts := tblG) (ty := ty) CC.1 CC.2.1 CC.2.2.2.2.2.2 hin ty0 hty hnm CC.2.2.2.2.2.1 S.1 P (wl_D w S.2.2.2.2) F q (wl_0 hq hs) hcl k hk (CC.2.2.2.2.2.2 _ hl) (fun _ h9 => h9) hfin hdd hn hfit (by simpa using hk) hd (fun H1 locs1 P1 _ F1 => h p l e s m args below meth c H1 locs1 ls CC S ?_ F1 L)
  rw [wl_set hq (by rw [cE_0 hs, ← fs_set hr])] at P1
  exact P1
/-- behind a call -/
theorem g_call {p : Program} {l : Launch} {e : Env} {s : State} {m : MethodId} {args : Array Value} {below : List Frame} {meth : Method} {c : Code} {H : Heap} {locs : List Loc} {R : Room} {Q : State → Prop} {ls : Array Slot} {st0 rest : List Value} {rv2 : Option Value} {w2 : W0} {a : Array Value} (hr : va_Run p l e R s m args below meth c H locs 0 0 0 0 (F0 m pc ls st0) rest (QD E rv2 w2 a) (Aw E)) (hS : va_S (Aw E) s.heap H locs)
    (kk : ∀ (H1 : Heap) (locs1 : List Loc), va_P E.2.2.1 vwCl (wl E w2) H1 → va_S (Aw E) s.heap H1 locs1 → W p l e R s m args below meth c H1 locs1 0 0 Q (F0 m (pc + 3) ls (rv2.toList ++ rest))) : W p l e R s m args below meth c H locs 0 0 Q (F0 m pc ls st0) := by
  intro T hT X
  obtain ⟨v, st₀, t, T', L, h0, X', hL, e1, e2, ⟨⟨hv, hw⟩, hz, hk⟩, st⟩ := hr T hT X
  cases hv
  rw [h0] at hz hk
  obtain ⟨t2, a1, b1⟩ := kk T'.heap (locs ++ L) (by rw [e1]; exact hw.2)
    ⟨Nat.le_trans hS.1 (by rw [e1]; exact hz), fun q h1 h2 => by rw [e1, hk q (Nat.lt_of_lt_of_le h1 hS.1) h2]; exact hS.2.1 q h1 h2, fun q hq => by
      rcases List.mem_append.mp hq with h | h
      · exact hS.2.2 q h
      · exact hL q h⟩ T' rfl X'
  exact ⟨t2, st t2 a1, b1⟩
theorem rm_le {d d' nL' : Nat} (hdd : d' + 1 ≤ d) (hnl : nL' ≤ 21) : (rmD d').frames + 1 ≤ (rmD d).frames ∧ 8 + (nL' + 11) + (rmD d').locals ≤ (rmD d).locals := by
  show d' + 1 ≤ d ∧ 8 + (nL' + 11) + 40 * d' ≤ 40 * d
  omega
theorem g_cv {y : MethodName} {cc' : ByteArray} {nL' n q ci idx d' : Nat} {ret' : Option FieldType} {As rest : List Value} {cq : vw_C} {rv2 : Option Value} {w2 : W0} (hd : decode cc pc = .ok (.invokevirtual idx, 3)) (hl : Cond.methodLink own idx y ∈ tblG) (hi : Cond.instanceMethod y ∈ tblG) (hse : Cond.selects y.cls y y ∈ tblG) (hini : Cond.initialized y.cls ∈ tblG) (hc : Cond.code y cc' nL' ret' ∈ tblG) (hy : y.cls ≠ "java/lang/invoke/MethodHandle" ∧ y.cls ≠ "java/lang/invoke/VarHandle" ∧ (parseMethodDescriptor y.desc).map (fun d => d.parameters.length) = some n) (hq : q < nP) (hs : sh q = (0, ci)) (hcl : vwCl[ci]? = some cq) (hcn : cq.1 = y.cls) (hnl : nL' ≤ 21) (hn : As.length = n)
    (hM : Mt E d' y cc' nL' ret' (.ref (E.1 q) :: As) w rv2 w2) (hdd : d' + 1 ≤ d) (hr : (rest.map fun v => v.category).sum ≤ 8) (h : G E d own cc nL ret rv w1 (pc + 3) lv (rv2.toList ++ rest) w2) : G E d own cc nL ret rv w1 pc lv (As.reverse ++ .ref (E.1 q) :: rest) w := by
  intro p l e s m args below meth c H locs ls CC S P F L
  have ts := CC.2.2.2.2.2.2
  have hcw := va_recv S.1 P hcl (wl_0 hq hs)
  rw [hcn] at hcw
  refine g_call (rest := rest) (va_runV (C := y.cls) (n := n) (As := As) (b := E.1 q) (index := idx) (bytes := cc') (maxL := nL') (ret := ret') (Ts := tblG) (own := own) ⟨CC.1, CC.2.1, CC.2.2.2.2.1, CC.2.2.2.2.2.1, ts⟩ (hM l) ⟨callB_of n ts (tblG_self hc (fun _ h => h)) rfl rfl rfl (ts _ hini) (ts _ hl) hy (rm_le hdd hnl), ts _ hi, ts _ hse⟩ ⟨Pc_blind, hcw, fun U hU hW => ⟨rfl, by show Ws E U U.heap; rw [hU]; exact S.go F hW, by show va_P _ _ _ U.heap; rw [hU]; exact P⟩⟩ rfl hn L.1 rfl (lv_room hr) hd ⟨Nat.zero_le _, Nat.zero_le _⟩) F (fun H1 locs1 P1 F1 => h p l e s m args below meth c H1 locs1 ls CC S P1 F1 L)
theorem g_cvN {y : MethodName} {host : String} {cc' : ByteArray} {nL' n q ci idx d' : Nat} {ret' : Option FieldType} {As rest : List Value} {cq : vw_C} {rv2 : Option Value} {w2 : W0} (hd : decode cc pc = .ok (.invokevirtual idx, 3)) (hl : Cond.methodLinkNest own idx y host ∈ tblN) (hi : Cond.instanceMethod y ∈ tblG) (hse : Cond.selects y.cls y y ∈ tblG) (hini : Cond.initialized y.cls ∈ tblG) (hc : Cond.code y cc' nL' ret' ∈ tblG) (hy : y.cls ≠ "java/lang/invoke/MethodHandle" ∧ y.cls ≠ "java/lang/invoke/VarHandle" ∧ (parseMethodDescriptor y.desc).map (fun d => d.parameters.length) = some n) (hq : q < nP) (hs : sh q = (0, ci)) (hcl : vwCl[ci]? = some cq) (hcn : cq.1 = y.cls) (hnl : nL' ≤ 21) (hn : As.length = n)
    (hM : Mt E d' y cc' nL' ret' (.ref (E.1 q) :: As) w rv2 w2) (hdd : d' + 1 ≤ d) (hr : (rest.map fun v => v.category).sum ≤ 8) (h : G E d own cc nL ret rv w1 (pc + 3) lv (rv2.toList ++ rest) w2) : G E d own cc nL ret rv w1 pc lv (As.reverse ++ .ref (E.1 q) :: rest) w := by
  intro p l e s m args below meth c H locs ls CC S P F L
  have ts := CC.2.2.2.2.2.2
  have hcw := va_recv S.1 P hcl (wl_0 hq hs)
  rw [hcn] at hcw
  refine g_call (rest := rest) (va_runVN (C := y.cls) (host := host) (n := n) (As := As) (b := E.1 q) (index := idx) (bytes := cc') (maxL := nL') (ret := ret') (Ts := tblG) (own := own) ⟨CC.1, CC.2.1, CC.2.2.2.2.1, CC.2.2.2.2.2.1, ts⟩ (hM l) ⟨va_cnB n ts (tblG_self hc (fun _ h => h)) rfl rfl rfl (S.2.2.2.1 _ hl) (ts _ hini) hy (rm_le hdd hnl), ts _ hi, ts _ hse⟩ ⟨Pc_blind, hcw, fun U hU hW => ⟨rfl, by show Ws E U U.heap; rw [hU]; exact S.go F hW, by show va_P _ _ _ U.heap; rw [hU]; exact P⟩⟩ rfl hn L.1 rfl (lv_room hr) hd ⟨Nat.zero_le _, Nat.zero_le _⟩) F (fun H1 locs1 P1 F1 => h p l e s m args below meth c H1 locs1 ls CC S P1 F1 L)
theorem g_cs {y : MethodName} {cc' : ByteArray} {nL' n idx d' : Nat} {ret' : Option FieldType} {As rest : List Value} {rv2 : Option Value} {w2 : W0} (hd : decode cc pc = .ok (.invokestatic idx, 3)) (hl : Cond.methodLink own idx y ∈ tblG) (hst : Cond.static y ∈ tblG) (hini : Cond.initialized y.cls ∈ tblG) (hc : Cond.code y cc' nL' ret' ∈ tblG) (hy : y.cls ≠ "java/lang/invoke/MethodHandle" ∧ y.cls ≠ "java/lang/invoke/VarHandle" ∧ (parseMethodDescriptor y.desc).map (fun d => d.parameters.length) = some n) (hnl : nL' ≤ 21) (hn : As.length = n)
    (hM : Mt E d' y cc' nL' ret' As w rv2 w2) (hdd : d' + 1 ≤ d) (hr : (rest.map fun v => v.category).sum ≤ 8) (h : G E d own cc nL ret rv w1 (pc + 3) lv (rv2.toList ++ rest) w2) : G E d own cc nL ret rv w1 pc lv (As.reverse ++ rest) w := by
  intro p l e s m args below meth c H locs ls CC S P F L
  have ts := CC.2.2.2.2.2.2
  refine g_call (rest := rest) (va_runS (n := n) (As := As) (index := idx) (bytes := cc') (maxL := nL') (ret := ret') (Ts := tblG) (own := own) ⟨CC.1, CC.2.1, CC.2.2.2.2.1, CC.2.2.2.2.2.1, ts⟩ (hM l) ⟨callB_of n ts (tblG_self hc (fun _ h => h)) rfl rfl rfl (ts _ hini) (ts _ hl) hy (rm_le hdd hnl), ts _ hst⟩ ⟨Pc_blind, fun U hU hW => ⟨rfl, by show Ws E U U.heap; rw [hU]; exact S.go F hW, by show va_P _ _ _ U.heap; rw [hU]; exact P⟩⟩ rfl hn L.1 rfl (lv_room hr) hd ⟨Nat.zero_le _, Nat.zero_le _⟩) F (fun H1 locs1 P1 F1 => h p l e s m args below meth c H1 locs1 ls CC S P1 F1 L)
theorem g_csN {y : MethodName} {host : String} {cc' : ByteArray} {nL' n idx d' : Nat} {ret' : Option FieldType} {As rest : List Value} {rv2 : Option Value} {w2 : W0} (hd : decode cc pc = .ok (.invokestatic idx, 3)) (hl : Cond.methodLinkNest own idx y host ∈ tblN) (hst : Cond.static y ∈ tblG) (hini : Cond.initialized y.cls ∈ tblG) (hc : Cond.code y cc' nL' ret' ∈ tblG) (hy : y.cls ≠ "java/lang/invoke/MethodHandle" ∧ y.cls ≠ "java/lang/invoke/VarHandle" ∧ (parseMethodDescriptor y.desc).map (fun d => d.parameters.length) = some n) (hnl : nL' ≤ 21) (hn : As.length = n)
    (hM : Mt E d' y cc' nL' ret' As w rv2 w2) (hdd : d' + 1 ≤ d) (hr : (rest.map fun v => v.category).sum ≤ 8) (h : G E d own cc nL ret rv w1 (pc + 3) lv (rv2.toList ++ rest) w2) : G E d own cc nL ret rv w1 pc lv (As.reverse ++ rest) w := by
  intro p l e s m args below meth c H locs ls CC S P F L
  have ts := CC.2.2.2.2.2.2
  refine g_call (rest := rest) (va_runSN (host := host) (n := n) (As := As) (index := idx) (bytes := cc') (maxL := nL') (ret := ret') (Ts := tblG) (own := own) ⟨CC.1, CC.2.1, CC.2.2.2.2.1, CC.2.2.2.2.2.1, ts⟩ (hM l) ⟨va_cnB n ts (tblG_self hc (fun _ h => h)) rfl rfl rfl (S.2.2.2.1 _ hl) (ts _ hini) hy (rm_le hdd hnl), ts _ hst, trivial⟩ ⟨Pc_blind, fun U hU hW => ⟨rfl, by show Ws E U U.heap; rw [hU]; exact S.go F hW, by show va_P _ _ _ U.heap; rw [hU]; exact P⟩⟩ rfl hn L.1 rfl (lv_room hr) hd ⟨Nat.zero_le _, Nat.zero_le _⟩) F (fun H1 locs1 P1 F1 => h p l e s m args below meth c H1 locs1 ls CC S P1 F1 L)
end LINKS
section LINKED
variable {E : En} {d : Nat} {cc : ByteArray} {nL : Nat} {ret : Option FieldType} {rv : Option Value} {w1 : W0} {pc : Nat} {lv : List (Nat × Value)} {st : List Value} {w : W0}
theorem lk_X0_11 : Cond.fieldLink RX0 11 (TX0 0).1 (TX0 0).2.1 (TX0 0).2.2.1 ∈ tblG := tblG_in 209 (by decide +kernel) (by decide +kernel)
theorem gf_X0_11 (hd : decode cc pc = .ok (.getfield 11, 3)) (h : G E d RX0 cc nL ret rv w1 (pc + 3) lv (.ref (E.1 35) :: st) w) : G E d RX0 cc nL ret rv w1 pc lv (.ref (E.1 6) :: st) w := g_gf (C := RX0) (T := TX0) (N := 3) (ci := 0) (k := 0) hd igX0 (by decide) rfl rfl rfl (by decide) lk_X0_11 rfl h
theorem lk_X0_16 : Cond.fieldLink RX0 16 (TX0 1).1 (TX0 1).2.1 (TX0 1).2.2.1 ∈ tblG := tblG_in 210 (by decide +kernel) (by decide +kernel)
theorem gf_X0_16 (hd : decode cc pc = .ok (.getfield 16, 3)) (h : G E d RX0 cc nL ret rv w1 (pc + 3) lv (.ref (E.1 46) :: st) w) : G E d RX0 cc nL ret rv w1 pc lv (.ref (E.1 6) :: st) w := g_gf (C := RX0) (T := TX0) (N := 3) (ci := 0) (k := 1) hd igX0 (by decide) rfl rfl rfl (by decide) lk_X0_16 rfl h
theorem lk_X0_19 : Cond.methodLink RX0 19 yX0_reckonYear ∈ tblG := tblG_in 351 (by decide +kernel) (by decide +kernel)
theorem lc_X0_reckonYear : Cond.code yX0_reckonYear cX0_reckonYear 16 (some .int) ∈ tblG := tblG_in 354 (by decide +kernel) (by decide +kernel)
theorem li_X0 : Cond.initialized RX0 ∈ tblG := tblG_in 72 (by decide +kernel) (by decide +kernel)
theorem ln_X0_reckonYear : Cond.instanceMethod yX0_reckonYear ∈ tblG := tblG_in 353 (by decide +kernel) (by decide +kernel)
theorem lx_X0_reckonYear : Cond.selects RX0 yX0_reckonYear yX0_reckonYear ∈ tblG := tblG_in 19 (by decide +kernel) (by decide +kernel)
theorem ca_X0_19 {a1 a2 a3 a4 a5 : Value} {d' : Nat} {rest : List Value} {v2 : Value} {w2 : W0} (hd : decode cc pc = .ok (.invokevirtual 19, 3)) (hM : Mt E d' yX0_reckonYear cX0_reckonYear 16 (some .int) [.ref (E.1 6), a1, a2, a3, a4, a5] w (some v2) w2) (hdd : d' + 1 ≤ d) (hr : (rest.map fun v => v.category).sum ≤ 8) (h : G E d RX0 cc nL ret rv w1 (pc + 3) lv (v2 :: rest) w2) : G E d RX0 cc nL ret rv w1 pc lv (a5 :: a4 :: a3 :: a2 :: a1 :: .ref (E.1 6) :: rest) w :=
  g_cv (As := [a1, a2, a3, a4, a5]) (n := 5) (ci := 0) (rest := rest) hd lk_X0_19 ln_X0_reckonYear lx_X0_reckonYear li_X0 lc_X0_reckonYear (by decide +kernel) (by decide) rfl rfl rfl (by decide) rfl hM hdd hr h
theorem lk_X0_23 : Cond.methodLinkNest RX0 23 yX1_receivedBetween "WardCourt" ∈ tblN := tblN_in 355 (by decide +kernel) (by decide +kernel)
theorem lc_X1_receivedBetween : Cond.code yX1_receivedBetween cX1_receivedBetween 3 (some .int) ∈ tblG := tblG_in 358 (by decide +kernel) (by decide +kernel)
theorem li_X1 : Cond.initialized RX1 ∈ tblG := tblG_in 70 (by decide +kernel) (by decide +kernel)
theorem ln_X1_receivedBetween : Cond.instanceMethod yX1_receivedBetween ∈ tblG := tblG_in 357 (by decide +kernel) (by decide +kernel)
theorem lx_X1_receivedBetween : Cond.selects RX1 yX1_receivedBetween yX1_receivedBetween ∈ tblG := tblG_in 20 (by decide +kernel) (by decide +kernel)
theorem ca_X0_23 {a1 a2 : Value} {d' : Nat} {rest : List Value} {v2 : Value} {w2 : W0} (hd : decode cc pc = .ok (.invokevirtual 23, 3)) (hM : Mt E d' yX1_receivedBetween cX1_receivedBetween 3 (some .int) [.ref (E.1 4), a1, a2] w (some v2) w2) (hdd : d' + 1 ≤ d) (hr : (rest.map fun v => v.category).sum ≤ 8) (h : G E d RX0 cc nL ret rv w1 (pc + 3) lv (v2 :: rest) w2) : G E d RX0 cc nL ret rv w1 pc lv (a2 :: a1 :: .ref (E.1 4) :: rest) w :=
  g_cvN (As := [a1, a2]) (n := 2) (ci := 1) (rest := rest) hd lk_X0_23 ln_X1_receivedBetween lx_X1_receivedBetween li_X1 lc_X1_receivedBetween (by decide +kernel) (by decide) rfl rfl rfl (by decide) rfl hM hdd hr h
theorem lk_X0_29 : Cond.methodLinkNest RX0 29 yX1_paidBetween "WardCourt" ∈ tblN := tblN_in 364 (by decide +kernel) (by decide +kernel)
theorem lc_X1_paidBetween : Cond.code yX1_paidBetween cX1_paidBetween 3 (some .int) ∈ tblG := tblG_in 367 (by decide +kernel) (by decide +kernel)
theorem ln_X1_paidBetween : Cond.instanceMethod yX1_paidBetween ∈ tblG := tblG_in 366 (by decide +kernel) (by decide +kernel)
theorem lx_X1_paidBetween : Cond.selects RX1 yX1_paidBetween yX1_paidBetween ∈ tblG := tblG_in 22 (by decide +kernel) (by decide +kernel)
theorem ca_X0_29 {a1 a2 : Value} {d' : Nat} {rest : List Value} {v2 : Value} {w2 : W0} (hd : decode cc pc = .ok (.invokevirtual 29, 3)) (hM : Mt E d' yX1_paidBetween cX1_paidBetween 3 (some .int) [.ref (E.1 4), a1, a2] w (some v2) w2) (hdd : d' + 1 ≤ d) (hr : (rest.map fun v => v.category).sum ≤ 8) (h : G E d RX0 cc nL ret rv w1 (pc + 3) lv (v2 :: rest) w2) : G E d RX0 cc nL ret rv w1 pc lv (a2 :: a1 :: .ref (E.1 4) :: rest) w :=
  g_cvN (As := [a1, a2]) (n := 2) (ci := 1) (rest := rest) hd lk_X0_29 ln_X1_paidBetween lx_X1_paidBetween li_X1 lc_X1_paidBetween (by decide +kernel) (by decide) rfl rfl rfl (by decide) rfl hM hdd hr h
theorem lk_X0_32 : Cond.methodLinkNest RX0 32 yX5_giveShares "WardCourt" ∈ tblN := tblN_in 368 (by decide +kernel) (by decide +kernel)
theorem lc_X5_giveShares : Cond.code yX5_giveShares cX5_giveShares 7 (some .int) ∈ tblG := tblG_in 371 (by decide +kernel) (by decide +kernel)
theorem li_X5 : Cond.initialized RX5 ∈ tblG := tblG_in 68 (by decide +kernel) (by decide +kernel)
theorem ln_X5_giveShares : Cond.instanceMethod yX5_giveShares ∈ tblG := tblG_in 370 (by decide +kernel) (by decide +kernel)
theorem lx_X5_giveShares : Cond.selects RX5 yX5_giveShares yX5_giveShares ∈ tblG := tblG_in 23 (by decide +kernel) (by decide +kernel)
theorem ca_X0_32 {a1 a2 : Value} {d' : Nat} {rest : List Value} {v2 : Value} {w2 : W0} (hd : decode cc pc = .ok (.invokevirtual 32, 3)) (hM : Mt E d' yX5_giveShares cX5_giveShares 7 (some .int) [.ref (E.1 2), a1, a2] w (some v2) w2) (hdd : d' + 1 ≤ d) (hr : (rest.map fun v => v.category).sum ≤ 8) (h : G E d RX0 cc nL ret rv w1 (pc + 3) lv (v2 :: rest) w2) : G E d RX0 cc nL ret rv w1 pc lv (a2 :: a1 :: .ref (E.1 2) :: rest) w :=
  g_cvN (As := [a1, a2]) (n := 2) (ci := 5) (rest := rest) hd lk_X0_32 ln_X5_giveShares lx_X5_giveShares li_X5 lc_X5_giveShares (by decide +kernel) (by decide) rfl rfl rfl (by decide) rfl hM hdd hr h
theorem lk_X0_37 : Cond.methodLink RX0 37 yX0_turnAfter ∈ tblG := tblG_in 376 (by decide +kernel) (by decide +kernel)
theorem lc_X0_turnAfter : Cond.code yX0_turnAfter cX0_turnAfter 6 (some .int) ∈ tblG := tblG_in 378 (by decide +kernel) (by decide +kernel)
theorem ls_X0_turnAfter : Cond.static yX0_turnAfter ∈ tblG := tblG_in 377 (by decide +kernel) (by decide +kernel)
theorem ca_X0_37 {a1 a2 a3 a4 a5 : Value} {d' : Nat} {rest : List Value} {v2 : Value} {w2 : W0} (hd : decode cc pc = .ok (.invokestatic 37, 3)) (hM : Mt E d' yX0_turnAfter cX0_turnAfter 6 (some .int) [a1, a2, a3, a4, a5] w (some v2) w2) (hdd : d' + 1 ≤ d) (hr : (rest.map fun v => v.category).sum ≤ 8) (h : G E d RX0 cc nL ret rv w1 (pc + 3) lv (v2 :: rest) w2) : G E d RX0 cc nL ret rv w1 pc lv (a5 :: a4 :: a3 :: a2 :: a1 :: rest) w :=
  g_cs (As := [a1, a2, a3, a4, a5]) (n := 5) (rest := rest) hd lk_X0_37 ls_X0_turnAfter li_X0 lc_X0_turnAfter (by decide +kernel) (by decide) rfl hM hdd hr h
theorem lk_X0_40 : Cond.methodLink RX0 40 yX0_countedADay ∈ tblG := tblG_in 396 (by decide +kernel) (by decide +kernel)
theorem lc_X0_countedADay : Cond.code yX0_countedADay cX0_countedADay 4 (some .long) ∈ tblG := tblG_in 398 (by decide +kernel) (by decide +kernel)
theorem ls_X0_countedADay : Cond.static yX0_countedADay ∈ tblG := tblG_in 397 (by decide +kernel) (by decide +kernel)
theorem ca_X0_40 {a1 a2 a3 : Value} {d' : Nat} {rest : List Value} {v2 : Value} {w2 : W0} (hd : decode cc pc = .ok (.invokestatic 40, 3)) (hM : Mt E d' yX0_countedADay cX0_countedADay 4 (some .long) [a1, a2, a3] w (some v2) w2) (hdd : d' + 1 ≤ d) (hr : (rest.map fun v => v.category).sum ≤ 8) (h : G E d RX0 cc nL ret rv w1 (pc + 3) lv (v2 :: rest) w2) : G E d RX0 cc nL ret rv w1 pc lv (a3 :: a2 :: a1 :: rest) w :=
  g_cs (As := [a1, a2, a3]) (n := 3) (rest := rest) hd lk_X0_40 ls_X0_countedADay li_X0 lc_X0_countedADay (by decide +kernel) (by decide) rfl hM hdd hr h
theorem lk_X0_44 : Cond.constantLong RX0 44 (36000 : Int64) ∈ tblG := tblG_in 400 (by decide +kernel) (by decide +kernel)
theorem lk_X0_46 : Cond.methodLinkNest RX0 46 yX6_isYear "WardCourt" ∈ tblN := tblN_in 401 (by decide +kernel) (by decide +kernel)
theorem lc_X6_isYear : Cond.code yX6_isYear cX6_isYear 1 (some .boolean) ∈ tblG := tblG_in 403 (by decide +kernel) (by decide +kernel)
theorem li_X6 : Cond.initialized RX6 ∈ tblG := tblG_in 66 (by decide +kernel) (by decide +kernel)
theorem ls_X6_isYear : Cond.static yX6_isYear ∈ tblG := tblG_in 402 (by decide +kernel) (by decide +kernel)
theorem ca_X0_46 {a1 : Value} {d' : Nat} {rest : List Value} {v2 : Value} {w2 : W0} (hd : decode cc pc = .ok (.invokestatic 46, 3)) (hM : Mt E d' yX6_isYear cX6_isYear 1 (some .boolean) [a1] w (some v2) w2) (hdd : d' + 1 ≤ d) (hr : (rest.map fun v => v.category).sum ≤ 8) (h : G E d RX0 cc nL ret rv w1 (pc + 3) lv (v2 :: rest) w2) : G E d RX0 cc nL ret rv w1 pc lv (a1 :: rest) w :=
  g_csN (As := [a1]) (n := 1) (rest := rest) hd lk_X0_46 ls_X6_isYear li_X6 lc_X6_isYear (by decide +kernel) (by decide) rfl hM hdd hr h
theorem lk_X0_50 : Cond.methodLinkNest RX0 50 yX2_turnAfter "WardCourt" ∈ tblN := tblN_in 379 (by decide +kernel) (by decide +kernel)
theorem lc_X2_turnAfter : Cond.code yX2_turnAfter cX2_turnAfter 3 (some .int) ∈ tblG := tblG_in 382 (by decide +kernel) (by decide +kernel)
theorem li_X2 : Cond.initialized RX2 ∈ tblG := tblG_in 67 (by decide +kernel) (by decide +kernel)
theorem ln_X2_turnAfter : Cond.instanceMethod yX2_turnAfter ∈ tblG := tblG_in 381 (by decide +kernel) (by decide +kernel)
theorem lx_X2_turnAfter : Cond.selects RX2 yX2_turnAfter yX2_turnAfter ∈ tblG := tblG_in 25 (by decide +kernel) (by decide +kernel)
theorem ca_X0_50 {a1 a2 : Value} {d' : Nat} {rest : List Value} {v2 : Value} {w2 : W0} (hd : decode cc pc = .ok (.invokevirtual 50, 3)) (hM : Mt E d' yX2_turnAfter cX2_turnAfter 3 (some .int) [.ref (E.1 1), a1, a2] w (some v2) w2) (hdd : d' + 1 ≤ d) (hr : (rest.map fun v => v.category).sum ≤ 8) (h : G E d RX0 cc nL ret rv w1 (pc + 3) lv (v2 :: rest) w2) : G E d RX0 cc nL ret rv w1 pc lv (a2 :: a1 :: .ref (E.1 1) :: rest) w :=
  g_cvN (As := [a1, a2]) (n := 2) (ci := 2) (rest := rest) hd lk_X0_50 ln_X2_turnAfter lx_X2_turnAfter li_X2 lc_X2_turnAfter (by decide +kernel) (by decide) rfl rfl rfl (by decide) rfl hM hdd hr h
theorem lk_X0_54 : Cond.methodLinkNest RX0 54 yX5_turnAfter "WardCourt" ∈ tblN := tblN_in 386 (by decide +kernel) (by decide +kernel)
theorem lc_X5_turnAfter : Cond.code yX5_turnAfter cX5_turnAfter 3 (some .int) ∈ tblG := tblG_in 389 (by decide +kernel) (by decide +kernel)
theorem ln_X5_turnAfter : Cond.instanceMethod yX5_turnAfter ∈ tblG := tblG_in 388 (by decide +kernel) (by decide +kernel)
theorem lx_X5_turnAfter : Cond.selects RX5 yX5_turnAfter yX5_turnAfter ∈ tblG := tblG_in 26 (by decide +kernel) (by decide +kernel)
theorem ca_X0_54 {a1 a2 : Value} {d' : Nat} {rest : List Value} {v2 : Value} {w2 : W0} (hd : decode cc pc = .ok (.invokevirtual 54, 3)) (hM : Mt E d' yX5_turnAfter cX5_turnAfter 3 (some .int) [.ref (E.1 2), a1, a2] w (some v2) w2) (hdd : d' + 1 ≤ d) (hr : (rest.map fun v => v.category).sum ≤ 8) (h : G E d RX0 cc nL ret rv w1 (pc + 3) lv (v2 :: rest) w2) : G E d RX0 cc nL ret rv w1 pc lv (a2 :: a1 :: .ref (E.1 2) :: rest) w :=
  g_cvN (As := [a1, a2]) (n := 2) (ci := 5) (rest := rest) hd lk_X0_54 ln_X5_turnAfter lx_X5_turnAfter li_X5 lc_X5_turnAfter (by decide +kernel) (by decide) rfl rfl rfl (by decide) rfl hM hdd hr h
theorem lk_X0_55 : Cond.methodLinkNest RX0 55 yX1_turnAfter "WardCourt" ∈ tblN := tblN_in 391 (by decide +kernel) (by decide +kernel)
theorem lc_X1_turnAfter : Cond.code yX1_turnAfter cX1_turnAfter 3 (some .int) ∈ tblG := tblG_in 394 (by decide +kernel) (by decide +kernel)
theorem ln_X1_turnAfter : Cond.instanceMethod yX1_turnAfter ∈ tblG := tblG_in 393 (by decide +kernel) (by decide +kernel)
theorem lx_X1_turnAfter : Cond.selects RX1 yX1_turnAfter yX1_turnAfter ∈ tblG := tblG_in 27 (by decide +kernel) (by decide +kernel)
theorem ca_X0_55 {a1 a2 : Value} {d' : Nat} {rest : List Value} {v2 : Value} {w2 : W0} (hd : decode cc pc = .ok (.invokevirtual 55, 3)) (hM : Mt E d' yX1_turnAfter cX1_turnAfter 3 (some .int) [.ref (E.1 4), a1, a2] w (some v2) w2) (hdd : d' + 1 ≤ d) (hr : (rest.map fun v => v.category).sum ≤ 8) (h : G E d RX0 cc nL ret rv w1 (pc + 3) lv (v2 :: rest) w2) : G E d RX0 cc nL ret rv w1 pc lv (a2 :: a1 :: .ref (E.1 4) :: rest) w :=
  g_cvN (As := [a1, a2]) (n := 2) (ci := 1) (rest := rest) hd lk_X0_55 ln_X1_turnAfter lx_X1_turnAfter li_X1 lc_X1_turnAfter (by decide +kernel) (by decide) rfl rfl rfl (by decide) rfl hM hdd hr h
theorem lk_X0_56 : Cond.methodLinkNest RX0 56 yX2_inForce "WardCourt" ∈ tblN := tblN_in 399 (by decide +kernel) (by decide +kernel)
theorem lc_X2_inForce : Cond.code yX2_inForce cX2_inForce 5 (some .int) ∈ tblG := tblG_in 263 (by decide +kernel) (by decide +kernel)
theorem ln_X2_inForce : Cond.instanceMethod yX2_inForce ∈ tblG := tblG_in 262 (by decide +kernel) (by decide +kernel)
theorem lx_X2_inForce : Cond.selects RX2 yX2_inForce yX2_inForce ∈ tblG := tblG_in 1 (by decide +kernel) (by decide +kernel)
theorem ca_X0_56 {a1 a2 : Value} {d' : Nat} {rest : List Value} {v2 : Value} {w2 : W0} (hd : decode cc pc = .ok (.invokevirtual 56, 3)) (hM : Mt E d' yX2_inForce cX2_inForce 5 (some .int) [.ref (E.1 1), a1, a2] w (some v2) w2) (hdd : d' + 1 ≤ d) (hr : (rest.map fun v => v.category).sum ≤ 8) (h : G E d RX0 cc nL ret rv w1 (pc + 3) lv (v2 :: rest) w2) : G E d RX0 cc nL ret rv w1 pc lv (a2 :: a1 :: .ref (E.1 1) :: rest) w :=
  g_cvN (As := [a1, a2]) (n := 2) (ci := 2) (rest := rest) hd lk_X0_56 ln_X2_inForce lx_X2_inForce li_X2 lc_X2_inForce (by decide +kernel) (by decide) rfl rfl rfl (by decide) rfl hM hdd hr h
theorem lk_X0_59 : Cond.methodLink RX0 59 yX0_entry ∈ tblG := tblG_in 536 (by decide +kernel) (by decide +kernel)
theorem lc_X0_entry : Cond.code yX0_entry cX0_entry 3 (some .int) ∈ tblG := tblG_in 539 (by decide +kernel) (by decide +kernel)
theorem ln_X0_entry : Cond.instanceMethod yX0_entry ∈ tblG := tblG_in 538 (by decide +kernel) (by decide +kernel)
theorem lx_X0_entry : Cond.selects RX0 yX0_entry yX0_entry ∈ tblG := tblG_in 45 (by decide +kernel) (by decide +kernel)
theorem ca_X0_59 {a1 a2 : Value} {d' : Nat} {rest : List Value} {v2 : Value} {w2 : W0} (hd : decode cc pc = .ok (.invokevirtual 59, 3)) (hM : Mt E d' yX0_entry cX0_entry 3 (some .int) [.ref (E.1 6), a1, a2] w (some v2) w2) (hdd : d' + 1 ≤ d) (hr : (rest.map fun v => v.category).sum ≤ 8) (h : G E d RX0 cc nL ret rv w1 (pc + 3) lv (v2 :: rest) w2) : G E d RX0 cc nL ret rv w1 pc lv (a2 :: a1 :: .ref (E.1 6) :: rest) w :=
  g_cv (As := [a1, a2]) (n := 2) (ci := 0) (rest := rest) hd lk_X0_59 ln_X0_entry lx_X0_entry li_X0 lc_X0_entry (by decide +kernel) (by decide) rfl rfl rfl (by decide) rfl hM hdd hr h
theorem lk_X0_62 : Cond.methodLinkNest RX0 62 yX5_givenBetween "WardCourt" ∈ tblN := tblN_in 541 (by decide +kernel) (by decide +kernel)
theorem lc_X5_givenBetween : Cond.code yX5_givenBetween cX5_givenBetween 5 (some .int) ∈ tblG := tblG_in 544 (by decide +kernel) (by decide +kernel)
theorem ln_X5_givenBetween : Cond.instanceMethod yX5_givenBetween ∈ tblG := tblG_in 543 (by decide +kernel) (by decide +kernel)
theorem lx_X5_givenBetween : Cond.selects RX5 yX5_givenBetween yX5_givenBetween ∈ tblG := tblG_in 46 (by decide +kernel) (by decide +kernel)
theorem ca_X0_62 {a1 a2 : Value} {d' : Nat} {rest : List Value} {v2 : Value} {w2 : W0} (hd : decode cc pc = .ok (.invokevirtual 62, 3)) (hM : Mt E d' yX5_givenBetween cX5_givenBetween 5 (some .int) [.ref (E.1 2), a1, a2] w (some v2) w2) (hdd : d' + 1 ≤ d) (hr : (rest.map fun v => v.category).sum ≤ 8) (h : G E d RX0 cc nL ret rv w1 (pc + 3) lv (v2 :: rest) w2) : G E d RX0 cc nL ret rv w1 pc lv (a2 :: a1 :: .ref (E.1 2) :: rest) w :=
  g_cvN (As := [a1, a2]) (n := 2) (ci := 5) (rest := rest) hd lk_X0_62 ln_X5_givenBetween lx_X5_givenBetween li_X5 lc_X5_givenBetween (by decide +kernel) (by decide) rfl rfl rfl (by decide) rfl hM hdd hr h
theorem lk_X0_65 : Cond.methodLinkNest RX0 65 yX6_within "WardCourt" ∈ tblN := tblN_in 540 (by decide +kernel) (by decide +kernel)
theorem lc_X6_within : Cond.code yX6_within cX6_within 3 (some .boolean) ∈ tblG := tblG_in 251 (by decide +kernel) (by decide +kernel)
theorem ls_X6_within : Cond.static yX6_within ∈ tblG := tblG_in 250 (by decide +kernel) (by decide +kernel)
theorem ca_X0_65 {a1 a2 a3 : Value} {d' : Nat} {rest : List Value} {v2 : Value} {w2 : W0} (hd : decode cc pc = .ok (.invokestatic 65, 3)) (hM : Mt E d' yX6_within cX6_within 3 (some .boolean) [a1, a2, a3] w (some v2) w2) (hdd : d' + 1 ≤ d) (hr : (rest.map fun v => v.category).sum ≤ 8) (h : G E d RX0 cc nL ret rv w1 (pc + 3) lv (v2 :: rest) w2) : G E d RX0 cc nL ret rv w1 pc lv (a3 :: a2 :: a1 :: rest) w :=
  g_csN (As := [a1, a2, a3]) (n := 3) (rest := rest) hd lk_X0_65 ls_X6_within li_X6 lc_X6_within (by decide +kernel) (by decide) rfl hM hdd hr h
theorem lk_X0_69 : Cond.fieldLink RX0 69 (TX0 2).1 (TX0 2).2.1 (TX0 2).2.2.1 ∈ tblG := tblG_in 211 (by decide +kernel) (by decide +kernel)
theorem gf_X0_69 (hd : decode cc pc = .ok (.getfield 69, 3)) (h : G E d RX0 cc nL ret rv w1 (pc + 3) lv (.int (w 6 2) :: st) w) : G E d RX0 cc nL ret rv w1 pc lv (.ref (E.1 6) :: st) w := g_gf (C := RX0) (T := TX0) (N := 3) (ci := 0) (k := 2) hd igX0 (by decide) rfl rfl rfl (by decide) lk_X0_69 rfl h
theorem pf_X0_69 {v : Int32} (hd : decode cc pc = .ok (.putfield 69, 3)) (h : G E d RX0 cc nL ret rv w1 (pc + 3) lv st (setW w 6 2 v)) : G E d RX0 cc nL ret rv w1 pc lv (.int v :: .ref (E.1 6) :: st) w := g_pf (C := RX0) (T := TX0) (N := 3) (ci := 0) (k := 2) .int tyX0 hd igX0 tyX0_ok nmX0 (by decide) rfl rfl rfl (by decide) lk_X0_69 rfl rfl (by decide +kernel) rfl rfl h
theorem lk_X0_73 : Cond.methodLink RX0 73 yX0_wasKept ∈ tblG := tblG_in 581 (by decide +kernel) (by decide +kernel)
theorem lc_X0_wasKept : Cond.code yX0_wasKept cX0_wasKept 2 (some .boolean) ∈ tblG := tblG_in 567 (by decide +kernel) (by decide +kernel)
theorem ln_X0_wasKept : Cond.instanceMethod yX0_wasKept ∈ tblG := tblG_in 566 (by decide +kernel) (by decide +kernel)
theorem lx_X0_wasKept : Cond.selects RX0 yX0_wasKept yX0_wasKept ∈ tblG := tblG_in 48 (by decide +kernel) (by decide +kernel)
theorem ca_X0_73 {a1 : Value} {d' : Nat} {rest : List Value} {v2 : Value} {w2 : W0} (hd : decode cc pc = .ok (.invokevirtual 73, 3)) (hM : Mt E d' yX0_wasKept cX0_wasKept 2 (some .boolean) [.ref (E.1 6), a1] w (some v2) w2) (hdd : d' + 1 ≤ d) (hr : (rest.map fun v => v.category).sum ≤ 8) (h : G E d RX0 cc nL ret rv w1 (pc + 3) lv (v2 :: rest) w2) : G E d RX0 cc nL ret rv w1 pc lv (a1 :: .ref (E.1 6) :: rest) w :=
  g_cv (As := [a1]) (n := 1) (ci := 0) (rest := rest) hd lk_X0_73 ln_X0_wasKept lx_X0_wasKept li_X0 lc_X0_wasKept (by decide +kernel) (by decide) rfl rfl rfl (by decide) rfl hM hdd hr h
theorem lk_X0_76 : Cond.methodLink RX0 76 yX0_hasChanged ∈ tblG := tblG_in 582 (by decide +kernel) (by decide +kernel)
theorem lc_X0_hasChanged : Cond.code yX0_hasChanged cX0_hasChanged 3 (some .boolean) ∈ tblG := tblG_in 585 (by decide +kernel) (by decide +kernel)
theorem ln_X0_hasChanged : Cond.instanceMethod yX0_hasChanged ∈ tblG := tblG_in 584 (by decide +kernel) (by decide +kernel)
theorem lx_X0_hasChanged : Cond.selects RX0 yX0_hasChanged yX0_hasChanged ∈ tblG := tblG_in 51 (by decide +kernel) (by decide +kernel)
theorem ca_X0_76 {a1 : Value} {d' : Nat} {rest : List Value} {v2 : Value} {w2 : W0} (hd : decode cc pc = .ok (.invokevirtual 76, 3)) (hM : Mt E d' yX0_hasChanged cX0_hasChanged 3 (some .boolean) [.ref (E.1 6), a1] w (some v2) w2) (hdd : d' + 1 ≤ d) (hr : (rest.map fun v => v.category).sum ≤ 8) (h : G E d RX0 cc nL ret rv w1 (pc + 3) lv (v2 :: rest) w2) : G E d RX0 cc nL ret rv w1 pc lv (a1 :: .ref (E.1 6) :: rest) w :=
  g_cv (As := [a1]) (n := 1) (ci := 0) (rest := rest) hd lk_X0_76 ln_X0_hasChanged lx_X0_hasChanged li_X0 lc_X0_hasChanged (by decide +kernel) (by decide) rfl rfl rfl (by decide) rfl hM hdd hr h
theorem lk_X0_79 : Cond.methodLink RX0 79 yX0_keptEntry ∈ tblG := tblG_in 586 (by decide +kernel) (by decide +kernel)
theorem lc_X0_keptEntry : Cond.code yX0_keptEntry cX0_keptEntry 3 (some .int) ∈ tblG := tblG_in 572 (by decide +kernel) (by decide +kernel)
theorem ln_X0_keptEntry : Cond.instanceMethod yX0_keptEntry ∈ tblG := tblG_in 571 (by decide +kernel) (by decide +kernel)
theorem lx_X0_keptEntry : Cond.selects RX0 yX0_keptEntry yX0_keptEntry ∈ tblG := tblG_in 49 (by decide +kernel) (by decide +kernel)
theorem ca_X0_79 {a1 a2 : Value} {d' : Nat} {rest : List Value} {v2 : Value} {w2 : W0} (hd : decode cc pc = .ok (.invokevirtual 79, 3)) (hM : Mt E d' yX0_keptEntry cX0_keptEntry 3 (some .int) [.ref (E.1 6), a1, a2] w (some v2) w2) (hdd : d' + 1 ≤ d) (hr : (rest.map fun v => v.category).sum ≤ 8) (h : G E d RX0 cc nL ret rv w1 (pc + 3) lv (v2 :: rest) w2) : G E d RX0 cc nL ret rv w1 pc lv (a2 :: a1 :: .ref (E.1 6) :: rest) w :=
  g_cv (As := [a1, a2]) (n := 2) (ci := 0) (rest := rest) hd lk_X0_79 ln_X0_keptEntry lx_X0_keptEntry li_X0 lc_X0_keptEntry (by decide +kernel) (by decide) rfl rfl rfl (by decide) rfl hM hdd hr h
theorem lk_X1_9 : Cond.fieldLink RX1 9 (TX1 0).1 (TX1 0).2.1 (TX1 0).2.2.1 ∈ tblG := tblG_in 152 (by decide +kernel) (by decide +kernel)
theorem gf_X1_9 (hd : decode cc pc = .ok (.getfield 9, 3)) (h : G E d RX1 cc nL ret rv w1 (pc + 3) lv (.ref (E.1 24) :: st) w) : G E d RX1 cc nL ret rv w1 pc lv (.ref (E.1 4) :: st) w := g_gf (C := RX1) (T := TX1) (N := 8) (ci := 1) (k := 0) hd igX1 (by decide) rfl rfl rfl (by decide) lk_X1_9 rfl h
theorem lk_X1_15 : Cond.fieldLink RX1 15 (TX1 1).1 (TX1 1).2.1 (TX1 1).2.2.1 ∈ tblG := tblG_in 153 (by decide +kernel) (by decide +kernel)
theorem gf_X1_15 (hd : decode cc pc = .ok (.getfield 15, 3)) (h : G E d RX1 cc nL ret rv w1 (pc + 3) lv (.ref (E.1 25) :: st) w) : G E d RX1 cc nL ret rv w1 pc lv (.ref (E.1 4) :: st) w := g_gf (C := RX1) (T := TX1) (N := 8) (ci := 1) (k := 1) hd igX1 (by decide) rfl rfl rfl (by decide) lk_X1_15 rfl h
theorem lk_X1_18 : Cond.fieldLink RX1 18 (TX1 2).1 (TX1 2).2.1 (TX1 2).2.2.1 ∈ tblG := tblG_in 154 (by decide +kernel) (by decide +kernel)
theorem gf_X1_18 (hd : decode cc pc = .ok (.getfield 18, 3)) (h : G E d RX1 cc nL ret rv w1 (pc + 3) lv (.ref (E.1 26) :: st) w) : G E d RX1 cc nL ret rv w1 pc lv (.ref (E.1 4) :: st) w := g_gf (C := RX1) (T := TX1) (N := 8) (ci := 1) (k := 2) hd igX1 (by decide) rfl rfl rfl (by decide) lk_X1_18 rfl h
theorem lk_X1_22 : Cond.fieldLink RX1 22 (TX1 3).1 (TX1 3).2.1 (TX1 3).2.2.1 ∈ tblG := tblG_in 155 (by decide +kernel) (by decide +kernel)
theorem gf_X1_22 (hd : decode cc pc = .ok (.getfield 22, 3)) (h : G E d RX1 cc nL ret rv w1 (pc + 3) lv (.ref (E.1 27) :: st) w) : G E d RX1 cc nL ret rv w1 pc lv (.ref (E.1 4) :: st) w := g_gf (C := RX1) (T := TX1) (N := 8) (ci := 1) (k := 3) hd igX1 (by decide) rfl rfl rfl (by decide) lk_X1_22 rfl h
theorem lk_X1_25 : Cond.fieldLink RX1 25 (TX1 4).1 (TX1 4).2.1 (TX1 4).2.2.1 ∈ tblG := tblG_in 156 (by decide +kernel) (by decide +kernel)
theorem gf_X1_25 (hd : decode cc pc = .ok (.getfield 25, 3)) (h : G E d RX1 cc nL ret rv w1 (pc + 3) lv (.ref (E.1 28) :: st) w) : G E d RX1 cc nL ret rv w1 pc lv (.ref (E.1 4) :: st) w := g_gf (C := RX1) (T := TX1) (N := 8) (ci := 1) (k := 4) hd igX1 (by decide) rfl rfl rfl (by decide) lk_X1_25 rfl h
theorem lk_X1_28 : Cond.fieldLink RX1 28 (TX1 5).1 (TX1 5).2.1 (TX1 5).2.2.1 ∈ tblG := tblG_in 157 (by decide +kernel) (by decide +kernel)
theorem gf_X1_28 (hd : decode cc pc = .ok (.getfield 28, 3)) (h : G E d RX1 cc nL ret rv w1 (pc + 3) lv (.ref (E.1 29) :: st) w) : G E d RX1 cc nL ret rv w1 pc lv (.ref (E.1 4) :: st) w := g_gf (C := RX1) (T := TX1) (N := 8) (ci := 1) (k := 5) hd igX1 (by decide) rfl rfl rfl (by decide) lk_X1_28 rfl h
theorem lk_X1_31 : Cond.fieldLink RX1 31 (TX1 6).1 (TX1 6).2.1 (TX1 6).2.2.1 ∈ tblG := tblG_in 158 (by decide +kernel) (by decide +kernel)
theorem gf_X1_31 (hd : decode cc pc = .ok (.getfield 31, 3)) (h : G E d RX1 cc nL ret rv w1 (pc + 3) lv (.ref (E.1 30) :: st) w) : G E d RX1 cc nL ret rv w1 pc lv (.ref (E.1 4) :: st) w := g_gf (C := RX1) (T := TX1) (N := 8) (ci := 1) (k := 6) hd igX1 (by decide) rfl rfl rfl (by decide) lk_X1_31 rfl h
theorem lk_X1_34 : Cond.fieldLink RX1 34 (TX1 7).1 (TX1 7).2.1 (TX1 7).2.2.1 ∈ tblG := tblG_in 159 (by decide +kernel) (by decide +kernel)
theorem gf_X1_34 (hd : decode cc pc = .ok (.getfield 34, 3)) (h : G E d RX1 cc nL ret rv w1 (pc + 3) lv (.int (w 4 7) :: st) w) : G E d RX1 cc nL ret rv w1 pc lv (.ref (E.1 4) :: st) w := g_gf (C := RX1) (T := TX1) (N := 8) (ci := 1) (k := 7) hd igX1 (by decide) rfl rfl rfl (by decide) lk_X1_34 rfl h
theorem pf_X1_34 {v : Int32} (hd : decode cc pc = .ok (.putfield 34, 3)) (h : G E d RX1 cc nL ret rv w1 (pc + 3) lv st (setW w 4 7 v)) : G E d RX1 cc nL ret rv w1 pc lv (.int v :: .ref (E.1 4) :: st) w := g_pf (C := RX1) (T := TX1) (N := 8) (ci := 1) (k := 7) .int tyX1 hd igX1 tyX1_ok nmX1 (by decide) rfl rfl rfl (by decide) lk_X1_34 rfl rfl (by decide +kernel) rfl rfl h
theorem lk_X1_38 : Cond.methodLink RX1 38 yX1_has ∈ tblG := tblG_in 330 (by decide +kernel) (by decide +kernel)
theorem lc_X1_has : Cond.code yX1_has cX1_has 2 (some .boolean) ∈ tblG := tblG_in 333 (by decide +kernel) (by decide +kernel)
theorem ln_X1_has : Cond.instanceMethod yX1_has ∈ tblG := tblG_in 332 (by decide +kernel) (by decide +kernel)
theorem lx_X1_has : Cond.selects RX1 yX1_has yX1_has ∈ tblG := tblG_in 14 (by decide +kernel) (by decide +kernel)
theorem ca_X1_38 {a1 : Value} {d' : Nat} {rest : List Value} {v2 : Value} {w2 : W0} (hd : decode cc pc = .ok (.invokevirtual 38, 3)) (hM : Mt E d' yX1_has cX1_has 2 (some .boolean) [.ref (E.1 4), a1] w (some v2) w2) (hdd : d' + 1 ≤ d) (hr : (rest.map fun v => v.category).sum ≤ 8) (h : G E d RX1 cc nL ret rv w1 (pc + 3) lv (v2 :: rest) w2) : G E d RX1 cc nL ret rv w1 pc lv (a1 :: .ref (E.1 4) :: rest) w :=
  g_cv (As := [a1]) (n := 1) (ci := 1) (rest := rest) hd lk_X1_38 ln_X1_has lx_X1_has li_X1 lc_X1_has (by decide +kernel) (by decide) rfl rfl rfl (by decide) rfl hM hdd hr h
theorem lk_X1_42 : Cond.methodLinkNest RX1 42 yX2_inForce "WardCourt" ∈ tblN := tblN_in 334 (by decide +kernel) (by decide +kernel)
theorem ca_X1_42 {a1 a2 : Value} {d' : Nat} {rest : List Value} {v2 : Value} {w2 : W0} (hd : decode cc pc = .ok (.invokevirtual 42, 3)) (hM : Mt E d' yX2_inForce cX2_inForce 5 (some .int) [.ref (E.1 1), a1, a2] w (some v2) w2) (hdd : d' + 1 ≤ d) (hr : (rest.map fun v => v.category).sum ≤ 8) (h : G E d RX1 cc nL ret rv w1 (pc + 3) lv (v2 :: rest) w2) : G E d RX1 cc nL ret rv w1 pc lv (a2 :: a1 :: .ref (E.1 1) :: rest) w :=
  g_cvN (As := [a1, a2]) (n := 2) (ci := 2) (rest := rest) hd lk_X1_42 ln_X2_inForce lx_X2_inForce li_X2 lc_X2_inForce (by decide +kernel) (by decide) rfl rfl rfl (by decide) rfl hM hdd hr h
theorem lk_X1_48 : Cond.methodLinkNest RX1 48 yX4_barsOn "WardCourt" ∈ tblN := tblN_in 335 (by decide +kernel) (by decide +kernel)
theorem lc_X4_barsOn : Cond.code yX4_barsOn cX4_barsOn 4 (some .int) ∈ tblG := tblG_in 338 (by decide +kernel) (by decide +kernel)
theorem li_X4 : Cond.initialized RX4 ∈ tblG := tblG_in 69 (by decide +kernel) (by decide +kernel)
theorem ln_X4_barsOn : Cond.instanceMethod yX4_barsOn ∈ tblG := tblG_in 337 (by decide +kernel) (by decide +kernel)
theorem lx_X4_barsOn : Cond.selects RX4 yX4_barsOn yX4_barsOn ∈ tblG := tblG_in 15 (by decide +kernel) (by decide +kernel)
theorem ca_X1_48 {a1 a2 a3 : Value} {d' : Nat} {rest : List Value} {v2 : Value} {w2 : W0} (hd : decode cc pc = .ok (.invokevirtual 48, 3)) (hM : Mt E d' yX4_barsOn cX4_barsOn 4 (some .int) [.ref (E.1 3), a1, a2, a3] w (some v2) w2) (hdd : d' + 1 ≤ d) (hr : (rest.map fun v => v.category).sum ≤ 8) (h : G E d RX1 cc nL ret rv w1 (pc + 3) lv (v2 :: rest) w2) : G E d RX1 cc nL ret rv w1 pc lv (a3 :: a2 :: a1 :: .ref (E.1 3) :: rest) w :=
  g_cvN (As := [a1, a2, a3]) (n := 3) (ci := 4) (rest := rest) hd lk_X1_48 ln_X4_barsOn lx_X4_barsOn li_X4 lc_X4_barsOn (by decide +kernel) (by decide) rfl rfl rfl (by decide) rfl hM hdd hr h
theorem lk_X1_54 : Cond.methodLink RX1 54 yX1_barsOf ∈ tblG := tblG_in 326 (by decide +kernel) (by decide +kernel)
theorem lc_X1_barsOf : Cond.code yX1_barsOf cX1_barsOf 6 (some .int) ∈ tblG := tblG_in 329 (by decide +kernel) (by decide +kernel)
theorem ln_X1_barsOf : Cond.instanceMethod yX1_barsOf ∈ tblG := tblG_in 328 (by decide +kernel) (by decide +kernel)
theorem lx_X1_barsOf : Cond.selects RX1 yX1_barsOf yX1_barsOf ∈ tblG := tblG_in 13 (by decide +kernel) (by decide +kernel)
theorem ca_X1_54 {a1 a2 a3 : Value} {d' : Nat} {rest : List Value} {v2 : Value} {w2 : W0} (hd : decode cc pc = .ok (.invokevirtual 54, 3)) (hM : Mt E d' yX1_barsOf cX1_barsOf 6 (some .int) [.ref (E.1 4), a1, a2, a3] w (some v2) w2) (hdd : d' + 1 ≤ d) (hr : (rest.map fun v => v.category).sum ≤ 8) (h : G E d RX1 cc nL ret rv w1 (pc + 3) lv (v2 :: rest) w2) : G E d RX1 cc nL ret rv w1 pc lv (a3 :: a2 :: a1 :: .ref (E.1 4) :: rest) w :=
  g_cv (As := [a1, a2, a3]) (n := 3) (ci := 1) (rest := rest) hd lk_X1_54 ln_X1_barsOf lx_X1_barsOf li_X1 lc_X1_barsOf (by decide +kernel) (by decide) rfl rfl rfl (by decide) rfl hM hdd hr h
theorem lk_X1_58 : Cond.methodLink RX1 58 yX1_sumBetween ∈ tblG := tblG_in 359 (by decide +kernel) (by decide +kernel)
theorem lc_X1_sumBetween : Cond.code yX1_sumBetween cX1_sumBetween 6 (some .int) ∈ tblG := tblG_in 362 (by decide +kernel) (by decide +kernel)
theorem ln_X1_sumBetween : Cond.instanceMethod yX1_sumBetween ∈ tblG := tblG_in 361 (by decide +kernel) (by decide +kernel)
theorem lx_X1_sumBetween : Cond.selects RX1 yX1_sumBetween yX1_sumBetween ∈ tblG := tblG_in 21 (by decide +kernel) (by decide +kernel)
theorem ca_X1_58 {a1 a2 a3 : Value} {d' : Nat} {rest : List Value} {v2 : Value} {w2 : W0} (hd : decode cc pc = .ok (.invokevirtual 58, 3)) (hM : Mt E d' yX1_sumBetween cX1_sumBetween 6 (some .int) [.ref (E.1 4), a1, a2, a3] w (some v2) w2) (hdd : d' + 1 ≤ d) (hr : (rest.map fun v => v.category).sum ≤ 8) (h : G E d RX1 cc nL ret rv w1 (pc + 3) lv (v2 :: rest) w2) : G E d RX1 cc nL ret rv w1 pc lv (a3 :: a2 :: a1 :: .ref (E.1 4) :: rest) w :=
  g_cv (As := [a1, a2, a3]) (n := 3) (ci := 1) (rest := rest) hd lk_X1_58 ln_X1_sumBetween lx_X1_sumBetween li_X1 lc_X1_sumBetween (by decide +kernel) (by decide) rfl rfl rfl (by decide) rfl hM hdd hr h
theorem lk_X1_62 : Cond.methodLinkNest RX1 62 yX6_within "WardCourt" ∈ tblN := tblN_in 363 (by decide +kernel) (by decide +kernel)
theorem ca_X1_62 {a1 a2 a3 : Value} {d' : Nat} {rest : List Value} {v2 : Value} {w2 : W0} (hd : decode cc pc = .ok (.invokestatic 62, 3)) (hM : Mt E d' yX6_within cX6_within 3 (some .boolean) [a1, a2, a3] w (some v2) w2) (hdd : d' + 1 ≤ d) (hr : (rest.map fun v => v.category).sum ≤ 8) (h : G E d RX1 cc nL ret rv w1 (pc + 3) lv (v2 :: rest) w2) : G E d RX1 cc nL ret rv w1 pc lv (a3 :: a2 :: a1 :: rest) w :=
  g_csN (As := [a1, a2, a3]) (n := 3) (rest := rest) hd lk_X1_62 ls_X6_within li_X6 lc_X6_within (by decide +kernel) (by decide) rfl hM hdd hr h
theorem lk_X1_66 : Cond.methodLinkNest RX1 66 yX6_nextOf "WardCourt" ∈ tblN := tblN_in 395 (by decide +kernel) (by decide +kernel)
theorem lc_X6_nextOf : Cond.code yX6_nextOf cX6_nextOf 6 (some .int) ∈ tblG := tblG_in 385 (by decide +kernel) (by decide +kernel)
theorem ls_X6_nextOf : Cond.static yX6_nextOf ∈ tblG := tblG_in 384 (by decide +kernel) (by decide +kernel)
theorem ca_X1_66 {a1 a2 a3 a4 : Value} {d' : Nat} {rest : List Value} {v2 : Value} {w2 : W0} (hd : decode cc pc = .ok (.invokestatic 66, 3)) (hM : Mt E d' yX6_nextOf cX6_nextOf 6 (some .int) [a1, a2, a3, a4] w (some v2) w2) (hdd : d' + 1 ≤ d) (hr : (rest.map fun v => v.category).sum ≤ 8) (h : G E d RX1 cc nL ret rv w1 (pc + 3) lv (v2 :: rest) w2) : G E d RX1 cc nL ret rv w1 pc lv (a4 :: a3 :: a2 :: a1 :: rest) w :=
  g_csN (As := [a1, a2, a3, a4]) (n := 4) (rest := rest) hd lk_X1_66 ls_X6_nextOf li_X6 lc_X6_nextOf (by decide +kernel) (by decide) rfl hM hdd hr h
theorem lk_X2_9 : Cond.fieldLink RX2 9 (TX2 0).1 (TX2 0).2.1 (TX2 0).2.2.1 ∈ tblG := tblG_in 91 (by decide +kernel) (by decide +kernel)
theorem gf_X2_9 (hd : decode cc pc = .ok (.getfield 9, 3)) (h : G E d RX2 cc nL ret rv w1 (pc + 3) lv (.ref (E.1 7) :: st) w) : G E d RX2 cc nL ret rv w1 pc lv (.ref (E.1 1) :: st) w := g_gf (C := RX2) (T := TX2) (N := 3) (ci := 2) (k := 0) hd igX2 (by decide) rfl rfl rfl (by decide) lk_X2_9 rfl h
theorem lk_X2_17 : Cond.fieldLink RX2 17 (TX2 1).1 (TX2 1).2.1 (TX2 1).2.2.1 ∈ tblG := tblG_in 92 (by decide +kernel) (by decide +kernel)
theorem gf_X2_17 (hd : decode cc pc = .ok (.getfield 17, 3)) (h : G E d RX2 cc nL ret rv w1 (pc + 3) lv (.ref (E.1 8) :: st) w) : G E d RX2 cc nL ret rv w1 pc lv (.ref (E.1 1) :: st) w := g_gf (C := RX2) (T := TX2) (N := 3) (ci := 2) (k := 1) hd igX2 (by decide) rfl rfl rfl (by decide) lk_X2_17 rfl h
theorem lk_X2_20 : Cond.fieldLink RX2 20 (TX2 2).1 (TX2 2).2.1 (TX2 2).2.2.1 ∈ tblG := tblG_in 93 (by decide +kernel) (by decide +kernel)
theorem gf_X2_20 (hd : decode cc pc = .ok (.getfield 20, 3)) (h : G E d RX2 cc nL ret rv w1 (pc + 3) lv (.int (w 1 2) :: st) w) : G E d RX2 cc nL ret rv w1 pc lv (.ref (E.1 1) :: st) w := g_gf (C := RX2) (T := TX2) (N := 3) (ci := 2) (k := 2) hd igX2 (by decide) rfl rfl rfl (by decide) lk_X2_20 rfl h
theorem pf_X2_20 {v : Int32} (hd : decode cc pc = .ok (.putfield 20, 3)) (h : G E d RX2 cc nL ret rv w1 (pc + 3) lv st (setW w 1 2 v)) : G E d RX2 cc nL ret rv w1 pc lv (.int v :: .ref (E.1 1) :: st) w := g_pf (C := RX2) (T := TX2) (N := 3) (ci := 2) (k := 2) .int tyX2 hd igX2 tyX2_ok nmX2 (by decide) rfl rfl rfl (by decide) lk_X2_20 rfl rfl (by decide +kernel) rfl rfl h
theorem lk_X2_24 : Cond.methodLinkNest RX2 24 yX6_within "WardCourt" ∈ tblN := tblN_in 264 (by decide +kernel) (by decide +kernel)
theorem ca_X2_24 {a1 a2 a3 : Value} {d' : Nat} {rest : List Value} {v2 : Value} {w2 : W0} (hd : decode cc pc = .ok (.invokestatic 24, 3)) (hM : Mt E d' yX6_within cX6_within 3 (some .boolean) [a1, a2, a3] w (some v2) w2) (hdd : d' + 1 ≤ d) (hr : (rest.map fun v => v.category).sum ≤ 8) (h : G E d RX2 cc nL ret rv w1 (pc + 3) lv (v2 :: rest) w2) : G E d RX2 cc nL ret rv w1 pc lv (a3 :: a2 :: a1 :: rest) w :=
  g_csN (As := [a1, a2, a3]) (n := 3) (rest := rest) hd lk_X2_24 ls_X6_within li_X6 lc_X6_within (by decide +kernel) (by decide) rfl hM hdd hr h
theorem lk_X2_28 : Cond.fieldLinkNest RX2 28 "WardCourt" "BEFORE_ANY_LAW" "[I" "WardCourt" ∈ tblN := tblN_in 265 (by decide +kernel) (by decide +kernel)
theorem lk_X2_31 : Cond.methodLink RX2 31 yX2_sooner ∈ tblG := tblG_in 313 (by decide +kernel) (by decide +kernel)
theorem lc_X2_sooner : Cond.code yX2_sooner cX2_sooner 4 (some .int) ∈ tblG := tblG_in 316 (by decide +kernel) (by decide +kernel)
theorem ln_X2_sooner : Cond.instanceMethod yX2_sooner ∈ tblG := tblG_in 315 (by decide +kernel) (by decide +kernel)
theorem lx_X2_sooner : Cond.selects RX2 yX2_sooner yX2_sooner ∈ tblG := tblG_in 10 (by decide +kernel) (by decide +kernel)
theorem ca_X2_31 {a1 a2 a3 : Value} {d' : Nat} {rest : List Value} {v2 : Value} {w2 : W0} (hd : decode cc pc = .ok (.invokevirtual 31, 3)) (hM : Mt E d' yX2_sooner cX2_sooner 4 (some .int) [.ref (E.1 1), a1, a2, a3] w (some v2) w2) (hdd : d' + 1 ≤ d) (hr : (rest.map fun v => v.category).sum ≤ 8) (h : G E d RX2 cc nL ret rv w1 (pc + 3) lv (v2 :: rest) w2) : G E d RX2 cc nL ret rv w1 pc lv (a3 :: a2 :: a1 :: .ref (E.1 1) :: rest) w :=
  g_cv (As := [a1, a2, a3]) (n := 3) (ci := 2) (rest := rest) hd lk_X2_31 ln_X2_sooner lx_X2_sooner li_X2 lc_X2_sooner (by decide +kernel) (by decide) rfl rfl rfl (by decide) rfl hM hdd hr h
theorem lk_X2_35 : Cond.methodLink RX2 35 yX2_inForce ∈ tblG := tblG_in 317 (by decide +kernel) (by decide +kernel)
theorem ca_X2_35 {a1 a2 : Value} {d' : Nat} {rest : List Value} {v2 : Value} {w2 : W0} (hd : decode cc pc = .ok (.invokevirtual 35, 3)) (hM : Mt E d' yX2_inForce cX2_inForce 5 (some .int) [.ref (E.1 1), a1, a2] w (some v2) w2) (hdd : d' + 1 ≤ d) (hr : (rest.map fun v => v.category).sum ≤ 8) (h : G E d RX2 cc nL ret rv w1 (pc + 3) lv (v2 :: rest) w2) : G E d RX2 cc nL ret rv w1 pc lv (a2 :: a1 :: .ref (E.1 1) :: rest) w :=
  g_cv (As := [a1, a2]) (n := 2) (ci := 2) (rest := rest) hd lk_X2_35 ln_X2_inForce lx_X2_inForce li_X2 lc_X2_inForce (by decide +kernel) (by decide) rfl rfl rfl (by decide) rfl hM hdd hr h
theorem lk_X2_39 : Cond.methodLinkNest RX2 39 yX6_nextOf "WardCourt" ∈ tblN := tblN_in 383 (by decide +kernel) (by decide +kernel)
theorem ca_X2_39 {a1 a2 a3 a4 : Value} {d' : Nat} {rest : List Value} {v2 : Value} {w2 : W0} (hd : decode cc pc = .ok (.invokestatic 39, 3)) (hM : Mt E d' yX6_nextOf cX6_nextOf 6 (some .int) [a1, a2, a3, a4] w (some v2) w2) (hdd : d' + 1 ≤ d) (hr : (rest.map fun v => v.category).sum ≤ 8) (h : G E d RX2 cc nL ret rv w1 (pc + 3) lv (v2 :: rest) w2) : G E d RX2 cc nL ret rv w1 pc lv (a4 :: a3 :: a2 :: a1 :: rest) w :=
  g_csN (As := [a1, a2, a3, a4]) (n := 4) (rest := rest) hd lk_X2_39 ls_X6_nextOf li_X6 lc_X6_nextOf (by decide +kernel) (by decide) rfl hM hdd hr h
theorem lk_X3_9 : Cond.fieldLink RX3 9 (TX3 0).1 (TX3 0).2.1 (TX3 0).2.2.1 ∈ tblG := tblG_in 185 (by decide +kernel) (by decide +kernel)
theorem gf_X3_9 (hd : decode cc pc = .ok (.getfield 9, 3)) (h : G E d RX3 cc nL ret rv w1 (pc + 3) lv (.ref (E.1 31) :: st) w) : G E d RX3 cc nL ret rv w1 pc lv (.ref (E.1 5) :: st) w := g_gf (C := RX3) (T := TX3) (N := 5) (ci := 3) (k := 0) hd igX3 (by decide) rfl rfl rfl (by decide) lk_X3_9 rfl h
theorem lk_X3_15 : Cond.fieldLink RX3 15 (TX3 1).1 (TX3 1).2.1 (TX3 1).2.2.1 ∈ tblG := tblG_in 186 (by decide +kernel) (by decide +kernel)
theorem gf_X3_15 (hd : decode cc pc = .ok (.getfield 15, 3)) (h : G E d RX3 cc nL ret rv w1 (pc + 3) lv (.ref (E.1 32) :: st) w) : G E d RX3 cc nL ret rv w1 pc lv (.ref (E.1 5) :: st) w := g_gf (C := RX3) (T := TX3) (N := 5) (ci := 3) (k := 1) hd igX3 (by decide) rfl rfl rfl (by decide) lk_X3_15 rfl h
theorem lk_X3_18 : Cond.fieldLink RX3 18 (TX3 2).1 (TX3 2).2.1 (TX3 2).2.2.1 ∈ tblG := tblG_in 187 (by decide +kernel) (by decide +kernel)
theorem gf_X3_18 (hd : decode cc pc = .ok (.getfield 18, 3)) (h : G E d RX3 cc nL ret rv w1 (pc + 3) lv (.ref (E.1 33) :: st) w) : G E d RX3 cc nL ret rv w1 pc lv (.ref (E.1 5) :: st) w := g_gf (C := RX3) (T := TX3) (N := 5) (ci := 3) (k := 2) hd igX3 (by decide) rfl rfl rfl (by decide) lk_X3_18 rfl h
theorem lk_X3_21 : Cond.fieldLink RX3 21 (TX3 3).1 (TX3 3).2.1 (TX3 3).2.2.1 ∈ tblG := tblG_in 188 (by decide +kernel) (by decide +kernel)
theorem gf_X3_21 (hd : decode cc pc = .ok (.getfield 21, 3)) (h : G E d RX3 cc nL ret rv w1 (pc + 3) lv (.ref (E.1 34) :: st) w) : G E d RX3 cc nL ret rv w1 pc lv (.ref (E.1 5) :: st) w := g_gf (C := RX3) (T := TX3) (N := 5) (ci := 3) (k := 3) hd igX3 (by decide) rfl rfl rfl (by decide) lk_X3_21 rfl h
theorem lk_X3_24 : Cond.fieldLink RX3 24 (TX3 4).1 (TX3 4).2.1 (TX3 4).2.2.1 ∈ tblG := tblG_in 189 (by decide +kernel) (by decide +kernel)
theorem gf_X3_24 (hd : decode cc pc = .ok (.getfield 24, 3)) (h : G E d RX3 cc nL ret rv w1 (pc + 3) lv (.int (w 5 4) :: st) w) : G E d RX3 cc nL ret rv w1 pc lv (.ref (E.1 5) :: st) w := g_gf (C := RX3) (T := TX3) (N := 5) (ci := 3) (k := 4) hd igX3 (by decide) rfl rfl rfl (by decide) lk_X3_24 rfl h
theorem pf_X3_24 {v : Int32} (hd : decode cc pc = .ok (.putfield 24, 3)) (h : G E d RX3 cc nL ret rv w1 (pc + 3) lv st (setW w 5 4 v)) : G E d RX3 cc nL ret rv w1 pc lv (.int v :: .ref (E.1 5) :: st) w := g_pf (C := RX3) (T := TX3) (N := 5) (ci := 3) (k := 4) .int tyX3 hd igX3 tyX3_ok nmX3 (by decide) rfl rfl rfl (by decide) lk_X3_24 rfl rfl (by decide +kernel) rfl rfl h
theorem lk_X3_28 : Cond.methodLink RX3 28 yX3_has ∈ tblG := tblG_in 510 (by decide +kernel) (by decide +kernel)
theorem lc_X3_has : Cond.code yX3_has cX3_has 2 (some .boolean) ∈ tblG := tblG_in 450 (by decide +kernel) (by decide +kernel)
theorem li_X3 : Cond.initialized RX3 ∈ tblG := tblG_in 71 (by decide +kernel) (by decide +kernel)
theorem ln_X3_has : Cond.instanceMethod yX3_has ∈ tblG := tblG_in 449 (by decide +kernel) (by decide +kernel)
theorem lx_X3_has : Cond.selects RX3 yX3_has yX3_has ∈ tblG := tblG_in 33 (by decide +kernel) (by decide +kernel)
theorem ca_X3_28 {a1 : Value} {d' : Nat} {rest : List Value} {v2 : Value} {w2 : W0} (hd : decode cc pc = .ok (.invokevirtual 28, 3)) (hM : Mt E d' yX3_has cX3_has 2 (some .boolean) [.ref (E.1 5), a1] w (some v2) w2) (hdd : d' + 1 ≤ d) (hr : (rest.map fun v => v.category).sum ≤ 8) (h : G E d RX3 cc nL ret rv w1 (pc + 3) lv (v2 :: rest) w2) : G E d RX3 cc nL ret rv w1 pc lv (a1 :: .ref (E.1 5) :: rest) w :=
  g_cv (As := [a1]) (n := 1) (ci := 3) (rest := rest) hd lk_X3_28 ln_X3_has lx_X3_has li_X3 lc_X3_has (by decide +kernel) (by decide) rfl rfl rfl (by decide) rfl hM hdd hr h
theorem lk_X3_32 : Cond.methodLinkNest RX3 32 yX2_inForce "WardCourt" ∈ tblN := tblN_in 511 (by decide +kernel) (by decide +kernel)
theorem ca_X3_32 {a1 a2 : Value} {d' : Nat} {rest : List Value} {v2 : Value} {w2 : W0} (hd : decode cc pc = .ok (.invokevirtual 32, 3)) (hM : Mt E d' yX2_inForce cX2_inForce 5 (some .int) [.ref (E.1 1), a1, a2] w (some v2) w2) (hdd : d' + 1 ≤ d) (hr : (rest.map fun v => v.category).sum ≤ 8) (h : G E d RX3 cc nL ret rv w1 (pc + 3) lv (v2 :: rest) w2) : G E d RX3 cc nL ret rv w1 pc lv (a2 :: a1 :: .ref (E.1 1) :: rest) w :=
  g_cvN (As := [a1, a2]) (n := 2) (ci := 2) (rest := rest) hd lk_X3_32 ln_X2_inForce lx_X2_inForce li_X2 lc_X2_inForce (by decide +kernel) (by decide) rfl rfl rfl (by decide) rfl hM hdd hr h
theorem lk_X3_38 : Cond.methodLinkNest RX3 38 yX4_barsOn "WardCourt" ∈ tblN := tblN_in 512 (by decide +kernel) (by decide +kernel)
theorem ca_X3_38 {a1 a2 a3 : Value} {d' : Nat} {rest : List Value} {v2 : Value} {w2 : W0} (hd : decode cc pc = .ok (.invokevirtual 38, 3)) (hM : Mt E d' yX4_barsOn cX4_barsOn 4 (some .int) [.ref (E.1 3), a1, a2, a3] w (some v2) w2) (hdd : d' + 1 ≤ d) (hr : (rest.map fun v => v.category).sum ≤ 8) (h : G E d RX3 cc nL ret rv w1 (pc + 3) lv (v2 :: rest) w2) : G E d RX3 cc nL ret rv w1 pc lv (a3 :: a2 :: a1 :: .ref (E.1 3) :: rest) w :=
  g_cvN (As := [a1, a2, a3]) (n := 3) (ci := 4) (rest := rest) hd lk_X3_38 ln_X4_barsOn lx_X4_barsOn li_X4 lc_X4_barsOn (by decide +kernel) (by decide) rfl rfl rfl (by decide) rfl hM hdd hr h
theorem lk_X4_9 : Cond.fieldLink RX4 9 (TX4 0).1 (TX4 0).2.1 (TX4 0).2.2.1 ∈ tblG := tblG_in 135 (by decide +kernel) (by decide +kernel)
theorem gf_X4_9 (hd : decode cc pc = .ok (.getfield 9, 3)) (h : G E d RX4 cc nL ret rv w1 (pc + 3) lv (.ref (E.1 22) :: st) w) : G E d RX4 cc nL ret rv w1 pc lv (.ref (E.1 3) :: st) w := g_gf (C := RX4) (T := TX4) (N := 3) (ci := 4) (k := 0) hd igX4 (by decide) rfl rfl rfl (by decide) lk_X4_9 rfl h
theorem lk_X4_15 : Cond.fieldLink RX4 15 (TX4 1).1 (TX4 1).2.1 (TX4 1).2.2.1 ∈ tblG := tblG_in 136 (by decide +kernel) (by decide +kernel)
theorem gf_X4_15 (hd : decode cc pc = .ok (.getfield 15, 3)) (h : G E d RX4 cc nL ret rv w1 (pc + 3) lv (.ref (E.1 23) :: st) w) : G E d RX4 cc nL ret rv w1 pc lv (.ref (E.1 3) :: st) w := g_gf (C := RX4) (T := TX4) (N := 3) (ci := 4) (k := 1) hd igX4 (by decide) rfl rfl rfl (by decide) lk_X4_15 rfl h
theorem lk_X4_18 : Cond.fieldLink RX4 18 (TX4 2).1 (TX4 2).2.1 (TX4 2).2.2.1 ∈ tblG := tblG_in 137 (by decide +kernel) (by decide +kernel)
theorem gf_X4_18 (hd : decode cc pc = .ok (.getfield 18, 3)) (h : G E d RX4 cc nL ret rv w1 (pc + 3) lv (.int (w 3 2) :: st) w) : G E d RX4 cc nL ret rv w1 pc lv (.ref (E.1 3) :: st) w := g_gf (C := RX4) (T := TX4) (N := 3) (ci := 4) (k := 2) hd igX4 (by decide) rfl rfl rfl (by decide) lk_X4_18 rfl h
theorem pf_X4_18 {v : Int32} (hd : decode cc pc = .ok (.putfield 18, 3)) (h : G E d RX4 cc nL ret rv w1 (pc + 3) lv st (setW w 3 2 v)) : G E d RX4 cc nL ret rv w1 pc lv (.int v :: .ref (E.1 3) :: st) w := g_pf (C := RX4) (T := TX4) (N := 3) (ci := 4) (k := 2) .int tyX4 hd igX4 tyX4_ok nmX4 (by decide) rfl rfl rfl (by decide) lk_X4_18 rfl rfl (by decide +kernel) rfl rfl h
theorem lk_X4_22 : Cond.methodLink RX4 22 yX4_has ∈ tblG := tblG_in 343 (by decide +kernel) (by decide +kernel)
theorem lc_X4_has : Cond.code yX4_has cX4_has 2 (some .boolean) ∈ tblG := tblG_in 346 (by decide +kernel) (by decide +kernel)
theorem ln_X4_has : Cond.instanceMethod yX4_has ∈ tblG := tblG_in 345 (by decide +kernel) (by decide +kernel)
theorem lx_X4_has : Cond.selects RX4 yX4_has yX4_has ∈ tblG := tblG_in 17 (by decide +kernel) (by decide +kernel)
theorem ca_X4_22 {a1 : Value} {d' : Nat} {rest : List Value} {v2 : Value} {w2 : W0} (hd : decode cc pc = .ok (.invokevirtual 22, 3)) (hM : Mt E d' yX4_has cX4_has 2 (some .boolean) [.ref (E.1 3), a1] w (some v2) w2) (hdd : d' + 1 ≤ d) (hr : (rest.map fun v => v.category).sum ≤ 8) (h : G E d RX4 cc nL ret rv w1 (pc + 3) lv (v2 :: rest) w2) : G E d RX4 cc nL ret rv w1 pc lv (a1 :: .ref (E.1 3) :: rest) w :=
  g_cv (As := [a1]) (n := 1) (ci := 4) (rest := rest) hd lk_X4_22 ln_X4_has lx_X4_has li_X4 lc_X4_has (by decide +kernel) (by decide) rfl rfl rfl (by decide) rfl hM hdd hr h
theorem lk_X4_26 : Cond.methodLink RX4 26 yX4_useOf ∈ tblG := tblG_in 463 (by decide +kernel) (by decide +kernel)
theorem lc_X4_useOf : Cond.code yX4_useOf cX4_useOf 2 (some .int) ∈ tblG := tblG_in 442 (by decide +kernel) (by decide +kernel)
theorem ln_X4_useOf : Cond.instanceMethod yX4_useOf ∈ tblG := tblG_in 441 (by decide +kernel) (by decide +kernel)
theorem lx_X4_useOf : Cond.selects RX4 yX4_useOf yX4_useOf ∈ tblG := tblG_in 32 (by decide +kernel) (by decide +kernel)
theorem ca_X4_26 {a1 : Value} {d' : Nat} {rest : List Value} {v2 : Value} {w2 : W0} (hd : decode cc pc = .ok (.invokevirtual 26, 3)) (hM : Mt E d' yX4_useOf cX4_useOf 2 (some .int) [.ref (E.1 3), a1] w (some v2) w2) (hdd : d' + 1 ≤ d) (hr : (rest.map fun v => v.category).sum ≤ 8) (h : G E d RX4 cc nL ret rv w1 (pc + 3) lv (v2 :: rest) w2) : G E d RX4 cc nL ret rv w1 pc lv (a1 :: .ref (E.1 3) :: rest) w :=
  g_cv (As := [a1]) (n := 1) (ci := 4) (rest := rest) hd lk_X4_26 ln_X4_useOf lx_X4_useOf li_X4 lc_X4_useOf (by decide +kernel) (by decide) rfl rfl rfl (by decide) rfl hM hdd hr h
theorem lk_X4_30 : Cond.methodLink RX4 30 yX4_limitOf ∈ tblG := tblG_in 339 (by decide +kernel) (by decide +kernel)
theorem lc_X4_limitOf : Cond.code yX4_limitOf cX4_limitOf 2 (some .int) ∈ tblG := tblG_in 342 (by decide +kernel) (by decide +kernel)
theorem ln_X4_limitOf : Cond.instanceMethod yX4_limitOf ∈ tblG := tblG_in 341 (by decide +kernel) (by decide +kernel)
theorem lx_X4_limitOf : Cond.selects RX4 yX4_limitOf yX4_limitOf ∈ tblG := tblG_in 16 (by decide +kernel) (by decide +kernel)
theorem ca_X4_30 {a1 : Value} {d' : Nat} {rest : List Value} {v2 : Value} {w2 : W0} (hd : decode cc pc = .ok (.invokevirtual 30, 3)) (hM : Mt E d' yX4_limitOf cX4_limitOf 2 (some .int) [.ref (E.1 3), a1] w (some v2) w2) (hdd : d' + 1 ≤ d) (hr : (rest.map fun v => v.category).sum ≤ 8) (h : G E d RX4 cc nL ret rv w1 (pc + 3) lv (v2 :: rest) w2) : G E d RX4 cc nL ret rv w1 pc lv (a1 :: .ref (E.1 3) :: rest) w :=
  g_cv (As := [a1]) (n := 1) (ci := 4) (rest := rest) hd lk_X4_30 ln_X4_limitOf lx_X4_limitOf li_X4 lc_X4_limitOf (by decide +kernel) (by decide) rfl rfl rfl (by decide) rfl hM hdd hr h
theorem lk_X5_9 : Cond.fieldLink RX5 9 (TX5 0).1 (TX5 0).2.1 (TX5 0).2.2.1 ∈ tblG := tblG_in 109 (by decide +kernel) (by decide +kernel)
theorem gf_X5_9 (hd : decode cc pc = .ok (.getfield 9, 3)) (h : G E d RX5 cc nL ret rv w1 (pc + 3) lv (.ref (E.1 17) :: st) w) : G E d RX5 cc nL ret rv w1 pc lv (.ref (E.1 2) :: st) w := g_gf (C := RX5) (T := TX5) (N := 6) (ci := 5) (k := 0) hd igX5 (by decide) rfl rfl rfl (by decide) lk_X5_9 rfl h
theorem lk_X5_15 : Cond.fieldLink RX5 15 (TX5 1).1 (TX5 1).2.1 (TX5 1).2.2.1 ∈ tblG := tblG_in 110 (by decide +kernel) (by decide +kernel)
theorem gf_X5_15 (hd : decode cc pc = .ok (.getfield 15, 3)) (h : G E d RX5 cc nL ret rv w1 (pc + 3) lv (.ref (E.1 18) :: st) w) : G E d RX5 cc nL ret rv w1 pc lv (.ref (E.1 2) :: st) w := g_gf (C := RX5) (T := TX5) (N := 6) (ci := 5) (k := 1) hd igX5 (by decide) rfl rfl rfl (by decide) lk_X5_15 rfl h
theorem lk_X5_18 : Cond.fieldLink RX5 18 (TX5 2).1 (TX5 2).2.1 (TX5 2).2.2.1 ∈ tblG := tblG_in 111 (by decide +kernel) (by decide +kernel)
theorem gf_X5_18 (hd : decode cc pc = .ok (.getfield 18, 3)) (h : G E d RX5 cc nL ret rv w1 (pc + 3) lv (.ref (E.1 19) :: st) w) : G E d RX5 cc nL ret rv w1 pc lv (.ref (E.1 2) :: st) w := g_gf (C := RX5) (T := TX5) (N := 6) (ci := 5) (k := 2) hd igX5 (by decide) rfl rfl rfl (by decide) lk_X5_18 rfl h
theorem lk_X5_21 : Cond.fieldLink RX5 21 (TX5 3).1 (TX5 3).2.1 (TX5 3).2.2.1 ∈ tblG := tblG_in 112 (by decide +kernel) (by decide +kernel)
theorem gf_X5_21 (hd : decode cc pc = .ok (.getfield 21, 3)) (h : G E d RX5 cc nL ret rv w1 (pc + 3) lv (.ref (E.1 20) :: st) w) : G E d RX5 cc nL ret rv w1 pc lv (.ref (E.1 2) :: st) w := g_gf (C := RX5) (T := TX5) (N := 6) (ci := 5) (k := 3) hd igX5 (by decide) rfl rfl rfl (by decide) lk_X5_21 rfl h
theorem lk_X5_24 : Cond.fieldLink RX5 24 (TX5 4).1 (TX5 4).2.1 (TX5 4).2.2.1 ∈ tblG := tblG_in 113 (by decide +kernel) (by decide +kernel)
theorem gf_X5_24 (hd : decode cc pc = .ok (.getfield 24, 3)) (h : G E d RX5 cc nL ret rv w1 (pc + 3) lv (.ref (E.1 21) :: st) w) : G E d RX5 cc nL ret rv w1 pc lv (.ref (E.1 2) :: st) w := g_gf (C := RX5) (T := TX5) (N := 6) (ci := 5) (k := 4) hd igX5 (by decide) rfl rfl rfl (by decide) lk_X5_24 rfl h
theorem lk_X5_27 : Cond.fieldLink RX5 27 (TX5 5).1 (TX5 5).2.1 (TX5 5).2.2.1 ∈ tblG := tblG_in 114 (by decide +kernel) (by decide +kernel)
theorem gf_X5_27 (hd : decode cc pc = .ok (.getfield 27, 3)) (h : G E d RX5 cc nL ret rv w1 (pc + 3) lv (.int (w 2 5) :: st) w) : G E d RX5 cc nL ret rv w1 pc lv (.ref (E.1 2) :: st) w := g_gf (C := RX5) (T := TX5) (N := 6) (ci := 5) (k := 5) hd igX5 (by decide) rfl rfl rfl (by decide) lk_X5_27 rfl h
theorem pf_X5_27 {v : Int32} (hd : decode cc pc = .ok (.putfield 27, 3)) (h : G E d RX5 cc nL ret rv w1 (pc + 3) lv st (setW w 2 5 v)) : G E d RX5 cc nL ret rv w1 pc lv (.int v :: .ref (E.1 2) :: st) w := g_pf (C := RX5) (T := TX5) (N := 6) (ci := 5) (k := 5) .int tyX5 hd igX5 tyX5_ok nmX5 (by decide) rfl rfl rfl (by decide) lk_X5_27 rfl rfl (by decide +kernel) rfl rfl h
theorem lk_X5_31 : Cond.methodLink RX5 31 yX5_has ∈ tblG := tblG_in 287 (by decide +kernel) (by decide +kernel)
theorem lc_X5_has : Cond.code yX5_has cX5_has 2 (some .boolean) ∈ tblG := tblG_in 282 (by decide +kernel) (by decide +kernel)
theorem ln_X5_has : Cond.instanceMethod yX5_has ∈ tblG := tblG_in 281 (by decide +kernel) (by decide +kernel)
theorem lx_X5_has : Cond.selects RX5 yX5_has yX5_has ∈ tblG := tblG_in 3 (by decide +kernel) (by decide +kernel)
theorem ca_X5_31 {a1 : Value} {d' : Nat} {rest : List Value} {v2 : Value} {w2 : W0} (hd : decode cc pc = .ok (.invokevirtual 31, 3)) (hM : Mt E d' yX5_has cX5_has 2 (some .boolean) [.ref (E.1 2), a1] w (some v2) w2) (hdd : d' + 1 ≤ d) (hr : (rest.map fun v => v.category).sum ≤ 8) (h : G E d RX5 cc nL ret rv w1 (pc + 3) lv (v2 :: rest) w2) : G E d RX5 cc nL ret rv w1 pc lv (a1 :: .ref (E.1 2) :: rest) w :=
  g_cv (As := [a1]) (n := 1) (ci := 5) (rest := rest) hd lk_X5_31 ln_X5_has lx_X5_has li_X5 lc_X5_has (by decide +kernel) (by decide) rfl rfl rfl (by decide) rfl hM hdd hr h
theorem lk_X5_35 : Cond.methodLinkNest RX5 35 yX2_fullAgeDay "WardCourt" ∈ tblN := tblN_in 309 (by decide +kernel) (by decide +kernel)
theorem lc_X2_fullAgeDay : Cond.code yX2_fullAgeDay cX2_fullAgeDay 4 (some .int) ∈ tblG := tblG_in 312 (by decide +kernel) (by decide +kernel)
theorem ln_X2_fullAgeDay : Cond.instanceMethod yX2_fullAgeDay ∈ tblG := tblG_in 311 (by decide +kernel) (by decide +kernel)
theorem lx_X2_fullAgeDay : Cond.selects RX2 yX2_fullAgeDay yX2_fullAgeDay ∈ tblG := tblG_in 9 (by decide +kernel) (by decide +kernel)
theorem ca_X5_35 {a1 : Value} {d' : Nat} {rest : List Value} {v2 : Value} {w2 : W0} (hd : decode cc pc = .ok (.invokevirtual 35, 3)) (hM : Mt E d' yX2_fullAgeDay cX2_fullAgeDay 4 (some .int) [.ref (E.1 1), a1] w (some v2) w2) (hdd : d' + 1 ≤ d) (hr : (rest.map fun v => v.category).sum ≤ 8) (h : G E d RX5 cc nL ret rv w1 (pc + 3) lv (v2 :: rest) w2) : G E d RX5 cc nL ret rv w1 pc lv (a1 :: .ref (E.1 1) :: rest) w :=
  g_cvN (As := [a1]) (n := 1) (ci := 2) (rest := rest) hd lk_X5_35 ln_X2_fullAgeDay lx_X2_fullAgeDay li_X2 lc_X2_fullAgeDay (by decide +kernel) (by decide) rfl rfl rfl (by decide) rfl hM hdd hr h
theorem lk_X5_41 : Cond.methodLink RX5 41 yX5_isAlive ∈ tblG := tblG_in 318 (by decide +kernel) (by decide +kernel)
theorem lc_X5_isAlive : Cond.code yX5_isAlive cX5_isAlive 3 (some .boolean) ∈ tblG := tblG_in 321 (by decide +kernel) (by decide +kernel)
theorem ln_X5_isAlive : Cond.instanceMethod yX5_isAlive ∈ tblG := tblG_in 320 (by decide +kernel) (by decide +kernel)
theorem lx_X5_isAlive : Cond.selects RX5 yX5_isAlive yX5_isAlive ∈ tblG := tblG_in 11 (by decide +kernel) (by decide +kernel)
theorem ca_X5_41 {a1 a2 : Value} {d' : Nat} {rest : List Value} {v2 : Value} {w2 : W0} (hd : decode cc pc = .ok (.invokevirtual 41, 3)) (hM : Mt E d' yX5_isAlive cX5_isAlive 3 (some .boolean) [.ref (E.1 2), a1, a2] w (some v2) w2) (hdd : d' + 1 ≤ d) (hr : (rest.map fun v => v.category).sum ≤ 8) (h : G E d RX5 cc nL ret rv w1 (pc + 3) lv (v2 :: rest) w2) : G E d RX5 cc nL ret rv w1 pc lv (a2 :: a1 :: .ref (E.1 2) :: rest) w :=
  g_cv (As := [a1, a2]) (n := 2) (ci := 5) (rest := rest) hd lk_X5_41 ln_X5_isAlive lx_X5_isAlive li_X5 lc_X5_isAlive (by decide +kernel) (by decide) rfl rfl rfl (by decide) rfl hM hdd hr h
theorem lk_X5_45 : Cond.methodLink RX5 45 yX5_headsOn ∈ tblG := tblG_in 372 (by decide +kernel) (by decide +kernel)
theorem lc_X5_headsOn : Cond.code yX5_headsOn cX5_headsOn 5 (some .int) ∈ tblG := tblG_in 375 (by decide +kernel) (by decide +kernel)
theorem ln_X5_headsOn : Cond.instanceMethod yX5_headsOn ∈ tblG := tblG_in 374 (by decide +kernel) (by decide +kernel)
theorem lx_X5_headsOn : Cond.selects RX5 yX5_headsOn yX5_headsOn ∈ tblG := tblG_in 24 (by decide +kernel) (by decide +kernel)
theorem ca_X5_45 {a1 : Value} {d' : Nat} {rest : List Value} {v2 : Value} {w2 : W0} (hd : decode cc pc = .ok (.invokevirtual 45, 3)) (hM : Mt E d' yX5_headsOn cX5_headsOn 5 (some .int) [.ref (E.1 2), a1] w (some v2) w2) (hdd : d' + 1 ≤ d) (hr : (rest.map fun v => v.category).sum ≤ 8) (h : G E d RX5 cc nL ret rv w1 (pc + 3) lv (v2 :: rest) w2) : G E d RX5 cc nL ret rv w1 pc lv (a1 :: .ref (E.1 2) :: rest) w :=
  g_cv (As := [a1]) (n := 1) (ci := 5) (rest := rest) hd lk_X5_45 ln_X5_headsOn lx_X5_headsOn li_X5 lc_X5_headsOn (by decide +kernel) (by decide) rfl rfl rfl (by decide) rfl hM hdd hr h
theorem lk_X5_48 : Cond.methodLinkNest RX5 48 yX6_within "WardCourt" ∈ tblN := tblN_in 545 (by decide +kernel) (by decide +kernel)
theorem ca_X5_48 {a1 a2 a3 : Value} {d' : Nat} {rest : List Value} {v2 : Value} {w2 : W0} (hd : decode cc pc = .ok (.invokestatic 48, 3)) (hM : Mt E d' yX6_within cX6_within 3 (some .boolean) [a1, a2, a3] w (some v2) w2) (hdd : d' + 1 ≤ d) (hr : (rest.map fun v => v.category).sum ≤ 8) (h : G E d RX5 cc nL ret rv w1 (pc + 3) lv (v2 :: rest) w2) : G E d RX5 cc nL ret rv w1 pc lv (a3 :: a2 :: a1 :: rest) w :=
  g_csN (As := [a1, a2, a3]) (n := 3) (rest := rest) hd lk_X5_48 ls_X6_within li_X6 lc_X6_within (by decide +kernel) (by decide) rfl hM hdd hr h
theorem lk_X5_52 : Cond.methodLinkNest RX5 52 yX6_nextOf "WardCourt" ∈ tblN := tblN_in 390 (by decide +kernel) (by decide +kernel)
theorem ca_X5_52 {a1 a2 a3 a4 : Value} {d' : Nat} {rest : List Value} {v2 : Value} {w2 : W0} (hd : decode cc pc = .ok (.invokestatic 52, 3)) (hM : Mt E d' yX6_nextOf cX6_nextOf 6 (some .int) [a1, a2, a3, a4] w (some v2) w2) (hdd : d' + 1 ≤ d) (hr : (rest.map fun v => v.category).sum ≤ 8) (h : G E d RX5 cc nL ret rv w1 (pc + 3) lv (v2 :: rest) w2) : G E d RX5 cc nL ret rv w1 pc lv (a4 :: a3 :: a2 :: a1 :: rest) w :=
  g_csN (As := [a1, a2, a3, a4]) (n := 4) (rest := rest) hd lk_X5_52 ls_X6_nextOf li_X6 lc_X6_nextOf (by decide +kernel) (by decide) rfl hM hdd hr h
theorem lk_X6_10 : Cond.fieldLink RX6 10 (TX6 0).1 (TX6 0).2.1 (TX6 0).2.2.1 ∈ tblG := tblG_in 220 (by decide +kernel) (by decide +kernel)
theorem gf_X6_10 (hd : decode cc pc = .ok (.getfield 10, 3)) (h : G E d RX6 cc nL ret rv w1 (pc + 3) lv (.ref (E.1 1) :: st) w) : G E d RX6 cc nL ret rv w1 pc lv (.ref (E.1 0) :: st) w := g_gf (C := RX6) (T := TX6) (N := 7) (ci := 6) (k := 0) hd igX6 (by decide) rfl rfl rfl (by decide) lk_X6_10 rfl h
theorem lk_X6_19 : Cond.fieldLink RX6 19 (TX6 1).1 (TX6 1).2.1 (TX6 1).2.2.1 ∈ tblG := tblG_in 221 (by decide +kernel) (by decide +kernel)
theorem gf_X6_19 (hd : decode cc pc = .ok (.getfield 19, 3)) (h : G E d RX6 cc nL ret rv w1 (pc + 3) lv (.ref (E.1 2) :: st) w) : G E d RX6 cc nL ret rv w1 pc lv (.ref (E.1 0) :: st) w := g_gf (C := RX6) (T := TX6) (N := 7) (ci := 6) (k := 1) hd igX6 (by decide) rfl rfl rfl (by decide) lk_X6_19 rfl h
theorem lk_X6_26 : Cond.fieldLink RX6 26 (TX6 2).1 (TX6 2).2.1 (TX6 2).2.2.1 ∈ tblG := tblG_in 222 (by decide +kernel) (by decide +kernel)
theorem gf_X6_26 (hd : decode cc pc = .ok (.getfield 26, 3)) (h : G E d RX6 cc nL ret rv w1 (pc + 3) lv (.ref (E.1 3) :: st) w) : G E d RX6 cc nL ret rv w1 pc lv (.ref (E.1 0) :: st) w := g_gf (C := RX6) (T := TX6) (N := 7) (ci := 6) (k := 2) hd igX6 (by decide) rfl rfl rfl (by decide) lk_X6_26 rfl h
theorem lk_X6_33 : Cond.fieldLink RX6 33 (TX6 3).1 (TX6 3).2.1 (TX6 3).2.2.1 ∈ tblG := tblG_in 223 (by decide +kernel) (by decide +kernel)
theorem gf_X6_33 (hd : decode cc pc = .ok (.getfield 33, 3)) (h : G E d RX6 cc nL ret rv w1 (pc + 3) lv (.ref (E.1 4) :: st) w) : G E d RX6 cc nL ret rv w1 pc lv (.ref (E.1 0) :: st) w := g_gf (C := RX6) (T := TX6) (N := 7) (ci := 6) (k := 3) hd igX6 (by decide) rfl rfl rfl (by decide) lk_X6_33 rfl h
theorem lk_X6_40 : Cond.fieldLink RX6 40 (TX6 4).1 (TX6 4).2.1 (TX6 4).2.2.1 ∈ tblG := tblG_in 224 (by decide +kernel) (by decide +kernel)
theorem gf_X6_40 (hd : decode cc pc = .ok (.getfield 40, 3)) (h : G E d RX6 cc nL ret rv w1 (pc + 3) lv (.ref (E.1 5) :: st) w) : G E d RX6 cc nL ret rv w1 pc lv (.ref (E.1 0) :: st) w := g_gf (C := RX6) (T := TX6) (N := 7) (ci := 6) (k := 4) hd igX6 (by decide) rfl rfl rfl (by decide) lk_X6_40 rfl h
theorem lk_X6_47 : Cond.fieldLink RX6 47 (TX6 5).1 (TX6 5).2.1 (TX6 5).2.2.1 ∈ tblG := tblG_in 225 (by decide +kernel) (by decide +kernel)
theorem gf_X6_47 (hd : decode cc pc = .ok (.getfield 47, 3)) (h : G E d RX6 cc nL ret rv w1 (pc + 3) lv (.ref (E.1 6) :: st) w) : G E d RX6 cc nL ret rv w1 pc lv (.ref (E.1 0) :: st) w := g_gf (C := RX6) (T := TX6) (N := 7) (ci := 6) (k := 5) hd igX6 (by decide) rfl rfl rfl (by decide) lk_X6_47 rfl h
theorem lk_X6_51 : Cond.methodLink RX6 51 yX6_isDay ∈ tblG := tblG_in 246 (by decide +kernel) (by decide +kernel)
theorem lc_X6_isDay : Cond.code yX6_isDay cX6_isDay 1 (some .boolean) ∈ tblG := tblG_in 248 (by decide +kernel) (by decide +kernel)
theorem ls_X6_isDay : Cond.static yX6_isDay ∈ tblG := tblG_in 247 (by decide +kernel) (by decide +kernel)
theorem ca_X6_51 {a1 : Value} {d' : Nat} {rest : List Value} {v2 : Value} {w2 : W0} (hd : decode cc pc = .ok (.invokestatic 51, 3)) (hM : Mt E d' yX6_isDay cX6_isDay 1 (some .boolean) [a1] w (some v2) w2) (hdd : d' + 1 ≤ d) (hr : (rest.map fun v => v.category).sum ≤ 8) (h : G E d RX6 cc nL ret rv w1 (pc + 3) lv (v2 :: rest) w2) : G E d RX6 cc nL ret rv w1 pc lv (a1 :: rest) w :=
  g_cs (As := [a1]) (n := 1) (rest := rest) hd lk_X6_51 ls_X6_isDay li_X6 lc_X6_isDay (by decide +kernel) (by decide) rfl hM hdd hr h
theorem lk_X6_55 : Cond.methodLink RX6 55 yX6_within ∈ tblG := tblG_in 249 (by decide +kernel) (by decide +kernel)
theorem ca_X6_55 {a1 a2 a3 : Value} {d' : Nat} {rest : List Value} {v2 : Value} {w2 : W0} (hd : decode cc pc = .ok (.invokestatic 55, 3)) (hM : Mt E d' yX6_within cX6_within 3 (some .boolean) [a1, a2, a3] w (some v2) w2) (hdd : d' + 1 ≤ d) (hr : (rest.map fun v => v.category).sum ≤ 8) (h : G E d RX6 cc nL ret rv w1 (pc + 3) lv (v2 :: rest) w2) : G E d RX6 cc nL ret rv w1 pc lv (a3 :: a2 :: a1 :: rest) w :=
  g_cs (As := [a1, a2, a3]) (n := 3) (rest := rest) hd lk_X6_55 ls_X6_within li_X6 lc_X6_within (by decide +kernel) (by decide) rfl hM hdd hr h
theorem lk_X6_59 : Cond.fieldLinkNest RX6 59 (TX2 2).1 (TX2 2).2.1 (TX2 2).2.2.1 "WardCourt" ∈ tblN := tblN_in 94 (by decide +kernel) (by decide +kernel)
theorem gf_X6_59 (hd : decode cc pc = .ok (.getfield 59, 3)) (h : G E d RX6 cc nL ret rv w1 (pc + 3) lv (.int (w 1 2) :: st) w) : G E d RX6 cc nL ret rv w1 pc lv (.ref (E.1 1) :: st) w := g_gfN (C := RX2) (T := TX2) (N := 3) (ci := 2) (k := 2) hd igX2 (by decide) rfl rfl rfl (by decide) lk_X6_59 rfl h
theorem lk_X6_63 : Cond.methodLinkNest RX6 63 yX2_add "WardCourt" ∈ tblN := tblN_in 252 (by decide +kernel) (by decide +kernel)
theorem lc_X2_add : Cond.code yX2_add cX2_add 7 (none) ∈ tblG := tblG_in 255 (by decide +kernel) (by decide +kernel)
theorem ln_X2_add : Cond.instanceMethod yX2_add ∈ tblG := tblG_in 254 (by decide +kernel) (by decide +kernel)
theorem lx_X2_add : Cond.selects RX2 yX2_add yX2_add ∈ tblG := tblG_in 0 (by decide +kernel) (by decide +kernel)
theorem ca_X6_63 {a1 a2 a3 a4 a5 a6 : Value} {d' : Nat} {rest : List Value} {w2 : W0} (hd : decode cc pc = .ok (.invokevirtual 63, 3)) (hM : Mt E d' yX2_add cX2_add 7 (none) [.ref (E.1 1), a1, a2, a3, a4, a5, a6] w none w2) (hdd : d' + 1 ≤ d) (hr : (rest.map fun v => v.category).sum ≤ 8) (h : G E d RX6 cc nL ret rv w1 (pc + 3) lv (rest) w2) : G E d RX6 cc nL ret rv w1 pc lv (a6 :: a5 :: a4 :: a3 :: a2 :: a1 :: .ref (E.1 1) :: rest) w :=
  g_cvN (As := [a1, a2, a3, a4, a5, a6]) (n := 6) (ci := 2) (rest := rest) hd lk_X6_63 ln_X2_add lx_X2_add li_X2 lc_X2_add (by decide +kernel) (by decide) rfl rfl rfl (by decide) rfl hM hdd hr h
theorem lk_X6_67 : Cond.fieldLink RX6 67 (TX6 6).1 (TX6 6).2.1 (TX6 6).2.2.1 ∈ tblG := tblG_in 226 (by decide +kernel) (by decide +kernel)
theorem gf_X6_67 (hd : decode cc pc = .ok (.getfield 67, 3)) (h : G E d RX6 cc nL ret rv w1 (pc + 3) lv (.int (w 0 6) :: st) w) : G E d RX6 cc nL ret rv w1 pc lv (.ref (E.1 0) :: st) w := g_gf (C := RX6) (T := TX6) (N := 7) (ci := 6) (k := 6) hd igX6 (by decide) rfl rfl rfl (by decide) lk_X6_67 rfl h
theorem pf_X6_67 {v : Int32} (hd : decode cc pc = .ok (.putfield 67, 3)) (hb : narrow .boolean (.int v) = .int v) (hf : fits .boolean (.int v) = true) (h : G E d RX6 cc nL ret rv w1 (pc + 3) lv st (setW w 0 6 v)) : G E d RX6 cc nL ret rv w1 pc lv (.int v :: .ref (E.1 0) :: st) w := g_pf (C := RX6) (T := TX6) (N := 7) (ci := 6) (k := 6) .boolean tyX6 hd igX6 tyX6_ok nmX6 (by decide) rfl rfl rfl (by decide) lk_X6_67 rfl rfl (by decide +kernel) hb hf h
theorem lk_X6_71 : Cond.methodLinkNest RX6 71 yX2_inForce "WardCourt" ∈ tblN := tblN_in 260 (by decide +kernel) (by decide +kernel)
theorem ca_X6_71 {a1 a2 : Value} {d' : Nat} {rest : List Value} {v2 : Value} {w2 : W0} (hd : decode cc pc = .ok (.invokevirtual 71, 3)) (hM : Mt E d' yX2_inForce cX2_inForce 5 (some .int) [.ref (E.1 1), a1, a2] w (some v2) w2) (hdd : d' + 1 ≤ d) (hr : (rest.map fun v => v.category).sum ≤ 8) (h : G E d RX6 cc nL ret rv w1 (pc + 3) lv (v2 :: rest) w2) : G E d RX6 cc nL ret rv w1 pc lv (a2 :: a1 :: .ref (E.1 1) :: rest) w :=
  g_cvN (As := [a1, a2]) (n := 2) (ci := 2) (rest := rest) hd lk_X6_71 ln_X2_inForce lx_X2_inForce li_X2 lc_X2_inForce (by decide +kernel) (by decide) rfl rfl rfl (by decide) rfl hM hdd hr h
theorem lk_X6_75 : Cond.fieldLinkNest RX6 75 (TX5 5).1 (TX5 5).2.1 (TX5 5).2.2.1 "WardCourt" ∈ tblN := tblN_in 115 (by decide +kernel) (by decide +kernel)
theorem gf_X6_75 (hd : decode cc pc = .ok (.getfield 75, 3)) (h : G E d RX6 cc nL ret rv w1 (pc + 3) lv (.int (w 2 5) :: st) w) : G E d RX6 cc nL ret rv w1 pc lv (.ref (E.1 2) :: st) w := g_gfN (C := RX5) (T := TX5) (N := 6) (ci := 5) (k := 5) hd igX5 (by decide) rfl rfl rfl (by decide) lk_X6_75 rfl h
theorem lk_X6_76 : Cond.methodLinkNest RX6 76 yX5_add "WardCourt" ∈ tblN := tblN_in 271 (by decide +kernel) (by decide +kernel)
theorem lc_X5_add : Cond.code yX5_add cX5_add 2 (none) ∈ tblG := tblG_in 274 (by decide +kernel) (by decide +kernel)
theorem ln_X5_add : Cond.instanceMethod yX5_add ∈ tblG := tblG_in 273 (by decide +kernel) (by decide +kernel)
theorem lx_X5_add : Cond.selects RX5 yX5_add yX5_add ∈ tblG := tblG_in 2 (by decide +kernel) (by decide +kernel)
theorem ca_X6_76 {a1 : Value} {d' : Nat} {rest : List Value} {w2 : W0} (hd : decode cc pc = .ok (.invokevirtual 76, 3)) (hM : Mt E d' yX5_add cX5_add 2 (none) [.ref (E.1 2), a1] w none w2) (hdd : d' + 1 ≤ d) (hr : (rest.map fun v => v.category).sum ≤ 8) (h : G E d RX6 cc nL ret rv w1 (pc + 3) lv (rest) w2) : G E d RX6 cc nL ret rv w1 pc lv (a1 :: .ref (E.1 2) :: rest) w :=
  g_cvN (As := [a1]) (n := 1) (ci := 5) (rest := rest) hd lk_X6_76 ln_X5_add lx_X5_add li_X5 lc_X5_add (by decide +kernel) (by decide) rfl rfl rfl (by decide) rfl hM hdd hr h
theorem lk_X6_79 : Cond.methodLinkNest RX6 79 yX5_has "WardCourt" ∈ tblN := tblN_in 279 (by decide +kernel) (by decide +kernel)
theorem ca_X6_79 {a1 : Value} {d' : Nat} {rest : List Value} {v2 : Value} {w2 : W0} (hd : decode cc pc = .ok (.invokevirtual 79, 3)) (hM : Mt E d' yX5_has cX5_has 2 (some .boolean) [.ref (E.1 2), a1] w (some v2) w2) (hdd : d' + 1 ≤ d) (hr : (rest.map fun v => v.category).sum ≤ 8) (h : G E d RX6 cc nL ret rv w1 (pc + 3) lv (v2 :: rest) w2) : G E d RX6 cc nL ret rv w1 pc lv (a1 :: .ref (E.1 2) :: rest) w :=
  g_cvN (As := [a1]) (n := 1) (ci := 5) (rest := rest) hd lk_X6_79 ln_X5_has lx_X5_has li_X5 lc_X5_has (by decide +kernel) (by decide) rfl rfl rfl (by decide) rfl hM hdd hr h
theorem lk_X6_82 : Cond.methodLinkNest RX6 82 yX5_birthOf "WardCourt" ∈ tblN := tblN_in 283 (by decide +kernel) (by decide +kernel)
theorem lc_X5_birthOf : Cond.code yX5_birthOf cX5_birthOf 2 (some .int) ∈ tblG := tblG_in 286 (by decide +kernel) (by decide +kernel)
theorem ln_X5_birthOf : Cond.instanceMethod yX5_birthOf ∈ tblG := tblG_in 285 (by decide +kernel) (by decide +kernel)
theorem lx_X5_birthOf : Cond.selects RX5 yX5_birthOf yX5_birthOf ∈ tblG := tblG_in 4 (by decide +kernel) (by decide +kernel)
theorem ca_X6_82 {a1 : Value} {d' : Nat} {rest : List Value} {v2 : Value} {w2 : W0} (hd : decode cc pc = .ok (.invokevirtual 82, 3)) (hM : Mt E d' yX5_birthOf cX5_birthOf 2 (some .int) [.ref (E.1 2), a1] w (some v2) w2) (hdd : d' + 1 ≤ d) (hr : (rest.map fun v => v.category).sum ≤ 8) (h : G E d RX6 cc nL ret rv w1 (pc + 3) lv (v2 :: rest) w2) : G E d RX6 cc nL ret rv w1 pc lv (a1 :: .ref (E.1 2) :: rest) w :=
  g_cvN (As := [a1]) (n := 1) (ci := 5) (rest := rest) hd lk_X6_82 ln_X5_birthOf lx_X5_birthOf li_X5 lc_X5_birthOf (by decide +kernel) (by decide) rfl rfl rfl (by decide) rfl hM hdd hr h
theorem lk_X6_86 : Cond.methodLinkNest RX6 86 yX5_deathOf "WardCourt" ∈ tblN := tblN_in 288 (by decide +kernel) (by decide +kernel)
theorem lc_X5_deathOf : Cond.code yX5_deathOf cX5_deathOf 2 (some .int) ∈ tblG := tblG_in 291 (by decide +kernel) (by decide +kernel)
theorem ln_X5_deathOf : Cond.instanceMethod yX5_deathOf ∈ tblG := tblG_in 290 (by decide +kernel) (by decide +kernel)
theorem lx_X5_deathOf : Cond.selects RX5 yX5_deathOf yX5_deathOf ∈ tblG := tblG_in 5 (by decide +kernel) (by decide +kernel)
theorem ca_X6_86 {a1 : Value} {d' : Nat} {rest : List Value} {v2 : Value} {w2 : W0} (hd : decode cc pc = .ok (.invokevirtual 86, 3)) (hM : Mt E d' yX5_deathOf cX5_deathOf 2 (some .int) [.ref (E.1 2), a1] w (some v2) w2) (hdd : d' + 1 ≤ d) (hr : (rest.map fun v => v.category).sum ≤ 8) (h : G E d RX6 cc nL ret rv w1 (pc + 3) lv (v2 :: rest) w2) : G E d RX6 cc nL ret rv w1 pc lv (a1 :: .ref (E.1 2) :: rest) w :=
  g_cvN (As := [a1]) (n := 1) (ci := 5) (rest := rest) hd lk_X6_86 ln_X5_deathOf lx_X5_deathOf li_X5 lc_X5_deathOf (by decide +kernel) (by decide) rfl rfl rfl (by decide) rfl hM hdd hr h
theorem lk_X6_89 : Cond.methodLinkNest RX6 89 yX5_setDeath "WardCourt" ∈ tblN := tblN_in 292 (by decide +kernel) (by decide +kernel)
theorem lc_X5_setDeath : Cond.code yX5_setDeath cX5_setDeath 3 (none) ∈ tblG := tblG_in 295 (by decide +kernel) (by decide +kernel)
theorem ln_X5_setDeath : Cond.instanceMethod yX5_setDeath ∈ tblG := tblG_in 294 (by decide +kernel) (by decide +kernel)
theorem lx_X5_setDeath : Cond.selects RX5 yX5_setDeath yX5_setDeath ∈ tblG := tblG_in 6 (by decide +kernel) (by decide +kernel)
theorem ca_X6_89 {a1 a2 : Value} {d' : Nat} {rest : List Value} {w2 : W0} (hd : decode cc pc = .ok (.invokevirtual 89, 3)) (hM : Mt E d' yX5_setDeath cX5_setDeath 3 (none) [.ref (E.1 2), a1, a2] w none w2) (hdd : d' + 1 ≤ d) (hr : (rest.map fun v => v.category).sum ≤ 8) (h : G E d RX6 cc nL ret rv w1 (pc + 3) lv (rest) w2) : G E d RX6 cc nL ret rv w1 pc lv (a2 :: a1 :: .ref (E.1 2) :: rest) w :=
  g_cvN (As := [a1, a2]) (n := 2) (ci := 5) (rest := rest) hd lk_X6_89 ln_X5_setDeath lx_X5_setDeath li_X5 lc_X5_setDeath (by decide +kernel) (by decide) rfl rfl rfl (by decide) rfl hM hdd hr h
theorem lk_X6_93 : Cond.constant RX6 93 (-100000001 : Int32) ∈ tblG := tblG_in 300 (by decide +kernel) (by decide +kernel)
theorem lk_X6_94 : Cond.methodLink RX6 94 yX6_settle ∈ tblG := tblG_in 301 (by decide +kernel) (by decide +kernel)
theorem lc_X6_settle : Cond.code yX6_settle cX6_settle 1 (none) ∈ tblG := tblG_in 304 (by decide +kernel) (by decide +kernel)
theorem ln_X6_settle : Cond.instanceMethod yX6_settle ∈ tblG := tblG_in 303 (by decide +kernel) (by decide +kernel)
theorem lx_X6_settle : Cond.selects RX6 yX6_settle yX6_settle ∈ tblG := tblG_in 7 (by decide +kernel) (by decide +kernel)
theorem ca_X6_94 {d' : Nat} {rest : List Value} {w2 : W0} (hd : decode cc pc = .ok (.invokevirtual 94, 3)) (hM : Mt E d' yX6_settle cX6_settle 1 (none) [.ref (E.1 0)] w none w2) (hdd : d' + 1 ≤ d) (hr : (rest.map fun v => v.category).sum ≤ 8) (h : G E d RX6 cc nL ret rv w1 (pc + 3) lv (rest) w2) : G E d RX6 cc nL ret rv w1 pc lv (.ref (E.1 0) :: rest) w :=
  g_cv (As := []) (n := 0) (ci := 6) (rest := rest) hd lk_X6_94 ln_X6_settle lx_X6_settle li_X6 lc_X6_settle (by decide +kernel) (by decide) rfl rfl rfl (by decide) rfl hM hdd hr h
theorem lk_X6_97 : Cond.methodLinkNest RX6 97 yX5_fullAgeOf "WardCourt" ∈ tblN := tblN_in 404 (by decide +kernel) (by decide +kernel)
theorem lc_X5_fullAgeOf : Cond.code yX5_fullAgeOf cX5_fullAgeOf 2 (some .int) ∈ tblG := tblG_in 407 (by decide +kernel) (by decide +kernel)
theorem ln_X5_fullAgeOf : Cond.instanceMethod yX5_fullAgeOf ∈ tblG := tblG_in 406 (by decide +kernel) (by decide +kernel)
theorem lx_X5_fullAgeOf : Cond.selects RX5 yX5_fullAgeOf yX5_fullAgeOf ∈ tblG := tblG_in 28 (by decide +kernel) (by decide +kernel)
theorem ca_X6_97 {a1 : Value} {d' : Nat} {rest : List Value} {v2 : Value} {w2 : W0} (hd : decode cc pc = .ok (.invokevirtual 97, 3)) (hM : Mt E d' yX5_fullAgeOf cX5_fullAgeOf 2 (some .int) [.ref (E.1 2), a1] w (some v2) w2) (hdd : d' + 1 ≤ d) (hr : (rest.map fun v => v.category).sum ≤ 8) (h : G E d RX6 cc nL ret rv w1 (pc + 3) lv (v2 :: rest) w2) : G E d RX6 cc nL ret rv w1 pc lv (a1 :: .ref (E.1 2) :: rest) w :=
  g_cvN (As := [a1]) (n := 1) (ci := 5) (rest := rest) hd lk_X6_97 ln_X5_fullAgeOf lx_X5_fullAgeOf li_X5 lc_X5_fullAgeOf (by decide +kernel) (by decide) rfl rfl rfl (by decide) rfl hM hdd hr h
theorem lk_X6_100 : Cond.methodLinkNest RX6 100 yX5_givenOverOf "WardCourt" ∈ tblN := tblN_in 408 (by decide +kernel) (by decide +kernel)
theorem lc_X5_givenOverOf : Cond.code yX5_givenOverOf cX5_givenOverOf 2 (some .int) ∈ tblG := tblG_in 411 (by decide +kernel) (by decide +kernel)
theorem ln_X5_givenOverOf : Cond.instanceMethod yX5_givenOverOf ∈ tblG := tblG_in 410 (by decide +kernel) (by decide +kernel)
theorem lx_X5_givenOverOf : Cond.selects RX5 yX5_givenOverOf yX5_givenOverOf ∈ tblG := tblG_in 29 (by decide +kernel) (by decide +kernel)
theorem ca_X6_100 {a1 : Value} {d' : Nat} {rest : List Value} {v2 : Value} {w2 : W0} (hd : decode cc pc = .ok (.invokevirtual 100, 3)) (hM : Mt E d' yX5_givenOverOf cX5_givenOverOf 2 (some .int) [.ref (E.1 2), a1] w (some v2) w2) (hdd : d' + 1 ≤ d) (hr : (rest.map fun v => v.category).sum ≤ 8) (h : G E d RX6 cc nL ret rv w1 (pc + 3) lv (v2 :: rest) w2) : G E d RX6 cc nL ret rv w1 pc lv (a1 :: .ref (E.1 2) :: rest) w :=
  g_cvN (As := [a1]) (n := 1) (ci := 5) (rest := rest) hd lk_X6_100 ln_X5_givenOverOf lx_X5_givenOverOf li_X5 lc_X5_givenOverOf (by decide +kernel) (by decide) rfl rfl rfl (by decide) rfl hM hdd hr h
theorem lk_X6_103 : Cond.methodLinkNest RX6 103 yX5_shareOf "WardCourt" ∈ tblN := tblN_in 412 (by decide +kernel) (by decide +kernel)
theorem lc_X5_shareOf : Cond.code yX5_shareOf cX5_shareOf 2 (some .int) ∈ tblG := tblG_in 415 (by decide +kernel) (by decide +kernel)
theorem ln_X5_shareOf : Cond.instanceMethod yX5_shareOf ∈ tblG := tblG_in 414 (by decide +kernel) (by decide +kernel)
theorem lx_X5_shareOf : Cond.selects RX5 yX5_shareOf yX5_shareOf ∈ tblG := tblG_in 30 (by decide +kernel) (by decide +kernel)
theorem ca_X6_103 {a1 : Value} {d' : Nat} {rest : List Value} {v2 : Value} {w2 : W0} (hd : decode cc pc = .ok (.invokevirtual 103, 3)) (hM : Mt E d' yX5_shareOf cX5_shareOf 2 (some .int) [.ref (E.1 2), a1] w (some v2) w2) (hdd : d' + 1 ≤ d) (hr : (rest.map fun v => v.category).sum ≤ 8) (h : G E d RX6 cc nL ret rv w1 (pc + 3) lv (v2 :: rest) w2) : G E d RX6 cc nL ret rv w1 pc lv (a1 :: .ref (E.1 2) :: rest) w :=
  g_cvN (As := [a1]) (n := 1) (ci := 5) (rest := rest) hd lk_X6_103 ln_X5_shareOf lx_X5_shareOf li_X5 lc_X5_shareOf (by decide +kernel) (by decide) rfl rfl rfl (by decide) rfl hM hdd hr h
theorem lk_X6_106 : Cond.constant RX6 106 (-100000002 : Int32) ∈ tblG := tblG_in 416 (by decide +kernel) (by decide +kernel)
theorem lk_X6_107 : Cond.methodLinkNest RX6 107 yX5_headsOn "WardCourt" ∈ tblN := tblN_in 421 (by decide +kernel) (by decide +kernel)
theorem ca_X6_107 {a1 : Value} {d' : Nat} {rest : List Value} {v2 : Value} {w2 : W0} (hd : decode cc pc = .ok (.invokevirtual 107, 3)) (hM : Mt E d' yX5_headsOn cX5_headsOn 5 (some .int) [.ref (E.1 2), a1] w (some v2) w2) (hdd : d' + 1 ≤ d) (hr : (rest.map fun v => v.category).sum ≤ 8) (h : G E d RX6 cc nL ret rv w1 (pc + 3) lv (v2 :: rest) w2) : G E d RX6 cc nL ret rv w1 pc lv (a1 :: .ref (E.1 2) :: rest) w :=
  g_cvN (As := [a1]) (n := 1) (ci := 5) (rest := rest) hd lk_X6_107 ln_X5_headsOn lx_X5_headsOn li_X5 lc_X5_headsOn (by decide +kernel) (by decide) rfl rfl rfl (by decide) rfl hM hdd hr h
theorem lk_X6_110 : Cond.methodLink RX6 110 yX6_isCoins ∈ tblG := tblG_in 426 (by decide +kernel) (by decide +kernel)
theorem lc_X6_isCoins : Cond.code yX6_isCoins cX6_isCoins 1 (some .boolean) ∈ tblG := tblG_in 428 (by decide +kernel) (by decide +kernel)
theorem ls_X6_isCoins : Cond.static yX6_isCoins ∈ tblG := tblG_in 427 (by decide +kernel) (by decide +kernel)
theorem ca_X6_110 {a1 : Value} {d' : Nat} {rest : List Value} {v2 : Value} {w2 : W0} (hd : decode cc pc = .ok (.invokestatic 110, 3)) (hM : Mt E d' yX6_isCoins cX6_isCoins 1 (some .boolean) [a1] w (some v2) w2) (hdd : d' + 1 ≤ d) (hr : (rest.map fun v => v.category).sum ≤ 8) (h : G E d RX6 cc nL ret rv w1 (pc + 3) lv (v2 :: rest) w2) : G E d RX6 cc nL ret rv w1 pc lv (a1 :: rest) w :=
  g_cs (As := [a1]) (n := 1) (rest := rest) hd lk_X6_110 ls_X6_isCoins li_X6 lc_X6_isCoins (by decide +kernel) (by decide) rfl hM hdd hr h
theorem lk_X6_113 : Cond.fieldLinkNest RX6 113 (TX4 2).1 (TX4 2).2.1 (TX4 2).2.2.1 "WardCourt" ∈ tblN := tblN_in 138 (by decide +kernel) (by decide +kernel)
theorem gf_X6_113 (hd : decode cc pc = .ok (.getfield 113, 3)) (h : G E d RX6 cc nL ret rv w1 (pc + 3) lv (.int (w 3 2) :: st) w) : G E d RX6 cc nL ret rv w1 pc lv (.ref (E.1 3) :: st) w := g_gfN (C := RX4) (T := TX4) (N := 3) (ci := 4) (k := 2) hd igX4 (by decide) rfl rfl rfl (by decide) lk_X6_113 rfl h
theorem lk_X6_114 : Cond.methodLinkNest RX6 114 yX4_add "WardCourt" ∈ tblN := tblN_in 429 (by decide +kernel) (by decide +kernel)
theorem lc_X4_add : Cond.code yX4_add cX4_add 2 (none) ∈ tblG := tblG_in 432 (by decide +kernel) (by decide +kernel)
theorem ln_X4_add : Cond.instanceMethod yX4_add ∈ tblG := tblG_in 431 (by decide +kernel) (by decide +kernel)
theorem lx_X4_add : Cond.selects RX4 yX4_add yX4_add ∈ tblG := tblG_in 31 (by decide +kernel) (by decide +kernel)
theorem ca_X6_114 {a1 : Value} {d' : Nat} {rest : List Value} {w2 : W0} (hd : decode cc pc = .ok (.invokevirtual 114, 3)) (hM : Mt E d' yX4_add cX4_add 2 (none) [.ref (E.1 3), a1] w none w2) (hdd : d' + 1 ≤ d) (hr : (rest.map fun v => v.category).sum ≤ 8) (h : G E d RX6 cc nL ret rv w1 (pc + 3) lv (rest) w2) : G E d RX6 cc nL ret rv w1 pc lv (a1 :: .ref (E.1 3) :: rest) w :=
  g_cvN (As := [a1]) (n := 1) (ci := 4) (rest := rest) hd lk_X6_114 ln_X4_add lx_X4_add li_X4 lc_X4_add (by decide +kernel) (by decide) rfl rfl rfl (by decide) rfl hM hdd hr h
theorem lk_X6_115 : Cond.methodLinkNest RX6 115 yX4_has "WardCourt" ∈ tblN := tblN_in 437 (by decide +kernel) (by decide +kernel)
theorem ca_X6_115 {a1 : Value} {d' : Nat} {rest : List Value} {v2 : Value} {w2 : W0} (hd : decode cc pc = .ok (.invokevirtual 115, 3)) (hM : Mt E d' yX4_has cX4_has 2 (some .boolean) [.ref (E.1 3), a1] w (some v2) w2) (hdd : d' + 1 ≤ d) (hr : (rest.map fun v => v.category).sum ≤ 8) (h : G E d RX6 cc nL ret rv w1 (pc + 3) lv (v2 :: rest) w2) : G E d RX6 cc nL ret rv w1 pc lv (a1 :: .ref (E.1 3) :: rest) w :=
  g_cvN (As := [a1]) (n := 1) (ci := 4) (rest := rest) hd lk_X6_115 ln_X4_has lx_X4_has li_X4 lc_X4_has (by decide +kernel) (by decide) rfl rfl rfl (by decide) rfl hM hdd hr h
theorem lk_X6_116 : Cond.methodLinkNest RX6 116 yX4_limitOf "WardCourt" ∈ tblN := tblN_in 438 (by decide +kernel) (by decide +kernel)
theorem ca_X6_116 {a1 : Value} {d' : Nat} {rest : List Value} {v2 : Value} {w2 : W0} (hd : decode cc pc = .ok (.invokevirtual 116, 3)) (hM : Mt E d' yX4_limitOf cX4_limitOf 2 (some .int) [.ref (E.1 3), a1] w (some v2) w2) (hdd : d' + 1 ≤ d) (hr : (rest.map fun v => v.category).sum ≤ 8) (h : G E d RX6 cc nL ret rv w1 (pc + 3) lv (v2 :: rest) w2) : G E d RX6 cc nL ret rv w1 pc lv (a1 :: .ref (E.1 3) :: rest) w :=
  g_cvN (As := [a1]) (n := 1) (ci := 4) (rest := rest) hd lk_X6_116 ln_X4_limitOf lx_X4_limitOf li_X4 lc_X4_limitOf (by decide +kernel) (by decide) rfl rfl rfl (by decide) rfl hM hdd hr h
theorem lk_X6_119 : Cond.methodLinkNest RX6 119 yX4_useOf "WardCourt" ∈ tblN := tblN_in 439 (by decide +kernel) (by decide +kernel)
theorem ca_X6_119 {a1 : Value} {d' : Nat} {rest : List Value} {v2 : Value} {w2 : W0} (hd : decode cc pc = .ok (.invokevirtual 119, 3)) (hM : Mt E d' yX4_useOf cX4_useOf 2 (some .int) [.ref (E.1 3), a1] w (some v2) w2) (hdd : d' + 1 ≤ d) (hr : (rest.map fun v => v.category).sum ≤ 8) (h : G E d RX6 cc nL ret rv w1 (pc + 3) lv (v2 :: rest) w2) : G E d RX6 cc nL ret rv w1 pc lv (a1 :: .ref (E.1 3) :: rest) w :=
  g_cvN (As := [a1]) (n := 1) (ci := 4) (rest := rest) hd lk_X6_119 ln_X4_useOf lx_X4_useOf li_X4 lc_X4_useOf (by decide +kernel) (by decide) rfl rfl rfl (by decide) rfl hM hdd hr h
theorem lk_X6_122 : Cond.methodLinkNest RX6 122 yX3_has "WardCourt" ∈ tblN := tblN_in 447 (by decide +kernel) (by decide +kernel)
theorem ca_X6_122 {a1 : Value} {d' : Nat} {rest : List Value} {v2 : Value} {w2 : W0} (hd : decode cc pc = .ok (.invokevirtual 122, 3)) (hM : Mt E d' yX3_has cX3_has 2 (some .boolean) [.ref (E.1 5), a1] w (some v2) w2) (hdd : d' + 1 ≤ d) (hr : (rest.map fun v => v.category).sum ≤ 8) (h : G E d RX6 cc nL ret rv w1 (pc + 3) lv (v2 :: rest) w2) : G E d RX6 cc nL ret rv w1 pc lv (a1 :: .ref (E.1 5) :: rest) w :=
  g_cvN (As := [a1]) (n := 1) (ci := 3) (rest := rest) hd lk_X6_122 ln_X3_has lx_X3_has li_X3 lc_X3_has (by decide +kernel) (by decide) rfl rfl rfl (by decide) rfl hM hdd hr h
theorem lk_X6_123 : Cond.fieldLinkNest RX6 123 (TX1 7).1 (TX1 7).2.1 (TX1 7).2.2.1 "WardCourt" ∈ tblN := tblN_in 160 (by decide +kernel) (by decide +kernel)
theorem gf_X6_123 (hd : decode cc pc = .ok (.getfield 123, 3)) (h : G E d RX6 cc nL ret rv w1 (pc + 3) lv (.int (w 4 7) :: st) w) : G E d RX6 cc nL ret rv w1 pc lv (.ref (E.1 4) :: st) w := g_gfN (C := RX1) (T := TX1) (N := 8) (ci := 1) (k := 7) hd igX1 (by decide) rfl rfl rfl (by decide) lk_X6_123 rfl h
theorem lk_X6_124 : Cond.methodLinkNest RX6 124 yX1_add "WardCourt" ∈ tblN := tblN_in 451 (by decide +kernel) (by decide +kernel)
theorem lc_X1_add : Cond.code yX1_add cX1_add 5 (none) ∈ tblG := tblG_in 454 (by decide +kernel) (by decide +kernel)
theorem ln_X1_add : Cond.instanceMethod yX1_add ∈ tblG := tblG_in 453 (by decide +kernel) (by decide +kernel)
theorem lx_X1_add : Cond.selects RX1 yX1_add yX1_add ∈ tblG := tblG_in 34 (by decide +kernel) (by decide +kernel)
theorem ca_X6_124 {a1 a2 a3 a4 : Value} {d' : Nat} {rest : List Value} {w2 : W0} (hd : decode cc pc = .ok (.invokevirtual 124, 3)) (hM : Mt E d' yX1_add cX1_add 5 (none) [.ref (E.1 4), a1, a2, a3, a4] w none w2) (hdd : d' + 1 ≤ d) (hr : (rest.map fun v => v.category).sum ≤ 8) (h : G E d RX6 cc nL ret rv w1 (pc + 3) lv (rest) w2) : G E d RX6 cc nL ret rv w1 pc lv (a4 :: a3 :: a2 :: a1 :: .ref (E.1 4) :: rest) w :=
  g_cvN (As := [a1, a2, a3, a4]) (n := 4) (ci := 1) (rest := rest) hd lk_X6_124 ln_X1_add lx_X1_add li_X1 lc_X1_add (by decide +kernel) (by decide) rfl rfl rfl (by decide) rfl hM hdd hr h
theorem lk_X6_127 : Cond.methodLinkNest RX6 127 yX4_wasUsed "WardCourt" ∈ tblN := tblN_in 459 (by decide +kernel) (by decide +kernel)
theorem lc_X4_wasUsed : Cond.code yX4_wasUsed cX4_wasUsed 2 (some .boolean) ∈ tblG := tblG_in 462 (by decide +kernel) (by decide +kernel)
theorem ln_X4_wasUsed : Cond.instanceMethod yX4_wasUsed ∈ tblG := tblG_in 461 (by decide +kernel) (by decide +kernel)
theorem lx_X4_wasUsed : Cond.selects RX4 yX4_wasUsed yX4_wasUsed ∈ tblG := tblG_in 35 (by decide +kernel) (by decide +kernel)
theorem ca_X6_127 {a1 : Value} {d' : Nat} {rest : List Value} {v2 : Value} {w2 : W0} (hd : decode cc pc = .ok (.invokevirtual 127, 3)) (hM : Mt E d' yX4_wasUsed cX4_wasUsed 2 (some .boolean) [.ref (E.1 3), a1] w (some v2) w2) (hdd : d' + 1 ≤ d) (hr : (rest.map fun v => v.category).sum ≤ 8) (h : G E d RX6 cc nL ret rv w1 (pc + 3) lv (v2 :: rest) w2) : G E d RX6 cc nL ret rv w1 pc lv (a1 :: .ref (E.1 3) :: rest) w :=
  g_cvN (As := [a1]) (n := 1) (ci := 4) (rest := rest) hd lk_X6_127 ln_X4_wasUsed lx_X4_wasUsed li_X4 lc_X4_wasUsed (by decide +kernel) (by decide) rfl rfl rfl (by decide) rfl hM hdd hr h
theorem lk_X6_130 : Cond.methodLinkNest RX6 130 yX4_use "WardCourt" ∈ tblN := tblN_in 464 (by decide +kernel) (by decide +kernel)
theorem lc_X4_use : Cond.code yX4_use cX4_use 3 (none) ∈ tblG := tblG_in 467 (by decide +kernel) (by decide +kernel)
theorem ln_X4_use : Cond.instanceMethod yX4_use ∈ tblG := tblG_in 466 (by decide +kernel) (by decide +kernel)
theorem lx_X4_use : Cond.selects RX4 yX4_use yX4_use ∈ tblG := tblG_in 36 (by decide +kernel) (by decide +kernel)
theorem ca_X6_130 {a1 a2 : Value} {d' : Nat} {rest : List Value} {w2 : W0} (hd : decode cc pc = .ok (.invokevirtual 130, 3)) (hM : Mt E d' yX4_use cX4_use 3 (none) [.ref (E.1 3), a1, a2] w none w2) (hdd : d' + 1 ≤ d) (hr : (rest.map fun v => v.category).sum ≤ 8) (h : G E d RX6 cc nL ret rv w1 (pc + 3) lv (rest) w2) : G E d RX6 cc nL ret rv w1 pc lv (a2 :: a1 :: .ref (E.1 3) :: rest) w :=
  g_cvN (As := [a1, a2]) (n := 2) (ci := 4) (rest := rest) hd lk_X6_130 ln_X4_use lx_X4_use li_X4 lc_X4_use (by decide +kernel) (by decide) rfl rfl rfl (by decide) rfl hM hdd hr h
theorem lk_X6_133 : Cond.methodLinkNest RX6 133 yX1_has "WardCourt" ∈ tblN := tblN_in 472 (by decide +kernel) (by decide +kernel)
theorem ca_X6_133 {a1 : Value} {d' : Nat} {rest : List Value} {v2 : Value} {w2 : W0} (hd : decode cc pc = .ok (.invokevirtual 133, 3)) (hM : Mt E d' yX1_has cX1_has 2 (some .boolean) [.ref (E.1 4), a1] w (some v2) w2) (hdd : d' + 1 ≤ d) (hr : (rest.map fun v => v.category).sum ≤ 8) (h : G E d RX6 cc nL ret rv w1 (pc + 3) lv (v2 :: rest) w2) : G E d RX6 cc nL ret rv w1 pc lv (a1 :: .ref (E.1 4) :: rest) w :=
  g_cvN (As := [a1]) (n := 1) (ci := 1) (rest := rest) hd lk_X6_133 ln_X1_has lx_X1_has li_X1 lc_X1_has (by decide +kernel) (by decide) rfl rfl rfl (by decide) rfl hM hdd hr h
theorem lk_X6_134 : Cond.methodLinkNest RX6 134 yX1_isReceipt "WardCourt" ∈ tblN := tblN_in 473 (by decide +kernel) (by decide +kernel)
theorem lc_X1_isReceipt : Cond.code yX1_isReceipt cX1_isReceipt 2 (some .boolean) ∈ tblG := tblG_in 476 (by decide +kernel) (by decide +kernel)
theorem ln_X1_isReceipt : Cond.instanceMethod yX1_isReceipt ∈ tblG := tblG_in 475 (by decide +kernel) (by decide +kernel)
theorem lx_X1_isReceipt : Cond.selects RX1 yX1_isReceipt yX1_isReceipt ∈ tblG := tblG_in 37 (by decide +kernel) (by decide +kernel)
theorem ca_X6_134 {a1 : Value} {d' : Nat} {rest : List Value} {v2 : Value} {w2 : W0} (hd : decode cc pc = .ok (.invokevirtual 134, 3)) (hM : Mt E d' yX1_isReceipt cX1_isReceipt 2 (some .boolean) [.ref (E.1 4), a1] w (some v2) w2) (hdd : d' + 1 ≤ d) (hr : (rest.map fun v => v.category).sum ≤ 8) (h : G E d RX6 cc nL ret rv w1 (pc + 3) lv (v2 :: rest) w2) : G E d RX6 cc nL ret rv w1 pc lv (a1 :: .ref (E.1 4) :: rest) w :=
  g_cvN (As := [a1]) (n := 1) (ci := 1) (rest := rest) hd lk_X6_134 ln_X1_isReceipt lx_X1_isReceipt li_X1 lc_X1_isReceipt (by decide +kernel) (by decide) rfl rfl rfl (by decide) rfl hM hdd hr h
theorem lk_X6_137 : Cond.methodLinkNest RX6 137 yX1_setVoucher "WardCourt" ∈ tblN := tblN_in 477 (by decide +kernel) (by decide +kernel)
theorem lc_X1_setVoucher : Cond.code yX1_setVoucher cX1_setVoucher 4 (some .boolean) ∈ tblG := tblG_in 480 (by decide +kernel) (by decide +kernel)
theorem ln_X1_setVoucher : Cond.instanceMethod yX1_setVoucher ∈ tblG := tblG_in 479 (by decide +kernel) (by decide +kernel)
theorem lx_X1_setVoucher : Cond.selects RX1 yX1_setVoucher yX1_setVoucher ∈ tblG := tblG_in 38 (by decide +kernel) (by decide +kernel)
theorem ca_X6_137 {a1 a2 : Value} {d' : Nat} {rest : List Value} {v2 : Value} {w2 : W0} (hd : decode cc pc = .ok (.invokevirtual 137, 3)) (hM : Mt E d' yX1_setVoucher cX1_setVoucher 4 (some .boolean) [.ref (E.1 4), a1, a2] w (some v2) w2) (hdd : d' + 1 ≤ d) (hr : (rest.map fun v => v.category).sum ≤ 8) (h : G E d RX6 cc nL ret rv w1 (pc + 3) lv (v2 :: rest) w2) : G E d RX6 cc nL ret rv w1 pc lv (a2 :: a1 :: .ref (E.1 4) :: rest) w :=
  g_cvN (As := [a1, a2]) (n := 2) (ci := 1) (rest := rest) hd lk_X6_137 ln_X1_setVoucher lx_X1_setVoucher li_X1 lc_X1_setVoucher (by decide +kernel) (by decide) rfl rfl rfl (by decide) rfl hM hdd hr h
theorem lk_X6_141 : Cond.methodLinkNest RX6 141 yX1_setChallenge "WardCourt" ∈ tblN := tblN_in 485 (by decide +kernel) (by decide +kernel)
theorem lc_X1_setChallenge : Cond.code yX1_setChallenge cX1_setChallenge 4 (some .boolean) ∈ tblG := tblG_in 488 (by decide +kernel) (by decide +kernel)
theorem ln_X1_setChallenge : Cond.instanceMethod yX1_setChallenge ∈ tblG := tblG_in 487 (by decide +kernel) (by decide +kernel)
theorem lx_X1_setChallenge : Cond.selects RX1 yX1_setChallenge yX1_setChallenge ∈ tblG := tblG_in 39 (by decide +kernel) (by decide +kernel)
theorem ca_X6_141 {a1 a2 : Value} {d' : Nat} {rest : List Value} {v2 : Value} {w2 : W0} (hd : decode cc pc = .ok (.invokevirtual 141, 3)) (hM : Mt E d' yX1_setChallenge cX1_setChallenge 4 (some .boolean) [.ref (E.1 4), a1, a2] w (some v2) w2) (hdd : d' + 1 ≤ d) (hr : (rest.map fun v => v.category).sum ≤ 8) (h : G E d RX6 cc nL ret rv w1 (pc + 3) lv (v2 :: rest) w2) : G E d RX6 cc nL ret rv w1 pc lv (a2 :: a1 :: .ref (E.1 4) :: rest) w :=
  g_cvN (As := [a1, a2]) (n := 2) (ci := 1) (rest := rest) hd lk_X6_141 ln_X1_setChallenge lx_X1_setChallenge li_X1 lc_X1_setChallenge (by decide +kernel) (by decide) rfl rfl rfl (by decide) rfl hM hdd hr h
theorem lk_X6_144 : Cond.methodLinkNest RX6 144 yX1_barsOf "WardCourt" ∈ tblN := tblN_in 493 (by decide +kernel) (by decide +kernel)
theorem ca_X6_144 {a1 a2 a3 : Value} {d' : Nat} {rest : List Value} {v2 : Value} {w2 : W0} (hd : decode cc pc = .ok (.invokevirtual 144, 3)) (hM : Mt E d' yX1_barsOf cX1_barsOf 6 (some .int) [.ref (E.1 4), a1, a2, a3] w (some v2) w2) (hdd : d' + 1 ≤ d) (hr : (rest.map fun v => v.category).sum ≤ 8) (h : G E d RX6 cc nL ret rv w1 (pc + 3) lv (v2 :: rest) w2) : G E d RX6 cc nL ret rv w1 pc lv (a3 :: a2 :: a1 :: .ref (E.1 4) :: rest) w :=
  g_cvN (As := [a1, a2, a3]) (n := 3) (ci := 1) (rest := rest) hd lk_X6_144 ln_X1_barsOf lx_X1_barsOf li_X1 lc_X1_barsOf (by decide +kernel) (by decide) rfl rfl rfl (by decide) rfl hM hdd hr h
theorem lk_X6_148 : Cond.fieldLinkNest RX6 148 (TX3 4).1 (TX3 4).2.1 (TX3 4).2.2.1 "WardCourt" ∈ tblN := tblN_in 190 (by decide +kernel) (by decide +kernel)
theorem gf_X6_148 (hd : decode cc pc = .ok (.getfield 148, 3)) (h : G E d RX6 cc nL ret rv w1 (pc + 3) lv (.int (w 5 4) :: st) w) : G E d RX6 cc nL ret rv w1 pc lv (.ref (E.1 5) :: st) w := g_gfN (C := RX3) (T := TX3) (N := 5) (ci := 3) (k := 4) hd igX3 (by decide) rfl rfl rfl (by decide) lk_X6_148 rfl h
theorem lk_X6_149 : Cond.methodLinkNest RX6 149 yX3_add "WardCourt" ∈ tblN := tblN_in 498 (by decide +kernel) (by decide +kernel)
theorem lc_X3_add : Cond.code yX3_add cX3_add 5 (none) ∈ tblG := tblG_in 501 (by decide +kernel) (by decide +kernel)
theorem ln_X3_add : Cond.instanceMethod yX3_add ∈ tblG := tblG_in 500 (by decide +kernel) (by decide +kernel)
theorem lx_X3_add : Cond.selects RX3 yX3_add yX3_add ∈ tblG := tblG_in 40 (by decide +kernel) (by decide +kernel)
theorem ca_X6_149 {a1 a2 a3 a4 : Value} {d' : Nat} {rest : List Value} {w2 : W0} (hd : decode cc pc = .ok (.invokevirtual 149, 3)) (hM : Mt E d' yX3_add cX3_add 5 (none) [.ref (E.1 5), a1, a2, a3, a4] w none w2) (hdd : d' + 1 ≤ d) (hr : (rest.map fun v => v.category).sum ≤ 8) (h : G E d RX6 cc nL ret rv w1 (pc + 3) lv (rest) w2) : G E d RX6 cc nL ret rv w1 pc lv (a4 :: a3 :: a2 :: a1 :: .ref (E.1 5) :: rest) w :=
  g_cvN (As := [a1, a2, a3, a4]) (n := 4) (ci := 3) (rest := rest) hd lk_X6_149 ln_X3_add lx_X3_add li_X3 lc_X3_add (by decide +kernel) (by decide) rfl rfl rfl (by decide) rfl hM hdd hr h
theorem lk_X6_152 : Cond.methodLinkNest RX6 152 yX3_flawsOf "WardCourt" ∈ tblN := tblN_in 506 (by decide +kernel) (by decide +kernel)
theorem lc_X3_flawsOf : Cond.code yX3_flawsOf cX3_flawsOf 5 (some .int) ∈ tblG := tblG_in 509 (by decide +kernel) (by decide +kernel)
theorem ln_X3_flawsOf : Cond.instanceMethod yX3_flawsOf ∈ tblG := tblG_in 508 (by decide +kernel) (by decide +kernel)
theorem lx_X3_flawsOf : Cond.selects RX3 yX3_flawsOf yX3_flawsOf ∈ tblG := tblG_in 41 (by decide +kernel) (by decide +kernel)
theorem ca_X6_152 {a1 a2 a3 : Value} {d' : Nat} {rest : List Value} {v2 : Value} {w2 : W0} (hd : decode cc pc = .ok (.invokevirtual 152, 3)) (hM : Mt E d' yX3_flawsOf cX3_flawsOf 5 (some .int) [.ref (E.1 5), a1, a2, a3] w (some v2) w2) (hdd : d' + 1 ≤ d) (hr : (rest.map fun v => v.category).sum ≤ 8) (h : G E d RX6 cc nL ret rv w1 (pc + 3) lv (v2 :: rest) w2) : G E d RX6 cc nL ret rv w1 pc lv (a3 :: a2 :: a1 :: .ref (E.1 5) :: rest) w :=
  g_cvN (As := [a1, a2, a3]) (n := 3) (ci := 3) (rest := rest) hd lk_X6_152 ln_X3_flawsOf lx_X3_flawsOf li_X3 lc_X3_flawsOf (by decide +kernel) (by decide) rfl rfl rfl (by decide) rfl hM hdd hr h
theorem lk_X6_155 : Cond.methodLinkNest RX6 155 yX3_dueBy "WardCourt" ∈ tblN := tblN_in 517 (by decide +kernel) (by decide +kernel)
theorem lc_X3_dueBy : Cond.code yX3_dueBy cX3_dueBy 4 (some .int) ∈ tblG := tblG_in 520 (by decide +kernel) (by decide +kernel)
theorem ln_X3_dueBy : Cond.instanceMethod yX3_dueBy ∈ tblG := tblG_in 519 (by decide +kernel) (by decide +kernel)
theorem lx_X3_dueBy : Cond.selects RX3 yX3_dueBy yX3_dueBy ∈ tblG := tblG_in 42 (by decide +kernel) (by decide +kernel)
theorem ca_X6_155 {a1 a2 : Value} {d' : Nat} {rest : List Value} {v2 : Value} {w2 : W0} (hd : decode cc pc = .ok (.invokevirtual 155, 3)) (hM : Mt E d' yX3_dueBy cX3_dueBy 4 (some .int) [.ref (E.1 5), a1, a2] w (some v2) w2) (hdd : d' + 1 ≤ d) (hr : (rest.map fun v => v.category).sum ≤ 8) (h : G E d RX6 cc nL ret rv w1 (pc + 3) lv (v2 :: rest) w2) : G E d RX6 cc nL ret rv w1 pc lv (a2 :: a1 :: .ref (E.1 5) :: rest) w :=
  g_cvN (As := [a1, a2]) (n := 2) (ci := 3) (rest := rest) hd lk_X6_155 ln_X3_dueBy lx_X3_dueBy li_X3 lc_X3_dueBy (by decide +kernel) (by decide) rfl rfl rfl (by decide) rfl hM hdd hr h
theorem lk_X6_158 : Cond.methodLinkNest RX6 158 yX1_hadOf "WardCourt" ∈ tblN := tblN_in 524 (by decide +kernel) (by decide +kernel)
theorem lc_X1_hadOf : Cond.code yX1_hadOf cX1_hadOf 5 (some .int) ∈ tblG := tblG_in 527 (by decide +kernel) (by decide +kernel)
theorem ln_X1_hadOf : Cond.instanceMethod yX1_hadOf ∈ tblG := tblG_in 526 (by decide +kernel) (by decide +kernel)
theorem lx_X1_hadOf : Cond.selects RX1 yX1_hadOf yX1_hadOf ∈ tblG := tblG_in 43 (by decide +kernel) (by decide +kernel)
theorem ca_X6_158 {a1 a2 : Value} {d' : Nat} {rest : List Value} {v2 : Value} {w2 : W0} (hd : decode cc pc = .ok (.invokevirtual 158, 3)) (hM : Mt E d' yX1_hadOf cX1_hadOf 5 (some .int) [.ref (E.1 4), a1, a2] w (some v2) w2) (hdd : d' + 1 ≤ d) (hr : (rest.map fun v => v.category).sum ≤ 8) (h : G E d RX6 cc nL ret rv w1 (pc + 3) lv (v2 :: rest) w2) : G E d RX6 cc nL ret rv w1 pc lv (a2 :: a1 :: .ref (E.1 4) :: rest) w :=
  g_cvN (As := [a1, a2]) (n := 2) (ci := 1) (rest := rest) hd lk_X6_158 ln_X1_hadOf lx_X1_hadOf li_X1 lc_X1_hadOf (by decide +kernel) (by decide) rfl rfl rfl (by decide) rfl hM hdd hr h
theorem lk_X6_161 : Cond.methodLinkNest RX6 161 yX0_potAfter "WardCourt" ∈ tblN := tblN_in 532 (by decide +kernel) (by decide +kernel)
theorem lc_X0_potAfter : Cond.code yX0_potAfter cX0_potAfter 9 (some .int) ∈ tblG := tblG_in 535 (by decide +kernel) (by decide +kernel)
theorem ln_X0_potAfter : Cond.instanceMethod yX0_potAfter ∈ tblG := tblG_in 534 (by decide +kernel) (by decide +kernel)
theorem lx_X0_potAfter : Cond.selects RX0 yX0_potAfter yX0_potAfter ∈ tblG := tblG_in 44 (by decide +kernel) (by decide +kernel)
theorem ca_X6_161 {a1 a2 a3 : Value} {d' : Nat} {rest : List Value} {v2 : Value} {w2 : W0} (hd : decode cc pc = .ok (.invokevirtual 161, 3)) (hM : Mt E d' yX0_potAfter cX0_potAfter 9 (some .int) [.ref (E.1 6), a1, a2, a3] w (some v2) w2) (hdd : d' + 1 ≤ d) (hr : (rest.map fun v => v.category).sum ≤ 8) (h : G E d RX6 cc nL ret rv w1 (pc + 3) lv (v2 :: rest) w2) : G E d RX6 cc nL ret rv w1 pc lv (a3 :: a2 :: a1 :: .ref (E.1 6) :: rest) w :=
  g_cvN (As := [a1, a2, a3]) (n := 3) (ci := 0) (rest := rest) hd lk_X6_161 ln_X0_potAfter lx_X0_potAfter li_X0 lc_X0_potAfter (by decide +kernel) (by decide) rfl rfl rfl (by decide) rfl hM hdd hr h
theorem lk_X6_165 : Cond.methodLink RX6 165 yX6_isYear ∈ tblG := tblG_in 550 (by decide +kernel) (by decide +kernel)
theorem ca_X6_165 {a1 : Value} {d' : Nat} {rest : List Value} {v2 : Value} {w2 : W0} (hd : decode cc pc = .ok (.invokestatic 165, 3)) (hM : Mt E d' yX6_isYear cX6_isYear 1 (some .boolean) [a1] w (some v2) w2) (hdd : d' + 1 ≤ d) (hr : (rest.map fun v => v.category).sum ≤ 8) (h : G E d RX6 cc nL ret rv w1 (pc + 3) lv (v2 :: rest) w2) : G E d RX6 cc nL ret rv w1 pc lv (a1 :: rest) w :=
  g_cs (As := [a1]) (n := 1) (rest := rest) hd lk_X6_165 ls_X6_isYear li_X6 lc_X6_isYear (by decide +kernel) (by decide) rfl hM hdd hr h
theorem lk_X6_168 : Cond.methodLinkNest RX6 168 yX0_entry "WardCourt" ∈ tblN := tblN_in 551 (by decide +kernel) (by decide +kernel)
theorem ca_X6_168 {a1 a2 : Value} {d' : Nat} {rest : List Value} {v2 : Value} {w2 : W0} (hd : decode cc pc = .ok (.invokevirtual 168, 3)) (hM : Mt E d' yX0_entry cX0_entry 3 (some .int) [.ref (E.1 6), a1, a2] w (some v2) w2) (hdd : d' + 1 ≤ d) (hr : (rest.map fun v => v.category).sum ≤ 8) (h : G E d RX6 cc nL ret rv w1 (pc + 3) lv (v2 :: rest) w2) : G E d RX6 cc nL ret rv w1 pc lv (a2 :: a1 :: .ref (E.1 6) :: rest) w :=
  g_cvN (As := [a1, a2]) (n := 2) (ci := 0) (rest := rest) hd lk_X6_168 ln_X0_entry lx_X0_entry li_X0 lc_X0_entry (by decide +kernel) (by decide) rfl rfl rfl (by decide) rfl hM hdd hr h
theorem lk_X6_171 : Cond.methodLinkNest RX6 171 yX0_keep "WardCourt" ∈ tblN := tblN_in 556 (by decide +kernel) (by decide +kernel)
theorem lc_X0_keep : Cond.code yX0_keep cX0_keep 3 (none) ∈ tblG := tblG_in 559 (by decide +kernel) (by decide +kernel)
theorem ln_X0_keep : Cond.instanceMethod yX0_keep ∈ tblG := tblG_in 558 (by decide +kernel) (by decide +kernel)
theorem lx_X0_keep : Cond.selects RX0 yX0_keep yX0_keep ∈ tblG := tblG_in 47 (by decide +kernel) (by decide +kernel)
theorem ca_X6_171 {a1 : Value} {d' : Nat} {rest : List Value} {w2 : W0} (hd : decode cc pc = .ok (.invokevirtual 171, 3)) (hM : Mt E d' yX0_keep cX0_keep 3 (none) [.ref (E.1 6), a1] w none w2) (hdd : d' + 1 ≤ d) (hr : (rest.map fun v => v.category).sum ≤ 8) (h : G E d RX6 cc nL ret rv w1 (pc + 3) lv (rest) w2) : G E d RX6 cc nL ret rv w1 pc lv (a1 :: .ref (E.1 6) :: rest) w :=
  g_cvN (As := [a1]) (n := 1) (ci := 0) (rest := rest) hd lk_X6_171 ln_X0_keep lx_X0_keep li_X0 lc_X0_keep (by decide +kernel) (by decide) rfl rfl rfl (by decide) rfl hM hdd hr h
theorem lk_X6_174 : Cond.methodLinkNest RX6 174 yX0_wasKept "WardCourt" ∈ tblN := tblN_in 564 (by decide +kernel) (by decide +kernel)
theorem ca_X6_174 {a1 : Value} {d' : Nat} {rest : List Value} {v2 : Value} {w2 : W0} (hd : decode cc pc = .ok (.invokevirtual 174, 3)) (hM : Mt E d' yX0_wasKept cX0_wasKept 2 (some .boolean) [.ref (E.1 6), a1] w (some v2) w2) (hdd : d' + 1 ≤ d) (hr : (rest.map fun v => v.category).sum ≤ 8) (h : G E d RX6 cc nL ret rv w1 (pc + 3) lv (v2 :: rest) w2) : G E d RX6 cc nL ret rv w1 pc lv (a1 :: .ref (E.1 6) :: rest) w :=
  g_cvN (As := [a1]) (n := 1) (ci := 0) (rest := rest) hd lk_X6_174 ln_X0_wasKept lx_X0_wasKept li_X0 lc_X0_wasKept (by decide +kernel) (by decide) rfl rfl rfl (by decide) rfl hM hdd hr h
theorem lk_X6_177 : Cond.constant RX6 177 (-100000003 : Int32) ∈ tblG := tblG_in 568 (by decide +kernel) (by decide +kernel)
theorem lk_X6_178 : Cond.methodLinkNest RX6 178 yX0_keptEntry "WardCourt" ∈ tblN := tblN_in 569 (by decide +kernel) (by decide +kernel)
theorem ca_X6_178 {a1 a2 : Value} {d' : Nat} {rest : List Value} {v2 : Value} {w2 : W0} (hd : decode cc pc = .ok (.invokevirtual 178, 3)) (hM : Mt E d' yX0_keptEntry cX0_keptEntry 3 (some .int) [.ref (E.1 6), a1, a2] w (some v2) w2) (hdd : d' + 1 ≤ d) (hr : (rest.map fun v => v.category).sum ≤ 8) (h : G E d RX6 cc nL ret rv w1 (pc + 3) lv (v2 :: rest) w2) : G E d RX6 cc nL ret rv w1 pc lv (a2 :: a1 :: .ref (E.1 6) :: rest) w :=
  g_cvN (As := [a1, a2]) (n := 2) (ci := 0) (rest := rest) hd lk_X6_178 ln_X0_keptEntry lx_X0_keptEntry li_X0 lc_X0_keptEntry (by decide +kernel) (by decide) rfl rfl rfl (by decide) rfl hM hdd hr h
theorem lk_X6_181 : Cond.methodLinkNest RX6 181 yX0_changedYears "WardCourt" ∈ tblN := tblN_in 577 (by decide +kernel) (by decide +kernel)
theorem lc_X0_changedYears : Cond.code yX0_changedYears cX0_changedYears 3 (some .int) ∈ tblG := tblG_in 580 (by decide +kernel) (by decide +kernel)
theorem ln_X0_changedYears : Cond.instanceMethod yX0_changedYears ∈ tblG := tblG_in 579 (by decide +kernel) (by decide +kernel)
theorem lx_X0_changedYears : Cond.selects RX0 yX0_changedYears yX0_changedYears ∈ tblG := tblG_in 50 (by decide +kernel) (by decide +kernel)
theorem ca_X6_181 {d' : Nat} {rest : List Value} {v2 : Value} {w2 : W0} (hd : decode cc pc = .ok (.invokevirtual 181, 3)) (hM : Mt E d' yX0_changedYears cX0_changedYears 3 (some .int) [.ref (E.1 6)] w (some v2) w2) (hdd : d' + 1 ≤ d) (hr : (rest.map fun v => v.category).sum ≤ 8) (h : G E d RX6 cc nL ret rv w1 (pc + 3) lv (v2 :: rest) w2) : G E d RX6 cc nL ret rv w1 pc lv (.ref (E.1 6) :: rest) w :=
  g_cvN (As := []) (n := 0) (ci := 0) (rest := rest) hd lk_X6_181 ln_X0_changedYears lx_X0_changedYears li_X0 lc_X0_changedYears (by decide +kernel) (by decide) rfl rfl rfl (by decide) rfl hM hdd hr h
theorem lk_X6_185 : Cond.fieldLinkNest RX6 185 (TX0 2).1 (TX0 2).2.1 (TX0 2).2.2.1 "WardCourt" ∈ tblN := tblN_in 212 (by decide +kernel) (by decide +kernel)
theorem gf_X6_185 (hd : decode cc pc = .ok (.getfield 185, 3)) (h : G E d RX6 cc nL ret rv w1 (pc + 3) lv (.int (w 6 2) :: st) w) : G E d RX6 cc nL ret rv w1 pc lv (.ref (E.1 6) :: st) w := g_gfN (C := RX0) (T := TX0) (N := 3) (ci := 0) (k := 2) hd igX0 (by decide) rfl rfl rfl (by decide) lk_X6_185 rfl h
theorem lk_X6_188 : Cond.methodLinkNest RX6 188 yX5_settleDays "WardCourt" ∈ tblN := tblN_in 305 (by decide +kernel) (by decide +kernel)
theorem lc_X5_settleDays : Cond.code yX5_settleDays cX5_settleDays 4 (none) ∈ tblG := tblG_in 308 (by decide +kernel) (by decide +kernel)
theorem ln_X5_settleDays : Cond.instanceMethod yX5_settleDays ∈ tblG := tblG_in 307 (by decide +kernel) (by decide +kernel)
theorem lx_X5_settleDays : Cond.selects RX5 yX5_settleDays yX5_settleDays ∈ tblG := tblG_in 8 (by decide +kernel) (by decide +kernel)
theorem ca_X6_188 {a1 : Value} {d' : Nat} {rest : List Value} {w2 : W0} (hd : decode cc pc = .ok (.invokevirtual 188, 3)) (hM : Mt E d' yX5_settleDays cX5_settleDays 4 (none) [.ref (E.1 2), a1] w none w2) (hdd : d' + 1 ≤ d) (hr : (rest.map fun v => v.category).sum ≤ 8) (h : G E d RX6 cc nL ret rv w1 (pc + 3) lv (rest) w2) : G E d RX6 cc nL ret rv w1 pc lv (a1 :: .ref (E.1 2) :: rest) w :=
  g_cvN (As := [a1]) (n := 1) (ci := 5) (rest := rest) hd lk_X6_188 ln_X5_settleDays lx_X5_settleDays li_X5 lc_X5_settleDays (by decide +kernel) (by decide) rfl rfl rfl (by decide) rfl hM hdd hr h
theorem lk_X6_192 : Cond.methodLinkNest RX6 192 yX1_settleAllowed "WardCourt" ∈ tblN := tblN_in 322 (by decide +kernel) (by decide +kernel)
theorem lc_X1_settleAllowed : Cond.code yX1_settleAllowed cX1_settleAllowed 4 (none) ∈ tblG := tblG_in 325 (by decide +kernel) (by decide +kernel)
theorem ln_X1_settleAllowed : Cond.instanceMethod yX1_settleAllowed ∈ tblG := tblG_in 324 (by decide +kernel) (by decide +kernel)
theorem lx_X1_settleAllowed : Cond.selects RX1 yX1_settleAllowed yX1_settleAllowed ∈ tblG := tblG_in 12 (by decide +kernel) (by decide +kernel)
theorem ca_X6_192 {a1 a2 : Value} {d' : Nat} {rest : List Value} {w2 : W0} (hd : decode cc pc = .ok (.invokevirtual 192, 3)) (hM : Mt E d' yX1_settleAllowed cX1_settleAllowed 4 (none) [.ref (E.1 4), a1, a2] w none w2) (hdd : d' + 1 ≤ d) (hr : (rest.map fun v => v.category).sum ≤ 8) (h : G E d RX6 cc nL ret rv w1 (pc + 3) lv (rest) w2) : G E d RX6 cc nL ret rv w1 pc lv (a2 :: a1 :: .ref (E.1 4) :: rest) w :=
  g_cvN (As := [a1, a2]) (n := 2) (ci := 1) (rest := rest) hd lk_X6_192 ln_X1_settleAllowed lx_X1_settleAllowed li_X1 lc_X1_settleAllowed (by decide +kernel) (by decide) rfl rfl rfl (by decide) rfl hM hdd hr h
theorem lk_X6_196 : Cond.methodLinkNest RX6 196 yX0_reckon "WardCourt" ∈ tblN := tblN_in 347 (by decide +kernel) (by decide +kernel)
theorem lc_X0_reckon : Cond.code yX0_reckon cX0_reckon 6 (none) ∈ tblG := tblG_in 350 (by decide +kernel) (by decide +kernel)
theorem ln_X0_reckon : Cond.instanceMethod yX0_reckon ∈ tblG := tblG_in 349 (by decide +kernel) (by decide +kernel)
theorem lx_X0_reckon : Cond.selects RX0 yX0_reckon yX0_reckon ∈ tblG := tblG_in 18 (by decide +kernel) (by decide +kernel)
theorem ca_X6_196 {a1 a2 a3 : Value} {d' : Nat} {rest : List Value} {w2 : W0} (hd : decode cc pc = .ok (.invokevirtual 196, 3)) (hM : Mt E d' yX0_reckon cX0_reckon 6 (none) [.ref (E.1 6), a1, a2, a3] w none w2) (hdd : d' + 1 ≤ d) (hr : (rest.map fun v => v.category).sum ≤ 8) (h : G E d RX6 cc nL ret rv w1 (pc + 3) lv (rest) w2) : G E d RX6 cc nL ret rv w1 pc lv (a3 :: a2 :: a1 :: .ref (E.1 6) :: rest) w :=
  g_cvN (As := [a1, a2, a3]) (n := 3) (ci := 0) (rest := rest) hd lk_X6_196 ln_X0_reckon lx_X0_reckon li_X0 lc_X0_reckon (by decide +kernel) (by decide) rfl rfl rfl (by decide) rfl hM hdd hr h
theorem lk_X7_7 : Cond.fieldLink RX7 7 (TX7 1).1 (TX7 1).2.1 (TX7 1).2.2.1 ∈ tblG := tblG_in 598 (by decide +kernel) (by decide +kernel)
theorem gf_X7_7 (hd : decode cc pc = .ok (.getfield 7, 3)) (h : G E d RX7 cc nL ret rv w1 (pc + 3) lv (.ref (E.1 58) :: st) w) : G E d RX7 cc nL ret rv w1 pc lv (.ref (E.1 57) :: st) w := g_gf (C := RX7) (T := TX7) (N := 29) (ci := 7) (k := 1) hd igX7 (by decide) rfl rfl rfl (by decide) lk_X7_7 rfl h
theorem lk_X7_13 : Cond.fieldLink RX7 13 (TX7 2).1 (TX7 2).2.1 (TX7 2).2.2.1 ∈ tblG := tblG_in 599 (by decide +kernel) (by decide +kernel)
theorem gf_X7_13 (hd : decode cc pc = .ok (.getfield 13, 3)) (h : G E d RX7 cc nL ret rv w1 (pc + 3) lv (.ref (E.1 59) :: st) w) : G E d RX7 cc nL ret rv w1 pc lv (.ref (E.1 57) :: st) w := g_gf (C := RX7) (T := TX7) (N := 29) (ci := 7) (k := 2) hd igX7 (by decide) rfl rfl rfl (by decide) lk_X7_13 rfl h
theorem lk_X7_16 : Cond.fieldLink RX7 16 (TX7 4).1 (TX7 4).2.1 (TX7 4).2.2.1 ∈ tblG := tblG_in 601 (by decide +kernel) (by decide +kernel)
theorem gf_X7_16 (hd : decode cc pc = .ok (.getfield 16, 3)) (h : G E d RX7 cc nL ret rv w1 (pc + 3) lv (.ref (E.1 60) :: st) w) : G E d RX7 cc nL ret rv w1 pc lv (.ref (E.1 57) :: st) w := g_gf (C := RX7) (T := TX7) (N := 29) (ci := 7) (k := 4) hd igX7 (by decide) rfl rfl rfl (by decide) lk_X7_16 rfl h
theorem lk_X7_19 : Cond.fieldLink RX7 19 (TX7 5).1 (TX7 5).2.1 (TX7 5).2.2.1 ∈ tblG := tblG_in 602 (by decide +kernel) (by decide +kernel)
theorem gf_X7_19 (hd : decode cc pc = .ok (.getfield 19, 3)) (h : G E d RX7 cc nL ret rv w1 (pc + 3) lv (.ref (E.1 61) :: st) w) : G E d RX7 cc nL ret rv w1 pc lv (.ref (E.1 57) :: st) w := g_gf (C := RX7) (T := TX7) (N := 29) (ci := 7) (k := 5) hd igX7 (by decide) rfl rfl rfl (by decide) lk_X7_19 rfl h
theorem lk_X7_22 : Cond.fieldLink RX7 22 (TX7 7).1 (TX7 7).2.1 (TX7 7).2.2.1 ∈ tblG := tblG_in 604 (by decide +kernel) (by decide +kernel)
theorem gf_X7_22 (hd : decode cc pc = .ok (.getfield 22, 3)) (h : G E d RX7 cc nL ret rv w1 (pc + 3) lv (.ref (E.1 62) :: st) w) : G E d RX7 cc nL ret rv w1 pc lv (.ref (E.1 57) :: st) w := g_gf (C := RX7) (T := TX7) (N := 29) (ci := 7) (k := 7) hd igX7 (by decide) rfl rfl rfl (by decide) lk_X7_22 rfl h
theorem lk_X7_25 : Cond.fieldLink RX7 25 (TX7 8).1 (TX7 8).2.1 (TX7 8).2.2.1 ∈ tblG := tblG_in 605 (by decide +kernel) (by decide +kernel)
theorem gf_X7_25 (hd : decode cc pc = .ok (.getfield 25, 3)) (h : G E d RX7 cc nL ret rv w1 (pc + 3) lv (.ref (E.1 63) :: st) w) : G E d RX7 cc nL ret rv w1 pc lv (.ref (E.1 57) :: st) w := g_gf (C := RX7) (T := TX7) (N := 29) (ci := 7) (k := 8) hd igX7 (by decide) rfl rfl rfl (by decide) lk_X7_25 rfl h
theorem lk_X7_28 : Cond.fieldLink RX7 28 (TX7 10).1 (TX7 10).2.1 (TX7 10).2.2.1 ∈ tblG := tblG_in 607 (by decide +kernel) (by decide +kernel)
theorem gf_X7_28 (hd : decode cc pc = .ok (.getfield 28, 3)) (h : G E d RX7 cc nL ret rv w1 (pc + 3) lv (.ref (E.1 64) :: st) w) : G E d RX7 cc nL ret rv w1 pc lv (.ref (E.1 57) :: st) w := g_gf (C := RX7) (T := TX7) (N := 29) (ci := 7) (k := 10) hd igX7 (by decide) rfl rfl rfl (by decide) lk_X7_28 rfl h
theorem lk_X7_32 : Cond.fieldLink RX7 32 (TX7 11).1 (TX7 11).2.1 (TX7 11).2.2.1 ∈ tblG := tblG_in 608 (by decide +kernel) (by decide +kernel)
theorem gf_X7_32 (hd : decode cc pc = .ok (.getfield 32, 3)) (h : G E d RX7 cc nL ret rv w1 (pc + 3) lv (.ref (E.1 65) :: st) w) : G E d RX7 cc nL ret rv w1 pc lv (.ref (E.1 57) :: st) w := g_gf (C := RX7) (T := TX7) (N := 29) (ci := 7) (k := 11) hd igX7 (by decide) rfl rfl rfl (by decide) lk_X7_32 rfl h
theorem lk_X7_35 : Cond.fieldLink RX7 35 (TX7 12).1 (TX7 12).2.1 (TX7 12).2.2.1 ∈ tblG := tblG_in 609 (by decide +kernel) (by decide +kernel)
theorem gf_X7_35 (hd : decode cc pc = .ok (.getfield 35, 3)) (h : G E d RX7 cc nL ret rv w1 (pc + 3) lv (.ref (E.1 66) :: st) w) : G E d RX7 cc nL ret rv w1 pc lv (.ref (E.1 57) :: st) w := g_gf (C := RX7) (T := TX7) (N := 29) (ci := 7) (k := 12) hd igX7 (by decide) rfl rfl rfl (by decide) lk_X7_35 rfl h
theorem lk_X7_38 : Cond.fieldLink RX7 38 (TX7 13).1 (TX7 13).2.1 (TX7 13).2.2.1 ∈ tblG := tblG_in 610 (by decide +kernel) (by decide +kernel)
theorem gf_X7_38 (hd : decode cc pc = .ok (.getfield 38, 3)) (h : G E d RX7 cc nL ret rv w1 (pc + 3) lv (.ref (E.1 67) :: st) w) : G E d RX7 cc nL ret rv w1 pc lv (.ref (E.1 57) :: st) w := g_gf (C := RX7) (T := TX7) (N := 29) (ci := 7) (k := 13) hd igX7 (by decide) rfl rfl rfl (by decide) lk_X7_38 rfl h
theorem lk_X7_41 : Cond.fieldLink RX7 41 (TX7 14).1 (TX7 14).2.1 (TX7 14).2.2.1 ∈ tblG := tblG_in 611 (by decide +kernel) (by decide +kernel)
theorem gf_X7_41 (hd : decode cc pc = .ok (.getfield 41, 3)) (h : G E d RX7 cc nL ret rv w1 (pc + 3) lv (.ref (E.1 68) :: st) w) : G E d RX7 cc nL ret rv w1 pc lv (.ref (E.1 57) :: st) w := g_gf (C := RX7) (T := TX7) (N := 29) (ci := 7) (k := 14) hd igX7 (by decide) rfl rfl rfl (by decide) lk_X7_41 rfl h
theorem lk_X7_44 : Cond.fieldLink RX7 44 (TX7 15).1 (TX7 15).2.1 (TX7 15).2.2.1 ∈ tblG := tblG_in 612 (by decide +kernel) (by decide +kernel)
theorem gf_X7_44 (hd : decode cc pc = .ok (.getfield 44, 3)) (h : G E d RX7 cc nL ret rv w1 (pc + 3) lv (.ref (E.1 69) :: st) w) : G E d RX7 cc nL ret rv w1 pc lv (.ref (E.1 57) :: st) w := g_gf (C := RX7) (T := TX7) (N := 29) (ci := 7) (k := 15) hd igX7 (by decide) rfl rfl rfl (by decide) lk_X7_44 rfl h
theorem lk_X7_47 : Cond.fieldLink RX7 47 (TX7 17).1 (TX7 17).2.1 (TX7 17).2.2.1 ∈ tblG := tblG_in 614 (by decide +kernel) (by decide +kernel)
theorem gf_X7_47 (hd : decode cc pc = .ok (.getfield 47, 3)) (h : G E d RX7 cc nL ret rv w1 (pc + 3) lv (.ref (E.1 70) :: st) w) : G E d RX7 cc nL ret rv w1 pc lv (.ref (E.1 57) :: st) w := g_gf (C := RX7) (T := TX7) (N := 29) (ci := 7) (k := 17) hd igX7 (by decide) rfl rfl rfl (by decide) lk_X7_47 rfl h
theorem lk_X7_50 : Cond.fieldLink RX7 50 (TX7 18).1 (TX7 18).2.1 (TX7 18).2.2.1 ∈ tblG := tblG_in 615 (by decide +kernel) (by decide +kernel)
theorem gf_X7_50 (hd : decode cc pc = .ok (.getfield 50, 3)) (h : G E d RX7 cc nL ret rv w1 (pc + 3) lv (.ref (E.1 71) :: st) w) : G E d RX7 cc nL ret rv w1 pc lv (.ref (E.1 57) :: st) w := g_gf (C := RX7) (T := TX7) (N := 29) (ci := 7) (k := 18) hd igX7 (by decide) rfl rfl rfl (by decide) lk_X7_50 rfl h
theorem lk_X7_53 : Cond.fieldLink RX7 53 (TX7 19).1 (TX7 19).2.1 (TX7 19).2.2.1 ∈ tblG := tblG_in 616 (by decide +kernel) (by decide +kernel)
theorem gf_X7_53 (hd : decode cc pc = .ok (.getfield 53, 3)) (h : G E d RX7 cc nL ret rv w1 (pc + 3) lv (.ref (E.1 72) :: st) w) : G E d RX7 cc nL ret rv w1 pc lv (.ref (E.1 57) :: st) w := g_gf (C := RX7) (T := TX7) (N := 29) (ci := 7) (k := 19) hd igX7 (by decide) rfl rfl rfl (by decide) lk_X7_53 rfl h
theorem lk_X7_56 : Cond.fieldLink RX7 56 (TX7 20).1 (TX7 20).2.1 (TX7 20).2.2.1 ∈ tblG := tblG_in 617 (by decide +kernel) (by decide +kernel)
theorem gf_X7_56 (hd : decode cc pc = .ok (.getfield 56, 3)) (h : G E d RX7 cc nL ret rv w1 (pc + 3) lv (.ref (E.1 73) :: st) w) : G E d RX7 cc nL ret rv w1 pc lv (.ref (E.1 57) :: st) w := g_gf (C := RX7) (T := TX7) (N := 29) (ci := 7) (k := 20) hd igX7 (by decide) rfl rfl rfl (by decide) lk_X7_56 rfl h
theorem lk_X7_59 : Cond.fieldLink RX7 59 (TX7 21).1 (TX7 21).2.1 (TX7 21).2.2.1 ∈ tblG := tblG_in 618 (by decide +kernel) (by decide +kernel)
theorem gf_X7_59 (hd : decode cc pc = .ok (.getfield 59, 3)) (h : G E d RX7 cc nL ret rv w1 (pc + 3) lv (.ref (E.1 74) :: st) w) : G E d RX7 cc nL ret rv w1 pc lv (.ref (E.1 57) :: st) w := g_gf (C := RX7) (T := TX7) (N := 29) (ci := 7) (k := 21) hd igX7 (by decide) rfl rfl rfl (by decide) lk_X7_59 rfl h
theorem lk_X7_62 : Cond.fieldLink RX7 62 (TX7 24).1 (TX7 24).2.1 (TX7 24).2.2.1 ∈ tblG := tblG_in 621 (by decide +kernel) (by decide +kernel)
theorem gf_X7_62 (hd : decode cc pc = .ok (.getfield 62, 3)) (h : G E d RX7 cc nL ret rv w1 (pc + 3) lv (.ref (E.1 75) :: st) w) : G E d RX7 cc nL ret rv w1 pc lv (.ref (E.1 57) :: st) w := g_gf (C := RX7) (T := TX7) (N := 29) (ci := 7) (k := 24) hd igX7 (by decide) rfl rfl rfl (by decide) lk_X7_62 rfl h
theorem lk_X7_65 : Cond.fieldLink RX7 65 (TX7 25).1 (TX7 25).2.1 (TX7 25).2.2.1 ∈ tblG := tblG_in 622 (by decide +kernel) (by decide +kernel)
theorem gf_X7_65 (hd : decode cc pc = .ok (.getfield 65, 3)) (h : G E d RX7 cc nL ret rv w1 (pc + 3) lv (.ref (E.1 76) :: st) w) : G E d RX7 cc nL ret rv w1 pc lv (.ref (E.1 57) :: st) w := g_gf (C := RX7) (T := TX7) (N := 29) (ci := 7) (k := 25) hd igX7 (by decide) rfl rfl rfl (by decide) lk_X7_65 rfl h
theorem lk_X7_68 : Cond.fieldLink RX7 68 (TX7 26).1 (TX7 26).2.1 (TX7 26).2.2.1 ∈ tblG := tblG_in 623 (by decide +kernel) (by decide +kernel)
theorem gf_X7_68 (hd : decode cc pc = .ok (.getfield 68, 3)) (h : G E d RX7 cc nL ret rv w1 (pc + 3) lv (.ref (E.1 77) :: st) w) : G E d RX7 cc nL ret rv w1 pc lv (.ref (E.1 57) :: st) w := g_gf (C := RX7) (T := TX7) (N := 29) (ci := 7) (k := 26) hd igX7 (by decide) rfl rfl rfl (by decide) lk_X7_68 rfl h
theorem lk_X7_71 : Cond.fieldLink RX7 71 (TX7 27).1 (TX7 27).2.1 (TX7 27).2.2.1 ∈ tblG := tblG_in 624 (by decide +kernel) (by decide +kernel)
theorem gf_X7_71 (hd : decode cc pc = .ok (.getfield 71, 3)) (h : G E d RX7 cc nL ret rv w1 (pc + 3) lv (.ref (E.1 78) :: st) w) : G E d RX7 cc nL ret rv w1 pc lv (.ref (E.1 57) :: st) w := g_gf (C := RX7) (T := TX7) (N := 29) (ci := 7) (k := 27) hd igX7 (by decide) rfl rfl rfl (by decide) lk_X7_71 rfl h
theorem lk_X7_74 : Cond.fieldLink RX7 74 (TX7 28).1 (TX7 28).2.1 (TX7 28).2.2.1 ∈ tblG := tblG_in 625 (by decide +kernel) (by decide +kernel)
theorem gf_X7_74 (hd : decode cc pc = .ok (.getfield 74, 3)) (h : G E d RX7 cc nL ret rv w1 (pc + 3) lv (.ref (E.1 79) :: st) w) : G E d RX7 cc nL ret rv w1 pc lv (.ref (E.1 57) :: st) w := g_gf (C := RX7) (T := TX7) (N := 29) (ci := 7) (k := 28) hd igX7 (by decide) rfl rfl rfl (by decide) lk_X7_74 rfl h
theorem lk_X7_77 : Cond.methodLink RX7 77 yX7_in ∈ tblG := tblG_in 692 (by decide +kernel) (by decide +kernel)
theorem lc_X7_in : Cond.code yX7_in cX7_in 3 (some .boolean) ∈ tblG := tblG_in 694 (by decide +kernel) (by decide +kernel)
theorem li_X7 : Cond.initialized RX7 ∈ tblG := tblG_in 73 (by decide +kernel) (by decide +kernel)
theorem ls_X7_in : Cond.static yX7_in ∈ tblG := tblG_in 693 (by decide +kernel) (by decide +kernel)
theorem ca_X7_77 {a1 a2 a3 : Value} {d' : Nat} {rest : List Value} {v2 : Value} {w2 : W0} (hd : decode cc pc = .ok (.invokestatic 77, 3)) (hM : Mt E d' yX7_in cX7_in 3 (some .boolean) [a1, a2, a3] w (some v2) w2) (hdd : d' + 1 ≤ d) (hr : (rest.map fun v => v.category).sum ≤ 8) (h : G E d RX7 cc nL ret rv w1 (pc + 3) lv (v2 :: rest) w2) : G E d RX7 cc nL ret rv w1 pc lv (a3 :: a2 :: a1 :: rest) w :=
  g_cs (As := [a1, a2, a3]) (n := 3) (rest := rest) hd lk_X7_77 ls_X7_in li_X7 lc_X7_in (by decide +kernel) (by decide) rfl hM hdd hr h
theorem lk_X7_81 : Cond.methodLink RX7 81 yX7_isDay ∈ tblG := tblG_in 689 (by decide +kernel) (by decide +kernel)
theorem lc_X7_isDay : Cond.code yX7_isDay cX7_isDay 1 (some .boolean) ∈ tblG := tblG_in 691 (by decide +kernel) (by decide +kernel)
theorem ls_X7_isDay : Cond.static yX7_isDay ∈ tblG := tblG_in 690 (by decide +kernel) (by decide +kernel)
theorem ca_X7_81 {a1 : Value} {d' : Nat} {rest : List Value} {v2 : Value} {w2 : W0} (hd : decode cc pc = .ok (.invokestatic 81, 3)) (hM : Mt E d' yX7_isDay cX7_isDay 1 (some .boolean) [a1] w (some v2) w2) (hdd : d' + 1 ≤ d) (hr : (rest.map fun v => v.category).sum ≤ 8) (h : G E d RX7 cc nL ret rv w1 (pc + 3) lv (v2 :: rest) w2) : G E d RX7 cc nL ret rv w1 pc lv (a1 :: rest) w :=
  g_cs (As := [a1]) (n := 1) (rest := rest) hd lk_X7_81 ls_X7_isDay li_X7 lc_X7_isDay (by decide +kernel) (by decide) rfl hM hdd hr h
theorem lk_X7_85 : Cond.fieldLink RX7 85 (TX7 0).1 (TX7 0).2.1 (TX7 0).2.2.1 ∈ tblG := tblG_in 597 (by decide +kernel) (by decide +kernel)
theorem gf_X7_85 (hd : decode cc pc = .ok (.getfield 85, 3)) (h : G E d RX7 cc nL ret rv w1 (pc + 3) lv (.int (w 57 0) :: st) w) : G E d RX7 cc nL ret rv w1 pc lv (.ref (E.1 57) :: st) w := g_gf (C := RX7) (T := TX7) (N := 29) (ci := 7) (k := 0) hd igX7 (by decide) rfl rfl rfl (by decide) lk_X7_85 rfl h
theorem pf_X7_85 {v : Int32} (hd : decode cc pc = .ok (.putfield 85, 3)) (h : G E d RX7 cc nL ret rv w1 (pc + 3) lv st (setW w 57 0 v)) : G E d RX7 cc nL ret rv w1 pc lv (.int v :: .ref (E.1 57) :: st) w := g_pf (C := RX7) (T := TX7) (N := 29) (ci := 7) (k := 0) .int tyX7 hd igX7 tyX7_ok nmX7 (by decide) rfl rfl rfl (by decide) lk_X7_85 rfl rfl (by decide +kernel) rfl rfl h
theorem lk_X7_89 : Cond.fieldLink RX7 89 (TX7 23).1 (TX7 23).2.1 (TX7 23).2.2.1 ∈ tblG := tblG_in 620 (by decide +kernel) (by decide +kernel)
theorem gf_X7_89 (hd : decode cc pc = .ok (.getfield 89, 3)) (h : G E d RX7 cc nL ret rv w1 (pc + 3) lv (.int (w 57 23) :: st) w) : G E d RX7 cc nL ret rv w1 pc lv (.ref (E.1 57) :: st) w := g_gf (C := RX7) (T := TX7) (N := 29) (ci := 7) (k := 23) hd igX7 (by decide) rfl rfl rfl (by decide) lk_X7_89 rfl h
theorem pf_X7_89 {v : Int32} (hd : decode cc pc = .ok (.putfield 89, 3)) (hb : narrow .boolean (.int v) = .int v) (hf : fits .boolean (.int v) = true) (h : G E d RX7 cc nL ret rv w1 (pc + 3) lv st (setW w 57 23 v)) : G E d RX7 cc nL ret rv w1 pc lv (.int v :: .ref (E.1 57) :: st) w := g_pf (C := RX7) (T := TX7) (N := 29) (ci := 7) (k := 23) .boolean tyX7 hd igX7 tyX7_ok nmX7 (by decide) rfl rfl rfl (by decide) lk_X7_89 rfl rfl (by decide +kernel) hb hf h
theorem lk_X7_93 : Cond.methodLink RX7 93 yX7_lawOn ∈ tblG := tblG_in 703 (by decide +kernel) (by decide +kernel)
theorem lc_X7_lawOn : Cond.code yX7_lawOn cX7_lawOn 4 (some .int) ∈ tblG := tblG_in 706 (by decide +kernel) (by decide +kernel)
theorem ln_X7_lawOn : Cond.instanceMethod yX7_lawOn ∈ tblG := tblG_in 705 (by decide +kernel) (by decide +kernel)
theorem lx_X7_lawOn : Cond.selects RX7 yX7_lawOn yX7_lawOn ∈ tblG := tblG_in 53 (by decide +kernel) (by decide +kernel)
theorem ca_X7_93 {a1 : Value} {d' : Nat} {rest : List Value} {v2 : Value} {w2 : W0} (hd : decode cc pc = .ok (.invokevirtual 93, 3)) (hM : Mt E d' yX7_lawOn cX7_lawOn 4 (some .int) [.ref (E.1 57), a1] w (some v2) w2) (hdd : d' + 1 ≤ d) (hr : (rest.map fun v => v.category).sum ≤ 8) (h : G E d RX7 cc nL ret rv w1 (pc + 3) lv (v2 :: rest) w2) : G E d RX7 cc nL ret rv w1 pc lv (a1 :: .ref (E.1 57) :: rest) w :=
  g_cv (As := [a1]) (n := 1) (ci := 7) (rest := rest) hd lk_X7_93 ln_X7_lawOn lx_X7_lawOn li_X7 lc_X7_lawOn (by decide +kernel) (by decide) rfl rfl rfl (by decide) rfl hM hdd hr h
theorem lk_X7_97 : Cond.methodLink RX7 97 yX7_inForce ∈ tblG := tblG_in 699 (by decide +kernel) (by decide +kernel)
theorem lc_X7_inForce : Cond.code yX7_inForce cX7_inForce 4 (some .int) ∈ tblG := tblG_in 702 (by decide +kernel) (by decide +kernel)
theorem ln_X7_inForce : Cond.instanceMethod yX7_inForce ∈ tblG := tblG_in 701 (by decide +kernel) (by decide +kernel)
theorem lx_X7_inForce : Cond.selects RX7 yX7_inForce yX7_inForce ∈ tblG := tblG_in 52 (by decide +kernel) (by decide +kernel)
theorem ca_X7_97 {a1 a2 : Value} {d' : Nat} {rest : List Value} {v2 : Value} {w2 : W0} (hd : decode cc pc = .ok (.invokevirtual 97, 3)) (hM : Mt E d' yX7_inForce cX7_inForce 4 (some .int) [.ref (E.1 57), a1, a2] w (some v2) w2) (hdd : d' + 1 ≤ d) (hr : (rest.map fun v => v.category).sum ≤ 8) (h : G E d RX7 cc nL ret rv w1 (pc + 3) lv (v2 :: rest) w2) : G E d RX7 cc nL ret rv w1 pc lv (a2 :: a1 :: .ref (E.1 57) :: rest) w :=
  g_cv (As := [a1, a2]) (n := 2) (ci := 7) (rest := rest) hd lk_X7_97 ln_X7_inForce lx_X7_inForce li_X7 lc_X7_inForce (by decide +kernel) (by decide) rfl rfl rfl (by decide) rfl hM hdd hr h
theorem lk_X7_101 : Cond.fieldLink RX7 101 (TX7 3).1 (TX7 3).2.1 (TX7 3).2.2.1 ∈ tblG := tblG_in 600 (by decide +kernel) (by decide +kernel)
theorem gf_X7_101 (hd : decode cc pc = .ok (.getfield 101, 3)) (h : G E d RX7 cc nL ret rv w1 (pc + 3) lv (.int (w 57 3) :: st) w) : G E d RX7 cc nL ret rv w1 pc lv (.ref (E.1 57) :: st) w := g_gf (C := RX7) (T := TX7) (N := 29) (ci := 7) (k := 3) hd igX7 (by decide) rfl rfl rfl (by decide) lk_X7_101 rfl h
theorem pf_X7_101 {v : Int32} (hd : decode cc pc = .ok (.putfield 101, 3)) (h : G E d RX7 cc nL ret rv w1 (pc + 3) lv st (setW w 57 3 v)) : G E d RX7 cc nL ret rv w1 pc lv (.int v :: .ref (E.1 57) :: st) w := g_pf (C := RX7) (T := TX7) (N := 29) (ci := 7) (k := 3) .int tyX7 hd igX7 tyX7_ok nmX7 (by decide) rfl rfl rfl (by decide) lk_X7_101 rfl rfl (by decide +kernel) rfl rfl h
theorem lk_X7_104 : Cond.methodLink RX7 104 yX7_isWard ∈ tblG := tblG_in 715 (by decide +kernel) (by decide +kernel)
theorem lc_X7_isWard : Cond.code yX7_isWard cX7_isWard 2 (some .boolean) ∈ tblG := tblG_in 718 (by decide +kernel) (by decide +kernel)
theorem ln_X7_isWard : Cond.instanceMethod yX7_isWard ∈ tblG := tblG_in 717 (by decide +kernel) (by decide +kernel)
theorem lx_X7_isWard : Cond.selects RX7 yX7_isWard yX7_isWard ∈ tblG := tblG_in 54 (by decide +kernel) (by decide +kernel)
theorem ca_X7_104 {a1 : Value} {d' : Nat} {rest : List Value} {v2 : Value} {w2 : W0} (hd : decode cc pc = .ok (.invokevirtual 104, 3)) (hM : Mt E d' yX7_isWard cX7_isWard 2 (some .boolean) [.ref (E.1 57), a1] w (some v2) w2) (hdd : d' + 1 ≤ d) (hr : (rest.map fun v => v.category).sum ≤ 8) (h : G E d RX7 cc nL ret rv w1 (pc + 3) lv (v2 :: rest) w2) : G E d RX7 cc nL ret rv w1 pc lv (a1 :: .ref (E.1 57) :: rest) w :=
  g_cv (As := [a1]) (n := 1) (ci := 7) (rest := rest) hd lk_X7_104 ln_X7_isWard lx_X7_isWard li_X7 lc_X7_isWard (by decide +kernel) (by decide) rfl rfl rfl (by decide) rfl hM hdd hr h
theorem lk_X7_107 : Cond.methodLink RX7 107 yX7_lives ∈ tblG := tblG_in 736 (by decide +kernel) (by decide +kernel)
theorem lc_X7_lives : Cond.code yX7_lives cX7_lives 3 (some .boolean) ∈ tblG := tblG_in 739 (by decide +kernel) (by decide +kernel)
theorem ln_X7_lives : Cond.instanceMethod yX7_lives ∈ tblG := tblG_in 738 (by decide +kernel) (by decide +kernel)
theorem lx_X7_lives : Cond.selects RX7 yX7_lives yX7_lives ∈ tblG := tblG_in 58 (by decide +kernel) (by decide +kernel)
theorem ca_X7_107 {a1 a2 : Value} {d' : Nat} {rest : List Value} {v2 : Value} {w2 : W0} (hd : decode cc pc = .ok (.invokevirtual 107, 3)) (hM : Mt E d' yX7_lives cX7_lives 3 (some .boolean) [.ref (E.1 57), a1, a2] w (some v2) w2) (hdd : d' + 1 ≤ d) (hr : (rest.map fun v => v.category).sum ≤ 8) (h : G E d RX7 cc nL ret rv w1 (pc + 3) lv (v2 :: rest) w2) : G E d RX7 cc nL ret rv w1 pc lv (a2 :: a1 :: .ref (E.1 57) :: rest) w :=
  g_cv (As := [a1, a2]) (n := 2) (ci := 7) (rest := rest) hd lk_X7_107 ln_X7_lives lx_X7_lives li_X7 lc_X7_lives (by decide +kernel) (by decide) rfl rfl rfl (by decide) rfl hM hdd hr h
theorem lk_X7_111 : Cond.constant RX7 111 (-100000001 : Int32) ∈ tblG := tblG_in 723 (by decide +kernel) (by decide +kernel)
theorem lk_X7_112 : Cond.methodLink RX7 112 yX7_lay ∈ tblG := tblG_in 724 (by decide +kernel) (by decide +kernel)
theorem lc_X7_lay : Cond.code yX7_lay cX7_lay 8 (none) ∈ tblG := tblG_in 727 (by decide +kernel) (by decide +kernel)
theorem ln_X7_lay : Cond.instanceMethod yX7_lay ∈ tblG := tblG_in 726 (by decide +kernel) (by decide +kernel)
theorem lx_X7_lay : Cond.selects RX7 yX7_lay yX7_lay ∈ tblG := tblG_in 55 (by decide +kernel) (by decide +kernel)
theorem ca_X7_112 {d' : Nat} {rest : List Value} {w2 : W0} (hd : decode cc pc = .ok (.invokevirtual 112, 3)) (hM : Mt E d' yX7_lay cX7_lay 8 (none) [.ref (E.1 57)] w none w2) (hdd : d' + 1 ≤ d) (hr : (rest.map fun v => v.category).sum ≤ 8) (h : G E d RX7 cc nL ret rv w1 (pc + 3) lv (rest) w2) : G E d RX7 cc nL ret rv w1 pc lv (.ref (E.1 57) :: rest) w :=
  g_cv (As := []) (n := 0) (ci := 7) (rest := rest) hd lk_X7_112 ln_X7_lay lx_X7_lay li_X7 lc_X7_lay (by decide +kernel) (by decide) rfl rfl rfl (by decide) rfl hM hdd hr h
theorem lk_X7_115 : Cond.constant RX7 115 (-100000002 : Int32) ∈ tblG := tblG_in 745 (by decide +kernel) (by decide +kernel)
theorem lk_X7_116 : Cond.methodLink RX7 116 yX7_headsOn ∈ tblG := tblG_in 740 (by decide +kernel) (by decide +kernel)
theorem lc_X7_headsOn : Cond.code yX7_headsOn cX7_headsOn 6 (some .int) ∈ tblG := tblG_in 743 (by decide +kernel) (by decide +kernel)
theorem ln_X7_headsOn : Cond.instanceMethod yX7_headsOn ∈ tblG := tblG_in 742 (by decide +kernel) (by decide +kernel)
theorem lx_X7_headsOn : Cond.selects RX7 yX7_headsOn yX7_headsOn ∈ tblG := tblG_in 59 (by decide +kernel) (by decide +kernel)
theorem ca_X7_116 {a1 a2 : Value} {d' : Nat} {rest : List Value} {v2 : Value} {w2 : W0} (hd : decode cc pc = .ok (.invokevirtual 116, 3)) (hM : Mt E d' yX7_headsOn cX7_headsOn 6 (some .int) [.ref (E.1 57), a1, a2] w (some v2) w2) (hdd : d' + 1 ≤ d) (hr : (rest.map fun v => v.category).sum ≤ 8) (h : G E d RX7 cc nL ret rv w1 (pc + 3) lv (v2 :: rest) w2) : G E d RX7 cc nL ret rv w1 pc lv (a2 :: a1 :: .ref (E.1 57) :: rest) w :=
  g_cv (As := [a1, a2]) (n := 2) (ci := 7) (rest := rest) hd lk_X7_116 ln_X7_headsOn lx_X7_headsOn li_X7 lc_X7_headsOn (by decide +kernel) (by decide) rfl rfl rfl (by decide) rfl hM hdd hr h
theorem lk_X7_120 : Cond.fieldLink RX7 120 (TX7 6).1 (TX7 6).2.1 (TX7 6).2.2.1 ∈ tblG := tblG_in 603 (by decide +kernel) (by decide +kernel)
theorem gf_X7_120 (hd : decode cc pc = .ok (.getfield 120, 3)) (h : G E d RX7 cc nL ret rv w1 (pc + 3) lv (.int (w 57 6) :: st) w) : G E d RX7 cc nL ret rv w1 pc lv (.ref (E.1 57) :: st) w := g_gf (C := RX7) (T := TX7) (N := 29) (ci := 7) (k := 6) hd igX7 (by decide) rfl rfl rfl (by decide) lk_X7_120 rfl h
theorem pf_X7_120 {v : Int32} (hd : decode cc pc = .ok (.putfield 120, 3)) (h : G E d RX7 cc nL ret rv w1 (pc + 3) lv st (setW w 57 6 v)) : G E d RX7 cc nL ret rv w1 pc lv (.int v :: .ref (E.1 57) :: st) w := g_pf (C := RX7) (T := TX7) (N := 29) (ci := 7) (k := 6) .int tyX7 hd igX7 tyX7_ok nmX7 (by decide) rfl rfl rfl (by decide) lk_X7_120 rfl rfl (by decide +kernel) rfl rfl h
theorem lk_X7_123 : Cond.methodLink RX7 123 yX7_isLeave ∈ tblG := tblG_in 758 (by decide +kernel) (by decide +kernel)
theorem lc_X7_isLeave : Cond.code yX7_isLeave cX7_isLeave 2 (some .boolean) ∈ tblG := tblG_in 761 (by decide +kernel) (by decide +kernel)
theorem ln_X7_isLeave : Cond.instanceMethod yX7_isLeave ∈ tblG := tblG_in 760 (by decide +kernel) (by decide +kernel)
theorem lx_X7_isLeave : Cond.selects RX7 yX7_isLeave yX7_isLeave ∈ tblG := tblG_in 60 (by decide +kernel) (by decide +kernel)
theorem ca_X7_123 {a1 : Value} {d' : Nat} {rest : List Value} {v2 : Value} {w2 : W0} (hd : decode cc pc = .ok (.invokevirtual 123, 3)) (hM : Mt E d' yX7_isLeave cX7_isLeave 2 (some .boolean) [.ref (E.1 57), a1] w (some v2) w2) (hdd : d' + 1 ≤ d) (hr : (rest.map fun v => v.category).sum ≤ 8) (h : G E d RX7 cc nL ret rv w1 (pc + 3) lv (v2 :: rest) w2) : G E d RX7 cc nL ret rv w1 pc lv (a1 :: .ref (E.1 57) :: rest) w :=
  g_cv (As := [a1]) (n := 1) (ci := 7) (rest := rest) hd lk_X7_123 ln_X7_isLeave lx_X7_isLeave li_X7 lc_X7_isLeave (by decide +kernel) (by decide) rfl rfl rfl (by decide) rfl hM hdd hr h
theorem lk_X7_126 : Cond.fieldLink RX7 126 (TX7 16).1 (TX7 16).2.1 (TX7 16).2.2.1 ∈ tblG := tblG_in 613 (by decide +kernel) (by decide +kernel)
theorem gf_X7_126 (hd : decode cc pc = .ok (.getfield 126, 3)) (h : G E d RX7 cc nL ret rv w1 (pc + 3) lv (.int (w 57 16) :: st) w) : G E d RX7 cc nL ret rv w1 pc lv (.ref (E.1 57) :: st) w := g_gf (C := RX7) (T := TX7) (N := 29) (ci := 7) (k := 16) hd igX7 (by decide) rfl rfl rfl (by decide) lk_X7_126 rfl h
theorem pf_X7_126 {v : Int32} (hd : decode cc pc = .ok (.putfield 126, 3)) (h : G E d RX7 cc nL ret rv w1 (pc + 3) lv st (setW w 57 16 v)) : G E d RX7 cc nL ret rv w1 pc lv (.int v :: .ref (E.1 57) :: st) w := g_pf (C := RX7) (T := TX7) (N := 29) (ci := 7) (k := 16) .int tyX7 hd igX7 tyX7_ok nmX7 (by decide) rfl rfl rfl (by decide) lk_X7_126 rfl rfl (by decide +kernel) rfl rfl h
theorem lk_X7_129 : Cond.fieldLink RX7 129 (TX7 9).1 (TX7 9).2.1 (TX7 9).2.2.1 ∈ tblG := tblG_in 606 (by decide +kernel) (by decide +kernel)
theorem gf_X7_129 (hd : decode cc pc = .ok (.getfield 129, 3)) (h : G E d RX7 cc nL ret rv w1 (pc + 3) lv (.int (w 57 9) :: st) w) : G E d RX7 cc nL ret rv w1 pc lv (.ref (E.1 57) :: st) w := g_gf (C := RX7) (T := TX7) (N := 29) (ci := 7) (k := 9) hd igX7 (by decide) rfl rfl rfl (by decide) lk_X7_129 rfl h
theorem pf_X7_129 {v : Int32} (hd : decode cc pc = .ok (.putfield 129, 3)) (h : G E d RX7 cc nL ret rv w1 (pc + 3) lv st (setW w 57 9 v)) : G E d RX7 cc nL ret rv w1 pc lv (.int v :: .ref (E.1 57) :: st) w := g_pf (C := RX7) (T := TX7) (N := 29) (ci := 7) (k := 9) .int tyX7 hd igX7 tyX7_ok nmX7 (by decide) rfl rfl rfl (by decide) lk_X7_129 rfl rfl (by decide +kernel) rfl rfl h
theorem lk_X7_132 : Cond.methodLink RX7 132 yX7_isLease ∈ tblG := tblG_in 766 (by decide +kernel) (by decide +kernel)
theorem lc_X7_isLease : Cond.code yX7_isLease cX7_isLease 2 (some .boolean) ∈ tblG := tblG_in 769 (by decide +kernel) (by decide +kernel)
theorem ln_X7_isLease : Cond.instanceMethod yX7_isLease ∈ tblG := tblG_in 768 (by decide +kernel) (by decide +kernel)
theorem lx_X7_isLease : Cond.selects RX7 yX7_isLease yX7_isLease ∈ tblG := tblG_in 61 (by decide +kernel) (by decide +kernel)
theorem ca_X7_132 {a1 : Value} {d' : Nat} {rest : List Value} {v2 : Value} {w2 : W0} (hd : decode cc pc = .ok (.invokevirtual 132, 3)) (hM : Mt E d' yX7_isLease cX7_isLease 2 (some .boolean) [.ref (E.1 57), a1] w (some v2) w2) (hdd : d' + 1 ≤ d) (hr : (rest.map fun v => v.category).sum ≤ 8) (h : G E d RX7 cc nL ret rv w1 (pc + 3) lv (v2 :: rest) w2) : G E d RX7 cc nL ret rv w1 pc lv (a1 :: .ref (E.1 57) :: rest) w :=
  g_cv (As := [a1]) (n := 1) (ci := 7) (rest := rest) hd lk_X7_132 ln_X7_isLease lx_X7_isLease li_X7 lc_X7_isLease (by decide +kernel) (by decide) rfl rfl rfl (by decide) rfl hM hdd hr h
theorem lk_X7_135 : Cond.methodLink RX7 135 yX7_item ∈ tblG := tblG_in 770 (by decide +kernel) (by decide +kernel)
theorem lc_X7_item : Cond.code yX7_item cX7_item 5 (some .int) ∈ tblG := tblG_in 773 (by decide +kernel) (by decide +kernel)
theorem ln_X7_item : Cond.instanceMethod yX7_item ∈ tblG := tblG_in 772 (by decide +kernel) (by decide +kernel)
theorem lx_X7_item : Cond.selects RX7 yX7_item yX7_item ∈ tblG := tblG_in 62 (by decide +kernel) (by decide +kernel)
theorem ca_X7_135 {a1 a2 a3 a4 : Value} {d' : Nat} {rest : List Value} {v2 : Value} {w2 : W0} (hd : decode cc pc = .ok (.invokevirtual 135, 3)) (hM : Mt E d' yX7_item cX7_item 5 (some .int) [.ref (E.1 57), a1, a2, a3, a4] w (some v2) w2) (hdd : d' + 1 ≤ d) (hr : (rest.map fun v => v.category).sum ≤ 8) (h : G E d RX7 cc nL ret rv w1 (pc + 3) lv (v2 :: rest) w2) : G E d RX7 cc nL ret rv w1 pc lv (a4 :: a3 :: a2 :: a1 :: .ref (E.1 57) :: rest) w :=
  g_cv (As := [a1, a2, a3, a4]) (n := 4) (ci := 7) (rest := rest) hd lk_X7_135 ln_X7_item lx_X7_item li_X7 lc_X7_item (by decide +kernel) (by decide) rfl rfl rfl (by decide) rfl hM hdd hr h
theorem lk_X7_139 : Cond.methodLink RX7 139 yX7_isItem ∈ tblG := tblG_in 782 (by decide +kernel) (by decide +kernel)
theorem lc_X7_isItem : Cond.code yX7_isItem cX7_isItem 2 (some .boolean) ∈ tblG := tblG_in 785 (by decide +kernel) (by decide +kernel)
theorem ln_X7_isItem : Cond.instanceMethod yX7_isItem ∈ tblG := tblG_in 784 (by decide +kernel) (by decide +kernel)
theorem lx_X7_isItem : Cond.selects RX7 yX7_isItem yX7_isItem ∈ tblG := tblG_in 63 (by decide +kernel) (by decide +kernel)
theorem ca_X7_139 {a1 : Value} {d' : Nat} {rest : List Value} {v2 : Value} {w2 : W0} (hd : decode cc pc = .ok (.invokevirtual 139, 3)) (hM : Mt E d' yX7_isItem cX7_isItem 2 (some .boolean) [.ref (E.1 57), a1] w (some v2) w2) (hdd : d' + 1 ≤ d) (hr : (rest.map fun v => v.category).sum ≤ 8) (h : G E d RX7 cc nL ret rv w1 (pc + 3) lv (v2 :: rest) w2) : G E d RX7 cc nL ret rv w1 pc lv (a1 :: .ref (E.1 57) :: rest) w :=
  g_cv (As := [a1]) (n := 1) (ci := 7) (rest := rest) hd lk_X7_139 ln_X7_isItem lx_X7_isItem li_X7 lc_X7_isItem (by decide +kernel) (by decide) rfl rfl rfl (by decide) rfl hM hdd hr h
theorem lk_X7_142 : Cond.methodLink RX7 142 yX7_barredFor ∈ tblG := tblG_in 732 (by decide +kernel) (by decide +kernel)
theorem lc_X7_barredFor : Cond.code yX7_barredFor cX7_barredFor 4 (some .int) ∈ tblG := tblG_in 735 (by decide +kernel) (by decide +kernel)
theorem ln_X7_barredFor : Cond.instanceMethod yX7_barredFor ∈ tblG := tblG_in 734 (by decide +kernel) (by decide +kernel)
theorem lx_X7_barredFor : Cond.selects RX7 yX7_barredFor yX7_barredFor ∈ tblG := tblG_in 57 (by decide +kernel) (by decide +kernel)
theorem ca_X7_142 {a1 : Value} {d' : Nat} {rest : List Value} {v2 : Value} {w2 : W0} (hd : decode cc pc = .ok (.invokevirtual 142, 3)) (hM : Mt E d' yX7_barredFor cX7_barredFor 4 (some .int) [.ref (E.1 57), a1] w (some v2) w2) (hdd : d' + 1 ≤ d) (hr : (rest.map fun v => v.category).sum ≤ 8) (h : G E d RX7 cc nL ret rv w1 (pc + 3) lv (v2 :: rest) w2) : G E d RX7 cc nL ret rv w1 pc lv (a1 :: .ref (E.1 57) :: rest) w :=
  g_cv (As := [a1]) (n := 1) (ci := 7) (rest := rest) hd lk_X7_142 ln_X7_barredFor lx_X7_barredFor li_X7 lc_X7_barredFor (by decide +kernel) (by decide) rfl rfl rfl (by decide) rfl hM hdd hr h
theorem lk_X7_145 : Cond.methodLink RX7 145 yX7_voidFor ∈ tblG := tblG_in 802 (by decide +kernel) (by decide +kernel)
theorem lc_X7_voidFor : Cond.code yX7_voidFor cX7_voidFor 3 (some .int) ∈ tblG := tblG_in 805 (by decide +kernel) (by decide +kernel)
theorem ln_X7_voidFor : Cond.instanceMethod yX7_voidFor ∈ tblG := tblG_in 804 (by decide +kernel) (by decide +kernel)
theorem lx_X7_voidFor : Cond.selects RX7 yX7_voidFor yX7_voidFor ∈ tblG := tblG_in 64 (by decide +kernel) (by decide +kernel)
theorem ca_X7_145 {a1 : Value} {d' : Nat} {rest : List Value} {v2 : Value} {w2 : W0} (hd : decode cc pc = .ok (.invokevirtual 145, 3)) (hM : Mt E d' yX7_voidFor cX7_voidFor 3 (some .int) [.ref (E.1 57), a1] w (some v2) w2) (hdd : d' + 1 ≤ d) (hr : (rest.map fun v => v.category).sum ≤ 8) (h : G E d RX7 cc nL ret rv w1 (pc + 3) lv (v2 :: rest) w2) : G E d RX7 cc nL ret rv w1 pc lv (a1 :: .ref (E.1 57) :: rest) w :=
  g_cv (As := [a1]) (n := 1) (ci := 7) (rest := rest) hd lk_X7_145 ln_X7_voidFor lx_X7_voidFor li_X7 lc_X7_voidFor (by decide +kernel) (by decide) rfl rfl rfl (by decide) rfl hM hdd hr h
theorem lk_X7_148 : Cond.methodLink RX7 148 yX7_layFullDays ∈ tblG := tblG_in 728 (by decide +kernel) (by decide +kernel)
theorem lc_X7_layFullDays : Cond.code yX7_layFullDays cX7_layFullDays 3 (none) ∈ tblG := tblG_in 731 (by decide +kernel) (by decide +kernel)
theorem ln_X7_layFullDays : Cond.instanceMethod yX7_layFullDays ∈ tblG := tblG_in 730 (by decide +kernel) (by decide +kernel)
theorem lx_X7_layFullDays : Cond.selects RX7 yX7_layFullDays yX7_layFullDays ∈ tblG := tblG_in 56 (by decide +kernel) (by decide +kernel)
theorem ca_X7_148 {d' : Nat} {rest : List Value} {w2 : W0} (hd : decode cc pc = .ok (.invokevirtual 148, 3)) (hM : Mt E d' yX7_layFullDays cX7_layFullDays 3 (none) [.ref (E.1 57)] w none w2) (hdd : d' + 1 ≤ d) (hr : (rest.map fun v => v.category).sum ≤ 8) (h : G E d RX7 cc nL ret rv w1 (pc + 3) lv (rest) w2) : G E d RX7 cc nL ret rv w1 pc lv (.ref (E.1 57) :: rest) w :=
  g_cv (As := []) (n := 0) (ci := 7) (rest := rest) hd lk_X7_148 ln_X7_layFullDays lx_X7_layFullDays li_X7 lc_X7_layFullDays (by decide +kernel) (by decide) rfl rfl rfl (by decide) rfl hM hdd hr h
theorem lk_X7_151 : Cond.constantLong RX7 151 (36000 : Int64) ∈ tblG := tblG_in 744 (by decide +kernel) (by decide +kernel)
theorem lk_X7_153 : Cond.methodLink RX7 153 yX7_isYear ∈ tblG := tblG_in 818 (by decide +kernel) (by decide +kernel)
theorem lc_X7_isYear : Cond.code yX7_isYear cX7_isYear 1 (some .boolean) ∈ tblG := tblG_in 820 (by decide +kernel) (by decide +kernel)
theorem ls_X7_isYear : Cond.static yX7_isYear ∈ tblG := tblG_in 819 (by decide +kernel) (by decide +kernel)
theorem ca_X7_153 {a1 : Value} {d' : Nat} {rest : List Value} {v2 : Value} {w2 : W0} (hd : decode cc pc = .ok (.invokestatic 153, 3)) (hM : Mt E d' yX7_isYear cX7_isYear 1 (some .boolean) [a1] w (some v2) w2) (hdd : d' + 1 ≤ d) (hr : (rest.map fun v => v.category).sum ≤ 8) (h : G E d RX7 cc nL ret rv w1 (pc + 3) lv (v2 :: rest) w2) : G E d RX7 cc nL ret rv w1 pc lv (a1 :: rest) w :=
  g_cs (As := [a1]) (n := 1) (rest := rest) hd lk_X7_153 ls_X7_isYear li_X7 lc_X7_isYear (by decide +kernel) (by decide) rfl hM hdd hr h
theorem lk_X7_156 : Cond.fieldLink RX7 156 (TX7 22).1 (TX7 22).2.1 (TX7 22).2.2.1 ∈ tblG := tblG_in 619 (by decide +kernel) (by decide +kernel)
theorem gf_X7_156 (hd : decode cc pc = .ok (.getfield 156, 3)) (h : G E d RX7 cc nL ret rv w1 (pc + 3) lv (.int (w 57 22) :: st) w) : G E d RX7 cc nL ret rv w1 pc lv (.ref (E.1 57) :: st) w := g_gf (C := RX7) (T := TX7) (N := 29) (ci := 7) (k := 22) hd igX7 (by decide) rfl rfl rfl (by decide) lk_X7_156 rfl h
theorem pf_X7_156 {v : Int32} (hd : decode cc pc = .ok (.putfield 156, 3)) (h : G E d RX7 cc nL ret rv w1 (pc + 3) lv st (setW w 57 22 v)) : G E d RX7 cc nL ret rv w1 pc lv (.int v :: .ref (E.1 57) :: st) w := g_pf (C := RX7) (T := TX7) (N := 29) (ci := 7) (k := 22) .int tyX7 hd igX7 tyX7_ok nmX7 (by decide) rfl rfl rfl (by decide) lk_X7_156 rfl rfl (by decide +kernel) rfl rfl h
theorem lk_X7_159 : Cond.constant RX7 159 (-100000003 : Int32) ∈ tblG := tblG_in 829 (by decide +kernel) (by decide +kernel)
end LINKED

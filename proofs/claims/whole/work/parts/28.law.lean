/-! THE CLAIM OUT OF ONE WALK OF THE LAW'S BODY. Your part is whole_start (and what it stands on); all else here is the same for every law, but numbers. -/
def R_law : String := "WardCourtLaw"
def lw_P (b : Addr) (xs : List Int32) (args : Array Value) (s : State) : Prop := args = #[.ref b] ∧ s.IntsAt b xs ∧ xs.length ≤ 3584 ∧ (Jvm.Cond.and given_1 narrow_1).before args s = true
def lw_Q (_ : Array Value) (s : State) (o : Outcome) (t : State) : Prop := o = .returned (some (.int 1)) ∧ Framed s o t [] 600000 7302249
def lw_Z (below : List Frame) (a : Array Value) (s : State) : State → Prop := fun t => ∃ o, t.status = .running ∧ Ended t below o ∧ lw_Q a s o t
/-- the law's own end, with 1 on the stack, nothing written that was there before, its room as the claim has it -/
theorem lw_ret {p : Program} {l : Launch} {e : Env} {s : State} {m : MethodId} {below : List Frame} {meth : Method} {c : Code} {b : Nat} (hx : p.tables.exec = Jvm.exec) (hb : c.code = code) (hr : meth.sig.returnType = ret) (hlocks : meth.locks = false) {pc : Nat} {H : Heap} {ls : Array Slot} (hdg : decode code pc = .ok (.ireturn, 1)) : W p l e room_1 s m #[Value.ref b] below meth c H [] 600000 7302249 (lw_Z below #[Value.ref b] s) (F0 m pc ls [.int 1]) := by
  intro T hT X
  obtain ⟨fs, hret, hrun, hended, hW, hframe⟩ := X.leave (v := some (.int 1)) (hlocks := hlocks) (fun h => by rw [hr] at h; cases h)
  have hmeth' : T.vm.method? m = some meth := X.method'
  refine ⟨T.setFrames fs, ?_, .returned (some (.int 1)), hrun, hended, rfl, ⟨_, rfl⟩, hW, hframe⟩
  jvm_step X.here [X.here.top, hx, hb, hdg, hmeth', hr, ret, narrow_b1]
  (try refine ⟨rfl, ?_⟩); (try refine ⟨rfl, ?_⟩)
  first | (intro acts; rw [hret _ acts rfl rfl rfl]) | rw [hret _ _ rfl rfl rfl]
  exact Steps.refl _
/-- what holds at the law's entry: the machine, the code, the tables' words (any of lw_tbl by 'hts w (by decide +kernel)'), the script of L ints xs at the cell b, what the Statement gives of the start (any of its parts by flat_of_before) -/
def lw_At (p : Program) (s : State) (m : MethodId) (meth : Method) (c : Code) (b L : Nat) (xs : Nat → Int32) : Prop :=
  p.tables.exec = Jvm.exec ∧ c.code = code ∧ meth.sig.returnType = ret ∧ c.maxLocals = 4 ∧ s.vm.findClass R_law = some m.cls ∧ (∀ w ∈ lw_tbl, w.before #[Value.ref b] s = true) ∧ va_X b L xs s s.heap ∧ b < s.heap.size ∧ meth.locks = false ∧ (Jvm.Cond.and given_1 narrow_1).before #[Value.ref b] s = true
/-! THE LAW'S FRAME: as G, with the law's own room and the script -/
abbrev A0 (s : State) : Nat → Prop := fun q => s.heap.size ≤ q
def LW (E : En) (s : State) : Prop := va_K E.2.2.1 vwCl (tysE E) s ∧ va_Z "WardCourt" "BEFORE_ANY_LAW" "[I" (.ref E.2.1) (A0 s) s s.heap ∧ va_T .int E.2.1 5 (fun j => .int (bef j)) (A0 s) s s.heap ∧ (∀ x ∈ tblN, va_Nw x s) ∧ (∀ i j : Nat, i < nP → j < nP → E.1 i = E.1 j → i = j) ∧ ∀ i, i < nP → s.heap.size ≤ E.1 i
theorem LW.sub {E : En} {s : State} (h : LW E s) {q : Nat} (hq : Aw E q) : A0 s q := by
  obtain ⟨k, hk, rfl⟩ := hq
  exact h.2.2.2.2.2 k hk
theorem LW.ws {E : En} {s U : State} {H : Heap} {locs : List Loc} (h : LW E s) (hS : va_S (A0 s) s.heap H locs) (hW : s.WarmedH U.vm) : Ws E U H := by
  have hsub := fun q => h.sub (q := q)
  obtain ⟨h1, h2, h3, h4, h5, h6⟩ := h
  have hk : ∀ a : Nat, a < s.heap.size → ¬ A0 s a → H[a]? = s.heap[a]? := fun a ha hn => hS.2.1 a ha hn
  obtain ⟨cf, kf, fi, f, a, cell, b1, b2, b3, b4, b5, b6, b7, b8⟩ := (va_Z.moved hW.alike h2).kept hk
  obtain ⟨cell2, c1, c2, c3, c4, c5, c6, c7⟩ := (va_T.moved hW.alike h3).kept hk
  exact ⟨va_K.moved hW.alike h1, ⟨cf, kf, fi, f, a, cell, b1, b2, b3, b4, b5, b6, b7, fun z => b8 (hsub _ z)⟩, ⟨cell2, c1, c2, c3, c4, c5, c6, fun z => c7 (hsub _ z)⟩, fun x hx => Nw_warm hW hx (h4 x hx), h5⟩
abbrev lvI (E : En) (b i : Nat) : List (Nat × Value) := [(0, .ref b), (1, .ref (E.1 0)), (2, .ref (E.1 57)), (3, .int (nI i))]
abbrev cCells : Nat := 80
abbrev cSlots : Nat := 4988
def LG (E : En) (l : Launch) (b L : Nat) (xs : Nat → Int32) (i pc : Nat) (st : List Value) (w : W0) : Prop :=
  ∀ (p : Program) (e : Env) (s : State) (m : MethodId) (below : List Frame) (meth : Method) (c : Code) (H : Heap) (locs : List Loc) (ls : Array Slot),
    lw_At p s m meth c b L xs → LW E s → va_P E.2.2.1 vwCl (wl E w) H → va_S (A0 s) s.heap H locs → lv_has ls 4 (lvI E b i) → W p l e room_1 s m #[Value.ref b] below meth c H locs cCells cSlots (lw_Z below #[Value.ref b] s) (F0 m pc ls st)
section LAWRULES
variable {E : En} {l : Launch} {b L : Nat} {xs : Nat → Int32} {i pc : Nat} {st : List Value} {w : W0}
theorem lg_aload1 (hd : decode cL_law pc = .ok (.aload_n 1, 1)) (h : LG E l b L xs i (pc + 1) (.ref (E.1 0) :: st) w) : LG E l b L xs i pc st w :=
  fun p e s m below meth c H locs ls C S P F hl => lv_aload_n C.1 C.2.1 hd rfl (lv_at hl 1 rfl) (h p e s m below meth c H locs ls C S P F hl)
theorem lg_aload2 (hd : decode cL_law pc = .ok (.aload_n 2, 1)) (h : LG E l b L xs i (pc + 1) (.ref (E.1 57) :: st) w) : LG E l b L xs i pc st w :=
  fun p e s m below meth c H locs ls C S P F hl => lv_aload_n C.1 C.2.1 hd rfl (lv_at hl 2 rfl) (h p e s m below meth c H locs ls C S P F hl)
theorem lg_get {k : Nat} (hd : decode cL_law pc = .ok (.iaload, 1)) (hk : k < L) (hL : L ≤ 3584) (h : LG E l b L xs i (pc + 1) (.int (xs k) :: st) w) : LG E l b L xs i pc (.int (nI k) :: .ref b :: st) w := by
  intro p e s m below meth c H locs ls C S P F hl
  refine va_sld C.1 C.2.1 C.2.2.2.2.2.2.1 C.2.2.2.2.2.2.2.1 (Nat.not_le.mpr C.2.2.2.2.2.2.2.1) F (vp_in_nI hk (by omega)) hd ?_
  rw [nI_clamp (by omega)]
  exact h p e s m below meth c H locs ls C S P F hl
theorem lg_arg {j : Nat} {n : Int} (h0 : decode cL_law pc = .ok (.aload_n 0, 1)) (h1 : decode cL_law (pc + 1) = .ok (.iload_n 3, 1)) (h2 : decode cL_law (pc + 2) = .ok (.iconst n, 1)) (h3 : decode cL_law (pc + 3) = .ok (.iadd, 1)) (h4 : decode cL_law (pc + 4) = .ok (.iaload, 1)) (hn : Int32.ofInt n = nI j) (hj : i + j < L) (hL : L ≤ 3584) (h : LG E l b L xs i (pc + 5) (.int (xs (i + j)) :: st) w) : LG E l b L xs i pc st w := by
  intro p e s m below meth c H locs ls C S P F hl
  refine lv_aload_n C.1 C.2.1 h0 rfl (lv_at hl 0 rfl) ?_
  refine lv_iload_n C.1 C.2.1 h1 rfl (lv_at hl 3 rfl) ?_
  refine lv_iconst C.1 C.2.1 h2 hn ?_
  refine lv_iadd C.1 C.2.1 h3 ?_
  rw [nI_add]
  exact lg_get h4 hj hL h p e s m below meth c H locs ls C S P F hl
theorem lg_argb {j : Nat} {n : Int} (h0 : decode cL_law pc = .ok (.aload_n 0, 1)) (h1 : decode cL_law (pc + 1) = .ok (.iload_n 3, 1)) (h2 : decode cL_law (pc + 2) = .ok (.bipush n, 2)) (h3 : decode cL_law (pc + 4) = .ok (.iadd, 1)) (h4 : decode cL_law (pc + 5) = .ok (.iaload, 1)) (hn : (Int8.ofInt n).toInt32 = nI j) (hj : i + j < L) (hL : L ≤ 3584) (h : LG E l b L xs i (pc + 6) (.int (xs (i + j)) :: st) w) : LG E l b L xs i pc st w := by
  intro p e s m below meth c H locs ls C S P F hl
  refine lv_aload_n C.1 C.2.1 h0 rfl (lv_at hl 0 rfl) ?_
  refine lv_iload_n C.1 C.2.1 h1 rfl (lv_at hl 3 rfl) ?_
  refine lv_bipush C.1 C.2.1 h2 hn ?_
  refine lv_iadd C.1 C.2.1 h3 ?_
  rw [nI_add]
  exact lg_get h4 hj hL h p e s m below meth c H locs ls C S P F hl
theorem lg_bool {x : Int32} (h0 : decode cL_law pc = .ok (.ifCond .eq 7, 3)) (h1 : decode cL_law (pc + 3) = .ok (.iconst 1, 1)) (h2 : decode cL_law (pc + 4) = .ok (.goto 4, 3)) (h3 : decode cL_law (pc + 7) = .ok (.iconst 0, 1)) (h : LG E l b L xs i (pc + 8) (.int (if x = 0 then 0 else 1) :: st) w) : LG E l b L xs i pc (.int x :: st) w := by
  intro p e s m below meth c H locs ls C S P F hl
  refine lv_if_eq (tgt := pc + 7) C.1 C.2.1 h0 (by omega) (fun q => ?_) (fun q => ?_)
  · rw [if_pos q] at h
    exact lv_iconst C.1 C.2.1 h3 rfl (h p e s m below meth c H locs ls C S P F hl)
  · rw [if_neg q] at h
    exact lv_iconst C.1 C.2.1 h1 rfl (lv_goto (tgt := pc + 8) C.1 C.2.1 h2 (by omega) (h p e s m below meth c H locs ls C S P F hl))
theorem lq_cmp {x : Int32} {off : Int} (tgt : Nat) (hd : decode cL_law pc = .ok (.if_icmp .eq off, 3)) (ht : (pc : Int) + off = (tgt : Int)) (h : LG E l b L xs i tgt st w) : LG E l b L xs i pc (.int x :: .int x :: st) w :=
  fun p e s m below meth c H locs ls C S P F hl => lv_icmp_eq C.1 C.2.1 hd ht (fun _ => h p e s m below meth c H locs ls C S P F hl) (fun q => absurd rfl q)
theorem lg_call {p : Program} {e : Env} {s : State} {m : MethodId} {args : Array Value} {below : List Frame} {meth : Method} {c : Code} {H : Heap} {locs : List Loc} {R : Room} {Q : State → Prop} {ls : Array Slot} {st0 rest : List Value} {rv2 : Option Value} {w2 : W0} {a : Array Value} (hr : va_Run p l e R s m args below meth c H locs cCells cSlots 0 0 (F0 m pc ls st0) rest (QD E rv2 w2 a) (Aw E)) (hsub : ∀ q, Aw E q → A0 s q) (hS : va_S (A0 s) s.heap H locs)
    (kk : ∀ (H1 : Heap) (locs1 : List Loc), va_P E.2.2.1 vwCl (wl E w2) H1 → va_S (A0 s) s.heap H1 locs1 → W p l e R s m args below meth c H1 locs1 cCells cSlots Q (F0 m (pc + 3) ls (rv2.toList ++ rest))) : W p l e R s m args below meth c H locs cCells cSlots Q (F0 m pc ls st0) := by
  intro T hT X
  obtain ⟨v, st₀, t, T', L, h0, X', hL, e1, e2, ⟨⟨hv, hw⟩, hz, hk⟩, st⟩ := hr T hT X
  cases hv
  rw [h0] at hz hk
  obtain ⟨t2, a1, b1⟩ := kk T'.heap (locs ++ L) (by rw [e1]; exact hw.2)
    ⟨Nat.le_trans hS.1 (by rw [e1]; exact hz), fun q h1 h2 => by rw [e1, hk q (Nat.lt_of_lt_of_le h1 hS.1) (fun z => h2 (hsub q z))]; exact hS.2.1 q h1 h2, fun q hq => by
      rcases List.mem_append.mp hq with h | h
      · exact hS.2.2 q h
      · exact hsub _ (hL q h)⟩ T' rfl X'
  exact ⟨t2, st t2 a1, b1⟩
theorem rm_law {d' nL' : Nat} (hdd : d' ≤ 8) (hnl : nL' ≤ 21) : (rmD d').frames + 1 ≤ room_1.frames ∧ 8 + (nL' + 11) + (rmD d').locals ≤ room_1.locals := by
  show d' + 1 ≤ 10 ∧ 8 + (nL' + 11) + 40 * d' ≤ 394
  omega
theorem lg_cv {y : MethodName} {cc' : ByteArray} {nL' n q ci idx d' : Nat} {As rest : List Value} {cq : vw_C} {rv : Int32} {w2 : W0} (hd : decode cL_law pc = .ok (.invokevirtual idx, 3)) (hl : Cond.methodLink RL idx y ∈ tblG) (hi : Cond.instanceMethod y ∈ tblG) (hse : Cond.selects y.cls y y ∈ tblG) (hini : Cond.initialized y.cls ∈ tblG) (hc : Cond.code y cc' nL' (some .int) ∈ tblG) (hy : y.cls ≠ "java/lang/invoke/MethodHandle" ∧ y.cls ≠ "java/lang/invoke/VarHandle" ∧ (parseMethodDescriptor y.desc).map (fun d => d.parameters.length) = some n) (hq : q < nP) (hs : sh q = (0, ci)) (hcl : vwCl[ci]? = some cq) (hcn : cq.1 = y.cls) (hnl : nL' ≤ 21) (hn : As.length = n)
    (hM : Mt E d' y cc' nL' (some .int) (.ref (E.1 q) :: As) w (some (.int rv)) w2) (hdd : d' ≤ 8) (hr : (rest.map fun v => v.category).sum ≤ 8) (h : LG E l b L xs i (pc + 3) (.int rv :: rest) w2) : LG E l b L xs i pc (As.reverse ++ .ref (E.1 q) :: rest) w := by
  intro p e s m below meth c H locs ls C S P F hlv
  have ts : ∀ x ∈ tblG, x.before #[Value.ref b] s = true := fun x hx => C.2.2.2.2.2.1 x (List.mem_filter.mp hx).1
  have hcw := va_recv S.1 P hcl (wl_0 hq hs)
  rw [hcn] at hcw
  exact lg_call (rest := rest) (va_runV (C := y.cls) (n := n) (As := As) (b := E.1 q) (index := idx) (bytes := cc') (maxL := nL') (ret := some .int) (Ts := tblG) (own := RL) ⟨C.1, C.2.1, C.2.2.2.1, C.2.2.2.2.1, ts⟩ (hM l) ⟨callB_of n ts (tblG_self hc (fun _ h => h)) rfl rfl rfl (ts _ hini) (ts _ hl) hy (rm_law hdd hnl), ts _ hi, ts _ hse⟩ ⟨Pc_blind, hcw, fun U hU hW => ⟨rfl, by show Ws E U U.heap; rw [hU]; exact S.ws F hW, by show va_P _ _ _ U.heap; rw [hU]; exact P⟩⟩ rfl hn hlv.1 rfl (lv_room hr) hd ⟨by decide, by decide⟩) (fun q => S.sub (q := q)) F (fun H1 locs1 P1 F1 => h p e s m below meth c H1 locs1 ls C S P1 F1 hlv)
/-- the law's end -/
theorem lg_end (h0 : decode cL_law pc = .ok (.iconst 1, 1)) (h1 : decode cL_law (pc + 1) = .ok (.ireturn, 1)) : LG E l b L xs i pc [] w := by
  intro p e s m below meth c H locs ls C S P F hl
  refine lv_iconst C.1 C.2.1 h0 rfl ?_
  refine va_forget (fun q hq => F.2.2 q hq) ?_
  refine W.widen (k := 600000) (n := 7302249) (by decide) (by decide) ?_
  exact lw_ret C.1 C.2.1 C.2.2.1 C.2.2.2.2.2.2.2.2.1 h1
end LAWRULES
section LAWCASES
variable {E : En} {l : Launch} {b L : Nat} {xs : Nat → Int32} {i : Nat} {w : W0}
theorem lkL_13 : Cond.methodLink RL 13 yX6_law ∈ tblG := tblG_in 242 (by decide +kernel) (by decide +kernel)
theorem ln_X6_law : Cond.instanceMethod yX6_law ∈ tblG := tblG_in 243 (by decide +kernel) (by decide +kernel)
theorem lx_X6_law : Cond.selects RX6 yX6_law yX6_law ∈ tblG := tblG_in 244 (by decide +kernel) (by decide +kernel)
theorem lc_X6_law : Cond.code yX6_law cX6_law 7 (some .int) ∈ tblG := tblG_in 245 (by decide +kernel) (by decide +kernel)
theorem lkL_17 : Cond.methodLink RL 17 yX7_law ∈ tblG := tblG_in 685 (by decide +kernel) (by decide +kernel)
theorem ln_X7_law : Cond.instanceMethod yX7_law ∈ tblG := tblG_in 686 (by decide +kernel) (by decide +kernel)
theorem lx_X7_law : Cond.selects RX7 yX7_law yX7_law ∈ tblG := tblG_in 687 (by decide +kernel) (by decide +kernel)
theorem lc_X7_law : Cond.code yX7_law cX7_law 8 (some .int) ∈ tblG := tblG_in 688 (by decide +kernel) (by decide +kernel)
theorem k_0 (hR : Rel w) (hi : i + 7 ≤ L) (hL : L ≤ 3584) (hn : ∀ w2, Rel w2 → LG E l b L xs i 876 [] w2) : LG E l b L xs i 136 [] w := by
  obtain ⟨rv, w1, w2, h1, h2, h3⟩ := case_law (E := E) (w := w) (day := xs (i + 1)) (a := xs (i + 2)) (b := xs (i + 3)) (c := xs (i + 4)) (e := xs (i + 5)) (f := xs (i + 6)) hR
  refine lg_aload1 dL_law_136 ?_
  refine lg_arg (j := 1) dL_law_137 dL_law_138 dL_law_139 dL_law_140 dL_law_141 (by decide) (by omega) hL ?_
  refine lg_arg (j := 2) dL_law_142 dL_law_143 dL_law_144 dL_law_145 dL_law_146 (by decide) (by omega) hL ?_
  refine lg_arg (j := 3) dL_law_147 dL_law_148 dL_law_149 dL_law_150 dL_law_151 (by decide) (by omega) hL ?_
  refine lg_arg (j := 4) dL_law_152 dL_law_153 dL_law_154 dL_law_155 dL_law_156 (by decide) (by omega) hL ?_
  refine lg_arg (j := 5) dL_law_157 dL_law_158 dL_law_159 dL_law_160 dL_law_161 (by decide) (by omega) hL ?_
  refine lg_argb (j := 6) dL_law_162 dL_law_163 dL_law_164 dL_law_166 dL_law_167 (by decide) (by omega) hL ?_
  refine lg_cv (As := [.int (xs (i + 1)), .int (xs (i + 2)), .int (xs (i + 3)), .int (xs (i + 4)), .int (xs (i + 5)), .int (xs (i + 6))]) (rest := []) (n := 6) (q := 0) (ci := 6) dL_law_168 lkL_13 ln_X6_law lx_X6_law li_X6 lc_X6_law (by decide +kernel) (by decide) rfl rfl rfl (by decide) rfl h1 (by decide) (Nat.le_of_ble_eq_true rfl) ?_
  refine lg_aload2 dL_law_171 ?_
  refine lg_arg (j := 1) dL_law_172 dL_law_173 dL_law_174 dL_law_175 dL_law_176 (by decide) (by omega) hL ?_
  refine lg_arg (j := 2) dL_law_177 dL_law_178 dL_law_179 dL_law_180 dL_law_181 (by decide) (by omega) hL ?_
  refine lg_arg (j := 3) dL_law_182 dL_law_183 dL_law_184 dL_law_185 dL_law_186 (by decide) (by omega) hL ?_
  refine lg_arg (j := 4) dL_law_187 dL_law_188 dL_law_189 dL_law_190 dL_law_191 (by decide) (by omega) hL ?_
  refine lg_arg (j := 5) dL_law_192 dL_law_193 dL_law_194 dL_law_195 dL_law_196 (by decide) (by omega) hL ?_
  refine lg_argb (j := 6) dL_law_197 dL_law_198 dL_law_199 dL_law_201 dL_law_202 (by decide) (by omega) hL ?_
  refine lg_cv (As := [.int (xs (i + 1)), .int (xs (i + 2)), .int (xs (i + 3)), .int (xs (i + 4)), .int (xs (i + 5)), .int (xs (i + 6))]) (rest := [.int rv]) (n := 6) (q := 57) (ci := 7) dL_law_203 lkL_17 ln_X7_law lx_X7_law li_X7 lc_X7_law (by decide +kernel) (by decide) rfl rfl rfl (by decide) rfl h2 (by decide) (Nat.le_of_ble_eq_true rfl) ?_
  exact lq_cmp 876 dL_law_206 (by decide) (hn w2 h3)
theorem lkL_18 : Cond.methodLink RL 18 yX6_force ∈ tblG := tblG_in 256 (by decide +kernel) (by decide +kernel)
theorem ln_X6_force : Cond.instanceMethod yX6_force ∈ tblG := tblG_in 257 (by decide +kernel) (by decide +kernel)
theorem lx_X6_force : Cond.selects RX6 yX6_force yX6_force ∈ tblG := tblG_in 258 (by decide +kernel) (by decide +kernel)
theorem lc_X6_force : Cond.code yX6_force cX6_force 3 (some .int) ∈ tblG := tblG_in 259 (by decide +kernel) (by decide +kernel)
theorem lkL_22 : Cond.methodLink RL 22 yX7_force ∈ tblG := tblG_in 695 (by decide +kernel) (by decide +kernel)
theorem ln_X7_force : Cond.instanceMethod yX7_force ∈ tblG := tblG_in 696 (by decide +kernel) (by decide +kernel)
theorem lx_X7_force : Cond.selects RX7 yX7_force yX7_force ∈ tblG := tblG_in 697 (by decide +kernel) (by decide +kernel)
theorem lc_X7_force : Cond.code yX7_force cX7_force 3 (some .int) ∈ tblG := tblG_in 698 (by decide +kernel) (by decide +kernel)
theorem k_1 (hR : Rel w) (hi : i + 7 ≤ L) (hL : L ≤ 3584) (hn : ∀ w2, Rel w2 → LG E l b L xs i 876 [] w2) : LG E l b L xs i 211 [] w := by
  obtain ⟨rv, w1, w2, h1, h2, h3⟩ := case_force (E := E) (w := w) (day := xs (i + 1)) (z := xs (i + 2)) hR
  refine lg_aload1 dL_law_211 ?_
  refine lg_arg (j := 1) dL_law_212 dL_law_213 dL_law_214 dL_law_215 dL_law_216 (by decide) (by omega) hL ?_
  refine lg_arg (j := 2) dL_law_217 dL_law_218 dL_law_219 dL_law_220 dL_law_221 (by decide) (by omega) hL ?_
  refine lg_cv (As := [.int (xs (i + 1)), .int (xs (i + 2))]) (rest := []) (n := 2) (q := 0) (ci := 6) dL_law_222 lkL_18 ln_X6_force lx_X6_force li_X6 lc_X6_force (by decide +kernel) (by decide) rfl rfl rfl (by decide) rfl h1 (by decide) (Nat.le_of_ble_eq_true rfl) ?_
  refine lg_aload2 dL_law_225 ?_
  refine lg_arg (j := 1) dL_law_226 dL_law_227 dL_law_228 dL_law_229 dL_law_230 (by decide) (by omega) hL ?_
  refine lg_arg (j := 2) dL_law_231 dL_law_232 dL_law_233 dL_law_234 dL_law_235 (by decide) (by omega) hL ?_
  refine lg_cv (As := [.int (xs (i + 1)), .int (xs (i + 2))]) (rest := [.int rv]) (n := 2) (q := 57) (ci := 7) dL_law_236 lkL_22 ln_X7_force lx_X7_force li_X7 lc_X7_force (by decide +kernel) (by decide) rfl rfl rfl (by decide) rfl h2 (by decide) (Nat.le_of_ble_eq_true rfl) ?_
  exact lq_cmp 876 dL_law_239 (by decide) (hn w2 h3)
theorem lkL_23 : Cond.methodLink RL 23 yX6_ward ∈ tblG := tblG_in 267 (by decide +kernel) (by decide +kernel)
theorem ln_X6_ward : Cond.instanceMethod yX6_ward ∈ tblG := tblG_in 268 (by decide +kernel) (by decide +kernel)
theorem lx_X6_ward : Cond.selects RX6 yX6_ward yX6_ward ∈ tblG := tblG_in 269 (by decide +kernel) (by decide +kernel)
theorem lc_X6_ward : Cond.code yX6_ward cX6_ward 2 (some .int) ∈ tblG := tblG_in 270 (by decide +kernel) (by decide +kernel)
theorem lkL_27 : Cond.methodLink RL 27 yX7_ward ∈ tblG := tblG_in 707 (by decide +kernel) (by decide +kernel)
theorem ln_X7_ward : Cond.instanceMethod yX7_ward ∈ tblG := tblG_in 708 (by decide +kernel) (by decide +kernel)
theorem lx_X7_ward : Cond.selects RX7 yX7_ward yX7_ward ∈ tblG := tblG_in 709 (by decide +kernel) (by decide +kernel)
theorem lc_X7_ward : Cond.code yX7_ward cX7_ward 2 (some .int) ∈ tblG := tblG_in 710 (by decide +kernel) (by decide +kernel)
theorem k_2 (hR : Rel w) (hi : i + 7 ≤ L) (hL : L ≤ 3584) (hn : ∀ w2, Rel w2 → LG E l b L xs i 876 [] w2) : LG E l b L xs i 244 [] w := by
  obtain ⟨rv, w1, w2, h1, h2, h3⟩ := case_ward (E := E) (w := w) (x := xs (i + 1)) hR
  refine lg_aload1 dL_law_244 ?_
  refine lg_arg (j := 1) dL_law_245 dL_law_246 dL_law_247 dL_law_248 dL_law_249 (by decide) (by omega) hL ?_
  refine lg_cv (As := [.int (xs (i + 1))]) (rest := []) (n := 1) (q := 0) (ci := 6) dL_law_250 lkL_23 ln_X6_ward lx_X6_ward li_X6 lc_X6_ward (by decide +kernel) (by decide) rfl rfl rfl (by decide) rfl h1 (by decide) (Nat.le_of_ble_eq_true rfl) ?_
  refine lg_aload2 dL_law_253 ?_
  refine lg_arg (j := 1) dL_law_254 dL_law_255 dL_law_256 dL_law_257 dL_law_258 (by decide) (by omega) hL ?_
  refine lg_cv (As := [.int (xs (i + 1))]) (rest := [.int rv]) (n := 1) (q := 57) (ci := 7) dL_law_259 lkL_27 ln_X7_ward lx_X7_ward li_X7 lc_X7_ward (by decide +kernel) (by decide) rfl rfl rfl (by decide) rfl h2 (by decide) (Nat.le_of_ble_eq_true rfl) ?_
  exact lq_cmp 876 dL_law_262 (by decide) (hn w2 h3)
theorem lkL_28 : Cond.methodLink RL 28 yX6_dies ∈ tblG := tblG_in 275 (by decide +kernel) (by decide +kernel)
theorem ln_X6_dies : Cond.instanceMethod yX6_dies ∈ tblG := tblG_in 276 (by decide +kernel) (by decide +kernel)
theorem lx_X6_dies : Cond.selects RX6 yX6_dies yX6_dies ∈ tblG := tblG_in 277 (by decide +kernel) (by decide +kernel)
theorem lc_X6_dies : Cond.code yX6_dies cX6_dies 4 (some .int) ∈ tblG := tblG_in 278 (by decide +kernel) (by decide +kernel)
theorem lkL_31 : Cond.methodLink RL 31 yX7_dies ∈ tblG := tblG_in 711 (by decide +kernel) (by decide +kernel)
theorem ln_X7_dies : Cond.instanceMethod yX7_dies ∈ tblG := tblG_in 712 (by decide +kernel) (by decide +kernel)
theorem lx_X7_dies : Cond.selects RX7 yX7_dies yX7_dies ∈ tblG := tblG_in 713 (by decide +kernel) (by decide +kernel)
theorem lc_X7_dies : Cond.code yX7_dies cX7_dies 4 (some .int) ∈ tblG := tblG_in 714 (by decide +kernel) (by decide +kernel)
theorem k_3 (hR : Rel w) (hi : i + 7 ≤ L) (hL : L ≤ 3584) (hn : ∀ w2, Rel w2 → LG E l b L xs i 876 [] w2) : LG E l b L xs i 267 [] w := by
  obtain ⟨rv, w1, w2, h1, h2, h3⟩ := case_dies (E := E) (w := w) (i := xs (i + 1)) (day := xs (i + 2)) hR
  refine lg_aload1 dL_law_267 ?_
  refine lg_arg (j := 1) dL_law_268 dL_law_269 dL_law_270 dL_law_271 dL_law_272 (by decide) (by omega) hL ?_
  refine lg_arg (j := 2) dL_law_273 dL_law_274 dL_law_275 dL_law_276 dL_law_277 (by decide) (by omega) hL ?_
  refine lg_cv (As := [.int (xs (i + 1)), .int (xs (i + 2))]) (rest := []) (n := 2) (q := 0) (ci := 6) dL_law_278 lkL_28 ln_X6_dies lx_X6_dies li_X6 lc_X6_dies (by decide +kernel) (by decide) rfl rfl rfl (by decide) rfl h1 (by decide) (Nat.le_of_ble_eq_true rfl) ?_
  refine lg_aload2 dL_law_281 ?_
  refine lg_arg (j := 1) dL_law_282 dL_law_283 dL_law_284 dL_law_285 dL_law_286 (by decide) (by omega) hL ?_
  refine lg_arg (j := 2) dL_law_287 dL_law_288 dL_law_289 dL_law_290 dL_law_291 (by decide) (by omega) hL ?_
  refine lg_cv (As := [.int (xs (i + 1)), .int (xs (i + 2))]) (rest := [.int rv]) (n := 2) (q := 57) (ci := 7) dL_law_292 lkL_31 ln_X7_dies lx_X7_dies li_X7 lc_X7_dies (by decide +kernel) (by decide) rfl rfl rfl (by decide) rfl h2 (by decide) (Nat.le_of_ble_eq_true rfl) ?_
  exact lq_cmp 876 dL_law_295 (by decide) (hn w2 h3)
theorem lkL_32 : Cond.methodLink RL 32 yX6_about ∈ tblG := tblG_in 296 (by decide +kernel) (by decide +kernel)
theorem ln_X6_about : Cond.instanceMethod yX6_about ∈ tblG := tblG_in 297 (by decide +kernel) (by decide +kernel)
theorem lx_X6_about : Cond.selects RX6 yX6_about yX6_about ∈ tblG := tblG_in 298 (by decide +kernel) (by decide +kernel)
theorem lc_X6_about : Cond.code yX6_about cX6_about 3 (some .int) ∈ tblG := tblG_in 299 (by decide +kernel) (by decide +kernel)
theorem lkL_35 : Cond.methodLink RL 35 yX7_about ∈ tblG := tblG_in 719 (by decide +kernel) (by decide +kernel)
theorem ln_X7_about : Cond.instanceMethod yX7_about ∈ tblG := tblG_in 720 (by decide +kernel) (by decide +kernel)
theorem lx_X7_about : Cond.selects RX7 yX7_about yX7_about ∈ tblG := tblG_in 721 (by decide +kernel) (by decide +kernel)
theorem lc_X7_about : Cond.code yX7_about cX7_about 3 (some .int) ∈ tblG := tblG_in 722 (by decide +kernel) (by decide +kernel)
theorem k_4 (hR : Rel w) (hi : i + 7 ≤ L) (hL : L ≤ 3584) (hn : ∀ w2, Rel w2 → LG E l b L xs i 876 [] w2) : LG E l b L xs i 300 [] w := by
  obtain ⟨rv, w1, w2, h1, h2, h3⟩ := case_about (E := E) (w := w) (i := xs (i + 1)) (what := xs (i + 2)) hR
  refine lg_aload1 dL_law_300 ?_
  refine lg_arg (j := 1) dL_law_301 dL_law_302 dL_law_303 dL_law_304 dL_law_305 (by decide) (by omega) hL ?_
  refine lg_arg (j := 2) dL_law_306 dL_law_307 dL_law_308 dL_law_309 dL_law_310 (by decide) (by omega) hL ?_
  refine lg_cv (As := [.int (xs (i + 1)), .int (xs (i + 2))]) (rest := []) (n := 2) (q := 0) (ci := 6) dL_law_311 lkL_32 ln_X6_about lx_X6_about li_X6 lc_X6_about (by decide +kernel) (by decide) rfl rfl rfl (by decide) rfl h1 (by decide) (Nat.le_of_ble_eq_true rfl) ?_
  refine lg_aload2 dL_law_314 ?_
  refine lg_arg (j := 1) dL_law_315 dL_law_316 dL_law_317 dL_law_318 dL_law_319 (by decide) (by omega) hL ?_
  refine lg_arg (j := 2) dL_law_320 dL_law_321 dL_law_322 dL_law_323 dL_law_324 (by decide) (by omega) hL ?_
  refine lg_cv (As := [.int (xs (i + 1)), .int (xs (i + 2))]) (rest := [.int rv]) (n := 2) (q := 57) (ci := 7) dL_law_325 lkL_35 ln_X7_about lx_X7_about li_X7 lc_X7_about (by decide +kernel) (by decide) rfl rfl rfl (by decide) rfl h2 (by decide) (Nat.le_of_ble_eq_true rfl) ?_
  exact lq_cmp 876 dL_law_328 (by decide) (hn w2 h3)
theorem lkL_36 : Cond.methodLink RL 36 yX6_heads ∈ tblG := tblG_in 417 (by decide +kernel) (by decide +kernel)
theorem ln_X6_heads : Cond.instanceMethod yX6_heads ∈ tblG := tblG_in 418 (by decide +kernel) (by decide +kernel)
theorem lx_X6_heads : Cond.selects RX6 yX6_heads yX6_heads ∈ tblG := tblG_in 419 (by decide +kernel) (by decide +kernel)
theorem lc_X6_heads : Cond.code yX6_heads cX6_heads 2 (some .int) ∈ tblG := tblG_in 420 (by decide +kernel) (by decide +kernel)
theorem lkL_39 : Cond.methodLink RL 39 yX7_heads ∈ tblG := tblG_in 746 (by decide +kernel) (by decide +kernel)
theorem ln_X7_heads : Cond.instanceMethod yX7_heads ∈ tblG := tblG_in 747 (by decide +kernel) (by decide +kernel)
theorem lx_X7_heads : Cond.selects RX7 yX7_heads yX7_heads ∈ tblG := tblG_in 748 (by decide +kernel) (by decide +kernel)
theorem lc_X7_heads : Cond.code yX7_heads cX7_heads 2 (some .int) ∈ tblG := tblG_in 749 (by decide +kernel) (by decide +kernel)
theorem k_5 (hR : Rel w) (hi : i + 7 ≤ L) (hL : L ≤ 3584) (hn : ∀ w2, Rel w2 → LG E l b L xs i 876 [] w2) : LG E l b L xs i 333 [] w := by
  obtain ⟨rv, w1, w2, h1, h2, h3⟩ := case_heads (E := E) (w := w) (day := xs (i + 1)) hR
  refine lg_aload1 dL_law_333 ?_
  refine lg_arg (j := 1) dL_law_334 dL_law_335 dL_law_336 dL_law_337 dL_law_338 (by decide) (by omega) hL ?_
  refine lg_cv (As := [.int (xs (i + 1))]) (rest := []) (n := 1) (q := 0) (ci := 6) dL_law_339 lkL_36 ln_X6_heads lx_X6_heads li_X6 lc_X6_heads (by decide +kernel) (by decide) rfl rfl rfl (by decide) rfl h1 (by decide) (Nat.le_of_ble_eq_true rfl) ?_
  refine lg_aload2 dL_law_342 ?_
  refine lg_arg (j := 1) dL_law_343 dL_law_344 dL_law_345 dL_law_346 dL_law_347 (by decide) (by omega) hL ?_
  refine lg_cv (As := [.int (xs (i + 1))]) (rest := [.int rv]) (n := 1) (q := 57) (ci := 7) dL_law_348 lkL_39 ln_X7_heads lx_X7_heads li_X7 lc_X7_heads (by decide +kernel) (by decide) rfl rfl rfl (by decide) rfl h2 (by decide) (Nat.le_of_ble_eq_true rfl) ?_
  exact lq_cmp 876 dL_law_351 (by decide) (hn w2 h3)
theorem lkL_40 : Cond.methodLink RL 40 yX6_leave ∈ tblG := tblG_in 422 (by decide +kernel) (by decide +kernel)
theorem ln_X6_leave : Cond.instanceMethod yX6_leave ∈ tblG := tblG_in 423 (by decide +kernel) (by decide +kernel)
theorem lx_X6_leave : Cond.selects RX6 yX6_leave yX6_leave ∈ tblG := tblG_in 424 (by decide +kernel) (by decide +kernel)
theorem lc_X6_leave : Cond.code yX6_leave cX6_leave 2 (some .int) ∈ tblG := tblG_in 425 (by decide +kernel) (by decide +kernel)
theorem lkL_43 : Cond.methodLink RL 43 yX7_leave ∈ tblG := tblG_in 750 (by decide +kernel) (by decide +kernel)
theorem ln_X7_leave : Cond.instanceMethod yX7_leave ∈ tblG := tblG_in 751 (by decide +kernel) (by decide +kernel)
theorem lx_X7_leave : Cond.selects RX7 yX7_leave yX7_leave ∈ tblG := tblG_in 752 (by decide +kernel) (by decide +kernel)
theorem lc_X7_leave : Cond.code yX7_leave cX7_leave 2 (some .int) ∈ tblG := tblG_in 753 (by decide +kernel) (by decide +kernel)
theorem k_6 (hR : Rel w) (hi : i + 7 ≤ L) (hL : L ≤ 3584) (hn : ∀ w2, Rel w2 → LG E l b L xs i 876 [] w2) : LG E l b L xs i 356 [] w := by
  obtain ⟨rv, w1, w2, h1, h2, h3⟩ := case_leave (E := E) (w := w) (x := xs (i + 1)) hR
  refine lg_aload1 dL_law_356 ?_
  refine lg_arg (j := 1) dL_law_357 dL_law_358 dL_law_359 dL_law_360 dL_law_361 (by decide) (by omega) hL ?_
  refine lg_cv (As := [.int (xs (i + 1))]) (rest := []) (n := 1) (q := 0) (ci := 6) dL_law_362 lkL_40 ln_X6_leave lx_X6_leave li_X6 lc_X6_leave (by decide +kernel) (by decide) rfl rfl rfl (by decide) rfl h1 (by decide) (Nat.le_of_ble_eq_true rfl) ?_
  refine lg_aload2 dL_law_365 ?_
  refine lg_arg (j := 1) dL_law_366 dL_law_367 dL_law_368 dL_law_369 dL_law_370 (by decide) (by omega) hL ?_
  refine lg_cv (As := [.int (xs (i + 1))]) (rest := [.int rv]) (n := 1) (q := 57) (ci := 7) dL_law_371 lkL_43 ln_X7_leave lx_X7_leave li_X7 lc_X7_leave (by decide +kernel) (by decide) rfl rfl rfl (by decide) rfl h2 (by decide) (Nat.le_of_ble_eq_true rfl) ?_
  exact lq_cmp 876 dL_law_374 (by decide) (hn w2 h3)
theorem lkL_44 : Cond.methodLink RL 44 yX6_ofLeave ∈ tblG := tblG_in 433 (by decide +kernel) (by decide +kernel)
theorem ln_X6_ofLeave : Cond.instanceMethod yX6_ofLeave ∈ tblG := tblG_in 434 (by decide +kernel) (by decide +kernel)
theorem lx_X6_ofLeave : Cond.selects RX6 yX6_ofLeave yX6_ofLeave ∈ tblG := tblG_in 435 (by decide +kernel) (by decide +kernel)
theorem lc_X6_ofLeave : Cond.code yX6_ofLeave cX6_ofLeave 3 (some .int) ∈ tblG := tblG_in 436 (by decide +kernel) (by decide +kernel)
theorem lkL_47 : Cond.methodLink RL 47 yX7_ofLeave ∈ tblG := tblG_in 754 (by decide +kernel) (by decide +kernel)
theorem ln_X7_ofLeave : Cond.instanceMethod yX7_ofLeave ∈ tblG := tblG_in 755 (by decide +kernel) (by decide +kernel)
theorem lx_X7_ofLeave : Cond.selects RX7 yX7_ofLeave yX7_ofLeave ∈ tblG := tblG_in 756 (by decide +kernel) (by decide +kernel)
theorem lc_X7_ofLeave : Cond.code yX7_ofLeave cX7_ofLeave 3 (some .int) ∈ tblG := tblG_in 757 (by decide +kernel) (by decide +kernel)
theorem k_7 (hR : Rel w) (hi : i + 7 ≤ L) (hL : L ≤ 3584) (hn : ∀ w2, Rel w2 → LG E l b L xs i 876 [] w2) : LG E l b L xs i 379 [] w := by
  obtain ⟨rv, w1, w2, h1, h2, h3⟩ := case_ofLeave (E := E) (w := w) (i := xs (i + 1)) (what := xs (i + 2)) hR
  refine lg_aload1 dL_law_379 ?_
  refine lg_arg (j := 1) dL_law_380 dL_law_381 dL_law_382 dL_law_383 dL_law_384 (by decide) (by omega) hL ?_
  refine lg_arg (j := 2) dL_law_385 dL_law_386 dL_law_387 dL_law_388 dL_law_389 (by decide) (by omega) hL ?_
  refine lg_cv (As := [.int (xs (i + 1)), .int (xs (i + 2))]) (rest := []) (n := 2) (q := 0) (ci := 6) dL_law_390 lkL_44 ln_X6_ofLeave lx_X6_ofLeave li_X6 lc_X6_ofLeave (by decide +kernel) (by decide) rfl rfl rfl (by decide) rfl h1 (by decide) (Nat.le_of_ble_eq_true rfl) ?_
  refine lg_aload2 dL_law_393 ?_
  refine lg_arg (j := 1) dL_law_394 dL_law_395 dL_law_396 dL_law_397 dL_law_398 (by decide) (by omega) hL ?_
  refine lg_arg (j := 2) dL_law_399 dL_law_400 dL_law_401 dL_law_402 dL_law_403 (by decide) (by omega) hL ?_
  refine lg_cv (As := [.int (xs (i + 1)), .int (xs (i + 2))]) (rest := [.int rv]) (n := 2) (q := 57) (ci := 7) dL_law_404 lkL_47 ln_X7_ofLeave lx_X7_ofLeave li_X7 lc_X7_ofLeave (by decide +kernel) (by decide) rfl rfl rfl (by decide) rfl h2 (by decide) (Nat.le_of_ble_eq_true rfl) ?_
  exact lq_cmp 876 dL_law_407 (by decide) (hn w2 h3)
theorem lkL_48 : Cond.methodLink RL 48 yX6_receive ∈ tblG := tblG_in 443 (by decide +kernel) (by decide +kernel)
theorem ln_X6_receive : Cond.instanceMethod yX6_receive ∈ tblG := tblG_in 444 (by decide +kernel) (by decide +kernel)
theorem lx_X6_receive : Cond.selects RX6 yX6_receive yX6_receive ∈ tblG := tblG_in 445 (by decide +kernel) (by decide +kernel)
theorem lc_X6_receive : Cond.code yX6_receive cX6_receive 4 (some .int) ∈ tblG := tblG_in 446 (by decide +kernel) (by decide +kernel)
theorem lkL_52 : Cond.methodLink RL 52 yX7_receive ∈ tblG := tblG_in 762 (by decide +kernel) (by decide +kernel)
theorem ln_X7_receive : Cond.instanceMethod yX7_receive ∈ tblG := tblG_in 763 (by decide +kernel) (by decide +kernel)
theorem lx_X7_receive : Cond.selects RX7 yX7_receive yX7_receive ∈ tblG := tblG_in 764 (by decide +kernel) (by decide +kernel)
theorem lc_X7_receive : Cond.code yX7_receive cX7_receive 4 (some .int) ∈ tblG := tblG_in 765 (by decide +kernel) (by decide +kernel)
theorem k_8 (hR : Rel w) (hi : i + 7 ≤ L) (hL : L ≤ 3584) (hn : ∀ w2, Rel w2 → LG E l b L xs i 876 [] w2) : LG E l b L xs i 412 [] w := by
  obtain ⟨rv, w1, w2, h1, h2, h3⟩ := case_receive (E := E) (w := w) (d := xs (i + 1)) (c := xs (i + 2)) (l := xs (i + 3)) hR
  refine lg_aload1 dL_law_412 ?_
  refine lg_arg (j := 1) dL_law_413 dL_law_414 dL_law_415 dL_law_416 dL_law_417 (by decide) (by omega) hL ?_
  refine lg_arg (j := 2) dL_law_418 dL_law_419 dL_law_420 dL_law_421 dL_law_422 (by decide) (by omega) hL ?_
  refine lg_arg (j := 3) dL_law_423 dL_law_424 dL_law_425 dL_law_426 dL_law_427 (by decide) (by omega) hL ?_
  refine lg_cv (As := [.int (xs (i + 1)), .int (xs (i + 2)), .int (xs (i + 3))]) (rest := []) (n := 3) (q := 0) (ci := 6) dL_law_428 lkL_48 ln_X6_receive lx_X6_receive li_X6 lc_X6_receive (by decide +kernel) (by decide) rfl rfl rfl (by decide) rfl h1 (by decide) (Nat.le_of_ble_eq_true rfl) ?_
  refine lg_aload2 dL_law_431 ?_
  refine lg_arg (j := 1) dL_law_432 dL_law_433 dL_law_434 dL_law_435 dL_law_436 (by decide) (by omega) hL ?_
  refine lg_arg (j := 2) dL_law_437 dL_law_438 dL_law_439 dL_law_440 dL_law_441 (by decide) (by omega) hL ?_
  refine lg_arg (j := 3) dL_law_442 dL_law_443 dL_law_444 dL_law_445 dL_law_446 (by decide) (by omega) hL ?_
  refine lg_cv (As := [.int (xs (i + 1)), .int (xs (i + 2)), .int (xs (i + 3))]) (rest := [.int rv]) (n := 3) (q := 57) (ci := 7) dL_law_447 lkL_52 ln_X7_receive lx_X7_receive li_X7 lc_X7_receive (by decide +kernel) (by decide) rfl rfl rfl (by decide) rfl h2 (by decide) (Nat.le_of_ble_eq_true rfl) ?_
  exact lq_cmp 876 dL_law_450 (by decide) (hn w2 h3)
theorem lkL_53 : Cond.methodLink RL 53 yX6_pay ∈ tblG := tblG_in 455 (by decide +kernel) (by decide +kernel)
theorem ln_X6_pay : Cond.instanceMethod yX6_pay ∈ tblG := tblG_in 456 (by decide +kernel) (by decide +kernel)
theorem lx_X6_pay : Cond.selects RX6 yX6_pay yX6_pay ∈ tblG := tblG_in 457 (by decide +kernel) (by decide +kernel)
theorem lc_X6_pay : Cond.code yX6_pay cX6_pay 5 (some .int) ∈ tblG := tblG_in 458 (by decide +kernel) (by decide +kernel)
theorem lkL_56 : Cond.methodLink RL 56 yX7_pay ∈ tblG := tblG_in 774 (by decide +kernel) (by decide +kernel)
theorem ln_X7_pay : Cond.instanceMethod yX7_pay ∈ tblG := tblG_in 775 (by decide +kernel) (by decide +kernel)
theorem lx_X7_pay : Cond.selects RX7 yX7_pay yX7_pay ∈ tblG := tblG_in 776 (by decide +kernel) (by decide +kernel)
theorem lc_X7_pay : Cond.code yX7_pay cX7_pay 4 (some .int) ∈ tblG := tblG_in 777 (by decide +kernel) (by decide +kernel)
theorem k_9 (hR : Rel w) (hi : i + 7 ≤ L) (hL : L ≤ 3584) (hn : ∀ w2, Rel w2 → LG E l b L xs i 876 [] w2) : LG E l b L xs i 455 [] w := by
  obtain ⟨rv, w1, w2, h1, h2, h3⟩ := case_pay (E := E) (w := w) (d := xs (i + 1)) (c := xs (i + 2)) (l := xs (i + 3)) hR
  refine lg_aload1 dL_law_455 ?_
  refine lg_arg (j := 1) dL_law_456 dL_law_457 dL_law_458 dL_law_459 dL_law_460 (by decide) (by omega) hL ?_
  refine lg_arg (j := 2) dL_law_461 dL_law_462 dL_law_463 dL_law_464 dL_law_465 (by decide) (by omega) hL ?_
  refine lg_arg (j := 3) dL_law_466 dL_law_467 dL_law_468 dL_law_469 dL_law_470 (by decide) (by omega) hL ?_
  refine lg_cv (As := [.int (xs (i + 1)), .int (xs (i + 2)), .int (xs (i + 3))]) (rest := []) (n := 3) (q := 0) (ci := 6) dL_law_471 lkL_53 ln_X6_pay lx_X6_pay li_X6 lc_X6_pay (by decide +kernel) (by decide) rfl rfl rfl (by decide) rfl h1 (by decide) (Nat.le_of_ble_eq_true rfl) ?_
  refine lg_aload2 dL_law_474 ?_
  refine lg_arg (j := 1) dL_law_475 dL_law_476 dL_law_477 dL_law_478 dL_law_479 (by decide) (by omega) hL ?_
  refine lg_arg (j := 2) dL_law_480 dL_law_481 dL_law_482 dL_law_483 dL_law_484 (by decide) (by omega) hL ?_
  refine lg_arg (j := 3) dL_law_485 dL_law_486 dL_law_487 dL_law_488 dL_law_489 (by decide) (by omega) hL ?_
  refine lg_cv (As := [.int (xs (i + 1)), .int (xs (i + 2)), .int (xs (i + 3))]) (rest := [.int rv]) (n := 3) (q := 57) (ci := 7) dL_law_490 lkL_56 ln_X7_pay lx_X7_pay li_X7 lc_X7_pay (by decide +kernel) (by decide) rfl rfl rfl (by decide) rfl h2 (by decide) (Nat.le_of_ble_eq_true rfl) ?_
  exact lq_cmp 876 dL_law_493 (by decide) (hn w2 h3)
theorem lkL_57 : Cond.methodLink RL 57 yX6_vouch ∈ tblG := tblG_in 468 (by decide +kernel) (by decide +kernel)
theorem ln_X6_vouch : Cond.instanceMethod yX6_vouch ∈ tblG := tblG_in 469 (by decide +kernel) (by decide +kernel)
theorem lx_X6_vouch : Cond.selects RX6 yX6_vouch yX6_vouch ∈ tblG := tblG_in 470 (by decide +kernel) (by decide +kernel)
theorem lc_X6_vouch : Cond.code yX6_vouch cX6_vouch 4 (some .int) ∈ tblG := tblG_in 471 (by decide +kernel) (by decide +kernel)
theorem lkL_61 : Cond.methodLink RL 61 yX7_vouch ∈ tblG := tblG_in 778 (by decide +kernel) (by decide +kernel)
theorem ln_X7_vouch : Cond.instanceMethod yX7_vouch ∈ tblG := tblG_in 779 (by decide +kernel) (by decide +kernel)
theorem lx_X7_vouch : Cond.selects RX7 yX7_vouch yX7_vouch ∈ tblG := tblG_in 780 (by decide +kernel) (by decide +kernel)
theorem lc_X7_vouch : Cond.code yX7_vouch cX7_vouch 4 (some .int) ∈ tblG := tblG_in 781 (by decide +kernel) (by decide +kernel)
theorem k_10 (hR : Rel w) (hi : i + 7 ≤ L) (hL : L ≤ 3584) (hn : ∀ w2, Rel w2 → LG E l b L xs i 876 [] w2) : LG E l b L xs i 498 [] w := by
  obtain ⟨rv, w1, w2, h1, h2, h3⟩ := case_vouch (E := E) (w := w) (i := xs (i + 1)) (z := (if xs (i + 2) = 0 then 0 else 1)) hR (by split; exact Or.inl rfl; exact Or.inr rfl)
  refine lg_aload1 dL_law_498 ?_
  refine lg_arg (j := 1) dL_law_499 dL_law_500 dL_law_501 dL_law_502 dL_law_503 (by decide) (by omega) hL ?_
  refine lg_arg (j := 2) dL_law_504 dL_law_505 dL_law_506 dL_law_507 dL_law_508 (by decide) (by omega) hL ?_
  refine lg_bool dL_law_509 dL_law_512 dL_law_513 dL_law_516 ?_
  refine lg_cv (As := [.int (xs (i + 1)), .int (if xs (i + 2) = 0 then 0 else 1)]) (rest := []) (n := 2) (q := 0) (ci := 6) dL_law_517 lkL_57 ln_X6_vouch lx_X6_vouch li_X6 lc_X6_vouch (by decide +kernel) (by decide) rfl rfl rfl (by decide) rfl h1 (by decide) (Nat.le_of_ble_eq_true rfl) ?_
  refine lg_aload2 dL_law_520 ?_
  refine lg_arg (j := 1) dL_law_521 dL_law_522 dL_law_523 dL_law_524 dL_law_525 (by decide) (by omega) hL ?_
  refine lg_arg (j := 2) dL_law_526 dL_law_527 dL_law_528 dL_law_529 dL_law_530 (by decide) (by omega) hL ?_
  refine lg_bool dL_law_531 dL_law_534 dL_law_535 dL_law_538 ?_
  refine lg_cv (As := [.int (xs (i + 1)), .int (if xs (i + 2) = 0 then 0 else 1)]) (rest := [.int rv]) (n := 2) (q := 57) (ci := 7) dL_law_539 lkL_61 ln_X7_vouch lx_X7_vouch li_X7 lc_X7_vouch (by decide +kernel) (by decide) rfl rfl rfl (by decide) rfl h2 (by decide) (Nat.le_of_ble_eq_true rfl) ?_
  exact lq_cmp 876 dL_law_542 (by decide) (hn w2 h3)
theorem lkL_62 : Cond.methodLink RL 62 yX6_challenge ∈ tblG := tblG_in 481 (by decide +kernel) (by decide +kernel)
theorem ln_X6_challenge : Cond.instanceMethod yX6_challenge ∈ tblG := tblG_in 482 (by decide +kernel) (by decide +kernel)
theorem lx_X6_challenge : Cond.selects RX6 yX6_challenge yX6_challenge ∈ tblG := tblG_in 483 (by decide +kernel) (by decide +kernel)
theorem lc_X6_challenge : Cond.code yX6_challenge cX6_challenge 4 (some .int) ∈ tblG := tblG_in 484 (by decide +kernel) (by decide +kernel)
theorem lkL_65 : Cond.methodLink RL 65 yX7_challenge ∈ tblG := tblG_in 786 (by decide +kernel) (by decide +kernel)
theorem ln_X7_challenge : Cond.instanceMethod yX7_challenge ∈ tblG := tblG_in 787 (by decide +kernel) (by decide +kernel)
theorem lx_X7_challenge : Cond.selects RX7 yX7_challenge yX7_challenge ∈ tblG := tblG_in 788 (by decide +kernel) (by decide +kernel)
theorem lc_X7_challenge : Cond.code yX7_challenge cX7_challenge 4 (some .int) ∈ tblG := tblG_in 789 (by decide +kernel) (by decide +kernel)
theorem k_11 (hR : Rel w) (hi : i + 7 ≤ L) (hL : L ≤ 3584) (hn : ∀ w2, Rel w2 → LG E l b L xs i 876 [] w2) : LG E l b L xs i 547 [] w := by
  obtain ⟨rv, w1, w2, h1, h2, h3⟩ := case_challenge (E := E) (w := w) (i := xs (i + 1)) (z := (if xs (i + 2) = 0 then 0 else 1)) hR (by split; exact Or.inl rfl; exact Or.inr rfl)
  refine lg_aload1 dL_law_547 ?_
  refine lg_arg (j := 1) dL_law_548 dL_law_549 dL_law_550 dL_law_551 dL_law_552 (by decide) (by omega) hL ?_
  refine lg_arg (j := 2) dL_law_553 dL_law_554 dL_law_555 dL_law_556 dL_law_557 (by decide) (by omega) hL ?_
  refine lg_bool dL_law_558 dL_law_561 dL_law_562 dL_law_565 ?_
  refine lg_cv (As := [.int (xs (i + 1)), .int (if xs (i + 2) = 0 then 0 else 1)]) (rest := []) (n := 2) (q := 0) (ci := 6) dL_law_566 lkL_62 ln_X6_challenge lx_X6_challenge li_X6 lc_X6_challenge (by decide +kernel) (by decide) rfl rfl rfl (by decide) rfl h1 (by decide) (Nat.le_of_ble_eq_true rfl) ?_
  refine lg_aload2 dL_law_569 ?_
  refine lg_arg (j := 1) dL_law_570 dL_law_571 dL_law_572 dL_law_573 dL_law_574 (by decide) (by omega) hL ?_
  refine lg_arg (j := 2) dL_law_575 dL_law_576 dL_law_577 dL_law_578 dL_law_579 (by decide) (by omega) hL ?_
  refine lg_bool dL_law_580 dL_law_583 dL_law_584 dL_law_587 ?_
  refine lg_cv (As := [.int (xs (i + 1)), .int (if xs (i + 2) = 0 then 0 else 1)]) (rest := [.int rv]) (n := 2) (q := 57) (ci := 7) dL_law_588 lkL_65 ln_X7_challenge lx_X7_challenge li_X7 lc_X7_challenge (by decide +kernel) (by decide) rfl rfl rfl (by decide) rfl h2 (by decide) (Nat.le_of_ble_eq_true rfl) ?_
  exact lq_cmp 876 dL_law_591 (by decide) (hn w2 h3)
theorem lkL_66 : Cond.methodLink RL 66 yX6_barred ∈ tblG := tblG_in 489 (by decide +kernel) (by decide +kernel)
theorem ln_X6_barred : Cond.instanceMethod yX6_barred ∈ tblG := tblG_in 490 (by decide +kernel) (by decide +kernel)
theorem lx_X6_barred : Cond.selects RX6 yX6_barred yX6_barred ∈ tblG := tblG_in 491 (by decide +kernel) (by decide +kernel)
theorem lc_X6_barred : Cond.code yX6_barred cX6_barred 2 (some .int) ∈ tblG := tblG_in 492 (by decide +kernel) (by decide +kernel)
theorem lkL_69 : Cond.methodLink RL 69 yX7_barred ∈ tblG := tblG_in 790 (by decide +kernel) (by decide +kernel)
theorem ln_X7_barred : Cond.instanceMethod yX7_barred ∈ tblG := tblG_in 791 (by decide +kernel) (by decide +kernel)
theorem lx_X7_barred : Cond.selects RX7 yX7_barred yX7_barred ∈ tblG := tblG_in 792 (by decide +kernel) (by decide +kernel)
theorem lc_X7_barred : Cond.code yX7_barred cX7_barred 2 (some .int) ∈ tblG := tblG_in 793 (by decide +kernel) (by decide +kernel)
theorem k_12 (hR : Rel w) (hi : i + 7 ≤ L) (hL : L ≤ 3584) (hn : ∀ w2, Rel w2 → LG E l b L xs i 876 [] w2) : LG E l b L xs i 596 [] w := by
  obtain ⟨rv, w1, w2, h1, h2, h3⟩ := case_barred (E := E) (w := w) (i := xs (i + 1)) hR
  refine lg_aload1 dL_law_596 ?_
  refine lg_arg (j := 1) dL_law_597 dL_law_598 dL_law_599 dL_law_600 dL_law_601 (by decide) (by omega) hL ?_
  refine lg_cv (As := [.int (xs (i + 1))]) (rest := []) (n := 1) (q := 0) (ci := 6) dL_law_602 lkL_66 ln_X6_barred lx_X6_barred li_X6 lc_X6_barred (by decide +kernel) (by decide) rfl rfl rfl (by decide) rfl h1 (by decide) (Nat.le_of_ble_eq_true rfl) ?_
  refine lg_aload2 dL_law_605 ?_
  refine lg_arg (j := 1) dL_law_606 dL_law_607 dL_law_608 dL_law_609 dL_law_610 (by decide) (by omega) hL ?_
  refine lg_cv (As := [.int (xs (i + 1))]) (rest := [.int rv]) (n := 1) (q := 57) (ci := 7) dL_law_611 lkL_69 ln_X7_barred lx_X7_barred li_X7 lc_X7_barred (by decide +kernel) (by decide) rfl rfl rfl (by decide) rfl h2 (by decide) (Nat.le_of_ble_eq_true rfl) ?_
  exact lq_cmp 876 dL_law_614 (by decide) (hn w2 h3)
theorem lkL_70 : Cond.methodLink RL 70 yX6_let ∈ tblG := tblG_in 494 (by decide +kernel) (by decide +kernel)
theorem ln_X6_let : Cond.instanceMethod yX6_let ∈ tblG := tblG_in 495 (by decide +kernel) (by decide +kernel)
theorem lx_X6_let : Cond.selects RX6 yX6_let yX6_let ∈ tblG := tblG_in 496 (by decide +kernel) (by decide +kernel)
theorem lc_X6_let : Cond.code yX6_let cX6_let 6 (some .int) ∈ tblG := tblG_in 497 (by decide +kernel) (by decide +kernel)
theorem lkL_74 : Cond.methodLink RL 74 yX7_let ∈ tblG := tblG_in 794 (by decide +kernel) (by decide +kernel)
theorem ln_X7_let : Cond.instanceMethod yX7_let ∈ tblG := tblG_in 795 (by decide +kernel) (by decide +kernel)
theorem lx_X7_let : Cond.selects RX7 yX7_let yX7_let ∈ tblG := tblG_in 796 (by decide +kernel) (by decide +kernel)
theorem lc_X7_let : Cond.code yX7_let cX7_let 5 (some .int) ∈ tblG := tblG_in 797 (by decide +kernel) (by decide +kernel)
theorem k_13 (hR : Rel w) (hi : i + 7 ≤ L) (hL : L ≤ 3584) (hn : ∀ w2, Rel w2 → LG E l b L xs i 876 [] w2) : LG E l b L xs i 619 [] w := by
  obtain ⟨rv, w1, w2, h1, h2, h3⟩ := case_let (E := E) (w := w) (d := xs (i + 1)) (y := xs (i + 2)) (r := xs (i + 3)) (l := xs (i + 4)) hR
  refine lg_aload1 dL_law_619 ?_
  refine lg_arg (j := 1) dL_law_620 dL_law_621 dL_law_622 dL_law_623 dL_law_624 (by decide) (by omega) hL ?_
  refine lg_arg (j := 2) dL_law_625 dL_law_626 dL_law_627 dL_law_628 dL_law_629 (by decide) (by omega) hL ?_
  refine lg_arg (j := 3) dL_law_630 dL_law_631 dL_law_632 dL_law_633 dL_law_634 (by decide) (by omega) hL ?_
  refine lg_arg (j := 4) dL_law_635 dL_law_636 dL_law_637 dL_law_638 dL_law_639 (by decide) (by omega) hL ?_
  refine lg_cv (As := [.int (xs (i + 1)), .int (xs (i + 2)), .int (xs (i + 3)), .int (xs (i + 4))]) (rest := []) (n := 4) (q := 0) (ci := 6) dL_law_640 lkL_70 ln_X6_let lx_X6_let li_X6 lc_X6_let (by decide +kernel) (by decide) rfl rfl rfl (by decide) rfl h1 (by decide) (Nat.le_of_ble_eq_true rfl) ?_
  refine lg_aload2 dL_law_643 ?_
  refine lg_arg (j := 1) dL_law_644 dL_law_645 dL_law_646 dL_law_647 dL_law_648 (by decide) (by omega) hL ?_
  refine lg_arg (j := 2) dL_law_649 dL_law_650 dL_law_651 dL_law_652 dL_law_653 (by decide) (by omega) hL ?_
  refine lg_arg (j := 3) dL_law_654 dL_law_655 dL_law_656 dL_law_657 dL_law_658 (by decide) (by omega) hL ?_
  refine lg_arg (j := 4) dL_law_659 dL_law_660 dL_law_661 dL_law_662 dL_law_663 (by decide) (by omega) hL ?_
  refine lg_cv (As := [.int (xs (i + 1)), .int (xs (i + 2)), .int (xs (i + 3)), .int (xs (i + 4))]) (rest := [.int rv]) (n := 4) (q := 57) (ci := 7) dL_law_664 lkL_74 ln_X7_let lx_X7_let li_X7 lc_X7_let (by decide +kernel) (by decide) rfl rfl rfl (by decide) rfl h2 (by decide) (Nat.le_of_ble_eq_true rfl) ?_
  exact lq_cmp 876 dL_law_667 (by decide) (hn w2 h3)
theorem lkL_75 : Cond.methodLink RL 75 yX6_isVoid ∈ tblG := tblG_in 502 (by decide +kernel) (by decide +kernel)
theorem ln_X6_isVoid : Cond.instanceMethod yX6_isVoid ∈ tblG := tblG_in 503 (by decide +kernel) (by decide +kernel)
theorem lx_X6_isVoid : Cond.selects RX6 yX6_isVoid yX6_isVoid ∈ tblG := tblG_in 504 (by decide +kernel) (by decide +kernel)
theorem lc_X6_isVoid : Cond.code yX6_isVoid cX6_isVoid 2 (some .int) ∈ tblG := tblG_in 505 (by decide +kernel) (by decide +kernel)
theorem lkL_78 : Cond.methodLink RL 78 yX7_isVoid ∈ tblG := tblG_in 798 (by decide +kernel) (by decide +kernel)
theorem ln_X7_isVoid : Cond.instanceMethod yX7_isVoid ∈ tblG := tblG_in 799 (by decide +kernel) (by decide +kernel)
theorem lx_X7_isVoid : Cond.selects RX7 yX7_isVoid yX7_isVoid ∈ tblG := tblG_in 800 (by decide +kernel) (by decide +kernel)
theorem lc_X7_isVoid : Cond.code yX7_isVoid cX7_isVoid 2 (some .int) ∈ tblG := tblG_in 801 (by decide +kernel) (by decide +kernel)
theorem k_14 (hR : Rel w) (hi : i + 7 ≤ L) (hL : L ≤ 3584) (hn : ∀ w2, Rel w2 → LG E l b L xs i 876 [] w2) : LG E l b L xs i 672 [] w := by
  obtain ⟨rv, w1, w2, h1, h2, h3⟩ := case_isVoid (E := E) (w := w) (i := xs (i + 1)) hR
  refine lg_aload1 dL_law_672 ?_
  refine lg_arg (j := 1) dL_law_673 dL_law_674 dL_law_675 dL_law_676 dL_law_677 (by decide) (by omega) hL ?_
  refine lg_cv (As := [.int (xs (i + 1))]) (rest := []) (n := 1) (q := 0) (ci := 6) dL_law_678 lkL_75 ln_X6_isVoid lx_X6_isVoid li_X6 lc_X6_isVoid (by decide +kernel) (by decide) rfl rfl rfl (by decide) rfl h1 (by decide) (Nat.le_of_ble_eq_true rfl) ?_
  refine lg_aload2 dL_law_681 ?_
  refine lg_arg (j := 1) dL_law_682 dL_law_683 dL_law_684 dL_law_685 dL_law_686 (by decide) (by omega) hL ?_
  refine lg_cv (As := [.int (xs (i + 1))]) (rest := [.int rv]) (n := 1) (q := 57) (ci := 7) dL_law_687 lkL_78 ln_X7_isVoid lx_X7_isVoid li_X7 lc_X7_isVoid (by decide +kernel) (by decide) rfl rfl rfl (by decide) rfl h2 (by decide) (Nat.le_of_ble_eq_true rfl) ?_
  exact lq_cmp 876 dL_law_690 (by decide) (hn w2 h3)
theorem lkL_79 : Cond.methodLink RL 79 yX6_arrears ∈ tblG := tblG_in 513 (by decide +kernel) (by decide +kernel)
theorem ln_X6_arrears : Cond.instanceMethod yX6_arrears ∈ tblG := tblG_in 514 (by decide +kernel) (by decide +kernel)
theorem lx_X6_arrears : Cond.selects RX6 yX6_arrears yX6_arrears ∈ tblG := tblG_in 515 (by decide +kernel) (by decide +kernel)
theorem lc_X6_arrears : Cond.code yX6_arrears cX6_arrears 5 (some .int) ∈ tblG := tblG_in 516 (by decide +kernel) (by decide +kernel)
theorem lkL_82 : Cond.methodLink RL 82 yX7_arrears ∈ tblG := tblG_in 806 (by decide +kernel) (by decide +kernel)
theorem ln_X7_arrears : Cond.instanceMethod yX7_arrears ∈ tblG := tblG_in 807 (by decide +kernel) (by decide +kernel)
theorem lx_X7_arrears : Cond.selects RX7 yX7_arrears yX7_arrears ∈ tblG := tblG_in 808 (by decide +kernel) (by decide +kernel)
theorem lc_X7_arrears : Cond.code yX7_arrears cX7_arrears 5 (some .int) ∈ tblG := tblG_in 809 (by decide +kernel) (by decide +kernel)
theorem k_15 (hR : Rel w) (hi : i + 7 ≤ L) (hL : L ≤ 3584) (hn : ∀ w2, Rel w2 → LG E l b L xs i 876 [] w2) : LG E l b L xs i 695 [] w := by
  obtain ⟨rv, w1, w2, h1, h2, h3⟩ := case_arrears (E := E) (w := w) (i := xs (i + 1)) (day := xs (i + 2)) hR
  refine lg_aload1 dL_law_695 ?_
  refine lg_arg (j := 1) dL_law_696 dL_law_697 dL_law_698 dL_law_699 dL_law_700 (by decide) (by omega) hL ?_
  refine lg_arg (j := 2) dL_law_701 dL_law_702 dL_law_703 dL_law_704 dL_law_705 (by decide) (by omega) hL ?_
  refine lg_cv (As := [.int (xs (i + 1)), .int (xs (i + 2))]) (rest := []) (n := 2) (q := 0) (ci := 6) dL_law_706 lkL_79 ln_X6_arrears lx_X6_arrears li_X6 lc_X6_arrears (by decide +kernel) (by decide) rfl rfl rfl (by decide) rfl h1 (by decide) (Nat.le_of_ble_eq_true rfl) ?_
  refine lg_aload2 dL_law_709 ?_
  refine lg_arg (j := 1) dL_law_710 dL_law_711 dL_law_712 dL_law_713 dL_law_714 (by decide) (by omega) hL ?_
  refine lg_arg (j := 2) dL_law_715 dL_law_716 dL_law_717 dL_law_718 dL_law_719 (by decide) (by omega) hL ?_
  refine lg_cv (As := [.int (xs (i + 1)), .int (xs (i + 2))]) (rest := [.int rv]) (n := 2) (q := 57) (ci := 7) dL_law_720 lkL_82 ln_X7_arrears lx_X7_arrears li_X7 lc_X7_arrears (by decide +kernel) (by decide) rfl rfl rfl (by decide) rfl h2 (by decide) (Nat.le_of_ble_eq_true rfl) ?_
  exact lq_cmp 876 dL_law_723 (by decide) (hn w2 h3)
theorem lkL_83 : Cond.methodLink RL 83 yX6_pot ∈ tblG := tblG_in 528 (by decide +kernel) (by decide +kernel)
theorem ln_X6_pot : Cond.instanceMethod yX6_pot ∈ tblG := tblG_in 529 (by decide +kernel) (by decide +kernel)
theorem lx_X6_pot : Cond.selects RX6 yX6_pot yX6_pot ∈ tblG := tblG_in 530 (by decide +kernel) (by decide +kernel)
theorem lc_X6_pot : Cond.code yX6_pot cX6_pot 2 (some .int) ∈ tblG := tblG_in 531 (by decide +kernel) (by decide +kernel)
theorem lkL_86 : Cond.methodLink RL 86 yX7_pot ∈ tblG := tblG_in 810 (by decide +kernel) (by decide +kernel)
theorem ln_X7_pot : Cond.instanceMethod yX7_pot ∈ tblG := tblG_in 811 (by decide +kernel) (by decide +kernel)
theorem lx_X7_pot : Cond.selects RX7 yX7_pot yX7_pot ∈ tblG := tblG_in 812 (by decide +kernel) (by decide +kernel)
theorem lc_X7_pot : Cond.code yX7_pot cX7_pot 2 (some .int) ∈ tblG := tblG_in 813 (by decide +kernel) (by decide +kernel)
theorem k_16 (hR : Rel w) (hi : i + 7 ≤ L) (hL : L ≤ 3584) (hn : ∀ w2, Rel w2 → LG E l b L xs i 876 [] w2) : LG E l b L xs i 728 [] w := by
  obtain ⟨rv, w1, w2, h1, h2, h3⟩ := case_pot (E := E) (w := w) (day := xs (i + 1)) hR
  refine lg_aload1 dL_law_728 ?_
  refine lg_arg (j := 1) dL_law_729 dL_law_730 dL_law_731 dL_law_732 dL_law_733 (by decide) (by omega) hL ?_
  refine lg_cv (As := [.int (xs (i + 1))]) (rest := []) (n := 1) (q := 0) (ci := 6) dL_law_734 lkL_83 ln_X6_pot lx_X6_pot li_X6 lc_X6_pot (by decide +kernel) (by decide) rfl rfl rfl (by decide) rfl h1 (by decide) (Nat.le_of_ble_eq_true rfl) ?_
  refine lg_aload2 dL_law_737 ?_
  refine lg_arg (j := 1) dL_law_738 dL_law_739 dL_law_740 dL_law_741 dL_law_742 (by decide) (by omega) hL ?_
  refine lg_cv (As := [.int (xs (i + 1))]) (rest := [.int rv]) (n := 1) (q := 57) (ci := 7) dL_law_743 lkL_86 ln_X7_pot lx_X7_pot li_X7 lc_X7_pot (by decide +kernel) (by decide) rfl rfl rfl (by decide) rfl h2 (by decide) (Nat.le_of_ble_eq_true rfl) ?_
  exact lq_cmp 876 dL_law_746 (by decide) (hn w2 h3)
theorem lkL_87 : Cond.methodLink RL 87 yX6_account ∈ tblG := tblG_in 546 (by decide +kernel) (by decide +kernel)
theorem ln_X6_account : Cond.instanceMethod yX6_account ∈ tblG := tblG_in 547 (by decide +kernel) (by decide +kernel)
theorem lx_X6_account : Cond.selects RX6 yX6_account yX6_account ∈ tblG := tblG_in 548 (by decide +kernel) (by decide +kernel)
theorem lc_X6_account : Cond.code yX6_account cX6_account 3 (some .int) ∈ tblG := tblG_in 549 (by decide +kernel) (by decide +kernel)
theorem lkL_90 : Cond.methodLink RL 90 yX7_account ∈ tblG := tblG_in 814 (by decide +kernel) (by decide +kernel)
theorem ln_X7_account : Cond.instanceMethod yX7_account ∈ tblG := tblG_in 815 (by decide +kernel) (by decide +kernel)
theorem lx_X7_account : Cond.selects RX7 yX7_account yX7_account ∈ tblG := tblG_in 816 (by decide +kernel) (by decide +kernel)
theorem lc_X7_account : Cond.code yX7_account cX7_account 3 (some .int) ∈ tblG := tblG_in 817 (by decide +kernel) (by decide +kernel)
theorem k_17 (hR : Rel w) (hi : i + 7 ≤ L) (hL : L ≤ 3584) (hn : ∀ w2, Rel w2 → LG E l b L xs i 876 [] w2) : LG E l b L xs i 751 [] w := by
  obtain ⟨rv, w1, w2, h1, h2, h3⟩ := case_account (E := E) (w := w) (y := xs (i + 1)) (z := xs (i + 2)) hR
  refine lg_aload1 dL_law_751 ?_
  refine lg_arg (j := 1) dL_law_752 dL_law_753 dL_law_754 dL_law_755 dL_law_756 (by decide) (by omega) hL ?_
  refine lg_arg (j := 2) dL_law_757 dL_law_758 dL_law_759 dL_law_760 dL_law_761 (by decide) (by omega) hL ?_
  refine lg_cv (As := [.int (xs (i + 1)), .int (xs (i + 2))]) (rest := []) (n := 2) (q := 0) (ci := 6) dL_law_762 lkL_87 ln_X6_account lx_X6_account li_X6 lc_X6_account (by decide +kernel) (by decide) rfl rfl rfl (by decide) rfl h1 (by decide) (Nat.le_of_ble_eq_true rfl) ?_
  refine lg_aload2 dL_law_765 ?_
  refine lg_arg (j := 1) dL_law_766 dL_law_767 dL_law_768 dL_law_769 dL_law_770 (by decide) (by omega) hL ?_
  refine lg_arg (j := 2) dL_law_771 dL_law_772 dL_law_773 dL_law_774 dL_law_775 (by decide) (by omega) hL ?_
  refine lg_cv (As := [.int (xs (i + 1)), .int (xs (i + 2))]) (rest := [.int rv]) (n := 2) (q := 57) (ci := 7) dL_law_776 lkL_90 ln_X7_account lx_X7_account li_X7 lc_X7_account (by decide +kernel) (by decide) rfl rfl rfl (by decide) rfl h2 (by decide) (Nat.le_of_ble_eq_true rfl) ?_
  exact lq_cmp 876 dL_law_779 (by decide) (hn w2 h3)
theorem lkL_91 : Cond.methodLink RL 91 yX6_pass ∈ tblG := tblG_in 552 (by decide +kernel) (by decide +kernel)
theorem ln_X6_pass : Cond.instanceMethod yX6_pass ∈ tblG := tblG_in 553 (by decide +kernel) (by decide +kernel)
theorem lx_X6_pass : Cond.selects RX6 yX6_pass yX6_pass ∈ tblG := tblG_in 554 (by decide +kernel) (by decide +kernel)
theorem lc_X6_pass : Cond.code yX6_pass cX6_pass 2 (some .int) ∈ tblG := tblG_in 555 (by decide +kernel) (by decide +kernel)
theorem lkL_94 : Cond.methodLink RL 94 yX7_pass ∈ tblG := tblG_in 821 (by decide +kernel) (by decide +kernel)
theorem ln_X7_pass : Cond.instanceMethod yX7_pass ∈ tblG := tblG_in 822 (by decide +kernel) (by decide +kernel)
theorem lx_X7_pass : Cond.selects RX7 yX7_pass yX7_pass ∈ tblG := tblG_in 823 (by decide +kernel) (by decide +kernel)
theorem lc_X7_pass : Cond.code yX7_pass cX7_pass 3 (some .int) ∈ tblG := tblG_in 824 (by decide +kernel) (by decide +kernel)
theorem k_18 (hR : Rel w) (hi : i + 7 ≤ L) (hL : L ≤ 3584) (hn : ∀ w2, Rel w2 → LG E l b L xs i 876 [] w2) : LG E l b L xs i 784 [] w := by
  obtain ⟨rv, w1, w2, h1, h2, h3⟩ := case_pass (E := E) (w := w) (y := xs (i + 1)) hR
  refine lg_aload1 dL_law_784 ?_
  refine lg_arg (j := 1) dL_law_785 dL_law_786 dL_law_787 dL_law_788 dL_law_789 (by decide) (by omega) hL ?_
  refine lg_cv (As := [.int (xs (i + 1))]) (rest := []) (n := 1) (q := 0) (ci := 6) dL_law_790 lkL_91 ln_X6_pass lx_X6_pass li_X6 lc_X6_pass (by decide +kernel) (by decide) rfl rfl rfl (by decide) rfl h1 (by decide) (Nat.le_of_ble_eq_true rfl) ?_
  refine lg_aload2 dL_law_793 ?_
  refine lg_arg (j := 1) dL_law_794 dL_law_795 dL_law_796 dL_law_797 dL_law_798 (by decide) (by omega) hL ?_
  refine lg_cv (As := [.int (xs (i + 1))]) (rest := [.int rv]) (n := 1) (q := 57) (ci := 7) dL_law_799 lkL_94 ln_X7_pass lx_X7_pass li_X7 lc_X7_pass (by decide +kernel) (by decide) rfl rfl rfl (by decide) rfl h2 (by decide) (Nat.le_of_ble_eq_true rfl) ?_
  exact lq_cmp 876 dL_law_802 (by decide) (hn w2 h3)
theorem lkL_95 : Cond.methodLink RL 95 yX6_passed ∈ tblG := tblG_in 560 (by decide +kernel) (by decide +kernel)
theorem ln_X6_passed : Cond.instanceMethod yX6_passed ∈ tblG := tblG_in 561 (by decide +kernel) (by decide +kernel)
theorem lx_X6_passed : Cond.selects RX6 yX6_passed yX6_passed ∈ tblG := tblG_in 562 (by decide +kernel) (by decide +kernel)
theorem lc_X6_passed : Cond.code yX6_passed cX6_passed 3 (some .int) ∈ tblG := tblG_in 563 (by decide +kernel) (by decide +kernel)
theorem lkL_98 : Cond.methodLink RL 98 yX7_passed ∈ tblG := tblG_in 825 (by decide +kernel) (by decide +kernel)
theorem ln_X7_passed : Cond.instanceMethod yX7_passed ∈ tblG := tblG_in 826 (by decide +kernel) (by decide +kernel)
theorem lx_X7_passed : Cond.selects RX7 yX7_passed yX7_passed ∈ tblG := tblG_in 827 (by decide +kernel) (by decide +kernel)
theorem lc_X7_passed : Cond.code yX7_passed cX7_passed 3 (some .int) ∈ tblG := tblG_in 828 (by decide +kernel) (by decide +kernel)
theorem k_19 (hR : Rel w) (hi : i + 7 ≤ L) (hL : L ≤ 3584) (hn : ∀ w2, Rel w2 → LG E l b L xs i 876 [] w2) : LG E l b L xs i 807 [] w := by
  obtain ⟨rv, w1, w2, h1, h2, h3⟩ := case_passed (E := E) (w := w) (y := xs (i + 1)) (z := xs (i + 2)) hR
  refine lg_aload1 dL_law_807 ?_
  refine lg_arg (j := 1) dL_law_808 dL_law_809 dL_law_810 dL_law_811 dL_law_812 (by decide) (by omega) hL ?_
  refine lg_arg (j := 2) dL_law_813 dL_law_814 dL_law_815 dL_law_816 dL_law_817 (by decide) (by omega) hL ?_
  refine lg_cv (As := [.int (xs (i + 1)), .int (xs (i + 2))]) (rest := []) (n := 2) (q := 0) (ci := 6) dL_law_818 lkL_95 ln_X6_passed lx_X6_passed li_X6 lc_X6_passed (by decide +kernel) (by decide) rfl rfl rfl (by decide) rfl h1 (by decide) (Nat.le_of_ble_eq_true rfl) ?_
  refine lg_aload2 dL_law_821 ?_
  refine lg_arg (j := 1) dL_law_822 dL_law_823 dL_law_824 dL_law_825 dL_law_826 (by decide) (by omega) hL ?_
  refine lg_arg (j := 2) dL_law_827 dL_law_828 dL_law_829 dL_law_830 dL_law_831 (by decide) (by omega) hL ?_
  refine lg_cv (As := [.int (xs (i + 1)), .int (xs (i + 2))]) (rest := [.int rv]) (n := 2) (q := 57) (ci := 7) dL_law_832 lkL_98 ln_X7_passed lx_X7_passed li_X7 lc_X7_passed (by decide +kernel) (by decide) rfl rfl rfl (by decide) rfl h2 (by decide) (Nat.le_of_ble_eq_true rfl) ?_
  exact lq_cmp 876 dL_law_835 (by decide) (hn w2 h3)
theorem lkL_99 : Cond.methodLink RL 99 yX6_open ∈ tblG := tblG_in 573 (by decide +kernel) (by decide +kernel)
theorem ln_X6_open : Cond.instanceMethod yX6_open ∈ tblG := tblG_in 574 (by decide +kernel) (by decide +kernel)
theorem lx_X6_open : Cond.selects RX6 yX6_open yX6_open ∈ tblG := tblG_in 575 (by decide +kernel) (by decide +kernel)
theorem lc_X6_open : Cond.code yX6_open cX6_open 1 (some .int) ∈ tblG := tblG_in 576 (by decide +kernel) (by decide +kernel)
theorem lkL_103 : Cond.methodLink RL 103 yX7_open ∈ tblG := tblG_in 830 (by decide +kernel) (by decide +kernel)
theorem ln_X7_open : Cond.instanceMethod yX7_open ∈ tblG := tblG_in 831 (by decide +kernel) (by decide +kernel)
theorem lx_X7_open : Cond.selects RX7 yX7_open yX7_open ∈ tblG := tblG_in 832 (by decide +kernel) (by decide +kernel)
theorem lc_X7_open : Cond.code yX7_open cX7_open 5 (some .int) ∈ tblG := tblG_in 833 (by decide +kernel) (by decide +kernel)
theorem k_20 (hR : Rel w) (hi : i + 7 ≤ L) (hL : L ≤ 3584) (hn : ∀ w2, Rel w2 → LG E l b L xs i 876 [] w2) : LG E l b L xs i 840 [] w := by
  obtain ⟨rv, w1, w2, h1, h2, h3⟩ := case_open (E := E) (w := w) hR
  refine lg_aload1 dL_law_840 ?_
  refine lg_cv (As := []) (rest := []) (n := 0) (q := 0) (ci := 6) dL_law_841 lkL_99 ln_X6_open lx_X6_open li_X6 lc_X6_open (by decide +kernel) (by decide) rfl rfl rfl (by decide) rfl h1 (by decide) (Nat.le_of_ble_eq_true rfl) ?_
  refine lg_aload2 dL_law_844 ?_
  refine lg_cv (As := []) (rest := [.int rv]) (n := 0) (q := 57) (ci := 7) dL_law_845 lkL_103 ln_X7_open lx_X7_open li_X7 lc_X7_open (by decide +kernel) (by decide) rfl rfl rfl (by decide) rfl h2 (by decide) (Nat.le_of_ble_eq_true rfl) ?_
  exact lq_cmp 876 dL_law_848 (by decide) (hn w2 h3)
theorem lkL_104 : Cond.methodLink RL 104 yX6_told ∈ tblG := tblG_in 587 (by decide +kernel) (by decide +kernel)
theorem ln_X6_told : Cond.instanceMethod yX6_told ∈ tblG := tblG_in 588 (by decide +kernel) (by decide +kernel)
theorem lx_X6_told : Cond.selects RX6 yX6_told yX6_told ∈ tblG := tblG_in 589 (by decide +kernel) (by decide +kernel)
theorem lc_X6_told : Cond.code yX6_told cX6_told 2 (some .int) ∈ tblG := tblG_in 590 (by decide +kernel) (by decide +kernel)
theorem lkL_107 : Cond.methodLink RL 107 yX7_told ∈ tblG := tblG_in 834 (by decide +kernel) (by decide +kernel)
theorem ln_X7_told : Cond.instanceMethod yX7_told ∈ tblG := tblG_in 835 (by decide +kernel) (by decide +kernel)
theorem lx_X7_told : Cond.selects RX7 yX7_told yX7_told ∈ tblG := tblG_in 836 (by decide +kernel) (by decide +kernel)
theorem lc_X7_told : Cond.code yX7_told cX7_told 2 (some .int) ∈ tblG := tblG_in 837 (by decide +kernel) (by decide +kernel)
theorem k_21 (hR : Rel w) (hi : i + 7 ≤ L) (hL : L ≤ 3584) (hn : ∀ w2, Rel w2 → LG E l b L xs i 876 [] w2) : LG E l b L xs i 853 [] w := by
  obtain ⟨rv, w1, w2, h1, h2, h3⟩ := case_told (E := E) (w := w) (what := xs (i + 1)) hR
  refine lg_aload1 dL_law_853 ?_
  refine lg_arg (j := 1) dL_law_854 dL_law_855 dL_law_856 dL_law_857 dL_law_858 (by decide) (by omega) hL ?_
  refine lg_cv (As := [.int (xs (i + 1))]) (rest := []) (n := 1) (q := 0) (ci := 6) dL_law_859 lkL_104 ln_X6_told lx_X6_told li_X6 lc_X6_told (by decide +kernel) (by decide) rfl rfl rfl (by decide) rfl h1 (by decide) (Nat.le_of_ble_eq_true rfl) ?_
  refine lg_aload2 dL_law_862 ?_
  refine lg_arg (j := 1) dL_law_863 dL_law_864 dL_law_865 dL_law_866 dL_law_867 (by decide) (by omega) hL ?_
  refine lg_cv (As := [.int (xs (i + 1))]) (rest := [.int rv]) (n := 1) (q := 57) (ci := 7) dL_law_868 lkL_107 ln_X7_told lx_X7_told li_X7 lc_X7_told (by decide +kernel) (by decide) rfl rfl rfl (by decide) rfl h2 (by decide) (Nat.le_of_ble_eq_true rfl) ?_
  exact lq_cmp 876 dL_law_871 (by decide) (hn w2 h3)
end LAWCASES
/-- at 876: seven further, and back to the loop's head -/
theorem lg_next {E : En} {l : Launch} {b L : Nat} {xs : Nat → Int32} {i : Nat} {w : W0} (h : LG E l b L xs (i + 7) 18 [] w) : LG E l b L xs i 876 [] w := by
  intro p e s m below meth c H locs ls C S P F hl
  refine lv_iinc (v := nI (i + 7)) (lv' := [(3, .int (nI (i + 7))), (0, .ref b), (1, .ref (E.1 0)), (2, .ref (E.1 57))]) C.1 C.2.1 dL_law_876 hl (k := 3) rfl (nI_add i 7) (by decide) rfl (fun ls hl => ?_)
  refine lv_goto (tgt := 18) C.1 C.2.1 dL_law_879 (by decide) ?_
  exact h p e s m below meth c H locs ls C S P F (lv_sub hl [1, 2, 3, 0] rfl)
set_option maxRecDepth 20000 in
theorem law_loop {E : En} {l : Launch} {b L : Nat} {xs : Nat → Int32} (hL : L ≤ 3584) : ∀ (n i : Nat) (w : W0), L + 1 ≤ i + n → i ≤ L → Rel w → LG E l b L xs i 18 [] w := by
  intro n
  induction n with
  | zero =>
    intro i w h1 h2 hR
    exact absurd h1 (by omega)
  | succ n ih =>
    intro i w h1 h2 hR
    have hn : i + 7 ≤ L → ∀ w2, Rel w2 → LG E l b L xs i 876 [] w2 := fun q w2 h => lg_next (ih (i + 7) w2 (by omega) q h)
    intro p e s m below meth c H locs ls C S P F hl
    refine lv_iload_n C.1 C.2.1 dL_law_18 rfl (lv_at hl 3 rfl) ?_
    refine lv_aload_n C.1 C.2.1 dL_law_19 rfl (lv_at hl 0 rfl) ?_
    refine va_slen C.1 C.2.1 C.2.2.2.2.2.2.1 C.2.2.2.2.2.2.2.1 (Nat.not_le.mpr C.2.2.2.2.2.2.2.1) F dL_law_20 ?_
    refine lv_bipush (v := 7) C.1 C.2.1 dL_law_21 (by decide) ?_
    refine lv_isub C.1 C.2.1 dL_law_23 ?_
    have iL : (nI L).toInt = (L : Int) := nI_toInt (by omega)
    have ii : (nI i).toInt = (i : Int) := nI_toInt (by omega)
    have i7 : (7 : Int32).toInt = 7 := rfl
    have hs : (nI L - 7).toInt = (L : Int) - 7 := by
      rw [ti_sub (by rw [iL, i7]; omega) (by rw [iL, i7]; omega), iL, i7]
    refine lv_icmp_gt (tgt := 882) C.1 C.2.1 dL_law_24 (by decide) (fun q => ?_) (fun q => ?_)
    · exact lg_end dL_law_882 dL_law_883 p e s m below meth c H locs ls C S P F hl
    · have hle : i + 7 ≤ L := by
        rcases Nat.lt_or_ge L (i + 7) with z | z
        · exact absurd (Int32.lt_iff_toInt_lt.mpr (show (nI L - 7).toInt < (nI i).toInt by rw [hs, ii]; omega)) q
        · exact z
      refine lv_aload_n C.1 C.2.1 dL_law_27 rfl (lv_at hl 0 rfl) ?_
      refine lv_iload_n C.1 C.2.1 dL_law_28 rfl (lv_at hl 3 rfl) ?_
      refine lg_get (st := []) dL_law_29 (show i < L by omega) hL ?_ p e s m below meth c H locs ls C S P F hl
      intro p e s m below meth c H locs ls C S P F hl
      refine lv_bipush (v := 31) C.1 C.2.1 dL_law_30 (by decide) ?_
      refine lv_iand C.1 C.2.1 dL_law_32 ?_
      generalize xs i &&& 31 = v
      by_cases hv : v.toInt < 0 ∨ 21 < v.toInt
      · exact lv_tableOut (tgt := 876) C.1 C.2.1 dL_law_33 hv (by decide) (hn hle w hR p e s m below meth c H locs ls C S P F hl)
      · rcases (show v.toInt = 0 ∨ v.toInt = 1 ∨ v.toInt = 2 ∨ v.toInt = 3 ∨ v.toInt = 4 ∨ v.toInt = 5 ∨ v.toInt = 6 ∨ v.toInt = 7 ∨ v.toInt = 8 ∨ v.toInt = 9 ∨ v.toInt = 10 ∨ v.toInt = 11 ∨ v.toInt = 12 ∨ v.toInt = 13 ∨ v.toInt = 14 ∨ v.toInt = 15 ∨ v.toInt = 16 ∨ v.toInt = 17 ∨ v.toInt = 18 ∨ v.toInt = 19 ∨ v.toInt = 20 ∨ v.toInt = 21 by omega) with z | z | z | z | z | z | z | z | z | z | z | z | z | z | z | z | z | z | z | z | z | z
        · exact lv_tableIn (off := 103) (tgt := 136) C.1 C.2.1 dL_law_33 (by omega) (by omega) (by rw [z]; rfl) (by decide) (k_0 hR hle hL (hn hle) p e s m below meth c H locs ls C S P F hl)
        · exact lv_tableIn (off := 178) (tgt := 211) C.1 C.2.1 dL_law_33 (by omega) (by omega) (by rw [z]; rfl) (by decide) (k_1 hR hle hL (hn hle) p e s m below meth c H locs ls C S P F hl)
        · exact lv_tableIn (off := 211) (tgt := 244) C.1 C.2.1 dL_law_33 (by omega) (by omega) (by rw [z]; rfl) (by decide) (k_2 hR hle hL (hn hle) p e s m below meth c H locs ls C S P F hl)
        · exact lv_tableIn (off := 234) (tgt := 267) C.1 C.2.1 dL_law_33 (by omega) (by omega) (by rw [z]; rfl) (by decide) (k_3 hR hle hL (hn hle) p e s m below meth c H locs ls C S P F hl)
        · exact lv_tableIn (off := 267) (tgt := 300) C.1 C.2.1 dL_law_33 (by omega) (by omega) (by rw [z]; rfl) (by decide) (k_4 hR hle hL (hn hle) p e s m below meth c H locs ls C S P F hl)
        · exact lv_tableIn (off := 300) (tgt := 333) C.1 C.2.1 dL_law_33 (by omega) (by omega) (by rw [z]; rfl) (by decide) (k_5 hR hle hL (hn hle) p e s m below meth c H locs ls C S P F hl)
        · exact lv_tableIn (off := 323) (tgt := 356) C.1 C.2.1 dL_law_33 (by omega) (by omega) (by rw [z]; rfl) (by decide) (k_6 hR hle hL (hn hle) p e s m below meth c H locs ls C S P F hl)
        · exact lv_tableIn (off := 346) (tgt := 379) C.1 C.2.1 dL_law_33 (by omega) (by omega) (by rw [z]; rfl) (by decide) (k_7 hR hle hL (hn hle) p e s m below meth c H locs ls C S P F hl)
        · exact lv_tableIn (off := 379) (tgt := 412) C.1 C.2.1 dL_law_33 (by omega) (by omega) (by rw [z]; rfl) (by decide) (k_8 hR hle hL (hn hle) p e s m below meth c H locs ls C S P F hl)
        · exact lv_tableIn (off := 422) (tgt := 455) C.1 C.2.1 dL_law_33 (by omega) (by omega) (by rw [z]; rfl) (by decide) (k_9 hR hle hL (hn hle) p e s m below meth c H locs ls C S P F hl)
        · exact lv_tableIn (off := 465) (tgt := 498) C.1 C.2.1 dL_law_33 (by omega) (by omega) (by rw [z]; rfl) (by decide) (k_10 hR hle hL (hn hle) p e s m below meth c H locs ls C S P F hl)
        · exact lv_tableIn (off := 514) (tgt := 547) C.1 C.2.1 dL_law_33 (by omega) (by omega) (by rw [z]; rfl) (by decide) (k_11 hR hle hL (hn hle) p e s m below meth c H locs ls C S P F hl)
        · exact lv_tableIn (off := 563) (tgt := 596) C.1 C.2.1 dL_law_33 (by omega) (by omega) (by rw [z]; rfl) (by decide) (k_12 hR hle hL (hn hle) p e s m below meth c H locs ls C S P F hl)
        · exact lv_tableIn (off := 586) (tgt := 619) C.1 C.2.1 dL_law_33 (by omega) (by omega) (by rw [z]; rfl) (by decide) (k_13 hR hle hL (hn hle) p e s m below meth c H locs ls C S P F hl)
        · exact lv_tableIn (off := 639) (tgt := 672) C.1 C.2.1 dL_law_33 (by omega) (by omega) (by rw [z]; rfl) (by decide) (k_14 hR hle hL (hn hle) p e s m below meth c H locs ls C S P F hl)
        · exact lv_tableIn (off := 662) (tgt := 695) C.1 C.2.1 dL_law_33 (by omega) (by omega) (by rw [z]; rfl) (by decide) (k_15 hR hle hL (hn hle) p e s m below meth c H locs ls C S P F hl)
        · exact lv_tableIn (off := 695) (tgt := 728) C.1 C.2.1 dL_law_33 (by omega) (by omega) (by rw [z]; rfl) (by decide) (k_16 hR hle hL (hn hle) p e s m below meth c H locs ls C S P F hl)
        · exact lv_tableIn (off := 718) (tgt := 751) C.1 C.2.1 dL_law_33 (by omega) (by omega) (by rw [z]; rfl) (by decide) (k_17 hR hle hL (hn hle) p e s m below meth c H locs ls C S P F hl)
        · exact lv_tableIn (off := 751) (tgt := 784) C.1 C.2.1 dL_law_33 (by omega) (by omega) (by rw [z]; rfl) (by decide) (k_18 hR hle hL (hn hle) p e s m below meth c H locs ls C S P F hl)
        · exact lv_tableIn (off := 774) (tgt := 807) C.1 C.2.1 dL_law_33 (by omega) (by omega) (by rw [z]; rfl) (by decide) (k_19 hR hle hL (hn hle) p e s m below meth c H locs ls C S P F hl)
        · exact lv_tableIn (off := 807) (tgt := 840) C.1 C.2.1 dL_law_33 (by omega) (by omega) (by rw [z]; rfl) (by decide) (k_20 hR hle hL (hn hle) p e s m below meth c H locs ls C S P F hl)
        · exact lv_tableIn (off := 820) (tgt := 853) C.1 C.2.1 dL_law_33 (by omega) (by omega) (by rw [z]; rfl) (by decide) (k_21 hR hle hL (hn hle) p e s m below meth c H locs ls C S P F hl)

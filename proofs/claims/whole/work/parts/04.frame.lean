/-! THE FRAME: the world by places (class WardCourt: 0 .. 56, model: 57 .. 79), one judgement G for a method's body, one contract Mt for a method -/
abbrev W0 : Type := Nat → Nat → Int32
abbrev En : Type := (Nat → Nat) × Nat × va_G × (ClassId × ClassId × ClassId)
/-- kind and size of a place: 0 an object of class n, 1 an int row of n, 2 a boolean row of n, 3 a row of n references -/
def shL : List (Nat × Nat) := [(0, 6), (0, 2), (0, 5), (0, 4), (0, 1), (0, 3), (0, 0), (1, 8), (3, 8), (1, 5), (1, 5), (1, 5), (1, 5), (1, 5), (1, 5), (1, 5), (1, 5), (1, 6), (1, 6), (1, 6), (1, 6), (1, 6), (1, 10), (1, 10), (1, 60), (1, 60), (2, 60), (1, 60), (2, 60), (2, 60), (2, 60), (1, 10), (1, 10), (1, 10), (1, 10), (3, 10), (1, 6), (1, 6), (1, 6), (1, 6), (1, 6), (1, 6), (1, 6), (1, 6), (1, 6), (1, 6), (3, 10), (1, 6), (1, 6), (1, 6), (1, 6), (1, 6), (1, 6), (1, 6), (1, 6), (1, 6), (1, 6), (0, 7), (1, 8), (1, 40), (1, 6), (1, 6), (1, 10), (1, 10), (2, 60), (1, 60), (1, 60), (1, 60), (2, 60), (2, 60), (1, 10), (1, 10), (1, 10), (1, 10), (1, 60), (1, 3600), (1, 60), (1, 6), (1, 6), (1, 6)]
def sh (k : Nat) : Nat × Nat := shL.getD k (9, 0)
abbrev nP : Nat := 80
def clN : Nat → Nat := fun k => [3, 8, 3, 5, 3, 6, 7, 29].getD k 0
def rfL : List (List (Option Nat)) := [[some 1, some 2, some 3, some 4, some 5, some 6, none], [some 7, some 8, none], [some 17, some 18, some 19, some 20, some 21, none], [some 22, some 23, none], [some 24, some 25, some 26, some 27, some 28, some 29, some 30, none], [some 31, some 32, some 33, some 34, none], [some 35, some 46, none], [], [some 9, some 10, some 11, some 12, some 13, some 14, some 15, some 16], [], [], [], [], [], [], [], [], [], [], [], [], [], [], [], [], [], [], [], [], [], [], [], [], [], [], [some 36, some 37, some 38, some 39, some 40, some 41, some 42, some 43, some 44, some 45], [], [], [], [], [], [], [], [], [], [], [some 47, some 48, some 49, some 50, some 51, some 52, some 53, some 54, some 55, some 56], [], [], [], [], [], [], [], [], [], [], [none, some 58, some 59, none, some 60, some 61, none, some 62, some 63, none, some 64, some 65, some 66, some 67, some 68, some 69, none, some 70, some 71, some 72, some 73, some 74, none, none, some 75, some 76, some 77, some 78, some 79]]
def rfT (p i : Nat) : Option Nat := (rfL.getD p []).getD i none
def fV (E : En) (w : W0) (p i : Nat) : Value := match rfT p i with
  | some q => .ref (E.1 q)
  | none => .int (w p i)
def cE (E : En) (w : W0) (p : Nat) : va_E := match (sh p).1 with
  | 0 => .inr ((sh p).2, (List.range (clN (sh p).2)).map (fV E w p))
  | 1 => .inl (E.2.2.2.1, (sh p).2, .inl (w p))
  | 2 => .inl (E.2.2.2.2.1, (sh p).2, .inl (w p))
  | _ => .inl (E.2.2.2.2.2, (sh p).2, .inr (.inr (.inr (.inr (fun i => (rfT p i).map E.1)))))
def wl (E : En) (w : W0) : va_W := (List.range nP).map (fun k => (E.1 k, cE E w k))
def Aw (E : En) : Nat → Prop := fun q => ∃ k, k < nP ∧ q = E.1 k
def tysE (E : En) : List (ClassId × FieldType) := [(E.2.2.2.1, .int), (E.2.2.2.2.1, .boolean), (E.2.2.2.2.2, .array .int)]
def bef : Nat → Int32 := fun k => [21, 100, 5, 50, 3].getD k 0
def isNest : Cond → Bool
  | .fieldLinkNest .. => true
  | .methodLinkNest .. => true
  | _ => false
def tblG : List Cond := lw_tbl.filter goodWord
def tblN : List Cond := lw_tbl.filter isNest
theorem tblG_in {w : Cond} (i : Nat) (h : lw_tbl[i]? = some w) (hg : goodWord w = true) : w ∈ tblG := List.mem_filter.mpr ⟨List.mem_of_getElem? h, hg⟩
theorem tblN_in {w : Cond} (i : Nat) (h : lw_tbl[i]? = some w) (hg : isNest w = true) : w ∈ tblN := List.mem_filter.mpr ⟨List.mem_of_getElem? h, hg⟩
theorem tblG_self {y : MethodName} {cc : ByteArray} {nL : Nat} {ret : Option FieldType} {ts : List Cond} (hm : Cond.code y cc nL ret ∈ tblG) (hs : ∀ w ∈ tblG, w ∈ ts) : GoodIn ts (Cond.code y cc nL ret :: tblG) := by
  intro w hw
  have h : w ∈ tblG := by
    rcases List.mem_cons.mp hw with h | h
    · rw [h]; exact hm
    · exact h
  exact ⟨hs w h, good_of_word (List.mem_filter.mp h).2⟩
/-- what stays as it is, in a state and a heap -/
def Ws (E : En) (U : State) (H : Heap) : Prop := va_K E.2.2.1 vwCl (tysE E) U ∧ va_Z "WardCourt" "BEFORE_ANY_LAW" "[I" (.ref E.2.1) (Aw E) U H ∧ va_T .int E.2.1 5 (fun j => .int (bef j)) (Aw E) U H ∧ (∀ x ∈ tblN, va_Nw x U) ∧ ∀ i j : Nat, i < nP → j < nP → E.1 i = E.1 j → i = j
def Wd (E : En) (w : W0) (U : State) (H : Heap) : Prop := Ws E U H ∧ va_P E.2.2.1 vwCl (wl E w) H
def QD (E : En) (rv : Option Value) (w1 : W0) : Array Value → State → Outcome → State → Prop := fun _ st oc t => (oc = .returned rv ∧ Wd E w1 t t.heap) ∧ va_F (Aw E) st t
def rmD (d : Nat) : Room := { frames := d, cells := 0, slots := 0, locals := 40 * d }
/-- THE CONTRACT: from the world w with the arguments av the method returns rv (none: void), and the world is w1 -/
def Mt (E : En) (d : Nat) (y : MethodName) (cc : ByteArray) (nL : Nat) (ret : Option FieldType) (av : List Value) (w : W0) (rv : Option Value) (w1 : W0) : Prop := ∀ l : Launch, Met l y (Cond.code y cc nL ret :: tblG) (rmD d) (va_Pc av (fun U => Wd E w U U.heap)) (QD E rv w1) 0 0 (Aw E)
/-- THE JUDGEMENT: the body of the method (own, cc, nL, ret) goes on from pc with locals lv, stack st and world w to its return of rv in the world w1 -/
def G (E : En) (d : Nat) (own : String) (cc : ByteArray) (nL : Nat) (ret : Option FieldType) (rv : Option Value) (w1 : W0) (pc : Nat) (lv : List (Nat × Value)) (st : List Value) (w : W0) : Prop :=
  ∀ (p : Program) (l : Launch) (e : Env) (s : State) (m : MethodId) (args : Array Value) (below : List Frame) (meth : Method) (c : Code) (H : Heap) (locs : List Loc) (ls : Array Slot),
    (p.tables.exec = Jvm.exec ∧ c.code = cc ∧ meth.sig.returnType = ret ∧ meth.locks = false ∧ c.maxLocals = nL ∧ s.vm.findClass own = some m.cls ∧ ∀ x ∈ tblG, x.before args s = true) →
    Ws E s s.heap → va_P E.2.2.1 vwCl (wl E w) H → va_S (Aw E) s.heap H locs → lv_has ls nL lv →
    W p l e (rmD d) s m args below meth c H locs 0 0 (MQ below (QD E rv w1) args s 0 0 (Aw E)) (F0 m pc ls st)
/-! facts of the world -/
theorem wl_len (E : En) (w : W0) : (wl E w).length = nP := by simp [wl]
theorem wl_get (E : En) (w : W0) {k : Nat} (h : k < nP) : (wl E w)[k]? = some (E.1 k, cE E w k) := by
  simp [wl, List.getElem?_map, List.getElem?_range h]
theorem wl_some {E : En} {w : W0} {k : Nat} {q : Nat × va_E} (h : (wl E w)[k]? = some q) : k < nP ∧ q = (E.1 k, cE E w k) := by
  have hk : k < nP := by
    have := (List.getElem?_eq_some_iff.mp h).1
    rw [wl_len] at this
    exact this
  rw [wl_get E w hk] at h
  exact ⟨hk, (Option.some.inj h).symm⟩
theorem wl_D {E : En} (w : W0) (h : ∀ i j : Nat, i < nP → j < nP → E.1 i = E.1 j → i = j) : va_D (Aw E) (wl E w) := by
  refine ⟨fun i j p q hi hj hpq => ?_, fun k q hk => ?_⟩
  · obtain ⟨h1, rfl⟩ := wl_some hi
    obtain ⟨h2, rfl⟩ := wl_some hj
    exact h i j h1 h2 hpq
  · obtain ⟨h1, rfl⟩ := wl_some hk
    exact ⟨k, h1, rfl⟩
def setW (w : W0) (p i : Nat) (v : Int32) : W0 := fun a => if a = p then upd (w p) i v else w a
theorem cE_ne {E : En} {w : W0} {p i k : Nat} {v : Int32} (h : k ≠ p) : cE E (setW w p i v) k = cE E w k := by
  have hw : setW w p i v k = w k := by simp [setW, h]
  have hf : fV E (setW w p i v) k = fV E w k := by
    funext j
    simp [fV, hw]
  simp only [cE, hw, hf]
theorem wl_set {E : En} {w : W0} {p i : Nat} {v : Int32} {e : va_E} (hp : p < nP) (he : e = cE E (setW w p i v) p) : (wl E w).set p (E.1 p, e) = wl E (setW w p i v) := by
  subst he
  apply List.ext_getElem?
  intro k
  by_cases hk : k = p
  · subst hk
    rw [List.getElem?_set_self (by rw [wl_len]; exact hp), wl_get _ _ hp]
  · rw [List.getElem?_set_ne (Ne.symm hk)]
    by_cases h : k < nP
    · rw [wl_get _ _ h, wl_get _ _ h, cE_ne hk]
    · rw [List.getElem?_eq_none (by rw [wl_len]; omega), List.getElem?_eq_none (by rw [wl_len]; omega)]
theorem cE_0 {E : En} {w : W0} {p c : Nat} (h : sh p = (0, c)) : cE E w p = .inr (c, (List.range (clN c)).map (fV E w p)) := by simp [cE, h]
theorem cE_1 {E : En} {w : W0} {p n : Nat} (h : sh p = (1, n)) : cE E w p = .inl (E.2.2.2.1, n, .inl (w p)) := by simp [cE, h]
theorem cE_2 {E : En} {w : W0} {p n : Nat} (h : sh p = (2, n)) : cE E w p = .inl (E.2.2.2.2.1, n, .inl (w p)) := by simp [cE, h]
theorem cE_3 {E : En} {w : W0} {p n : Nat} (h : sh p = (3, n)) : cE E w p = .inl (E.2.2.2.2.2, n, .inr (.inr (.inr (.inr (fun i => (rfT p i).map E.1))))) := by simp [cE, h]
theorem wl_0 {E : En} {w : W0} {p c : Nat} (hp : p < nP) (h : sh p = (0, c)) : (wl E w)[p]? = some (E.1 p, .inr (c, (List.range (clN c)).map (fV E w p))) := by rw [wl_get E w hp, cE_0 h]
theorem wl_1 {E : En} {w : W0} {p n : Nat} (hp : p < nP) (h : sh p = (1, n)) : (wl E w)[p]? = some (E.1 p, .inl (E.2.2.2.1, n, .inl (w p))) := by rw [wl_get E w hp, cE_1 h]
theorem wl_2 {E : En} {w : W0} {p n : Nat} (hp : p < nP) (h : sh p = (2, n)) : (wl E w)[p]? = some (E.1 p, .inl (E.2.2.2.2.1, n, .inl (w p))) := by rw [wl_get E w hp, cE_2 h]
theorem wl_3 {E : En} {w : W0} {p n : Nat} (hp : p < nP) (h : sh p = (3, n)) : (wl E w)[p]? = some (E.1 p, .inl (E.2.2.2.2.2, n, .inr (.inr (.inr (.inr (fun i => (rfT p i).map E.1)))))) := by rw [wl_get E w hp, cE_3 h]
theorem fV_i {E : En} {w : W0} {p i : Nat} (h : rfT p i = none) : fV E w p i = .int (w p i) := by simp [fV, h]
theorem fV_r {E : En} {w : W0} {p i q : Nat} (h : rfT p i = some q) : fV E w p i = .ref (E.1 q) := by simp [fV, h]
theorem setW_ne {w : W0} {p i q : Nat} {v : Int32} (h : q ≠ p) : setW w p i v q = w q := by simp [setW, h]
theorem setW_p (w : W0) (p i : Nat) (v : Int32) : setW w p i v p = upd (w p) i v := by simp [setW]
theorem fs_set {E : En} {w : W0} {p i n : Nat} {v : Int32} (hr : rfT p i = none) : ((List.range n).map (fV E w p)).set i (.int v) = (List.range n).map (fV E (setW w p i v) p) := by
  apply List.ext_getElem?
  intro k
  by_cases hk : k = i
  · subst hk
    by_cases hn : k < n
    · rw [List.getElem?_set_self (by simpa using hn)]
      simp [List.getElem?_map, List.getElem?_range hn, fV, hr, setW, upd]
    · rw [List.getElem?_eq_none (by simp; omega), List.getElem?_eq_none (by simp; omega)]
  · rw [List.getElem?_set_ne (Ne.symm hk)]
    by_cases hn : k < n
    · simp [List.getElem?_map, List.getElem?_range hn, fV, setW, upd, hk]
    · rw [List.getElem?_eq_none (by simp; omega), List.getElem?_eq_none (by simp; omega)]
/-! how the standing facts go along -/
theorem Nw_warm {s U : State} (hW : s.WarmedH U.vm) {x : Cond} (hx : x ∈ tblN) (h : va_Nw x s) : va_Nw x U := by
  have hn := (List.mem_filter.mp hx).2
  cases x <;> first | exact va_Nw.warmF hW h | exact va_Nw.warmM hW h | (simp [isNest] at hn)
theorem Nw_same {u U : State} (hv : u.vm = U.vm) {x : Cond} (hx : x ∈ tblN) (h : va_Nw x u) : va_Nw x U := by
  have hn := (List.mem_filter.mp hx).2
  cases x <;> first | exact va_Nw.same rfl hv h | (simp [isNest] at hn)
theorem Nw_use {s : State} {args : Array Value} {x : Cond} (hx : x ∈ tblN) (h : va_Nw x s) : x.before args s = true := by
  have hn := (List.mem_filter.mp hx).2
  cases x <;> first | exact va_Nw.use rfl h | (simp [isNest] at hn)
theorem Ws.go {E : En} {s U : State} {H : Heap} {locs : List Loc} (h : Ws E s s.heap) (hS : va_S (Aw E) s.heap H locs) (hW : s.WarmedH U.vm) : Ws E U H := by
  obtain ⟨h1, h2, h3, h4, h5⟩ := h
  have hk : ∀ a : Nat, a < s.heap.size → ¬ Aw E a → H[a]? = s.heap[a]? := fun a ha hn => hS.2.1 a ha hn
  exact ⟨va_K.moved hW.alike h1, (va_Z.moved hW.alike h2).kept hk, (va_T.moved hW.alike h3).kept hk, fun x hx => Nw_warm hW hx (h4 x hx), h5⟩
theorem Ws.same {E : En} {u U : State} {H : Heap} (h : Ws E u H) (hv : u.vm = U.vm) : Ws E U H := by
  obtain ⟨h1, h2, h3, h4, h5⟩ := h
  have ha : u.vm.Alike U.vm := by rw [← hv]; exact Vm.Alike.refl _
  exact ⟨va_K.moved ha h1, va_Z.moved ha h2, va_T.moved ha h3, fun x hx => Nw_same hv hx (h4 x hx), h5⟩
theorem Pc_blind {E : En} {av : List Value} {w : W0} : FrameBlind (va_Pc av (fun U => Wd E w U U.heap)) := by
  intro a U g mk h
  exact ⟨h.1, h.2.1.same rfl, h.2.2⟩
/-- a method's contract from its body -/
theorem Mt.of {E : En} {d : Nat} {y : MethodName} {cc : ByteArray} {nL : Nat} {ret : Option FieldType} {av : List Value} {w : W0} {rv : Option Value} {w1 : W0} (hy : plainName y.cls = true) (hn : (lg_sl av).length ≤ nL)
    (h : G E d y.cls cc nL ret rv w1 0 (lv_args 0 av) [] w) : Mt E d y cc nL ret av w rv w1 := by
  intro l
  refine Met.ofW (cc := cc) (maxL := nL) (ret := ret) hy rfl ?_
  intro p e s m args below meth c s₁ B hml hv
  obtain ⟨rfl, hWs, hP⟩ := hv
  have hts := atoms_spec (ws := Cond.code y cc nL ret :: tblG) B.pre
  have hl := lv_entry av (n := nL) hn
  rw [lg_entry_eq]
  generalize (lg_sl av ++ List.replicate (nL - (lg_sl av).length) Slot.unset).toArray = ls at hl ⊢
  exact h p l e s m _ below meth c s.heap [] ls ⟨B.exec, B.bytes, B.returns, B.notSynchronized, hml, findClass_of_methodNamed B.named, fun x hx => hts x (List.mem_cons_of_mem _ hx)⟩ hWs hP va_S.rf hl

/-! THE RULES of the judgement G, an instruction a rule -/
def bI (p : Prop) [Decidable p] : Int32 := if p then 1 else 0
theorem bI_t {p : Prop} [Decidable p] (h : p) : bI p = 1 := if_pos h
theorem bI_f {p : Prop} [Decidable p] (h : ¬ p) : bI p = 0 := if_neg h
theorem bI_0 {p : Prop} [Decidable p] : bI p = 0 ↔ ¬ p := by
  unfold bI
  by_cases h : p <;> simp [h]
section RULES
variable {E : En} {d : Nat} {own : String} {cc : ByteArray} {nL : Nat} {ret : Option FieldType} {rv : Option Value} {w1 : W0} {pc : Nat} {lv : List (Nat × Value)} {st : List Value} {w : W0}
theorem g_iconst {n : Int} (v : Int32) (hd : decode cc pc = .ok (.iconst n, 1)) (hv : Int32.ofInt n = v) (h : G E d own cc nL ret rv w1 (pc + 1) lv (.int v :: st) w) : G E d own cc nL ret rv w1 pc lv st w :=
  fun p l e s m args below meth c H locs ls C S P F L => lv_iconst C.1 C.2.1 hd hv (h p l e s m args below meth c H locs ls C S P F L)
theorem g_bipush {n : Int} (v : Int32) (hd : decode cc pc = .ok (.bipush n, 2)) (hv : (Int8.ofInt n).toInt32 = v) (h : G E d own cc nL ret rv w1 (pc + 2) lv (.int v :: st) w) : G E d own cc nL ret rv w1 pc lv st w :=
  fun p l e s m args below meth c H locs ls C S P F L => lv_bipush C.1 C.2.1 hd hv (h p l e s m args below meth c H locs ls C S P F L)
theorem g_sipush {n : Int} (v : Int32) (hd : decode cc pc = .ok (.sipush n, 3)) (hv : (Int16.ofInt n).toInt32 = v) (h : G E d own cc nL ret rv w1 (pc + 3) lv (.int v :: st) w) : G E d own cc nL ret rv w1 pc lv st w :=
  fun p l e s m args below meth c H locs ls C S P F L => lv_sipush C.1 C.2.1 hd hv (h p l e s m args below meth c H locs ls C S P F L)
theorem g_lconst {n : Fin 2} (v : Int64) (hd : decode cc pc = .ok (.lconst n, 1)) (hv : Int64.ofNat (n : Nat) = v) (h : G E d own cc nL ret rv w1 (pc + 1) lv (.long v :: st) w) : G E d own cc nL ret rv w1 pc lv st w :=
  fun p l e s m args below meth c H locs ls C S P F L => lv_lconst C.1 C.2.1 hd hv (h p l e s m args below meth c H locs ls C S P F L)
theorem g_ldc {index : Nat} (v : Int32) (hd : decode cc pc = .ok (.ldc index, 2)) (hc : Cond.constant own index v ∈ tblG) (h : G E d own cc nL ret rv w1 (pc + 2) lv (.int v :: st) w) : G E d own cc nL ret rv w1 pc lv st w :=
  fun p l e s m args below meth c H locs ls C S P F L => lv_ldc C.1 C.2.1 C.2.2.2.2.2.1 (C.2.2.2.2.2.2 _ hc) hd (h p l e s m args below meth c H locs ls C S P F L)
theorem g_ldc2 {index : Nat} (v : Int64) (hd : decode cc pc = .ok (.ldc2_w index, 3)) (hc : Cond.constantLong own index v ∈ tblG) (h : G E d own cc nL ret rv w1 (pc + 3) lv (.long v :: st) w) : G E d own cc nL ret rv w1 pc lv st w :=
  fun p l e s m args below meth c H locs ls C S P F L => lv_ldc2 C.1 C.2.1 C.2.2.2.2.2.1 (C.2.2.2.2.2.2 _ hc) hd (h p l e s m args below meth c H locs ls C S P F L)
theorem g_iload_n {k : Fin 4} {i : Nat} {x : Int32} (j : Nat) (hd : decode cc pc = .ok (.iload_n k, 1)) (hl : lv[j]? = some (i, .int x)) (hi : (k : Nat) = i) (h : G E d own cc nL ret rv w1 (pc + 1) lv (.int x :: st) w) : G E d own cc nL ret rv w1 pc lv st w :=
  fun p l e s m args below meth c H locs ls C S P F L => lv_iload_n C.1 C.2.1 hd hi (lv_at L j hl) (h p l e s m args below meth c H locs ls C S P F L)
theorem g_iload {i : Nat} {x : Int32} (j : Nat) (hd : decode cc pc = .ok (.iload i, 2)) (hl : lv[j]? = some (i, .int x)) (h : G E d own cc nL ret rv w1 (pc + 2) lv (.int x :: st) w) : G E d own cc nL ret rv w1 pc lv st w :=
  fun p l e s m args below meth c H locs ls C S P F L => lv_iload C.1 C.2.1 hd (lv_at L j hl) (h p l e s m args below meth c H locs ls C S P F L)
theorem g_lload_n {k : Fin 4} {i : Nat} {x : Int64} (j : Nat) (hd : decode cc pc = .ok (.lload_n k, 1)) (hl : lv[j]? = some (i, .long x)) (hi : (k : Nat) = i) (h : G E d own cc nL ret rv w1 (pc + 1) lv (.long x :: st) w) : G E d own cc nL ret rv w1 pc lv st w :=
  fun p l e s m args below meth c H locs ls C S P F L => lv_lload_n C.1 C.2.1 hd hi (lv_at L j hl) (h p l e s m args below meth c H locs ls C S P F L)
theorem g_lload {i : Nat} {x : Int64} (j : Nat) (hd : decode cc pc = .ok (.lload i, 2)) (hl : lv[j]? = some (i, .long x)) (h : G E d own cc nL ret rv w1 (pc + 2) lv (.long x :: st) w) : G E d own cc nL ret rv w1 pc lv st w :=
  fun p l e s m args below meth c H locs ls C S P F L => lv_lload C.1 C.2.1 hd (lv_at L j hl) (h p l e s m args below meth c H locs ls C S P F L)
theorem g_aload_n {k : Fin 4} {i : Nat} {x : Nat} (j : Nat) (hd : decode cc pc = .ok (.aload_n k, 1)) (hl : lv[j]? = some (i, .ref x)) (hi : (k : Nat) = i) (h : G E d own cc nL ret rv w1 (pc + 1) lv (.ref x :: st) w) : G E d own cc nL ret rv w1 pc lv st w :=
  fun p l e s m args below meth c H locs ls C S P F L => lv_aload_n C.1 C.2.1 hd hi (lv_at L j hl) (h p l e s m args below meth c H locs ls C S P F L)
theorem g_aload {i : Nat} {x : Nat} (j : Nat) (hd : decode cc pc = .ok (.aload i, 2)) (hl : lv[j]? = some (i, .ref x)) (h : G E d own cc nL ret rv w1 (pc + 2) lv (.ref x :: st) w) : G E d own cc nL ret rv w1 pc lv st w :=
  fun p l e s m args below meth c H locs ls C S P F L => lv_aload C.1 C.2.1 hd (lv_at L j hl) (h p l e s m args below meth c H locs ls C S P F L)
theorem g_iadd {x y : Int32} (hd : decode cc pc = .ok (.iadd, 1)) (h : G E d own cc nL ret rv w1 (pc + 1) lv (.int (x + y) :: st) w) : G E d own cc nL ret rv w1 pc lv (.int y :: .int x :: st) w :=
  fun p l e s m args below meth c H locs ls C S P F L => lv_iadd C.1 C.2.1 hd (h p l e s m args below meth c H locs ls C S P F L)
theorem g_isub {x y : Int32} (hd : decode cc pc = .ok (.isub, 1)) (h : G E d own cc nL ret rv w1 (pc + 1) lv (.int (x - y) :: st) w) : G E d own cc nL ret rv w1 pc lv (.int y :: .int x :: st) w :=
  fun p l e s m args below meth c H locs ls C S P F L => lv_isub C.1 C.2.1 hd (h p l e s m args below meth c H locs ls C S P F L)
theorem g_imul {x y : Int32} (hd : decode cc pc = .ok (.imul, 1)) (h : G E d own cc nL ret rv w1 (pc + 1) lv (.int (x * y) :: st) w) : G E d own cc nL ret rv w1 pc lv (.int y :: .int x :: st) w :=
  fun p l e s m args below meth c H locs ls C S P F L => lv_imul C.1 C.2.1 hd (h p l e s m args below meth c H locs ls C S P F L)
theorem g_idiv {x y : Int32} (hd : decode cc pc = .ok (.idiv, 1)) (hy : ¬ y = 0) (h : G E d own cc nL ret rv w1 (pc + 1) lv (.int (x / y) :: st) w) : G E d own cc nL ret rv w1 pc lv (.int y :: .int x :: st) w :=
  fun p l e s m args below meth c H locs ls C S P F L => lv_idiv C.1 C.2.1 hd hy (h p l e s m args below meth c H locs ls C S P F L)
theorem g_irem {x y : Int32} (hd : decode cc pc = .ok (.irem, 1)) (hy : ¬ y = 0) (h : G E d own cc nL ret rv w1 (pc + 1) lv (.int (x - x / y * y) :: st) w) : G E d own cc nL ret rv w1 pc lv (.int y :: .int x :: st) w :=
  fun p l e s m args below meth c H locs ls C S P F L => lv_irem C.1 C.2.1 hd hy (h p l e s m args below meth c H locs ls C S P F L)
theorem g_ineg {x : Int32} (hd : decode cc pc = .ok (.ineg, 1)) (h : G E d own cc nL ret rv w1 (pc + 1) lv (.int (-x) :: st) w) : G E d own cc nL ret rv w1 pc lv (.int x :: st) w :=
  fun p l e s m args below meth c H locs ls C S P F L => lv_ineg C.1 C.2.1 hd (h p l e s m args below meth c H locs ls C S P F L)
theorem g_iand {x y : Int32} (hd : decode cc pc = .ok (.iand, 1)) (h : G E d own cc nL ret rv w1 (pc + 1) lv (.int (x &&& y) :: st) w) : G E d own cc nL ret rv w1 pc lv (.int y :: .int x :: st) w :=
  fun p l e s m args below meth c H locs ls C S P F L => lv_iand C.1 C.2.1 hd (h p l e s m args below meth c H locs ls C S P F L)
theorem g_ior {x y : Int32} (hd : decode cc pc = .ok (.ior, 1)) (h : G E d own cc nL ret rv w1 (pc + 1) lv (.int (x ||| y) :: st) w) : G E d own cc nL ret rv w1 pc lv (.int y :: .int x :: st) w :=
  fun p l e s m args below meth c H locs ls C S P F L => lv_ior C.1 C.2.1 hd (h p l e s m args below meth c H locs ls C S P F L)
theorem g_ishl {x y : Int32} (hd : decode cc pc = .ok (.ishl, 1)) (h : G E d own cc nL ret rv w1 (pc + 1) lv (.int (x <<< (y &&& 31)) :: st) w) : G E d own cc nL ret rv w1 pc lv (.int y :: .int x :: st) w :=
  fun p l e s m args below meth c H locs ls C S P F L => lv_ishl C.1 C.2.1 hd (h p l e s m args below meth c H locs ls C S P F L)
theorem g_ishr {x y : Int32} (hd : decode cc pc = .ok (.ishr, 1)) (h : G E d own cc nL ret rv w1 (pc + 1) lv (.int (x >>> (y &&& 31)) :: st) w) : G E d own cc nL ret rv w1 pc lv (.int y :: .int x :: st) w :=
  fun p l e s m args below meth c H locs ls C S P F L => lv_ishr C.1 C.2.1 hd (h p l e s m args below meth c H locs ls C S P F L)
theorem g_ladd {x y : Int64} (hd : decode cc pc = .ok (.ladd, 1)) (h : G E d own cc nL ret rv w1 (pc + 1) lv (.long (x + y) :: st) w) : G E d own cc nL ret rv w1 pc lv (.long y :: .long x :: st) w :=
  fun p l e s m args below meth c H locs ls C S P F L => lv_ladd C.1 C.2.1 hd (h p l e s m args below meth c H locs ls C S P F L)
theorem g_lmul {x y : Int64} (hd : decode cc pc = .ok (.lmul, 1)) (h : G E d own cc nL ret rv w1 (pc + 1) lv (.long (x * y) :: st) w) : G E d own cc nL ret rv w1 pc lv (.long y :: .long x :: st) w :=
  fun p l e s m args below meth c H locs ls C S P F L => lv_lmul C.1 C.2.1 hd (h p l e s m args below meth c H locs ls C S P F L)
theorem g_ldiv {x y : Int64} (hd : decode cc pc = .ok (.ldiv, 1)) (hy : ¬ y = 0) (h : G E d own cc nL ret rv w1 (pc + 1) lv (.long (x / y) :: st) w) : G E d own cc nL ret rv w1 pc lv (.long y :: .long x :: st) w :=
  fun p l e s m args below meth c H locs ls C S P F L => lv_ldiv C.1 C.2.1 hd hy (h p l e s m args below meth c H locs ls C S P F L)
theorem g_i2l {x : Int32} (hd : decode cc pc = .ok (.i2l, 1)) (h : G E d own cc nL ret rv w1 (pc + 1) lv (.long x.toInt64 :: st) w) : G E d own cc nL ret rv w1 pc lv (.int x :: st) w :=
  fun p l e s m args below meth c H locs ls C S P F L => lv_i2l C.1 C.2.1 hd rfl (h p l e s m args below meth c H locs ls C S P F L)
theorem g_l2i {x : Int64} (hd : decode cc pc = .ok (.l2i, 1)) (h : G E d own cc nL ret rv w1 (pc + 1) lv (.int x.toInt32 :: st) w) : G E d own cc nL ret rv w1 pc lv (.long x :: st) w :=
  fun p l e s m args below meth c H locs ls C S P F L => lv_l2i C.1 C.2.1 hd rfl (h p l e s m args below meth c H locs ls C S P F L)
theorem g_dup {v : Value} (hd : decode cc pc = .ok (.dup, 1)) (hv : v.category = 1) (h : G E d own cc nL ret rv w1 (pc + 1) lv (v :: v :: st) w) : G E d own cc nL ret rv w1 pc lv (v :: st) w :=
  fun p l e s m args below meth c H locs ls C S P F L => lv_dup C.1 C.2.1 hd hv (h p l e s m args below meth c H locs ls C S P F L)
theorem g_dup2 {v u : Value} (hd : decode cc pc = .ok (.dup2, 1)) (hv : v.category = 1) (hu : u.category = 1) (h : G E d own cc nL ret rv w1 (pc + 1) lv (v :: u :: v :: u :: st) w) : G E d own cc nL ret rv w1 pc lv (v :: u :: st) w :=
  fun p l e s m args below meth c H locs ls C S P F L => lv_dup2_11 C.1 C.2.1 hd hv hu (h p l e s m args below meth c H locs ls C S P F L)
theorem g_goto {off : Int} (tgt : Nat) (hd : decode cc pc = .ok (.goto off, 3)) (ht : (pc : Int) + off = (tgt : Int)) (h : G E d own cc nL ret rv w1 tgt lv st w) : G E d own cc nL ret rv w1 pc lv st w :=
  fun p l e s m args below meth c H locs ls C S P F L => lv_goto C.1 C.2.1 hd ht (h p l e s m args below meth c H locs ls C S P F L)
theorem g_icmp_lt {x y : Int32} {off : Int} (tgt : Nat) (X Y : Int) (hd : decode cc pc = .ok (.if_icmp .lt off, 3)) (ht : (pc : Int) + off = (tgt : Int)) (hX : x.toInt = X) (hY : y.toInt = Y) (kt : X < Y → G E d own cc nL ret rv w1 tgt lv st w) (kf : Y ≤ X → G E d own cc nL ret rv w1 (pc + 3) lv st w) : G E d own cc nL ret rv w1 pc lv (.int y :: .int x :: st) w := by
  subst hX; subst hY
  exact fun p l e s m args below meth c H locs ls C S P F L => lv_icmp_lt C.1 C.2.1 hd ht (fun q => kt (Int32.lt_iff_toInt_lt.mp q) p l e s m args below meth c H locs ls C S P F L) (fun q => kf (by have := mt Int32.lt_iff_toInt_lt.mpr q; omega) p l e s m args below meth c H locs ls C S P F L)
theorem g_icmp_ge {x y : Int32} {off : Int} (tgt : Nat) (X Y : Int) (hd : decode cc pc = .ok (.if_icmp .ge off, 3)) (ht : (pc : Int) + off = (tgt : Int)) (hX : x.toInt = X) (hY : y.toInt = Y) (kt : Y ≤ X → G E d own cc nL ret rv w1 tgt lv st w) (kf : X < Y → G E d own cc nL ret rv w1 (pc + 3) lv st w) : G E d own cc nL ret rv w1 pc lv (.int y :: .int x :: st) w := by
  subst hX; subst hY
  exact fun p l e s m args below meth c H locs ls C S P F L => lv_icmp_ge C.1 C.2.1 hd ht (fun q => kt (Int32.le_iff_toInt_le.mp q) p l e s m args below meth c H locs ls C S P F L) (fun q => kf (by have := mt Int32.le_iff_toInt_le.mpr q; omega) p l e s m args below meth c H locs ls C S P F L)
theorem g_icmp_gt {x y : Int32} {off : Int} (tgt : Nat) (X Y : Int) (hd : decode cc pc = .ok (.if_icmp .gt off, 3)) (ht : (pc : Int) + off = (tgt : Int)) (hX : x.toInt = X) (hY : y.toInt = Y) (kt : Y < X → G E d own cc nL ret rv w1 tgt lv st w) (kf : X ≤ Y → G E d own cc nL ret rv w1 (pc + 3) lv st w) : G E d own cc nL ret rv w1 pc lv (.int y :: .int x :: st) w := by
  subst hX; subst hY
  exact fun p l e s m args below meth c H locs ls C S P F L => lv_icmp_gt C.1 C.2.1 hd ht (fun q => kt (Int32.lt_iff_toInt_lt.mp q) p l e s m args below meth c H locs ls C S P F L) (fun q => kf (by have := mt Int32.lt_iff_toInt_lt.mpr q; omega) p l e s m args below meth c H locs ls C S P F L)
theorem g_icmp_le {x y : Int32} {off : Int} (tgt : Nat) (X Y : Int) (hd : decode cc pc = .ok (.if_icmp .le off, 3)) (ht : (pc : Int) + off = (tgt : Int)) (hX : x.toInt = X) (hY : y.toInt = Y) (kt : X ≤ Y → G E d own cc nL ret rv w1 tgt lv st w) (kf : Y < X → G E d own cc nL ret rv w1 (pc + 3) lv st w) : G E d own cc nL ret rv w1 pc lv (.int y :: .int x :: st) w := by
  subst hX; subst hY
  exact fun p l e s m args below meth c H locs ls C S P F L => lv_icmp_le C.1 C.2.1 hd ht (fun q => kt (Int32.le_iff_toInt_le.mp q) p l e s m args below meth c H locs ls C S P F L) (fun q => kf (by have := mt Int32.le_iff_toInt_le.mpr q; omega) p l e s m args below meth c H locs ls C S P F L)
theorem g_icmp_eq {x y : Int32} {off : Int} (tgt : Nat) (hd : decode cc pc = .ok (.if_icmp .eq off, 3)) (ht : (pc : Int) + off = (tgt : Int)) (kt : x = y → G E d own cc nL ret rv w1 tgt lv st w) (kf : ¬ x = y → G E d own cc nL ret rv w1 (pc + 3) lv st w) : G E d own cc nL ret rv w1 pc lv (.int y :: .int x :: st) w :=
  fun p l e s m args below meth c H locs ls C S P F L => lv_icmp_eq C.1 C.2.1 hd ht (fun q => kt q p l e s m args below meth c H locs ls C S P F L) (fun q => kf q p l e s m args below meth c H locs ls C S P F L)
theorem g_icmp_ne {x y : Int32} {off : Int} (tgt : Nat) (hd : decode cc pc = .ok (.if_icmp .ne off, 3)) (ht : (pc : Int) + off = (tgt : Int)) (kt : ¬ x = y → G E d own cc nL ret rv w1 tgt lv st w) (kf : x = y → G E d own cc nL ret rv w1 (pc + 3) lv st w) : G E d own cc nL ret rv w1 pc lv (.int y :: .int x :: st) w :=
  fun p l e s m args below meth c H locs ls C S P F L => lv_icmp_ne C.1 C.2.1 hd ht (fun q => kt q p l e s m args below meth c H locs ls C S P F L) (fun q => kf q p l e s m args below meth c H locs ls C S P F L)
theorem g_if_eq {x : Int32} {off : Int} (tgt : Nat) (hd : decode cc pc = .ok (.ifCond .eq off, 3)) (ht : (pc : Int) + off = (tgt : Int)) (kt : x = 0 → G E d own cc nL ret rv w1 tgt lv st w) (kf : ¬ x = 0 → G E d own cc nL ret rv w1 (pc + 3) lv st w) : G E d own cc nL ret rv w1 pc lv (.int x :: st) w :=
  fun p l e s m args below meth c H locs ls C S P F L => lv_if_eq C.1 C.2.1 hd ht (fun q => kt q p l e s m args below meth c H locs ls C S P F L) (fun q => kf q p l e s m args below meth c H locs ls C S P F L)
theorem g_if_ne {x : Int32} {off : Int} (tgt : Nat) (hd : decode cc pc = .ok (.ifCond .ne off, 3)) (ht : (pc : Int) + off = (tgt : Int)) (kt : ¬ x = 0 → G E d own cc nL ret rv w1 tgt lv st w) (kf : x = 0 → G E d own cc nL ret rv w1 (pc + 3) lv st w) : G E d own cc nL ret rv w1 pc lv (.int x :: st) w :=
  fun p l e s m args below meth c H locs ls C S P F L => lv_if_ne C.1 C.2.1 hd ht (fun q => kt q p l e s m args below meth c H locs ls C S P F L) (fun q => kf q p l e s m args below meth c H locs ls C S P F L)
/-- the same on a truth value -/
theorem g_if_eqb {q : Prop} [Decidable q] {off : Int} (tgt : Nat) (hd : decode cc pc = .ok (.ifCond .eq off, 3)) (ht : (pc : Int) + off = (tgt : Int)) (kt : ¬ q → G E d own cc nL ret rv w1 tgt lv st w) (kf : q → G E d own cc nL ret rv w1 (pc + 3) lv st w) : G E d own cc nL ret rv w1 pc lv (.int (bI q) :: st) w :=
  g_if_eq tgt hd ht (fun h => kt (bI_0.mp h)) (fun h => kf (Decidable.of_not_not (fun z => h (bI_f z))))
theorem g_if_neb {q : Prop} [Decidable q] {off : Int} (tgt : Nat) (hd : decode cc pc = .ok (.ifCond .ne off, 3)) (ht : (pc : Int) + off = (tgt : Int)) (kt : q → G E d own cc nL ret rv w1 tgt lv st w) (kf : ¬ q → G E d own cc nL ret rv w1 (pc + 3) lv st w) : G E d own cc nL ret rv w1 pc lv (.int (bI q) :: st) w :=
  g_if_ne tgt hd ht (fun h => kt (Decidable.of_not_not (fun z => h (bI_f z)))) (fun h => kf (bI_0.mp h))
theorem g_if_lt {x : Int32} {off : Int} (tgt : Nat) (X : Int) (hd : decode cc pc = .ok (.ifCond .lt off, 3)) (ht : (pc : Int) + off = (tgt : Int)) (hX : x.toInt = X) (kt : X < 0 → G E d own cc nL ret rv w1 tgt lv st w) (kf : 0 ≤ X → G E d own cc nL ret rv w1 (pc + 3) lv st w) : G E d own cc nL ret rv w1 pc lv (.int x :: st) w := by
  subst hX
  exact fun p l e s m args below meth c H locs ls C S P F L => lv_if_lt C.1 C.2.1 hd ht (fun q => kt (Int32.lt_iff_toInt_lt.mp q) p l e s m args below meth c H locs ls C S P F L) (fun q => kf (by have h := mt Int32.lt_iff_toInt_lt.mpr q; have h0 : (0 : Int32).toInt = 0 := rfl; omega) p l e s m args below meth c H locs ls C S P F L)
theorem g_if_ge {x : Int32} {off : Int} (tgt : Nat) (X : Int) (hd : decode cc pc = .ok (.ifCond .ge off, 3)) (ht : (pc : Int) + off = (tgt : Int)) (hX : x.toInt = X) (kt : 0 ≤ X → G E d own cc nL ret rv w1 tgt lv st w) (kf : X < 0 → G E d own cc nL ret rv w1 (pc + 3) lv st w) : G E d own cc nL ret rv w1 pc lv (.int x :: st) w := by
  subst hX
  exact fun p l e s m args below meth c H locs ls C S P F L => lv_if_ge C.1 C.2.1 hd ht (fun q => kt (Int32.le_iff_toInt_le.mp q) p l e s m args below meth c H locs ls C S P F L) (fun q => kf (by have h := mt Int32.le_iff_toInt_le.mpr q; have h0 : (0 : Int32).toInt = 0 := rfl; omega) p l e s m args below meth c H locs ls C S P F L)
theorem g_if_le {x : Int32} {off : Int} (tgt : Nat) (X : Int) (hd : decode cc pc = .ok (.ifCond .le off, 3)) (ht : (pc : Int) + off = (tgt : Int)) (hX : x.toInt = X) (kt : X ≤ 0 → G E d own cc nL ret rv w1 tgt lv st w) (kf : 0 < X → G E d own cc nL ret rv w1 (pc + 3) lv st w) : G E d own cc nL ret rv w1 pc lv (.int x :: st) w := by
  subst hX
  exact fun p l e s m args below meth c H locs ls C S P F L => lv_if_le C.1 C.2.1 hd ht (fun q => kt (Int32.le_iff_toInt_le.mp q) p l e s m args below meth c H locs ls C S P F L) (fun q => kf (by have h := mt Int32.le_iff_toInt_le.mpr q; have h0 : (0 : Int32).toInt = 0 := rfl; omega) p l e s m args below meth c H locs ls C S P F L)
theorem g_tableIn {dflt lo hi : Int} {offs : Array Int} {len : Nat} {x : Int32} {off : Int} (tgt : Nat) (hd : decode cc pc = .ok (.tableswitch dflt lo hi offs, len)) (h1 : ¬ x.toInt < lo) (h2 : ¬ hi < x.toInt) (ho : offs[(x.toInt - lo).toNat]? = some off) (ht : (pc : Int) + off = (tgt : Int)) (h : G E d own cc nL ret rv w1 tgt lv st w) : G E d own cc nL ret rv w1 pc lv (.int x :: st) w :=
  fun p l e s m args below meth c H locs ls C S P F L => lv_tableIn C.1 C.2.1 hd h1 h2 ho ht (h p l e s m args below meth c H locs ls C S P F L)
theorem g_tableOut {dflt lo hi : Int} {offs : Array Int} {len : Nat} {x : Int32} (tgt : Nat) (hd : decode cc pc = .ok (.tableswitch dflt lo hi offs, len)) (h1 : x.toInt < lo ∨ hi < x.toInt) (ht : (pc : Int) + dflt = (tgt : Int)) (h : G E d own cc nL ret rv w1 tgt lv st w) : G E d own cc nL ret rv w1 pc lv (.int x :: st) w :=
  fun p l e s m args below meth c H locs ls C S P F L => lv_tableOut C.1 C.2.1 hd h1 ht (h p l e s m args below meth c H locs ls C S P F L)
theorem g_lookup {dflt : Int} {ps : Array (Int × Int)} {len : Nat} {x : Int32} {off : Int} (tgt : Nat) (hd : decode cc pc = .ok (.lookupswitch dflt ps, len)) (hp : (ps.toList.zip (ps.toList.drop 1)).all (fun (a, next) => a.1 < next.1) = true) (ho : Op.lookupswitch.offset ps.toList dflt x.toInt = off) (ht : (pc : Int) + off = (tgt : Int)) (h : G E d own cc nL ret rv w1 tgt lv st w) : G E d own cc nL ret rv w1 pc lv (.int x :: st) w :=
  fun p l e s m args below meth c H locs ls C S P F L => lv_lookup C.1 C.2.1 hd hp ho ht (h p l e s m args below meth c H locs ls C S P F L)
/-! locals -/
theorem g_lv {lv' : List (Nat × Value)} (ks : List Nat) (hk : lv_pick lv ks = lv') (h : G E d own cc nL ret rv w1 pc lv' st w) : G E d own cc nL ret rv w1 pc lv st w :=
  fun p l e s m args below meth c H locs ls C S P F L => h p l e s m args below meth c H locs ls C S P F (lv_sub L ks hk)
def stOk (i : Nat) (l : List (Nat × Value)) : Bool := l.all (fun q => !(q.1 == i) && !(q.1 + 1 == i && q.2.category == 2))
def stOkL (i : Nat) (l : List (Nat × Value)) : Bool := l.all (fun q => !(q.1 == i) && (!(q.1 == i + 1) && !(q.1 + 1 == i && q.2.category == 2)))
theorem lv_back {ls : Array Slot} {i : Nat} {v o : Value} {pre t : List (Nat × Value)} {f : Nat × Value → Bool} (hf : ∀ q ∈ pre ++ t, f q = true) (h : lv_has ls nL ((i, v) :: (pre ++ (i, o) :: t).filter f)) : lv_has ls nL (pre ++ (i, v) :: t) := by
  refine ⟨h.1, h.2.1, fun q hq => h.2.2 q ?_⟩
  rcases List.mem_append.mp hq with h1 | h1
  · exact List.mem_cons_of_mem _ (List.mem_filter.mpr ⟨List.mem_append_left _ h1, hf q (List.mem_append_left _ h1)⟩)
  · rcases List.mem_cons.mp h1 with h2 | h2
    · rw [h2]; exact List.mem_cons_self
    · exact List.mem_cons_of_mem _ (List.mem_filter.mpr ⟨List.mem_append_right _ (List.mem_cons_of_mem _ h2), hf q (List.mem_append_right _ h2)⟩)
theorem g_ist_n {k : Fin 4} {i : Nat} {x : Int32} {o : Value} (pre t : List (Nat × Value)) (hd : decode cc pc = .ok (.istore_n k, 1)) (hi : (k : Nat) = i) (hn : i < nL) (hok : stOk i (pre ++ t) = true) (h : G E d own cc nL ret rv w1 (pc + 1) (pre ++ (i, .int x) :: t) st w) : G E d own cc nL ret rv w1 pc (pre ++ (i, o) :: t) (.int x :: st) w :=
  fun p l e s m args below meth c H locs ls C S P F L => lv_istore_n C.1 C.2.1 hd hi L hn rfl (fun ls hl => h p l e s m args below meth c H locs ls C S P F (lv_back (fun q hq => List.all_eq_true.mp hok q hq) hl))
theorem g_ist {i : Nat} {x : Int32} {o : Value} (pre t : List (Nat × Value)) (hd : decode cc pc = .ok (.istore i, 2)) (hn : i < nL) (hok : stOk i (pre ++ t) = true) (h : G E d own cc nL ret rv w1 (pc + 2) (pre ++ (i, .int x) :: t) st w) : G E d own cc nL ret rv w1 pc (pre ++ (i, o) :: t) (.int x :: st) w :=
  fun p l e s m args below meth c H locs ls C S P F L => lv_istore C.1 C.2.1 hd L hn rfl (fun ls hl => h p l e s m args below meth c H locs ls C S P F (lv_back (fun q hq => List.all_eq_true.mp hok q hq) hl))
theorem g_iinc {i : Nat} {n : Int} {x : Int32} (v : Int32) (pre t : List (Nat × Value)) (hd : decode cc pc = .ok (.iinc i n, 3)) (hv : Int32.ofInt n = v) (hn : i < nL) (hok : stOk i (pre ++ t) = true) (h : G E d own cc nL ret rv w1 (pc + 3) (pre ++ (i, .int (x + v)) :: t) st w) : G E d own cc nL ret rv w1 pc (pre ++ (i, .int x) :: t) st w :=
  fun p l e s m args below meth c H locs ls C S P F L => lv_iinc (k := pre.length) (x := x) C.1 C.2.1 hd L (by simp) (by rw [hv]) hn rfl (fun ls hl => h p l e s m args below meth c H locs ls C S P F (lv_back (fun q hq => List.all_eq_true.mp hok q hq) hl))
theorem g_lst_n {k : Fin 4} {i : Nat} {x : Int64} {o : Value} (pre t : List (Nat × Value)) (hd : decode cc pc = .ok (.lstore_n k, 1)) (hi : (k : Nat) = i) (hn : i + 1 < nL) (hok : stOkL i (pre ++ t) = true) (h : G E d own cc nL ret rv w1 (pc + 1) (pre ++ (i, .long x) :: t) st w) : G E d own cc nL ret rv w1 pc (pre ++ (i, o) :: t) (.long x :: st) w :=
  fun p l e s m args below meth c H locs ls C S P F L => lv_lstore_n C.1 C.2.1 hd hi L hn rfl (fun ls hl => h p l e s m args below meth c H locs ls C S P F (lv_back (fun q hq => List.all_eq_true.mp hok q hq) hl))
theorem g_lst {i : Nat} {x : Int64} {o : Value} (pre t : List (Nat × Value)) (hd : decode cc pc = .ok (.lstore i, 2)) (hn : i + 1 < nL) (hok : stOkL i (pre ++ t) = true) (h : G E d own cc nL ret rv w1 (pc + 2) (pre ++ (i, .long x) :: t) st w) : G E d own cc nL ret rv w1 pc (pre ++ (i, o) :: t) (.long x :: st) w :=
  fun p l e s m args below meth c H locs ls C S P F L => lv_lstore C.1 C.2.1 hd L hn rfl (fun ls hl => h p l e s m args below meth c H locs ls C S P F (lv_back (fun q hq => List.all_eq_true.mp hok q hq) hl))
theorem lv_back0 {ls : Array Slot} {i : Nat} {v : Value} {t : List (Nat × Value)} {f : Nat × Value → Bool} (hf : ∀ q ∈ t, f q = true) (h : lv_has ls nL ((i, v) :: t.filter f)) : lv_has ls nL ((i, v) :: t) :=
  ⟨h.1, h.2.1, fun q hq => h.2.2 q ((List.mem_cons.mp hq).elim (fun e => by rw [e]; exact List.mem_cons_self) (fun h2 => List.mem_cons_of_mem _ (List.mem_filter.mpr ⟨h2, hf q h2⟩)))⟩
theorem g_istN_n {k : Fin 4} {i : Nat} {x : Int32} (hd : decode cc pc = .ok (.istore_n k, 1)) (hi : (k : Nat) = i) (hn : i < nL) (hok : stOk i lv = true) (h : G E d own cc nL ret rv w1 (pc + 1) ((i, .int x) :: lv) st w) : G E d own cc nL ret rv w1 pc lv (.int x :: st) w :=
  fun p l e s m args below meth c H locs ls C S P F L => lv_istore_n C.1 C.2.1 hd hi L hn rfl (fun ls hl => h p l e s m args below meth c H locs ls C S P F (lv_back0 (fun q hq => List.all_eq_true.mp hok q hq) hl))
theorem g_istN {i : Nat} {x : Int32} (hd : decode cc pc = .ok (.istore i, 2)) (hn : i < nL) (hok : stOk i lv = true) (h : G E d own cc nL ret rv w1 (pc + 2) ((i, .int x) :: lv) st w) : G E d own cc nL ret rv w1 pc lv (.int x :: st) w :=
  fun p l e s m args below meth c H locs ls C S P F L => lv_istore C.1 C.2.1 hd L hn rfl (fun ls hl => h p l e s m args below meth c H locs ls C S P F (lv_back0 (fun q hq => List.all_eq_true.mp hok q hq) hl))
theorem g_lstN_n {k : Fin 4} {i : Nat} {x : Int64} (hd : decode cc pc = .ok (.lstore_n k, 1)) (hi : (k : Nat) = i) (hn : i + 1 < nL) (hok : stOkL i lv = true) (h : G E d own cc nL ret rv w1 (pc + 1) ((i, .long x) :: lv) st w) : G E d own cc nL ret rv w1 pc lv (.long x :: st) w :=
  fun p l e s m args below meth c H locs ls C S P F L => lv_lstore_n C.1 C.2.1 hd hi L hn rfl (fun ls hl => h p l e s m args below meth c H locs ls C S P F (lv_back0 (fun q hq => List.all_eq_true.mp hok q hq) hl))
theorem g_lstN {i : Nat} {x : Int64} (hd : decode cc pc = .ok (.lstore i, 2)) (hn : i + 1 < nL) (hok : stOkL i lv = true) (h : G E d own cc nL ret rv w1 (pc + 2) ((i, .long x) :: lv) st w) : G E d own cc nL ret rv w1 pc lv (.long x :: st) w :=
  fun p l e s m args below meth c H locs ls C S P F L => lv_lstore C.1 C.2.1 hd L hn rfl (fun ls hl => h p l e s m args below meth c H locs ls C S P F (lv_back0 (fun q hq => List.all_eq_true.mp hok q hq) hl))
/-! rows of numbers -/
theorem vp_in_of2 {x : Int32} {n : Nat} (h : 0 ≤ x.toInt ∧ x.toInt < n) : vp_in x n := vp_in_iff.mpr h
theorem g_iald {x : Int32} {q n : Nat} (j : Nat) (hd : decode cc pc = .ok (.iaload, 1)) (hq : q < nP) (hs : sh q = (1, n)) (hj : x.toNatClampNeg = j) (hin : 0 ≤ x.toInt ∧ x.toInt < n) (h : G E d own cc nL ret rv w1 (pc + 1) lv (.int (w q j) :: st) w) : G E d own cc nL ret rv w1 pc lv (.int x :: .ref (E.1 q) :: st) w := by
  subst hj
  exact fun p l e s m args below meth c H locs ls C S P F L => va_iald C.1 C.2.1 S.1 P q 0 (wl_1 hq hs) rfl (vp_in_of2 hin) hd (h p l e s m args below meth c H locs ls C S P F L)
theorem g_bald {x : Int32} {q n : Nat} (j : Nat) (hd : decode cc pc = .ok (.baload, 1)) (hq : q < nP) (hs : sh q = (2, n)) (hj : x.toNatClampNeg = j) (hin : 0 ≤ x.toInt ∧ x.toInt < n) (h : G E d own cc nL ret rv w1 (pc + 1) lv (.int (w q j) :: st) w) : G E d own cc nL ret rv w1 pc lv (.int x :: .ref (E.1 q) :: st) w := by
  subst hj
  exact fun p l e s m args below meth c H locs ls C S P F L => va_zald C.1 C.2.1 S.1 P q 1 (wl_2 hq hs) rfl (vp_in_of2 hin) hd (h p l e s m args below meth c H locs ls C S P F L)
theorem g_iast {x v : Int32} {q n : Nat} (j : Nat) (hd : decode cc pc = .ok (.iastore, 1)) (hq : q < nP) (hs : sh q = (1, n)) (hj : x.toNatClampNeg = j) (hin : 0 ≤ x.toInt ∧ x.toInt < n) (h : G E d own cc nL ret rv w1 (pc + 1) lv st (setW w q j v)) : G E d own cc nL ret rv w1 pc lv (.int v :: .int x :: .ref (E.1 q) :: st) w := by
  subst hj
  refine fun p l e s m args below meth c H locs ls C S P F L => va_iast C.1 C.2.1 S.1 P (wl_D w S.2.2.2.2) F q 0 (wl_1 hq hs) rfl (vp_in_of2 hin) hd (fun H1 locs1 P1 _ F1 => h p l e s m args below meth c H1 locs1 ls C S ?_ F1 L)
  rw [wl_set hq (by rw [cE_1 hs, setW_p])] at P1
  exact P1
theorem g_bast {x v : Int32} {q n : Nat} (j : Nat) (hd : decode cc pc = .ok (.bastore, 1)) (hq : q < nP) (hs : sh q = (2, n)) (hj : x.toNatClampNeg = j) (hin : 0 ≤ x.toInt ∧ x.toInt < n) (hv : vp_nar .boolean v = v) (h : G E d own cc nL ret rv w1 (pc + 1) lv st (setW w q j v)) : G E d own cc nL ret rv w1 pc lv (.int v :: .int x :: .ref (E.1 q) :: st) w := by
  subst hj
  refine fun p l e s m args below meth c H locs ls C S P F L => va_zast C.1 C.2.1 S.1 P (wl_D w S.2.2.2.2) F q 1 (wl_2 hq hs) rfl (vp_in_of2 hin) hd (fun H1 locs1 P1 _ F1 => h p l e s m args below meth c H1 locs1 ls C S ?_ F1 L)
  rw [hv, wl_set hq (by rw [cE_2 hs, setW_p])] at P1
  exact P1
theorem g_alen {q n : Nat} (v : Int32) (hd : decode cc pc = .ok (.arraylength, 1)) (hq : q < nP) (hs : sh q = (1, n)) (hv : Int32.ofNat n = v) (h : G E d own cc nL ret rv w1 (pc + 1) lv (.int v :: st) w) : G E d own cc nL ret rv w1 pc lv (.ref (E.1 q) :: st) w :=
  fun p l e s m args below meth c H locs ls C S P F L => va_alen C.1 C.2.1 S.1 P q 0 (wl_1 hq hs) rfl hv hd (h p l e s m args below meth c H locs ls C S P F L)
/-- a row of rows: the rows of the places b, b + 1 .. -/
theorem g_aald {x : Int32} {q n b : Nat} (j : Nat) (hd : decode cc pc = .ok (.aaload, 1)) (hq : q < nP) (hs : sh q = (3, n)) (hb : ∀ i, i < n → rfT q i = some (b + i)) (hj : x.toNatClampNeg = j) (hin : 0 ≤ x.toInt ∧ x.toInt < n) (h : j < n → G E d own cc nL ret rv w1 (pc + 1) lv (.ref (E.1 (b + j)) :: st) w) : G E d own cc nL ret rv w1 pc lv (.int x :: .ref (E.1 q) :: st) w := by
  subst hj
  intro p l e s m args below meth c H locs ls C S P F L
  have hlt : x.toNatClampNeg < n := Nat.not_le.mp fun z => vp_in_of2 hin (Or.inr z)
  refine W.aald (v := .ref (E.1 (b + x.toNatClampNeg))) (ty := .array .int) C.1 C.2.1 (P q _ (wl_3 hq hs)) ((S.1.2 2 _ rfl).1 n (fun j => va_rf ((rfT q j).map E.1))) rfl (fun z => by cases z) ?_ ?_ rfl rfl hd (h hlt p l e s m args below meth c H locs ls C S P F L)
  · show ¬ (x < 0 ∨ (arrV _ _ _).slots.size ≤ _)
    rw [arrV_size]
    exact vp_in_of2 hin
  · show (arrV _ _ _).slots[_]? = _
    rw [arrV_read _ _ hlt]
    show some (va_rf (Option.map E.1 (rfT q x.toNatClampNeg))) = _
    rw [hb _ hlt]
    rfl
/-- the row that nobody writes -/
theorem g_tld {x : Int32} (j : Nat) (hd : decode cc pc = .ok (.iaload, 1)) (hj : x.toNatClampNeg = j) (hin : 0 ≤ x.toInt ∧ x.toInt < 5) (h : G E d own cc nL ret rv w1 (pc + 1) lv (.int (bef j) :: st) w) : G E d own cc nL ret rv w1 pc lv (.int x :: .ref E.2.1 :: st) w := by
  subst hj
  exact fun p l e s m args below meth c H locs ls C S P F L => va_ti C.1 C.2.1 S.2.2.1 F (vp_in_of2 (n := 5) hin) rfl hd (h p l e s m args below meth c H locs ls C S P F L)
theorem g_getsN {index : Nat} {host : String} (hd : decode cc pc = .ok (.getstatic index, 3)) (hl : Cond.fieldLinkNest own index "WardCourt" "BEFORE_ANY_LAW" "[I" host ∈ tblN) (h : G E d own cc nL ret rv w1 (pc + 3) lv (.ref E.2.1 :: st) w) : G E d own cc nL ret rv w1 pc lv st w :=
  fun p l e s m args below meth c H locs ls C S P F L => va_getsN C.1 C.2.1 S.2.1 F C.2.2.2.2.2.1 (Nw_use hl (S.2.2.2.1 _ hl)) (fun _ h9 => h9) hd (h p l e s m args below meth c H locs ls C S P F L)
/-! returns -/
theorem Wd_end {s t : State} {H : Heap} {locs : List Loc} (S : Ws E s s.heap) (P : va_P E.2.2.1 vwCl (wl E w) H) (F : va_S (Aw E) s.heap H locs) (ht : t.heap = H) (hW : s.WarmedH t.vm) : Wd E w t t.heap := by
  rw [ht]
  exact ⟨S.go F hW, P⟩
theorem g_iret {ty : FieldType} {v : Int32} (hd : decode cc pc = .ok (.ireturn, 1)) (hret : ret = some ty) (hn : narrow ty (.int v) = .int v) (hv : rv = some (.int v)) (hw : w1 = w) : G E d own cc nL ret rv w1 pc lv [.int v] w := by
  subst hw
  subst hv
  exact fun p l e s m args below meth c H locs ls C S P F L => W.zret C.1 C.2.1 (by rw [C.2.2.1, hret]) hn (fun t ht hW => ⟨⟨rfl, Wd_end S P F ht hW⟩, F.F ht⟩) F.2.2 hd C.2.2.2.1
theorem g_lret {v : Int64} (hd : decode cc pc = .ok (.lreturn, 1)) (hret : ret = some .long) (hv : rv = some (.long v)) (hw : w1 = w) : G E d own cc nL ret rv w1 pc lv [.long v] w := by
  subst hw
  subst hv
  exact fun p l e s m args below meth c H locs ls C S P F L => W.lret C.1 C.2.1 (by rw [C.2.2.1, hret]) (fun t ht hW => ⟨⟨rfl, Wd_end S P F ht hW⟩, F.F ht⟩) F.2.2 hd C.2.2.2.1
theorem g_vret (hd : decode cc pc = .ok (.return_, 1)) (hret : ret = none) (hv : rv = none) (hw : w1 = w) : G E d own cc nL ret rv w1 pc lv [] w := by
  subst hw
  subst hv
  exact fun p l e s m args below meth c H locs ls C S P F L => W.vret C.1 C.2.1 (by rw [C.2.2.1, hret]) (fun t ht hW => ⟨⟨rfl, Wd_end S P F ht hW⟩, F.F ht⟩) F.2.2 hd C.2.2.2.1
end RULES
theorem sh_9 {j : Nat} (h : j < 8) : sh (9 + j) = (1, 5) := by
  rcases (show j = 0 ∨ j = 1 ∨ j = 2 ∨ j = 3 ∨ j = 4 ∨ j = 5 ∨ j = 6 ∨ j = 7 by omega) with rfl | rfl | rfl | rfl | rfl | rfl | rfl | rfl <;> rfl
theorem sh_36 {j : Nat} (h : j < 10) : sh (36 + j) = (1, 6) := by
  rcases (show j = 0 ∨ j = 1 ∨ j = 2 ∨ j = 3 ∨ j = 4 ∨ j = 5 ∨ j = 6 ∨ j = 7 ∨ j = 8 ∨ j = 9 by omega) with rfl | rfl | rfl | rfl | rfl | rfl | rfl | rfl | rfl | rfl <;> rfl
theorem sh_47 {j : Nat} (h : j < 10) : sh (47 + j) = (1, 6) := by
  rcases (show j = 0 ∨ j = 1 ∨ j = 2 ∨ j = 3 ∨ j = 4 ∨ j = 5 ∨ j = 6 ∨ j = 7 ∨ j = 8 ∨ j = 9 by omega) with rfl | rfl | rfl | rfl | rfl | rfl | rfl | rfl | rfl | rfl <;> rfl
theorem rf_8 : ∀ i, i < 8 → rfT 8 i = some (9 + i) := by decide
theorem rf_35 : ∀ i, i < 10 → rfT 35 i = some (36 + i) := by decide
theorem rf_46 : ∀ i, i < 10 → rfT 46 i = some (47 + i) := by decide
theorem nar_b {p : Prop} [Decidable p] : narrow .boolean (.int (bI p)) = .int (bI p) := by
  unfold bI
  by_cases h : p <;> simp only [h, if_true, if_false] <;> rfl

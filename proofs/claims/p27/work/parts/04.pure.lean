/-! ROWS: an instruction that leaves the heap as it is, over Wp (by wip/p27/gen_rows.py) -/
theorem zp_iconst {l G d mc ms M pc lv st σ Q} {z : Int} {v : Int32} (hd : decode M.2.1 pc = .ok (.iconst z, 1)) (hv : Int32.ofInt z = v) (kk : Wp l G d mc ms M (pc + 1) lv (.int v :: st) σ Q) : Wp l G d mc ms M pc lv (st) σ Q := by
  intro p e R s m args below meth c H locs cells slots k n ls C K S P L r1 r2 r3 r4 r5 r6
  exact lv_iconst C.1 C.2.1 hd hv (kk p e R s m args below meth c H locs cells slots k n ls C K S P L r1 r2 r3 r4 r5 r6)
theorem zp_bipush {l G d mc ms M pc lv st σ Q} {z : Int} {v : Int32} (hd : decode M.2.1 pc = .ok (.bipush z, 2)) (hv : (Int8.ofInt z).toInt32 = v) (kk : Wp l G d mc ms M (pc + 2) lv (.int v :: st) σ Q) : Wp l G d mc ms M pc lv (st) σ Q := by
  intro p e R s m args below meth c H locs cells slots k n ls C K S P L r1 r2 r3 r4 r5 r6
  exact lv_bipush C.1 C.2.1 hd hv (kk p e R s m args below meth c H locs cells slots k n ls C K S P L r1 r2 r3 r4 r5 r6)
theorem zp_sipush {l G d mc ms M pc lv st σ Q} {z : Int} {v : Int32} (hd : decode M.2.1 pc = .ok (.sipush z, 3)) (hv : (Int16.ofInt z).toInt32 = v) (kk : Wp l G d mc ms M (pc + 3) lv (.int v :: st) σ Q) : Wp l G d mc ms M pc lv (st) σ Q := by
  intro p e R s m args below meth c H locs cells slots k n ls C K S P L r1 r2 r3 r4 r5 r6
  exact lv_sipush C.1 C.2.1 hd hv (kk p e R s m args below meth c H locs cells slots k n ls C K S P L r1 r2 r3 r4 r5 r6)
theorem zp_null {l G d mc ms M pc lv st σ Q}  (hd : decode M.2.1 pc = .ok (.aconst_null, 1)) (kk : Wp l G d mc ms M (pc + 1) lv (.null :: st) σ Q) : Wp l G d mc ms M pc lv (st) σ Q := by
  intro p e R s m args below meth c H locs cells slots k n ls C K S P L r1 r2 r3 r4 r5 r6
  exact lv_null C.1 C.2.1 hd (kk p e R s m args below meth c H locs cells slots k n ls C K S P L r1 r2 r3 r4 r5 r6)
theorem zl_at {ls : Array Slot} {nL : Nat} {lv : List (Nat × Value)} {i : Nat} {v : Value} (h : lv_has ls nL lv) (hk : (i, v) ∈ lv) : ls[i]? = some (.val v) := h.2.2 (i, v) hk
theorem zp_iload_n {l G d mc ms M pc lv st σ Q} {k0 : Fin 4} {i : Nat} {x : Int32} (hd : decode M.2.1 pc = .ok (.iload_n k0, 1)) (hi : (k0 : Nat) = i) (hk : (i, Value.int x) ∈ lv) (kk : Wp l G d mc ms M (pc + 1) lv (.int x :: st) σ Q) : Wp l G d mc ms M pc lv st σ Q := by
  intro p e R s m args below meth c H locs cells slots k n ls C K S P L r1 r2 r3 r4 r5 r6
  exact lv_iload_n C.1 C.2.1 hd hi (zl_at L hk) (kk p e R s m args below meth c H locs cells slots k n ls C K S P L r1 r2 r3 r4 r5 r6)
theorem zp_iload {l G d mc ms M pc lv st σ Q} {i : Nat} {x : Int32} (hd : decode M.2.1 pc = .ok (.iload i, 2)) (hk : (i, Value.int x) ∈ lv) (kk : Wp l G d mc ms M (pc + 2) lv (.int x :: st) σ Q) : Wp l G d mc ms M pc lv st σ Q := by
  intro p e R s m args below meth c H locs cells slots k n ls C K S P L r1 r2 r3 r4 r5 r6
  exact lv_iload C.1 C.2.1 hd (zl_at L hk) (kk p e R s m args below meth c H locs cells slots k n ls C K S P L r1 r2 r3 r4 r5 r6)
theorem zp_aload_n {l G d mc ms M pc lv st σ Q} {k0 : Fin 4} {i : Nat} {a : Nat} (hd : decode M.2.1 pc = .ok (.aload_n k0, 1)) (hi : (k0 : Nat) = i) (hk : (i, Value.ref a) ∈ lv) (kk : Wp l G d mc ms M (pc + 1) lv (.ref a :: st) σ Q) : Wp l G d mc ms M pc lv st σ Q := by
  intro p e R s m args below meth c H locs cells slots k n ls C K S P L r1 r2 r3 r4 r5 r6
  exact lv_aload_n C.1 C.2.1 hd hi (zl_at L hk) (kk p e R s m args below meth c H locs cells slots k n ls C K S P L r1 r2 r3 r4 r5 r6)
theorem zp_aload {l G d mc ms M pc lv st σ Q} {i : Nat} {a : Nat} (hd : decode M.2.1 pc = .ok (.aload i, 2)) (hk : (i, Value.ref a) ∈ lv) (kk : Wp l G d mc ms M (pc + 2) lv (.ref a :: st) σ Q) : Wp l G d mc ms M pc lv st σ Q := by
  intro p e R s m args below meth c H locs cells slots k n ls C K S P L r1 r2 r3 r4 r5 r6
  exact lv_aload C.1 C.2.1 hd (zl_at L hk) (kk p e R s m args below meth c H locs cells slots k n ls C K S P L r1 r2 r3 r4 r5 r6)
theorem zp_lload_n {l G d mc ms M pc lv st σ Q} {k0 : Fin 4} {i : Nat} {x : Int64} (hd : decode M.2.1 pc = .ok (.lload_n k0, 1)) (hi : (k0 : Nat) = i) (hk : (i, Value.long x) ∈ lv) (kk : Wp l G d mc ms M (pc + 1) lv (.long x :: st) σ Q) : Wp l G d mc ms M pc lv st σ Q := by
  intro p e R s m args below meth c H locs cells slots k n ls C K S P L r1 r2 r3 r4 r5 r6
  exact lv_lload_n C.1 C.2.1 hd hi (zl_at L hk) (kk p e R s m args below meth c H locs cells slots k n ls C K S P L r1 r2 r3 r4 r5 r6)
theorem zp_lload {l G d mc ms M pc lv st σ Q} {i : Nat} {x : Int64} (hd : decode M.2.1 pc = .ok (.lload i, 2)) (hk : (i, Value.long x) ∈ lv) (kk : Wp l G d mc ms M (pc + 2) lv (.long x :: st) σ Q) : Wp l G d mc ms M pc lv st σ Q := by
  intro p e R s m args below meth c H locs cells slots k n ls C K S P L r1 r2 r3 r4 r5 r6
  exact lv_lload C.1 C.2.1 hd (zl_at L hk) (kk p e R s m args below meth c H locs cells slots k n ls C K S P L r1 r2 r3 r4 r5 r6)
theorem zp_lstore_n {l G d mc ms M pc lv st σ Q} {k0 : Fin 4} {i : Nat} {x : Int64} {lv2 : List (Nat × Value)} (hd : decode M.2.1 pc = .ok (.lstore_n k0, 1)) (hi : (k0 : Nat) = i) (hn : i + 1 < M.2.2.1) (hl : (i, Value.long x) :: lv.filter (fun q => !(q.1 == i) && (!(q.1 == i + 1) && !(q.1 + 1 == i && q.2.category == 2))) = lv2) (kk : Wp l G d mc ms M (pc + 1) lv2 st σ Q) : Wp l G d mc ms M pc lv (Value.long x :: st) σ Q := by
  intro p e R s m args below meth c H locs cells slots k n ls C K S P L r1 r2 r3 r4 r5 r6
  exact lv_lstore_n C.1 C.2.1 hd hi L hn hl (fun ls L => (kk p e R s m args below meth c H locs cells slots k n ls C K S P L r1 r2 r3 r4 r5 r6))
theorem zp_lstore {l G d mc ms M pc lv st σ Q} {i : Nat} {x : Int64} {lv2 : List (Nat × Value)} (hd : decode M.2.1 pc = .ok (.lstore i, 2)) (hn : i + 1 < M.2.2.1) (hl : (i, Value.long x) :: lv.filter (fun q => !(q.1 == i) && (!(q.1 == i + 1) && !(q.1 + 1 == i && q.2.category == 2))) = lv2) (kk : Wp l G d mc ms M (pc + 2) lv2 st σ Q) : Wp l G d mc ms M pc lv (Value.long x :: st) σ Q := by
  intro p e R s m args below meth c H locs cells slots k n ls C K S P L r1 r2 r3 r4 r5 r6
  exact lv_lstore C.1 C.2.1 hd L hn hl (fun ls L => (kk p e R s m args below meth c H locs cells slots k n ls C K S P L r1 r2 r3 r4 r5 r6))
theorem zp_istore_n {l G d mc ms M pc lv st σ Q} {k0 : Fin 4} {i : Nat} {x : Int32} {lv2 : List (Nat × Value)} (hd : decode M.2.1 pc = .ok (.istore_n k0, 1)) (hi : (k0 : Nat) = i) (hn : i < M.2.2.1) (hl : (i, Value.int x) :: lv.filter (fun q => !(q.1 == i) && !(q.1 + 1 == i && q.2.category == 2)) = lv2) (kk : Wp l G d mc ms M (pc + 1) lv2 st σ Q) : Wp l G d mc ms M pc lv (Value.int x :: st) σ Q := by
  intro p e R s m args below meth c H locs cells slots k n ls C K S P L r1 r2 r3 r4 r5 r6
  exact lv_istore_n C.1 C.2.1 hd hi L hn hl (fun ls L => (kk p e R s m args below meth c H locs cells slots k n ls C K S P L r1 r2 r3 r4 r5 r6))
theorem zp_istore {l G d mc ms M pc lv st σ Q} {i : Nat} {x : Int32} {lv2 : List (Nat × Value)} (hd : decode M.2.1 pc = .ok (.istore i, 2)) (hn : i < M.2.2.1) (hl : (i, Value.int x) :: lv.filter (fun q => !(q.1 == i) && !(q.1 + 1 == i && q.2.category == 2)) = lv2) (kk : Wp l G d mc ms M (pc + 2) lv2 st σ Q) : Wp l G d mc ms M pc lv (Value.int x :: st) σ Q := by
  intro p e R s m args below meth c H locs cells slots k n ls C K S P L r1 r2 r3 r4 r5 r6
  exact lv_istore C.1 C.2.1 hd L hn hl (fun ls L => (kk p e R s m args below meth c H locs cells slots k n ls C K S P L r1 r2 r3 r4 r5 r6))
theorem zp_astore_n {l G d mc ms M pc lv st σ Q} {k0 : Fin 4} {i : Nat} {x : Nat} {lv2 : List (Nat × Value)} (hd : decode M.2.1 pc = .ok (.astore_n k0, 1)) (hi : (k0 : Nat) = i) (hn : i < M.2.2.1) (hl : (i, Value.ref x) :: lv.filter (fun q => !(q.1 == i) && !(q.1 + 1 == i && q.2.category == 2)) = lv2) (kk : Wp l G d mc ms M (pc + 1) lv2 st σ Q) : Wp l G d mc ms M pc lv (Value.ref x :: st) σ Q := by
  intro p e R s m args below meth c H locs cells slots k n ls C K S P L r1 r2 r3 r4 r5 r6
  exact lv_astore_n C.1 C.2.1 hd hi L hn hl (fun ls L => (kk p e R s m args below meth c H locs cells slots k n ls C K S P L r1 r2 r3 r4 r5 r6))
theorem zp_astore {l G d mc ms M pc lv st σ Q} {i : Nat} {x : Nat} {lv2 : List (Nat × Value)} (hd : decode M.2.1 pc = .ok (.astore i, 2)) (hn : i < M.2.2.1) (hl : (i, Value.ref x) :: lv.filter (fun q => !(q.1 == i) && !(q.1 + 1 == i && q.2.category == 2)) = lv2) (kk : Wp l G d mc ms M (pc + 2) lv2 st σ Q) : Wp l G d mc ms M pc lv (Value.ref x :: st) σ Q := by
  intro p e R s m args below meth c H locs cells slots k n ls C K S P L r1 r2 r3 r4 r5 r6
  exact lv_astore C.1 C.2.1 hd L hn hl (fun ls L => (kk p e R s m args below meth c H locs cells slots k n ls C K S P L r1 r2 r3 r4 r5 r6))
theorem zp_iinc {l G d mc ms M pc lv st σ Q} {i k1 : Nat} {z : Int} {x v : Int32} {lv2 : List (Nat × Value)} (hd : decode M.2.1 pc = .ok (.iinc i z, 3)) (hk : lv[k1]? = some (i, .int x)) (hv : x + Int32.ofInt z = v) (hn : i < M.2.2.1) (hl : (i, Value.int v) :: lv.filter (fun q => !(q.1 == i) && !(q.1 + 1 == i && q.2.category == 2)) = lv2) (kk : Wp l G d mc ms M (pc + 3) lv2 st σ Q) : Wp l G d mc ms M pc lv st σ Q := by
  intro p e R s m args below meth c H locs cells slots k n ls C K S P L r1 r2 r3 r4 r5 r6
  exact lv_iinc C.1 C.2.1 hd L hk hv hn hl (fun ls L => (kk p e R s m args below meth c H locs cells slots k n ls C K S P L r1 r2 r3 r4 r5 r6))
theorem zp_goto {l G d mc ms M pc lv st σ Q} {off : Int} {tgt : Nat} (hd : decode M.2.1 pc = .ok (.goto off, 3)) (ht : (pc : Int) + off = (tgt : Int)) (kk : Wp l G d mc ms M tgt lv st σ Q) : Wp l G d mc ms M pc lv st σ Q := by
  intro p e R s m args below meth c H locs cells slots k n ls C K S P L r1 r2 r3 r4 r5 r6
  exact lv_goto C.1 C.2.1 hd ht (kk p e R s m args below meth c H locs cells slots k n ls C K S P L r1 r2 r3 r4 r5 r6)
theorem zp_dup {l G d mc ms M pc lv st σ Q} {v : Value} (hd : decode M.2.1 pc = .ok (.dup, 1)) (hv : v.category = 1) (kk : Wp l G d mc ms M (pc + 1) lv (v :: v :: st) σ Q) : Wp l G d mc ms M pc lv (v :: st) σ Q := by
  intro p e R s m args below meth c H locs cells slots k n ls C K S P L r1 r2 r3 r4 r5 r6
  exact lv_dup C.1 C.2.1 hd hv (kk p e R s m args below meth c H locs cells slots k n ls C K S P L r1 r2 r3 r4 r5 r6)
theorem zp_dup2 {l G d mc ms M pc lv st σ Q} {v w : Value} (hd : decode M.2.1 pc = .ok (.dup2, 1)) (hv : v.category = 1) (hw : w.category = 1) (kk : Wp l G d mc ms M (pc + 1) lv (v :: w :: v :: w :: st) σ Q) : Wp l G d mc ms M pc lv (v :: w :: st) σ Q := by
  intro p e R s m args below meth c H locs cells slots k n ls C K S P L r1 r2 r3 r4 r5 r6
  exact lv_dup2_11 C.1 C.2.1 hd hv hw (kk p e R s m args below meth c H locs cells slots k n ls C K S P L r1 r2 r3 r4 r5 r6)
theorem zp_pop {l G d mc ms M pc lv st σ Q} {v : Value} (hd : decode M.2.1 pc = .ok (.pop, 1)) (hv : v.category = 1) (kk : Wp l G d mc ms M (pc + 1) lv (st) σ Q) : Wp l G d mc ms M pc lv (v :: st) σ Q := by
  intro p e R s m args below meth c H locs cells slots k n ls C K S P L r1 r2 r3 r4 r5 r6
  exact lv_pop C.1 C.2.1 hd hv (kk p e R s m args below meth c H locs cells slots k n ls C K S P L r1 r2 r3 r4 r5 r6)
theorem zp_iadd {l G d mc ms M pc lv st σ Q} {x y : Int32} (hd : decode M.2.1 pc = .ok (.iadd, 1)) (kk : Wp l G d mc ms M (pc + 1) lv (.int (x + y) :: st) σ Q) : Wp l G d mc ms M pc lv (.int y :: .int x :: st) σ Q := by
  intro p e R s m args below meth c H locs cells slots k n ls C K S P L r1 r2 r3 r4 r5 r6
  exact lv_iadd C.1 C.2.1 hd (kk p e R s m args below meth c H locs cells slots k n ls C K S P L r1 r2 r3 r4 r5 r6)
theorem zp_isub {l G d mc ms M pc lv st σ Q} {x y : Int32} (hd : decode M.2.1 pc = .ok (.isub, 1)) (kk : Wp l G d mc ms M (pc + 1) lv (.int (x - y) :: st) σ Q) : Wp l G d mc ms M pc lv (.int y :: .int x :: st) σ Q := by
  intro p e R s m args below meth c H locs cells slots k n ls C K S P L r1 r2 r3 r4 r5 r6
  exact lv_isub C.1 C.2.1 hd (kk p e R s m args below meth c H locs cells slots k n ls C K S P L r1 r2 r3 r4 r5 r6)
theorem zp_imul {l G d mc ms M pc lv st σ Q} {x y : Int32} (hd : decode M.2.1 pc = .ok (.imul, 1)) (kk : Wp l G d mc ms M (pc + 1) lv (.int (x * y) :: st) σ Q) : Wp l G d mc ms M pc lv (.int y :: .int x :: st) σ Q := by
  intro p e R s m args below meth c H locs cells slots k n ls C K S P L r1 r2 r3 r4 r5 r6
  exact lv_imul C.1 C.2.1 hd (kk p e R s m args below meth c H locs cells slots k n ls C K S P L r1 r2 r3 r4 r5 r6)
theorem zp_iand {l G d mc ms M pc lv st σ Q} {x y : Int32} (hd : decode M.2.1 pc = .ok (.iand, 1)) (kk : Wp l G d mc ms M (pc + 1) lv (.int (x &&& y) :: st) σ Q) : Wp l G d mc ms M pc lv (.int y :: .int x :: st) σ Q := by
  intro p e R s m args below meth c H locs cells slots k n ls C K S P L r1 r2 r3 r4 r5 r6
  exact lv_iand C.1 C.2.1 hd (kk p e R s m args below meth c H locs cells slots k n ls C K S P L r1 r2 r3 r4 r5 r6)
theorem zp_ior {l G d mc ms M pc lv st σ Q} {x y : Int32} (hd : decode M.2.1 pc = .ok (.ior, 1)) (kk : Wp l G d mc ms M (pc + 1) lv (.int (x ||| y) :: st) σ Q) : Wp l G d mc ms M pc lv (.int y :: .int x :: st) σ Q := by
  intro p e R s m args below meth c H locs cells slots k n ls C K S P L r1 r2 r3 r4 r5 r6
  exact lv_ior C.1 C.2.1 hd (kk p e R s m args below meth c H locs cells slots k n ls C K S P L r1 r2 r3 r4 r5 r6)
theorem zp_ixor {l G d mc ms M pc lv st σ Q} {x y : Int32} (hd : decode M.2.1 pc = .ok (.ixor, 1)) (kk : Wp l G d mc ms M (pc + 1) lv (.int (x ^^^ y) :: st) σ Q) : Wp l G d mc ms M pc lv (.int y :: .int x :: st) σ Q := by
  intro p e R s m args below meth c H locs cells slots k n ls C K S P L r1 r2 r3 r4 r5 r6
  exact lv_ixor C.1 C.2.1 hd (kk p e R s m args below meth c H locs cells slots k n ls C K S P L r1 r2 r3 r4 r5 r6)
theorem zp_idiv {l G d mc ms M pc lv st σ Q} {x y : Int32} (hd : decode M.2.1 pc = .ok (.idiv, 1)) (hne : ¬ y = 0) (kk : Wp l G d mc ms M (pc + 1) lv (.int (x / y) :: st) σ Q) : Wp l G d mc ms M pc lv (.int y :: .int x :: st) σ Q := by
  intro p e R s m args below meth c H locs cells slots k n ls C K S P L r1 r2 r3 r4 r5 r6
  exact lv_idiv C.1 C.2.1 hd hne (kk p e R s m args below meth c H locs cells slots k n ls C K S P L r1 r2 r3 r4 r5 r6)
theorem zp_irem {l G d mc ms M pc lv st σ Q} {x y : Int32} (hd : decode M.2.1 pc = .ok (.irem, 1)) (hne : ¬ y = 0) (kk : Wp l G d mc ms M (pc + 1) lv (.int (x - x / y * y) :: st) σ Q) : Wp l G d mc ms M pc lv (.int y :: .int x :: st) σ Q := by
  intro p e R s m args below meth c H locs cells slots k n ls C K S P L r1 r2 r3 r4 r5 r6
  exact lv_irem C.1 C.2.1 hd hne (kk p e R s m args below meth c H locs cells slots k n ls C K S P L r1 r2 r3 r4 r5 r6)
theorem zp_ishr {l G d mc ms M pc lv st σ Q} {x y : Int32} (hd : decode M.2.1 pc = .ok (.ishr, 1)) (kk : Wp l G d mc ms M (pc + 1) lv (.int (x >>> (y &&& 31)) :: st) σ Q) : Wp l G d mc ms M pc lv (.int y :: .int x :: st) σ Q := by
  intro p e R s m args below meth c H locs cells slots k n ls C K S P L r1 r2 r3 r4 r5 r6
  exact lv_ishr C.1 C.2.1 hd (kk p e R s m args below meth c H locs cells slots k n ls C K S P L r1 r2 r3 r4 r5 r6)
theorem zp_ishl {l G d mc ms M pc lv st σ Q} {x y : Int32} (hd : decode M.2.1 pc = .ok (.ishl, 1)) (kk : Wp l G d mc ms M (pc + 1) lv (.int (x <<< (y &&& 31)) :: st) σ Q) : Wp l G d mc ms M pc lv (.int y :: .int x :: st) σ Q := by
  intro p e R s m args below meth c H locs cells slots k n ls C K S P L r1 r2 r3 r4 r5 r6
  exact lv_ishl C.1 C.2.1 hd (kk p e R s m args below meth c H locs cells slots k n ls C K S P L r1 r2 r3 r4 r5 r6)
theorem zp_ineg {l G d mc ms M pc lv st σ Q} {x : Int32} (hd : decode M.2.1 pc = .ok (.ineg, 1)) (kk : Wp l G d mc ms M (pc + 1) lv (.int (-x) :: st) σ Q) : Wp l G d mc ms M pc lv (.int x :: st) σ Q := by
  intro p e R s m args below meth c H locs cells slots k n ls C K S P L r1 r2 r3 r4 r5 r6
  exact lv_ineg C.1 C.2.1 hd (kk p e R s m args below meth c H locs cells slots k n ls C K S P L r1 r2 r3 r4 r5 r6)
theorem zp_i2l {l G d mc ms M pc lv st σ Q} {x : Int32} (hd : decode M.2.1 pc = .ok (.i2l, 1)) (kk : Wp l G d mc ms M (pc + 1) lv (.long x.toInt64 :: st) σ Q) : Wp l G d mc ms M pc lv (.int x :: st) σ Q := by
  intro p e R s m args below meth c H locs cells slots k n ls C K S P L r1 r2 r3 r4 r5 r6
  exact lv_i2l C.1 C.2.1 hd rfl (kk p e R s m args below meth c H locs cells slots k n ls C K S P L r1 r2 r3 r4 r5 r6)
theorem zp_lconst {l G d mc ms M pc lv st σ Q} {n : Fin 2} {v : Int64} (hd : decode M.2.1 pc = .ok (.lconst n, 1)) (hv : Int64.ofNat (n : Nat) = v) (kk : Wp l G d mc ms M (pc + 1) lv (.long v :: st) σ Q) : Wp l G d mc ms M pc lv (st) σ Q := by
  intro p e R s m args below meth c H locs cells slots k n ls C K S P L r1 r2 r3 r4 r5 r6
  exact lv_lconst C.1 C.2.1 hd hv (kk p e R s m args below meth c H locs cells slots k n ls C K S P L r1 r2 r3 r4 r5 r6)
theorem zp_l2iv {l G d mc ms M pc lv st σ Q} {x : Int64} {v : Int32} (hd : decode M.2.1 pc = .ok (.l2i, 1)) (hv : x.toInt32 = v) (kk : Wp l G d mc ms M (pc + 1) lv (.int v :: st) σ Q) : Wp l G d mc ms M pc lv (.long x :: st) σ Q := by
  intro p e R s m args below meth c H locs cells slots k n ls C K S P L r1 r2 r3 r4 r5 r6
  exact lv_l2i C.1 C.2.1 hd hv (kk p e R s m args below meth c H locs cells slots k n ls C K S P L r1 r2 r3 r4 r5 r6)
theorem zp_ladd {l G d mc ms M pc lv st σ Q} {x y : Int64} (hd : decode M.2.1 pc = .ok (.ladd, 1)) (kk : Wp l G d mc ms M (pc + 1) lv (.long (x + y) :: st) σ Q) : Wp l G d mc ms M pc lv (.long y :: .long x :: st) σ Q := by
  intro p e R s m args below meth c H locs cells slots k n ls C K S P L r1 r2 r3 r4 r5 r6
  exact lv_ladd C.1 C.2.1 hd (kk p e R s m args below meth c H locs cells slots k n ls C K S P L r1 r2 r3 r4 r5 r6)
theorem j_add {a b : Int64} {x y : Int32} (h : a.toInt32 = x) (k : b.toInt32 = y) : (a + b).toInt32 = x + y := by first | rw [Int64.toInt32_add, h, k] | (subst h; subst k; apply Int32.toBitVec_inj.mp; simp)
theorem zp_topj {l G d mc ms M pc lv st σ Q} {L : Int64} {v : Int32} (h : L.toInt32 = v) (kk : ∀ L' : Int64, L'.toInt32 = v → Wp l G d mc ms M pc lv (.long L' :: st) σ Q) : Wp l G d mc ms M pc lv (.long L :: st) σ Q := kk L h
theorem j_i2l (x : Int32) : x.toInt64.toInt32 = x := by first | exact Int32.toInt32_toInt64 x | simp
theorem zp_lmul {l G d mc ms M pc lv st σ Q} {x y : Int64} (hd : decode M.2.1 pc = .ok (.lmul, 1)) (kk : Wp l G d mc ms M (pc + 1) lv (.long (x * y) :: st) σ Q) : Wp l G d mc ms M pc lv (.long y :: .long x :: st) σ Q := by
  intro p e R s m args below meth c H locs cells slots k n ls C K S P L r1 r2 r3 r4 r5 r6
  exact lv_lmul C.1 C.2.1 hd (kk p e R s m args below meth c H locs cells slots k n ls C K S P L r1 r2 r3 r4 r5 r6)
theorem zp_ldiv {l G d mc ms M pc lv st σ Q} {x y : Int64} (hd : decode M.2.1 pc = .ok (.ldiv, 1)) (hne : ¬ y = 0) (kk : Wp l G d mc ms M (pc + 1) lv (.long (x / y) :: st) σ Q) : Wp l G d mc ms M pc lv (.long y :: .long x :: st) σ Q := by
  intro p e R s m args below meth c H locs cells slots k n ls C K S P L r1 r2 r3 r4 r5 r6
  exact lv_ldiv C.1 C.2.1 hd hne (kk p e R s m args below meth c H locs cells slots k n ls C K S P L r1 r2 r3 r4 r5 r6)
theorem zp_l2i {l G d mc ms M pc lv st σ Q} {x : Int64} (hd : decode M.2.1 pc = .ok (.l2i, 1)) (kk : Wp l G d mc ms M (pc + 1) lv (.int x.toInt32 :: st) σ Q) : Wp l G d mc ms M pc lv (.long x :: st) σ Q := by
  intro p e R s m args below meth c H locs cells slots k n ls C K S P L r1 r2 r3 r4 r5 r6
  exact lv_l2i C.1 C.2.1 hd rfl (kk p e R s m args below meth c H locs cells slots k n ls C K S P L r1 r2 r3 r4 r5 r6)
theorem zp_icmp_eq {l G d mc ms M pc lv st σ Q} {x y : Int32} {off : Int} {tgt : Nat} (hd : decode M.2.1 pc = .ok (.if_icmp .eq off, 3)) (ht : (pc : Int) + off = (tgt : Int)) (kt : x = y → Wp l G d mc ms M tgt lv st σ Q) (kf : ¬ (x = y) → Wp l G d mc ms M (pc + 3) lv st σ Q) : Wp l G d mc ms M pc lv (.int y :: .int x :: st) σ Q := by
  intro p e R s m args below meth c H locs cells slots k n ls C K S P L r1 r2 r3 r4 r5 r6
  exact lv_icmp_eq C.1 C.2.1 hd ht (fun q => (kt q p e R s m args below meth c H locs cells slots k n ls C K S P L r1 r2 r3 r4 r5 r6)) (fun q => (kf q p e R s m args below meth c H locs cells slots k n ls C K S P L r1 r2 r3 r4 r5 r6))
theorem zp_icmp_ne {l G d mc ms M pc lv st σ Q} {x y : Int32} {off : Int} {tgt : Nat} (hd : decode M.2.1 pc = .ok (.if_icmp .ne off, 3)) (ht : (pc : Int) + off = (tgt : Int)) (kt : ¬ x = y → Wp l G d mc ms M tgt lv st σ Q) (kf : x = y → Wp l G d mc ms M (pc + 3) lv st σ Q) : Wp l G d mc ms M pc lv (.int y :: .int x :: st) σ Q := by
  intro p e R s m args below meth c H locs cells slots k n ls C K S P L r1 r2 r3 r4 r5 r6
  exact lv_icmp_ne C.1 C.2.1 hd ht (fun q => (kt q p e R s m args below meth c H locs cells slots k n ls C K S P L r1 r2 r3 r4 r5 r6)) (fun q => (kf q p e R s m args below meth c H locs cells slots k n ls C K S P L r1 r2 r3 r4 r5 r6))
theorem zp_icmp_lt {l G d mc ms M pc lv st σ Q} {x y : Int32} {off : Int} {tgt : Nat} (hd : decode M.2.1 pc = .ok (.if_icmp .lt off, 3)) (ht : (pc : Int) + off = (tgt : Int)) (kt : x < y → Wp l G d mc ms M tgt lv st σ Q) (kf : ¬ (x < y) → Wp l G d mc ms M (pc + 3) lv st σ Q) : Wp l G d mc ms M pc lv (.int y :: .int x :: st) σ Q := by
  intro p e R s m args below meth c H locs cells slots k n ls C K S P L r1 r2 r3 r4 r5 r6
  exact lv_icmp_lt C.1 C.2.1 hd ht (fun q => (kt q p e R s m args below meth c H locs cells slots k n ls C K S P L r1 r2 r3 r4 r5 r6)) (fun q => (kf q p e R s m args below meth c H locs cells slots k n ls C K S P L r1 r2 r3 r4 r5 r6))
theorem zp_icmp_ge {l G d mc ms M pc lv st σ Q} {x y : Int32} {off : Int} {tgt : Nat} (hd : decode M.2.1 pc = .ok (.if_icmp .ge off, 3)) (ht : (pc : Int) + off = (tgt : Int)) (kt : y ≤ x → Wp l G d mc ms M tgt lv st σ Q) (kf : ¬ (y ≤ x) → Wp l G d mc ms M (pc + 3) lv st σ Q) : Wp l G d mc ms M pc lv (.int y :: .int x :: st) σ Q := by
  intro p e R s m args below meth c H locs cells slots k n ls C K S P L r1 r2 r3 r4 r5 r6
  exact lv_icmp_ge C.1 C.2.1 hd ht (fun q => (kt q p e R s m args below meth c H locs cells slots k n ls C K S P L r1 r2 r3 r4 r5 r6)) (fun q => (kf q p e R s m args below meth c H locs cells slots k n ls C K S P L r1 r2 r3 r4 r5 r6))
theorem zp_icmp_gt {l G d mc ms M pc lv st σ Q} {x y : Int32} {off : Int} {tgt : Nat} (hd : decode M.2.1 pc = .ok (.if_icmp .gt off, 3)) (ht : (pc : Int) + off = (tgt : Int)) (kt : y < x → Wp l G d mc ms M tgt lv st σ Q) (kf : ¬ (y < x) → Wp l G d mc ms M (pc + 3) lv st σ Q) : Wp l G d mc ms M pc lv (.int y :: .int x :: st) σ Q := by
  intro p e R s m args below meth c H locs cells slots k n ls C K S P L r1 r2 r3 r4 r5 r6
  exact lv_icmp_gt C.1 C.2.1 hd ht (fun q => (kt q p e R s m args below meth c H locs cells slots k n ls C K S P L r1 r2 r3 r4 r5 r6)) (fun q => (kf q p e R s m args below meth c H locs cells slots k n ls C K S P L r1 r2 r3 r4 r5 r6))
theorem zp_icmp_le {l G d mc ms M pc lv st σ Q} {x y : Int32} {off : Int} {tgt : Nat} (hd : decode M.2.1 pc = .ok (.if_icmp .le off, 3)) (ht : (pc : Int) + off = (tgt : Int)) (kt : x ≤ y → Wp l G d mc ms M tgt lv st σ Q) (kf : ¬ (x ≤ y) → Wp l G d mc ms M (pc + 3) lv st σ Q) : Wp l G d mc ms M pc lv (.int y :: .int x :: st) σ Q := by
  intro p e R s m args below meth c H locs cells slots k n ls C K S P L r1 r2 r3 r4 r5 r6
  exact lv_icmp_le C.1 C.2.1 hd ht (fun q => (kt q p e R s m args below meth c H locs cells slots k n ls C K S P L r1 r2 r3 r4 r5 r6)) (fun q => (kf q p e R s m args below meth c H locs cells slots k n ls C K S P L r1 r2 r3 r4 r5 r6))
theorem zp_if_eq {l G d mc ms M pc lv st σ Q} {x : Int32} {off : Int} {tgt : Nat} (hd : decode M.2.1 pc = .ok (.ifCond .eq off, 3)) (ht : (pc : Int) + off = (tgt : Int)) (kt : x = 0 → Wp l G d mc ms M tgt lv st σ Q) (kf : ¬ (x = 0) → Wp l G d mc ms M (pc + 3) lv st σ Q) : Wp l G d mc ms M pc lv (.int x :: st) σ Q := by
  intro p e R s m args below meth c H locs cells slots k n ls C K S P L r1 r2 r3 r4 r5 r6
  exact lv_if_eq C.1 C.2.1 hd ht (fun q => (kt q p e R s m args below meth c H locs cells slots k n ls C K S P L r1 r2 r3 r4 r5 r6)) (fun q => (kf q p e R s m args below meth c H locs cells slots k n ls C K S P L r1 r2 r3 r4 r5 r6))
theorem zp_if_ne {l G d mc ms M pc lv st σ Q} {x : Int32} {off : Int} {tgt : Nat} (hd : decode M.2.1 pc = .ok (.ifCond .ne off, 3)) (ht : (pc : Int) + off = (tgt : Int)) (kt : ¬ x = 0 → Wp l G d mc ms M tgt lv st σ Q) (kf : x = 0 → Wp l G d mc ms M (pc + 3) lv st σ Q) : Wp l G d mc ms M pc lv (.int x :: st) σ Q := by
  intro p e R s m args below meth c H locs cells slots k n ls C K S P L r1 r2 r3 r4 r5 r6
  exact lv_if_ne C.1 C.2.1 hd ht (fun q => (kt q p e R s m args below meth c H locs cells slots k n ls C K S P L r1 r2 r3 r4 r5 r6)) (fun q => (kf q p e R s m args below meth c H locs cells slots k n ls C K S P L r1 r2 r3 r4 r5 r6))
theorem zp_if_lt {l G d mc ms M pc lv st σ Q} {x : Int32} {off : Int} {tgt : Nat} (hd : decode M.2.1 pc = .ok (.ifCond .lt off, 3)) (ht : (pc : Int) + off = (tgt : Int)) (kt : x < 0 → Wp l G d mc ms M tgt lv st σ Q) (kf : ¬ (x < 0) → Wp l G d mc ms M (pc + 3) lv st σ Q) : Wp l G d mc ms M pc lv (.int x :: st) σ Q := by
  intro p e R s m args below meth c H locs cells slots k n ls C K S P L r1 r2 r3 r4 r5 r6
  exact lv_if_lt C.1 C.2.1 hd ht (fun q => (kt q p e R s m args below meth c H locs cells slots k n ls C K S P L r1 r2 r3 r4 r5 r6)) (fun q => (kf q p e R s m args below meth c H locs cells slots k n ls C K S P L r1 r2 r3 r4 r5 r6))
theorem zp_if_ge {l G d mc ms M pc lv st σ Q} {x : Int32} {off : Int} {tgt : Nat} (hd : decode M.2.1 pc = .ok (.ifCond .ge off, 3)) (ht : (pc : Int) + off = (tgt : Int)) (kt : 0 ≤ x → Wp l G d mc ms M tgt lv st σ Q) (kf : ¬ (0 ≤ x) → Wp l G d mc ms M (pc + 3) lv st σ Q) : Wp l G d mc ms M pc lv (.int x :: st) σ Q := by
  intro p e R s m args below meth c H locs cells slots k n ls C K S P L r1 r2 r3 r4 r5 r6
  exact lv_if_ge C.1 C.2.1 hd ht (fun q => (kt q p e R s m args below meth c H locs cells slots k n ls C K S P L r1 r2 r3 r4 r5 r6)) (fun q => (kf q p e R s m args below meth c H locs cells slots k n ls C K S P L r1 r2 r3 r4 r5 r6))
theorem zp_if_gt {l G d mc ms M pc lv st σ Q} {x : Int32} {off : Int} {tgt : Nat} (hd : decode M.2.1 pc = .ok (.ifCond .gt off, 3)) (ht : (pc : Int) + off = (tgt : Int)) (kt : 0 < x → Wp l G d mc ms M tgt lv st σ Q) (kf : ¬ (0 < x) → Wp l G d mc ms M (pc + 3) lv st σ Q) : Wp l G d mc ms M pc lv (.int x :: st) σ Q := by
  intro p e R s m args below meth c H locs cells slots k n ls C K S P L r1 r2 r3 r4 r5 r6
  exact lv_if_gt C.1 C.2.1 hd ht (fun q => (kt q p e R s m args below meth c H locs cells slots k n ls C K S P L r1 r2 r3 r4 r5 r6)) (fun q => (kf q p e R s m args below meth c H locs cells slots k n ls C K S P L r1 r2 r3 r4 r5 r6))
theorem zp_if_le {l G d mc ms M pc lv st σ Q} {x : Int32} {off : Int} {tgt : Nat} (hd : decode M.2.1 pc = .ok (.ifCond .le off, 3)) (ht : (pc : Int) + off = (tgt : Int)) (kt : x ≤ 0 → Wp l G d mc ms M tgt lv st σ Q) (kf : ¬ (x ≤ 0) → Wp l G d mc ms M (pc + 3) lv st σ Q) : Wp l G d mc ms M pc lv (.int x :: st) σ Q := by
  intro p e R s m args below meth c H locs cells slots k n ls C K S P L r1 r2 r3 r4 r5 r6
  exact lv_if_le C.1 C.2.1 hd ht (fun q => (kt q p e R s m args below meth c H locs cells slots k n ls C K S P L r1 r2 r3 r4 r5 r6)) (fun q => (kf q p e R s m args below meth c H locs cells slots k n ls C K S P L r1 r2 r3 r4 r5 r6))
theorem zp_acmp_eq {l G d mc ms M pc lv st σ Q} {rx ry : Option Nat} {vx vy : Value} {off : Int} {tgt : Nat} (hd : decode M.2.1 pc = .ok (.if_acmp .eq off, 3)) (ht : (pc : Int) + off = (tgt : Int)) (hx : vx = va_rf rx) (hy : vy = va_rf ry) (kt : rx = ry → Wp l G d mc ms M tgt lv st σ Q) (kf : ¬ (rx = ry) → Wp l G d mc ms M (pc + 3) lv st σ Q) : Wp l G d mc ms M pc lv (vy :: vx :: st) σ Q := by
  intro p e R s m args below meth c H locs cells slots k n ls C K S P L r1 r2 r3 r4 r5 r6
  subst hx; subst hy
  exact lv_acmp_eq C.1 C.2.1 hd ht (fun q => (kt q p e R s m args below meth c H locs cells slots k n ls C K S P L r1 r2 r3 r4 r5 r6)) (fun q => (kf q p e R s m args below meth c H locs cells slots k n ls C K S P L r1 r2 r3 r4 r5 r6))
theorem zp_acmp_ne {l G d mc ms M pc lv st σ Q} {rx ry : Option Nat} {vx vy : Value} {off : Int} {tgt : Nat} (hd : decode M.2.1 pc = .ok (.if_acmp .ne off, 3)) (ht : (pc : Int) + off = (tgt : Int)) (hx : vx = va_rf rx) (hy : vy = va_rf ry) (kt : ¬ rx = ry → Wp l G d mc ms M tgt lv st σ Q) (kf : rx = ry → Wp l G d mc ms M (pc + 3) lv st σ Q) : Wp l G d mc ms M pc lv (vy :: vx :: st) σ Q := by
  intro p e R s m args below meth c H locs cells slots k n ls C K S P L r1 r2 r3 r4 r5 r6
  subst hx; subst hy
  exact lv_acmp_ne C.1 C.2.1 hd ht (fun q => (kt q p e R s m args below meth c H locs cells slots k n ls C K S P L r1 r2 r3 r4 r5 r6)) (fun q => (kf q p e R s m args below meth c H locs cells slots k n ls C K S P L r1 r2 r3 r4 r5 r6))
theorem zp_ifnull {l G d mc ms M pc lv st σ Q} {r : Option Nat} {v : Value} {off : Int} {tgt : Nat} (hd : decode M.2.1 pc = .ok (.ifnull off, 3)) (ht : (pc : Int) + off = (tgt : Int)) (hv : v = va_rf r) (kt : r = none → Wp l G d mc ms M tgt lv st σ Q) (kf : ∀ a, r = some a → Wp l G d mc ms M (pc + 3) lv st σ Q) : Wp l G d mc ms M pc lv (v :: st) σ Q := by
  intro p e R s m args below meth c H locs cells slots k n ls C K S P L r1 r2 r3 r4 r5 r6
  subst hv
  cases r with
  | none => exact lv_ifnullN C.1 C.2.1 hd ht (kt rfl p e R s m args below meth c H locs cells slots k n ls C K S P L r1 r2 r3 r4 r5 r6)
  | some a => exact lv_ifnull C.1 C.2.1 hd (kf a rfl p e R s m args below meth c H locs cells slots k n ls C K S P L r1 r2 r3 r4 r5 r6)
theorem zp_ifnonnull {l G d mc ms M pc lv st σ Q} {r : Option Nat} {v : Value} {off : Int} {tgt : Nat} (hd : decode M.2.1 pc = .ok (.ifnonnull off, 3)) (ht : (pc : Int) + off = (tgt : Int)) (hv : v = va_rf r) (kt : ∀ a, r = some a → Wp l G d mc ms M tgt lv st σ Q) (kf : r = none → Wp l G d mc ms M (pc + 3) lv st σ Q) : Wp l G d mc ms M pc lv (v :: st) σ Q := by
  intro p e R s m args below meth c H locs cells slots k n ls C K S P L r1 r2 r3 r4 r5 r6
  subst hv
  cases r with
  | none => exact lv_ifnonnullN C.1 C.2.1 hd (kf rfl p e R s m args below meth c H locs cells slots k n ls C K S P L r1 r2 r3 r4 r5 r6)
  | some a => exact lv_ifnonnull C.1 C.2.1 hd ht (kt a rfl p e R s m args below meth c H locs cells slots k n ls C K S P L r1 r2 r3 r4 r5 r6)
theorem zp_tableIn {l G d mc ms M pc lv st σ Q} {dflt lo hi : Int} {offs : Array Int} {len : Nat} {x : Int32} {off : Int} {tgt : Nat} (hd : decode M.2.1 pc = .ok (.tableswitch dflt lo hi offs, len)) (h1 : ¬ x.toInt < lo) (h2 : ¬ hi < x.toInt) (ho : offs[(x.toInt - lo).toNat]? = some off) (ht : (pc : Int) + off = (tgt : Int)) (kk : Wp l G d mc ms M tgt lv st σ Q) : Wp l G d mc ms M pc lv (.int x :: st) σ Q := by
  intro p e R s m args below meth c H locs cells slots k n ls C K S P L r1 r2 r3 r4 r5 r6
  exact lv_tableIn C.1 C.2.1 hd h1 h2 ho ht (kk p e R s m args below meth c H locs cells slots k n ls C K S P L r1 r2 r3 r4 r5 r6)
theorem zp_tableOut {l G d mc ms M pc lv st σ Q} {dflt lo hi : Int} {offs : Array Int} {len : Nat} {x : Int32} {tgt : Nat} (hd : decode M.2.1 pc = .ok (.tableswitch dflt lo hi offs, len)) (h : x.toInt < lo ∨ hi < x.toInt) (ht : (pc : Int) + dflt = (tgt : Int)) (kk : Wp l G d mc ms M tgt lv st σ Q) : Wp l G d mc ms M pc lv (.int x :: st) σ Q := by
  intro p e R s m args below meth c H locs cells slots k n ls C K S P L r1 r2 r3 r4 r5 r6
  exact lv_tableOut C.1 C.2.1 hd h ht (kk p e R s m args below meth c H locs cells slots k n ls C K S P L r1 r2 r3 r4 r5 r6)
theorem zp_lookup {l G d mc ms M pc lv st σ Q} {dflt : Int} {ps : Array (Int × Int)} {len : Nat} {x : Int32} {off : Int} {tgt : Nat} (hd : decode M.2.1 pc = .ok (.lookupswitch dflt ps, len)) (hp : (ps.toList.zip (ps.toList.drop 1)).all (fun (a, next) => a.1 < next.1) = true) (ho : Op.lookupswitch.offset ps.toList dflt x.toInt = off) (ht : (pc : Int) + off = (tgt : Int)) (kk : Wp l G d mc ms M tgt lv st σ Q) : Wp l G d mc ms M pc lv (.int x :: st) σ Q := by
  intro p e R s m args below meth c H locs cells slots k n ls C K S P L r1 r2 r3 r4 r5 r6
  exact lv_lookup C.1 C.2.1 hd hp ho ht (kk p e R s m args below meth c H locs cells slots k n ls C K S P L r1 r2 r3 r4 r5 r6)
theorem zp_ldc {l G d mc ms M pc lv st σ Q} {i : Nat} {v : Int32} (hd : decode M.2.1 pc = .ok (.ldc i, 2)) (hw : Cond.constant M.1 i v ∈ gwl) (kk : Wp l G d mc ms M (pc + 2) lv (.int v :: st) σ Q) : Wp l G d mc ms M pc lv st σ Q := by
  intro p e R s m args below meth c H locs cells slots k n ls C K S P L r1 r2 r3 r4 r5 r6
  exact lv_ldc C.1 C.2.1 C.2.2.2.1 (C.2.2.2.2.1 _ hw) hd (kk p e R s m args below meth c H locs cells slots k n ls C K S P L r1 r2 r3 r4 r5 r6)

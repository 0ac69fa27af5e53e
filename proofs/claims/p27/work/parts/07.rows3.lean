/-! ROWS, third part: statics, enum constants, new cells, arrays of references, calls, returns (by wip/p27/gen_rows3.py) -/
theorem zp_kin {l G d mc ms M pc lv st σ Q} (kk : (∀ i j, i < 9 → j < 9 → G.2.2.1 i = G.2.2.1 j → i = j) → Wp l G d mc ms M pc lv st σ Q) : Wp l G d mc ms M pc lv st σ Q := by
  intro p e R s m args below meth c H locs cells slots k n ls C K S P L r1 r2 r3 r4 r5 r6
  exact kk K.2.2.2.1.2 p e R s m args below meth c H locs cells slots k n ls C K S P L r1 r2 r3 r4 r5 r6
theorem zp_zp0 {l G d mc ms M pc lv st σ Q} (kk : zP0 σ → Wp l G d mc ms M pc lv st σ Q) : Wp l G d mc ms M pc lv st σ Q := by
  intro p e R s m args below meth c H locs cells slots k n ls C K S P L r1 r2 r3 r4 r5 r6
  exact kk P.1 p e R s m args below meth c H locs cells slots k n ls C K S P L r1 r2 r3 r4 r5 r6
theorem zp_kind {l G d mc ms M pc lv st σ Q} {index i : Nat} {nm : String} (hd : decode M.2.1 pc = .ok (.getstatic index, 3)) (hi : i < 9) (hn : znm.getD i "" = nm) (hl : Cond.fieldLink M.1 index RX3 nm "LFlowBoxes$Kind;" ∈ gwl) (kk : Wp l G d mc ms M (pc + 3) lv (.ref (G.2.2.1 i) :: st) σ Q) : Wp l G d mc ms M pc lv st σ Q := by
  intro p e R s m args below meth c H locs cells slots k n ls C K S P L r1 r2 r3 r4 r5 r6
  subst hn
  exact va_gets C.1 C.2.1 (K.2.2.2.1.1 i hi).1 S C.2.2.2.1 (C.2.2.2.2.1 _ hl) (fun _ h => h) hd (kk p e R s m args below meth c H locs cells slots k n ls C K S P L r1 r2 r3 r4 r5 r6)
theorem zp_swmap {l G d mc ms M pc lv st σ Q} {index : Nat} (hd : decode M.2.1 pc = .ok (.getstatic index, 3)) (hl : Cond.fieldLink M.1 index RX0 "$SwitchMap$FlowBoxes$Kind" "[I" ∈ gwl) (kk : Wp l G d mc ms M (pc + 3) lv (.ref G.2.2.2.1 :: st) σ Q) : Wp l G d mc ms M pc lv st σ Q := by
  intro p e R s m args below meth c H locs cells slots k n ls C K S P L r1 r2 r3 r4 r5 r6
  exact va_gets C.1 C.2.1 K.2.2.2.2.1 S C.2.2.2.1 (C.2.2.2.2.1 _ hl) (fun _ h => h) hd (kk p e R s m args below meth c H locs cells slots k n ls C K S P L r1 r2 r3 r4 r5 r6)
theorem zp_ord {l G d mc ms M pc lv st σ Q} {index i : Nat} {x : Int32} (hd : decode M.2.1 pc = .ok (.getfield index, 3)) (hi : i < 9) (hx : ([0, 1, 2, 3, 4, 5, 6, 7, 8] : List Int32).getD i 0 = x) (hl : Cond.fieldLink M.1 index "java/lang/Enum" "ordinal" "I" ∈ gwl) (kk : Wp l G d mc ms M (pc + 3) lv (.int x :: st) σ Q) : Wp l G d mc ms M pc lv (.ref (G.2.2.1 i) :: st) σ Q := by
  intro p e R s m args below meth c H locs cells slots k n ls C K S P L r1 r2 r3 r4 r5 r6
  subst hx
  exact va_getE (q := ("java/lang/Enum", "ordinal", "I", [0, 1, 2, 3, 4, 5, 6, 7, 8])) C.1 C.2.1 K.2.2.2.1 hi S C.2.2.2.1 List.mem_cons_self (C.2.2.2.2.1 _ hl) (fun _ h => h) hd (kk p e R s m args below meth c H locs cells slots k n ls C K S P L r1 r2 r3 r4 r5 r6)
theorem zSle {G : Gb} {s : State} {H : Heap} {locs : List Loc} (K : zK G s s.heap) (S : va_S (gP G) s.heap H locs) : G.2.1 ≤ H.size := Nat.le_trans K.2.2.2.2.2 S.1
theorem zq0 {G : Gb} {σ : Sto} {s : State} {H : Heap} (P : zP G σ s H) : (zT σ H.size).1 = 0 := Decidable.byContradiction fun h => absurd (P.2.2.2.2.2.2 _ h) (Nat.lt_irrefl _)
theorem zSpush {G : Gb} {s : State} {H H1 : Heap} {locs : List Loc} (S : va_S (gP G) s.heap H locs) (z1 : H1.size = H.size + 1) (o1 : ∀ q, q < H.size → H1[q]? = H[q]?) : va_S (gP G) s.heap H1 locs :=
  ⟨Nat.le_trans S.1 (by omega), fun x h1 h2 => (o1 x (Nat.lt_of_lt_of_le h1 S.1)).trans (S.2.1 x h1 h2), S.2.2⟩
theorem zp_newI {l G d mc ms M pc lv st σ Q} {x : Int32} {N mc2 ms2 : Nat} (hd : decode M.2.1 pc = .ok (.newarray .int, 2)) (hw : Cond.arrayClass .int ∈ gwl) (hn : ¬ x < 0) (hN : x.toNatClampNeg = N) (hb : N * 4 ≤ 536870912) (h1 : mc2 + 1 ≤ mc) (h2 : ms2 + N ≤ ms)
    (kk : ∀ q, (zT σ q).1 = 0 → Wp l G d mc2 ms2 M (pc + 2) lv (.ref q :: st) (wT σ q (20, N)) Q) : Wp l G d mc ms M pc lv (.int x :: st) σ Q := by
  intro p e R s m args below meth c H locs cells slots k n ls C K S P L r1 r2 r3 r4 r5 r6
  refine va_newaK (atype := .int) C.1 C.2.1 (C.2.2.2.2.1 _ hw) rfl hd rfl hn hN hb (by omega) (by omega) rfl fun H1 cA e1 z1 o1 hAr hNm => ?_
  have hcA : cA = G.2.2.2.2 0 := Option.some.inj (hNm.symm.trans ((K.1.2 0 _ rfl).2))
  subst hcA
  refine kk H.size (zq0 P) p e R s m args below meth c H1 locs (cells + 1) (slots + N) k n ls C K (zSpush S z1 o1) (P.push (zSle K S) z1 o1 ⟨by show (20 : Nat) ≠ 0; decide, by show (20 : Nat) ≠ 25; decide, by show (20 : Nat) ≠ 30; decide⟩ (fun c h => by have h : (20 : Nat) = c + 1 := h; intro q; omega) (fun _ => ?_) (fun j h => by have h : (20 : Nat) = 21 + j := h; omega)) L r1 r2 (by omega) (by omega) r5 r6
  rw [e1]
  have hz : (fun j => Value.int (zA σ H.size j)) = fun _ => defaultValue (newarray.typeOf .int) := by funext j; rw [((P.1 _ (zq0 P)).2 j).1]; rfl
  rw [hz]
theorem zp_new {l G d mc ms M pc lv st σ Q} {c0 index mc2 ms2 : Nat} {r0 : vw_C} (hd : decode M.2.1 pc = .ok (.new index, 3)) (hr : zcl[c0]? = some r0) (hw1 : Cond.classLink M.1 index r0.1 ∈ gwl) (hw2 : Cond.instantiable r0.1 r0.2.2 ∈ gwl) (hw3 : Cond.initialized r0.1 ∈ gwl) (h1 : mc2 + 1 ≤ mc) (h2 : ms2 + r0.2.2 ≤ ms)
    (kk : ∀ q, (zT σ q).1 = 0 → Wp l G d mc2 ms2 M (pc + 3) lv (.ref q :: st) (wT σ q (c0 + 1, 0)) Q) : Wp l G d mc ms M pc lv st σ Q := by
  intro p e R s m args below meth c H locs cells slots k n ls C K S P L r1 r2 r3 r4 r5 r6
  obtain ⟨ty, hC⟩ := zCl_ok hr
  have hKn := K.1.1 c0 _ hr
  have hlt : c0 < 10 := (List.getElem?_eq_some_iff.mp hr).1
  refine W.newcK C.1 C.2.1 C.2.2.2.1 (C.2.2.2.2.1 _ hw1) (C.2.2.2.2.1 _ hw2) (C.2.2.2.2.1 _ hw3) rfl hd (by omega) (by omega) hKn.2.1 rfl fun H1 kC hkC e1 z1 o1 => ?_
  refine kk H.size (zq0 P) p e R s m args below meth c H1 locs (cells + 1) (slots + r0.2.2) k n ls C K (zSpush S z1 o1) (P.push (zSle K S) z1 o1 ⟨Nat.succ_ne_zero _, by show c0 + 1 ≠ 25; omega, by show c0 + 1 ≠ 30; omega⟩ (fun c h hc => ?_) (fun h => by have h : c0 + 1 = 20 := h; omega) (fun j h => by have h : c0 + 1 = 21 + j := h; omega)) L r1 r2 (by omega) (by omega) r5 r6
  have h : c0 + 1 = c + 1 := h
  have h : c0 = c := by omega
  subst h
  refine ⟨r0, hr, _, u_born ty C.2.2.2.2.1 hC.1 hKn hkC e1 hC.2.1, fun j hj => ?_⟩
  have hz := (P.1 _ (zq0 P)).1 (100 * (c0 + 1) + j)
  rw [hC.2.1 j hj]
  have hdf := hC.2.2.2.1 j hj
  cases hlb : zLb (ty j) with
  | false =>
    rw [hlb] at hdf
    refine (zfv_n hlb).mpr (hdf.trans ?_)
    unfold zval
    cases zref (100 * (c0 + 1) + j)
    · show Value.int 0 = Value.int _; rw [hz.1]
    · show Value.null = va_rf _; rw [hz.2]; rfl
  | true =>
    rw [hlb] at hdf
    have hty : ty j = .long := by
      cases h : ty j <;> rw [h] at hlb <;> first | rfl | exact absurd hlb Bool.false_ne_true
    rw [hty] at hdf ⊢
    exact ⟨0, hdf, by rw [hz.1]; decide⟩
theorem zao1 {G U H} (K : zK G U H) : va_AO "FlowBoxes$Node" U := K.2.2.1.1
theorem zao2 {G U H} (K : zK G U H) : va_AO "FlowBoxes$Flow" U := K.2.2.1.2.1
theorem zao3 {G U H} (K : zK G U H) : va_AO "FlowBoxes$Thing" U := K.2.2.1.2.2
theorem zp_newQ {l G d mc ms M pc lv st σ Q} {x : Int32} {N mc2 ms2 index j : Nat} {Cn : String} (hd : decode M.2.1 pc = .ok (.anewarray index, 3)) (hw : Cond.classLink M.1 index Cn ∈ gwl) (hj : j < 3) (hty : (ztys G)[j + 1]? = some (G.2.2.2.2 (j + 1), .object Cn)) (hao : ∀ {U H}, zK G U H → va_AO Cn U) (hn : ¬ x < 0) (hN : x.toNatClampNeg = N) (hb : N * 4 ≤ 536870912) (h1 : mc2 + 1 ≤ mc) (h2 : ms2 + N ≤ ms)
    (kk : ∀ q, (zT σ q).1 = 0 → Wp l G d mc2 ms2 M (pc + 3) lv (.ref q :: st) (wT σ q (21 + j, N)) Q) : Wp l G d mc ms M pc lv (.int x :: st) σ Q := by
  intro p e R s m args below meth c H locs cells slots k n ls C K S P L r1 r2 r3 r4 r5 r6
  subst hN
  refine W.anew C.1 C.2.1 C.2.2.2.1 (C.2.2.2.2.1 _ hw) (va_AO.use (hao K)) rfl hd rfl hn hb (by omega) (by omega) fun cA kA comp f1 f2 f3 f4 => ?_
  obtain ⟨kA2, comp2, -, -, -, g4⟩ := (K.1.2 (j + 1) _ hty).2
  have hcA : cA = G.2.2.2.2 (j + 1) := Option.some.inj (f1.symm.trans g4)
  subst hcA
  generalize hH1 : H.push ({ cls := G.2.2.2.2 (j + 1), slots := Array.replicate x.toNatClampNeg .null, vm := .none } : Cell) = H1
  have z1 : H1.size = H.size + 1 := by rw [← hH1, Array.size_push]
  have e1 : H1[H.size]? = some (arrV (G.2.2.2.2 (j + 1)) x.toNatClampNeg (fun _ => .null)) := by rw [← hH1, Array.getElem?_push_size, ← arrV_new]
  have o1 : ∀ q : Nat, q < H.size → H1[q]? = H[q]? := fun q hq => by rw [← hH1, Array.getElem?_push, if_neg (Nat.ne_of_lt hq)]
  refine kk H.size (zq0 P) p e R s m args below meth c H1 locs (cells + 1) (slots + x.toNatClampNeg) k n ls C K (zSpush S z1 o1) (P.push (zSle K S) z1 o1 ⟨by show 21 + j ≠ 0; omega, by show 21 + j ≠ 25; omega, by show 21 + j ≠ 30; omega⟩ (fun c h hc => by have h : 21 + j = c + 1 := h; omega) (fun h => by have h : 21 + j = 20 := h; omega) (fun j2 h _ => ?_)) L r1 r2 (by omega) (by omega) r5 r6
  have h : 21 + j = 21 + j2 := h
  have h : j = j2 := by omega
  subst h
  rw [e1]
  have hz : (fun i => va_rf (zQ σ H.size i)) = fun _ => Value.null := by funext i; rw [((P.1 _ (zq0 P)).2 i).2]; rfl
  rw [hz]
theorem zp_aaload {l G d mc ms M pc lv st σ Q} {a j n i : Nat} {x : Int32} {Cn : String} {v : Value} (hd : decode M.2.1 pc = .ok (.aaload, 1)) (ht : zT σ a = (21 + j, n)) (hj : j < 3) (hty : (ztys G)[j + 1]? = some (G.2.2.2.2 (j + 1), .object Cn)) (hi : x.toNatClampNeg = i) (hin : vp_in x n) (hv : va_rf (zQ σ a i) = v) (kk : Wp l G d mc ms M (pc + 1) lv (v :: st) σ Q) : Wp l G d mc ms M pc lv (.int x :: .ref a :: st) σ Q := by
  intro p e R s m args below meth c H locs cells slots k n' ls C K S P L r1 r2 r3 r4 r5 r6
  have hlt : x.toNatClampNeg < n := Nat.not_le.mp fun q => hin (Or.inr q)
  subst hi; subst hv
  exact W.aald (v := va_rf (zQ σ a x.toNatClampNeg)) (ty := .object Cn) C.1 C.2.1 (P.2.2.2.1 a j n ht hj).2 ((K.1.2 (j + 1) _ hty).1 n (fun i => va_rf (zQ σ a i))) rfl (fun q => by cases q) (by show ¬ (x < 0 ∨ (arrV _ _ _).slots.size ≤ _); rw [arrV_size]; exact hin) (by show (arrV _ _ _).slots[_]? = _; rw [arrV_read _ _ hlt]) rfl rfl hd (kk p e R s m args below meth c H locs cells slots k n' ls C K S P L r1 r2 r3 r4 r5 r6)
theorem zp_aastore {l G d mc ms M pc lv st σ Q} {a j n i c0 v nv : Nat} {x : Int32} {r0 : vw_C} (hd : decode M.2.1 pc = .ok (.aastore, 1)) (ht : zT σ a = (21 + j, n)) (hj : j < 3) (hr : zcl[c0]? = some r0) (hty : (ztys G)[j + 1]? = some (G.2.2.2.2 (j + 1), .object r0.1)) (hv : zT σ v = (c0 + 1, nv)) (hi : x.toNatClampNeg = i) (hin : vp_in x n) (kk : Wp l G d mc ms M (pc + 1) lv st (wQ σ a i (some v)) Q) : Wp l G d mc ms M pc lv (.ref v :: .int x :: .ref a :: st) σ Q := by
  intro p e R s m args below meth c H locs cells slots k n' ls C K S P L r1 r2 r3 r4 r5 r6
  subst hi
  have hlt : x.toNatClampNeg < n := Nat.not_le.mp fun q => hin (Or.inr q)
  have h0 : ¬ x < 0 := fun q => hin (Or.inl q)
  have hc10 : c0 < 10 := (List.getElem?_eq_some_iff.mp hr).1
  obtain ⟨hbase, hcell⟩ := P.2.2.2.1 a j n ht hj
  obtain ⟨-, r1', hr1, -, ⟨cellV, g1, g2, g3, -⟩, -⟩ := P.2.1 v c0 _ hv hc10
  have hcls := (K.1.1 c0 r0 hr).2
  obtain ⟨kA, comp, k1, k2, k3, -⟩ := (K.1.2 (j + 1) _ hty).2
  have hcomp : comp = G.1.1 c0 := Option.some.inj (k3.symm.trans hcls.1)
  subst hcomp
  obtain ⟨kC, hkC, -⟩ := hcls.2
  refine W.aast C.1 C.2.1 hcell (fun q h => by cases h) (fun h => by cases h) k1 k2 rfl hkC ⟨h0, by show _ < (arrV _ _ _).slots.size; rw [arrV_size]; exact hlt⟩ g1 (fun q h => by rw [g3] at h; cases h) (by rw [g2]; exact hkC) (by rw [g2]; exact va_assign hcls) rfl rfl hd fun H1 e1 z oq => ?_
  refine kk p e R s m args below meth c H1 _ cells slots k n' ls C K (S.put z oq hbase) (P.change (fun _ => rfl) (by rw [ht]; show 21 + j ≠ 0; omega) hbase (fun _ _ _ => rfl) (fun _ _ _ => rfl) (fun _ _ => rfl) (fun b hb => by funext i; rw [zQ_wQ, if_neg (fun q => hb q.1)]) z oq (fun c2 n2 e2 hc => ?_) (fun n2 e2 => ?_) (fun j2 n2 e2 hj2 => ?_)) L r1 r2 r3 r4 r5 r6
  · rw [ht] at e2; have e' : 21 + j = c2 + 1 := congrArg Prod.fst e2; omega
  · rw [ht] at e2; have e' : 21 + j = 20 := congrArg Prod.fst e2; omega
  · rw [ht] at e2
    have e' : 21 + j = 21 + j2 := congrArg Prod.fst e2
    have e'' : n = n2 := congrArg Prod.snd e2
    have e' : j = j2 := by omega
    subst e'; subst e''
    rw [e1, arrV_store]
    congr 2
    funext q
    by_cases hq : q = x.toNatClampNeg
    · subst hq
      simp [updV, zQ_wQ, va_rf]
    · simp [updV, zQ_wQ, hq]
/-- java.lang.Object's constructor -/
theorem zp_objInit {l G d mc ms M pc lv st σ Q} {a index : Nat} (hd : decode M.2.1 pc = .ok (.invokespecial index, 3)) (hl : Cond.methodLink M.1 index objectInit ∈ gwl) (hi : Cond.instanceMethod objectInit ∈ gwl) (hc : Cond.code objectInit ⟨#[0xb1]⟩ 1 none ∈ gwl) (h1 : 1 ≤ d) (hst : (st.map fun v => v.category).sum ≤ 8) (kk : Wp l G d mc ms M (pc + 3) lv st σ Q) : Wp l G d mc ms M pc lv (.ref a :: st) σ Q := by
  intro p e R s m args below meth c H locs cells slots k n ls C K S P L r1 r2 r3 r4 r5 r6
  refine W.objInit C.1 C.2.1 C.2.2.2.1 (C.2.2.2.2.1 _ hl) (C.2.2.2.2.1 _ hi) (C.2.2.2.2.1 _ hc) rfl (by rw [C.2.2.1]; exact L.1) rfl hd (by omega) (by show 2 * 0 + (st.map fun v => v.category).sum + 12 ≤ _; omega) ?_
  exact (kk p e R s m args below meth c H locs cells slots k n ls C K S P L r1 r2 r3 r4 r5 r6)
theorem zp_max {l G d mc ms M pc lv st σ Q} {x y v : Int32} {index : Nat} (hd : decode M.2.1 pc = .ok (.invokestatic index, 3)) (hl : Cond.methodLink M.1 index Lib.Math.max.name ∈ gwl) (hs : Cond.static Lib.Math.max.name ∈ gwl) (hi : Cond.initialized "java/lang/Math" ∈ gwl) (hc : Cond.code Lib.Math.max.name Lib.Math.max.code 2 (some .int) ∈ gwl) (h1 : 1 ≤ d) (hst : (st.map fun v => v.category).sum ≤ 8) (hv : (if x < y then y else x) = v) (kk : Wp l G d mc ms M (pc + 3) lv (.int v :: st) σ Q) : Wp l G d mc ms M pc lv (.int y :: .int x :: st) σ Q := by
  intro p e R s m args below meth c H locs cells slots k n ls C K S P L r1 r2 r3 r4 r5 r6
  subst hv
  exact va_mmax C.1 C.2.1 (by rw [C.2.2.1]; exact L.1.symm) C.2.2.2.1 (C.2.2.2.2.1 _ hl) (C.2.2.2.2.1 _ hs) (C.2.2.2.2.1 _ hi) (C.2.2.2.2.1 _ hc) (by omega) (by omega) (by omega) (by omega) hd (kk p e R s m args below meth c H locs cells slots k n ls C K S P L r1 r2 r3 r4 r5 r6)
theorem zp_min {l G d mc ms M pc lv st σ Q} {x y v : Int32} {index : Nat} (hd : decode M.2.1 pc = .ok (.invokestatic index, 3)) (hl : Cond.methodLink M.1 index Lib.Math.min.name ∈ gwl) (hs : Cond.static Lib.Math.min.name ∈ gwl) (hi : Cond.initialized "java/lang/Math" ∈ gwl) (hc : Cond.code Lib.Math.min.name Lib.Math.min.code 2 (some .int) ∈ gwl) (h1 : 1 ≤ d) (hst : (st.map fun v => v.category).sum ≤ 8) (hv : (if y < x then y else x) = v) (kk : Wp l G d mc ms M (pc + 3) lv (.int v :: st) σ Q) : Wp l G d mc ms M pc lv (.int y :: .int x :: st) σ Q := by
  intro p e R s m args below meth c H locs cells slots k n ls C K S P L r1 r2 r3 r4 r5 r6
  subst hv
  exact va_mmin C.1 C.2.1 (by rw [C.2.2.1]; exact L.1.symm) C.2.2.2.1 (C.2.2.2.2.1 _ hl) (C.2.2.2.2.1 _ hs) (C.2.2.2.2.1 _ hi) (C.2.2.2.2.1 _ hc) (by omega) (by omega) (by omega) (by omega) hd (kk p e R s m args below meth c H locs cells slots k n ls C K S P L r1 r2 r3 r4 r5 r6)

theorem zp_vret {l G d mc ms M pc lv σ Q} (hr : M.2.2.2.1 = none) (hd : decode M.2.1 pc = .ok (.return_, 1)) (hQ : Q none σ) : Wp l G d mc ms M pc lv [] σ Q := by
  intro p e R s m args below meth c H locs cells slots k n ls C K S P L r1 r2 r3 r4 r5 r6
  refine W.widen (k := k) (n := n) (by omega) (by omega) ?_
  exact W.vret C.1 C.2.1 (C.2.2.2.2.2.1.trans hr) (fun t ht hW => ⟨⟨_, σ, rfl, hQ, by rw [ht]; exact zP.moved hW.alike P⟩, S.F ht⟩) S.2.2 hd C.2.2.2.2.2.2.1
theorem zp_iret {l G d mc ms M pc lv σ Q} {v : Int32} (hr : M.2.2.2.1 = some .int) (hd : decode M.2.1 pc = .ok (.ireturn, 1)) (hQ : Q (some (.int v)) σ) : Wp l G d mc ms M pc lv [.int v] σ Q := by
  intro p e R s m args below meth c H locs cells slots k n ls C K S P L r1 r2 r3 r4 r5 r6
  refine W.widen (k := k) (n := n) (by omega) (by omega) ?_
  exact W.iret C.1 C.2.1 (C.2.2.2.2.2.1.trans hr) (fun t ht hW => ⟨⟨_, σ, rfl, hQ, by rw [ht]; exact zP.moved hW.alike P⟩, S.F ht⟩) S.2.2 hd C.2.2.2.2.2.2.1
theorem zp_lret {l G d mc ms M pc lv σ Q} {v : Int64} (hr : M.2.2.2.1 = some .long) (hd : decode M.2.1 pc = .ok (.lreturn, 1)) (hQ : Q (some (.long v)) σ) : Wp l G d mc ms M pc lv [.long v] σ Q := by
  intro p e R s m args below meth c H locs cells slots k n ls C K S P L r1 r2 r3 r4 r5 r6
  refine W.widen (k := k) (n := n) (by omega) (by omega) ?_
  exact W.lret C.1 C.2.1 (C.2.2.2.2.2.1.trans hr) (fun t ht hW => ⟨⟨_, σ, rfl, hQ, by rw [ht]; exact zP.moved hW.alike P⟩, S.F ht⟩) S.2.2 hd C.2.2.2.2.2.2.1
theorem zp_zret {l G d mc ms M pc lv σ Q} {v : Int32} (hr : M.2.2.2.1 = some .boolean) (hv : v = 0 ∨ v = 1) (hd : decode M.2.1 pc = .ok (.ireturn, 1)) (hQ : Q (some (.int v)) σ) : Wp l G d mc ms M pc lv [.int v] σ Q := by
  intro p e R s m args below meth c H locs cells slots k n ls C K S P L r1 r2 r3 r4 r5 r6
  refine W.widen (k := k) (n := n) (by omega) (by omega) ?_
  exact W.zret C.1 C.2.1 (C.2.2.2.2.2.1.trans hr) (zfit_bool hv).1 (fun t ht hW => ⟨⟨_, σ, rfl, hQ, by rw [ht]; exact zP.moved hW.alike P⟩, S.F ht⟩) S.2.2 hd C.2.2.2.2.2.2.1
theorem zp_aret {l G d mc ms M pc lv σ Q} {v : Value} {C0 : String} {r : Option Nat} (hr : M.2.2.2.1 = some (.object C0)) (hv : v = va_rf r) (hd : decode M.2.1 pc = .ok (.areturn, 1)) (hQ : Q (some v) σ) : Wp l G d mc ms M pc lv [v] σ Q := by
  intro p e R s m args below meth c H locs cells slots k n ls C K S P L r1 r2 r3 r4 r5 r6
  refine W.widen (k := k) (n := n) (by omega) (by omega) ?_
  exact W.aret C.1 C.2.1 (C.2.2.2.2.2.1.trans hr) (Or.inl ⟨_, rfl⟩) (by subst hv; exact va_rf_or r) (fun t ht hW => ⟨⟨_, σ, rfl, hQ, by rw [ht]; exact zP.moved hW.alike P⟩, S.F ht⟩) S.2.2 hd C.2.2.2.2.2.2.1
theorem zgood {w : Cond} (h : w ∈ gwl) : (w.onTables && w.keeps) = true ∨ ∃ ty, w = .arrayClass ty := good_of_word (List.mem_filter.mp h).2
theorem zgoodIn {y : MethodName} {M : Mth} (hw : Cond.code y M.2.1 M.2.2.1 M.2.2.2.1 ∈ gwl) : GoodIn gwl (.code y M.2.1 M.2.2.1 M.2.2.2.1 :: gwl) := fun w h => by
  rcases List.mem_cons.mp h with rfl | h
  · exact ⟨hw, zgood hw⟩
  · exact ⟨h, zgood h⟩
theorem zblind {G : Gb} {av : List Value} {σ : Sto} : FrameBlind (va_Pc av (fun U => zK G U U.heap ∧ zP G σ U U.heap)) := fun a U g mk q => by
  obtain ⟨q0, q1, q2⟩ := q
  exact ⟨q0, zK.same (u := U) (U := U.calling g mk a) rfl q1, zP.moved (u := U) (U := U.calling g mk a) (Vm.Alike.refl U.vm) q2⟩
theorem zpre {G : Gb} {av : List Value} {σ : Sto} {s : State} {H : Heap} {locs : List Loc} (K : zK G s s.heap) (S : va_S (gP G) s.heap H locs) (P : zP G σ s H) : ∀ U : State, U.heap = H → s.WarmedH U.vm → va_Pc av (fun U => zK G U U.heap ∧ zP G σ U U.heap) av.toArray U := fun U hU hW => by
  refine ⟨rfl, ?_, ?_⟩
  · rw [hU]; exact zK.warm hW (zK.kept K S.1 S.2.1)
  · rw [hU]; exact zP.moved hW.alike P
/-- what is pushed behind a call -/
def zpush (v : Option Value) (st : List Value) : List Value := match v with
  | none => st
  | some x => x :: st
theorem zpush_eq (v : Option Value) (st : List Value) : v.toList ++ st = zpush v st := by cases v <;> rfl
theorem zcall0 {l : Launch} {G : Gb} {p : Program} {e : Env} {R : Room} {s : State} {m : MethodId} {args a : Array Value} {below : List Frame} {meth : Method} {c : Code} {H : Heap} {locs : List Loc} {cells slots mc ms pc : Nat} {ls : Array Slot} {st0 rest : List Value} {Q' : Option Value → Sto → Prop} {Q : State → Prop}
    (hr : va_Run p l e R s m args below meth c H locs cells slots mc ms (F0 m pc ls st0) rest (zQC G Q' a) (gP G)) (S : va_S (gP G) s.heap H locs)
    (kk : ∀ v σ' H1 locs1, Q' v σ' → zP G σ' s H1 → va_S (gP G) s.heap H1 locs1 → W p l e R s m args below meth c H1 locs1 (cells + mc) (slots + ms) Q (F0 m (pc + 3) ls (zpush v rest))) : W p l e R s m args below meth c H locs cells slots Q (F0 m pc ls st0) := by
  intro T hT X
  obtain ⟨v, st₀, t, T', L, h0, X', hL, e1, e2, ⟨⟨v', σ', hv, hp, hb⟩, hz, hk⟩, stp⟩ := hr T hT X
  cases hv
  rw [h0] at hz hk
  have hal : s.vm.Alike t.vm := by rw [← e2]; exact X'.warmed.alike
  obtain ⟨t2, a1, b1⟩ := kk v σ' T'.heap (locs ++ L) hp (by rw [e1]; exact zP.moved hal.symm hb)
    ⟨Nat.le_trans S.1 (by rw [e1]; exact hz), fun q h1 h2 => by rw [e1, hk q (Nat.lt_of_lt_of_le h1 S.1) h2]; exact S.2.1 q h1 h2, fun q hq => by
      rcases List.mem_append.mp hq with h | h
      · exact S.2.2 q h
      · exact hL q h⟩ T' rfl X'
  rw [← zpush_eq] at a1
  exact ⟨t2, stp t2 a1, b1⟩
/-- what a call asks of the callee -/
def zCl0 (own : String) (index : Nat) (y : MethodName) (M' : Mth) (n : Nat) (nest : Bool) : Prop :=
  Cond.code y M'.2.1 M'.2.2.1 M'.2.2.2.1 ∈ gwl ∧ Cond.initialized y.cls ∈ gwl ∧ M'.2.2.1 ≤ 21 ∧ (y.cls ≠ "java/lang/invoke/MethodHandle" ∧ y.cls ≠ "java/lang/invoke/VarHandle" ∧ (parseMethodDescriptor y.desc).map (fun d => d.parameters.length) = some n) ∧
    ((nest = false ∧ Cond.methodLink own index y ∈ gwl) ∨ (nest = true ∧ Cond.methodLinkNest own index y "FlowBoxes" ∈ gnl))
theorem zCl0.B {own : String} {index n : Nat} {y : MethodName} {M' : Mth} {R : Room} {s : State} {args : Array Value} {d d' mc ms : Nat} (h : zCl0 own index y M' n false) (ht : ∀ w ∈ gwl, w.before args s = true) (hd : d' + 1 ≤ d) (r1 : d ≤ R.frames) (r2 : 40 * d ≤ R.locals) :
    CallB R s args own index y M'.2.1 M'.2.2.1 M'.2.2.2.1 (.code y M'.2.1 M'.2.2.1 M'.2.2.2.1 :: gwl) { frames := d', cells := mc, slots := ms, locals := 40 * d' } mc ms n := by
  obtain ⟨h1, h2, h3, h4, h5⟩ := h
  rcases h5 with ⟨-, h5⟩ | ⟨h5, -⟩
  · exact callB_of n ht (zgoodIn h1) rfl rfl rfl (ht _ h2) (ht _ h5) h4 ⟨by show d' + 1 ≤ _; omega, by show 8 + (_ + 11) + 40 * d' ≤ _; omega⟩
  · cases h5
theorem zCl0.N {G : Gb} {own : String} {index n : Nat} {y : MethodName} {M' : Mth} {R : Room} {s : State} {args : Array Value} {d d' mc ms : Nat} (h : zCl0 own index y M' n true) (ht : ∀ w ∈ gwl, w.before args s = true) (K : zK G s s.heap) (hd : d' + 1 ≤ d) (r1 : d ≤ R.frames) (r2 : 40 * d ≤ R.locals) :
    va_CN R s args own index y "FlowBoxes" M'.2.1 M'.2.2.1 M'.2.2.2.1 (.code y M'.2.1 M'.2.2.1 M'.2.2.2.1 :: gwl) { frames := d', cells := mc, slots := ms, locals := 40 * d' } mc ms n := by
  obtain ⟨h1, h2, h3, h4, h5⟩ := h
  rcases h5 with ⟨h5, -⟩ | ⟨-, h5⟩
  · cases h5
  · exact va_cnB n ht (zgoodIn h1) rfl rfl rfl (K.2.1 _ h5) (ht _ h2) h4 ⟨by show d' + 1 ≤ _; omega, by show 8 + (_ + 11) + 40 * d' ≤ _; omega⟩
theorem zp_callS {l G d mc ms M pc lv st st0 σ Q} {index n : Nat} {y : MethodName} {M' : Mth} {av : List Value} {d' mc' ms' mc2 ms2 : Nat} {Q' : Option Value → Sto → Prop} {nest : Bool} (hd : decode M.2.1 pc = .ok (.invokestatic index, 3)) (hct : Ct l G d' mc' ms' y M' av σ Q') (hc : zCl0 M.1 index y M' n nest) (hs : Cond.static y ∈ gwl) (hn : av.length = n) (hst : st0 = av.reverse ++ st) (hd' : d' + 1 ≤ d) (h1 : mc' + mc2 ≤ mc) (h2 : ms' + ms2 ≤ ms) (hsm : (st.map fun v => v.category).sum ≤ 8)
    (kk : ∀ v σ', Q' v σ' → Wp l G d mc2 ms2 M (pc + 3) lv (zpush v st) σ' Q) : Wp l G d mc ms M pc lv st0 σ Q := by
  intro p e R s m args below meth c H locs cells slots k n' ls C K S P L r1 r2 r3 r4 r5 r6
  cases nest with
  | false => exact zcall0 (va_runS ⟨C.1, C.2.1, C.2.2.1, C.2.2.2.1, C.2.2.2.2.1⟩ hct ⟨hc.B C.2.2.2.2.1 hd' r1 r2, C.2.2.2.2.1 _ hs⟩ ⟨zblind, zpre K S P⟩ rfl hn L.1 hst (by show 2 * 0 + _ ≤ 8; omega) hd ⟨by omega, by omega⟩) S (fun v σ' H1 locs1 hq P1 S1 => kk v σ' hq p e R s m args below meth c H1 locs1 (cells + mc') (slots + ms') k n' ls C K S1 P1 L r1 r2 (by omega) (by omega) r5 r6)
  | true => exact zcall0 (va_runSN ⟨C.1, C.2.1, C.2.2.1, C.2.2.2.1, C.2.2.2.2.1⟩ hct ⟨hc.N C.2.2.2.2.1 K hd' r1 r2, C.2.2.2.2.1 _ hs, trivial⟩ ⟨zblind, zpre K S P⟩ rfl hn L.1 hst (by show 2 * 0 + _ ≤ 8; omega) hd ⟨by omega, by omega⟩) S (fun v σ' H1 locs1 hq P1 S1 => kk v σ' hq p e R s m args below meth c H1 locs1 (cells + mc') (slots + ms') k n' ls C K S1 P1 L r1 r2 (by omega) (by omega) r5 r6)
theorem zrecv {G : Gb} {σ : Sto} {s : State} {H : Heap} {b c0 nb : Nat} {r0 : vw_C} (K : zK G s s.heap) (P : zP G σ s H) (hr : zcl[c0]? = some r0) (ht : zT σ b = (c0 + 1, nb)) : ∃ cellB : Cell, H[b]? = some cellB ∧ cellB.vm.isStatics = false ∧ s.vm.findClass r0.1 = some cellB.cls := by
  obtain ⟨-, r1', hr1, -, ⟨cell, g1, g2, g3, -⟩, -⟩ := P.2.1 b c0 _ ht ((List.getElem?_eq_some_iff.mp hr).1)
  exact ⟨cell, g1, by rw [g3]; rfl, by rw [g2]; exact (K.1.1 c0 r0 hr).2.1⟩
theorem zp_callVr {l G d mc ms M pc lv st st0 σ Q} {index n : Nat} {y : MethodName} {M' : Mth} {av : List Value} {d' mc' ms' mc2 ms2 : Nat} {Q' : Option Value → Sto → Prop} {nest : Bool} {b : Nat} (hrec : ∀ s H, zK G s s.heap → zP G σ s H → (∀ locs, va_S (gP G) s.heap H locs → ∃ cellB : Cell, H[b]? = some cellB ∧ cellB.vm.isStatics = false ∧ s.vm.findClass y.cls = some cellB.cls)) (hd : decode M.2.1 pc = .ok (.invokevirtual index, 3)) (hct : Ct l G d' mc' ms' y M' (.ref b :: av) σ Q') (hc : zCl0 M.1 index y M' n nest) (hi : Cond.instanceMethod y ∈ gwl) (hse : Cond.selects y.cls y y ∈ gwl) (hn : av.length = n) (hst : st0 = av.reverse ++ .ref b :: st) (hd' : d' + 1 ≤ d) (h1 : mc' + mc2 ≤ mc) (h2 : ms' + ms2 ≤ ms) (hsm : (st.map fun v => v.category).sum ≤ 8)
    (kk : ∀ v σ', Q' v σ' → Wp l G d mc2 ms2 M (pc + 3) lv (zpush v st) σ' Q) : Wp l G d mc ms M pc lv st0 σ Q := by
  intro p e R s m args below meth c H locs cells slots k n' ls C K S P L r1 r2 r3 r4 r5 r6
  cases nest with
  | false => exact zcall0 (va_runV (C := y.cls) ⟨C.1, C.2.1, C.2.2.1, C.2.2.2.1, C.2.2.2.2.1⟩ hct ⟨hc.B C.2.2.2.2.1 hd' r1 r2, C.2.2.2.2.1 _ hi, C.2.2.2.2.1 _ hse⟩ ⟨zblind, hrec s H K P _ S, zpre K S P⟩ rfl hn L.1 hst (by show 2 * 0 + _ ≤ 8; omega) hd ⟨by omega, by omega⟩) S (fun v σ' H1 locs1 hq P1 S1 => kk v σ' hq p e R s m args below meth c H1 locs1 (cells + mc') (slots + ms') k n' ls C K S1 P1 L r1 r2 (by omega) (by omega) r5 r6)
  | true => exact zcall0 (va_runVN (C := y.cls) ⟨C.1, C.2.1, C.2.2.1, C.2.2.2.1, C.2.2.2.2.1⟩ hct ⟨hc.N C.2.2.2.2.1 K hd' r1 r2, C.2.2.2.2.1 _ hi, C.2.2.2.2.1 _ hse⟩ ⟨zblind, hrec s H K P _ S, zpre K S P⟩ rfl hn L.1 hst (by show 2 * 0 + _ ≤ 8; omega) hd ⟨by omega, by omega⟩) S (fun v σ' H1 locs1 hq P1 S1 => kk v σ' hq p e R s m args below meth c H1 locs1 (cells + mc') (slots + ms') k n' ls C K S1 P1 L r1 r2 (by omega) (by omega) r5 r6)
theorem zp_callV {l G d mc ms M pc lv st st0 σ Q} {index n : Nat} {y : MethodName} {M' : Mth} {av : List Value} {d' mc' ms' mc2 ms2 : Nat} {Q' : Option Value → Sto → Prop} {nest : Bool} {b c0 nb : Nat} {r0 : vw_C} (hd : decode M.2.1 pc = .ok (.invokevirtual index, 3)) (hct : Ct l G d' mc' ms' y M' (.ref b :: av) σ Q') (hc : zCl0 M.1 index y M' n nest) (hi : Cond.instanceMethod y ∈ gwl) (hse : Cond.selects y.cls y y ∈ gwl) (hr : zcl[c0]? = some r0) (hrc : r0.1 = y.cls) (ht : zT σ b = (c0 + 1, nb)) (hn : av.length = n) (hst : st0 = av.reverse ++ .ref b :: st) (hd' : d' + 1 ≤ d) (h1 : mc' + mc2 ≤ mc) (h2 : ms' + ms2 ≤ ms) (hsm : (st.map fun v => v.category).sum ≤ 8)
    (kk : ∀ v σ', Q' v σ' → Wp l G d mc2 ms2 M (pc + 3) lv (zpush v st) σ' Q) : Wp l G d mc ms M pc lv st0 σ Q :=
  zp_callVr (fun s H K P locs _ => by rw [← hrc]; exact zrecv K P hr ht) hd hct hc hi hse hn hst hd' h1 h2 hsm kk
/-- .. on a constant of Kind -/
theorem zp_callK {l G d mc ms M pc lv st st0 σ Q} {index n : Nat} {y : MethodName} {M' : Mth} {av : List Value} {d' mc' ms' mc2 ms2 : Nat} {Q' : Option Value → Sto → Prop} {nest : Bool} {i : Nat} (hi9 : i < 9) (hyc : y.cls = RX3) (hd : decode M.2.1 pc = .ok (.invokevirtual index, 3)) (hct : Ct l G d' mc' ms' y M' (.ref (G.2.2.1 i) :: av) σ Q') (hc : zCl0 M.1 index y M' n nest) (hi : Cond.instanceMethod y ∈ gwl) (hse : Cond.selects y.cls y y ∈ gwl) (hn : av.length = n) (hst : st0 = av.reverse ++ .ref (G.2.2.1 i) :: st) (hd' : d' + 1 ≤ d) (h1 : mc' + mc2 ≤ mc) (h2 : ms' + ms2 ≤ ms) (hsm : (st.map fun v => v.category).sum ≤ 8)
    (kk : ∀ v σ', Q' v σ' → Wp l G d mc2 ms2 M (pc + 3) lv (zpush v st) σ' Q) : Wp l G d mc ms M pc lv st0 σ Q :=
  zp_callVr (fun s H K P locs S => by rw [hyc]; exact va_recvE K.2.2.2.1 hi9 S) hd hct hc hi hse hn hst hd' h1 h2 hsm kk
theorem zp_callI {l G d mc ms M pc lv st st0 σ Q} {index n : Nat} {y : MethodName} {M' : Mth} {av : List Value} {d' mc' ms' mc2 ms2 : Nat} {Q' : Option Value → Sto → Prop} {nest : Bool} {b : Nat} (hd : decode M.2.1 pc = .ok (.invokespecial index, 3)) (hct : Ct l G d' mc' ms' y M' (.ref b :: av) σ Q') (hc : zCl0 M.1 index y M' n nest) (hret : M'.2.2.2.1 = none) (hi : Cond.instanceMethod y ∈ gwl) (hyn : y.name = "<init>") (hn : av.length = n) (hst : st0 = av.reverse ++ .ref b :: st) (hd' : d' + 1 ≤ d) (h1 : mc' + mc2 ≤ mc) (h2 : ms' + ms2 ≤ ms) (hsm : (st.map fun v => v.category).sum ≤ 8)
    (kk : ∀ v σ', Q' v σ' → Wp l G d mc2 ms2 M (pc + 3) lv (zpush v st) σ' Q) : Wp l G d mc ms M pc lv st0 σ Q := by
  intro p e R s m args below meth c H locs cells slots k n' ls C K S P L r1 r2 r3 r4 r5 r6
  obtain ⟨nm', b', L', ret', isI'⟩ := M'
  cases hret
  cases nest with
  | false => exact zcall0 (va_runI ⟨C.1, C.2.1, C.2.2.1, C.2.2.2.1, C.2.2.2.2.1⟩ hct ⟨hc.B C.2.2.2.2.1 hd' r1 r2, hyn, C.2.2.2.2.1 _ hi⟩ ⟨zblind, zpre K S P⟩ rfl hn L.1 hst (by show 2 * 0 + _ ≤ 8; omega) hd ⟨by omega, by omega⟩) S (fun v σ' H1 locs1 hq P1 S1 => kk v σ' hq p e R s m args below meth c H1 locs1 (cells + mc') (slots + ms') k n' ls C K S1 P1 L r1 r2 (by omega) (by omega) r5 r6)
  | true => exact zcall0 (va_runIN ⟨C.1, C.2.1, C.2.2.1, C.2.2.2.1, C.2.2.2.2.1⟩ hct ⟨hc.N C.2.2.2.2.1 K hd' r1 r2, hyn, C.2.2.2.2.1 _ hi⟩ ⟨zblind, zpre K S P⟩ rfl hn L.1 hst (by show 2 * 0 + _ ≤ 8; omega) hd ⟨by omega, by omega⟩) S (fun v σ' H1 locs1 hq P1 S1 => kk v σ' hq p e R s m args below meth c H1 locs1 (cells + mc') (slots + ms') k n' ls C K S1 P1 L r1 r2 (by omega) (by omega) r5 r6)
/-- Enum.ordinal on a constant of Kind -/
theorem zp_callO {l G d mc ms M pc lv st st0 σ Q} {index n : Nat} {y : MethodName} {M' : Mth} {av : List Value} {d' mc' ms' mc2 ms2 : Nat} {Q' : Option Value → Sto → Prop} {nest : Bool} {i : Nat} (hi9 : i < 9) (hd : decode M.2.1 pc = .ok (.invokevirtual index, 3)) (hct : Ct l G d' mc' ms' y M' [.ref (G.2.2.1 i)] σ Q') (hyy : y = ⟨"java/lang/Enum", "ordinal", "()I"⟩) (hml : M'.2.2.1 ≤ 21)
    (hw1 : Cond.methodLink M.1 index ⟨RX3, "ordinal", "()I"⟩ ∈ gwl) (hw2 : Cond.sameMethod RX3 "java/lang/Enum" "ordinal" "()I" ∈ gwl) (hw3 : Cond.selects RX3 ⟨RX3, "ordinal", "()I"⟩ y ∈ gwl) (hw4 : Cond.instanceMethod y ∈ gwl) (hw5 : Cond.initialized y.cls ∈ gwl) (hw6 : Cond.code y M'.2.1 M'.2.2.1 M'.2.2.2.1 ∈ gwl) (hst : st0 = .ref (G.2.2.1 i) :: st) (hd' : d' + 1 ≤ d) (h1 : mc' + mc2 ≤ mc) (h2 : ms' + ms2 ≤ ms) (hsm : (st.map fun v => v.category).sum ≤ 8)
    (kk : ∀ v σ', Q' v σ' → Wp l G d mc2 ms2 M (pc + 3) lv (zpush v st) σ' Q) : Wp l G d mc ms M pc lv st0 σ Q := by
  intro p e R s m args below meth c H locs cells slots k n' ls C K S P L r1 r2 r3 r4 r5 r6
  refine zcall0 (va_runU (C := RX3) (owner := "java/lang/Enum") (x := ⟨RX3, "ordinal", "()I"⟩) (As := []) ⟨C.1, C.2.1, C.2.2.1, C.2.2.2.1, C.2.2.2.2.1⟩ hct (va_cwU (Ts := gwl) 0 C.2.2.2.2.1 (fun w hw => ?_) rfl rfl rfl hyy ⟨by decide, by decide, by decide +kernel⟩ ⟨by show d' + 1 ≤ _; omega, by show 8 + (_ + 11) + 40 * d' ≤ _; omega⟩) ⟨zblind, va_recvE K.2.2.2.1 hi9 S, zpre K S P⟩ rfl rfl L.1 hst (by show 2 * 0 + _ ≤ 8; omega) hd ⟨by omega, by omega⟩) S (fun v σ' H1 locs1 hq P1 S1 => kk v σ' hq p e R s m args below meth c H1 locs1 (cells + mc') (slots + ms') k n' ls C K S1 P1 L r1 r2 (by omega) (by omega) r5 r6)
  unfold va_wsU at hw
  rcases List.mem_append.mp hw with h | h
  · simp only [List.mem_cons, List.not_mem_nil, or_false] at h
    rcases h with rfl | rfl | rfl | rfl | rfl
    · exact ⟨hw1, zgood hw1⟩
    · exact ⟨hw2, zgood hw2⟩
    · exact ⟨hw3, zgood hw3⟩
    · exact ⟨hw4, zgood hw4⟩
    · exact ⟨hw5, zgood hw5⟩
  · exact zgoodIn hw6 w h
theorem Wp.widen {l G d mc ms M pc lv st σ Q} {d2 mc2 ms2 : Nat} (hd : d2 ≤ d) (h1 : mc2 ≤ mc) (h2 : ms2 ≤ ms) (h : Wp l G d2 mc2 ms2 M pc lv st σ Q) : Wp l G d mc ms M pc lv st σ Q := h.mono hd h1 h2 (fun _ _ q => q)
theorem zp_lv {l G d mc ms M pc lv st σ Q} {lv2 : List (Nat × Value)} (ks : List Nat) (hl : lv_pick lv ks = lv2) (kk : Wp l G d mc ms M pc lv2 st σ Q) : Wp l G d mc ms M pc lv st σ Q := by
  intro p e R s m args below meth c H locs cells slots k n ls C K S P L r1 r2 r3 r4 r5 r6
  exact kk p e R s m args below meth c H locs cells slots k n ls C K S P (lv_sub L ks hl) r1 r2 r3 r4 r5 r6
theorem zp_topi {l G d mc ms M pc lv st σ Q} {e : Int32} (kk : ∀ x, x = e → Wp l G d mc ms M pc lv (.int x :: st) σ Q) : Wp l G d mc ms M pc lv (.int e :: st) σ Q := kk e rfl
theorem Ct.mono {l G d mc ms} {y : MethodName} {M : Mth} {av : List Value} {σ} {Q Q2 : Option Value → Sto → Prop} (h : ∀ Q', (∀ v s, Q v s → Q' v s) → Ct l G d mc ms y M av σ Q') (hQ : ∀ v s, Q v s → Q2 v s) : Ct l G d mc ms y M av σ Q2 := h Q2 hQ

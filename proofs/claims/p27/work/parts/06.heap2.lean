/-! ROWS, second part: putfield by kind, arrays, new objects -/
theorem zfv_wI {t : Option FieldType} {σ : Sto} {f a : Nat} {x : Int32} (g : Nat) (w : Value) (hg : g ≠ f) (h : zfv t σ g a w) : zfv t (wI σ f a x) g a w := zfv_same (σ := σ) (by rw [zI_wI, if_neg (fun q => hg q.1)]) rfl h
theorem zfv_wR {t : Option FieldType} {σ : Sto} {f a : Nat} {x : Option Nat} (g : Nat) (w : Value) (hg : g ≠ f) (h : zfv t σ g a w) : zfv t (wR σ f a x) g a w := zfv_same (σ := σ) rfl (by rw [zR_wR, if_neg (fun q => hg q.1)]) h
theorem zN_I {ty : FieldType} {σ : Sto} {f a : Nat} {x : Int32} (hl : zLb ty = false) (hf : zref f = false) : zfv (some ty) (wI σ f a x) f a (.int x) := (zfv_n hl).mpr (by rw [hf]; show Value.int _ = Value.int _; rw [zI_wI, if_pos ⟨rfl, rfl⟩])
theorem zN_R {ty : FieldType} {σ : Sto} {f a : Nat} {x : Option Nat} (hl : zLb ty = false) (hf : zref f = true) : zfv (some ty) (wR σ f a x) f a (va_rf x) := (zfv_n hl).mpr (by rw [hf]; show va_rf _ = va_rf _; rw [zR_wR, if_pos ⟨rfl, rfl⟩])
theorem zN_J {σ : Sto} {f a : Nat} {x : Int32} {L : Int64} (h : L.toInt32 = x) : zfv (some .long) (wI σ f a x) f a (.long L) := ⟨L, rfl, by rw [zI_wI, if_pos ⟨rfl, rfl⟩]; exact h⟩
theorem zFL.ref {own i kd f ty fin b x} (h : zFL own i kd f ty fin b x) : zref f = b := by
  obtain ⟨c0, k0, r0, -, -, -, -, -, -, -, hb, -⟩ := h.2
  exact hb
theorem zp_putI {l G d mc ms M pc lv st σ Q} {i kd f a n : Nat} {x : Bool} {v : Int32} (hd : decode M.2.1 pc = .ok (.putfield i, 3)) (h : zFL M.1 i kd f .int false false x) (ht : zT σ a = (kd, n)) (kk : Wp l G d mc ms M (pc + 3) lv st (wI σ f a v) Q) : Wp l G d mc ms M pc lv (.int v :: .ref a :: st) σ Q :=
  zp_put0 (σ' := wI σ f a v) hd h.2 (Or.inl rfl) ht ⟨rfl, rfl⟩ (fun _ => rfl) (fun g b hb => by rw [zI_wI, if_neg (fun q => hb q.2)]) (fun _ _ _ => rfl) (fun _ => rfl) (fun _ => rfl) (fun g _ w => zfv_wI g w) (zN_I h.1 h.ref) kk
theorem zfit_bool {v : Int32} (hv : v = 0 ∨ v = 1) : zfit .boolean (.int v) := by
  rcases hv with rfl | rfl
  · exact ⟨by decide, by decide⟩
  · exact ⟨by decide, by decide⟩
theorem zp_putZ {l G d mc ms M pc lv st σ Q} {i kd f a n : Nat} {x : Bool} {v : Int32} (hd : decode M.2.1 pc = .ok (.putfield i, 3)) (h : zFL M.1 i kd f .boolean false false x) (ht : zT σ a = (kd, n)) (hv : v = 0 ∨ v = 1) (kk : Wp l G d mc ms M (pc + 3) lv st (wI σ f a v) Q) : Wp l G d mc ms M pc lv (.int v :: .ref a :: st) σ Q :=
  zp_put0 (σ' := wI σ f a v) hd h.2 (Or.inl rfl) ht (zfit_bool hv) (fun _ => rfl) (fun g b hb => by rw [zI_wI, if_neg (fun q => hb q.2)]) (fun _ _ _ => rfl) (fun _ => rfl) (fun _ => rfl) (fun g _ w => zfv_wI g w) (zN_I h.1 h.ref) kk
theorem zfit_ref {C : String} {r : Option Nat} : zfit (.object C) (va_rf r) := by cases r <;> exact ⟨rfl, rfl⟩
theorem zfit_arr {t : FieldType} {r : Option Nat} : zfit (.array t) (va_rf r) := by cases r <;> exact ⟨rfl, rfl⟩
theorem zp_putR {l G d mc ms M pc lv st σ Q} {i kd f a n : Nat} {C : String} {x : Bool} {v : Value} {r : Option Nat} (hd : decode M.2.1 pc = .ok (.putfield i, 3)) (h : zFL M.1 i kd f (.object C) false true x) (ht : zT σ a = (kd, n)) (hv : v = va_rf r) (kk : Wp l G d mc ms M (pc + 3) lv st (wR σ f a r) Q) : Wp l G d mc ms M pc lv (v :: .ref a :: st) σ Q := by
  subst hv
  exact zp_put0 (σ' := wR σ f a r) hd h.2 (Or.inl rfl) ht zfit_ref (fun _ => rfl) (fun _ _ _ => rfl) (fun g b hb => by rw [zR_wR, if_neg (fun q => hb q.2)]) (fun _ => rfl) (fun _ => rfl) (fun g _ w => zfv_wR g w) (zN_R h.1 h.ref) kk
theorem zp_putJ {l G d mc ms M pc lv st σ Q} {i kd f a n : Nat} {x : Bool} {L : Int64} {v : Int32} (hd : decode M.2.1 pc = .ok (.putfield i, 3)) (h : zF0 M.1 i kd f .long false true x) (ht : zT σ a = (kd, n)) (hv : L.toInt32 = v) (kk : Wp l G d mc ms M (pc + 3) lv st (wI σ f a v) Q) : Wp l G d mc ms M pc lv (.long L :: .ref a :: st) σ Q :=
  zp_put0 (σ' := wI σ f a v) hd h (Or.inl rfl) ht ⟨rfl, rfl⟩ (fun _ => rfl) (fun g b hb => by rw [zI_wI, if_neg (fun q => hb q.2)]) (fun _ _ _ => rfl) (fun _ => rfl) (fun _ => rfl) (fun g _ w => zfv_wI g w) (zN_J hv) kk
/-- final fields, in the class's own constructor -/
def zOwn (own : String) (f : Nat) : Prop := ∀ (c0 k0 : Nat) (r : vw_C), f = 100 * (c0 + 1) + k0 → k0 < 20 → zcl[c0]? = some r → (r.2.1 k0).1 = own
theorem zOwn_of {own : String} {f : Nat} {r0 : vw_C} (h1 : zcl[f / 100 - 1]? = some r0) (h2 : (r0.2.1 (f % 100)).1 = own) : zOwn own f := by
  intro c0 k0 r e hk hr
  have e1 : f / 100 - 1 = c0 := by omega
  have e2 : f % 100 = k0 := by omega
  rw [e1] at h1
  cases h1.symm.trans hr
  rw [e2] at h2
  exact h2
theorem zp_putIf {l G d mc ms M pc lv st σ Q} {i kd f a n : Nat} {v : Int32} (hd : decode M.2.1 pc = .ok (.putfield i, 3)) (h : zFL M.1 i kd f .int true false false) (hi : M.2.2.2.2 = true) (ho : zOwn M.1 f) (ht : zT σ a = (kd, n)) (kk : Wp l G d mc ms M (pc + 3) lv st (wI σ f a v) Q) : Wp l G d mc ms M pc lv (.int v :: .ref a :: st) σ Q :=
  zp_put0 (σ' := wI σ f a v) hd h.2 (Or.inr ⟨hi, rfl, ho⟩) ht ⟨rfl, rfl⟩ (fun _ => rfl) (fun g b hb => by rw [zI_wI, if_neg (fun q => hb q.2)]) (fun _ _ _ => rfl) (fun _ => rfl) (fun _ => rfl) (fun g _ w => zfv_wI g w) (zN_I h.1 h.ref) kk
theorem zp_putZf {l G d mc ms M pc lv st σ Q} {i kd f a n : Nat} {v : Int32} (hd : decode M.2.1 pc = .ok (.putfield i, 3)) (h : zFL M.1 i kd f .boolean true false false) (hi : M.2.2.2.2 = true) (ho : zOwn M.1 f) (ht : zT σ a = (kd, n)) (hv : v = 0 ∨ v = 1) (kk : Wp l G d mc ms M (pc + 3) lv st (wI σ f a v) Q) : Wp l G d mc ms M pc lv (.int v :: .ref a :: st) σ Q :=
  zp_put0 (σ' := wI σ f a v) hd h.2 (Or.inr ⟨hi, rfl, ho⟩) ht (zfit_bool hv) (fun _ => rfl) (fun g b hb => by rw [zI_wI, if_neg (fun q => hb q.2)]) (fun _ _ _ => rfl) (fun _ => rfl) (fun _ => rfl) (fun g _ w => zfv_wI g w) (zN_I h.1 h.ref) kk
theorem zp_putRf {l G d mc ms M pc lv st σ Q} {i kd f a n : Nat} {ty : FieldType} {v : Value} {r : Option Nat} (hd : decode M.2.1 pc = .ok (.putfield i, 3)) (h : zFL M.1 i kd f ty true true false) (hi : M.2.2.2.2 = true) (ho : zOwn M.1 f) (ht : zT σ a = (kd, n)) (hv : v = va_rf r) (hfit : zfit ty (va_rf r)) (kk : Wp l G d mc ms M (pc + 3) lv st (wR σ f a r) Q) : Wp l G d mc ms M pc lv (v :: .ref a :: st) σ Q := by
  subst hv
  exact zp_put0 (σ' := wR σ f a r) hd h.2 (Or.inr ⟨hi, rfl, ho⟩) ht hfit (fun _ => rfl) (fun _ _ _ => rfl) (fun g b hb => by rw [zR_wR, if_neg (fun q => hb q.2)]) (fun _ => rfl) (fun _ => rfl) (fun g _ w => zfv_wR g w) (zN_R h.1 h.ref) kk
/-- arrays of ints -/
theorem zp_iaload {l G d mc ms M pc lv st σ Q} {a kd n j : Nat} {x : Int32} (hd : decode M.2.1 pc = .ok (.iaload, 1)) (ht : zT σ a = (kd, n)) (hk : kd = 20 ∨ kd = 25) (hj : x.toNatClampNeg = j) (hin : vp_in x n) (kk : Wp l G d mc ms M (pc + 1) lv (.int (zA σ a j) :: st) σ Q) : Wp l G d mc ms M pc lv (.int x :: .ref a :: st) σ Q := by
  intro p e R s m args below meth c H locs cells slots k n' ls C K S P L r1 r2 r3 r4 r5 r6
  have hlt : x.toNatClampNeg < n := Nat.not_le.mp fun q => hin (Or.inr q)
  subst hj
  have kk' := kk p e R s m args below meth c H locs cells slots k n' ls C K S P L r1 r2 r3 r4 r5 r6
  rcases hk with rfl | rfl
  · exact W.iald (v := .int (zA σ a x.toNatClampNeg)) C.1 C.2.1 (P.2.2.1 a n ht).2 ((K.1.2 0 _ rfl).1 n (fun j => .int (zA σ a j))) (fun q => by cases q) (by show ¬ (x < 0 ∨ (arrV _ _ _).slots.size ≤ _); rw [arrV_size]; exact hin) (by show (arrV _ _ _).slots[_]? = _; rw [arrV_read _ _ hlt]) rfl rfl hd kk'
  · obtain ⟨-, scr, h1, h2, h3, h4, h5⟩ := P.2.2.2.2.1 a n ht
    exact W.iald (v := .int (zA σ a x.toNatClampNeg)) C.1 C.2.1 h1 h2 h3 (fun q => q.elim (fun z => hin (Or.inl z)) (fun z => by have := h4.1; omega)) (h5 _ hlt) rfl rfl hd kk'
theorem zp_iastore {l G d mc ms M pc lv st σ Q} {a n j : Nat} {x v : Int32} (hd : decode M.2.1 pc = .ok (.iastore, 1)) (ht : zT σ a = (20, n)) (hj : x.toNatClampNeg = j) (hin : vp_in x n) (kk : Wp l G d mc ms M (pc + 1) lv st (wA σ a j v) Q) : Wp l G d mc ms M pc lv (.int v :: .int x :: .ref a :: st) σ Q := by
  intro p e R s m args below meth c H locs cells slots k n' ls C K S P L r1 r2 r3 r4 r5 r6
  subst hj
  obtain ⟨hbase, hcell⟩ := P.2.2.1 a n ht
  refine W.iast C.1 C.2.1 hcell ((K.1.2 0 _ rfl).1 n (fun j => .int (zA σ a j))) (fun q => by cases q) (by show ¬ (x < 0 ∨ (arrV _ _ _).slots.size ≤ _); rw [arrV_size]; exact hin) rfl rfl hd fun H1 e1 z oq => ?_
  refine kk p e R s m args below meth c H1 _ cells slots k n' ls C K (S.put z oq hbase) (P.change (fun _ => rfl) (by rw [ht]; exact fun q => by cases q) hbase (fun _ _ _ => rfl) (fun _ _ _ => rfl) (fun b hb => by funext i; rw [zA_wA, if_neg (fun q => hb q.1)]) (fun _ _ => rfl) z oq (fun c2 n2 e2 hc => ?_) (fun n2 e2 => ?_) (fun j n2 e2 hj => ?_)) L r1 r2 r3 r4 r5 r6
  · rw [ht] at e2; have e' : 20 = c2 + 1 := congrArg Prod.fst e2; omega
  · rw [ht] at e2
    have e' : n = n2 := congrArg Prod.snd e2
    subst e'
    rw [e1, arrV_store]
    congr 2
    funext q
    by_cases hq : q = x.toNatClampNeg
    · subst hq
      simp [updV, zA_wA]
    · simp [updV, zA_wA, hq]
  · rw [ht] at e2; have e' : 20 = 21 + j := congrArg Prod.fst e2; omega
theorem zp_alen {l G d mc ms M pc lv st σ Q} {a kd n : Nat} {v : Int32} (hd : decode M.2.1 pc = .ok (.arraylength, 1)) (ht : zT σ a = (kd, n)) (hk : kd = 20 ∨ kd = 25 ∨ kd = 21 ∨ kd = 22 ∨ kd = 23) (hv : Int32.ofNat n = v) (kk : Wp l G d mc ms M (pc + 1) lv (.int v :: st) σ Q) : Wp l G d mc ms M pc lv (.ref a :: st) σ Q := by
  intro p e R s m args below meth c H locs cells slots k n' ls C K S P L r1 r2 r3 r4 r5 r6
  subst hv
  have kk' := kk p e R s m args below meth c H locs cells slots k n' ls C K S P L r1 r2 r3 r4 r5 r6
  rcases hk with rfl | rfl | rfl | rfl | rfl
  · exact W.alen (n := Int32.ofNat n) C.1 C.2.1 (P.2.2.1 a n ht).2 ((K.1.2 0 _ rfl).1 n (fun j => .int (zA σ a j))) (by rw [arrV_size] <;> rfl) rfl rfl hd kk'
  · obtain ⟨-, scr, h1, h2, h3, h4, h5⟩ := P.2.2.2.2.1 a n ht
    exact W.alen (n := Int32.ofNat n) C.1 C.2.1 h1 h2 h4.2 rfl rfl hd kk'
  · exact W.alen (n := Int32.ofNat n) C.1 C.2.1 (P.2.2.2.1 a 0 n ht (by decide)).2 ((K.1.2 1 _ rfl).1 n (fun j => va_rf (zQ σ a j))) (by rw [arrV_size] <;> rfl) rfl rfl hd kk'
  · exact W.alen (n := Int32.ofNat n) C.1 C.2.1 (P.2.2.2.1 a 1 n ht (by decide)).2 ((K.1.2 2 _ rfl).1 n (fun j => va_rf (zQ σ a j))) (by rw [arrV_size] <;> rfl) rfl rfl hd kk'
  · exact W.alen (n := Int32.ofNat n) C.1 C.2.1 (P.2.2.2.1 a 2 n ht (by decide)).2 ((K.1.2 3 _ rfl).1 n (fun j => va_rf (zQ σ a j))) (by rw [arrV_size] <;> rfl) rfl rfl hd kk'

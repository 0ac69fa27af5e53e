/-! ROWS, fourth part: loads with names, booleans, options -/
theorem zp_aloado_n {l G d mc ms M pc lv st σ Q} {k0 : Fin 4} {i : Nat} {r : Option Nat} {v : Value} (hd : decode M.2.1 pc = .ok (.aload_n k0, 1)) (hi : (k0 : Nat) = i) (hv : v = va_rf r) (hk : (i, v) ∈ lv) (kk : Wp l G d mc ms M (pc + 1) lv (v :: st) σ Q) : Wp l G d mc ms M pc lv st σ Q := by
  intro p e R s m args below meth c H locs cells slots k n ls C K S P L r1 r2 r3 r4 r5 r6
  subst hv
  have kk' := kk p e R s m args below meth c H locs cells slots k n ls C K S P L r1 r2 r3 r4 r5 r6
  cases r with
  | none => exact lv_aload_nN C.1 C.2.1 hd hi (zl_at L hk) kk'
  | some a => exact lv_aload_n C.1 C.2.1 hd hi (zl_at L hk) kk'
theorem zp_aloado {l G d mc ms M pc lv st σ Q} {i : Nat} {r : Option Nat} {v : Value} (hd : decode M.2.1 pc = .ok (.aload i, 2)) (hv : v = va_rf r) (hk : (i, v) ∈ lv) (kk : Wp l G d mc ms M (pc + 2) lv (v :: st) σ Q) : Wp l G d mc ms M pc lv st σ Q := by
  intro p e R s m args below meth c H locs cells slots k n ls C K S P L r1 r2 r3 r4 r5 r6
  subst hv
  have kk' := kk p e R s m args below meth c H locs cells slots k n ls C K S P L r1 r2 r3 r4 r5 r6
  cases r with
  | none => exact lv_aloadN C.1 C.2.1 hd (zl_at L hk) kk'
  | some a => exact lv_aload C.1 C.2.1 hd (zl_at L hk) kk'
theorem zp_astoreo_n {l G d mc ms M pc lv st σ Q} {k0 : Fin 4} {i : Nat} {r : Option Nat} {v : Value} {lv2 : List (Nat × Value)} (hd : decode M.2.1 pc = .ok (.astore_n k0, 1)) (hi : (k0 : Nat) = i) (hn : i < M.2.2.1) (hv : v = va_rf r) (hl : (i, v) :: lv.filter (fun q => !(q.1 == i) && !(q.1 + 1 == i && q.2.category == 2)) = lv2) (kk : Wp l G d mc ms M (pc + 1) lv2 st σ Q) : Wp l G d mc ms M pc lv (v :: st) σ Q := by
  intro p e R s m args below meth c H locs cells slots k n ls C K S P L r1 r2 r3 r4 r5 r6
  subst hv
  cases r with
  | none => exact lv_astore_nN C.1 C.2.1 hd hi L hn hl (fun ls L => (kk p e R s m args below meth c H locs cells slots k n ls C K S P L r1 r2 r3 r4 r5 r6))
  | some a => exact lv_astore_n C.1 C.2.1 hd hi L hn hl (fun ls L => (kk p e R s m args below meth c H locs cells slots k n ls C K S P L r1 r2 r3 r4 r5 r6))
theorem zp_astoreo {l G d mc ms M pc lv st σ Q} {i : Nat} {r : Option Nat} {v : Value} {lv2 : List (Nat × Value)} (hd : decode M.2.1 pc = .ok (.astore i, 2)) (hn : i < M.2.2.1) (hv : v = va_rf r) (hl : (i, v) :: lv.filter (fun q => !(q.1 == i) && !(q.1 + 1 == i && q.2.category == 2)) = lv2) (kk : Wp l G d mc ms M (pc + 2) lv2 st σ Q) : Wp l G d mc ms M pc lv (v :: st) σ Q := by
  intro p e R s m args below meth c H locs cells slots k n ls C K S P L r1 r2 r3 r4 r5 r6
  subst hv
  cases r with
  | none => exact lv_astoreN C.1 C.2.1 hd L hn hl (fun ls L => (kk p e R s m args below meth c H locs cells slots k n ls C K S P L r1 r2 r3 r4 r5 r6))
  | some a => exact lv_astore C.1 C.2.1 hd L hn hl (fun ls L => (kk p e R s m args below meth c H locs cells slots k n ls C K S P L r1 r2 r3 r4 r5 r6))
theorem zp_getIn {l G d mc ms M pc lv st σ Q} {i kd f a n : Nat} {ty : FieldType} {fin x : Bool} (hd : decode M.2.1 pc = .ok (.getfield i, 3)) (h : zFL M.1 i kd f ty fin false x) (ht : zT σ a = (kd, n)) (kk : ∀ x, x = zI σ f a → Wp l G d mc ms M (pc + 3) lv (.int x :: st) σ Q) : Wp l G d mc ms M pc lv (.ref a :: st) σ Q := zp_getI hd h ht (kk _ rfl)
theorem zp_getIv {l G d mc ms M pc lv st σ Q} {i kd f a n : Nat} {ty : FieldType} {fin x : Bool} {v : Int32} (hd : decode M.2.1 pc = .ok (.getfield i, 3)) (h : zFL M.1 i kd f ty fin false x) (ht : zT σ a = (kd, n)) (hv : zI σ f a = v) (kk : Wp l G d mc ms M (pc + 3) lv (.int v :: st) σ Q) : Wp l G d mc ms M pc lv (.ref a :: st) σ Q := zp_getI hd h ht (by rw [hv]; exact kk)
theorem zp_getRn {l G d mc ms M pc lv st σ Q} {i kd f a n : Nat} {ty : FieldType} {fin x : Bool} (hd : decode M.2.1 pc = .ok (.getfield i, 3)) (h : zFL M.1 i kd f ty fin true x) (ht : zT σ a = (kd, n)) (kk : ∀ r, r = zR σ f a → Wp l G d mc ms M (pc + 3) lv (va_rf r :: st) σ Q) : Wp l G d mc ms M pc lv (.ref a :: st) σ Q := zp_getR hd h ht rfl (kk _ rfl)
theorem zp_getRv {l G d mc ms M pc lv st σ Q} {i kd f a n b : Nat} {ty : FieldType} {fin x : Bool} (hd : decode M.2.1 pc = .ok (.getfield i, 3)) (h : zFL M.1 i kd f ty fin true x) (ht : zT σ a = (kd, n)) (hv : zR σ f a = some b) (kk : Wp l G d mc ms M (pc + 3) lv (.ref b :: st) σ Q) : Wp l G d mc ms M pc lv (.ref a :: st) σ Q := zp_getR hd h ht (by rw [hv]; rfl) kk
theorem zp_getRo {l G d mc ms M pc lv st σ Q} {i kd f a n : Nat} {r : Option Nat} {ty : FieldType} {fin x : Bool} (hd : decode M.2.1 pc = .ok (.getfield i, 3)) (h : zFL M.1 i kd f ty fin true x) (ht : zT σ a = (kd, n)) (hv : zR σ f a = r) (kk : Wp l G d mc ms M (pc + 3) lv (va_rf r :: st) σ Q) : Wp l G d mc ms M pc lv (.ref a :: st) σ Q := zp_getR hd h ht (by rw [hv]) kk
theorem zp_iald_n {l G d mc ms M pc lv st σ Q} {a kd n j : Nat} {x : Int32} (hd : decode M.2.1 pc = .ok (.iaload, 1)) (ht : zT σ a = (kd, n)) (hk : kd = 20 ∨ kd = 25) (hj : x.toNatClampNeg = j) (hin : vp_in x n) (kk : ∀ y, y = zA σ a j → Wp l G d mc ms M (pc + 1) lv (.int y :: st) σ Q) : Wp l G d mc ms M pc lv (.int x :: .ref a :: st) σ Q := zp_iaload hd ht hk hj hin (kk _ rfl)
theorem zp_iald_v {l G d mc ms M pc lv st σ Q} {a kd n j : Nat} {x v : Int32} (hd : decode M.2.1 pc = .ok (.iaload, 1)) (ht : zT σ a = (kd, n)) (hk : kd = 20 ∨ kd = 25) (hj : x.toNatClampNeg = j) (hin : vp_in x n) (hv : zA σ a j = v) (kk : Wp l G d mc ms M (pc + 1) lv (.int v :: st) σ Q) : Wp l G d mc ms M pc lv (.int x :: .ref a :: st) σ Q := zp_iaload hd ht hk hj hin (by rw [hv]; exact kk)
/-- a truth value -/
def zb (c : Prop) [Decidable c] : Int32 := if c then 1 else 0
theorem zb_t {c : Prop} [Decidable c] (h : c) : zb c = 1 := if_pos h
theorem zb_f {c : Prop} [Decidable c] (h : ¬ c) : zb c = 0 := if_neg h
theorem zb_01 (c : Prop) [Decidable c] : zb c = 0 ∨ zb c = 1 := by
  by_cases h : c
  · exact Or.inr (zb_t h)
  · exact Or.inl (zb_f h)
theorem zb_0 {c : Prop} [Decidable c] : zb c = 0 ↔ ¬ c := by
  by_cases h : c
  · rw [zb_t h]; exact ⟨fun q => absurd q (by decide), fun q => absurd h q⟩
  · rw [zb_f h]; exact ⟨fun _ => h, fun _ => rfl⟩
theorem zb_congr {c e : Prop} [Decidable c] [Decidable e] (h : c ↔ e) : zb c = zb e := by
  by_cases hc : c
  · rw [zb_t hc, zb_t (h.mp hc)]
  · rw [zb_f hc, zb_f (fun q => hc (h.mpr q))]
theorem zp_ifb_eq {l G d mc ms M pc lv st σ Q} {c : Prop} [Decidable c] {off : Int} {tgt : Nat} (hd : decode M.2.1 pc = .ok (.ifCond .eq off, 3)) (ht : (pc : Int) + off = (tgt : Int)) (kt : ¬ c → Wp l G d mc ms M tgt lv st σ Q) (kf : c → Wp l G d mc ms M (pc + 3) lv st σ Q) : Wp l G d mc ms M pc lv (.int (zb c) :: st) σ Q :=
  zp_if_eq hd ht (fun q => kt (zb_0.mp q)) (fun q => kf (Decidable.byContradiction fun z => q (zb_0.mpr z)))
theorem zp_ifb_ne {l G d mc ms M pc lv st σ Q} {c : Prop} [Decidable c] {off : Int} {tgt : Nat} (hd : decode M.2.1 pc = .ok (.ifCond .ne off, 3)) (ht : (pc : Int) + off = (tgt : Int)) (kt : c → Wp l G d mc ms M tgt lv st σ Q) (kf : ¬ c → Wp l G d mc ms M (pc + 3) lv st σ Q) : Wp l G d mc ms M pc lv (.int (zb c) :: st) σ Q :=
  zp_if_ne hd ht (fun q => kt (Decidable.byContradiction fun z => q (zb_0.mpr z))) (fun q => kf (zb_0.mp q))
theorem zp_nullT {l G d mc ms M pc lv st σ Q} {off : Int} {tgt : Nat} (hd : decode M.2.1 pc = .ok (.ifnull off, 3)) (ht : (pc : Int) + off = (tgt : Int)) (kk : Wp l G d mc ms M tgt lv st σ Q) : Wp l G d mc ms M pc lv (.null :: st) σ Q := zp_ifnull (r := none) hd ht rfl (fun _ => kk) (fun a h => by cases h)
theorem zp_nullF {l G d mc ms M pc lv st σ Q} {off : Int} {tgt a : Nat} (hd : decode M.2.1 pc = .ok (.ifnull off, 3)) (ht : (pc : Int) + off = (tgt : Int)) (kk : Wp l G d mc ms M (pc + 3) lv st σ Q) : Wp l G d mc ms M pc lv (.ref a :: st) σ Q := zp_ifnull (r := some a) hd ht rfl (fun h => by cases h) (fun _ _ => kk)
theorem zp_nonnullT {l G d mc ms M pc lv st σ Q} {off : Int} {tgt a : Nat} (hd : decode M.2.1 pc = .ok (.ifnonnull off, 3)) (ht : (pc : Int) + off = (tgt : Int)) (kk : Wp l G d mc ms M tgt lv st σ Q) : Wp l G d mc ms M pc lv (.ref a :: st) σ Q := zp_ifnonnull (r := some a) hd ht rfl (fun _ _ => kk) (fun h => by cases h)
theorem zp_nonnullF {l G d mc ms M pc lv st σ Q} {off : Int} {tgt : Nat} (hd : decode M.2.1 pc = .ok (.ifnonnull off, 3)) (ht : (pc : Int) + off = (tgt : Int)) (kk : Wp l G d mc ms M (pc + 3) lv st σ Q) : Wp l G d mc ms M pc lv (.null :: st) σ Q := zp_ifnonnull (r := none) hd ht rfl (fun a h => by cases h) (fun _ => kk)
theorem zT_new {σ : Sto} {q b k n : Nat} {t : Nat × Nat} (h0 : (zT σ q).1 = 0) (h : zT σ b = (k + 1, n)) : zT (wT σ q t) b = (k + 1, n) := by
  rw [zT_wT, if_neg, h]
  intro e
  rw [← e, h] at h0
  cases h0
theorem zT_self {σ : Sto} {q : Nat} {t : Nat × Nat} : zT (wT σ q t) q = t := by rw [zT_wT, if_pos rfl]
theorem tI {σ : Sto} {f a b : Nat} {x : Int32} {t : Nat × Nat} (h : zT σ b = t) : zT (wI σ f a x) b = t := h
theorem tR {σ : Sto} {f a b : Nat} {x : Option Nat} {t : Nat × Nat} (h : zT σ b = t) : zT (wR σ f a x) b = t := h
theorem tA {σ : Sto} {f a b : Nat} {x : Int32} {t : Nat × Nat} (h : zT σ b = t) : zT (wA σ f a x) b = t := h
theorem tQ {σ : Sto} {f a b : Nat} {x : Option Nat} {t : Nat × Nat} (h : zT σ b = t) : zT (wQ σ f a x) b = t := h
/-! reading back what was written: proofs that the kernel needs not search -/
theorem rIe {σ : Sto} {f a : Nat} {x : Int32} : zI (wI σ f a x) f a = x := if_pos ⟨rfl, rfl⟩
theorem rIn {σ : Sto} {f a g b : Nat} {x : Int32} (h : g ≠ f) : zI (wI σ f a x) g b = zI σ g b := if_neg (fun q => h q.1)
theorem rIb {σ : Sto} {f a g b : Nat} {x : Int32} (h : b ≠ a) : zI (wI σ f a x) g b = zI σ g b := if_neg (fun q => h q.2)
theorem rIR {σ : Sto} {f a g b : Nat} {x : Option Nat} : zI (wR σ f a x) g b = zI σ g b := rfl
theorem rIA {σ : Sto} {f a g b : Nat} {x : Int32} : zI (wA σ f a x) g b = zI σ g b := rfl
theorem rIQ {σ : Sto} {f a g b : Nat} {x : Option Nat} : zI (wQ σ f a x) g b = zI σ g b := rfl
theorem rIT {σ : Sto} {a g b : Nat} {x : Nat × Nat} : zI (wT σ a x) g b = zI σ g b := rfl
theorem rRe {σ : Sto} {f a : Nat} {x : Option Nat} : zR (wR σ f a x) f a = x := if_pos ⟨rfl, rfl⟩
theorem rRn {σ : Sto} {f a g b : Nat} {x : Option Nat} (h : g ≠ f) : zR (wR σ f a x) g b = zR σ g b := if_neg (fun q => h q.1)
theorem rRb {σ : Sto} {f a g b : Nat} {x : Option Nat} (h : b ≠ a) : zR (wR σ f a x) g b = zR σ g b := if_neg (fun q => h q.2)
theorem rRI {σ : Sto} {f a g b : Nat} {x : Int32} : zR (wI σ f a x) g b = zR σ g b := rfl
theorem rRA {σ : Sto} {f a g b : Nat} {x : Int32} : zR (wA σ f a x) g b = zR σ g b := rfl
theorem rRQ {σ : Sto} {f a g b : Nat} {x : Option Nat} : zR (wQ σ f a x) g b = zR σ g b := rfl
theorem rRT {σ : Sto} {a g b : Nat} {x : Nat × Nat} : zR (wT σ a x) g b = zR σ g b := rfl
theorem rAI {σ : Sto} {f a g b : Nat} {x : Int32} : zA (wI σ f a x) g b = zA σ g b := rfl
theorem rAR {σ : Sto} {f a g b : Nat} {x : Option Nat} : zA (wR σ f a x) g b = zA σ g b := rfl
theorem rAQ {σ : Sto} {f a g b : Nat} {x : Option Nat} : zA (wQ σ f a x) g b = zA σ g b := rfl
theorem rAT {σ : Sto} {a g b : Nat} {x : Nat × Nat} : zA (wT σ a x) g b = zA σ g b := rfl
theorem rAe {σ : Sto} {a i : Nat} {x : Int32} : zA (wA σ a i x) a i = x := if_pos ⟨rfl, rfl⟩
theorem rAn {σ : Sto} {a i b j : Nat} {x : Int32} (h : j ≠ i) : zA (wA σ a i x) b j = zA σ b j := if_neg (fun q => h q.2)
theorem rAb {σ : Sto} {a i b j : Nat} {x : Int32} (h : b ≠ a) : zA (wA σ a i x) b j = zA σ b j := if_neg (fun q => h q.1)
theorem rQI {σ : Sto} {f a g b : Nat} {x : Int32} : zQ (wI σ f a x) g b = zQ σ g b := rfl
theorem rQR {σ : Sto} {f a g b : Nat} {x : Option Nat} : zQ (wR σ f a x) g b = zQ σ g b := rfl
theorem rQA {σ : Sto} {f a g b : Nat} {x : Int32} : zQ (wA σ f a x) g b = zQ σ g b := rfl
theorem rQT {σ : Sto} {a g b : Nat} {x : Nat × Nat} : zQ (wT σ a x) g b = zQ σ g b := rfl
theorem rQe {σ : Sto} {a i : Nat} {x : Option Nat} : zQ (wQ σ a i x) a i = x := if_pos ⟨rfl, rfl⟩
theorem rQn {σ : Sto} {a i b j : Nat} {x : Option Nat} (h : j ≠ i) : zQ (wQ σ a i x) b j = zQ σ b j := if_neg (fun q => h q.2)
theorem rQb {σ : Sto} {a i b j : Nat} {x : Option Nat} (h : b ≠ a) : zQ (wQ σ a i x) b j = zQ σ b j := if_neg (fun q => h q.1)

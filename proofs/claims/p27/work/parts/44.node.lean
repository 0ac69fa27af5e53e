/-! PLACES AND NODES, MADE (by wip/p27/gen_node.py) -/
theorem zp_gen {l G d mc ms M pc lv st σ Q} (P : Sto → Prop) (h : P σ) (kk : ∀ s, P s → Wp l G d mc ms M pc lv st s Q) : Wp l G d mc ms M pc lv st σ Q := kk σ h
/-- what was there stays, but for what O names -/
def Ex (O : Nat → Prop) (σ s : Sto) : Prop := (∀ a, (zT σ a).1 ≠ 0 → zT s a = zT σ a) ∧ ∀ a, (zT σ a).1 ≠ 0 → ¬ O a → (∀ g, zI s g a = zI σ g a ∧ zR s g a = zR σ g a) ∧ zA s a = zA σ a ∧ zQ s a = zQ σ a
theorem Ex.refl {O : Nat → Prop} {σ : Sto} : Ex O σ σ := ⟨fun _ _ => rfl, fun _ _ _ => ⟨fun _ => ⟨rfl, rfl⟩, rfl, rfl⟩⟩
theorem Ex.T {O : Nat → Prop} {σ s : Sto} {a c n : Nat} (h : Ex O σ s) (ht : zT σ a = (c + 1, n)) : zT s a = (c + 1, n) := (h.1 a (by rw [ht]; exact Nat.succ_ne_zero c)).trans ht
theorem Ex.fresh {O : Nat → Prop} {σ s : Sto} {q : Nat} (h : Ex O σ s) (hq : (zT s q).1 = 0) : (zT σ q).1 = 0 := Decidable.byContradiction fun z => z (by rw [← h.1 q z]; exact hq)
theorem Ex.nI {O : Nat → Prop} {σ s : Sto} {f a : Nat} {x : Int32} (h : Ex O σ s) (ha : (zT σ a).1 = 0 ∨ O a) : Ex O σ (wI s f a x) :=
  ⟨h.1, fun c hc hO => ⟨fun g => ⟨(rIb (fun q => ha.elim (fun z => hc (by rw [q]; exact z)) (fun z => hO (by rw [q]; exact z)))).trans ((h.2 c hc hO).1 g).1, ((h.2 c hc hO).1 g).2⟩, (h.2 c hc hO).2⟩⟩
theorem Ex.nR {O : Nat → Prop} {σ s : Sto} {f a : Nat} {x : Option Nat} (h : Ex O σ s) (ha : (zT σ a).1 = 0 ∨ O a) : Ex O σ (wR s f a x) :=
  ⟨h.1, fun c hc hO => ⟨fun g => ⟨((h.2 c hc hO).1 g).1, (rRb (fun q => ha.elim (fun z => hc (by rw [q]; exact z)) (fun z => hO (by rw [q]; exact z)))).trans ((h.2 c hc hO).1 g).2⟩, (h.2 c hc hO).2⟩⟩
theorem Ex.nA {O : Nat → Prop} {σ s : Sto} {i a : Nat} {x : Int32} (h : Ex O σ s) (ha : (zT σ a).1 = 0 ∨ O a) : Ex O σ (wA s a i x) :=
  ⟨h.1, fun c hc hO => ⟨(h.2 c hc hO).1, (by funext j; exact rAb (fun q => ha.elim (fun z => hc (by rw [q]; exact z)) (fun z => hO (by rw [q]; exact z))) : zA (wA s a i x) c = zA s c).trans (h.2 c hc hO).2.1, (h.2 c hc hO).2.2⟩⟩
theorem Ex.nQ {O : Nat → Prop} {σ s : Sto} {i a : Nat} {x : Option Nat} (h : Ex O σ s) (ha : (zT σ a).1 = 0 ∨ O a) : Ex O σ (wQ s a i x) :=
  ⟨h.1, fun c hc hO => ⟨(h.2 c hc hO).1, (h.2 c hc hO).2.1, (by funext j; exact rQb (fun q => ha.elim (fun z => hc (by rw [q]; exact z)) (fun z => hO (by rw [q]; exact z))) : zQ (wQ s a i x) c = zQ s c).trans (h.2 c hc hO).2.2⟩⟩
theorem Ex.nT {O : Nat → Prop} {σ s : Sto} {q : Nat} {t : Nat × Nat} (h : Ex O σ s) (hq : (zT s q).1 = 0) : Ex O σ (wT s q t) :=
  ⟨fun a ha => (by rw [zT_wT, if_neg (fun z => ha (by rw [← h.1 a ha, z]; exact hq))] : zT (wT s q t) a = zT s a).trans (h.1 a ha), h.2⟩
theorem Ex.ct {O O' : Nat → Prop} {σ s t : Sto} (h : Ex O σ s) (h' : Ex O' s t) (hO : ∀ a, O' a → (zT σ a).1 = 0 ∨ O a) : Ex O σ t := by
  have k : ∀ a, (zT σ a).1 ≠ 0 → (zT s a).1 ≠ 0 := fun a ha => by rw [h.1 a ha]; exact ha
  refine ⟨fun a ha => (h'.1 a (k a ha)).trans (h.1 a ha), fun a ha hn => ?_⟩
  have n' : ¬ O' a := fun q => (hO a q).elim ha hn
  obtain ⟨a1, a2, a3⟩ := h.2 a ha hn
  obtain ⟨b1, b2, b3⟩ := h'.2 a (k a ha) n'
  exact ⟨fun g => ⟨(b1 g).1.trans (a1 g).1, (b1 g).2.trans (a1 g).2⟩, b2.trans a2, b3.trans a3⟩
/-- a place under way: i of its pieces -/
def PI (σ : Sto) (a N pc i : Nat) (s : Sto) (th : Nat → Nat) : Prop := Ex (fun c => c = a) σ s ∧ zT s a = (7, 0) ∧ zR s 714 a = some pc ∧ (zT σ pc).1 = 0 ∧ zT s pc = (23, N) ∧
  (∀ j, j < i → zQ s pc j = some (th j) ∧ zT s (th j) = (9, 0) ∧ (zT σ (th j)).1 = 0) ∧ (∀ j m, j < i → m < i → th j = th m → j = m) ∧ (∀ g, zI s g a = zI σ g a) ∧ (∀ g, g ≠ 713 → g ≠ 714 → zR s g a = zR σ g a)
theorem PI.step {σ : Sto} {a N pc i q : Nat} {s : Sto} {th : Nat → Nat} (h : PI σ a N pc i s th) (hq : (zT s q).1 = 0) : PI σ a N pc (i + 1) (wQ (wT s q (9, 0)) pc i (some q)) (fun j => if j = i then q else th j) := by
  obtain ⟨h1, h2, h3, h4, h5, h6, h7, h8, h9⟩ := h
  refine ⟨(h1.nT hq).nQ (Or.inl h4), zT_new hq h2, h3, h4, zT_new hq h5, fun j hj => ?_, fun j m hj hm he => ?_, h8, h9⟩
  · dsimp only
    by_cases z : j = i
    · rw [if_pos z, z]; exact ⟨rQe, zT_self, h1.fresh hq⟩
    · rw [if_neg z, rQn z]
      obtain ⟨g1, g2, g3⟩ := h6 j (by omega)
      exact ⟨g1, zT_new hq g2, g3⟩
  · dsimp only at he
    by_cases z : j = i
    · by_cases z2 : m = i
      · omega
      · rw [if_pos z, if_neg z2] at he
        have := (h6 m (by omega)).2.1
        rw [← he] at this
        rw [this] at hq
        exact absurd hq (by decide)
    · by_cases z2 : m = i
      · rw [if_neg z, if_pos z2] at he
        have := (h6 j (by omega)).2.1
        rw [he] at this
        rw [this] at hq
        exact absurd hq (by decide)
      · rw [if_neg z, if_neg z2] at he
        exact h7 j m (by omega) (by omega) he
set_option maxHeartbeats 4000000 in
theorem l_pieces (l : Launch) {G : Gb} {a N pc : Nat} {σ : Sto} {Q : Option Value → Sto → Prop} (hN : N ≤ 40) (kk : ∀ s th, PI σ a N pc N s th → Wp l G 2 0 0 (RX9, cX9_init, 3, none, true) 49 [(0, .ref a), (1, .int (nI N))] [] s Q) : ∀ (m i : Nat) (s : Sto) (th : Nat → Nat), i + m = N → PI σ a N pc i s th →
    Wp l G 2 m (5 * m) (RX9, cX9_init, 3, none, true) 25 [(2, .int (nI i)), (0, .ref a), (1, .int (nI N))] [] s Q := by
  intro m
  induction m with
  | zero =>
    intro i s th hi h
    show Wp l G 2 0 (5 * 0) (RX9, cX9_init, 3, none, true) 25 [(2, .int (nI i)), (0, .ref a), (1, .int (nI N))] [] s _
    refine zp_iload_n dX9_init_25 rfl (x := (nI i)) (List.mem_of_getElem? (i := 0) rfl) ?_
    refine zp_iload_n dX9_init_26 rfl (x := (nI N)) (List.mem_of_getElem? (i := 2) rfl) ?_
    refine zp_icmp_ge dX9_init_27 (tgt := 49) rfl (fun _ => ?_) (fun q => absurd ((nI_le' (by omega) (by omega)).mpr (by omega)) q)
    refine zp_lv [1, 2] rfl ?_
    obtain rfl : i = N := by omega
    exact kk s th h
  | succ m ih =>
    intro i s th hi h
    show Wp l G 2 (m + 1) (5 * (m + 1)) (RX9, cX9_init, 3, none, true) 25 [(2, .int (nI i)), (0, .ref a), (1, .int (nI N))] [] s _
    refine zp_iload_n dX9_init_25 rfl (x := (nI i)) (List.mem_of_getElem? (i := 0) rfl) ?_
    refine zp_iload_n dX9_init_26 rfl (x := (nI N)) (List.mem_of_getElem? (i := 2) rfl) ?_
    refine zp_icmp_ge dX9_init_27 (tgt := 49) rfl (fun q => absurd q (fun q => by have := (nI_le' (by omega) (by omega)).mp q; omega)) (fun _ => ?_)
    refine zp_aload_n dX9_init_30 rfl (a := a) (List.mem_of_getElem? (i := 1) rfl) ?_
    refine zp_getRv dX9_init_31 fl_X9_20 h.2.1 (b := pc) h.2.2.1 ?_
    refine zp_iload_n dX9_init_34 rfl (x := (nI i)) (List.mem_of_getElem? (i := 0) rfl) ?_
    refine zp_new (c0 := 8) (mc2 := m) (ms2 := 5 * m) dX9_init_35 rfl wd_85 wd_87 wd_5 (by omega) (by show _ + 5 ≤ _; omega) (fun q hq => ?_)
    refine zp_dup dX9_init_38 rfl ?_
    refine zp_callI (st := [.ref q, .int (nI i), .ref pc]) (mc2 := m) (ms2 := 5 * m) dX9_init_39 (c_X11_init l G q _) cl_X9_24 rfl im_X11_init rfl rfl rfl (by omega) (by omega) (by omega) (Nat.le_of_ble_eq_true rfl) ?_
    rintro _ s1 ⟨rfl, hs1⟩; obtain rfl := hs1.symm
    refine zp_aastore (j := 2) (c0 := 8) dX9_init_42 (zT_new hq h.2.2.2.2.1) (by decide) rfl rfl zT_self (i := i) (nI_clamp (by omega)) (vp_in_nI (by omega) (by omega)) ?_
    refine zp_iinc dX9_init_43 (k1 := 0) (x := (nI i)) rfl (v := (nI (i + 1))) (nI_1 i) (Nat.le_of_ble_eq_true rfl) (lv2 := [(2, .int (nI (i + 1))), (0, .ref a), (1, .int (nI N))]) rfl ?_
    refine zp_goto dX9_init_46 (tgt := 25) rfl ?_
    exact ih (i + 1) _ _ (by omega) (h.step hq)
/-- a place as it is made -/
def Plc (σ s : Sto) (a N pc : Nat) (th : Nat → Nat) : Prop := Ex (fun c => c = a) σ s ∧ zT s a = (7, 0) ∧ zR s 714 a = some pc ∧ (zT σ pc).1 = 0 ∧ zT s pc = (23, N) ∧
  (∀ j, j < N → zQ s pc j = some (th j) ∧ zT s (th j) = (9, 0) ∧ (zT σ (th j)).1 = 0) ∧ (∀ j m, j < N → m < N → th j = th m → j = m) ∧ (∀ g, g ≠ 704 → g ≠ 715 → zI s g a = zI σ g a) ∧ zI s 715 a = -1 ∧ (∀ g, g ≠ 713 → g ≠ 714 → zR s g a = zR σ g a)
set_option maxRecDepth 100000 in
set_option maxHeartbeats 4000000 in
theorem c_X9_init (l : Launch) (G : Gb) (a N : Nat) (σ : Sto) (hA : zT σ a = (7, 0)) (hN : N ≤ 40) : Ct l G 2 (N + 2) (7 + (N + 5 * N)) yX9_init mX9_init [.ref a, .int (nI N)] σ (fun v s => v = none ∧ ∃ pc th, Plc σ s a N pc th) := by
  refine Ct.of (by decide) rfl (Nat.le_of_ble_eq_true rfl) (fun _ => rfl) ?_
  show Wp l G 2 (N + 2) (7 + (N + 5 * N)) (RX9, cX9_init, 3, none, true) 0 [(0, .ref a), (1, .int (nI N))] [] σ _
  refine zp_aload_n dX9_init_0 rfl (a := a) (List.mem_of_getElem? (i := 0) rfl) ?_
  refine zp_objInit dX9_init_1 wd_44 wd_28 wd_29 (by decide) (Nat.le_of_ble_eq_true rfl) ?_
  refine zp_aload_n dX9_init_4 rfl (a := a) (List.mem_of_getElem? (i := 0) rfl) ?_
  refine zp_new (c0 := 0) (mc2 := N + 1) (ms2 := N + 5 * N) dX9_init_5 rfl wd_45 wd_46 wd_4 (by omega) (by show _ + 7 ≤ _; omega) (fun q5 hq5 => ?_)
  refine zp_dup dX9_init_8 rfl ?_
  refine zp_callI (st := [.ref q5, .ref a]) (mc2 := N + 1) (ms2 := N + 5 * N) dX9_init_9 (c_X1_init l G q5 _) cl_X9_11 rfl im_X1_init rfl rfl rfl (by omega) (by omega) (by omega) (Nat.le_of_ble_eq_true rfl) ?_
  rintro _ s1 ⟨rfl, hs1⟩; obtain rfl := hs1.symm
  refine zp_putRf dX9_init_12 fl_X9_12 rfl (zOwn_of (r0 := (RX9, TX9, 20)) rfl rfl) (zT_new hq5 hA) (r := some q5) rfl zfit_ref ?_
  refine zp_gen (fun s => Ex (fun c => c = a) σ s ∧ zT s a = (7, 0) ∧ (∀ g, zI s g a = zI σ g a) ∧ (∀ g, g ≠ 713 → zR s g a = zR σ g a)) ⟨(Ex.refl.nT hq5).nR (Or.inr rfl), zT_new hq5 hA, fun _ => rfl, fun g hg => rRn hg⟩ (fun s1 hs => ?_)
  obtain ⟨b1, b2, b3, b4⟩ := hs
  refine zp_aload_n dX9_init_15 rfl (a := a) (List.mem_of_getElem? (i := 0) rfl) ?_
  refine zp_iload_n dX9_init_16 rfl (x := (nI N)) (List.mem_of_getElem? (i := 1) rfl) ?_
  refine zp_newQ (j := 2) (mc2 := N) (ms2 := 5 * N) (N := N) dX9_init_17 wd_85 (by decide) rfl zao3 (nI_nneg (by omega)) (nI_clamp (by omega)) (by omega) (by omega) (by omega) (fun pc hpc => ?_)
  refine zp_putRf dX9_init_20 fl_X9_20 rfl (zOwn_of (r0 := (RX9, TX9, 20)) rfl rfl) (zT_new hpc b2) (r := some pc) rfl zfit_arr ?_
  refine zp_iconst dX9_init_23 (v := 0) (by decide) ?_
  refine zp_istore_n dX9_init_24 rfl (Nat.le_of_ble_eq_true rfl) (lv2 := [(2, .int 0), (0, .ref a), (1, .int (nI N))]) rfl ?_
  have hI : PI σ a N pc 0 (wR (wT s1 pc (23, N)) 714 a (some pc)) (fun _ => 0) := ⟨(b1.nT hpc).nR (Or.inr rfl), zT_new hpc b2, rRe, b1.fresh hpc, zT_self, fun j hj => absurd hj (Nat.not_lt_zero _), fun j m hj => absurd hj (Nat.not_lt_zero _), b3, fun g g1 g2 => (rRn g2).trans (b4 g g1)⟩
  refine l_pieces l hN (fun s th h => ?_) N 0 _ _ (by omega) hI
  show Wp l G 2 0 0 (RX9, cX9_init, 3, none, true) 49 [(0, .ref a), (1, .int (nI N))] [] s _
  refine zp_aload_n dX9_init_49 rfl (a := a) (List.mem_of_getElem? (i := 0) rfl) ?_
  refine zp_iconst dX9_init_50 (v := (-1)) (by decide) ?_
  refine zp_putI dX9_init_51 fl_X9_25 h.2.1 ?_
  refine zp_aload_n dX9_init_54 rfl (a := a) (List.mem_of_getElem? (i := 0) rfl) ?_
  refine zp_iconst dX9_init_55 (v := (-1)) (by decide) ?_
  refine zp_putI dX9_init_56 fl_X9_29 (tI h.2.1) ?_
  refine zp_vret rfl dX9_init_59 ?_
  obtain ⟨h1, h2, h3, h4, h5, h6, h7, h8, h9⟩ := h
  exact ⟨rfl, pc, th, (h1.nI (Or.inr rfl)).nI (Or.inr rfl), h2, h3, h4, h5, h6, h7, fun g g1 g2 => (rIn g2).trans ((rIn g1).trans (h8 g)), rIe, h9⟩
def fv (t : Nat) : Int32 := if t = 4 ∨ t = 5 then -1 else if t = 17 then 1 else if t = 18 ∨ t = 19 then -1000 else 0
set_option maxRecDepth 100000 in
set_option maxHeartbeats 4000000 in
theorem c_X7_fv0 (l : Launch) (G : Gb) (σ : Sto) : Ct l G 1 0 0 yX7_firstValue mX7_firstValue [.int 0] σ (fun w s => w = some (.int (fv 0)) ∧ s = σ) := by
  refine Ct.of (by decide) rfl (Nat.le_of_ble_eq_true rfl) (fun h => absurd h (by decide)) ?_
  show Wp l G 1 0 0 (RX7, cX7_firstValue, 1, (some .int), false) 0 [(0, .int 0)] [] σ _
  refine zp_iload_n dX7_firstValue_0 rfl (x := 0) (List.mem_of_getElem? (i := 0) rfl) ?_
  refine zp_lookup (off := 59) (tgt := 60) dX7_firstValue_1 (by decide) (by decide) rfl ?_
  refine zp_iconst dX7_firstValue_60 (v := 0) (by decide) ?_
  refine zp_iret rfl dX7_firstValue_61 ?_
  exact ⟨rfl, rfl⟩
set_option maxRecDepth 100000 in
set_option maxHeartbeats 4000000 in
theorem c_X7_fv1 (l : Launch) (G : Gb) (σ : Sto) : Ct l G 1 0 0 yX7_firstValue mX7_firstValue [.int 1] σ (fun w s => w = some (.int (fv 1)) ∧ s = σ) := by
  refine Ct.of (by decide) rfl (Nat.le_of_ble_eq_true rfl) (fun h => absurd h (by decide)) ?_
  show Wp l G 1 0 0 (RX7, cX7_firstValue, 1, (some .int), false) 0 [(0, .int 1)] [] σ _
  refine zp_iload_n dX7_firstValue_0 rfl (x := 1) (List.mem_of_getElem? (i := 0) rfl) ?_
  refine zp_lookup (off := 59) (tgt := 60) dX7_firstValue_1 (by decide) (by decide) rfl ?_
  refine zp_iconst dX7_firstValue_60 (v := 0) (by decide) ?_
  refine zp_iret rfl dX7_firstValue_61 ?_
  exact ⟨rfl, rfl⟩
set_option maxRecDepth 100000 in
set_option maxHeartbeats 4000000 in
theorem c_X7_fv2 (l : Launch) (G : Gb) (σ : Sto) : Ct l G 1 0 0 yX7_firstValue mX7_firstValue [.int 2] σ (fun w s => w = some (.int (fv 2)) ∧ s = σ) := by
  refine Ct.of (by decide) rfl (Nat.le_of_ble_eq_true rfl) (fun h => absurd h (by decide)) ?_
  show Wp l G 1 0 0 (RX7, cX7_firstValue, 1, (some .int), false) 0 [(0, .int 2)] [] σ _
  refine zp_iload_n dX7_firstValue_0 rfl (x := 2) (List.mem_of_getElem? (i := 0) rfl) ?_
  refine zp_lookup (off := 59) (tgt := 60) dX7_firstValue_1 (by decide) (by decide) rfl ?_
  refine zp_iconst dX7_firstValue_60 (v := 0) (by decide) ?_
  refine zp_iret rfl dX7_firstValue_61 ?_
  exact ⟨rfl, rfl⟩
set_option maxRecDepth 100000 in
set_option maxHeartbeats 4000000 in
theorem c_X7_fv3 (l : Launch) (G : Gb) (σ : Sto) : Ct l G 1 0 0 yX7_firstValue mX7_firstValue [.int 3] σ (fun w s => w = some (.int (fv 3)) ∧ s = σ) := by
  refine Ct.of (by decide) rfl (Nat.le_of_ble_eq_true rfl) (fun h => absurd h (by decide)) ?_
  show Wp l G 1 0 0 (RX7, cX7_firstValue, 1, (some .int), false) 0 [(0, .int 3)] [] σ _
  refine zp_iload_n dX7_firstValue_0 rfl (x := 3) (List.mem_of_getElem? (i := 0) rfl) ?_
  refine zp_lookup (off := 59) (tgt := 60) dX7_firstValue_1 (by decide) (by decide) rfl ?_
  refine zp_iconst dX7_firstValue_60 (v := 0) (by decide) ?_
  refine zp_iret rfl dX7_firstValue_61 ?_
  exact ⟨rfl, rfl⟩
set_option maxRecDepth 100000 in
set_option maxHeartbeats 4000000 in
theorem c_X7_fv4 (l : Launch) (G : Gb) (σ : Sto) : Ct l G 1 0 0 yX7_firstValue mX7_firstValue [.int 4] σ (fun w s => w = some (.int (fv 4)) ∧ s = σ) := by
  refine Ct.of (by decide) rfl (Nat.le_of_ble_eq_true rfl) (fun h => absurd h (by decide)) ?_
  show Wp l G 1 0 0 (RX7, cX7_firstValue, 1, (some .int), false) 0 [(0, .int 4)] [] σ _
  refine zp_iload_n dX7_firstValue_0 rfl (x := 4) (List.mem_of_getElem? (i := 0) rfl) ?_
  refine zp_lookup (off := 51) (tgt := 52) dX7_firstValue_1 (by decide) (by decide) rfl ?_
  refine zp_iconst dX7_firstValue_52 (v := (-1)) (by decide) ?_
  refine zp_iret rfl dX7_firstValue_53 ?_
  exact ⟨rfl, rfl⟩
set_option maxRecDepth 100000 in
set_option maxHeartbeats 4000000 in
theorem c_X7_fv5 (l : Launch) (G : Gb) (σ : Sto) : Ct l G 1 0 0 yX7_firstValue mX7_firstValue [.int 5] σ (fun w s => w = some (.int (fv 5)) ∧ s = σ) := by
  refine Ct.of (by decide) rfl (Nat.le_of_ble_eq_true rfl) (fun h => absurd h (by decide)) ?_
  show Wp l G 1 0 0 (RX7, cX7_firstValue, 1, (some .int), false) 0 [(0, .int 5)] [] σ _
  refine zp_iload_n dX7_firstValue_0 rfl (x := 5) (List.mem_of_getElem? (i := 0) rfl) ?_
  refine zp_lookup (off := 51) (tgt := 52) dX7_firstValue_1 (by decide) (by decide) rfl ?_
  refine zp_iconst dX7_firstValue_52 (v := (-1)) (by decide) ?_
  refine zp_iret rfl dX7_firstValue_53 ?_
  exact ⟨rfl, rfl⟩
set_option maxRecDepth 100000 in
set_option maxHeartbeats 4000000 in
theorem c_X7_fv6 (l : Launch) (G : Gb) (σ : Sto) : Ct l G 1 0 0 yX7_firstValue mX7_firstValue [.int 6] σ (fun w s => w = some (.int (fv 6)) ∧ s = σ) := by
  refine Ct.of (by decide) rfl (Nat.le_of_ble_eq_true rfl) (fun h => absurd h (by decide)) ?_
  show Wp l G 1 0 0 (RX7, cX7_firstValue, 1, (some .int), false) 0 [(0, .int 6)] [] σ _
  refine zp_iload_n dX7_firstValue_0 rfl (x := 6) (List.mem_of_getElem? (i := 0) rfl) ?_
  refine zp_lookup (off := 59) (tgt := 60) dX7_firstValue_1 (by decide) (by decide) rfl ?_
  refine zp_iconst dX7_firstValue_60 (v := 0) (by decide) ?_
  refine zp_iret rfl dX7_firstValue_61 ?_
  exact ⟨rfl, rfl⟩
set_option maxRecDepth 100000 in
set_option maxHeartbeats 4000000 in
theorem c_X7_fv7 (l : Launch) (G : Gb) (σ : Sto) : Ct l G 1 0 0 yX7_firstValue mX7_firstValue [.int 7] σ (fun w s => w = some (.int (fv 7)) ∧ s = σ) := by
  refine Ct.of (by decide) rfl (Nat.le_of_ble_eq_true rfl) (fun h => absurd h (by decide)) ?_
  show Wp l G 1 0 0 (RX7, cX7_firstValue, 1, (some .int), false) 0 [(0, .int 7)] [] σ _
  refine zp_iload_n dX7_firstValue_0 rfl (x := 7) (List.mem_of_getElem? (i := 0) rfl) ?_
  refine zp_lookup (off := 59) (tgt := 60) dX7_firstValue_1 (by decide) (by decide) rfl ?_
  refine zp_iconst dX7_firstValue_60 (v := 0) (by decide) ?_
  refine zp_iret rfl dX7_firstValue_61 ?_
  exact ⟨rfl, rfl⟩
set_option maxRecDepth 100000 in
set_option maxHeartbeats 4000000 in
theorem c_X7_fv8 (l : Launch) (G : Gb) (σ : Sto) : Ct l G 1 0 0 yX7_firstValue mX7_firstValue [.int 8] σ (fun w s => w = some (.int (fv 8)) ∧ s = σ) := by
  refine Ct.of (by decide) rfl (Nat.le_of_ble_eq_true rfl) (fun h => absurd h (by decide)) ?_
  show Wp l G 1 0 0 (RX7, cX7_firstValue, 1, (some .int), false) 0 [(0, .int 8)] [] σ _
  refine zp_iload_n dX7_firstValue_0 rfl (x := 8) (List.mem_of_getElem? (i := 0) rfl) ?_
  refine zp_lookup (off := 59) (tgt := 60) dX7_firstValue_1 (by decide) (by decide) rfl ?_
  refine zp_iconst dX7_firstValue_60 (v := 0) (by decide) ?_
  refine zp_iret rfl dX7_firstValue_61 ?_
  exact ⟨rfl, rfl⟩
set_option maxRecDepth 100000 in
set_option maxHeartbeats 4000000 in
theorem c_X7_fv9 (l : Launch) (G : Gb) (σ : Sto) : Ct l G 1 0 0 yX7_firstValue mX7_firstValue [.int 9] σ (fun w s => w = some (.int (fv 9)) ∧ s = σ) := by
  refine Ct.of (by decide) rfl (Nat.le_of_ble_eq_true rfl) (fun h => absurd h (by decide)) ?_
  show Wp l G 1 0 0 (RX7, cX7_firstValue, 1, (some .int), false) 0 [(0, .int 9)] [] σ _
  refine zp_iload_n dX7_firstValue_0 rfl (x := 9) (List.mem_of_getElem? (i := 0) rfl) ?_
  refine zp_lookup (off := 59) (tgt := 60) dX7_firstValue_1 (by decide) (by decide) rfl ?_
  refine zp_iconst dX7_firstValue_60 (v := 0) (by decide) ?_
  refine zp_iret rfl dX7_firstValue_61 ?_
  exact ⟨rfl, rfl⟩
set_option maxRecDepth 100000 in
set_option maxHeartbeats 4000000 in
theorem c_X7_fv10 (l : Launch) (G : Gb) (σ : Sto) : Ct l G 1 0 0 yX7_firstValue mX7_firstValue [.int 10] σ (fun w s => w = some (.int (fv 10)) ∧ s = σ) := by
  refine Ct.of (by decide) rfl (Nat.le_of_ble_eq_true rfl) (fun h => absurd h (by decide)) ?_
  show Wp l G 1 0 0 (RX7, cX7_firstValue, 1, (some .int), false) 0 [(0, .int 10)] [] σ _
  refine zp_iload_n dX7_firstValue_0 rfl (x := 10) (List.mem_of_getElem? (i := 0) rfl) ?_
  refine zp_lookup (off := 59) (tgt := 60) dX7_firstValue_1 (by decide) (by decide) rfl ?_
  refine zp_iconst dX7_firstValue_60 (v := 0) (by decide) ?_
  refine zp_iret rfl dX7_firstValue_61 ?_
  exact ⟨rfl, rfl⟩
set_option maxRecDepth 100000 in
set_option maxHeartbeats 4000000 in
theorem c_X7_fv11 (l : Launch) (G : Gb) (σ : Sto) : Ct l G 1 0 0 yX7_firstValue mX7_firstValue [.int 11] σ (fun w s => w = some (.int (fv 11)) ∧ s = σ) := by
  refine Ct.of (by decide) rfl (Nat.le_of_ble_eq_true rfl) (fun h => absurd h (by decide)) ?_
  show Wp l G 1 0 0 (RX7, cX7_firstValue, 1, (some .int), false) 0 [(0, .int 11)] [] σ _
  refine zp_iload_n dX7_firstValue_0 rfl (x := 11) (List.mem_of_getElem? (i := 0) rfl) ?_
  refine zp_lookup (off := 59) (tgt := 60) dX7_firstValue_1 (by decide) (by decide) rfl ?_
  refine zp_iconst dX7_firstValue_60 (v := 0) (by decide) ?_
  refine zp_iret rfl dX7_firstValue_61 ?_
  exact ⟨rfl, rfl⟩
set_option maxRecDepth 100000 in
set_option maxHeartbeats 4000000 in
theorem c_X7_fv12 (l : Launch) (G : Gb) (σ : Sto) : Ct l G 1 0 0 yX7_firstValue mX7_firstValue [.int 12] σ (fun w s => w = some (.int (fv 12)) ∧ s = σ) := by
  refine Ct.of (by decide) rfl (Nat.le_of_ble_eq_true rfl) (fun h => absurd h (by decide)) ?_
  show Wp l G 1 0 0 (RX7, cX7_firstValue, 1, (some .int), false) 0 [(0, .int 12)] [] σ _
  refine zp_iload_n dX7_firstValue_0 rfl (x := 12) (List.mem_of_getElem? (i := 0) rfl) ?_
  refine zp_lookup (off := 59) (tgt := 60) dX7_firstValue_1 (by decide) (by decide) rfl ?_
  refine zp_iconst dX7_firstValue_60 (v := 0) (by decide) ?_
  refine zp_iret rfl dX7_firstValue_61 ?_
  exact ⟨rfl, rfl⟩
set_option maxRecDepth 100000 in
set_option maxHeartbeats 4000000 in
theorem c_X7_fv13 (l : Launch) (G : Gb) (σ : Sto) : Ct l G 1 0 0 yX7_firstValue mX7_firstValue [.int 13] σ (fun w s => w = some (.int (fv 13)) ∧ s = σ) := by
  refine Ct.of (by decide) rfl (Nat.le_of_ble_eq_true rfl) (fun h => absurd h (by decide)) ?_
  show Wp l G 1 0 0 (RX7, cX7_firstValue, 1, (some .int), false) 0 [(0, .int 13)] [] σ _
  refine zp_iload_n dX7_firstValue_0 rfl (x := 13) (List.mem_of_getElem? (i := 0) rfl) ?_
  refine zp_lookup (off := 59) (tgt := 60) dX7_firstValue_1 (by decide) (by decide) rfl ?_
  refine zp_iconst dX7_firstValue_60 (v := 0) (by decide) ?_
  refine zp_iret rfl dX7_firstValue_61 ?_
  exact ⟨rfl, rfl⟩
set_option maxRecDepth 100000 in
set_option maxHeartbeats 4000000 in
theorem c_X7_fv14 (l : Launch) (G : Gb) (σ : Sto) : Ct l G 1 0 0 yX7_firstValue mX7_firstValue [.int 14] σ (fun w s => w = some (.int (fv 14)) ∧ s = σ) := by
  refine Ct.of (by decide) rfl (Nat.le_of_ble_eq_true rfl) (fun h => absurd h (by decide)) ?_
  show Wp l G 1 0 0 (RX7, cX7_firstValue, 1, (some .int), false) 0 [(0, .int 14)] [] σ _
  refine zp_iload_n dX7_firstValue_0 rfl (x := 14) (List.mem_of_getElem? (i := 0) rfl) ?_
  refine zp_lookup (off := 59) (tgt := 60) dX7_firstValue_1 (by decide) (by decide) rfl ?_
  refine zp_iconst dX7_firstValue_60 (v := 0) (by decide) ?_
  refine zp_iret rfl dX7_firstValue_61 ?_
  exact ⟨rfl, rfl⟩
set_option maxRecDepth 100000 in
set_option maxHeartbeats 4000000 in
theorem c_X7_fv15 (l : Launch) (G : Gb) (σ : Sto) : Ct l G 1 0 0 yX7_firstValue mX7_firstValue [.int 15] σ (fun w s => w = some (.int (fv 15)) ∧ s = σ) := by
  refine Ct.of (by decide) rfl (Nat.le_of_ble_eq_true rfl) (fun h => absurd h (by decide)) ?_
  show Wp l G 1 0 0 (RX7, cX7_firstValue, 1, (some .int), false) 0 [(0, .int 15)] [] σ _
  refine zp_iload_n dX7_firstValue_0 rfl (x := 15) (List.mem_of_getElem? (i := 0) rfl) ?_
  refine zp_lookup (off := 59) (tgt := 60) dX7_firstValue_1 (by decide) (by decide) rfl ?_
  refine zp_iconst dX7_firstValue_60 (v := 0) (by decide) ?_
  refine zp_iret rfl dX7_firstValue_61 ?_
  exact ⟨rfl, rfl⟩
set_option maxRecDepth 100000 in
set_option maxHeartbeats 4000000 in
theorem c_X7_fv16 (l : Launch) (G : Gb) (σ : Sto) : Ct l G 1 0 0 yX7_firstValue mX7_firstValue [.int 16] σ (fun w s => w = some (.int (fv 16)) ∧ s = σ) := by
  refine Ct.of (by decide) rfl (Nat.le_of_ble_eq_true rfl) (fun h => absurd h (by decide)) ?_
  show Wp l G 1 0 0 (RX7, cX7_firstValue, 1, (some .int), false) 0 [(0, .int 16)] [] σ _
  refine zp_iload_n dX7_firstValue_0 rfl (x := 16) (List.mem_of_getElem? (i := 0) rfl) ?_
  refine zp_lookup (off := 59) (tgt := 60) dX7_firstValue_1 (by decide) (by decide) rfl ?_
  refine zp_iconst dX7_firstValue_60 (v := 0) (by decide) ?_
  refine zp_iret rfl dX7_firstValue_61 ?_
  exact ⟨rfl, rfl⟩
set_option maxRecDepth 100000 in
set_option maxHeartbeats 4000000 in
theorem c_X7_fv17 (l : Launch) (G : Gb) (σ : Sto) : Ct l G 1 0 0 yX7_firstValue mX7_firstValue [.int 17] σ (fun w s => w = some (.int (fv 17)) ∧ s = σ) := by
  refine Ct.of (by decide) rfl (Nat.le_of_ble_eq_true rfl) (fun h => absurd h (by decide)) ?_
  show Wp l G 1 0 0 (RX7, cX7_firstValue, 1, (some .int), false) 0 [(0, .int 17)] [] σ _
  refine zp_iload_n dX7_firstValue_0 rfl (x := 17) (List.mem_of_getElem? (i := 0) rfl) ?_
  refine zp_lookup (off := 53) (tgt := 54) dX7_firstValue_1 (by decide) (by decide) rfl ?_
  refine zp_iconst dX7_firstValue_54 (v := 1) (by decide) ?_
  refine zp_iret rfl dX7_firstValue_55 ?_
  exact ⟨rfl, rfl⟩
set_option maxRecDepth 100000 in
set_option maxHeartbeats 4000000 in
theorem c_X7_fv18 (l : Launch) (G : Gb) (σ : Sto) : Ct l G 1 0 0 yX7_firstValue mX7_firstValue [.int 18] σ (fun w s => w = some (.int (fv 18)) ∧ s = σ) := by
  refine Ct.of (by decide) rfl (Nat.le_of_ble_eq_true rfl) (fun h => absurd h (by decide)) ?_
  show Wp l G 1 0 0 (RX7, cX7_firstValue, 1, (some .int), false) 0 [(0, .int 18)] [] σ _
  refine zp_iload_n dX7_firstValue_0 rfl (x := 18) (List.mem_of_getElem? (i := 0) rfl) ?_
  refine zp_lookup (off := 55) (tgt := 56) dX7_firstValue_1 (by decide) (by decide) rfl ?_
  refine zp_sipush dX7_firstValue_56 (v := (-1000)) (by decide) ?_
  refine zp_iret rfl dX7_firstValue_59 ?_
  exact ⟨rfl, rfl⟩
set_option maxRecDepth 100000 in
set_option maxHeartbeats 4000000 in
theorem c_X7_fv19 (l : Launch) (G : Gb) (σ : Sto) : Ct l G 1 0 0 yX7_firstValue mX7_firstValue [.int 19] σ (fun w s => w = some (.int (fv 19)) ∧ s = σ) := by
  refine Ct.of (by decide) rfl (Nat.le_of_ble_eq_true rfl) (fun h => absurd h (by decide)) ?_
  show Wp l G 1 0 0 (RX7, cX7_firstValue, 1, (some .int), false) 0 [(0, .int 19)] [] σ _
  refine zp_iload_n dX7_firstValue_0 rfl (x := 19) (List.mem_of_getElem? (i := 0) rfl) ?_
  refine zp_lookup (off := 55) (tgt := 56) dX7_firstValue_1 (by decide) (by decide) rfl ?_
  refine zp_sipush dX7_firstValue_56 (v := (-1000)) (by decide) ?_
  refine zp_iret rfl dX7_firstValue_59 ?_
  exact ⟨rfl, rfl⟩
set_option maxRecDepth 100000 in
set_option maxHeartbeats 4000000 in
theorem c_X7_fv20 (l : Launch) (G : Gb) (σ : Sto) : Ct l G 1 0 0 yX7_firstValue mX7_firstValue [.int 20] σ (fun w s => w = some (.int (fv 20)) ∧ s = σ) := by
  refine Ct.of (by decide) rfl (Nat.le_of_ble_eq_true rfl) (fun h => absurd h (by decide)) ?_
  show Wp l G 1 0 0 (RX7, cX7_firstValue, 1, (some .int), false) 0 [(0, .int 20)] [] σ _
  refine zp_iload_n dX7_firstValue_0 rfl (x := 20) (List.mem_of_getElem? (i := 0) rfl) ?_
  refine zp_lookup (off := 59) (tgt := 60) dX7_firstValue_1 (by decide) (by decide) rfl ?_
  refine zp_iconst dX7_firstValue_60 (v := 0) (by decide) ?_
  refine zp_iret rfl dX7_firstValue_61 ?_
  exact ⟨rfl, rfl⟩
theorem c_X7_firstValue (l : Launch) (G : Gb) (t : Nat) (σ : Sto) (ht : t < 21) : Ct l G 1 0 0 yX7_firstValue mX7_firstValue [.int (nI t)] σ (fun w s => w = some (.int (fv t)) ∧ s = σ) := by
  have hs : t = 0 ∨ t = 1 ∨ t = 2 ∨ t = 3 ∨ t = 4 ∨ t = 5 ∨ t = 6 ∨ t = 7 ∨ t = 8 ∨ t = 9 ∨ t = 10 ∨ t = 11 ∨ t = 12 ∨ t = 13 ∨ t = 14 ∨ t = 15 ∨ t = 16 ∨ t = 17 ∨ t = 18 ∨ t = 19 ∨ t = 20 := by omega
  rcases hs with q | q | q | q | q | q | q | q | q | q | q | q | q | q | q | q | q | q | q | q | q <;> subst q
  · exact c_X7_fv0 l G σ
  · exact c_X7_fv1 l G σ
  · exact c_X7_fv2 l G σ
  · exact c_X7_fv3 l G σ
  · exact c_X7_fv4 l G σ
  · exact c_X7_fv5 l G σ
  · exact c_X7_fv6 l G σ
  · exact c_X7_fv7 l G σ
  · exact c_X7_fv8 l G σ
  · exact c_X7_fv9 l G σ
  · exact c_X7_fv10 l G σ
  · exact c_X7_fv11 l G σ
  · exact c_X7_fv12 l G σ
  · exact c_X7_fv13 l G σ
  · exact c_X7_fv14 l G σ
  · exact c_X7_fv15 l G σ
  · exact c_X7_fv16 l G σ
  · exact c_X7_fv17 l G σ
  · exact c_X7_fv18 l G σ
  · exact c_X7_fv19 l G σ
  · exact c_X7_fv20 l G σ
def uI (F : Nat → Int32) (f : Nat) (x : Int32) : Nat → Int32 := fun g => if g = f then x else F g
def uR (F : Nat → Option Nat) (f : Nat) (x : Option Nat) : Nat → Option Nat := fun g => if g = f then x else F g
/-- a node under way: its fields -/
def CA (σ s : Sto) (a : Nat) (FI : Nat → Int32) (FR : Nat → Option Nat) : Prop := Ex (fun c => c = a) σ s ∧ zT s a = (5, 0) ∧ (∀ g, zI s g a = FI g) ∧ (∀ g, zR s g a = FR g)
theorem CA.I {σ s : Sto} {a f : Nat} {x : Int32} {FI FR} (h : CA σ s a FI FR) : CA σ (wI s f a x) a (uI FI f x) FR :=
  ⟨h.1.nI (Or.inr rfl), h.2.1, fun g => by
    unfold uI
    by_cases q : g = f
    · rw [if_pos q, q]; exact rIe
    · rw [if_neg q, rIn q]; exact h.2.2.1 g, h.2.2.2⟩
theorem CA.R {σ s : Sto} {a f : Nat} {x : Option Nat} {FI FR} (h : CA σ s a FI FR) : CA σ (wR s f a x) a FI (uR FR f x) :=
  ⟨h.1.nR (Or.inr rfl), h.2.1, h.2.2.1, fun g => by
    unfold uR
    by_cases q : g = f
    · rw [if_pos q, q]; exact rRe
    · rw [if_neg q, rRn q]; exact h.2.2.2 g⟩
theorem CA.T {σ s : Sto} {a q : Nat} {t : Nat × Nat} {FI FR} (h : CA σ s a FI FR) (hq : (zT s q).1 = 0) : CA σ (wT s q t) a FI FR := ⟨h.1.nT hq, zT_new hq h.2.1, h.2.2.1, h.2.2.2⟩
theorem CA.A {σ s : Sto} {a c i : Nat} {x : Int32} {FI FR} (h : CA σ s a FI FR) (hc : (zT σ c).1 = 0) : CA σ (wA s c i x) a FI FR := ⟨h.1.nA (Or.inl hc), h.2.1, h.2.2.1, h.2.2.2⟩
theorem CA.ct {σ s t : Sto} {a p : Nat} {FI FR} (h : CA σ s a FI FR) (e : Ex (fun c => c = p) s t) (hp : (zT σ p).1 = 0) (hne : a ≠ p) : CA σ t a FI FR :=
  ⟨h.1.ct e (fun c hc => Or.inl (by rw [hc]; exact hp)), e.T h.2.1, fun g => (((e.2 a (by rw [h.2.1]; decide) hne).1 g).1).trans (h.2.2.1 g), fun g => (((e.2 a (by rw [h.2.1]; decide) hne).1 g).2).trans (h.2.2.2 g)⟩
/-- its rows of styles, filled up to i -/
def RB (σ s : Sto) (sy cn i : Nat) : Prop := zT s sy = (20, 21) ∧ zT s cn = (20, 21) ∧ (zT σ sy).1 = 0 ∧ (zT σ cn).1 = 0 ∧ sy ≠ cn ∧ ∀ t, t < i → zA s sy t = fv t ∧ zA s cn t = fv t
theorem RB.step {σ s : Sto} {sy cn i : Nat} (h : RB σ s sy cn i) : RB σ (wA (wA s sy i (fv i)) cn i (fv i)) sy cn (i + 1) := by
  obtain ⟨h1, h2, h3, h4, h5, h6⟩ := h
  refine ⟨h1, h2, h3, h4, h5, fun t ht => ?_⟩
  by_cases q : t = i
  · rw [q]; exact ⟨(rAb h5).trans rAe, rAe⟩
  · obtain ⟨a1, a2⟩ := h6 t (by omega)
    exact ⟨(rAn q).trans ((rAn q).trans a1), (rAn q).trans ((rAn q).trans a2)⟩
/-- all its rows -/
def RwF (σ s : Sto) (sy cn le cu n : Nat) : Prop := RB σ s sy cn 21 ∧ zT s le = (20, n) ∧ zT s cu = (20, n) ∧ (zT σ le).1 = 0 ∧ (zT σ cu).1 = 0 ∧ (sy ≠ le ∧ sy ≠ cu ∧ cn ≠ le ∧ cn ≠ cu ∧ le ≠ cu) ∧ ∀ i, zA s cu i = 0
theorem RB.ex {σ s t : Sto} {O : Nat → Prop} {sy cn i : Nat} (h : RB σ s sy cn i) (e : Ex O s t) (hO : ∀ c, O c → (zT s c).1 ≠ 20) : RB σ t sy cn i := by
  obtain ⟨h1, h2, h3, h4, h5, h6⟩ := h
  have k1 := (e.2 sy (by rw [h1]; decide) (fun q => hO _ q (by rw [h1]))).2.1
  have k2 := (e.2 cn (by rw [h2]; decide) (fun q => hO _ q (by rw [h2]))).2.1
  exact ⟨e.T h1, e.T h2, h3, h4, h5, fun t ht => ⟨by rw [k1]; exact (h6 t ht).1, by rw [k2]; exact (h6 t ht).2⟩⟩
theorem RwF.ex {σ s t : Sto} {O : Nat → Prop} {sy cn le cu n : Nat} (h : RwF σ s sy cn le cu n) (e : Ex O s t) (hO : ∀ c, O c → (zT s c).1 ≠ 20) : RwF σ t sy cn le cu n := by
  obtain ⟨h1, h2, h3, h4, h5, h6, h7⟩ := h
  have k := (e.2 cu (by rw [h3]; exact (by decide : (20 : Nat) ≠ 0)) (fun q => hO _ q (by rw [h3]))).2.1
  exact ⟨h1.ex e hO, e.T h2, e.T h3, h4, h5, h6, fun i => by rw [k]; exact h7 i⟩
/-- one of its places -/
def PlF (σ s : Sto) (p N pc : Nat) (th : Nat → Nat) : Prop := zT s p = (7, 0) ∧ (zT σ p).1 = 0 ∧ zR s 714 p = some pc ∧ (zT σ pc).1 = 0 ∧ zT s pc = (23, N) ∧
  (∀ j, j < N → zQ s pc j = some (th j) ∧ zT s (th j) = (9, 0) ∧ (zT σ (th j)).1 = 0) ∧ (∀ j m, j < N → m < N → th j = th m → j = m) ∧ (zI s 707 p = 0 ∧ zI s 708 p = 0 ∧ zI s 715 p = -1 ∧ zR s 711 p = none ∧ zR s 712 p = none)
theorem PlF.ex {σ s t : Sto} {O : Nat → Prop} {p N pc : Nat} {th : Nat → Nat} (h : PlF σ s p N pc th) (e : Ex O s t) (hO : ∀ c, O c → (zT s c).1 ≠ 7 ∧ (zT s c).1 ≠ 23) : PlF σ t p N pc th := by
  obtain ⟨h1, h2, h3, h4, h5, h6, h7, h8, h9, h10, h11, h12⟩ := h
  have k1 := (e.2 p (by rw [h1]; decide) (fun q => (hO _ q).1 (by rw [h1]))).1
  have k2 := (e.2 pc (by rw [h5]; exact (by decide : (23 : Nat) ≠ 0)) (fun q => (hO _ q).2 (by rw [h5]))).2.2
  exact ⟨e.T h1, h2, by rw [(k1 714).2]; exact h3, h4, e.T h5, fun j hj => ⟨by rw [k2]; exact (h6 j hj).1, e.T (h6 j hj).2.1, (h6 j hj).2.2⟩, h7, by rw [(k1 707).1]; exact h8, by rw [(k1 708).1]; exact h9, by rw [(k1 715).1]; exact h10, by rw [(k1 711).2]; exact h11, by rw [(k1 712).2]; exact h12⟩
theorem PlF.of {σ s1 s t : Sto} {p N pc : Nat} {th : Nat → Nat} {O : Nat → Prop} (e1 : Ex O σ s1) (hq : (zT s1 p).1 = 0) (hz : (∀ f, zI s1 f p = 0 ∧ zR s1 f p = none)) (hs : s = wT s1 p (7, 0)) (h : Plc s t p N pc th) : PlF σ t p N pc th := by
  obtain ⟨h1, h2, h3, h4, h5, h6, h7, h8, h9, h10⟩ := h
  subst hs
  have nw : ∀ c, (zT (wT s1 p (7, 0)) c).1 = 0 → (zT σ c).1 = 0 := fun c hc => e1.fresh ((Ex.refl (O := O)).nT hq |>.fresh hc)
  exact ⟨h2, e1.fresh hq, h3, nw _ h4, h5, fun j hj => ⟨(h6 j hj).1, (h6 j hj).2.1, nw _ (h6 j hj).2.2⟩, h7, (h8 707 (by decide) (by decide)).trans (hz 707).1, (h8 708 (by decide) (by decide)).trans (hz 708).1, h9, (h10 711 (by decide) (by decide)).trans (hz 711).2, (h10 712 (by decide) (by decide)).trans (hz 712).2⟩
set_option maxHeartbeats 4000000 in
theorem l_fill (l : Launch) {G : Gb} {a sy cn mc ms : Nat} {num size : Int32} {par : Option Nat} {σ : Sto} {FI : Nat → Int32} {FR : Nat → Option Nat} {Q : Option Value → Sto → Prop} (hsy : FR 504 = some sy) (hcn : FR 505 = some cn) (kk : ∀ s, CA σ s a FI FR → RB σ s sy cn 21 → Wp l G 3 mc ms (RX7, cX7_init, 5, none, true) 95 [(0, .ref a), (1, .int num), (2, va_rf par), (3, .int size)] [] s Q) : ∀ (m i : Nat) (s : Sto), i + m = 21 → CA σ s a FI FR → RB σ s sy cn i →
    Wp l G 3 mc ms (RX7, cX7_init, 5, none, true) 56 [(4, .int (nI i)), (0, .ref a), (1, .int num), (2, va_rf par), (3, .int size)] [] s Q := by
  intro m
  induction m with
  | zero =>
    intro i s hi h hb
    show Wp l G 3 mc ms (RX7, cX7_init, 5, none, true) 56 [(4, .int (nI i)), (0, .ref a), (1, .int num), (2, va_rf par), (3, .int size)] [] s _
    refine zp_iload dX7_init_56 (x := (nI i)) (List.mem_of_getElem? (i := 0) rfl) ?_
    refine zp_bipush dX7_init_58 (v := 21) (by decide) ?_
    refine zp_icmp_ge dX7_init_60 (tgt := 95) rfl (fun _ => ?_) (fun q => absurd ((nI_le' (j := 21) (by decide) (by omega)).mpr (by omega)) q)
    refine zp_lv [1, 2, 3, 4] rfl ?_
    obtain rfl : i = 21 := by omega
    exact kk s h hb
  | succ m ih =>
    intro i s hi h hb
    show Wp l G 3 mc ms (RX7, cX7_init, 5, none, true) 56 [(4, .int (nI i)), (0, .ref a), (1, .int num), (2, va_rf par), (3, .int size)] [] s _
    refine zp_iload dX7_init_56 (x := (nI i)) (List.mem_of_getElem? (i := 0) rfl) ?_
    refine zp_bipush dX7_init_58 (v := 21) (by decide) ?_
    refine zp_icmp_ge dX7_init_60 (tgt := 95) rfl (fun q => absurd q (fun q => by have := (nI_le' (j := 21) (by decide) (by omega)).mp q; omega)) (fun _ => ?_)
    refine zp_aload_n dX7_init_63 rfl (a := a) (List.mem_of_getElem? (i := 1) rfl) ?_
    refine zp_getRv dX7_init_64 fl_X7_25 h.2.1 (b := sy) ((h.2.2.2 504).trans hsy) ?_
    refine zp_iload dX7_init_67 (x := (nI i)) (List.mem_of_getElem? (i := 0) rfl) ?_
    refine zp_iload dX7_init_69 (x := (nI i)) (List.mem_of_getElem? (i := 0) rfl) ?_
    refine zp_callS (st := [.int (nI i), .ref sy]) (mc2 := mc) (ms2 := ms) dX7_init_71 (c_X7_firstValue l G i _ (by omega)) cl_X7_32 st_X7_firstValue rfl rfl (by omega) (by omega) (by omega) (Nat.le_of_ble_eq_true rfl) ?_
    rintro _ s1 ⟨rfl, hs1⟩; obtain rfl := hs1.symm
    refine zp_iastore dX7_init_74 hb.1 (j := i) (nI_clamp (by omega)) (vp_in_nI (by omega) (by decide)) ?_
    refine zp_aload_n dX7_init_75 rfl (a := a) (List.mem_of_getElem? (i := 1) rfl) ?_
    refine zp_getRv dX7_init_76 fl_X7_29 (tA h.2.1) (b := cn) (rRA.trans ((h.2.2.2 505).trans hcn)) ?_
    refine zp_iload dX7_init_79 (x := (nI i)) (List.mem_of_getElem? (i := 0) rfl) ?_
    refine zp_aload_n dX7_init_81 rfl (a := a) (List.mem_of_getElem? (i := 1) rfl) ?_
    refine zp_getRv dX7_init_82 fl_X7_25 (tA h.2.1) (b := sy) (rRA.trans ((h.2.2.2 504).trans hsy)) ?_
    refine zp_iload dX7_init_85 (x := (nI i)) (List.mem_of_getElem? (i := 0) rfl) ?_
    refine zp_iald_v dX7_init_87 (tA hb.1) (Or.inl rfl) (j := i) (nI_clamp (by omega)) (vp_in_nI (by omega) (by decide)) (v := (fv i)) rAe ?_
    refine zp_iastore dX7_init_88 (tA hb.2.1) (j := i) (nI_clamp (by omega)) (vp_in_nI (by omega) (by decide)) ?_
    refine zp_iinc dX7_init_89 (k1 := 0) (x := (nI i)) rfl (v := (nI (i + 1))) (nI_1 i) (Nat.le_of_ble_eq_true rfl) (lv2 := [(4, .int (nI (i + 1))), (0, .ref a), (1, .int num), (2, va_rf par), (3, .int size)]) rfl ?_
    refine zp_goto dX7_init_92 (tgt := 56) rfl ?_
    exact ih (i + 1) _ (by omega) ((h.A hb.2.2.1).A hb.2.2.2.1) hb.step
/-- a node as it is made -/
def NwN (σ s : Sto) (a : Nat) (FI : Nat → Int32) (FR : Nat → Option Nat) (tx : Bool) (sy cn le cu : Nat) (pl pc : Bool → Nat) (th : Bool → Nat → Nat) : Prop :=
  CA σ s a FI FR ∧ RwF σ s sy cn le cu (wd20 tx) ∧ (∀ b, PlF σ s (pl b) (pcn tx) (pc b) (th b)) ∧ pl false ≠ pl true ∧ (∀ i j, i < pcn tx → j < pcn tx → th false i ≠ th true j)
def nFI (num dep size : Int32) : Nat → Int32 := uI (uI (uI (fun _ => 0) 500 num) 502 dep) 503 size
def nFR (G : Gb) (par : Option Nat) (tx : Bool) (sy cn le cu p0 p1 : Nat) : Nat → Option Nat := uR (uR (uR (uR (uR (uR (uR (uR (fun _ => none) 501 par) 504 (some sy)) 505 (some cn)) 506 (some le)) 507 (some cu)) 508 (some p0)) 509 (some p1)) 514 (some (G.2.2.1 (kdn tx)))
set_option maxRecDepth 100000 in
set_option maxHeartbeats 4000000 in
theorem c_X7_init0 (l : Launch) (G : Gb) (a : Nat) (num : Int32) (σ : Sto) (hA : zT σ a = (5, 0)) (hz : ∀ g, zI σ g a = 0 ∧ zR σ g a = none) : Ct l G 3 12 108 yX7_init mX7_init [.ref a, .int num, .null, .int 0] σ (fun v s => v = none ∧ ∃ sy cn le cu pl pc th, NwN σ s a (nFI num 0 0) (nFR G none false sy cn le cu (pl false) (pl true)) false sy cn le cu pl pc th) := by
  refine Ct.of (by decide) rfl (Nat.le_of_ble_eq_true rfl) (fun _ => rfl) ?_
  show Wp l G 3 12 108 (RX7, cX7_init, 5, none, true) 0 [(0, .ref a), (1, .int num), (2, .null), (3, .int 0)] [] σ _
  refine zp_aload_n dX7_init_0 rfl (a := a) (List.mem_of_getElem? (i := 0) rfl) ?_
  refine zp_objInit dX7_init_1 wd_35 wd_28 wd_29 (by decide) (Nat.le_of_ble_eq_true rfl) ?_
  refine zp_aload_n dX7_init_4 rfl (a := a) (List.mem_of_getElem? (i := 0) rfl) ?_
  refine zp_iload_n dX7_init_5 rfl (x := num) (List.mem_of_getElem? (i := 1) rfl) ?_
  refine zp_putIf dX7_init_6 fl_X7_9 rfl (zOwn_of (r0 := (RX7, TX7, 20)) rfl rfl) hA ?_
  refine zp_aload_n dX7_init_9 rfl (a := a) (List.mem_of_getElem? (i := 0) rfl) ?_
  refine zp_aloado_n dX7_init_10 rfl (r := none) (v := .null) rfl (List.mem_of_getElem? (i := 2) rfl) ?_
  refine zp_putRf dX7_init_11 fl_X7_15 rfl (zOwn_of (r0 := (RX7, TX7, 20)) rfl rfl) (tI hA) (r := none) rfl zfit_ref ?_
  refine zp_aload_n dX7_init_14 rfl (a := a) (List.mem_of_getElem? (i := 0) rfl) ?_
  refine zp_aloado_n dX7_init_15 rfl (r := none) (v := .null) rfl (List.mem_of_getElem? (i := 2) rfl) ?_
  refine zp_nonnullF dX7_init_16 (tgt := 23) rfl ?_
  refine zp_iconst dX7_init_19 (v := 0) (by decide) ?_
  refine zp_goto dX7_init_20 (tgt := 29) rfl ?_
  refine zp_putIf dX7_init_29 fl_X7_19 rfl (zOwn_of (r0 := (RX7, TX7, 20)) rfl rfl) (tR (tI hA)) ?_
  refine zp_aload_n dX7_init_32 rfl (a := a) (List.mem_of_getElem? (i := 0) rfl) ?_
  refine zp_iload_n dX7_init_33 rfl (x := 0) (List.mem_of_getElem? (i := 3) rfl) ?_
  refine zp_putIf dX7_init_34 fl_X7_22 rfl (zOwn_of (r0 := (RX7, TX7, 20)) rfl rfl) (tI (tR (tI hA))) ?_
  refine zp_aload_n dX7_init_37 rfl (a := a) (List.mem_of_getElem? (i := 0) rfl) ?_
  refine zp_bipush dX7_init_38 (v := 21) (by decide) ?_
  refine zp_newI (mc2 := 11) (ms2 := 87) (N := 21) dX7_init_40 wd_84 (by decide) (by decide) (by decide) (by omega) (by omega) (fun q40 hq40 => ?_)
  refine zp_putRf dX7_init_42 fl_X7_25 rfl (zOwn_of (r0 := (RX7, TX7, 20)) rfl rfl) (zT_new hq40 (tI (tI (tR (tI hA))))) (r := some q40) rfl zfit_arr ?_
  refine zp_aload_n dX7_init_45 rfl (a := a) (List.mem_of_getElem? (i := 0) rfl) ?_
  refine zp_bipush dX7_init_46 (v := 21) (by decide) ?_
  refine zp_newI (mc2 := 10) (ms2 := 66) (N := 21) dX7_init_48 wd_84 (by decide) (by decide) (by decide) (by omega) (by omega) (fun q48 hq48 => ?_)
  refine zp_putRf dX7_init_50 fl_X7_29 rfl (zOwn_of (r0 := (RX7, TX7, 20)) rfl rfl) (zT_new hq48 (tR (zT_new hq40 (tI (tI (tR (tI hA))))))) (r := some q48) rfl zfit_arr ?_
  have hc0 : CA σ σ a (fun _ => 0) (fun _ => none) := ⟨Ex.refl, hA, fun g => (hz g).1, fun g => (hz g).2⟩
  refine zp_gen (fun s => CA σ s a (uI (uI (uI (fun _ => 0) 500 num) 502 0) 503 0) (uR (uR (uR (fun _ => none) 501 none) 504 (some q40)) 505 (some q48)) ∧ RB σ s q40 q48 0) ⟨((((((((hc0.I).R).I).I).T hq40).R).T hq48).R), zT_new hq48 zT_self, zT_self, hq40, ((((((hc0.I).R).I).I).T hq40).R).1.fresh hq48, fun q => ?_, fun t ht => absurd ht (Nat.not_lt_zero _)⟩ (fun s1 hs => ?_)
  · rw [← q] at hq48
    have e := (zT_self (σ := wI (wI (wR (wI σ 500 a num) 501 a none) 502 a 0) 503 a 0) (q := q40) (t := (20, 21)))
    exact absurd (hq48.symm.trans (congrArg Prod.fst e)) (by decide)
  obtain ⟨h1, hb1⟩ := hs
  refine zp_iconst dX7_init_53 (v := 0) (by decide) ?_
  refine zp_istore dX7_init_54 (Nat.le_of_ble_eq_true rfl) (lv2 := [(4, .int 0), (0, .ref a), (1, .int num), (2, .null), (3, .int 0)]) rfl ?_
  refine l_fill l (par := none) (sy := q40) (cn := q48) rfl rfl (fun s2 h2 hb2 => ?_) 21 0 s1 (by omega) h1 hb1
  show Wp l G 3 10 66 (RX7, cX7_init, 5, none, true) 95 [(0, .ref a), (1, .int num), (2, .null), (3, .int 0)] [] s2 _
  refine zp_iload_n dX7_init_95 rfl (x := 0) (List.mem_of_getElem? (i := 3) rfl) ?_
  refine zp_if_le dX7_init_96 (tgt := 104) rfl (fun _ => ?_) (fun q => absurd (by decide) q)
  refine zp_iconst dX7_init_104 (v := 0) (by decide) ?_
  refine zp_istore dX7_init_105 (Nat.le_of_ble_eq_true rfl) (lv2 := [(4, .int 0), (0, .ref a), (1, .int num), (2, .null), (3, .int 0)]) rfl ?_
  refine zp_aload_n dX7_init_107 rfl (a := a) (List.mem_of_getElem? (i := 1) rfl) ?_
  refine zp_iload dX7_init_108 (x := 0) (List.mem_of_getElem? (i := 0) rfl) ?_
  refine zp_newI (mc2 := 9) (ms2 := 66) (N := 0) dX7_init_110 wd_84 (by decide) (by decide) (by decide) (by omega) (by omega) (fun q110 hq110 => ?_)
  refine zp_putRf dX7_init_112 fl_X7_36 rfl (zOwn_of (r0 := (RX7, TX7, 20)) rfl rfl) (zT_new hq110 h2.2.1) (r := some q110) rfl zfit_arr ?_
  refine zp_aload_n dX7_init_115 rfl (a := a) (List.mem_of_getElem? (i := 1) rfl) ?_
  refine zp_iload dX7_init_116 (x := 0) (List.mem_of_getElem? (i := 0) rfl) ?_
  refine zp_zp0 (fun z2 => ?_)
  refine zp_newI (mc2 := 8) (ms2 := 66) (N := 0) dX7_init_118 wd_84 (by decide) (by decide) (by decide) (by omega) (by omega) (fun q118 hq118 => ?_)
  have hz118 : ∀ i, zA (wR (wT s2 q110 (20, 0)) 506 a (some q110)) q118 i = 0 := fun i => ((z2 q118 hq118).2 i).1
  refine zp_putRf dX7_init_120 fl_X7_39 rfl (zOwn_of (r0 := (RX7, TX7, 20)) rfl rfl) (zT_new hq118 (tR (zT_new hq110 h2.2.1))) (r := some q118) rfl zfit_arr ?_
  refine zp_gen (fun s => CA σ s a (uI (uI (uI (fun _ => 0) 500 num) 502 0) 503 0) (uR (uR (uR (uR (uR (fun _ => none) 501 none) 504 (some q40)) 505 (some q48)) 506 (some q110)) 507 (some q118)) ∧ RwF σ s q40 q48 q110 q118 0) ⟨((((h2.T hq110).R).T hq118).R), ?_⟩ (fun s3 hs => ?_)
  · have e1 : Ex (fun c => c = a) s2 (wR (wT (wR (wT s2 q110 (20, 0)) 506 a (some q110)) q118 (20, 0)) 507 a (some q118)) := ((((Ex.refl (O := fun c => c = a)).nT hq110).nR (Or.inr rfl)).nT hq118).nR (Or.inr rfl)
    have hO : ∀ c, c = a → (zT s2 c).1 ≠ 20 := fun c hc => by rw [hc, h2.2.1]; decide
    have k118 : (zT s2 q118).1 = 0 := ((Ex.refl (O := fun c => c = a) (σ := s2)).nT hq110 (t := (20, 0))).fresh hq118
    refine ⟨hb2.ex e1 hO, zT_new hq118 zT_self, zT_self, h2.1.fresh hq110, h2.1.fresh k118, ⟨fun q => ?_, fun q => ?_, fun q => ?_, fun q => ?_, fun q => ?_⟩, hz118⟩
    · rw [← q, hb2.1] at hq110; exact absurd hq110 (by decide)
    · rw [← q, hb2.1] at k118; exact absurd k118 (by decide)
    · rw [← q, hb2.2.1] at hq110; exact absurd hq110 (by decide)
    · rw [← q, hb2.2.1] at k118; exact absurd k118 (by decide)
    · rw [← q] at hq118
      exact absurd (hq118.symm.trans (congrArg Prod.fst (zT_self (σ := s2) (q := q110) (t := (20, 0))))) (by decide)
  obtain ⟨h3, hr3⟩ := hs
  refine zp_zp0 (fun z3 => ?_)
  refine zp_aload_n dX7_init_123 rfl (a := a) (List.mem_of_getElem? (i := 1) rfl) ?_
  refine zp_new (c0 := 6) (mc2 := 7) (ms2 := 46) dX7_init_124 rfl wd_39 wd_40 wd_3 (by omega) (by show _ + 20 ≤ _; omega) (fun q124 hq124 => ?_)
  refine zp_dup dX7_init_127 rfl ?_
  refine zp_iload_n dX7_init_128 rfl (x := 0) (List.mem_of_getElem? (i := 4) rfl) ?_
  refine zp_if_le dX7_init_129 (tgt := 137) rfl (fun _ => ?_) (fun q => absurd (by decide) q)
  refine zp_iconst dX7_init_137 (v := 1) (by decide) ?_
  refine zp_callI (st := [.ref q124, .ref a]) (mc2 := 4) (ms2 := 33) dX7_init_138 (c_X9_init l G q124 1 _ zT_self (by decide)) cl_X7_44 rfl im_X9_init rfl rfl rfl (by omega) (by omega) (by omega) (Nat.le_of_ble_eq_true rfl) ?_
  rintro _ s4 ⟨rfl, pc4, th4, hp4⟩
  refine zp_putRf dX7_init_141 fl_X7_47 rfl (zOwn_of (r0 := (RX7, TX7, 20)) rfl rfl) (hp4.1.T (zT_new hq124 h3.2.1)) (r := some q124) rfl zfit_ref ?_
  have n124 : a ≠ q124 := fun q => by rw [← q, h3.2.1] at hq124; exact absurd hq124 (by decide)
  have e35 : Ex (fun c => c = a) s3 (wR s4 508 a (some q124)) := (((Ex.refl (O := fun c => c = a)).nT hq124).ct hp4.1 (fun c hc => Or.inl (by rw [hc]; exact hq124))).nR (Or.inr rfl)
  have pf4 : PlF σ s4 q124 1 pc4 th4 := PlF.of h3.1 hq124 (fun f => (z3 q124 hq124).1 f) rfl hp4
  have e45 : Ex (fun c => c = a) s4 (wR s4 508 a (some q124)) := Ex.refl.nR (Or.inr rfl)
  have h4a : zT s4 a = (5, 0) := hp4.1.T (zT_new hq124 h3.2.1)
  refine zp_gen (fun s => CA σ s a (uI (uI (uI (fun _ => 0) 500 num) 502 0) 503 0) (uR (uR (uR (uR (uR (uR (fun _ => none) 501 none) 504 (some q40)) 505 (some q48)) 506 (some q110)) 507 (some q118)) 508 (some q124)) ∧ RwF σ s q40 q48 q110 q118 0 ∧ PlF σ s q124 1 pc4 th4) ⟨((h3.T hq124).ct hp4.1 (h3.1.fresh hq124) n124).R, hr3.ex e35 (fun c hc => by rw [hc, h3.2.1]; decide), pf4.ex e45 (fun c hc => by rw [hc, h4a]; decide)⟩ (fun s5 hs => ?_)
  obtain ⟨h5, hr5, pf5⟩ := hs
  refine zp_zp0 (fun z5 => ?_)
  refine zp_aload_n dX7_init_144 rfl (a := a) (List.mem_of_getElem? (i := 1) rfl) ?_
  refine zp_new (c0 := 6) (mc2 := 3) (ms2 := 13) dX7_init_145 rfl wd_39 wd_40 wd_3 (by omega) (by show _ + 20 ≤ _; omega) (fun q145 hq145 => ?_)
  refine zp_dup dX7_init_148 rfl ?_
  refine zp_iload_n dX7_init_149 rfl (x := 0) (List.mem_of_getElem? (i := 4) rfl) ?_
  refine zp_if_le dX7_init_150 (tgt := 158) rfl (fun _ => ?_) (fun q => absurd (by decide) q)
  refine zp_iconst dX7_init_158 (v := 1) (by decide) ?_
  refine zp_callI (st := [.ref q145, .ref a]) (mc2 := 0) (ms2 := 0) dX7_init_159 (c_X9_init l G q145 1 _ zT_self (by decide)) cl_X7_44 rfl im_X9_init rfl rfl rfl (by omega) (by omega) (by omega) (Nat.le_of_ble_eq_true rfl) ?_
  rintro _ s6 ⟨rfl, pc6, th6, hp6⟩
  refine zp_putRf dX7_init_162 fl_X7_51 rfl (zOwn_of (r0 := (RX7, TX7, 20)) rfl rfl) (hp6.1.T (zT_new hq145 h5.2.1)) (r := some q145) rfl zfit_ref ?_
  refine zp_aload_n dX7_init_165 rfl (a := a) (List.mem_of_getElem? (i := 1) rfl) ?_
  refine zp_iload_n dX7_init_166 rfl (x := 0) (List.mem_of_getElem? (i := 4) rfl) ?_
  refine zp_if_le dX7_init_167 (tgt := 176) rfl (fun _ => ?_) (fun q => absurd (by decide) q)
  refine zp_kind (i := 0) dX7_init_176 (by decide) rfl wd_190 ?_
  refine zp_putR dX7_init_179 fl_X7_63 (tR (hp6.1.T (zT_new hq145 h5.2.1))) (r := some (G.2.2.1 0)) rfl ?_
  refine zp_vret rfl dX7_init_182 ?_
  have n145 : a ≠ q145 := fun q => by rw [← q, h5.2.1] at hq145; exact absurd hq145 (by decide)
  have e57 : Ex (fun c => c = a) s5 (wR (wR s6 509 a (some q145)) 514 a (some (G.2.2.1 (kdn false)))) := ((((Ex.refl (O := fun c => c = a)).nT hq145).ct hp6.1 (fun c hc => Or.inl (by rw [hc]; exact hq145))).nR (Or.inr rfl)).nR (Or.inr rfl)
  have pf6 : PlF σ s6 q145 1 pc6 th6 := PlF.of h5.1 hq145 (fun f => (z5 q145 hq145).1 f) rfl hp6
  have h6a : zT s6 a = (5, 0) := hp6.1.T (zT_new hq145 h5.2.1)
  have e67 : Ex (fun c => c = a) s6 (wR (wR s6 509 a (some q145)) 514 a (some (G.2.2.1 (kdn false)))) := ((Ex.refl (O := fun c => c = a)).nR (Or.inr rfl)).nR (Or.inr rfl)
  refine ⟨rfl, q40, q48, q110, q118, (fun b => if b then q145 else q124), (fun b => if b then pc6 else pc4), (fun b => if b then th6 else th4), ((((h5.T hq145).ct hp6.1 (h5.1.fresh hq145) n145).R).R), hr5.ex e57 (fun c hc => by rw [hc, h5.2.1]; decide), fun b => ?_, fun q => ?_, fun i j hi hj q => ?_⟩
  · cases b
    · exact pf5.ex e57 (fun c hc => by rw [hc, h5.2.1]; decide)
    · exact pf6.ex e67 (fun c hc => by rw [hc, h6a]; decide)
  · have q : q124 = q145 := q
    rw [← q, pf5.1] at hq145; exact absurd hq145 (by decide)
  · have q : th4 i = th6 j := q
    have k := (hp6.2.2.2.2.2.1 j hj).2.2
    rw [← q] at k
    have k2 := (Ex.refl (O := fun c => c = a) (σ := s5)).nT hq145 (t := (7, 0)) |>.fresh k
    rw [(pf5.2.2.2.2.2.1 i hi).2.1] at k2
    exact absurd k2 (by decide)
set_option maxRecDepth 100000 in
set_option maxHeartbeats 4000000 in
theorem c_X7_initB (l : Launch) (G : Gb) (a : Nat) (num : Int32) (p np : Nat) (σ : Sto) (hA : zT σ a = (5, 0)) (hz : ∀ g, zI σ g a = 0 ∧ zR σ g a = none) (hP : zT σ p = (5, np)) (hpa : p ≠ a) : Ct l G 3 12 108 yX7_init mX7_init [.ref a, .int num, .ref p, .int 0] σ (fun v s => v = none ∧ ∃ sy cn le cu pl pc th, NwN σ s a (nFI num (zI σ 502 p + 1) 0) (nFR G (some p) false sy cn le cu (pl false) (pl true)) false sy cn le cu pl pc th) := by
  refine Ct.of (by decide) rfl (Nat.le_of_ble_eq_true rfl) (fun _ => rfl) ?_
  show Wp l G 3 12 108 (RX7, cX7_init, 5, none, true) 0 [(0, .ref a), (1, .int num), (2, .ref p), (3, .int 0)] [] σ _
  refine zp_aload_n dX7_init_0 rfl (a := a) (List.mem_of_getElem? (i := 0) rfl) ?_
  refine zp_objInit dX7_init_1 wd_35 wd_28 wd_29 (by decide) (Nat.le_of_ble_eq_true rfl) ?_
  refine zp_aload_n dX7_init_4 rfl (a := a) (List.mem_of_getElem? (i := 0) rfl) ?_
  refine zp_iload_n dX7_init_5 rfl (x := num) (List.mem_of_getElem? (i := 1) rfl) ?_
  refine zp_putIf dX7_init_6 fl_X7_9 rfl (zOwn_of (r0 := (RX7, TX7, 20)) rfl rfl) hA ?_
  refine zp_aload_n dX7_init_9 rfl (a := a) (List.mem_of_getElem? (i := 0) rfl) ?_
  refine zp_aload_n dX7_init_10 rfl (a := p) (List.mem_of_getElem? (i := 2) rfl) ?_
  refine zp_putRf dX7_init_11 fl_X7_15 rfl (zOwn_of (r0 := (RX7, TX7, 20)) rfl rfl) (tI hA) (r := some p) rfl zfit_ref ?_
  refine zp_aload_n dX7_init_14 rfl (a := a) (List.mem_of_getElem? (i := 0) rfl) ?_
  refine zp_aload_n dX7_init_15 rfl (a := p) (List.mem_of_getElem? (i := 2) rfl) ?_
  refine zp_nonnullT dX7_init_16 (tgt := 23) rfl ?_
  refine zp_aload_n dX7_init_23 rfl (a := p) (List.mem_of_getElem? (i := 2) rfl) ?_
  refine zp_getIv dX7_init_24 fl_X7_19 (tR (tI hP)) (v := (zI σ 502 p)) (by rw [rIR, rIb hpa]) ?_
  refine zp_iconst dX7_init_27 (v := 1) (by decide) ?_
  refine zp_iadd dX7_init_28 ?_
  refine zp_putIf dX7_init_29 fl_X7_19 rfl (zOwn_of (r0 := (RX7, TX7, 20)) rfl rfl) (tR (tI hA)) ?_
  refine zp_aload_n dX7_init_32 rfl (a := a) (List.mem_of_getElem? (i := 0) rfl) ?_
  refine zp_iload_n dX7_init_33 rfl (x := 0) (List.mem_of_getElem? (i := 3) rfl) ?_
  refine zp_putIf dX7_init_34 fl_X7_22 rfl (zOwn_of (r0 := (RX7, TX7, 20)) rfl rfl) (tI (tR (tI hA))) ?_
  refine zp_aload_n dX7_init_37 rfl (a := a) (List.mem_of_getElem? (i := 0) rfl) ?_
  refine zp_bipush dX7_init_38 (v := 21) (by decide) ?_
  refine zp_newI (mc2 := 11) (ms2 := 87) (N := 21) dX7_init_40 wd_84 (by decide) (by decide) (by decide) (by omega) (by omega) (fun q40 hq40 => ?_)
  refine zp_putRf dX7_init_42 fl_X7_25 rfl (zOwn_of (r0 := (RX7, TX7, 20)) rfl rfl) (zT_new hq40 (tI (tI (tR (tI hA))))) (r := some q40) rfl zfit_arr ?_
  refine zp_aload_n dX7_init_45 rfl (a := a) (List.mem_of_getElem? (i := 0) rfl) ?_
  refine zp_bipush dX7_init_46 (v := 21) (by decide) ?_
  refine zp_newI (mc2 := 10) (ms2 := 66) (N := 21) dX7_init_48 wd_84 (by decide) (by decide) (by decide) (by omega) (by omega) (fun q48 hq48 => ?_)
  refine zp_putRf dX7_init_50 fl_X7_29 rfl (zOwn_of (r0 := (RX7, TX7, 20)) rfl rfl) (zT_new hq48 (tR (zT_new hq40 (tI (tI (tR (tI hA))))))) (r := some q48) rfl zfit_arr ?_
  have hc0 : CA σ σ a (fun _ => 0) (fun _ => none) := ⟨Ex.refl, hA, fun g => (hz g).1, fun g => (hz g).2⟩
  refine zp_gen (fun s => CA σ s a (uI (uI (uI (fun _ => 0) 500 num) 502 (zI σ 502 p + 1)) 503 0) (uR (uR (uR (fun _ => none) 501 (some p)) 504 (some q40)) 505 (some q48)) ∧ RB σ s q40 q48 0) ⟨((((((((hc0.I).R).I).I).T hq40).R).T hq48).R), zT_new hq48 zT_self, zT_self, hq40, ((((((hc0.I).R).I).I).T hq40).R).1.fresh hq48, fun q => ?_, fun t ht => absurd ht (Nat.not_lt_zero _)⟩ (fun s1 hs => ?_)
  · rw [← q] at hq48
    have e := (zT_self (σ := wI (wI (wR (wI σ 500 a num) 501 a (some p)) 502 a (zI σ 502 p + 1)) 503 a 0) (q := q40) (t := (20, 21)))
    exact absurd (hq48.symm.trans (congrArg Prod.fst e)) (by decide)
  obtain ⟨h1, hb1⟩ := hs
  refine zp_iconst dX7_init_53 (v := 0) (by decide) ?_
  refine zp_istore dX7_init_54 (Nat.le_of_ble_eq_true rfl) (lv2 := [(4, .int 0), (0, .ref a), (1, .int num), (2, .ref p), (3, .int 0)]) rfl ?_
  refine l_fill l (par := (some p)) (sy := q40) (cn := q48) rfl rfl (fun s2 h2 hb2 => ?_) 21 0 s1 (by omega) h1 hb1
  show Wp l G 3 10 66 (RX7, cX7_init, 5, none, true) 95 [(0, .ref a), (1, .int num), (2, .ref p), (3, .int 0)] [] s2 _
  refine zp_iload_n dX7_init_95 rfl (x := 0) (List.mem_of_getElem? (i := 3) rfl) ?_
  refine zp_if_le dX7_init_96 (tgt := 104) rfl (fun _ => ?_) (fun q => absurd (by decide) q)
  refine zp_iconst dX7_init_104 (v := 0) (by decide) ?_
  refine zp_istore dX7_init_105 (Nat.le_of_ble_eq_true rfl) (lv2 := [(4, .int 0), (0, .ref a), (1, .int num), (2, .ref p), (3, .int 0)]) rfl ?_
  refine zp_aload_n dX7_init_107 rfl (a := a) (List.mem_of_getElem? (i := 1) rfl) ?_
  refine zp_iload dX7_init_108 (x := 0) (List.mem_of_getElem? (i := 0) rfl) ?_
  refine zp_newI (mc2 := 9) (ms2 := 66) (N := 0) dX7_init_110 wd_84 (by decide) (by decide) (by decide) (by omega) (by omega) (fun q110 hq110 => ?_)
  refine zp_putRf dX7_init_112 fl_X7_36 rfl (zOwn_of (r0 := (RX7, TX7, 20)) rfl rfl) (zT_new hq110 h2.2.1) (r := some q110) rfl zfit_arr ?_
  refine zp_aload_n dX7_init_115 rfl (a := a) (List.mem_of_getElem? (i := 1) rfl) ?_
  refine zp_iload dX7_init_116 (x := 0) (List.mem_of_getElem? (i := 0) rfl) ?_
  refine zp_zp0 (fun z2 => ?_)
  refine zp_newI (mc2 := 8) (ms2 := 66) (N := 0) dX7_init_118 wd_84 (by decide) (by decide) (by decide) (by omega) (by omega) (fun q118 hq118 => ?_)
  have hz118 : ∀ i, zA (wR (wT s2 q110 (20, 0)) 506 a (some q110)) q118 i = 0 := fun i => ((z2 q118 hq118).2 i).1
  refine zp_putRf dX7_init_120 fl_X7_39 rfl (zOwn_of (r0 := (RX7, TX7, 20)) rfl rfl) (zT_new hq118 (tR (zT_new hq110 h2.2.1))) (r := some q118) rfl zfit_arr ?_
  refine zp_gen (fun s => CA σ s a (uI (uI (uI (fun _ => 0) 500 num) 502 (zI σ 502 p + 1)) 503 0) (uR (uR (uR (uR (uR (fun _ => none) 501 (some p)) 504 (some q40)) 505 (some q48)) 506 (some q110)) 507 (some q118)) ∧ RwF σ s q40 q48 q110 q118 0) ⟨((((h2.T hq110).R).T hq118).R), ?_⟩ (fun s3 hs => ?_)
  · have e1 : Ex (fun c => c = a) s2 (wR (wT (wR (wT s2 q110 (20, 0)) 506 a (some q110)) q118 (20, 0)) 507 a (some q118)) := ((((Ex.refl (O := fun c => c = a)).nT hq110).nR (Or.inr rfl)).nT hq118).nR (Or.inr rfl)
    have hO : ∀ c, c = a → (zT s2 c).1 ≠ 20 := fun c hc => by rw [hc, h2.2.1]; decide
    have k118 : (zT s2 q118).1 = 0 := ((Ex.refl (O := fun c => c = a) (σ := s2)).nT hq110 (t := (20, 0))).fresh hq118
    refine ⟨hb2.ex e1 hO, zT_new hq118 zT_self, zT_self, h2.1.fresh hq110, h2.1.fresh k118, ⟨fun q => ?_, fun q => ?_, fun q => ?_, fun q => ?_, fun q => ?_⟩, hz118⟩
    · rw [← q, hb2.1] at hq110; exact absurd hq110 (by decide)
    · rw [← q, hb2.1] at k118; exact absurd k118 (by decide)
    · rw [← q, hb2.2.1] at hq110; exact absurd hq110 (by decide)
    · rw [← q, hb2.2.1] at k118; exact absurd k118 (by decide)
    · rw [← q] at hq118
      exact absurd (hq118.symm.trans (congrArg Prod.fst (zT_self (σ := s2) (q := q110) (t := (20, 0))))) (by decide)
  obtain ⟨h3, hr3⟩ := hs
  refine zp_zp0 (fun z3 => ?_)
  refine zp_aload_n dX7_init_123 rfl (a := a) (List.mem_of_getElem? (i := 1) rfl) ?_
  refine zp_new (c0 := 6) (mc2 := 7) (ms2 := 46) dX7_init_124 rfl wd_39 wd_40 wd_3 (by omega) (by show _ + 20 ≤ _; omega) (fun q124 hq124 => ?_)
  refine zp_dup dX7_init_127 rfl ?_
  refine zp_iload_n dX7_init_128 rfl (x := 0) (List.mem_of_getElem? (i := 4) rfl) ?_
  refine zp_if_le dX7_init_129 (tgt := 137) rfl (fun _ => ?_) (fun q => absurd (by decide) q)
  refine zp_iconst dX7_init_137 (v := 1) (by decide) ?_
  refine zp_callI (st := [.ref q124, .ref a]) (mc2 := 4) (ms2 := 33) dX7_init_138 (c_X9_init l G q124 1 _ zT_self (by decide)) cl_X7_44 rfl im_X9_init rfl rfl rfl (by omega) (by omega) (by omega) (Nat.le_of_ble_eq_true rfl) ?_
  rintro _ s4 ⟨rfl, pc4, th4, hp4⟩
  refine zp_putRf dX7_init_141 fl_X7_47 rfl (zOwn_of (r0 := (RX7, TX7, 20)) rfl rfl) (hp4.1.T (zT_new hq124 h3.2.1)) (r := some q124) rfl zfit_ref ?_
  have n124 : a ≠ q124 := fun q => by rw [← q, h3.2.1] at hq124; exact absurd hq124 (by decide)
  have e35 : Ex (fun c => c = a) s3 (wR s4 508 a (some q124)) := (((Ex.refl (O := fun c => c = a)).nT hq124).ct hp4.1 (fun c hc => Or.inl (by rw [hc]; exact hq124))).nR (Or.inr rfl)
  have pf4 : PlF σ s4 q124 1 pc4 th4 := PlF.of h3.1 hq124 (fun f => (z3 q124 hq124).1 f) rfl hp4
  have e45 : Ex (fun c => c = a) s4 (wR s4 508 a (some q124)) := Ex.refl.nR (Or.inr rfl)
  have h4a : zT s4 a = (5, 0) := hp4.1.T (zT_new hq124 h3.2.1)
  refine zp_gen (fun s => CA σ s a (uI (uI (uI (fun _ => 0) 500 num) 502 (zI σ 502 p + 1)) 503 0) (uR (uR (uR (uR (uR (uR (fun _ => none) 501 (some p)) 504 (some q40)) 505 (some q48)) 506 (some q110)) 507 (some q118)) 508 (some q124)) ∧ RwF σ s q40 q48 q110 q118 0 ∧ PlF σ s q124 1 pc4 th4) ⟨((h3.T hq124).ct hp4.1 (h3.1.fresh hq124) n124).R, hr3.ex e35 (fun c hc => by rw [hc, h3.2.1]; decide), pf4.ex e45 (fun c hc => by rw [hc, h4a]; decide)⟩ (fun s5 hs => ?_)
  obtain ⟨h5, hr5, pf5⟩ := hs
  refine zp_zp0 (fun z5 => ?_)
  refine zp_aload_n dX7_init_144 rfl (a := a) (List.mem_of_getElem? (i := 1) rfl) ?_
  refine zp_new (c0 := 6) (mc2 := 3) (ms2 := 13) dX7_init_145 rfl wd_39 wd_40 wd_3 (by omega) (by show _ + 20 ≤ _; omega) (fun q145 hq145 => ?_)
  refine zp_dup dX7_init_148 rfl ?_
  refine zp_iload_n dX7_init_149 rfl (x := 0) (List.mem_of_getElem? (i := 4) rfl) ?_
  refine zp_if_le dX7_init_150 (tgt := 158) rfl (fun _ => ?_) (fun q => absurd (by decide) q)
  refine zp_iconst dX7_init_158 (v := 1) (by decide) ?_
  refine zp_callI (st := [.ref q145, .ref a]) (mc2 := 0) (ms2 := 0) dX7_init_159 (c_X9_init l G q145 1 _ zT_self (by decide)) cl_X7_44 rfl im_X9_init rfl rfl rfl (by omega) (by omega) (by omega) (Nat.le_of_ble_eq_true rfl) ?_
  rintro _ s6 ⟨rfl, pc6, th6, hp6⟩
  refine zp_putRf dX7_init_162 fl_X7_51 rfl (zOwn_of (r0 := (RX7, TX7, 20)) rfl rfl) (hp6.1.T (zT_new hq145 h5.2.1)) (r := some q145) rfl zfit_ref ?_
  refine zp_aload_n dX7_init_165 rfl (a := a) (List.mem_of_getElem? (i := 1) rfl) ?_
  refine zp_iload_n dX7_init_166 rfl (x := 0) (List.mem_of_getElem? (i := 4) rfl) ?_
  refine zp_if_le dX7_init_167 (tgt := 176) rfl (fun _ => ?_) (fun q => absurd (by decide) q)
  refine zp_kind (i := 0) dX7_init_176 (by decide) rfl wd_190 ?_
  refine zp_putR dX7_init_179 fl_X7_63 (tR (hp6.1.T (zT_new hq145 h5.2.1))) (r := some (G.2.2.1 0)) rfl ?_
  refine zp_vret rfl dX7_init_182 ?_
  have n145 : a ≠ q145 := fun q => by rw [← q, h5.2.1] at hq145; exact absurd hq145 (by decide)
  have e57 : Ex (fun c => c = a) s5 (wR (wR s6 509 a (some q145)) 514 a (some (G.2.2.1 (kdn false)))) := ((((Ex.refl (O := fun c => c = a)).nT hq145).ct hp6.1 (fun c hc => Or.inl (by rw [hc]; exact hq145))).nR (Or.inr rfl)).nR (Or.inr rfl)
  have pf6 : PlF σ s6 q145 1 pc6 th6 := PlF.of h5.1 hq145 (fun f => (z5 q145 hq145).1 f) rfl hp6
  have h6a : zT s6 a = (5, 0) := hp6.1.T (zT_new hq145 h5.2.1)
  have e67 : Ex (fun c => c = a) s6 (wR (wR s6 509 a (some q145)) 514 a (some (G.2.2.1 (kdn false)))) := ((Ex.refl (O := fun c => c = a)).nR (Or.inr rfl)).nR (Or.inr rfl)
  refine ⟨rfl, q40, q48, q110, q118, (fun b => if b then q145 else q124), (fun b => if b then pc6 else pc4), (fun b => if b then th6 else th4), ((((h5.T hq145).ct hp6.1 (h5.1.fresh hq145) n145).R).R), hr5.ex e57 (fun c hc => by rw [hc, h5.2.1]; decide), fun b => ?_, fun q => ?_, fun i j hi hj q => ?_⟩
  · cases b
    · exact pf5.ex e57 (fun c hc => by rw [hc, h5.2.1]; decide)
    · exact pf6.ex e67 (fun c hc => by rw [hc, h6a]; decide)
  · have q : q124 = q145 := q
    rw [← q, pf5.1] at hq145; exact absurd hq145 (by decide)
  · have q : th4 i = th6 j := q
    have k := (hp6.2.2.2.2.2.1 j hj).2.2
    rw [← q] at k
    have k2 := (Ex.refl (O := fun c => c = a) (σ := s5)).nT hq145 (t := (7, 0)) |>.fresh k
    rw [(pf5.2.2.2.2.2.1 i hi).2.1] at k2
    exact absurd k2 (by decide)
set_option maxRecDepth 100000 in
set_option maxHeartbeats 4000000 in
theorem c_X7_initT (l : Launch) (G : Gb) (a : Nat) (num : Int32) (p np : Nat) (size : Int32) (σ : Sto) (hA : zT σ a = (5, 0)) (hz : ∀ g, zI σ g a = 0 ∧ zR σ g a = none) (hP : zT σ p = (5, np)) (hpa : p ≠ a) (hs : 0 < size) : Ct l G 3 90 616 yX7_init mX7_init [.ref a, .int num, .ref p, .int size] σ (fun v s => v = none ∧ ∃ sy cn le cu pl pc th, NwN σ s a (nFI num (zI σ 502 p + 1) size) (nFR G (some p) true sy cn le cu (pl false) (pl true)) true sy cn le cu pl pc th) := by
  refine Ct.of (by decide) rfl (Nat.le_of_ble_eq_true rfl) (fun _ => rfl) ?_
  show Wp l G 3 90 616 (RX7, cX7_init, 5, none, true) 0 [(0, .ref a), (1, .int num), (2, .ref p), (3, .int size)] [] σ _
  refine zp_aload_n dX7_init_0 rfl (a := a) (List.mem_of_getElem? (i := 0) rfl) ?_
  refine zp_objInit dX7_init_1 wd_35 wd_28 wd_29 (by decide) (Nat.le_of_ble_eq_true rfl) ?_
  refine zp_aload_n dX7_init_4 rfl (a := a) (List.mem_of_getElem? (i := 0) rfl) ?_
  refine zp_iload_n dX7_init_5 rfl (x := num) (List.mem_of_getElem? (i := 1) rfl) ?_
  refine zp_putIf dX7_init_6 fl_X7_9 rfl (zOwn_of (r0 := (RX7, TX7, 20)) rfl rfl) hA ?_
  refine zp_aload_n dX7_init_9 rfl (a := a) (List.mem_of_getElem? (i := 0) rfl) ?_
  refine zp_aload_n dX7_init_10 rfl (a := p) (List.mem_of_getElem? (i := 2) rfl) ?_
  refine zp_putRf dX7_init_11 fl_X7_15 rfl (zOwn_of (r0 := (RX7, TX7, 20)) rfl rfl) (tI hA) (r := some p) rfl zfit_ref ?_
  refine zp_aload_n dX7_init_14 rfl (a := a) (List.mem_of_getElem? (i := 0) rfl) ?_
  refine zp_aload_n dX7_init_15 rfl (a := p) (List.mem_of_getElem? (i := 2) rfl) ?_
  refine zp_nonnullT dX7_init_16 (tgt := 23) rfl ?_
  refine zp_aload_n dX7_init_23 rfl (a := p) (List.mem_of_getElem? (i := 2) rfl) ?_
  refine zp_getIv dX7_init_24 fl_X7_19 (tR (tI hP)) (v := (zI σ 502 p)) (by rw [rIR, rIb hpa]) ?_
  refine zp_iconst dX7_init_27 (v := 1) (by decide) ?_
  refine zp_iadd dX7_init_28 ?_
  refine zp_putIf dX7_init_29 fl_X7_19 rfl (zOwn_of (r0 := (RX7, TX7, 20)) rfl rfl) (tR (tI hA)) ?_
  refine zp_aload_n dX7_init_32 rfl (a := a) (List.mem_of_getElem? (i := 0) rfl) ?_
  refine zp_iload_n dX7_init_33 rfl (x := size) (List.mem_of_getElem? (i := 3) rfl) ?_
  refine zp_putIf dX7_init_34 fl_X7_22 rfl (zOwn_of (r0 := (RX7, TX7, 20)) rfl rfl) (tI (tR (tI hA))) ?_
  refine zp_aload_n dX7_init_37 rfl (a := a) (List.mem_of_getElem? (i := 0) rfl) ?_
  refine zp_bipush dX7_init_38 (v := 21) (by decide) ?_
  refine zp_newI (mc2 := 89) (ms2 := 595) (N := 21) dX7_init_40 wd_84 (by decide) (by decide) (by decide) (by omega) (by omega) (fun q40 hq40 => ?_)
  refine zp_putRf dX7_init_42 fl_X7_25 rfl (zOwn_of (r0 := (RX7, TX7, 20)) rfl rfl) (zT_new hq40 (tI (tI (tR (tI hA))))) (r := some q40) rfl zfit_arr ?_
  refine zp_aload_n dX7_init_45 rfl (a := a) (List.mem_of_getElem? (i := 0) rfl) ?_
  refine zp_bipush dX7_init_46 (v := 21) (by decide) ?_
  refine zp_newI (mc2 := 88) (ms2 := 574) (N := 21) dX7_init_48 wd_84 (by decide) (by decide) (by decide) (by omega) (by omega) (fun q48 hq48 => ?_)
  refine zp_putRf dX7_init_50 fl_X7_29 rfl (zOwn_of (r0 := (RX7, TX7, 20)) rfl rfl) (zT_new hq48 (tR (zT_new hq40 (tI (tI (tR (tI hA))))))) (r := some q48) rfl zfit_arr ?_
  have hc0 : CA σ σ a (fun _ => 0) (fun _ => none) := ⟨Ex.refl, hA, fun g => (hz g).1, fun g => (hz g).2⟩
  refine zp_gen (fun s => CA σ s a (uI (uI (uI (fun _ => 0) 500 num) 502 (zI σ 502 p + 1)) 503 size) (uR (uR (uR (fun _ => none) 501 (some p)) 504 (some q40)) 505 (some q48)) ∧ RB σ s q40 q48 0) ⟨((((((((hc0.I).R).I).I).T hq40).R).T hq48).R), zT_new hq48 zT_self, zT_self, hq40, ((((((hc0.I).R).I).I).T hq40).R).1.fresh hq48, fun q => ?_, fun t ht => absurd ht (Nat.not_lt_zero _)⟩ (fun s1 hs => ?_)
  · rw [← q] at hq48
    have e := (zT_self (σ := wI (wI (wR (wI σ 500 a num) 501 a (some p)) 502 a (zI σ 502 p + 1)) 503 a size) (q := q40) (t := (20, 21)))
    exact absurd (hq48.symm.trans (congrArg Prod.fst e)) (by decide)
  obtain ⟨h1, hb1⟩ := hs
  refine zp_iconst dX7_init_53 (v := 0) (by decide) ?_
  refine zp_istore dX7_init_54 (Nat.le_of_ble_eq_true rfl) (lv2 := [(4, .int 0), (0, .ref a), (1, .int num), (2, .ref p), (3, .int size)]) rfl ?_
  refine l_fill l (par := (some p)) (sy := q40) (cn := q48) rfl rfl (fun s2 h2 hb2 => ?_) 21 0 s1 (by omega) h1 hb1
  show Wp l G 3 88 574 (RX7, cX7_init, 5, none, true) 95 [(0, .ref a), (1, .int num), (2, .ref p), (3, .int size)] [] s2 _
  refine zp_iload_n dX7_init_95 rfl (x := size) (List.mem_of_getElem? (i := 3) rfl) ?_
  refine zp_if_le dX7_init_96 (tgt := 104) rfl (fun q => absurd q (fun q => Int32.lt_irrefl (Int32.lt_of_lt_of_le hs q))) (fun _ => ?_)
  refine zp_bipush dX7_init_99 (v := 20) (by decide) ?_
  refine zp_goto dX7_init_101 (tgt := 105) rfl ?_
  refine zp_istore dX7_init_105 (Nat.le_of_ble_eq_true rfl) (lv2 := [(4, .int 20), (0, .ref a), (1, .int num), (2, .ref p), (3, .int size)]) rfl ?_
  refine zp_aload_n dX7_init_107 rfl (a := a) (List.mem_of_getElem? (i := 1) rfl) ?_
  refine zp_iload dX7_init_108 (x := 20) (List.mem_of_getElem? (i := 0) rfl) ?_
  refine zp_newI (mc2 := 87) (ms2 := 554) (N := 20) dX7_init_110 wd_84 (by decide) (by decide) (by decide) (by omega) (by omega) (fun q110 hq110 => ?_)
  refine zp_putRf dX7_init_112 fl_X7_36 rfl (zOwn_of (r0 := (RX7, TX7, 20)) rfl rfl) (zT_new hq110 h2.2.1) (r := some q110) rfl zfit_arr ?_
  refine zp_aload_n dX7_init_115 rfl (a := a) (List.mem_of_getElem? (i := 1) rfl) ?_
  refine zp_iload dX7_init_116 (x := 20) (List.mem_of_getElem? (i := 0) rfl) ?_
  refine zp_zp0 (fun z2 => ?_)
  refine zp_newI (mc2 := 86) (ms2 := 534) (N := 20) dX7_init_118 wd_84 (by decide) (by decide) (by decide) (by omega) (by omega) (fun q118 hq118 => ?_)
  have hz118 : ∀ i, zA (wR (wT s2 q110 (20, 20)) 506 a (some q110)) q118 i = 0 := fun i => ((z2 q118 hq118).2 i).1
  refine zp_putRf dX7_init_120 fl_X7_39 rfl (zOwn_of (r0 := (RX7, TX7, 20)) rfl rfl) (zT_new hq118 (tR (zT_new hq110 h2.2.1))) (r := some q118) rfl zfit_arr ?_
  refine zp_gen (fun s => CA σ s a (uI (uI (uI (fun _ => 0) 500 num) 502 (zI σ 502 p + 1)) 503 size) (uR (uR (uR (uR (uR (fun _ => none) 501 (some p)) 504 (some q40)) 505 (some q48)) 506 (some q110)) 507 (some q118)) ∧ RwF σ s q40 q48 q110 q118 20) ⟨((((h2.T hq110).R).T hq118).R), ?_⟩ (fun s3 hs => ?_)
  · have e1 : Ex (fun c => c = a) s2 (wR (wT (wR (wT s2 q110 (20, 20)) 506 a (some q110)) q118 (20, 20)) 507 a (some q118)) := ((((Ex.refl (O := fun c => c = a)).nT hq110).nR (Or.inr rfl)).nT hq118).nR (Or.inr rfl)
    have hO : ∀ c, c = a → (zT s2 c).1 ≠ 20 := fun c hc => by rw [hc, h2.2.1]; decide
    have k118 : (zT s2 q118).1 = 0 := ((Ex.refl (O := fun c => c = a) (σ := s2)).nT hq110 (t := (20, 20))).fresh hq118
    refine ⟨hb2.ex e1 hO, zT_new hq118 zT_self, zT_self, h2.1.fresh hq110, h2.1.fresh k118, ⟨fun q => ?_, fun q => ?_, fun q => ?_, fun q => ?_, fun q => ?_⟩, hz118⟩
    · rw [← q, hb2.1] at hq110; exact absurd hq110 (by decide)
    · rw [← q, hb2.1] at k118; exact absurd k118 (by decide)
    · rw [← q, hb2.2.1] at hq110; exact absurd hq110 (by decide)
    · rw [← q, hb2.2.1] at k118; exact absurd k118 (by decide)
    · rw [← q] at hq118
      exact absurd (hq118.symm.trans (congrArg Prod.fst (zT_self (σ := s2) (q := q110) (t := (20, 20))))) (by decide)
  obtain ⟨h3, hr3⟩ := hs
  refine zp_zp0 (fun z3 => ?_)
  refine zp_aload_n dX7_init_123 rfl (a := a) (List.mem_of_getElem? (i := 1) rfl) ?_
  refine zp_new (c0 := 6) (mc2 := 85) (ms2 := 514) dX7_init_124 rfl wd_39 wd_40 wd_3 (by omega) (by show _ + 20 ≤ _; omega) (fun q124 hq124 => ?_)
  refine zp_dup dX7_init_127 rfl ?_
  refine zp_iload_n dX7_init_128 rfl (x := size) (List.mem_of_getElem? (i := 4) rfl) ?_
  refine zp_if_le dX7_init_129 (tgt := 137) rfl (fun q => absurd q (fun q => Int32.lt_irrefl (Int32.lt_of_lt_of_le hs q))) (fun _ => ?_)
  refine zp_bipush dX7_init_132 (v := 40) (by decide) ?_
  refine zp_goto dX7_init_134 (tgt := 138) rfl ?_
  refine zp_callI (st := [.ref q124, .ref a]) (mc2 := 43) (ms2 := 267) dX7_init_138 (c_X9_init l G q124 40 _ zT_self (by decide)) cl_X7_44 rfl im_X9_init rfl rfl rfl (by omega) (by omega) (by omega) (Nat.le_of_ble_eq_true rfl) ?_
  rintro _ s4 ⟨rfl, pc4, th4, hp4⟩
  refine zp_putRf dX7_init_141 fl_X7_47 rfl (zOwn_of (r0 := (RX7, TX7, 20)) rfl rfl) (hp4.1.T (zT_new hq124 h3.2.1)) (r := some q124) rfl zfit_ref ?_
  have n124 : a ≠ q124 := fun q => by rw [← q, h3.2.1] at hq124; exact absurd hq124 (by decide)
  have e35 : Ex (fun c => c = a) s3 (wR s4 508 a (some q124)) := (((Ex.refl (O := fun c => c = a)).nT hq124).ct hp4.1 (fun c hc => Or.inl (by rw [hc]; exact hq124))).nR (Or.inr rfl)
  have pf4 : PlF σ s4 q124 40 pc4 th4 := PlF.of h3.1 hq124 (fun f => (z3 q124 hq124).1 f) rfl hp4
  have e45 : Ex (fun c => c = a) s4 (wR s4 508 a (some q124)) := Ex.refl.nR (Or.inr rfl)
  have h4a : zT s4 a = (5, 0) := hp4.1.T (zT_new hq124 h3.2.1)
  refine zp_gen (fun s => CA σ s a (uI (uI (uI (fun _ => 0) 500 num) 502 (zI σ 502 p + 1)) 503 size) (uR (uR (uR (uR (uR (uR (fun _ => none) 501 (some p)) 504 (some q40)) 505 (some q48)) 506 (some q110)) 507 (some q118)) 508 (some q124)) ∧ RwF σ s q40 q48 q110 q118 20 ∧ PlF σ s q124 40 pc4 th4) ⟨((h3.T hq124).ct hp4.1 (h3.1.fresh hq124) n124).R, hr3.ex e35 (fun c hc => by rw [hc, h3.2.1]; decide), pf4.ex e45 (fun c hc => by rw [hc, h4a]; decide)⟩ (fun s5 hs => ?_)
  obtain ⟨h5, hr5, pf5⟩ := hs
  refine zp_zp0 (fun z5 => ?_)
  refine zp_aload_n dX7_init_144 rfl (a := a) (List.mem_of_getElem? (i := 1) rfl) ?_
  refine zp_new (c0 := 6) (mc2 := 42) (ms2 := 247) dX7_init_145 rfl wd_39 wd_40 wd_3 (by omega) (by show _ + 20 ≤ _; omega) (fun q145 hq145 => ?_)
  refine zp_dup dX7_init_148 rfl ?_
  refine zp_iload_n dX7_init_149 rfl (x := size) (List.mem_of_getElem? (i := 4) rfl) ?_
  refine zp_if_le dX7_init_150 (tgt := 158) rfl (fun q => absurd q (fun q => Int32.lt_irrefl (Int32.lt_of_lt_of_le hs q))) (fun _ => ?_)
  refine zp_bipush dX7_init_153 (v := 40) (by decide) ?_
  refine zp_goto dX7_init_155 (tgt := 159) rfl ?_
  refine zp_callI (st := [.ref q145, .ref a]) (mc2 := 0) (ms2 := 0) dX7_init_159 (c_X9_init l G q145 40 _ zT_self (by decide)) cl_X7_44 rfl im_X9_init rfl rfl rfl (by omega) (by omega) (by omega) (Nat.le_of_ble_eq_true rfl) ?_
  rintro _ s6 ⟨rfl, pc6, th6, hp6⟩
  refine zp_putRf dX7_init_162 fl_X7_51 rfl (zOwn_of (r0 := (RX7, TX7, 20)) rfl rfl) (hp6.1.T (zT_new hq145 h5.2.1)) (r := some q145) rfl zfit_ref ?_
  refine zp_aload_n dX7_init_165 rfl (a := a) (List.mem_of_getElem? (i := 1) rfl) ?_
  refine zp_iload_n dX7_init_166 rfl (x := size) (List.mem_of_getElem? (i := 4) rfl) ?_
  refine zp_if_le dX7_init_167 (tgt := 176) rfl (fun q => absurd q (fun q => Int32.lt_irrefl (Int32.lt_of_lt_of_le hs q))) (fun _ => ?_)
  refine zp_kind (i := 7) dX7_init_170 (by decide) rfl wd_188 ?_
  refine zp_goto dX7_init_173 (tgt := 179) rfl ?_
  refine zp_putR dX7_init_179 fl_X7_63 (tR (hp6.1.T (zT_new hq145 h5.2.1))) (r := some (G.2.2.1 7)) rfl ?_
  refine zp_vret rfl dX7_init_182 ?_
  have n145 : a ≠ q145 := fun q => by rw [← q, h5.2.1] at hq145; exact absurd hq145 (by decide)
  have e57 : Ex (fun c => c = a) s5 (wR (wR s6 509 a (some q145)) 514 a (some (G.2.2.1 (kdn true)))) := ((((Ex.refl (O := fun c => c = a)).nT hq145).ct hp6.1 (fun c hc => Or.inl (by rw [hc]; exact hq145))).nR (Or.inr rfl)).nR (Or.inr rfl)
  have pf6 : PlF σ s6 q145 40 pc6 th6 := PlF.of h5.1 hq145 (fun f => (z5 q145 hq145).1 f) rfl hp6
  have h6a : zT s6 a = (5, 0) := hp6.1.T (zT_new hq145 h5.2.1)
  have e67 : Ex (fun c => c = a) s6 (wR (wR s6 509 a (some q145)) 514 a (some (G.2.2.1 (kdn true)))) := ((Ex.refl (O := fun c => c = a)).nR (Or.inr rfl)).nR (Or.inr rfl)
  refine ⟨rfl, q40, q48, q110, q118, (fun b => if b then q145 else q124), (fun b => if b then pc6 else pc4), (fun b => if b then th6 else th4), ((((h5.T hq145).ct hp6.1 (h5.1.fresh hq145) n145).R).R), hr5.ex e57 (fun c hc => by rw [hc, h5.2.1]; decide), fun b => ?_, fun q => ?_, fun i j hi hj q => ?_⟩
  · cases b
    · exact pf5.ex e57 (fun c hc => by rw [hc, h5.2.1]; decide)
    · exact pf6.ex e67 (fun c hc => by rw [hc, h6a]; decide)
  · have q : q124 = q145 := q
    rw [← q, pf5.1] at hq145; exact absurd hq145 (by decide)
  · have q : th4 i = th6 j := q
    have k := (hp6.2.2.2.2.2.1 j hj).2.2
    rw [← q] at k
    have k2 := (Ex.refl (O := fun c => c = a) (σ := s5)).nT hq145 (t := (7, 0)) |>.fresh k
    rw [(pf5.2.2.2.2.2.1 i hi).2.1] at k2
    exact absurd k2 (by decide)

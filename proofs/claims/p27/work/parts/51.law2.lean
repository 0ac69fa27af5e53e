/-! THE LAW: ends, known, enters, leaves, shuts (by wip/p27/gen_law2.py) -/
theorem LF.wa {L : Lw} {σ s : Sto} {i : Nat} {x : Int32} (h : LF L σ s) (hd : LD L) : LF L σ (wA s (lwa L) i x) := h.w (Or.inl rfl) (fun q => absurd q (hd.ne 5 7 (by decide) (by decide) (by decide)))
theorem LF.wh {L : Lw} {σ s : Sto} {i : Nat} {x : Int32} (h : LF L σ s) (hd : LD L) : LF L σ (wA s (lwh L) i x) := h.w (Or.inr (Or.inl rfl)) (fun q => absurd q (hd.ne 6 7 (by decide) (by decide) (by decide)))
theorem LF.wq {L : Lw} {σ s : Sto} {i : Nat} {x : Int32} (h : LF L σ s) (hi : i ≠ 7) : LF L σ (wA s (lwq L) i x) := h.w (Or.inr (Or.inr (Or.inl rfl))) (fun _ => hi)
theorem LF.wn {L : Lw} {σ s : Sto} {i : Nat} {x : Int32} (h : LF L σ s) (hd : LD L) : LF L σ (wA s (lwn L) i x) := h.w (Or.inr (Or.inr (Or.inr rfl))) (fun q => absurd q (hd.ne 8 7 (by decide) (by decide) (by decide)))
theorem LB.ra {D W} {L : Lw} {S : FS} {σ : Sto} {i : Nat} (h : LB D W L S σ) (hi : i < 64) : zA σ (lwa L) i = sa S i := h.2.2.2.2.2.2.2.2.1 i hi
theorem LB.rh {D W} {L : Lw} {S : FS} {σ : Sto} {i : Nat} (h : LB D W L S σ) (hi : i < 16) : zA σ (lwh L) i = sh S i := h.2.2.2.2.2.2.2.2.2.1 i hi
theorem LB.r0 {D W} {L : Lw} {S : FS} {σ : Sto} (h : LB D W L S σ) : zA σ (lwq L) 0 = sy S := h.2.2.2.1
theorem LB.r1 {D W} {L : Lw} {S : FS} {σ : Sto} (h : LB D W L S σ) : zA σ (lwq L) 1 = sab S := h.2.2.2.2.1
theorem LB.r2 {D W} {L : Lw} {S : FS} {σ : Sto} (h : LB D W L S σ) : zA σ (lwq L) 2 = sbe S := h.2.2.2.2.2.1
theorem LB.bits {D W} {L : Lw} {S : FS} {σ : Sto} (h : LB D W L S σ) : ∃ mk : Nat, mk < 4096 ∧ zA σ (lwq L) 5 = nI mk ∧ ∀ k, k < 12 → sw S k = mk.testBit k := h.2.2.2.2.2.2.1
theorem LB.pend {D W} {L : Lw} {S : FS} {σ : Sto} {m : Int32} (h : LB D W L S σ) : LB D W L (pendP m S) (wA (wA σ (lwq L) 1 (mx (zA σ (lwq L) 1) m)) (lwq L) 2 (mn (zA σ (lwq L) 2) m)) := by
  rw [h.r1, h.r2]
  exact h.q1.q2
theorem LF.pend {L : Lw} {σ : Sto} {x y : Int32} : LF L σ (wA (wA σ (lwq L) 1 x) (lwq L) 2 y) := (LF.refl.wq (by decide)).wq (by decide)
theorem ite_iff {α : Type} {p q : Prop} [Decidable p] [Decidable q] {a b : α} (h : p ↔ q) (_ : a = a) (_ : b = b) : (if p then a else b) = (if q then a else b) := by
  by_cases z : p
  · rw [if_pos z, if_pos (h.mp z)]
  · rw [if_neg z, if_neg (fun y => z (h.mpr y))]
def endK (S : FS) (k : Nat) : FS := match S with
  | (y, ab, be, w, a, h, ls, vi, lv, cl) => ((y + ab) + be, 0, 0, w, (fun i => if 17 ≤ i ∧ i < 16 + k ∧ w (i - 16) = true then (y + ab) + be else a i), h, ls, vi, lv, cl)
set_option maxHeartbeats 4000000 in
theorem l_ends (l : Launch) {G : Gb} {D : Dt} {W : Int32} {L : Lw} {S : FS} {σ : Sto} (hB : LB D W L S σ) : ∀ (m k : Nat) (s : Sto), k + m = 12 → 0 < k → LB D W L (endK S k) s → LF L σ s →
    Wp l G 1 0 0 (RL, cL_ends, 3, none, false) 23 [(2, .int (nI k)), (0, .ref (lwq L)), (1, .ref (lwa L))] [] s (fun v t => v = none ∧ LB D W L (endP S) t ∧ LF L σ t) := by
  intro m
  induction m with
  | zero =>
    intro k s hk h0 b f
    show Wp l G 1 0 0 (RL, cL_ends, 3, none, false) 23 [(2, .int (nI k)), (0, .ref (lwq L)), (1, .ref (lwa L))] [] s _
    refine zp_iload_n dL_ends_23 rfl (x := (nI k)) (List.mem_of_getElem? (i := 0) rfl) ?_
    refine zp_bipush dL_ends_24 (v := 12) (by decide) ?_
    refine zp_icmp_ge dL_ends_26 (tgt := 64) rfl (fun _ => ?_) (fun q => absurd ((nI_le' (j := 12) (by decide) (by omega)).mpr (by omega)) q)
    refine zp_aload_n dL_ends_64 rfl (a := (lwq L)) (List.mem_of_getElem? (i := 1) rfl) ?_
    refine zp_iconst dL_ends_65 (v := 5) (by decide) ?_
    refine zp_iconst dL_ends_66 (v := 0) (by decide) ?_
    refine zp_iastore dL_ends_67 b.Tq (j := 5) (by decide) (zin (by decide)) ?_
    refine zp_gen (fun s => LB D W L (setW (fun _ => false) (endK S k)) s ∧ LF L σ s) ⟨b.q5 ⟨0, by decide, rfl, fun k _ => by simp⟩, f.wq (by decide)⟩ (fun u1 hn1 => ?_)
    obtain ⟨b1, f1⟩ := hn1
    refine zp_vret rfl dL_ends_68 ?_
    obtain rfl : k = 12 := by omega
    refine ⟨rfl, b1.ig rfl rfl rfl (fun _ _ => rfl) (fun i hi => ?_) (fun _ _ => rfl) rfl, f1⟩
    obtain ⟨y, ab, be, w, a, h, ls, vi, lv, cl⟩ := S
    show (if 17 ≤ i ∧ i ≤ 27 ∧ w (i - 16) = true then (y + ab) + be else a i) = (if 17 ≤ i ∧ i < 16 + 12 ∧ w (i - 16) = true then (y + ab) + be else a i)
    by_cases z : i ≤ 27
    · exact ite_iff ⟨fun q => ⟨q.1, by have := q.2.1; omega, q.2.2⟩, fun q => ⟨q.1, by have := q.2.1; omega, q.2.2⟩⟩ rfl rfl
    · rw [if_neg (fun q => z q.2.1), if_neg (fun q => z (by omega))]
  | succ m ih =>
    intro k s hk h0 b f
    obtain ⟨mk, m1, m2, m3⟩ := b.bits
    have m3 : ∀ k, k < 12 → sw S k = mk.testBit k := m3
    show Wp l G 1 0 0 (RL, cL_ends, 3, none, false) 23 [(2, .int (nI k)), (0, .ref (lwq L)), (1, .ref (lwa L))] [] s _
    refine zp_iload_n dL_ends_23 rfl (x := (nI k)) (List.mem_of_getElem? (i := 0) rfl) ?_
    refine zp_bipush dL_ends_24 (v := 12) (by decide) ?_
    refine zp_icmp_ge dL_ends_26 (tgt := 64) rfl (fun q => absurd q (fun q => by have := (nI_le' (j := 12) (by decide) (by omega)).mp q; omega)) (fun _ => ?_)
    refine zp_aload_n dL_ends_29 rfl (a := (lwa L)) (List.mem_of_getElem? (i := 2) rfl) ?_
    refine zp_bipush dL_ends_30 (v := 16) (by decide) ?_
    refine zp_iload_n dL_ends_32 rfl (x := (nI k)) (List.mem_of_getElem? (i := 0) rfl) ?_
    refine zp_iadd dL_ends_33 ?_
    rw [show ((16 + (nI k)) : Int32) = (nI (16 + k)) from nI_add 16 k]
    refine zp_aload_n dL_ends_34 rfl (a := (lwq L)) (List.mem_of_getElem? (i := 1) rfl) ?_
    refine zp_iconst dL_ends_35 (v := 5) (by decide) ?_
    refine zp_iald_v dL_ends_36 b.Tq (Or.inl rfl) (j := 5) (by decide) (zin (by decide)) (v := (nI mk)) m2 ?_
    refine zp_iload_n dL_ends_37 rfl (x := (nI k)) (List.mem_of_getElem? (i := 0) rfl) ?_
    refine zp_ishr dL_ends_38 ?_
    refine zp_iconst dL_ends_39 (v := 1) (by decide) ?_
    refine zp_iand dL_ends_40 ?_
    rw [show ((((nI mk) >>> ((nI k) &&& 31)) &&& 1) : Int32) = (zb (sw S k = true)) from bit_rd m1 (by omega) m3]
    refine zp_iconst dL_ends_41 (v := 1) (by decide) ?_
    refine zp_icmp_ne dL_ends_42 (tgt := 51) rfl (fun h42 => ?_) (fun h42 => ?_)
    · have hb1 : ¬ sw S k = true := fun q => h42 (zb_t q)
      refine zp_aload_n dL_ends_51 rfl (a := (lwa L)) (List.mem_of_getElem? (i := 2) rfl) ?_
      refine zp_bipush dL_ends_52 (v := 16) (by decide) ?_
      refine zp_iload_n dL_ends_54 rfl (x := (nI k)) (List.mem_of_getElem? (i := 0) rfl) ?_
      refine zp_iadd dL_ends_55 ?_
      rw [show ((16 + (nI k)) : Int32) = (nI (16 + k)) from nI_add 16 k]
      refine zp_iald_v dL_ends_56 b.Ta (Or.inl rfl) (j := (16 + k)) (nI_clamp (by omega)) (vp_in_nI (by omega) (by decide)) (v := (sa (endK S k) (16 + k))) (b.ra (by omega)) ?_
      refine zp_iastore dL_ends_57 b.Ta (j := (16 + k)) (nI_clamp (by omega)) (vp_in_nI (by omega) (by decide)) ?_
      refine zp_gen (fun s => LB D W L (setA (16 + k) (sa (endK S k) (16 + k)) (endK S k)) s ∧ LF L σ s) ⟨b.a (by omega), f.wa hB.2.1⟩ (fun u1 hn1 => ?_)
      obtain ⟨b1, f1⟩ := hn1
      refine zp_iinc dL_ends_58 (k1 := 0) (x := (nI k)) rfl (v := (nI (k + 1))) (nI_1 k) (Nat.le_of_ble_eq_true rfl) (lv2 := [(2, .int (nI (k + 1))), (0, .ref (lwq L)), (1, .ref (lwa L))]) rfl ?_
      refine zp_goto dL_ends_61 (tgt := 23) rfl ?_
      refine zp_gen (fun t => LB D W L (endK S (k + 1)) t ∧ LF L σ t) ⟨b1.ig rfl rfl rfl (fun _ _ => rfl) (fun i hi => ?_) (fun _ _ => rfl) rfl, f1⟩ (fun t ht => ?_)
      · obtain ⟨y, ab, be, w, a, h, ls, vi, lv, cl⟩ := S
        show (if 17 ≤ i ∧ i < 16 + (k + 1) ∧ w (i - 16) = true then (y + ab) + be else a i) = (if i = 16 + k then _ else (if 17 ≤ i ∧ i < 16 + k ∧ w (i - 16) = true then (y + ab) + be else a i))
        by_cases z : i = 16 + k
        · rw [if_pos z]
          have e : i - 16 = k := by omega
          rw [e]
          rw [if_neg (fun q => hb1 q.2.2)]
          show a i = (if 17 ≤ 16 + k ∧ 16 + k < 16 + k ∧ w (16 + k - 16) = true then (y + ab) + be else a (16 + k))
          rw [if_neg (fun q => by omega), z]
        · rw [if_neg z]
          by_cases z2 : i < 16 + k
          · exact ite_iff ⟨fun q => ⟨q.1, by have := q.2.1; omega, q.2.2⟩, fun q => ⟨q.1, by have := q.2.1; omega, q.2.2⟩⟩ rfl rfl
          · rw [if_neg (fun q => z2 (by omega)), if_neg (fun q => z2 q.2.1)]
      exact ih (k + 1) t (by omega) (by omega) ht.1 ht.2
    · have hb1 : sw S k = true := Decidable.byContradiction fun q => by rw [zb_f q] at h42; exact absurd h42 (by decide)
      refine zp_aload_n dL_ends_45 rfl (a := (lwq L)) (List.mem_of_getElem? (i := 1) rfl) ?_
      refine zp_iconst dL_ends_46 (v := 0) (by decide) ?_
      refine zp_iald_v dL_ends_47 b.Tq (Or.inl rfl) (j := 0) (by decide) (zin (by decide)) (v := (sy (endK S k))) b.r0 ?_
      refine zp_goto dL_ends_48 (tgt := 57) rfl ?_
      refine zp_iastore dL_ends_57 b.Ta (j := (16 + k)) (nI_clamp (by omega)) (vp_in_nI (by omega) (by decide)) ?_
      refine zp_gen (fun s => LB D W L (setA (16 + k) (sy (endK S k)) (endK S k)) s ∧ LF L σ s) ⟨b.a (by omega), f.wa hB.2.1⟩ (fun u2 hn2 => ?_)
      obtain ⟨b2, f2⟩ := hn2
      refine zp_iinc dL_ends_58 (k1 := 0) (x := (nI k)) rfl (v := (nI (k + 1))) (nI_1 k) (Nat.le_of_ble_eq_true rfl) (lv2 := [(2, .int (nI (k + 1))), (0, .ref (lwq L)), (1, .ref (lwa L))]) rfl ?_
      refine zp_goto dL_ends_61 (tgt := 23) rfl ?_
      refine zp_gen (fun t => LB D W L (endK S (k + 1)) t ∧ LF L σ t) ⟨b2.ig rfl rfl rfl (fun _ _ => rfl) (fun i hi => ?_) (fun _ _ => rfl) rfl, f2⟩ (fun t ht => ?_)
      · obtain ⟨y, ab, be, w, a, h, ls, vi, lv, cl⟩ := S
        show (if 17 ≤ i ∧ i < 16 + (k + 1) ∧ w (i - 16) = true then (y + ab) + be else a i) = (if i = 16 + k then _ else (if 17 ≤ i ∧ i < 16 + k ∧ w (i - 16) = true then (y + ab) + be else a i))
        by_cases z : i = 16 + k
        · rw [if_pos z]
          have e : i - 16 = k := by omega
          rw [e]
          rw [if_pos ⟨by omega, by omega, hb1⟩]; rfl
        · rw [if_neg z]
          by_cases z2 : i < 16 + k
          · exact ite_iff ⟨fun q => ⟨q.1, by have := q.2.1; omega, q.2.2⟩, fun q => ⟨q.1, by have := q.2.1; omega, q.2.2⟩⟩ rfl rfl
          · rw [if_neg (fun q => z2 (by omega)), if_neg (fun q => z2 q.2.1)]
      exact ih (k + 1) t (by omega) (by omega) ht.1 ht.2
set_option maxRecDepth 100000 in
set_option maxHeartbeats 4000000 in
theorem c_L_ends (l : Launch) (G : Gb) (D : Dt) (W : Int32) (L : Lw) (S : FS) (σ : Sto) (hB : LB D W L S σ) : Ct l G 1 0 0 yL_ends mL_ends [.ref (lwq L), .ref (lwa L)] σ (fun v s => v = none ∧ LB D W L (endP S) s ∧ LF L σ s) := by
  refine Ct.of (by decide) rfl (Nat.le_of_ble_eq_true rfl) (fun h => absurd h (by decide)) ?_
  show Wp l G 1 0 0 (RL, cL_ends, 3, none, false) 0 [(0, .ref (lwq L)), (1, .ref (lwa L))] [] σ _
  refine zp_aload_n dL_ends_0 rfl (a := (lwq L)) (List.mem_of_getElem? (i := 0) rfl) ?_
  refine zp_iconst dL_ends_1 (v := 0) (by decide) ?_
  refine zp_dup2 dL_ends_2 rfl rfl ?_
  refine zp_iald_v dL_ends_3 hB.Tq (Or.inl rfl) (j := 0) (by decide) (zin (by decide)) (v := (sy S)) hB.r0 ?_
  refine zp_aload_n dL_ends_4 rfl (a := (lwq L)) (List.mem_of_getElem? (i := 0) rfl) ?_
  refine zp_iconst dL_ends_5 (v := 1) (by decide) ?_
  refine zp_iald_v dL_ends_6 hB.Tq (Or.inl rfl) (j := 1) (by decide) (zin (by decide)) (v := (sab S)) hB.r1 ?_
  refine zp_aload_n dL_ends_7 rfl (a := (lwq L)) (List.mem_of_getElem? (i := 0) rfl) ?_
  refine zp_iconst dL_ends_8 (v := 2) (by decide) ?_
  refine zp_iald_v dL_ends_9 hB.Tq (Or.inl rfl) (j := 2) (by decide) (zin (by decide)) (v := (sbe S)) hB.r2 ?_
  refine zp_iadd dL_ends_10 ?_
  refine zp_iadd dL_ends_11 ?_
  refine zp_iastore dL_ends_12 hB.Tq (j := 0) (by decide) (zin (by decide)) ?_
  refine zp_gen (fun s => LB D W L (setY ((sy S) + ((sab S) + (sbe S))) S) s ∧ LF L σ s) ⟨hB.q0, LF.refl.wq (by decide)⟩ (fun u1 hn1 => ?_)
  obtain ⟨b1, f1⟩ := hn1
  refine zp_aload_n dL_ends_13 rfl (a := (lwq L)) (List.mem_of_getElem? (i := 0) rfl) ?_
  refine zp_iconst dL_ends_14 (v := 1) (by decide) ?_
  refine zp_iconst dL_ends_15 (v := 0) (by decide) ?_
  refine zp_iastore dL_ends_16 b1.Tq (j := 1) (by decide) (zin (by decide)) ?_
  refine zp_gen (fun s => LB D W L (setAb 0 (setY ((sy S) + ((sab S) + (sbe S))) S)) s ∧ LF L σ s) ⟨b1.q1, f1.wq (by decide)⟩ (fun u2 hn2 => ?_)
  obtain ⟨b2, f2⟩ := hn2
  refine zp_aload_n dL_ends_17 rfl (a := (lwq L)) (List.mem_of_getElem? (i := 0) rfl) ?_
  refine zp_iconst dL_ends_18 (v := 2) (by decide) ?_
  refine zp_iconst dL_ends_19 (v := 0) (by decide) ?_
  refine zp_iastore dL_ends_20 b2.Tq (j := 2) (by decide) (zin (by decide)) ?_
  refine zp_gen (fun s => LB D W L (setBe 0 (setAb 0 (setY ((sy S) + ((sab S) + (sbe S))) S))) s ∧ LF L σ s) ⟨b2.q2, f2.wq (by decide)⟩ (fun u3 hn3 => ?_)
  obtain ⟨b3, f3⟩ := hn3
  refine zp_iconst dL_ends_21 (v := 1) (by decide) ?_
  refine zp_istore_n dL_ends_22 rfl (Nat.le_of_ble_eq_true rfl) (lv2 := [(2, .int 1), (0, .ref (lwq L)), (1, .ref (lwa L))]) rfl ?_
  refine l_ends l hB 11 1 _ (by omega) (by decide) (b3.ig ?_ rfl rfl (fun _ _ => rfl) (fun i hi => ?_) (fun _ _ => rfl) rfl) f3
  · obtain ⟨y, ab, be, w, a, h, ls, vi, lv, cl⟩ := S
    exact Int32.add_assoc y ab be
  · obtain ⟨y, ab, be, w, a, h, ls, vi, lv, cl⟩ := S
    show (if 17 ≤ i ∧ i < 16 + 1 ∧ w (i - 16) = true then (y + ab) + be else a i) = a i
    rw [if_neg (fun q => by omega)]

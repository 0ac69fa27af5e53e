/-! A NODE PUT IN: the methods (by wip/p27/gen_ins2.py) -/
set_option maxHeartbeats 4000000 in
theorem l_putIn (l : Launch) {G : Gb} {D : Dt} {X : Cx} {up ch P : Nat} {σ : Sto} (hD : DW D) (hN : NX D X σ) (hup : up < dn D) (hC : zT σ ch = (5, 0)) (hP : P < 1000) : ∀ (f e p : Nat), dn D ≤ e + f → 0 < e → e < dn D → dpar D e = up → p + ccF D f up e = P →
    Wp l G 1 0 0 (RX7, cX7_putIn, 6, none, false) 11 [(5, .int (nI p)), (4, va_rf (lk X (nx D up e))), (3, .ref (xnd X e)), (0, .ref (xnd X up)), (1, .ref ch), (2, .int (nI P))] [] σ (fun v s => v = none ∧ ∃ e, 0 < e ∧ e < dn D ∧ dpar D e = up ∧ nx D up e = none ∧ s = wR (wR σ 511 ch none) 511 (xnd X e) (some ch)) := by
  intro f
  induction f with
  | zero =>
    intro e p hf h0 he hp hpp
    omega
  | succ f ih =>
    intro e p hf h0 he hp hpp
    cases e0 : nx D up e with
    | none =>
      rw [ccF_none e0] at hpp
      show Wp l G 1 0 0 (RX7, cX7_putIn, 6, none, false) 11 [(5, .int (nI p)), (4, .null), (3, .ref (xnd X e)), (0, .ref (xnd X up)), (1, .ref ch), (2, .int (nI P))] [] σ _
      refine zp_iload dX7_putIn_11 (x := (nI p)) (List.mem_of_getElem? (i := 0) rfl) ?_
      refine zp_iload_n dX7_putIn_13 rfl (x := (nI P)) (List.mem_of_getElem? (i := 5) rfl) ?_
      refine zp_icmp_ge dX7_putIn_14 (tgt := 38) rfl (fun _ => ?_) (fun q => absurd (by rw [show p = P by omega]; exact Int32.le_refl _) q)
      refine zp_aload_n dX7_putIn_38 rfl (a := ch) (List.mem_of_getElem? (i := 4) rfl) ?_
      refine zp_aloado dX7_putIn_39 (r := none) (v := .null) rfl (List.mem_of_getElem? (i := 1) rfl) ?_
      refine zp_putR dX7_putIn_41 fl_X7_83 hC (r := none) rfl ?_
      refine zp_aload_n dX7_putIn_44 rfl (a := (xnd X e)) (List.mem_of_getElem? (i := 2) rfl) ?_
      refine zp_nonnullT dX7_putIn_45 (tgt := 56) rfl ?_
      refine zp_aload_n dX7_putIn_56 rfl (a := (xnd X e)) (List.mem_of_getElem? (i := 2) rfl) ?_
      refine zp_aload_n dX7_putIn_57 rfl (a := ch) (List.mem_of_getElem? (i := 4) rfl) ?_
      refine zp_putR dX7_putIn_58 fl_X7_83 (tR (hN.1 e he).1) (r := some ch) rfl ?_
      refine zp_vret rfl dX7_putIn_61 ?_
      exact ⟨rfl, e, h0, he, hp, e0, rfl⟩
    | some e2 =>
      rw [ccF_some e0] at hpp
      obtain ⟨q1, q2, q3⟩ := nx_up e0
      have hnx : zR σ 511 (xnd X e2) = lk X (nx D up e2) := by have := (hN.1 e2 q2).2.2.2; rw [if_neg (by omega), q3] at this; exact this
      show Wp l G 1 0 0 (RX7, cX7_putIn, 6, none, false) 11 [(5, .int (nI p)), (4, .ref (xnd X e2)), (3, .ref (xnd X e)), (0, .ref (xnd X up)), (1, .ref ch), (2, .int (nI P))] [] σ _
      refine zp_iload dX7_putIn_11 (x := (nI p)) (List.mem_of_getElem? (i := 0) rfl) ?_
      refine zp_iload_n dX7_putIn_13 rfl (x := (nI P)) (List.mem_of_getElem? (i := 5) rfl) ?_
      refine zp_icmp_ge dX7_putIn_14 (tgt := 38) rfl (fun q => absurd q (fun q => by have := (nI_le' (by omega) (by omega)).mp q; omega)) (fun _ => ?_)
      refine zp_aload dX7_putIn_17 (a := (xnd X e2)) (List.mem_of_getElem? (i := 1) rfl) ?_
      refine zp_nullF dX7_putIn_19 (tgt := 38) rfl ?_
      refine zp_aload dX7_putIn_22 (a := (xnd X e2)) (List.mem_of_getElem? (i := 1) rfl) ?_
      refine zp_astore_n dX7_putIn_24 rfl (Nat.le_of_ble_eq_true rfl) (lv2 := [(3, .ref (xnd X e2)), (5, .int (nI p)), (4, .ref (xnd X e2)), (0, .ref (xnd X up)), (1, .ref ch), (2, .int (nI P))]) rfl ?_
      refine zp_aload dX7_putIn_25 (a := (xnd X e2)) (List.mem_of_getElem? (i := 2) rfl) ?_
      refine zp_getRo dX7_putIn_27 fl_X7_83 (hN.1 e2 q2).1 (r := (lk X (nx D up e2))) hnx ?_
      refine zp_astoreo dX7_putIn_30 (Nat.le_of_ble_eq_true rfl) (r := (lk X (nx D up e2))) (v := va_rf (lk X (nx D up e2))) rfl (lv2 := [(4, va_rf (lk X (nx D up e2))), (3, .ref (xnd X e2)), (5, .int (nI p)), (0, .ref (xnd X up)), (1, .ref ch), (2, .int (nI P))]) rfl ?_
      refine zp_iinc dX7_putIn_32 (k1 := 2) (x := (nI p)) rfl (v := (nI (p + 1))) (nI_1 p) (Nat.le_of_ble_eq_true rfl) (lv2 := [(5, .int (nI (p + 1))), (4, va_rf (lk X (nx D up e2))), (3, .ref (xnd X e2)), (0, .ref (xnd X up)), (1, .ref ch), (2, .int (nI P))]) (by cases lk X (nx D up e2) <;> rfl) ?_
      refine zp_goto dX7_putIn_35 (tgt := 11) rfl ?_
      refine zp_lv [0, 1, 2, 3, 4, 5] rfl ?_
      exact ih e2 (p + 1) (by omega) (by omega) q2 q3 (by omega)
set_option maxHeartbeats 4000000 in
theorem c_X7_putIn (l : Launch) (G : Gb) (D : Dt) (X : Cx) (up ch : Nat) (σ : Sto) (hD : DW D) (hN : NX D X σ) (hup : up < dn D) (hC : zT σ ch = (5, 0)) : Ct l G 1 0 0 yX7_putIn mX7_putIn [.ref (xnd X up), .ref ch, .int (nI (cc D up))] σ (fun v s => v = none ∧ ((nx D up up = none ∧ s = wR (wR σ 511 ch none) 510 (xnd X up) (some ch)) ∨ ∃ e, 0 < e ∧ e < dn D ∧ dpar D e = up ∧ nx D up e = none ∧ s = wR (wR σ 511 ch none) 511 (xnd X e) (some ch))) := by
  refine Ct.of (by decide) rfl (Nat.le_of_ble_eq_true rfl) (fun h => absurd h (by decide)) ?_
  cases e0 : nx D up up with
  | none =>
    have hfs : zR σ 510 (xnd X up) = none := by rw [(hN.1 up hup).2.2.1, e0]; rfl
    show Wp l G 1 0 0 (RX7, cX7_putIn, 6, none, false) 0 [(0, .ref (xnd X up)), (1, .ref ch), (2, .int (nI (cc D up)))] [] σ _
    refine zp_null dX7_putIn_0 ?_
    refine zp_astoreo_n dX7_putIn_1 rfl (Nat.le_of_ble_eq_true rfl) (r := none) (v := .null) rfl (lv2 := [(3, .null), (0, .ref (xnd X up)), (1, .ref ch), (2, .int (nI (cc D up)))]) rfl ?_
    refine zp_aload_n dX7_putIn_2 rfl (a := (xnd X up)) (List.mem_of_getElem? (i := 1) rfl) ?_
    refine zp_getRo dX7_putIn_3 fl_X7_80 (hN.1 up hup).1 (r := none) hfs ?_
    refine zp_astoreo dX7_putIn_6 (Nat.le_of_ble_eq_true rfl) (r := none) (v := .null) rfl (lv2 := [(4, .null), (3, .null), (0, .ref (xnd X up)), (1, .ref ch), (2, .int (nI (cc D up)))]) rfl ?_
    refine zp_iconst dX7_putIn_8 (v := 0) (by decide) ?_
    refine zp_istore dX7_putIn_9 (Nat.le_of_ble_eq_true rfl) (lv2 := [(5, .int 0), (4, .null), (3, .null), (0, .ref (xnd X up)), (1, .ref ch), (2, .int (nI (cc D up)))]) rfl ?_
    refine zp_iload dX7_putIn_11 (x := 0) (List.mem_of_getElem? (i := 0) rfl) ?_
    refine zp_iload_n dX7_putIn_13 rfl (x := (nI (cc D up))) (List.mem_of_getElem? (i := 5) rfl) ?_
    refine zp_icmp_ge dX7_putIn_14 (tgt := 38) rfl (fun _ => ?_) (fun q => absurd (by rw [show cc D up = 0 from ccF_none e0]; exact Int32.le_refl _) q)
    refine zp_aload_n dX7_putIn_38 rfl (a := ch) (List.mem_of_getElem? (i := 4) rfl) ?_
    refine zp_aloado dX7_putIn_39 (r := none) (v := .null) rfl (List.mem_of_getElem? (i := 1) rfl) ?_
    refine zp_putR dX7_putIn_41 fl_X7_83 hC (r := none) rfl ?_
    refine zp_aloado_n dX7_putIn_44 rfl (r := none) (v := .null) rfl (List.mem_of_getElem? (i := 2) rfl) ?_
    refine zp_nonnullF dX7_putIn_45 (tgt := 56) rfl ?_
    refine zp_aload_n dX7_putIn_48 rfl (a := (xnd X up)) (List.mem_of_getElem? (i := 3) rfl) ?_
    refine zp_aload_n dX7_putIn_49 rfl (a := ch) (List.mem_of_getElem? (i := 4) rfl) ?_
    refine zp_putR dX7_putIn_50 fl_X7_80 (tR (hN.1 up hup).1) (r := some ch) rfl ?_
    refine zp_goto dX7_putIn_53 (tgt := 61) rfl ?_
    refine zp_vret rfl dX7_putIn_61 ?_
    exact ⟨rfl, Or.inl ⟨rfl, rfl⟩⟩
  | some c =>
    obtain ⟨q1, q2, q3⟩ := nx_up e0
    have hfs : zR σ 510 (xnd X up) = some (xnd X c) := by rw [(hN.1 up hup).2.2.1, e0]; rfl
    have hnx : zR σ 511 (xnd X c) = lk X (nx D up c) := by have := (hN.1 c q2).2.2.2; rw [if_neg (by omega), q3] at this; exact this
    have hn0 := hD.1
    have hn1 := hD.2.1
    have hcc : cc D up = ccF D (dn D - 1) up c + 1 := by
      unfold cc
      rw [show ccF D (dn D) up up = ccF D (dn D - 1 + 1) up up by rw [Nat.sub_add_cancel hn0]]
      exact ccF_some e0
    have hle : cc D up ≤ dn D := ccF_le (dn D) up up
    show Wp l G 1 0 0 (RX7, cX7_putIn, 6, none, false) 0 [(0, .ref (xnd X up)), (1, .ref ch), (2, .int (nI (cc D up)))] [] σ _
    refine zp_null dX7_putIn_0 ?_
    refine zp_astoreo_n dX7_putIn_1 rfl (Nat.le_of_ble_eq_true rfl) (r := none) (v := .null) rfl (lv2 := [(3, .null), (0, .ref (xnd X up)), (1, .ref ch), (2, .int (nI (cc D up)))]) rfl ?_
    refine zp_aload_n dX7_putIn_2 rfl (a := (xnd X up)) (List.mem_of_getElem? (i := 1) rfl) ?_
    refine zp_getRv dX7_putIn_3 fl_X7_80 (hN.1 up hup).1 (b := (xnd X c)) hfs ?_
    refine zp_astore dX7_putIn_6 (Nat.le_of_ble_eq_true rfl) (lv2 := [(4, .ref (xnd X c)), (3, .null), (0, .ref (xnd X up)), (1, .ref ch), (2, .int (nI (cc D up)))]) rfl ?_
    refine zp_iconst dX7_putIn_8 (v := 0) (by decide) ?_
    refine zp_istore dX7_putIn_9 (Nat.le_of_ble_eq_true rfl) (lv2 := [(5, .int 0), (4, .ref (xnd X c)), (3, .null), (0, .ref (xnd X up)), (1, .ref ch), (2, .int (nI (cc D up)))]) rfl ?_
    refine zp_iload dX7_putIn_11 (x := 0) (List.mem_of_getElem? (i := 0) rfl) ?_
    refine zp_iload_n dX7_putIn_13 rfl (x := (nI (cc D up))) (List.mem_of_getElem? (i := 5) rfl) ?_
    refine zp_icmp_ge dX7_putIn_14 (tgt := 38) rfl (fun q => absurd q (fun q => by have := (nI_le' (k := 0) (by omega) (by decide)).mp q; omega)) (fun _ => ?_)
    refine zp_aload dX7_putIn_17 (a := (xnd X c)) (List.mem_of_getElem? (i := 1) rfl) ?_
    refine zp_nullF dX7_putIn_19 (tgt := 38) rfl ?_
    refine zp_aload dX7_putIn_22 (a := (xnd X c)) (List.mem_of_getElem? (i := 1) rfl) ?_
    refine zp_astore_n dX7_putIn_24 rfl (Nat.le_of_ble_eq_true rfl) (lv2 := [(3, .ref (xnd X c)), (5, .int 0), (4, .ref (xnd X c)), (0, .ref (xnd X up)), (1, .ref ch), (2, .int (nI (cc D up)))]) rfl ?_
    refine zp_aload dX7_putIn_25 (a := (xnd X c)) (List.mem_of_getElem? (i := 2) rfl) ?_
    refine zp_getRo dX7_putIn_27 fl_X7_83 (hN.1 c q2).1 (r := (lk X (nx D up c))) hnx ?_
    refine zp_astoreo dX7_putIn_30 (Nat.le_of_ble_eq_true rfl) (r := (lk X (nx D up c))) (v := va_rf (lk X (nx D up c))) rfl (lv2 := [(4, va_rf (lk X (nx D up c))), (3, .ref (xnd X c)), (5, .int 0), (0, .ref (xnd X up)), (1, .ref ch), (2, .int (nI (cc D up)))]) rfl ?_
    refine zp_iinc dX7_putIn_32 (k1 := 2) (x := 0) rfl (v := (nI 1)) (nI_1 0) (Nat.le_of_ble_eq_true rfl) (lv2 := [(5, .int (nI 1)), (4, va_rf (lk X (nx D up c))), (3, .ref (xnd X c)), (0, .ref (xnd X up)), (1, .ref ch), (2, .int (nI (cc D up)))]) (by cases lk X (nx D up c) <;> rfl) ?_
    refine zp_goto dX7_putIn_35 (tgt := 11) rfl ?_
    refine zp_lv [0, 1, 2, 3, 4, 5] rfl ?_
    refine Wp.mono (l_putIn l hD hN hup hC (P := cc D up) (by have := ccF_le (D := D) (dn D) up up; unfold cc; omega) (dn D - 1) c 1 (by omega) (by omega) q2 q3 (by rw [hcc]; omega)) (Nat.le_refl _) (Nat.le_refl _) (Nat.le_refl _) (fun v s q => ?_)
    obtain ⟨z1, e, z2, z3, z4, z5, z6⟩ := q
    exact ⟨z1, Or.inr ⟨e, z2, z3, z4, z5, z6⟩⟩
theorem lk_add {D : Dt} {X : Cx} {q cn le cu : Nat} {pl pc : Bool → Nat} {th : Bool → Nat → Nat} {r : Option Nat} (h : ∀ c, r = some c → c < dn D) : lk (xX X (dn D) q cn le cu pl pc th) r = lk X r := by
  cases r with
  | none => rfl
  | some c => show some (upn (xnd X) (dn D) q c) = some (xnd X c); rw [upd_o (by have := h c rfl; omega)]
theorem nx_lt {D : Dt} {k a c : Nat} (h : nx D k a = some c) : c < dn D := (nx_some.mp h).1
/-- the old links, and the new one -/
theorem links {D : Dt} {X : Cx} {up q cn le cu : Nat} {tx : Bool} {size : Int32} {pl pc : Bool → Nat} {th : Bool → Nat → Nat} {σ s : Sto} (hD : DW D) (hN : NX D X σ) (hup : up < dn D) (hqn : ∀ k, k < dn D → xnd X k ≠ q)
    (h : (nx D up up = none ∧ s = wR (wR σ 511 q none) 510 (xnd X up) (some q)) ∨ ∃ e, 0 < e ∧ e < dn D ∧ dpar D e = up ∧ nx D up e = none ∧ s = wR (wR σ 511 q none) 511 (xnd X e) (some q)) :
    (∀ k, k < dn D → zR s 510 (xnd X k) = lk (xX X (dn D) q cn le cu pl pc th) (nx (addD D up tx size) k k)) ∧ (∀ k, k < dn D → zR s 511 (xnd X k) = if k = 0 then none else lk (xX X (dn D) q cn le cu pl pc th) (nx (addD D up tx size) (dpar D k) k)) := by
  have lo : ∀ k a, lk (xX X (dn D) q cn le cu pl pc th) (nx D k a) = lk X (nx D k a) := fun k a => lk_add (fun c hc => nx_lt hc)
  have lnew : lk (xX X (dn D) q cn le cu pl pc th) (some (dn D)) = some q := by show some (upn (xnd X) (dn D) q (dn D)) = some q; rw [upd_n]
  have last : ∀ k c, nx D up k = some c → lk (xX X (dn D) q cn le cu pl pc th) (nx (addD D up tx size) up k) = lk X (nx D up k) := fun k c hc => by rw [nx_add_s hc, ← lo, hc]
  rcases h with ⟨e0, rfl⟩ | ⟨e, q1, q2, q3, q4, rfl⟩
  · refine ⟨fun k hk => ?_, fun k hk => ?_⟩
    · by_cases z : k = up
      · rw [z, nx_add_n e0 hup, lnew]; exact rRe
      · rw [nx_add_o z, lo, rRb (fun y => z (hN.2 k up hk hup y)), rRn (by decide)]
        exact (hN.1 k hk).2.2.1
    · rw [rRn (by decide), rRb (hqn k hk), (hN.1 k hk).2.2.2]
      by_cases z0 : k = 0
      · rw [if_pos z0, if_pos z0]
      · rw [if_neg z0, if_neg z0]
        by_cases z : dpar D k = up
        · exact absurd z (nx_none.mp e0 k (by have := (hD.2.2.2.2.1 k (by omega) hk).1; omega) hk)
        · rw [nx_add_o z, lo]
  · have hep := (hD.2.2.2.2.1 e q1 q2).1
    have hc1 : ∃ c, nx D up up = some c := by
      cases z : nx D up up with
      | none => exact absurd q3 (nx_none.mp z e (by omega) q2)
      | some c => exact ⟨c, rfl⟩
    refine ⟨fun k hk => ?_, fun k hk => ?_⟩
    · rw [rRn (by decide), rRn (by decide), (hN.1 k hk).2.2.1]
      by_cases z : k = up
      · obtain ⟨c, hc⟩ := hc1
        rw [z, last up c hc]
      · rw [nx_add_o z, lo]
    · by_cases z : k = e
      · rw [z, if_neg (by omega), q3, nx_add_n q4 q2, lnew]; exact rRe
      · rw [rRb (fun y => z (hN.2 k e hk q2 y)), rRb (hqn k hk), (hN.1 k hk).2.2.2]
        by_cases z0 : k = 0
        · rw [if_pos z0, if_pos z0]
        · rw [if_neg z0, if_neg z0]
          by_cases z2 : dpar D k = up
          · rw [z2]
            cases y : nx D up k with
            | some c => rw [last k c y, y]
            | none =>
              rcases Nat.lt_or_ge k e with w | w
              · exact absurd q3 (nx_none.mp y e w q2)
              · exact absurd z2 (nx_none.mp q4 k (by omega) hk)
          · rw [nx_add_o z2, lo]
/-- the tree behind it, bare -/
theorem NX_add {D : Dt} {X : Cx} {up q cn le cu : Nat} {tx : Bool} {size : Int32} {pl pc : Bool → Nat} {th : Bool → Nat → Nat} {s : Sto} (hD : DW D) (hup : up < dn D) (hT : ∀ k, k < dn D → zT s (xnd X k) = (5, 0)) (hTq : zT s q = (5, 0)) (h1 : ∀ k, k < dn D → zR s 501 (xnd X k) = if k = 0 then none else some (xnd X (dpar D k))) (h1q : zR s 501 q = some (xnd X up))
    (h510 : ∀ k, k < dn D → zR s 510 (xnd X k) = lk (xX X (dn D) q cn le cu pl pc th) (nx (addD D up tx size) k k)) (h510n : zR s 510 q = none)
    (h511 : ∀ k, k < dn D → zR s 511 (xnd X k) = if k = 0 then none else lk (xX X (dn D) q cn le cu pl pc th) (nx (addD D up tx size) (dpar D k) k)) (h511n : zR s 511 q = none) (hd : ∀ j k, j < dn D → k < dn D → xnd X j = xnd X k → j = k) (hqn : ∀ k, k < dn D → xnd X k ≠ q) : NX (addD D up tx size) (xX X (dn D) q cn le cu pl pc th) s := by
  have d0 : dn D ≠ 0 := by have := hD.1; omega
  refine ⟨fun k hk => ?_, fun j k hj hk he => ?_⟩
  · have hk : k < dn D + 1 := hk
    show zT s (upn (xnd X) (dn D) q k) = (5, 0) ∧ zR s 501 (upn (xnd X) (dn D) q k) = (if k = 0 then none else some (upn (xnd X) (dn D) q (upn (dpar D) (dn D) up k))) ∧ zR s 510 (upn (xnd X) (dn D) q k) = lk (xX X (dn D) q cn le cu pl pc th) (nx (addD D up tx size) k k) ∧ zR s 511 (upn (xnd X) (dn D) q k) = (if k = 0 then none else lk (xX X (dn D) q cn le cu pl pc th) (nx (addD D up tx size) (upn (dpar D) (dn D) up k) k))
    by_cases z : k = dn D
    · rw [z, upd_n, upd_n, if_neg d0, if_neg d0, upd_o (by omega), nx_add_e hD hup, nx_add_l]
      exact ⟨hTq, h1q, h510n, h511n⟩
    · rw [upd_o z, upd_o z]
      refine ⟨hT k (by omega), ?_, h510 k (by omega), h511 k (by omega)⟩
      rw [h1 k (by omega)]
      by_cases z0 : k = 0
      · rw [if_pos z0, if_pos z0]
      · have := (hD.2.2.2.2.1 k (by omega) (by omega)).1
        rw [if_neg z0, if_neg z0, upd_o (by omega)]
  · have hj : j < dn D + 1 := hj
    have hk : k < dn D + 1 := hk
    have he : upn (xnd X) (dn D) q j = upn (xnd X) (dn D) q k := he
    by_cases z : j = dn D
    · by_cases z2 : k = dn D
      · omega
      · rw [z, upd_n, upd_o z2] at he; exact absurd he.symm (hqn k (by omega))
    · by_cases z2 : k = dn D
      · rw [z2, upd_n, upd_o z] at he; exact absurd he (hqn j (by omega))
      · rw [upd_o z, upd_o z2] at he; exact hd j k (by omega) (by omega) he
set_option maxRecDepth 100000 in
set_option maxHeartbeats 4000000 in
theorem c_X12_insertNodeB (l : Launch) (G : Gb) (D : Dt) (X : Cx) (Y : Cy) (W : Int32) (T : Nat) (LL : Nat → List Nat) (fr : List Nat) (LL' : Nat → List Nat) (fr' : List Nat) (up : Nat) (σ : Sto) (hD : DW D) (h : Rz G D X Y W T LL fr LL' fr' σ) (hup : up < dn D) (htu : dtx D up = false) (hn : dn D < 12) (hT : T < 1000) (size : Int32) (hD2 : DW (addD D up false size)) : Ct l G 4 13 128 yX12_insertNode mX12_insertNode [.ref (xob Y), .ref (xnd X up), .int (nI (cc D up)), .int 0] σ (fun v s => v = some (.int (nI (dn D))) ∧ ∃ q sy cn le cu pl pc th, PL G (addD D up false size) (xX X (dn D) q cn le cu pl pc th) (yX Y (dn D) sy) W (T + 1) (setL LL (dn D) []) fr (setL LL' (dn D) []) fr' s ∧ zI s 513 (xnd X 0) = nI (T + 1) ∧ zI s 715 (xpl X false 0) = nI T ∧ (∀ a, (zT σ a).1 ≠ 0 → zT s a = zT σ a ∧ zA s a = zA σ a) ∧ (zT σ sy).1 = 0 ∧ (zT σ cn).1 = 0 ∧ (zT σ le).1 = 0 ∧ (zT σ cu).1 = 0) := by
  refine Ct.of (by decide) rfl (Nat.le_of_ble_eq_true rfl) (fun h => absurd h (by decide)) ?_
  obtain ⟨hB, hAI, hLy, hJ, hdp, hl1, hl2, hlj, hb1, hb2, hca⟩ := id h.1
  obtain ⟨o1, o2, o3, o4, o5, o6, o7, o8, o9, o10, o11, o12, o13, o14, o15, o16, o17⟩ := id hB
  have hKu := hAI.1 up hup
  have nz : ∀ {a c m : Nat}, zT σ a = (c + 1, m) → (zT σ a).1 ≠ 0 := fun {a c m} z => by rw [z]; exact Nat.succ_ne_zero c
  refine zp_zp0 (fun z0 => ?_)
  show Wp l G 4 13 128 (RX12, cX12_insertNode, 6, (some .int), false) 0 [(0, .ref (xob Y)), (1, .ref (xnd X up)), (2, .int (nI (cc D up))), (3, .int 0)] [] σ _
  refine zp_aload_n dX12_insertNode_0 rfl (a := (xob Y)) (List.mem_of_getElem? (i := 0) rfl) ?_
  refine zp_getIv dX12_insertNode_1 fl_X12_29 o1 (v := (nI (dn D))) o7 ?_
  refine zp_istore dX12_insertNode_4 (Nat.le_of_ble_eq_true rfl) (lv2 := [(4, .int (nI (dn D))), (0, .ref (xob Y)), (1, .ref (xnd X up)), (2, .int (nI (cc D up))), (3, .int 0)]) rfl ?_
  refine zp_iload dX12_insertNode_6 (x := (nI (dn D))) (List.mem_of_getElem? (i := 0) rfl) ?_
  refine zp_if_lt dX12_insertNode_8 (tgt := 18) rfl (fun q => absurd q (nI_nneg (by omega))) (fun _ => ?_)
  refine zp_iload dX12_insertNode_11 (x := (nI (dn D))) (List.mem_of_getElem? (i := 0) rfl) ?_
  refine zp_bipush dX12_insertNode_13 (v := 60) (by decide) ?_
  refine zp_icmp_lt dX12_insertNode_15 (tgt := 20) rfl (fun _ => ?_) (fun q => absurd (nI_60 (by omega)) q)
  refine zp_new (c0 := 4) (mc2 := 12) (ms2 := 108) dX12_insertNode_20 rfl wd_30 wd_31 wd_2 (by omega) (by show _ + 20 ≤ _; omega) (fun q20 hq20 => ?_)
  refine zp_dup dX12_insertNode_23 rfl ?_
  refine zp_iload dX12_insertNode_24 (x := (nI (dn D))) (List.mem_of_getElem? (i := 0) rfl) ?_
  refine zp_aload_n dX12_insertNode_26 rfl (a := (xnd X up)) (List.mem_of_getElem? (i := 2) rfl) ?_
  refine zp_iload_n dX12_insertNode_27 rfl (x := 0) (List.mem_of_getElem? (i := 4) rfl) ?_
  refine zp_callI (st := [.ref q20]) (mc2 := 0) (ms2 := 0) dX12_insertNode_28 (c_X7_initB l G q20 (nI (dn D)) (xnd X up) 0 _ zT_self (fun g => (z0 q20 hq20).1 g) (zT_new hq20 hKu.1) (fun z => nz hKu.1 (by rw [z]; exact hq20))) cl_X12_9 rfl im_X7_init rfl rfl rfl (by omega) (by omega) (by omega) (Nat.le_of_ble_eq_true rfl) ?_
  rintro _ s1 ⟨rfl, sy, cn, le, cu, pl, pc, th, nw⟩
  have hqn : ∀ k, k < dn D → xnd X k ≠ q20 := fun k hk z => nz (hAI.1 k hk).1 (by rw [z]; exact hq20)
  have e1 : Ex (fun _ => False) σ s1 := (Ex.refl.nT hq20).ct nw.1.1 (fun c hc => Or.inl (by rw [hc]; exact hq20))
  have T1 : ∀ {a c m : Nat}, zT σ a = (c + 1, m) → zT s1 a = (c + 1, m) := fun z => e1.T z
  have F1 : ∀ a, (zT σ a).1 ≠ 0 → ∀ g, zI s1 g a = zI σ g a ∧ zR s1 g a = zR σ g a := fun a ha => (e1.2 a ha (fun z => z)).1
  refine zp_astore dX12_insertNode_31 (Nat.le_of_ble_eq_true rfl) (lv2 := [(5, .ref q20), (4, .int (nI (dn D))), (0, .ref (xob Y)), (1, .ref (xnd X up)), (2, .int (nI (cc D up))), (3, .int 0)]) rfl ?_
  refine zp_aload_n dX12_insertNode_33 rfl (a := (xob Y)) (List.mem_of_getElem? (i := 2) rfl) ?_
  refine zp_getRv dX12_insertNode_34 fl_X12_21 (T1 o1) (b := (xna Y)) ((F1 _ (nz o1) 1000).2.trans o2) ?_
  refine zp_iload dX12_insertNode_37 (x := (nI (dn D))) (List.mem_of_getElem? (i := 1) rfl) ?_
  refine zp_aload dX12_insertNode_39 (a := q20) (List.mem_of_getElem? (i := 0) rfl) ?_
  refine zp_aastore (j := 0) (c0 := 4) dX12_insertNode_41 (T1 o10) (by decide) rfl rfl nw.1.2.1 (i := (dn D)) (nI_clamp (by omega)) (vp_in_nI (by omega) (by decide)) ?_
  refine zp_aload_n dX12_insertNode_42 rfl (a := (xob Y)) (List.mem_of_getElem? (i := 2) rfl) ?_
  refine zp_dup dX12_insertNode_43 rfl ?_
  refine zp_getIv dX12_insertNode_44 fl_X12_29 (tQ (T1 o1)) (v := (nI (dn D))) ((F1 _ (nz o1) 1005).1.trans o7) ?_
  refine zp_iconst dX12_insertNode_47 (v := 1) (by decide) ?_
  refine zp_iadd dX12_insertNode_48 ?_
  rw [show (((nI (dn D)) + 1) : Int32) = (nI (dn D + 1)) from (nI_1 (dn D))]
  refine zp_putI dX12_insertNode_49 fl_X12_29 (tQ (T1 o1)) ?_
  refine zp_aload_n dX12_insertNode_52 rfl (a := (xnd X up)) (List.mem_of_getElem? (i := 3) rfl) ?_
  refine zp_aload dX12_insertNode_53 (a := q20) (List.mem_of_getElem? (i := 0) rfl) ?_
  refine zp_iload_n dX12_insertNode_55 rfl (x := (nI (cc D up))) (List.mem_of_getElem? (i := 4) rfl) ?_
  refine zp_callV (c0 := 4) (st := []) (mc2 := 0) (ms2 := 0) dX12_insertNode_56 (c_X7_putIn l G D X up q20 _ hD ⟨fun k hk => by
      obtain ⟨a1, a2, a3, a4⟩ := (hAI.nx hJ.nd).1 k hk
      have f := F1 _ (nz a1)
      exact ⟨T1 a1, (f 501).2.trans a2, (f 510).2.trans a3, (f 511).2.trans a4⟩, hJ.nd⟩ hup nw.1.2.1) cl_X12_252 im_X7_putIn se_X7_putIn rfl rfl (tI (tQ (T1 hKu.1))) rfl rfl (by omega) (by omega) (by omega) (Nat.le_of_ble_eq_true rfl) ?_
  rintro _ s2 ⟨rfl, hput⟩
  have hNs : NX D X (wI (wQ s1 (xna Y) (dn D) (some q20)) 1005 (xob Y) (nI (dn D + 1))) := ⟨fun k hk => by
    obtain ⟨a1, a2, a3, a4⟩ := (hAI.nx hJ.nd).1 k hk
    have f := F1 _ (nz a1)
    exact ⟨T1 a1, (f 501).2.trans a2, (f 510).2.trans a3, (f 511).2.trans a4⟩, hJ.nd⟩
  obtain ⟨hk510, hk511⟩ := links (cn := cn) (le := le) (cu := cu) (pl := pl) (pc := pc) (th := th) (tx := false) (size := size) hD hNs hup hqn hput
  have s2I : zI s2 = zI (wI (wQ s1 (xna Y) (dn D) (some q20)) 1005 (xob Y) (nI (dn D + 1))) := by
    rcases hput with ⟨-, z⟩ | ⟨e, -, -, -, -, z⟩ <;> rw [z] <;> rfl
  have s2T : s2.1 = s1.1 := by
    rcases hput with ⟨-, z⟩ | ⟨e, -, -, -, -, z⟩ <;> rw [z] <;> rfl
  have s2A : zA s2 = zA s1 := by
    rcases hput with ⟨-, z⟩ | ⟨e, -, -, -, -, z⟩ <;> rw [z] <;> rfl
  have s2Q : zQ s2 = zQ (wQ s1 (xna Y) (dn D) (some q20)) := by
    rcases hput with ⟨-, z⟩ | ⟨e, -, -, -, -, z⟩ <;> rw [z] <;> rfl
  have s2R : ∀ g, g ≠ 510 → g ≠ 511 → zR s2 g = zR s1 g := fun g g1 g2 => by
    rcases hput with ⟨-, z⟩ | ⟨e, -, -, -, -, z⟩ <;> rw [z] <;> funext c
    · exact (rRn g1).trans (rRn g2)
    · exact (rRn g2).trans (rRn g2)
  have k510n : zR s2 510 q20 = none := by
    rcases hput with ⟨-, z⟩ | ⟨e, -, y, -, -, z⟩ <;> rw [z]
    · exact (rRb (hqn up hup).symm).trans ((rRn (by decide)).trans (nw.1.2.2.2 510))
    · exact (rRn (by decide)).trans ((rRn (by decide)).trans (nw.1.2.2.2 510))
  have k511n : zR s2 511 q20 = none := by
    rcases hput with ⟨-, z⟩ | ⟨e, -, y, -, -, z⟩ <;> rw [z]
    · exact (rRn (by decide)).trans rRe
    · exact (rRb (hqn e y).symm).trans rRe
  have t2 : ∀ a, zT s2 a = zT s1 a := fun a => congrFun s2T a
  have hN2 : NX (addD D up false size) (xX X (dn D) q20 cn le cu pl pc th) s2 := NX_add hD hup (fun k hk => (t2 _).trans (T1 (hAI.1 k hk).1)) ((t2 _).trans nw.1.2.1) (fun k hk => by rw [s2R 501 (by decide) (by decide), (F1 _ (nz (hAI.1 k hk).1) 501).2]; exact (hAI.1 k hk).2.1) (by rw [s2R 501 (by decide) (by decide)]; exact nw.1.2.2.2 501) hk510 k510n hk511 k511n hJ.nd hqn
  have k7 : zI s2 1007 (xob Y) = nI T := by rw [s2I]; exact (rIn (by decide)).trans ((F1 _ (nz o1) 1007).1.trans o9)
  have ko : zT s2 (xob Y) = (10, 0) := (t2 _).trans (T1 o1)
  have xup : xnd (xX X (dn D) q20 cn le cu pl pc th) up = xnd X up := upd_o (by omega)
  have x0 : xnd (xX X (dn D) q20 cn le cu pl pc th) 0 = xnd X 0 := upd_o (by have := hD.1; omega)
  rw [← xup]
  refine zp_aload_n dX12_insertNode_59 rfl (a := (xob Y)) (List.mem_of_getElem? (i := 2) rfl) ?_
  refine zp_aload_n dX12_insertNode_60 rfl (a := (xnd (xX X (dn D) q20 cn le cu pl pc th) up)) (List.mem_of_getElem? (i := 3) rfl) ?_
  refine zp_callV (c0 := 9) (st := []) (mc2 := 0) (ms2 := 0) dX12_insertNode_61 (c_X12_noteChange l G (addD D up false size) (xX X (dn D) q20 cn le cu pl pc th) (yX Y (dn D) sy) T up _ hD2 hN2 (Nat.lt_succ_of_lt hup) ko k7) cl_X12_108 im_X12_noteChange se_X12_noteChange rfl rfl ko rfl rfl (by omega) (by omega) (by omega) (Nat.le_of_ble_eq_true rfl) ?_
  rintro _ s3 ⟨rfl, f3, g513⟩
  rw [x0] at g513
  have s3T : s3.1 = s1.1 := f3.1.trans s2T
  have r3 : zR s3 = zR s2 := by unfold zR; rw [f3.2.1]
  have a3 : zA s3 = zA s1 := by
    refine Eq.trans ?_ s2A
    unfold zA; rw [f3.2.1]
  have q3 : zQ s3 = zQ (wQ s1 (xna Y) (dn D) (some q20)) := by
    refine Eq.trans ?_ s2Q
    unfold zQ; rw [f3.2.1]
  have i3 : ∀ g, g ≠ 513 → g ≠ 1005 → g ≠ 1007 → zI s3 g = zI s1 g := fun g a b c => by
    rw [f3.2.2.1 g a c, s2I]; funext z; exact rIn b
  have hPL : PL G (addD D up false size) (xX X (dn D) q20 cn le cu pl pc th) (yX Y (dn D) sy) W (T + 1) (setL LL (dn D) []) fr (setL LL' (dn D) []) fr' s3 := by
    obtain ⟨dd, d1, d2⟩ := o15 up hup
    refine PL_ins h.1 hD hup (by omega) nw hq20 ⟨dd + 1, by omega, by rw [rIT, d2]; exact nI_1 dd⟩ s3T a3 (fun c hc => by rw [q3]; funext i; exact rQb hc) (fun i => ?_) i3 ?_ f3.2.2.2 g513 hT (fun g a b => by rw [r3]; exact s2R g a b) (fun k hk => by rw [r3]; exact hk510 k hk) (by rw [r3]; exact k510n) (fun k hk => by rw [r3]; exact hk511 k hk) (by rw [r3]; exact k511n)
    · rw [q3, zQ_wQ]
      by_cases z : i = dn D
      · rw [if_pos ⟨rfl, z⟩, if_pos z]
      · rw [if_neg (fun y => z y.2), if_neg z]; exact congrFun (e1.2 _ (nz o10) (fun z => z)).2.2 i
    · rw [f3.2.2.1 1005 (by decide) (by decide), s2I]; exact rIe
  have fz : ∀ {c : Nat}, (zT (wT σ q20 (5, 0)) c).1 = 0 → (zT σ c).1 = 0 := fun hc => ((Ex.refl (O := fun _ => False)).nT hq20).fresh hc
  have hfin : ∃ q sy cn le cu pl pc th, PL G (addD D up false size) (xX X (dn D) q cn le cu pl pc th) (yX Y (dn D) sy) W (T + 1) (setL LL (dn D) []) fr (setL LL' (dn D) []) fr' s3 ∧ zI s3 513 (xnd X 0) = nI (T + 1) ∧ zI s3 715 (xpl X false 0) = nI T ∧ (∀ a, (zT σ a).1 ≠ 0 → zT s3 a = zT σ a ∧ zA s3 a = zA σ a) ∧ (zT σ sy).1 = 0 ∧ (zT σ cn).1 = 0 ∧ (zT σ le).1 = 0 ∧ (zT σ cu).1 = 0 :=
    ⟨q20, sy, cn, le, cu, pl, pc, th, hPL, g513, by rw [i3 715 (by decide) (by decide) (by decide)]; exact (F1 _ (nz ((hAI.1 0 hD.1).2.2.2.2.2.2.2.2.2.2.2.2.2.2.2.2.2.2.1 false)) 715).1.trans h.2.2.2.2.2.2.1, fun a ha => ⟨(congrFun s3T a).trans (e1.1 a ha), by rw [a3]; exact (e1.2 a ha (fun z => z)).2.1⟩, fz nw.2.1.1.2.2.1, fz nw.2.1.1.2.2.2.1, fz nw.2.1.2.2.2.1, fz nw.2.1.2.2.2.2.1⟩
  refine zp_iload dX12_insertNode_64 (x := (nI (dn D))) (List.mem_of_getElem? (i := 1) rfl) ?_
  refine zp_iret rfl dX12_insertNode_66 ?_
  exact ⟨rfl, hfin⟩
set_option maxRecDepth 100000 in
set_option maxHeartbeats 4000000 in
theorem c_X12_insertNodeT (l : Launch) (G : Gb) (D : Dt) (X : Cx) (Y : Cy) (W : Int32) (T : Nat) (LL : Nat → List Nat) (fr : List Nat) (LL' : Nat → List Nat) (fr' : List Nat) (up : Nat) (σ : Sto) (hD : DW D) (h : Rz G D X Y W T LL fr LL' fr' σ) (hup : up < dn D) (htu : dtx D up = false) (hn : dn D < 12) (hT : T < 1000) (size : Int32) (hD2 : DW (addD D up true size)) (hs : 0 < size) : Ct l G 4 91 636 yX12_insertNode mX12_insertNode [.ref (xob Y), .ref (xnd X up), .int (nI (cc D up)), .int size] σ (fun v s => v = some (.int (nI (dn D))) ∧ ∃ q sy cn le cu pl pc th, PL G (addD D up true size) (xX X (dn D) q cn le cu pl pc th) (yX Y (dn D) sy) W (T + 1) (setL LL (dn D) []) fr (setL LL' (dn D) []) fr' s ∧ zI s 513 (xnd X 0) = nI (T + 1) ∧ zI s 715 (xpl X false 0) = nI T ∧ (∀ a, (zT σ a).1 ≠ 0 → zT s a = zT σ a ∧ zA s a = zA σ a) ∧ (zT σ sy).1 = 0 ∧ (zT σ cn).1 = 0 ∧ (zT σ le).1 = 0 ∧ (zT σ cu).1 = 0) := by
  refine Ct.of (by decide) rfl (Nat.le_of_ble_eq_true rfl) (fun h => absurd h (by decide)) ?_
  obtain ⟨hB, hAI, hLy, hJ, hdp, hl1, hl2, hlj, hb1, hb2, hca⟩ := id h.1
  obtain ⟨o1, o2, o3, o4, o5, o6, o7, o8, o9, o10, o11, o12, o13, o14, o15, o16, o17⟩ := id hB
  have hKu := hAI.1 up hup
  have nz : ∀ {a c m : Nat}, zT σ a = (c + 1, m) → (zT σ a).1 ≠ 0 := fun {a c m} z => by rw [z]; exact Nat.succ_ne_zero c
  refine zp_zp0 (fun z0 => ?_)
  show Wp l G 4 91 636 (RX12, cX12_insertNode, 6, (some .int), false) 0 [(0, .ref (xob Y)), (1, .ref (xnd X up)), (2, .int (nI (cc D up))), (3, .int size)] [] σ _
  refine zp_aload_n dX12_insertNode_0 rfl (a := (xob Y)) (List.mem_of_getElem? (i := 0) rfl) ?_
  refine zp_getIv dX12_insertNode_1 fl_X12_29 o1 (v := (nI (dn D))) o7 ?_
  refine zp_istore dX12_insertNode_4 (Nat.le_of_ble_eq_true rfl) (lv2 := [(4, .int (nI (dn D))), (0, .ref (xob Y)), (1, .ref (xnd X up)), (2, .int (nI (cc D up))), (3, .int size)]) rfl ?_
  refine zp_iload dX12_insertNode_6 (x := (nI (dn D))) (List.mem_of_getElem? (i := 0) rfl) ?_
  refine zp_if_lt dX12_insertNode_8 (tgt := 18) rfl (fun q => absurd q (nI_nneg (by omega))) (fun _ => ?_)
  refine zp_iload dX12_insertNode_11 (x := (nI (dn D))) (List.mem_of_getElem? (i := 0) rfl) ?_
  refine zp_bipush dX12_insertNode_13 (v := 60) (by decide) ?_
  refine zp_icmp_lt dX12_insertNode_15 (tgt := 20) rfl (fun _ => ?_) (fun q => absurd (nI_60 (by omega)) q)
  refine zp_new (c0 := 4) (mc2 := 90) (ms2 := 616) dX12_insertNode_20 rfl wd_30 wd_31 wd_2 (by omega) (by show _ + 20 ≤ _; omega) (fun q20 hq20 => ?_)
  refine zp_dup dX12_insertNode_23 rfl ?_
  refine zp_iload dX12_insertNode_24 (x := (nI (dn D))) (List.mem_of_getElem? (i := 0) rfl) ?_
  refine zp_aload_n dX12_insertNode_26 rfl (a := (xnd X up)) (List.mem_of_getElem? (i := 2) rfl) ?_
  refine zp_iload_n dX12_insertNode_27 rfl (x := size) (List.mem_of_getElem? (i := 4) rfl) ?_
  refine zp_callI (st := [.ref q20]) (mc2 := 0) (ms2 := 0) dX12_insertNode_28 (c_X7_initT l G q20 (nI (dn D)) (xnd X up) 0 size _ zT_self (fun g => (z0 q20 hq20).1 g) (zT_new hq20 hKu.1) (fun z => nz hKu.1 (by rw [z]; exact hq20)) hs) cl_X12_9 rfl im_X7_init rfl rfl rfl (by omega) (by omega) (by omega) (Nat.le_of_ble_eq_true rfl) ?_
  rintro _ s1 ⟨rfl, sy, cn, le, cu, pl, pc, th, nw⟩
  have hqn : ∀ k, k < dn D → xnd X k ≠ q20 := fun k hk z => nz (hAI.1 k hk).1 (by rw [z]; exact hq20)
  have e1 : Ex (fun _ => False) σ s1 := (Ex.refl.nT hq20).ct nw.1.1 (fun c hc => Or.inl (by rw [hc]; exact hq20))
  have T1 : ∀ {a c m : Nat}, zT σ a = (c + 1, m) → zT s1 a = (c + 1, m) := fun z => e1.T z
  have F1 : ∀ a, (zT σ a).1 ≠ 0 → ∀ g, zI s1 g a = zI σ g a ∧ zR s1 g a = zR σ g a := fun a ha => (e1.2 a ha (fun z => z)).1
  refine zp_astore dX12_insertNode_31 (Nat.le_of_ble_eq_true rfl) (lv2 := [(5, .ref q20), (4, .int (nI (dn D))), (0, .ref (xob Y)), (1, .ref (xnd X up)), (2, .int (nI (cc D up))), (3, .int size)]) rfl ?_
  refine zp_aload_n dX12_insertNode_33 rfl (a := (xob Y)) (List.mem_of_getElem? (i := 2) rfl) ?_
  refine zp_getRv dX12_insertNode_34 fl_X12_21 (T1 o1) (b := (xna Y)) ((F1 _ (nz o1) 1000).2.trans o2) ?_
  refine zp_iload dX12_insertNode_37 (x := (nI (dn D))) (List.mem_of_getElem? (i := 1) rfl) ?_
  refine zp_aload dX12_insertNode_39 (a := q20) (List.mem_of_getElem? (i := 0) rfl) ?_
  refine zp_aastore (j := 0) (c0 := 4) dX12_insertNode_41 (T1 o10) (by decide) rfl rfl nw.1.2.1 (i := (dn D)) (nI_clamp (by omega)) (vp_in_nI (by omega) (by decide)) ?_
  refine zp_aload_n dX12_insertNode_42 rfl (a := (xob Y)) (List.mem_of_getElem? (i := 2) rfl) ?_
  refine zp_dup dX12_insertNode_43 rfl ?_
  refine zp_getIv dX12_insertNode_44 fl_X12_29 (tQ (T1 o1)) (v := (nI (dn D))) ((F1 _ (nz o1) 1005).1.trans o7) ?_
  refine zp_iconst dX12_insertNode_47 (v := 1) (by decide) ?_
  refine zp_iadd dX12_insertNode_48 ?_
  rw [show (((nI (dn D)) + 1) : Int32) = (nI (dn D + 1)) from (nI_1 (dn D))]
  refine zp_putI dX12_insertNode_49 fl_X12_29 (tQ (T1 o1)) ?_
  refine zp_aload_n dX12_insertNode_52 rfl (a := (xnd X up)) (List.mem_of_getElem? (i := 3) rfl) ?_
  refine zp_aload dX12_insertNode_53 (a := q20) (List.mem_of_getElem? (i := 0) rfl) ?_
  refine zp_iload_n dX12_insertNode_55 rfl (x := (nI (cc D up))) (List.mem_of_getElem? (i := 4) rfl) ?_
  refine zp_callV (c0 := 4) (st := []) (mc2 := 0) (ms2 := 0) dX12_insertNode_56 (c_X7_putIn l G D X up q20 _ hD ⟨fun k hk => by
      obtain ⟨a1, a2, a3, a4⟩ := (hAI.nx hJ.nd).1 k hk
      have f := F1 _ (nz a1)
      exact ⟨T1 a1, (f 501).2.trans a2, (f 510).2.trans a3, (f 511).2.trans a4⟩, hJ.nd⟩ hup nw.1.2.1) cl_X12_252 im_X7_putIn se_X7_putIn rfl rfl (tI (tQ (T1 hKu.1))) rfl rfl (by omega) (by omega) (by omega) (Nat.le_of_ble_eq_true rfl) ?_
  rintro _ s2 ⟨rfl, hput⟩
  have hNs : NX D X (wI (wQ s1 (xna Y) (dn D) (some q20)) 1005 (xob Y) (nI (dn D + 1))) := ⟨fun k hk => by
    obtain ⟨a1, a2, a3, a4⟩ := (hAI.nx hJ.nd).1 k hk
    have f := F1 _ (nz a1)
    exact ⟨T1 a1, (f 501).2.trans a2, (f 510).2.trans a3, (f 511).2.trans a4⟩, hJ.nd⟩
  obtain ⟨hk510, hk511⟩ := links (cn := cn) (le := le) (cu := cu) (pl := pl) (pc := pc) (th := th) (tx := true) (size := size) hD hNs hup hqn hput
  have s2I : zI s2 = zI (wI (wQ s1 (xna Y) (dn D) (some q20)) 1005 (xob Y) (nI (dn D + 1))) := by
    rcases hput with ⟨-, z⟩ | ⟨e, -, -, -, -, z⟩ <;> rw [z] <;> rfl
  have s2T : s2.1 = s1.1 := by
    rcases hput with ⟨-, z⟩ | ⟨e, -, -, -, -, z⟩ <;> rw [z] <;> rfl
  have s2A : zA s2 = zA s1 := by
    rcases hput with ⟨-, z⟩ | ⟨e, -, -, -, -, z⟩ <;> rw [z] <;> rfl
  have s2Q : zQ s2 = zQ (wQ s1 (xna Y) (dn D) (some q20)) := by
    rcases hput with ⟨-, z⟩ | ⟨e, -, -, -, -, z⟩ <;> rw [z] <;> rfl
  have s2R : ∀ g, g ≠ 510 → g ≠ 511 → zR s2 g = zR s1 g := fun g g1 g2 => by
    rcases hput with ⟨-, z⟩ | ⟨e, -, -, -, -, z⟩ <;> rw [z] <;> funext c
    · exact (rRn g1).trans (rRn g2)
    · exact (rRn g2).trans (rRn g2)
  have k510n : zR s2 510 q20 = none := by
    rcases hput with ⟨-, z⟩ | ⟨e, -, y, -, -, z⟩ <;> rw [z]
    · exact (rRb (hqn up hup).symm).trans ((rRn (by decide)).trans (nw.1.2.2.2 510))
    · exact (rRn (by decide)).trans ((rRn (by decide)).trans (nw.1.2.2.2 510))
  have k511n : zR s2 511 q20 = none := by
    rcases hput with ⟨-, z⟩ | ⟨e, -, y, -, -, z⟩ <;> rw [z]
    · exact (rRn (by decide)).trans rRe
    · exact (rRb (hqn e y).symm).trans rRe
  have t2 : ∀ a, zT s2 a = zT s1 a := fun a => congrFun s2T a
  have hN2 : NX (addD D up true size) (xX X (dn D) q20 cn le cu pl pc th) s2 := NX_add hD hup (fun k hk => (t2 _).trans (T1 (hAI.1 k hk).1)) ((t2 _).trans nw.1.2.1) (fun k hk => by rw [s2R 501 (by decide) (by decide), (F1 _ (nz (hAI.1 k hk).1) 501).2]; exact (hAI.1 k hk).2.1) (by rw [s2R 501 (by decide) (by decide)]; exact nw.1.2.2.2 501) hk510 k510n hk511 k511n hJ.nd hqn
  have k7 : zI s2 1007 (xob Y) = nI T := by rw [s2I]; exact (rIn (by decide)).trans ((F1 _ (nz o1) 1007).1.trans o9)
  have ko : zT s2 (xob Y) = (10, 0) := (t2 _).trans (T1 o1)
  have xup : xnd (xX X (dn D) q20 cn le cu pl pc th) up = xnd X up := upd_o (by omega)
  have x0 : xnd (xX X (dn D) q20 cn le cu pl pc th) 0 = xnd X 0 := upd_o (by have := hD.1; omega)
  rw [← xup]
  refine zp_aload_n dX12_insertNode_59 rfl (a := (xob Y)) (List.mem_of_getElem? (i := 2) rfl) ?_
  refine zp_aload_n dX12_insertNode_60 rfl (a := (xnd (xX X (dn D) q20 cn le cu pl pc th) up)) (List.mem_of_getElem? (i := 3) rfl) ?_
  refine zp_callV (c0 := 9) (st := []) (mc2 := 0) (ms2 := 0) dX12_insertNode_61 (c_X12_noteChange l G (addD D up true size) (xX X (dn D) q20 cn le cu pl pc th) (yX Y (dn D) sy) T up _ hD2 hN2 (Nat.lt_succ_of_lt hup) ko k7) cl_X12_108 im_X12_noteChange se_X12_noteChange rfl rfl ko rfl rfl (by omega) (by omega) (by omega) (Nat.le_of_ble_eq_true rfl) ?_
  rintro _ s3 ⟨rfl, f3, g513⟩
  rw [x0] at g513
  have s3T : s3.1 = s1.1 := f3.1.trans s2T
  have r3 : zR s3 = zR s2 := by unfold zR; rw [f3.2.1]
  have a3 : zA s3 = zA s1 := by
    refine Eq.trans ?_ s2A
    unfold zA; rw [f3.2.1]
  have q3 : zQ s3 = zQ (wQ s1 (xna Y) (dn D) (some q20)) := by
    refine Eq.trans ?_ s2Q
    unfold zQ; rw [f3.2.1]
  have i3 : ∀ g, g ≠ 513 → g ≠ 1005 → g ≠ 1007 → zI s3 g = zI s1 g := fun g a b c => by
    rw [f3.2.2.1 g a c, s2I]; funext z; exact rIn b
  have hPL : PL G (addD D up true size) (xX X (dn D) q20 cn le cu pl pc th) (yX Y (dn D) sy) W (T + 1) (setL LL (dn D) []) fr (setL LL' (dn D) []) fr' s3 := by
    obtain ⟨dd, d1, d2⟩ := o15 up hup
    refine PL_ins h.1 hD hup (by omega) nw hq20 ⟨dd + 1, by omega, by rw [rIT, d2]; exact nI_1 dd⟩ s3T a3 (fun c hc => by rw [q3]; funext i; exact rQb hc) (fun i => ?_) i3 ?_ f3.2.2.2 g513 hT (fun g a b => by rw [r3]; exact s2R g a b) (fun k hk => by rw [r3]; exact hk510 k hk) (by rw [r3]; exact k510n) (fun k hk => by rw [r3]; exact hk511 k hk) (by rw [r3]; exact k511n)
    · rw [q3, zQ_wQ]
      by_cases z : i = dn D
      · rw [if_pos ⟨rfl, z⟩, if_pos z]
      · rw [if_neg (fun y => z y.2), if_neg z]; exact congrFun (e1.2 _ (nz o10) (fun z => z)).2.2 i
    · rw [f3.2.2.1 1005 (by decide) (by decide), s2I]; exact rIe
  have fz : ∀ {c : Nat}, (zT (wT σ q20 (5, 0)) c).1 = 0 → (zT σ c).1 = 0 := fun hc => ((Ex.refl (O := fun _ => False)).nT hq20).fresh hc
  have hfin : ∃ q sy cn le cu pl pc th, PL G (addD D up true size) (xX X (dn D) q cn le cu pl pc th) (yX Y (dn D) sy) W (T + 1) (setL LL (dn D) []) fr (setL LL' (dn D) []) fr' s3 ∧ zI s3 513 (xnd X 0) = nI (T + 1) ∧ zI s3 715 (xpl X false 0) = nI T ∧ (∀ a, (zT σ a).1 ≠ 0 → zT s3 a = zT σ a ∧ zA s3 a = zA σ a) ∧ (zT σ sy).1 = 0 ∧ (zT σ cn).1 = 0 ∧ (zT σ le).1 = 0 ∧ (zT σ cu).1 = 0 :=
    ⟨q20, sy, cn, le, cu, pl, pc, th, hPL, g513, by rw [i3 715 (by decide) (by decide) (by decide)]; exact (F1 _ (nz ((hAI.1 0 hD.1).2.2.2.2.2.2.2.2.2.2.2.2.2.2.2.2.2.2.1 false)) 715).1.trans h.2.2.2.2.2.2.1, fun a ha => ⟨(congrFun s3T a).trans (e1.1 a ha), by rw [a3]; exact (e1.2 a ha (fun z => z)).2.1⟩, fz nw.2.1.1.2.2.1, fz nw.2.1.1.2.2.2.1, fz nw.2.1.2.2.2.1, fz nw.2.1.2.2.2.2.1⟩
  refine zp_iload dX12_insertNode_64 (x := (nI (dn D))) (List.mem_of_getElem? (i := 1) rfl) ?_
  refine zp_iret rfl dX12_insertNode_66 ?_
  exact ⟨rfl, hfin⟩
theorem i_pos {x : Int32} (h : 0 < x) : 1 ≤ x := by
  have := Int32.lt_iff_toInt_lt.mp h
  rw [show (0 : Int32).toInt = 0 from rfl] at this
  exact Int32.le_iff_toInt_le.mpr (by rw [show (1 : Int32).toInt = 1 from rfl]; omega)
set_option maxRecDepth 100000 in
set_option maxHeartbeats 4000000 in
theorem c_X12_box (l : Launch) (G : Gb) (D : Dt) (X : Cx) (Y : Cy) (W : Int32) (T : Nat) (LL : Nat → List Nat) (fr : List Nat) (LL' : Nat → List Nat) (fr' : List Nat) (up : Nat) (σ : Sto) (hD : DW D) (h : Rz G D X Y W T LL fr LL' fr' σ) (hup : up < dn D) (htu : dtx D up = false) (hn : dn D < 12) (hT : T < 1000) (size : Int32) (hD2 : DW (addD D up false size)) (hW0 : 0 ≤ W.toInt) (hW1 : W.toInt ≤ 300) : Ct l G 37 61 416 yX12_box mX12_box [.ref (xob Y), .int (nI up), .int (nI (cc D up))] σ (fun v s => v = some (.int (nI (dn D))) ∧ ∃ X2 Y2 LL2 fr2 LL3, Rz G (addD D up false size) X2 Y2 W (T + 1) LL2 fr2 LL3 fr' s ∧ xob Y2 = xob Y ∧ (∀ a, (zT σ a).1 ≠ 0 → zT s a = zT σ a ∧ ((∀ t k, t < 4 → k < dn D → a ≠ arX X Y t k) → zA s a = zA σ a ∧ ∀ t k, t < 4 → k < dn D + 1 → a ≠ arX X2 Y2 t k))) := by
  refine Ct.of (by decide) rfl (Nat.le_of_ble_eq_true rfl) (fun h => absurd h (by decide)) ?_
  have hKu := h.1.2.1.1 up hup
  have hNX := h.1.2.1.nx h.1.2.2.2.1.nd
  have hdep : zI σ 502 (xnd X up) < 20 := by
    obtain ⟨dd, d1, d2⟩ := h.1.1.2.2.2.2.2.2.2.2.2.2.2.2.2.2.1 up hup
    rw [d2]
    exact (nI_ltj (k := 20) (by omega) (by decide)).mpr (by omega)
  have hcl : cc D up ≤ dn D := ccF_le (dn D) up up
  show Wp l G 37 61 416 (RX12, cX12_box, 5, (some .int), false) 0 [(0, .ref (xob Y)), (1, .int (nI up)), (2, .int (nI (cc D up)))] [] σ _
  refine zp_aload_n dX12_box_0 rfl (a := (xob Y)) (List.mem_of_getElem? (i := 0) rfl) ?_
  refine zp_iload_n dX12_box_1 rfl (x := (nI up)) (List.mem_of_getElem? (i := 1) rfl) ?_
  refine zp_callV (c0 := 9) (st := []) (mc2 := 61) (ms2 := 416) dX12_box_2 (c_X12_boxAt l G D X Y W T up _ hD h.1.1 h.1.2.1 hup htu) cl_X12_68 im_X12_boxAt se_X12_boxAt rfl rfl h.1.1.1 rfl rfl (by omega) (by omega) (by omega) (Nat.le_of_ble_eq_true rfl) ?_
  rintro _ s1 ⟨rfl, hs1⟩; obtain rfl := hs1.symm
  refine zp_astore_n dX12_box_5 rfl (Nat.le_of_ble_eq_true rfl) (lv2 := [(3, .ref (xnd X up)), (0, .ref (xob Y)), (1, .int (nI up)), (2, .int (nI (cc D up)))]) rfl ?_
  refine zp_aload_n dX12_box_6 rfl (a := (xnd X up)) (List.mem_of_getElem? (i := 0) rfl) ?_
  refine zp_nullF dX12_box_7 (tgt := 22) rfl ?_
  refine zp_iload_n dX12_box_10 rfl (x := (nI (cc D up))) (List.mem_of_getElem? (i := 3) rfl) ?_
  refine zp_if_lt dX12_box_11 (tgt := 22) rfl (fun q => absurd q (nI_nneg (by omega))) (fun _ => ?_)
  refine zp_iload_n dX12_box_14 rfl (x := (nI (cc D up))) (List.mem_of_getElem? (i := 3) rfl) ?_
  refine zp_aload_n dX12_box_15 rfl (a := (xnd X up)) (List.mem_of_getElem? (i := 0) rfl) ?_
  refine zp_callV (c0 := 4) (st := [.int (nI (cc D up))]) (mc2 := 61) (ms2 := 416) dX12_box_16 (c_X7_countChildren l G D X up _ hD hNX hup) cl_X12_72 im_X7_countChildren se_X7_countChildren rfl rfl hKu.1 rfl rfl (by omega) (by omega) (by omega) (Nat.le_of_ble_eq_true rfl) ?_
  rintro _ s1 ⟨rfl, hs1⟩; obtain rfl := hs1.symm
  refine zp_icmp_le dX12_box_19 (tgt := 30) rfl (fun _ => ?_) (fun q => absurd (Int32.le_refl _) q)
  refine zp_aload_n dX12_box_30 rfl (a := (xob Y)) (List.mem_of_getElem? (i := 1) rfl) ?_
  refine zp_aload_n dX12_box_31 rfl (a := (xnd X up)) (List.mem_of_getElem? (i := 0) rfl) ?_
  refine zp_callV (c0 := 9) (st := []) (mc2 := 61) (ms2 := 416) dX12_box_32 (c_X12_hasRoom l G (xob Y) 0 (xnd X up) 0 _ h.1.1.1 hKu.1 (by rw [h.1.1.2.2.2.2.2.2.1]; exact nI_60 (by omega)) hdep) cl_X12_79 im_X12_hasRoom se_X12_hasRoom rfl rfl h.1.1.1 rfl rfl (by omega) (by omega) (by omega) (Nat.le_of_ble_eq_true rfl) ?_
  rintro _ s1 ⟨rfl, hs1⟩; obtain rfl := hs1.symm
  refine zp_if_ne dX12_box_35 (tgt := 46) rfl (fun _ => ?_) (fun q => absurd q (by decide))
  refine zp_aload_n dX12_box_46 rfl (a := (xob Y)) (List.mem_of_getElem? (i := 1) rfl) ?_
  refine zp_aload_n dX12_box_47 rfl (a := (xnd X up)) (List.mem_of_getElem? (i := 0) rfl) ?_
  refine zp_iload_n dX12_box_48 rfl (x := (nI (cc D up))) (List.mem_of_getElem? (i := 3) rfl) ?_
  refine zp_iconst dX12_box_49 (v := 0) (by decide) ?_
  refine zp_callV (c0 := 9) (st := []) (mc2 := 48) (ms2 := 288) dX12_box_50 (c_X12_insertNodeB l G D X Y W T LL fr LL' fr' up _ hD h hup htu hn hT size hD2) cl_X12_86 im_X12_insertNode se_X12_insertNode rfl rfl h.1.1.1 rfl rfl (by omega) (by omega) (by omega) (Nat.le_of_ble_eq_true rfl) ?_
  rintro _ s3 ⟨rfl, hx⟩
  obtain ⟨q, sy, cn, le, cu, pl, pc, th, hP, g513, g715, hfr, y1, y2, y3, y4⟩ := hx
  have x0p : xpl (xX X (dn D) q cn le cu pl pc th) false 0 = xpl X false 0 := upd_o (by have := hD.1; omega)
  have x0n : xnd (xX X (dn D) q cn le cu pl pc th) 0 = xnd X 0 := upd_o (by have := hD.1; omega)
  refine zp_istore dX12_box_53 (Nat.le_of_ble_eq_true rfl) (lv2 := [(4, .int (nI (dn D))), (3, .ref (xnd X up)), (0, .ref (xob Y)), (1, .int (nI up)), (2, .int (nI (cc D up)))]) rfl ?_
  refine zp_aload_n dX12_box_55 rfl (a := (xob Y)) (List.mem_of_getElem? (i := 2) rfl) ?_
  refine zp_callV (c0 := 9) (st := []) (mc2 := 0) (ms2 := 0) dX12_box_56 (c_X12_layAgain l G (addD D up false size) (xX X (dn D) q cn le cu pl pc th) (yX Y (dn D) sy) W (T + 1) (setL LL (dn D) []) fr (setL LL' (dn D) []) fr' _ hD2 hP hW0 hW1 (Or.inl (by rw [x0p, x0n, g715, g513]; exact nI_s (by omega)))) cl_X12_89 im_X12_layAgain se_X12_layAgain rfl rfl hP.1.1 rfl rfl (by omega) (by omega) (by omega) (Nat.le_of_ble_eq_true rfl) ?_
  rintro _ s4 ⟨rfl, ⟨LL2, fr2, hR⟩, hFo⟩
  refine zp_iload dX12_box_59 (x := (nI (dn D))) (List.mem_of_getElem? (i := 0) rfl) ?_
  refine zp_iret rfl dX12_box_61 ?_
  refine ⟨rfl, _, _, LL2, fr2, _, hR, rfl, fun a ha => ⟨(hFo.1 a (by rw [(hfr a ha).1]; exact ha)).trans (hfr a ha).1, fun hn => ?_⟩⟩
  have hne : ∀ t k, t < 4 → k < dn D + 1 → a ≠ arX (xX X (dn D) q cn le cu pl pc th) (yX Y (dn D) sy) t k := fun t k ht hk => by
    by_cases z : k = dn D
    · rw [z]
      have : t = 0 ∨ t = 1 ∨ t = 2 ∨ t = 3 := by omega
      rcases this with w | w | w | w <;> subst w
      · show a ≠ upn (xcn X) (dn D) cn (dn D); rw [upd_n]; exact fun w => ha (by rw [w]; exact y2)
      · show a ≠ upn (xsy Y) (dn D) sy (dn D); rw [upd_n]; exact fun w => ha (by rw [w]; exact y1)
      · show a ≠ upn (xle X) (dn D) le (dn D); rw [upd_n]; exact fun w => ha (by rw [w]; exact y3)
      · show a ≠ upn (xcu X) (dn D) cu (dn D); rw [upd_n]; exact fun w => ha (by rw [w]; exact y4)
    · have := hn t k ht (by omega)
      match t with
      | 0 => show a ≠ upn (xcn X) (dn D) cn k; rw [upd_o z]; exact this
      | 1 => show a ≠ upn (xsy Y) (dn D) sy k; rw [upd_o z]; exact this
      | 2 => show a ≠ upn (xle X) (dn D) le k; rw [upd_o z]; exact this
      | u + 3 => show a ≠ upn (xcu X) (dn D) cu k; rw [upd_o z]; exact this
  exact ⟨(hFo.2 a (by rw [(hfr a ha).1]; exact ha) hne).trans (hfr a ha).2, hne⟩
set_option maxRecDepth 100000 in
set_option maxHeartbeats 4000000 in
theorem c_X12_text (l : Launch) (G : Gb) (D : Dt) (X : Cx) (Y : Cy) (W : Int32) (T : Nat) (LL : Nat → List Nat) (fr : List Nat) (LL' : Nat → List Nat) (fr' : List Nat) (up : Nat) (σ : Sto) (hD : DW D) (h : Rz G D X Y W T LL fr LL' fr' σ) (hup : up < dn D) (htu : dtx D up = false) (hn : dn D < 12) (hT : T < 1000) (size : Int32) (hD2 : DW (addD D up true size)) (hW0 : 0 ≤ W.toInt) (hW1 : W.toInt ≤ 300) (hs : 0 < size) (hsz : size ≤ 20) : Ct l G 37 139 924 yX12_text mX12_text [.ref (xob Y), .int (nI up), .int (nI (cc D up)), .int size] σ (fun v s => v = some (.int (nI (dn D))) ∧ ∃ X2 Y2 LL2 fr2 LL3, Rz G (addD D up true size) X2 Y2 W (T + 1) LL2 fr2 LL3 fr' s ∧ xob Y2 = xob Y ∧ (∀ a, (zT σ a).1 ≠ 0 → zT s a = zT σ a ∧ ((∀ t k, t < 4 → k < dn D → a ≠ arX X Y t k) → zA s a = zA σ a ∧ ∀ t k, t < 4 → k < dn D + 1 → a ≠ arX X2 Y2 t k))) := by
  refine Ct.of (by decide) rfl (Nat.le_of_ble_eq_true rfl) (fun h => absurd h (by decide)) ?_
  have hKu := h.1.2.1.1 up hup
  have hNX := h.1.2.1.nx h.1.2.2.2.1.nd
  have hdep : zI σ 502 (xnd X up) < 20 := by
    obtain ⟨dd, d1, d2⟩ := h.1.1.2.2.2.2.2.2.2.2.2.2.2.2.2.2.1 up hup
    rw [d2]
    exact (nI_ltj (k := 20) (by omega) (by decide)).mpr (by omega)
  have hcl : cc D up ≤ dn D := ccF_le (dn D) up up
  show Wp l G 37 139 924 (RX12, cX12_text, 6, (some .int), false) 0 [(0, .ref (xob Y)), (1, .int (nI up)), (2, .int (nI (cc D up))), (3, .int size)] [] σ _
  refine zp_aload_n dX12_text_0 rfl (a := (xob Y)) (List.mem_of_getElem? (i := 0) rfl) ?_
  refine zp_iload_n dX12_text_1 rfl (x := (nI up)) (List.mem_of_getElem? (i := 1) rfl) ?_
  refine zp_callV (c0 := 9) (st := []) (mc2 := 139) (ms2 := 924) dX12_text_2 (c_X12_boxAt l G D X Y W T up _ hD h.1.1 h.1.2.1 hup htu) cl_X12_68 im_X12_boxAt se_X12_boxAt rfl rfl h.1.1.1 rfl rfl (by omega) (by omega) (by omega) (Nat.le_of_ble_eq_true rfl) ?_
  rintro _ s1 ⟨rfl, hs1⟩; obtain rfl := hs1.symm
  refine zp_astore dX12_text_5 (Nat.le_of_ble_eq_true rfl) (lv2 := [(4, .ref (xnd X up)), (0, .ref (xob Y)), (1, .int (nI up)), (2, .int (nI (cc D up))), (3, .int size)]) rfl ?_
  refine zp_aload dX12_text_7 (a := (xnd X up)) (List.mem_of_getElem? (i := 0) rfl) ?_
  refine zp_nullF dX12_text_9 (tgt := 25) rfl ?_
  refine zp_iload_n dX12_text_12 rfl (x := (nI (cc D up))) (List.mem_of_getElem? (i := 3) rfl) ?_
  refine zp_if_lt dX12_text_13 (tgt := 25) rfl (fun q => absurd q (nI_nneg (by omega))) (fun _ => ?_)
  refine zp_iload_n dX12_text_16 rfl (x := (nI (cc D up))) (List.mem_of_getElem? (i := 3) rfl) ?_
  refine zp_aload dX12_text_17 (a := (xnd X up)) (List.mem_of_getElem? (i := 0) rfl) ?_
  refine zp_callV (c0 := 4) (st := [.int (nI (cc D up))]) (mc2 := 139) (ms2 := 924) dX12_text_19 (c_X7_countChildren l G D X up _ hD hNX hup) cl_X12_72 im_X7_countChildren se_X7_countChildren rfl rfl hKu.1 rfl rfl (by omega) (by omega) (by omega) (Nat.le_of_ble_eq_true rfl) ?_
  rintro _ s1 ⟨rfl, hs1⟩; obtain rfl := hs1.symm
  refine zp_icmp_le dX12_text_22 (tgt := 33) rfl (fun _ => ?_) (fun q => absurd (Int32.le_refl _) q)
  refine zp_iload_n dX12_text_33 rfl (x := size) (List.mem_of_getElem? (i := 4) rfl) ?_
  refine zp_iconst dX12_text_34 (v := 1) (by decide) ?_
  refine zp_icmp_lt dX12_text_35 (tgt := 44) rfl (fun q => absurd q (i_nlt (i_pos hs))) (fun _ => ?_)
  refine zp_iload_n dX12_text_38 rfl (x := size) (List.mem_of_getElem? (i := 4) rfl) ?_
  refine zp_bipush dX12_text_39 (v := 20) (by decide) ?_
  refine zp_icmp_le dX12_text_41 (tgt := 52) rfl (fun _ => ?_) (fun q => absurd hsz q)
  refine zp_aload_n dX12_text_52 rfl (a := (xob Y)) (List.mem_of_getElem? (i := 1) rfl) ?_
  refine zp_aload dX12_text_53 (a := (xnd X up)) (List.mem_of_getElem? (i := 0) rfl) ?_
  refine zp_callV (c0 := 9) (st := []) (mc2 := 139) (ms2 := 924) dX12_text_55 (c_X12_hasRoom l G (xob Y) 0 (xnd X up) 0 _ h.1.1.1 hKu.1 (by rw [h.1.1.2.2.2.2.2.2.1]; exact nI_60 (by omega)) hdep) cl_X12_79 im_X12_hasRoom se_X12_hasRoom rfl rfl h.1.1.1 rfl rfl (by omega) (by omega) (by omega) (Nat.le_of_ble_eq_true rfl) ?_
  rintro _ s1 ⟨rfl, hs1⟩; obtain rfl := hs1.symm
  refine zp_if_ne dX12_text_58 (tgt := 69) rfl (fun _ => ?_) (fun q => absurd q (by decide))
  refine zp_aload_n dX12_text_69 rfl (a := (xob Y)) (List.mem_of_getElem? (i := 1) rfl) ?_
  refine zp_aload dX12_text_70 (a := (xnd X up)) (List.mem_of_getElem? (i := 0) rfl) ?_
  refine zp_iload_n dX12_text_72 rfl (x := (nI (cc D up))) (List.mem_of_getElem? (i := 3) rfl) ?_
  refine zp_iload_n dX12_text_73 rfl (x := size) (List.mem_of_getElem? (i := 4) rfl) ?_
  refine zp_callV (c0 := 9) (st := []) (mc2 := 48) (ms2 := 288) dX12_text_74 (c_X12_insertNodeT l G D X Y W T LL fr LL' fr' up _ hD h hup htu hn hT size hD2 hs) cl_X12_86 im_X12_insertNode se_X12_insertNode rfl rfl h.1.1.1 rfl rfl (by omega) (by omega) (by omega) (Nat.le_of_ble_eq_true rfl) ?_
  rintro _ s3 ⟨rfl, hx⟩
  obtain ⟨q, sy, cn, le, cu, pl, pc, th, hP, g513, g715, hfr, y1, y2, y3, y4⟩ := hx
  have x0p : xpl (xX X (dn D) q cn le cu pl pc th) false 0 = xpl X false 0 := upd_o (by have := hD.1; omega)
  have x0n : xnd (xX X (dn D) q cn le cu pl pc th) 0 = xnd X 0 := upd_o (by have := hD.1; omega)
  refine zp_istore dX12_text_77 (Nat.le_of_ble_eq_true rfl) (lv2 := [(5, .int (nI (dn D))), (4, .ref (xnd X up)), (0, .ref (xob Y)), (1, .int (nI up)), (2, .int (nI (cc D up))), (3, .int size)]) rfl ?_
  refine zp_aload_n dX12_text_79 rfl (a := (xob Y)) (List.mem_of_getElem? (i := 2) rfl) ?_
  refine zp_callV (c0 := 9) (st := []) (mc2 := 0) (ms2 := 0) dX12_text_80 (c_X12_layAgain l G (addD D up true size) (xX X (dn D) q cn le cu pl pc th) (yX Y (dn D) sy) W (T + 1) (setL LL (dn D) []) fr (setL LL' (dn D) []) fr' _ hD2 hP hW0 hW1 (Or.inl (by rw [x0p, x0n, g715, g513]; exact nI_s (by omega)))) cl_X12_89 im_X12_layAgain se_X12_layAgain rfl rfl hP.1.1 rfl rfl (by omega) (by omega) (by omega) (Nat.le_of_ble_eq_true rfl) ?_
  rintro _ s4 ⟨rfl, ⟨LL2, fr2, hR⟩, hFo⟩
  refine zp_iload dX12_text_83 (x := (nI (dn D))) (List.mem_of_getElem? (i := 0) rfl) ?_
  refine zp_iret rfl dX12_text_85 ?_
  refine ⟨rfl, _, _, LL2, fr2, _, hR, rfl, fun a ha => ⟨(hFo.1 a (by rw [(hfr a ha).1]; exact ha)).trans (hfr a ha).1, fun hn => ?_⟩⟩
  have hne : ∀ t k, t < 4 → k < dn D + 1 → a ≠ arX (xX X (dn D) q cn le cu pl pc th) (yX Y (dn D) sy) t k := fun t k ht hk => by
    by_cases z : k = dn D
    · rw [z]
      have : t = 0 ∨ t = 1 ∨ t = 2 ∨ t = 3 := by omega
      rcases this with w | w | w | w <;> subst w
      · show a ≠ upn (xcn X) (dn D) cn (dn D); rw [upd_n]; exact fun w => ha (by rw [w]; exact y2)
      · show a ≠ upn (xsy Y) (dn D) sy (dn D); rw [upd_n]; exact fun w => ha (by rw [w]; exact y1)
      · show a ≠ upn (xle X) (dn D) le (dn D); rw [upd_n]; exact fun w => ha (by rw [w]; exact y3)
      · show a ≠ upn (xcu X) (dn D) cu (dn D); rw [upd_n]; exact fun w => ha (by rw [w]; exact y4)
    · have := hn t k ht (by omega)
      match t with
      | 0 => show a ≠ upn (xcn X) (dn D) cn k; rw [upd_o z]; exact this
      | 1 => show a ≠ upn (xsy Y) (dn D) sy k; rw [upd_o z]; exact this
      | 2 => show a ≠ upn (xle X) (dn D) le k; rw [upd_o z]; exact this
      | u + 3 => show a ≠ upn (xcu X) (dn D) cu k; rw [upd_o z]; exact this
  exact ⟨(hFo.2 a (by rw [(hfr a ha).1]; exact ha) hne).trans (hfr a ha).2, hne⟩

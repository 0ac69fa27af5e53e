/-! NODES BY NUMBER; A CHANGE NOTED (by wip/p27/gen_acc.py) -/
theorem txpos {G D X Y} {σ : Sto} {k : Nat} (hD : DW D) (hI : AI G D X Y σ) (hk : k < dn D) (ht : dtx D k = true) : 0 < zI σ 503 (xnd X k) := by
  rw [(hI.1 k hk).2.2.1, if_pos ht]
  exact Int32.lt_iff_toInt_lt.mpr (by have := hD.2.2.2.2.2.2.2.1 k; rw [show (0 : Int32).toInt = 0 from rfl]; omega)
theorem bxpos {G D X Y} {σ : Sto} {k : Nat} (hI : AI G D X Y σ) (hk : k < dn D) (ht : dtx D k = false) : ¬ (0 < zI σ 503 (xnd X k)) := by
  rw [(hI.1 k hk).2.2.1, if_neg (by rw [ht]; decide)]; decide
theorem nI_nneg {k : Nat} (h : k < 2147483648) : ¬ (nI k < 0) := fun q => by
  have q := Int32.lt_iff_toInt_lt.mp q
  rw [nI_toInt h, show (0 : Int32).toInt = 0 from rfl] at q
  omega
theorem nI_ltj {j k : Nat} (hj : j < 2147483648) (hk : k < 2147483648) : nI j < nI k ↔ j < k := by
  rw [Int32.lt_iff_toInt_lt, nI_toInt hj, nI_toInt hk]; omega
theorem nI_le' {j k : Nat} (hj : j < 2147483648) (hk : k < 2147483648) : nI j ≤ nI k ↔ j ≤ k := by
  rw [Int32.le_iff_toInt_le, nI_toInt hj, nI_toInt hk]; omega
theorem nI_inj {j k : Nat} (hj : j < 2147483648) (hk : k < 2147483648) (h : nI j = nI k) : j = k := by
  have := congrArg Int32.toInt h
  rw [nI_toInt hj, nI_toInt hk] at this
  omega
theorem i_nlt {a b : Int32} (h : b ≤ a) : ¬ a < b := fun q => Int32.lt_irrefl (Int32.lt_of_lt_of_le q h)
theorem nI_60 {k : Nat} (h : k < 60) : nI k < 60 := (nI_ltj (k := 60) (by omega) (by decide)).mpr h
set_option maxRecDepth 100000 in
set_option maxHeartbeats 4000000 in
theorem c_X12_nodeAt (l : Launch) (G : Gb) (D : Dt) (X : Cx) (Y : Cy) (W : Int32) (T : Nat) (k : Nat) (σ : Sto) (hD : DW D) (hB : OB D X Y W T σ) (hI : AI G D X Y σ) (hk : k < dn D) : Ct l G 1 0 0 yX12_nodeAt mX12_nodeAt [.ref (xob Y), .int (nI k)] σ (fun v s => v = some (.ref (xnd X k)) ∧ s = σ) := by
  refine Ct.of (by decide) rfl (Nat.le_of_ble_eq_true rfl) (fun h => absurd h (by decide)) ?_
  have hn := hD.2.1
  show Wp l G 1 0 0 (RX12, cX12_nodeAt, 2, (some (.object "FlowBoxes$Node")), false) 0 [(0, .ref (xob Y)), (1, .int (nI k))] [] σ _
  refine zp_iload_n dX12_nodeAt_0 rfl (x := (nI k)) (List.mem_of_getElem? (i := 1) rfl) ?_
  refine zp_if_lt dX12_nodeAt_1 (tgt := 10) rfl (fun q => absurd q (nI_nneg (by omega))) (fun _ => ?_)
  refine zp_iload_n dX12_nodeAt_4 rfl (x := (nI k)) (List.mem_of_getElem? (i := 1) rfl) ?_
  refine zp_bipush dX12_nodeAt_5 (v := 60) (by decide) ?_
  refine zp_icmp_lt dX12_nodeAt_7 (tgt := 14) rfl (fun _ => ?_) (fun q => absurd (nI_60 (by omega)) q)
  refine zp_aload_n dX12_nodeAt_14 rfl (a := (xob Y)) (List.mem_of_getElem? (i := 0) rfl) ?_
  refine zp_getRv dX12_nodeAt_15 fl_X12_21 hB.1 (b := (xna Y)) hB.2.1 ?_
  refine zp_iload_n dX12_nodeAt_18 rfl (x := (nI k)) (List.mem_of_getElem? (i := 1) rfl) ?_
  refine zp_aaload (j := 0) dX12_nodeAt_19 hB.2.2.2.2.2.2.2.2.2.1 (by decide) rfl (i := k) (nI_clamp (by omega)) (vp_in_nI (by omega) (by decide)) (v := .ref (xnd X k)) (congrArg va_rf ((hB.2.2.2.2.2.2.2.2.2.2.1 k (by omega)).trans (if_pos hk))) ?_
  refine zp_aret rfl (r := some (xnd X k)) rfl dX12_nodeAt_20 ?_
  exact ⟨rfl, rfl⟩
set_option maxRecDepth 100000 in
set_option maxHeartbeats 4000000 in
theorem c_X12_boxAt (l : Launch) (G : Gb) (D : Dt) (X : Cx) (Y : Cy) (W : Int32) (T : Nat) (k : Nat) (σ : Sto) (hD : DW D) (hB : OB D X Y W T σ) (hI : AI G D X Y σ) (hk : k < dn D) (ht : dtx D k = false) : Ct l G 2 0 0 yX12_boxAt mX12_boxAt [.ref (xob Y), .int (nI k)] σ (fun v s => v = some (.ref (xnd X k)) ∧ s = σ) := by
  refine Ct.of (by decide) rfl (Nat.le_of_ble_eq_true rfl) (fun h => absurd h (by decide)) ?_
  show Wp l G 2 0 0 (RX12, cX12_boxAt, 3, (some (.object "FlowBoxes$Node")), false) 0 [(0, .ref (xob Y)), (1, .int (nI k))] [] σ _
  refine zp_aload_n dX12_boxAt_0 rfl (a := (xob Y)) (List.mem_of_getElem? (i := 0) rfl) ?_
  refine zp_iload_n dX12_boxAt_1 rfl (x := (nI k)) (List.mem_of_getElem? (i := 1) rfl) ?_
  refine zp_callV (c0 := 9) (st := []) (mc2 := 0) (ms2 := 0) dX12_boxAt_2 (c_X12_nodeAt l G D X Y W T k _ hD hB hI hk) cl_X12_111 im_X12_nodeAt se_X12_nodeAt rfl rfl hB.1 rfl rfl (by omega) (by omega) (by omega) (Nat.le_of_ble_eq_true rfl) ?_
  rintro _ s1 ⟨rfl, hs1⟩; obtain rfl := hs1.symm
  refine zp_astore_n dX12_boxAt_5 rfl (Nat.le_of_ble_eq_true rfl) (lv2 := [(2, .ref (xnd X k)), (0, .ref (xob Y)), (1, .int (nI k))]) rfl ?_
  refine zp_aload_n dX12_boxAt_6 rfl (a := (xnd X k)) (List.mem_of_getElem? (i := 0) rfl) ?_
  refine zp_nullF dX12_boxAt_7 (tgt := 17) rfl ?_
  refine zp_aload_n dX12_boxAt_10 rfl (a := (xnd X k)) (List.mem_of_getElem? (i := 0) rfl) ?_
  refine zp_callV (c0 := 4) (st := []) (mc2 := 0) (ms2 := 0) dX12_boxAt_11 (c_X7_isText l G (xnd X k) 0 _ (hI.1 k hk).1) cl_X12_243 im_X7_isText se_X7_isText rfl rfl (hI.1 k hk).1 rfl rfl (by omega) (by omega) (by omega) (Nat.le_of_ble_eq_true rfl) ?_
  rintro _ s1 ⟨rfl, hs1⟩; obtain rfl := hs1.symm
  refine zp_ifb_eq dX12_boxAt_14 (tgt := 21) rfl (fun _ => ?_) (fun q => absurd q (bxpos hI hk ht))
  refine zp_aload_n dX12_boxAt_21 rfl (a := (xnd X k)) (List.mem_of_getElem? (i := 0) rfl) ?_
  refine zp_aret rfl (r := some (xnd X k)) rfl dX12_boxAt_22 ?_
  exact ⟨rfl, rfl⟩
set_option maxRecDepth 100000 in
set_option maxHeartbeats 4000000 in
theorem c_X12_textAt (l : Launch) (G : Gb) (D : Dt) (X : Cx) (Y : Cy) (W : Int32) (T : Nat) (k : Nat) (σ : Sto) (hD : DW D) (hB : OB D X Y W T σ) (hI : AI G D X Y σ) (hk : k < dn D) (ht : dtx D k = true) : Ct l G 2 0 0 yX12_textAt mX12_textAt [.ref (xob Y), .int (nI k)] σ (fun v s => v = some (.ref (xnd X k)) ∧ s = σ) := by
  refine Ct.of (by decide) rfl (Nat.le_of_ble_eq_true rfl) (fun h => absurd h (by decide)) ?_
  show Wp l G 2 0 0 (RX12, cX12_textAt, 3, (some (.object "FlowBoxes$Node")), false) 0 [(0, .ref (xob Y)), (1, .int (nI k))] [] σ _
  refine zp_aload_n dX12_textAt_0 rfl (a := (xob Y)) (List.mem_of_getElem? (i := 0) rfl) ?_
  refine zp_iload_n dX12_textAt_1 rfl (x := (nI k)) (List.mem_of_getElem? (i := 1) rfl) ?_
  refine zp_callV (c0 := 9) (st := []) (mc2 := 0) (ms2 := 0) dX12_textAt_2 (c_X12_nodeAt l G D X Y W T k _ hD hB hI hk) cl_X12_111 im_X12_nodeAt se_X12_nodeAt rfl rfl hB.1 rfl rfl (by omega) (by omega) (by omega) (Nat.le_of_ble_eq_true rfl) ?_
  rintro _ s1 ⟨rfl, hs1⟩; obtain rfl := hs1.symm
  refine zp_astore_n dX12_textAt_5 rfl (Nat.le_of_ble_eq_true rfl) (lv2 := [(2, .ref (xnd X k)), (0, .ref (xob Y)), (1, .int (nI k))]) rfl ?_
  refine zp_aload_n dX12_textAt_6 rfl (a := (xnd X k)) (List.mem_of_getElem? (i := 0) rfl) ?_
  refine zp_nullF dX12_textAt_7 (tgt := 17) rfl ?_
  refine zp_aload_n dX12_textAt_10 rfl (a := (xnd X k)) (List.mem_of_getElem? (i := 0) rfl) ?_
  refine zp_callV (c0 := 4) (st := []) (mc2 := 0) (ms2 := 0) dX12_textAt_11 (c_X7_isText l G (xnd X k) 0 _ (hI.1 k hk).1) cl_X12_243 im_X7_isText se_X7_isText rfl rfl (hI.1 k hk).1 rfl rfl (by omega) (by omega) (by omega) (Nat.le_of_ble_eq_true rfl) ?_
  rintro _ s1 ⟨rfl, hs1⟩; obtain rfl := hs1.symm
  refine zp_ifb_ne dX12_textAt_14 (tgt := 21) rfl (fun _ => ?_) (fun q => absurd (txpos hD hI hk ht) q)
  refine zp_aload_n dX12_textAt_21 rfl (a := (xnd X k)) (List.mem_of_getElem? (i := 0) rfl) ?_
  refine zp_aret rfl (r := some (xnd X k)) rfl dX12_textAt_22 ?_
  exact ⟨rfl, rfl⟩
set_option maxRecDepth 100000 in
set_option maxHeartbeats 4000000 in
theorem c_X12_placedAtB (l : Launch) (G : Gb) (D : Dt) (X : Cx) (Y : Cy) (W : Int32) (T : Nat) (k : Nat) (σ : Sto) (hD : DW D) (hB : OB D X Y W T σ) (hI : AI G D X Y σ) (hk : k < dn D) (ht : dtx D k = false) : Ct l G 2 0 0 yX12_placedAt mX12_placedAt [.ref (xob Y), .int (nI k)] σ (fun v s => v = some (.ref (xnd X k)) ∧ s = σ) := by
  refine Ct.of (by decide) rfl (Nat.le_of_ble_eq_true rfl) (fun h => absurd h (by decide)) ?_
  have hkd : zR σ 514 (xnd X k) = some (G.2.2.1 0) := by have := (hI.1 k hk).2.2.2.2.2.2.2.2.1; rw [ht] at this; exact this
  have hwc : zI σ 512 (xnd X k) = nI (dwc D k) := (hI.1 k hk).2.2.2.2.2.2.2.1
  have hw4 := hD.2.2.2.2.2.1 k
  refine zp_kin (fun hkin => ?_)
  show Wp l G 2 0 0 (RX12, cX12_placedAt, 4, (some (.object "FlowBoxes$Node")), false) 0 [(0, .ref (xob Y)), (1, .int (nI k))] [] σ _
  refine zp_aload_n dX12_placedAt_0 rfl (a := (xob Y)) (List.mem_of_getElem? (i := 0) rfl) ?_
  refine zp_iload_n dX12_placedAt_1 rfl (x := (nI k)) (List.mem_of_getElem? (i := 1) rfl) ?_
  refine zp_callV (c0 := 9) (st := []) (mc2 := 0) (ms2 := 0) dX12_placedAt_2 (c_X12_nodeAt l G D X Y W T k _ hD hB hI hk) cl_X12_111 im_X12_nodeAt se_X12_nodeAt rfl rfl hB.1 rfl rfl (by omega) (by omega) (by omega) (Nat.le_of_ble_eq_true rfl) ?_
  rintro _ s1 ⟨rfl, hs1⟩; obtain rfl := hs1.symm
  refine zp_astore_n dX12_placedAt_5 rfl (Nat.le_of_ble_eq_true rfl) (lv2 := [(2, .ref (xnd X k)), (0, .ref (xob Y)), (1, .int (nI k))]) rfl ?_
  refine zp_aload_n dX12_placedAt_6 rfl (a := (xnd X k)) (List.mem_of_getElem? (i := 0) rfl) ?_
  refine zp_nonnullT dX12_placedAt_7 (tgt := 18) rfl ?_
  refine zp_aload_n dX12_placedAt_18 rfl (a := (xnd X k)) (List.mem_of_getElem? (i := 0) rfl) ?_
  refine zp_callV (c0 := 4) (st := []) (mc2 := 0) (ms2 := 0) dX12_placedAt_19 (c_X7_isText l G (xnd X k) 0 _ (hI.1 k hk).1) cl_X12_243 im_X7_isText se_X7_isText rfl rfl (hI.1 k hk).1 rfl rfl (by omega) (by omega) (by omega) (Nat.le_of_ble_eq_true rfl) ?_
  rintro _ s1 ⟨rfl, hs1⟩; obtain rfl := hs1.symm
  refine zp_ifb_eq dX12_placedAt_22 (tgt := 36) rfl (fun _ => ?_) (fun q => absurd q (bxpos hI hk ht))
  refine zp_iconst dX12_placedAt_36 (v := 0) (by decide) ?_
  refine zp_istore_n dX12_placedAt_37 rfl (Nat.le_of_ble_eq_true rfl) (lv2 := [(3, .int 0), (2, .ref (xnd X k)), (0, .ref (xob Y)), (1, .int (nI k))]) rfl ?_
  refine zp_aload_n dX12_placedAt_38 rfl (a := (xnd X k)) (List.mem_of_getElem? (i := 1) rfl) ?_
  refine zp_getRv dX12_placedAt_39 fl_X12_166 (hI.1 k hk).1 (b := (G.2.2.1 0)) hkd ?_
  refine zp_kind (i := 8) dX12_placedAt_42 (by decide) rfl wd_1167 ?_
  refine zp_acmp_eq (rx := (some (G.2.2.1 0))) (ry := (some (G.2.2.1 8))) dX12_placedAt_45 (tgt := 62) rfl rfl rfl (fun q => absurd q (fun q => absurd (hkin 0 8 (by decide) (by decide) (Option.some.inj q)) (by decide))) (fun _ => ?_)
  refine zp_aload_n dX12_placedAt_48 rfl (a := (xnd X k)) (List.mem_of_getElem? (i := 1) rfl) ?_
  refine zp_getRv dX12_placedAt_49 fl_X12_166 (hI.1 k hk).1 (b := (G.2.2.1 0)) hkd ?_
  refine zp_kind (i := 1) dX12_placedAt_52 (by decide) rfl wd_1168 ?_
  refine zp_acmp_eq (rx := (some (G.2.2.1 0))) (ry := (some (G.2.2.1 1))) dX12_placedAt_55 (tgt := 62) rfl rfl rfl (fun q => absurd q (fun q => absurd (hkin 0 1 (by decide) (by decide) (Option.some.inj q)) (by decide))) (fun _ => ?_)
  refine zp_iload_n dX12_placedAt_58 rfl (x := 0) (List.mem_of_getElem? (i := 0) rfl) ?_
  refine zp_if_eq dX12_placedAt_59 (tgt := 70) rfl (fun _ => ?_) (fun q => absurd rfl q)
  refine zp_aload_n dX12_placedAt_70 rfl (a := (xnd X k)) (List.mem_of_getElem? (i := 1) rfl) ?_
  refine zp_aret rfl (r := some (xnd X k)) rfl dX12_placedAt_71 ?_
  exact ⟨rfl, rfl⟩
set_option maxRecDepth 100000 in
set_option maxHeartbeats 4000000 in
theorem c_X12_placedAtT (l : Launch) (G : Gb) (D : Dt) (X : Cx) (Y : Cy) (W : Int32) (T : Nat) (k : Nat) (σ : Sto) (hD : DW D) (hB : OB D X Y W T σ) (hI : AI G D X Y σ) (hk : k < dn D) (ht : dtx D k = true) (hw : 0 < dwc D k) : Ct l G 2 0 0 yX12_placedAt mX12_placedAt [.ref (xob Y), .int (nI k)] σ (fun v s => v = some (.ref (xnd X k)) ∧ s = σ) := by
  refine Ct.of (by decide) rfl (Nat.le_of_ble_eq_true rfl) (fun h => absurd h (by decide)) ?_
  have hkd : zR σ 514 (xnd X k) = some (G.2.2.1 7) := by have := (hI.1 k hk).2.2.2.2.2.2.2.2.1; rw [ht] at this; exact this
  have hwc : zI σ 512 (xnd X k) = nI (dwc D k) := (hI.1 k hk).2.2.2.2.2.2.2.1
  have hw4 := hD.2.2.2.2.2.1 k
  refine zp_kin (fun hkin => ?_)
  show Wp l G 2 0 0 (RX12, cX12_placedAt, 4, (some (.object "FlowBoxes$Node")), false) 0 [(0, .ref (xob Y)), (1, .int (nI k))] [] σ _
  refine zp_aload_n dX12_placedAt_0 rfl (a := (xob Y)) (List.mem_of_getElem? (i := 0) rfl) ?_
  refine zp_iload_n dX12_placedAt_1 rfl (x := (nI k)) (List.mem_of_getElem? (i := 1) rfl) ?_
  refine zp_callV (c0 := 9) (st := []) (mc2 := 0) (ms2 := 0) dX12_placedAt_2 (c_X12_nodeAt l G D X Y W T k _ hD hB hI hk) cl_X12_111 im_X12_nodeAt se_X12_nodeAt rfl rfl hB.1 rfl rfl (by omega) (by omega) (by omega) (Nat.le_of_ble_eq_true rfl) ?_
  rintro _ s1 ⟨rfl, hs1⟩; obtain rfl := hs1.symm
  refine zp_astore_n dX12_placedAt_5 rfl (Nat.le_of_ble_eq_true rfl) (lv2 := [(2, .ref (xnd X k)), (0, .ref (xob Y)), (1, .int (nI k))]) rfl ?_
  refine zp_aload_n dX12_placedAt_6 rfl (a := (xnd X k)) (List.mem_of_getElem? (i := 0) rfl) ?_
  refine zp_nonnullT dX12_placedAt_7 (tgt := 18) rfl ?_
  refine zp_aload_n dX12_placedAt_18 rfl (a := (xnd X k)) (List.mem_of_getElem? (i := 0) rfl) ?_
  refine zp_callV (c0 := 4) (st := []) (mc2 := 0) (ms2 := 0) dX12_placedAt_19 (c_X7_isText l G (xnd X k) 0 _ (hI.1 k hk).1) cl_X12_243 im_X7_isText se_X7_isText rfl rfl (hI.1 k hk).1 rfl rfl (by omega) (by omega) (by omega) (Nat.le_of_ble_eq_true rfl) ?_
  rintro _ s1 ⟨rfl, hs1⟩; obtain rfl := hs1.symm
  refine zp_ifb_eq dX12_placedAt_22 (tgt := 36) rfl (fun q => absurd (txpos hD hI hk ht) q) (fun _ => ?_)
  refine zp_aload_n dX12_placedAt_25 rfl (a := (xnd X k)) (List.mem_of_getElem? (i := 0) rfl) ?_
  refine zp_getIv dX12_placedAt_26 fl_X12_98 (hI.1 k hk).1 (v := (nI (dwc D k))) hwc ?_
  refine zp_if_ne dX12_placedAt_29 (tgt := 36) rfl (fun _ => ?_) (fun q => absurd q (fun q => by have := nI_inj (k := 0) (by omega) (by decide) q; omega))
  refine zp_iconst dX12_placedAt_36 (v := 0) (by decide) ?_
  refine zp_istore_n dX12_placedAt_37 rfl (Nat.le_of_ble_eq_true rfl) (lv2 := [(3, .int 0), (2, .ref (xnd X k)), (0, .ref (xob Y)), (1, .int (nI k))]) rfl ?_
  refine zp_aload_n dX12_placedAt_38 rfl (a := (xnd X k)) (List.mem_of_getElem? (i := 1) rfl) ?_
  refine zp_getRv dX12_placedAt_39 fl_X12_166 (hI.1 k hk).1 (b := (G.2.2.1 7)) hkd ?_
  refine zp_kind (i := 8) dX12_placedAt_42 (by decide) rfl wd_1167 ?_
  refine zp_acmp_eq (rx := (some (G.2.2.1 7))) (ry := (some (G.2.2.1 8))) dX12_placedAt_45 (tgt := 62) rfl rfl rfl (fun q => absurd q (fun q => absurd (hkin 7 8 (by decide) (by decide) (Option.some.inj q)) (by decide))) (fun _ => ?_)
  refine zp_aload_n dX12_placedAt_48 rfl (a := (xnd X k)) (List.mem_of_getElem? (i := 1) rfl) ?_
  refine zp_getRv dX12_placedAt_49 fl_X12_166 (hI.1 k hk).1 (b := (G.2.2.1 7)) hkd ?_
  refine zp_kind (i := 1) dX12_placedAt_52 (by decide) rfl wd_1168 ?_
  refine zp_acmp_eq (rx := (some (G.2.2.1 7))) (ry := (some (G.2.2.1 1))) dX12_placedAt_55 (tgt := 62) rfl rfl rfl (fun q => absurd q (fun q => absurd (hkin 7 1 (by decide) (by decide) (Option.some.inj q)) (by decide))) (fun _ => ?_)
  refine zp_iload_n dX12_placedAt_58 rfl (x := 0) (List.mem_of_getElem? (i := 0) rfl) ?_
  refine zp_if_eq dX12_placedAt_59 (tgt := 70) rfl (fun _ => ?_) (fun q => absurd rfl q)
  refine zp_aload_n dX12_placedAt_70 rfl (a := (xnd X k)) (List.mem_of_getElem? (i := 1) rfl) ?_
  refine zp_aret rfl (r := some (xnd X k)) rfl dX12_placedAt_71 ?_
  exact ⟨rfl, rfl⟩
def NCf (σ s : Sto) : Prop := s.1 = σ.1 ∧ s.2.2 = σ.2.2 ∧ ∀ g, g ≠ 513 → zI s g = zI σ g
theorem NCf.trans {σ s t : Sto} (h : NCf σ s) (h' : NCf s t) : NCf σ t := ⟨h'.1.trans h.1, h'.2.1.trans h.2.1, fun g hg => (h'.2.2 g hg).trans (h.2.2 g hg)⟩
theorem NCf.wI {σ : Sto} {a : Nat} {x : Int32} : NCf σ (wI σ 513 a x) := ⟨rfl, rfl, fun g hg => by funext c; exact rIn hg⟩
set_option maxHeartbeats 4000000 in
theorem l_note (l : Launch) {G : Gb} {D : Dt} {X : Cx} {Y : Cy} {z T : Nat} (hD : DW D) : ∀ (k : Nat) (σ : Sto), k < dn D → NX D X σ → zT σ (xob Y) = (10, 0) → zI σ 1007 (xob Y) = nI T →
    Wp l G 1 0 0 (RX12, cX12_noteChange, 3, none, false) 12 [(2, .ref (xnd X k)), (0, .ref (xob Y)), (1, .ref z)] [] σ (fun v s => v = none ∧ NCf σ s ∧ zI s 513 (xnd X 0) = nI T) := by
  intro k
  induction k using Nat.strongRecOn with
  | ind k ih =>
  intro σ hk hN ho h7
  have hK := hN.1 k hk
  by_cases h0 : k = 0
  · have hpar : zR σ 501 (xnd X k) = none := by have := hK.2.1; rw [if_pos h0] at this; exact this
    show Wp l G 1 0 0 (RX12, cX12_noteChange, 3, none, false) 12 [(2, .ref (xnd X k)), (0, .ref (xob Y)), (1, .ref z)] [] σ _
    refine zp_aload_n dX12_noteChange_12 rfl (a := (xnd X k)) (List.mem_of_getElem? (i := 0) rfl) ?_
    refine zp_nullF dX12_noteChange_13 (tgt := 32) rfl ?_
    refine zp_aload_n dX12_noteChange_16 rfl (a := (xnd X k)) (List.mem_of_getElem? (i := 0) rfl) ?_
    refine zp_aload_n dX12_noteChange_17 rfl (a := (xob Y)) (List.mem_of_getElem? (i := 1) rfl) ?_
    refine zp_getIv dX12_noteChange_18 fl_X12_151 ho (v := (nI T)) h7 ?_
    refine zp_putI dX12_noteChange_21 fl_X12_259 hK.1 ?_
    refine zp_aload_n dX12_noteChange_24 rfl (a := (xnd X k)) (List.mem_of_getElem? (i := 0) rfl) ?_
    refine zp_getRo dX12_noteChange_25 fl_X12_114 (tI hK.1) (r := none) (rRI.trans hpar) ?_
    refine zp_astoreo_n dX12_noteChange_28 rfl (Nat.le_of_ble_eq_true rfl) (r := none) (v := .null) rfl (lv2 := [(2, .null), (0, .ref (xob Y)), (1, .ref z)]) rfl ?_
    refine zp_goto dX12_noteChange_29 (tgt := 12) rfl ?_
    refine zp_aloado_n dX12_noteChange_12 rfl (r := none) (v := .null) rfl (List.mem_of_getElem? (i := 0) rfl) ?_
    refine zp_nullT dX12_noteChange_13 (tgt := 32) rfl ?_
    refine zp_vret rfl dX12_noteChange_32 ?_
    exact ⟨rfl, NCf.wI, by rw [← h0]; exact rIe⟩
  · have hpar : zR σ 501 (xnd X k) = some (xnd X (dpar D k)) := by have := hK.2.1; rw [if_neg h0] at this; exact this
    have hp := hD.2.2.2.2.1 k (by omega) hk
    show Wp l G 1 0 0 (RX12, cX12_noteChange, 3, none, false) 12 [(2, .ref (xnd X k)), (0, .ref (xob Y)), (1, .ref z)] [] σ _
    refine zp_aload_n dX12_noteChange_12 rfl (a := (xnd X k)) (List.mem_of_getElem? (i := 0) rfl) ?_
    refine zp_nullF dX12_noteChange_13 (tgt := 32) rfl ?_
    refine zp_aload_n dX12_noteChange_16 rfl (a := (xnd X k)) (List.mem_of_getElem? (i := 0) rfl) ?_
    refine zp_aload_n dX12_noteChange_17 rfl (a := (xob Y)) (List.mem_of_getElem? (i := 1) rfl) ?_
    refine zp_getIv dX12_noteChange_18 fl_X12_151 ho (v := (nI T)) h7 ?_
    refine zp_putI dX12_noteChange_21 fl_X12_259 hK.1 ?_
    refine zp_aload_n dX12_noteChange_24 rfl (a := (xnd X k)) (List.mem_of_getElem? (i := 0) rfl) ?_
    refine zp_getRv dX12_noteChange_25 fl_X12_114 (tI hK.1) (b := (xnd X (dpar D k))) (rRI.trans hpar) ?_
    refine zp_astore_n dX12_noteChange_28 rfl (Nat.le_of_ble_eq_true rfl) (lv2 := [(2, .ref (xnd X (dpar D k))), (0, .ref (xob Y)), (1, .ref z)]) rfl ?_
    refine zp_goto dX12_noteChange_29 (tgt := 12) rfl ?_
    refine Wp.mono (ih (dpar D k) hp.1 _ (by omega) ⟨fun j hj => hN.1 j hj, hN.2⟩ ho ((rIn (by decide)).trans h7)) (Nat.le_refl _) (Nat.le_refl _) (Nat.le_refl _) (fun v s q => ?_)
    obtain ⟨q1, q2, q3⟩ := q
    exact ⟨q1, NCf.wI.trans q2, q3⟩
/-- a change noted -/
def NC (Y : Cy) (T : Nat) (σ s : Sto) : Prop := s.1 = σ.1 ∧ s.2.2 = σ.2.2 ∧ (∀ g, g ≠ 513 → g ≠ 1007 → zI s g = zI σ g) ∧ zI s 1007 (xob Y) = nI (T + 1)
set_option maxRecDepth 100000 in
set_option maxHeartbeats 4000000 in
theorem c_X12_noteChange (l : Launch) (G : Gb) (D : Dt) (X : Cx) (Y : Cy) (T k : Nat) (σ : Sto) (hD : DW D) (hN : NX D X σ) (hk : k < dn D) (ho : zT σ (xob Y) = (10, 0)) (h7 : zI σ 1007 (xob Y) = nI T) : Ct l G 1 0 0 yX12_noteChange mX12_noteChange [.ref (xob Y), .ref (xnd X k)] σ (fun v s => v = none ∧ NC Y T σ s ∧ zI s 513 (xnd X 0) = nI (T + 1)) := by
  refine Ct.of (by decide) rfl (Nat.le_of_ble_eq_true rfl) (fun h => absurd h (by decide)) ?_
  show Wp l G 1 0 0 (RX12, cX12_noteChange, 3, none, false) 0 [(0, .ref (xob Y)), (1, .ref (xnd X k))] [] σ _
  refine zp_aload_n dX12_noteChange_0 rfl (a := (xob Y)) (List.mem_of_getElem? (i := 0) rfl) ?_
  refine zp_dup dX12_noteChange_1 rfl ?_
  refine zp_getIv dX12_noteChange_2 fl_X12_151 ho (v := (nI T)) h7 ?_
  refine zp_iconst dX12_noteChange_5 (v := 1) (by decide) ?_
  refine zp_iadd dX12_noteChange_6 ?_
  rw [show (((nI T) + 1) : Int32) = (nI (T + 1)) from (nI_1 T)]
  refine zp_putI dX12_noteChange_7 fl_X12_151 ho ?_
  refine zp_aload_n dX12_noteChange_10 rfl (a := (xnd X k)) (List.mem_of_getElem? (i := 1) rfl) ?_
  refine zp_astore_n dX12_noteChange_11 rfl (Nat.le_of_ble_eq_true rfl) (lv2 := [(2, .ref (xnd X k)), (0, .ref (xob Y)), (1, .ref (xnd X k))]) rfl ?_
  refine Wp.mono (l_note l hD k _ hk ⟨fun j hj => hN.1 j hj, hN.2⟩ ho rIe) (Nat.le_refl _) (Nat.le_refl _) (Nat.le_refl _) (fun v s q => ?_)
  obtain ⟨q1, q2, q3⟩ := q
  exact ⟨q1, ⟨q2.1, q2.2.1, fun g h1 h2 => (q2.2.2 g h1).trans (by funext c; exact rIn h2), (congrFun (q2.2.2 1007 (by decide)) _).trans rIe⟩, q3⟩
set_option maxRecDepth 100000 in
set_option maxHeartbeats 4000000 in
theorem c_X12_allows4 (l : Launch) (G : Gb) (v : Int32) (σ : Sto) (hv : (-4 ≤ v ∧ v ≤ 200) ∨ (1000 ≤ v ∧ v ≤ 1100)) : Ct l G 2 0 0 yX12_allows mX12_allows [.int 4, .int v] σ (fun w s => w = some (.int 1) ∧ s = σ) := by
  refine Ct.of (by decide) rfl (Nat.le_of_ble_eq_true rfl) (fun h => absurd h (by decide)) ?_
  show Wp l G 2 0 0 (RX12, cX12_allows, 2, (some .boolean), false) 0 [(0, .int 4), (1, .int v)] [] σ _
  refine zp_iload_n dX12_allows_0 rfl (x := 4) (List.mem_of_getElem? (i := 0) rfl) ?_
  refine zp_tableIn (off := 129) (tgt := 130) dX12_allows_1 (by decide) (by decide) (by decide) rfl ?_
  refine zp_iload_n dX12_allows_130 rfl (x := v) (List.mem_of_getElem? (i := 1) rfl) ?_
  refine zp_bipush dX12_allows_131 (v := (-4)) (by decide) ?_
  refine zp_icmp_lt dX12_allows_133 (tgt := 143) rfl (fun g1 => ?_) (fun g1 => ?_)
  · skip
    refine zp_iload_n dX12_allows_143 rfl (x := v) (List.mem_of_getElem? (i := 1) rfl) ?_
    refine zp_callS (st := []) (mc2 := 0) (ms2 := 0) dX12_allows_144 (c_X12_isPercentage l G v _) cl_X12_256 st_X12_isPercentage rfl rfl (by omega) (by omega) (by omega) (Nat.le_of_ble_eq_true rfl) ?_
    rintro _ s1 ⟨rfl, hs1⟩; obtain rfl := hs1.symm
    refine zp_ifb_eq dX12_allows_147 (tgt := 154) rfl (fun q => absurd (by first | exact hv.resolve_left (fun q => i_nlt q.1 g1) | exact hv.resolve_left (fun q => g2 q.2)) q) (fun _ => ?_)
    refine zp_iconst dX12_allows_150 (v := 1) (by decide) ?_
    refine zp_goto dX12_allows_151 (tgt := 155) rfl ?_
    refine zp_zret rfl (Or.inr rfl) dX12_allows_155 ?_
    exact ⟨rfl, rfl⟩
  · skip
    refine zp_iload_n dX12_allows_136 rfl (x := v) (List.mem_of_getElem? (i := 1) rfl) ?_
    refine zp_sipush dX12_allows_137 (v := 200) (by decide) ?_
    refine zp_icmp_le dX12_allows_140 (tgt := 150) rfl (fun g2 => ?_) (fun g2 => ?_)
    · skip
      refine zp_iconst dX12_allows_150 (v := 1) (by decide) ?_
      refine zp_goto dX12_allows_151 (tgt := 155) rfl ?_
      refine zp_zret rfl (Or.inr rfl) dX12_allows_155 ?_
      exact ⟨rfl, rfl⟩
    · skip
      refine zp_iload_n dX12_allows_143 rfl (x := v) (List.mem_of_getElem? (i := 1) rfl) ?_
      refine zp_callS (st := []) (mc2 := 0) (ms2 := 0) dX12_allows_144 (c_X12_isPercentage l G v _) cl_X12_256 st_X12_isPercentage rfl rfl (by omega) (by omega) (by omega) (Nat.le_of_ble_eq_true rfl) ?_
      rintro _ s1 ⟨rfl, hs1⟩; obtain rfl := hs1.symm
      refine zp_ifb_eq dX12_allows_147 (tgt := 154) rfl (fun q => absurd (by first | exact hv.resolve_left (fun q => i_nlt q.1 g1) | exact hv.resolve_left (fun q => g2 q.2)) q) (fun _ => ?_)
      refine zp_iconst dX12_allows_150 (v := 1) (by decide) ?_
      refine zp_goto dX12_allows_151 (tgt := 155) rfl ?_
      refine zp_zret rfl (Or.inr rfl) dX12_allows_155 ?_
      exact ⟨rfl, rfl⟩
set_option maxRecDepth 100000 in
set_option maxHeartbeats 4000000 in
theorem c_X12_allows5 (l : Launch) (G : Gb) (v : Int32) (σ : Sto) (hv : (-1 ≤ v ∧ v ≤ 200) ∨ (1000 ≤ v ∧ v ≤ 1100)) : Ct l G 2 0 0 yX12_allows mX12_allows [.int 5, .int v] σ (fun w s => w = some (.int 1) ∧ s = σ) := by
  refine Ct.of (by decide) rfl (Nat.le_of_ble_eq_true rfl) (fun h => absurd h (by decide)) ?_
  show Wp l G 2 0 0 (RX12, cX12_allows, 2, (some .boolean), false) 0 [(0, .int 5), (1, .int v)] [] σ _
  refine zp_iload_n dX12_allows_0 rfl (x := 5) (List.mem_of_getElem? (i := 0) rfl) ?_
  refine zp_tableIn (off := 155) (tgt := 156) dX12_allows_1 (by decide) (by decide) (by decide) rfl ?_
  refine zp_iload_n dX12_allows_156 rfl (x := v) (List.mem_of_getElem? (i := 1) rfl) ?_
  refine zp_iconst dX12_allows_157 (v := (-1)) (by decide) ?_
  refine zp_icmp_lt dX12_allows_158 (tgt := 168) rfl (fun g1 => ?_) (fun g1 => ?_)
  · skip
    refine zp_iload_n dX12_allows_168 rfl (x := v) (List.mem_of_getElem? (i := 1) rfl) ?_
    refine zp_callS (st := []) (mc2 := 0) (ms2 := 0) dX12_allows_169 (c_X12_isPercentage l G v _) cl_X12_256 st_X12_isPercentage rfl rfl (by omega) (by omega) (by omega) (Nat.le_of_ble_eq_true rfl) ?_
    rintro _ s1 ⟨rfl, hs1⟩; obtain rfl := hs1.symm
    refine zp_ifb_eq dX12_allows_172 (tgt := 179) rfl (fun q => absurd (by first | exact hv.resolve_left (fun q => i_nlt q.1 g1) | exact hv.resolve_left (fun q => g2 q.2)) q) (fun _ => ?_)
    refine zp_iconst dX12_allows_175 (v := 1) (by decide) ?_
    refine zp_goto dX12_allows_176 (tgt := 180) rfl ?_
    refine zp_zret rfl (Or.inr rfl) dX12_allows_180 ?_
    exact ⟨rfl, rfl⟩
  · skip
    refine zp_iload_n dX12_allows_161 rfl (x := v) (List.mem_of_getElem? (i := 1) rfl) ?_
    refine zp_sipush dX12_allows_162 (v := 200) (by decide) ?_
    refine zp_icmp_le dX12_allows_165 (tgt := 175) rfl (fun g2 => ?_) (fun g2 => ?_)
    · skip
      refine zp_iconst dX12_allows_175 (v := 1) (by decide) ?_
      refine zp_goto dX12_allows_176 (tgt := 180) rfl ?_
      refine zp_zret rfl (Or.inr rfl) dX12_allows_180 ?_
      exact ⟨rfl, rfl⟩
    · skip
      refine zp_iload_n dX12_allows_168 rfl (x := v) (List.mem_of_getElem? (i := 1) rfl) ?_
      refine zp_callS (st := []) (mc2 := 0) (ms2 := 0) dX12_allows_169 (c_X12_isPercentage l G v _) cl_X12_256 st_X12_isPercentage rfl rfl (by omega) (by omega) (by omega) (Nat.le_of_ble_eq_true rfl) ?_
      rintro _ s1 ⟨rfl, hs1⟩; obtain rfl := hs1.symm
      refine zp_ifb_eq dX12_allows_172 (tgt := 179) rfl (fun q => absurd (by first | exact hv.resolve_left (fun q => i_nlt q.1 g1) | exact hv.resolve_left (fun q => g2 q.2)) q) (fun _ => ?_)
      refine zp_iconst dX12_allows_175 (v := 1) (by decide) ?_
      refine zp_goto dX12_allows_176 (tgt := 180) rfl ?_
      refine zp_zret rfl (Or.inr rfl) dX12_allows_180 ?_
      exact ⟨rfl, rfl⟩
set_option maxRecDepth 100000 in
set_option maxHeartbeats 4000000 in
theorem c_X12_allows6 (l : Launch) (G : Gb) (v : Int32) (σ : Sto) (hv : -40 ≤ v ∧ v ≤ 40) : Ct l G 2 0 0 yX12_allows mX12_allows [.int 6, .int v] σ (fun w s => w = some (.int 1) ∧ s = σ) := by
  refine Ct.of (by decide) rfl (Nat.le_of_ble_eq_true rfl) (fun h => absurd h (by decide)) ?_
  show Wp l G 2 0 0 (RX12, cX12_allows, 2, (some .boolean), false) 0 [(0, .int 6), (1, .int v)] [] σ _
  refine zp_iload_n dX12_allows_0 rfl (x := 6) (List.mem_of_getElem? (i := 0) rfl) ?_
  refine zp_tableIn (off := 274) (tgt := 275) dX12_allows_1 (by decide) (by decide) (by decide) rfl ?_
  refine zp_iload_n dX12_allows_275 rfl (x := 6) (List.mem_of_getElem? (i := 0) rfl) ?_
  refine zp_bipush dX12_allows_276 (v := 9) (by decide) ?_
  refine zp_icmp_gt dX12_allows_278 (tgt := 301) rfl (fun q => absurd q (by decide)) (fun _ => ?_)
  refine zp_iload_n dX12_allows_281 rfl (x := v) (List.mem_of_getElem? (i := 1) rfl) ?_
  refine zp_bipush dX12_allows_282 (v := (-40)) (by decide) ?_
  refine zp_icmp_lt dX12_allows_284 (tgt := 297) rfl (fun q => absurd q (i_nlt hv.1)) (fun _ => ?_)
  refine zp_iload_n dX12_allows_287 rfl (x := v) (List.mem_of_getElem? (i := 1) rfl) ?_
  refine zp_bipush dX12_allows_288 (v := 40) (by decide) ?_
  refine zp_icmp_gt dX12_allows_290 (tgt := 297) rfl (fun q => absurd q (i_nlt hv.2)) (fun _ => ?_)
  refine zp_iconst dX12_allows_293 (v := 1) (by decide) ?_
  refine zp_goto dX12_allows_294 (tgt := 316) rfl ?_
  refine zp_zret rfl (Or.inr rfl) dX12_allows_316 ?_
  exact ⟨rfl, rfl⟩
set_option maxRecDepth 100000 in
set_option maxHeartbeats 4000000 in
theorem c_X12_allows7 (l : Launch) (G : Gb) (v : Int32) (σ : Sto) (hv : -40 ≤ v ∧ v ≤ 40) : Ct l G 2 0 0 yX12_allows mX12_allows [.int 7, .int v] σ (fun w s => w = some (.int 1) ∧ s = σ) := by
  refine Ct.of (by decide) rfl (Nat.le_of_ble_eq_true rfl) (fun h => absurd h (by decide)) ?_
  show Wp l G 2 0 0 (RX12, cX12_allows, 2, (some .boolean), false) 0 [(0, .int 7), (1, .int v)] [] σ _
  refine zp_iload_n dX12_allows_0 rfl (x := 7) (List.mem_of_getElem? (i := 0) rfl) ?_
  refine zp_tableIn (off := 274) (tgt := 275) dX12_allows_1 (by decide) (by decide) (by decide) rfl ?_
  refine zp_iload_n dX12_allows_275 rfl (x := 7) (List.mem_of_getElem? (i := 0) rfl) ?_
  refine zp_bipush dX12_allows_276 (v := 9) (by decide) ?_
  refine zp_icmp_gt dX12_allows_278 (tgt := 301) rfl (fun q => absurd q (by decide)) (fun _ => ?_)
  refine zp_iload_n dX12_allows_281 rfl (x := v) (List.mem_of_getElem? (i := 1) rfl) ?_
  refine zp_bipush dX12_allows_282 (v := (-40)) (by decide) ?_
  refine zp_icmp_lt dX12_allows_284 (tgt := 297) rfl (fun q => absurd q (i_nlt hv.1)) (fun _ => ?_)
  refine zp_iload_n dX12_allows_287 rfl (x := v) (List.mem_of_getElem? (i := 1) rfl) ?_
  refine zp_bipush dX12_allows_288 (v := 40) (by decide) ?_
  refine zp_icmp_gt dX12_allows_290 (tgt := 297) rfl (fun q => absurd q (i_nlt hv.2)) (fun _ => ?_)
  refine zp_iconst dX12_allows_293 (v := 1) (by decide) ?_
  refine zp_goto dX12_allows_294 (tgt := 316) rfl ?_
  refine zp_zret rfl (Or.inr rfl) dX12_allows_316 ?_
  exact ⟨rfl, rfl⟩
set_option maxRecDepth 100000 in
set_option maxHeartbeats 4000000 in
theorem c_X12_allows8 (l : Launch) (G : Gb) (v : Int32) (σ : Sto) (hv : -40 ≤ v ∧ v ≤ 40) : Ct l G 2 0 0 yX12_allows mX12_allows [.int 8, .int v] σ (fun w s => w = some (.int 1) ∧ s = σ) := by
  refine Ct.of (by decide) rfl (Nat.le_of_ble_eq_true rfl) (fun h => absurd h (by decide)) ?_
  show Wp l G 2 0 0 (RX12, cX12_allows, 2, (some .boolean), false) 0 [(0, .int 8), (1, .int v)] [] σ _
  refine zp_iload_n dX12_allows_0 rfl (x := 8) (List.mem_of_getElem? (i := 0) rfl) ?_
  refine zp_tableIn (off := 274) (tgt := 275) dX12_allows_1 (by decide) (by decide) (by decide) rfl ?_
  refine zp_iload_n dX12_allows_275 rfl (x := 8) (List.mem_of_getElem? (i := 0) rfl) ?_
  refine zp_bipush dX12_allows_276 (v := 9) (by decide) ?_
  refine zp_icmp_gt dX12_allows_278 (tgt := 301) rfl (fun q => absurd q (by decide)) (fun _ => ?_)
  refine zp_iload_n dX12_allows_281 rfl (x := v) (List.mem_of_getElem? (i := 1) rfl) ?_
  refine zp_bipush dX12_allows_282 (v := (-40)) (by decide) ?_
  refine zp_icmp_lt dX12_allows_284 (tgt := 297) rfl (fun q => absurd q (i_nlt hv.1)) (fun _ => ?_)
  refine zp_iload_n dX12_allows_287 rfl (x := v) (List.mem_of_getElem? (i := 1) rfl) ?_
  refine zp_bipush dX12_allows_288 (v := 40) (by decide) ?_
  refine zp_icmp_gt dX12_allows_290 (tgt := 297) rfl (fun q => absurd q (i_nlt hv.2)) (fun _ => ?_)
  refine zp_iconst dX12_allows_293 (v := 1) (by decide) ?_
  refine zp_goto dX12_allows_294 (tgt := 316) rfl ?_
  refine zp_zret rfl (Or.inr rfl) dX12_allows_316 ?_
  exact ⟨rfl, rfl⟩
set_option maxRecDepth 100000 in
set_option maxHeartbeats 4000000 in
theorem c_X12_allows9 (l : Launch) (G : Gb) (v : Int32) (σ : Sto) (hv : -40 ≤ v ∧ v ≤ 40) : Ct l G 2 0 0 yX12_allows mX12_allows [.int 9, .int v] σ (fun w s => w = some (.int 1) ∧ s = σ) := by
  refine Ct.of (by decide) rfl (Nat.le_of_ble_eq_true rfl) (fun h => absurd h (by decide)) ?_
  show Wp l G 2 0 0 (RX12, cX12_allows, 2, (some .boolean), false) 0 [(0, .int 9), (1, .int v)] [] σ _
  refine zp_iload_n dX12_allows_0 rfl (x := 9) (List.mem_of_getElem? (i := 0) rfl) ?_
  refine zp_tableIn (off := 274) (tgt := 275) dX12_allows_1 (by decide) (by decide) (by decide) rfl ?_
  refine zp_iload_n dX12_allows_275 rfl (x := 9) (List.mem_of_getElem? (i := 0) rfl) ?_
  refine zp_bipush dX12_allows_276 (v := 9) (by decide) ?_
  refine zp_icmp_gt dX12_allows_278 (tgt := 301) rfl (fun q => absurd q (by decide)) (fun _ => ?_)
  refine zp_iload_n dX12_allows_281 rfl (x := v) (List.mem_of_getElem? (i := 1) rfl) ?_
  refine zp_bipush dX12_allows_282 (v := (-40)) (by decide) ?_
  refine zp_icmp_lt dX12_allows_284 (tgt := 297) rfl (fun q => absurd q (i_nlt hv.1)) (fun _ => ?_)
  refine zp_iload_n dX12_allows_287 rfl (x := v) (List.mem_of_getElem? (i := 1) rfl) ?_
  refine zp_bipush dX12_allows_288 (v := 40) (by decide) ?_
  refine zp_icmp_gt dX12_allows_290 (tgt := 297) rfl (fun q => absurd q (i_nlt hv.2)) (fun _ => ?_)
  refine zp_iconst dX12_allows_293 (v := 1) (by decide) ?_
  refine zp_goto dX12_allows_294 (tgt := 316) rfl ?_
  refine zp_zret rfl (Or.inr rfl) dX12_allows_316 ?_
  exact ⟨rfl, rfl⟩
set_option maxRecDepth 100000 in
set_option maxHeartbeats 4000000 in
theorem c_X12_allows10 (l : Launch) (G : Gb) (v : Int32) (σ : Sto) (hv : 0 ≤ v ∧ v ≤ 20) : Ct l G 2 0 0 yX12_allows mX12_allows [.int 10, .int v] σ (fun w s => w = some (.int 1) ∧ s = σ) := by
  refine Ct.of (by decide) rfl (Nat.le_of_ble_eq_true rfl) (fun h => absurd h (by decide)) ?_
  show Wp l G 2 0 0 (RX12, cX12_allows, 2, (some .boolean), false) 0 [(0, .int 10), (1, .int v)] [] σ _
  refine zp_iload_n dX12_allows_0 rfl (x := 10) (List.mem_of_getElem? (i := 0) rfl) ?_
  refine zp_tableIn (off := 274) (tgt := 275) dX12_allows_1 (by decide) (by decide) (by decide) rfl ?_
  refine zp_iload_n dX12_allows_275 rfl (x := 10) (List.mem_of_getElem? (i := 0) rfl) ?_
  refine zp_bipush dX12_allows_276 (v := 9) (by decide) ?_
  refine zp_icmp_gt dX12_allows_278 (tgt := 301) rfl (fun _ => ?_) (fun q => absurd (by decide) q)
  refine zp_iload_n dX12_allows_301 rfl (x := v) (List.mem_of_getElem? (i := 1) rfl) ?_
  refine zp_if_lt dX12_allows_302 (tgt := 315) rfl (fun q => absurd q (i_nlt hv.1)) (fun _ => ?_)
  refine zp_iload_n dX12_allows_305 rfl (x := v) (List.mem_of_getElem? (i := 1) rfl) ?_
  refine zp_bipush dX12_allows_306 (v := 20) (by decide) ?_
  refine zp_icmp_gt dX12_allows_308 (tgt := 315) rfl (fun q => absurd q (i_nlt hv.2)) (fun _ => ?_)
  refine zp_iconst dX12_allows_311 (v := 1) (by decide) ?_
  refine zp_goto dX12_allows_312 (tgt := 316) rfl ?_
  refine zp_zret rfl (Or.inr rfl) dX12_allows_316 ?_
  exact ⟨rfl, rfl⟩
set_option maxRecDepth 100000 in
set_option maxHeartbeats 4000000 in
theorem c_X12_allows11 (l : Launch) (G : Gb) (v : Int32) (σ : Sto) (hv : 0 ≤ v ∧ v ≤ 20) : Ct l G 2 0 0 yX12_allows mX12_allows [.int 11, .int v] σ (fun w s => w = some (.int 1) ∧ s = σ) := by
  refine Ct.of (by decide) rfl (Nat.le_of_ble_eq_true rfl) (fun h => absurd h (by decide)) ?_
  show Wp l G 2 0 0 (RX12, cX12_allows, 2, (some .boolean), false) 0 [(0, .int 11), (1, .int v)] [] σ _
  refine zp_iload_n dX12_allows_0 rfl (x := 11) (List.mem_of_getElem? (i := 0) rfl) ?_
  refine zp_tableIn (off := 274) (tgt := 275) dX12_allows_1 (by decide) (by decide) (by decide) rfl ?_
  refine zp_iload_n dX12_allows_275 rfl (x := 11) (List.mem_of_getElem? (i := 0) rfl) ?_
  refine zp_bipush dX12_allows_276 (v := 9) (by decide) ?_
  refine zp_icmp_gt dX12_allows_278 (tgt := 301) rfl (fun _ => ?_) (fun q => absurd (by decide) q)
  refine zp_iload_n dX12_allows_301 rfl (x := v) (List.mem_of_getElem? (i := 1) rfl) ?_
  refine zp_if_lt dX12_allows_302 (tgt := 315) rfl (fun q => absurd q (i_nlt hv.1)) (fun _ => ?_)
  refine zp_iload_n dX12_allows_305 rfl (x := v) (List.mem_of_getElem? (i := 1) rfl) ?_
  refine zp_bipush dX12_allows_306 (v := 20) (by decide) ?_
  refine zp_icmp_gt dX12_allows_308 (tgt := 315) rfl (fun q => absurd q (i_nlt hv.2)) (fun _ => ?_)
  refine zp_iconst dX12_allows_311 (v := 1) (by decide) ?_
  refine zp_goto dX12_allows_312 (tgt := 316) rfl ?_
  refine zp_zret rfl (Or.inr rfl) dX12_allows_316 ?_
  exact ⟨rfl, rfl⟩
set_option maxRecDepth 100000 in
set_option maxHeartbeats 4000000 in
theorem c_X12_allows12 (l : Launch) (G : Gb) (v : Int32) (σ : Sto) (hv : 0 ≤ v ∧ v ≤ 20) : Ct l G 2 0 0 yX12_allows mX12_allows [.int 12, .int v] σ (fun w s => w = some (.int 1) ∧ s = σ) := by
  refine Ct.of (by decide) rfl (Nat.le_of_ble_eq_true rfl) (fun h => absurd h (by decide)) ?_
  show Wp l G 2 0 0 (RX12, cX12_allows, 2, (some .boolean), false) 0 [(0, .int 12), (1, .int v)] [] σ _
  refine zp_iload_n dX12_allows_0 rfl (x := 12) (List.mem_of_getElem? (i := 0) rfl) ?_
  refine zp_tableIn (off := 274) (tgt := 275) dX12_allows_1 (by decide) (by decide) (by decide) rfl ?_
  refine zp_iload_n dX12_allows_275 rfl (x := 12) (List.mem_of_getElem? (i := 0) rfl) ?_
  refine zp_bipush dX12_allows_276 (v := 9) (by decide) ?_
  refine zp_icmp_gt dX12_allows_278 (tgt := 301) rfl (fun _ => ?_) (fun q => absurd (by decide) q)
  refine zp_iload_n dX12_allows_301 rfl (x := v) (List.mem_of_getElem? (i := 1) rfl) ?_
  refine zp_if_lt dX12_allows_302 (tgt := 315) rfl (fun q => absurd q (i_nlt hv.1)) (fun _ => ?_)
  refine zp_iload_n dX12_allows_305 rfl (x := v) (List.mem_of_getElem? (i := 1) rfl) ?_
  refine zp_bipush dX12_allows_306 (v := 20) (by decide) ?_
  refine zp_icmp_gt dX12_allows_308 (tgt := 315) rfl (fun q => absurd q (i_nlt hv.2)) (fun _ => ?_)
  refine zp_iconst dX12_allows_311 (v := 1) (by decide) ?_
  refine zp_goto dX12_allows_312 (tgt := 316) rfl ?_
  refine zp_zret rfl (Or.inr rfl) dX12_allows_316 ?_
  exact ⟨rfl, rfl⟩
set_option maxRecDepth 100000 in
set_option maxHeartbeats 4000000 in
theorem c_X12_allows13 (l : Launch) (G : Gb) (v : Int32) (σ : Sto) (hv : 0 ≤ v ∧ v ≤ 20) : Ct l G 2 0 0 yX12_allows mX12_allows [.int 13, .int v] σ (fun w s => w = some (.int 1) ∧ s = σ) := by
  refine Ct.of (by decide) rfl (Nat.le_of_ble_eq_true rfl) (fun h => absurd h (by decide)) ?_
  show Wp l G 2 0 0 (RX12, cX12_allows, 2, (some .boolean), false) 0 [(0, .int 13), (1, .int v)] [] σ _
  refine zp_iload_n dX12_allows_0 rfl (x := 13) (List.mem_of_getElem? (i := 0) rfl) ?_
  refine zp_tableIn (off := 274) (tgt := 275) dX12_allows_1 (by decide) (by decide) (by decide) rfl ?_
  refine zp_iload_n dX12_allows_275 rfl (x := 13) (List.mem_of_getElem? (i := 0) rfl) ?_
  refine zp_bipush dX12_allows_276 (v := 9) (by decide) ?_
  refine zp_icmp_gt dX12_allows_278 (tgt := 301) rfl (fun _ => ?_) (fun q => absurd (by decide) q)
  refine zp_iload_n dX12_allows_301 rfl (x := v) (List.mem_of_getElem? (i := 1) rfl) ?_
  refine zp_if_lt dX12_allows_302 (tgt := 315) rfl (fun q => absurd q (i_nlt hv.1)) (fun _ => ?_)
  refine zp_iload_n dX12_allows_305 rfl (x := v) (List.mem_of_getElem? (i := 1) rfl) ?_
  refine zp_bipush dX12_allows_306 (v := 20) (by decide) ?_
  refine zp_icmp_gt dX12_allows_308 (tgt := 315) rfl (fun q => absurd q (i_nlt hv.2)) (fun _ => ?_)
  refine zp_iconst dX12_allows_311 (v := 1) (by decide) ?_
  refine zp_goto dX12_allows_312 (tgt := 316) rfl ?_
  refine zp_zret rfl (Or.inr rfl) dX12_allows_316 ?_
  exact ⟨rfl, rfl⟩
def okv (s : Nat) (v : Int32) : Prop := if s = 4 then (-4 ≤ v ∧ v ≤ 200) ∨ (1000 ≤ v ∧ v ≤ 1100) else if s = 5 then (-1 ≤ v ∧ v ≤ 200) ∨ (1000 ≤ v ∧ v ≤ 1100) else if s < 10 then -40 ≤ v ∧ v ≤ 40 else 0 ≤ v ∧ v ≤ 20
theorem c_X12_allows (l : Launch) (G : Gb) (s : Nat) (v : Int32) (σ : Sto) (h4 : 4 ≤ s) (h13 : s ≤ 13) (hv : okv s v) : Ct l G 2 0 0 yX12_allows mX12_allows [.int (nI s), .int v] σ (fun w t => w = some (.int 1) ∧ t = σ) := by
  have hs : s = 4 ∨ s = 5 ∨ s = 6 ∨ s = 7 ∨ s = 8 ∨ s = 9 ∨ s = 10 ∨ s = 11 ∨ s = 12 ∨ s = 13 := by omega
  rcases hs with q | q | q | q | q | q | q | q | q | q <;> subst q
  · exact c_X12_allows4 l G v σ hv
  · exact c_X12_allows5 l G v σ hv
  · exact c_X12_allows6 l G v σ hv
  · exact c_X12_allows7 l G v σ hv
  · exact c_X12_allows8 l G v σ hv
  · exact c_X12_allows9 l G v σ hv
  · exact c_X12_allows10 l G v σ hv
  · exact c_X12_allows11 l G v σ hv
  · exact c_X12_allows12 l G v σ hv
  · exact c_X12_allows13 l G v σ hv

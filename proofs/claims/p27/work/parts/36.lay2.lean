/-! A WHOLE LAYOUT, second half (by wip/p27/gen_lay2.py) -/
set_option maxRecDepth 100000 in
set_option maxHeartbeats 4000000 in
theorem c_X4_settleInFlow (l : Launch) (G : Gb) (D : Dt) (X : Cx) (b : Bool) (k : Nat) (σ : Sto) (hD : DW D) (hN : NS G D X σ) (hk : k < dn D) (h0 : k ≠ 0) (ht : dtx D k = false) (hb7 : zI σ 707 (xpl X b k) = 0) (hb8 : zI σ 708 (xpl X b k) = 0) (ha7 : zI σ 707 (xpl X b (dpar D k)) = 0) (ha8 : zI σ 708 (xpl X b (dpar D k)) = 0) : Ct l G 2 0 0 yX4_settleInFlow mX4_settleInFlow [.ref (xLy X b), .ref (xnd X k), .ref (xpl X b k), .ref (xpl X b (dpar D k))] σ (fun v s => v = none ∧ s = wI (wI σ 705 (xpl X b k) (zI σ 700 (xpl X b k))) 706 (xpl X b k) (zI σ 701 (xpl X b k))) := by
  refine Ct.of (by decide) rfl (Nat.le_of_ble_eq_true rfl) (fun h => absurd h (by decide)) ?_
  have hK := hN.k k hk
  have hp := hD.2.2.2.2.1 k (by omega) hk
  have hKp := hN.k (dpar D k) (by omega)
  have hpar : zR σ 501 (xnd X k) = some (xnd X (dpar D k)) := by have := hK.par; rw [if_neg (by omega)] at this; exact this
  have hkd : zR σ 514 (xnd X k) = some (G.2.2.1 0) := by have := hK.kind; rw [ht] at this; exact this
  refine zp_kin (fun hkin => ?_)
  show Wp l G 2 0 0 (RX4, cX4_settleInFlow, 9, none, false) 0 [(0, .ref (xLy X b)), (1, .ref (xnd X k)), (2, .ref (xpl X b k)), (3, .ref (xpl X b (dpar D k)))] [] σ _
  refine zp_aload_n dX4_settleInFlow_0 rfl (a := (xnd X k)) (List.mem_of_getElem? (i := 1) rfl) ?_
  refine zp_getRv dX4_settleInFlow_1 fl_X4_128 hK.T (b := (xcn X k)) hK.cn ?_
  refine zp_iconst dX4_settleInFlow_4 (v := 3) (by decide) ?_
  refine zp_iald_v dX4_settleInFlow_5 hK.cnT (Or.inl rfl) (j := 3) (by decide) (zin (by decide)) (v := 0) ((hK.cnA ht 3 (by decide)).trans (hD.2.2.2.2.2.2.2.2.2.2.2 k).2.2.2.1) ?_
  refine zp_iconst dX4_settleInFlow_6 (v := 1) (by decide) ?_
  refine zp_icmp_ne dX4_settleInFlow_7 (tgt := 14) rfl (fun _ => ?_) (fun q => absurd q (by decide))
  refine zp_iconst dX4_settleInFlow_14 (v := 0) (by decide) ?_
  refine zp_istore dX4_settleInFlow_15 (Nat.le_of_ble_eq_true rfl) (lv2 := [(4, .int 0), (0, .ref (xLy X b)), (1, .ref (xnd X k)), (2, .ref (xpl X b k)), (3, .ref (xpl X b (dpar D k)))]) rfl ?_
  refine zp_aload_n dX4_settleInFlow_17 rfl (a := (xpl X b (dpar D k))) (List.mem_of_getElem? (i := 4) rfl) ?_
  refine zp_getJ dX4_settleInFlow_18 fl_X4_112 (hKp.plT b) (v := 0) ha7 (fun L18 hL18 => ?_)
  refine zp_iload dX4_settleInFlow_21 (x := 0) (List.mem_of_getElem? (i := 0) rfl) ?_
  refine zp_if_eq dX4_settleInFlow_23 (tgt := 39) rfl (fun _ => ?_) (fun q => absurd rfl q)
  refine zp_iconst dX4_settleInFlow_39 (v := 0) (by decide) ?_
  refine zp_i2l dX4_settleInFlow_40 ?_
  refine zp_ladd dX4_settleInFlow_41 ?_
  refine zp_topj (v := 0) ((j_add hL18 (j_i2l 0)).trans (by decide)) (fun L41 hL41 => ?_)
  refine zp_lstore dX4_settleInFlow_42 (Nat.le_of_ble_eq_true rfl) (lv2 := [(5, .long L41), (4, .int 0), (0, .ref (xLy X b)), (1, .ref (xnd X k)), (2, .ref (xpl X b k)), (3, .ref (xpl X b (dpar D k)))]) rfl ?_
  refine zp_aload_n dX4_settleInFlow_44 rfl (a := (xpl X b (dpar D k))) (List.mem_of_getElem? (i := 5) rfl) ?_
  refine zp_getJ dX4_settleInFlow_45 fl_X4_115 (hKp.plT b) (v := 0) ha8 (fun L45 hL45 => ?_)
  refine zp_iload dX4_settleInFlow_48 (x := 0) (List.mem_of_getElem? (i := 1) rfl) ?_
  refine zp_if_eq dX4_settleInFlow_50 (tgt := 66) rfl (fun _ => ?_) (fun q => absurd rfl q)
  refine zp_iconst dX4_settleInFlow_66 (v := 0) (by decide) ?_
  refine zp_i2l dX4_settleInFlow_67 ?_
  refine zp_ladd dX4_settleInFlow_68 ?_
  refine zp_topj (v := 0) ((j_add hL45 (j_i2l 0)).trans (by decide)) (fun L68 hL68 => ?_)
  refine zp_lstore dX4_settleInFlow_69 (Nat.le_of_ble_eq_true rfl) (lv2 := [(7, .long L68), (5, .long L41), (4, .int 0), (0, .ref (xLy X b)), (1, .ref (xnd X k)), (2, .ref (xpl X b k)), (3, .ref (xpl X b (dpar D k)))]) rfl ?_
  refine zp_aload_n dX4_settleInFlow_71 rfl (a := (xnd X k)) (List.mem_of_getElem? (i := 4) rfl) ?_
  refine zp_getRv dX4_settleInFlow_72 fl_X4_59 hK.T (b := (G.2.2.1 0)) hkd ?_
  refine zp_kind (i := 2) dX4_settleInFlow_75 (by decide) rfl wd_662 ?_
  refine zp_acmp_ne (rx := (some (G.2.2.1 0))) (ry := (some (G.2.2.1 2))) dX4_settleInFlow_78 (tgt := 99) rfl rfl rfl (fun _ => ?_) (fun q => absurd q (fun q => absurd (hkin 0 2 (by decide) (by decide) (Option.some.inj q)) (by decide)))
  refine zp_aload_n dX4_settleInFlow_99 rfl (a := (xpl X b k)) (List.mem_of_getElem? (i := 5) rfl) ?_
  refine zp_lload dX4_settleInFlow_100 (x := L41) (List.mem_of_getElem? (i := 1) rfl) ?_
  refine zp_aload_n dX4_settleInFlow_102 rfl (a := (xpl X b k)) (List.mem_of_getElem? (i := 5) rfl) ?_
  refine zp_getJ dX4_settleInFlow_103 fl_X4_143 (hK.plT b) (v := (zI σ 700 (xpl X b k))) rfl (fun L103 hL103 => ?_)
  refine zp_ladd dX4_settleInFlow_106 ?_
  refine zp_topj (v := (zI σ 700 (xpl X b k))) ((j_add hL41 hL103).trans (Int32.zero_add _)) (fun L106 hL106 => ?_)
  refine zp_putJ dX4_settleInFlow_107 fl_X4_105 (hK.plT b) (v := (zI σ 700 (xpl X b k))) hL106 ?_
  refine zp_aload_n dX4_settleInFlow_110 rfl (a := (xpl X b k)) (List.mem_of_getElem? (i := 5) rfl) ?_
  refine zp_lload dX4_settleInFlow_111 (x := L68) (List.mem_of_getElem? (i := 0) rfl) ?_
  refine zp_aload_n dX4_settleInFlow_113 rfl (a := (xpl X b k)) (List.mem_of_getElem? (i := 5) rfl) ?_
  refine zp_getIv dX4_settleInFlow_114 fl_X4_150 (tI (hK.plT b)) (v := (zI σ 701 (xpl X b k))) (rIn (by decide)) ?_
  refine zp_i2l dX4_settleInFlow_117 ?_
  refine zp_ladd dX4_settleInFlow_118 ?_
  refine zp_topj (v := (zI σ 701 (xpl X b k))) ((j_add hL68 (j_i2l (zI σ 701 (xpl X b k)))).trans (Int32.zero_add _)) (fun L118 hL118 => ?_)
  refine zp_putJ dX4_settleInFlow_119 fl_X4_109 (tI (hK.plT b)) (v := (zI σ 701 (xpl X b k))) hL118 ?_
  refine zp_aload_n dX4_settleInFlow_122 rfl (a := (xpl X b k)) (List.mem_of_getElem? (i := 5) rfl) ?_
  refine zp_aload_n dX4_settleInFlow_123 rfl (a := (xnd X k)) (List.mem_of_getElem? (i := 4) rfl) ?_
  refine zp_getIv dX4_settleInFlow_124 fl_X4_153 (tI (tI hK.T)) (v := zb (k = 0)) ((rIn (by decide)).trans ((rIn (by decide)).trans hK.ctx)) ?_
  refine zp_ifb_eq dX4_settleInFlow_127 (tgt := 146) rfl (fun _ => ?_) (fun q => absurd q h0)
  refine zp_lload dX4_settleInFlow_146 (x := L41) (List.mem_of_getElem? (i := 1) rfl) ?_
  refine zp_putJ dX4_settleInFlow_148 fl_X4_112 (tI (tI (hK.plT b))) (v := 0) hL41 ?_
  refine zp_aload_n dX4_settleInFlow_151 rfl (a := (xpl X b k)) (List.mem_of_getElem? (i := 5) rfl) ?_
  refine zp_aload_n dX4_settleInFlow_152 rfl (a := (xnd X k)) (List.mem_of_getElem? (i := 4) rfl) ?_
  refine zp_getIv dX4_settleInFlow_153 fl_X4_153 (tI (tI (tI hK.T))) (v := zb (k = 0)) ((rIn (by decide)).trans ((rIn (by decide)).trans ((rIn (by decide)).trans hK.ctx))) ?_
  refine zp_ifb_eq dX4_settleInFlow_156 (tgt := 175) rfl (fun _ => ?_) (fun q => absurd q h0)
  refine zp_lload dX4_settleInFlow_175 (x := L68) (List.mem_of_getElem? (i := 0) rfl) ?_
  refine zp_putJ dX4_settleInFlow_177 fl_X4_115 (tI (tI (tI (hK.plT b)))) (v := 0) hL68 ?_
  refine zp_vret rfl dX4_settleInFlow_180 ?_
  refine ⟨rfl, ?_⟩
  rw [wI_same (f := 708) (x := 0) ((rIn (by decide)).trans ((rIn (by decide)).trans ((rIn (by decide)).trans hb8))), wI_same (f := 707) (x := 0) ((rIn (by decide)).trans ((rIn (by decide)).trans hb7))]
set_option maxRecDepth 100000 in
set_option maxHeartbeats 4000000 in
theorem c_X4_settle0 (l : Launch) (G : Gb) (D : Dt) (X : Cx) (b : Bool) (σ : Sto) (hD : DW D) (hN : NS G D X σ) (hb7 : zI σ 707 (xpl X b 0) = 0) (hb8 : zI σ 708 (xpl X b 0) = 0) : Ct l G 3 0 0 yX4_settle mX4_settle [.ref (xLy X b), .ref (xnd X 0)] σ (fun v s => v = none ∧ s = wI (wI σ 705 (xpl X b 0) 0) 706 (xpl X b 0) 0) := by
  refine Ct.of (by decide) rfl (Nat.le_of_ble_eq_true rfl) (fun h => absurd h (by decide)) ?_
  have hK := hN.k 0 hD.1
  have hpar : zR σ 501 (xnd X 0) = none := by have := hK.par; rw [if_pos rfl] at this; exact this
  show Wp l G 3 0 0 (RX4, cX4_settle, 4, none, false) 0 [(0, .ref (xLy X b)), (1, .ref (xnd X 0))] [] σ _
  refine zp_aload_n dX4_settle_0 rfl (a := (xLy X b)) (List.mem_of_getElem? (i := 0) rfl) ?_
  refine zp_aload_n dX4_settle_1 rfl (a := (xnd X 0)) (List.mem_of_getElem? (i := 1) rfl) ?_
  refine zp_callV (c0 := 2) (st := []) (mc2 := 0) (ms2 := 0) dX4_settle_2 (c_X4_placeOf l G (xLy X b) 0 (xnd X 0) 0 (xpl X b 0) b _ (hN.l b).T hK.T (hN.l b).fr (hK.pl b)) cl_X4_35 im_X4_placeOf se_X4_placeOf rfl rfl (hN.l b).T rfl rfl (by omega) (by omega) (by omega) (Nat.le_of_ble_eq_true rfl) ?_
  rintro _ s1 ⟨rfl, hs1⟩; obtain rfl := hs1.symm
  refine zp_astore_n dX4_settle_5 rfl (Nat.le_of_ble_eq_true rfl) (lv2 := [(2, .ref (xpl X b 0)), (0, .ref (xLy X b)), (1, .ref (xnd X 0))]) rfl ?_
  refine zp_aload_n dX4_settle_6 rfl (a := (xnd X 0)) (List.mem_of_getElem? (i := 2) rfl) ?_
  refine zp_getRo dX4_settle_7 fl_X4_75 hK.T (r := none) hpar ?_
  refine zp_astoreo_n dX4_settle_10 rfl (Nat.le_of_ble_eq_true rfl) (r := none) (v := .null) rfl (lv2 := [(3, .null), (2, .ref (xpl X b 0)), (0, .ref (xLy X b)), (1, .ref (xnd X 0))]) rfl ?_
  refine zp_aloado_n dX4_settle_11 rfl (r := none) (v := .null) rfl (List.mem_of_getElem? (i := 0) rfl) ?_
  refine zp_nonnullF dX4_settle_12 (tgt := 38) rfl ?_
  refine zp_aload_n dX4_settle_15 rfl (a := (xpl X b 0)) (List.mem_of_getElem? (i := 1) rfl) ?_
  refine zp_lconst dX4_settle_16 (v := 0) (by decide) ?_
  refine zp_putJ dX4_settle_17 fl_X4_105 (hK.plT b) (v := 0) (by decide) ?_
  refine zp_aload_n dX4_settle_20 rfl (a := (xpl X b 0)) (List.mem_of_getElem? (i := 1) rfl) ?_
  refine zp_lconst dX4_settle_21 (v := 0) (by decide) ?_
  refine zp_putJ dX4_settle_22 fl_X4_109 (tI (hK.plT b)) (v := 0) (by decide) ?_
  refine zp_aload_n dX4_settle_25 rfl (a := (xpl X b 0)) (List.mem_of_getElem? (i := 1) rfl) ?_
  refine zp_lconst dX4_settle_26 (v := 0) (by decide) ?_
  refine zp_putJ dX4_settle_27 fl_X4_112 (tI (tI (hK.plT b))) (v := 0) (by decide) ?_
  refine zp_aload_n dX4_settle_30 rfl (a := (xpl X b 0)) (List.mem_of_getElem? (i := 1) rfl) ?_
  refine zp_lconst dX4_settle_31 (v := 0) (by decide) ?_
  refine zp_putJ dX4_settle_32 fl_X4_115 (tI (tI (tI (hK.plT b)))) (v := 0) (by decide) ?_
  refine zp_goto dX4_settle_35 (tgt := 80) rfl ?_
  refine zp_vret rfl dX4_settle_80 ?_
  refine ⟨rfl, ?_⟩
  rw [wI_same (f := 708) (x := 0) ((rIn (by decide)).trans ((rIn (by decide)).trans ((rIn (by decide)).trans hb8))), wI_same (f := 707) (x := 0) ((rIn (by decide)).trans ((rIn (by decide)).trans hb7))]
set_option maxRecDepth 100000 in
set_option maxHeartbeats 4000000 in
theorem c_X4_settleT (l : Launch) (G : Gb) (D : Dt) (X : Cx) (b : Bool) (k : Nat) (σ : Sto) (hD : DW D) (hN : NS G D X σ) (hk : k < dn D) (h0 : k ≠ 0) (ht : dtx D k = true) : Ct l G 3 0 0 yX4_settle mX4_settle [.ref (xLy X b), .ref (xnd X k)] σ (fun v s => v = none ∧ s = σ) := by
  refine Ct.of (by decide) rfl (Nat.le_of_ble_eq_true rfl) (fun h => absurd h (by decide)) ?_
  have hK := hN.k k hk
  have hp := hD.2.2.2.2.1 k (by omega) hk
  have hKp := hN.k (dpar D k) (by omega)
  have hpar : zR σ 501 (xnd X k) = some (xnd X (dpar D k)) := by have := hK.par; rw [if_neg (by omega)] at this; exact this
  have hkd : zR σ 514 (xnd X k) = some (G.2.2.1 7) := by have := hK.kind; rw [ht] at this; exact this
  refine zp_kin (fun hkin => ?_)
  have hpos : 0 < zI σ 503 (xnd X k) := by rw [hK.size, if_pos ht]; exact Int32.lt_iff_toInt_lt.mpr (by have := hD.2.2.2.2.2.2.2.1 k; rw [show (0 : Int32).toInt = 0 from rfl]; omega)
  show Wp l G 3 0 0 (RX4, cX4_settle, 4, none, false) 0 [(0, .ref (xLy X b)), (1, .ref (xnd X k))] [] σ _
  refine zp_aload_n dX4_settle_0 rfl (a := (xLy X b)) (List.mem_of_getElem? (i := 0) rfl) ?_
  refine zp_aload_n dX4_settle_1 rfl (a := (xnd X k)) (List.mem_of_getElem? (i := 1) rfl) ?_
  refine zp_callV (c0 := 2) (st := []) (mc2 := 0) (ms2 := 0) dX4_settle_2 (c_X4_placeOf l G (xLy X b) 0 (xnd X k) 0 (xpl X b k) b _ (hN.l b).T hK.T (hN.l b).fr (hK.pl b)) cl_X4_35 im_X4_placeOf se_X4_placeOf rfl rfl (hN.l b).T rfl rfl (by omega) (by omega) (by omega) (Nat.le_of_ble_eq_true rfl) ?_
  rintro _ s1 ⟨rfl, hs1⟩; obtain rfl := hs1.symm
  refine zp_astore_n dX4_settle_5 rfl (Nat.le_of_ble_eq_true rfl) (lv2 := [(2, .ref (xpl X b k)), (0, .ref (xLy X b)), (1, .ref (xnd X k))]) rfl ?_
  refine zp_aload_n dX4_settle_6 rfl (a := (xnd X k)) (List.mem_of_getElem? (i := 2) rfl) ?_
  refine zp_getRv dX4_settle_7 fl_X4_75 hK.T (b := (xnd X (dpar D k))) hpar ?_
  refine zp_astore_n dX4_settle_10 rfl (Nat.le_of_ble_eq_true rfl) (lv2 := [(3, .ref (xnd X (dpar D k))), (2, .ref (xpl X b k)), (0, .ref (xLy X b)), (1, .ref (xnd X k))]) rfl ?_
  refine zp_aload_n dX4_settle_11 rfl (a := (xnd X (dpar D k))) (List.mem_of_getElem? (i := 0) rfl) ?_
  refine zp_nonnullT dX4_settle_12 (tgt := 38) rfl ?_
  refine zp_aload_n dX4_settle_38 rfl (a := (xnd X k)) (List.mem_of_getElem? (i := 3) rfl) ?_
  refine zp_getRv dX4_settle_39 fl_X4_59 hK.T (b := (G.2.2.1 7)) hkd ?_
  refine zp_kind (i := 6) dX4_settle_42 (by decide) rfl wd_838 ?_
  refine zp_acmp_ne (rx := (some (G.2.2.1 7))) (ry := (some (G.2.2.1 6))) dX4_settle_45 (tgt := 62) rfl rfl rfl (fun _ => ?_) (fun q => absurd q (fun q => absurd (hkin 7 6 (by decide) (by decide) (Option.some.inj q)) (by decide)))
  refine zp_aload_n dX4_settle_62 rfl (a := (xnd X k)) (List.mem_of_getElem? (i := 3) rfl) ?_
  refine zp_callV (c0 := 4) (st := []) (mc2 := 0) (ms2 := 0) dX4_settle_63 (c_X7_isText l G (xnd X k) 0 _ hK.T) cl_X4_122 im_X7_isText se_X7_isText rfl rfl hK.T rfl rfl (by omega) (by omega) (by omega) (Nat.le_of_ble_eq_true rfl) ?_
  rintro _ s1 ⟨rfl, hs1⟩; obtain rfl := hs1.symm
  refine zp_ifb_ne dX4_settle_66 (tgt := 80) rfl (fun _ => ?_) (fun q => absurd hpos q)
  refine zp_vret rfl dX4_settle_80 ?_
  exact ⟨rfl, rfl⟩
set_option maxRecDepth 100000 in
set_option maxHeartbeats 4000000 in
theorem c_X4_settleB (l : Launch) (G : Gb) (D : Dt) (X : Cx) (b : Bool) (k : Nat) (σ : Sto) (hD : DW D) (hN : NS G D X σ) (hk : k < dn D) (h0 : k ≠ 0) (ht : dtx D k = false) (hb7 : zI σ 707 (xpl X b k) = 0) (hb8 : zI σ 708 (xpl X b k) = 0) (ha7 : zI σ 707 (xpl X b (dpar D k)) = 0) (ha8 : zI σ 708 (xpl X b (dpar D k)) = 0) : Ct l G 3 0 0 yX4_settle mX4_settle [.ref (xLy X b), .ref (xnd X k)] σ (fun v s => v = none ∧ s = wI (wI σ 705 (xpl X b k) (zI σ 700 (xpl X b k))) 706 (xpl X b k) (zI σ 701 (xpl X b k))) := by
  refine Ct.of (by decide) rfl (Nat.le_of_ble_eq_true rfl) (fun h => absurd h (by decide)) ?_
  have hK := hN.k k hk
  have hp := hD.2.2.2.2.1 k (by omega) hk
  have hKp := hN.k (dpar D k) (by omega)
  have hpar : zR σ 501 (xnd X k) = some (xnd X (dpar D k)) := by have := hK.par; rw [if_neg (by omega)] at this; exact this
  have hkd : zR σ 514 (xnd X k) = some (G.2.2.1 0) := by have := hK.kind; rw [ht] at this; exact this
  refine zp_kin (fun hkin => ?_)
  have hpos : ¬ (0 < zI σ 503 (xnd X k)) := by rw [hK.size, if_neg (by rw [ht]; decide)]; decide
  show Wp l G 3 0 0 (RX4, cX4_settle, 4, none, false) 0 [(0, .ref (xLy X b)), (1, .ref (xnd X k))] [] σ _
  refine zp_aload_n dX4_settle_0 rfl (a := (xLy X b)) (List.mem_of_getElem? (i := 0) rfl) ?_
  refine zp_aload_n dX4_settle_1 rfl (a := (xnd X k)) (List.mem_of_getElem? (i := 1) rfl) ?_
  refine zp_callV (c0 := 2) (st := []) (mc2 := 0) (ms2 := 0) dX4_settle_2 (c_X4_placeOf l G (xLy X b) 0 (xnd X k) 0 (xpl X b k) b _ (hN.l b).T hK.T (hN.l b).fr (hK.pl b)) cl_X4_35 im_X4_placeOf se_X4_placeOf rfl rfl (hN.l b).T rfl rfl (by omega) (by omega) (by omega) (Nat.le_of_ble_eq_true rfl) ?_
  rintro _ s1 ⟨rfl, hs1⟩; obtain rfl := hs1.symm
  refine zp_astore_n dX4_settle_5 rfl (Nat.le_of_ble_eq_true rfl) (lv2 := [(2, .ref (xpl X b k)), (0, .ref (xLy X b)), (1, .ref (xnd X k))]) rfl ?_
  refine zp_aload_n dX4_settle_6 rfl (a := (xnd X k)) (List.mem_of_getElem? (i := 2) rfl) ?_
  refine zp_getRv dX4_settle_7 fl_X4_75 hK.T (b := (xnd X (dpar D k))) hpar ?_
  refine zp_astore_n dX4_settle_10 rfl (Nat.le_of_ble_eq_true rfl) (lv2 := [(3, .ref (xnd X (dpar D k))), (2, .ref (xpl X b k)), (0, .ref (xLy X b)), (1, .ref (xnd X k))]) rfl ?_
  refine zp_aload_n dX4_settle_11 rfl (a := (xnd X (dpar D k))) (List.mem_of_getElem? (i := 0) rfl) ?_
  refine zp_nonnullT dX4_settle_12 (tgt := 38) rfl ?_
  refine zp_aload_n dX4_settle_38 rfl (a := (xnd X k)) (List.mem_of_getElem? (i := 3) rfl) ?_
  refine zp_getRv dX4_settle_39 fl_X4_59 hK.T (b := (G.2.2.1 0)) hkd ?_
  refine zp_kind (i := 6) dX4_settle_42 (by decide) rfl wd_838 ?_
  refine zp_acmp_ne (rx := (some (G.2.2.1 0))) (ry := (some (G.2.2.1 6))) dX4_settle_45 (tgt := 62) rfl rfl rfl (fun _ => ?_) (fun q => absurd q (fun q => absurd (hkin 0 6 (by decide) (by decide) (Option.some.inj q)) (by decide)))
  refine zp_aload_n dX4_settle_62 rfl (a := (xnd X k)) (List.mem_of_getElem? (i := 3) rfl) ?_
  refine zp_callV (c0 := 4) (st := []) (mc2 := 0) (ms2 := 0) dX4_settle_63 (c_X7_isText l G (xnd X k) 0 _ hK.T) cl_X4_122 im_X7_isText se_X7_isText rfl rfl hK.T rfl rfl (by omega) (by omega) (by omega) (Nat.le_of_ble_eq_true rfl) ?_
  rintro _ s1 ⟨rfl, hs1⟩; obtain rfl := hs1.symm
  refine zp_ifb_ne dX4_settle_66 (tgt := 80) rfl (fun q => absurd q hpos) (fun _ => ?_)
  refine zp_aload_n dX4_settle_69 rfl (a := (xLy X b)) (List.mem_of_getElem? (i := 2) rfl) ?_
  refine zp_aload_n dX4_settle_70 rfl (a := (xnd X k)) (List.mem_of_getElem? (i := 3) rfl) ?_
  refine zp_aload_n dX4_settle_71 rfl (a := (xpl X b k)) (List.mem_of_getElem? (i := 1) rfl) ?_
  refine zp_aload_n dX4_settle_72 rfl (a := (xLy X b)) (List.mem_of_getElem? (i := 2) rfl) ?_
  refine zp_aload_n dX4_settle_73 rfl (a := (xnd X (dpar D k))) (List.mem_of_getElem? (i := 0) rfl) ?_
  refine zp_callV (c0 := 2) (st := [.ref (xpl X b k), .ref (xnd X k), .ref (xLy X b)]) (mc2 := 0) (ms2 := 0) dX4_settle_74 (c_X4_placeOf l G (xLy X b) 0 (xnd X (dpar D k)) 0 (xpl X b (dpar D k)) b _ (hN.l b).T hKp.T (hN.l b).fr (hKp.pl b)) cl_X4_35 im_X4_placeOf se_X4_placeOf rfl rfl (hN.l b).T rfl rfl (by omega) (by omega) (by omega) (Nat.le_of_ble_eq_true rfl) ?_
  rintro _ s1 ⟨rfl, hs1⟩; obtain rfl := hs1.symm
  refine zp_callV (c0 := 2) (st := []) (mc2 := 0) (ms2 := 0) dX4_settle_77 (c_X4_settleInFlow l G D X b k _ hD hN hk h0 ht hb7 hb8 ha7 ha8) cl_X4_125 im_X4_settleInFlow se_X4_settleInFlow rfl rfl (hN.l b).T rfl rfl (by omega) (by omega) (by omega) (Nat.le_of_ble_eq_true rfl) ?_
  rintro _ s1 ⟨rfl, hs1⟩; obtain rfl := hs1.symm
  refine zp_vret rfl dX4_settle_80 ?_
  exact ⟨rfl, rfl⟩
def Sd (X : Cx) (b : Bool) (S : FS) (σ : Sto) (k : Nat) : Prop := zI σ 705 (xpl X b k) = (if k = 0 then 0 else sa S k) ∧ zI σ 706 (xpl X b k) = (if k = 0 then 0 else sa S (16 + k))
def Bz (D : Dt) (X : Cx) (b : Bool) (σ : Sto) : Prop := ∀ k, k < dn D → dtx D k = false → zI σ 707 (xpl X b k) = 0 ∧ zI σ 708 (xpl X b k) = 0
set_option maxHeartbeats 4000000 in
theorem l_layAbs (l : Launch) {G : Gb} {D : Dt} {X : Cx} {b : Bool} {σ : Sto} {W now : Int32} {Q : Option Value → Sto → Prop} (hD : DW D) (hN : NS G D X σ) (kk : Wp l G 35 0 0 (RX4, cX4_layAll, 5, (some .int), false) 54 [(0, .ref (xLy X b)), (1, .ref (xnd X 0)), (2, .int W), (3, .int now)] [] σ Q) : ∀ (xs : List Nat) (r : Option Nat), Cn D r xs none → (∀ x, x ∈ xs → x < dn D) →
    Wp l G 35 0 0 (RX4, cX4_layAll, 5, (some .int), false) 20 [(4, va_rf (lk X r)), (0, .ref (xLy X b)), (1, .ref (xnd X 0)), (2, .int W), (3, .int now)] [] σ Q := by
  intro xs
  induction xs with
  | nil =>
    intro r hc hx
    have hr : r = none := hc
    rw [hr]
    show Wp l G 35 0 0 (RX4, cX4_layAll, 5, (some .int), false) 20 [(4, .null), (0, .ref (xLy X b)), (1, .ref (xnd X 0)), (2, .int W), (3, .int now)] [] σ _
    refine zp_aloado dX4_layAll_20 (r := none) (v := .null) rfl (List.mem_of_getElem? (i := 0) rfl) ?_
    refine zp_nullT dX4_layAll_22 (tgt := 54) rfl ?_
    refine zp_lv [1, 2, 3, 4] rfl ?_
    exact kk
  | cons x xs ih =>
    intro r hc hx
    obtain ⟨hr, hc2⟩ := hc
    rw [hr]
    have hxn := hx x List.mem_cons_self
    have hK := hN.k x hxn
    refine zp_kin (fun hkin => ?_)
    have hkab : ¬ (G.2.2.1 (kdn (dtx D x)) = G.2.2.1 6) := fun q => by
      have := hkin _ 6 (by unfold kdn; split <;> decide) (by decide) q
      unfold kdn at this
      split at this <;> omega
    show Wp l G 35 0 0 (RX4, cX4_layAll, 5, (some .int), false) 20 [(4, .ref (xnd X x)), (0, .ref (xLy X b)), (1, .ref (xnd X 0)), (2, .int W), (3, .int now)] [] σ _
    refine zp_aload dX4_layAll_20 (a := (xnd X x)) (List.mem_of_getElem? (i := 0) rfl) ?_
    refine zp_nullF dX4_layAll_22 (tgt := 54) rfl ?_
    refine zp_aload dX4_layAll_25 (a := (xnd X x)) (List.mem_of_getElem? (i := 0) rfl) ?_
    refine zp_getRv dX4_layAll_27 fl_X4_59 hK.T (b := (G.2.2.1 (kdn (dtx D x)))) hK.kind ?_
    refine zp_kind (i := 6) dX4_layAll_30 (by decide) rfl wd_838 ?_
    refine zp_acmp_ne (rx := (some (G.2.2.1 (kdn (dtx D x))))) (ry := (some (G.2.2.1 6))) dX4_layAll_33 (tgt := 42) rfl rfl rfl (fun _ => ?_) (fun q => absurd q (fun q => hkab (Option.some.inj q)))
    refine zp_aload dX4_layAll_42 (a := (xnd X x)) (List.mem_of_getElem? (i := 0) rfl) ?_
    refine zp_aload_n dX4_layAll_44 rfl (a := (xnd X 0)) (List.mem_of_getElem? (i := 2) rfl) ?_
    refine zp_iconst dX4_layAll_45 (v := 1) (by decide) ?_
    refine zp_callS (st := []) (mc2 := 0) (ms2 := 0) dX4_layAll_46 (c_X7_onward l G D X x _ hD hN hxn) cl_X4_45 st_X7_onward rfl rfl (by omega) (by omega) (by omega) (Nat.le_of_ble_eq_true rfl) ?_
    rintro _ s1 ⟨rfl, hs1⟩; obtain rfl := hs1.symm
    refine zp_astoreo dX4_layAll_49 (Nat.le_of_ble_eq_true rfl) (r := (lk X (onw D x))) (v := va_rf (lk X (onw D x))) rfl (lv2 := [(4, va_rf (lk X (onw D x))), (0, .ref (xLy X b)), (1, .ref (xnd X 0)), (2, .int W), (3, .int now)]) rfl ?_
    refine zp_goto dX4_layAll_51 (tgt := 20) rfl ?_
    exact ih (onw D x) hc2 (fun y hy => hx y (List.mem_cons_of_mem _ hy))
set_option maxHeartbeats 4000000 in
theorem l_settle (l : Launch) {G : Gb} {O : Nat → Prop} {D : Dt} {X : Cx} {b : Bool} {S : FS} {LL : Nat → List Nat} {fr : List Nat} {W now : Int32} (hD : DW D) (hall : ∀ k, k < dn D → dtx D k = false → svi S k = true) : ∀ (xs : List Nat) (r : Option Nat) (σ : Sto), Cn D r xs none → (∀ x, x ∈ xs → x < dn D) → RR G O D X b S [] LL fr σ → Bz D X b σ → (∀ k, k < dn D → dtx D k = false → k ∉ xs → Sd X b S σ k) →
    Wp l G 35 0 0 (RX4, cX4_layAll, 5, (some .int), false) 57 [(4, va_rf (lk X r)), (0, .ref (xLy X b)), (1, .ref (xnd X 0)), (2, .int W), (3, .int now)] [] σ (fun v s => ∃ w, v = some (.int w) ∧ RR G O D X b S [] LL fr s ∧ Bz D X b s ∧ (∀ k, k < dn D → dtx D k = false → Sd X b S s k) ∧ Fm O σ s ∧ (∀ g, g < 705 ∨ 708 < g → zI s g = zI σ g)) := by
  intro xs
  induction xs with
  | nil =>
    intro r σ hc hx h hb hs
    have hr : r = none := hc
    rw [hr]
    have hN := h.ns
    show Wp l G 35 0 0 (RX4, cX4_layAll, 5, (some .int), false) 57 [(4, .null), (0, .ref (xLy X b)), (1, .ref (xnd X 0)), (2, .int W), (3, .int now)] [] σ _
    refine zp_aloado dX4_layAll_57 (r := none) (v := .null) rfl (List.mem_of_getElem? (i := 0) rfl) ?_
    refine zp_nullT dX4_layAll_59 (tgt := 80) rfl ?_
    refine zp_aload_n dX4_layAll_80 rfl (a := (xLy X b)) (List.mem_of_getElem? (i := 1) rfl) ?_
    refine zp_getIv dX4_layAll_81 fl_X4_52 (hN.l b).T (v := (zI σ 305 (xLy X b))) rfl ?_
    refine zp_iret rfl dX4_layAll_84 ?_
    exact ⟨_, rfl, h, hb, fun k h1 h2 => hs k h1 h2 List.not_mem_nil, Fm.refl, fun _ _ => rfl⟩
  | cons x xs ih =>
    intro r σ hc hx h hb hs
    obtain ⟨hr, hc2⟩ := hc
    rw [hr]
    have hxn := hx x List.mem_cons_self
    have hxs : ∀ y, y ∈ xs → y < dn D := fun y hy => hx y (List.mem_cons_of_mem _ hy)
    have hN := h.ns
    have hK := hN.k x hxn
    have hOp := h.1.ow.2.2.1 x hxn
    by_cases h0 : x = 0
    · subst h0
      show Wp l G 35 0 0 (RX4, cX4_layAll, 5, (some .int), false) 57 [(4, .ref (xnd X 0)), (0, .ref (xLy X b)), (1, .ref (xnd X 0)), (2, .int W), (3, .int now)] [] σ _
      refine zp_aload dX4_layAll_57 (a := (xnd X 0)) (List.mem_of_getElem? (i := 0) rfl) ?_
      refine zp_nullF dX4_layAll_59 (tgt := 80) rfl ?_
      refine zp_aload_n dX4_layAll_62 rfl (a := (xLy X b)) (List.mem_of_getElem? (i := 1) rfl) ?_
      refine zp_aload dX4_layAll_63 (a := (xnd X 0)) (List.mem_of_getElem? (i := 0) rfl) ?_
      refine zp_callV (c0 := 2) (st := []) (mc2 := 0) (ms2 := 0) dX4_layAll_65 (c_X4_settle0 l G D X b _ hD hN (hb 0 hD.1 hD.2.2.2.1).1 (hb 0 hD.1 hD.2.2.2.1).2) cl_X4_72 im_X4_settle se_X4_settle rfl rfl (hN.l b).T rfl rfl (by omega) (by omega) (by omega) (Nat.le_of_ble_eq_true rfl) ?_
      rintro _ s1 ⟨rfl, hs1⟩
      obtain ⟨r0, f0⟩ := RR_w (g := 705) (a := xpl X b 0) (x := 0) hD h hOp (by unfold stf; omega) (by decide) (by decide) (by decide) (Or.inl (by decide))
      obtain ⟨r1, f1⟩ := RR_w (g := 706) (a := xpl X b 0) (x := 0) hD r0 hOp (by unfold stf; omega) (by decide) (by decide) (by decide) (Or.inl (by decide))
      have f1 := f0.trans f1
      rw [← hs1] at r1 f1
      have k1 : ∀ g, g < 705 ∨ 708 < g → zI s1 g = zI σ g := fun g hg => by
        funext c
        rw [hs1, rIn (by omega), rIn (by omega)]
      have b1 : Bz D X b s1 := fun k h1 h2 => by
        rw [f1.I (by unfold stf; omega), f1.I (by unfold stf; omega)]
        exact hb k h1 h2
      have s1d : ∀ k, k < dn D → dtx D k = false → k ∉ xs → Sd X b S s1 k := fun k h1 h2 h3 => by
        unfold Sd
        by_cases q : k = 0
        · rw [q, hs1, rIn (by decide), rIe, rIe]; exact ⟨rfl, rfl⟩
        · have hne : xpl X b k ≠ xpl X b 0 := fun z => q (hN.d.pl b b k 0 h1 hxn z).2
          rw [hs1, rIb hne, rIb hne, rIb hne, rIb hne]
          exact hs k h1 h2 (fun z => (List.mem_cons.mp z).elim q h3)
      refine zp_aload dX4_layAll_68 (a := (xnd X 0)) (List.mem_of_getElem? (i := 0) rfl) ?_
      refine zp_aload_n dX4_layAll_70 rfl (a := (xnd X 0)) (List.mem_of_getElem? (i := 2) rfl) ?_
      refine zp_iconst dX4_layAll_71 (v := 1) (by decide) ?_
      refine zp_callS (st := []) (mc2 := 0) (ms2 := 0) dX4_layAll_72 (c_X7_onward l G D X 0 _ hD r1.ns hxn) cl_X4_45 st_X7_onward rfl rfl (by omega) (by omega) (by omega) (Nat.le_of_ble_eq_true rfl) ?_
      rintro _ s1 ⟨rfl, hs1⟩; obtain rfl := hs1.symm
      refine zp_astoreo dX4_layAll_75 (Nat.le_of_ble_eq_true rfl) (r := (lk X (onw D 0))) (v := va_rf (lk X (onw D 0))) rfl (lv2 := [(4, va_rf (lk X (onw D 0))), (0, .ref (xLy X b)), (1, .ref (xnd X 0)), (2, .int W), (3, .int now)]) rfl ?_
      refine zp_goto dX4_layAll_77 (tgt := 57) rfl ?_
      refine Wp.mono (ih (onw D 0) s1 hc2 hxs r1 b1 s1d) (Nat.le_refl _) (Nat.le_refl _) (Nat.le_refl _) (fun v s q => ?_)
      obtain ⟨w, q0, q1, q2, q3, q4, q5⟩ := q
      exact ⟨w, q0, q1, q2, q3, f1.trans q4, fun g hg => (q5 g hg).trans (k1 g hg)⟩
    · by_cases ht : dtx D x = true
      · skip
        show Wp l G 35 0 0 (RX4, cX4_layAll, 5, (some .int), false) 57 [(4, .ref (xnd X x)), (0, .ref (xLy X b)), (1, .ref (xnd X 0)), (2, .int W), (3, .int now)] [] σ _
        refine zp_aload dX4_layAll_57 (a := (xnd X x)) (List.mem_of_getElem? (i := 0) rfl) ?_
        refine zp_nullF dX4_layAll_59 (tgt := 80) rfl ?_
        refine zp_aload_n dX4_layAll_62 rfl (a := (xLy X b)) (List.mem_of_getElem? (i := 1) rfl) ?_
        refine zp_aload dX4_layAll_63 (a := (xnd X x)) (List.mem_of_getElem? (i := 0) rfl) ?_
        refine zp_callV (c0 := 2) (st := []) (mc2 := 0) (ms2 := 0) dX4_layAll_65 (c_X4_settleT l G D X b x _ hD hN hxn h0 ht) cl_X4_72 im_X4_settle se_X4_settle rfl rfl (hN.l b).T rfl rfl (by omega) (by omega) (by omega) (Nat.le_of_ble_eq_true rfl) ?_
        rintro _ s1 ⟨rfl, hs1⟩; obtain rfl := hs1.symm
        refine zp_aload dX4_layAll_68 (a := (xnd X x)) (List.mem_of_getElem? (i := 0) rfl) ?_
        refine zp_aload_n dX4_layAll_70 rfl (a := (xnd X 0)) (List.mem_of_getElem? (i := 2) rfl) ?_
        refine zp_iconst dX4_layAll_71 (v := 1) (by decide) ?_
        refine zp_callS (st := []) (mc2 := 0) (ms2 := 0) dX4_layAll_72 (c_X7_onward l G D X x _ hD hN hxn) cl_X4_45 st_X7_onward rfl rfl (by omega) (by omega) (by omega) (Nat.le_of_ble_eq_true rfl) ?_
        rintro _ s1 ⟨rfl, hs1⟩; obtain rfl := hs1.symm
        refine zp_astoreo dX4_layAll_75 (Nat.le_of_ble_eq_true rfl) (r := (lk X (onw D x))) (v := va_rf (lk X (onw D x))) rfl (lv2 := [(4, va_rf (lk X (onw D x))), (0, .ref (xLy X b)), (1, .ref (xnd X 0)), (2, .int W), (3, .int now)]) rfl ?_
        refine zp_goto dX4_layAll_77 (tgt := 57) rfl ?_
        exact ih (onw D x) σ hc2 hxs h hb (fun k h1 h2 h3 => hs k h1 h2 (fun q => (List.mem_cons.mp q).elim (fun z => by rw [z, ht] at h2; cases h2) h3))
      · have ht : dtx D x = false := by cases e : dtx D x; rfl; exact absurd e ht
        have hp := hD.2.2.2.2.1 x (by omega) hxn
        show Wp l G 35 0 0 (RX4, cX4_layAll, 5, (some .int), false) 57 [(4, .ref (xnd X x)), (0, .ref (xLy X b)), (1, .ref (xnd X 0)), (2, .int W), (3, .int now)] [] σ _
        refine zp_aload dX4_layAll_57 (a := (xnd X x)) (List.mem_of_getElem? (i := 0) rfl) ?_
        refine zp_nullF dX4_layAll_59 (tgt := 80) rfl ?_
        refine zp_aload_n dX4_layAll_62 rfl (a := (xLy X b)) (List.mem_of_getElem? (i := 1) rfl) ?_
        refine zp_aload dX4_layAll_63 (a := (xnd X x)) (List.mem_of_getElem? (i := 0) rfl) ?_
        refine zp_callV (c0 := 2) (st := []) (mc2 := 0) (ms2 := 0) dX4_layAll_65 (c_X4_settleB l G D X b x _ hD hN hxn h0 ht (hb x hxn ht).1 (hb x hxn ht).2 (hb (dpar D x) (by omega) hp.2).1 (hb (dpar D x) (by omega) hp.2).2) cl_X4_72 im_X4_settle se_X4_settle rfl rfl (hN.l b).T rfl rfl (by omega) (by omega) (by omega) (Nat.le_of_ble_eq_true rfl) ?_
        rintro _ s1 ⟨rfl, hs1⟩
        obtain ⟨r0, f0⟩ := RR_w (g := 705) (a := xpl X b x) (x := zI σ 700 (xpl X b x)) hD h hOp (by unfold stf; omega) (by decide) (by decide) (by decide) (Or.inl (by decide))
        obtain ⟨r1, f1⟩ := RR_w (g := 706) (a := xpl X b x) (x := zI σ 701 (xpl X b x)) hD r0 hOp (by unfold stf; omega) (by decide) (by decide) (by decide) (Or.inl (by decide))
        have f1 := f0.trans f1
        rw [← hs1] at r1 f1
        have k1 : ∀ g, g < 705 ∨ 708 < g → zI s1 g = zI σ g := fun g hg => by
          funext c
          rw [hs1, rIn (by omega), rIn (by omega)]
        have b1 : Bz D X b s1 := fun k h1 h2 => by
          rw [f1.I (by unfold stf; omega), f1.I (by unfold stf; omega)]
          exact hb k h1 h2
        have s1d : ∀ k, k < dn D → dtx D k = false → k ∉ xs → Sd X b S s1 k := fun k h1 h2 h3 => by
          unfold Sd
          by_cases q : k = x
          · rw [q, hs1, rIn (by decide), rIe, rIe, if_neg h0, if_neg h0]
            exact ⟨h.1.p0 x hxn h0 ht (hall x hxn ht), h.1.p1 x hxn h0 ht (hall x hxn ht) (by cases e : sw S x; rfl; exact absurd ((h.1.ww x).mp e) List.not_mem_nil)⟩
          · have hne : xpl X b k ≠ xpl X b x := fun z => q (hN.d.pl b b k x h1 hxn z).2
            rw [hs1, rIb hne, rIb hne, rIb hne, rIb hne]
            exact hs k h1 h2 (fun z => (List.mem_cons.mp z).elim q h3)
        refine zp_aload dX4_layAll_68 (a := (xnd X x)) (List.mem_of_getElem? (i := 0) rfl) ?_
        refine zp_aload_n dX4_layAll_70 rfl (a := (xnd X 0)) (List.mem_of_getElem? (i := 2) rfl) ?_
        refine zp_iconst dX4_layAll_71 (v := 1) (by decide) ?_
        refine zp_callS (st := []) (mc2 := 0) (ms2 := 0) dX4_layAll_72 (c_X7_onward l G D X x _ hD r1.ns hxn) cl_X4_45 st_X7_onward rfl rfl (by omega) (by omega) (by omega) (Nat.le_of_ble_eq_true rfl) ?_
        rintro _ s1 ⟨rfl, hs1⟩; obtain rfl := hs1.symm
        refine zp_astoreo dX4_layAll_75 (Nat.le_of_ble_eq_true rfl) (r := (lk X (onw D x))) (v := va_rf (lk X (onw D x))) rfl (lv2 := [(4, va_rf (lk X (onw D x))), (0, .ref (xLy X b)), (1, .ref (xnd X 0)), (2, .int W), (3, .int now)]) rfl ?_
        refine zp_goto dX4_layAll_77 (tgt := 57) rfl ?_
        refine Wp.mono (ih (onw D x) s1 hc2 hxs r1 b1 s1d) (Nat.le_refl _) (Nat.le_refl _) (Nat.le_refl _) (fun v s q => ?_)
        obtain ⟨w, q0, q1, q2, q3, q4, q5⟩ := q
        exact ⟨w, q0, q1, q2, q3, f1.trans q4, fun g hg => (q5 g hg).trans (k1 g hg)⟩
theorem NS.w304 {G : Gb} {D : Dt} {X : Cx} {σ : Sto} {b : Bool} {x : Int32} (h : NS G D X σ) : NS G D X (wI σ 304 (xLy X b) x) := by
  have e : ∀ g, g ≠ 304 → zI (wI σ 304 (xLy X b) x) g = zI σ g := fun g hg => by funext c; exact rIn hg
  refine ⟨fun k hk => ?_, fun c => ?_, h.d, by rw [e _ (by decide)]; exact h.dep⟩
  · obtain ⟨a1, a2, a3, a4, a5, a6, a7, a8, a9, a10, a11, a12, a13, a14, a15, a16, a17, a18, a19, a20, a21, a22, a23, a24, a25, a26⟩ := h.k k hk
    exact ⟨a1, a2, by rw [e _ (by decide)]; exact a3, a4, a5, a6, a7, a8, by rw [e _ (by decide)]; exact a9, a10, by rw [e _ (by decide)]; exact a11, by rw [e _ (by decide)]; exact a12, by rw [e _ (by decide)]; exact a13, a14, a15, a16, a17, a18, a19, a20, a21, a22, a23, a24, a25, by rw [e _ (by decide)]; exact a26⟩
  · obtain ⟨a1, a2, a3, a4, a5, a6⟩ := h.l c
    exact ⟨a1, by rw [e _ (by decide)]; exact a2, a3, a4, a5, a6⟩
theorem met_all {D : Dt} {W : Int32} {a h : Nat → Int32} (hD : DW D) (d : Nat) (hd : d < dn D) : Met3 D (laysP D W a h) d ∨ d = 0 ∧ svi (laysP D W a h) d = true ∧ slv (laysP D W a h) d = true := by
  rw [laysP_eq]
  rcases Nat.eq_zero_or_pos d with q | q
  · subst q
    have m := Mo_flow (D := D) (dn D) 0 0 (begP 0 (S0 W a h)) 0
    exact Or.inr ⟨rfl, m.1 (S0_vi (W := W) (a := a) (h := h)), m.2.1 (setB_self (f := fun _ => false) (k := 0))⟩
  · obtain ⟨c', g1, g2, g3, g4⟩ := Ds.down hD hd q (Ds.root hD d hd) (by omega)
    exact Or.inl (flowP_all hD (dn D) 0 0 _ (by omega) c' d g3 g4 g1 hd g2)
set_option maxRecDepth 100000 in
set_option maxHeartbeats 4000000 in
theorem c_X4_layAll (l : Launch) (G : Gb) (O : Nat → Prop) (D : Dt) (X : Cx) (b : Bool) (LL : Nat → List Nat) (fr : List Nat) (σ : Sto) (W now : Int32) (a h : Nat → Int32) (hD : DW D) (hN : NS G D X σ) (hO : Ow O D X b σ) (hl : Ln O D X b σ LL fr) (hsw : Sw G σ) (hb : Bz D X b σ) (hW0 : 0 ≤ W.toInt) (hW1 : W.toInt ≤ 300) (hgo : zI σ 715 (xpl X b 0) < zI σ 513 (xnd X 0) ∨ zI σ 716 (xpl X b 0) ≠ W) : Ct l G 35 48 288 yX4_layAll mX4_layAll [.ref (xLy X b), .ref (xnd X 0), .int W, .int now] σ (fun v s => ∃ w LL2 fr2, v = some (.int w) ∧ RR G O D X b (laysP D W a h) [] LL2 fr2 s ∧ Bz D X b s ∧ (∀ k, k < dn D → dtx D k = false → Sd X b (laysP D W a h) s k) ∧ Fm O (wI σ 304 (xLy X b) now) s ∧ zI s 703 (xpl X b 0) = mx 0 (sy (laysP D W a h)) ∧ zI s 715 (xpl X b 0) = now ∧ zI s 716 (xpl X b 0) = W) := by
  refine Ct.of (by decide) rfl (Nat.le_of_ble_eq_true rfl) (fun h => absurd h (by decide)) ?_
  have hT1 : ∀ k n c, zT σ c = (k + 1, n) → zT (wI (wI σ 304 (xLy X b) now) 305 (xLy X b) 0) c = (k + 1, n) := fun _ _ _ q => q
  have f5 : Fm O (wI σ 304 (xLy X b) now) (wI (wI σ 304 (xLy X b) now) 305 (xLy X b) 0) := Fm.wI hO.1 (by unfold stf; omega)
  have hN0 : NS G D X (wI σ 304 (xLy X b) now) := NS.w304 hN
  have hN1 := hN0.fm f5
  have hO1 : Ow O D X b (wI (wI σ 304 (xLy X b) now) 305 (xLy X b) 0) := hO
  have hl1 : Ln O D X b (wI (wI σ 304 (xLy X b) now) 305 (xLy X b) 0) LL fr := hl.to (fun _ _ => rfl) rfl rfl rfl rfl
  have hsw1 : Sw G (wI (wI σ 304 (xLy X b) now) 305 (xLy X b) 0) := hsw
  show Wp l G 35 48 288 (RX4, cX4_layAll, 5, (some .int), false) 0 [(0, .ref (xLy X b)), (1, .ref (xnd X 0)), (2, .int W), (3, .int now)] [] σ _
  refine zp_aload_n dX4_layAll_0 rfl (a := (xLy X b)) (List.mem_of_getElem? (i := 0) rfl) ?_
  refine zp_iload_n dX4_layAll_1 rfl (x := now) (List.mem_of_getElem? (i := 3) rfl) ?_
  refine zp_putI dX4_layAll_2 fl_X4_49 (hN.l b).T ?_
  refine zp_aload_n dX4_layAll_5 rfl (a := (xLy X b)) (List.mem_of_getElem? (i := 0) rfl) ?_
  refine zp_iconst dX4_layAll_6 (v := 0) (by decide) ?_
  refine zp_putI dX4_layAll_7 fl_X4_52 (tI (hN.l b).T) ?_
  refine zp_aload_n dX4_layAll_10 rfl (a := (xLy X b)) (List.mem_of_getElem? (i := 0) rfl) ?_
  refine zp_aload_n dX4_layAll_11 rfl (a := (xnd X 0)) (List.mem_of_getElem? (i := 1) rfl) ?_
  refine zp_iload_n dX4_layAll_12 rfl (x := W) (List.mem_of_getElem? (i := 2) rfl) ?_
  refine zp_iconst dX4_layAll_13 (v := (-1)) (by decide) ?_
  refine zp_callV (c0 := 2) (st := []) (mc2 := 0) (ms2 := 0) dX4_layAll_14 (c_X4_layOut l G O D X b LL fr _ W a h hD hN1 hO1 hl1 hsw1 hW0 hW1 (hgo.imp (fun q => by rw [rIn (by decide), rIn (by decide), rIn (by decide), rIn (by decide)]; exact q) (fun q => by rw [rIn (by decide), rIn (by decide)]; exact q))) cl_X4_55 im_X4_layOut se_X4_layOut rfl rfl (tI (tI (hN.l b).T)) rfl rfl (by omega) (by omega) (by omega) (Nat.le_of_ble_eq_true rfl) ?_
  rintro _ s2 ⟨rfl, LL2, fr2, r2, f2, e3, e4, e5⟩
  rw [rIn (show (304 : Nat) ≠ 305 by decide), rIe] at e4
  have hall : ∀ k, k < dn D → dtx D k = false → svi (laysP D W a h) k = true := fun k hk ht => ((met_all hD k hk).elim (fun q => q.1) (fun q => q.2.1))
  have hb2 : Bz D X b s2 := fun k h1 h2 => by
    rw [f2.I (by unfold stf; omega), f2.I (by unfold stf; omega), rIn (by decide), rIn (by decide), rIn (by decide), rIn (by decide)]
    exact hb k h1 h2
  refine zp_aload_n dX4_layAll_17 rfl (a := (xnd X 0)) (List.mem_of_getElem? (i := 1) rfl) ?_
  refine zp_astore dX4_layAll_18 (Nat.le_of_ble_eq_true rfl) (lv2 := [(4, .ref (xnd X 0)), (0, .ref (xLy X b)), (1, .ref (xnd X 0)), (2, .int W), (3, .int now)]) rfl ?_
  refine l_layAbs l hD r2.ns ?_ (ordL D) (some 0) (ordL_cn hD) (fun x hx => (ordL_mem hD x).mp hx)
  show Wp l G 35 0 0 (RX4, cX4_layAll, 5, (some .int), false) 54 [(0, .ref (xLy X b)), (1, .ref (xnd X 0)), (2, .int W), (3, .int now)] [] s2 _
  refine zp_aload_n dX4_layAll_54 rfl (a := (xnd X 0)) (List.mem_of_getElem? (i := 1) rfl) ?_
  refine zp_astore dX4_layAll_55 (Nat.le_of_ble_eq_true rfl) (lv2 := [(4, .ref (xnd X 0)), (0, .ref (xLy X b)), (1, .ref (xnd X 0)), (2, .int W), (3, .int now)]) rfl ?_
  refine Wp.mono (l_settle l hD hall (ordL D) (some 0) s2 (ordL_cn hD) (fun x hx => (ordL_mem hD x).mp hx) r2 hb2 (fun k h1 h2 h3 => absurd ((ordL_mem hD k).mpr h1) h3)) (Nat.le_refl _) (Nat.le_refl _) (Nat.le_refl _) (fun v s q => ?_)
  obtain ⟨w, q0, q1, q2, q3, q4, q5⟩ := q
  exact ⟨w, LL2, fr2, q0, q1, q2, q3, (f5.trans f2).trans q4, by rw [q5 _ (by decide)]; exact e3, by rw [q5 _ (by decide)]; exact e4, by rw [q5 _ (by decide)]; exact e5⟩
set_option maxHeartbeats 4000000 in
theorem l_forget (l : Launch) {G : Gb} {O : Nat → Prop} {D : Dt} {X : Cx} {b : Bool} (hD : DW D) : ∀ (xs : List Nat) (r : Option Nat) (σ : Sto), Cn D r xs none → (∀ x, x ∈ xs → x < dn D) → NS G D X σ → Ow O D X b σ →
    Wp l G 2 0 0 (RX4, cX4_forgetAll, 3, none, false) 2 [(2, va_rf (lk X r)), (0, .ref (xLy X b)), (1, .ref (xnd X 0))] [] σ (fun v s => v = none ∧ Fm O σ s ∧ (∀ g, g ≠ 715 → zI s g = zI σ g) ∧ zR s = zR σ ∧ (zI σ 715 (xpl X b 0) = -1 ∨ 0 ∈ xs → zI s 715 (xpl X b 0) = -1)) := by
  intro xs
  induction xs with
  | nil =>
    intro r σ hc hx hN hO
    have hr : r = none := hc
    rw [hr]
    show Wp l G 2 0 0 (RX4, cX4_forgetAll, 3, none, false) 2 [(2, .null), (0, .ref (xLy X b)), (1, .ref (xnd X 0))] [] σ _
    refine zp_aloado_n dX4_forgetAll_2 rfl (r := none) (v := .null) rfl (List.mem_of_getElem? (i := 0) rfl) ?_
    refine zp_nullT dX4_forgetAll_3 (tgt := 25) rfl ?_
    refine zp_vret rfl dX4_forgetAll_25 ?_
    exact ⟨rfl, Fm.refl, fun _ _ => rfl, rfl, fun q => q.elim id (fun z => absurd z List.not_mem_nil)⟩
  | cons x xs ih =>
    intro r σ hc hx hN hO
    obtain ⟨hr, hc2⟩ := hc
    rw [hr]
    have hxn := hx x List.mem_cons_self
    have hK := hN.k x hxn
    show Wp l G 2 0 0 (RX4, cX4_forgetAll, 3, none, false) 2 [(2, .ref (xnd X x)), (0, .ref (xLy X b)), (1, .ref (xnd X 0))] [] σ _
    refine zp_aload_n dX4_forgetAll_2 rfl (a := (xnd X x)) (List.mem_of_getElem? (i := 0) rfl) ?_
    refine zp_nullF dX4_forgetAll_3 (tgt := 25) rfl ?_
    refine zp_aload_n dX4_forgetAll_6 rfl (a := (xLy X b)) (List.mem_of_getElem? (i := 1) rfl) ?_
    refine zp_aload_n dX4_forgetAll_7 rfl (a := (xnd X x)) (List.mem_of_getElem? (i := 0) rfl) ?_
    refine zp_callV (c0 := 2) (st := []) (mc2 := 0) (ms2 := 0) dX4_forgetAll_8 (c_X4_placeOf l G (xLy X b) 0 (xnd X x) 0 (xpl X b x) b _ (hN.l b).T hK.T (hN.l b).fr (hK.pl b)) cl_X4_35 im_X4_placeOf se_X4_placeOf rfl rfl (hN.l b).T rfl rfl (by omega) (by omega) (by omega) (Nat.le_of_ble_eq_true rfl) ?_
    rintro _ s1 ⟨rfl, hs1⟩; obtain rfl := hs1.symm
    refine zp_iconst dX4_forgetAll_11 (v := (-1)) (by decide) ?_
    refine zp_putI dX4_forgetAll_12 fl_X4_39 (hK.plT b) ?_
    have f1 : Fm O σ (wI σ 715 (xpl X b x) (-1)) := Fm.wI (hO.2.2.1 x hxn) (by unfold stf; omega)
    refine zp_aload_n dX4_forgetAll_15 rfl (a := (xnd X x)) (List.mem_of_getElem? (i := 0) rfl) ?_
    refine zp_aload_n dX4_forgetAll_16 rfl (a := (xnd X 0)) (List.mem_of_getElem? (i := 2) rfl) ?_
    refine zp_iconst dX4_forgetAll_17 (v := 1) (by decide) ?_
    refine zp_callS (st := []) (mc2 := 0) (ms2 := 0) dX4_forgetAll_18 (c_X7_onward l G D X x _ hD (hN.fm f1) hxn) cl_X4_45 st_X7_onward rfl rfl (by omega) (by omega) (by omega) (Nat.le_of_ble_eq_true rfl) ?_
    rintro _ s1 ⟨rfl, hs1⟩; obtain rfl := hs1.symm
    refine zp_astoreo_n dX4_forgetAll_21 rfl (Nat.le_of_ble_eq_true rfl) (r := (lk X (onw D x))) (v := va_rf (lk X (onw D x))) rfl (lv2 := [(2, va_rf (lk X (onw D x))), (0, .ref (xLy X b)), (1, .ref (xnd X 0))]) rfl ?_
    refine zp_goto dX4_forgetAll_22 (tgt := 2) rfl ?_
    refine Wp.mono (ih (onw D x) _ hc2 (fun y hy => hx y (List.mem_cons_of_mem _ hy)) (hN.fm f1) (hO.fm f1)) (Nat.le_refl _) (Nat.le_refl _) (Nat.le_refl _) (fun v s q => ?_)
    obtain ⟨q0, q1, q2, q3, q4⟩ := q
    refine ⟨q0, f1.trans q1, fun g hg => (q2 g hg).trans (by funext c; exact rIn hg), q3, fun z => q4 ?_⟩
    by_cases y : x = 0
    · rw [y]; exact Or.inl rIe
    · rcases z with z | z
      · exact Or.inl ((rIb (fun z2 => y (hN.d.pl b b 0 x hD.1 hxn z2).2.symm)).trans z)
      · exact Or.inr ((List.mem_cons.mp z).resolve_left (fun z2 => y z2.symm))
set_option maxRecDepth 100000 in
set_option maxHeartbeats 4000000 in
theorem c_X4_forgetAll (l : Launch) (G : Gb) (O : Nat → Prop) (D : Dt) (X : Cx) (b : Bool) (σ : Sto) (hD : DW D) (hN : NS G D X σ) (hO : Ow O D X b σ) : Ct l G 2 0 0 yX4_forgetAll mX4_forgetAll [.ref (xLy X b), .ref (xnd X 0)] σ (fun v s => v = none ∧ Fm O σ s ∧ (∀ g, g ≠ 715 → zI s g = zI σ g) ∧ zR s = zR σ ∧ zI s 715 (xpl X b 0) = -1) := by
  refine Ct.of (by decide) rfl (Nat.le_of_ble_eq_true rfl) (fun h => absurd h (by decide)) ?_
  show Wp l G 2 0 0 (RX4, cX4_forgetAll, 3, none, false) 0 [(0, .ref (xLy X b)), (1, .ref (xnd X 0))] [] σ _
  refine zp_aload_n dX4_forgetAll_0 rfl (a := (xnd X 0)) (List.mem_of_getElem? (i := 1) rfl) ?_
  refine zp_astore_n dX4_forgetAll_1 rfl (Nat.le_of_ble_eq_true rfl) (lv2 := [(2, .ref (xnd X 0)), (0, .ref (xLy X b)), (1, .ref (xnd X 0))]) rfl ?_
  refine Wp.mono (l_forget l hD (ordL D) (some 0) σ (ordL_cn hD) (fun x hx => (ordL_mem hD x).mp hx) hN hO) (Nat.le_refl _) (Nat.le_refl _) (Nat.le_refl _) (fun v s q => ?_)
  obtain ⟨q0, q1, q2, q3, q4⟩ := q
  exact ⟨q0, q1, q2, q3, q4 (Or.inr List.mem_cons_self)⟩

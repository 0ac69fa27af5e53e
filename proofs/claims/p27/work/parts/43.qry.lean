/-! WHAT THE OBJECT ANSWERS (by wip/p27/gen_qry.py) -/
/-- the layout that all is held against -/
abbrev LSt (D : Dt) (W : Int32) : FS := laysP D W z0 z0
theorem ls_met {D : Dt} {W : Int32} (hD : DW D) {k : Nat} (hk : k < dn D) : svi (LSt D W) k = true ∧ (dtx D k = false → slv (LSt D W) k = true ∧ (k ≠ 0 → scl (LSt D W) k = true)) := by
  rcases met_all (W := W) (a := z0) (h := z0) hD k hk with q | ⟨q0, q1, q2⟩
  · exact ⟨q.1, fun ht => ⟨(q.2 ht).1, fun _ => (q.2 ht).2⟩⟩
  · exact ⟨q1, fun _ => ⟨q2, fun h => absurd q0 h⟩⟩
theorem RR.sw0 {G O D X b S LL fr σ} (h : RR G O D X b S [] LL fr σ) (k : Nat) : sw S k = false := by
  cases e : sw S k
  · rfl
  · exact absurd ((h.1.ww k).mp e) List.not_mem_nil
theorem Rz.r702 {G D X Y W T LL fr LL' fr' σ} (hD : DW D) (h : Rz G D X Y W T LL fr LL' fr' σ) {k : Nat} (hk : k < dn D) (ht : dtx D k = false) : zI σ 702 (xpl X false k) = sa (LSt D W) (32 + k) := (h.2.2.1.1.p2 k hk ht (ls_met hD hk).1).1
theorem Rz.r703 {G D X Y W T LL fr LL' fr' σ} (hD : DW D) (h : Rz G D X Y W T LL fr LL' fr' σ) {k : Nat} (hk : k < dn D) (h0 : k ≠ 0) (ht : dtx D k = false) : zI σ 703 (xpl X false k) = sa (LSt D W) (48 + k) := h.2.2.1.1.p3 k hk h0 ht (((ls_met hD hk).2 ht).2 h0)
theorem Rz.r705 {G D X Y W T LL fr LL' fr' σ} (h : Rz G D X Y W T LL fr LL' fr' σ) {k : Nat} (hk : k < dn D) (h0 : k ≠ 0) (ht : dtx D k = false) : zI σ 705 (xpl X false k) = sa (LSt D W) k := (h.2.2.2.1 k hk ht).1.trans (if_neg h0)
theorem Rz.r706 {G D X Y W T LL fr LL' fr' σ} (h : Rz G D X Y W T LL fr LL' fr' σ) {k : Nat} (hk : k < dn D) (h0 : k ≠ 0) (ht : dtx D k = false) : zI σ 706 (xpl X false k) = sa (LSt D W) (16 + k) := (h.2.2.2.1 k hk ht).2.trans (if_neg h0)
set_option maxRecDepth 100000 in
set_option maxHeartbeats 4000000 in
theorem c_X12_sideOf0 (l : Launch) (G : Gb) (D : Dt) (X : Cx) (k : Nat) (σ : Sto) (hN : NS G D X σ) (hk : k < dn D) (ht : dtx D k = false) : Ct l G 2 0 0 yX12_sideOf mX12_sideOf [.ref (xnd X k), .int 0, .ref (xLy X false)] σ (fun v s => (∃ L : Int64, v = some (.long L) ∧ L.toInt32 = zI σ 705 (xpl X false k)) ∧ s = σ) := by
  refine Ct.of (by decide) rfl (Nat.le_of_ble_eq_true rfl) (fun h => absurd h (by decide)) ?_
  have hpos : ¬ (0 < zI σ 503 (xnd X k)) := by rw [(hN.k k hk).size, if_neg (by rw [ht]; decide)]; decide
  show Wp l G 2 0 0 (RX12, cX12_sideOf, 4, (some .long), false) 0 [(0, .ref (xnd X k)), (1, .int 0), (2, .ref (xLy X false))] [] σ _
  refine zp_aload_n dX12_sideOf_0 rfl (a := (xnd X k)) (List.mem_of_getElem? (i := 0) rfl) ?_
  refine zp_callV (c0 := 4) (st := []) (mc2 := 0) (ms2 := 0) dX12_sideOf_1 (c_X7_isText l G (xnd X k) 0 _ (hN.k k hk).T) cl_X12_243 im_X7_isText se_X7_isText rfl rfl (hN.k k hk).T rfl rfl (by omega) (by omega) (by omega) (Nat.le_of_ble_eq_true rfl) ?_
  rintro _ s1 ⟨rfl, hs1⟩; obtain rfl := hs1.symm
  refine zp_ifb_eq dX12_sideOf_4 (tgt := 28) rfl (fun _ => ?_) (fun q => absurd q hpos)
  refine zp_aload_n dX12_sideOf_28 rfl (a := (xLy X false)) (List.mem_of_getElem? (i := 2) rfl) ?_
  refine zp_aload_n dX12_sideOf_29 rfl (a := (xnd X k)) (List.mem_of_getElem? (i := 0) rfl) ?_
  refine zp_callV (c0 := 2) (st := []) (mc2 := 0) (ms2 := 0) dX12_sideOf_30 (c_X4_placeOf l G (xLy X false) 0 (xnd X k) 0 (xpl X false k) false _ (hN.l false).T (hN.k k hk).T (hN.l false).fr ((hN.k k hk).pl false)) cl_X12_265 im_X4_placeOf se_X4_placeOf rfl rfl (hN.l false).T rfl rfl (by omega) (by omega) (by omega) (Nat.le_of_ble_eq_true rfl) ?_
  rintro _ s1 ⟨rfl, hs1⟩; obtain rfl := hs1.symm
  refine zp_astore_n dX12_sideOf_33 rfl (Nat.le_of_ble_eq_true rfl) (lv2 := [(3, .ref (xpl X false k)), (0, .ref (xnd X k)), (1, .int 0), (2, .ref (xLy X false))]) rfl ?_
  refine zp_iload_n dX12_sideOf_34 rfl (x := 0) (List.mem_of_getElem? (i := 2) rfl) ?_
  refine zp_tableIn (off := 25) (tgt := 60) dX12_sideOf_35 (by decide) (by decide) (by decide) rfl ?_
  refine zp_aload_n dX12_sideOf_60 rfl (a := (xpl X false k)) (List.mem_of_getElem? (i := 0) rfl) ?_
  refine zp_getJ dX12_sideOf_61 fl_X12_269 ((hN.k k hk).plT false) (v := (zI σ 705 (xpl X false k))) rfl (fun L61 hL61 => ?_)
  refine zp_lret rfl dX12_sideOf_64 ?_
  exact ⟨⟨_, rfl, hL61⟩, rfl⟩
set_option maxRecDepth 100000 in
set_option maxHeartbeats 4000000 in
theorem c_X12_sideOf1 (l : Launch) (G : Gb) (D : Dt) (X : Cx) (k : Nat) (σ : Sto) (hN : NS G D X σ) (hk : k < dn D) (ht : dtx D k = false) : Ct l G 2 0 0 yX12_sideOf mX12_sideOf [.ref (xnd X k), .int 1, .ref (xLy X false)] σ (fun v s => (∃ L : Int64, v = some (.long L) ∧ L.toInt32 = zI σ 706 (xpl X false k)) ∧ s = σ) := by
  refine Ct.of (by decide) rfl (Nat.le_of_ble_eq_true rfl) (fun h => absurd h (by decide)) ?_
  have hpos : ¬ (0 < zI σ 503 (xnd X k)) := by rw [(hN.k k hk).size, if_neg (by rw [ht]; decide)]; decide
  show Wp l G 2 0 0 (RX12, cX12_sideOf, 4, (some .long), false) 0 [(0, .ref (xnd X k)), (1, .int 1), (2, .ref (xLy X false))] [] σ _
  refine zp_aload_n dX12_sideOf_0 rfl (a := (xnd X k)) (List.mem_of_getElem? (i := 0) rfl) ?_
  refine zp_callV (c0 := 4) (st := []) (mc2 := 0) (ms2 := 0) dX12_sideOf_1 (c_X7_isText l G (xnd X k) 0 _ (hN.k k hk).T) cl_X12_243 im_X7_isText se_X7_isText rfl rfl (hN.k k hk).T rfl rfl (by omega) (by omega) (by omega) (Nat.le_of_ble_eq_true rfl) ?_
  rintro _ s1 ⟨rfl, hs1⟩; obtain rfl := hs1.symm
  refine zp_ifb_eq dX12_sideOf_4 (tgt := 28) rfl (fun _ => ?_) (fun q => absurd q hpos)
  refine zp_aload_n dX12_sideOf_28 rfl (a := (xLy X false)) (List.mem_of_getElem? (i := 2) rfl) ?_
  refine zp_aload_n dX12_sideOf_29 rfl (a := (xnd X k)) (List.mem_of_getElem? (i := 0) rfl) ?_
  refine zp_callV (c0 := 2) (st := []) (mc2 := 0) (ms2 := 0) dX12_sideOf_30 (c_X4_placeOf l G (xLy X false) 0 (xnd X k) 0 (xpl X false k) false _ (hN.l false).T (hN.k k hk).T (hN.l false).fr ((hN.k k hk).pl false)) cl_X12_265 im_X4_placeOf se_X4_placeOf rfl rfl (hN.l false).T rfl rfl (by omega) (by omega) (by omega) (Nat.le_of_ble_eq_true rfl) ?_
  rintro _ s1 ⟨rfl, hs1⟩; obtain rfl := hs1.symm
  refine zp_astore_n dX12_sideOf_33 rfl (Nat.le_of_ble_eq_true rfl) (lv2 := [(3, .ref (xpl X false k)), (0, .ref (xnd X k)), (1, .int 1), (2, .ref (xLy X false))]) rfl ?_
  refine zp_iload_n dX12_sideOf_34 rfl (x := 1) (List.mem_of_getElem? (i := 2) rfl) ?_
  refine zp_tableIn (off := 30) (tgt := 65) dX12_sideOf_35 (by decide) (by decide) (by decide) rfl ?_
  refine zp_aload_n dX12_sideOf_65 rfl (a := (xpl X false k)) (List.mem_of_getElem? (i := 0) rfl) ?_
  refine zp_getJ dX12_sideOf_66 fl_X12_272 ((hN.k k hk).plT false) (v := (zI σ 706 (xpl X false k))) rfl (fun L66 hL66 => ?_)
  refine zp_lret rfl dX12_sideOf_69 ?_
  exact ⟨⟨_, rfl, hL66⟩, rfl⟩
set_option maxRecDepth 100000 in
set_option maxHeartbeats 4000000 in
theorem c_X12_sideOf2 (l : Launch) (G : Gb) (D : Dt) (X : Cx) (k : Nat) (σ : Sto) (hN : NS G D X σ) (hk : k < dn D) (ht : dtx D k = false) : Ct l G 2 0 0 yX12_sideOf mX12_sideOf [.ref (xnd X k), .int 2, .ref (xLy X false)] σ (fun v s => (∃ L : Int64, v = some (.long L) ∧ L.toInt32 = zI σ 702 (xpl X false k) + (zA σ (xcn X k) 13 + zA σ (xcn X k) 11)) ∧ s = σ) := by
  refine Ct.of (by decide) rfl (Nat.le_of_ble_eq_true rfl) (fun h => absurd h (by decide)) ?_
  have hpos : ¬ (0 < zI σ 503 (xnd X k)) := by rw [(hN.k k hk).size, if_neg (by rw [ht]; decide)]; decide
  show Wp l G 2 0 0 (RX12, cX12_sideOf, 4, (some .long), false) 0 [(0, .ref (xnd X k)), (1, .int 2), (2, .ref (xLy X false))] [] σ _
  refine zp_aload_n dX12_sideOf_0 rfl (a := (xnd X k)) (List.mem_of_getElem? (i := 0) rfl) ?_
  refine zp_callV (c0 := 4) (st := []) (mc2 := 0) (ms2 := 0) dX12_sideOf_1 (c_X7_isText l G (xnd X k) 0 _ (hN.k k hk).T) cl_X12_243 im_X7_isText se_X7_isText rfl rfl (hN.k k hk).T rfl rfl (by omega) (by omega) (by omega) (Nat.le_of_ble_eq_true rfl) ?_
  rintro _ s1 ⟨rfl, hs1⟩; obtain rfl := hs1.symm
  refine zp_ifb_eq dX12_sideOf_4 (tgt := 28) rfl (fun _ => ?_) (fun q => absurd q hpos)
  refine zp_aload_n dX12_sideOf_28 rfl (a := (xLy X false)) (List.mem_of_getElem? (i := 2) rfl) ?_
  refine zp_aload_n dX12_sideOf_29 rfl (a := (xnd X k)) (List.mem_of_getElem? (i := 0) rfl) ?_
  refine zp_callV (c0 := 2) (st := []) (mc2 := 0) (ms2 := 0) dX12_sideOf_30 (c_X4_placeOf l G (xLy X false) 0 (xnd X k) 0 (xpl X false k) false _ (hN.l false).T (hN.k k hk).T (hN.l false).fr ((hN.k k hk).pl false)) cl_X12_265 im_X4_placeOf se_X4_placeOf rfl rfl (hN.l false).T rfl rfl (by omega) (by omega) (by omega) (Nat.le_of_ble_eq_true rfl) ?_
  rintro _ s1 ⟨rfl, hs1⟩; obtain rfl := hs1.symm
  refine zp_astore_n dX12_sideOf_33 rfl (Nat.le_of_ble_eq_true rfl) (lv2 := [(3, .ref (xpl X false k)), (0, .ref (xnd X k)), (1, .int 2), (2, .ref (xLy X false))]) rfl ?_
  refine zp_iload_n dX12_sideOf_34 rfl (x := 2) (List.mem_of_getElem? (i := 2) rfl) ?_
  refine zp_tableIn (off := 35) (tgt := 70) dX12_sideOf_35 (by decide) (by decide) (by decide) rfl ?_
  refine zp_aload_n dX12_sideOf_70 rfl (a := (xpl X false k)) (List.mem_of_getElem? (i := 0) rfl) ?_
  refine zp_getIv dX12_sideOf_71 fl_X12_275 ((hN.k k hk).plT false) (v := (zI σ 702 (xpl X false k))) rfl ?_
  refine zp_aload_n dX12_sideOf_74 rfl (a := (xnd X k)) (List.mem_of_getElem? (i := 1) rfl) ?_
  refine zp_callV (c0 := 4) (st := [.int (zI σ 702 (xpl X false k))]) (mc2 := 0) (ms2 := 0) dX12_sideOf_75 (c_X7_flatEdges l G (xnd X k) 0 (xcn X k) _ (hN.k k hk).T (hN.k k hk).cn (hN.k k hk).cnT) cl_X12_278 im_X7_flatEdges se_X7_flatEdges rfl rfl (hN.k k hk).T rfl rfl (by omega) (by omega) (by omega) (Nat.le_of_ble_eq_true rfl) ?_
  rintro _ s1 ⟨rfl, hs1⟩; obtain rfl := hs1.symm
  refine zp_iadd dX12_sideOf_78 ?_
  refine zp_i2l dX12_sideOf_79 ?_
  refine zp_lret rfl dX12_sideOf_80 ?_
  exact ⟨⟨_, rfl, (j_i2l ((zI σ 702 (xpl X false k)) + (zA σ (xcn X k) 13 + zA σ (xcn X k) 11)))⟩, rfl⟩
set_option maxRecDepth 100000 in
set_option maxHeartbeats 4000000 in
theorem c_X12_sideOf3 (l : Launch) (G : Gb) (D : Dt) (X : Cx) (k : Nat) (σ : Sto) (hN : NS G D X σ) (hk : k < dn D) (ht : dtx D k = false) : Ct l G 2 0 0 yX12_sideOf mX12_sideOf [.ref (xnd X k), .int 3, .ref (xLy X false)] σ (fun v s => (∃ L : Int64, v = some (.long L) ∧ L.toInt32 = zI σ 703 (xpl X false k) + (zA σ (xcn X k) 10 + zA σ (xcn X k) 12)) ∧ s = σ) := by
  refine Ct.of (by decide) rfl (Nat.le_of_ble_eq_true rfl) (fun h => absurd h (by decide)) ?_
  have hpos : ¬ (0 < zI σ 503 (xnd X k)) := by rw [(hN.k k hk).size, if_neg (by rw [ht]; decide)]; decide
  show Wp l G 2 0 0 (RX12, cX12_sideOf, 4, (some .long), false) 0 [(0, .ref (xnd X k)), (1, .int 3), (2, .ref (xLy X false))] [] σ _
  refine zp_aload_n dX12_sideOf_0 rfl (a := (xnd X k)) (List.mem_of_getElem? (i := 0) rfl) ?_
  refine zp_callV (c0 := 4) (st := []) (mc2 := 0) (ms2 := 0) dX12_sideOf_1 (c_X7_isText l G (xnd X k) 0 _ (hN.k k hk).T) cl_X12_243 im_X7_isText se_X7_isText rfl rfl (hN.k k hk).T rfl rfl (by omega) (by omega) (by omega) (Nat.le_of_ble_eq_true rfl) ?_
  rintro _ s1 ⟨rfl, hs1⟩; obtain rfl := hs1.symm
  refine zp_ifb_eq dX12_sideOf_4 (tgt := 28) rfl (fun _ => ?_) (fun q => absurd q hpos)
  refine zp_aload_n dX12_sideOf_28 rfl (a := (xLy X false)) (List.mem_of_getElem? (i := 2) rfl) ?_
  refine zp_aload_n dX12_sideOf_29 rfl (a := (xnd X k)) (List.mem_of_getElem? (i := 0) rfl) ?_
  refine zp_callV (c0 := 2) (st := []) (mc2 := 0) (ms2 := 0) dX12_sideOf_30 (c_X4_placeOf l G (xLy X false) 0 (xnd X k) 0 (xpl X false k) false _ (hN.l false).T (hN.k k hk).T (hN.l false).fr ((hN.k k hk).pl false)) cl_X12_265 im_X4_placeOf se_X4_placeOf rfl rfl (hN.l false).T rfl rfl (by omega) (by omega) (by omega) (Nat.le_of_ble_eq_true rfl) ?_
  rintro _ s1 ⟨rfl, hs1⟩; obtain rfl := hs1.symm
  refine zp_astore_n dX12_sideOf_33 rfl (Nat.le_of_ble_eq_true rfl) (lv2 := [(3, .ref (xpl X false k)), (0, .ref (xnd X k)), (1, .int 3), (2, .ref (xLy X false))]) rfl ?_
  refine zp_iload_n dX12_sideOf_34 rfl (x := 3) (List.mem_of_getElem? (i := 2) rfl) ?_
  refine zp_tableOut (tgt := 81) dX12_sideOf_35 (by decide) rfl ?_
  refine zp_aload_n dX12_sideOf_81 rfl (a := (xpl X false k)) (List.mem_of_getElem? (i := 0) rfl) ?_
  refine zp_getIv dX12_sideOf_82 fl_X12_281 ((hN.k k hk).plT false) (v := (zI σ 703 (xpl X false k))) rfl ?_
  refine zp_aload_n dX12_sideOf_85 rfl (a := (xnd X k)) (List.mem_of_getElem? (i := 1) rfl) ?_
  refine zp_callV (c0 := 4) (st := [.int (zI σ 703 (xpl X false k))]) (mc2 := 0) (ms2 := 0) dX12_sideOf_86 (c_X7_uprightEdges l G (xnd X k) 0 (xcn X k) _ (hN.k k hk).T (hN.k k hk).cn (hN.k k hk).cnT) cl_X12_282 im_X7_uprightEdges se_X7_uprightEdges rfl rfl (hN.k k hk).T rfl rfl (by omega) (by omega) (by omega) (Nat.le_of_ble_eq_true rfl) ?_
  rintro _ s1 ⟨rfl, hs1⟩; obtain rfl := hs1.symm
  refine zp_iadd dX12_sideOf_89 ?_
  refine zp_i2l dX12_sideOf_90 ?_
  refine zp_lret rfl dX12_sideOf_91 ?_
  exact ⟨⟨_, rfl, (j_i2l ((zI σ 703 (xpl X false k)) + (zA σ (xcn X k) 10 + zA σ (xcn X k) 12)))⟩, rfl⟩
set_option maxRecDepth 100000 in
set_option maxHeartbeats 4000000 in
theorem c_X12_pieceSide (l : Launch) (G : Gb) (O : Nat → Prop) (D : Dt) (X : Cx) (b : Bool) (S : FS) (LL : Nat → List Nat) (fr : List Nat) (c : Nat) (σ : Sto) (hD : DW D) (h : RR G O D X b S [] LL fr σ) (hb : Bz D X b σ) (hc : c < dn D) (ht : dtx D c = true) (hw : 0 < dwc D c) (hv : svi S c = true) (hvp : svi S (dpar D c) = true ∧ slv S (dpar D c) = true) : Ct l G 2 0 0 yX12_pieceSide mX12_pieceSide [.ref (xnd X c), .int 0, .int 0, .ref (xLy X b)] σ (fun v s => (∃ L : Int64, v = some (.long L) ∧ L.toInt32 = sa S c) ∧ s = σ) := by
  refine Ct.of (by decide) rfl (Nat.le_of_ble_eq_true rfl) (fun h => absurd h (by decide)) ?_
  have hN := h.ns
  have hK := hN.k c hc
  have c0 : c ≠ 0 := fun q => by rw [q, hD.2.2.2.1] at ht; cases ht
  have hp := hD.2.2.2.2.1 c (by omega) hc
  have hKp := hN.k (dpar D c) (by omega)
  have hpar : zR σ 501 (xnd X c) = some (xnd X (dpar D c)) := by have := hK.par; rw [if_neg c0] at this; exact this
  have hpcT : zT σ (xpc X b c) = (23, 40) := by have := hK.pcT b; rw [ht] at this; exact this
  have hth1 : zQ σ (xpc X b c) 0 = some (xth X b c 0) := hK.th b 0 (by rw [ht]; decide)
  obtain ⟨-, ll, l1, l2, l3⟩ := h.2.tx c hc ht hv hw
  have l4 := (h.2.lc (dpar D c) (by omega) hp.2 hvp.2).2 ll l1
  have lT : zT σ ll = (4, 0) := h.2.1.T (k := dpar D c) (by omega) l1
  have hz := (hb (dpar D c) (by omega) hp.2).1
  show Wp l G 2 0 0 (RX12, cX12_pieceSide, 7, (some .long), false) 0 [(0, .ref (xnd X c)), (1, .int 0), (2, .int 0), (3, .ref (xLy X b))] [] σ _
  refine zp_aload_n dX12_pieceSide_0 rfl (a := (xLy X b)) (List.mem_of_getElem? (i := 3) rfl) ?_
  refine zp_aload_n dX12_pieceSide_1 rfl (a := (xnd X c)) (List.mem_of_getElem? (i := 0) rfl) ?_
  refine zp_callV (c0 := 2) (st := []) (mc2 := 0) (ms2 := 0) dX12_pieceSide_2 (c_X4_placeOf l G (xLy X b) 0 (xnd X c) 0 (xpl X b c) b _ (hN.l b).T hK.T (hN.l b).fr (hK.pl b)) cl_X12_265 im_X4_placeOf se_X4_placeOf rfl rfl (hN.l b).T rfl rfl (by omega) (by omega) (by omega) (Nat.le_of_ble_eq_true rfl) ?_
  rintro _ s1 ⟨rfl, hs1⟩; obtain rfl := hs1.symm
  refine zp_iload_n dX12_pieceSide_5 rfl (x := 0) (List.mem_of_getElem? (i := 1) rfl) ?_
  refine zp_callV (c0 := 6) (st := []) (mc2 := 0) (ms2 := 0) dX12_pieceSide_6 (c_X9_pieceAt l G (xpl X b c) 0 (xpc X b c) 40 0 _ (hK.plT b) (hK.pc b) hpcT (by decide) (by decide)) cl_X12_285 im_X9_pieceAt se_X9_pieceAt rfl rfl (hK.plT b) rfl rfl (by omega) (by omega) (by omega) (Nat.le_of_ble_eq_true rfl) ?_
  rintro _ s1 ⟨rfl, hs1⟩; obtain rfl := hs1.symm
  rw [hth1]
  refine zp_astore dX12_pieceSide_9 (Nat.le_of_ble_eq_true rfl) (lv2 := [(4, .ref (xth X b c 0)), (0, .ref (xnd X c)), (1, .int 0), (2, .int 0), (3, .ref (xLy X b))]) rfl ?_
  refine zp_aload_n dX12_pieceSide_11 rfl (a := (xnd X c)) (List.mem_of_getElem? (i := 1) rfl) ?_
  refine zp_getRv dX12_pieceSide_12 fl_X12_114 hK.T (b := (xnd X (dpar D c))) hpar ?_
  refine zp_astore dX12_pieceSide_15 (Nat.le_of_ble_eq_true rfl) (lv2 := [(5, .ref (xnd X (dpar D c))), (4, .ref (xth X b c 0)), (0, .ref (xnd X c)), (1, .int 0), (2, .int 0), (3, .ref (xLy X b))]) rfl ?_
  refine zp_aload dX12_pieceSide_17 (a := (xth X b c 0)) (List.mem_of_getElem? (i := 1) rfl) ?_
  refine zp_nullF dX12_pieceSide_19 (tgt := 35) rfl ?_
  refine zp_aload dX12_pieceSide_22 (a := (xth X b c 0)) (List.mem_of_getElem? (i := 1) rfl) ?_
  refine zp_getRv dX12_pieceSide_24 fl_X12_289 (hK.thT b 0 (by rw [ht]; decide)) (b := ll) l2 ?_
  refine zp_nullF dX12_pieceSide_27 (tgt := 35) rfl ?_
  refine zp_aload dX12_pieceSide_30 (a := (xnd X (dpar D c))) (List.mem_of_getElem? (i := 0) rfl) ?_
  refine zp_nonnullT dX12_pieceSide_32 (tgt := 37) rfl ?_
  refine zp_aload_n dX12_pieceSide_37 rfl (a := (xLy X b)) (List.mem_of_getElem? (i := 5) rfl) ?_
  refine zp_aload dX12_pieceSide_38 (a := (xnd X (dpar D c))) (List.mem_of_getElem? (i := 0) rfl) ?_
  refine zp_callV (c0 := 2) (st := []) (mc2 := 0) (ms2 := 0) dX12_pieceSide_40 (c_X4_placeOf l G (xLy X b) 0 (xnd X (dpar D c)) 0 (xpl X b (dpar D c)) b _ (hN.l b).T hKp.T (hN.l b).fr (hKp.pl b)) cl_X12_265 im_X4_placeOf se_X4_placeOf rfl rfl (hN.l b).T rfl rfl (by omega) (by omega) (by omega) (Nat.le_of_ble_eq_true rfl) ?_
  rintro _ s1 ⟨rfl, hs1⟩; obtain rfl := hs1.symm
  refine zp_astore dX12_pieceSide_43 (Nat.le_of_ble_eq_true rfl) (lv2 := [(6, .ref (xpl X b (dpar D c))), (5, .ref (xnd X (dpar D c))), (4, .ref (xth X b c 0)), (0, .ref (xnd X c)), (1, .int 0), (2, .int 0), (3, .ref (xLy X b))]) rfl ?_
  refine zp_iload_n dX12_pieceSide_45 rfl (x := 0) (List.mem_of_getElem? (i := 5) rfl) ?_
  refine zp_lookup (off := 26) (tgt := 72) dX12_pieceSide_46 (by decide) (by decide) rfl ?_
  refine zp_aload dX12_pieceSide_72 (a := (xpl X b (dpar D c))) (List.mem_of_getElem? (i := 0) rfl) ?_
  refine zp_getJ dX12_pieceSide_74 fl_X12_207 (hKp.plT b) (v := 0) hz (fun L74 hL74 => ?_)
  refine zp_aload dX12_pieceSide_77 (a := (xth X b c 0)) (List.mem_of_getElem? (i := 2) rfl) ?_
  refine zp_callV (c0 := 8) (st := [.long L74]) (mc2 := 0) (ms2 := 0) dX12_pieceSide_79 (c_X11_leftSide l G (xth X b c 0) 0 ll 0 _ (hK.thT b 0 (by rw [ht]; decide)) l2 lT) cl_X12_294 im_X11_leftSide se_X11_leftSide rfl rfl (hK.thT b 0 (by rw [ht]; decide)) rfl rfl (by omega) (by omega) (by omega) (Nat.le_of_ble_eq_true rfl) ?_
  rintro _ s1 ⟨⟨Lq, rfl, hLq⟩, hs1⟩; obtain rfl := hs1.symm
  refine zp_ladd dX12_pieceSide_82 ?_
  refine zp_topj (v := (sa S c)) ((j_add hL74 (hLq.trans (by rw [l4]; exact l3))).trans (Int32.zero_add _)) (fun L82 hL82 => ?_)
  refine zp_lret rfl dX12_pieceSide_83 ?_
  exact ⟨⟨_, rfl, hL82⟩, rfl⟩
set_option maxRecDepth 100000 in
set_option maxHeartbeats 4000000 in
theorem c_X12_sideOfT (l : Launch) (G : Gb) (O : Nat → Prop) (D : Dt) (X : Cx) (b : Bool) (S : FS) (LL : Nat → List Nat) (fr : List Nat) (c : Nat) (σ : Sto) (hD : DW D) (h : RR G O D X b S [] LL fr σ) (hb : Bz D X b σ) (hc : c < dn D) (ht : dtx D c = true) (hw : 0 < dwc D c) (hv : svi S c = true) (hvp : svi S (dpar D c) = true ∧ slv S (dpar D c) = true) : Ct l G 3 0 0 yX12_sideOf mX12_sideOf [.ref (xnd X c), .int 0, .ref (xLy X b)] σ (fun v s => (∃ L : Int64, v = some (.long L) ∧ L.toInt32 = sa S c) ∧ s = σ) := by
  refine Ct.of (by decide) rfl (Nat.le_of_ble_eq_true rfl) (fun h => absurd h (by decide)) ?_
  have hN := h.ns
  have hK := hN.k c hc
  have hpos : 0 < zI σ 503 (xnd X c) := by rw [hK.size, if_pos ht]; exact Int32.lt_iff_toInt_lt.mpr (by have := hD.2.2.2.2.2.2.2.1 c; rw [show (0 : Int32).toInt = 0 from rfl]; omega)
  show Wp l G 3 0 0 (RX12, cX12_sideOf, 4, (some .long), false) 0 [(0, .ref (xnd X c)), (1, .int 0), (2, .ref (xLy X b))] [] σ _
  refine zp_aload_n dX12_sideOf_0 rfl (a := (xnd X c)) (List.mem_of_getElem? (i := 0) rfl) ?_
  refine zp_callV (c0 := 4) (st := []) (mc2 := 0) (ms2 := 0) dX12_sideOf_1 (c_X7_isText l G (xnd X c) 0 _ hK.T) cl_X12_243 im_X7_isText se_X7_isText rfl rfl hK.T rfl rfl (by omega) (by omega) (by omega) (Nat.le_of_ble_eq_true rfl) ?_
  rintro _ s1 ⟨rfl, hs1⟩; obtain rfl := hs1.symm
  refine zp_ifb_eq dX12_sideOf_4 (tgt := 28) rfl (fun q => absurd hpos q) (fun _ => ?_)
  refine zp_iload_n dX12_sideOf_7 rfl (x := 0) (List.mem_of_getElem? (i := 1) rfl) ?_
  refine zp_iconst dX12_sideOf_8 (v := 3) (by decide) ?_
  refine zp_icmp_ne dX12_sideOf_9 (tgt := 20) rfl (fun _ => ?_) (fun q => absurd q (by decide))
  refine zp_aload_n dX12_sideOf_20 rfl (a := (xnd X c)) (List.mem_of_getElem? (i := 0) rfl) ?_
  refine zp_iconst dX12_sideOf_21 (v := 0) (by decide) ?_
  refine zp_iload_n dX12_sideOf_22 rfl (x := 0) (List.mem_of_getElem? (i := 1) rfl) ?_
  refine zp_aload_n dX12_sideOf_23 rfl (a := (xLy X b)) (List.mem_of_getElem? (i := 2) rfl) ?_
  refine zp_callS (st := []) (mc2 := 0) (ms2 := 0) dX12_sideOf_24 (c_X12_pieceSide l G O D X b S LL fr c _ hD h hb hc ht hw hv hvp) cl_X12_229 st_X12_pieceSide rfl rfl (by omega) (by omega) (by omega) (Nat.le_of_ble_eq_true rfl) ?_
  rintro _ s1 ⟨⟨Lq, rfl, hLq⟩, hs1⟩; obtain rfl := hs1.symm
  refine zp_lret rfl dX12_sideOf_27 ?_
  exact ⟨⟨_, rfl, hLq⟩, rfl⟩
set_option maxRecDepth 100000 in
set_option maxHeartbeats 4000000 in
theorem c_X12_sideOfZ (l : Launch) (G : Gb) (D : Dt) (X : Cx) (c z : Nat) (σ : Sto) (hD : DW D) (hN : NS G D X σ) (hc : c < dn D) (ht : dtx D c = true) : Ct l G 2 0 0 yX12_sideOf mX12_sideOf [.ref (xnd X c), .int 3, .ref z] σ (fun v s => (∃ L : Int64, v = some (.long L) ∧ L.toInt32 = dsz D c) ∧ s = σ) := by
  refine Ct.of (by decide) rfl (Nat.le_of_ble_eq_true rfl) (fun h => absurd h (by decide)) ?_
  have hK := hN.k c hc
  have hsz : zI σ 503 (xnd X c) = dsz D c := hK.size.trans (if_pos ht)
  have hpos : 0 < zI σ 503 (xnd X c) := by rw [hsz]; exact Int32.lt_iff_toInt_lt.mpr (by have := hD.2.2.2.2.2.2.2.1 c; rw [show (0 : Int32).toInt = 0 from rfl]; omega)
  show Wp l G 2 0 0 (RX12, cX12_sideOf, 4, (some .long), false) 0 [(0, .ref (xnd X c)), (1, .int 3), (2, .ref z)] [] σ _
  refine zp_aload_n dX12_sideOf_0 rfl (a := (xnd X c)) (List.mem_of_getElem? (i := 0) rfl) ?_
  refine zp_callV (c0 := 4) (st := []) (mc2 := 0) (ms2 := 0) dX12_sideOf_1 (c_X7_isText l G (xnd X c) 0 _ hK.T) cl_X12_243 im_X7_isText se_X7_isText rfl rfl hK.T rfl rfl (by omega) (by omega) (by omega) (Nat.le_of_ble_eq_true rfl) ?_
  rintro _ s1 ⟨rfl, hs1⟩; obtain rfl := hs1.symm
  refine zp_ifb_eq dX12_sideOf_4 (tgt := 28) rfl (fun q => absurd hpos q) (fun _ => ?_)
  refine zp_iload_n dX12_sideOf_7 rfl (x := 3) (List.mem_of_getElem? (i := 1) rfl) ?_
  refine zp_iconst dX12_sideOf_8 (v := 3) (by decide) ?_
  refine zp_icmp_ne dX12_sideOf_9 (tgt := 20) rfl (fun q => absurd rfl q) (fun _ => ?_)
  refine zp_aload_n dX12_sideOf_12 rfl (a := (xnd X c)) (List.mem_of_getElem? (i := 0) rfl) ?_
  refine zp_getIv dX12_sideOf_13 fl_X12_262 hK.T (v := (dsz D c)) hsz ?_
  refine zp_i2l dX12_sideOf_16 ?_
  refine zp_goto dX12_sideOf_17 (tgt := 27) rfl ?_
  refine zp_lret rfl dX12_sideOf_27 ?_
  exact ⟨⟨_, rfl, (j_i2l (dsz D c))⟩, rfl⟩
set_option maxRecDepth 100000 in
set_option maxHeartbeats 4000000 in
theorem c_X12_xB (l : Launch) (G : Gb) (D : Dt) (X : Cx) (Y : Cy) (W : Int32) (T : Nat) (LL : Nat → List Nat) (fr : List Nat) (LL' : Nat → List Nat) (fr' : List Nat) (k : Nat) (σ : Sto) (hD : DW D) (h : Rz G D X Y W T LL fr LL' fr' σ) (hk : k < dn D) (h0 : k ≠ 0) (ht : dtx D k = false) : Ct l G 4 0 0 yX12_x mX12_x [.ref (xob Y), .int (nI k)] σ (fun v s => v = some (.int (sa (LSt D W) k)) ∧ s = σ) := by
  refine Ct.of (by decide) rfl (Nat.le_of_ble_eq_true rfl) (fun h => absurd h (by decide)) ?_
  show Wp l G 4 0 0 (RX12, cX12_x, 2, (some .int), false) 0 [(0, .ref (xob Y)), (1, .int (nI k))] [] σ _
  refine zp_aload_n dX12_x_0 rfl (a := (xob Y)) (List.mem_of_getElem? (i := 0) rfl) ?_
  refine zp_iload_n dX12_x_1 rfl (x := (nI k)) (List.mem_of_getElem? (i := 1) rfl) ?_
  refine zp_callV (c0 := 9) (st := []) (mc2 := 0) (ms2 := 0) dX12_x_2 (c_X12_placedAtB l G D X Y W T k _ hD h.1.1 h.1.2.1 hk ht) cl_X12_141 im_X12_placedAt se_X12_placedAt rfl rfl h.1.1.1 rfl rfl (by omega) (by omega) (by omega) (Nat.le_of_ble_eq_true rfl) ?_
  rintro _ s1 ⟨rfl, hs1⟩; obtain rfl := hs1.symm
  refine zp_iconst dX12_x_5 (v := 0) (by decide) ?_
  refine zp_aload_n dX12_x_6 rfl (a := (xob Y)) (List.mem_of_getElem? (i := 0) rfl) ?_
  refine zp_getRv dX12_x_7 fl_X12_41 h.1.1.1 (b := (xLy X false)) h.1.1.2.2.2.1 ?_
  refine zp_callS (st := []) (mc2 := 0) (ms2 := 0) dX12_x_10 (c_X12_sideOf0 l G D X k _ h.2.1 hk ht) cl_X12_144 st_X12_sideOf rfl rfl (by omega) (by omega) (by omega) (Nat.le_of_ble_eq_true rfl) ?_
  rintro _ s1 ⟨⟨Lq, rfl, hLq⟩, hs1⟩; obtain rfl := hs1.symm
  refine zp_l2iv dX12_x_13 (v := (sa (LSt D W) k)) (hLq.trans (h.r705 hk h0 ht)) ?_
  refine zp_iret rfl dX12_x_14 ?_
  exact ⟨rfl, rfl⟩
set_option maxRecDepth 100000 in
set_option maxHeartbeats 4000000 in
theorem c_X12_yB (l : Launch) (G : Gb) (D : Dt) (X : Cx) (Y : Cy) (W : Int32) (T : Nat) (LL : Nat → List Nat) (fr : List Nat) (LL' : Nat → List Nat) (fr' : List Nat) (k : Nat) (σ : Sto) (hD : DW D) (h : Rz G D X Y W T LL fr LL' fr' σ) (hk : k < dn D) (h0 : k ≠ 0) (ht : dtx D k = false) : Ct l G 4 0 0 yX12_y mX12_y [.ref (xob Y), .int (nI k)] σ (fun v s => v = some (.int (sa (LSt D W) (16 + k))) ∧ s = σ) := by
  refine Ct.of (by decide) rfl (Nat.le_of_ble_eq_true rfl) (fun h => absurd h (by decide)) ?_
  show Wp l G 4 0 0 (RX12, cX12_y, 2, (some .int), false) 0 [(0, .ref (xob Y)), (1, .int (nI k))] [] σ _
  refine zp_aload_n dX12_y_0 rfl (a := (xob Y)) (List.mem_of_getElem? (i := 0) rfl) ?_
  refine zp_iload_n dX12_y_1 rfl (x := (nI k)) (List.mem_of_getElem? (i := 1) rfl) ?_
  refine zp_callV (c0 := 9) (st := []) (mc2 := 0) (ms2 := 0) dX12_y_2 (c_X12_placedAtB l G D X Y W T k _ hD h.1.1 h.1.2.1 hk ht) cl_X12_141 im_X12_placedAt se_X12_placedAt rfl rfl h.1.1.1 rfl rfl (by omega) (by omega) (by omega) (Nat.le_of_ble_eq_true rfl) ?_
  rintro _ s1 ⟨rfl, hs1⟩; obtain rfl := hs1.symm
  refine zp_iconst dX12_y_5 (v := 1) (by decide) ?_
  refine zp_aload_n dX12_y_6 rfl (a := (xob Y)) (List.mem_of_getElem? (i := 0) rfl) ?_
  refine zp_getRv dX12_y_7 fl_X12_41 h.1.1.1 (b := (xLy X false)) h.1.1.2.2.2.1 ?_
  refine zp_callS (st := []) (mc2 := 0) (ms2 := 0) dX12_y_10 (c_X12_sideOf1 l G D X k _ h.2.1 hk ht) cl_X12_144 st_X12_sideOf rfl rfl (by omega) (by omega) (by omega) (Nat.le_of_ble_eq_true rfl) ?_
  rintro _ s1 ⟨⟨Lq, rfl, hLq⟩, hs1⟩; obtain rfl := hs1.symm
  refine zp_l2iv dX12_y_13 (v := (sa (LSt D W) (16 + k))) (hLq.trans (h.r706 hk h0 ht)) ?_
  refine zp_iret rfl dX12_y_14 ?_
  exact ⟨rfl, rfl⟩
set_option maxRecDepth 100000 in
set_option maxHeartbeats 4000000 in
theorem c_X12_widthB (l : Launch) (G : Gb) (D : Dt) (X : Cx) (Y : Cy) (W : Int32) (T : Nat) (LL : Nat → List Nat) (fr : List Nat) (LL' : Nat → List Nat) (fr' : List Nat) (k : Nat) (σ : Sto) (hD : DW D) (h : Rz G D X Y W T LL fr LL' fr' σ) (hk : k < dn D) (ht : dtx D k = false) : Ct l G 4 0 0 yX12_width mX12_width [.ref (xob Y), .int (nI k)] σ (fun v s => v = some (.int (sa (LSt D W) (32 + k) + (dst D k 13 + dst D k 11))) ∧ s = σ) := by
  refine Ct.of (by decide) rfl (Nat.le_of_ble_eq_true rfl) (fun h => absurd h (by decide)) ?_
  show Wp l G 4 0 0 (RX12, cX12_width, 2, (some .int), false) 0 [(0, .ref (xob Y)), (1, .int (nI k))] [] σ _
  refine zp_aload_n dX12_width_0 rfl (a := (xob Y)) (List.mem_of_getElem? (i := 0) rfl) ?_
  refine zp_iload_n dX12_width_1 rfl (x := (nI k)) (List.mem_of_getElem? (i := 1) rfl) ?_
  refine zp_callV (c0 := 9) (st := []) (mc2 := 0) (ms2 := 0) dX12_width_2 (c_X12_placedAtB l G D X Y W T k _ hD h.1.1 h.1.2.1 hk ht) cl_X12_141 im_X12_placedAt se_X12_placedAt rfl rfl h.1.1.1 rfl rfl (by omega) (by omega) (by omega) (Nat.le_of_ble_eq_true rfl) ?_
  rintro _ s1 ⟨rfl, hs1⟩; obtain rfl := hs1.symm
  refine zp_iconst dX12_width_5 (v := 2) (by decide) ?_
  refine zp_aload_n dX12_width_6 rfl (a := (xob Y)) (List.mem_of_getElem? (i := 0) rfl) ?_
  refine zp_getRv dX12_width_7 fl_X12_41 h.1.1.1 (b := (xLy X false)) h.1.1.2.2.2.1 ?_
  refine zp_callS (st := []) (mc2 := 0) (ms2 := 0) dX12_width_10 (c_X12_sideOf2 l G D X k _ h.2.1 hk ht) cl_X12_144 st_X12_sideOf rfl rfl (by omega) (by omega) (by omega) (Nat.le_of_ble_eq_true rfl) ?_
  rintro _ s1 ⟨⟨Lq, rfl, hLq⟩, hs1⟩; obtain rfl := hs1.symm
  refine zp_l2iv dX12_width_13 (v := (sa (LSt D W) (32 + k) + (dst D k 13 + dst D k 11))) (hLq.trans (by rw [h.r702 hD hk ht, ((h.2.1.k k hk).cnA ht 13 (by decide)), ((h.2.1.k k hk).cnA ht 11 (by decide))])) ?_
  refine zp_iret rfl dX12_width_14 ?_
  exact ⟨rfl, rfl⟩
set_option maxRecDepth 100000 in
set_option maxHeartbeats 4000000 in
theorem c_X12_heightB (l : Launch) (G : Gb) (D : Dt) (X : Cx) (Y : Cy) (W : Int32) (T : Nat) (LL : Nat → List Nat) (fr : List Nat) (LL' : Nat → List Nat) (fr' : List Nat) (k : Nat) (σ : Sto) (hD : DW D) (h : Rz G D X Y W T LL fr LL' fr' σ) (hk : k < dn D) (h0 : k ≠ 0) (ht : dtx D k = false) : Ct l G 4 0 0 yX12_height mX12_height [.ref (xob Y), .int (nI k)] σ (fun v s => v = some (.int (sa (LSt D W) (48 + k) + (dst D k 10 + dst D k 12))) ∧ s = σ) := by
  refine Ct.of (by decide) rfl (Nat.le_of_ble_eq_true rfl) (fun h => absurd h (by decide)) ?_
  show Wp l G 4 0 0 (RX12, cX12_height, 2, (some .int), false) 0 [(0, .ref (xob Y)), (1, .int (nI k))] [] σ _
  refine zp_aload_n dX12_height_0 rfl (a := (xob Y)) (List.mem_of_getElem? (i := 0) rfl) ?_
  refine zp_iload_n dX12_height_1 rfl (x := (nI k)) (List.mem_of_getElem? (i := 1) rfl) ?_
  refine zp_callV (c0 := 9) (st := []) (mc2 := 0) (ms2 := 0) dX12_height_2 (c_X12_placedAtB l G D X Y W T k _ hD h.1.1 h.1.2.1 hk ht) cl_X12_141 im_X12_placedAt se_X12_placedAt rfl rfl h.1.1.1 rfl rfl (by omega) (by omega) (by omega) (Nat.le_of_ble_eq_true rfl) ?_
  rintro _ s1 ⟨rfl, hs1⟩; obtain rfl := hs1.symm
  refine zp_iconst dX12_height_5 (v := 3) (by decide) ?_
  refine zp_aload_n dX12_height_6 rfl (a := (xob Y)) (List.mem_of_getElem? (i := 0) rfl) ?_
  refine zp_getRv dX12_height_7 fl_X12_41 h.1.1.1 (b := (xLy X false)) h.1.1.2.2.2.1 ?_
  refine zp_callS (st := []) (mc2 := 0) (ms2 := 0) dX12_height_10 (c_X12_sideOf3 l G D X k _ h.2.1 hk ht) cl_X12_144 st_X12_sideOf rfl rfl (by omega) (by omega) (by omega) (Nat.le_of_ble_eq_true rfl) ?_
  rintro _ s1 ⟨⟨Lq, rfl, hLq⟩, hs1⟩; obtain rfl := hs1.symm
  refine zp_l2iv dX12_height_13 (v := (sa (LSt D W) (48 + k) + (dst D k 10 + dst D k 12))) (hLq.trans (by rw [h.r703 hD hk h0 ht, ((h.2.1.k k hk).cnA ht 10 (by decide)), ((h.2.1.k k hk).cnA ht 12 (by decide))])) ?_
  refine zp_iret rfl dX12_height_14 ?_
  exact ⟨rfl, rfl⟩
set_option maxRecDepth 100000 in
set_option maxHeartbeats 4000000 in
theorem c_X12_height0 (l : Launch) (G : Gb) (D : Dt) (X : Cx) (Y : Cy) (W : Int32) (T : Nat) (LL : Nat → List Nat) (fr : List Nat) (LL' : Nat → List Nat) (fr' : List Nat) (k : Nat) (σ : Sto) (hD : DW D) (h : Rz G D X Y W T LL fr LL' fr' σ) (hk : k < dn D) (h0 : k = 0) (ht : dtx D k = false) : Ct l G 4 0 0 yX12_height mX12_height [.ref (xob Y), .int (nI k)] σ (fun v s => v = some (.int (mx 0 (sy (LSt D W)) + (dst D k 10 + dst D k 12))) ∧ s = σ) := by
  refine Ct.of (by decide) rfl (Nat.le_of_ble_eq_true rfl) (fun h => absurd h (by decide)) ?_
  show Wp l G 4 0 0 (RX12, cX12_height, 2, (some .int), false) 0 [(0, .ref (xob Y)), (1, .int (nI k))] [] σ _
  refine zp_aload_n dX12_height_0 rfl (a := (xob Y)) (List.mem_of_getElem? (i := 0) rfl) ?_
  refine zp_iload_n dX12_height_1 rfl (x := (nI k)) (List.mem_of_getElem? (i := 1) rfl) ?_
  refine zp_callV (c0 := 9) (st := []) (mc2 := 0) (ms2 := 0) dX12_height_2 (c_X12_placedAtB l G D X Y W T k _ hD h.1.1 h.1.2.1 hk ht) cl_X12_141 im_X12_placedAt se_X12_placedAt rfl rfl h.1.1.1 rfl rfl (by omega) (by omega) (by omega) (Nat.le_of_ble_eq_true rfl) ?_
  rintro _ s1 ⟨rfl, hs1⟩; obtain rfl := hs1.symm
  refine zp_iconst dX12_height_5 (v := 3) (by decide) ?_
  refine zp_aload_n dX12_height_6 rfl (a := (xob Y)) (List.mem_of_getElem? (i := 0) rfl) ?_
  refine zp_getRv dX12_height_7 fl_X12_41 h.1.1.1 (b := (xLy X false)) h.1.1.2.2.2.1 ?_
  refine zp_callS (st := []) (mc2 := 0) (ms2 := 0) dX12_height_10 (c_X12_sideOf3 l G D X k _ h.2.1 hk ht) cl_X12_144 st_X12_sideOf rfl rfl (by omega) (by omega) (by omega) (Nat.le_of_ble_eq_true rfl) ?_
  rintro _ s1 ⟨⟨Lq, rfl, hLq⟩, hs1⟩; obtain rfl := hs1.symm
  refine zp_l2iv dX12_height_13 (v := (mx 0 (sy (LSt D W)) + (dst D k 10 + dst D k 12))) (hLq.trans (by rw [show zI σ 703 (xpl X false k) = mx 0 (sy (LSt D W)) from (by rw [h0]; exact h.2.2.2.2.1), ((h.2.1.k k hk).cnA ht 10 (by decide)), ((h.2.1.k k hk).cnA ht 12 (by decide))])) ?_
  refine zp_iret rfl dX12_height_14 ?_
  exact ⟨rfl, rfl⟩
set_option maxRecDepth 100000 in
set_option maxHeartbeats 4000000 in
theorem c_X12_xT (l : Launch) (G : Gb) (D : Dt) (X : Cx) (Y : Cy) (W : Int32) (T : Nat) (LL : Nat → List Nat) (fr : List Nat) (LL' : Nat → List Nat) (fr' : List Nat) (k : Nat) (σ : Sto) (hD : DW D) (h : Rz G D X Y W T LL fr LL' fr' σ) (hk : k < dn D) (ht : dtx D k = true) (hw : 0 < dwc D k) : Ct l G 4 0 0 yX12_x mX12_x [.ref (xob Y), .int (nI k)] σ (fun v s => v = some (.int (sa (LSt D W) k)) ∧ s = σ) := by
  refine Ct.of (by decide) rfl (Nat.le_of_ble_eq_true rfl) (fun h => absurd h (by decide)) ?_
  have hk0 : 0 < k := Nat.pos_of_ne_zero (fun q => by rw [q, hD.2.2.2.1] at ht; cases ht)
  have hpk := hD.2.2.2.2.1 k hk0 hk
  show Wp l G 4 0 0 (RX12, cX12_x, 2, (some .int), false) 0 [(0, .ref (xob Y)), (1, .int (nI k))] [] σ _
  refine zp_aload_n dX12_x_0 rfl (a := (xob Y)) (List.mem_of_getElem? (i := 0) rfl) ?_
  refine zp_iload_n dX12_x_1 rfl (x := (nI k)) (List.mem_of_getElem? (i := 1) rfl) ?_
  refine zp_callV (c0 := 9) (st := []) (mc2 := 0) (ms2 := 0) dX12_x_2 (c_X12_placedAtT l G D X Y W T k _ hD h.1.1 h.1.2.1 hk ht hw) cl_X12_141 im_X12_placedAt se_X12_placedAt rfl rfl h.1.1.1 rfl rfl (by omega) (by omega) (by omega) (Nat.le_of_ble_eq_true rfl) ?_
  rintro _ s1 ⟨rfl, hs1⟩; obtain rfl := hs1.symm
  refine zp_iconst dX12_x_5 (v := 0) (by decide) ?_
  refine zp_aload_n dX12_x_6 rfl (a := (xob Y)) (List.mem_of_getElem? (i := 0) rfl) ?_
  refine zp_getRv dX12_x_7 fl_X12_41 h.1.1.1 (b := (xLy X false)) h.1.1.2.2.2.1 ?_
  refine zp_callS (st := []) (mc2 := 0) (ms2 := 0) dX12_x_10 (c_X12_sideOfT l G Tt D X false (LSt D W) LL fr k _ hD h.2.2.1 h.1.2.2.2.2.2.2.2.2.1 hk ht hw (ls_met hD hk).1 ⟨(ls_met hD (k := dpar D k) (by have := hpk; omega)).1, ((ls_met hD (k := dpar D k) (by have := hpk; omega)).2 hpk.2).1⟩) cl_X12_144 st_X12_sideOf rfl rfl (by omega) (by omega) (by omega) (Nat.le_of_ble_eq_true rfl) ?_
  rintro _ s1 ⟨⟨Lq, rfl, hLq⟩, hs1⟩; obtain rfl := hs1.symm
  refine zp_l2iv dX12_x_13 (v := (sa (LSt D W) k)) hLq ?_
  refine zp_iret rfl dX12_x_14 ?_
  exact ⟨rfl, rfl⟩
set_option maxRecDepth 100000 in
set_option maxHeartbeats 4000000 in
theorem c_X12_heightT (l : Launch) (G : Gb) (D : Dt) (X : Cx) (Y : Cy) (W : Int32) (T : Nat) (LL : Nat → List Nat) (fr : List Nat) (LL' : Nat → List Nat) (fr' : List Nat) (k : Nat) (σ : Sto) (hD : DW D) (h : Rz G D X Y W T LL fr LL' fr' σ) (hk : k < dn D) (ht : dtx D k = true) (hw : 0 < dwc D k) : Ct l G 4 0 0 yX12_height mX12_height [.ref (xob Y), .int (nI k)] σ (fun v s => v = some (.int (dsz D k)) ∧ s = σ) := by
  refine Ct.of (by decide) rfl (Nat.le_of_ble_eq_true rfl) (fun h => absurd h (by decide)) ?_
  show Wp l G 4 0 0 (RX12, cX12_height, 2, (some .int), false) 0 [(0, .ref (xob Y)), (1, .int (nI k))] [] σ _
  refine zp_aload_n dX12_height_0 rfl (a := (xob Y)) (List.mem_of_getElem? (i := 0) rfl) ?_
  refine zp_iload_n dX12_height_1 rfl (x := (nI k)) (List.mem_of_getElem? (i := 1) rfl) ?_
  refine zp_callV (c0 := 9) (st := []) (mc2 := 0) (ms2 := 0) dX12_height_2 (c_X12_placedAtT l G D X Y W T k _ hD h.1.1 h.1.2.1 hk ht hw) cl_X12_141 im_X12_placedAt se_X12_placedAt rfl rfl h.1.1.1 rfl rfl (by omega) (by omega) (by omega) (Nat.le_of_ble_eq_true rfl) ?_
  rintro _ s1 ⟨rfl, hs1⟩; obtain rfl := hs1.symm
  refine zp_iconst dX12_height_5 (v := 3) (by decide) ?_
  refine zp_aload_n dX12_height_6 rfl (a := (xob Y)) (List.mem_of_getElem? (i := 0) rfl) ?_
  refine zp_getRv dX12_height_7 fl_X12_41 h.1.1.1 (b := (xLy X false)) h.1.1.2.2.2.1 ?_
  refine zp_callS (st := []) (mc2 := 0) (ms2 := 0) dX12_height_10 (c_X12_sideOfZ l G D X k (xLy X false) _ hD h.2.1 hk ht) cl_X12_144 st_X12_sideOf rfl rfl (by omega) (by omega) (by omega) (Nat.le_of_ble_eq_true rfl) ?_
  rintro _ s1 ⟨⟨Lq, rfl, hLq⟩, hs1⟩; obtain rfl := hs1.symm
  refine zp_l2iv dX12_height_13 (v := (dsz D k)) hLq ?_
  refine zp_iret rfl dX12_height_14 ?_
  exact ⟨rfl, rfl⟩
set_option maxRecDepth 100000 in
set_option maxHeartbeats 4000000 in
theorem c_X12_bars (l : Launch) (G : Gb) (D : Dt) (X : Cx) (Y : Cy) (W : Int32) (T : Nat) (LL : Nat → List Nat) (fr : List Nat) (LL' : Nat → List Nat) (fr' : List Nat) (k : Nat) (σ : Sto) (hD : DW D) (h : Rz G D X Y W T LL fr LL' fr' σ) (hk : k < dn D) (ht : dtx D k = false) : Ct l G 3 0 0 yX12_bars mX12_bars [.ref (xob Y), .int (nI k)] σ (fun v s => v = some (.int 0) ∧ s = σ) := by
  refine Ct.of (by decide) rfl (Nat.le_of_ble_eq_true rfl) (fun h => absurd h (by decide)) ?_
  have hkd : zR σ 514 (xnd X k) = some (G.2.2.1 0) := by have := (h.2.1.k k hk).kind; rw [ht] at this; exact this
  have hsz : zI σ 503 (xnd X k) = 0 := (h.2.1.k k hk).size.trans (if_neg (by rw [ht]; decide))
  refine zp_kin (fun hkin => ?_)
  show Wp l G 3 0 0 (RX12, cX12_bars, 3, (some .int), false) 0 [(0, .ref (xob Y)), (1, .int (nI k))] [] σ _
  refine zp_aload_n dX12_bars_0 rfl (a := (xob Y)) (List.mem_of_getElem? (i := 0) rfl) ?_
  refine zp_iload_n dX12_bars_1 rfl (x := (nI k)) (List.mem_of_getElem? (i := 1) rfl) ?_
  refine zp_callV (c0 := 9) (st := []) (mc2 := 0) (ms2 := 0) dX12_bars_2 (c_X12_boxAt l G D X Y W T k _ hD h.1.1 h.1.2.1 hk ht) cl_X12_68 im_X12_boxAt se_X12_boxAt rfl rfl h.1.1.1 rfl rfl (by omega) (by omega) (by omega) (Nat.le_of_ble_eq_true rfl) ?_
  rintro _ s1 ⟨rfl, hs1⟩; obtain rfl := hs1.symm
  refine zp_astore_n dX12_bars_5 rfl (Nat.le_of_ble_eq_true rfl) (lv2 := [(2, .ref (xnd X k)), (0, .ref (xob Y)), (1, .int (nI k))]) rfl ?_
  refine zp_aload_n dX12_bars_6 rfl (a := (xnd X k)) (List.mem_of_getElem? (i := 0) rfl) ?_
  refine zp_nonnullT dX12_bars_7 (tgt := 18) rfl ?_
  refine zp_aload_n dX12_bars_18 rfl (a := (xnd X k)) (List.mem_of_getElem? (i := 0) rfl) ?_
  refine zp_getRv dX12_bars_19 fl_X12_166 (h.2.1.k k hk).T (b := (G.2.2.1 0)) hkd ?_
  refine zp_kind (i := 8) dX12_bars_22 (by decide) rfl wd_1167 ?_
  refine zp_acmp_eq (rx := (some (G.2.2.1 0))) (ry := (some (G.2.2.1 8))) dX12_bars_25 (tgt := 38) rfl rfl rfl (fun q => absurd q (fun q => absurd (hkin 0 8 (by decide) (by decide) (Option.some.inj q)) (by decide))) (fun _ => ?_)
  refine zp_aload_n dX12_bars_28 rfl (a := (xnd X k)) (List.mem_of_getElem? (i := 0) rfl) ?_
  refine zp_getRv dX12_bars_29 fl_X12_166 (h.2.1.k k hk).T (b := (G.2.2.1 0)) hkd ?_
  refine zp_kind (i := 1) dX12_bars_32 (by decide) rfl wd_1168 ?_
  refine zp_acmp_ne (rx := (some (G.2.2.1 0))) (ry := (some (G.2.2.1 1))) dX12_bars_35 (tgt := 46) rfl rfl rfl (fun _ => ?_) (fun q => absurd q (fun q => absurd (hkin 0 1 (by decide) (by decide) (Option.some.inj q)) (by decide)))
  refine zp_aload_n dX12_bars_46 rfl (a := (xnd X k)) (List.mem_of_getElem? (i := 0) rfl) ?_
  refine zp_getIv dX12_bars_47 fl_X12_178 (h.2.1.k k hk).T (v := 0) (h.2.1.k k hk).scr ?_
  refine zp_if_eq dX12_bars_50 (tgt := 63) rfl (fun _ => ?_) (fun q => absurd rfl q)
  refine zp_iconst dX12_bars_63 (v := 0) (by decide) ?_
  refine zp_iret rfl dX12_bars_64 ?_
  exact ⟨rfl, rfl⟩
set_option maxRecDepth 100000 in
set_option maxHeartbeats 4000000 in
theorem c_X12_paintedR (l : Launch) (G : Gb) (D : Dt) (X : Cx) (Y : Cy) (W : Int32) (T : Nat) (LL : Nat → List Nat) (fr : List Nat) (LL' : Nat → List Nat) (fr' : List Nat) (σ : Sto) (h : Rz G D X Y W T LL fr LL' fr' σ) : Ct l G 1 0 0 yX12_painted mX12_painted [.ref (xob Y)] σ (fun v s => v = some (.int (nI (dn D))) ∧ s = σ) := by
  refine Ct.of (by decide) rfl (Nat.le_of_ble_eq_true rfl) (fun h => absurd h (by decide)) ?_
  show Wp l G 1 0 0 (RX12, cX12_painted, 1, (some .int), false) 0 [(0, .ref (xob Y))] [] σ _
  refine zp_aload_n dX12_painted_0 rfl (a := (xob Y)) (List.mem_of_getElem? (i := 0) rfl) ?_
  refine zp_getRv dX12_painted_1 fl_X12_51 h.1.1.1 (b := (xpt Y)) h.1.1.2.2.2.2.2.1 ?_
  refine zp_getIv dX12_painted_4 fl_X12_233 h.1.1.2.2.2.2.2.2.2.2.2.2.2.1.1 (v := (nI (dn D))) h.2.2.2.2.2.1 ?_
  refine zp_iret rfl dX12_painted_7 ?_
  exact ⟨rfl, rfl⟩
set_option maxHeartbeats 4000000 in
theorem l_lines (l : Launch) {G : Gb} {z z2 : Nat} {w : Int32} {σ : Sto} : ∀ (xs : List Nat) (r : Option Nat) (c : Nat), Ch σ r xs →
    Wp l G 3 0 0 (RX12, cX12_lines, 5, (some .int), false) 44 [(4, va_rf r), (3, .int (nI c)), (0, .ref z), (1, .int w), (2, .ref z2)] [] σ (fun v s => v = some (.int (nI (c + xs.length))) ∧ s = σ) := by
  intro xs
  induction xs with
  | nil =>
    intro r c hc
    rw [show r = none from hc]
    show Wp l G 3 0 0 (RX12, cX12_lines, 5, (some .int), false) 44 [(4, .null), (3, .int (nI c)), (0, .ref z), (1, .int w), (2, .ref z2)] [] σ _
    refine zp_aloado dX12_lines_44 (r := none) (v := .null) rfl (List.mem_of_getElem? (i := 0) rfl) ?_
    refine zp_nullT dX12_lines_46 (tgt := 62) rfl ?_
    refine zp_iload_n dX12_lines_62 rfl (x := (nI c)) (List.mem_of_getElem? (i := 1) rfl) ?_
    refine zp_iret rfl dX12_lines_63 ?_
    exact ⟨rfl, rfl⟩
  | cons x xs ih =>
    intro r c hc
    obtain ⟨hr, hxT, hc2⟩ := hc
    rw [hr]
    show Wp l G 3 0 0 (RX12, cX12_lines, 5, (some .int), false) 44 [(4, .ref x), (3, .int (nI c)), (0, .ref z), (1, .int w), (2, .ref z2)] [] σ _
    refine zp_aload dX12_lines_44 (a := x) (List.mem_of_getElem? (i := 0) rfl) ?_
    refine zp_nullF dX12_lines_46 (tgt := 62) rfl ?_
    refine zp_iinc dX12_lines_49 (k1 := 1) (x := (nI c)) rfl (v := (nI (c + 1))) (nI_1 c) (Nat.le_of_ble_eq_true rfl) (lv2 := [(3, .int (nI (c + 1))), (4, .ref x), (0, .ref z), (1, .int w), (2, .ref z2)]) rfl ?_
    refine zp_aload dX12_lines_52 (a := x) (List.mem_of_getElem? (i := 1) rfl) ?_
    refine zp_getRo dX12_lines_54 fl_X12_198 hxT (r := (zR σ 405 x)) rfl ?_
    refine zp_astoreo dX12_lines_57 (Nat.le_of_ble_eq_true rfl) (r := (zR σ 405 x)) (v := va_rf (zR σ 405 x)) rfl (lv2 := [(4, va_rf (zR σ 405 x)), (3, .int (nI (c + 1))), (0, .ref z), (1, .int w), (2, .ref z2)]) rfl ?_
    refine zp_goto dX12_lines_59 (tgt := 44) rfl ?_
    refine zp_lv [0, 1, 2, 3, 4] rfl ?_
    have e := ih (zR σ 405 x) (c + 1) hc2
    rw [show c + 1 + xs.length = c + (x :: xs).length by rw [List.length_cons]; omega] at e
    exact e
set_option maxRecDepth 100000 in
set_option maxHeartbeats 4000000 in
theorem c_X12_lines (l : Launch) (G : Gb) (D : Dt) (X : Cx) (Y : Cy) (W : Int32) (T : Nat) (LL : Nat → List Nat) (fr : List Nat) (LL' : Nat → List Nat) (fr' : List Nat) (k : Nat) (σ : Sto) (hD : DW D) (h : Rz G D X Y W T LL fr LL' fr' σ) (hk : k < dn D) (ht : dtx D k = false) : Ct l G 3 0 0 yX12_lines mX12_lines [.ref (xob Y), .int (nI k)] σ (fun v s => v = some (.int (nI (lsOf (sls (LSt D W)) k).length)) ∧ s = σ) := by
  refine Ct.of (by decide) rfl (Nat.le_of_ble_eq_true rfl) (fun h => absurd h (by decide)) ?_
  have hkd : zR σ 514 (xnd X k) = some (G.2.2.1 0) := by have := (h.2.1.k k hk).kind; rw [ht] at this; exact this
  have hsz : zI σ 503 (xnd X k) = 0 := (h.2.1.k k hk).size.trans (if_neg (by rw [ht]; decide))
  refine zp_kin (fun hkin => ?_)
  have hlc := h.2.2.1.2.lc k hk ht ((ls_met hD hk).2 ht).1
  have hlk := h.2.2.1.2.1.2.1 k hk
  show Wp l G 3 0 0 (RX12, cX12_lines, 5, (some .int), false) 0 [(0, .ref (xob Y)), (1, .int (nI k))] [] σ _
  refine zp_aload_n dX12_lines_0 rfl (a := (xob Y)) (List.mem_of_getElem? (i := 0) rfl) ?_
  refine zp_iload_n dX12_lines_1 rfl (x := (nI k)) (List.mem_of_getElem? (i := 1) rfl) ?_
  refine zp_callV (c0 := 9) (st := []) (mc2 := 0) (ms2 := 0) dX12_lines_2 (c_X12_boxAt l G D X Y W T k _ hD h.1.1 h.1.2.1 hk ht) cl_X12_68 im_X12_boxAt se_X12_boxAt rfl rfl h.1.1.1 rfl rfl (by omega) (by omega) (by omega) (Nat.le_of_ble_eq_true rfl) ?_
  rintro _ s1 ⟨rfl, hs1⟩; obtain rfl := hs1.symm
  refine zp_astore_n dX12_lines_5 rfl (Nat.le_of_ble_eq_true rfl) (lv2 := [(2, .ref (xnd X k)), (0, .ref (xob Y)), (1, .int (nI k))]) rfl ?_
  refine zp_aload_n dX12_lines_6 rfl (a := (xnd X k)) (List.mem_of_getElem? (i := 0) rfl) ?_
  refine zp_nonnullT dX12_lines_7 (tgt := 18) rfl ?_
  refine zp_aload_n dX12_lines_18 rfl (a := (xnd X k)) (List.mem_of_getElem? (i := 0) rfl) ?_
  refine zp_callV (c0 := 4) (st := []) (mc2 := 0) (ms2 := 0) dX12_lines_19 (c_X7_holdsLines l G (xnd X k) 0 _ (h.2.1.k k hk).T hsz (h.2.1.k k hk).tab hkd) cl_X12_190 im_X7_holdsLines se_X7_holdsLines rfl rfl (h.2.1.k k hk).T rfl rfl (by omega) (by omega) (by omega) (Nat.le_of_ble_eq_true rfl) ?_
  rintro _ s1 ⟨rfl, hs1⟩; obtain rfl := hs1.symm
  refine zp_if_ne dX12_lines_22 (tgt := 33) rfl (fun _ => ?_) (fun q => absurd q (by decide))
  refine zp_iconst dX12_lines_33 (v := 0) (by decide) ?_
  refine zp_istore_n dX12_lines_34 rfl (Nat.le_of_ble_eq_true rfl) (lv2 := [(3, .int 0), (2, .ref (xnd X k)), (0, .ref (xob Y)), (1, .int (nI k))]) rfl ?_
  refine zp_aload_n dX12_lines_35 rfl (a := (xnd X k)) (List.mem_of_getElem? (i := 1) rfl) ?_
  refine zp_getRv dX12_lines_36 fl_X12_182 (h.2.1.k k hk).T (b := (xpl X false k)) ((h.2.1.k k hk).pl false) ?_
  refine zp_getRo dX12_lines_39 fl_X12_194 ((h.2.1.k k hk).plT false) (r := ((LL k).head?)) hlk.1 ?_
  refine zp_astoreo dX12_lines_42 (Nat.le_of_ble_eq_true rfl) (r := ((LL k).head?)) (v := va_rf ((LL k).head?)) rfl (lv2 := [(4, va_rf ((LL k).head?)), (3, .int 0), (2, .ref (xnd X k)), (0, .ref (xob Y)), (1, .int (nI k))]) rfl ?_
  refine zp_lv [0, 1, 3, 4, 2] rfl ?_
  have e := l_lines l (G := G) (z := xob Y) (z2 := xnd X k) (w := nI k) (LL k) (LL k).head? 0 hlk.2.2
  rw [show 0 + (LL k).length = (lsOf (sls (LSt D W)) k).length by rw [← hlc.1, List.length_map]; omega] at e
  exact e
theorem nI_p (j : Nat) : nI (j + 1) + (-1) = nI j := by
  rw [← nI_1 j, Int32.add_assoc, show (1 : Int32) + (-1) = 0 by decide, Int32.add_zero]
set_option maxHeartbeats 4000000 in
theorem l_lineAt (l : Launch) {G : Gb} {z : Nat} {w : Int32} {σ : Sto} {y : Nat} : ∀ (xs : List Nat) (r : Option Nat) (j : Nat), Ch σ r xs → xs[j]? = some y → j < 1000 →
    Wp l G 1 0 0 (RX12, cX12_lineAt, 4, (some (.object "FlowBoxes$Line")), false) 16 [(3, va_rf r), (2, .int (nI j)), (0, .ref z), (1, .int w)] [] σ (fun v s => v = some (.ref y) ∧ s = σ) := by
  intro xs
  induction xs with
  | nil =>
    intro r j hc hj hj2
    cases hj
  | cons x xs ih =>
    intro r j hc hj hj2
    obtain ⟨hr, hxT, hc2⟩ := hc
    rw [hr]
    cases j with
    | zero =>
      obtain rfl : x = y := Option.some.inj hj
      show Wp l G 1 0 0 (RX12, cX12_lineAt, 4, (some (.object "FlowBoxes$Line")), false) 16 [(3, .ref x), (2, .int (nI 0)), (0, .ref z), (1, .int w)] [] σ _
      refine zp_aload_n dX12_lineAt_16 rfl (a := x) (List.mem_of_getElem? (i := 0) rfl) ?_
      refine zp_nullF dX12_lineAt_17 (tgt := 35) rfl ?_
      refine zp_iload_n dX12_lineAt_20 rfl (x := (nI 0)) (List.mem_of_getElem? (i := 1) rfl) ?_
      refine zp_if_le dX12_lineAt_21 (tgt := 35) rfl (fun _ => ?_) (fun q => absurd (by decide) q)
      refine zp_aload_n dX12_lineAt_35 rfl (a := x) (List.mem_of_getElem? (i := 0) rfl) ?_
      refine zp_aret rfl (r := some x) rfl dX12_lineAt_36 ?_
      exact ⟨rfl, rfl⟩
    | succ j =>
      show Wp l G 1 0 0 (RX12, cX12_lineAt, 4, (some (.object "FlowBoxes$Line")), false) 16 [(3, .ref x), (2, .int (nI (j + 1))), (0, .ref z), (1, .int w)] [] σ _
      refine zp_aload_n dX12_lineAt_16 rfl (a := x) (List.mem_of_getElem? (i := 0) rfl) ?_
      refine zp_nullF dX12_lineAt_17 (tgt := 35) rfl ?_
      refine zp_iload_n dX12_lineAt_20 rfl (x := (nI (j + 1))) (List.mem_of_getElem? (i := 1) rfl) ?_
      refine zp_if_le dX12_lineAt_21 (tgt := 35) rfl (fun q => absurd q (fun q => by have := (nI_le' (k := 0) (by omega) (by decide)).mp q; omega)) (fun _ => ?_)
      refine zp_aload_n dX12_lineAt_24 rfl (a := x) (List.mem_of_getElem? (i := 0) rfl) ?_
      refine zp_getRo dX12_lineAt_25 fl_X12_198 hxT (r := (zR σ 405 x)) rfl ?_
      refine zp_astoreo_n dX12_lineAt_28 rfl (Nat.le_of_ble_eq_true rfl) (r := (zR σ 405 x)) (v := va_rf (zR σ 405 x)) rfl (lv2 := [(3, va_rf (zR σ 405 x)), (2, .int (nI (j + 1))), (0, .ref z), (1, .int w)]) rfl ?_
      refine zp_iinc dX12_lineAt_29 (k1 := 1) (x := (nI (j + 1))) rfl (v := (nI j)) (nI_p j) (Nat.le_of_ble_eq_true rfl) (lv2 := [(2, .int (nI j)), (3, va_rf (zR σ 405 x)), (0, .ref z), (1, .int w)]) rfl ?_
      refine zp_goto dX12_lineAt_32 (tgt := 16) rfl ?_
      refine zp_lv [1, 0, 2, 3] rfl ?_
      exact ih (zR σ 405 x) j hc2 hj (by omega)
set_option maxRecDepth 100000 in
set_option maxHeartbeats 4000000 in
theorem c_X12_lineAt (l : Launch) (G : Gb) (a p na np y j : Nat) (xs : List Nat) (σ : Sto) (hA : zT σ a = (5, na)) (hp : zR σ 508 a = some p) (hP : zT σ p = (7, np)) (hc : Ch σ (zR σ 711 p) xs) (hj : xs[j]? = some y) (hj2 : j < 1000) : Ct l G 1 0 0 yX12_lineAt mX12_lineAt [.ref a, .int (nI j)] σ (fun v s => v = some (.ref y) ∧ s = σ) := by
  refine Ct.of (by decide) rfl (Nat.le_of_ble_eq_true rfl) (fun h => absurd h (by decide)) ?_
  show Wp l G 1 0 0 (RX12, cX12_lineAt, 4, (some (.object "FlowBoxes$Line")), false) 0 [(0, .ref a), (1, .int (nI j))] [] σ _
  refine zp_iload_n dX12_lineAt_0 rfl (x := (nI j)) (List.mem_of_getElem? (i := 1) rfl) ?_
  refine zp_istore_n dX12_lineAt_1 rfl (Nat.le_of_ble_eq_true rfl) (lv2 := [(2, .int (nI j)), (0, .ref a), (1, .int (nI j))]) rfl ?_
  refine zp_iload_n dX12_lineAt_2 rfl (x := (nI j)) (List.mem_of_getElem? (i := 0) rfl) ?_
  refine zp_if_ge dX12_lineAt_3 (tgt := 8) rfl (fun _ => ?_) (fun q => absurd ((nI_le' (j := 0) (by decide) (by omega)).mpr (by omega)) q)
  refine zp_aload_n dX12_lineAt_8 rfl (a := a) (List.mem_of_getElem? (i := 1) rfl) ?_
  refine zp_getRv dX12_lineAt_9 fl_X12_182 hA (b := p) hp ?_
  refine zp_getRo dX12_lineAt_12 fl_X12_194 hP (r := (zR σ 711 p)) rfl ?_
  refine zp_astoreo_n dX12_lineAt_15 rfl (Nat.le_of_ble_eq_true rfl) (r := (zR σ 711 p)) (v := va_rf (zR σ 711 p)) rfl (lv2 := [(3, va_rf (zR σ 711 p)), (2, .int (nI j)), (0, .ref a), (1, .int (nI j))]) rfl ?_
  refine zp_lv [0, 1, 2, 3] rfl ?_
  exact l_lineAt l xs _ j hc hj hj2
set_option maxRecDepth 100000 in
set_option maxHeartbeats 4000000 in
theorem c_X12_line0 (l : Launch) (G : Gb) (D : Dt) (X : Cx) (Y : Cy) (W : Int32) (T : Nat) (LL : Nat → List Nat) (fr : List Nat) (LL' : Nat → List Nat) (fr' : List Nat) (k : Nat) (σ : Sto) (hD : DW D) (h : Rz G D X Y W T LL fr LL' fr' σ) (hk : k < dn D) (j : Nat) (q : Int32 × Int32) (ht : dtx D k = false) (hq : (lsOf (sls (LSt D W)) k)[j]? = some q) (hj2 : j < 1000) : Ct l G 3 0 0 yX12_line mX12_line [.ref (xob Y), .int (nI k), .int (nI j), .int 0] σ (fun v s => v = some (.int (inP D k (sa (LSt D W)))) ∧ s = σ) := by
  refine Ct.of (by decide) rfl (Nat.le_of_ble_eq_true rfl) (fun h => absurd h (by decide)) ?_
  have hkd : zR σ 514 (xnd X k) = some (G.2.2.1 0) := by have := (h.2.1.k k hk).kind; rw [ht] at this; exact this
  have hsz : zI σ 503 (xnd X k) = 0 := (h.2.1.k k hk).size.trans (if_neg (by rw [ht]; decide))
  refine zp_kin (fun hkin => ?_)
  have hlc := h.2.2.1.2.lc k hk ht ((ls_met hD hk).2 ht).1
  have hlk := h.2.2.1.2.1.2.1 k hk
  obtain ⟨y, hy, y1, y2⟩ : ∃ y, (LL k)[j]? = some y ∧ zI σ 401 y = q.1 ∧ zI σ 402 y = q.2 := by
    rw [← hlc.1, List.getElem?_map] at hq
    cases e : (LL k)[j]? with
    | none => rw [e] at hq; cases hq
    | some y =>
      rw [e] at hq
      have hq := Option.some.inj hq
      exact ⟨y, rfl, by rw [← hq], by rw [← hq]⟩
  have yT : zT σ y = (4, 0) := h.2.2.1.2.1.T hk (List.mem_of_getElem? hy)
  show Wp l G 3 0 0 (RX12, cX12_line, 7, (some .int), false) 0 [(0, .ref (xob Y)), (1, .int (nI k)), (2, .int (nI j)), (3, .int 0)] [] σ _
  refine zp_aload_n dX12_line_0 rfl (a := (xob Y)) (List.mem_of_getElem? (i := 0) rfl) ?_
  refine zp_iload_n dX12_line_1 rfl (x := (nI k)) (List.mem_of_getElem? (i := 1) rfl) ?_
  refine zp_callV (c0 := 9) (st := []) (mc2 := 0) (ms2 := 0) dX12_line_2 (c_X12_boxAt l G D X Y W T k _ hD h.1.1 h.1.2.1 hk ht) cl_X12_68 im_X12_boxAt se_X12_boxAt rfl rfl h.1.1.1 rfl rfl (by omega) (by omega) (by omega) (Nat.le_of_ble_eq_true rfl) ?_
  rintro _ s1 ⟨rfl, hs1⟩; obtain rfl := hs1.symm
  refine zp_astore dX12_line_5 (Nat.le_of_ble_eq_true rfl) (lv2 := [(4, .ref (xnd X k)), (0, .ref (xob Y)), (1, .int (nI k)), (2, .int (nI j)), (3, .int 0)]) rfl ?_
  refine zp_aload dX12_line_7 (a := (xnd X k)) (List.mem_of_getElem? (i := 0) rfl) ?_
  refine zp_nonnullT dX12_line_9 (tgt := 20) rfl ?_
  refine zp_iload_n dX12_line_20 rfl (x := 0) (List.mem_of_getElem? (i := 4) rfl) ?_
  refine zp_if_lt dX12_line_21 (tgt := 29) rfl (fun q => absurd q (by decide)) (fun _ => ?_)
  refine zp_iload_n dX12_line_24 rfl (x := 0) (List.mem_of_getElem? (i := 4) rfl) ?_
  refine zp_iconst dX12_line_25 (v := 4) (by decide) ?_
  refine zp_icmp_le dX12_line_26 (tgt := 33) rfl (fun _ => ?_) (fun q => absurd (by decide) q)
  refine zp_iconst dX12_line_33 (v := 0) (by decide) ?_
  refine zp_istore dX12_line_34 (Nat.le_of_ble_eq_true rfl) (lv2 := [(5, .int 0), (4, .ref (xnd X k)), (0, .ref (xob Y)), (1, .int (nI k)), (2, .int (nI j)), (3, .int 0)]) rfl ?_
  refine zp_aload dX12_line_36 (a := (xnd X k)) (List.mem_of_getElem? (i := 1) rfl) ?_
  refine zp_callV (c0 := 4) (st := []) (mc2 := 0) (ms2 := 0) dX12_line_38 (c_X7_holdsLines l G (xnd X k) 0 _ (h.2.1.k k hk).T hsz (h.2.1.k k hk).tab hkd) cl_X12_190 im_X7_holdsLines se_X7_holdsLines rfl rfl (h.2.1.k k hk).T rfl rfl (by omega) (by omega) (by omega) (Nat.le_of_ble_eq_true rfl) ?_
  rintro _ s1 ⟨rfl, hs1⟩; obtain rfl := hs1.symm
  refine zp_if_ne dX12_line_41 (tgt := 65) rfl (fun _ => ?_) (fun q => absurd q (by decide))
  refine zp_aload dX12_line_65 (a := (xnd X k)) (List.mem_of_getElem? (i := 1) rfl) ?_
  refine zp_iload_n dX12_line_67 rfl (x := (nI j)) (List.mem_of_getElem? (i := 4) rfl) ?_
  refine zp_callS (st := []) (mc2 := 0) (ms2 := 0) dX12_line_68 (c_X12_lineAt l G (xnd X k) (xpl X false k) 0 0 y j (LL k) _ (h.2.1.k k hk).T ((h.2.1.k k hk).pl false) ((h.2.1.k k hk).plT false) (by rw [hlk.1]; exact hlk.2.2) hy hj2) cl_X12_203 st_X12_lineAt rfl rfl (by omega) (by omega) (by omega) (Nat.le_of_ble_eq_true rfl) ?_
  rintro _ s1 ⟨rfl, hs1⟩; obtain rfl := hs1.symm
  refine zp_astore dX12_line_71 (Nat.le_of_ble_eq_true rfl) (lv2 := [(6, .ref y), (5, .int 0), (4, .ref (xnd X k)), (0, .ref (xob Y)), (1, .int (nI k)), (2, .int (nI j)), (3, .int 0)]) rfl ?_
  refine zp_aload dX12_line_73 (a := y) (List.mem_of_getElem? (i := 0) rfl) ?_
  refine zp_nonnullT dX12_line_75 (tgt := 86) rfl ?_
  refine zp_iload dX12_line_86 (x := 0) (List.mem_of_getElem? (i := 1) rfl) ?_
  refine zp_if_eq dX12_line_88 (tgt := 99) rfl (fun _ => ?_) (fun q => absurd rfl q)
  refine zp_iload_n dX12_line_99 rfl (x := 0) (List.mem_of_getElem? (i := 6) rfl) ?_
  refine zp_tableIn (off := 32) (tgt := 132) dX12_line_100 (by decide) (by decide) (by decide) rfl ?_
  refine zp_aload dX12_line_132 (a := (xnd X k)) (List.mem_of_getElem? (i := 2) rfl) ?_
  refine zp_getRv dX12_line_134 fl_X12_182 (h.2.1.k k hk).T (b := (xpl X false k)) ((h.2.1.k k hk).pl false) ?_
  refine zp_getJ dX12_line_137 fl_X12_207 ((h.2.1.k k hk).plT false) (v := 0) (h.1.2.2.2.2.2.2.2.2.1 k hk ht).1 (fun L137 hL137 => ?_)
  refine zp_aload dX12_line_140 (a := y) (List.mem_of_getElem? (i := 0) rfl) ?_
  refine zp_getJ dX12_line_142 fl_X12_211 yT (v := (inP D k (sa (LSt D W)))) (hlc.2 y (List.mem_of_getElem? hy)) (fun L142 hL142 => ?_)
  refine zp_ladd dX12_line_145 ?_
  refine zp_topj (v := (inP D k (sa (LSt D W)))) ((j_add hL137 hL142).trans (Int32.zero_add _)) (fun L145 hL145 => ?_)
  refine zp_l2iv dX12_line_146 (v := (inP D k (sa (LSt D W)))) hL145 ?_
  refine zp_iret rfl dX12_line_147 ?_
  exact ⟨rfl, rfl⟩
set_option maxRecDepth 100000 in
set_option maxHeartbeats 4000000 in
theorem c_X12_line1 (l : Launch) (G : Gb) (D : Dt) (X : Cx) (Y : Cy) (W : Int32) (T : Nat) (LL : Nat → List Nat) (fr : List Nat) (LL' : Nat → List Nat) (fr' : List Nat) (k : Nat) (σ : Sto) (hD : DW D) (h : Rz G D X Y W T LL fr LL' fr' σ) (hk : k < dn D) (j : Nat) (q : Int32 × Int32) (ht : dtx D k = false) (hq : (lsOf (sls (LSt D W)) k)[j]? = some q) (hj2 : j < 1000) : Ct l G 3 0 0 yX12_line mX12_line [.ref (xob Y), .int (nI k), .int (nI j), .int 1] σ (fun v s => v = some (.int (q.1)) ∧ s = σ) := by
  refine Ct.of (by decide) rfl (Nat.le_of_ble_eq_true rfl) (fun h => absurd h (by decide)) ?_
  have hkd : zR σ 514 (xnd X k) = some (G.2.2.1 0) := by have := (h.2.1.k k hk).kind; rw [ht] at this; exact this
  have hsz : zI σ 503 (xnd X k) = 0 := (h.2.1.k k hk).size.trans (if_neg (by rw [ht]; decide))
  refine zp_kin (fun hkin => ?_)
  have hlc := h.2.2.1.2.lc k hk ht ((ls_met hD hk).2 ht).1
  have hlk := h.2.2.1.2.1.2.1 k hk
  obtain ⟨y, hy, y1, y2⟩ : ∃ y, (LL k)[j]? = some y ∧ zI σ 401 y = q.1 ∧ zI σ 402 y = q.2 := by
    rw [← hlc.1, List.getElem?_map] at hq
    cases e : (LL k)[j]? with
    | none => rw [e] at hq; cases hq
    | some y =>
      rw [e] at hq
      have hq := Option.some.inj hq
      exact ⟨y, rfl, by rw [← hq], by rw [← hq]⟩
  have yT : zT σ y = (4, 0) := h.2.2.1.2.1.T hk (List.mem_of_getElem? hy)
  show Wp l G 3 0 0 (RX12, cX12_line, 7, (some .int), false) 0 [(0, .ref (xob Y)), (1, .int (nI k)), (2, .int (nI j)), (3, .int 1)] [] σ _
  refine zp_aload_n dX12_line_0 rfl (a := (xob Y)) (List.mem_of_getElem? (i := 0) rfl) ?_
  refine zp_iload_n dX12_line_1 rfl (x := (nI k)) (List.mem_of_getElem? (i := 1) rfl) ?_
  refine zp_callV (c0 := 9) (st := []) (mc2 := 0) (ms2 := 0) dX12_line_2 (c_X12_boxAt l G D X Y W T k _ hD h.1.1 h.1.2.1 hk ht) cl_X12_68 im_X12_boxAt se_X12_boxAt rfl rfl h.1.1.1 rfl rfl (by omega) (by omega) (by omega) (Nat.le_of_ble_eq_true rfl) ?_
  rintro _ s1 ⟨rfl, hs1⟩; obtain rfl := hs1.symm
  refine zp_astore dX12_line_5 (Nat.le_of_ble_eq_true rfl) (lv2 := [(4, .ref (xnd X k)), (0, .ref (xob Y)), (1, .int (nI k)), (2, .int (nI j)), (3, .int 1)]) rfl ?_
  refine zp_aload dX12_line_7 (a := (xnd X k)) (List.mem_of_getElem? (i := 0) rfl) ?_
  refine zp_nonnullT dX12_line_9 (tgt := 20) rfl ?_
  refine zp_iload_n dX12_line_20 rfl (x := 1) (List.mem_of_getElem? (i := 4) rfl) ?_
  refine zp_if_lt dX12_line_21 (tgt := 29) rfl (fun q => absurd q (by decide)) (fun _ => ?_)
  refine zp_iload_n dX12_line_24 rfl (x := 1) (List.mem_of_getElem? (i := 4) rfl) ?_
  refine zp_iconst dX12_line_25 (v := 4) (by decide) ?_
  refine zp_icmp_le dX12_line_26 (tgt := 33) rfl (fun _ => ?_) (fun q => absurd (by decide) q)
  refine zp_iconst dX12_line_33 (v := 0) (by decide) ?_
  refine zp_istore dX12_line_34 (Nat.le_of_ble_eq_true rfl) (lv2 := [(5, .int 0), (4, .ref (xnd X k)), (0, .ref (xob Y)), (1, .int (nI k)), (2, .int (nI j)), (3, .int 1)]) rfl ?_
  refine zp_aload dX12_line_36 (a := (xnd X k)) (List.mem_of_getElem? (i := 1) rfl) ?_
  refine zp_callV (c0 := 4) (st := []) (mc2 := 0) (ms2 := 0) dX12_line_38 (c_X7_holdsLines l G (xnd X k) 0 _ (h.2.1.k k hk).T hsz (h.2.1.k k hk).tab hkd) cl_X12_190 im_X7_holdsLines se_X7_holdsLines rfl rfl (h.2.1.k k hk).T rfl rfl (by omega) (by omega) (by omega) (Nat.le_of_ble_eq_true rfl) ?_
  rintro _ s1 ⟨rfl, hs1⟩; obtain rfl := hs1.symm
  refine zp_if_ne dX12_line_41 (tgt := 65) rfl (fun _ => ?_) (fun q => absurd q (by decide))
  refine zp_aload dX12_line_65 (a := (xnd X k)) (List.mem_of_getElem? (i := 1) rfl) ?_
  refine zp_iload_n dX12_line_67 rfl (x := (nI j)) (List.mem_of_getElem? (i := 4) rfl) ?_
  refine zp_callS (st := []) (mc2 := 0) (ms2 := 0) dX12_line_68 (c_X12_lineAt l G (xnd X k) (xpl X false k) 0 0 y j (LL k) _ (h.2.1.k k hk).T ((h.2.1.k k hk).pl false) ((h.2.1.k k hk).plT false) (by rw [hlk.1]; exact hlk.2.2) hy hj2) cl_X12_203 st_X12_lineAt rfl rfl (by omega) (by omega) (by omega) (Nat.le_of_ble_eq_true rfl) ?_
  rintro _ s1 ⟨rfl, hs1⟩; obtain rfl := hs1.symm
  refine zp_astore dX12_line_71 (Nat.le_of_ble_eq_true rfl) (lv2 := [(6, .ref y), (5, .int 0), (4, .ref (xnd X k)), (0, .ref (xob Y)), (1, .int (nI k)), (2, .int (nI j)), (3, .int 1)]) rfl ?_
  refine zp_aload dX12_line_73 (a := y) (List.mem_of_getElem? (i := 0) rfl) ?_
  refine zp_nonnullT dX12_line_75 (tgt := 86) rfl ?_
  refine zp_iload dX12_line_86 (x := 0) (List.mem_of_getElem? (i := 1) rfl) ?_
  refine zp_if_eq dX12_line_88 (tgt := 99) rfl (fun _ => ?_) (fun q => absurd rfl q)
  refine zp_iload_n dX12_line_99 rfl (x := 1) (List.mem_of_getElem? (i := 6) rfl) ?_
  refine zp_tableIn (off := 48) (tgt := 148) dX12_line_100 (by decide) (by decide) (by decide) rfl ?_
  refine zp_aload dX12_line_148 (a := (xnd X k)) (List.mem_of_getElem? (i := 2) rfl) ?_
  refine zp_getRv dX12_line_150 fl_X12_182 (h.2.1.k k hk).T (b := (xpl X false k)) ((h.2.1.k k hk).pl false) ?_
  refine zp_getJ dX12_line_153 fl_X12_214 ((h.2.1.k k hk).plT false) (v := 0) (h.1.2.2.2.2.2.2.2.2.1 k hk ht).2 (fun L153 hL153 => ?_)
  refine zp_aload dX12_line_156 (a := y) (List.mem_of_getElem? (i := 0) rfl) ?_
  refine zp_getIv dX12_line_158 fl_X12_217 yT (v := q.1) y1 ?_
  refine zp_i2l dX12_line_161 ?_
  refine zp_ladd dX12_line_162 ?_
  refine zp_topj (v := q.1) ((j_add hL153 (j_i2l q.1)).trans (Int32.zero_add _)) (fun L162 hL162 => ?_)
  refine zp_l2iv dX12_line_163 (v := q.1) hL162 ?_
  refine zp_iret rfl dX12_line_164 ?_
  exact ⟨rfl, rfl⟩
set_option maxRecDepth 100000 in
set_option maxHeartbeats 4000000 in
theorem c_X12_line2 (l : Launch) (G : Gb) (D : Dt) (X : Cx) (Y : Cy) (W : Int32) (T : Nat) (LL : Nat → List Nat) (fr : List Nat) (LL' : Nat → List Nat) (fr' : List Nat) (k : Nat) (σ : Sto) (hD : DW D) (h : Rz G D X Y W T LL fr LL' fr' σ) (hk : k < dn D) (j : Nat) (q : Int32 × Int32) (ht : dtx D k = false) (hq : (lsOf (sls (LSt D W)) k)[j]? = some q) (hj2 : j < 1000) : Ct l G 3 0 0 yX12_line mX12_line [.ref (xob Y), .int (nI k), .int (nI j), .int 2] σ (fun v s => v = some (.int (q.2)) ∧ s = σ) := by
  refine Ct.of (by decide) rfl (Nat.le_of_ble_eq_true rfl) (fun h => absurd h (by decide)) ?_
  have hkd : zR σ 514 (xnd X k) = some (G.2.2.1 0) := by have := (h.2.1.k k hk).kind; rw [ht] at this; exact this
  have hsz : zI σ 503 (xnd X k) = 0 := (h.2.1.k k hk).size.trans (if_neg (by rw [ht]; decide))
  refine zp_kin (fun hkin => ?_)
  have hlc := h.2.2.1.2.lc k hk ht ((ls_met hD hk).2 ht).1
  have hlk := h.2.2.1.2.1.2.1 k hk
  obtain ⟨y, hy, y1, y2⟩ : ∃ y, (LL k)[j]? = some y ∧ zI σ 401 y = q.1 ∧ zI σ 402 y = q.2 := by
    rw [← hlc.1, List.getElem?_map] at hq
    cases e : (LL k)[j]? with
    | none => rw [e] at hq; cases hq
    | some y =>
      rw [e] at hq
      have hq := Option.some.inj hq
      exact ⟨y, rfl, by rw [← hq], by rw [← hq]⟩
  have yT : zT σ y = (4, 0) := h.2.2.1.2.1.T hk (List.mem_of_getElem? hy)
  show Wp l G 3 0 0 (RX12, cX12_line, 7, (some .int), false) 0 [(0, .ref (xob Y)), (1, .int (nI k)), (2, .int (nI j)), (3, .int 2)] [] σ _
  refine zp_aload_n dX12_line_0 rfl (a := (xob Y)) (List.mem_of_getElem? (i := 0) rfl) ?_
  refine zp_iload_n dX12_line_1 rfl (x := (nI k)) (List.mem_of_getElem? (i := 1) rfl) ?_
  refine zp_callV (c0 := 9) (st := []) (mc2 := 0) (ms2 := 0) dX12_line_2 (c_X12_boxAt l G D X Y W T k _ hD h.1.1 h.1.2.1 hk ht) cl_X12_68 im_X12_boxAt se_X12_boxAt rfl rfl h.1.1.1 rfl rfl (by omega) (by omega) (by omega) (Nat.le_of_ble_eq_true rfl) ?_
  rintro _ s1 ⟨rfl, hs1⟩; obtain rfl := hs1.symm
  refine zp_astore dX12_line_5 (Nat.le_of_ble_eq_true rfl) (lv2 := [(4, .ref (xnd X k)), (0, .ref (xob Y)), (1, .int (nI k)), (2, .int (nI j)), (3, .int 2)]) rfl ?_
  refine zp_aload dX12_line_7 (a := (xnd X k)) (List.mem_of_getElem? (i := 0) rfl) ?_
  refine zp_nonnullT dX12_line_9 (tgt := 20) rfl ?_
  refine zp_iload_n dX12_line_20 rfl (x := 2) (List.mem_of_getElem? (i := 4) rfl) ?_
  refine zp_if_lt dX12_line_21 (tgt := 29) rfl (fun q => absurd q (by decide)) (fun _ => ?_)
  refine zp_iload_n dX12_line_24 rfl (x := 2) (List.mem_of_getElem? (i := 4) rfl) ?_
  refine zp_iconst dX12_line_25 (v := 4) (by decide) ?_
  refine zp_icmp_le dX12_line_26 (tgt := 33) rfl (fun _ => ?_) (fun q => absurd (by decide) q)
  refine zp_iconst dX12_line_33 (v := 0) (by decide) ?_
  refine zp_istore dX12_line_34 (Nat.le_of_ble_eq_true rfl) (lv2 := [(5, .int 0), (4, .ref (xnd X k)), (0, .ref (xob Y)), (1, .int (nI k)), (2, .int (nI j)), (3, .int 2)]) rfl ?_
  refine zp_aload dX12_line_36 (a := (xnd X k)) (List.mem_of_getElem? (i := 1) rfl) ?_
  refine zp_callV (c0 := 4) (st := []) (mc2 := 0) (ms2 := 0) dX12_line_38 (c_X7_holdsLines l G (xnd X k) 0 _ (h.2.1.k k hk).T hsz (h.2.1.k k hk).tab hkd) cl_X12_190 im_X7_holdsLines se_X7_holdsLines rfl rfl (h.2.1.k k hk).T rfl rfl (by omega) (by omega) (by omega) (Nat.le_of_ble_eq_true rfl) ?_
  rintro _ s1 ⟨rfl, hs1⟩; obtain rfl := hs1.symm
  refine zp_if_ne dX12_line_41 (tgt := 65) rfl (fun _ => ?_) (fun q => absurd q (by decide))
  refine zp_aload dX12_line_65 (a := (xnd X k)) (List.mem_of_getElem? (i := 1) rfl) ?_
  refine zp_iload_n dX12_line_67 rfl (x := (nI j)) (List.mem_of_getElem? (i := 4) rfl) ?_
  refine zp_callS (st := []) (mc2 := 0) (ms2 := 0) dX12_line_68 (c_X12_lineAt l G (xnd X k) (xpl X false k) 0 0 y j (LL k) _ (h.2.1.k k hk).T ((h.2.1.k k hk).pl false) ((h.2.1.k k hk).plT false) (by rw [hlk.1]; exact hlk.2.2) hy hj2) cl_X12_203 st_X12_lineAt rfl rfl (by omega) (by omega) (by omega) (Nat.le_of_ble_eq_true rfl) ?_
  rintro _ s1 ⟨rfl, hs1⟩; obtain rfl := hs1.symm
  refine zp_astore dX12_line_71 (Nat.le_of_ble_eq_true rfl) (lv2 := [(6, .ref y), (5, .int 0), (4, .ref (xnd X k)), (0, .ref (xob Y)), (1, .int (nI k)), (2, .int (nI j)), (3, .int 2)]) rfl ?_
  refine zp_aload dX12_line_73 (a := y) (List.mem_of_getElem? (i := 0) rfl) ?_
  refine zp_nonnullT dX12_line_75 (tgt := 86) rfl ?_
  refine zp_iload dX12_line_86 (x := 0) (List.mem_of_getElem? (i := 1) rfl) ?_
  refine zp_if_eq dX12_line_88 (tgt := 99) rfl (fun _ => ?_) (fun q => absurd rfl q)
  refine zp_iload_n dX12_line_99 rfl (x := 2) (List.mem_of_getElem? (i := 6) rfl) ?_
  refine zp_tableIn (off := 65) (tgt := 165) dX12_line_100 (by decide) (by decide) (by decide) rfl ?_
  refine zp_aload dX12_line_165 (a := y) (List.mem_of_getElem? (i := 0) rfl) ?_
  refine zp_getIv dX12_line_167 fl_X12_220 yT (v := q.2) y2 ?_
  refine zp_iret rfl dX12_line_170 ?_
  exact ⟨rfl, rfl⟩
def ccF (D : Dt) : Nat → Nat → Nat → Nat
  | 0, _, _ => 0
  | f + 1, k, a => match nx D k a with
    | none => 0
    | some c => ccF D f k c + 1
theorem ccF_none {D : Dt} {f k a : Nat} (h : nx D k a = none) : ccF D f k a = 0 := by
  cases f with
  | zero => rfl
  | succ f => show (match nx D k a with | none => 0 | some c => ccF D f k c + 1) = 0; rw [h]
theorem ccF_some {D : Dt} {f k a c : Nat} (h : nx D k a = some c) : ccF D (f + 1) k a = ccF D f k c + 1 := by
  show (match nx D k a with | none => 0 | some c => ccF D f k c + 1) = _
  rw [h]
theorem ccF_le {D : Dt} : ∀ (f k a : Nat), ccF D f k a ≤ f
  | 0, _, _ => Nat.le_refl _
  | f + 1, k, a => by
    cases h : nx D k a with
    | none => rw [ccF_none h]; omega
    | some c => rw [ccF_some h]; have := ccF_le (D := D) f k c; omega
/-- how many children -/
def cc (D : Dt) (k : Nat) : Nat := ccF D (dn D) k k
set_option maxHeartbeats 4000000 in
theorem l_count (l : Launch) {G : Gb} {D : Dt} {X : Cx} {k z : Nat} {σ : Sto} (hD : DW D) (hN : NX D X σ) : ∀ (f a c : Nat), dn D ≤ a + f →
    Wp l G 1 0 0 (RX7, cX7_countChildren, 3, (some .int), false) 7 [(2, va_rf (lk X (nx D k a))), (1, .int (nI c)), (0, .ref z)] [] σ (fun v s => v = some (.int (nI (c + ccF D f k a))) ∧ s = σ) := by
  intro f
  induction f with
  | zero =>
    intro a c hf
    have e0 : nx D k a = none := nx_none.mpr (fun j h1 h2 => by omega)
    rw [e0]
    show Wp l G 1 0 0 (RX7, cX7_countChildren, 3, (some .int), false) 7 [(2, .null), (1, .int (nI c)), (0, .ref z)] [] σ _
    refine zp_aloado_n dX7_countChildren_7 rfl (r := none) (v := .null) rfl (List.mem_of_getElem? (i := 0) rfl) ?_
    refine zp_nullT dX7_countChildren_8 (tgt := 22) rfl ?_
    refine zp_iload_n dX7_countChildren_22 rfl (x := (nI c)) (List.mem_of_getElem? (i := 1) rfl) ?_
    refine zp_iret rfl dX7_countChildren_23 ?_
    rw [ccF_none e0]; exact ⟨rfl, rfl⟩
  | succ f ih =>
    intro a c hf
    cases e0 : nx D k a with
    | none =>
      show Wp l G 1 0 0 (RX7, cX7_countChildren, 3, (some .int), false) 7 [(2, .null), (1, .int (nI c)), (0, .ref z)] [] σ _
      refine zp_aloado_n dX7_countChildren_7 rfl (r := none) (v := .null) rfl (List.mem_of_getElem? (i := 0) rfl) ?_
      refine zp_nullT dX7_countChildren_8 (tgt := 22) rfl ?_
      refine zp_iload_n dX7_countChildren_22 rfl (x := (nI c)) (List.mem_of_getElem? (i := 1) rfl) ?_
      refine zp_iret rfl dX7_countChildren_23 ?_
      rw [ccF_none e0]; exact ⟨rfl, rfl⟩
    | some e =>
      obtain ⟨he1, he2, he3⟩ := nx_up e0
      have hnx : zR σ 511 (xnd X e) = lk X (nx D k e) := by have := (hN.1 e he2).2.2.2; rw [if_neg (by omega), he3] at this; exact this
      show Wp l G 1 0 0 (RX7, cX7_countChildren, 3, (some .int), false) 7 [(2, .ref (xnd X e)), (1, .int (nI c)), (0, .ref z)] [] σ _
      refine zp_aload_n dX7_countChildren_7 rfl (a := (xnd X e)) (List.mem_of_getElem? (i := 0) rfl) ?_
      refine zp_nullF dX7_countChildren_8 (tgt := 22) rfl ?_
      refine zp_iinc dX7_countChildren_11 (k1 := 1) (x := (nI c)) rfl (v := (nI (c + 1))) (nI_1 c) (Nat.le_of_ble_eq_true rfl) (lv2 := [(1, .int (nI (c + 1))), (2, .ref (xnd X e)), (0, .ref z)]) rfl ?_
      refine zp_aload_n dX7_countChildren_14 rfl (a := (xnd X e)) (List.mem_of_getElem? (i := 1) rfl) ?_
      refine zp_getRo dX7_countChildren_15 fl_X7_83 (hN.1 e he2).1 (r := (lk X (nx D k e))) hnx ?_
      refine zp_astoreo_n dX7_countChildren_18 rfl (Nat.le_of_ble_eq_true rfl) (r := (lk X (nx D k e))) (v := va_rf (lk X (nx D k e))) rfl (lv2 := [(2, va_rf (lk X (nx D k e))), (1, .int (nI (c + 1))), (0, .ref z)]) rfl ?_
      refine zp_goto dX7_countChildren_19 (tgt := 7) rfl ?_
      refine zp_lv [0, 1, 2] rfl ?_
      rw [ccF_some e0]
      have e9 := ih e (c + 1) (by omega)
      rw [show c + 1 + ccF D f k e = c + (ccF D f k e + 1) by omega] at e9
      exact e9
set_option maxRecDepth 100000 in
set_option maxHeartbeats 4000000 in
theorem c_X7_countChildren (l : Launch) (G : Gb) (D : Dt) (X : Cx) (k : Nat) (σ : Sto) (hD : DW D) (hN : NX D X σ) (hk : k < dn D) : Ct l G 1 0 0 yX7_countChildren mX7_countChildren [.ref (xnd X k)] σ (fun v s => v = some (.int (nI (cc D k))) ∧ s = σ) := by
  refine Ct.of (by decide) rfl (Nat.le_of_ble_eq_true rfl) (fun h => absurd h (by decide)) ?_
  show Wp l G 1 0 0 (RX7, cX7_countChildren, 3, (some .int), false) 0 [(0, .ref (xnd X k))] [] σ _
  refine zp_iconst dX7_countChildren_0 (v := 0) (by decide) ?_
  refine zp_istore_n dX7_countChildren_1 rfl (Nat.le_of_ble_eq_true rfl) (lv2 := [(1, .int 0), (0, .ref (xnd X k))]) rfl ?_
  refine zp_aload_n dX7_countChildren_2 rfl (a := (xnd X k)) (List.mem_of_getElem? (i := 1) rfl) ?_
  refine zp_getRo dX7_countChildren_3 fl_X7_80 (hN.1 k hk).1 (r := (lk X (nx D k k))) (hN.1 k hk).2.2.1 ?_
  refine zp_astoreo_n dX7_countChildren_6 rfl (Nat.le_of_ble_eq_true rfl) (r := (lk X (nx D k k))) (v := va_rf (lk X (nx D k k))) rfl (lv2 := [(2, va_rf (lk X (nx D k k))), (1, .int 0), (0, .ref (xnd X k))]) rfl ?_
  refine zp_lv [0, 1, 2] rfl ?_
  have e := l_count l (G := G) (k := k) (z := xnd X k) hD hN (dn D) k 0 (by omega)
  rw [Nat.zero_add] at e
  exact e
set_option maxRecDepth 100000 in
set_option maxHeartbeats 4000000 in
theorem c_X12_children (l : Launch) (G : Gb) (D : Dt) (X : Cx) (Y : Cy) (W : Int32) (T : Nat) (LL : Nat → List Nat) (fr : List Nat) (LL' : Nat → List Nat) (fr' : List Nat) (k : Nat) (σ : Sto) (hD : DW D) (h : Rz G D X Y W T LL fr LL' fr' σ) (hk : k < dn D) (ht : dtx D k = false) : Ct l G 3 0 0 yX12_children mX12_children [.ref (xob Y), .int (nI k)] σ (fun v s => v = some (.int (nI (cc D k))) ∧ s = σ) := by
  refine Ct.of (by decide) rfl (Nat.le_of_ble_eq_true rfl) (fun h => absurd h (by decide)) ?_
  show Wp l G 3 0 0 (RX12, cX12_children, 3, (some .int), false) 0 [(0, .ref (xob Y)), (1, .int (nI k))] [] σ _
  refine zp_aload_n dX12_children_0 rfl (a := (xob Y)) (List.mem_of_getElem? (i := 0) rfl) ?_
  refine zp_iload_n dX12_children_1 rfl (x := (nI k)) (List.mem_of_getElem? (i := 1) rfl) ?_
  refine zp_callV (c0 := 9) (st := []) (mc2 := 0) (ms2 := 0) dX12_children_2 (c_X12_boxAt l G D X Y W T k _ hD h.1.1 h.1.2.1 hk ht) cl_X12_68 im_X12_boxAt se_X12_boxAt rfl rfl h.1.1.1 rfl rfl (by omega) (by omega) (by omega) (Nat.le_of_ble_eq_true rfl) ?_
  rintro _ s1 ⟨rfl, hs1⟩; obtain rfl := hs1.symm
  refine zp_astore_n dX12_children_5 rfl (Nat.le_of_ble_eq_true rfl) (lv2 := [(2, .ref (xnd X k)), (0, .ref (xob Y)), (1, .int (nI k))]) rfl ?_
  refine zp_aload_n dX12_children_6 rfl (a := (xnd X k)) (List.mem_of_getElem? (i := 0) rfl) ?_
  refine zp_nonnullT dX12_children_7 (tgt := 18) rfl ?_
  refine zp_aload_n dX12_children_18 rfl (a := (xnd X k)) (List.mem_of_getElem? (i := 0) rfl) ?_
  refine zp_callV (c0 := 4) (st := []) (mc2 := 0) (ms2 := 0) dX12_children_19 (c_X7_countChildren l G D X k _ hD ⟨fun j hj => (h.1.2.1.nx h.1.2.2.2.1.nd).1 j hj, h.1.2.2.2.1.nd⟩ hk) cl_X12_72 im_X7_countChildren se_X7_countChildren rfl rfl (h.2.1.k k hk).T rfl rfl (by omega) (by omega) (by omega) (Nat.le_of_ble_eq_true rfl) ?_
  rintro _ s1 ⟨rfl, hs1⟩; obtain rfl := hs1.symm
  refine zp_iret rfl dX12_children_22 ?_
  exact ⟨rfl, rfl⟩
theorem Eo.f0 {G : Gb} {X D c LL fr} {σ s : Sto} (f : Fm (fun a => ¬ ownP X D c LL fr a) σ s) : Eo X D c LL fr σ s := fun a ha g _ => (f.1 a (fun q => q ha)).1 g
set_option maxRecDepth 100000 in
set_option maxHeartbeats 4000000 in
theorem c_X12_fromNothing (l : Launch) (G : Gb) (D : Dt) (X : Cx) (Y : Cy) (W : Int32) (T : Nat) (LL : Nat → List Nat) (fr : List Nat) (LL' : Nat → List Nat) (fr' : List Nat) (k : Nat) (σ : Sto) (hD : DW D) (h : Rz G D X Y W T LL fr LL' fr' σ) (hk : k < dn D) (ht : dtx D k = true) (hw : 0 < dwc D k) (hW0 : 0 ≤ W.toInt) (hW1 : W.toInt ≤ 300) : Ct l G 36 48 288 yX12_fromNothing mX12_fromNothing [.ref (xob Y), .int (nI k), .int 0] σ (fun v s => v = some (.int (sa (LSt D W) k)) ∧ ∃ LL2 fr2, Rz G D X Y W T LL fr LL2 fr2 s ∧ Fo X Y (dn D) σ s) := by
  refine Ct.of (by decide) rfl (Nat.le_of_ble_eq_true rfl) (fun h => absurd h (by decide)) ?_
  have hk0 : 0 < k := Nat.pos_of_ne_zero (fun q => by rw [q, hD.2.2.2.1] at ht; cases ht)
  have hpk := hD.2.2.2.2.1 k hk0 hk
  obtain ⟨hP, hN, hR, hsd, e703, e601, e715, e716⟩ := id h
  obtain ⟨hB, hAI, hLy, hJ, hdep, hl1, hl2, hlj, hb1, hb2, hca⟩ := id hP
  have hO : Ow (fun a => ¬ ownP X D false LL fr a) D X true σ := Ow_of hN (by decide) hl1
  have hlo : Ln (fun a => ¬ ownP X D false LL fr a) D X true σ LL' fr' := hl2.mo (fun a ha q => by
    rcases q with q | q | ⟨k, hk, q⟩ | ⟨k, i, hk, hi, q⟩ | q
    · exact kne (hl2.lm ha) (hLy false).T (by decide) q
    · exact kne (hl2.lm ha) (hLy false).FT (by decide) q
    · exact kne (hl2.lm ha) ((hN.k k hk).plT false) (by decide) q
    · exact kne (hl2.lm ha) ((hN.k k hk).thT false i hi) (by decide) q
    · exact hlj a q ha)
  show Wp l G 36 48 288 (RX12, cX12_fromNothing, 4, (some .int), false) 0 [(0, .ref (xob Y)), (1, .int (nI k)), (2, .int 0)] [] σ _
  refine zp_aload_n dX12_fromNothing_0 rfl (a := (xob Y)) (List.mem_of_getElem? (i := 0) rfl) ?_
  refine zp_iload_n dX12_fromNothing_1 rfl (x := (nI k)) (List.mem_of_getElem? (i := 1) rfl) ?_
  refine zp_callV (c0 := 9) (st := []) (mc2 := 48) (ms2 := 288) dX12_fromNothing_2 (c_X12_nodeAt l G D X Y W T k _ hD h.1.1 h.1.2.1 hk) cl_X12_111 im_X12_nodeAt se_X12_nodeAt rfl rfl h.1.1.1 rfl rfl (by omega) (by omega) (by omega) (Nat.le_of_ble_eq_true rfl) ?_
  rintro _ s1 ⟨rfl, hs1⟩; obtain rfl := hs1.symm
  refine zp_nonnullT dX12_fromNothing_5 (tgt := 16) rfl ?_
  refine zp_iload_n dX12_fromNothing_16 rfl (x := 0) (List.mem_of_getElem? (i := 2) rfl) ?_
  refine zp_if_lt dX12_fromNothing_17 (tgt := 25) rfl (fun q => absurd q (by decide)) (fun _ => ?_)
  refine zp_iload_n dX12_fromNothing_20 rfl (x := 0) (List.mem_of_getElem? (i := 2) rfl) ?_
  refine zp_iconst dX12_fromNothing_21 (v := 3) (by decide) ?_
  refine zp_icmp_le dX12_fromNothing_22 (tgt := 33) rfl (fun _ => ?_) (fun q => absurd (by decide) q)
  refine zp_aload_n dX12_fromNothing_33 rfl (a := (xob Y)) (List.mem_of_getElem? (i := 0) rfl) ?_
  refine zp_iload_n dX12_fromNothing_34 rfl (x := (nI k)) (List.mem_of_getElem? (i := 1) rfl) ?_
  refine zp_callV (c0 := 9) (st := []) (mc2 := 48) (ms2 := 288) dX12_fromNothing_35 (c_X12_placedAtT l G D X Y W T k _ hD h.1.1 h.1.2.1 hk ht hw) cl_X12_141 im_X12_placedAt se_X12_placedAt rfl rfl h.1.1.1 rfl rfl (by omega) (by omega) (by omega) (Nat.le_of_ble_eq_true rfl) ?_
  rintro _ s1 ⟨rfl, hs1⟩; obtain rfl := hs1.symm
  refine zp_astore_n dX12_fromNothing_38 rfl (Nat.le_of_ble_eq_true rfl) (lv2 := [(3, .ref (xnd X k)), (0, .ref (xob Y)), (1, .int (nI k)), (2, .int 0)]) rfl ?_
  refine zp_aload_n dX12_fromNothing_39 rfl (a := (xob Y)) (List.mem_of_getElem? (i := 1) rfl) ?_
  refine zp_getRv dX12_fromNothing_40 fl_X12_45 h.1.1.1 (b := (xLy X true)) h.1.1.2.2.2.2.1 ?_
  refine zp_aload_n dX12_fromNothing_43 rfl (a := (xob Y)) (List.mem_of_getElem? (i := 1) rfl) ?_
  refine zp_getRv dX12_fromNothing_44 fl_X12_25 h.1.1.1 (b := (xnd X 0)) h.1.1.2.2.1 ?_
  refine zp_callV (c0 := 2) (st := []) (mc2 := 48) (ms2 := 288) dX12_fromNothing_47 (c_X4_forgetAll l G (fun a => ¬ ownP X D false LL fr a) D X true _ hD hN hO) cl_X12_148 im_X4_forgetAll se_X4_forgetAll rfl rfl (h.2.1.l true).T rfl rfl (by omega) (by omega) (by omega) (Nat.le_of_ble_eq_true rfl) ?_
  rintro _ s1 ⟨rfl, f1, i1, r1, e1⟩
  have hN1 := hN.fm f1
  have t1 : ∀ a, (zT σ a).1 ≠ 0 → zT s1 a = zT σ a := f1.2.2.2.1
  have hl1a : Ln Tt D X false s1 LL fr := hl1.eo t1 (Eo.f0 (G := G) f1)
  have hl2a : Ln (fun a => ¬ ownP X D false LL fr a) D X true s1 LL' fr' := hlo.to t1 (by rw [r1]) (by rw [r1]) (by rw [r1]) (by rw [r1])
  have hgo : zI s1 715 (xpl X true 0) < zI s1 513 (xnd X 0) ∨ zI s1 716 (xpl X true 0) ≠ W := Or.inl (by
    rw [e1, i1 513 (by decide)]
    exact Int32.lt_iff_toInt_lt.mpr (by rw [show (-1 : Int32).toInt = -1 from rfl]; omega))
  have k1 : zT s1 (xob Y) = (10, 0) := (t1 _ (by rw [hB.1]; decide)).trans hB.1
  refine zp_aload_n dX12_fromNothing_50 rfl (a := (xob Y)) (List.mem_of_getElem? (i := 1) rfl) ?_
  refine zp_getRv dX12_fromNothing_51 fl_X12_45 k1 (b := (xLy X true)) ((congrFun (congrFun r1 _) _).trans h.1.1.2.2.2.2.1) ?_
  refine zp_aload_n dX12_fromNothing_54 rfl (a := (xob Y)) (List.mem_of_getElem? (i := 1) rfl) ?_
  refine zp_getRv dX12_fromNothing_55 fl_X12_25 k1 (b := (xnd X 0)) ((congrFun (congrFun r1 _) _).trans h.1.1.2.2.1) ?_
  refine zp_aload_n dX12_fromNothing_58 rfl (a := (xob Y)) (List.mem_of_getElem? (i := 1) rfl) ?_
  refine zp_getIv dX12_fromNothing_59 fl_X12_33 k1 (v := W) ((congrFun (i1 _ (by decide)) _).trans hB.2.2.2.2.2.2.2.1) ?_
  refine zp_aload_n dX12_fromNothing_62 rfl (a := (xob Y)) (List.mem_of_getElem? (i := 1) rfl) ?_
  refine zp_getIv dX12_fromNothing_63 fl_X12_151 k1 (v := (nI T)) ((congrFun (i1 _ (by decide)) _).trans hB.2.2.2.2.2.2.2.2.1) ?_
  refine zp_callV (c0 := 2) (st := []) (mc2 := 0) (ms2 := 0) dX12_fromNothing_66 (c_X4_layAll l G (fun a => ¬ ownP X D false LL fr a) D X true LL' fr' s1 W (nI T) z0 z0 hD hN1 (hO.fm f1) hl2a (hAI.2.2.2.1.fm f1) (fun j h1 h2 => by rw [i1 707 (by decide), i1 708 (by decide)]; exact hb2 j h1 h2) hW0 hW1 hgo) cl_X12_55 im_X4_layAll se_X4_layAll rfl rfl (hN1.l true).T rfl rfl (by omega) (by omega) (by omega) (Nat.le_of_ble_eq_true rfl) ?_
  rintro _ s2 ⟨w, LL2, fr2, rfl, r2, b2, sd2, f2, e703', e715', e716'⟩
  have hN2 := r2.ns
  have t2 : ∀ a, (zT σ a).1 ≠ 0 → zT s2 a = zT σ a := fun a ha => (f2.2.2.2.1 a (by rw [show zT (wI s1 304 (xLy X true) (nI T)) a = zT σ a from t1 a ha]; exact ha)).trans (t1 a ha)
  have eo2 : Eo X D false LL fr σ s2 := (Eo.f0 (G := G) f1).trans (Eo.fm hN1 (by decide) hl1a f2)
  have i2 : ∀ g, g ≠ 304 → stf g → zI s2 g = zI σ g := fun g h4 hg => (f2.I hg).trans ((show zI (wI s1 304 (xLy X true) (nI T)) g = zI s1 g by funext c; exact rIn h4).trans (f1.I hg))
  have q2 : ∀ g, stf g → zR s2 g = zR σ g := fun g hg => (f2.R hg).trans (f1.R hg)
  have a2 : zA s2 = zA σ := f2.A.trans f1.A
  have qq2 : zQ s2 = zQ σ := f2.Q.trans f1.Q
  have hB2 : OB D X Y W T s2 := hB.to (fun _ _ => List.not_mem_nil) t2 (fun g hg => i2 g (by omega) (by unfold stf; omega)) (fun g hg => q2 g (by unfold stf; omega)) (congrFun qq2 _) (fun j hj htj => by rw [a2]; exact hB.2.2.2.2.2.2.2.2.2.2.2.2.2.2.2.1 j hj htj)
  have hsw2 : Sw G s2 := ⟨(t2 _ (by rw [hAI.2.2.2.1.1]; decide)).trans hAI.2.2.2.1.1, by rw [a2]; exact hAI.2.2.2.1.2.1, by rw [a2]; exact hAI.2.2.2.1.2.2⟩
  have hS2 : ∀ j, j < dn D → Sy D X Y s2 j := fun j hj => ⟨by rw [q2 504 (by unfold stf; omega)]; exact (hAI.2.2.1 j hj).1, (t2 _ (by rw [(hAI.2.2.1 j hj).2.1]; decide)).trans (hAI.2.2.1 j hj).2.1, by rw [a2]; exact (hAI.2.2.1 j hj).2.2⟩
  have pe : ∀ j, j < dn D → ∀ g, (g < 500 ∨ 700 ≤ g) → zI s2 g (xpl X false j) = zI σ g (xpl X false j) := fun j hj g hg => (eo2 _ (Or.inr (Or.inr (Or.inl ⟨j, hj, rfl⟩))) g hg).1
  have hRz : Rz G D X Y W T LL fr LL2 fr2 s2 := by
    refine ⟨⟨hB2, AI.of hD hN2 hS2 hsw2, hN2.l, hJ, hN2.dep, hl1.eo t2 eo2, r2.2.1.mo (fun _ _ => trivial), fun a ha q => r2.2.1.lo q (Or.inr (Or.inr (Or.inr (Or.inr ha)))), hb1.eo eo2, b2, by rw [i2 513 (by decide) (by unfold stf; omega)]; exact hca⟩, hN2, hR.eo hN2 t2 eo2, fun j hj htj => ?_, (pe 0 hD.1 703 (by decide)).trans e703, ?_, (pe 0 hD.1 715 (by decide)).trans e715, (pe 0 hD.1 716 (by decide)).trans e716⟩
    · have := hsd j hj htj
      unfold Sd at this ⊢
      rw [pe j hj 705 (by decide), pe j hj 706 (by decide)]
      exact this
    · rw [i2 601 (by decide) (by unfold stf; omega)]; exact e601
  have hFo : Fo X Y (dn D) σ s2 := ⟨t2, fun a _ _ => by rw [a2]⟩
  refine zp_pop dX12_fromNothing_69 rfl ?_
  refine zp_aload_n dX12_fromNothing_70 rfl (a := (xnd X k)) (List.mem_of_getElem? (i := 0) rfl) ?_
  refine zp_iload_n dX12_fromNothing_71 rfl (x := 0) (List.mem_of_getElem? (i := 3) rfl) ?_
  refine zp_aload_n dX12_fromNothing_72 rfl (a := (xob Y)) (List.mem_of_getElem? (i := 1) rfl) ?_
  refine zp_getRv dX12_fromNothing_73 fl_X12_45 hB2.1 (b := (xLy X true)) hB2.2.2.2.2.1 ?_
  refine zp_callS (st := []) (mc2 := 0) (ms2 := 0) dX12_fromNothing_76 (c_X12_sideOfT l G (fun a => ¬ ownP X D false LL fr a) D X true (LSt D W) LL2 fr2 k _ hD r2 b2 hk ht hw (ls_met hD hk).1 ⟨(ls_met hD (k := dpar D k) (by have := hpk; omega)).1, ((ls_met hD (k := dpar D k) (by have := hpk; omega)).2 hpk.2).1⟩) cl_X12_144 st_X12_sideOf rfl rfl (by omega) (by omega) (by omega) (Nat.le_of_ble_eq_true rfl) ?_
  rintro _ s3 ⟨⟨Lq, rfl, hLq⟩, hs3⟩; obtain rfl := hs3.symm
  refine zp_l2iv dX12_fromNothing_79 (v := (sa (LSt D W) k)) hLq ?_
  refine zp_iret rfl dX12_fromNothing_80 ?_
  exact ⟨rfl, LL2, fr2, hRz, hFo⟩

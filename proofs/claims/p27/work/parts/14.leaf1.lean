/-! LEAVES: methods without loops (by wip/p27/gen_leaf1.py) -/
/-- the greater one, the lesser one -/
def mx (x y : Int32) : Int32 := if x < y then y else x
def mn (x y : Int32) : Int32 := if y < x then y else x
theorem zin {x : Int32} {n : Nat} (h : (!(decide (x < 0) || decide (n ≤ x.toNatClampNeg))) = true) : vp_in x n := fun q => by
  rcases q with q | q
  · rw [decide_eq_true q] at h; exact absurd h (by simp)
  · rw [decide_eq_true q] at h; exact absurd h (by simp)
/-- so many hundredths -/
def pt (w p : Int32) : Int32 := ((w.toInt64 * p.toInt64) / (100 : Int32).toInt64).toInt32
def wIn (g w left : Int32) : Int32 := if g < 1000 then (if g < 0 then mx 0 left else g) else pt w (g - 1000)
def hIn (g known : Int32) : Int32 := if g < 1000 then (if g < 0 then -1 else g) else (if known < 0 then -1 else pt known (g - 1000))
set_option maxRecDepth 100000 in
set_option maxHeartbeats 4000000 in
theorem c_X1_init (l : Launch) (G : Gb) (a : Nat) (σ : Sto) : Ct l G 1 0 0 yX1_init mX1_init [.ref a] σ (fun v s => v = none ∧ s = σ) := by
  refine Ct.of (by decide) rfl (Nat.le_of_ble_eq_true rfl) (fun _ => rfl) ?_
  show Wp l G 1 0 0 (RX1, cX1_init, 1, none, true) 0 [(0, .ref a)] [] σ _
  refine zp_aload_n dX1_init_0 rfl (a := a) (List.mem_of_getElem? (i := 0) rfl) ?_
  refine zp_objInit dX1_init_1 wd_50 wd_28 wd_29 (by decide) (Nat.le_of_ble_eq_true rfl) ?_
  refine zp_vret rfl dX1_init_4 ?_
  exact ⟨rfl, rfl⟩
set_option maxRecDepth 100000 in
set_option maxHeartbeats 4000000 in
theorem c_X2_init (l : Launch) (G : Gb) (a : Nat) (σ : Sto) : Ct l G 1 0 0 yX2_init mX2_init [.ref a] σ (fun v s => v = none ∧ s = σ) := by
  refine Ct.of (by decide) rfl (Nat.le_of_ble_eq_true rfl) (fun _ => rfl) ?_
  show Wp l G 1 0 0 (RX2, cX2_init, 1, none, true) 0 [(0, .ref a)] [] σ _
  refine zp_aload_n dX2_init_0 rfl (a := a) (List.mem_of_getElem? (i := 0) rfl) ?_
  refine zp_objInit dX2_init_1 wd_385 wd_28 wd_29 (by decide) (Nat.le_of_ble_eq_true rfl) ?_
  refine zp_vret rfl dX2_init_4 ?_
  exact ⟨rfl, rfl⟩
set_option maxRecDepth 100000 in
set_option maxHeartbeats 4000000 in
theorem c_X5_init (l : Launch) (G : Gb) (a : Nat) (σ : Sto) : Ct l G 1 0 0 yX5_init mX5_init [.ref a] σ (fun v s => v = none ∧ s = σ) := by
  refine Ct.of (by decide) rfl (Nat.le_of_ble_eq_true rfl) (fun _ => rfl) ?_
  show Wp l G 1 0 0 (RX5, cX5_init, 1, none, true) 0 [(0, .ref a)] [] σ _
  refine zp_aload_n dX5_init_0 rfl (a := a) (List.mem_of_getElem? (i := 0) rfl) ?_
  refine zp_objInit dX5_init_1 wd_734 wd_28 wd_29 (by decide) (Nat.le_of_ble_eq_true rfl) ?_
  refine zp_vret rfl dX5_init_4 ?_
  exact ⟨rfl, rfl⟩
set_option maxRecDepth 100000 in
set_option maxHeartbeats 4000000 in
theorem c_X11_init (l : Launch) (G : Gb) (a : Nat) (σ : Sto) : Ct l G 1 0 0 yX11_init mX11_init [.ref a] σ (fun v s => v = none ∧ s = σ) := by
  refine Ct.of (by decide) rfl (Nat.le_of_ble_eq_true rfl) (fun _ => rfl) ?_
  show Wp l G 1 0 0 (RX11, cX11_init, 1, none, true) 0 [(0, .ref a)] [] σ _
  refine zp_aload_n dX11_init_0 rfl (a := a) (List.mem_of_getElem? (i := 0) rfl) ?_
  refine zp_objInit dX11_init_1 wd_91 wd_28 wd_29 (by decide) (Nat.le_of_ble_eq_true rfl) ?_
  refine zp_vret rfl dX11_init_4 ?_
  exact ⟨rfl, rfl⟩
set_option maxRecDepth 100000 in
set_option maxHeartbeats 4000000 in
theorem c_X2_pend (l : Launch) (G : Gb) (F n : Nat) (m : Int32) (σ : Sto) (hF : zT σ F = (2, n)) : Ct l G 1 0 0 yX2_pend mX2_pend [.ref F, .int m] σ (fun v s => v = none ∧ s = wI (wI σ 201 F (mx (zI σ 201 F) m)) 202 F (mn (zI σ 202 F) m)) := by
  refine Ct.of (by decide) rfl (Nat.le_of_ble_eq_true rfl) (fun h => absurd h (by decide)) ?_
  show Wp l G 1 0 0 (RX2, cX2_pend, 2, none, false) 0 [(0, .ref F), (1, .int m)] [] σ _
  refine zp_aload_n dX2_pend_0 rfl (a := F) (List.mem_of_getElem? (i := 0) rfl) ?_
  refine zp_aload_n dX2_pend_1 rfl (a := F) (List.mem_of_getElem? (i := 0) rfl) ?_
  refine zp_getIv dX2_pend_2 fl_X2_15 hF (v := (zI σ 201 F)) rfl ?_
  refine zp_iload_n dX2_pend_5 rfl (x := m) (List.mem_of_getElem? (i := 1) rfl) ?_
  refine zp_max dX2_pend_6 wd_703 wd_515 wd_14 wd_516 (by decide) (Nat.le_of_ble_eq_true rfl) (v := mx (zI σ 201 F) m) rfl ?_
  refine zp_putI dX2_pend_9 fl_X2_15 hF ?_
  refine zp_aload_n dX2_pend_12 rfl (a := F) (List.mem_of_getElem? (i := 0) rfl) ?_
  refine zp_aload_n dX2_pend_13 rfl (a := F) (List.mem_of_getElem? (i := 0) rfl) ?_
  refine zp_getIv dX2_pend_14 fl_X2_18 (tI hF) (v := (zI σ 202 F)) (rIn (by decide)) ?_
  refine zp_iload_n dX2_pend_17 rfl (x := m) (List.mem_of_getElem? (i := 1) rfl) ?_
  refine zp_min dX2_pend_18 wd_708 wd_614 wd_14 wd_615 (by decide) (Nat.le_of_ble_eq_true rfl) (v := mn (zI σ 202 F) m) rfl ?_
  refine zp_putI dX2_pend_21 fl_X2_18 (tI hF) ?_
  refine zp_vret rfl dX2_pend_24 ?_
  exact ⟨rfl, rfl⟩
set_option maxRecDepth 100000 in
set_option maxHeartbeats 4000000 in
theorem c_X2_pendingY (l : Launch) (G : Gb) (F n : Nat) (σ : Sto) (hF : zT σ F = (2, n)) : Ct l G 1 0 0 yX2_pendingY mX2_pendingY [.ref F] σ (fun v s => v = some (.int ((zI σ 200 F + zI σ 201 F) + zI σ 202 F)) ∧ s = σ) := by
  refine Ct.of (by decide) rfl (Nat.le_of_ble_eq_true rfl) (fun h => absurd h (by decide)) ?_
  show Wp l G 1 0 0 (RX2, cX2_pendingY, 1, (some .int), false) 0 [(0, .ref F)] [] σ _
  refine zp_aload_n dX2_pendingY_0 rfl (a := F) (List.mem_of_getElem? (i := 0) rfl) ?_
  refine zp_getIv dX2_pendingY_1 fl_X2_9 hF (v := (zI σ 200 F)) rfl ?_
  refine zp_aload_n dX2_pendingY_4 rfl (a := F) (List.mem_of_getElem? (i := 0) rfl) ?_
  refine zp_getIv dX2_pendingY_5 fl_X2_15 hF (v := (zI σ 201 F)) rfl ?_
  refine zp_iadd dX2_pendingY_8 ?_
  refine zp_aload_n dX2_pendingY_9 rfl (a := F) (List.mem_of_getElem? (i := 0) rfl) ?_
  refine zp_getIv dX2_pendingY_10 fl_X2_18 hF (v := (zI σ 202 F)) rfl ?_
  refine zp_iadd dX2_pendingY_13 ?_
  refine zp_iret rfl dX2_pendingY_14 ?_
  exact ⟨rfl, rfl⟩
set_option maxRecDepth 100000 in
set_option maxHeartbeats 4000000 in
theorem c_X2_dropMargins (l : Launch) (G : Gb) (F n : Nat) (σ : Sto) (hF : zT σ F = (2, n)) : Ct l G 1 0 0 yX2_dropMargins mX2_dropMargins [.ref F] σ (fun v s => v = none ∧ s = wI (wI σ 201 F 0) 202 F 0) := by
  refine Ct.of (by decide) rfl (Nat.le_of_ble_eq_true rfl) (fun h => absurd h (by decide)) ?_
  show Wp l G 1 0 0 (RX2, cX2_dropMargins, 1, none, false) 0 [(0, .ref F)] [] σ _
  refine zp_aload_n dX2_dropMargins_0 rfl (a := F) (List.mem_of_getElem? (i := 0) rfl) ?_
  refine zp_iconst dX2_dropMargins_1 (v := 0) (by decide) ?_
  refine zp_putI dX2_dropMargins_2 fl_X2_15 hF ?_
  refine zp_aload_n dX2_dropMargins_5 rfl (a := F) (List.mem_of_getElem? (i := 0) rfl) ?_
  refine zp_iconst dX2_dropMargins_6 (v := 0) (by decide) ?_
  refine zp_putI dX2_dropMargins_7 fl_X2_18 (tI hF) ?_
  refine zp_vret rfl dX2_dropMargins_10 ?_
  exact ⟨rfl, rfl⟩
set_option maxRecDepth 100000 in
set_option maxHeartbeats 4000000 in
theorem c_X2_reachTo (l : Launch) (G : Gb) (F n : Nat) (m : Int32) (σ : Sto) (hF : zT σ F = (2, n)) : Ct l G 1 0 0 yX2_reachTo mX2_reachTo [.ref F, .int m] σ (fun v s => v = none ∧ s = wI σ 206 F (mx (zI σ 206 F) m)) := by
  refine Ct.of (by decide) rfl (Nat.le_of_ble_eq_true rfl) (fun h => absurd h (by decide)) ?_
  show Wp l G 1 0 0 (RX2, cX2_reachTo, 2, none, false) 0 [(0, .ref F), (1, .int m)] [] σ _
  refine zp_aload_n dX2_reachTo_0 rfl (a := F) (List.mem_of_getElem? (i := 0) rfl) ?_
  refine zp_aload_n dX2_reachTo_1 rfl (a := F) (List.mem_of_getElem? (i := 0) rfl) ?_
  refine zp_getIv dX2_reachTo_2 fl_X2_33 hF (v := (zI σ 206 F)) rfl ?_
  refine zp_iload_n dX2_reachTo_5 rfl (x := m) (List.mem_of_getElem? (i := 1) rfl) ?_
  refine zp_max dX2_reachTo_6 wd_703 wd_515 wd_14 wd_516 (by decide) (Nat.le_of_ble_eq_true rfl) (v := (if (zI σ 206 F) < m then m else (zI σ 206 F))) rfl ?_
  refine zp_putI dX2_reachTo_9 fl_X2_33 hF ?_
  refine zp_vret rfl dX2_reachTo_12 ?_
  exact ⟨rfl, rfl⟩
set_option maxRecDepth 100000 in
set_option maxHeartbeats 4000000 in
theorem c_X2_band (l : Launch) (G : Gb) (F n : Nat) (σ : Sto) (hF : zT σ F = (2, n)) : Ct l G 1 0 0 yX2_band mX2_band [.ref F] σ (fun v s => v = some (.int (zI σ 210 F - zI σ 209 F)) ∧ s = σ) := by
  refine Ct.of (by decide) rfl (Nat.le_of_ble_eq_true rfl) (fun h => absurd h (by decide)) ?_
  show Wp l G 1 0 0 (RX2, cX2_band, 1, (some .int), false) 0 [(0, .ref F)] [] σ _
  refine zp_aload_n dX2_band_0 rfl (a := F) (List.mem_of_getElem? (i := 0) rfl) ?_
  refine zp_getIv dX2_band_1 fl_X2_100 hF (v := (zI σ 210 F)) rfl ?_
  refine zp_aload_n dX2_band_4 rfl (a := F) (List.mem_of_getElem? (i := 0) rfl) ?_
  refine zp_getIv dX2_band_5 fl_X2_94 hF (v := (zI σ 209 F)) rfl ?_
  refine zp_isub dX2_band_8 ?_
  refine zp_iret rfl dX2_band_9 ?_
  exact ⟨rfl, rfl⟩
def zoff (σ : Sto) (F : Nat) : Int32 := if zI σ 213 F = 0 then 0 else zI σ 214 F + 1
set_option maxRecDepth 100000 in
set_option maxHeartbeats 4000000 in
theorem c_X2_nextOffset (l : Launch) (G : Gb) (F n : Nat) (σ : Sto) (hF : zT σ F = (2, n)) : Ct l G 1 0 0 yX2_nextOffset mX2_nextOffset [.ref F] σ (fun v s => v = some (.int (zoff σ F)) ∧ s = σ) := by
  refine Ct.of (by decide) rfl (Nat.le_of_ble_eq_true rfl) (fun h => absurd h (by decide)) ?_
  show Wp l G 1 0 0 (RX2, cX2_nextOffset, 1, (some .int), false) 0 [(0, .ref F)] [] σ _
  refine zp_aload_n dX2_nextOffset_0 rfl (a := F) (List.mem_of_getElem? (i := 0) rfl) ?_
  refine zp_getIv dX2_nextOffset_1 fl_X2_40 hF (v := (zI σ 213 F)) rfl ?_
  refine zp_if_ne dX2_nextOffset_4 (tgt := 11) rfl (fun h4 => ?_) (fun h4 => ?_)
  · skip
    refine zp_aload_n dX2_nextOffset_11 rfl (a := F) (List.mem_of_getElem? (i := 0) rfl) ?_
    refine zp_getIv dX2_nextOffset_12 fl_X2_43 hF (v := (zI σ 214 F)) rfl ?_
    refine zp_iconst dX2_nextOffset_15 (v := 1) (by decide) ?_
    refine zp_iadd dX2_nextOffset_16 ?_
    refine zp_iret rfl dX2_nextOffset_17 ?_
    exact ⟨by simp [zoff, h4], rfl⟩
  · skip
    refine zp_iconst dX2_nextOffset_7 (v := 0) (by decide) ?_
    refine zp_goto dX2_nextOffset_8 (tgt := 17) rfl ?_
    refine zp_iret rfl dX2_nextOffset_17 ?_
    exact ⟨by simp [zoff, h4], rfl⟩
set_option maxRecDepth 100000 in
set_option maxHeartbeats 4000000 in
theorem c_X2_fits (l : Launch) (G : Gb) (F n : Nat) (m : Int32) (σ : Sto) (hF : zT σ F = (2, n)) : Ct l G 2 0 0 yX2_fits mX2_fits [.ref F, .int m] σ (fun v s => v = some (.int (zb (zoff σ F + m ≤ zI σ 210 F - zI σ 209 F))) ∧ s = σ) := by
  refine Ct.of (by decide) rfl (Nat.le_of_ble_eq_true rfl) (fun h => absurd h (by decide)) ?_
  show Wp l G 2 0 0 (RX2, cX2_fits, 2, (some .boolean), false) 0 [(0, .ref F), (1, .int m)] [] σ _
  refine zp_aload_n dX2_fits_0 rfl (a := F) (List.mem_of_getElem? (i := 0) rfl) ?_
  refine zp_callV (c0 := 1) (st := []) (mc2 := 0) (ms2 := 0) dX2_fits_1 (c_X2_nextOffset l G F n _ hF) cl_X2_133 im_X2_nextOffset se_X2_nextOffset rfl rfl hF rfl rfl (by omega) (by omega) (by omega) (Nat.le_of_ble_eq_true rfl) ?_
  rintro _ s1 ⟨rfl, hs1⟩; obtain rfl := hs1.symm
  refine zp_iload_n dX2_fits_4 rfl (x := m) (List.mem_of_getElem? (i := 1) rfl) ?_
  refine zp_iadd dX2_fits_5 ?_
  refine zp_aload_n dX2_fits_6 rfl (a := F) (List.mem_of_getElem? (i := 0) rfl) ?_
  refine zp_callV (c0 := 1) (st := [.int ((zoff σ F) + m)]) (mc2 := 0) (ms2 := 0) dX2_fits_7 (c_X2_band l G F n _ hF) cl_X2_118 im_X2_band se_X2_band rfl rfl hF rfl rfl (by omega) (by omega) (by omega) (Nat.le_of_ble_eq_true rfl) ?_
  rintro _ s1 ⟨rfl, hs1⟩; obtain rfl := hs1.symm
  refine zp_icmp_gt dX2_fits_10 (tgt := 17) rfl (fun h10 => ?_) (fun h10 => ?_)
  · skip
    refine zp_iconst dX2_fits_17 (v := 0) (by decide) ?_
    refine zp_zret rfl (Or.inl rfl) dX2_fits_18 ?_
    exact ⟨by rw [zb_f]; exact Int32.not_le.mpr h10, rfl⟩
  · skip
    refine zp_iconst dX2_fits_13 (v := 1) (by decide) ?_
    refine zp_goto dX2_fits_14 (tgt := 18) rfl ?_
    refine zp_zret rfl (Or.inr rfl) dX2_fits_18 ?_
    exact ⟨by rw [zb_t]; exact Int32.not_lt.mp h10, rfl⟩
set_option maxRecDepth 100000 in
set_option maxHeartbeats 4000000 in
theorem c_X2_begin (l : Launch) (G : Gb) (F n : Nat) (σ : Sto) (hF : zT σ F = (2, n)) : Ct l G 1 0 0 yX2_begin mX2_begin [.ref F] σ (fun v s => v = none ∧ s = wR (wR (wI (wI (wR (wI (wR (wR (wR (wI (wI (wI σ 200 F 0) 201 F 0) 202 F 0) 203 F none) 204 F none) 205 F none) 206 F (-1000000)) 212 F none) 213 F 0) 214 F 0) 218 F none) 219 F none) := by
  refine Ct.of (by decide) rfl (Nat.le_of_ble_eq_true rfl) (fun h => absurd h (by decide)) ?_
  show Wp l G 1 0 0 (RX2, cX2_begin, 1, none, false) 0 [(0, .ref F)] [] σ _
  refine zp_aload_n dX2_begin_0 rfl (a := F) (List.mem_of_getElem? (i := 0) rfl) ?_
  refine zp_iconst dX2_begin_1 (v := 0) (by decide) ?_
  refine zp_putI dX2_begin_2 fl_X2_9 hF ?_
  refine zp_aload_n dX2_begin_5 rfl (a := F) (List.mem_of_getElem? (i := 0) rfl) ?_
  refine zp_iconst dX2_begin_6 (v := 0) (by decide) ?_
  refine zp_putI dX2_begin_7 fl_X2_15 (tI hF) ?_
  refine zp_aload_n dX2_begin_10 rfl (a := F) (List.mem_of_getElem? (i := 0) rfl) ?_
  refine zp_iconst dX2_begin_11 (v := 0) (by decide) ?_
  refine zp_putI dX2_begin_12 fl_X2_18 (tI (tI hF)) ?_
  refine zp_aload_n dX2_begin_15 rfl (a := F) (List.mem_of_getElem? (i := 0) rfl) ?_
  refine zp_null dX2_begin_16 ?_
  refine zp_putR dX2_begin_17 fl_X2_21 (tI (tI (tI hF))) (r := none) rfl ?_
  refine zp_aload_n dX2_begin_20 rfl (a := F) (List.mem_of_getElem? (i := 0) rfl) ?_
  refine zp_null dX2_begin_21 ?_
  refine zp_putR dX2_begin_22 fl_X2_25 (tR (tI (tI (tI hF)))) (r := none) rfl ?_
  refine zp_aload_n dX2_begin_25 rfl (a := F) (List.mem_of_getElem? (i := 0) rfl) ?_
  refine zp_null dX2_begin_26 ?_
  refine zp_putR dX2_begin_27 fl_X2_29 (tR (tR (tI (tI (tI hF))))) (r := none) rfl ?_
  refine zp_aload_n dX2_begin_30 rfl (a := F) (List.mem_of_getElem? (i := 0) rfl) ?_
  refine zp_ldc dX2_begin_31 wd_648 ?_
  refine zp_putI dX2_begin_33 fl_X2_33 (tR (tR (tR (tI (tI (tI hF)))))) ?_
  refine zp_aload_n dX2_begin_36 rfl (a := F) (List.mem_of_getElem? (i := 0) rfl) ?_
  refine zp_null dX2_begin_37 ?_
  refine zp_putR dX2_begin_38 fl_X2_36 (tI (tR (tR (tR (tI (tI (tI hF))))))) (r := none) rfl ?_
  refine zp_aload_n dX2_begin_41 rfl (a := F) (List.mem_of_getElem? (i := 0) rfl) ?_
  refine zp_iconst dX2_begin_42 (v := 0) (by decide) ?_
  refine zp_putI dX2_begin_43 fl_X2_40 (tR (tI (tR (tR (tR (tI (tI (tI hF)))))))) ?_
  refine zp_aload_n dX2_begin_46 rfl (a := F) (List.mem_of_getElem? (i := 0) rfl) ?_
  refine zp_iconst dX2_begin_47 (v := 0) (by decide) ?_
  refine zp_putI dX2_begin_48 fl_X2_43 (tI (tR (tI (tR (tR (tR (tI (tI (tI hF))))))))) ?_
  refine zp_aload_n dX2_begin_51 rfl (a := F) (List.mem_of_getElem? (i := 0) rfl) ?_
  refine zp_null dX2_begin_52 ?_
  refine zp_putR dX2_begin_53 fl_X2_46 (tI (tI (tR (tI (tR (tR (tR (tI (tI (tI hF)))))))))) (r := none) rfl ?_
  refine zp_aload_n dX2_begin_56 rfl (a := F) (List.mem_of_getElem? (i := 0) rfl) ?_
  refine zp_null dX2_begin_57 ?_
  refine zp_putR dX2_begin_58 fl_X2_49 (tR (tI (tI (tR (tI (tR (tR (tR (tI (tI (tI hF))))))))))) (r := none) rfl ?_
  refine zp_vret rfl dX2_begin_61 ?_
  exact ⟨rfl, rfl⟩
set_option maxRecDepth 100000 in
set_option maxHeartbeats 4000000 in
theorem c_X2_look (l : Launch) (G : Gb) (F n : Nat) (a b : Int32) (σ : Sto) (hF : zT σ F = (2, n)) (h0 : zR σ 204 F = none) : Ct l G 1 0 0 yX2_look mX2_look [.ref F, .int a, .int b] σ (fun v s => v = none ∧ s = wI (wI (wI σ 209 F (zI σ 207 F)) 210 F (zI σ 207 F + zI σ 208 F)) 211 F 0) := by
  refine Ct.of (by decide) rfl (Nat.le_of_ble_eq_true rfl) (fun h => absurd h (by decide)) ?_
  show Wp l G 1 0 0 (RX2, cX2_look, 5, none, false) 0 [(0, .ref F), (1, .int a), (2, .int b)] [] σ _
  refine zp_iload_n dX2_look_0 rfl (x := b) (List.mem_of_getElem? (i := 2) rfl) ?_
  refine zp_iload_n dX2_look_1 rfl (x := a) (List.mem_of_getElem? (i := 1) rfl) ?_
  refine zp_iconst dX2_look_2 (v := 1) (by decide) ?_
  refine zp_iadd dX2_look_3 ?_
  refine zp_max dX2_look_4 wd_703 wd_515 wd_14 wd_516 (by decide) (Nat.le_of_ble_eq_true rfl) (v := (if b < (a + 1) then (a + 1) else b)) rfl ?_
  refine zp_topi (fun v7 hv7 => ?_)
  refine zp_istore_n dX2_look_7 rfl (Nat.le_of_ble_eq_true rfl) (lv2 := [(3, .int v7), (0, .ref F), (1, .int a), (2, .int b)]) rfl ?_
  refine zp_aload_n dX2_look_8 rfl (a := F) (List.mem_of_getElem? (i := 1) rfl) ?_
  refine zp_aload_n dX2_look_9 rfl (a := F) (List.mem_of_getElem? (i := 1) rfl) ?_
  refine zp_getIv dX2_look_10 fl_X2_91 hF (v := (zI σ 207 F)) rfl ?_
  refine zp_putI dX2_look_13 fl_X2_94 hF ?_
  refine zp_aload_n dX2_look_16 rfl (a := F) (List.mem_of_getElem? (i := 1) rfl) ?_
  refine zp_aload_n dX2_look_17 rfl (a := F) (List.mem_of_getElem? (i := 1) rfl) ?_
  refine zp_getIv dX2_look_18 fl_X2_91 (tI hF) (v := (zI σ 207 F)) (rIn (by decide)) ?_
  refine zp_aload_n dX2_look_21 rfl (a := F) (List.mem_of_getElem? (i := 1) rfl) ?_
  refine zp_getIv dX2_look_22 fl_X2_97 (tI hF) (v := (zI σ 208 F)) (rIn (by decide)) ?_
  refine zp_iadd dX2_look_25 ?_
  refine zp_putI dX2_look_26 fl_X2_100 (tI hF) ?_
  refine zp_aload_n dX2_look_29 rfl (a := F) (List.mem_of_getElem? (i := 1) rfl) ?_
  refine zp_iconst dX2_look_30 (v := 0) (by decide) ?_
  refine zp_putZ dX2_look_31 fl_X2_103 (tI (tI hF)) (Or.inl rfl) ?_
  refine zp_aload_n dX2_look_34 rfl (a := F) (List.mem_of_getElem? (i := 1) rfl) ?_
  refine zp_getRo dX2_look_35 fl_X2_25 (tI (tI (tI hF))) (r := none) (rRI.trans (rRI.trans (rRI.trans h0))) ?_
  refine zp_astoreo dX2_look_38 (Nat.le_of_ble_eq_true rfl) (r := none) (v := .null) rfl (lv2 := [(4, .null), (3, .int v7), (0, .ref F), (1, .int a), (2, .int b)]) rfl ?_
  refine zp_aloado dX2_look_40 (r := none) (v := .null) rfl (List.mem_of_getElem? (i := 0) rfl) ?_
  refine zp_nullT dX2_look_42 (tgt := 121) rfl ?_
  refine zp_vret rfl dX2_look_121 ?_
  exact ⟨rfl, rfl⟩
set_option maxRecDepth 100000 in
set_option maxHeartbeats 4000000 in
theorem c_X2_contentHeight (l : Launch) (G : Gb) (F n : Nat) (σ : Sto) (hF : zT σ F = (2, n)) (h0 : zR σ 204 F = none) : Ct l G 1 0 0 yX2_contentHeight mX2_contentHeight [.ref F] σ (fun v s => v = some (.int (mx 0 (zI σ 200 F))) ∧ s = σ) := by
  refine Ct.of (by decide) rfl (Nat.le_of_ble_eq_true rfl) (fun h => absurd h (by decide)) ?_
  show Wp l G 1 0 0 (RX2, cX2_contentHeight, 3, (some .int), false) 0 [(0, .ref F)] [] σ _
  refine zp_iconst dX2_contentHeight_0 (v := 0) (by decide) ?_
  refine zp_aload_n dX2_contentHeight_1 rfl (a := F) (List.mem_of_getElem? (i := 0) rfl) ?_
  refine zp_getIv dX2_contentHeight_2 fl_X2_9 hF (v := (zI σ 200 F)) rfl ?_
  refine zp_max dX2_contentHeight_5 wd_703 wd_515 wd_14 wd_516 (by decide) (Nat.le_of_ble_eq_true rfl) (v := mx 0 (zI σ 200 F)) rfl ?_
  refine zp_istore_n dX2_contentHeight_8 rfl (Nat.le_of_ble_eq_true rfl) (lv2 := [(1, .int (mx 0 (zI σ 200 F))), (0, .ref F)]) rfl ?_
  refine zp_aload_n dX2_contentHeight_9 rfl (a := F) (List.mem_of_getElem? (i := 1) rfl) ?_
  refine zp_getRo dX2_contentHeight_10 fl_X2_25 hF (r := none) h0 ?_
  refine zp_astoreo_n dX2_contentHeight_13 rfl (Nat.le_of_ble_eq_true rfl) (r := none) (v := .null) rfl (lv2 := [(2, .null), (1, .int (mx 0 (zI σ 200 F))), (0, .ref F)]) rfl ?_
  refine zp_aloado_n dX2_contentHeight_14 rfl (r := none) (v := .null) rfl (List.mem_of_getElem? (i := 0) rfl) ?_
  refine zp_nullT dX2_contentHeight_15 (tgt := 35) rfl ?_
  refine zp_iload_n dX2_contentHeight_35 rfl (x := mx 0 (zI σ 200 F)) (List.mem_of_getElem? (i := 1) rfl) ?_
  refine zp_iret rfl dX2_contentHeight_36 ?_
  exact ⟨rfl, rfl⟩
set_option maxRecDepth 100000 in
set_option maxHeartbeats 4000000 in
theorem c_X2_clearFloats (l : Launch) (G : Gb) (F : Nat) (σ : Sto) : Ct l G 1 0 0 yX2_clearFloats mX2_clearFloats [.ref F, .int 0] σ (fun v s => v = none ∧ s = σ) := by
  refine Ct.of (by decide) rfl (Nat.le_of_ble_eq_true rfl) (fun h => absurd h (by decide)) ?_
  show Wp l G 1 0 0 (RX2, cX2_clearFloats, 5, none, false) 0 [(0, .ref F), (1, .int 0)] [] σ _
  refine zp_iload_n dX2_clearFloats_0 rfl (x := 0) (List.mem_of_getElem? (i := 1) rfl) ?_
  refine zp_if_ne dX2_clearFloats_1 (tgt := 5) rfl (fun q => absurd rfl q) (fun _ => ?_)
  refine zp_vret rfl dX2_clearFloats_4 ?_
  exact ⟨rfl, rfl⟩
set_option maxRecDepth 100000 in
set_option maxHeartbeats 4000000 in
theorem c_X3_isInLines (l : Launch) (G : Gb) (i : Nat) (hi : i < 9) (σ : Sto) : Ct l G 1 0 0 yX3_isInLines mX3_isInLines [.ref (G.2.2.1 i)] σ (fun v s => v = some (.int (zb (i = 7 ∨ i = 1 ∨ i = 2))) ∧ s = σ) := by
  refine Ct.of (by decide) rfl (Nat.le_of_ble_eq_true rfl) (fun h => absurd h (by decide)) ?_
  show Wp l G 1 0 0 (RX3, cX3_isInLines, 1, (some .boolean), false) 0 [(0, .ref (G.2.2.1 i))] [] σ _
  refine zp_kin (fun hkin => ?_)
  refine zp_aload_n dX3_isInLines_0 rfl (a := (G.2.2.1 i)) (List.mem_of_getElem? (i := 0) rfl) ?_
  refine zp_kind (i := 7) dX3_isInLines_1 (by decide) rfl wd_592 ?_
  refine zp_acmp_eq (rx := (some (G.2.2.1 i))) (ry := (some (G.2.2.1 7))) dX3_isInLines_4 (tgt := 21) rfl rfl rfl (fun h4 => ?_) (fun h4 => ?_)
  · skip
    refine zp_iconst dX3_isInLines_21 (v := 1) (by decide) ?_
    refine zp_goto dX3_isInLines_22 (tgt := 26) rfl ?_
    refine zp_zret rfl (Or.inr rfl) dX3_isInLines_26 ?_
    exact ⟨by rw [zb_t]; first | exact Or.inl (hkin _ _ hi (by decide) (Option.some.inj h4)) | exact Or.inr (Or.inl (hkin _ _ hi (by decide) (Option.some.inj h11))) | exact Or.inr (Or.inr (hkin _ _ hi (by decide) (Option.some.inj h18))), rfl⟩
  · skip
    refine zp_aload_n dX3_isInLines_7 rfl (a := (G.2.2.1 i)) (List.mem_of_getElem? (i := 0) rfl) ?_
    refine zp_kind (i := 1) dX3_isInLines_8 (by decide) rfl wd_593 ?_
    refine zp_acmp_eq (rx := (some (G.2.2.1 i))) (ry := (some (G.2.2.1 1))) dX3_isInLines_11 (tgt := 21) rfl rfl rfl (fun h11 => ?_) (fun h11 => ?_)
    · skip
      refine zp_iconst dX3_isInLines_21 (v := 1) (by decide) ?_
      refine zp_goto dX3_isInLines_22 (tgt := 26) rfl ?_
      refine zp_zret rfl (Or.inr rfl) dX3_isInLines_26 ?_
      exact ⟨by rw [zb_t]; first | exact Or.inl (hkin _ _ hi (by decide) (Option.some.inj h4)) | exact Or.inr (Or.inl (hkin _ _ hi (by decide) (Option.some.inj h11))) | exact Or.inr (Or.inr (hkin _ _ hi (by decide) (Option.some.inj h18))), rfl⟩
    · skip
      refine zp_aload_n dX3_isInLines_14 rfl (a := (G.2.2.1 i)) (List.mem_of_getElem? (i := 0) rfl) ?_
      refine zp_kind (i := 2) dX3_isInLines_15 (by decide) rfl wd_594 ?_
      refine zp_acmp_ne (rx := (some (G.2.2.1 i))) (ry := (some (G.2.2.1 2))) dX3_isInLines_18 (tgt := 25) rfl rfl rfl (fun h18 => ?_) (fun h18 => ?_)
      · skip
        refine zp_iconst dX3_isInLines_25 (v := 0) (by decide) ?_
        refine zp_zret rfl (Or.inl rfl) dX3_isInLines_26 ?_
        exact ⟨by rw [zb_f]; rintro (rfl | rfl | rfl) <;> first | exact h4 rfl | exact h11 rfl | exact h18 rfl, rfl⟩
      · skip
        refine zp_iconst dX3_isInLines_21 (v := 1) (by decide) ?_
        refine zp_goto dX3_isInLines_22 (tgt := 26) rfl ?_
        refine zp_zret rfl (Or.inr rfl) dX3_isInLines_26 ?_
        exact ⟨by rw [zb_t]; first | exact Or.inl (hkin _ _ hi (by decide) (Option.some.inj h4)) | exact Or.inr (Or.inl (hkin _ _ hi (by decide) (Option.some.inj h11))) | exact Or.inr (Or.inr (hkin _ _ hi (by decide) (Option.some.inj h18))), rfl⟩
set_option maxRecDepth 100000 in
set_option maxHeartbeats 4000000 in
theorem c_ordinal (l : Launch) (G : Gb) (i : Nat) (hi : i < 9) (σ : Sto) : Ct l G 1 0 0 yJx29ce0_ordinal_8abf5 mJx29ce0_ordinal_8abf5 [.ref (G.2.2.1 i)] σ (fun v s => v = some (.int (([0, 1, 2, 3, 4, 5, 6, 7, 8] : List Int32).getD i 0)) ∧ s = σ) := by
  refine Ct.of (by decide) rfl (Nat.le_of_ble_eq_true rfl) (fun h => absurd h (by decide)) ?_
  show Wp l G 1 0 0 (RJx29ce0, cJx29ce0_ordinal_8abf5, 1, (some .int), false) 0 [(0, .ref (G.2.2.1 i))] [] σ _
  refine zp_aload_n dJx29ce0_ordinal_8abf5_0 rfl (a := (G.2.2.1 i)) (List.mem_of_getElem? (i := 0) rfl) ?_
  refine zp_ord dJx29ce0_ordinal_8abf5_1 hi rfl wd_1308 ?_
  refine zp_iret rfl dJx29ce0_ordinal_8abf5_4 ?_
  exact ⟨rfl, rfl⟩
set_option maxRecDepth 100000 in
set_option maxHeartbeats 4000000 in
theorem c_X7_isText (l : Launch) (G : Gb) (a n : Nat) (σ : Sto) (hA : zT σ a = (5, n)) : Ct l G 1 0 0 yX7_isText mX7_isText [.ref a] σ (fun v s => v = some (.int (zb (0 < zI σ 503 a))) ∧ s = σ) := by
  refine Ct.of (by decide) rfl (Nat.le_of_ble_eq_true rfl) (fun h => absurd h (by decide)) ?_
  show Wp l G 1 0 0 (RX7, cX7_isText, 1, (some .boolean), false) 0 [(0, .ref a)] [] σ _
  refine zp_aload_n dX7_isText_0 rfl (a := a) (List.mem_of_getElem? (i := 0) rfl) ?_
  refine zp_getIv dX7_isText_1 fl_X7_22 hA (v := (zI σ 503 a)) rfl ?_
  refine zp_if_le dX7_isText_4 (tgt := 11) rfl (fun h4 => ?_) (fun h4 => ?_)
  · skip
    refine zp_iconst dX7_isText_11 (v := 0) (by decide) ?_
    refine zp_zret rfl (Or.inl rfl) dX7_isText_12 ?_
    exact ⟨by rw [zb_f]; exact Int32.not_lt.mpr h4, rfl⟩
  · skip
    refine zp_iconst dX7_isText_7 (v := 1) (by decide) ?_
    refine zp_goto dX7_isText_8 (tgt := 12) rfl ?_
    refine zp_zret rfl (Or.inr rfl) dX7_isText_12 ?_
    exact ⟨by rw [zb_t]; exact Int32.not_le.mp h4, rfl⟩
set_option maxRecDepth 100000 in
set_option maxHeartbeats 4000000 in
theorem c_X7_holdsLines (l : Launch) (G : Gb) (a n : Nat) (σ : Sto) (hA : zT σ a = (5, n)) (h1 : zI σ 503 a = 0) (h2 : zI σ 515 a = 0) (h3 : zR σ 514 a = some (G.2.2.1 0)) : Ct l G 2 0 0 yX7_holdsLines mX7_holdsLines [.ref a] σ (fun v s => v = some (.int 1) ∧ s = σ) := by
  refine Ct.of (by decide) rfl (Nat.le_of_ble_eq_true rfl) (fun h => absurd h (by decide)) ?_
  show Wp l G 2 0 0 (RX7, cX7_holdsLines, 1, (some .boolean), false) 0 [(0, .ref a)] [] σ _
  refine zp_kin (fun hkin => ?_)
  refine zp_aload_n dX7_holdsLines_0 rfl (a := a) (List.mem_of_getElem? (i := 0) rfl) ?_
  refine zp_callV (c0 := 4) (st := []) (mc2 := 0) (ms2 := 0) dX7_holdsLines_1 (c_X7_isText l G a n _ hA) cl_X7_66 im_X7_isText se_X7_isText rfl rfl hA rfl rfl (by omega) (by omega) (by omega) (Nat.le_of_ble_eq_true rfl) ?_
  rintro _ s1 ⟨rfl, hs1⟩; obtain rfl := hs1.symm
  refine zp_ifb_ne dX7_holdsLines_4 (tgt := 38) rfl (fun q => absurd q (by rw [h1]; decide)) (fun _ => ?_)
  refine zp_aload_n dX7_holdsLines_7 rfl (a := a) (List.mem_of_getElem? (i := 0) rfl) ?_
  refine zp_getIv dX7_holdsLines_8 fl_X7_70 hA (v := 0) h2 ?_
  refine zp_if_ne dX7_holdsLines_11 (tgt := 38) rfl (fun q => absurd rfl q) (fun _ => ?_)
  refine zp_aload_n dX7_holdsLines_14 rfl (a := a) (List.mem_of_getElem? (i := 0) rfl) ?_
  refine zp_getRv dX7_holdsLines_15 fl_X7_63 hA (b := (G.2.2.1 0)) h3 ?_
  refine zp_kind (i := 1) dX7_holdsLines_18 (by decide) rfl wd_345 ?_
  refine zp_acmp_eq (rx := (some (G.2.2.1 0))) (ry := (some (G.2.2.1 1))) dX7_holdsLines_21 (tgt := 38) rfl rfl rfl (fun q => absurd q (fun q => absurd (hkin 0 1 (by decide) (by decide) (Option.some.inj q)) (by decide))) (fun _ => ?_)
  refine zp_aload_n dX7_holdsLines_24 rfl (a := a) (List.mem_of_getElem? (i := 0) rfl) ?_
  refine zp_getRv dX7_holdsLines_25 fl_X7_63 hA (b := (G.2.2.1 0)) h3 ?_
  refine zp_kind (i := 3) dX7_holdsLines_28 (by decide) rfl wd_331 ?_
  refine zp_acmp_eq (rx := (some (G.2.2.1 0))) (ry := (some (G.2.2.1 3))) dX7_holdsLines_31 (tgt := 38) rfl rfl rfl (fun q => absurd q (fun q => absurd (hkin 0 3 (by decide) (by decide) (Option.some.inj q)) (by decide))) (fun _ => ?_)
  refine zp_iconst dX7_holdsLines_34 (v := 1) (by decide) ?_
  refine zp_goto dX7_holdsLines_35 (tgt := 39) rfl ?_
  refine zp_zret rfl (Or.inr rfl) dX7_holdsLines_39 ?_
  exact ⟨rfl, rfl⟩
set_option maxRecDepth 100000 in
set_option maxHeartbeats 4000000 in
theorem c_X7_flatEdges (l : Launch) (G : Gb) (a n c : Nat) (σ : Sto) (hA : zT σ a = (5, n)) (hc : zR σ 505 a = some c) (hC : zT σ c = (20, 21)) : Ct l G 1 0 0 yX7_flatEdges mX7_flatEdges [.ref a] σ (fun v s => v = some (.int (zA σ c 13 + zA σ c 11)) ∧ s = σ) := by
  refine Ct.of (by decide) rfl (Nat.le_of_ble_eq_true rfl) (fun h => absurd h (by decide)) ?_
  show Wp l G 1 0 0 (RX7, cX7_flatEdges, 1, (some .int), false) 0 [(0, .ref a)] [] σ _
  refine zp_aload_n dX7_flatEdges_0 rfl (a := a) (List.mem_of_getElem? (i := 0) rfl) ?_
  refine zp_getRv dX7_flatEdges_1 fl_X7_29 hA (b := c) hc ?_
  refine zp_bipush dX7_flatEdges_4 (v := 13) (by decide) ?_
  refine zp_iald_v dX7_flatEdges_6 hC (Or.inl rfl) (j := 13) (by decide) (zin (by decide)) (v := (zA σ c 13)) rfl ?_
  refine zp_aload_n dX7_flatEdges_7 rfl (a := a) (List.mem_of_getElem? (i := 0) rfl) ?_
  refine zp_getRv dX7_flatEdges_8 fl_X7_29 hA (b := c) hc ?_
  refine zp_bipush dX7_flatEdges_11 (v := 11) (by decide) ?_
  refine zp_iald_v dX7_flatEdges_13 hC (Or.inl rfl) (j := 11) (by decide) (zin (by decide)) (v := (zA σ c 11)) rfl ?_
  refine zp_iadd dX7_flatEdges_14 ?_
  refine zp_iret rfl dX7_flatEdges_15 ?_
  exact ⟨rfl, rfl⟩
set_option maxRecDepth 100000 in
set_option maxHeartbeats 4000000 in
theorem c_X7_uprightEdges (l : Launch) (G : Gb) (a n c : Nat) (σ : Sto) (hA : zT σ a = (5, n)) (hc : zR σ 505 a = some c) (hC : zT σ c = (20, 21)) : Ct l G 1 0 0 yX7_uprightEdges mX7_uprightEdges [.ref a] σ (fun v s => v = some (.int (zA σ c 10 + zA σ c 12)) ∧ s = σ) := by
  refine Ct.of (by decide) rfl (Nat.le_of_ble_eq_true rfl) (fun h => absurd h (by decide)) ?_
  show Wp l G 1 0 0 (RX7, cX7_uprightEdges, 1, (some .int), false) 0 [(0, .ref a)] [] σ _
  refine zp_aload_n dX7_uprightEdges_0 rfl (a := a) (List.mem_of_getElem? (i := 0) rfl) ?_
  refine zp_getRv dX7_uprightEdges_1 fl_X7_29 hA (b := c) hc ?_
  refine zp_bipush dX7_uprightEdges_4 (v := 10) (by decide) ?_
  refine zp_iald_v dX7_uprightEdges_6 hC (Or.inl rfl) (j := 10) (by decide) (zin (by decide)) (v := (zA σ c 10)) rfl ?_
  refine zp_aload_n dX7_uprightEdges_7 rfl (a := a) (List.mem_of_getElem? (i := 0) rfl) ?_
  refine zp_getRv dX7_uprightEdges_8 fl_X7_29 hA (b := c) hc ?_
  refine zp_bipush dX7_uprightEdges_11 (v := 12) (by decide) ?_
  refine zp_iald_v dX7_uprightEdges_13 hC (Or.inl rfl) (j := 12) (by decide) (zin (by decide)) (v := (zA σ c 12)) rfl ?_
  refine zp_iadd dX7_uprightEdges_14 ?_
  refine zp_iret rfl dX7_uprightEdges_15 ?_
  exact ⟨rfl, rfl⟩
set_option maxRecDepth 100000 in
set_option maxHeartbeats 4000000 in
theorem c_X7_flatRim (l : Launch) (G : Gb) (a n c : Nat) (σ : Sto) (hA : zT σ a = (5, n)) (hc : zR σ 505 a = some c) (hC : zT σ c = (20, 21)) : Ct l G 1 0 0 yX7_flatRim mX7_flatRim [.ref a] σ (fun v s => v = some (.int (((zA σ c 9 + zA σ c 13) + zA σ c 11) + zA σ c 7)) ∧ s = σ) := by
  refine Ct.of (by decide) rfl (Nat.le_of_ble_eq_true rfl) (fun h => absurd h (by decide)) ?_
  show Wp l G 1 0 0 (RX7, cX7_flatRim, 1, (some .int), false) 0 [(0, .ref a)] [] σ _
  refine zp_aload_n dX7_flatRim_0 rfl (a := a) (List.mem_of_getElem? (i := 0) rfl) ?_
  refine zp_getRv dX7_flatRim_1 fl_X7_29 hA (b := c) hc ?_
  refine zp_bipush dX7_flatRim_4 (v := 9) (by decide) ?_
  refine zp_iald_v dX7_flatRim_6 hC (Or.inl rfl) (j := 9) (by decide) (zin (by decide)) (v := (zA σ c 9)) rfl ?_
  refine zp_aload_n dX7_flatRim_7 rfl (a := a) (List.mem_of_getElem? (i := 0) rfl) ?_
  refine zp_getRv dX7_flatRim_8 fl_X7_29 hA (b := c) hc ?_
  refine zp_bipush dX7_flatRim_11 (v := 13) (by decide) ?_
  refine zp_iald_v dX7_flatRim_13 hC (Or.inl rfl) (j := 13) (by decide) (zin (by decide)) (v := (zA σ c 13)) rfl ?_
  refine zp_iadd dX7_flatRim_14 ?_
  refine zp_aload_n dX7_flatRim_15 rfl (a := a) (List.mem_of_getElem? (i := 0) rfl) ?_
  refine zp_getRv dX7_flatRim_16 fl_X7_29 hA (b := c) hc ?_
  refine zp_bipush dX7_flatRim_19 (v := 11) (by decide) ?_
  refine zp_iald_v dX7_flatRim_21 hC (Or.inl rfl) (j := 11) (by decide) (zin (by decide)) (v := (zA σ c 11)) rfl ?_
  refine zp_iadd dX7_flatRim_22 ?_
  refine zp_aload_n dX7_flatRim_23 rfl (a := a) (List.mem_of_getElem? (i := 0) rfl) ?_
  refine zp_getRv dX7_flatRim_24 fl_X7_29 hA (b := c) hc ?_
  refine zp_bipush dX7_flatRim_27 (v := 7) (by decide) ?_
  refine zp_iald_v dX7_flatRim_29 hC (Or.inl rfl) (j := 7) (by decide) (zin (by decide)) (v := (zA σ c 7)) rfl ?_
  refine zp_iadd dX7_flatRim_30 ?_
  refine zp_iret rfl dX7_flatRim_31 ?_
  exact ⟨rfl, rfl⟩
set_option maxRecDepth 100000 in
set_option maxHeartbeats 4000000 in
theorem c_X7_mayStandInRun (l : Launch) (G : Gb) (a n i : Nat) (hi : i = 0 ∨ i = 7) (σ : Sto) (hA : zT σ a = (5, n)) (hk : zR σ 514 a = some (G.2.2.1 i)) : Ct l G 2 0 0 yX7_mayStandInRun mX7_mayStandInRun [.ref a] σ (fun v s => v = some (.int (zb (i = 7))) ∧ s = σ) := by
  refine Ct.of (by decide) rfl (Nat.le_of_ble_eq_true rfl) (fun h => absurd h (by decide)) ?_
  show Wp l G 2 0 0 (RX7, cX7_mayStandInRun, 1, (some .boolean), false) 0 [(0, .ref a)] [] σ _
  refine zp_kin (fun hkin => ?_)
  have hi9 : i < 9 := by omega
  refine zp_aload_n dX7_mayStandInRun_0 rfl (a := a) (List.mem_of_getElem? (i := 0) rfl) ?_
  refine zp_getRv dX7_mayStandInRun_1 fl_X7_63 hA (b := (G.2.2.1 i)) hk ?_
  refine zp_callK (i := i) (st := []) (mc2 := 0) (ms2 := 0) hi9 rfl dX7_mayStandInRun_4 (c_X3_isInLines l G i hi9 _) cl_X7_89 im_X3_isInLines se_X3_isInLines rfl rfl (by omega) (by omega) (by omega) (Nat.le_of_ble_eq_true rfl) ?_
  rintro _ s1 ⟨rfl, hs1⟩; obtain rfl := hs1.symm
  refine zp_ifb_ne dX7_mayStandInRun_7 (tgt := 30) rfl (fun h7 => ?_) (fun h7 => ?_)
  · skip
    refine zp_iconst dX7_mayStandInRun_30 (v := 1) (by decide) ?_
    refine zp_goto dX7_mayStandInRun_31 (tgt := 35) rfl ?_
    refine zp_zret rfl (Or.inr rfl) dX7_mayStandInRun_35 ?_
    exact ⟨by rw [zb_t (by omega)], rfl⟩
  · skip
    refine zp_aload_n dX7_mayStandInRun_10 rfl (a := a) (List.mem_of_getElem? (i := 0) rfl) ?_
    refine zp_getRv dX7_mayStandInRun_11 fl_X7_63 hA (b := (G.2.2.1 i)) hk ?_
    refine zp_kind (i := 5) dX7_mayStandInRun_14 (by decide) rfl wd_343 ?_
    refine zp_acmp_eq (rx := (some (G.2.2.1 i))) (ry := (some (G.2.2.1 5))) dX7_mayStandInRun_17 (tgt := 30) rfl rfl rfl (fun q => absurd q (fun q => by have := hkin i 5 hi9 (by decide) (Option.some.inj q); omega)) (fun _ => ?_)
    refine zp_aload_n dX7_mayStandInRun_20 rfl (a := a) (List.mem_of_getElem? (i := 0) rfl) ?_
    refine zp_getRv dX7_mayStandInRun_21 fl_X7_63 hA (b := (G.2.2.1 i)) hk ?_
    refine zp_kind (i := 6) dX7_mayStandInRun_24 (by decide) rfl wd_341 ?_
    refine zp_acmp_ne (rx := (some (G.2.2.1 i))) (ry := (some (G.2.2.1 6))) dX7_mayStandInRun_27 (tgt := 34) rfl rfl rfl (fun _ => ?_) (fun q => absurd q (fun q => by have := hkin i 6 hi9 (by decide) (Option.some.inj q); omega))
    refine zp_iconst dX7_mayStandInRun_34 (v := 0) (by decide) ?_
    refine zp_zret rfl (Or.inl rfl) dX7_mayStandInRun_35 ?_
    exact ⟨by rw [zb_f (by omega)], rfl⟩
set_option maxRecDepth 100000 in
set_option maxHeartbeats 4000000 in
theorem c_X7_isStack (l : Launch) (G : Gb) (a n c : Nat) (σ : Sto) (hA : zT σ a = (5, n)) (hc : zR σ 505 a = some c) (hC : zT σ c = (20, 21)) : Ct l G 1 0 0 yX7_isStack mX7_isStack [.ref a] σ (fun v s => v = some (.int (zb (zR σ 501 a = none ∨ ¬ zA σ c 3 = 0))) ∧ s = σ) := by
  refine Ct.of (by decide) rfl (Nat.le_of_ble_eq_true rfl) (fun h => absurd h (by decide)) ?_
  show Wp l G 1 0 0 (RX7, cX7_isStack, 1, (some .boolean), false) 0 [(0, .ref a)] [] σ _
  refine zp_aload_n dX7_isStack_0 rfl (a := a) (List.mem_of_getElem? (i := 0) rfl) ?_
  refine zp_getRn dX7_isStack_1 fl_X7_15 hA (fun r hr => ?_)
  refine zp_ifnull (r := r) dX7_isStack_4 (tgt := 16) rfl rfl (fun h4 => ?_) (fun a4 h4 => ?_)
  · subst h4
    refine zp_iconst dX7_isStack_16 (v := 1) (by decide) ?_
    refine zp_goto dX7_isStack_17 (tgt := 21) rfl ?_
    refine zp_zret rfl (Or.inr rfl) dX7_isStack_21 ?_
    exact ⟨by rw [zb_t]; first | exact Or.inl hr.symm | exact Or.inr h13, rfl⟩
  · subst h4
    refine zp_aload_n dX7_isStack_7 rfl (a := a) (List.mem_of_getElem? (i := 0) rfl) ?_
    refine zp_getRv dX7_isStack_8 fl_X7_29 hA (b := c) hc ?_
    refine zp_iconst dX7_isStack_11 (v := 3) (by decide) ?_
    refine zp_iald_v dX7_isStack_12 hC (Or.inl rfl) (j := 3) (by decide) (zin (by decide)) (v := (zA σ c 3)) rfl ?_
    refine zp_if_eq dX7_isStack_13 (tgt := 20) rfl (fun h13 => ?_) (fun h13 => ?_)
    · skip
      refine zp_iconst dX7_isStack_20 (v := 0) (by decide) ?_
      refine zp_zret rfl (Or.inl rfl) dX7_isStack_21 ?_
      exact ⟨by rw [zb_f]; rintro (q | q) <;> first | exact q h13 | (rw [← hr] at q; cases q), rfl⟩
    · skip
      refine zp_iconst dX7_isStack_16 (v := 1) (by decide) ?_
      refine zp_goto dX7_isStack_17 (tgt := 21) rfl ?_
      refine zp_zret rfl (Or.inr rfl) dX7_isStack_21 ?_
      exact ⟨by rw [zb_t]; first | exact Or.inl hr.symm | exact Or.inr h13, rfl⟩
set_option maxRecDepth 100000 in
set_option maxHeartbeats 4000000 in
theorem c_X11_leftSide (l : Launch) (G : Gb) (a n b nb : Nat) (σ : Sto) (hA : zT σ a = (9, n)) (hl : zR σ 900 a = some b) (hB : zT σ b = (4, nb)) : Ct l G 1 0 0 yX11_leftSide mX11_leftSide [.ref a] σ (fun v s => (∃ L : Int64, v = some (.long L) ∧ L.toInt32 = zI σ 400 b + zI σ 901 a) ∧ s = σ) := by
  refine Ct.of (by decide) rfl (Nat.le_of_ble_eq_true rfl) (fun h => absurd h (by decide)) ?_
  show Wp l G 1 0 0 (RX11, cX11_leftSide, 1, (some .long), false) 0 [(0, .ref a)] [] σ _
  refine zp_aload_n dX11_leftSide_0 rfl (a := a) (List.mem_of_getElem? (i := 0) rfl) ?_
  refine zp_getRv dX11_leftSide_1 fl_X11_7 hA (b := b) hl ?_
  refine zp_nonnullT dX11_leftSide_4 (tgt := 11) rfl ?_
  refine zp_aload_n dX11_leftSide_11 rfl (a := a) (List.mem_of_getElem? (i := 0) rfl) ?_
  refine zp_getRv dX11_leftSide_12 fl_X11_7 hA (b := b) hl ?_
  refine zp_getJ dX11_leftSide_15 fl_X11_13 hB (v := (zI σ 400 b)) rfl (fun L15 hL15 => ?_)
  refine zp_aload_n dX11_leftSide_18 rfl (a := a) (List.mem_of_getElem? (i := 0) rfl) ?_
  refine zp_getIv dX11_leftSide_19 fl_X11_19 hA (v := (zI σ 901 a)) rfl ?_
  refine zp_i2l dX11_leftSide_22 ?_
  refine zp_ladd dX11_leftSide_23 ?_
  refine zp_topj (v := ((zI σ 400 b) + (zI σ 901 a))) (j_add hL15 (j_i2l (zI σ 901 a))) (fun L23 hL23 => ?_)
  refine zp_lret rfl dX11_leftSide_24 ?_
  exact ⟨⟨_, rfl, hL23⟩, rfl⟩
set_option maxRecDepth 100000 in
set_option maxHeartbeats 4000000 in
theorem c_X9_pieceAt (l : Launch) (G : Gb) (a n c N i : Nat) (σ : Sto) (hA : zT σ a = (7, n)) (hc : zR σ 714 a = some c) (hC : zT σ c = (23, N)) (hN : N < 100) (hi : i < N) : Ct l G 1 0 0 yX9_pieceAt mX9_pieceAt [.ref a, .int (nI i)] σ (fun v s => v = some (va_rf (zQ σ c i)) ∧ s = σ) := by
  refine Ct.of (by decide) rfl (Nat.le_of_ble_eq_true rfl) (fun h => absurd h (by decide)) ?_
  show Wp l G 1 0 0 (RX9, cX9_pieceAt, 2, (some (.object "FlowBoxes$Thing")), false) 0 [(0, .ref a), (1, .int (nI i))] [] σ _
  refine zp_iload_n dX9_pieceAt_0 rfl (x := (nI i)) (List.mem_of_getElem? (i := 1) rfl) ?_
  refine zp_if_lt dX9_pieceAt_1 (tgt := 13) rfl (fun q => absurd q (nI_pos (by omega))) (fun _ => ?_)
  refine zp_iload_n dX9_pieceAt_4 rfl (x := (nI i)) (List.mem_of_getElem? (i := 1) rfl) ?_
  refine zp_aload_n dX9_pieceAt_5 rfl (a := a) (List.mem_of_getElem? (i := 0) rfl) ?_
  refine zp_getRv dX9_pieceAt_6 fl_X9_20 hA (b := c) hc ?_
  refine zp_alen dX9_pieceAt_9 hC (Or.inr (Or.inr (Or.inr (Or.inr rfl)))) (v := (nI N)) rfl ?_
  refine zp_icmp_lt dX9_pieceAt_10 (tgt := 17) rfl (fun _ => ?_) (fun q => absurd (nI_lt hi (by omega)) q)
  refine zp_aload_n dX9_pieceAt_17 rfl (a := a) (List.mem_of_getElem? (i := 0) rfl) ?_
  refine zp_getRv dX9_pieceAt_18 fl_X9_20 hA (b := c) hc ?_
  refine zp_iload_n dX9_pieceAt_21 rfl (x := (nI i)) (List.mem_of_getElem? (i := 1) rfl) ?_
  refine zp_aaload (j := 2) dX9_pieceAt_22 hC (by decide) rfl (i := i) (nI_clamp (by omega)) (vp_in_nI hi (by omega)) (v := va_rf (zQ σ c i)) (congrArg va_rf rfl) ?_
  refine zp_aret rfl (r := (zQ σ c i)) rfl dX9_pieceAt_23 ?_
  exact ⟨rfl, rfl⟩
/-- which place of a node: 509 (fresh) or 508 (kept) -/
def pfld (fresh : Bool) : Nat := if fresh then 509 else 508
set_option maxRecDepth 100000 in
set_option maxHeartbeats 4000000 in
theorem c_X4_placeOf (l : Launch) (G : Gb) (Ly n a m p : Nat) (b : Bool) (σ : Sto) (hL : zT σ Ly = (3, n)) (hA : zT σ a = (5, m)) (hb : zI σ 300 Ly = zb (b = true)) (hp : zR σ (pfld b) a = some p) : Ct l G 1 0 0 yX4_placeOf mX4_placeOf [.ref Ly, .ref a] σ (fun v s => v = some (.ref p) ∧ s = σ) := by
  refine Ct.of (by decide) rfl (Nat.le_of_ble_eq_true rfl) (fun h => absurd h (by decide)) ?_
  show Wp l G 1 0 0 (RX4, cX4_placeOf, 2, (some (.object "FlowBoxes$Place")), false) 0 [(0, .ref Ly), (1, .ref a)] [] σ _
  refine zp_aload_n dX4_placeOf_0 rfl (a := Ly) (List.mem_of_getElem? (i := 0) rfl) ?_
  refine zp_getIv dX4_placeOf_1 fl_X4_9 hL (v := zb (b = true)) hb ?_
  refine zp_ifb_eq dX4_placeOf_4 (tgt := 14) rfl (fun h4 => ?_) (fun h4 => ?_)
  · skip
    refine zp_aload_n dX4_placeOf_14 rfl (a := a) (List.mem_of_getElem? (i := 1) rfl) ?_
    refine zp_getRv dX4_placeOf_15 fl_X4_32 hA (b := p) (by rw [Bool.eq_false_iff.mpr h4] at hp; exact hp) ?_
    refine zp_aret rfl (r := some p) rfl dX4_placeOf_18 ?_
    exact ⟨rfl, rfl⟩
  · skip
    refine zp_aload_n dX4_placeOf_7 rfl (a := a) (List.mem_of_getElem? (i := 1) rfl) ?_
    refine zp_getRv dX4_placeOf_8 fl_X4_26 hA (b := p) (by rw [h4] at hp; exact hp) ?_
    refine zp_goto dX4_placeOf_11 (tgt := 18) rfl ?_
    refine zp_aret rfl (r := some p) rfl dX4_placeOf_18 ?_
    exact ⟨rfl, rfl⟩
set_option maxRecDepth 100000 in
set_option maxHeartbeats 4000000 in
theorem c_X4_offsetOf (l : Launch) (G : Gb) (x : Int32) (σ : Sto) : Ct l G 1 0 0 yX4_offsetOf mX4_offsetOf [.int x] σ (fun v s => v = some (.int (if x = -1000 then 0 else x)) ∧ s = σ) := by
  refine Ct.of (by decide) rfl (Nat.le_of_ble_eq_true rfl) (fun h => absurd h (by decide)) ?_
  show Wp l G 1 0 0 (RX4, cX4_offsetOf, 1, (some .int), false) 0 [(0, .int x)] [] σ _
  refine zp_iload_n dX4_offsetOf_0 rfl (x := x) (List.mem_of_getElem? (i := 0) rfl) ?_
  refine zp_sipush dX4_offsetOf_1 (v := (-1000)) (by decide) ?_
  refine zp_icmp_ne dX4_offsetOf_4 (tgt := 11) rfl (fun h4 => ?_) (fun h4 => ?_)
  · skip
    refine zp_iload_n dX4_offsetOf_11 rfl (x := x) (List.mem_of_getElem? (i := 0) rfl) ?_
    refine zp_iret rfl dX4_offsetOf_12 ?_
    exact ⟨by simp [h4], rfl⟩
  · skip
    refine zp_iconst dX4_offsetOf_7 (v := 0) (by decide) ?_
    refine zp_goto dX4_offsetOf_8 (tgt := 12) rfl ?_
    refine zp_iret rfl dX4_offsetOf_12 ?_
    exact ⟨by simp [h4], rfl⟩
set_option maxRecDepth 100000 in
set_option maxHeartbeats 4000000 in
theorem c_X4_partOf (l : Launch) (G : Gb) (x y : Int32) (σ : Sto) : Ct l G 1 0 0 yX4_partOf mX4_partOf [.int x, .int y, .int 100] σ (fun v s => v = some (.int (pt x y)) ∧ s = σ) := by
  refine Ct.of (by decide) rfl (Nat.le_of_ble_eq_true rfl) (fun h => absurd h (by decide)) ?_
  show Wp l G 1 0 0 (RX4, cX4_partOf, 3, (some .int), false) 0 [(0, .int x), (1, .int y), (2, .int 100)] [] σ _
  refine zp_iload_n dX4_partOf_0 rfl (x := 100) (List.mem_of_getElem? (i := 2) rfl) ?_
  refine zp_if_gt dX4_partOf_1 (tgt := 8) rfl (fun _ => ?_) (fun q => absurd (by decide) q)
  refine zp_iload_n dX4_partOf_8 rfl (x := x) (List.mem_of_getElem? (i := 0) rfl) ?_
  refine zp_i2l dX4_partOf_9 ?_
  refine zp_iload_n dX4_partOf_10 rfl (x := y) (List.mem_of_getElem? (i := 1) rfl) ?_
  refine zp_i2l dX4_partOf_11 ?_
  refine zp_lmul dX4_partOf_12 ?_
  refine zp_iload_n dX4_partOf_13 rfl (x := 100) (List.mem_of_getElem? (i := 2) rfl) ?_
  refine zp_i2l dX4_partOf_14 ?_
  refine zp_ldiv dX4_partOf_15 (by decide) ?_
  refine zp_l2i dX4_partOf_16 ?_
  refine zp_iret rfl dX4_partOf_17 ?_
  exact ⟨rfl, rfl⟩
set_option maxRecDepth 100000 in
set_option maxHeartbeats 4000000 in
theorem c_X4_heightIn (l : Launch) (G : Gb) (a n c : Nat) (σ : Sto) (hA : zT σ a = (5, n)) (hc : zR σ 505 a = some c) (hC : zT σ c = (20, 21)) (k : Int32) : Ct l G 2 0 0 yX4_heightIn mX4_heightIn [.ref a, .int k] σ (fun v s => v = some (.int (hIn (zA σ c 5) k)) ∧ s = σ) := by
  refine Ct.of (by decide) rfl (Nat.le_of_ble_eq_true rfl) (fun h => absurd h (by decide)) ?_
  show Wp l G 2 0 0 (RX4, cX4_heightIn, 3, (some .int), false) 0 [(0, .ref a), (1, .int k)] [] σ _
  refine zp_aload_n dX4_heightIn_0 rfl (a := a) (List.mem_of_getElem? (i := 0) rfl) ?_
  refine zp_getRv dX4_heightIn_1 fl_X4_128 hA (b := c) hc ?_
  refine zp_iconst dX4_heightIn_4 (v := 5) (by decide) ?_
  refine zp_iald_v dX4_heightIn_5 hC (Or.inl rfl) (j := 5) (by decide) (zin (by decide)) (v := (zA σ c 5)) rfl ?_
  refine zp_istore_n dX4_heightIn_6 rfl (Nat.le_of_ble_eq_true rfl) (lv2 := [(2, .int (zA σ c 5)), (0, .ref a), (1, .int k)]) rfl ?_
  refine zp_iload_n dX4_heightIn_7 rfl (x := (zA σ c 5)) (List.mem_of_getElem? (i := 0) rfl) ?_
  refine zp_sipush dX4_heightIn_8 (v := 1000) (by decide) ?_
  refine zp_icmp_lt dX4_heightIn_11 (tgt := 34) rfl (fun h11 => ?_) (fun h11 => ?_)
  · skip
    refine zp_iload_n dX4_heightIn_34 rfl (x := (zA σ c 5)) (List.mem_of_getElem? (i := 0) rfl) ?_
    refine zp_if_lt dX4_heightIn_35 (tgt := 42) rfl (fun h35 => ?_) (fun h35 => ?_)
    · skip
      refine zp_iconst dX4_heightIn_42 (v := (-1)) (by decide) ?_
      refine zp_iret rfl dX4_heightIn_43 ?_
      exact ⟨by first | (simp [hIn, *]; done) | (have h15n := Int32.not_lt.mpr h15; simp [hIn, *]; done), rfl⟩
    · skip
      refine zp_iload_n dX4_heightIn_38 rfl (x := (zA σ c 5)) (List.mem_of_getElem? (i := 0) rfl) ?_
      refine zp_goto dX4_heightIn_39 (tgt := 43) rfl ?_
      refine zp_iret rfl dX4_heightIn_43 ?_
      exact ⟨by first | (simp [hIn, *]; done) | (have h15n := Int32.not_lt.mpr h15; simp [hIn, *]; done), rfl⟩
  · skip
    refine zp_iload_n dX4_heightIn_14 rfl (x := k) (List.mem_of_getElem? (i := 2) rfl) ?_
    refine zp_if_ge dX4_heightIn_15 (tgt := 22) rfl (fun h15 => ?_) (fun h15 => ?_)
    · skip
      refine zp_iload_n dX4_heightIn_22 rfl (x := k) (List.mem_of_getElem? (i := 2) rfl) ?_
      refine zp_iload_n dX4_heightIn_23 rfl (x := (zA σ c 5)) (List.mem_of_getElem? (i := 0) rfl) ?_
      refine zp_sipush dX4_heightIn_24 (v := 1000) (by decide) ?_
      refine zp_isub dX4_heightIn_27 ?_
      refine zp_bipush dX4_heightIn_28 (v := 100) (by decide) ?_
      refine zp_callS (st := []) (mc2 := 0) (ms2 := 0) dX4_heightIn_30 (c_X4_partOf l G _ _ _) cl_X4_169 st_X4_partOf rfl rfl (by omega) (by omega) (by omega) (Nat.le_of_ble_eq_true rfl) ?_
      rintro _ s1 ⟨rfl, hs1⟩; obtain rfl := hs1.symm
      refine zp_iret rfl dX4_heightIn_33 ?_
      exact ⟨by first | (simp [hIn, *]; done) | (have h15n := Int32.not_lt.mpr h15; simp [hIn, *]; done), rfl⟩
    · skip
      refine zp_iconst dX4_heightIn_18 (v := (-1)) (by decide) ?_
      refine zp_goto dX4_heightIn_19 (tgt := 33) rfl ?_
      refine zp_iret rfl dX4_heightIn_33 ?_
      exact ⟨by first | (simp [hIn, *]; done) | (have h15n := Int32.not_lt.mpr h15; simp [hIn, *]; done), rfl⟩
set_option maxRecDepth 100000 in
set_option maxHeartbeats 4000000 in
theorem c_X4_widthIn (l : Launch) (G : Gb) (a n c : Nat) (σ : Sto) (hA : zT σ a = (5, n)) (hc : zR σ 505 a = some c) (hC : zT σ c = (20, 21)) (W left : Int32) (hg : -1 ≤ zA σ c 4) (h2 : zI σ 515 a = 0) (h3 : zR σ 514 a = some (G.2.2.1 0)) : Ct l G 2 0 0 yX4_widthIn mX4_widthIn [.ref a, .int W, .int left] σ (fun v s => v = some (.int (wIn (zA σ c 4) W left)) ∧ s = σ) := by
  refine Ct.of (by decide) rfl (Nat.le_of_ble_eq_true rfl) (fun h => absurd h (by decide)) ?_
  show Wp l G 2 0 0 (RX4, cX4_widthIn, 4, (some .int), false) 0 [(0, .ref a), (1, .int W), (2, .int left)] [] σ _
  refine zp_kin (fun hkin => ?_)
  refine zp_aload_n dX4_widthIn_0 rfl (a := a) (List.mem_of_getElem? (i := 0) rfl) ?_
  refine zp_getRv dX4_widthIn_1 fl_X4_128 hA (b := c) hc ?_
  refine zp_iconst dX4_widthIn_4 (v := 4) (by decide) ?_
  refine zp_iald_v dX4_widthIn_5 hC (Or.inl rfl) (j := 4) (by decide) (zin (by decide)) (v := (zA σ c 4)) rfl ?_
  refine zp_istore_n dX4_widthIn_6 rfl (Nat.le_of_ble_eq_true rfl) (lv2 := [(3, .int (zA σ c 4)), (0, .ref a), (1, .int W), (2, .int left)]) rfl ?_
  refine zp_iload_n dX4_widthIn_7 rfl (x := (zA σ c 4)) (List.mem_of_getElem? (i := 0) rfl) ?_
  refine zp_sipush dX4_widthIn_8 (v := 1000) (by decide) ?_
  refine zp_icmp_lt dX4_widthIn_11 (tgt := 26) rfl (fun h11 => ?_) (fun h11 => ?_)
  · skip
    refine zp_iload_n dX4_widthIn_26 rfl (x := (zA σ c 4)) (List.mem_of_getElem? (i := 0) rfl) ?_
    refine zp_if_lt dX4_widthIn_27 (tgt := 32) rfl (fun h27 => ?_) (fun h27 => ?_)
    · skip
      have hm : zA σ c 4 = -1 := by
        have h27' := Int32.lt_iff_toInt_lt.mp h27
        have hg' := Int32.le_iff_toInt_le.mp hg
        apply Int32.toInt_inj.mp
        rw [show (0 : Int32).toInt = 0 from rfl] at h27'
        rw [show (-1 : Int32).toInt = -1 from rfl] at hg' ⊢
        omega
      refine zp_iload_n dX4_widthIn_32 rfl (x := (zA σ c 4)) (List.mem_of_getElem? (i := 0) rfl) ?_
      refine zp_bipush dX4_widthIn_33 (v := (-2)) (by decide) ?_
      refine zp_icmp_ne dX4_widthIn_35 (tgt := 43) rfl (fun _ => ?_) (fun q => absurd q (by rw [hm]; decide))
      refine zp_iload_n dX4_widthIn_43 rfl (x := (zA σ c 4)) (List.mem_of_getElem? (i := 0) rfl) ?_
      refine zp_bipush dX4_widthIn_44 (v := (-3)) (by decide) ?_
      refine zp_icmp_ne dX4_widthIn_46 (tgt := 54) rfl (fun _ => ?_) (fun q => absurd q (by rw [hm]; decide))
      refine zp_iload_n dX4_widthIn_54 rfl (x := (zA σ c 4)) (List.mem_of_getElem? (i := 0) rfl) ?_
      refine zp_iconst dX4_widthIn_55 (v := (-1)) (by decide) ?_
      refine zp_icmp_ne dX4_widthIn_56 (tgt := 82) rfl (fun q => absurd hm q) (fun _ => ?_)
      refine zp_aload_n dX4_widthIn_59 rfl (a := a) (List.mem_of_getElem? (i := 1) rfl) ?_
      refine zp_getRv dX4_widthIn_60 fl_X4_59 hA (b := (G.2.2.1 0)) h3 ?_
      refine zp_kind (i := 0) dX4_widthIn_63 (by decide) rfl wd_783 ?_
      refine zp_acmp_ne (rx := (some (G.2.2.1 0))) (ry := (some (G.2.2.1 0))) dX4_widthIn_66 (tgt := 82) rfl rfl rfl (fun q => absurd rfl q) (fun _ => ?_)
      refine zp_aload_n dX4_widthIn_69 rfl (a := a) (List.mem_of_getElem? (i := 1) rfl) ?_
      refine zp_getIv dX4_widthIn_70 fl_X4_185 hA (v := 0) h2 ?_
      refine zp_if_ne dX4_widthIn_73 (tgt := 82) rfl (fun q => absurd rfl q) (fun _ => ?_)
      refine zp_iconst dX4_widthIn_76 (v := 0) (by decide) ?_
      refine zp_iload_n dX4_widthIn_77 rfl (x := left) (List.mem_of_getElem? (i := 3) rfl) ?_
      refine zp_max dX4_widthIn_78 wd_517 wd_515 wd_14 wd_516 (by decide) (Nat.le_of_ble_eq_true rfl) (v := mx 0 left) rfl ?_
      refine zp_iret rfl dX4_widthIn_81 ?_
      exact ⟨by simp [wIn, *], rfl⟩
    · skip
      refine zp_iload_n dX4_widthIn_30 rfl (x := (zA σ c 4)) (List.mem_of_getElem? (i := 0) rfl) ?_
      refine zp_iret rfl dX4_widthIn_31 ?_
      exact ⟨by simp [wIn, *], rfl⟩
  · skip
    refine zp_iload_n dX4_widthIn_14 rfl (x := W) (List.mem_of_getElem? (i := 2) rfl) ?_
    refine zp_iload_n dX4_widthIn_15 rfl (x := (zA σ c 4)) (List.mem_of_getElem? (i := 0) rfl) ?_
    refine zp_sipush dX4_widthIn_16 (v := 1000) (by decide) ?_
    refine zp_isub dX4_widthIn_19 ?_
    refine zp_bipush dX4_widthIn_20 (v := 100) (by decide) ?_
    refine zp_callS (st := []) (mc2 := 0) (ms2 := 0) dX4_widthIn_22 (c_X4_partOf l G _ _ _) cl_X4_169 st_X4_partOf rfl rfl (by omega) (by omega) (by omega) (Nat.le_of_ble_eq_true rfl) ?_
    rintro _ s1 ⟨rfl, hs1⟩; obtain rfl := hs1.symm
    refine zp_iret rfl dX4_widthIn_25 ?_
    exact ⟨by simp [wIn, *], rfl⟩
set_option maxRecDepth 100000 in
set_option maxHeartbeats 4000000 in
theorem c_X12_isPercentage (l : Launch) (G : Gb) (x : Int32) (σ : Sto) : Ct l G 1 0 0 yX12_isPercentage mX12_isPercentage [.int x] σ (fun v s => v = some (.int (zb (1000 ≤ x ∧ x ≤ 1100))) ∧ s = σ) := by
  refine Ct.of (by decide) rfl (Nat.le_of_ble_eq_true rfl) (fun h => absurd h (by decide)) ?_
  show Wp l G 1 0 0 (RX12, cX12_isPercentage, 1, (some .boolean), false) 0 [(0, .int x)] [] σ _
  refine zp_iload_n dX12_isPercentage_0 rfl (x := x) (List.mem_of_getElem? (i := 0) rfl) ?_
  refine zp_sipush dX12_isPercentage_1 (v := 1000) (by decide) ?_
  refine zp_icmp_lt dX12_isPercentage_4 (tgt := 18) rfl (fun h4 => ?_) (fun h4 => ?_)
  · skip
    refine zp_iconst dX12_isPercentage_18 (v := 0) (by decide) ?_
    refine zp_zret rfl (Or.inl rfl) dX12_isPercentage_19 ?_
    exact ⟨by rw [zb_f]; rintro ⟨q1, q2⟩; first | exact Int32.not_le.mpr h4 q1 | exact Int32.not_le.mpr h11 q2, rfl⟩
  · skip
    refine zp_iload_n dX12_isPercentage_7 rfl (x := x) (List.mem_of_getElem? (i := 0) rfl) ?_
    refine zp_sipush dX12_isPercentage_8 (v := 1100) (by decide) ?_
    refine zp_icmp_gt dX12_isPercentage_11 (tgt := 18) rfl (fun h11 => ?_) (fun h11 => ?_)
    · skip
      refine zp_iconst dX12_isPercentage_18 (v := 0) (by decide) ?_
      refine zp_zret rfl (Or.inl rfl) dX12_isPercentage_19 ?_
      exact ⟨by rw [zb_f]; rintro ⟨q1, q2⟩; first | exact Int32.not_le.mpr h4 q1 | exact Int32.not_le.mpr h11 q2, rfl⟩
    · skip
      refine zp_iconst dX12_isPercentage_14 (v := 1) (by decide) ?_
      refine zp_goto dX12_isPercentage_15 (tgt := 19) rfl ?_
      refine zp_zret rfl (Or.inr rfl) dX12_isPercentage_19 ?_
      exact ⟨by rw [zb_t]; exact ⟨Int32.not_lt.mp h4, Int32.not_lt.mp h11⟩, rfl⟩
set_option maxRecDepth 100000 in
set_option maxHeartbeats 4000000 in
theorem c_X12_reachesInside (l : Launch) (G : Gb) (x : Int32) (σ : Sto) (h0 : ¬ x = 0) (h1 : ¬ x = 1) (h3 : ¬ x = 3) (h14 : ¬ x = 14) (h17 : ¬ x = 17) : Ct l G 1 0 0 yX12_reachesInside mX12_reachesInside [.int x] σ (fun v s => v = some (.int 0) ∧ s = σ) := by
  refine Ct.of (by decide) rfl (Nat.le_of_ble_eq_true rfl) (fun h => absurd h (by decide)) ?_
  show Wp l G 1 0 0 (RX12, cX12_reachesInside, 1, (some .boolean), false) 0 [(0, .int x)] [] σ _
  refine zp_iload_n dX12_reachesInside_0 rfl (x := x) (List.mem_of_getElem? (i := 0) rfl) ?_
  refine zp_if_eq dX12_reachesInside_1 (tgt := 26) rfl (fun q => absurd q h0) (fun _ => ?_)
  refine zp_iload_n dX12_reachesInside_4 rfl (x := x) (List.mem_of_getElem? (i := 0) rfl) ?_
  refine zp_iconst dX12_reachesInside_5 (v := 1) (by decide) ?_
  refine zp_icmp_eq dX12_reachesInside_6 (tgt := 26) rfl (fun q => absurd q h1) (fun _ => ?_)
  refine zp_iload_n dX12_reachesInside_9 rfl (x := x) (List.mem_of_getElem? (i := 0) rfl) ?_
  refine zp_iconst dX12_reachesInside_10 (v := 3) (by decide) ?_
  refine zp_icmp_eq dX12_reachesInside_11 (tgt := 26) rfl (fun q => absurd q h3) (fun _ => ?_)
  refine zp_iload_n dX12_reachesInside_14 rfl (x := x) (List.mem_of_getElem? (i := 0) rfl) ?_
  refine zp_bipush dX12_reachesInside_15 (v := 14) (by decide) ?_
  refine zp_icmp_eq dX12_reachesInside_17 (tgt := 26) rfl (fun q => absurd q h14) (fun _ => ?_)
  refine zp_iload_n dX12_reachesInside_20 rfl (x := x) (List.mem_of_getElem? (i := 0) rfl) ?_
  refine zp_bipush dX12_reachesInside_21 (v := 17) (by decide) ?_
  refine zp_icmp_ne dX12_reachesInside_23 (tgt := 30) rfl (fun _ => ?_) (fun q => absurd q h17)
  refine zp_iconst dX12_reachesInside_30 (v := 0) (by decide) ?_
  refine zp_zret rfl (Or.inl rfl) dX12_reachesInside_31 ?_
  exact ⟨rfl, rfl⟩
set_option maxRecDepth 100000 in
set_option maxHeartbeats 4000000 in
theorem c_X12_hasRoom (l : Launch) (G : Gb) (b nb a n : Nat) (σ : Sto) (hB : zT σ b = (10, nb)) (hA : zT σ a = (5, n)) (h1 : zI σ 1005 b < 60) (h2 : zI σ 502 a < 20) : Ct l G 1 0 0 yX12_hasRoom mX12_hasRoom [.ref b, .ref a] σ (fun v s => v = some (.int 1) ∧ s = σ) := by
  refine Ct.of (by decide) rfl (Nat.le_of_ble_eq_true rfl) (fun h => absurd h (by decide)) ?_
  show Wp l G 1 0 0 (RX12, cX12_hasRoom, 2, (some .boolean), false) 0 [(0, .ref b), (1, .ref a)] [] σ _
  refine zp_aload_n dX12_hasRoom_0 rfl (a := b) (List.mem_of_getElem? (i := 0) rfl) ?_
  refine zp_getIv dX12_hasRoom_1 fl_X12_29 hB (v := (zI σ 1005 b)) rfl ?_
  refine zp_bipush dX12_hasRoom_4 (v := 60) (by decide) ?_
  refine zp_icmp_ge dX12_hasRoom_6 (tgt := 22) rfl (fun q => absurd q (Int32.not_le.mpr h1)) (fun _ => ?_)
  refine zp_aload_n dX12_hasRoom_9 rfl (a := a) (List.mem_of_getElem? (i := 1) rfl) ?_
  refine zp_getIv dX12_hasRoom_10 fl_X12_249 hA (v := (zI σ 502 a)) rfl ?_
  refine zp_bipush dX12_hasRoom_13 (v := 20) (by decide) ?_
  refine zp_icmp_ge dX12_hasRoom_15 (tgt := 22) rfl (fun q => absurd q (Int32.not_le.mpr h2)) (fun _ => ?_)
  refine zp_iconst dX12_hasRoom_18 (v := 1) (by decide) ?_
  refine zp_goto dX12_hasRoom_19 (tgt := 23) rfl ?_
  refine zp_zret rfl (Or.inr rfl) dX12_hasRoom_23 ?_
  exact ⟨rfl, rfl⟩
set_option maxRecDepth 100000 in
set_option maxHeartbeats 4000000 in
theorem c_X12_painted (l : Launch) (G : Gb) (b nb p np : Nat) (σ : Sto) (hB : zT σ b = (10, nb)) (hp : zR σ 1004 b = some p) (hP : zT σ p = (6, np)) : Ct l G 1 0 0 yX12_painted mX12_painted [.ref b] σ (fun v s => v = some (.int (zI σ 601 p)) ∧ s = σ) := by
  refine Ct.of (by decide) rfl (Nat.le_of_ble_eq_true rfl) (fun h => absurd h (by decide)) ?_
  show Wp l G 1 0 0 (RX12, cX12_painted, 1, (some .int), false) 0 [(0, .ref b)] [] σ _
  refine zp_aload_n dX12_painted_0 rfl (a := b) (List.mem_of_getElem? (i := 0) rfl) ?_
  refine zp_getRv dX12_painted_1 fl_X12_51 hB (b := p) hp ?_
  refine zp_getIv dX12_painted_4 fl_X12_233 hP (v := (zI σ 601 p)) rfl ?_
  refine zp_iret rfl dX12_painted_7 ?_
  exact ⟨rfl, rfl⟩

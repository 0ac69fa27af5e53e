/-! LEAVES: methods without loops, of the small classes (by wip/p27/gen_leaf1.py) -/
/-- the greater one, the lesser one -/
def mx (x y : Int32) : Int32 := if x < y then y else x
def mn (x y : Int32) : Int32 := if y < x then y else x
theorem c_X1_init (l : Launch) (G : Gb) (a : Nat) (σ : Sto) : Ct l G 1 0 0 yX1_init mX1_init [.ref a] σ (fun v s => v = none ∧ s = σ) := by
  refine Ct.of (by decide) rfl (Nat.le_of_ble_eq_true rfl) (fun _ => rfl) ?_
  show Wp l G 1 0 0 (RX1, cX1_init, 1, none, true) 0 [(0, .ref a)] [] σ _
  refine zp_aload_n dX1_init_0 rfl (a := a) (List.mem_of_getElem? (i := 0) rfl) ?_
  refine zp_objInit dX1_init_1 wd_50 wd_28 wd_29 (by decide) (by decide) ?_
  refine zp_vret rfl dX1_init_4 ?_
  exact ⟨rfl, rfl⟩
theorem c_X2_init (l : Launch) (G : Gb) (a : Nat) (σ : Sto) : Ct l G 1 0 0 yX2_init mX2_init [.ref a] σ (fun v s => v = none ∧ s = σ) := by
  refine Ct.of (by decide) rfl (Nat.le_of_ble_eq_true rfl) (fun _ => rfl) ?_
  show Wp l G 1 0 0 (RX2, cX2_init, 1, none, true) 0 [(0, .ref a)] [] σ _
  refine zp_aload_n dX2_init_0 rfl (a := a) (List.mem_of_getElem? (i := 0) rfl) ?_
  refine zp_objInit dX2_init_1 wd_385 wd_28 wd_29 (by decide) (by decide) ?_
  refine zp_vret rfl dX2_init_4 ?_
  exact ⟨rfl, rfl⟩
theorem c_X5_init (l : Launch) (G : Gb) (a : Nat) (σ : Sto) : Ct l G 1 0 0 yX5_init mX5_init [.ref a] σ (fun v s => v = none ∧ s = σ) := by
  refine Ct.of (by decide) rfl (Nat.le_of_ble_eq_true rfl) (fun _ => rfl) ?_
  show Wp l G 1 0 0 (RX5, cX5_init, 1, none, true) 0 [(0, .ref a)] [] σ _
  refine zp_aload_n dX5_init_0 rfl (a := a) (List.mem_of_getElem? (i := 0) rfl) ?_
  refine zp_objInit dX5_init_1 wd_734 wd_28 wd_29 (by decide) (by decide) ?_
  refine zp_vret rfl dX5_init_4 ?_
  exact ⟨rfl, rfl⟩
theorem c_X11_init (l : Launch) (G : Gb) (a : Nat) (σ : Sto) : Ct l G 1 0 0 yX11_init mX11_init [.ref a] σ (fun v s => v = none ∧ s = σ) := by
  refine Ct.of (by decide) rfl (Nat.le_of_ble_eq_true rfl) (fun _ => rfl) ?_
  show Wp l G 1 0 0 (RX11, cX11_init, 1, none, true) 0 [(0, .ref a)] [] σ _
  refine zp_aload_n dX11_init_0 rfl (a := a) (List.mem_of_getElem? (i := 0) rfl) ?_
  refine zp_objInit dX11_init_1 wd_91 wd_28 wd_29 (by decide) (by decide) ?_
  refine zp_vret rfl dX11_init_4 ?_
  exact ⟨rfl, rfl⟩
theorem c_X2_pend (l : Launch) (G : Gb) (F n : Nat) (m : Int32) (σ : Sto) (hF : zT σ F = (2, n)) : Ct l G 1 0 0 yX2_pend mX2_pend [.ref F, .int m] σ (fun v s => v = none ∧ s = wI (wI σ 201 F (mx (zI σ 201 F) m)) 202 F (mn (zI σ 202 F) m)) := by
  refine Ct.of (by decide) rfl (Nat.le_of_ble_eq_true rfl) (fun h => absurd h (by decide)) ?_
  show Wp l G 1 0 0 (RX2, cX2_pend, 2, none, false) 0 [(0, .ref F), (1, .int m)] [] σ _
  refine zp_aload_n dX2_pend_0 rfl (a := F) (List.mem_of_getElem? (i := 0) rfl) ?_
  refine zp_aload_n dX2_pend_1 rfl (a := F) (List.mem_of_getElem? (i := 0) rfl) ?_
  refine zp_getIv dX2_pend_2 fl_X2_15 hF (v := (zI σ 201 F)) rfl ?_
  refine zp_iload_n dX2_pend_5 rfl (x := m) (List.mem_of_getElem? (i := 1) rfl) ?_
  refine zp_max dX2_pend_6 wd_703 wd_515 wd_14 wd_516 (by decide) (by decide) (v := mx (zI σ 201 F) m) rfl ?_
  refine zp_putI dX2_pend_9 fl_X2_15 hF ?_
  refine zp_aload_n dX2_pend_12 rfl (a := F) (List.mem_of_getElem? (i := 0) rfl) ?_
  refine zp_aload_n dX2_pend_13 rfl (a := F) (List.mem_of_getElem? (i := 0) rfl) ?_
  refine zp_getIv dX2_pend_14 fl_X2_18 hF (v := (zI σ 202 F)) (by simp [zI_wI]) ?_
  refine zp_iload_n dX2_pend_17 rfl (x := m) (List.mem_of_getElem? (i := 1) rfl) ?_
  refine zp_min dX2_pend_18 wd_708 wd_614 wd_14 wd_615 (by decide) (by decide) (v := mn (zI σ 202 F) m) rfl ?_
  refine zp_putI dX2_pend_21 fl_X2_18 hF ?_
  refine zp_vret rfl dX2_pend_24 ?_
  exact ⟨rfl, rfl⟩

/-! KINDS AND COUNTED STYLES, all of them (by wip/p27/gen_roles2.py) -/
theorem cnS_v {c : Nat} {f : Nat → Int32} {n : Nat} {σ : Sto} {i : Nat} (h : i < n) : zA (cnS c f n σ) c i = f i := if_pos ⟨rfl, h⟩
theorem Sw.pcn {G : Gb} {σ : Sto} {c : Nat} {f : Nat → Int32} {n m : Nat} (h : Sw G σ) (hc : zT σ c = (20, m)) : Sw G (cnS c f n σ) := by
  have hne : G.2.2.2.1 ≠ c := fun q => by have := h.1; rw [q, hc] at this; cases this
  exact ⟨h.1, by rw [cnS_b hne]; exact h.2.1, by rw [cnS_b hne]; exact h.2.2⟩
theorem AI.pI {G : Gb} {D : Dt} {X : Cx} {Y : Cy} {σ : Sto} {g a : Nat} {x : Int32} (h : AI G D X Y σ) (hg : g ≠ 500 ∧ g ≠ 503 ∧ g ≠ 512 ∧ g ≠ 515 ∧ g ≠ 516 ∧ g ≠ 517) : AI G D X Y (wI σ g a x) :=
  ⟨fun k hk => (h.1 k hk).to (fun _ _ => rfl) (fun j hj => rIn (by omega)) (fun _ _ => rfl) (fun _ => rfl) ⟨rfl, rfl⟩ (fun _ => rfl), h.2.1, h.2.2.1, h.2.2.2.1, fun k hk ht => (rIn (by omega)).trans (h.2.2.2.2 k hk ht)⟩
theorem AI.p516 {G : Gb} {D : Dt} {X : Cx} {Y : Cy} {σ : Sto} {k : Nat} {x : Int32} (h : AI G D X Y σ) (hd : ∀ j k, j < dn D → k < dn D → xnd X j = xnd X k → j = k) (hk : k < dn D) (ht : dtx D k = false) : AI G D X Y (wI σ 516 (xnd X k) x) :=
  ⟨fun j hj => (h.1 j hj).to (fun _ _ => rfl) (fun i hi => rIn (by omega)) (fun _ _ => rfl) (fun _ => rfl) ⟨rfl, rfl⟩ (fun _ => rfl), h.2.1, h.2.2.1, h.2.2.2.1, fun j hj htj => (rIb (fun q => by rw [hd j k hj hk q, ht] at htj; cases htj)).trans (h.2.2.2.2 j hj htj)⟩
theorem DA.n {X : Cx} {Y : Cy} {n : Nat} (h : DA X Y n) {j k : Nat} (hj : j < n) (hk : k < n) : (xcn X j = xcn X k → j = k) ∧ xsy Y j ≠ xcn X k ∧ xle X j ≠ xcn X k ∧ xcu X j ≠ xcn X k :=
  ⟨fun q => (h 0 0 j k (by decide) (by decide) hj hk q).2, fun q => absurd (h 1 0 j k (by decide) (by decide) hj hk q).1 (by decide), fun q => absurd (h 2 0 j k (by decide) (by decide) hj hk q).1 (by decide), fun q => absurd (h 3 0 j k (by decide) (by decide) hj hk q).1 (by decide)⟩
theorem AI.pcn {G : Gb} {D : Dt} {X : Cx} {Y : Cy} {σ : Sto} {k n : Nat} (hD : DW D) (h : AI G D X Y σ) (hA : DA X Y (dn D)) (hk : k < dn D) : AI G D X Y (cnS (xcn X k) (dst D k) n σ) :=
  ⟨fun j hj => (h.1 j hj).to (fun _ _ => rfl) (fun _ _ => rfl) (fun _ _ => rfl) (fun _ => rfl) ⟨cnS_b (hA.n hj hk).2.2.1, cnS_b (hA.n hj hk).2.2.2⟩ (fun _ => rfl), fun j hj ht => by
    rw [cnS_A]
    split
    · exact (hD.2.2.2.2.2.2.2.2.2.2.2 k).2.2.2.2.2.2.2.1
    · exact h.2.1 j hj ht, fun j hj => ⟨(h.2.2.1 j hj).1, (h.2.2.1 j hj).2.1, fun ht s hs => by rw [cnS_b (hA.n hj hk).2.1]; exact (h.2.2.1 j hj).2.2 ht s hs⟩, h.2.2.2.1.pcn (h.1 k hk).2.2.2.2.1, h.2.2.2.2⟩
set_option maxRecDepth 100000 in
set_option maxHeartbeats 4000000 in
theorem c_X7_assignRoleT (l : Launch) (G : Gb) (D : Dt) (X : Cx) (Y : Cy) (k : Nat) (σ : Sto) (hD : DW D) (h : AI G D X Y σ) (hA : DA X Y (dn D)) (hk : k < dn D) (ht : dtx D k = true) : Ct l G 3 0 0 yX7_assignRole mX7_assignRole [.ref (xnd X k)] σ (fun v s => v = none ∧ s = σ) := by
  refine Ct.of (by decide) rfl (Nat.le_of_ble_eq_true rfl) (fun h => absurd h (by decide)) ?_
  have hK := h.1 k hk
  have h0 : k ≠ 0 := fun q => by rw [q, hD.2.2.2.1] at ht; cases ht
  have hkd : zR σ 514 (xnd X k) = some (G.2.2.1 7) := by have := hK.2.2.2.2.2.2.2.2.1; rw [ht] at this; exact this
  have hpos : 0 < zI σ 503 (xnd X k) := by rw [hK.2.2.1, if_pos ht]; exact Int32.lt_iff_toInt_lt.mpr (by have := hD.2.2.2.2.2.2.2.1 k; rw [show (0 : Int32).toInt = 0 from rfl]; omega)
  show Wp l G 3 0 0 (RX7, cX7_assignRole, 2, none, false) 0 [(0, .ref (xnd X k))] [] σ _
  refine zp_aload_n dX7_assignRole_0 rfl (a := (xnd X k)) (List.mem_of_getElem? (i := 0) rfl) ?_
  refine zp_aload_n dX7_assignRole_1 rfl (a := (xnd X k)) (List.mem_of_getElem? (i := 0) rfl) ?_
  refine zp_callV (c0 := 4) (st := [.ref (xnd X k)]) (mc2 := 0) (ms2 := 0) dX7_assignRole_2 (c_X7_findKindT l G D X Y k _ hD h hk h0 ht) cl_X7_111 im_X7_findKind se_X7_findKind rfl rfl hK.1 rfl rfl (by omega) (by omega) (by omega) (Nat.le_of_ble_eq_true rfl) ?_
  rintro _ s1 ⟨rfl, hs1⟩; obtain rfl := hs1.symm
  refine zp_putR dX7_assignRole_5 fl_X7_63 hK.1 (r := some (G.2.2.1 7)) rfl ?_
  rw [wR_same hkd]
  refine zp_aload_n dX7_assignRole_8 rfl (a := (xnd X k)) (List.mem_of_getElem? (i := 0) rfl) ?_
  refine zp_callV (c0 := 4) (st := []) (mc2 := 0) (ms2 := 0) dX7_assignRole_9 (c_X7_isText l G (xnd X k) 0 _ hK.1) cl_X7_66 im_X7_isText se_X7_isText rfl rfl hK.1 rfl rfl (by omega) (by omega) (by omega) (Nat.le_of_ble_eq_true rfl) ?_
  rintro _ s1 ⟨rfl, hs1⟩; obtain rfl := hs1.symm
  refine zp_ifb_eq dX7_assignRole_12 (tgt := 16) rfl (fun q => absurd hpos q) (fun _ => ?_)
  refine zp_vret rfl dX7_assignRole_15 ?_
  exact ⟨rfl, rfl⟩
set_option maxHeartbeats 4000000 in
theorem l_counted (l : Launch) {G : Gb} {D : Dt} {X : Cx} {Y : Cy} {k : Nat} {σ : Sto} {Q : Option Value → Sto → Prop} (hD : DW D) (h : AI G D X Y σ) (hA : DA X Y (dn D)) (hk : k < dn D) (ht : dtx D k = false) (kk : Wp l G 3 0 0 (RX7, cX7_assignRole, 2, none, false) 106 [(0, .ref (xnd X k))] [] (cnS (xcn X k) (dst D k) 21 σ) Q) : ∀ (m s : Nat), s + m = 21 →
    Wp l G 3 0 0 (RX7, cX7_assignRole, 2, none, false) 67 [(1, .int (nI s)), (0, .ref (xnd X k))] [] (cnS (xcn X k) (dst D k) s σ) Q := by
  have hK := h.1 k hk
  have hS := h.2.2.1 k hk
  have hsw := h.2.2.2.1
  have hkd : zR σ 514 (xnd X k) = some (G.2.2.1 0) := by have := hK.2.2.2.2.2.2.2.2.1; rw [ht] at this; exact this
  intro m
  induction m with
  | zero =>
    intro s hs
    show Wp l G 3 0 0 (RX7, cX7_assignRole, 2, none, false) 67 [(1, .int (nI s)), (0, .ref (xnd X k))] [] (cnS (xcn X k) (dst D k) s σ) _
    refine zp_iload_n dX7_assignRole_67 rfl (x := (nI s)) (List.mem_of_getElem? (i := 0) rfl) ?_
    refine zp_bipush dX7_assignRole_68 (v := 21) (by decide) ?_
    refine zp_icmp_ge dX7_assignRole_70 (tgt := 106) rfl (fun _ => ?_) (fun q => absurd (by rw [show s = 21 by omega]; decide) q)
    rw [show s = 21 by omega]
    refine zp_lv [1] rfl ?_
    exact kk
  | succ m ih =>
    intro s hs
    show Wp l G 3 0 0 (RX7, cX7_assignRole, 2, none, false) 67 [(1, .int (nI s)), (0, .ref (xnd X k))] [] (cnS (xcn X k) (dst D k) s σ) _
    refine zp_iload_n dX7_assignRole_67 rfl (x := (nI s)) (List.mem_of_getElem? (i := 0) rfl) ?_
    refine zp_bipush dX7_assignRole_68 (v := 21) (by decide) ?_
    refine zp_icmp_ge dX7_assignRole_70 (tgt := 106) rfl (fun q => absurd q (fun q => by have q := Int32.le_iff_toInt_le.mp q; rw [nI_toInt (by omega), show (21 : Int32).toInt = 21 from rfl] at q; omega)) (fun _ => ?_)
    refine zp_aload_n dX7_assignRole_73 rfl (a := (xnd X k)) (List.mem_of_getElem? (i := 1) rfl) ?_
    refine zp_getRv dX7_assignRole_74 fl_X7_29 hK.1 (b := (xcn X k)) hK.2.2.2.1 ?_
    refine zp_iload_n dX7_assignRole_77 rfl (x := (nI s)) (List.mem_of_getElem? (i := 0) rfl) ?_
    refine zp_aload_n dX7_assignRole_78 rfl (a := (xnd X k)) (List.mem_of_getElem? (i := 1) rfl) ?_
    refine zp_iload_n dX7_assignRole_79 rfl (x := (nI s)) (List.mem_of_getElem? (i := 0) rfl) ?_
    refine zp_callV (c0 := 4) (st := [.int (nI s), .ref (xcn X k)]) (mc2 := 0) (ms2 := 0) dX7_assignRole_80 (c_X7_countsFor l G (xnd X k) 0 (nI s) _ hK.1 hkd (hsw.pcn hK.2.2.2.2.1)) cl_X7_115 im_X7_countsFor se_X7_countsFor rfl rfl hK.1 rfl rfl (by omega) (by omega) (by omega) (Nat.le_of_ble_eq_true rfl) ?_
    rintro _ s1 ⟨rfl, hs1⟩; obtain rfl := hs1.symm
    refine zp_if_eq dX7_assignRole_83 (tgt := 95) rfl (fun q => absurd q (by decide)) (fun _ => ?_)
    refine zp_aload_n dX7_assignRole_86 rfl (a := (xnd X k)) (List.mem_of_getElem? (i := 1) rfl) ?_
    refine zp_getRv dX7_assignRole_87 fl_X7_25 hK.1 (b := (xsy Y k)) hS.1 ?_
    refine zp_iload_n dX7_assignRole_90 rfl (x := (nI s)) (List.mem_of_getElem? (i := 0) rfl) ?_
    refine zp_iald_v dX7_assignRole_91 hS.2.1 (Or.inl rfl) (j := s) (nI_clamp (by omega)) (vp_in_nI (by omega) (by decide)) (v := (dst D k s)) ((congrFun (cnS_b (hA.n hk hk).2.1) s).trans (hS.2.2 ht s (by omega))) ?_
    refine zp_goto dX7_assignRole_92 (tgt := 99) rfl ?_
    refine zp_iastore dX7_assignRole_99 hK.2.2.2.2.1 (j := s) (nI_clamp (by omega)) (vp_in_nI (by omega) (by decide)) ?_
    rw [cnS_S (f := dst D k) (n := s)]
    refine zp_iinc dX7_assignRole_100 (k1 := 0) (x := (nI s)) rfl (v := (nI (s + 1))) (nI_1 s) (Nat.le_of_ble_eq_true rfl) (lv2 := [(1, .int (nI (s + 1))), (0, .ref (xnd X k))]) rfl ?_
    refine zp_goto dX7_assignRole_103 (tgt := 67) rfl ?_
    exact ih (s + 1) (by omega)
set_option maxRecDepth 100000 in
set_option maxHeartbeats 4000000 in
theorem c_X7_assignRole0 (l : Launch) (G : Gb) (D : Dt) (X : Cx) (Y : Cy) (k : Nat) (σ : Sto) (hD : DW D) (h : AI G D X Y σ) (hA : DA X Y (dn D)) (hk : k < dn D) (h0 : k = 0) (ht : dtx D k = false) : Ct l G 3 0 0 yX7_assignRole mX7_assignRole [.ref (xnd X k)] σ (fun v s => v = none ∧ s = wI (cnS (xcn X k) (dst D k) 21 σ) 516 (xnd X k) (zb (k = 0))) := by
  refine Ct.of (by decide) rfl (Nat.le_of_ble_eq_true rfl) (fun h => absurd h (by decide)) ?_
  have hK := h.1 k hk
  have hS := h.2.2.1 k hk
  have hkd : zR σ 514 (xnd X k) = some (G.2.2.1 0) := by have := hK.2.2.2.2.2.2.2.2.1; rw [ht] at this; exact this
  have hpos : ¬ (0 < zI σ 503 (xnd X k)) := by rw [hK.2.2.1, if_neg (by rw [ht]; decide)]; decide
  have htab : zI σ 515 (xnd X k) = 0 := hK.2.2.2.2.2.2.2.2.2.1
  have hscr : zI σ 517 (xnd X k) = 0 := hK.2.2.2.2.2.2.2.2.2.2.1
  have h14 : dst D k 14 = 0 := (hD.2.2.2.2.2.2.2.2.2.2.2 k).2.2.2.2.1
  have h17 : dst D k 17 = 1 := (hD.2.2.2.2.2.2.2.2.2.2.2 k).2.2.2.2.2.2.2.1
  have hs0 : zA σ (xsy Y k) 0 = 0 := (hS.2.2 ht 0 (by decide)).trans (hD.2.2.2.2.2.2.2.2.2.2.2 k).1
  have hpar : zR σ 501 (xnd X k) = none := by have := hK.2.1; rw [if_pos h0] at this; exact this
  refine zp_kin (fun hkin => ?_)
  have rest : Wp l G 3 0 0 (RX7, cX7_assignRole, 2, none, false) 106 [(0, .ref (xnd X k))] [] (cnS (xcn X k) (dst D k) 21 σ) (fun v s => v = none ∧ s = wI (cnS (xcn X k) (dst D k) 21 σ) 516 (xnd X k) (zb (k = 0))) := by
    show Wp l G 3 0 0 (RX7, cX7_assignRole, 2, none, false) 106 [(0, .ref (xnd X k))] [] (cnS (xcn X k) (dst D k) 21 σ) (fun v s => v = none ∧ s = wI (cnS (xcn X k) (dst D k) 21 σ) 516 (xnd X k) (zb (k = 0)))
    refine zp_aload_n dX7_assignRole_106 rfl (a := (xnd X k)) (List.mem_of_getElem? (i := 0) rfl) ?_
    refine zp_getIv dX7_assignRole_107 fl_X7_70 hK.1 (v := 0) htab ?_
    refine zp_if_ne dX7_assignRole_110 (tgt := 120) rfl (fun q => absurd (by decide) q) (fun _ => ?_)
    refine zp_aload_n dX7_assignRole_113 rfl (a := (xnd X k)) (List.mem_of_getElem? (i := 0) rfl) ?_
    refine zp_callV (c0 := 4) (st := []) (mc2 := 0) (ms2 := 0) dX7_assignRole_114 (c_X7_inCols0 l G (xnd X k) 0 _ hK.1 hpar) cl_X7_119 im_X7_isInColumns se_X7_isInColumns rfl rfl hK.1 rfl rfl (by omega) (by omega) (by omega) (Nat.le_of_ble_eq_true rfl) ?_
    rintro _ s1 ⟨rfl, hs1⟩; obtain rfl := hs1.symm
    refine zp_if_eq dX7_assignRole_117 (tgt := 128) rfl (fun _ => ?_) (fun q => absurd rfl q)
    refine zp_aload_n dX7_assignRole_128 rfl (a := (xnd X k)) (List.mem_of_getElem? (i := 0) rfl) ?_
    refine zp_aload_n dX7_assignRole_129 rfl (a := (xnd X k)) (List.mem_of_getElem? (i := 0) rfl) ?_
    refine zp_getRv dX7_assignRole_130 fl_X7_29 hK.1 (b := (xcn X k)) hK.2.2.2.1 ?_
    refine zp_bipush dX7_assignRole_133 (v := 14) (by decide) ?_
    refine zp_iald_v dX7_assignRole_135 hK.2.2.2.2.1 (Or.inl rfl) (j := 14) (by decide) (zin (by decide)) (v := 0) ((cnS_v (by decide)).trans h14) ?_
    refine zp_iconst dX7_assignRole_136 (v := 2) (by decide) ?_
    refine zp_icmp_ne dX7_assignRole_137 (tgt := 170) rfl (fun _ => ?_) (fun q => absurd q (by decide))
    refine zp_iconst dX7_assignRole_170 (v := 0) (by decide) ?_
    refine zp_putZ dX7_assignRole_171 fl_X7_126 hK.1 (Or.inl rfl) ?_
    rw [wI_same (f := 517) (x := 0) (show zI (cnS (xcn X k) (dst D k) 21 σ) 517 (xnd X k) = 0 from hscr)]
    refine zp_aload_n dX7_assignRole_174 rfl (a := (xnd X k)) (List.mem_of_getElem? (i := 0) rfl) ?_
    refine zp_aload_n dX7_assignRole_175 rfl (a := (xnd X k)) (List.mem_of_getElem? (i := 0) rfl) ?_
    refine zp_getRo dX7_assignRole_176 fl_X7_15 hK.1 (r := none) hpar ?_
    refine zp_nullT dX7_assignRole_179 (tgt := 250) rfl ?_
    refine zp_iconst dX7_assignRole_250 (v := 1) (by decide) ?_
    refine zp_goto dX7_assignRole_251 (tgt := 255) rfl ?_
    refine zp_putZ dX7_assignRole_255 fl_X7_135 hK.1 (Or.inr rfl) ?_
    refine zp_vret rfl dX7_assignRole_258 ?_
    exact ⟨rfl, by rw [zb_t h0]⟩
  show Wp l G 3 0 0 (RX7, cX7_assignRole, 2, none, false) 0 [(0, .ref (xnd X k))] [] σ _
  refine zp_aload_n dX7_assignRole_0 rfl (a := (xnd X k)) (List.mem_of_getElem? (i := 0) rfl) ?_
  refine zp_aload_n dX7_assignRole_1 rfl (a := (xnd X k)) (List.mem_of_getElem? (i := 0) rfl) ?_
  refine zp_callV (c0 := 4) (st := [.ref (xnd X k)]) (mc2 := 0) (ms2 := 0) dX7_assignRole_2 (c_X7_findKind0 l G (xnd X k) 0 _ hK.1 hpar) cl_X7_111 im_X7_findKind se_X7_findKind rfl rfl hK.1 rfl rfl (by omega) (by omega) (by omega) (Nat.le_of_ble_eq_true rfl) ?_
  rintro _ s1 ⟨rfl, hs1⟩; obtain rfl := hs1.symm
  refine zp_putR dX7_assignRole_5 fl_X7_63 hK.1 (r := some (G.2.2.1 0)) rfl ?_
  rw [wR_same hkd]
  refine zp_aload_n dX7_assignRole_8 rfl (a := (xnd X k)) (List.mem_of_getElem? (i := 0) rfl) ?_
  refine zp_callV (c0 := 4) (st := []) (mc2 := 0) (ms2 := 0) dX7_assignRole_9 (c_X7_isText l G (xnd X k) 0 _ hK.1) cl_X7_66 im_X7_isText se_X7_isText rfl rfl hK.1 rfl rfl (by omega) (by omega) (by omega) (Nat.le_of_ble_eq_true rfl) ?_
  rintro _ s1 ⟨rfl, hs1⟩; obtain rfl := hs1.symm
  refine zp_ifb_eq dX7_assignRole_12 (tgt := 16) rfl (fun _ => ?_) (fun q => absurd q hpos)
  refine zp_aload_n dX7_assignRole_16 rfl (a := (xnd X k)) (List.mem_of_getElem? (i := 0) rfl) ?_
  refine zp_aload_n dX7_assignRole_17 rfl (a := (xnd X k)) (List.mem_of_getElem? (i := 0) rfl) ?_
  refine zp_getRv dX7_assignRole_18 fl_X7_25 hK.1 (b := (xsy Y k)) hS.1 ?_
  refine zp_iconst dX7_assignRole_21 (v := 0) (by decide) ?_
  refine zp_iald_v dX7_assignRole_22 hS.2.1 (Or.inl rfl) (j := 0) (by decide) (zin (by decide)) (v := 0) hs0 ?_
  refine zp_iconst dX7_assignRole_23 (v := 3) (by decide) ?_
  refine zp_icmp_ne dX7_assignRole_24 (tgt := 61) rfl (fun _ => ?_) (fun q => absurd q (by decide))
  refine zp_iconst dX7_assignRole_61 (v := 0) (by decide) ?_
  refine zp_putZ dX7_assignRole_62 fl_X7_70 hK.1 (Or.inl rfl) ?_
  rw [wI_same (f := 515) (x := 0) htab]
  refine zp_iconst dX7_assignRole_65 (v := 0) (by decide) ?_
  refine zp_istore_n dX7_assignRole_66 rfl (Nat.le_of_ble_eq_true rfl) (lv2 := [(1, .int 0), (0, .ref (xnd X k))]) rfl ?_
  have e := l_counted l hD h hA hk ht rest 21 0 (by omega)
  rw [cnS_0] at e
  exact e
set_option maxRecDepth 100000 in
set_option maxHeartbeats 4000000 in
theorem c_X7_assignRoleB (l : Launch) (G : Gb) (D : Dt) (X : Cx) (Y : Cy) (k : Nat) (σ : Sto) (hD : DW D) (h : AI G D X Y σ) (hA : DA X Y (dn D)) (hk : k < dn D) (h0 : k ≠ 0) (ht : dtx D k = false) : Ct l G 3 0 0 yX7_assignRole mX7_assignRole [.ref (xnd X k)] σ (fun v s => v = none ∧ s = wI (cnS (xcn X k) (dst D k) 21 σ) 516 (xnd X k) (zb (k = 0))) := by
  refine Ct.of (by decide) rfl (Nat.le_of_ble_eq_true rfl) (fun h => absurd h (by decide)) ?_
  have hK := h.1 k hk
  have hS := h.2.2.1 k hk
  have hkd : zR σ 514 (xnd X k) = some (G.2.2.1 0) := by have := hK.2.2.2.2.2.2.2.2.1; rw [ht] at this; exact this
  have hpos : ¬ (0 < zI σ 503 (xnd X k)) := by rw [hK.2.2.1, if_neg (by rw [ht]; decide)]; decide
  have htab : zI σ 515 (xnd X k) = 0 := hK.2.2.2.2.2.2.2.2.2.1
  have hscr : zI σ 517 (xnd X k) = 0 := hK.2.2.2.2.2.2.2.2.2.2.1
  have h14 : dst D k 14 = 0 := (hD.2.2.2.2.2.2.2.2.2.2.2 k).2.2.2.2.1
  have h17 : dst D k 17 = 1 := (hD.2.2.2.2.2.2.2.2.2.2.2 k).2.2.2.2.2.2.2.1
  have hs0 : zA σ (xsy Y k) 0 = 0 := (hS.2.2 ht 0 (by decide)).trans (hD.2.2.2.2.2.2.2.2.2.2.2 k).1
  have hpar : zR σ 501 (xnd X k) = some (xnd X (dpar D k)) := by have := hK.2.1; rw [if_neg h0] at this; exact this
  refine zp_kin (fun hkin => ?_)
  have rest : Wp l G 3 0 0 (RX7, cX7_assignRole, 2, none, false) 106 [(0, .ref (xnd X k))] [] (cnS (xcn X k) (dst D k) 21 σ) (fun v s => v = none ∧ s = wI (cnS (xcn X k) (dst D k) 21 σ) 516 (xnd X k) (zb (k = 0))) := by
    show Wp l G 3 0 0 (RX7, cX7_assignRole, 2, none, false) 106 [(0, .ref (xnd X k))] [] (cnS (xcn X k) (dst D k) 21 σ) (fun v s => v = none ∧ s = wI (cnS (xcn X k) (dst D k) 21 σ) 516 (xnd X k) (zb (k = 0)))
    refine zp_aload_n dX7_assignRole_106 rfl (a := (xnd X k)) (List.mem_of_getElem? (i := 0) rfl) ?_
    refine zp_getIv dX7_assignRole_107 fl_X7_70 hK.1 (v := 0) htab ?_
    refine zp_if_ne dX7_assignRole_110 (tgt := 120) rfl (fun q => absurd (by decide) q) (fun _ => ?_)
    refine zp_aload_n dX7_assignRole_113 rfl (a := (xnd X k)) (List.mem_of_getElem? (i := 0) rfl) ?_
    refine zp_callV (c0 := 4) (st := []) (mc2 := 0) (ms2 := 0) dX7_assignRole_114 (c_X7_inCols1 l G D X Y k _ hD (h.pcn hD hA hk) hk h0) cl_X7_119 im_X7_isInColumns se_X7_isInColumns rfl rfl hK.1 rfl rfl (by omega) (by omega) (by omega) (Nat.le_of_ble_eq_true rfl) ?_
    rintro _ s1 ⟨rfl, hs1⟩; obtain rfl := hs1.symm
    refine zp_if_eq dX7_assignRole_117 (tgt := 128) rfl (fun _ => ?_) (fun q => absurd rfl q)
    refine zp_aload_n dX7_assignRole_128 rfl (a := (xnd X k)) (List.mem_of_getElem? (i := 0) rfl) ?_
    refine zp_aload_n dX7_assignRole_129 rfl (a := (xnd X k)) (List.mem_of_getElem? (i := 0) rfl) ?_
    refine zp_getRv dX7_assignRole_130 fl_X7_29 hK.1 (b := (xcn X k)) hK.2.2.2.1 ?_
    refine zp_bipush dX7_assignRole_133 (v := 14) (by decide) ?_
    refine zp_iald_v dX7_assignRole_135 hK.2.2.2.2.1 (Or.inl rfl) (j := 14) (by decide) (zin (by decide)) (v := 0) ((cnS_v (by decide)).trans h14) ?_
    refine zp_iconst dX7_assignRole_136 (v := 2) (by decide) ?_
    refine zp_icmp_ne dX7_assignRole_137 (tgt := 170) rfl (fun _ => ?_) (fun q => absurd q (by decide))
    refine zp_iconst dX7_assignRole_170 (v := 0) (by decide) ?_
    refine zp_putZ dX7_assignRole_171 fl_X7_126 hK.1 (Or.inl rfl) ?_
    rw [wI_same (f := 517) (x := 0) (show zI (cnS (xcn X k) (dst D k) 21 σ) 517 (xnd X k) = 0 from hscr)]
    refine zp_aload_n dX7_assignRole_174 rfl (a := (xnd X k)) (List.mem_of_getElem? (i := 0) rfl) ?_
    refine zp_aload_n dX7_assignRole_175 rfl (a := (xnd X k)) (List.mem_of_getElem? (i := 0) rfl) ?_
    refine zp_getRv dX7_assignRole_176 fl_X7_15 hK.1 (b := (xnd X (dpar D k))) hpar ?_
    refine zp_nullF dX7_assignRole_179 (tgt := 250) rfl ?_
    refine zp_aload_n dX7_assignRole_182 rfl (a := (xnd X k)) (List.mem_of_getElem? (i := 0) rfl) ?_
    refine zp_getIv dX7_assignRole_183 fl_X7_70 hK.1 (v := 0) htab ?_
    refine zp_if_ne dX7_assignRole_186 (tgt := 250) rfl (fun q => absurd (by decide) q) (fun _ => ?_)
    refine zp_aload_n dX7_assignRole_189 rfl (a := (xnd X k)) (List.mem_of_getElem? (i := 0) rfl) ?_
    refine zp_getRv dX7_assignRole_190 fl_X7_29 hK.1 (b := (xcn X k)) hK.2.2.2.1 ?_
    refine zp_bipush dX7_assignRole_193 (v := 14) (by decide) ?_
    refine zp_iald_v dX7_assignRole_195 hK.2.2.2.2.1 (Or.inl rfl) (j := 14) (by decide) (zin (by decide)) (v := 0) ((cnS_v (by decide)).trans h14) ?_
    refine zp_if_ne dX7_assignRole_196 (tgt := 250) rfl (fun q => absurd (by decide) q) (fun _ => ?_)
    refine zp_aload_n dX7_assignRole_199 rfl (a := (xnd X k)) (List.mem_of_getElem? (i := 0) rfl) ?_
    refine zp_getRv dX7_assignRole_200 fl_X7_29 hK.1 (b := (xcn X k)) hK.2.2.2.1 ?_
    refine zp_bipush dX7_assignRole_203 (v := 17) (by decide) ?_
    refine zp_iald_v dX7_assignRole_205 hK.2.2.2.2.1 (Or.inl rfl) (j := 17) (by decide) (zin (by decide)) (v := 1) ((cnS_v (by decide)).trans h17) ?_
    refine zp_iconst dX7_assignRole_206 (v := 1) (by decide) ?_
    refine zp_icmp_gt dX7_assignRole_207 (tgt := 250) rfl (fun q => absurd q (by decide)) (fun _ => ?_)
    refine zp_aload_n dX7_assignRole_210 rfl (a := (xnd X k)) (List.mem_of_getElem? (i := 0) rfl) ?_
    refine zp_getRv dX7_assignRole_211 fl_X7_63 hK.1 (b := (G.2.2.1 0)) hkd ?_
    refine zp_kind (i := 5) dX7_assignRole_214 (by decide) rfl wd_343 ?_
    refine zp_acmp_eq (rx := (some (G.2.2.1 0))) (ry := (some (G.2.2.1 5))) dX7_assignRole_217 (tgt := 250) rfl rfl rfl (fun q => absurd q (fun q => absurd (hkin 0 5 (by decide) (by decide) (Option.some.inj q)) (by decide))) (fun _ => ?_)
    refine zp_aload_n dX7_assignRole_220 rfl (a := (xnd X k)) (List.mem_of_getElem? (i := 0) rfl) ?_
    refine zp_getRv dX7_assignRole_221 fl_X7_63 hK.1 (b := (G.2.2.1 0)) hkd ?_
    refine zp_kind (i := 6) dX7_assignRole_224 (by decide) rfl wd_341 ?_
    refine zp_acmp_eq (rx := (some (G.2.2.1 0))) (ry := (some (G.2.2.1 6))) dX7_assignRole_227 (tgt := 250) rfl rfl rfl (fun q => absurd q (fun q => absurd (hkin 0 6 (by decide) (by decide) (Option.some.inj q)) (by decide))) (fun _ => ?_)
    refine zp_aload_n dX7_assignRole_230 rfl (a := (xnd X k)) (List.mem_of_getElem? (i := 0) rfl) ?_
    refine zp_getRv dX7_assignRole_231 fl_X7_63 hK.1 (b := (G.2.2.1 0)) hkd ?_
    refine zp_kind (i := 2) dX7_assignRole_234 (by decide) rfl wd_347 ?_
    refine zp_acmp_eq (rx := (some (G.2.2.1 0))) (ry := (some (G.2.2.1 2))) dX7_assignRole_237 (tgt := 250) rfl rfl rfl (fun q => absurd q (fun q => absurd (hkin 0 2 (by decide) (by decide) (Option.some.inj q)) (by decide))) (fun _ => ?_)
    refine zp_aload_n dX7_assignRole_240 rfl (a := (xnd X k)) (List.mem_of_getElem? (i := 0) rfl) ?_
    refine zp_getRv dX7_assignRole_241 fl_X7_63 hK.1 (b := (G.2.2.1 0)) hkd ?_
    refine zp_kind (i := 4) dX7_assignRole_244 (by decide) rfl wd_339 ?_
    refine zp_acmp_ne (rx := (some (G.2.2.1 0))) (ry := (some (G.2.2.1 4))) dX7_assignRole_247 (tgt := 254) rfl rfl rfl (fun _ => ?_) (fun q => absurd q (fun q => absurd (hkin 0 4 (by decide) (by decide) (Option.some.inj q)) (by decide)))
    refine zp_iconst dX7_assignRole_254 (v := 0) (by decide) ?_
    refine zp_putZ dX7_assignRole_255 fl_X7_135 hK.1 (Or.inl rfl) ?_
    refine zp_vret rfl dX7_assignRole_258 ?_
    exact ⟨rfl, by rw [zb_f h0]⟩
  show Wp l G 3 0 0 (RX7, cX7_assignRole, 2, none, false) 0 [(0, .ref (xnd X k))] [] σ _
  refine zp_aload_n dX7_assignRole_0 rfl (a := (xnd X k)) (List.mem_of_getElem? (i := 0) rfl) ?_
  refine zp_aload_n dX7_assignRole_1 rfl (a := (xnd X k)) (List.mem_of_getElem? (i := 0) rfl) ?_
  refine zp_callV (c0 := 4) (st := [.ref (xnd X k)]) (mc2 := 0) (ms2 := 0) dX7_assignRole_2 (c_X7_findKindB l G D X Y k _ hD h hk h0 ht) cl_X7_111 im_X7_findKind se_X7_findKind rfl rfl hK.1 rfl rfl (by omega) (by omega) (by omega) (Nat.le_of_ble_eq_true rfl) ?_
  rintro _ s1 ⟨rfl, hs1⟩; obtain rfl := hs1.symm
  refine zp_putR dX7_assignRole_5 fl_X7_63 hK.1 (r := some (G.2.2.1 0)) rfl ?_
  rw [wR_same hkd]
  refine zp_aload_n dX7_assignRole_8 rfl (a := (xnd X k)) (List.mem_of_getElem? (i := 0) rfl) ?_
  refine zp_callV (c0 := 4) (st := []) (mc2 := 0) (ms2 := 0) dX7_assignRole_9 (c_X7_isText l G (xnd X k) 0 _ hK.1) cl_X7_66 im_X7_isText se_X7_isText rfl rfl hK.1 rfl rfl (by omega) (by omega) (by omega) (Nat.le_of_ble_eq_true rfl) ?_
  rintro _ s1 ⟨rfl, hs1⟩; obtain rfl := hs1.symm
  refine zp_ifb_eq dX7_assignRole_12 (tgt := 16) rfl (fun _ => ?_) (fun q => absurd q hpos)
  refine zp_aload_n dX7_assignRole_16 rfl (a := (xnd X k)) (List.mem_of_getElem? (i := 0) rfl) ?_
  refine zp_aload_n dX7_assignRole_17 rfl (a := (xnd X k)) (List.mem_of_getElem? (i := 0) rfl) ?_
  refine zp_getRv dX7_assignRole_18 fl_X7_25 hK.1 (b := (xsy Y k)) hS.1 ?_
  refine zp_iconst dX7_assignRole_21 (v := 0) (by decide) ?_
  refine zp_iald_v dX7_assignRole_22 hS.2.1 (Or.inl rfl) (j := 0) (by decide) (zin (by decide)) (v := 0) hs0 ?_
  refine zp_iconst dX7_assignRole_23 (v := 3) (by decide) ?_
  refine zp_icmp_ne dX7_assignRole_24 (tgt := 61) rfl (fun _ => ?_) (fun q => absurd q (by decide))
  refine zp_iconst dX7_assignRole_61 (v := 0) (by decide) ?_
  refine zp_putZ dX7_assignRole_62 fl_X7_70 hK.1 (Or.inl rfl) ?_
  rw [wI_same (f := 515) (x := 0) htab]
  refine zp_iconst dX7_assignRole_65 (v := 0) (by decide) ?_
  refine zp_istore_n dX7_assignRole_66 rfl (Nat.le_of_ble_eq_true rfl) (lv2 := [(1, .int 0), (0, .ref (xnd X k))]) rfl ?_
  have e := l_counted l hD h hA hk ht rest 21 0 (by omega)
  rw [cnS_0] at e
  exact e
/-- the kinds' frame -/
def Fr (D : Dt) (X : Cx) (σ s : Sto) : Prop := (∀ g, g ≠ 516 → g ≠ 518 → g ≠ 519 → zI s g = zI σ g) ∧ zR s = zR σ ∧ s.1 = σ.1 ∧ zQ s = zQ σ ∧ (∀ a, (∀ k, k < dn D → dtx D k = false → a ≠ xcn X k) → zA s a = zA σ a)
theorem Fr.refl {D : Dt} {X : Cx} {σ : Sto} : Fr D X σ σ := ⟨fun _ _ _ _ => rfl, rfl, rfl, rfl, fun _ _ => rfl⟩
theorem Fr.trans {D : Dt} {X : Cx} {σ s t : Sto} (h : Fr D X σ s) (h' : Fr D X s t) : Fr D X σ t :=
  ⟨fun g a b c => (h'.1 g a b c).trans (h.1 g a b c), h'.2.1.trans h.2.1, h'.2.2.1.trans h.2.2.1, h'.2.2.2.1.trans h.2.2.2.1, fun a ha => (h'.2.2.2.2 a ha).trans (h.2.2.2.2 a ha)⟩
def Dn (D : Dt) (X : Cx) (xs : List Nat) (σ : Sto) : Prop := ∀ k, k < dn D → k ∉ xs → (dtx D k = false → ∀ s, s < 21 → zA σ (xcn X k) s = dst D k s) ∧ zI σ 516 (xnd X k) = zb (k = 0)
set_option maxHeartbeats 4000000 in
theorem l_assign (l : Launch) {G : Gb} {D : Dt} {X : Cx} {Y : Cy} (hD : DW D) (hA : DA X Y (dn D)) (hd : ∀ j k, j < dn D → k < dn D → xnd X j = xnd X k → j = k) : ∀ (xs : List Nat) (r : Option Nat) (σ : Sto), Cn D r xs none → (∀ x, x ∈ xs → x < dn D) → AI G D X Y σ → Dn D X xs σ →
    Wp l G 4 0 0 (RX7, cX7_assignRoles, 2, none, false) 2 [(1, va_rf (lk X r)), (0, .ref (xnd X 0))] [] σ (fun v s => v = none ∧ AI G D X Y s ∧ Dn D X [] s ∧ Fr D X σ s) := by
  intro xs
  induction xs with
  | nil =>
    intro r σ hc hx hI hS
    have hr : r = none := hc
    rw [hr]
    show Wp l G 4 0 0 (RX7, cX7_assignRoles, 2, none, false) 2 [(1, .null), (0, .ref (xnd X 0))] [] σ _
    refine zp_aloado_n dX7_assignRoles_2 rfl (r := none) (v := .null) rfl (List.mem_of_getElem? (i := 0) rfl) ?_
    refine zp_nullT dX7_assignRoles_3 (tgt := 30) rfl ?_
    refine zp_vret rfl dX7_assignRoles_30 ?_
    exact ⟨rfl, hI, hS, Fr.refl⟩
  | cons x xs ih =>
    intro r σ hc hx hI hS
    obtain ⟨hr, hc2⟩ := hc
    rw [hr]
    have hxn := hx x List.mem_cons_self
    have hK := hI.1 x hxn
    by_cases ht : dtx D x = true
    · skip
      show Wp l G 4 0 0 (RX7, cX7_assignRoles, 2, none, false) 2 [(1, .ref (xnd X x)), (0, .ref (xnd X 0))] [] σ _
      refine zp_aload_n dX7_assignRoles_2 rfl (a := (xnd X x)) (List.mem_of_getElem? (i := 0) rfl) ?_
      refine zp_nullF dX7_assignRoles_3 (tgt := 30) rfl ?_
      refine zp_aload_n dX7_assignRoles_6 rfl (a := (xnd X x)) (List.mem_of_getElem? (i := 0) rfl) ?_
      refine zp_iconst dX7_assignRoles_7 (v := (-1)) (by decide) ?_
      refine zp_putI dX7_assignRoles_8 fl_X7_98 hK.1 ?_
      refine zp_aload_n dX7_assignRoles_11 rfl (a := (xnd X x)) (List.mem_of_getElem? (i := 0) rfl) ?_
      refine zp_iconst dX7_assignRoles_12 (v := (-1)) (by decide) ?_
      refine zp_putI dX7_assignRoles_13 fl_X7_101 (tI hK.1) ?_
      have hIa : AI G D X Y (wI (wI σ 518 (xnd X x) (-1)) 519 (xnd X x) (-1)) := (hI.pI (by decide)).pI (by decide)
      refine zp_aload_n dX7_assignRoles_16 rfl (a := (xnd X x)) (List.mem_of_getElem? (i := 0) rfl) ?_
      refine zp_callV (c0 := 4) (st := []) (mc2 := 0) (ms2 := 0) dX7_assignRoles_17 (c_X7_assignRoleT l G D X Y x _ hD hIa hA hxn ht) cl_X7_104 im_X7_assignRole se_X7_assignRole rfl rfl (tI (tI hK.1)) rfl rfl (by omega) (by omega) (by omega) (Nat.le_of_ble_eq_true rfl) ?_
      rintro _ s1 ⟨rfl, hs1⟩
      have hI1 : AI G D X Y s1 := by rw [hs1]; exact hIa
      have hF1 : Fr D X σ s1 := by rw [hs1]; exact ⟨fun g h1 h2 h3 => by funext c; rw [rIn h3, rIn h2], rfl, rfl, rfl, fun _ _ => rfl⟩
      have hS1 : Dn D X xs s1 := fun k hk hkx => by
        rw [hs1]
        by_cases q : k = x
        · rw [q]
          refine ⟨fun z => (by rw [ht] at z; cases z), ?_⟩
          rw [rIn (by decide), rIn (by decide), hI.2.2.2.2 x hxn ht, zb_f]
          exact fun z => by rw [z, hD.2.2.2.1] at ht; cases ht
        · obtain ⟨g1, g2⟩ := hS k hk (fun z => (List.mem_cons.mp z).elim q hkx)
          exact ⟨g1, by rw [rIn (by decide), rIn (by decide)]; exact g2⟩
      refine zp_aload_n dX7_assignRoles_20 rfl (a := (xnd X x)) (List.mem_of_getElem? (i := 0) rfl) ?_
      refine zp_aload_n dX7_assignRoles_21 rfl (a := (xnd X 0)) (List.mem_of_getElem? (i := 1) rfl) ?_
      refine zp_iconst dX7_assignRoles_22 (v := 1) (by decide) ?_
      refine zp_callS (st := []) (mc2 := 0) (ms2 := 0) dX7_assignRoles_23 (c_X7_onwardX l G D X x _ hD (hI1.nx hd) hxn) cl_X7_107 st_X7_onward rfl rfl (by omega) (by omega) (by omega) (Nat.le_of_ble_eq_true rfl) ?_
      rintro _ s1 ⟨rfl, hs1⟩; obtain rfl := hs1.symm
      refine zp_astoreo_n dX7_assignRoles_26 rfl (Nat.le_of_ble_eq_true rfl) (r := (lk X (onw D x))) (v := va_rf (lk X (onw D x))) rfl (lv2 := [(1, va_rf (lk X (onw D x))), (0, .ref (xnd X 0))]) rfl ?_
      refine zp_goto dX7_assignRoles_27 (tgt := 2) rfl ?_
      refine Wp.mono (ih (onw D x) s1 hc2 (fun y hy => hx y (List.mem_cons_of_mem _ hy)) hI1 hS1) (Nat.le_refl _) (Nat.le_refl _) (Nat.le_refl _) (fun v s q => ?_)
      obtain ⟨q0, q1, q2, q3⟩ := q
      exact ⟨q0, q1, q2, hF1.trans q3⟩
    · have ht : dtx D x = false := by cases e : dtx D x; rfl; exact absurd e ht
      by_cases h0 : x = 0
      · skip
        show Wp l G 4 0 0 (RX7, cX7_assignRoles, 2, none, false) 2 [(1, .ref (xnd X x)), (0, .ref (xnd X 0))] [] σ _
        refine zp_aload_n dX7_assignRoles_2 rfl (a := (xnd X x)) (List.mem_of_getElem? (i := 0) rfl) ?_
        refine zp_nullF dX7_assignRoles_3 (tgt := 30) rfl ?_
        refine zp_aload_n dX7_assignRoles_6 rfl (a := (xnd X x)) (List.mem_of_getElem? (i := 0) rfl) ?_
        refine zp_iconst dX7_assignRoles_7 (v := (-1)) (by decide) ?_
        refine zp_putI dX7_assignRoles_8 fl_X7_98 hK.1 ?_
        refine zp_aload_n dX7_assignRoles_11 rfl (a := (xnd X x)) (List.mem_of_getElem? (i := 0) rfl) ?_
        refine zp_iconst dX7_assignRoles_12 (v := (-1)) (by decide) ?_
        refine zp_putI dX7_assignRoles_13 fl_X7_101 (tI hK.1) ?_
        have hIa : AI G D X Y (wI (wI σ 518 (xnd X x) (-1)) 519 (xnd X x) (-1)) := (hI.pI (by decide)).pI (by decide)
        refine zp_aload_n dX7_assignRoles_16 rfl (a := (xnd X x)) (List.mem_of_getElem? (i := 0) rfl) ?_
        refine zp_callV (c0 := 4) (st := []) (mc2 := 0) (ms2 := 0) dX7_assignRoles_17 (c_X7_assignRole0 l G D X Y x _ hD hIa hA hxn h0 ht) cl_X7_104 im_X7_assignRole se_X7_assignRole rfl rfl (tI (tI hK.1)) rfl rfl (by omega) (by omega) (by omega) (Nat.le_of_ble_eq_true rfl) ?_
        rintro _ s1 ⟨rfl, hs1⟩
        have hI1 : AI G D X Y s1 := by rw [hs1]; exact (hIa.pcn hD hA hxn).p516 hd hxn ht
        have hF1 : Fr D X σ s1 := by
          rw [hs1]
          refine ⟨fun g h1 h2 h3 => by funext c; rw [rIn h1]; show zI (wI (wI σ 518 (xnd X x) (-1)) 519 (xnd X x) (-1)) g c = _; rw [rIn h3, rIn h2], rfl, rfl, rfl, fun a ha => ?_⟩
          show zA (cnS (xcn X x) (dst D x) 21 (wI (wI σ 518 (xnd X x) (-1)) 519 (xnd X x) (-1))) a = zA σ a
          rw [cnS_b (ha x hxn ht)]
          rfl
        have hS1 : Dn D X xs s1 := fun k hk hkx => by
          rw [hs1]
          by_cases q : k = x
          · rw [q]
            exact ⟨fun _ s hs => cnS_v hs, rIe⟩
          · obtain ⟨g1, g2⟩ := hS k hk (fun z => (List.mem_cons.mp z).elim q hkx)
            refine ⟨fun z s hs => ?_, ?_⟩
            · show zA (cnS (xcn X x) (dst D x) 21 (wI (wI σ 518 (xnd X x) (-1)) 519 (xnd X x) (-1))) (xcn X k) s = dst D k s
              rw [cnS_b (fun z2 => q ((hA.n hk hxn).1 z2))]
              exact g1 z s hs
            · rw [rIb (fun z2 => q (hd k x hk hxn z2))]
              show zI (wI (wI σ 518 (xnd X x) (-1)) 519 (xnd X x) (-1)) 516 (xnd X k) = _
              rw [rIn (by decide), rIn (by decide)]
              exact g2
        refine zp_aload_n dX7_assignRoles_20 rfl (a := (xnd X x)) (List.mem_of_getElem? (i := 0) rfl) ?_
        refine zp_aload_n dX7_assignRoles_21 rfl (a := (xnd X 0)) (List.mem_of_getElem? (i := 1) rfl) ?_
        refine zp_iconst dX7_assignRoles_22 (v := 1) (by decide) ?_
        refine zp_callS (st := []) (mc2 := 0) (ms2 := 0) dX7_assignRoles_23 (c_X7_onwardX l G D X x _ hD (hI1.nx hd) hxn) cl_X7_107 st_X7_onward rfl rfl (by omega) (by omega) (by omega) (Nat.le_of_ble_eq_true rfl) ?_
        rintro _ s1 ⟨rfl, hs1⟩; obtain rfl := hs1.symm
        refine zp_astoreo_n dX7_assignRoles_26 rfl (Nat.le_of_ble_eq_true rfl) (r := (lk X (onw D x))) (v := va_rf (lk X (onw D x))) rfl (lv2 := [(1, va_rf (lk X (onw D x))), (0, .ref (xnd X 0))]) rfl ?_
        refine zp_goto dX7_assignRoles_27 (tgt := 2) rfl ?_
        refine Wp.mono (ih (onw D x) s1 hc2 (fun y hy => hx y (List.mem_cons_of_mem _ hy)) hI1 hS1) (Nat.le_refl _) (Nat.le_refl _) (Nat.le_refl _) (fun v s q => ?_)
        obtain ⟨q0, q1, q2, q3⟩ := q
        exact ⟨q0, q1, q2, hF1.trans q3⟩
      · skip
        show Wp l G 4 0 0 (RX7, cX7_assignRoles, 2, none, false) 2 [(1, .ref (xnd X x)), (0, .ref (xnd X 0))] [] σ _
        refine zp_aload_n dX7_assignRoles_2 rfl (a := (xnd X x)) (List.mem_of_getElem? (i := 0) rfl) ?_
        refine zp_nullF dX7_assignRoles_3 (tgt := 30) rfl ?_
        refine zp_aload_n dX7_assignRoles_6 rfl (a := (xnd X x)) (List.mem_of_getElem? (i := 0) rfl) ?_
        refine zp_iconst dX7_assignRoles_7 (v := (-1)) (by decide) ?_
        refine zp_putI dX7_assignRoles_8 fl_X7_98 hK.1 ?_
        refine zp_aload_n dX7_assignRoles_11 rfl (a := (xnd X x)) (List.mem_of_getElem? (i := 0) rfl) ?_
        refine zp_iconst dX7_assignRoles_12 (v := (-1)) (by decide) ?_
        refine zp_putI dX7_assignRoles_13 fl_X7_101 (tI hK.1) ?_
        have hIa : AI G D X Y (wI (wI σ 518 (xnd X x) (-1)) 519 (xnd X x) (-1)) := (hI.pI (by decide)).pI (by decide)
        refine zp_aload_n dX7_assignRoles_16 rfl (a := (xnd X x)) (List.mem_of_getElem? (i := 0) rfl) ?_
        refine zp_callV (c0 := 4) (st := []) (mc2 := 0) (ms2 := 0) dX7_assignRoles_17 (c_X7_assignRoleB l G D X Y x _ hD hIa hA hxn h0 ht) cl_X7_104 im_X7_assignRole se_X7_assignRole rfl rfl (tI (tI hK.1)) rfl rfl (by omega) (by omega) (by omega) (Nat.le_of_ble_eq_true rfl) ?_
        rintro _ s1 ⟨rfl, hs1⟩
        have hI1 : AI G D X Y s1 := by rw [hs1]; exact (hIa.pcn hD hA hxn).p516 hd hxn ht
        have hF1 : Fr D X σ s1 := by
          rw [hs1]
          refine ⟨fun g h1 h2 h3 => by funext c; rw [rIn h1]; show zI (wI (wI σ 518 (xnd X x) (-1)) 519 (xnd X x) (-1)) g c = _; rw [rIn h3, rIn h2], rfl, rfl, rfl, fun a ha => ?_⟩
          show zA (cnS (xcn X x) (dst D x) 21 (wI (wI σ 518 (xnd X x) (-1)) 519 (xnd X x) (-1))) a = zA σ a
          rw [cnS_b (ha x hxn ht)]
          rfl
        have hS1 : Dn D X xs s1 := fun k hk hkx => by
          rw [hs1]
          by_cases q : k = x
          · rw [q]
            exact ⟨fun _ s hs => cnS_v hs, rIe⟩
          · obtain ⟨g1, g2⟩ := hS k hk (fun z => (List.mem_cons.mp z).elim q hkx)
            refine ⟨fun z s hs => ?_, ?_⟩
            · show zA (cnS (xcn X x) (dst D x) 21 (wI (wI σ 518 (xnd X x) (-1)) 519 (xnd X x) (-1))) (xcn X k) s = dst D k s
              rw [cnS_b (fun z2 => q ((hA.n hk hxn).1 z2))]
              exact g1 z s hs
            · rw [rIb (fun z2 => q (hd k x hk hxn z2))]
              show zI (wI (wI σ 518 (xnd X x) (-1)) 519 (xnd X x) (-1)) 516 (xnd X k) = _
              rw [rIn (by decide), rIn (by decide)]
              exact g2
        refine zp_aload_n dX7_assignRoles_20 rfl (a := (xnd X x)) (List.mem_of_getElem? (i := 0) rfl) ?_
        refine zp_aload_n dX7_assignRoles_21 rfl (a := (xnd X 0)) (List.mem_of_getElem? (i := 1) rfl) ?_
        refine zp_iconst dX7_assignRoles_22 (v := 1) (by decide) ?_
        refine zp_callS (st := []) (mc2 := 0) (ms2 := 0) dX7_assignRoles_23 (c_X7_onwardX l G D X x _ hD (hI1.nx hd) hxn) cl_X7_107 st_X7_onward rfl rfl (by omega) (by omega) (by omega) (Nat.le_of_ble_eq_true rfl) ?_
        rintro _ s1 ⟨rfl, hs1⟩; obtain rfl := hs1.symm
        refine zp_astoreo_n dX7_assignRoles_26 rfl (Nat.le_of_ble_eq_true rfl) (r := (lk X (onw D x))) (v := va_rf (lk X (onw D x))) rfl (lv2 := [(1, va_rf (lk X (onw D x))), (0, .ref (xnd X 0))]) rfl ?_
        refine zp_goto dX7_assignRoles_27 (tgt := 2) rfl ?_
        refine Wp.mono (ih (onw D x) s1 hc2 (fun y hy => hx y (List.mem_cons_of_mem _ hy)) hI1 hS1) (Nat.le_refl _) (Nat.le_refl _) (Nat.le_refl _) (fun v s q => ?_)
        obtain ⟨q0, q1, q2, q3⟩ := q
        exact ⟨q0, q1, q2, hF1.trans q3⟩
set_option maxRecDepth 100000 in
set_option maxHeartbeats 4000000 in
theorem c_X7_assignRoles (l : Launch) (G : Gb) (D : Dt) (X : Cx) (Y : Cy) (σ : Sto) (hD : DW D) (hI : AI G D X Y σ) (hA : DA X Y (dn D)) (hd : ∀ j k, j < dn D → k < dn D → xnd X j = xnd X k → j = k) : Ct l G 4 0 0 yX7_assignRoles mX7_assignRoles [.ref (xnd X 0)] σ (fun v s => v = none ∧ AI G D X Y s ∧ (∀ k, k < dn D → NK G D X s k) ∧ Fr D X σ s) := by
  refine Ct.of (by decide) rfl (Nat.le_of_ble_eq_true rfl) (fun h => absurd h (by decide)) ?_
  show Wp l G 4 0 0 (RX7, cX7_assignRoles, 2, none, false) 0 [(0, .ref (xnd X 0))] [] σ _
  refine zp_aload_n dX7_assignRoles_0 rfl (a := (xnd X 0)) (List.mem_of_getElem? (i := 0) rfl) ?_
  refine zp_astore_n dX7_assignRoles_1 rfl (Nat.le_of_ble_eq_true rfl) (lv2 := [(1, .ref (xnd X 0)), (0, .ref (xnd X 0))]) rfl ?_
  refine Wp.mono (l_assign l hD hA hd (ordL D) (some 0) σ (ordL_cn hD) (fun x hx => (ordL_mem hD x).mp hx) hI (fun k hk h1 => absurd ((ordL_mem hD k).mpr hk) h1)) (Nat.le_refl _) (Nat.le_refl _) (Nat.le_refl _) (fun v s q => ?_)
  obtain ⟨q0, q1, q2, q3⟩ := q
  exact ⟨q0, q1, fun k hk => (q1.1 k hk).up (q2 k hk List.not_mem_nil).1 (q2 k hk List.not_mem_nil).2, q3⟩

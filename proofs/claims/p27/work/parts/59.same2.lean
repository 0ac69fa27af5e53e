/-! THE LAW: same (by wip/p27/gen_same2.py) -/
theorem LA.Tt {D W} {L : Lw} {σ : Sto} (h : LA D W L σ) : zT σ (lwt L) = (20, 64) := h.1 0 (by decide)
theorem LA.Te {D W} {L : Lw} {σ : Sto} (h : LA D W L σ) : zT σ (lwe L) = (20, 48) := h.1 2 (by decide)
theorem LA.Ta {D W} {L : Lw} {σ : Sto} (h : LA D W L σ) : zT σ (lwa L) = (20, 64) := h.1 5 (by decide)
theorem LA.Tq {D W} {L : Lw} {σ : Sto} (h : LA D W L σ) : zT σ (lwq L) = (20, 8) := h.1 7 (by decide)
theorem LA.Tn {D W} {L : Lw} {σ : Sto} (h : LA D W L σ) : zT σ (lwn L) = (20, 64) := h.1 8 (by decide)
theorem LA.li {D W} {L : Lw} {σ : Sto} (h : LA D W L σ) : ∀ k, k < dn D → zA σ (lwt L) k = nI (dpar D k) ∧ zA σ (lwt L) (16 + k) = zb (dtx D k = true) ∧ zA σ (lwt L) (32 + k) = nI (dwc D k) ∧ (0 < k → zA σ (lwt L) (48 + k) = dsz D k) ∧ zA σ (lwg L) k = dst D k 4 ∧ zA σ (lwg L) (16 + k) = dst D k 5 ∧
  (∀ i, i < 4 → zA σ (lwm L) (4 * k + i) = dst D k (6 + i) ∧ zA σ (lwe L) (4 * k + i) = dst D k (10 + i)) ∧ (∀ i, i < dwc D k → zA σ (lwl L) (4 * k + i) = dln D k i) := h.2.1.1
theorem Rz.zo {G D X Y W T LL fr LL2 fr2} {σ : Sto} (h : Rz G D X Y W T LL fr LL2 fr2 σ) : zT σ (xob Y) = (10, 0) := h.1.1.1
theorem Wp.les {l G d M pc lv st s Q} {mc ms mc' ms' : Nat} (h : Wp l G d mc ms M pc lv st s Q) (h1 : mc ≤ mc') (h2 : ms ≤ ms') : Wp l G d mc' ms' M pc lv st s Q := Wp.mono h (Nat.le_refl _) h1 h2 (fun _ _ q => q)
theorem nI_nge {k n : Nat} (hn : n ≤ 12) (hk : k < n) (q : nI n ≤ nI k) : False := by
  have := (nI_le' (j := n) (k := k) (by omega) (by omega)).mp q
  omega
set_option maxHeartbeats 8000000 in
theorem l_sB (l : Launch) {G : Gb} {D : Dt} {X : Cx} {Y : Cy} {W : Int32} {T : Nat} {LL2 : Nat → List Nat} {fr2 : List Nat} {L : Lw} (hD : DW D) (hW0 : 0 ≤ W.toInt) (hW1 : W.toInt ≤ 300) (ha : Ap X Y (dn D) L) {k m : Nat} {s : Sto} {LL : Nat → List Nat} {fr : List Nat} {Q : Option Value → Sto → Prop} (hz : Rz G D X Y W T LL fr LL2 fr2 s) (hA : LA D W L s) (hk : k < dn D) (h0 : k ≠ 0) (ht : dtx D k = false) (kk : ∀ s' LL fr, Rz G D X Y W T LL fr LL2 fr2 s' → LA D W L s' → Fo X Y (dn D) s s' → Wp l G 37 (48 * m) (288 * m) (RL, cL_same, 10, (some .boolean), false) 45 [(7, .int (nI (k + 1))), (6, .int 1), (0, .ref (xob Y)), (1, .ref (lwt L)), (2, .ref (lwe L)), (3, .ref (lwa L)), (4, .ref (lwq L)), (5, .ref (lwn L))] [] s' Q) : Wp l G 37 (48 * (m + 1)) (288 * (m + 1)) (RL, cL_same, 10, (some .boolean), false) 45 [(7, .int (nI k)), (6, .int 1), (0, .ref (xob Y)), (1, .ref (lwt L)), (2, .ref (lwe L)), (3, .ref (lwa L)), (4, .ref (lwq L)), (5, .ref (lwn L))] [] s Q := by
  have hn := hD.2.1
  show Wp l G 37 (48 * (m + 1)) (288 * (m + 1)) (RL, cL_same, 10, (some .boolean), false) 45 [(7, .int (nI k)), (6, .int 1), (0, .ref (xob Y)), (1, .ref (lwt L)), (2, .ref (lwe L)), (3, .ref (lwa L)), (4, .ref (lwq L)), (5, .ref (lwn L))] [] s _
  refine zp_iload dL_same_45 (x := (nI k)) (List.mem_of_getElem? (i := 0) rfl) ?_
  refine zp_aload dL_same_47 (a := (lwq L)) (List.mem_of_getElem? (i := 6) rfl) ?_
  refine zp_iconst dL_same_49 (v := 3) (by decide) ?_
  refine zp_iald_v dL_same_50 (hA.Tq) (Or.inl rfl) (j := 3) (by decide) (zin (by decide)) (v := (nI (dn D))) hA.2.1.2.1 ?_
  refine zp_icmp_ge dL_same_51 (tgt := 261) rfl (fun q => absurd q (fun q => nI_nge hn hk q)) (fun _ => ?_)
  refine zp_iload dL_same_54 (x := 1) (List.mem_of_getElem? (i := 1) rfl) ?_
  refine zp_if_eq dL_same_56 (tgt := 261) rfl (fun q => absurd q (by decide)) (fun _ => ?_)
  refine zp_aload_n dL_same_59 rfl (a := (lwt L)) (List.mem_of_getElem? (i := 3) rfl) ?_
  refine zp_bipush dL_same_60 (v := 16) (by decide) ?_
  refine zp_iload dL_same_62 (x := (nI k)) (List.mem_of_getElem? (i := 0) rfl) ?_
  refine zp_iadd dL_same_64 ?_
  rw [show ((16 + (nI k)) : Int32) = (nI (16 + k)) from nI_add 16 k]
  refine zp_iald_v dL_same_65 (hA.Tt) (Or.inl rfl) (j := (16 + k)) (nI_clamp (by omega)) (vp_in_nI (by omega) (by decide)) (v := (zb (dtx D k = true))) (hA.li k (by omega)).2.1 ?_
  refine zp_if_ne dL_same_66 (tgt := 183) rfl (fun q => absurd (zb_f (by rw [ht]; decide)) q) (fun _ => ?_)
  refine zp_aload_n dL_same_69 rfl (a := (xob Y)) (List.mem_of_getElem? (i := 2) rfl) ?_
  refine zp_iload dL_same_70 (x := (nI k)) (List.mem_of_getElem? (i := 0) rfl) ?_
  refine zp_callV (c0 := 9) (st := []) (mc2 := (48 * (m + 1))) (ms2 := (288 * (m + 1))) dL_same_72 (c_X12_xB l G D X Y W T LL fr LL2 fr2 k s hD hz hk h0 ht) cl_L_61 im_X12_x se_X12_x rfl rfl (hz.zo) rfl rfl (by omega) (by omega) (by omega) (Nat.le_of_ble_eq_true rfl) ?_
  rintro _ sx ⟨rfl, hsx⟩; obtain rfl := hsx.symm
  refine zp_aload_n dL_same_75 rfl (a := (lwa L)) (List.mem_of_getElem? (i := 5) rfl) ?_
  refine zp_iload dL_same_76 (x := (nI k)) (List.mem_of_getElem? (i := 0) rfl) ?_
  refine zp_iald_v dL_same_78 (hA.Ta) (Or.inl rfl) (j := (k)) (nI_clamp (by omega)) (vp_in_nI (by omega) (by decide)) (v := (sa (LSt D W) k)) (hA.bx k hk ht h0).1 ?_
  refine zp_icmp_ne dL_same_79 (tgt := 177) rfl (fun q => absurd rfl q) (fun _ => ?_)
  refine zp_aload_n dL_same_82 rfl (a := (xob Y)) (List.mem_of_getElem? (i := 2) rfl) ?_
  refine zp_iload dL_same_83 (x := (nI k)) (List.mem_of_getElem? (i := 0) rfl) ?_
  refine zp_callV (c0 := 9) (st := []) (mc2 := (48 * (m + 1))) (ms2 := (288 * (m + 1))) dL_same_85 (c_X12_yB l G D X Y W T LL fr LL2 fr2 k s hD hz hk h0 ht) cl_L_64 im_X12_y se_X12_y rfl rfl (hz.zo) rfl rfl (by omega) (by omega) (by omega) (Nat.le_of_ble_eq_true rfl) ?_
  rintro _ sx ⟨rfl, hsx⟩; obtain rfl := hsx.symm
  refine zp_aload_n dL_same_88 rfl (a := (lwa L)) (List.mem_of_getElem? (i := 5) rfl) ?_
  refine zp_bipush dL_same_89 (v := 16) (by decide) ?_
  refine zp_iload dL_same_91 (x := (nI k)) (List.mem_of_getElem? (i := 0) rfl) ?_
  refine zp_iadd dL_same_93 ?_
  rw [show ((16 + (nI k)) : Int32) = (nI (16 + k)) from nI_add 16 k]
  refine zp_iald_v dL_same_94 (hA.Ta) (Or.inl rfl) (j := (16 + k)) (nI_clamp (by omega)) (vp_in_nI (by omega) (by decide)) (v := (sa (LSt D W) (16 + k))) (hA.bx k hk ht h0).2.1 ?_
  refine zp_icmp_ne dL_same_95 (tgt := 177) rfl (fun q => absurd rfl q) (fun _ => ?_)
  refine zp_aload_n dL_same_98 rfl (a := (xob Y)) (List.mem_of_getElem? (i := 2) rfl) ?_
  refine zp_iload dL_same_99 (x := (nI k)) (List.mem_of_getElem? (i := 0) rfl) ?_
  refine zp_callV (c0 := 9) (st := []) (mc2 := (48 * (m + 1))) (ms2 := (288 * (m + 1))) dL_same_101 (c_X12_widthB l G D X Y W T LL fr LL2 fr2 k s hD hz hk ht) cl_L_54 im_X12_width se_X12_width rfl rfl (hz.zo) rfl rfl (by omega) (by omega) (by omega) (Nat.le_of_ble_eq_true rfl) ?_
  rintro _ sx ⟨rfl, hsx⟩; obtain rfl := hsx.symm
  refine zp_aload_n dL_same_104 rfl (a := (lwa L)) (List.mem_of_getElem? (i := 5) rfl) ?_
  refine zp_bipush dL_same_105 (v := 32) (by decide) ?_
  refine zp_iload dL_same_107 (x := (nI k)) (List.mem_of_getElem? (i := 0) rfl) ?_
  refine zp_iadd dL_same_109 ?_
  rw [show ((32 + (nI k)) : Int32) = (nI (32 + k)) from nI_add 32 k]
  refine zp_iald_v dL_same_110 (hA.Ta) (Or.inl rfl) (j := (32 + k)) (nI_clamp (by omega)) (vp_in_nI (by omega) (by decide)) (v := (sa (LSt D W) (32 + k))) (hA.bx k hk ht h0).2.2.1 ?_
  refine zp_aload_n dL_same_111 rfl (a := (lwe L)) (List.mem_of_getElem? (i := 4) rfl) ?_
  refine zp_iconst dL_same_112 (v := 4) (by decide) ?_
  refine zp_iload dL_same_113 (x := (nI k)) (List.mem_of_getElem? (i := 0) rfl) ?_
  refine zp_imul dL_same_115 ?_
  rw [show ((4 * (nI k)) : Int32) = (nI (4 * k)) from pk_mul 4 k]
  refine zp_iconst dL_same_116 (v := 1) (by decide) ?_
  refine zp_iadd dL_same_117 ?_
  rw [show (((nI (4 * k)) + 1) : Int32) = (nI (4 * k + 1)) from nI_add (4 * k) 1]
  refine zp_iald_v dL_same_118 (hA.Te) (Or.inl rfl) (j := (4 * k + 1)) (nI_clamp (by omega)) (vp_in_nI (by omega) (by decide)) (v := (dst D k 11)) ((hA.li k (by omega)).2.2.2.2.2.2.1 1 (by decide)).2 ?_
  refine zp_iadd dL_same_119 ?_
  refine zp_aload_n dL_same_120 rfl (a := (lwe L)) (List.mem_of_getElem? (i := 4) rfl) ?_
  refine zp_iconst dL_same_121 (v := 4) (by decide) ?_
  refine zp_iload dL_same_122 (x := (nI k)) (List.mem_of_getElem? (i := 0) rfl) ?_
  refine zp_imul dL_same_124 ?_
  rw [show ((4 * (nI k)) : Int32) = (nI (4 * k)) from pk_mul 4 k]
  refine zp_iconst dL_same_125 (v := 3) (by decide) ?_
  refine zp_iadd dL_same_126 ?_
  rw [show (((nI (4 * k)) + 3) : Int32) = (nI (4 * k + 3)) from nI_add (4 * k) 3]
  refine zp_iald_v dL_same_127 (hA.Te) (Or.inl rfl) (j := (4 * k + 3)) (nI_clamp (by omega)) (vp_in_nI (by omega) (by decide)) (v := (dst D k 13)) ((hA.li k (by omega)).2.2.2.2.2.2.1 3 (by decide)).2 ?_
  refine zp_iadd dL_same_128 ?_
  refine zp_icmp_ne dL_same_129 (tgt := 177) rfl (fun q => absurd (by rw [Int32.add_assoc, Int32.add_comm (dst D k 11)]) q) (fun _ => ?_)
  refine zp_aload_n dL_same_132 rfl (a := (xob Y)) (List.mem_of_getElem? (i := 2) rfl) ?_
  refine zp_iload dL_same_133 (x := (nI k)) (List.mem_of_getElem? (i := 0) rfl) ?_
  refine zp_callV (c0 := 9) (st := []) (mc2 := (48 * (m + 1))) (ms2 := (288 * (m + 1))) dL_same_135 (c_X12_heightB l G D X Y W T LL fr LL2 fr2 k s hD hz hk h0 ht) cl_L_48 im_X12_height se_X12_height rfl rfl (hz.zo) rfl rfl (by omega) (by omega) (by omega) (Nat.le_of_ble_eq_true rfl) ?_
  rintro _ sx ⟨rfl, hsx⟩; obtain rfl := hsx.symm
  refine zp_aload_n dL_same_138 rfl (a := (lwa L)) (List.mem_of_getElem? (i := 5) rfl) ?_
  refine zp_bipush dL_same_139 (v := 48) (by decide) ?_
  refine zp_iload dL_same_141 (x := (nI k)) (List.mem_of_getElem? (i := 0) rfl) ?_
  refine zp_iadd dL_same_143 ?_
  rw [show ((48 + (nI k)) : Int32) = (nI (48 + k)) from nI_add 48 k]
  refine zp_iald_v dL_same_144 (hA.Ta) (Or.inl rfl) (j := (48 + k)) (nI_clamp (by omega)) (vp_in_nI (by omega) (by decide)) (v := (sa (LSt D W) (48 + k))) (hA.bx k hk ht h0).2.2.2 ?_
  refine zp_aload_n dL_same_145 rfl (a := (lwe L)) (List.mem_of_getElem? (i := 4) rfl) ?_
  refine zp_iconst dL_same_146 (v := 4) (by decide) ?_
  refine zp_iload dL_same_147 (x := (nI k)) (List.mem_of_getElem? (i := 0) rfl) ?_
  refine zp_imul dL_same_149 ?_
  rw [show ((4 * (nI k)) : Int32) = (nI (4 * k)) from pk_mul 4 k]
  refine zp_iald_v dL_same_150 (hA.Te) (Or.inl rfl) (j := (4 * k)) (nI_clamp (by omega)) (vp_in_nI (by omega) (by decide)) (v := (dst D k 10)) ((hA.li k (by omega)).2.2.2.2.2.2.1 0 (by decide)).2 ?_
  refine zp_iadd dL_same_151 ?_
  refine zp_aload_n dL_same_152 rfl (a := (lwe L)) (List.mem_of_getElem? (i := 4) rfl) ?_
  refine zp_iconst dL_same_153 (v := 4) (by decide) ?_
  refine zp_iload dL_same_154 (x := (nI k)) (List.mem_of_getElem? (i := 0) rfl) ?_
  refine zp_imul dL_same_156 ?_
  rw [show ((4 * (nI k)) : Int32) = (nI (4 * k)) from pk_mul 4 k]
  refine zp_iconst dL_same_157 (v := 2) (by decide) ?_
  refine zp_iadd dL_same_158 ?_
  rw [show (((nI (4 * k)) + 2) : Int32) = (nI (4 * k + 2)) from nI_add (4 * k) 2]
  refine zp_iald_v dL_same_159 (hA.Te) (Or.inl rfl) (j := (4 * k + 2)) (nI_clamp (by omega)) (vp_in_nI (by omega) (by decide)) (v := (dst D k 12)) ((hA.li k (by omega)).2.2.2.2.2.2.1 2 (by decide)).2 ?_
  refine zp_iadd dL_same_160 ?_
  refine zp_icmp_ne dL_same_161 (tgt := 177) rfl (fun q => absurd (by rw [Int32.add_assoc]) q) (fun _ => ?_)
  refine zp_aload_n dL_same_164 rfl (a := (xob Y)) (List.mem_of_getElem? (i := 2) rfl) ?_
  refine zp_iload dL_same_165 (x := (nI k)) (List.mem_of_getElem? (i := 0) rfl) ?_
  refine zp_callV (c0 := 9) (st := []) (mc2 := (48 * (m + 1))) (ms2 := (288 * (m + 1))) dL_same_167 (c_X12_bars l G D X Y W T LL fr LL2 fr2 k s hD hz hk ht) cl_L_67 im_X12_bars se_X12_bars rfl rfl (hz.zo) rfl rfl (by omega) (by omega) (by omega) (Nat.le_of_ble_eq_true rfl) ?_
  rintro _ sx ⟨rfl, hsx⟩; obtain rfl := hsx.symm
  refine zp_if_ne dL_same_170 (tgt := 177) rfl (fun q => absurd rfl q) (fun _ => ?_)
  refine zp_iconst dL_same_173 (v := 1) (by decide) ?_
  refine zp_goto dL_same_174 (tgt := 178) rfl ?_
  refine zp_istore dL_same_178 (Nat.le_of_ble_eq_true rfl) (lv2 := [(6, .int 1), (7, .int (nI k)), (0, .ref (xob Y)), (1, .ref (lwt L)), (2, .ref (lwe L)), (3, .ref (lwa L)), (4, .ref (lwq L)), (5, .ref (lwn L))]) rfl ?_
  refine zp_goto dL_same_180 (tgt := 255) rfl ?_
  refine zp_iinc dL_same_255 (k1 := 1) (x := (nI k)) rfl (v := (nI (k + 1))) (nI_1 k) (Nat.le_of_ble_eq_true rfl) (lv2 := [(7, .int (nI (k + 1))), (6, .int 1), (0, .ref (xob Y)), (1, .ref (lwt L)), (2, .ref (lwe L)), (3, .ref (lwa L)), (4, .ref (lwq L)), (5, .ref (lwn L))]) rfl ?_
  refine zp_goto dL_same_258 (tgt := 45) rfl ?_
  refine zp_lv [0, 1, 2, 3, 4, 5, 6, 7] rfl ?_
  exact (kk s LL fr hz hA Fo.refl).les (by omega) (by omega)
set_option maxHeartbeats 8000000 in
theorem l_sT0 (l : Launch) {G : Gb} {D : Dt} {X : Cx} {Y : Cy} {W : Int32} {T : Nat} {LL2 : Nat → List Nat} {fr2 : List Nat} {L : Lw} (hD : DW D) (hW0 : 0 ≤ W.toInt) (hW1 : W.toInt ≤ 300) (ha : Ap X Y (dn D) L) {k m : Nat} {s : Sto} {LL : Nat → List Nat} {fr : List Nat} {Q : Option Value → Sto → Prop} (hz : Rz G D X Y W T LL fr LL2 fr2 s) (hA : LA D W L s) (hk : k < dn D) (ht : dtx D k = true) (hw : dwc D k = 0) (kk : ∀ s' LL fr, Rz G D X Y W T LL fr LL2 fr2 s' → LA D W L s' → Fo X Y (dn D) s s' → Wp l G 37 (48 * m) (288 * m) (RL, cL_same, 10, (some .boolean), false) 45 [(7, .int (nI (k + 1))), (6, .int 1), (0, .ref (xob Y)), (1, .ref (lwt L)), (2, .ref (lwe L)), (3, .ref (lwa L)), (4, .ref (lwq L)), (5, .ref (lwn L))] [] s' Q) : Wp l G 37 (48 * (m + 1)) (288 * (m + 1)) (RL, cL_same, 10, (some .boolean), false) 45 [(7, .int (nI k)), (6, .int 1), (0, .ref (xob Y)), (1, .ref (lwt L)), (2, .ref (lwe L)), (3, .ref (lwa L)), (4, .ref (lwq L)), (5, .ref (lwn L))] [] s Q := by
  have hn := hD.2.1
  show Wp l G 37 (48 * (m + 1)) (288 * (m + 1)) (RL, cL_same, 10, (some .boolean), false) 45 [(7, .int (nI k)), (6, .int 1), (0, .ref (xob Y)), (1, .ref (lwt L)), (2, .ref (lwe L)), (3, .ref (lwa L)), (4, .ref (lwq L)), (5, .ref (lwn L))] [] s _
  refine zp_iload dL_same_45 (x := (nI k)) (List.mem_of_getElem? (i := 0) rfl) ?_
  refine zp_aload dL_same_47 (a := (lwq L)) (List.mem_of_getElem? (i := 6) rfl) ?_
  refine zp_iconst dL_same_49 (v := 3) (by decide) ?_
  refine zp_iald_v dL_same_50 (hA.Tq) (Or.inl rfl) (j := 3) (by decide) (zin (by decide)) (v := (nI (dn D))) hA.2.1.2.1 ?_
  refine zp_icmp_ge dL_same_51 (tgt := 261) rfl (fun q => absurd q (fun q => nI_nge hn hk q)) (fun _ => ?_)
  refine zp_iload dL_same_54 (x := 1) (List.mem_of_getElem? (i := 1) rfl) ?_
  refine zp_if_eq dL_same_56 (tgt := 261) rfl (fun q => absurd q (by decide)) (fun _ => ?_)
  refine zp_aload_n dL_same_59 rfl (a := (lwt L)) (List.mem_of_getElem? (i := 3) rfl) ?_
  refine zp_bipush dL_same_60 (v := 16) (by decide) ?_
  refine zp_iload dL_same_62 (x := (nI k)) (List.mem_of_getElem? (i := 0) rfl) ?_
  refine zp_iadd dL_same_64 ?_
  rw [show ((16 + (nI k)) : Int32) = (nI (16 + k)) from nI_add 16 k]
  refine zp_iald_v dL_same_65 (hA.Tt) (Or.inl rfl) (j := (16 + k)) (nI_clamp (by omega)) (vp_in_nI (by omega) (by decide)) (v := (zb (dtx D k = true))) (hA.li k (by omega)).2.1 ?_
  refine zp_if_ne dL_same_66 (tgt := 183) rfl (fun _ => ?_) (fun q => absurd q (by rw [zb_t ht]; decide))
  refine zp_aload_n dL_same_183 rfl (a := (lwt L)) (List.mem_of_getElem? (i := 3) rfl) ?_
  refine zp_bipush dL_same_184 (v := 32) (by decide) ?_
  refine zp_iload dL_same_186 (x := (nI k)) (List.mem_of_getElem? (i := 0) rfl) ?_
  refine zp_iadd dL_same_188 ?_
  rw [show ((32 + (nI k)) : Int32) = (nI (32 + k)) from nI_add 32 k]
  refine zp_iald_v dL_same_189 (hA.Tt) (Or.inl rfl) (j := (32 + k)) (nI_clamp (by omega)) (vp_in_nI (by omega) (by decide)) (v := (nI (dwc D k))) (hA.li k (by omega)).2.2.1 ?_
  refine zp_if_le dL_same_190 (tgt := 255) rfl (fun _ => ?_) (fun q => absurd (by rw [hw]; decide) q)
  refine zp_iinc dL_same_255 (k1 := 0) (x := (nI k)) rfl (v := (nI (k + 1))) (nI_1 k) (Nat.le_of_ble_eq_true rfl) (lv2 := [(7, .int (nI (k + 1))), (6, .int 1), (0, .ref (xob Y)), (1, .ref (lwt L)), (2, .ref (lwe L)), (3, .ref (lwa L)), (4, .ref (lwq L)), (5, .ref (lwn L))]) rfl ?_
  refine zp_goto dL_same_258 (tgt := 45) rfl ?_
  refine zp_lv [0, 1, 2, 3, 4, 5, 6, 7] rfl ?_
  exact (kk s LL fr hz hA Fo.refl).les (by omega) (by omega)
set_option maxHeartbeats 8000000 in
theorem l_sT1 (l : Launch) {G : Gb} {D : Dt} {X : Cx} {Y : Cy} {W : Int32} {T : Nat} {LL2 : Nat → List Nat} {fr2 : List Nat} {L : Lw} (hD : DW D) (hW0 : 0 ≤ W.toInt) (hW1 : W.toInt ≤ 300) (ha : Ap X Y (dn D) L) {k m : Nat} {s : Sto} {LL : Nat → List Nat} {fr : List Nat} {Q : Option Value → Sto → Prop} (hz : Rz G D X Y W T LL fr LL2 fr2 s) (hA : LA D W L s) (hk : k < dn D) (ht : dtx D k = true) (hw : dwc D k ≠ 0) (kk : ∀ s' LL fr LL2 fr2, Rz G D X Y W T LL fr LL2 fr2 s' → LA D W L s' → Fo X Y (dn D) s s' → Wp l G 37 (48 * m) (288 * m) (RL, cL_same, 10, (some .boolean), false) 45 [(7, .int (nI (k + 1))), (6, .int 1), (0, .ref (xob Y)), (1, .ref (lwt L)), (2, .ref (lwe L)), (3, .ref (lwa L)), (4, .ref (lwq L)), (5, .ref (lwn L))] [] s' Q) : Wp l G 37 (48 * (m + 1)) (288 * (m + 1)) (RL, cL_same, 10, (some .boolean), false) 45 [(7, .int (nI k)), (6, .int 1), (0, .ref (xob Y)), (1, .ref (lwt L)), (2, .ref (lwe L)), (3, .ref (lwa L)), (4, .ref (lwq L)), (5, .ref (lwn L))] [] s Q := by
  have hn := hD.2.1
  have hw4 := hD.2.2.2.2.2.1 k
  have hk0 : 0 < k := by
    rcases Nat.eq_zero_or_pos k with q | q
    · rw [q, hD.2.2.2.1] at ht; cases ht
    · exact q
  show Wp l G 37 (48 * (m + 1)) (288 * (m + 1)) (RL, cL_same, 10, (some .boolean), false) 45 [(7, .int (nI k)), (6, .int 1), (0, .ref (xob Y)), (1, .ref (lwt L)), (2, .ref (lwe L)), (3, .ref (lwa L)), (4, .ref (lwq L)), (5, .ref (lwn L))] [] s _
  refine zp_iload dL_same_45 (x := (nI k)) (List.mem_of_getElem? (i := 0) rfl) ?_
  refine zp_aload dL_same_47 (a := (lwq L)) (List.mem_of_getElem? (i := 6) rfl) ?_
  refine zp_iconst dL_same_49 (v := 3) (by decide) ?_
  refine zp_iald_v dL_same_50 (hA.Tq) (Or.inl rfl) (j := 3) (by decide) (zin (by decide)) (v := (nI (dn D))) hA.2.1.2.1 ?_
  refine zp_icmp_ge dL_same_51 (tgt := 261) rfl (fun q => absurd q (fun q => nI_nge hn hk q)) (fun _ => ?_)
  refine zp_iload dL_same_54 (x := 1) (List.mem_of_getElem? (i := 1) rfl) ?_
  refine zp_if_eq dL_same_56 (tgt := 261) rfl (fun q => absurd q (by decide)) (fun _ => ?_)
  refine zp_aload_n dL_same_59 rfl (a := (lwt L)) (List.mem_of_getElem? (i := 3) rfl) ?_
  refine zp_bipush dL_same_60 (v := 16) (by decide) ?_
  refine zp_iload dL_same_62 (x := (nI k)) (List.mem_of_getElem? (i := 0) rfl) ?_
  refine zp_iadd dL_same_64 ?_
  rw [show ((16 + (nI k)) : Int32) = (nI (16 + k)) from nI_add 16 k]
  refine zp_iald_v dL_same_65 (hA.Tt) (Or.inl rfl) (j := (16 + k)) (nI_clamp (by omega)) (vp_in_nI (by omega) (by decide)) (v := (zb (dtx D k = true))) (hA.li k (by omega)).2.1 ?_
  refine zp_if_ne dL_same_66 (tgt := 183) rfl (fun _ => ?_) (fun q => absurd q (by rw [zb_t ht]; decide))
  refine zp_aload_n dL_same_183 rfl (a := (lwt L)) (List.mem_of_getElem? (i := 3) rfl) ?_
  refine zp_bipush dL_same_184 (v := 32) (by decide) ?_
  refine zp_iload dL_same_186 (x := (nI k)) (List.mem_of_getElem? (i := 0) rfl) ?_
  refine zp_iadd dL_same_188 ?_
  rw [show ((32 + (nI k)) : Int32) = (nI (32 + k)) from nI_add 32 k]
  refine zp_iald_v dL_same_189 (hA.Tt) (Or.inl rfl) (j := (32 + k)) (nI_clamp (by omega)) (vp_in_nI (by omega) (by decide)) (v := (nI (dwc D k))) (hA.li k (by omega)).2.2.1 ?_
  refine zp_if_le dL_same_190 (tgt := 255) rfl (fun q => absurd q (fun q => by have := nI_le0 (by omega) q; omega)) (fun _ => ?_)
  refine zp_aload_n dL_same_193 rfl (a := (xob Y)) (List.mem_of_getElem? (i := 2) rfl) ?_
  refine zp_iload dL_same_194 (x := (nI k)) (List.mem_of_getElem? (i := 0) rfl) ?_
  refine zp_callV (c0 := 9) (st := []) (mc2 := (48 * (m + 1))) (ms2 := (288 * (m + 1))) dL_same_196 (c_X12_xT l G D X Y W T LL fr LL2 fr2 k s hD hz hk ht (by omega)) cl_L_61 im_X12_x se_X12_x rfl rfl (hz.zo) rfl rfl (by omega) (by omega) (by omega) (Nat.le_of_ble_eq_true rfl) ?_
  rintro _ sx ⟨rfl, hsx⟩; obtain rfl := hsx.symm
  refine zp_aload_n dL_same_199 rfl (a := (lwa L)) (List.mem_of_getElem? (i := 5) rfl) ?_
  refine zp_iload dL_same_200 (x := (nI k)) (List.mem_of_getElem? (i := 0) rfl) ?_
  refine zp_iald_v dL_same_202 (hA.Ta) (Or.inl rfl) (j := (k)) (nI_clamp (by omega)) (vp_in_nI (by omega) (by decide)) (v := (sa (LSt D W) k)) (hA.tx k hk ht (by omega)) ?_
  refine zp_icmp_ne dL_same_203 (tgt := 252) rfl (fun q => absurd rfl q) (fun _ => ?_)
  refine zp_aload_n dL_same_206 rfl (a := (xob Y)) (List.mem_of_getElem? (i := 2) rfl) ?_
  refine zp_iload dL_same_207 (x := (nI k)) (List.mem_of_getElem? (i := 0) rfl) ?_
  refine zp_callV (c0 := 9) (st := []) (mc2 := (48 * (m + 1))) (ms2 := (288 * (m + 1))) dL_same_209 (c_X12_heightT l G D X Y W T LL fr LL2 fr2 k s hD hz hk ht (by omega)) cl_L_48 im_X12_height se_X12_height rfl rfl (hz.zo) rfl rfl (by omega) (by omega) (by omega) (Nat.le_of_ble_eq_true rfl) ?_
  rintro _ sx ⟨rfl, hsx⟩; obtain rfl := hsx.symm
  refine zp_aload_n dL_same_212 rfl (a := (lwt L)) (List.mem_of_getElem? (i := 3) rfl) ?_
  refine zp_bipush dL_same_213 (v := 48) (by decide) ?_
  refine zp_iload dL_same_215 (x := (nI k)) (List.mem_of_getElem? (i := 0) rfl) ?_
  refine zp_iadd dL_same_217 ?_
  rw [show ((48 + (nI k)) : Int32) = (nI (48 + k)) from nI_add 48 k]
  refine zp_iald_v dL_same_218 (hA.Tt) (Or.inl rfl) (j := (48 + k)) (nI_clamp (by omega)) (vp_in_nI (by omega) (by decide)) (v := (dsz D k)) ((hA.li k (by omega)).2.2.2.1 hk0) ?_
  refine zp_icmp_ne dL_same_219 (tgt := 252) rfl (fun q => absurd rfl q) (fun _ => ?_)
  refine zp_aload_n dL_same_222 rfl (a := (lwt L)) (List.mem_of_getElem? (i := 3) rfl) ?_
  refine zp_bipush dL_same_223 (v := 48) (by decide) ?_
  refine zp_iload dL_same_225 (x := (nI k)) (List.mem_of_getElem? (i := 0) rfl) ?_
  refine zp_iadd dL_same_227 ?_
  rw [show ((48 + (nI k)) : Int32) = (nI (48 + k)) from nI_add 48 k]
  refine zp_iald_v dL_same_228 (hA.Tt) (Or.inl rfl) (j := (48 + k)) (nI_clamp (by omega)) (vp_in_nI (by omega) (by decide)) (v := (dsz D k)) ((hA.li k (by omega)).2.2.2.1 hk0) ?_
  refine zp_iconst dL_same_229 (v := 4) (by decide) ?_
  refine zp_irem dL_same_230 (by decide) ?_
  refine zp_if_gt dL_same_231 (tgt := 248) rfl (fun h231 => ?_) (fun h231 => ?_)
  · skip
    refine zp_iconst dL_same_248 (v := 1) (by decide) ?_
    refine zp_goto dL_same_249 (tgt := 253) rfl ?_
    refine zp_istore dL_same_253 (Nat.le_of_ble_eq_true rfl) (lv2 := [(6, .int 1), (7, .int (nI k)), (0, .ref (xob Y)), (1, .ref (lwt L)), (2, .ref (lwe L)), (3, .ref (lwa L)), (4, .ref (lwq L)), (5, .ref (lwn L))]) rfl ?_
    refine zp_iinc dL_same_255 (k1 := 1) (x := (nI k)) rfl (v := (nI (k + 1))) (nI_1 k) (Nat.le_of_ble_eq_true rfl) (lv2 := [(7, .int (nI (k + 1))), (6, .int 1), (0, .ref (xob Y)), (1, .ref (lwt L)), (2, .ref (lwe L)), (3, .ref (lwa L)), (4, .ref (lwq L)), (5, .ref (lwn L))]) rfl ?_
    refine zp_goto dL_same_258 (tgt := 45) rfl ?_
    refine zp_lv [0, 1, 2, 3, 4, 5, 6, 7] rfl ?_
    exact (kk s LL fr LL2 fr2 hz hA Fo.refl).les (by omega) (by omega)
  · skip
    refine zp_aload_n dL_same_234 rfl (a := (xob Y)) (List.mem_of_getElem? (i := 2) rfl) ?_
    refine zp_iload dL_same_235 (x := (nI k)) (List.mem_of_getElem? (i := 0) rfl) ?_
    refine zp_iconst dL_same_237 (v := 0) (by decide) ?_
    refine zp_callV (c0 := 9) (st := []) (mc2 := (48 * m)) (ms2 := (288 * m)) dL_same_238 (c_X12_fromNothing l G D X Y W T LL fr LL2 fr2 k s hD hz hk ht (by omega) hW0 hW1) cl_L_70 im_X12_fromNothing se_X12_fromNothing rfl rfl (hz.zo) rfl rfl (by omega) (by omega) (by omega) (Nat.le_of_ble_eq_true rfl) ?_
    rintro _ s2 ⟨rfl, LLb, frb, z2, f2⟩
    have hA2 := hA.fo ha f2
    refine zp_aload_n dL_same_241 rfl (a := (lwa L)) (List.mem_of_getElem? (i := 5) rfl) ?_
    refine zp_iload dL_same_242 (x := (nI k)) (List.mem_of_getElem? (i := 0) rfl) ?_
    refine zp_iald_v dL_same_244 (hA2.Ta) (Or.inl rfl) (j := (k)) (nI_clamp (by omega)) (vp_in_nI (by omega) (by decide)) (v := (sa (LSt D W) k)) (hA2.tx k hk ht (by omega)) ?_
    refine zp_icmp_ne dL_same_245 (tgt := 252) rfl (fun q => absurd rfl q) (fun _ => ?_)
    refine zp_iconst dL_same_248 (v := 1) (by decide) ?_
    refine zp_goto dL_same_249 (tgt := 253) rfl ?_
    refine zp_istore dL_same_253 (Nat.le_of_ble_eq_true rfl) (lv2 := [(6, .int 1), (7, .int (nI k)), (0, .ref (xob Y)), (1, .ref (lwt L)), (2, .ref (lwe L)), (3, .ref (lwa L)), (4, .ref (lwq L)), (5, .ref (lwn L))]) rfl ?_
    refine zp_iinc dL_same_255 (k1 := 1) (x := (nI k)) rfl (v := (nI (k + 1))) (nI_1 k) (Nat.le_of_ble_eq_true rfl) (lv2 := [(7, .int (nI (k + 1))), (6, .int 1), (0, .ref (xob Y)), (1, .ref (lwt L)), (2, .ref (lwe L)), (3, .ref (lwa L)), (4, .ref (lwq L)), (5, .ref (lwn L))]) rfl ?_
    refine zp_goto dL_same_258 (tgt := 45) rfl ?_
    refine zp_lv [0, 1, 2, 3, 4, 5, 6, 7] rfl ?_
    exact kk s2 LL fr LLb frb z2 hA2 f2
theorem l_sE (l : Launch) {G : Gb} {D : Dt} {X : Cx} {Y : Cy} {W : Int32} {T : Nat} {LL2 : Nat → List Nat} {fr2 : List Nat} {L : Lw} (hD : DW D) (hW0 : 0 ≤ W.toInt) (hW1 : W.toInt ≤ 300)  {m : Nat} {s : Sto} {LL : Nat → List Nat} {fr : List Nat} {Q : Option Value → Sto → Prop} (hz : Rz G D X Y W T LL fr LL2 fr2 s) (hA : LA D W L s) (kk : Wp l G 37 0 0 (RL, cL_same, 10, (some .boolean), false) 261 [(7, .int (nI (dn D))), (6, .int 1), (0, .ref (xob Y)), (1, .ref (lwt L)), (2, .ref (lwe L)), (3, .ref (lwa L)), (4, .ref (lwq L)), (5, .ref (lwn L))] [] s Q) : Wp l G 37 (48 * m) (288 * m) (RL, cL_same, 10, (some .boolean), false) 45 [(7, .int (nI (dn D))), (6, .int 1), (0, .ref (xob Y)), (1, .ref (lwt L)), (2, .ref (lwe L)), (3, .ref (lwa L)), (4, .ref (lwq L)), (5, .ref (lwn L))] [] s Q := by
  have hn := hD.2.1
  show Wp l G 37 (48 * m) (288 * m) (RL, cL_same, 10, (some .boolean), false) 45 [(7, .int (nI (dn D))), (6, .int 1), (0, .ref (xob Y)), (1, .ref (lwt L)), (2, .ref (lwe L)), (3, .ref (lwa L)), (4, .ref (lwq L)), (5, .ref (lwn L))] [] s _
  refine zp_iload dL_same_45 (x := (nI (dn D))) (List.mem_of_getElem? (i := 0) rfl) ?_
  refine zp_aload dL_same_47 (a := (lwq L)) (List.mem_of_getElem? (i := 6) rfl) ?_
  refine zp_iconst dL_same_49 (v := 3) (by decide) ?_
  refine zp_iald_v dL_same_50 (hA.Tq) (Or.inl rfl) (j := 3) (by decide) (zin (by decide)) (v := (nI (dn D))) hA.2.1.2.1 ?_
  refine zp_icmp_ge dL_same_51 (tgt := 261) rfl (fun _ => ?_) (fun q => absurd (Int32.le_refl _) q)
  exact kk.les (by omega) (by omega)
theorem l_s1 (l : Launch) {G : Gb} {D : Dt} {X : Cx} {Y : Cy} {W : Int32} {T : Nat} {L : Lw} (hD : DW D) (hW0 : 0 ≤ W.toInt) (hW1 : W.toInt ≤ 300) (ha : Ap X Y (dn D) L) {Q : Option Value → Sto → Prop} : ∀ (m k : Nat) (s : Sto) (LL : Nat → List Nat) (fr : List Nat) (LL2 : Nat → List Nat) (fr2 : List Nat), k + m = dn D → k ≠ 0 → Rz G D X Y W T LL fr LL2 fr2 s → LA D W L s → (∀ s' LL fr LL2 fr2, Rz G D X Y W T LL fr LL2 fr2 s' → LA D W L s' → Fo X Y (dn D) s s' → Wp l G 37 0 0 (RL, cL_same, 10, (some .boolean), false) 261 [(7, .int (nI (dn D))), (6, .int 1), (0, .ref (xob Y)), (1, .ref (lwt L)), (2, .ref (lwe L)), (3, .ref (lwa L)), (4, .ref (lwq L)), (5, .ref (lwn L))] [] s' Q) → Wp l G 37 (48 * m) (288 * m) (RL, cL_same, 10, (some .boolean), false) 45 [(7, .int (nI k)), (6, .int 1), (0, .ref (xob Y)), (1, .ref (lwt L)), (2, .ref (lwe L)), (3, .ref (lwa L)), (4, .ref (lwq L)), (5, .ref (lwn L))] [] s Q
  | 0, k, s, LL, fr, LL2, fr2, hm, h0, hz, hA, kk => by
    have hm : k = dn D := hm
    subst hm
    exact l_sE l hD hW0 hW1 hz hA (kk s LL fr LL2 fr2 hz hA Fo.refl)
  | m + 1, k, s, LL, fr, LL2, fr2, hm, h0, hz, hA, kk => by
    have hk : k < dn D := by omega
    have go : ∀ s' LL fr LL2 fr2, Rz G D X Y W T LL fr LL2 fr2 s' → LA D W L s' → Fo X Y (dn D) s s' → Wp l G 37 (48 * m) (288 * m) (RL, cL_same, 10, (some .boolean), false) 45 [(7, .int (nI (k + 1))), (6, .int 1), (0, .ref (xob Y)), (1, .ref (lwt L)), (2, .ref (lwe L)), (3, .ref (lwa L)), (4, .ref (lwq L)), (5, .ref (lwn L))] [] s' Q := fun s' LL fr LL2 fr2 z' A' f' => l_s1 l hD hW0 hW1 ha m (k + 1) s' LL fr LL2 fr2 (by omega) (by omega) z' A' (fun s2 LL fr LL2 fr2 z2 A2 f2 => kk s2 LL fr LL2 fr2 z2 A2 (f'.trans f2))
    by_cases ht : dtx D k = true
    · by_cases hw : dwc D k = 0
      · exact l_sT0 l hD hW0 hW1 ha hz hA hk ht hw (fun s' LL fr z' A' f' => go s' LL fr LL2 fr2 z' A' f')
      · exact l_sT1 l hD hW0 hW1 ha hz hA hk ht hw (fun s' LL fr LL2 fr2 z' A' f' => go s' LL fr LL2 fr2 z' A' f')
    · have ht : dtx D k = false := by cases e : dtx D k; rfl; exact absurd e ht
      exact l_sB l hD hW0 hW1 ha hz hA hk h0 ht (fun s' LL fr z' A' f' => go s' LL fr LL2 fr2 z' A' f')

/-! THE LAW: lays (by wip/p27/gen_law6.py) -/
set_option maxHeartbeats 8000000 in
theorem l_yT (l : Launch) {G : Gb} {D : Dt} {W : Int32} {L : Lw} {S : FS} {σ s : Sto} {k at_ c : Nat} {Q : Option Value → Sto → Prop} (hD : DW D) (b : LB D W L S s) (f : LF L σ s) (hk : k < dn D) (hat : at_ < dn D) (m : Nat) (hx : nx D k at_ = some c) (htx : dtx D c = true) (hf : dn D ≤ c + m + 1) (h20 : (sls S).length + runW D (runL D k m c) ≤ 20) (hwd : (sa S (32 + k)).toInt ≤ 1000)
    (kk : ∀ s, LB D W L (runP D k (runL D k m c) S) s → LF L σ s → Wp l G 3 0 0 (RL, cL_lays, 13, none, false) 49 [(11, .int 0), (10, .int (nI ((runL D k m c).getLastD c))), (9, .int (nI k)), (0, .ref (lwt L)), (1, .ref (lwm L)), (2, .ref (lwe L)), (3, .ref (lwg L)), (4, .ref (lwl L)), (5, .ref (lwa L)), (6, .ref (lwh L)), (7, .ref (lwq L)), (8, .ref (lwn L))] [] s Q) : Wp l G 3 0 0 (RL, cL_lays, 13, none, false) 49 [(11, .int 0), (10, .int (nI at_)), (9, .int (nI k)), (0, .ref (lwt L)), (1, .ref (lwm L)), (2, .ref (lwe L)), (3, .ref (lwg L)), (4, .ref (lwl L)), (5, .ref (lwa L)), (6, .ref (lwh L)), (7, .ref (lwq L)), (8, .ref (lwn L))] [] s Q := by
  have hn := hD.2.1
  obtain ⟨hac, hcn, hcp⟩ := nx_up hx
  have hc0 : 0 < c := by omega
  show Wp l G 3 0 0 (RL, cL_lays, 13, none, false) 49 [(11, .int 0), (10, .int (nI at_)), (9, .int (nI k)), (0, .ref (lwt L)), (1, .ref (lwm L)), (2, .ref (lwe L)), (3, .ref (lwg L)), (4, .ref (lwl L)), (5, .ref (lwa L)), (6, .ref (lwh L)), (7, .ref (lwq L)), (8, .ref (lwn L))] [] s _
  refine zp_iload dL_lays_49 (x := 0) (List.mem_of_getElem? (i := 0) rfl) ?_
  refine zp_if_ne dL_lays_51 (tgt := 172) rfl (fun q => absurd rfl q) (fun _ => ?_)
  refine zp_iload dL_lays_54 (x := (nI k)) (List.mem_of_getElem? (i := 2) rfl) ?_
  refine zp_iload dL_lays_56 (x := (nI at_)) (List.mem_of_getElem? (i := 1) rfl) ?_
  refine zp_aload_n dL_lays_58 rfl (a := (lwt L)) (List.mem_of_getElem? (i := 3) rfl) ?_
  refine zp_aload dL_lays_59 (a := (lwq L)) (List.mem_of_getElem? (i := 10) rfl) ?_
  refine zp_callS (st := []) (mc2 := 0) (ms2 := 0) dL_lays_61 (c_L_next l G D W L S k at_ _ hD b (by omega) hat) cl_L_28 st_L_next rfl rfl (by omega) (by omega) (by omega) (Nat.le_of_ble_eq_true rfl) ?_
  rintro _ s1 ⟨rfl, hs1⟩; obtain rfl := hs1.symm
  refine zp_topr (y := (nI c)) (by rw [hx]; rfl) ?_
  refine zp_istore dL_lays_64 (Nat.le_of_ble_eq_true rfl) (lv2 := [(12, .int (nI c)), (11, .int 0), (10, .int (nI at_)), (9, .int (nI k)), (0, .ref (lwt L)), (1, .ref (lwm L)), (2, .ref (lwe L)), (3, .ref (lwg L)), (4, .ref (lwl L)), (5, .ref (lwa L)), (6, .ref (lwh L)), (7, .ref (lwq L)), (8, .ref (lwn L))]) rfl ?_
  refine zp_iload dL_lays_66 (x := (nI c)) (List.mem_of_getElem? (i := 0) rfl) ?_
  refine zp_if_le dL_lays_68 (tgt := 104) rfl (fun q => absurd q (fun q => by have := nI_le0 (by omega) q; omega)) (fun _ => ?_)
  refine zp_aload_n dL_lays_71 rfl (a := (lwt L)) (List.mem_of_getElem? (i := 4) rfl) ?_
  refine zp_bipush dL_lays_72 (v := 16) (by decide) ?_
  refine zp_iload dL_lays_74 (x := (nI c)) (List.mem_of_getElem? (i := 0) rfl) ?_
  refine zp_iadd dL_lays_76 ?_
  rw [show ((16 + (nI c)) : Int32) = (nI (16 + c)) from nI_add 16 c]
  refine zp_iald_v dL_lays_77 b.Tt (Or.inl rfl) (j := (16 + c)) (nI_clamp (by omega)) (vp_in_nI (by omega) (by decide)) (v := (zb (dtx D c = true))) (b.2.2.1.1 c (by omega)).2.1 ?_
  refine zp_iconst dL_lays_78 (v := 1) (by decide) ?_
  refine zp_icmp_ne dL_lays_79 (tgt := 104) rfl (fun q => absurd (zb_t htx) q) (fun _ => ?_)
  refine zp_iload dL_lays_82 (x := (nI k)) (List.mem_of_getElem? (i := 3) rfl) ?_
  refine zp_iload dL_lays_84 (x := (nI c)) (List.mem_of_getElem? (i := 0) rfl) ?_
  refine zp_aload_n dL_lays_86 rfl (a := (lwt L)) (List.mem_of_getElem? (i := 4) rfl) ?_
  refine zp_aload dL_lays_87 (a := (lwl L)) (List.mem_of_getElem? (i := 8) rfl) ?_
  refine zp_aload dL_lays_89 (a := (lwa L)) (List.mem_of_getElem? (i := 9) rfl) ?_
  refine zp_aload_n dL_lays_91 rfl (a := (lwe L)) (List.mem_of_getElem? (i := 6) rfl) ?_
  refine zp_aload dL_lays_92 (a := (lwq L)) (List.mem_of_getElem? (i := 11) rfl) ?_
  refine zp_aload dL_lays_94 (a := (lwn L)) (List.mem_of_getElem? (i := 12) rfl) ?_
  refine zp_callS (st := []) (mc2 := 0) (ms2 := 0) dL_lays_96 (c_L_runs l G D W L S k c m _ hD b hk hf hcn hc0 htx hcp h20 hwd) cl_L_36 st_L_runs rfl rfl (by omega) (by omega) (by omega) (Nat.le_of_ble_eq_true rfl) ?_
  rintro _ u9 ⟨rfl, b9, g9⟩
  have f9 := f.trans g9
  refine zp_istore dL_lays_99 (Nat.le_of_ble_eq_true rfl) (lv2 := [(10, .int (nI ((runL D k m c).getLastD c))), (12, .int (nI c)), (11, .int 0), (9, .int (nI k)), (0, .ref (lwt L)), (1, .ref (lwm L)), (2, .ref (lwe L)), (3, .ref (lwg L)), (4, .ref (lwl L)), (5, .ref (lwa L)), (6, .ref (lwh L)), (7, .ref (lwq L)), (8, .ref (lwn L))]) rfl ?_
  refine zp_goto dL_lays_101 (tgt := 169) rfl ?_
  refine zp_goto dL_lays_169 (tgt := 49) rfl ?_
  refine zp_lv [2, 0, 3, 4, 5, 6, 7, 8, 9, 10, 11, 12] rfl ?_
  exact kk _ b9 f9
set_option maxHeartbeats 8000000 in
theorem l_yB (l : Launch) {G : Gb} {D : Dt} {W : Int32} {L : Lw} {S : FS} {σ s : Sto} {k at_ c : Nat} {Q : Option Value → Sto → Prop} (hD : DW D) (b : LB D W L S s) (f : LF L σ s) (hk : k < dn D) (hat : at_ < dn D) (hx : nx D k at_ = some c) (htx : dtx D c = false) (hh : Hd k S) (hwd : 0 ≤ (sa S (32 + k)).toInt ∧ (sa S (32 + k)).toInt ≤ 1000)
    (kk : ∀ s, LB D W L (enterP D c S) s → LF L σ s → Wp l G 3 0 0 (RL, cL_lays, 13, none, false) 49 [(11, .int 0), (10, .int (nI c)), (9, .int (nI c)), (0, .ref (lwt L)), (1, .ref (lwm L)), (2, .ref (lwe L)), (3, .ref (lwg L)), (4, .ref (lwl L)), (5, .ref (lwa L)), (6, .ref (lwh L)), (7, .ref (lwq L)), (8, .ref (lwn L))] [] s Q) : Wp l G 3 0 0 (RL, cL_lays, 13, none, false) 49 [(11, .int 0), (10, .int (nI at_)), (9, .int (nI k)), (0, .ref (lwt L)), (1, .ref (lwm L)), (2, .ref (lwe L)), (3, .ref (lwg L)), (4, .ref (lwl L)), (5, .ref (lwa L)), (6, .ref (lwh L)), (7, .ref (lwq L)), (8, .ref (lwn L))] [] s Q := by
  have hn := hD.2.1
  obtain ⟨hac, hcn, hcp⟩ := nx_up hx
  have hc0 : 0 < c := by omega
  show Wp l G 3 0 0 (RL, cL_lays, 13, none, false) 49 [(11, .int 0), (10, .int (nI at_)), (9, .int (nI k)), (0, .ref (lwt L)), (1, .ref (lwm L)), (2, .ref (lwe L)), (3, .ref (lwg L)), (4, .ref (lwl L)), (5, .ref (lwa L)), (6, .ref (lwh L)), (7, .ref (lwq L)), (8, .ref (lwn L))] [] s _
  refine zp_iload dL_lays_49 (x := 0) (List.mem_of_getElem? (i := 0) rfl) ?_
  refine zp_if_ne dL_lays_51 (tgt := 172) rfl (fun q => absurd rfl q) (fun _ => ?_)
  refine zp_iload dL_lays_54 (x := (nI k)) (List.mem_of_getElem? (i := 2) rfl) ?_
  refine zp_iload dL_lays_56 (x := (nI at_)) (List.mem_of_getElem? (i := 1) rfl) ?_
  refine zp_aload_n dL_lays_58 rfl (a := (lwt L)) (List.mem_of_getElem? (i := 3) rfl) ?_
  refine zp_aload dL_lays_59 (a := (lwq L)) (List.mem_of_getElem? (i := 10) rfl) ?_
  refine zp_callS (st := []) (mc2 := 0) (ms2 := 0) dL_lays_61 (c_L_next l G D W L S k at_ _ hD b (by omega) hat) cl_L_28 st_L_next rfl rfl (by omega) (by omega) (by omega) (Nat.le_of_ble_eq_true rfl) ?_
  rintro _ s1 ⟨rfl, hs1⟩; obtain rfl := hs1.symm
  refine zp_topr (y := (nI c)) (by rw [hx]; rfl) ?_
  refine zp_istore dL_lays_64 (Nat.le_of_ble_eq_true rfl) (lv2 := [(12, .int (nI c)), (11, .int 0), (10, .int (nI at_)), (9, .int (nI k)), (0, .ref (lwt L)), (1, .ref (lwm L)), (2, .ref (lwe L)), (3, .ref (lwg L)), (4, .ref (lwl L)), (5, .ref (lwa L)), (6, .ref (lwh L)), (7, .ref (lwq L)), (8, .ref (lwn L))]) rfl ?_
  refine zp_iload dL_lays_66 (x := (nI c)) (List.mem_of_getElem? (i := 0) rfl) ?_
  refine zp_if_le dL_lays_68 (tgt := 104) rfl (fun q => absurd q (fun q => by have := nI_le0 (by omega) q; omega)) (fun _ => ?_)
  refine zp_aload_n dL_lays_71 rfl (a := (lwt L)) (List.mem_of_getElem? (i := 4) rfl) ?_
  refine zp_bipush dL_lays_72 (v := 16) (by decide) ?_
  refine zp_iload dL_lays_74 (x := (nI c)) (List.mem_of_getElem? (i := 0) rfl) ?_
  refine zp_iadd dL_lays_76 ?_
  rw [show ((16 + (nI c)) : Int32) = (nI (16 + c)) from nI_add 16 c]
  refine zp_iald_v dL_lays_77 b.Tt (Or.inl rfl) (j := (16 + c)) (nI_clamp (by omega)) (vp_in_nI (by omega) (by decide)) (v := (zb (dtx D c = true))) (b.2.2.1.1 c (by omega)).2.1 ?_
  refine zp_iconst dL_lays_78 (v := 1) (by decide) ?_
  refine zp_icmp_ne dL_lays_79 (tgt := 104) rfl (fun _ => ?_) (fun q => absurd q (by rw [zb_f (by rw [htx]; decide)]; decide))
  refine zp_iload dL_lays_104 (x := (nI c)) (List.mem_of_getElem? (i := 0) rfl) ?_
  refine zp_if_le dL_lays_106 (tgt := 135) rfl (fun q => absurd q (fun q => by have := nI_le0 (by omega) q; omega)) (fun _ => ?_)
  refine zp_iload dL_lays_109 (x := (nI c)) (List.mem_of_getElem? (i := 0) rfl) ?_
  refine zp_aload_n dL_lays_111 rfl (a := (lwt L)) (List.mem_of_getElem? (i := 4) rfl) ?_
  refine zp_aload_n dL_lays_112 rfl (a := (lwm L)) (List.mem_of_getElem? (i := 5) rfl) ?_
  refine zp_aload_n dL_lays_113 rfl (a := (lwe L)) (List.mem_of_getElem? (i := 6) rfl) ?_
  refine zp_aload_n dL_lays_114 rfl (a := (lwg L)) (List.mem_of_getElem? (i := 7) rfl) ?_
  refine zp_aload dL_lays_115 (a := (lwa L)) (List.mem_of_getElem? (i := 9) rfl) ?_
  refine zp_aload dL_lays_117 (a := (lwh L)) (List.mem_of_getElem? (i := 10) rfl) ?_
  refine zp_aload dL_lays_119 (a := (lwq L)) (List.mem_of_getElem? (i := 11) rfl) ?_
  refine zp_callS (st := []) (mc2 := 0) (ms2 := 0) dL_lays_121 (c_L_enters l G D W L S c _ hD b hcn (by rw [hcp]; exact hk) (by rw [hcp]; exact hh) (by rw [hcp]; exact hwd)) cl_L_40 st_L_enters rfl rfl (by omega) (by omega) (by omega) (Nat.le_of_ble_eq_true rfl) ?_
  rintro _ u9 ⟨rfl, b9, g9⟩
  have f9 := f.trans g9
  refine zp_iload dL_lays_124 (x := (nI c)) (List.mem_of_getElem? (i := 0) rfl) ?_
  refine zp_istore dL_lays_126 (Nat.le_of_ble_eq_true rfl) (lv2 := [(9, .int (nI c)), (12, .int (nI c)), (11, .int 0), (10, .int (nI at_)), (0, .ref (lwt L)), (1, .ref (lwm L)), (2, .ref (lwe L)), (3, .ref (lwg L)), (4, .ref (lwl L)), (5, .ref (lwa L)), (6, .ref (lwh L)), (7, .ref (lwq L)), (8, .ref (lwn L))]) rfl ?_
  refine zp_iload dL_lays_128 (x := (nI c)) (List.mem_of_getElem? (i := 1) rfl) ?_
  refine zp_istore dL_lays_130 (Nat.le_of_ble_eq_true rfl) (lv2 := [(10, .int (nI c)), (9, .int (nI c)), (12, .int (nI c)), (11, .int 0), (0, .ref (lwt L)), (1, .ref (lwm L)), (2, .ref (lwe L)), (3, .ref (lwg L)), (4, .ref (lwl L)), (5, .ref (lwa L)), (6, .ref (lwh L)), (7, .ref (lwq L)), (8, .ref (lwn L))]) rfl ?_
  refine zp_goto dL_lays_132 (tgt := 169) rfl ?_
  refine zp_goto dL_lays_169 (tgt := 49) rfl ?_
  refine zp_lv [3, 0, 1, 4, 5, 6, 7, 8, 9, 10, 11, 12] rfl ?_
  exact kk _ b9 f9
set_option maxHeartbeats 8000000 in
theorem l_yL (l : Launch) {G : Gb} {D : Dt} {W : Int32} {L : Lw} {S : FS} {σ s : Sto} {k at_ : Nat} {Q : Option Value → Sto → Prop} (hD : DW D) (b : LB D W L S s) (f : LF L σ s) (hk : k < dn D) (hat : at_ < dn D) (hx : nx D k at_ = none) (hk0 : 0 < k) (kk : ∀ s, LB D W L (leaveP D k S) s → LF L σ s → Wp l G 3 0 0 (RL, cL_lays, 13, none, false) 49 [(11, .int 0), (10, .int (nI k)), (9, .int (nI (dpar D k))), (0, .ref (lwt L)), (1, .ref (lwm L)), (2, .ref (lwe L)), (3, .ref (lwg L)), (4, .ref (lwl L)), (5, .ref (lwa L)), (6, .ref (lwh L)), (7, .ref (lwq L)), (8, .ref (lwn L))] [] s Q) : Wp l G 3 0 0 (RL, cL_lays, 13, none, false) 49 [(11, .int 0), (10, .int (nI at_)), (9, .int (nI k)), (0, .ref (lwt L)), (1, .ref (lwm L)), (2, .ref (lwe L)), (3, .ref (lwg L)), (4, .ref (lwl L)), (5, .ref (lwa L)), (6, .ref (lwh L)), (7, .ref (lwq L)), (8, .ref (lwn L))] [] s Q := by
  have hn := hD.2.1
  have hpk := hD.2.2.2.2.1 k hk0 hk
  show Wp l G 3 0 0 (RL, cL_lays, 13, none, false) 49 [(11, .int 0), (10, .int (nI at_)), (9, .int (nI k)), (0, .ref (lwt L)), (1, .ref (lwm L)), (2, .ref (lwe L)), (3, .ref (lwg L)), (4, .ref (lwl L)), (5, .ref (lwa L)), (6, .ref (lwh L)), (7, .ref (lwq L)), (8, .ref (lwn L))] [] s _
  refine zp_iload dL_lays_49 (x := 0) (List.mem_of_getElem? (i := 0) rfl) ?_
  refine zp_if_ne dL_lays_51 (tgt := 172) rfl (fun q => absurd rfl q) (fun _ => ?_)
  refine zp_iload dL_lays_54 (x := (nI k)) (List.mem_of_getElem? (i := 2) rfl) ?_
  refine zp_iload dL_lays_56 (x := (nI at_)) (List.mem_of_getElem? (i := 1) rfl) ?_
  refine zp_aload_n dL_lays_58 rfl (a := (lwt L)) (List.mem_of_getElem? (i := 3) rfl) ?_
  refine zp_aload dL_lays_59 (a := (lwq L)) (List.mem_of_getElem? (i := 10) rfl) ?_
  refine zp_callS (st := []) (mc2 := 0) (ms2 := 0) dL_lays_61 (c_L_next l G D W L S k at_ _ hD b (by omega) hat) cl_L_28 st_L_next rfl rfl (by omega) (by omega) (by omega) (Nat.le_of_ble_eq_true rfl) ?_
  rintro _ s1 ⟨rfl, hs1⟩; obtain rfl := hs1.symm
  refine zp_topr (y := 0) (by rw [hx]; rfl) ?_
  refine zp_istore dL_lays_64 (Nat.le_of_ble_eq_true rfl) (lv2 := [(12, .int 0), (11, .int 0), (10, .int (nI at_)), (9, .int (nI k)), (0, .ref (lwt L)), (1, .ref (lwm L)), (2, .ref (lwe L)), (3, .ref (lwg L)), (4, .ref (lwl L)), (5, .ref (lwa L)), (6, .ref (lwh L)), (7, .ref (lwq L)), (8, .ref (lwn L))]) rfl ?_
  refine zp_iload dL_lays_66 (x := 0) (List.mem_of_getElem? (i := 0) rfl) ?_
  refine zp_if_le dL_lays_68 (tgt := 104) rfl (fun _ => ?_) (fun q => absurd (by decide) q)
  refine zp_iload dL_lays_104 (x := 0) (List.mem_of_getElem? (i := 0) rfl) ?_
  refine zp_if_le dL_lays_106 (tgt := 135) rfl (fun _ => ?_) (fun q => absurd (by decide) q)
  refine zp_iload dL_lays_135 (x := (nI k)) (List.mem_of_getElem? (i := 3) rfl) ?_
  refine zp_if_le dL_lays_137 (tgt := 166) rfl (fun q => absurd q (fun q => by have := nI_le0 (by omega) q; omega)) (fun _ => ?_)
  refine zp_iload dL_lays_140 (x := (nI k)) (List.mem_of_getElem? (i := 3) rfl) ?_
  refine zp_aload_n dL_lays_142 rfl (a := (lwm L)) (List.mem_of_getElem? (i := 5) rfl) ?_
  refine zp_aload_n dL_lays_143 rfl (a := (lwe L)) (List.mem_of_getElem? (i := 6) rfl) ?_
  refine zp_aload dL_lays_144 (a := (lwa L)) (List.mem_of_getElem? (i := 9) rfl) ?_
  refine zp_aload dL_lays_146 (a := (lwh L)) (List.mem_of_getElem? (i := 10) rfl) ?_
  refine zp_aload dL_lays_148 (a := (lwq L)) (List.mem_of_getElem? (i := 11) rfl) ?_
  refine zp_callS (st := []) (mc2 := 0) (ms2 := 0) dL_lays_150 (c_L_leaves l G D W L S k _ hD b hk0 hk) cl_L_44 st_L_leaves rfl rfl (by omega) (by omega) (by omega) (Nat.le_of_ble_eq_true rfl) ?_
  rintro _ u9 ⟨rfl, b9, g9⟩
  have f9 := f.trans g9
  refine zp_iload dL_lays_153 (x := (nI k)) (List.mem_of_getElem? (i := 3) rfl) ?_
  refine zp_istore dL_lays_155 (Nat.le_of_ble_eq_true rfl) (lv2 := [(10, .int (nI k)), (12, .int 0), (11, .int 0), (9, .int (nI k)), (0, .ref (lwt L)), (1, .ref (lwm L)), (2, .ref (lwe L)), (3, .ref (lwg L)), (4, .ref (lwl L)), (5, .ref (lwa L)), (6, .ref (lwh L)), (7, .ref (lwq L)), (8, .ref (lwn L))]) rfl ?_
  refine zp_aload_n dL_lays_157 rfl (a := (lwt L)) (List.mem_of_getElem? (i := 4) rfl) ?_
  refine zp_iload dL_lays_158 (x := (nI k)) (List.mem_of_getElem? (i := 3) rfl) ?_
  refine zp_iald_v dL_lays_160 b9.Tt (Or.inl rfl) (j := (k)) (nI_clamp (by omega)) (vp_in_nI (by omega) (by decide)) (v := (nI (dpar D k))) (b9.2.2.1.1 k (by omega)).1 ?_
  refine zp_istore dL_lays_161 (Nat.le_of_ble_eq_true rfl) (lv2 := [(9, .int (nI (dpar D k))), (10, .int (nI k)), (12, .int 0), (11, .int 0), (0, .ref (lwt L)), (1, .ref (lwm L)), (2, .ref (lwe L)), (3, .ref (lwg L)), (4, .ref (lwl L)), (5, .ref (lwa L)), (6, .ref (lwh L)), (7, .ref (lwq L)), (8, .ref (lwn L))]) rfl ?_
  refine zp_goto dL_lays_163 (tgt := 169) rfl ?_
  refine zp_goto dL_lays_169 (tgt := 49) rfl ?_
  refine zp_lv [3, 1, 0, 4, 5, 6, 7, 8, 9, 10, 11, 12] rfl ?_
  exact kk _ b9 f9
set_option maxHeartbeats 8000000 in
theorem l_yE (l : Launch) {G : Gb} {D : Dt} {W : Int32} {L : Lw} {S : FS} {σ s : Sto} {at_ : Nat} (hD : DW D) (b : LB D W L S s) (f : LF L σ s) (hat : at_ < dn D) (hx : nx D 0 at_ = none) :
    Wp l G 3 0 0 (RL, cL_lays, 13, none, false) 49 [(11, .int 0), (10, .int (nI at_)), (9, .int 0), (0, .ref (lwt L)), (1, .ref (lwm L)), (2, .ref (lwe L)), (3, .ref (lwg L)), (4, .ref (lwl L)), (5, .ref (lwa L)), (6, .ref (lwh L)), (7, .ref (lwq L)), (8, .ref (lwn L))] [] s (fun v t => v = none ∧ LB D W L (setA 48 (mx 0 (sy (endP S))) (endP S)) t ∧ LF L σ t) := by
  have hn := hD.2.1
  have hB := b
  show Wp l G 3 0 0 (RL, cL_lays, 13, none, false) 49 [(11, .int 0), (10, .int (nI at_)), (9, .int 0), (0, .ref (lwt L)), (1, .ref (lwm L)), (2, .ref (lwe L)), (3, .ref (lwg L)), (4, .ref (lwl L)), (5, .ref (lwa L)), (6, .ref (lwh L)), (7, .ref (lwq L)), (8, .ref (lwn L))] [] s _
  refine zp_iload dL_lays_49 (x := 0) (List.mem_of_getElem? (i := 0) rfl) ?_
  refine zp_if_ne dL_lays_51 (tgt := 172) rfl (fun q => absurd rfl q) (fun _ => ?_)
  refine zp_iload dL_lays_54 (x := 0) (List.mem_of_getElem? (i := 2) rfl) ?_
  refine zp_iload dL_lays_56 (x := (nI at_)) (List.mem_of_getElem? (i := 1) rfl) ?_
  refine zp_aload_n dL_lays_58 rfl (a := (lwt L)) (List.mem_of_getElem? (i := 3) rfl) ?_
  refine zp_aload dL_lays_59 (a := (lwq L)) (List.mem_of_getElem? (i := 10) rfl) ?_
  refine zp_callS (st := []) (mc2 := 0) (ms2 := 0) dL_lays_61 (c_L_next l G D W L S 0 at_ _ hD b (by decide) hat) cl_L_28 st_L_next rfl rfl (by omega) (by omega) (by omega) (Nat.le_of_ble_eq_true rfl) ?_
  rintro _ s1 ⟨rfl, hs1⟩; obtain rfl := hs1.symm
  refine zp_topr (y := 0) (by rw [hx]; rfl) ?_
  refine zp_istore dL_lays_64 (Nat.le_of_ble_eq_true rfl) (lv2 := [(12, .int 0), (11, .int 0), (10, .int (nI at_)), (9, .int 0), (0, .ref (lwt L)), (1, .ref (lwm L)), (2, .ref (lwe L)), (3, .ref (lwg L)), (4, .ref (lwl L)), (5, .ref (lwa L)), (6, .ref (lwh L)), (7, .ref (lwq L)), (8, .ref (lwn L))]) rfl ?_
  refine zp_iload dL_lays_66 (x := 0) (List.mem_of_getElem? (i := 0) rfl) ?_
  refine zp_if_le dL_lays_68 (tgt := 104) rfl (fun _ => ?_) (fun q => absurd (by decide) q)
  refine zp_iload dL_lays_104 (x := 0) (List.mem_of_getElem? (i := 0) rfl) ?_
  refine zp_if_le dL_lays_106 (tgt := 135) rfl (fun _ => ?_) (fun q => absurd (by decide) q)
  refine zp_iload dL_lays_135 (x := 0) (List.mem_of_getElem? (i := 3) rfl) ?_
  refine zp_if_le dL_lays_137 (tgt := 166) rfl (fun _ => ?_) (fun q => absurd (by decide) q)
  refine zp_iconst dL_lays_166 (v := 1) (by decide) ?_
  refine zp_istore dL_lays_167 (Nat.le_of_ble_eq_true rfl) (lv2 := [(11, .int 1), (12, .int 0), (10, .int (nI at_)), (9, .int 0), (0, .ref (lwt L)), (1, .ref (lwm L)), (2, .ref (lwe L)), (3, .ref (lwg L)), (4, .ref (lwl L)), (5, .ref (lwa L)), (6, .ref (lwh L)), (7, .ref (lwq L)), (8, .ref (lwn L))]) rfl ?_
  refine zp_goto dL_lays_169 (tgt := 49) rfl ?_
  refine zp_iload dL_lays_49 (x := 1) (List.mem_of_getElem? (i := 0) rfl) ?_
  refine zp_if_ne dL_lays_51 (tgt := 172) rfl (fun _ => ?_) (fun q => absurd q (by decide))
  refine zp_aload dL_lays_172 (a := (lwq L)) (List.mem_of_getElem? (i := 11) rfl) ?_
  refine zp_aload dL_lays_174 (a := (lwa L)) (List.mem_of_getElem? (i := 9) rfl) ?_
  refine zp_callS (st := []) (mc2 := 0) (ms2 := 0) dL_lays_176 (c_L_ends l G D W L S _ b) cl_L_16 st_L_ends rfl rfl (by omega) (by omega) (by omega) (Nat.le_of_ble_eq_true rfl) ?_
  rintro _ u1 ⟨rfl, b1, g1⟩
  have f1 : LF L σ u1 := f.trans g1
  refine zp_aload dL_lays_179 (a := (lwa L)) (List.mem_of_getElem? (i := 9) rfl) ?_
  refine zp_bipush dL_lays_181 (v := 48) (by decide) ?_
  refine zp_aload dL_lays_183 (a := (lwq L)) (List.mem_of_getElem? (i := 11) rfl) ?_
  refine zp_iconst dL_lays_185 (v := 0) (by decide) ?_
  refine zp_iald_v dL_lays_186 b1.Tq (Or.inl rfl) (j := 0) (by decide) (zin (by decide)) (v := (sy (endP S))) b1.r0 ?_
  refine zp_if_le dL_lays_187 (tgt := 197) rfl (fun h187 => ?_) (fun h187 => ?_)
  · skip
    refine zp_iconst dL_lays_197 (v := 0) (by decide) ?_
    refine zp_iastore dL_lays_198 b1.Ta (j := 48) (by decide) (zin (by decide)) ?_
    refine zp_gen (fun s => LB D W L (setA (48) 0 (endP S)) s ∧ LF L σ s) ⟨b1.a (by omega), f1.wa hB.2.1⟩ (fun u2 hn2 => ?_)
    obtain ⟨b2, f2⟩ := hn2
    refine zp_vret rfl dL_lays_199 ?_
    exact ⟨rfl, by rw [m0_l h187]; exact b2, f2⟩
  · skip
    refine zp_aload dL_lays_190 (a := (lwq L)) (List.mem_of_getElem? (i := 11) rfl) ?_
    refine zp_iconst dL_lays_192 (v := 0) (by decide) ?_
    refine zp_iald_v dL_lays_193 b1.Tq (Or.inl rfl) (j := 0) (by decide) (zin (by decide)) (v := (sy (endP S))) b1.r0 ?_
    refine zp_goto dL_lays_194 (tgt := 198) rfl ?_
    refine zp_iastore dL_lays_198 b1.Ta (j := 48) (by decide) (zin (by decide)) ?_
    refine zp_gen (fun s => LB D W L (setA (48) (sy (endP S)) (endP S)) s ∧ LF L σ s) ⟨b1.a (by omega), f1.wa hB.2.1⟩ (fun u3 hn3 => ?_)
    obtain ⟨b3, f3⟩ := hn3
    refine zp_vret rfl dL_lays_199 ?_
    exact ⟨rfl, by rw [m0_r h187]; exact b3, f3⟩
theorem Hd_enter {D : Dt} {c : Nat} {S : FS} (hD : DW D) (hc0 : 0 < c) (hc : c < dn D) (hh : Hd (dpar D c) S) : Hd c (enterP D c S) := by
  have hn := hD.2.1
  have e : sh (enterP D c S) c = hIn (dst D c 5) (sh S (dpar D c)) := if_pos rfl
  have h5 := (hD.2.2.2.2.2.2.2.2.1 c).2
  unfold Hd at hh ⊢
  rw [e]
  by_cases q : 1000 ≤ dst D c 5
  · have q1 := Int32.le_iff_toInt_le.mp q
    rw [show (1000 : Int32).toInt = 1000 from rfl] at q1
    by_cases q2 : 0 ≤ sh S (dpar D c)
    · have q3 := Int32.le_iff_toInt_le.mp q2
      rw [show (0 : Int32).toInt = 0 from rfl] at q3
      have e5 : (dst D c 5 - 1000).toInt = (dst D c 5).toInt - 1000 := Jvm.Kit.i32_sub (by rw [show (1000 : Int32).toInt = 1000 from rfl]; omega) (by rw [show (1000 : Int32).toInt = 1000 from rfl]; omega)
      rw [show hIn (dst D c 5) (sh S (dpar D c)) = pt (sh S (dpar D c)) (dst D c 5 - 1000) from (if_neg (i_nlt q)).trans (if_neg (i_nlt q2)), pt_bound q3 (by omega) (by omega) (by omega)]
      have : (sh S (dpar D c)).toInt * (dst D c 5 - 1000).toInt ≤ (sh S (dpar D c)).toInt * 100 := Int.mul_le_mul_of_nonneg_left (by omega) q3
      omega
    · rw [hIn_3 q q2]; decide
  · by_cases q2 : 0 ≤ dst D c 5
    · have q1 : (dst D c 5).toInt < 1000 := by
        have := Int32.lt_iff_toInt_lt.mp (Int32.not_le.mp q)
        rw [show (1000 : Int32).toInt = 1000 from rfl] at this
        exact this
      rw [hIn_2 q2 q]; omega
    · rw [hIn_1 q2]; decide
theorem enter_sls {D : Dt} {c : Nat} {S : FS} : sls (enterP D c S) = sls S := by
  show sls (ent2P D c (ent1P D c S)) = sls S
  unfold ent2P
  split <;> rfl
theorem leave_sls {D : Dt} {c : Nat} {S : FS} : sls (leaveP D c S) = sls S := by
  show sls (if sw S c = true then leaveW D c S else leaveH D c S) = sls S
  split
  · unfold leaveW
    split <;> rfl
  · unfold leaveH
    split
    · rfl
    · split <;> rfl
theorem words_len {D : Dt} (hD : DW D) {box c n : Nat} {Y : RS} (hc : c < 12) (h : WI D box n Y) : ∀ i, WI D box (n + i) (wordsP D box c i Y)
  | 0 => h
  | i + 1 => (words_len hD hc h i).word hD hc
theorem runT_len {D : Dt} (hD : DW D) {box : Nat} : ∀ (r : List Nat) {n : Nat} {Y : RS}, (∀ x, x ∈ r → x < 12) → WI D box n Y → WI D box (n + runW D r) (runT D box r Y)
  | [], _, _, _, h => h
  | c :: r, n, Y, hr, h => by
    have h1 : WI D box (n + dwc D c) (textP D box c Y) := words_len hD (hr c List.mem_cons_self) h (dwc D c)
    rw [runW_cons, ← Nat.add_assoc]
    exact runT_len hD r (fun x hx => hr x (List.mem_cons_of_mem _ hx)) h1
theorem wordsP_ne {D : Dt} (hD : DW D) {box c : Nat} {Y : RS} {n : Nat} (hc : c < 12) (h : WI D box n Y) : ∀ i, 0 < i → (wordsP D box c i Y).2.1 ≠ 0
  | 0, h0 => absurd h0 (Nat.lt_irrefl _)
  | i + 1, _ => fun q => by
    have hb := (words_len hD hc h i).brk (len := dln D c i)
    have hl := hD.2.2.2.2.2.2.1 c i
    have q : offI (brkP D box (dln D c i) (wordsP D box c i Y)).2.1 (dln D c i) = 0 := q
    obtain ⟨⟨h1, -⟩, hx⟩ := hb
    have e := congrArg Int32.toInt q
    rw [show (0 : Int32).toInt = 0 from rfl] at e
    unfold offI at e
    by_cases z : (brkP D box (dln D c i) (wordsP D box c i Y)).2.1 = 0
    · rw [if_pos z, Int32.zero_add] at e; omega
    · rw [if_neg z] at e
      have e1 : ((brkP D box (dln D c i) (wordsP D box c i Y)).2.1 + 1).toInt = (brkP D box (dln D c i) (wordsP D box c i Y)).2.1.toInt + 1 := by
        rw [Int32.toInt_add, show (1 : Int32).toInt = 1 from rfl]
        exact Int.bmod_eq_of_le (by omega) (by omega)
      rw [Int32.toInt_add, e1, Int.bmod_eq_of_le (by omega) (by omega)] at e
      omega
theorem runT_ne {D : Dt} (hD : DW D) {box : Nat} : ∀ (r : List Nat), (∀ x, x ∈ r → x < 12) → ∀ {n : Nat} {Y : RS}, WI D box n Y → (runW D r ≠ 0 ∨ Y.2.1 ≠ 0) → (runT D box r Y).2.1 ≠ 0
  | [], _, _, _, _, h => h.elim (fun q => absurd rfl q) id
  | c :: r, hr, n, Y, hw, h => by
    have h1 : WI D box (n + dwc D c) (textP D box c Y) := words_len hD (hr c List.mem_cons_self) hw (dwc D c)
    refine runT_ne hD r (fun x hx => hr x (List.mem_cons_of_mem _ hx)) h1 ?_
    by_cases z : dwc D c = 0
    · rcases h with h | h
      · rw [runW_cons, z, Nat.zero_add] at h; exact Or.inl h
      · refine Or.inr ?_
        show (wordsP D box c (dwc D c) Y).2.1 ≠ 0
        rw [z]; exact h
    · exact Or.inr (wordsP_ne hD (hr c List.mem_cons_self) hw (dwc D c) (by omega))
theorem run_len {D : Dt} (hD : DW D) {box : Nat} {r : List Nat} {S : FS} (hb : box < 12) (hr : ∀ x, x ∈ r → x < 12) (hw : (sa S (32 + box)).toInt ≤ 1000) : (sls (runP D box r S)).length ≤ (sls S).length + runW D r := by
  unfold runP
  by_cases z : runW D r = 0
  · rw [if_pos z]
    have : ∀ (r : List Nat) (S : FS), sls (visL r S) = sls S := fun r => by
      induction r with
      | nil => intro S; rfl
      | cons x r ih => intro S; exact (ih (visP x S)).trans rfl
    rw [this]; omega
  · rw [if_neg z]
    have hw0 : WI D box (sls S).length (endP S, 0, 0, 0) := ⟨⟨(by decide : 0 ≤ (0 : Int32).toInt), (by decide : (0 : Int32).toInt ≤ 1000)⟩, ⟨(by decide : 0 ≤ (0 : Int32).toInt), (by decide : (0 : Int32).toInt ≤ 20)⟩, ⟨(by decide : 0 ≤ (0 : Int32).toInt), (by decide : (0 : Int32).toInt ≤ 20)⟩, by show (sls S).length + (if (0 : Int32) = 0 then 0 else 1) ≤ _; rw [if_pos rfl]; omega, by show (sa (endP S) (32 + box)).toInt ≤ 1000; rw [endP_sa (by omega)]; exact hw⟩
    have h := runT_len hD (box := box) r hr hw0
    show (sls (runT D box r (endP S, 0, 0, 0)).1 ++ [_]).length ≤ _
    rw [List.length_append, List.length_singleton]
    have h4 := h.2.2.2.1
    by_cases y : (runT D box r (endP S, 0, 0, 0)).2.1 = 0
    · -- the last text with words leaves something in the line
      exact absurd y (runT_ne hD r hr hw0 (Or.inl z))
    · rw [if_neg y] at h4; omega
def LY (D : Dt) (k at_ : Nat) (S : FS) : Prop := Vf D k at_ S ∧ Wd D k S ∧ Hd k S ∧ (sls S).length + Uf D S ≤ 20
set_option maxHeartbeats 4000000 in
theorem l_lays (l : Launch) {G : Gb} {D : Dt} {W : Int32} {L : Lw} {σ : Sto} (hD : DW D) : ∀ (f k at_ : Nat) (S : FS) (s : Sto) (Q : Option Value → Sto → Prop), dn D ≤ at_ + f → k ≤ at_ → at_ < dn D → k < dn D → dtx D k = false → LB D W L S s → LF L σ s → LY D k at_ S →
    (∀ s' at2, LB D W L (flowP D f k at_ S) s' → LF L σ s' → at2 < dn D → nx D k at2 = none → (sls (flowP D f k at_ S)).length + Uf D (flowP D f k at_ S) ≤ 20 → Wp l G 3 0 0 (RL, cL_lays, 13, none, false) 49 [(11, .int 0), (10, .int (nI at2)), (9, .int (nI k)), (0, .ref (lwt L)), (1, .ref (lwm L)), (2, .ref (lwe L)), (3, .ref (lwg L)), (4, .ref (lwl L)), (5, .ref (lwa L)), (6, .ref (lwh L)), (7, .ref (lwq L)), (8, .ref (lwn L))] [] s' Q) →
    Wp l G 3 0 0 (RL, cL_lays, 13, none, false) 49 [(11, .int 0), (10, .int (nI at_)), (9, .int (nI k)), (0, .ref (lwt L)), (1, .ref (lwm L)), (2, .ref (lwe L)), (3, .ref (lwg L)), (4, .ref (lwl L)), (5, .ref (lwa L)), (6, .ref (lwh L)), (7, .ref (lwq L)), (8, .ref (lwn L))] [] s Q := by
  have hn := hD.2.1
  intro f
  induction f with
  | zero =>
    intro k at_ S s Q hf hka hat hk ht b fr hy kk
    omega
  | succ f ih =>
    intro k at_ S s Q hf hka hat hk ht b fr hy kk
    obtain ⟨hv, hw, hh, h20⟩ := hy
    cases hx : nx D k at_ with
    | none =>
      rw [flowP_none hx] at kk
      exact kk s at_ b fr hat hx h20
    | some c =>
    obtain ⟨hac, hcn, hcp⟩ := nx_up hx
    have hc0 : 0 < c := by omega
    by_cases htx : dtx D c = true
    · rw [flowP_text hx htx] at kk
      have hin := runL_in f c (by omega) hcn htx hcp
      obtain ⟨hl1, hln, hl3, hl4⟩ := hin _ (runL_lastmem (D := D) (k := k) (m := f) (a := c))
      have hle := runL_le f c (by omega) hcn htx hcp
      have hvr : ∀ x, x ∈ runL D k f c → svi S x = false := fun x hx => by
        obtain ⟨g1, g2, g3, g4⟩ := hin x hx
        exact (hv.2 x (by omega) g2 g4 x g2 Ds.refl).1
      have hU1 := Uf_run (S := S) (show dn D ≤ c + f + 1 by omega) hcn htx hcp hvr
      have hSm : ∀ d, d < dn D → (∀ x, x ∈ runL D k f c → d ≠ x) → Sm S (runP D k (runL D k f c) S) d := fun d hd hx => Sm_run (by omega) (fun x hx' => ⟨hx x hx', by have := (hin x hx').2.1; omega⟩)
      have hSk : Sm S (runP D k (runL D k f c) S) k := hSm k hk (fun x hx q => by have := (hin x hx).1; omega)
      have hunv : ∀ c', (runL D k f c).getLastD c < c' → c' < dn D → dpar D c' = k → ∀ d, d < dn D → Ds D c' d → svi (runP D k (runL D k f c) S) d = false ∧ slv (runP D k (runL D k f c) S) d = false ∧ scl (runP D k (runL D k f c) S) d = false := fun c' h1 h2 h3 d h4 h5 => by
        have hs := hSm d h4 (fun x hx q => by
          obtain ⟨g1, g2, g3, g4⟩ := hin x hx
          have := Ds.apart hD h4 (k := k) (by omega) (by omega) g2 h2 g4 h3 (q ▸ Ds.refl) h5
          have := hle x hx
          omega)
        rw [hs.2.2.2.1, hs.2.2.2.2.1, hs.2.2.2.2.2]
        exact hv.2 c' (by omega) h2 h3 d h4 h5
      have hwk : (sa S (32 + k)).toInt ≤ 1000 := by have := hw.2; omega
      have hrl := run_len hD (box := k) (r := runL D k f c) (S := S) (by omega) (fun x hx => by have := (hin x hx).2.1; omega) hwk
      refine l_yT l hD b fr hk hat f hx htx (by omega) (by omega) hwk (fun s1 b1 f1 => ?_)
      exact ih k ((runL D k f c).getLastD c) (runP D k (runL D k f c) S) s1 Q (by omega) (by omega) hln hk ht b1 f1 ⟨⟨hSk.2.2.2.1.trans hv.1, hunv⟩, by unfold Wd; rw [hSk.2.1]; exact hw, by unfold Hd; rw [hSk.2.2.1]; exact hh, by omega⟩ kk
    · have htx : dtx D c = false := by cases e : dtx D c; rfl; exact absurd e htx
      rw [flowP_box hx htx] at kk
      have hu := hv.2 c hac hcn hcp
      have hSm : ∀ d, d < dn D → ¬ Ds D c d → Sm S (blkP D f c S) d := fun d hd hx => Sm_blk hD (by omega) hcn hd hx
      have hSk : Sm S (blkP D f c S) k := hSm k hk (fun q => by have := Ds.le hD hk q; omega)
      have hunv : ∀ c', c < c' → c' < dn D → dpar D c' = k → ∀ d, d < dn D → Ds D c' d → svi (blkP D f c S) d = false ∧ slv (blkP D f c S) d = false ∧ scl (blkP D f c S) d = false := fun c' h1 h2 h3 d h4 h5 => by
        have hs := hSm d h4 (fun g => by
          have := Ds.apart hD h4 (k := k) (by omega) (by omega) hcn h2 hcp h3 g h5
          omega)
        rw [hs.2.2.2.1, hs.2.2.2.2.1, hs.2.2.2.2.2]
        exact hv.2 c' (by omega) h2 h3 d h4 h5
      have hslv : slv (enterP D c S) = slv S := by
        show slv (ent2P D c (ent1P D c S)) = slv S
        unfold ent2P
        split <;> rfl
      have hscl : scl (enterP D c S) = scl S := by
        show scl (ent2P D c (ent1P D c S)) = scl S
        unfold ent2P
        split <;> rfl
      have hw' := hw
      obtain ⟨hw0, hw1⟩ := hw
      refine l_yB l hD b fr hk hat hx htx hh ⟨hw0, by omega⟩ (fun s1 b1 f1 => ?_)
      have b2 : LB D W L (begP c (enterP D c S)) s1 := b1.ig rfl rfl rfl (fun _ _ => rfl) (fun _ _ => rfl) (fun _ _ => rfl) rfl
      have hWc : Wd D c (enterP D c S) := Wd_enter hD hc0 hcn (by rw [hcp]; exact hw')
      have hHc : Hd c (enterP D c S) := Hd_enter hD hc0 hcn (by rw [hcp]; exact hh)
      have hVc : Vf D c c (begP c (enterP D c S)) := by
        refine ⟨?_, fun c' h1 h2 h3 d h4 h5 => ?_⟩
        · show svi (enterP D c S) c = true
          rw [enter_svi]; exact if_pos rfl
        · have hne : d ≠ c := fun q => by have := Ds.le hD h4 h5; omega
          obtain ⟨z1, z2, z3⟩ := hu d h4 (h5.up h3)
          refine ⟨?_, ?_, ?_⟩
          · show svi (enterP D c S) d = false
            rw [enter_svi]; exact (if_neg hne).trans z1
          · show setB (slv (enterP D c S)) c true d = false
            rw [hslv]; exact (if_neg hne).trans z2
          · show scl (enterP D c S) d = false
            rw [hscl]; exact z3
      have hUe : Uf D (begP c (enterP D c S)) = Uf D S := Uf_enter htx
      refine ih c c (begP c (enterP D c S)) s1 Q (by omega) (Nat.le_refl _) hcn hcn htx b2 f1 ⟨hVc, hWc, hHc, by rw [hUe, show sls (begP c (enterP D c S)) = sls S from enter_sls]; exact h20⟩ (fun s2 at2 b3 f3 h2 hx2 hlen => ?_)
      refine l_yL l hD b3 f3 hcn h2 hx2 hc0 (fun s4 b4 f4 => ?_)
      rw [hcp]
      exact ih k c (blkP D f c S) s4 Q (by omega) (by omega) hcn hk ht b4 f4 ⟨⟨hSk.2.2.2.1.trans hv.1, hunv⟩, by unfold Wd; rw [hSk.2.1]; exact hw', by unfold Hd; rw [hSk.2.2.1]; exact hh, by unfold blkP; rw [Uf_leave, leave_sls]; exact hlen⟩ kk

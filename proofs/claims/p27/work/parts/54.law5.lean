/-! THE LAW: runs, lays (by wip/p27/gen_law5.py) -/
set_option maxHeartbeats 8000000 in
theorem l_r21a (l : Launch) {G : Gb} {D : Dt} {W : Int32} {L : Lw} {S : FS} {σ : Sto} {box c acc : Nat} {fi : Int32} {Q : Option Value → Sto → Prop} (hD : DW D) (hB : LB D W L S σ) (hbx : box < dn D) (hc : c < dn D) (hx : ∀ k2, nx D box c = some k2 → dtx D k2 = false) (kk : Wp l G 2 0 0 (RL, cL_runs, 18, (some .int), false) 67 [(8, .int (nI c)), (9, .int (nI (acc + dwc D c))), (0, .int (nI box)), (1, .int fi), (2, .ref (lwt L)), (3, .ref (lwl L)), (4, .ref (lwa L)), (5, .ref (lwe L)), (6, .ref (lwq L)), (7, .ref (lwn L))] [] σ Q) :
    Wp l G 2 0 0 (RL, cL_runs, 18, (some .int), false) 21 [(10, .int (nI ((nx D box c).getD 0))), (9, .int (nI (acc + dwc D c))), (8, .int (nI c)), (0, .int (nI box)), (1, .int fi), (2, .ref (lwt L)), (3, .ref (lwl L)), (4, .ref (lwa L)), (5, .ref (lwe L)), (6, .ref (lwq L)), (7, .ref (lwn L))] [] σ Q := by
  have hn := hD.2.1
  cases e : nx D box c with
  | none =>
    show Wp l G 2 0 0 (RL, cL_runs, 18, (some .int), false) 21 [(10, .int (nI 0)), (9, .int (nI (acc + dwc D c))), (8, .int (nI c)), (0, .int (nI box)), (1, .int fi), (2, .ref (lwt L)), (3, .ref (lwl L)), (4, .ref (lwa L)), (5, .ref (lwe L)), (6, .ref (lwq L)), (7, .ref (lwn L))] [] σ _
    refine zp_iload dL_runs_21 (x := (nI 0)) (List.mem_of_getElem? (i := 0) rfl) ?_
    refine zp_if_le dL_runs_23 (tgt := 67) rfl (fun _ => ?_) (fun q => absurd (by decide) q)
    refine zp_lv [2, 1, 3, 4, 5, 6, 7, 8, 9, 10] rfl ?_
    exact kk
  | some k2 =>
    have h2 := hx k2 e
    obtain ⟨g7, g8, g9⟩ := nx_up e
    show Wp l G 2 0 0 (RL, cL_runs, 18, (some .int), false) 21 [(10, .int (nI k2)), (9, .int (nI (acc + dwc D c))), (8, .int (nI c)), (0, .int (nI box)), (1, .int fi), (2, .ref (lwt L)), (3, .ref (lwl L)), (4, .ref (lwa L)), (5, .ref (lwe L)), (6, .ref (lwq L)), (7, .ref (lwn L))] [] σ _
    refine zp_iload dL_runs_21 (x := (nI k2)) (List.mem_of_getElem? (i := 0) rfl) ?_
    refine zp_if_le dL_runs_23 (tgt := 67) rfl (fun q => absurd q (fun q => by have := nI_le0 (by omega) q; omega)) (fun _ => ?_)
    refine zp_aload_n dL_runs_26 rfl (a := (lwt L)) (List.mem_of_getElem? (i := 5) rfl) ?_
    refine zp_bipush dL_runs_27 (v := 16) (by decide) ?_
    refine zp_iload dL_runs_29 (x := (nI k2)) (List.mem_of_getElem? (i := 0) rfl) ?_
    refine zp_iadd dL_runs_31 ?_
    rw [show ((16 + (nI k2)) : Int32) = (nI (16 + k2)) from nI_add 16 k2]
    refine zp_iald_v dL_runs_32 hB.Tt (Or.inl rfl) (j := (16 + k2)) (nI_clamp (by omega)) (vp_in_nI (by omega) (by decide)) (v := (zb (dtx D k2 = true))) (hB.2.2.1.1 k2 (by omega)).2.1 ?_
    refine zp_iconst dL_runs_33 (v := 1) (by decide) ?_
    refine zp_icmp_ne dL_runs_34 (tgt := 67) rfl (fun _ => ?_) (fun q => absurd q (by rw [zb_f (by rw [h2]; decide)]; decide))
    refine zp_lv [2, 1, 3, 4, 5, 6, 7, 8, 9, 10] rfl ?_
    exact kk
set_option maxHeartbeats 8000000 in
theorem l_r21b (l : Launch) {G : Gb} {D : Dt} {W : Int32} {L : Lw} {S : FS} {σ : Sto} {box c acc : Nat} {fi : Int32} {Q : Option Value → Sto → Prop} (hD : DW D) (hB : LB D W L S σ) (hbx : box < dn D) (hc : c < dn D) {k2 : Nat} (e : nx D box c = some k2) (g3 : dtx D k2 = true) (kk : Wp l G 2 0 0 (RL, cL_runs, 18, (some .int), false) 21 [(10, .int (nI ((nx D box k2).getD 0))), (9, .int (nI (acc + dwc D c + dwc D k2))), (8, .int (nI k2)), (0, .int (nI box)), (1, .int fi), (2, .ref (lwt L)), (3, .ref (lwl L)), (4, .ref (lwa L)), (5, .ref (lwe L)), (6, .ref (lwq L)), (7, .ref (lwn L))] [] σ Q) :
    Wp l G 2 0 0 (RL, cL_runs, 18, (some .int), false) 21 [(10, .int (nI ((nx D box c).getD 0))), (9, .int (nI (acc + dwc D c))), (8, .int (nI c)), (0, .int (nI box)), (1, .int fi), (2, .ref (lwt L)), (3, .ref (lwl L)), (4, .ref (lwa L)), (5, .ref (lwe L)), (6, .ref (lwq L)), (7, .ref (lwn L))] [] σ Q := by
  have hn := hD.2.1
  obtain ⟨g7, g8, g9⟩ := nx_up e
  rw [e]
  show Wp l G 2 0 0 (RL, cL_runs, 18, (some .int), false) 21 [(10, .int (nI k2)), (9, .int (nI (acc + dwc D c))), (8, .int (nI c)), (0, .int (nI box)), (1, .int fi), (2, .ref (lwt L)), (3, .ref (lwl L)), (4, .ref (lwa L)), (5, .ref (lwe L)), (6, .ref (lwq L)), (7, .ref (lwn L))] [] σ _
  refine zp_iload dL_runs_21 (x := (nI k2)) (List.mem_of_getElem? (i := 0) rfl) ?_
  refine zp_if_le dL_runs_23 (tgt := 67) rfl (fun q => absurd q (fun q => by have := nI_le0 (by omega) q; omega)) (fun _ => ?_)
  refine zp_aload_n dL_runs_26 rfl (a := (lwt L)) (List.mem_of_getElem? (i := 5) rfl) ?_
  refine zp_bipush dL_runs_27 (v := 16) (by decide) ?_
  refine zp_iload dL_runs_29 (x := (nI k2)) (List.mem_of_getElem? (i := 0) rfl) ?_
  refine zp_iadd dL_runs_31 ?_
  rw [show ((16 + (nI k2)) : Int32) = (nI (16 + k2)) from nI_add 16 k2]
  refine zp_iald_v dL_runs_32 hB.Tt (Or.inl rfl) (j := (16 + k2)) (nI_clamp (by omega)) (vp_in_nI (by omega) (by decide)) (v := (zb (dtx D k2 = true))) (hB.2.2.1.1 k2 (by omega)).2.1 ?_
  refine zp_iconst dL_runs_33 (v := 1) (by decide) ?_
  refine zp_icmp_ne dL_runs_34 (tgt := 67) rfl (fun q => absurd (zb_t g3) q) (fun _ => ?_)
  refine zp_iload dL_runs_37 (x := (nI k2)) (List.mem_of_getElem? (i := 0) rfl) ?_
  refine zp_istore dL_runs_39 (Nat.le_of_ble_eq_true rfl) (lv2 := [(8, .int (nI k2)), (10, .int (nI k2)), (9, .int (nI (acc + dwc D c))), (0, .int (nI box)), (1, .int fi), (2, .ref (lwt L)), (3, .ref (lwl L)), (4, .ref (lwa L)), (5, .ref (lwe L)), (6, .ref (lwq L)), (7, .ref (lwn L))]) rfl ?_
  refine zp_iload dL_runs_41 (x := (nI (acc + dwc D c))) (List.mem_of_getElem? (i := 2) rfl) ?_
  refine zp_aload_n dL_runs_43 rfl (a := (lwt L)) (List.mem_of_getElem? (i := 5) rfl) ?_
  refine zp_bipush dL_runs_44 (v := 32) (by decide) ?_
  refine zp_iload dL_runs_46 (x := (nI k2)) (List.mem_of_getElem? (i := 1) rfl) ?_
  refine zp_iadd dL_runs_48 ?_
  rw [show ((32 + (nI k2)) : Int32) = (nI (32 + k2)) from nI_add 32 k2]
  refine zp_iald_v dL_runs_49 hB.Tt (Or.inl rfl) (j := (32 + k2)) (nI_clamp (by omega)) (vp_in_nI (by omega) (by decide)) (v := (nI (dwc D k2))) (hB.2.2.1.1 k2 (by omega)).2.2.1 ?_
  refine zp_iadd dL_runs_50 ?_
  rw [show (((nI (acc + dwc D c)) + (nI (dwc D k2))) : Int32) = (nI (acc + dwc D c + dwc D k2)) from nI_add (acc + dwc D c) (dwc D k2)]
  refine zp_istore dL_runs_51 (Nat.le_of_ble_eq_true rfl) (lv2 := [(9, .int (nI (acc + dwc D c + dwc D k2))), (8, .int (nI k2)), (10, .int (nI k2)), (0, .int (nI box)), (1, .int fi), (2, .ref (lwt L)), (3, .ref (lwl L)), (4, .ref (lwa L)), (5, .ref (lwe L)), (6, .ref (lwq L)), (7, .ref (lwn L))]) rfl ?_
  refine zp_iload_n dL_runs_53 rfl (x := (nI box)) (List.mem_of_getElem? (i := 3) rfl) ?_
  refine zp_iload dL_runs_54 (x := (nI k2)) (List.mem_of_getElem? (i := 2) rfl) ?_
  refine zp_aload_n dL_runs_56 rfl (a := (lwt L)) (List.mem_of_getElem? (i := 5) rfl) ?_
  refine zp_aload dL_runs_57 (a := (lwq L)) (List.mem_of_getElem? (i := 9) rfl) ?_
  refine zp_callS (st := []) (mc2 := 0) (ms2 := 0) dL_runs_59 (c_L_next l G D W L S box k2 _ hD hB (by omega) (by omega)) cl_L_28 st_L_next rfl rfl (by omega) (by omega) (by omega) (Nat.le_of_ble_eq_true rfl) ?_
  rintro _ s1 ⟨rfl, hs1⟩; obtain rfl := hs1.symm
  refine zp_istore dL_runs_62 (Nat.le_of_ble_eq_true rfl) (lv2 := [(10, .int (nI ((nx D box k2).getD 0))), (9, .int (nI (acc + dwc D c + dwc D k2))), (8, .int (nI k2)), (0, .int (nI box)), (1, .int fi), (2, .ref (lwt L)), (3, .ref (lwl L)), (4, .ref (lwa L)), (5, .ref (lwe L)), (6, .ref (lwq L)), (7, .ref (lwn L))]) rfl ?_
  refine zp_goto dL_runs_64 (tgt := 21) rfl ?_
  refine zp_lv [0, 1, 2, 3, 4, 5, 6, 7, 8, 9, 10] rfl ?_
  exact kk
theorem l_r21 (l : Launch) {G : Gb} {D : Dt} {W : Int32} {L : Lw} {S : FS} {σ : Sto} {box : Nat} {fi : Int32} {Q : Option Value → Sto → Prop} (hD : DW D) (hB : LB D W L S σ) (hbx : box < dn D) : ∀ (m c acc : Nat), dn D ≤ c + m + 1 → c < dn D →
    Wp l G 2 0 0 (RL, cL_runs, 18, (some .int), false) 67 [(8, .int (nI ((runL D box m c).getLastD c))), (9, .int (nI (acc + runW D (runL D box m c)))), (0, .int (nI box)), (1, .int fi), (2, .ref (lwt L)), (3, .ref (lwl L)), (4, .ref (lwa L)), (5, .ref (lwe L)), (6, .ref (lwq L)), (7, .ref (lwn L))] [] σ Q →
    Wp l G 2 0 0 (RL, cL_runs, 18, (some .int), false) 21 [(10, .int (nI ((nx D box c).getD 0))), (9, .int (nI (acc + dwc D c))), (8, .int (nI c)), (0, .int (nI box)), (1, .int fi), (2, .ref (lwt L)), (3, .ref (lwl L)), (4, .ref (lwa L)), (5, .ref (lwe L)), (6, .ref (lwq L)), (7, .ref (lwn L))] [] σ Q := by
  intro m
  induction m with
  | zero =>
    intro c acc hf hc kk
    exact l_r21a l hD hB hbx hc (fun k2 e => by have := nx_up e; omega) kk
  | succ m ih =>
    intro c acc hf hc kk
    rcases runL_cases D box hf with ⟨q, hx⟩ | ⟨k2, m', hm, q, g3, g4, g5, g6, g7, g8⟩
    · rw [q] at kk
      exact l_r21a l hD hB hbx hc hx kk
    · obtain rfl : m' = m := by omega
      refine l_r21b l hD hB hbx hc q g3 (ih k2 (acc + dwc D c) (by omega) g6 ?_)
      rw [runL_last g4, g4, runW_cons, ← Nat.add_assoc] at kk
      exact kk
set_option maxHeartbeats 8000000 in
theorem l_r94a (l : Launch) {G : Gb} {D : Dt} {W : Int32} {L : Lw} {Y : RS} {σ s : Sto} {box c n lst : Nat} {fi : Int32} {Q : Option Value → Sto → Prop} (hD : DW D) (hbx : box < dn D) (hc : c < dn D) (hc0 : 0 < c) (hl : c ≤ lst) (hll : lst < dn D) (b : LB D W L Y.1 s) (f : LF L σ s) (hw : WI D box n Y) (hn20 : n + dwc D c ≤ 20) (kk : ∀ s, LB D W L (textP D box c Y).1 s → LF L σ s → WI D box (n + dwc D c) (textP D box c Y) → Wp l G 2 0 0 (RL, cL_runs, 18, (some .int), false) 94 [(14, .int (nI ((nx D box c).getD 0))), (13, .int ((textP D box c Y).2.2.2)), (12, .int ((textP D box c Y).2.2.1)), (11, .int ((textP D box c Y).2.1)), (8, .int (nI lst)), (0, .int (nI box)), (1, .int fi), (2, .ref (lwt L)), (3, .ref (lwl L)), (4, .ref (lwa L)), (5, .ref (lwe L)), (6, .ref (lwq L)), (7, .ref (lwn L))] [] s Q) :
    Wp l G 2 0 0 (RL, cL_runs, 18, (some .int), false) 94 [(14, .int (nI c)), (13, .int Y.2.2.2), (12, .int Y.2.2.1), (11, .int Y.2.1), (8, .int (nI lst)), (0, .int (nI box)), (1, .int fi), (2, .ref (lwt L)), (3, .ref (lwl L)), (4, .ref (lwa L)), (5, .ref (lwe L)), (6, .ref (lwq L)), (7, .ref (lwn L))] [] s Q := by
  have hn := hD.2.1
  show Wp l G 2 0 0 (RL, cL_runs, 18, (some .int), false) 94 [(14, .int (nI c)), (13, .int Y.2.2.2), (12, .int Y.2.2.1), (11, .int Y.2.1), (8, .int (nI lst)), (0, .int (nI box)), (1, .int fi), (2, .ref (lwt L)), (3, .ref (lwl L)), (4, .ref (lwa L)), (5, .ref (lwe L)), (6, .ref (lwq L)), (7, .ref (lwn L))] [] s _
  refine zp_iload dL_runs_94 (x := (nI c)) (List.mem_of_getElem? (i := 0) rfl) ?_
  refine zp_if_le dL_runs_96 (tgt := 308) rfl (fun q => absurd q (fun q => by have := nI_le0 (by omega) q; omega)) (fun _ => ?_)
  refine zp_iload dL_runs_99 (x := (nI c)) (List.mem_of_getElem? (i := 0) rfl) ?_
  refine zp_iload dL_runs_101 (x := (nI lst)) (List.mem_of_getElem? (i := 4) rfl) ?_
  refine zp_icmp_gt dL_runs_103 (tgt := 308) rfl (fun q => absurd q (fun q => by have := (nI_ltj (by omega) (by omega)).mp q; omega)) (fun _ => ?_)
  refine zp_iconst dL_runs_106 (v := 0) (by decide) ?_
  refine zp_istore dL_runs_107 (Nat.le_of_ble_eq_true rfl) (lv2 := [(15, .int 0), (14, .int (nI c)), (13, .int Y.2.2.2), (12, .int Y.2.2.1), (11, .int Y.2.1), (8, .int (nI lst)), (0, .int (nI box)), (1, .int fi), (2, .ref (lwt L)), (3, .ref (lwl L)), (4, .ref (lwa L)), (5, .ref (lwe L)), (6, .ref (lwq L)), (7, .ref (lwn L))]) rfl ?_
  refine zp_lv [0, 1, 2, 3, 4, 5, 6, 7, 8, 9, 10, 11, 12, 13] rfl ?_
  refine l_w109 l (Y := Y) (n := n) hD hn hbx hc hc0 hn20 (fun s2 b2 f2 hw2 => ?_) (dwc D c) 0 s (Nat.zero_add _) b f hw
  show Wp l G 2 0 0 (RL, cL_runs, 18, (some .int), false) 294 [(14, .int (nI c)), (13, .int ((wordsP D box c (dwc D c) Y).2.2.2)), (12, .int ((wordsP D box c (dwc D c) Y).2.2.1)), (11, .int ((wordsP D box c (dwc D c) Y).2.1)), (8, .int (nI lst)), (0, .int (nI box)), (1, .int fi), (2, .ref (lwt L)), (3, .ref (lwl L)), (4, .ref (lwa L)), (5, .ref (lwe L)), (6, .ref (lwq L)), (7, .ref (lwn L))] [] s2 _
  refine zp_iload_n dL_runs_294 rfl (x := (nI box)) (List.mem_of_getElem? (i := 5) rfl) ?_
  refine zp_iload dL_runs_295 (x := (nI c)) (List.mem_of_getElem? (i := 0) rfl) ?_
  refine zp_aload_n dL_runs_297 rfl (a := (lwt L)) (List.mem_of_getElem? (i := 7) rfl) ?_
  refine zp_aload dL_runs_298 (a := (lwq L)) (List.mem_of_getElem? (i := 11) rfl) ?_
  refine zp_callS (st := []) (mc2 := 0) (ms2 := 0) dL_runs_300 (c_L_next l G D W L (wordsP D box c (dwc D c) Y).1 box c _ hD b2 (by omega) hc) cl_L_28 st_L_next rfl rfl (by omega) (by omega) (by omega) (Nat.le_of_ble_eq_true rfl) ?_
  rintro _ s1 ⟨rfl, hs1⟩; obtain rfl := hs1.symm
  refine zp_istore dL_runs_303 (Nat.le_of_ble_eq_true rfl) (lv2 := [(14, .int (nI ((nx D box c).getD 0))), (13, .int ((wordsP D box c (dwc D c) Y).2.2.2)), (12, .int ((wordsP D box c (dwc D c) Y).2.2.1)), (11, .int ((wordsP D box c (dwc D c) Y).2.1)), (8, .int (nI lst)), (0, .int (nI box)), (1, .int fi), (2, .ref (lwt L)), (3, .ref (lwl L)), (4, .ref (lwa L)), (5, .ref (lwe L)), (6, .ref (lwq L)), (7, .ref (lwn L))]) rfl ?_
  refine zp_goto dL_runs_305 (tgt := 94) rfl ?_
  refine zp_lv [0, 1, 2, 3, 4, 5, 6, 7, 8, 9, 10, 11, 12] rfl ?_
  exact kk s2 (b2.ig rfl rfl rfl (fun _ _ => rfl) (fun _ _ => rfl) (fun _ _ => rfl) rfl) f2 ⟨hw2.1, hw2.2.1, hw2.2.2.1, hw2.2.2.2.1, hw2.2.2.2.2⟩
set_option maxHeartbeats 8000000 in
theorem l_r94b (l : Launch) {G : Gb} {D : Dt} {W : Int32} {L : Lw} {Y : RS} {σ s : Sto} {box c n lst : Nat} {fi : Int32} {Q : Option Value → Sto → Prop} (hD : DW D) (hbx : box < dn D) (hc : c < dn D) (hc0 : 0 < c) (hl : c ≤ lst) (hll : lst < dn D) (b : LB D W L Y.1 s) (f : LF L σ s) (hw : WI D box n Y) (hx : ∀ k2, nx D box c = some k2 → lst < k2) (kk : Wp l G 2 0 0 (RL, cL_runs, 18, (some .int), false) 308 [(13, .int Y.2.2.2), (12, .int Y.2.2.1), (11, .int Y.2.1), (8, .int (nI lst)), (0, .int (nI box)), (1, .int fi), (2, .ref (lwt L)), (3, .ref (lwl L)), (4, .ref (lwa L)), (5, .ref (lwe L)), (6, .ref (lwq L)), (7, .ref (lwn L))] [] s Q) :
    Wp l G 2 0 0 (RL, cL_runs, 18, (some .int), false) 94 [(14, .int (nI ((nx D box c).getD 0))), (13, .int Y.2.2.2), (12, .int Y.2.2.1), (11, .int Y.2.1), (8, .int (nI lst)), (0, .int (nI box)), (1, .int fi), (2, .ref (lwt L)), (3, .ref (lwl L)), (4, .ref (lwa L)), (5, .ref (lwe L)), (6, .ref (lwq L)), (7, .ref (lwn L))] [] s Q := by
  have hn := hD.2.1
  cases e : nx D box c with
  | none =>
    show Wp l G 2 0 0 (RL, cL_runs, 18, (some .int), false) 94 [(14, .int (nI 0)), (13, .int Y.2.2.2), (12, .int Y.2.2.1), (11, .int Y.2.1), (8, .int (nI lst)), (0, .int (nI box)), (1, .int fi), (2, .ref (lwt L)), (3, .ref (lwl L)), (4, .ref (lwa L)), (5, .ref (lwe L)), (6, .ref (lwq L)), (7, .ref (lwn L))] [] s _
    refine zp_iload dL_runs_94 (x := (nI 0)) (List.mem_of_getElem? (i := 0) rfl) ?_
    refine zp_if_le dL_runs_96 (tgt := 308) rfl (fun _ => ?_) (fun q => absurd (by decide) q)
    refine zp_lv [1, 2, 3, 4, 5, 6, 7, 8, 9, 10, 11, 12] rfl ?_
    exact kk
  | some k2 =>
    obtain ⟨g7, g8, g9⟩ := nx_up e
    have hlk := hx k2 e
    show Wp l G 2 0 0 (RL, cL_runs, 18, (some .int), false) 94 [(14, .int (nI k2)), (13, .int Y.2.2.2), (12, .int Y.2.2.1), (11, .int Y.2.1), (8, .int (nI lst)), (0, .int (nI box)), (1, .int fi), (2, .ref (lwt L)), (3, .ref (lwl L)), (4, .ref (lwa L)), (5, .ref (lwe L)), (6, .ref (lwq L)), (7, .ref (lwn L))] [] s _
    refine zp_iload dL_runs_94 (x := (nI k2)) (List.mem_of_getElem? (i := 0) rfl) ?_
    refine zp_if_le dL_runs_96 (tgt := 308) rfl (fun q => absurd q (fun q => by have := nI_le0 (by omega) q; omega)) (fun _ => ?_)
    refine zp_iload dL_runs_99 (x := (nI k2)) (List.mem_of_getElem? (i := 0) rfl) ?_
    refine zp_iload dL_runs_101 (x := (nI lst)) (List.mem_of_getElem? (i := 4) rfl) ?_
    refine zp_icmp_gt dL_runs_103 (tgt := 308) rfl (fun _ => ?_) (fun q => absurd ((nI_ltj (by omega) (by omega)).mpr (by omega)) q)
    refine zp_lv [1, 2, 3, 4, 5, 6, 7, 8, 9, 10, 11, 12] rfl ?_
    exact kk
theorem l_r94 (l : Launch) {G : Gb} {D : Dt} {W : Int32} {L : Lw} {σ : Sto} {box lst : Nat} {fi : Int32} {Q : Option Value → Sto → Prop} (hD : DW D) (hbx : box < dn D) (hll : lst < dn D) : ∀ (m c n : Nat) (Y : RS) (s : Sto), dn D ≤ c + m + 1 → c < dn D → 0 < c → dtx D c = true → dpar D c = box → (runL D box m c).getLastD c = lst → LB D W L Y.1 s → LF L σ s → WI D box n Y → n + runW D (runL D box m c) ≤ 20 →
    (∀ s, LB D W L (runT D box (runL D box m c) Y).1 s → LF L σ s → WI D box (n + runW D (runL D box m c)) (runT D box (runL D box m c) Y) → Wp l G 2 0 0 (RL, cL_runs, 18, (some .int), false) 308 [(13, .int ((runT D box (runL D box m c) Y).2.2.2)), (12, .int ((runT D box (runL D box m c) Y).2.2.1)), (11, .int ((runT D box (runL D box m c) Y).2.1)), (8, .int (nI lst)), (0, .int (nI box)), (1, .int fi), (2, .ref (lwt L)), (3, .ref (lwl L)), (4, .ref (lwa L)), (5, .ref (lwe L)), (6, .ref (lwq L)), (7, .ref (lwn L))] [] s Q) →
    Wp l G 2 0 0 (RL, cL_runs, 18, (some .int), false) 94 [(14, .int (nI c)), (13, .int Y.2.2.2), (12, .int Y.2.2.1), (11, .int Y.2.1), (8, .int (nI lst)), (0, .int (nI box)), (1, .int fi), (2, .ref (lwt L)), (3, .ref (lwl L)), (4, .ref (lwa L)), (5, .ref (lwe L)), (6, .ref (lwq L)), (7, .ref (lwn L))] [] s Q := by
  have last : ∀ (m c n : Nat) (Y : RS) (s : Sto), c < dn D → 0 < c → (∀ k2, nx D box c = some k2 → dtx D k2 = false) → c = lst → LB D W L Y.1 s → LF L σ s → WI D box n Y → n + runW D [c] ≤ 20 →
      (∀ s, LB D W L (runT D box [c] Y).1 s → LF L σ s → WI D box (n + runW D [c]) (runT D box [c] Y) → Wp l G 2 0 0 (RL, cL_runs, 18, (some .int), false) 308 [(13, .int ((runT D box [c] Y).2.2.2)), (12, .int ((runT D box [c] Y).2.2.1)), (11, .int ((runT D box [c] Y).2.1)), (8, .int (nI lst)), (0, .int (nI box)), (1, .int fi), (2, .ref (lwt L)), (3, .ref (lwl L)), (4, .ref (lwa L)), (5, .ref (lwe L)), (6, .ref (lwq L)), (7, .ref (lwn L))] [] s Q) → Wp l G 2 0 0 (RL, cL_runs, 18, (some .int), false) 94 [(14, .int (nI c)), (13, .int Y.2.2.2), (12, .int Y.2.2.1), (11, .int Y.2.1), (8, .int (nI lst)), (0, .int (nI box)), (1, .int fi), (2, .ref (lwt L)), (3, .ref (lwl L)), (4, .ref (lwa L)), (5, .ref (lwe L)), (6, .ref (lwq L)), (7, .ref (lwn L))] [] s Q := fun m c n Y s hc h0 hx hl b f hw h20 kk => by
    have er : runW D [c] = dwc D c := Nat.add_zero _
    rw [er] at kk h20
    exact l_r94a l hD hbx hc h0 (by omega) hll b f hw h20 (fun s2 b2 f2 hw2 => l_r94b l hD hbx hc h0 (by omega) hll b2 f2 hw2 (fun k2 e => by have := nx_up e; omega) (kk s2 b2 f2 hw2))
  intro m
  induction m with
  | zero =>
    intro c n Y s hf hc h0 ht hp hl b f hw h20 kk
    exact last 0 c n Y s hc h0 (fun k2 e => by have := nx_up e; omega) hl b f hw h20 kk
  | succ m ih =>
    intro c n Y s hf hc h0 ht hp hl b f hw h20 kk
    rcases runL_cases D box hf with ⟨q, hx⟩ | ⟨k2, m', hm, q, g3, g4, g5, g6, g7, g8⟩
    · rw [q] at kk hl h20
      exact last 0 c n Y s hc h0 hx hl b f hw h20 kk
    · obtain rfl : m' = m := by omega
      rw [runL_last g4] at hl
      rw [g4, runW_cons] at kk h20
      have hle : k2 ≤ lst := by rw [← hl]; exact runL_le m' k2 g8 g6 g3 g7 k2 (by obtain ⟨xs, hxs⟩ := runL_hd (D := D) (k := box) (m := m') (a := k2); rw [hxs]; exact List.mem_cons_self)
      refine l_r94a l hD hbx hc h0 (by omega) hll b f hw (by omega) (fun s2 b2 f2 hw2 => ?_)
      rw [q]
      refine ih k2 (n + dwc D c) (textP D box c Y) s2 g8 g6 (by omega) g3 g7 hl b2 f2 hw2 (by omega) (fun s3 b3 f3 hw3 => ?_)
      rw [Nat.add_assoc] at hw3
      exact kk s3 b3 f3 hw3
theorem LB_visL {D W} {L : Lw} {σ : Sto} : ∀ (r : List Nat) {S : FS}, LB D W L S σ → LB D W L (visL r S) σ
  | [], _, h => h
  | x :: r, S, h => LB_visL r (h.ig rfl rfl rfl (fun _ _ => rfl) (fun _ _ => rfl) (fun _ _ => rfl) rfl)
set_option maxRecDepth 100000 in
set_option maxHeartbeats 4000000 in
theorem c_L_runs (l : Launch) (G : Gb) (D : Dt) (W : Int32) (L : Lw) (S : FS) (box a m : Nat) (σ : Sto) (hD : DW D) (hB : LB D W L S σ) (hbx : box < dn D) (hf : dn D ≤ a + m + 1) (ha : a < dn D) (ha0 : 0 < a) (ht : dtx D a = true) (hp : dpar D a = box) (h20 : (sls S).length + runW D (runL D box m a) ≤ 20) (hwd : (sa S (32 + box)).toInt ≤ 1000) : Ct l G 2 0 0 yL_runs mL_runs [.int (nI box), .int (nI a), .ref (lwt L), .ref (lwl L), .ref (lwa L), .ref (lwe L), .ref (lwq L), .ref (lwn L)] σ (fun v s => v = some (.int (nI ((runL D box m a).getLastD a))) ∧ LB D W L (runP D box (runL D box m a) S) s ∧ LF L σ s) := by
  refine Ct.of (by decide) rfl (Nat.le_of_ble_eq_true rfl) (fun h => absurd h (by decide)) ?_
  have hn := hD.2.1
  have hln := (runL_in m a hf ha ht hp _ (runL_lastmem (D := D) (k := box) (m := m) (a := a))).2.1
  show Wp l G 2 0 0 (RL, cL_runs, 18, (some .int), false) 0 [(0, .int (nI box)), (1, .int (nI a)), (2, .ref (lwt L)), (3, .ref (lwl L)), (4, .ref (lwa L)), (5, .ref (lwe L)), (6, .ref (lwq L)), (7, .ref (lwn L))] [] σ _
  refine zp_iload_n dL_runs_0 rfl (x := (nI a)) (List.mem_of_getElem? (i := 1) rfl) ?_
  refine zp_istore dL_runs_1 (Nat.le_of_ble_eq_true rfl) (lv2 := [(8, .int (nI a)), (0, .int (nI box)), (1, .int (nI a)), (2, .ref (lwt L)), (3, .ref (lwl L)), (4, .ref (lwa L)), (5, .ref (lwe L)), (6, .ref (lwq L)), (7, .ref (lwn L))]) rfl ?_
  refine zp_aload_n dL_runs_3 rfl (a := (lwt L)) (List.mem_of_getElem? (i := 3) rfl) ?_
  refine zp_bipush dL_runs_4 (v := 32) (by decide) ?_
  refine zp_iload_n dL_runs_6 rfl (x := (nI a)) (List.mem_of_getElem? (i := 2) rfl) ?_
  refine zp_iadd dL_runs_7 ?_
  rw [show ((32 + (nI a)) : Int32) = (nI (32 + a)) from nI_add 32 a]
  refine zp_iald_v dL_runs_8 hB.Tt (Or.inl rfl) (j := (32 + a)) (nI_clamp (by omega)) (vp_in_nI (by omega) (by decide)) (v := (nI (dwc D a))) (hB.2.2.1.1 a (by omega)).2.2.1 ?_
  refine zp_istore dL_runs_9 (Nat.le_of_ble_eq_true rfl) (lv2 := [(9, .int (nI (dwc D a))), (8, .int (nI a)), (0, .int (nI box)), (1, .int (nI a)), (2, .ref (lwt L)), (3, .ref (lwl L)), (4, .ref (lwa L)), (5, .ref (lwe L)), (6, .ref (lwq L)), (7, .ref (lwn L))]) rfl ?_
  refine zp_iload_n dL_runs_11 rfl (x := (nI box)) (List.mem_of_getElem? (i := 2) rfl) ?_
  refine zp_iload_n dL_runs_12 rfl (x := (nI a)) (List.mem_of_getElem? (i := 3) rfl) ?_
  refine zp_aload_n dL_runs_13 rfl (a := (lwt L)) (List.mem_of_getElem? (i := 4) rfl) ?_
  refine zp_aload dL_runs_14 (a := (lwq L)) (List.mem_of_getElem? (i := 8) rfl) ?_
  refine zp_callS (st := []) (mc2 := 0) (ms2 := 0) dL_runs_16 (c_L_next l G D W L S box a _ hD hB (by omega) ha) cl_L_28 st_L_next rfl rfl (by omega) (by omega) (by omega) (Nat.le_of_ble_eq_true rfl) ?_
  rintro _ s1 ⟨rfl, hs1⟩; obtain rfl := hs1.symm
  refine zp_istore dL_runs_19 (Nat.le_of_ble_eq_true rfl) (lv2 := [(10, .int (nI ((nx D box a).getD 0))), (9, .int (nI (dwc D a))), (8, .int (nI a)), (0, .int (nI box)), (1, .int (nI a)), (2, .ref (lwt L)), (3, .ref (lwl L)), (4, .ref (lwa L)), (5, .ref (lwe L)), (6, .ref (lwq L)), (7, .ref (lwn L))]) rfl ?_
  refine zp_lv [0, 1, 2, 3, 4, 5, 6, 7, 8, 9, 10] rfl ?_
  have kk : Wp l G 2 0 0 (RL, cL_runs, 18, (some .int), false) 67 [(8, .int (nI ((runL D box m a).getLastD a))), (9, .int (nI (0 + runW D (runL D box m a)))), (0, .int (nI box)), (1, .int (nI a)), (2, .ref (lwt L)), (3, .ref (lwl L)), (4, .ref (lwa L)), (5, .ref (lwe L)), (6, .ref (lwq L)), (7, .ref (lwn L))] [] σ (fun v s => v = some (.int (nI ((runL D box m a).getLastD a))) ∧ LB D W L (runP D box (runL D box m a) S) s ∧ LF L σ s) := by
    rw [Nat.zero_add]
    show Wp l G 2 0 0 (RL, cL_runs, 18, (some .int), false) 67 [(8, .int (nI ((runL D box m a).getLastD a))), (9, .int (nI (runW D (runL D box m a)))), (0, .int (nI box)), (1, .int (nI a)), (2, .ref (lwt L)), (3, .ref (lwl L)), (4, .ref (lwa L)), (5, .ref (lwe L)), (6, .ref (lwq L)), (7, .ref (lwn L))] [] σ _
    refine zp_iload dL_runs_67 (x := (nI (runW D (runL D box m a)))) (List.mem_of_getElem? (i := 1) rfl) ?_
    refine zp_if_ne dL_runs_69 (tgt := 75) rfl (fun h69 => ?_) (fun h69 => ?_)
    · have h0 : ¬ runW D (runL D box m a) = 0 := fun q => h69 (by rw [q]; rfl)
      refine zp_aload dL_runs_75 (a := (lwq L)) (List.mem_of_getElem? (i := 8) rfl) ?_
      refine zp_aload dL_runs_77 (a := (lwa L)) (List.mem_of_getElem? (i := 6) rfl) ?_
      refine zp_callS (st := []) (mc2 := 0) (ms2 := 0) dL_runs_79 (c_L_ends l G D W L S _ hB) cl_L_16 st_L_ends rfl rfl (by omega) (by omega) (by omega) (Nat.le_of_ble_eq_true rfl) ?_
      rintro _ u1 ⟨rfl, b1, f1⟩
      refine zp_iconst dL_runs_82 (v := 0) (by decide) ?_
      refine zp_istore dL_runs_83 (Nat.le_of_ble_eq_true rfl) (lv2 := [(11, .int 0), (8, .int (nI ((runL D box m a).getLastD a))), (9, .int (nI (runW D (runL D box m a)))), (0, .int (nI box)), (1, .int (nI a)), (2, .ref (lwt L)), (3, .ref (lwl L)), (4, .ref (lwa L)), (5, .ref (lwe L)), (6, .ref (lwq L)), (7, .ref (lwn L))]) rfl ?_
      refine zp_iconst dL_runs_85 (v := 0) (by decide) ?_
      refine zp_istore dL_runs_86 (Nat.le_of_ble_eq_true rfl) (lv2 := [(12, .int 0), (11, .int 0), (8, .int (nI ((runL D box m a).getLastD a))), (9, .int (nI (runW D (runL D box m a)))), (0, .int (nI box)), (1, .int (nI a)), (2, .ref (lwt L)), (3, .ref (lwl L)), (4, .ref (lwa L)), (5, .ref (lwe L)), (6, .ref (lwq L)), (7, .ref (lwn L))]) rfl ?_
      refine zp_iconst dL_runs_88 (v := 0) (by decide) ?_
      refine zp_istore dL_runs_89 (Nat.le_of_ble_eq_true rfl) (lv2 := [(13, .int 0), (12, .int 0), (11, .int 0), (8, .int (nI ((runL D box m a).getLastD a))), (9, .int (nI (runW D (runL D box m a)))), (0, .int (nI box)), (1, .int (nI a)), (2, .ref (lwt L)), (3, .ref (lwl L)), (4, .ref (lwa L)), (5, .ref (lwe L)), (6, .ref (lwq L)), (7, .ref (lwn L))]) rfl ?_
      refine zp_iload_n dL_runs_91 rfl (x := (nI a)) (List.mem_of_getElem? (i := 6) rfl) ?_
      refine zp_istore dL_runs_92 (Nat.le_of_ble_eq_true rfl) (lv2 := [(14, .int (nI a)), (13, .int 0), (12, .int 0), (11, .int 0), (8, .int (nI ((runL D box m a).getLastD a))), (9, .int (nI (runW D (runL D box m a)))), (0, .int (nI box)), (1, .int (nI a)), (2, .ref (lwt L)), (3, .ref (lwl L)), (4, .ref (lwa L)), (5, .ref (lwe L)), (6, .ref (lwq L)), (7, .ref (lwn L))]) rfl ?_
      refine zp_lv [0, 1, 2, 3, 4, 6, 7, 8, 9, 10, 11, 12, 13] rfl ?_
      refine l_r94 l (lst := (runL D box m a).getLastD a) hD hbx hln m a (sls S).length (endP S, 0, 0, 0) _ hf ha ha0 ht hp rfl b1 f1 ⟨⟨(by decide : 0 ≤ (0 : Int32).toInt), (by decide : (0 : Int32).toInt ≤ 1000)⟩, ⟨(by decide : 0 ≤ (0 : Int32).toInt), (by decide : (0 : Int32).toInt ≤ 20)⟩, ⟨(by decide : 0 ≤ (0 : Int32).toInt), (by decide : (0 : Int32).toInt ≤ 20)⟩, by show (sls S).length + (if (0 : Int32) = 0 then 0 else 1) ≤ _; rw [if_pos rfl]; omega, by show (sa (endP S) (32 + box)).toInt ≤ 1000; rw [endP_sa (by omega)]; exact hwd⟩ h20 (fun s3 b3 f3 hw3 => ?_)
      show Wp l G 2 0 0 (RL, cL_runs, 18, (some .int), false) 308 [(13, .int ((runT D box (runL D box m a) (endP S, 0, 0, 0)).2.2.2)), (12, .int ((runT D box (runL D box m a) (endP S, 0, 0, 0)).2.2.1)), (11, .int ((runT D box (runL D box m a) (endP S, 0, 0, 0)).2.1)), (8, .int (nI ((runL D box m a).getLastD a))), (0, .int (nI box)), (1, .int (nI a)), (2, .ref (lwt L)), (3, .ref (lwl L)), (4, .ref (lwa L)), (5, .ref (lwe L)), (6, .ref (lwq L)), (7, .ref (lwn L))] [] s3 _
      refine zp_iload_n dL_runs_308 rfl (x := (nI box)) (List.mem_of_getElem? (i := 4) rfl) ?_
      refine zp_iload dL_runs_309 (x := (runT D box (runL D box m a) (endP S, 0, 0, 0)).2.1) (List.mem_of_getElem? (i := 2) rfl) ?_
      refine zp_iload dL_runs_311 (x := (runT D box (runL D box m a) (endP S, 0, 0, 0)).2.2.1) (List.mem_of_getElem? (i := 1) rfl) ?_
      refine zp_iload dL_runs_313 (x := (runT D box (runL D box m a) (endP S, 0, 0, 0)).2.2.2) (List.mem_of_getElem? (i := 0) rfl) ?_
      refine zp_aload dL_runs_315 (a := (lwq L)) (List.mem_of_getElem? (i := 10) rfl) ?_
      refine zp_aload dL_runs_317 (a := (lwn L)) (List.mem_of_getElem? (i := 11) rfl) ?_
      refine zp_callS (st := []) (mc2 := 0) (ms2 := 0) dL_runs_319 (c_L_shuts l G D W L (runT D box (runL D box m a) (endP S, 0, 0, 0)).1 box (sls (runT D box (runL D box m a) (endP S, 0, 0, 0)).1).length (runT D box (runL D box m a) (endP S, 0, 0, 0)).2.1 (runT D box (runL D box m a) (endP S, 0, 0, 0)).2.2.1 (runT D box (runL D box m a) (endP S, 0, 0, 0)).2.2.2 _ b3 rfl (by have := hw3.2.2.2.1; omega) (sum_nn hw3.2.1 hw3.2.2.1)) cl_L_32 st_L_shuts rfl rfl (by omega) (by omega) (by omega) (Nat.le_of_ble_eq_true rfl) ?_
      rintro _ u1 ⟨rfl, b1, g1⟩
      have f1 : LF L σ u1 := f3.trans g1
      refine zp_iload dL_runs_322 (x := (nI ((runL D box m a).getLastD a))) (List.mem_of_getElem? (i := 3) rfl) ?_
      refine zp_iret rfl dL_runs_324 ?_
      exact ⟨rfl, by rw [show runP D box (runL D box m a) S = shutP box (runT D box (runL D box m a) (endP S, 0, 0, 0)) from if_neg h0]; exact b1, f1⟩
    · have h0 : runW D (runL D box m a) = 0 := nI_inj (k := 0) (by omega) (by decide) h69
      refine zp_iload dL_runs_72 (x := (nI ((runL D box m a).getLastD a))) (List.mem_of_getElem? (i := 0) rfl) ?_
      refine zp_iret rfl dL_runs_74 ?_
      refine ⟨rfl, by rw [show runP D box (runL D box m a) S = visL (runL D box m a) S from if_pos h0]; exact LB_visL _ hB, LF.refl⟩
  have e := l_r21 l hD hB hbx m a 0 hf ha kk
  rw [Nat.zero_add] at e
  exact e

/-! THE LAW: known, enters, leaves, shuts (by wip/p27/gen_law3.py) -/
theorem pt_int {w p : Int32} (h0 : 0 ≤ w.toInt) (h1 : w.toInt ≤ 100000) (g0 : 0 ≤ p.toInt) (g1 : p.toInt ≤ 100) : w * p / 100 = pt w p := by
  refine Int32.toInt_inj.mp ?_
  rw [pt_bound h0 h1 g0 g1]
  have hm : 0 ≤ w.toInt * p.toInt := Int.mul_nonneg h0 g0
  have hm2 : w.toInt * p.toInt ≤ 100000 * 100 := Int.mul_le_mul h1 g1 g0 (by decide)
  have e : (w * p).toInt = w.toInt * p.toInt := by
    rw [Int32.toInt_mul]
    exact Int.bmod_eq_of_le (by omega) (by omega)
  rw [Int32.toInt_div, e, show (100 : Int32).toInt = 100 from rfl]
  rw [Int.tdiv_eq_ediv_of_nonneg hm]
  exact Int.bmod_eq_of_le (by omega) (by omega)
theorem i_lt1000 {g : Int32} (h : g < 0) : g < 1000 := Int32.lt_trans h (by decide)
theorem hIn_1 {g k : Int32} (h : ¬ 0 ≤ g) : hIn g k = -1 := by
  have h := Int32.not_le.mp h
  unfold hIn; rw [if_pos (i_lt1000 h), if_pos h]
theorem hIn_2 {g k : Int32} (h : 0 ≤ g) (h1 : ¬ 1000 ≤ g) : hIn g k = g := by unfold hIn; rw [if_pos (Int32.not_le.mp h1), if_neg (i_nlt h)]
theorem hIn_3 {g k : Int32} (h1 : 1000 ≤ g) (h : ¬ 0 ≤ k) : hIn g k = -1 := by unfold hIn; rw [if_neg (i_nlt h1), if_pos (Int32.not_le.mp h)]
theorem hIn_4 {g k : Int32} (h1 : 1000 ≤ g) (h : 0 ≤ k) (hk : k.toInt ≤ 100000) (hg : g.toInt ≤ 1100) : k * (g - 1000) / 100 = hIn g k := by
  unfold hIn
  rw [if_neg (i_nlt h1), if_neg (i_nlt h)]
  have g1 := Int32.le_iff_toInt_le.mp h1
  rw [show (1000 : Int32).toInt = 1000 from rfl] at g1
  have k1 := Int32.le_iff_toInt_le.mp h
  rw [show (0 : Int32).toInt = 0 from rfl] at k1
  have e : (g - 1000).toInt = g.toInt - 1000 := by
    rw [Int32.toInt_sub, show (1000 : Int32).toInt = 1000 from rfl]
    exact Int.bmod_eq_of_le (by omega) (by omega)
  exact pt_int k1 hk (by omega) (by omega)
theorem wIn_1 {g w f : Int32} (h1 : 1000 ≤ g) (hw0 : 0 ≤ w.toInt) (hw : w.toInt ≤ 100000) (hg : g.toInt ≤ 1100) : w * (g - 1000) / 100 = wIn g w f := by
  unfold wIn
  rw [if_neg (i_nlt h1)]
  have g1 := Int32.le_iff_toInt_le.mp h1
  rw [show (1000 : Int32).toInt = 1000 from rfl] at g1
  have e : (g - 1000).toInt = g.toInt - 1000 := by
    rw [Int32.toInt_sub, show (1000 : Int32).toInt = 1000 from rfl]
    exact Int.bmod_eq_of_le (by omega) (by omega)
  exact pt_int hw0 hw (by omega) (by omega)
theorem wIn_2 {g w f : Int32} (h : 0 ≤ g) (h1 : g < 1000) : g = wIn g w f := by unfold wIn; rw [if_pos h1, if_neg (i_nlt h)]
theorem wIn_3 {g w f : Int32} (h : g < 0) (h2 : ¬ f ≤ 0) : f = wIn g w f := by unfold wIn; rw [if_pos (i_lt1000 h), if_pos h, m0_r h2]
theorem wIn_4 {g w f : Int32} (h : g < 0) (h2 : f ≤ 0) : 0 = wIn g w f := by unfold wIn; rw [if_pos (i_lt1000 h), if_pos h, m0_l h2]
theorem rim_sub {w a b c d : Int32} : (((w - a) - b) - c) - d = w - (((b + d) + c) + a) := by
  simp only [Int32.sub_eq_add_neg, Int32.neg_add]
  ac_rfl
theorem sub2 {w a b : Int32} : (w - a) - b = w - (a + b) := by
  simp only [Int32.sub_eq_add_neg, Int32.neg_add]
  ac_rfl
theorem st_hi {D : Dt} (hD : DW D) (k : Nat) : (dst D k 4).toInt ≤ 1100 ∧ (dst D k 5).toInt ≤ 1100 := by
  have := hD.2.2.2.2.2.2.2.2.1 k
  omega
/-- the numbers that a layout reaches -/
def Hd (k : Nat) (S : FS) : Prop := (sh S k).toInt ≤ 20
set_option maxRecDepth 100000 in
set_option maxHeartbeats 4000000 in
theorem c_L_known (l : Launch) (G : Gb) (D : Dt) (W : Int32) (L : Lw) (S : FS) (k : Nat) (σ : Sto) (hD : DW D) (hB : LB D W L S σ) (hk : k < dn D) (hp : dpar D k < 12) (hh : Hd (dpar D k) S) : Ct l G 1 0 0 yL_known mL_known [.int (nI k), .ref (lwg L), .ref (lwt L), .ref (lwh L)] σ (fun v s => v = some (.int (hIn (dst D k 5) (sh S (dpar D k)))) ∧ s = σ) := by
  refine Ct.of (by decide) rfl (Nat.le_of_ble_eq_true rfl) (fun h => absurd h (by decide)) ?_
  have hn := hD.2.1
  show Wp l G 1 0 0 (RL, cL_known, 5, (some .int), false) 0 [(0, .int (nI k)), (1, .ref (lwg L)), (2, .ref (lwt L)), (3, .ref (lwh L))] [] σ _
  refine zp_aload_n dL_known_0 rfl (a := (lwg L)) (List.mem_of_getElem? (i := 1) rfl) ?_
  refine zp_bipush dL_known_1 (v := 16) (by decide) ?_
  refine zp_iload_n dL_known_3 rfl (x := (nI k)) (List.mem_of_getElem? (i := 0) rfl) ?_
  refine zp_iadd dL_known_4 ?_
  rw [show ((16 + (nI k)) : Int32) = (nI (16 + k)) from nI_add 16 k]
  refine zp_iald_v dL_known_5 hB.Tg (Or.inl rfl) (j := (16 + k)) (nI_clamp (by omega)) (vp_in_nI (by omega) (by decide)) (v := (dst D k 5)) (hB.2.2.1.1 k (by omega)).2.2.2.2.2.1 ?_
  refine zp_istore dL_known_6 (Nat.le_of_ble_eq_true rfl) (lv2 := [(4, .int (dst D k 5)), (0, .int (nI k)), (1, .ref (lwg L)), (2, .ref (lwt L)), (3, .ref (lwh L))]) rfl ?_
  refine zp_iload dL_known_8 (x := (dst D k 5)) (List.mem_of_getElem? (i := 0) rfl) ?_
  refine zp_if_ge dL_known_10 (tgt := 17) rfl (fun h1 => ?_) (fun h1 => ?_)
  · skip
    refine zp_iload dL_known_17 (x := (dst D k 5)) (List.mem_of_getElem? (i := 0) rfl) ?_
    refine zp_sipush dL_known_19 (v := 1000) (by decide) ?_
    refine zp_icmp_ge dL_known_22 (tgt := 30) rfl (fun h2 => ?_) (fun h2 => ?_)
    · skip
      refine zp_aload_n dL_known_30 rfl (a := (lwh L)) (List.mem_of_getElem? (i := 4) rfl) ?_
      refine zp_aload_n dL_known_31 rfl (a := (lwt L)) (List.mem_of_getElem? (i := 3) rfl) ?_
      refine zp_iload_n dL_known_32 rfl (x := (nI k)) (List.mem_of_getElem? (i := 1) rfl) ?_
      refine zp_iald_v dL_known_33 hB.Tt (Or.inl rfl) (j := (k)) (nI_clamp (by omega)) (vp_in_nI (by omega) (by decide)) (v := (nI (dpar D k))) (hB.2.2.1.1 k (by omega)).1 ?_
      refine zp_iald_v dL_known_34 hB.Th (Or.inl rfl) (j := (dpar D k)) (nI_clamp (by omega)) (vp_in_nI (by omega) (by decide)) (v := (sh S (dpar D k))) (hB.rh (by omega)) ?_
      refine zp_if_ge dL_known_35 (tgt := 42) rfl (fun h3 => ?_) (fun h3 => ?_)
      · skip
        refine zp_aload_n dL_known_42 rfl (a := (lwh L)) (List.mem_of_getElem? (i := 4) rfl) ?_
        refine zp_aload_n dL_known_43 rfl (a := (lwt L)) (List.mem_of_getElem? (i := 3) rfl) ?_
        refine zp_iload_n dL_known_44 rfl (x := (nI k)) (List.mem_of_getElem? (i := 1) rfl) ?_
        refine zp_iald_v dL_known_45 hB.Tt (Or.inl rfl) (j := (k)) (nI_clamp (by omega)) (vp_in_nI (by omega) (by decide)) (v := (nI (dpar D k))) (hB.2.2.1.1 k (by omega)).1 ?_
        refine zp_iald_v dL_known_46 hB.Th (Or.inl rfl) (j := (dpar D k)) (nI_clamp (by omega)) (vp_in_nI (by omega) (by decide)) (v := (sh S (dpar D k))) (hB.rh (by omega)) ?_
        refine zp_iload dL_known_47 (x := (dst D k 5)) (List.mem_of_getElem? (i := 0) rfl) ?_
        refine zp_sipush dL_known_49 (v := 1000) (by decide) ?_
        refine zp_isub dL_known_52 ?_
        refine zp_imul dL_known_53 ?_
        refine zp_bipush dL_known_54 (v := 100) (by decide) ?_
        refine zp_idiv dL_known_56 (by decide) ?_
        refine zp_iret rfl dL_known_57 ?_
        first
          | exact ⟨by rw [hIn_1 h1], rfl⟩
          | exact ⟨by rw [hIn_2 h1 h2], rfl⟩
          | exact ⟨by rw [hIn_3 h2 h3], rfl⟩
          | exact ⟨by rw [hIn_4 h2 h3 (by unfold Hd at hh; omega) (st_hi hD k).2], rfl⟩
      · skip
        refine zp_iconst dL_known_38 (v := (-1)) (by decide) ?_
        refine zp_goto dL_known_39 (tgt := 57) rfl ?_
        refine zp_iret rfl dL_known_57 ?_
        first
          | exact ⟨by rw [hIn_1 h1], rfl⟩
          | exact ⟨by rw [hIn_2 h1 h2], rfl⟩
          | exact ⟨by rw [hIn_3 h2 h3], rfl⟩
          | exact ⟨by rw [hIn_4 h2 h3 (by unfold Hd at hh; omega) (st_hi hD k).2], rfl⟩
    · skip
      refine zp_iload dL_known_25 (x := (dst D k 5)) (List.mem_of_getElem? (i := 0) rfl) ?_
      refine zp_goto dL_known_27 (tgt := 57) rfl ?_
      refine zp_iret rfl dL_known_57 ?_
      first
        | exact ⟨by rw [hIn_1 h1], rfl⟩
        | exact ⟨by rw [hIn_2 h1 h2], rfl⟩
        | exact ⟨by rw [hIn_3 h2 h3], rfl⟩
        | exact ⟨by rw [hIn_4 h2 h3 (by unfold Hd at hh; omega) (st_hi hD k).2], rfl⟩
  · skip
    refine zp_iconst dL_known_13 (v := (-1)) (by decide) ?_
    refine zp_goto dL_known_14 (tgt := 57) rfl ?_
    refine zp_iret rfl dL_known_57 ?_
    first
      | exact ⟨by rw [hIn_1 h1], rfl⟩
      | exact ⟨by rw [hIn_2 h1 h2], rfl⟩
      | exact ⟨by rw [hIn_3 h2 h3], rfl⟩
      | exact ⟨by rw [hIn_4 h2 h3 (by unfold Hd at hh; omega) (st_hi hD k).2], rfl⟩
theorem ent2_sa {D : Dt} {c j : Nat} {S : FS} (hj : j < 17 ∨ 27 < j) : sa (ent2P D c (ent1P D c S)) j = sa S j := by
  unfold ent2P
  split
  · exact endP_sa (S := ent1P D c S) hj
  · rfl
theorem ent2_sh {D : Dt} {c : Nat} {S : FS} : sh (ent2P D c (ent1P D c S)) = sh S := by
  unfold ent2P
  split <;> rfl
theorem in_ent2 {D : Dt} {c k : Nat} {S : FS} (hk : k < 12) {K : Int32} : inP D k (sa (setH c K (ent2P D c (ent1P D c S)))) = inP D k (sa S) := by
  unfold inP
  split
  · rfl
  · show sa (ent2P D c (ent1P D c S)) k + _ = _
    rw [ent2_sa (by omega)]
theorem enter_fin {D W} {L : Lw} {S : FS} {s : Sto} {c : Nat} {K U V : Int32} (hb : LB D W L (setA (32 + c) V (setA c U (setH c K (ent2P D c (ent1P D c S))))) s) (hK : K = hIn (dst D c 5) (sh S (dpar D c))) (hU : U = inP D (dpar D c) (sa S) + dst D c 9) (hV : V = wIn (dst D c 4) (sa S (32 + dpar D c)) (sa S (32 + dpar D c) - rimP D c)) : LB D W L (enterP D c S) s := by
  subst hK hU hV
  exact hb.ig rfl rfl rfl (fun _ _ => rfl) (fun _ _ => rfl) (fun _ _ => rfl) rfl
set_option maxRecDepth 100000 in
set_option maxHeartbeats 4000000 in
theorem c_L_enters (l : Launch) (G : Gb) (D : Dt) (W : Int32) (L : Lw) (S : FS) (c : Nat) (σ : Sto) (hD : DW D) (hB : LB D W L S σ) (hc : c < dn D) (hpn : dpar D c < dn D) (hh : Hd (dpar D c) S) (hw : 0 ≤ (sa S (32 + dpar D c)).toInt ∧ (sa S (32 + dpar D c)).toInt ≤ 1000) : Ct l G 2 0 0 yL_enters mL_enters [.int (nI c), .ref (lwt L), .ref (lwm L), .ref (lwe L), .ref (lwg L), .ref (lwa L), .ref (lwh L), .ref (lwq L)] σ (fun v s => v = none ∧ LB D W L (enterP D c S) s ∧ LF L σ s) := by
  refine Ct.of (by decide) rfl (Nat.le_of_ble_eq_true rfl) (fun h => absurd h (by decide)) ?_
  have hn := hD.2.1
  have hp : dpar D c < 12 := by omega
  show Wp l G 2 0 0 (RL, cL_enters, 10, none, false) 0 [(0, .int (nI c)), (1, .ref (lwt L)), (2, .ref (lwm L)), (3, .ref (lwe L)), (4, .ref (lwg L)), (5, .ref (lwa L)), (6, .ref (lwh L)), (7, .ref (lwq L))] [] σ _
  refine zp_aload_n dL_enters_0 rfl (a := (lwt L)) (List.mem_of_getElem? (i := 1) rfl) ?_
  refine zp_iload_n dL_enters_1 rfl (x := (nI c)) (List.mem_of_getElem? (i := 0) rfl) ?_
  refine zp_iald_v dL_enters_2 hB.Tt (Or.inl rfl) (j := (c)) (nI_clamp (by omega)) (vp_in_nI (by omega) (by decide)) (v := (nI (dpar D c))) (hB.2.2.1.1 c (by omega)).1 ?_
  refine zp_istore dL_enters_3 (Nat.le_of_ble_eq_true rfl) (lv2 := [(8, .int (nI (dpar D c))), (0, .int (nI c)), (1, .ref (lwt L)), (2, .ref (lwm L)), (3, .ref (lwe L)), (4, .ref (lwg L)), (5, .ref (lwa L)), (6, .ref (lwh L)), (7, .ref (lwq L))]) rfl ?_
  refine zp_aload dL_enters_5 (a := (lwa L)) (List.mem_of_getElem? (i := 6) rfl) ?_
  refine zp_bipush dL_enters_7 (v := 32) (by decide) ?_
  refine zp_iload dL_enters_9 (x := (nI (dpar D c))) (List.mem_of_getElem? (i := 0) rfl) ?_
  refine zp_iadd dL_enters_11 ?_
  rw [show ((32 + (nI (dpar D c))) : Int32) = (nI (32 + dpar D c)) from nI_add 32 (dpar D c)]
  refine zp_iald_v dL_enters_12 hB.Ta (Or.inl rfl) (j := (32 + dpar D c)) (nI_clamp (by omega)) (vp_in_nI (by omega) (by decide)) (v := (sa S (32 + dpar D c))) (hB.ra (by omega)) ?_
  refine zp_aload_n dL_enters_13 rfl (a := (lwm L)) (List.mem_of_getElem? (i := 3) rfl) ?_
  refine zp_iconst dL_enters_14 (v := 4) (by decide) ?_
  refine zp_iload_n dL_enters_15 rfl (x := (nI c)) (List.mem_of_getElem? (i := 1) rfl) ?_
  refine zp_imul dL_enters_16 ?_
  rw [show ((4 * (nI c)) : Int32) = (nI (4 * c)) from pk_mul 4 c]
  refine zp_iconst dL_enters_17 (v := 1) (by decide) ?_
  refine zp_iadd dL_enters_18 ?_
  rw [show (((nI (4 * c)) + 1) : Int32) = (nI (4 * c + 1)) from nI_add (4 * c) 1]
  refine zp_iald_v dL_enters_19 hB.Tm (Or.inl rfl) (j := (4 * c + 1)) (nI_clamp (by omega)) (vp_in_nI (by omega) (by decide)) (v := (dst D c 7)) ((hB.2.2.1.1 c (by omega)).2.2.2.2.2.2.1 1 (by decide)).1 ?_
  refine zp_isub dL_enters_20 ?_
  refine zp_aload_n dL_enters_21 rfl (a := (lwm L)) (List.mem_of_getElem? (i := 3) rfl) ?_
  refine zp_iconst dL_enters_22 (v := 4) (by decide) ?_
  refine zp_iload_n dL_enters_23 rfl (x := (nI c)) (List.mem_of_getElem? (i := 1) rfl) ?_
  refine zp_imul dL_enters_24 ?_
  rw [show ((4 * (nI c)) : Int32) = (nI (4 * c)) from pk_mul 4 c]
  refine zp_iconst dL_enters_25 (v := 3) (by decide) ?_
  refine zp_iadd dL_enters_26 ?_
  rw [show (((nI (4 * c)) + 3) : Int32) = (nI (4 * c + 3)) from nI_add (4 * c) 3]
  refine zp_iald_v dL_enters_27 hB.Tm (Or.inl rfl) (j := (4 * c + 3)) (nI_clamp (by omega)) (vp_in_nI (by omega) (by decide)) (v := (dst D c 9)) ((hB.2.2.1.1 c (by omega)).2.2.2.2.2.2.1 3 (by decide)).1 ?_
  refine zp_isub dL_enters_28 ?_
  refine zp_aload_n dL_enters_29 rfl (a := (lwe L)) (List.mem_of_getElem? (i := 4) rfl) ?_
  refine zp_iconst dL_enters_30 (v := 4) (by decide) ?_
  refine zp_iload_n dL_enters_31 rfl (x := (nI c)) (List.mem_of_getElem? (i := 1) rfl) ?_
  refine zp_imul dL_enters_32 ?_
  rw [show ((4 * (nI c)) : Int32) = (nI (4 * c)) from pk_mul 4 c]
  refine zp_iconst dL_enters_33 (v := 1) (by decide) ?_
  refine zp_iadd dL_enters_34 ?_
  rw [show (((nI (4 * c)) + 1) : Int32) = (nI (4 * c + 1)) from nI_add (4 * c) 1]
  refine zp_iald_v dL_enters_35 hB.Te (Or.inl rfl) (j := (4 * c + 1)) (nI_clamp (by omega)) (vp_in_nI (by omega) (by decide)) (v := (dst D c 11)) ((hB.2.2.1.1 c (by omega)).2.2.2.2.2.2.1 1 (by decide)).2 ?_
  refine zp_isub dL_enters_36 ?_
  refine zp_aload_n dL_enters_37 rfl (a := (lwe L)) (List.mem_of_getElem? (i := 4) rfl) ?_
  refine zp_iconst dL_enters_38 (v := 4) (by decide) ?_
  refine zp_iload_n dL_enters_39 rfl (x := (nI c)) (List.mem_of_getElem? (i := 1) rfl) ?_
  refine zp_imul dL_enters_40 ?_
  rw [show ((4 * (nI c)) : Int32) = (nI (4 * c)) from pk_mul 4 c]
  refine zp_iconst dL_enters_41 (v := 3) (by decide) ?_
  refine zp_iadd dL_enters_42 ?_
  rw [show (((nI (4 * c)) + 3) : Int32) = (nI (4 * c + 3)) from nI_add (4 * c) 3]
  refine zp_iald_v dL_enters_43 hB.Te (Or.inl rfl) (j := (4 * c + 3)) (nI_clamp (by omega)) (vp_in_nI (by omega) (by decide)) (v := (dst D c 13)) ((hB.2.2.1.1 c (by omega)).2.2.2.2.2.2.1 3 (by decide)).2 ?_
  refine zp_isub dL_enters_44 ?_
  refine zp_istore dL_enters_45 (Nat.le_of_ble_eq_true rfl) (lv2 := [(9, .int (((((sa S (32 + dpar D c)) - (dst D c 7)) - (dst D c 9)) - (dst D c 11)) - (dst D c 13))), (8, .int (nI (dpar D c))), (0, .int (nI c)), (1, .ref (lwt L)), (2, .ref (lwm L)), (3, .ref (lwe L)), (4, .ref (lwg L)), (5, .ref (lwa L)), (6, .ref (lwh L)), (7, .ref (lwq L))]) rfl ?_
  refine zp_aload_n dL_enters_47 rfl (a := (lwm L)) (List.mem_of_getElem? (i := 4) rfl) ?_
  refine zp_iconst dL_enters_48 (v := 4) (by decide) ?_
  refine zp_iload_n dL_enters_49 rfl (x := (nI c)) (List.mem_of_getElem? (i := 2) rfl) ?_
  refine zp_imul dL_enters_50 ?_
  rw [show ((4 * (nI c)) : Int32) = (nI (4 * c)) from pk_mul 4 c]
  refine zp_iald_v dL_enters_51 hB.Tm (Or.inl rfl) (j := (4 * c)) (nI_clamp (by omega)) (vp_in_nI (by omega) (by decide)) (v := (dst D c 6)) ((hB.2.2.1.1 c (by omega)).2.2.2.2.2.2.1 0 (by decide)).1 ?_
  refine zp_aload dL_enters_52 (a := (lwq L)) (List.mem_of_getElem? (i := 9) rfl) ?_
  refine zp_callS (st := []) (mc2 := 0) (ms2 := 0) dL_enters_54 (c_L_pends l G (dst D c 6) (lwq L) _ hB.Tq) cl_L_10 st_L_pends rfl rfl (by omega) (by omega) (by omega) (Nat.le_of_ble_eq_true rfl) ?_
  rintro _ u1x ⟨rfl, hs1⟩
  refine zp_gen (fun s => LB D W L (pendP (dst D c 6) S) s ∧ LF L σ s) ⟨by rw [hs1]; exact hB.pend, by rw [hs1]; exact LF.pend⟩ (fun u1 hn1 => ?_)
  obtain ⟨b1, f1⟩ := hn1
  refine zp_aload dL_enters_57 (a := (lwq L)) (List.mem_of_getElem? (i := 9) rfl) ?_
  refine zp_iconst dL_enters_59 (v := 5) (by decide) ?_
  refine zp_dup2 dL_enters_60 rfl rfl ?_
  obtain ⟨mk, m1, m2, m3⟩ := b1.bits
  refine zp_iald_v dL_enters_61 b1.Tq (Or.inl rfl) (j := 5) (by decide) (zin (by decide)) (v := (nI mk)) m2 ?_
  refine zp_iconst dL_enters_62 (v := 1) (by decide) ?_
  refine zp_iload_n dL_enters_63 rfl (x := (nI c)) (List.mem_of_getElem? (i := 2) rfl) ?_
  refine zp_ishl dL_enters_64 ?_
  refine zp_ior dL_enters_65 ?_
  refine zp_iastore dL_enters_66 b1.Tq (j := 5) (by decide) (zin (by decide)) ?_
  refine zp_gen (fun s => LB D W L (setW (setB (sw S) c true) (pendP (dst D c 6) S)) s ∧ LF L σ s) ⟨b1.q5 (bit_or m1 (by omega) m3), f1.wq (by decide)⟩ (fun u2 hn2 => ?_)
  obtain ⟨b2, f2⟩ := hn2
  refine zp_aload_n dL_enters_67 rfl (a := (lwe L)) (List.mem_of_getElem? (i := 5) rfl) ?_
  refine zp_iconst dL_enters_68 (v := 4) (by decide) ?_
  refine zp_iload_n dL_enters_69 rfl (x := (nI c)) (List.mem_of_getElem? (i := 2) rfl) ?_
  refine zp_imul dL_enters_70 ?_
  rw [show ((4 * (nI c)) : Int32) = (nI (4 * c)) from pk_mul 4 c]
  refine zp_iald_v dL_enters_71 b2.Te (Or.inl rfl) (j := (4 * c)) (nI_clamp (by omega)) (vp_in_nI (by omega) (by decide)) (v := (dst D c 10)) ((b2.2.2.1.1 c (by omega)).2.2.2.2.2.2.1 0 (by decide)).2 ?_
  refine zp_if_le dL_enters_72 (tgt := 94) rfl (fun h72 => ?_) (fun h72 => ?_)
  · skip
    refine zp_gen (fun s => LB D W L (ent2P D c (ent1P D c S)) s ∧ LF L σ s) ⟨by rw [show (ent2P D c (ent1P D c S)) = ent1P D c S from if_neg (fun q => absurd q (i_nlt h72))]; exact b2, f2⟩ (fun u3 hn3 => ?_)
    obtain ⟨b3, f3⟩ := hn3
    refine zp_aload dL_enters_94 (a := (lwh L)) (List.mem_of_getElem? (i := 8) rfl) ?_
    refine zp_iload_n dL_enters_96 rfl (x := (nI c)) (List.mem_of_getElem? (i := 2) rfl) ?_
    refine zp_iload_n dL_enters_97 rfl (x := (nI c)) (List.mem_of_getElem? (i := 2) rfl) ?_
    refine zp_aload dL_enters_98 (a := (lwg L)) (List.mem_of_getElem? (i := 6) rfl) ?_
    refine zp_aload_n dL_enters_100 rfl (a := (lwt L)) (List.mem_of_getElem? (i := 3) rfl) ?_
    refine zp_aload dL_enters_101 (a := (lwh L)) (List.mem_of_getElem? (i := 8) rfl) ?_
    refine zp_callS (st := [.int (nI c), .ref (lwh L)]) (mc2 := 0) (ms2 := 0) dL_enters_103 (c_L_known l G D W L (ent2P D c (ent1P D c S)) c _ hD b3 hc hp (by unfold Hd; rw [ent2_sh]; exact hh)) cl_L_20 st_L_known rfl rfl (by omega) (by omega) (by omega) (Nat.le_of_ble_eq_true rfl) ?_
    rintro _ s1 ⟨rfl, hs1⟩; obtain rfl := hs1.symm
    refine zp_iastore dL_enters_106 b3.Th (j := (c)) (nI_clamp (by omega)) (vp_in_nI (by omega) (by decide)) ?_
    refine zp_gen (fun s => LB D W L (setH (c) (hIn (dst D c 5) (sh (ent2P D c (ent1P D c S)) (dpar D c))) (ent2P D c (ent1P D c S))) s ∧ LF L σ s) ⟨b3.h (by omega), f3.wh hB.2.1⟩ (fun u4 hn4 => ?_)
    obtain ⟨b4, f4⟩ := hn4
    refine zp_aload dL_enters_107 (a := (lwa L)) (List.mem_of_getElem? (i := 7) rfl) ?_
    refine zp_iload_n dL_enters_109 rfl (x := (nI c)) (List.mem_of_getElem? (i := 2) rfl) ?_
    refine zp_iload dL_enters_110 (x := (nI (dpar D c))) (List.mem_of_getElem? (i := 1) rfl) ?_
    refine zp_aload dL_enters_112 (a := (lwa L)) (List.mem_of_getElem? (i := 7) rfl) ?_
    refine zp_aload_n dL_enters_114 rfl (a := (lwe L)) (List.mem_of_getElem? (i := 5) rfl) ?_
    refine zp_callS (st := [.int (nI c), .ref (lwa L)]) (mc2 := 0) (ms2 := 0) dL_enters_115 (c_L_inside l G D W L (setH (c) (hIn (dst D c 5) (sh (ent2P D c (ent1P D c S)) (dpar D c))) (ent2P D c (ent1P D c S))) (dpar D c) _ hn b4 (by omega)) cl_L_24 st_L_inside rfl rfl (by omega) (by omega) (by omega) (Nat.le_of_ble_eq_true rfl) ?_
    rintro _ s1 ⟨rfl, hs1⟩; obtain rfl := hs1.symm
    refine zp_aload_n dL_enters_118 rfl (a := (lwm L)) (List.mem_of_getElem? (i := 4) rfl) ?_
    refine zp_iconst dL_enters_119 (v := 4) (by decide) ?_
    refine zp_iload_n dL_enters_120 rfl (x := (nI c)) (List.mem_of_getElem? (i := 2) rfl) ?_
    refine zp_imul dL_enters_121 ?_
    rw [show ((4 * (nI c)) : Int32) = (nI (4 * c)) from pk_mul 4 c]
    refine zp_iconst dL_enters_122 (v := 3) (by decide) ?_
    refine zp_iadd dL_enters_123 ?_
    rw [show (((nI (4 * c)) + 3) : Int32) = (nI (4 * c + 3)) from nI_add (4 * c) 3]
    refine zp_iald_v dL_enters_124 b4.Tm (Or.inl rfl) (j := (4 * c + 3)) (nI_clamp (by omega)) (vp_in_nI (by omega) (by decide)) (v := (dst D c 9)) ((b4.2.2.1.1 c (by omega)).2.2.2.2.2.2.1 3 (by decide)).1 ?_
    refine zp_iadd dL_enters_125 ?_
    refine zp_iastore dL_enters_126 b4.Ta (j := (c)) (nI_clamp (by omega)) (vp_in_nI (by omega) (by decide)) ?_
    refine zp_gen (fun s => LB D W L (setA (c) ((inP D (dpar D c) (sa (setH (c) (hIn (dst D c 5) (sh (ent2P D c (ent1P D c S)) (dpar D c))) (ent2P D c (ent1P D c S))))) + (dst D c 9)) (setH (c) (hIn (dst D c 5) (sh (ent2P D c (ent1P D c S)) (dpar D c))) (ent2P D c (ent1P D c S)))) s ∧ LF L σ s) ⟨b4.a (by omega), f4.wa hB.2.1⟩ (fun u5 hn5 => ?_)
    obtain ⟨b5, f5⟩ := hn5
    refine zp_aload dL_enters_127 (a := (lwa L)) (List.mem_of_getElem? (i := 7) rfl) ?_
    refine zp_bipush dL_enters_129 (v := 32) (by decide) ?_
    refine zp_iload_n dL_enters_131 rfl (x := (nI c)) (List.mem_of_getElem? (i := 2) rfl) ?_
    refine zp_iadd dL_enters_132 ?_
    rw [show ((32 + (nI c)) : Int32) = (nI (32 + c)) from nI_add 32 c]
    refine zp_aload dL_enters_133 (a := (lwg L)) (List.mem_of_getElem? (i := 6) rfl) ?_
    refine zp_iload_n dL_enters_135 rfl (x := (nI c)) (List.mem_of_getElem? (i := 2) rfl) ?_
    refine zp_iald_v dL_enters_136 b5.Tg (Or.inl rfl) (j := (c)) (nI_clamp (by omega)) (vp_in_nI (by omega) (by decide)) (v := (dst D c 4)) (b5.2.2.1.1 c (by omega)).2.2.2.2.1 ?_
    refine zp_sipush dL_enters_137 (v := 1000) (by decide) ?_
    refine zp_icmp_lt dL_enters_140 (tgt := 166) rfl (fun h140 => ?_) (fun h140 => ?_)
    · skip
      refine zp_aload dL_enters_166 (a := (lwg L)) (List.mem_of_getElem? (i := 6) rfl) ?_
      refine zp_iload_n dL_enters_168 rfl (x := (nI c)) (List.mem_of_getElem? (i := 2) rfl) ?_
      refine zp_iald_v dL_enters_169 b5.Tg (Or.inl rfl) (j := (c)) (nI_clamp (by omega)) (vp_in_nI (by omega) (by decide)) (v := (dst D c 4)) (b5.2.2.1.1 c (by omega)).2.2.2.2.1 ?_
      refine zp_if_lt dL_enters_170 (tgt := 180) rfl (fun h170 => ?_) (fun h170 => ?_)
      · skip
        refine zp_iload dL_enters_180 (x := (((((sa S (32 + dpar D c)) - (dst D c 7)) - (dst D c 9)) - (dst D c 11)) - (dst D c 13))) (List.mem_of_getElem? (i := 0) rfl) ?_
        refine zp_if_le dL_enters_182 (tgt := 190) rfl (fun h182 => ?_) (fun h182 => ?_)
        · skip
          refine zp_iconst dL_enters_190 (v := 0) (by decide) ?_
          refine zp_iastore dL_enters_191 b5.Ta (j := (32 + c)) (nI_clamp (by omega)) (vp_in_nI (by omega) (by decide)) ?_
          refine zp_gen (fun s => LB D W L (setA (32 + c) 0 (setA (c) ((inP D (dpar D c) (sa (setH (c) (hIn (dst D c 5) (sh (ent2P D c (ent1P D c S)) (dpar D c))) (ent2P D c (ent1P D c S))))) + (dst D c 9)) (setH (c) (hIn (dst D c 5) (sh (ent2P D c (ent1P D c S)) (dpar D c))) (ent2P D c (ent1P D c S))))) s ∧ LF L σ s) ⟨b5.a (by omega), f5.wa hB.2.1⟩ (fun u6 hn6 => ?_)
          obtain ⟨b6, f6⟩ := hn6
          refine zp_vret rfl dL_enters_192 ?_
          refine ⟨rfl, enter_fin b6 (by rw [ent2_sh]) (by rw [in_ent2 hp]) ?_, f6⟩
          rw [show sa S (32 + dpar D c) - rimP D c = (((sa S (32 + dpar D c) - dst D c 7) - dst D c 9) - dst D c 11) - dst D c 13 from rim_sub.symm]
          first
            | exact wIn_1 (Int32.not_lt.mp h140) hw.1 (by omega) (st_hi hD c).1
            | exact wIn_2 (Int32.not_lt.mp h170) h140
            | exact wIn_3 h170 h182
            | exact wIn_4 h170 h182
        · skip
          refine zp_iload dL_enters_185 (x := (((((sa S (32 + dpar D c)) - (dst D c 7)) - (dst D c 9)) - (dst D c 11)) - (dst D c 13))) (List.mem_of_getElem? (i := 0) rfl) ?_
          refine zp_goto dL_enters_187 (tgt := 191) rfl ?_
          refine zp_iastore dL_enters_191 b5.Ta (j := (32 + c)) (nI_clamp (by omega)) (vp_in_nI (by omega) (by decide)) ?_
          refine zp_gen (fun s => LB D W L (setA (32 + c) (((((sa S (32 + dpar D c)) - (dst D c 7)) - (dst D c 9)) - (dst D c 11)) - (dst D c 13)) (setA (c) ((inP D (dpar D c) (sa (setH (c) (hIn (dst D c 5) (sh (ent2P D c (ent1P D c S)) (dpar D c))) (ent2P D c (ent1P D c S))))) + (dst D c 9)) (setH (c) (hIn (dst D c 5) (sh (ent2P D c (ent1P D c S)) (dpar D c))) (ent2P D c (ent1P D c S))))) s ∧ LF L σ s) ⟨b5.a (by omega), f5.wa hB.2.1⟩ (fun u7 hn7 => ?_)
          obtain ⟨b7, f7⟩ := hn7
          refine zp_vret rfl dL_enters_192 ?_
          refine ⟨rfl, enter_fin b7 (by rw [ent2_sh]) (by rw [in_ent2 hp]) ?_, f7⟩
          rw [show sa S (32 + dpar D c) - rimP D c = (((sa S (32 + dpar D c) - dst D c 7) - dst D c 9) - dst D c 11) - dst D c 13 from rim_sub.symm]
          first
            | exact wIn_1 (Int32.not_lt.mp h140) hw.1 (by omega) (st_hi hD c).1
            | exact wIn_2 (Int32.not_lt.mp h170) h140
            | exact wIn_3 h170 h182
            | exact wIn_4 h170 h182
      · skip
        refine zp_aload dL_enters_173 (a := (lwg L)) (List.mem_of_getElem? (i := 6) rfl) ?_
        refine zp_iload_n dL_enters_175 rfl (x := (nI c)) (List.mem_of_getElem? (i := 2) rfl) ?_
        refine zp_iald_v dL_enters_176 b5.Tg (Or.inl rfl) (j := (c)) (nI_clamp (by omega)) (vp_in_nI (by omega) (by decide)) (v := (dst D c 4)) (b5.2.2.1.1 c (by omega)).2.2.2.2.1 ?_
        refine zp_goto dL_enters_177 (tgt := 191) rfl ?_
        refine zp_iastore dL_enters_191 b5.Ta (j := (32 + c)) (nI_clamp (by omega)) (vp_in_nI (by omega) (by decide)) ?_
        refine zp_gen (fun s => LB D W L (setA (32 + c) (dst D c 4) (setA (c) ((inP D (dpar D c) (sa (setH (c) (hIn (dst D c 5) (sh (ent2P D c (ent1P D c S)) (dpar D c))) (ent2P D c (ent1P D c S))))) + (dst D c 9)) (setH (c) (hIn (dst D c 5) (sh (ent2P D c (ent1P D c S)) (dpar D c))) (ent2P D c (ent1P D c S))))) s ∧ LF L σ s) ⟨b5.a (by omega), f5.wa hB.2.1⟩ (fun u8 hn8 => ?_)
        obtain ⟨b8, f8⟩ := hn8
        refine zp_vret rfl dL_enters_192 ?_
        refine ⟨rfl, enter_fin b8 (by rw [ent2_sh]) (by rw [in_ent2 hp]) ?_, f8⟩
        rw [show sa S (32 + dpar D c) - rimP D c = (((sa S (32 + dpar D c) - dst D c 7) - dst D c 9) - dst D c 11) - dst D c 13 from rim_sub.symm]
        first
          | exact wIn_1 (Int32.not_lt.mp h140) hw.1 (by omega) (st_hi hD c).1
          | exact wIn_2 (Int32.not_lt.mp h170) h140
          | exact wIn_3 h170 h182
          | exact wIn_4 h170 h182
    · skip
      refine zp_aload dL_enters_143 (a := (lwa L)) (List.mem_of_getElem? (i := 7) rfl) ?_
      refine zp_bipush dL_enters_145 (v := 32) (by decide) ?_
      refine zp_iload dL_enters_147 (x := (nI (dpar D c))) (List.mem_of_getElem? (i := 1) rfl) ?_
      refine zp_iadd dL_enters_149 ?_
      rw [show ((32 + (nI (dpar D c))) : Int32) = (nI (32 + dpar D c)) from nI_add 32 (dpar D c)]
      refine zp_iald_v dL_enters_150 b5.Ta (Or.inl rfl) (j := (32 + dpar D c)) (nI_clamp (by omega)) (vp_in_nI (by omega) (by decide)) (v := (sa S (32 + dpar D c))) ((b5.ra (by omega)).trans (Eq.trans (b := sa (ent2P D c (ent1P D c S)) (32 + dpar D c)) (if_neg (by omega)) (ent2_sa (by omega)))) ?_
      refine zp_aload dL_enters_151 (a := (lwg L)) (List.mem_of_getElem? (i := 6) rfl) ?_
      refine zp_iload_n dL_enters_153 rfl (x := (nI c)) (List.mem_of_getElem? (i := 2) rfl) ?_
      refine zp_iald_v dL_enters_154 b5.Tg (Or.inl rfl) (j := (c)) (nI_clamp (by omega)) (vp_in_nI (by omega) (by decide)) (v := (dst D c 4)) (b5.2.2.1.1 c (by omega)).2.2.2.2.1 ?_
      refine zp_sipush dL_enters_155 (v := 1000) (by decide) ?_
      refine zp_isub dL_enters_158 ?_
      refine zp_imul dL_enters_159 ?_
      refine zp_bipush dL_enters_160 (v := 100) (by decide) ?_
      refine zp_idiv dL_enters_162 (by decide) ?_
      refine zp_goto dL_enters_163 (tgt := 191) rfl ?_
      refine zp_iastore dL_enters_191 b5.Ta (j := (32 + c)) (nI_clamp (by omega)) (vp_in_nI (by omega) (by decide)) ?_
      refine zp_gen (fun s => LB D W L (setA (32 + c) (((sa S (32 + dpar D c)) * ((dst D c 4) - 1000)) / 100) (setA (c) ((inP D (dpar D c) (sa (setH (c) (hIn (dst D c 5) (sh (ent2P D c (ent1P D c S)) (dpar D c))) (ent2P D c (ent1P D c S))))) + (dst D c 9)) (setH (c) (hIn (dst D c 5) (sh (ent2P D c (ent1P D c S)) (dpar D c))) (ent2P D c (ent1P D c S))))) s ∧ LF L σ s) ⟨b5.a (by omega), f5.wa hB.2.1⟩ (fun u9 hn9 => ?_)
      obtain ⟨b9, f9⟩ := hn9
      refine zp_vret rfl dL_enters_192 ?_
      refine ⟨rfl, enter_fin b9 (by rw [ent2_sh]) (by rw [in_ent2 hp]) ?_, f9⟩
      rw [show sa S (32 + dpar D c) - rimP D c = (((sa S (32 + dpar D c) - dst D c 7) - dst D c 9) - dst D c 11) - dst D c 13 from rim_sub.symm]
      first
        | exact wIn_1 (Int32.not_lt.mp h140) hw.1 (by omega) (st_hi hD c).1
        | exact wIn_2 (Int32.not_lt.mp h170) h140
        | exact wIn_3 h170 h182
        | exact wIn_4 h170 h182
  · skip
    refine zp_aload dL_enters_75 (a := (lwq L)) (List.mem_of_getElem? (i := 9) rfl) ?_
    refine zp_aload dL_enters_77 (a := (lwa L)) (List.mem_of_getElem? (i := 7) rfl) ?_
    refine zp_callS (st := []) (mc2 := 0) (ms2 := 0) dL_enters_79 (c_L_ends l G D W L (setW (setB (sw S) c true) (pendP (dst D c 6) S)) _ b2) cl_L_16 st_L_ends rfl rfl (by omega) (by omega) (by omega) (Nat.le_of_ble_eq_true rfl) ?_
    rintro _ u10 ⟨rfl, b10, g10⟩
    have f10 : LF L σ u10 := f2.trans g10
    refine zp_aload dL_enters_82 (a := (lwq L)) (List.mem_of_getElem? (i := 9) rfl) ?_
    refine zp_iconst dL_enters_84 (v := 0) (by decide) ?_
    refine zp_dup2 dL_enters_85 rfl rfl ?_
    refine zp_iald_v dL_enters_86 b10.Tq (Or.inl rfl) (j := 0) (by decide) (zin (by decide)) (v := (sy (endP (setW (setB (sw S) c true) (pendP (dst D c 6) S))))) b10.r0 ?_
    refine zp_aload_n dL_enters_87 rfl (a := (lwe L)) (List.mem_of_getElem? (i := 5) rfl) ?_
    refine zp_iconst dL_enters_88 (v := 4) (by decide) ?_
    refine zp_iload_n dL_enters_89 rfl (x := (nI c)) (List.mem_of_getElem? (i := 2) rfl) ?_
    refine zp_imul dL_enters_90 ?_
    rw [show ((4 * (nI c)) : Int32) = (nI (4 * c)) from pk_mul 4 c]
    refine zp_iald_v dL_enters_91 b10.Te (Or.inl rfl) (j := (4 * c)) (nI_clamp (by omega)) (vp_in_nI (by omega) (by decide)) (v := (dst D c 10)) ((b10.2.2.1.1 c (by omega)).2.2.2.2.2.2.1 0 (by decide)).2 ?_
    refine zp_iadd dL_enters_92 ?_
    refine zp_iastore dL_enters_93 b10.Tq (j := 0) (by decide) (zin (by decide)) ?_
    refine zp_gen (fun s => LB D W L (setY ((sy (endP (setW (setB (sw S) c true) (pendP (dst D c 6) S)))) + (dst D c 10)) (endP (setW (setB (sw S) c true) (pendP (dst D c 6) S)))) s ∧ LF L σ s) ⟨b10.q0, f10.wq (by decide)⟩ (fun u11 hn11 => ?_)
    obtain ⟨b11, f11⟩ := hn11
    refine zp_gen (fun s => LB D W L (ent2P D c (ent1P D c S)) s ∧ LF L σ s) ⟨by rw [show (ent2P D c (ent1P D c S)) = addY (dst D c 10) (endP (ent1P D c S)) from if_pos (Int32.not_le.mp h72)]; exact b11, f11⟩ (fun u12 hn12 => ?_)
    obtain ⟨b12, f12⟩ := hn12
    refine zp_aload dL_enters_94 (a := (lwh L)) (List.mem_of_getElem? (i := 8) rfl) ?_
    refine zp_iload_n dL_enters_96 rfl (x := (nI c)) (List.mem_of_getElem? (i := 2) rfl) ?_
    refine zp_iload_n dL_enters_97 rfl (x := (nI c)) (List.mem_of_getElem? (i := 2) rfl) ?_
    refine zp_aload dL_enters_98 (a := (lwg L)) (List.mem_of_getElem? (i := 6) rfl) ?_
    refine zp_aload_n dL_enters_100 rfl (a := (lwt L)) (List.mem_of_getElem? (i := 3) rfl) ?_
    refine zp_aload dL_enters_101 (a := (lwh L)) (List.mem_of_getElem? (i := 8) rfl) ?_
    refine zp_callS (st := [.int (nI c), .ref (lwh L)]) (mc2 := 0) (ms2 := 0) dL_enters_103 (c_L_known l G D W L (ent2P D c (ent1P D c S)) c _ hD b12 hc hp (by unfold Hd; rw [ent2_sh]; exact hh)) cl_L_20 st_L_known rfl rfl (by omega) (by omega) (by omega) (Nat.le_of_ble_eq_true rfl) ?_
    rintro _ s1 ⟨rfl, hs1⟩; obtain rfl := hs1.symm
    refine zp_iastore dL_enters_106 b12.Th (j := (c)) (nI_clamp (by omega)) (vp_in_nI (by omega) (by decide)) ?_
    refine zp_gen (fun s => LB D W L (setH (c) (hIn (dst D c 5) (sh (ent2P D c (ent1P D c S)) (dpar D c))) (ent2P D c (ent1P D c S))) s ∧ LF L σ s) ⟨b12.h (by omega), f12.wh hB.2.1⟩ (fun u13 hn13 => ?_)
    obtain ⟨b13, f13⟩ := hn13
    refine zp_aload dL_enters_107 (a := (lwa L)) (List.mem_of_getElem? (i := 7) rfl) ?_
    refine zp_iload_n dL_enters_109 rfl (x := (nI c)) (List.mem_of_getElem? (i := 2) rfl) ?_
    refine zp_iload dL_enters_110 (x := (nI (dpar D c))) (List.mem_of_getElem? (i := 1) rfl) ?_
    refine zp_aload dL_enters_112 (a := (lwa L)) (List.mem_of_getElem? (i := 7) rfl) ?_
    refine zp_aload_n dL_enters_114 rfl (a := (lwe L)) (List.mem_of_getElem? (i := 5) rfl) ?_
    refine zp_callS (st := [.int (nI c), .ref (lwa L)]) (mc2 := 0) (ms2 := 0) dL_enters_115 (c_L_inside l G D W L (setH (c) (hIn (dst D c 5) (sh (ent2P D c (ent1P D c S)) (dpar D c))) (ent2P D c (ent1P D c S))) (dpar D c) _ hn b13 (by omega)) cl_L_24 st_L_inside rfl rfl (by omega) (by omega) (by omega) (Nat.le_of_ble_eq_true rfl) ?_
    rintro _ s1 ⟨rfl, hs1⟩; obtain rfl := hs1.symm
    refine zp_aload_n dL_enters_118 rfl (a := (lwm L)) (List.mem_of_getElem? (i := 4) rfl) ?_
    refine zp_iconst dL_enters_119 (v := 4) (by decide) ?_
    refine zp_iload_n dL_enters_120 rfl (x := (nI c)) (List.mem_of_getElem? (i := 2) rfl) ?_
    refine zp_imul dL_enters_121 ?_
    rw [show ((4 * (nI c)) : Int32) = (nI (4 * c)) from pk_mul 4 c]
    refine zp_iconst dL_enters_122 (v := 3) (by decide) ?_
    refine zp_iadd dL_enters_123 ?_
    rw [show (((nI (4 * c)) + 3) : Int32) = (nI (4 * c + 3)) from nI_add (4 * c) 3]
    refine zp_iald_v dL_enters_124 b13.Tm (Or.inl rfl) (j := (4 * c + 3)) (nI_clamp (by omega)) (vp_in_nI (by omega) (by decide)) (v := (dst D c 9)) ((b13.2.2.1.1 c (by omega)).2.2.2.2.2.2.1 3 (by decide)).1 ?_
    refine zp_iadd dL_enters_125 ?_
    refine zp_iastore dL_enters_126 b13.Ta (j := (c)) (nI_clamp (by omega)) (vp_in_nI (by omega) (by decide)) ?_
    refine zp_gen (fun s => LB D W L (setA (c) ((inP D (dpar D c) (sa (setH (c) (hIn (dst D c 5) (sh (ent2P D c (ent1P D c S)) (dpar D c))) (ent2P D c (ent1P D c S))))) + (dst D c 9)) (setH (c) (hIn (dst D c 5) (sh (ent2P D c (ent1P D c S)) (dpar D c))) (ent2P D c (ent1P D c S)))) s ∧ LF L σ s) ⟨b13.a (by omega), f13.wa hB.2.1⟩ (fun u14 hn14 => ?_)
    obtain ⟨b14, f14⟩ := hn14
    refine zp_aload dL_enters_127 (a := (lwa L)) (List.mem_of_getElem? (i := 7) rfl) ?_
    refine zp_bipush dL_enters_129 (v := 32) (by decide) ?_
    refine zp_iload_n dL_enters_131 rfl (x := (nI c)) (List.mem_of_getElem? (i := 2) rfl) ?_
    refine zp_iadd dL_enters_132 ?_
    rw [show ((32 + (nI c)) : Int32) = (nI (32 + c)) from nI_add 32 c]
    refine zp_aload dL_enters_133 (a := (lwg L)) (List.mem_of_getElem? (i := 6) rfl) ?_
    refine zp_iload_n dL_enters_135 rfl (x := (nI c)) (List.mem_of_getElem? (i := 2) rfl) ?_
    refine zp_iald_v dL_enters_136 b14.Tg (Or.inl rfl) (j := (c)) (nI_clamp (by omega)) (vp_in_nI (by omega) (by decide)) (v := (dst D c 4)) (b14.2.2.1.1 c (by omega)).2.2.2.2.1 ?_
    refine zp_sipush dL_enters_137 (v := 1000) (by decide) ?_
    refine zp_icmp_lt dL_enters_140 (tgt := 166) rfl (fun h140 => ?_) (fun h140 => ?_)
    · skip
      refine zp_aload dL_enters_166 (a := (lwg L)) (List.mem_of_getElem? (i := 6) rfl) ?_
      refine zp_iload_n dL_enters_168 rfl (x := (nI c)) (List.mem_of_getElem? (i := 2) rfl) ?_
      refine zp_iald_v dL_enters_169 b14.Tg (Or.inl rfl) (j := (c)) (nI_clamp (by omega)) (vp_in_nI (by omega) (by decide)) (v := (dst D c 4)) (b14.2.2.1.1 c (by omega)).2.2.2.2.1 ?_
      refine zp_if_lt dL_enters_170 (tgt := 180) rfl (fun h170 => ?_) (fun h170 => ?_)
      · skip
        refine zp_iload dL_enters_180 (x := (((((sa S (32 + dpar D c)) - (dst D c 7)) - (dst D c 9)) - (dst D c 11)) - (dst D c 13))) (List.mem_of_getElem? (i := 0) rfl) ?_
        refine zp_if_le dL_enters_182 (tgt := 190) rfl (fun h182 => ?_) (fun h182 => ?_)
        · skip
          refine zp_iconst dL_enters_190 (v := 0) (by decide) ?_
          refine zp_iastore dL_enters_191 b14.Ta (j := (32 + c)) (nI_clamp (by omega)) (vp_in_nI (by omega) (by decide)) ?_
          refine zp_gen (fun s => LB D W L (setA (32 + c) 0 (setA (c) ((inP D (dpar D c) (sa (setH (c) (hIn (dst D c 5) (sh (ent2P D c (ent1P D c S)) (dpar D c))) (ent2P D c (ent1P D c S))))) + (dst D c 9)) (setH (c) (hIn (dst D c 5) (sh (ent2P D c (ent1P D c S)) (dpar D c))) (ent2P D c (ent1P D c S))))) s ∧ LF L σ s) ⟨b14.a (by omega), f14.wa hB.2.1⟩ (fun u15 hn15 => ?_)
          obtain ⟨b15, f15⟩ := hn15
          refine zp_vret rfl dL_enters_192 ?_
          refine ⟨rfl, enter_fin b15 (by rw [ent2_sh]) (by rw [in_ent2 hp]) ?_, f15⟩
          rw [show sa S (32 + dpar D c) - rimP D c = (((sa S (32 + dpar D c) - dst D c 7) - dst D c 9) - dst D c 11) - dst D c 13 from rim_sub.symm]
          first
            | exact wIn_1 (Int32.not_lt.mp h140) hw.1 (by omega) (st_hi hD c).1
            | exact wIn_2 (Int32.not_lt.mp h170) h140
            | exact wIn_3 h170 h182
            | exact wIn_4 h170 h182
        · skip
          refine zp_iload dL_enters_185 (x := (((((sa S (32 + dpar D c)) - (dst D c 7)) - (dst D c 9)) - (dst D c 11)) - (dst D c 13))) (List.mem_of_getElem? (i := 0) rfl) ?_
          refine zp_goto dL_enters_187 (tgt := 191) rfl ?_
          refine zp_iastore dL_enters_191 b14.Ta (j := (32 + c)) (nI_clamp (by omega)) (vp_in_nI (by omega) (by decide)) ?_
          refine zp_gen (fun s => LB D W L (setA (32 + c) (((((sa S (32 + dpar D c)) - (dst D c 7)) - (dst D c 9)) - (dst D c 11)) - (dst D c 13)) (setA (c) ((inP D (dpar D c) (sa (setH (c) (hIn (dst D c 5) (sh (ent2P D c (ent1P D c S)) (dpar D c))) (ent2P D c (ent1P D c S))))) + (dst D c 9)) (setH (c) (hIn (dst D c 5) (sh (ent2P D c (ent1P D c S)) (dpar D c))) (ent2P D c (ent1P D c S))))) s ∧ LF L σ s) ⟨b14.a (by omega), f14.wa hB.2.1⟩ (fun u16 hn16 => ?_)
          obtain ⟨b16, f16⟩ := hn16
          refine zp_vret rfl dL_enters_192 ?_
          refine ⟨rfl, enter_fin b16 (by rw [ent2_sh]) (by rw [in_ent2 hp]) ?_, f16⟩
          rw [show sa S (32 + dpar D c) - rimP D c = (((sa S (32 + dpar D c) - dst D c 7) - dst D c 9) - dst D c 11) - dst D c 13 from rim_sub.symm]
          first
            | exact wIn_1 (Int32.not_lt.mp h140) hw.1 (by omega) (st_hi hD c).1
            | exact wIn_2 (Int32.not_lt.mp h170) h140
            | exact wIn_3 h170 h182
            | exact wIn_4 h170 h182
      · skip
        refine zp_aload dL_enters_173 (a := (lwg L)) (List.mem_of_getElem? (i := 6) rfl) ?_
        refine zp_iload_n dL_enters_175 rfl (x := (nI c)) (List.mem_of_getElem? (i := 2) rfl) ?_
        refine zp_iald_v dL_enters_176 b14.Tg (Or.inl rfl) (j := (c)) (nI_clamp (by omega)) (vp_in_nI (by omega) (by decide)) (v := (dst D c 4)) (b14.2.2.1.1 c (by omega)).2.2.2.2.1 ?_
        refine zp_goto dL_enters_177 (tgt := 191) rfl ?_
        refine zp_iastore dL_enters_191 b14.Ta (j := (32 + c)) (nI_clamp (by omega)) (vp_in_nI (by omega) (by decide)) ?_
        refine zp_gen (fun s => LB D W L (setA (32 + c) (dst D c 4) (setA (c) ((inP D (dpar D c) (sa (setH (c) (hIn (dst D c 5) (sh (ent2P D c (ent1P D c S)) (dpar D c))) (ent2P D c (ent1P D c S))))) + (dst D c 9)) (setH (c) (hIn (dst D c 5) (sh (ent2P D c (ent1P D c S)) (dpar D c))) (ent2P D c (ent1P D c S))))) s ∧ LF L σ s) ⟨b14.a (by omega), f14.wa hB.2.1⟩ (fun u17 hn17 => ?_)
        obtain ⟨b17, f17⟩ := hn17
        refine zp_vret rfl dL_enters_192 ?_
        refine ⟨rfl, enter_fin b17 (by rw [ent2_sh]) (by rw [in_ent2 hp]) ?_, f17⟩
        rw [show sa S (32 + dpar D c) - rimP D c = (((sa S (32 + dpar D c) - dst D c 7) - dst D c 9) - dst D c 11) - dst D c 13 from rim_sub.symm]
        first
          | exact wIn_1 (Int32.not_lt.mp h140) hw.1 (by omega) (st_hi hD c).1
          | exact wIn_2 (Int32.not_lt.mp h170) h140
          | exact wIn_3 h170 h182
          | exact wIn_4 h170 h182
    · skip
      refine zp_aload dL_enters_143 (a := (lwa L)) (List.mem_of_getElem? (i := 7) rfl) ?_
      refine zp_bipush dL_enters_145 (v := 32) (by decide) ?_
      refine zp_iload dL_enters_147 (x := (nI (dpar D c))) (List.mem_of_getElem? (i := 1) rfl) ?_
      refine zp_iadd dL_enters_149 ?_
      rw [show ((32 + (nI (dpar D c))) : Int32) = (nI (32 + dpar D c)) from nI_add 32 (dpar D c)]
      refine zp_iald_v dL_enters_150 b14.Ta (Or.inl rfl) (j := (32 + dpar D c)) (nI_clamp (by omega)) (vp_in_nI (by omega) (by decide)) (v := (sa S (32 + dpar D c))) ((b14.ra (by omega)).trans (Eq.trans (b := sa (ent2P D c (ent1P D c S)) (32 + dpar D c)) (if_neg (by omega)) (ent2_sa (by omega)))) ?_
      refine zp_aload dL_enters_151 (a := (lwg L)) (List.mem_of_getElem? (i := 6) rfl) ?_
      refine zp_iload_n dL_enters_153 rfl (x := (nI c)) (List.mem_of_getElem? (i := 2) rfl) ?_
      refine zp_iald_v dL_enters_154 b14.Tg (Or.inl rfl) (j := (c)) (nI_clamp (by omega)) (vp_in_nI (by omega) (by decide)) (v := (dst D c 4)) (b14.2.2.1.1 c (by omega)).2.2.2.2.1 ?_
      refine zp_sipush dL_enters_155 (v := 1000) (by decide) ?_
      refine zp_isub dL_enters_158 ?_
      refine zp_imul dL_enters_159 ?_
      refine zp_bipush dL_enters_160 (v := 100) (by decide) ?_
      refine zp_idiv dL_enters_162 (by decide) ?_
      refine zp_goto dL_enters_163 (tgt := 191) rfl ?_
      refine zp_iastore dL_enters_191 b14.Ta (j := (32 + c)) (nI_clamp (by omega)) (vp_in_nI (by omega) (by decide)) ?_
      refine zp_gen (fun s => LB D W L (setA (32 + c) (((sa S (32 + dpar D c)) * ((dst D c 4) - 1000)) / 100) (setA (c) ((inP D (dpar D c) (sa (setH (c) (hIn (dst D c 5) (sh (ent2P D c (ent1P D c S)) (dpar D c))) (ent2P D c (ent1P D c S))))) + (dst D c 9)) (setH (c) (hIn (dst D c 5) (sh (ent2P D c (ent1P D c S)) (dpar D c))) (ent2P D c (ent1P D c S))))) s ∧ LF L σ s) ⟨b14.a (by omega), f14.wa hB.2.1⟩ (fun u18 hn18 => ?_)
      obtain ⟨b18, f18⟩ := hn18
      refine zp_vret rfl dL_enters_192 ?_
      refine ⟨rfl, enter_fin b18 (by rw [ent2_sh]) (by rw [in_ent2 hp]) ?_, f18⟩
      rw [show sa S (32 + dpar D c) - rimP D c = (((sa S (32 + dpar D c) - dst D c 7) - dst D c 9) - dst D c 11) - dst D c 13 from rim_sub.symm]
      first
        | exact wIn_1 (Int32.not_lt.mp h140) hw.1 (by omega) (st_hi hD c).1
        | exact wIn_2 (Int32.not_lt.mp h170) h140
        | exact wIn_3 h170 h182
        | exact wIn_4 h170 h182
theorem LB.shut {D W} {L : Lw} {S : FS} {σ : Sto} {box : Nat} {fl x : Int32} {m : Nat} (h : LB D W L S σ) (hm : (sls S).length = m) (hm2 : m < 21) : LB D W L (setY x (addLs (box, sy S, fl) S)) (wA (wA (wA (wA (wA σ (lwn L) (3 * m) (nI box)) (lwn L) (3 * m + 1) (sy S)) (lwn L) (3 * m + 2) fl) (lwq L) 6 (nI (m + 1))) (lwq L) 0 x) := by
  obtain ⟨y, ab, be, w, a, hh, ls, vi, lv, cl⟩ := S
  have hm : ls.length = m := hm
  obtain ⟨h1, h2, h3, g1, g2, g3, ⟨mk, k1, k2, k3⟩, g5, g6, g7, g8⟩ := h
  have nq : lwn L ≠ lwq L := h2.ne 8 7 (by decide) (by decide) (by decide)
  have na : lwa L ≠ lwn L := h2.ne 5 8 (by decide) (by decide) (by decide)
  have nh : lwh L ≠ lwn L := h2.ne 6 8 (by decide) (by decide) (by decide)
  have naq : lwa L ≠ lwq L := h2.ne 5 7 (by decide) (by decide) (by decide)
  have nhq : lwh L ≠ lwq L := h2.ne 6 7 (by decide) (by decide) (by decide)
  have qn : ∀ j, j ≠ 6 → j ≠ 0 → ∀ v, zA σ (lwq L) j = v → zA (wA (wA (wA (wA (wA σ (lwn L) (3 * m) (nI box)) (lwn L) (3 * m + 1) y) (lwn L) (3 * m + 2) fl) (lwq L) 6 (nI (m + 1))) (lwq L) 0 x) (lwq L) j = v := fun j j6 j0 v hv => by
    rw [rAn j0, rAn j6, rAb (fun q => nq q.symm), rAb (fun q => nq q.symm), rAb (fun q => nq q.symm)]; exact hv
  refine ⟨h1, h2, ((((h3.w h2 8 (by decide) rfl (fun q => absurd q (by decide))).w h2 8 (by decide) rfl (fun q => absurd q (by decide))).w h2 8 (by decide) rfl (fun q => absurd q (by decide))).w h2 7 (by decide) rfl (fun _ => by decide)).w h2 7 (by decide) rfl (fun _ => by decide), rAe, qn 1 (by decide) (by decide) _ g2, qn 2 (by decide) (by decide) _ g3, ⟨mk, k1, qn 5 (by decide) (by decide) _ k2, k3⟩, ?_, fun i hi => ?_, fun i hi => ?_, fun i e he => ?_⟩
  · show _ = nI (ls ++ [(box, y, fl)]).length
    rw [rAn (by decide), List.length_append, hm]
    exact rAe
  · rw [rAb naq, rAb naq, rAb na, rAb na, rAb na]; exact g6 i hi
  · rw [rAb nhq, rAb nhq, rAb nh, rAb nh, rAb nh]; exact g7 i hi
  · have he : (ls ++ [(box, y, fl)])[i]? = some e := he
    rw [rAb nq, rAb nq, rAb nq, rAb nq, rAb nq, rAb nq]
    by_cases z : i = m
    · have hh : (ls ++ [(box, y, fl)])[i]? = some (box, y, fl) := by rw [z, ← hm, List.getElem?_append_right (Nat.le_refl _), Nat.sub_self]; rfl
      rw [hh] at he
      obtain rfl := Option.some.inj he
      rw [z]
      refine ⟨?_, ?_, rAe⟩
      · rw [rAn (by omega), rAn (by omega)]; exact rAe
      · rw [rAn (by omega)]; exact rAe
    · have hl : i < ls.length := by
        rcases Nat.lt_or_ge i ls.length with q | q
        · exact q
        · have hi2 := (List.getElem?_eq_some_iff.mp he).1
          rw [List.length_append, List.length_singleton] at hi2
          omega
      rw [List.getElem?_append_left hl] at he
      obtain ⟨e1, e2, e3⟩ := g8 i e he
      rw [rAn (by omega), rAn (by omega), rAn (by omega), rAn (by omega), rAn (by omega), rAn (by omega), rAn (by omega), rAn (by omega), rAn (by omega)]
      exact ⟨e1, e2, e3⟩
set_option maxRecDepth 100000 in
set_option maxHeartbeats 4000000 in
theorem c_L_shuts (l : Launch) (G : Gb) (D : Dt) (W : Int32) (L : Lw) (S : FS) (box m : Nat) (fl up dw : Int32) (σ : Sto) (hB : LB D W L S σ) (hm : (sls S).length = m) (hm2 : m < 21) (hs : 0 ≤ (up + dw).toInt) : Ct l G 1 0 0 yL_shuts mL_shuts [.int (nI box), .int fl, .int up, .int dw, .ref (lwq L), .ref (lwn L)] σ (fun v s => v = none ∧ LB D W L (shutP box (S, fl, up, dw)) s ∧ LF L σ s) := by
  refine Ct.of (by decide) rfl (Nat.le_of_ble_eq_true rfl) (fun h => absurd h (by decide)) ?_
  have nq : lwq L ≠ lwn L := hB.2.1.ne 7 8 (by decide) (by decide) (by decide)
  have q6 : zA σ (lwq L) 6 = nI m := by rw [← hm]; exact hB.2.2.2.2.2.2.2.1
  show Wp l G 1 0 0 (RL, cL_shuts, 6, none, false) 0 [(0, .int (nI box)), (1, .int fl), (2, .int up), (3, .int dw), (4, .ref (lwq L)), (5, .ref (lwn L))] [] σ _
  refine zp_aload dL_shuts_0 (a := (lwn L)) (List.mem_of_getElem? (i := 5) rfl) ?_
  refine zp_iconst dL_shuts_2 (v := 3) (by decide) ?_
  refine zp_aload dL_shuts_3 (a := (lwq L)) (List.mem_of_getElem? (i := 4) rfl) ?_
  refine zp_bipush dL_shuts_5 (v := 6) (by decide) ?_
  refine zp_iald_v dL_shuts_7 hB.Tq (Or.inl rfl) (j := 6) (by decide) (zin (by decide)) (v := (nI m)) q6 ?_
  refine zp_imul dL_shuts_8 ?_
  rw [show ((3 * (nI m)) : Int32) = (nI (3 * m)) from pk_mul 3 m]
  refine zp_iload_n dL_shuts_9 rfl (x := (nI box)) (List.mem_of_getElem? (i := 0) rfl) ?_
  refine zp_iastore dL_shuts_10 hB.Tn (j := (3 * m)) (nI_clamp (by omega)) (vp_in_nI (by omega) (by decide)) ?_
  refine zp_aload dL_shuts_11 (a := (lwn L)) (List.mem_of_getElem? (i := 5) rfl) ?_
  refine zp_iconst dL_shuts_13 (v := 3) (by decide) ?_
  refine zp_aload dL_shuts_14 (a := (lwq L)) (List.mem_of_getElem? (i := 4) rfl) ?_
  refine zp_bipush dL_shuts_16 (v := 6) (by decide) ?_
  refine zp_iald_v dL_shuts_18 (tA hB.Tq) (Or.inl rfl) (j := 6) (by decide) (zin (by decide)) (v := (nI m)) ((rAb nq).trans q6) ?_
  refine zp_imul dL_shuts_19 ?_
  rw [show ((3 * (nI m)) : Int32) = (nI (3 * m)) from pk_mul 3 m]
  refine zp_iconst dL_shuts_20 (v := 1) (by decide) ?_
  refine zp_iadd dL_shuts_21 ?_
  rw [show (((nI (3 * m)) + 1) : Int32) = (nI (3 * m + 1)) from nI_add (3 * m) 1]
  refine zp_aload dL_shuts_22 (a := (lwq L)) (List.mem_of_getElem? (i := 4) rfl) ?_
  refine zp_iconst dL_shuts_24 (v := 0) (by decide) ?_
  refine zp_iald_v dL_shuts_25 (tA hB.Tq) (Or.inl rfl) (j := 0) (by decide) (zin (by decide)) (v := (sy S)) ((rAb nq).trans hB.r0) ?_
  refine zp_iastore dL_shuts_26 (tA hB.Tn) (j := (3 * m + 1)) (nI_clamp (by omega)) (vp_in_nI (by omega) (by decide)) ?_
  refine zp_aload dL_shuts_27 (a := (lwn L)) (List.mem_of_getElem? (i := 5) rfl) ?_
  refine zp_iconst dL_shuts_29 (v := 3) (by decide) ?_
  refine zp_aload dL_shuts_30 (a := (lwq L)) (List.mem_of_getElem? (i := 4) rfl) ?_
  refine zp_bipush dL_shuts_32 (v := 6) (by decide) ?_
  refine zp_iald_v dL_shuts_34 (tA (tA hB.Tq)) (Or.inl rfl) (j := 6) (by decide) (zin (by decide)) (v := (nI m)) ((rAb nq).trans ((rAb nq).trans q6)) ?_
  refine zp_imul dL_shuts_35 ?_
  rw [show ((3 * (nI m)) : Int32) = (nI (3 * m)) from pk_mul 3 m]
  refine zp_iconst dL_shuts_36 (v := 2) (by decide) ?_
  refine zp_iadd dL_shuts_37 ?_
  rw [show (((nI (3 * m)) + 2) : Int32) = (nI (3 * m + 2)) from nI_add (3 * m) 2]
  refine zp_iload_n dL_shuts_38 rfl (x := fl) (List.mem_of_getElem? (i := 1) rfl) ?_
  refine zp_iastore dL_shuts_39 (tA (tA hB.Tn)) (j := (3 * m + 2)) (nI_clamp (by omega)) (vp_in_nI (by omega) (by decide)) ?_
  refine zp_aload dL_shuts_40 (a := (lwq L)) (List.mem_of_getElem? (i := 4) rfl) ?_
  refine zp_bipush dL_shuts_42 (v := 6) (by decide) ?_
  refine zp_dup2 dL_shuts_44 rfl rfl ?_
  refine zp_iald_v dL_shuts_45 (tA (tA (tA hB.Tq))) (Or.inl rfl) (j := 6) (by decide) (zin (by decide)) (v := (nI m)) ((rAb nq).trans ((rAb nq).trans ((rAb nq).trans q6))) ?_
  refine zp_iconst dL_shuts_46 (v := 1) (by decide) ?_
  refine zp_iadd dL_shuts_47 ?_
  rw [show (((nI m) + 1) : Int32) = (nI (m + 1)) from nI_add m 1]
  refine zp_iastore dL_shuts_48 (tA (tA (tA hB.Tq))) (j := 6) (by decide) (zin (by decide)) ?_
  refine zp_aload dL_shuts_49 (a := (lwq L)) (List.mem_of_getElem? (i := 4) rfl) ?_
  refine zp_iconst dL_shuts_51 (v := 0) (by decide) ?_
  refine zp_dup2 dL_shuts_52 rfl rfl ?_
  refine zp_iald_v dL_shuts_53 (tA (tA (tA (tA hB.Tq)))) (Or.inl rfl) (j := 0) (by decide) (zin (by decide)) (v := (sy S)) ((rAn (by decide)).trans ((rAb nq).trans ((rAb nq).trans ((rAb nq).trans hB.r0)))) ?_
  refine zp_iload_n dL_shuts_54 rfl (x := up) (List.mem_of_getElem? (i := 2) rfl) ?_
  refine zp_iload_n dL_shuts_55 rfl (x := dw) (List.mem_of_getElem? (i := 3) rfl) ?_
  refine zp_iadd dL_shuts_56 ?_
  refine zp_iadd dL_shuts_57 ?_
  refine zp_iastore dL_shuts_58 (tA (tA (tA (tA hB.Tq)))) (j := 0) (by decide) (zin (by decide)) ?_
  refine zp_vret rfl dL_shuts_59 ?_
  have e := hB.shut (box := box) (fl := fl) (x := sy S + (up + dw)) hm hm2
  refine ⟨rfl, e.ig (by show sy S + mx 0 (up + dw) = sy S + (up + dw); rw [mx_0 hs]) rfl rfl (fun _ _ => rfl) (fun _ _ => rfl) (fun _ _ => rfl) rfl, ((((LF.refl.wn hB.2.1).wn hB.2.1).wn hB.2.1).wq (by decide)).wq (by decide)⟩
theorem i_nle {a b : Int32} (h : a < b) : ¬ b ≤ a := fun q => absurd h (i_nlt q)
theorem i_pos2 {x : Int32} (h0 : 0 ≤ x.toInt) (h : ¬ x = 0) : 0 < x := Int32.lt_iff_toInt_lt.mpr (by
  have : x.toInt ≠ (0 : Int32).toInt := fun q => h (Int32.toInt_inj.mp q)
  rw [show (0 : Int32).toInt = 0 from rfl] at this ⊢
  omega)
theorem setI_comm {f : Nat → Int32} {k j : Nat} {x y : Int32} (h : k ≠ j) (i : Nat) : setI (setI f k x) j y i = setI (setI f j y) k x i := by
  unfold setI
  by_cases z : i = j
  · rw [if_pos z, if_neg (fun q => h (q.symm.trans z)), if_pos z]
  · rw [if_neg z]
    by_cases z2 : i = k
    · rw [if_pos z2, if_pos z2]
    · rw [if_neg z2, if_neg z2, if_neg z]
def leaveX (D : Dt) (c : Nat) (S : FS) : FS := if sw S c = true then leaveW D c S else leaveH D c S
theorem lv_1 {D W} {L : Lw} {S : FS} {s : Sto} {c : Nat} {P : Int32} (hb : LB D W L (setW (setB (sw S) c false) (setA (48 + c) 0 (setA (16 + c) P S))) s) (hP : P = pendY S) (hw : sw S c = true) (h1 : ¬ 0 < sh S c) (h2 : dst D c 12 = 0) : LB D W L (leaveX D c S) s := by
  have e : leaveX D c S = unwP c (setA (16 + c) (pendY S) (setA (48 + c) (mx 0 (sh S c)) S)) := (if_pos hw).trans (if_neg (fun q => by
    rcases q with q | q
    · rw [m0_l (Int32.not_lt.mp h1)] at q; exact absurd q (by decide)
    · rw [h2] at q; exact absurd q (by decide)))
  rw [e, m0_l (Int32.not_lt.mp h1)]
  subst hP
  exact hb.ig rfl rfl rfl (fun _ _ => rfl) (fun i _ => setI_comm (f := sa S) (by omega) i) (fun _ _ => rfl) rfl
theorem lv_2 {D W} {L : Lw} {S : FS} {s : Sto} {c : Nat} {V Z : Int32} (hb : LB D W L (setY Z (setA (48 + c) V (endP S))) s) (hV : V = mx 0 (sh S c)) (hZ : Z = pendY S + (V + dst D c 12)) (hw : sw S c = true) (h : 0 < sh S c ∨ 0 < dst D c 12) : LB D W L (leaveX D c S) s := by
  have e : leaveX D c S = addY (dst D c 12 + mx 0 (sh S c)) (endP (setA (48 + c) (mx 0 (sh S c)) S)) := (if_pos hw).trans (if_pos (h.imp (fun q => by rw [m0_r (fun y => absurd q (i_nlt y))]; exact q) id))
  rw [e]
  subst hV hZ
  refine hb.ig (congrArg (pendY S + ·) (Int32.add_comm _ _)) rfl rfl (fun _ _ => rfl) (fun i _ => ?_) (fun _ _ => rfl) rfl
  obtain ⟨y, ab, be, w, a, hh, ls, vi, lv, cl⟩ := S
  show (if 17 ≤ i ∧ i ≤ 27 ∧ w (i - 16) = true then (y + ab) + be else (if i = 48 + c then mx 0 (hh c) else a i)) = (if i = 48 + c then mx 0 (hh c) else (if 17 ≤ i ∧ i ≤ 27 ∧ w (i - 16) = true then (y + ab) + be else a i))
  by_cases z : i = 48 + c
  · rw [if_neg (fun q => by omega), if_pos z, if_pos z]
  · rw [if_neg z, if_neg z]
theorem lv_3 {D W} {L : Lw} {S : FS} {s : Sto} {c : Nat} {V Z : Int32} (hb : LB D W L (setY Z (setA (48 + c) V (setBe 0 (setAb 0 S)))) s) (hV : V = sh S c) (hZ : Z = ((sa S (16 + c) + dst D c 10) + sh S c) + dst D c 12) (hw : sw S c = false) (h : 0 ≤ sh S c) : LB D W L (leaveX D c S) s := by
  have e : leaveX D c S = setY (((sa S (16 + c) + dst D c 10) + sh S c) + dst D c 12) (setA (48 + c) (sh S c) (dropP S)) := (if_neg (by rw [hw]; decide)).trans (if_pos h)
  rw [e]
  subst hV hZ
  exact hb.ig rfl rfl rfl (fun _ _ => rfl) (fun _ _ => rfl) (fun _ _ => rfl) rfl
theorem lv_4 {D W} {L : Lw} {S : FS} {s : Sto} {c : Nat} {V Z : Int32} (hb : LB D W L (setY Z (setA (48 + c) V (endP S))) s) (hV : V = mx 0 (pendY S - (sa S (16 + c) + dst D c 10))) (hZ : Z = ((sa S (16 + c) + dst D c 10) + V) + dst D c 12) (hw : sw S c = false) (h : ¬ 0 ≤ sh S c) (h2 : 0 < dst D c 12) : LB D W L (leaveX D c S) s := by
  have e : leaveX D c S = setY (((sa S (16 + c) + dst D c 10) + mx 0 (pendY S - (sa S (16 + c) + dst D c 10))) + dst D c 12) (setA (48 + c) (mx 0 (pendY S - (sa S (16 + c) + dst D c 10))) (endP S)) := (if_neg (by rw [hw]; decide)).trans ((if_neg h).trans (if_pos h2))
  rw [e]
  subst hV hZ
  exact hb.ig rfl rfl rfl (fun _ _ => rfl) (fun _ _ => rfl) (fun _ _ => rfl) rfl
theorem lv_5 {D W} {L : Lw} {S : FS} {s : Sto} {c : Nat} {V : Int32} (hb : LB D W L (setY (sy (setA (48 + c) V S)) (setA (48 + c) V S)) s) (hV : V = mx 0 (sy S - (sa S (16 + c) + dst D c 10))) (hw : sw S c = false) (h : ¬ 0 ≤ sh S c) (h2 : ¬ 0 < dst D c 12) : LB D W L (leaveX D c S) s := by
  have e : leaveX D c S = setA (48 + c) (mx 0 (sy S - (sa S (16 + c) + dst D c 10))) S := (if_neg (by rw [hw]; decide)).trans ((if_neg h).trans (if_neg h2))
  rw [e]
  subst hV
  exact hb.ig rfl rfl rfl (fun _ _ => rfl) (fun _ _ => rfl) (fun _ _ => rfl) rfl
theorem end16 {S : FS} {c : Nat} (h0 : 0 < c) (hc : c < 12) (hw : sw S c = false) : sa (endP S) (16 + c) = sa S (16 + c) := by
  obtain ⟨y, ab, be, w, a, hh, ls, vi, lv, cl⟩ := S
  have hw : w c = false := hw
  show (if 17 ≤ 16 + c ∧ 16 + c ≤ 27 ∧ w (16 + c - 16) = true then (y + ab) + be else a (16 + c)) = a (16 + c)
  rw [if_neg (fun q => by have := q.2.2; rw [show 16 + c - 16 = c by omega, hw] at this; cases this)]
set_option maxRecDepth 100000 in
set_option maxHeartbeats 4000000 in
theorem c_L_leaves (l : Launch) (G : Gb) (D : Dt) (W : Int32) (L : Lw) (S : FS) (c : Nat) (σ : Sto) (hD : DW D) (hB : LB D W L S σ) (h0 : 0 < c) (hc : c < dn D) : Ct l G 2 0 0 yL_leaves mL_leaves [.int (nI c), .ref (lwm L), .ref (lwe L), .ref (lwa L), .ref (lwh L), .ref (lwq L)] σ (fun v s => v = none ∧ LB D W L (leaveP D c S) s ∧ LF L σ s) := by
  refine Ct.of (by decide) rfl (Nat.le_of_ble_eq_true rfl) (fun h => absurd h (by decide)) ?_
  have hn := hD.2.1
  have hc12 : c < 12 := by omega
  have h12 := (hD.2.2.2.2.2.2.2.2.2.2.1 c 12 (by decide) (by decide)).1
  show Wp l G 2 0 0 (RL, cL_leaves, 9, none, false) 0 [(0, .int (nI c)), (1, .ref (lwm L)), (2, .ref (lwe L)), (3, .ref (lwa L)), (4, .ref (lwh L)), (5, .ref (lwq L))] [] σ _
  refine zp_aload_n dL_leaves_0 rfl (a := (lwe L)) (List.mem_of_getElem? (i := 2) rfl) ?_
  refine zp_iconst dL_leaves_1 (v := 4) (by decide) ?_
  refine zp_iload_n dL_leaves_2 rfl (x := (nI c)) (List.mem_of_getElem? (i := 0) rfl) ?_
  refine zp_imul dL_leaves_3 ?_
  rw [show ((4 * (nI c)) : Int32) = (nI (4 * c)) from pk_mul 4 c]
  refine zp_iconst dL_leaves_4 (v := 2) (by decide) ?_
  refine zp_iadd dL_leaves_5 ?_
  rw [show (((nI (4 * c)) + 2) : Int32) = (nI (4 * c + 2)) from nI_add (4 * c) 2]
  refine zp_iald_v dL_leaves_6 hB.Te (Or.inl rfl) (j := (4 * c + 2)) (nI_clamp (by omega)) (vp_in_nI (by omega) (by decide)) (v := (dst D c 12)) ((hB.2.2.1.1 c (by omega)).2.2.2.2.2.2.1 2 (by decide)).2 ?_
  refine zp_istore dL_leaves_7 (Nat.le_of_ble_eq_true rfl) (lv2 := [(6, .int (dst D c 12)), (0, .int (nI c)), (1, .ref (lwm L)), (2, .ref (lwe L)), (3, .ref (lwa L)), (4, .ref (lwh L)), (5, .ref (lwq L))]) rfl ?_
  refine zp_aload dL_leaves_9 (a := (lwq L)) (List.mem_of_getElem? (i := 6) rfl) ?_
  refine zp_iconst dL_leaves_11 (v := 5) (by decide) ?_
  obtain ⟨mk, m1, m2, m3⟩ := hB.bits
  refine zp_iald_v dL_leaves_12 hB.Tq (Or.inl rfl) (j := 5) (by decide) (zin (by decide)) (v := (nI mk)) m2 ?_
  refine zp_iload_n dL_leaves_13 rfl (x := (nI c)) (List.mem_of_getElem? (i := 1) rfl) ?_
  refine zp_ishr dL_leaves_14 ?_
  refine zp_iconst dL_leaves_15 (v := 1) (by decide) ?_
  refine zp_iand dL_leaves_16 ?_
  rw [show ((((nI mk) >>> ((nI c) &&& 31)) &&& 1) : Int32) = (zb (sw S c = true)) from bit_rd m1 hc12 m3]
  refine zp_iconst dL_leaves_17 (v := 1) (by decide) ?_
  refine zp_icmp_ne dL_leaves_18 (tgt := 25) rfl (fun h18 => ?_) (fun h18 => ?_)
  · have hb1 : sw S c = false := by cases e : sw S c; rfl; exact absurd (zb_t e) h18
    refine zp_iconst dL_leaves_25 (v := 0) (by decide) ?_
    refine zp_istore dL_leaves_26 (Nat.le_of_ble_eq_true rfl) (lv2 := [(7, .int 0), (6, .int (dst D c 12)), (0, .int (nI c)), (1, .ref (lwm L)), (2, .ref (lwe L)), (3, .ref (lwa L)), (4, .ref (lwh L)), (5, .ref (lwq L))]) rfl ?_
    refine zp_aload dL_leaves_28 (a := (lwq L)) (List.mem_of_getElem? (i := 7) rfl) ?_
    refine zp_iconst dL_leaves_30 (v := 0) (by decide) ?_
    refine zp_iald_v dL_leaves_31 hB.Tq (Or.inl rfl) (j := 0) (by decide) (zin (by decide)) (v := (sy S)) hB.r0 ?_
    refine zp_aload_n dL_leaves_32 rfl (a := (lwa L)) (List.mem_of_getElem? (i := 5) rfl) ?_
    refine zp_bipush dL_leaves_33 (v := 16) (by decide) ?_
    refine zp_iload_n dL_leaves_35 rfl (x := (nI c)) (List.mem_of_getElem? (i := 2) rfl) ?_
    refine zp_iadd dL_leaves_36 ?_
    rw [show ((16 + (nI c)) : Int32) = (nI (16 + c)) from nI_add 16 c]
    refine zp_iald_v dL_leaves_37 hB.Ta (Or.inl rfl) (j := (16 + c)) (nI_clamp (by omega)) (vp_in_nI (by omega) (by decide)) (v := (sa S (16 + c))) (hB.ra (by omega)) ?_
    refine zp_isub dL_leaves_38 ?_
    refine zp_aload_n dL_leaves_39 rfl (a := (lwe L)) (List.mem_of_getElem? (i := 4) rfl) ?_
    refine zp_iconst dL_leaves_40 (v := 4) (by decide) ?_
    refine zp_iload_n dL_leaves_41 rfl (x := (nI c)) (List.mem_of_getElem? (i := 2) rfl) ?_
    refine zp_imul dL_leaves_42 ?_
    rw [show ((4 * (nI c)) : Int32) = (nI (4 * c)) from pk_mul 4 c]
    refine zp_iald_v dL_leaves_43 hB.Te (Or.inl rfl) (j := (4 * c)) (nI_clamp (by omega)) (vp_in_nI (by omega) (by decide)) (v := (dst D c 10)) ((hB.2.2.1.1 c (by omega)).2.2.2.2.2.2.1 0 (by decide)).2 ?_
    refine zp_isub dL_leaves_44 ?_
    refine zp_istore dL_leaves_45 (Nat.le_of_ble_eq_true rfl) (lv2 := [(8, .int (((sy S) - (sa S (16 + c))) - (dst D c 10))), (7, .int 0), (6, .int (dst D c 12)), (0, .int (nI c)), (1, .ref (lwm L)), (2, .ref (lwe L)), (3, .ref (lwa L)), (4, .ref (lwh L)), (5, .ref (lwq L))]) rfl ?_
    refine zp_iload dL_leaves_47 (x := 0) (List.mem_of_getElem? (i := 1) rfl) ?_
    refine zp_if_eq dL_leaves_49 (tgt := 106) rfl (fun _ => ?_) (fun q => absurd rfl q)
    refine zp_iload dL_leaves_106 (x := 0) (List.mem_of_getElem? (i := 1) rfl) ?_
    refine zp_if_eq dL_leaves_108 (tgt := 157) rfl (fun _ => ?_) (fun q => absurd rfl q)
    refine zp_aload dL_leaves_157 (a := (lwh L)) (List.mem_of_getElem? (i := 7) rfl) ?_
    refine zp_iload_n dL_leaves_159 rfl (x := (nI c)) (List.mem_of_getElem? (i := 3) rfl) ?_
    refine zp_iald_v dL_leaves_160 hB.Th (Or.inl rfl) (j := (c)) (nI_clamp (by omega)) (vp_in_nI (by omega) (by decide)) (v := (sh S c)) (hB.rh (by omega)) ?_
    refine zp_if_lt dL_leaves_161 (tgt := 211) rfl (fun h161 => ?_) (fun h161 => ?_)
    · skip
      refine zp_iload dL_leaves_211 (x := (dst D c 12)) (List.mem_of_getElem? (i := 2) rfl) ?_
      refine zp_if_le dL_leaves_213 (tgt := 241) rfl (fun h213 => ?_) (fun h213 => ?_)
      · skip
        refine zp_aload_n dL_leaves_241 rfl (a := (lwa L)) (List.mem_of_getElem? (i := 6) rfl) ?_
        refine zp_bipush dL_leaves_242 (v := 48) (by decide) ?_
        refine zp_iload_n dL_leaves_244 rfl (x := (nI c)) (List.mem_of_getElem? (i := 3) rfl) ?_
        refine zp_iadd dL_leaves_245 ?_
        rw [show ((48 + (nI c)) : Int32) = (nI (48 + c)) from nI_add 48 c]
        refine zp_iload dL_leaves_246 (x := (((sy S) - (sa S (16 + c))) - (dst D c 10))) (List.mem_of_getElem? (i := 0) rfl) ?_
        refine zp_if_le dL_leaves_248 (tgt := 256) rfl (fun h248 => ?_) (fun h248 => ?_)
        · skip
          refine zp_iconst dL_leaves_256 (v := 0) (by decide) ?_
          refine zp_iastore dL_leaves_257 hB.Ta (j := (48 + c)) (nI_clamp (by omega)) (vp_in_nI (by omega) (by decide)) ?_
          refine zp_gen (fun s => LB D W L (setA (48 + c) 0 S) s ∧ LF L σ s) ⟨hB.a (by omega), LF.refl.wa hB.2.1⟩ (fun u1 hn1 => ?_)
          obtain ⟨b1, f1⟩ := hn1
          refine zp_aload dL_leaves_258 (a := (lwq L)) (List.mem_of_getElem? (i := 8) rfl) ?_
          refine zp_iconst dL_leaves_260 (v := 0) (by decide) ?_
          refine zp_iload dL_leaves_261 (x := (dst D c 12)) (List.mem_of_getElem? (i := 2) rfl) ?_
          refine zp_if_le dL_leaves_263 (tgt := 291) rfl (fun _ => ?_) (fun q => absurd h213 q)
          refine zp_aload dL_leaves_291 (a := (lwq L)) (List.mem_of_getElem? (i := 8) rfl) ?_
          refine zp_iconst dL_leaves_293 (v := 0) (by decide) ?_
          refine zp_iald_v dL_leaves_294 b1.Tq (Or.inl rfl) (j := 0) (by decide) (zin (by decide)) (v := (sy (setA (48 + c) 0 S))) b1.r0 ?_
          refine zp_iastore dL_leaves_295 b1.Tq (j := 0) (by decide) (zin (by decide)) ?_
          refine zp_gen (fun s => LB D W L (setY (sy (setA (48 + c) 0 S)) (setA (48 + c) 0 S)) s ∧ LF L σ s) ⟨b1.q0, f1.wq (by decide)⟩ (fun u2 hn2 => ?_)
          obtain ⟨b2, f2⟩ := hn2
          refine zp_gen (fun s => LB D W L (leaveX D c S) s ∧ LF L σ s) ⟨by
            first
            | exact lv_1 b2 rfl hb1 h56 h61
            | exact lv_2 b2 (m0_l h126).symm (by rw [show sa (setA (48 + c) 0 (endP S)) (48 + c) = 0 from if_pos rfl]; rfl) hb1 hor
            | exact lv_2 b2 (m0_r h126).symm (by rw [show sa (setA (48 + c) (sh (endP S) c) (endP S)) (48 + c) = sh (endP S) c from if_pos rfl]; rfl) hb1 hor
            | exact lv_3 b2 rfl (by rw [show sa (setA (48 + c) (sh (setBe 0 (setAb 0 S)) c) (setBe 0 (setAb 0 S))) (16 + c) = sa S (16 + c) from if_neg (by omega)]; rfl) hb1 (Int32.not_lt.mp h161)
            | exact lv_4 b2 (by rw [end16 h0 hc12 hb1, sub2] at h248; exact (m0_l h248).symm) (by rw [show sa (setA (48 + c) 0 (endP S)) (48 + c) = 0 from if_pos rfl, show sa (setA (48 + c) 0 (endP S)) (16 + c) = sa S (16 + c) from (if_neg (by omega)).trans (end16 h0 hc12 hb1)]) hb1 (i_nle h161) (Int32.not_le.mp h213)
            | exact lv_4 b2 (by rw [end16 h0 hc12 hb1, sub2] at h248 ⊢; exact (m0_r h248).symm) (by rw [show sa (setA (48 + c) ((sy (endP S) - sa (endP S) (16 + c)) - dst D c 10) (endP S)) (48 + c) = ((sy (endP S) - sa (endP S) (16 + c)) - dst D c 10) from if_pos rfl, show sa (setA (48 + c) ((sy (endP S) - sa (endP S) (16 + c)) - dst D c 10) (endP S)) (16 + c) = sa S (16 + c) from (if_neg (by omega)).trans (end16 h0 hc12 hb1)]) hb1 (i_nle h161) (Int32.not_le.mp h213)
            | exact lv_5 b2 (by rw [sub2] at h248; exact (m0_l h248).symm) hb1 (i_nle h161) (i_nlt h213)
            | exact lv_5 b2 (by rw [sub2] at h248 ⊢; exact (m0_r h248).symm) hb1 (i_nle h161) (i_nlt h213), f2⟩ (fun u3 hn3 => ?_)
          obtain ⟨b3, f3⟩ := hn3
          refine zp_aload_n dL_leaves_296 rfl (a := (lwm L)) (List.mem_of_getElem? (i := 4) rfl) ?_
          refine zp_iconst dL_leaves_297 (v := 4) (by decide) ?_
          refine zp_iload_n dL_leaves_298 rfl (x := (nI c)) (List.mem_of_getElem? (i := 3) rfl) ?_
          refine zp_imul dL_leaves_299 ?_
          rw [show ((4 * (nI c)) : Int32) = (nI (4 * c)) from pk_mul 4 c]
          refine zp_iconst dL_leaves_300 (v := 2) (by decide) ?_
          refine zp_iadd dL_leaves_301 ?_
          rw [show (((nI (4 * c)) + 2) : Int32) = (nI (4 * c + 2)) from nI_add (4 * c) 2]
          refine zp_iald_v dL_leaves_302 b3.Tm (Or.inl rfl) (j := (4 * c + 2)) (nI_clamp (by omega)) (vp_in_nI (by omega) (by decide)) (v := (dst D c 8)) ((b3.2.2.1.1 c (by omega)).2.2.2.2.2.2.1 2 (by decide)).1 ?_
          refine zp_aload dL_leaves_303 (a := (lwq L)) (List.mem_of_getElem? (i := 8) rfl) ?_
          refine zp_callS (st := []) (mc2 := 0) (ms2 := 0) dL_leaves_305 (c_L_pends l G (dst D c 8) (lwq L) _ b3.Tq) cl_L_10 st_L_pends rfl rfl (by omega) (by omega) (by omega) (Nat.le_of_ble_eq_true rfl) ?_
          rintro _ u4x ⟨rfl, hs4⟩
          refine zp_gen (fun s => LB D W L (pendP (dst D c 8) (leaveX D c S)) s ∧ LF L σ s) ⟨by rw [hs4]; exact b3.pend, by rw [hs4]; exact f3.trans LF.pend⟩ (fun u4 hn4 => ?_)
          obtain ⟨b4, f4⟩ := hn4
          refine zp_vret rfl dL_leaves_308 ?_
          exact ⟨rfl, b4.ig rfl rfl rfl (fun _ _ => rfl) (fun _ _ => rfl) (fun _ _ => rfl) rfl, f4⟩
        · skip
          refine zp_iload dL_leaves_251 (x := (((sy S) - (sa S (16 + c))) - (dst D c 10))) (List.mem_of_getElem? (i := 0) rfl) ?_
          refine zp_goto dL_leaves_253 (tgt := 257) rfl ?_
          refine zp_iastore dL_leaves_257 hB.Ta (j := (48 + c)) (nI_clamp (by omega)) (vp_in_nI (by omega) (by decide)) ?_
          refine zp_gen (fun s => LB D W L (setA (48 + c) (((sy S) - (sa S (16 + c))) - (dst D c 10)) S) s ∧ LF L σ s) ⟨hB.a (by omega), LF.refl.wa hB.2.1⟩ (fun u5 hn5 => ?_)
          obtain ⟨b5, f5⟩ := hn5
          refine zp_aload dL_leaves_258 (a := (lwq L)) (List.mem_of_getElem? (i := 8) rfl) ?_
          refine zp_iconst dL_leaves_260 (v := 0) (by decide) ?_
          refine zp_iload dL_leaves_261 (x := (dst D c 12)) (List.mem_of_getElem? (i := 2) rfl) ?_
          refine zp_if_le dL_leaves_263 (tgt := 291) rfl (fun _ => ?_) (fun q => absurd h213 q)
          refine zp_aload dL_leaves_291 (a := (lwq L)) (List.mem_of_getElem? (i := 8) rfl) ?_
          refine zp_iconst dL_leaves_293 (v := 0) (by decide) ?_
          refine zp_iald_v dL_leaves_294 b5.Tq (Or.inl rfl) (j := 0) (by decide) (zin (by decide)) (v := (sy (setA (48 + c) (((sy S) - (sa S (16 + c))) - (dst D c 10)) S))) b5.r0 ?_
          refine zp_iastore dL_leaves_295 b5.Tq (j := 0) (by decide) (zin (by decide)) ?_
          refine zp_gen (fun s => LB D W L (setY (sy (setA (48 + c) (((sy S) - (sa S (16 + c))) - (dst D c 10)) S)) (setA (48 + c) (((sy S) - (sa S (16 + c))) - (dst D c 10)) S)) s ∧ LF L σ s) ⟨b5.q0, f5.wq (by decide)⟩ (fun u6 hn6 => ?_)
          obtain ⟨b6, f6⟩ := hn6
          refine zp_gen (fun s => LB D W L (leaveX D c S) s ∧ LF L σ s) ⟨by
            first
            | exact lv_1 b6 rfl hb1 h56 h61
            | exact lv_2 b6 (m0_l h126).symm (by rw [show sa (setA (48 + c) 0 (endP S)) (48 + c) = 0 from if_pos rfl]; rfl) hb1 hor
            | exact lv_2 b6 (m0_r h126).symm (by rw [show sa (setA (48 + c) (sh (endP S) c) (endP S)) (48 + c) = sh (endP S) c from if_pos rfl]; rfl) hb1 hor
            | exact lv_3 b6 rfl (by rw [show sa (setA (48 + c) (sh (setBe 0 (setAb 0 S)) c) (setBe 0 (setAb 0 S))) (16 + c) = sa S (16 + c) from if_neg (by omega)]; rfl) hb1 (Int32.not_lt.mp h161)
            | exact lv_4 b6 (by rw [end16 h0 hc12 hb1, sub2] at h248; exact (m0_l h248).symm) (by rw [show sa (setA (48 + c) 0 (endP S)) (48 + c) = 0 from if_pos rfl, show sa (setA (48 + c) 0 (endP S)) (16 + c) = sa S (16 + c) from (if_neg (by omega)).trans (end16 h0 hc12 hb1)]) hb1 (i_nle h161) (Int32.not_le.mp h213)
            | exact lv_4 b6 (by rw [end16 h0 hc12 hb1, sub2] at h248 ⊢; exact (m0_r h248).symm) (by rw [show sa (setA (48 + c) ((sy (endP S) - sa (endP S) (16 + c)) - dst D c 10) (endP S)) (48 + c) = ((sy (endP S) - sa (endP S) (16 + c)) - dst D c 10) from if_pos rfl, show sa (setA (48 + c) ((sy (endP S) - sa (endP S) (16 + c)) - dst D c 10) (endP S)) (16 + c) = sa S (16 + c) from (if_neg (by omega)).trans (end16 h0 hc12 hb1)]) hb1 (i_nle h161) (Int32.not_le.mp h213)
            | exact lv_5 b6 (by rw [sub2] at h248; exact (m0_l h248).symm) hb1 (i_nle h161) (i_nlt h213)
            | exact lv_5 b6 (by rw [sub2] at h248 ⊢; exact (m0_r h248).symm) hb1 (i_nle h161) (i_nlt h213), f6⟩ (fun u7 hn7 => ?_)
          obtain ⟨b7, f7⟩ := hn7
          refine zp_aload_n dL_leaves_296 rfl (a := (lwm L)) (List.mem_of_getElem? (i := 4) rfl) ?_
          refine zp_iconst dL_leaves_297 (v := 4) (by decide) ?_
          refine zp_iload_n dL_leaves_298 rfl (x := (nI c)) (List.mem_of_getElem? (i := 3) rfl) ?_
          refine zp_imul dL_leaves_299 ?_
          rw [show ((4 * (nI c)) : Int32) = (nI (4 * c)) from pk_mul 4 c]
          refine zp_iconst dL_leaves_300 (v := 2) (by decide) ?_
          refine zp_iadd dL_leaves_301 ?_
          rw [show (((nI (4 * c)) + 2) : Int32) = (nI (4 * c + 2)) from nI_add (4 * c) 2]
          refine zp_iald_v dL_leaves_302 b7.Tm (Or.inl rfl) (j := (4 * c + 2)) (nI_clamp (by omega)) (vp_in_nI (by omega) (by decide)) (v := (dst D c 8)) ((b7.2.2.1.1 c (by omega)).2.2.2.2.2.2.1 2 (by decide)).1 ?_
          refine zp_aload dL_leaves_303 (a := (lwq L)) (List.mem_of_getElem? (i := 8) rfl) ?_
          refine zp_callS (st := []) (mc2 := 0) (ms2 := 0) dL_leaves_305 (c_L_pends l G (dst D c 8) (lwq L) _ b7.Tq) cl_L_10 st_L_pends rfl rfl (by omega) (by omega) (by omega) (Nat.le_of_ble_eq_true rfl) ?_
          rintro _ u8x ⟨rfl, hs8⟩
          refine zp_gen (fun s => LB D W L (pendP (dst D c 8) (leaveX D c S)) s ∧ LF L σ s) ⟨by rw [hs8]; exact b7.pend, by rw [hs8]; exact f7.trans LF.pend⟩ (fun u8 hn8 => ?_)
          obtain ⟨b8, f8⟩ := hn8
          refine zp_vret rfl dL_leaves_308 ?_
          exact ⟨rfl, b8.ig rfl rfl rfl (fun _ _ => rfl) (fun _ _ => rfl) (fun _ _ => rfl) rfl, f8⟩
      · skip
        refine zp_aload dL_leaves_216 (a := (lwq L)) (List.mem_of_getElem? (i := 8) rfl) ?_
        refine zp_aload_n dL_leaves_218 rfl (a := (lwa L)) (List.mem_of_getElem? (i := 6) rfl) ?_
        refine zp_callS (st := []) (mc2 := 0) (ms2 := 0) dL_leaves_219 (c_L_ends l G D W L S _ hB) cl_L_16 st_L_ends rfl rfl (by omega) (by omega) (by omega) (Nat.le_of_ble_eq_true rfl) ?_
        rintro _ u9 ⟨rfl, b9, f9⟩
        refine zp_aload dL_leaves_222 (a := (lwq L)) (List.mem_of_getElem? (i := 8) rfl) ?_
        refine zp_iconst dL_leaves_224 (v := 0) (by decide) ?_
        refine zp_iald_v dL_leaves_225 b9.Tq (Or.inl rfl) (j := 0) (by decide) (zin (by decide)) (v := (sy (endP S))) b9.r0 ?_
        refine zp_aload_n dL_leaves_226 rfl (a := (lwa L)) (List.mem_of_getElem? (i := 6) rfl) ?_
        refine zp_bipush dL_leaves_227 (v := 16) (by decide) ?_
        refine zp_iload_n dL_leaves_229 rfl (x := (nI c)) (List.mem_of_getElem? (i := 3) rfl) ?_
        refine zp_iadd dL_leaves_230 ?_
        rw [show ((16 + (nI c)) : Int32) = (nI (16 + c)) from nI_add 16 c]
        refine zp_iald_v dL_leaves_231 b9.Ta (Or.inl rfl) (j := (16 + c)) (nI_clamp (by omega)) (vp_in_nI (by omega) (by decide)) (v := (sa (endP S) (16 + c))) (b9.ra (by omega)) ?_
        refine zp_isub dL_leaves_232 ?_
        refine zp_aload_n dL_leaves_233 rfl (a := (lwe L)) (List.mem_of_getElem? (i := 5) rfl) ?_
        refine zp_iconst dL_leaves_234 (v := 4) (by decide) ?_
        refine zp_iload_n dL_leaves_235 rfl (x := (nI c)) (List.mem_of_getElem? (i := 3) rfl) ?_
        refine zp_imul dL_leaves_236 ?_
        rw [show ((4 * (nI c)) : Int32) = (nI (4 * c)) from pk_mul 4 c]
        refine zp_iald_v dL_leaves_237 b9.Te (Or.inl rfl) (j := (4 * c)) (nI_clamp (by omega)) (vp_in_nI (by omega) (by decide)) (v := (dst D c 10)) ((b9.2.2.1.1 c (by omega)).2.2.2.2.2.2.1 0 (by decide)).2 ?_
        refine zp_isub dL_leaves_238 ?_
        refine zp_istore dL_leaves_239 (Nat.le_of_ble_eq_true rfl) (lv2 := [(8, .int (((sy (endP S)) - (sa (endP S) (16 + c))) - (dst D c 10))), (7, .int 0), (6, .int (dst D c 12)), (0, .int (nI c)), (1, .ref (lwm L)), (2, .ref (lwe L)), (3, .ref (lwa L)), (4, .ref (lwh L)), (5, .ref (lwq L))]) rfl ?_
        refine zp_aload_n dL_leaves_241 rfl (a := (lwa L)) (List.mem_of_getElem? (i := 6) rfl) ?_
        refine zp_bipush dL_leaves_242 (v := 48) (by decide) ?_
        refine zp_iload_n dL_leaves_244 rfl (x := (nI c)) (List.mem_of_getElem? (i := 3) rfl) ?_
        refine zp_iadd dL_leaves_245 ?_
        rw [show ((48 + (nI c)) : Int32) = (nI (48 + c)) from nI_add 48 c]
        refine zp_iload dL_leaves_246 (x := (((sy (endP S)) - (sa (endP S) (16 + c))) - (dst D c 10))) (List.mem_of_getElem? (i := 0) rfl) ?_
        refine zp_if_le dL_leaves_248 (tgt := 256) rfl (fun h248 => ?_) (fun h248 => ?_)
        · skip
          refine zp_iconst dL_leaves_256 (v := 0) (by decide) ?_
          refine zp_iastore dL_leaves_257 b9.Ta (j := (48 + c)) (nI_clamp (by omega)) (vp_in_nI (by omega) (by decide)) ?_
          refine zp_gen (fun s => LB D W L (setA (48 + c) 0 (endP S)) s ∧ LF L σ s) ⟨b9.a (by omega), f9.wa hB.2.1⟩ (fun u10 hn10 => ?_)
          obtain ⟨b10, f10⟩ := hn10
          refine zp_aload dL_leaves_258 (a := (lwq L)) (List.mem_of_getElem? (i := 8) rfl) ?_
          refine zp_iconst dL_leaves_260 (v := 0) (by decide) ?_
          refine zp_iload dL_leaves_261 (x := (dst D c 12)) (List.mem_of_getElem? (i := 2) rfl) ?_
          refine zp_if_le dL_leaves_263 (tgt := 291) rfl (fun q => absurd q h213) (fun _ => ?_)
          refine zp_aload_n dL_leaves_266 rfl (a := (lwa L)) (List.mem_of_getElem? (i := 6) rfl) ?_
          refine zp_bipush dL_leaves_267 (v := 16) (by decide) ?_
          refine zp_iload_n dL_leaves_269 rfl (x := (nI c)) (List.mem_of_getElem? (i := 3) rfl) ?_
          refine zp_iadd dL_leaves_270 ?_
          rw [show ((16 + (nI c)) : Int32) = (nI (16 + c)) from nI_add 16 c]
          refine zp_iald_v dL_leaves_271 b10.Ta (Or.inl rfl) (j := (16 + c)) (nI_clamp (by omega)) (vp_in_nI (by omega) (by decide)) (v := (sa (setA (48 + c) 0 (endP S)) (16 + c))) (b10.ra (by omega)) ?_
          refine zp_aload_n dL_leaves_272 rfl (a := (lwe L)) (List.mem_of_getElem? (i := 5) rfl) ?_
          refine zp_iconst dL_leaves_273 (v := 4) (by decide) ?_
          refine zp_iload_n dL_leaves_274 rfl (x := (nI c)) (List.mem_of_getElem? (i := 3) rfl) ?_
          refine zp_imul dL_leaves_275 ?_
          rw [show ((4 * (nI c)) : Int32) = (nI (4 * c)) from pk_mul 4 c]
          refine zp_iald_v dL_leaves_276 b10.Te (Or.inl rfl) (j := (4 * c)) (nI_clamp (by omega)) (vp_in_nI (by omega) (by decide)) (v := (dst D c 10)) ((b10.2.2.1.1 c (by omega)).2.2.2.2.2.2.1 0 (by decide)).2 ?_
          refine zp_iadd dL_leaves_277 ?_
          refine zp_aload_n dL_leaves_278 rfl (a := (lwa L)) (List.mem_of_getElem? (i := 6) rfl) ?_
          refine zp_bipush dL_leaves_279 (v := 48) (by decide) ?_
          refine zp_iload_n dL_leaves_281 rfl (x := (nI c)) (List.mem_of_getElem? (i := 3) rfl) ?_
          refine zp_iadd dL_leaves_282 ?_
          rw [show ((48 + (nI c)) : Int32) = (nI (48 + c)) from nI_add 48 c]
          refine zp_iald_v dL_leaves_283 b10.Ta (Or.inl rfl) (j := (48 + c)) (nI_clamp (by omega)) (vp_in_nI (by omega) (by decide)) (v := (sa (setA (48 + c) 0 (endP S)) (48 + c))) (b10.ra (by omega)) ?_
          refine zp_iadd dL_leaves_284 ?_
          refine zp_iload dL_leaves_285 (x := (dst D c 12)) (List.mem_of_getElem? (i := 2) rfl) ?_
          refine zp_iadd dL_leaves_287 ?_
          refine zp_goto dL_leaves_288 (tgt := 295) rfl ?_
          refine zp_iastore dL_leaves_295 b10.Tq (j := 0) (by decide) (zin (by decide)) ?_
          refine zp_gen (fun s => LB D W L (setY ((((sa (setA (48 + c) 0 (endP S)) (16 + c)) + (dst D c 10)) + (sa (setA (48 + c) 0 (endP S)) (48 + c))) + (dst D c 12)) (setA (48 + c) 0 (endP S))) s ∧ LF L σ s) ⟨b10.q0, f10.wq (by decide)⟩ (fun u11 hn11 => ?_)
          obtain ⟨b11, f11⟩ := hn11
          refine zp_gen (fun s => LB D W L (leaveX D c S) s ∧ LF L σ s) ⟨by
            first
            | exact lv_1 b11 rfl hb1 h56 h61
            | exact lv_2 b11 (m0_l h126).symm (by rw [show sa (setA (48 + c) 0 (endP S)) (48 + c) = 0 from if_pos rfl]; rfl) hb1 hor
            | exact lv_2 b11 (m0_r h126).symm (by rw [show sa (setA (48 + c) (sh (endP S) c) (endP S)) (48 + c) = sh (endP S) c from if_pos rfl]; rfl) hb1 hor
            | exact lv_3 b11 rfl (by rw [show sa (setA (48 + c) (sh (setBe 0 (setAb 0 S)) c) (setBe 0 (setAb 0 S))) (16 + c) = sa S (16 + c) from if_neg (by omega)]; rfl) hb1 (Int32.not_lt.mp h161)
            | exact lv_4 b11 (by rw [end16 h0 hc12 hb1, sub2] at h248; exact (m0_l h248).symm) (by rw [show sa (setA (48 + c) 0 (endP S)) (48 + c) = 0 from if_pos rfl, show sa (setA (48 + c) 0 (endP S)) (16 + c) = sa S (16 + c) from (if_neg (by omega)).trans (end16 h0 hc12 hb1)]) hb1 (i_nle h161) (Int32.not_le.mp h213)
            | exact lv_4 b11 (by rw [end16 h0 hc12 hb1, sub2] at h248 ⊢; exact (m0_r h248).symm) (by rw [show sa (setA (48 + c) ((sy (endP S) - sa (endP S) (16 + c)) - dst D c 10) (endP S)) (48 + c) = ((sy (endP S) - sa (endP S) (16 + c)) - dst D c 10) from if_pos rfl, show sa (setA (48 + c) ((sy (endP S) - sa (endP S) (16 + c)) - dst D c 10) (endP S)) (16 + c) = sa S (16 + c) from (if_neg (by omega)).trans (end16 h0 hc12 hb1)]) hb1 (i_nle h161) (Int32.not_le.mp h213)
            | exact lv_5 b11 (by rw [sub2] at h248; exact (m0_l h248).symm) hb1 (i_nle h161) (i_nlt h213)
            | exact lv_5 b11 (by rw [sub2] at h248 ⊢; exact (m0_r h248).symm) hb1 (i_nle h161) (i_nlt h213), f11⟩ (fun u12 hn12 => ?_)
          obtain ⟨b12, f12⟩ := hn12
          refine zp_aload_n dL_leaves_296 rfl (a := (lwm L)) (List.mem_of_getElem? (i := 4) rfl) ?_
          refine zp_iconst dL_leaves_297 (v := 4) (by decide) ?_
          refine zp_iload_n dL_leaves_298 rfl (x := (nI c)) (List.mem_of_getElem? (i := 3) rfl) ?_
          refine zp_imul dL_leaves_299 ?_
          rw [show ((4 * (nI c)) : Int32) = (nI (4 * c)) from pk_mul 4 c]
          refine zp_iconst dL_leaves_300 (v := 2) (by decide) ?_
          refine zp_iadd dL_leaves_301 ?_
          rw [show (((nI (4 * c)) + 2) : Int32) = (nI (4 * c + 2)) from nI_add (4 * c) 2]
          refine zp_iald_v dL_leaves_302 b12.Tm (Or.inl rfl) (j := (4 * c + 2)) (nI_clamp (by omega)) (vp_in_nI (by omega) (by decide)) (v := (dst D c 8)) ((b12.2.2.1.1 c (by omega)).2.2.2.2.2.2.1 2 (by decide)).1 ?_
          refine zp_aload dL_leaves_303 (a := (lwq L)) (List.mem_of_getElem? (i := 8) rfl) ?_
          refine zp_callS (st := []) (mc2 := 0) (ms2 := 0) dL_leaves_305 (c_L_pends l G (dst D c 8) (lwq L) _ b12.Tq) cl_L_10 st_L_pends rfl rfl (by omega) (by omega) (by omega) (Nat.le_of_ble_eq_true rfl) ?_
          rintro _ u13x ⟨rfl, hs13⟩
          refine zp_gen (fun s => LB D W L (pendP (dst D c 8) (leaveX D c S)) s ∧ LF L σ s) ⟨by rw [hs13]; exact b12.pend, by rw [hs13]; exact f12.trans LF.pend⟩ (fun u13 hn13 => ?_)
          obtain ⟨b13, f13⟩ := hn13
          refine zp_vret rfl dL_leaves_308 ?_
          exact ⟨rfl, b13.ig rfl rfl rfl (fun _ _ => rfl) (fun _ _ => rfl) (fun _ _ => rfl) rfl, f13⟩
        · skip
          refine zp_iload dL_leaves_251 (x := (((sy (endP S)) - (sa (endP S) (16 + c))) - (dst D c 10))) (List.mem_of_getElem? (i := 0) rfl) ?_
          refine zp_goto dL_leaves_253 (tgt := 257) rfl ?_
          refine zp_iastore dL_leaves_257 b9.Ta (j := (48 + c)) (nI_clamp (by omega)) (vp_in_nI (by omega) (by decide)) ?_
          refine zp_gen (fun s => LB D W L (setA (48 + c) (((sy (endP S)) - (sa (endP S) (16 + c))) - (dst D c 10)) (endP S)) s ∧ LF L σ s) ⟨b9.a (by omega), f9.wa hB.2.1⟩ (fun u14 hn14 => ?_)
          obtain ⟨b14, f14⟩ := hn14
          refine zp_aload dL_leaves_258 (a := (lwq L)) (List.mem_of_getElem? (i := 8) rfl) ?_
          refine zp_iconst dL_leaves_260 (v := 0) (by decide) ?_
          refine zp_iload dL_leaves_261 (x := (dst D c 12)) (List.mem_of_getElem? (i := 2) rfl) ?_
          refine zp_if_le dL_leaves_263 (tgt := 291) rfl (fun q => absurd q h213) (fun _ => ?_)
          refine zp_aload_n dL_leaves_266 rfl (a := (lwa L)) (List.mem_of_getElem? (i := 6) rfl) ?_
          refine zp_bipush dL_leaves_267 (v := 16) (by decide) ?_
          refine zp_iload_n dL_leaves_269 rfl (x := (nI c)) (List.mem_of_getElem? (i := 3) rfl) ?_
          refine zp_iadd dL_leaves_270 ?_
          rw [show ((16 + (nI c)) : Int32) = (nI (16 + c)) from nI_add 16 c]
          refine zp_iald_v dL_leaves_271 b14.Ta (Or.inl rfl) (j := (16 + c)) (nI_clamp (by omega)) (vp_in_nI (by omega) (by decide)) (v := (sa (setA (48 + c) (((sy (endP S)) - (sa (endP S) (16 + c))) - (dst D c 10)) (endP S)) (16 + c))) (b14.ra (by omega)) ?_
          refine zp_aload_n dL_leaves_272 rfl (a := (lwe L)) (List.mem_of_getElem? (i := 5) rfl) ?_
          refine zp_iconst dL_leaves_273 (v := 4) (by decide) ?_
          refine zp_iload_n dL_leaves_274 rfl (x := (nI c)) (List.mem_of_getElem? (i := 3) rfl) ?_
          refine zp_imul dL_leaves_275 ?_
          rw [show ((4 * (nI c)) : Int32) = (nI (4 * c)) from pk_mul 4 c]
          refine zp_iald_v dL_leaves_276 b14.Te (Or.inl rfl) (j := (4 * c)) (nI_clamp (by omega)) (vp_in_nI (by omega) (by decide)) (v := (dst D c 10)) ((b14.2.2.1.1 c (by omega)).2.2.2.2.2.2.1 0 (by decide)).2 ?_
          refine zp_iadd dL_leaves_277 ?_
          refine zp_aload_n dL_leaves_278 rfl (a := (lwa L)) (List.mem_of_getElem? (i := 6) rfl) ?_
          refine zp_bipush dL_leaves_279 (v := 48) (by decide) ?_
          refine zp_iload_n dL_leaves_281 rfl (x := (nI c)) (List.mem_of_getElem? (i := 3) rfl) ?_
          refine zp_iadd dL_leaves_282 ?_
          rw [show ((48 + (nI c)) : Int32) = (nI (48 + c)) from nI_add 48 c]
          refine zp_iald_v dL_leaves_283 b14.Ta (Or.inl rfl) (j := (48 + c)) (nI_clamp (by omega)) (vp_in_nI (by omega) (by decide)) (v := (sa (setA (48 + c) (((sy (endP S)) - (sa (endP S) (16 + c))) - (dst D c 10)) (endP S)) (48 + c))) (b14.ra (by omega)) ?_
          refine zp_iadd dL_leaves_284 ?_
          refine zp_iload dL_leaves_285 (x := (dst D c 12)) (List.mem_of_getElem? (i := 2) rfl) ?_
          refine zp_iadd dL_leaves_287 ?_
          refine zp_goto dL_leaves_288 (tgt := 295) rfl ?_
          refine zp_iastore dL_leaves_295 b14.Tq (j := 0) (by decide) (zin (by decide)) ?_
          refine zp_gen (fun s => LB D W L (setY ((((sa (setA (48 + c) (((sy (endP S)) - (sa (endP S) (16 + c))) - (dst D c 10)) (endP S)) (16 + c)) + (dst D c 10)) + (sa (setA (48 + c) (((sy (endP S)) - (sa (endP S) (16 + c))) - (dst D c 10)) (endP S)) (48 + c))) + (dst D c 12)) (setA (48 + c) (((sy (endP S)) - (sa (endP S) (16 + c))) - (dst D c 10)) (endP S))) s ∧ LF L σ s) ⟨b14.q0, f14.wq (by decide)⟩ (fun u15 hn15 => ?_)
          obtain ⟨b15, f15⟩ := hn15
          refine zp_gen (fun s => LB D W L (leaveX D c S) s ∧ LF L σ s) ⟨by
            first
            | exact lv_1 b15 rfl hb1 h56 h61
            | exact lv_2 b15 (m0_l h126).symm (by rw [show sa (setA (48 + c) 0 (endP S)) (48 + c) = 0 from if_pos rfl]; rfl) hb1 hor
            | exact lv_2 b15 (m0_r h126).symm (by rw [show sa (setA (48 + c) (sh (endP S) c) (endP S)) (48 + c) = sh (endP S) c from if_pos rfl]; rfl) hb1 hor
            | exact lv_3 b15 rfl (by rw [show sa (setA (48 + c) (sh (setBe 0 (setAb 0 S)) c) (setBe 0 (setAb 0 S))) (16 + c) = sa S (16 + c) from if_neg (by omega)]; rfl) hb1 (Int32.not_lt.mp h161)
            | exact lv_4 b15 (by rw [end16 h0 hc12 hb1, sub2] at h248; exact (m0_l h248).symm) (by rw [show sa (setA (48 + c) 0 (endP S)) (48 + c) = 0 from if_pos rfl, show sa (setA (48 + c) 0 (endP S)) (16 + c) = sa S (16 + c) from (if_neg (by omega)).trans (end16 h0 hc12 hb1)]) hb1 (i_nle h161) (Int32.not_le.mp h213)
            | exact lv_4 b15 (by rw [end16 h0 hc12 hb1, sub2] at h248 ⊢; exact (m0_r h248).symm) (by rw [show sa (setA (48 + c) ((sy (endP S) - sa (endP S) (16 + c)) - dst D c 10) (endP S)) (48 + c) = ((sy (endP S) - sa (endP S) (16 + c)) - dst D c 10) from if_pos rfl, show sa (setA (48 + c) ((sy (endP S) - sa (endP S) (16 + c)) - dst D c 10) (endP S)) (16 + c) = sa S (16 + c) from (if_neg (by omega)).trans (end16 h0 hc12 hb1)]) hb1 (i_nle h161) (Int32.not_le.mp h213)
            | exact lv_5 b15 (by rw [sub2] at h248; exact (m0_l h248).symm) hb1 (i_nle h161) (i_nlt h213)
            | exact lv_5 b15 (by rw [sub2] at h248 ⊢; exact (m0_r h248).symm) hb1 (i_nle h161) (i_nlt h213), f15⟩ (fun u16 hn16 => ?_)
          obtain ⟨b16, f16⟩ := hn16
          refine zp_aload_n dL_leaves_296 rfl (a := (lwm L)) (List.mem_of_getElem? (i := 4) rfl) ?_
          refine zp_iconst dL_leaves_297 (v := 4) (by decide) ?_
          refine zp_iload_n dL_leaves_298 rfl (x := (nI c)) (List.mem_of_getElem? (i := 3) rfl) ?_
          refine zp_imul dL_leaves_299 ?_
          rw [show ((4 * (nI c)) : Int32) = (nI (4 * c)) from pk_mul 4 c]
          refine zp_iconst dL_leaves_300 (v := 2) (by decide) ?_
          refine zp_iadd dL_leaves_301 ?_
          rw [show (((nI (4 * c)) + 2) : Int32) = (nI (4 * c + 2)) from nI_add (4 * c) 2]
          refine zp_iald_v dL_leaves_302 b16.Tm (Or.inl rfl) (j := (4 * c + 2)) (nI_clamp (by omega)) (vp_in_nI (by omega) (by decide)) (v := (dst D c 8)) ((b16.2.2.1.1 c (by omega)).2.2.2.2.2.2.1 2 (by decide)).1 ?_
          refine zp_aload dL_leaves_303 (a := (lwq L)) (List.mem_of_getElem? (i := 8) rfl) ?_
          refine zp_callS (st := []) (mc2 := 0) (ms2 := 0) dL_leaves_305 (c_L_pends l G (dst D c 8) (lwq L) _ b16.Tq) cl_L_10 st_L_pends rfl rfl (by omega) (by omega) (by omega) (Nat.le_of_ble_eq_true rfl) ?_
          rintro _ u17x ⟨rfl, hs17⟩
          refine zp_gen (fun s => LB D W L (pendP (dst D c 8) (leaveX D c S)) s ∧ LF L σ s) ⟨by rw [hs17]; exact b16.pend, by rw [hs17]; exact f16.trans LF.pend⟩ (fun u17 hn17 => ?_)
          obtain ⟨b17, f17⟩ := hn17
          refine zp_vret rfl dL_leaves_308 ?_
          exact ⟨rfl, b17.ig rfl rfl rfl (fun _ _ => rfl) (fun _ _ => rfl) (fun _ _ => rfl) rfl, f17⟩
    · skip
      refine zp_aload dL_leaves_164 (a := (lwq L)) (List.mem_of_getElem? (i := 8) rfl) ?_
      refine zp_iconst dL_leaves_166 (v := 1) (by decide) ?_
      refine zp_iconst dL_leaves_167 (v := 0) (by decide) ?_
      refine zp_iastore dL_leaves_168 hB.Tq (j := 1) (by decide) (zin (by decide)) ?_
      refine zp_gen (fun s => LB D W L (setAb 0 S) s ∧ LF L σ s) ⟨hB.q1, LF.refl.wq (by decide)⟩ (fun u18 hn18 => ?_)
      obtain ⟨b18, f18⟩ := hn18
      refine zp_aload dL_leaves_169 (a := (lwq L)) (List.mem_of_getElem? (i := 8) rfl) ?_
      refine zp_iconst dL_leaves_171 (v := 2) (by decide) ?_
      refine zp_iconst dL_leaves_172 (v := 0) (by decide) ?_
      refine zp_iastore dL_leaves_173 b18.Tq (j := 2) (by decide) (zin (by decide)) ?_
      refine zp_gen (fun s => LB D W L (setBe 0 (setAb 0 S)) s ∧ LF L σ s) ⟨b18.q2, f18.wq (by decide)⟩ (fun u19 hn19 => ?_)
      obtain ⟨b19, f19⟩ := hn19
      refine zp_aload_n dL_leaves_174 rfl (a := (lwa L)) (List.mem_of_getElem? (i := 6) rfl) ?_
      refine zp_bipush dL_leaves_175 (v := 48) (by decide) ?_
      refine zp_iload_n dL_leaves_177 rfl (x := (nI c)) (List.mem_of_getElem? (i := 3) rfl) ?_
      refine zp_iadd dL_leaves_178 ?_
      rw [show ((48 + (nI c)) : Int32) = (nI (48 + c)) from nI_add 48 c]
      refine zp_aload dL_leaves_179 (a := (lwh L)) (List.mem_of_getElem? (i := 7) rfl) ?_
      refine zp_iload_n dL_leaves_181 rfl (x := (nI c)) (List.mem_of_getElem? (i := 3) rfl) ?_
      refine zp_iald_v dL_leaves_182 b19.Th (Or.inl rfl) (j := (c)) (nI_clamp (by omega)) (vp_in_nI (by omega) (by decide)) (v := (sh (setBe 0 (setAb 0 S)) c)) (b19.rh (by omega)) ?_
      refine zp_iastore dL_leaves_183 b19.Ta (j := (48 + c)) (nI_clamp (by omega)) (vp_in_nI (by omega) (by decide)) ?_
      refine zp_gen (fun s => LB D W L (setA (48 + c) (sh (setBe 0 (setAb 0 S)) c) (setBe 0 (setAb 0 S))) s ∧ LF L σ s) ⟨b19.a (by omega), f19.wa hB.2.1⟩ (fun u20 hn20 => ?_)
      obtain ⟨b20, f20⟩ := hn20
      refine zp_aload dL_leaves_184 (a := (lwq L)) (List.mem_of_getElem? (i := 8) rfl) ?_
      refine zp_iconst dL_leaves_186 (v := 0) (by decide) ?_
      refine zp_aload_n dL_leaves_187 rfl (a := (lwa L)) (List.mem_of_getElem? (i := 6) rfl) ?_
      refine zp_bipush dL_leaves_188 (v := 16) (by decide) ?_
      refine zp_iload_n dL_leaves_190 rfl (x := (nI c)) (List.mem_of_getElem? (i := 3) rfl) ?_
      refine zp_iadd dL_leaves_191 ?_
      rw [show ((16 + (nI c)) : Int32) = (nI (16 + c)) from nI_add 16 c]
      refine zp_iald_v dL_leaves_192 b20.Ta (Or.inl rfl) (j := (16 + c)) (nI_clamp (by omega)) (vp_in_nI (by omega) (by decide)) (v := (sa (setA (48 + c) (sh (setBe 0 (setAb 0 S)) c) (setBe 0 (setAb 0 S))) (16 + c))) (b20.ra (by omega)) ?_
      refine zp_aload_n dL_leaves_193 rfl (a := (lwe L)) (List.mem_of_getElem? (i := 5) rfl) ?_
      refine zp_iconst dL_leaves_194 (v := 4) (by decide) ?_
      refine zp_iload_n dL_leaves_195 rfl (x := (nI c)) (List.mem_of_getElem? (i := 3) rfl) ?_
      refine zp_imul dL_leaves_196 ?_
      rw [show ((4 * (nI c)) : Int32) = (nI (4 * c)) from pk_mul 4 c]
      refine zp_iald_v dL_leaves_197 b20.Te (Or.inl rfl) (j := (4 * c)) (nI_clamp (by omega)) (vp_in_nI (by omega) (by decide)) (v := (dst D c 10)) ((b20.2.2.1.1 c (by omega)).2.2.2.2.2.2.1 0 (by decide)).2 ?_
      refine zp_iadd dL_leaves_198 ?_
      refine zp_aload dL_leaves_199 (a := (lwh L)) (List.mem_of_getElem? (i := 7) rfl) ?_
      refine zp_iload_n dL_leaves_201 rfl (x := (nI c)) (List.mem_of_getElem? (i := 3) rfl) ?_
      refine zp_iald_v dL_leaves_202 b20.Th (Or.inl rfl) (j := (c)) (nI_clamp (by omega)) (vp_in_nI (by omega) (by decide)) (v := (sh (setA (48 + c) (sh (setBe 0 (setAb 0 S)) c) (setBe 0 (setAb 0 S))) c)) (b20.rh (by omega)) ?_
      refine zp_iadd dL_leaves_203 ?_
      refine zp_iload dL_leaves_204 (x := (dst D c 12)) (List.mem_of_getElem? (i := 2) rfl) ?_
      refine zp_iadd dL_leaves_206 ?_
      refine zp_iastore dL_leaves_207 b20.Tq (j := 0) (by decide) (zin (by decide)) ?_
      refine zp_gen (fun s => LB D W L (setY ((((sa (setA (48 + c) (sh (setBe 0 (setAb 0 S)) c) (setBe 0 (setAb 0 S))) (16 + c)) + (dst D c 10)) + (sh (setA (48 + c) (sh (setBe 0 (setAb 0 S)) c) (setBe 0 (setAb 0 S))) c)) + (dst D c 12)) (setA (48 + c) (sh (setBe 0 (setAb 0 S)) c) (setBe 0 (setAb 0 S)))) s ∧ LF L σ s) ⟨b20.q0, f20.wq (by decide)⟩ (fun u21 hn21 => ?_)
      obtain ⟨b21, f21⟩ := hn21
      refine zp_goto dL_leaves_208 (tgt := 296) rfl ?_
      refine zp_gen (fun s => LB D W L (leaveX D c S) s ∧ LF L σ s) ⟨by
        first
        | exact lv_1 b21 rfl hb1 h56 h61
        | exact lv_2 b21 (m0_l h126).symm (by rw [show sa (setA (48 + c) 0 (endP S)) (48 + c) = 0 from if_pos rfl]; rfl) hb1 hor
        | exact lv_2 b21 (m0_r h126).symm (by rw [show sa (setA (48 + c) (sh (endP S) c) (endP S)) (48 + c) = sh (endP S) c from if_pos rfl]; rfl) hb1 hor
        | exact lv_3 b21 rfl (by rw [show sa (setA (48 + c) (sh (setBe 0 (setAb 0 S)) c) (setBe 0 (setAb 0 S))) (16 + c) = sa S (16 + c) from if_neg (by omega)]; rfl) hb1 (Int32.not_lt.mp h161)
        | exact lv_4 b21 (by rw [end16 h0 hc12 hb1, sub2] at h248; exact (m0_l h248).symm) (by rw [show sa (setA (48 + c) 0 (endP S)) (48 + c) = 0 from if_pos rfl, show sa (setA (48 + c) 0 (endP S)) (16 + c) = sa S (16 + c) from (if_neg (by omega)).trans (end16 h0 hc12 hb1)]) hb1 (i_nle h161) (Int32.not_le.mp h213)
        | exact lv_4 b21 (by rw [end16 h0 hc12 hb1, sub2] at h248 ⊢; exact (m0_r h248).symm) (by rw [show sa (setA (48 + c) ((sy (endP S) - sa (endP S) (16 + c)) - dst D c 10) (endP S)) (48 + c) = ((sy (endP S) - sa (endP S) (16 + c)) - dst D c 10) from if_pos rfl, show sa (setA (48 + c) ((sy (endP S) - sa (endP S) (16 + c)) - dst D c 10) (endP S)) (16 + c) = sa S (16 + c) from (if_neg (by omega)).trans (end16 h0 hc12 hb1)]) hb1 (i_nle h161) (Int32.not_le.mp h213)
        | exact lv_5 b21 (by rw [sub2] at h248; exact (m0_l h248).symm) hb1 (i_nle h161) (i_nlt h213)
        | exact lv_5 b21 (by rw [sub2] at h248 ⊢; exact (m0_r h248).symm) hb1 (i_nle h161) (i_nlt h213), f21⟩ (fun u22 hn22 => ?_)
      obtain ⟨b22, f22⟩ := hn22
      refine zp_aload_n dL_leaves_296 rfl (a := (lwm L)) (List.mem_of_getElem? (i := 4) rfl) ?_
      refine zp_iconst dL_leaves_297 (v := 4) (by decide) ?_
      refine zp_iload_n dL_leaves_298 rfl (x := (nI c)) (List.mem_of_getElem? (i := 3) rfl) ?_
      refine zp_imul dL_leaves_299 ?_
      rw [show ((4 * (nI c)) : Int32) = (nI (4 * c)) from pk_mul 4 c]
      refine zp_iconst dL_leaves_300 (v := 2) (by decide) ?_
      refine zp_iadd dL_leaves_301 ?_
      rw [show (((nI (4 * c)) + 2) : Int32) = (nI (4 * c + 2)) from nI_add (4 * c) 2]
      refine zp_iald_v dL_leaves_302 b22.Tm (Or.inl rfl) (j := (4 * c + 2)) (nI_clamp (by omega)) (vp_in_nI (by omega) (by decide)) (v := (dst D c 8)) ((b22.2.2.1.1 c (by omega)).2.2.2.2.2.2.1 2 (by decide)).1 ?_
      refine zp_aload dL_leaves_303 (a := (lwq L)) (List.mem_of_getElem? (i := 8) rfl) ?_
      refine zp_callS (st := []) (mc2 := 0) (ms2 := 0) dL_leaves_305 (c_L_pends l G (dst D c 8) (lwq L) _ b22.Tq) cl_L_10 st_L_pends rfl rfl (by omega) (by omega) (by omega) (Nat.le_of_ble_eq_true rfl) ?_
      rintro _ u23x ⟨rfl, hs23⟩
      refine zp_gen (fun s => LB D W L (pendP (dst D c 8) (leaveX D c S)) s ∧ LF L σ s) ⟨by rw [hs23]; exact b22.pend, by rw [hs23]; exact f22.trans LF.pend⟩ (fun u23 hn23 => ?_)
      obtain ⟨b23, f23⟩ := hn23
      refine zp_vret rfl dL_leaves_308 ?_
      exact ⟨rfl, b23.ig rfl rfl rfl (fun _ _ => rfl) (fun _ _ => rfl) (fun _ _ => rfl) rfl, f23⟩
  · have hb1 : sw S c = true := Decidable.byContradiction fun q => by rw [zb_f q] at h18; exact absurd h18 (by decide)
    refine zp_iconst dL_leaves_21 (v := 1) (by decide) ?_
    refine zp_goto dL_leaves_22 (tgt := 26) rfl ?_
    refine zp_istore dL_leaves_26 (Nat.le_of_ble_eq_true rfl) (lv2 := [(7, .int 1), (6, .int (dst D c 12)), (0, .int (nI c)), (1, .ref (lwm L)), (2, .ref (lwe L)), (3, .ref (lwa L)), (4, .ref (lwh L)), (5, .ref (lwq L))]) rfl ?_
    refine zp_aload dL_leaves_28 (a := (lwq L)) (List.mem_of_getElem? (i := 7) rfl) ?_
    refine zp_iconst dL_leaves_30 (v := 0) (by decide) ?_
    refine zp_iald_v dL_leaves_31 hB.Tq (Or.inl rfl) (j := 0) (by decide) (zin (by decide)) (v := (sy S)) hB.r0 ?_
    refine zp_aload_n dL_leaves_32 rfl (a := (lwa L)) (List.mem_of_getElem? (i := 5) rfl) ?_
    refine zp_bipush dL_leaves_33 (v := 16) (by decide) ?_
    refine zp_iload_n dL_leaves_35 rfl (x := (nI c)) (List.mem_of_getElem? (i := 2) rfl) ?_
    refine zp_iadd dL_leaves_36 ?_
    rw [show ((16 + (nI c)) : Int32) = (nI (16 + c)) from nI_add 16 c]
    refine zp_iald_v dL_leaves_37 hB.Ta (Or.inl rfl) (j := (16 + c)) (nI_clamp (by omega)) (vp_in_nI (by omega) (by decide)) (v := (sa S (16 + c))) (hB.ra (by omega)) ?_
    refine zp_isub dL_leaves_38 ?_
    refine zp_aload_n dL_leaves_39 rfl (a := (lwe L)) (List.mem_of_getElem? (i := 4) rfl) ?_
    refine zp_iconst dL_leaves_40 (v := 4) (by decide) ?_
    refine zp_iload_n dL_leaves_41 rfl (x := (nI c)) (List.mem_of_getElem? (i := 2) rfl) ?_
    refine zp_imul dL_leaves_42 ?_
    rw [show ((4 * (nI c)) : Int32) = (nI (4 * c)) from pk_mul 4 c]
    refine zp_iald_v dL_leaves_43 hB.Te (Or.inl rfl) (j := (4 * c)) (nI_clamp (by omega)) (vp_in_nI (by omega) (by decide)) (v := (dst D c 10)) ((hB.2.2.1.1 c (by omega)).2.2.2.2.2.2.1 0 (by decide)).2 ?_
    refine zp_isub dL_leaves_44 ?_
    refine zp_istore dL_leaves_45 (Nat.le_of_ble_eq_true rfl) (lv2 := [(8, .int (((sy S) - (sa S (16 + c))) - (dst D c 10))), (7, .int 1), (6, .int (dst D c 12)), (0, .int (nI c)), (1, .ref (lwm L)), (2, .ref (lwe L)), (3, .ref (lwa L)), (4, .ref (lwh L)), (5, .ref (lwq L))]) rfl ?_
    refine zp_iload dL_leaves_47 (x := 1) (List.mem_of_getElem? (i := 1) rfl) ?_
    refine zp_if_eq dL_leaves_49 (tgt := 106) rfl (fun q => absurd q (by decide)) (fun _ => ?_)
    refine zp_aload dL_leaves_52 (a := (lwh L)) (List.mem_of_getElem? (i := 7) rfl) ?_
    refine zp_iload_n dL_leaves_54 rfl (x := (nI c)) (List.mem_of_getElem? (i := 3) rfl) ?_
    refine zp_iald_v dL_leaves_55 hB.Th (Or.inl rfl) (j := (c)) (nI_clamp (by omega)) (vp_in_nI (by omega) (by decide)) (v := (sh S c)) (hB.rh (by omega)) ?_
    refine zp_if_gt dL_leaves_56 (tgt := 106) rfl (fun h56 => ?_) (fun h56 => ?_)
    · have hor : 0 < sh S c ∨ 0 < dst D c 12 := Or.inl h56
      refine zp_iload dL_leaves_106 (x := 1) (List.mem_of_getElem? (i := 1) rfl) ?_
      refine zp_if_eq dL_leaves_108 (tgt := 157) rfl (fun q => absurd q (by decide)) (fun _ => ?_)
      refine zp_aload dL_leaves_111 (a := (lwq L)) (List.mem_of_getElem? (i := 8) rfl) ?_
      refine zp_aload_n dL_leaves_113 rfl (a := (lwa L)) (List.mem_of_getElem? (i := 6) rfl) ?_
      refine zp_callS (st := []) (mc2 := 0) (ms2 := 0) dL_leaves_114 (c_L_ends l G D W L S _ hB) cl_L_16 st_L_ends rfl rfl (by omega) (by omega) (by omega) (Nat.le_of_ble_eq_true rfl) ?_
      rintro _ u24 ⟨rfl, b24, f24⟩
      refine zp_aload_n dL_leaves_117 rfl (a := (lwa L)) (List.mem_of_getElem? (i := 6) rfl) ?_
      refine zp_bipush dL_leaves_118 (v := 48) (by decide) ?_
      refine zp_iload_n dL_leaves_120 rfl (x := (nI c)) (List.mem_of_getElem? (i := 3) rfl) ?_
      refine zp_iadd dL_leaves_121 ?_
      rw [show ((48 + (nI c)) : Int32) = (nI (48 + c)) from nI_add 48 c]
      refine zp_aload dL_leaves_122 (a := (lwh L)) (List.mem_of_getElem? (i := 7) rfl) ?_
      refine zp_iload_n dL_leaves_124 rfl (x := (nI c)) (List.mem_of_getElem? (i := 3) rfl) ?_
      refine zp_iald_v dL_leaves_125 b24.Th (Or.inl rfl) (j := (c)) (nI_clamp (by omega)) (vp_in_nI (by omega) (by decide)) (v := (sh (endP S) c)) (b24.rh (by omega)) ?_
      refine zp_if_le dL_leaves_126 (tgt := 136) rfl (fun h126 => ?_) (fun h126 => ?_)
      · skip
        refine zp_iconst dL_leaves_136 (v := 0) (by decide) ?_
        refine zp_iastore dL_leaves_137 b24.Ta (j := (48 + c)) (nI_clamp (by omega)) (vp_in_nI (by omega) (by decide)) ?_
        refine zp_gen (fun s => LB D W L (setA (48 + c) 0 (endP S)) s ∧ LF L σ s) ⟨b24.a (by omega), f24.wa hB.2.1⟩ (fun u25 hn25 => ?_)
        obtain ⟨b25, f25⟩ := hn25
        refine zp_aload dL_leaves_138 (a := (lwq L)) (List.mem_of_getElem? (i := 8) rfl) ?_
        refine zp_iconst dL_leaves_140 (v := 0) (by decide) ?_
        refine zp_dup2 dL_leaves_141 rfl rfl ?_
        refine zp_iald_v dL_leaves_142 b25.Tq (Or.inl rfl) (j := 0) (by decide) (zin (by decide)) (v := (sy (setA (48 + c) 0 (endP S)))) b25.r0 ?_
        refine zp_aload_n dL_leaves_143 rfl (a := (lwa L)) (List.mem_of_getElem? (i := 6) rfl) ?_
        refine zp_bipush dL_leaves_144 (v := 48) (by decide) ?_
        refine zp_iload_n dL_leaves_146 rfl (x := (nI c)) (List.mem_of_getElem? (i := 3) rfl) ?_
        refine zp_iadd dL_leaves_147 ?_
        rw [show ((48 + (nI c)) : Int32) = (nI (48 + c)) from nI_add 48 c]
        refine zp_iald_v dL_leaves_148 b25.Ta (Or.inl rfl) (j := (48 + c)) (nI_clamp (by omega)) (vp_in_nI (by omega) (by decide)) (v := (sa (setA (48 + c) 0 (endP S)) (48 + c))) (b25.ra (by omega)) ?_
        refine zp_iload dL_leaves_149 (x := (dst D c 12)) (List.mem_of_getElem? (i := 2) rfl) ?_
        refine zp_iadd dL_leaves_151 ?_
        refine zp_iadd dL_leaves_152 ?_
        refine zp_iastore dL_leaves_153 b25.Tq (j := 0) (by decide) (zin (by decide)) ?_
        refine zp_gen (fun s => LB D W L (setY ((sy (setA (48 + c) 0 (endP S))) + ((sa (setA (48 + c) 0 (endP S)) (48 + c)) + (dst D c 12))) (setA (48 + c) 0 (endP S))) s ∧ LF L σ s) ⟨b25.q0, f25.wq (by decide)⟩ (fun u26 hn26 => ?_)
        obtain ⟨b26, f26⟩ := hn26
        refine zp_goto dL_leaves_154 (tgt := 296) rfl ?_
        refine zp_gen (fun s => LB D W L (leaveX D c S) s ∧ LF L σ s) ⟨by
          first
          | exact lv_1 b26 rfl hb1 h56 h61
          | exact lv_2 b26 (m0_l h126).symm (by rw [show sa (setA (48 + c) 0 (endP S)) (48 + c) = 0 from if_pos rfl]; rfl) hb1 hor
          | exact lv_2 b26 (m0_r h126).symm (by rw [show sa (setA (48 + c) (sh (endP S) c) (endP S)) (48 + c) = sh (endP S) c from if_pos rfl]; rfl) hb1 hor
          | exact lv_3 b26 rfl (by rw [show sa (setA (48 + c) (sh (setBe 0 (setAb 0 S)) c) (setBe 0 (setAb 0 S))) (16 + c) = sa S (16 + c) from if_neg (by omega)]; rfl) hb1 (Int32.not_lt.mp h161)
          | exact lv_4 b26 (by rw [end16 h0 hc12 hb1, sub2] at h248; exact (m0_l h248).symm) (by rw [show sa (setA (48 + c) 0 (endP S)) (48 + c) = 0 from if_pos rfl, show sa (setA (48 + c) 0 (endP S)) (16 + c) = sa S (16 + c) from (if_neg (by omega)).trans (end16 h0 hc12 hb1)]) hb1 (i_nle h161) (Int32.not_le.mp h213)
          | exact lv_4 b26 (by rw [end16 h0 hc12 hb1, sub2] at h248 ⊢; exact (m0_r h248).symm) (by rw [show sa (setA (48 + c) ((sy (endP S) - sa (endP S) (16 + c)) - dst D c 10) (endP S)) (48 + c) = ((sy (endP S) - sa (endP S) (16 + c)) - dst D c 10) from if_pos rfl, show sa (setA (48 + c) ((sy (endP S) - sa (endP S) (16 + c)) - dst D c 10) (endP S)) (16 + c) = sa S (16 + c) from (if_neg (by omega)).trans (end16 h0 hc12 hb1)]) hb1 (i_nle h161) (Int32.not_le.mp h213)
          | exact lv_5 b26 (by rw [sub2] at h248; exact (m0_l h248).symm) hb1 (i_nle h161) (i_nlt h213)
          | exact lv_5 b26 (by rw [sub2] at h248 ⊢; exact (m0_r h248).symm) hb1 (i_nle h161) (i_nlt h213), f26⟩ (fun u27 hn27 => ?_)
        obtain ⟨b27, f27⟩ := hn27
        refine zp_aload_n dL_leaves_296 rfl (a := (lwm L)) (List.mem_of_getElem? (i := 4) rfl) ?_
        refine zp_iconst dL_leaves_297 (v := 4) (by decide) ?_
        refine zp_iload_n dL_leaves_298 rfl (x := (nI c)) (List.mem_of_getElem? (i := 3) rfl) ?_
        refine zp_imul dL_leaves_299 ?_
        rw [show ((4 * (nI c)) : Int32) = (nI (4 * c)) from pk_mul 4 c]
        refine zp_iconst dL_leaves_300 (v := 2) (by decide) ?_
        refine zp_iadd dL_leaves_301 ?_
        rw [show (((nI (4 * c)) + 2) : Int32) = (nI (4 * c + 2)) from nI_add (4 * c) 2]
        refine zp_iald_v dL_leaves_302 b27.Tm (Or.inl rfl) (j := (4 * c + 2)) (nI_clamp (by omega)) (vp_in_nI (by omega) (by decide)) (v := (dst D c 8)) ((b27.2.2.1.1 c (by omega)).2.2.2.2.2.2.1 2 (by decide)).1 ?_
        refine zp_aload dL_leaves_303 (a := (lwq L)) (List.mem_of_getElem? (i := 8) rfl) ?_
        refine zp_callS (st := []) (mc2 := 0) (ms2 := 0) dL_leaves_305 (c_L_pends l G (dst D c 8) (lwq L) _ b27.Tq) cl_L_10 st_L_pends rfl rfl (by omega) (by omega) (by omega) (Nat.le_of_ble_eq_true rfl) ?_
        rintro _ u28x ⟨rfl, hs28⟩
        refine zp_gen (fun s => LB D W L (pendP (dst D c 8) (leaveX D c S)) s ∧ LF L σ s) ⟨by rw [hs28]; exact b27.pend, by rw [hs28]; exact f27.trans LF.pend⟩ (fun u28 hn28 => ?_)
        obtain ⟨b28, f28⟩ := hn28
        refine zp_vret rfl dL_leaves_308 ?_
        exact ⟨rfl, b28.ig rfl rfl rfl (fun _ _ => rfl) (fun _ _ => rfl) (fun _ _ => rfl) rfl, f28⟩
      · skip
        refine zp_aload dL_leaves_129 (a := (lwh L)) (List.mem_of_getElem? (i := 7) rfl) ?_
        refine zp_iload_n dL_leaves_131 rfl (x := (nI c)) (List.mem_of_getElem? (i := 3) rfl) ?_
        refine zp_iald_v dL_leaves_132 b24.Th (Or.inl rfl) (j := (c)) (nI_clamp (by omega)) (vp_in_nI (by omega) (by decide)) (v := (sh (endP S) c)) (b24.rh (by omega)) ?_
        refine zp_goto dL_leaves_133 (tgt := 137) rfl ?_
        refine zp_iastore dL_leaves_137 b24.Ta (j := (48 + c)) (nI_clamp (by omega)) (vp_in_nI (by omega) (by decide)) ?_
        refine zp_gen (fun s => LB D W L (setA (48 + c) (sh (endP S) c) (endP S)) s ∧ LF L σ s) ⟨b24.a (by omega), f24.wa hB.2.1⟩ (fun u29 hn29 => ?_)
        obtain ⟨b29, f29⟩ := hn29
        refine zp_aload dL_leaves_138 (a := (lwq L)) (List.mem_of_getElem? (i := 8) rfl) ?_
        refine zp_iconst dL_leaves_140 (v := 0) (by decide) ?_
        refine zp_dup2 dL_leaves_141 rfl rfl ?_
        refine zp_iald_v dL_leaves_142 b29.Tq (Or.inl rfl) (j := 0) (by decide) (zin (by decide)) (v := (sy (setA (48 + c) (sh (endP S) c) (endP S)))) b29.r0 ?_
        refine zp_aload_n dL_leaves_143 rfl (a := (lwa L)) (List.mem_of_getElem? (i := 6) rfl) ?_
        refine zp_bipush dL_leaves_144 (v := 48) (by decide) ?_
        refine zp_iload_n dL_leaves_146 rfl (x := (nI c)) (List.mem_of_getElem? (i := 3) rfl) ?_
        refine zp_iadd dL_leaves_147 ?_
        rw [show ((48 + (nI c)) : Int32) = (nI (48 + c)) from nI_add 48 c]
        refine zp_iald_v dL_leaves_148 b29.Ta (Or.inl rfl) (j := (48 + c)) (nI_clamp (by omega)) (vp_in_nI (by omega) (by decide)) (v := (sa (setA (48 + c) (sh (endP S) c) (endP S)) (48 + c))) (b29.ra (by omega)) ?_
        refine zp_iload dL_leaves_149 (x := (dst D c 12)) (List.mem_of_getElem? (i := 2) rfl) ?_
        refine zp_iadd dL_leaves_151 ?_
        refine zp_iadd dL_leaves_152 ?_
        refine zp_iastore dL_leaves_153 b29.Tq (j := 0) (by decide) (zin (by decide)) ?_
        refine zp_gen (fun s => LB D W L (setY ((sy (setA (48 + c) (sh (endP S) c) (endP S))) + ((sa (setA (48 + c) (sh (endP S) c) (endP S)) (48 + c)) + (dst D c 12))) (setA (48 + c) (sh (endP S) c) (endP S))) s ∧ LF L σ s) ⟨b29.q0, f29.wq (by decide)⟩ (fun u30 hn30 => ?_)
        obtain ⟨b30, f30⟩ := hn30
        refine zp_goto dL_leaves_154 (tgt := 296) rfl ?_
        refine zp_gen (fun s => LB D W L (leaveX D c S) s ∧ LF L σ s) ⟨by
          first
          | exact lv_1 b30 rfl hb1 h56 h61
          | exact lv_2 b30 (m0_l h126).symm (by rw [show sa (setA (48 + c) 0 (endP S)) (48 + c) = 0 from if_pos rfl]; rfl) hb1 hor
          | exact lv_2 b30 (m0_r h126).symm (by rw [show sa (setA (48 + c) (sh (endP S) c) (endP S)) (48 + c) = sh (endP S) c from if_pos rfl]; rfl) hb1 hor
          | exact lv_3 b30 rfl (by rw [show sa (setA (48 + c) (sh (setBe 0 (setAb 0 S)) c) (setBe 0 (setAb 0 S))) (16 + c) = sa S (16 + c) from if_neg (by omega)]; rfl) hb1 (Int32.not_lt.mp h161)
          | exact lv_4 b30 (by rw [end16 h0 hc12 hb1, sub2] at h248; exact (m0_l h248).symm) (by rw [show sa (setA (48 + c) 0 (endP S)) (48 + c) = 0 from if_pos rfl, show sa (setA (48 + c) 0 (endP S)) (16 + c) = sa S (16 + c) from (if_neg (by omega)).trans (end16 h0 hc12 hb1)]) hb1 (i_nle h161) (Int32.not_le.mp h213)
          | exact lv_4 b30 (by rw [end16 h0 hc12 hb1, sub2] at h248 ⊢; exact (m0_r h248).symm) (by rw [show sa (setA (48 + c) ((sy (endP S) - sa (endP S) (16 + c)) - dst D c 10) (endP S)) (48 + c) = ((sy (endP S) - sa (endP S) (16 + c)) - dst D c 10) from if_pos rfl, show sa (setA (48 + c) ((sy (endP S) - sa (endP S) (16 + c)) - dst D c 10) (endP S)) (16 + c) = sa S (16 + c) from (if_neg (by omega)).trans (end16 h0 hc12 hb1)]) hb1 (i_nle h161) (Int32.not_le.mp h213)
          | exact lv_5 b30 (by rw [sub2] at h248; exact (m0_l h248).symm) hb1 (i_nle h161) (i_nlt h213)
          | exact lv_5 b30 (by rw [sub2] at h248 ⊢; exact (m0_r h248).symm) hb1 (i_nle h161) (i_nlt h213), f30⟩ (fun u31 hn31 => ?_)
        obtain ⟨b31, f31⟩ := hn31
        refine zp_aload_n dL_leaves_296 rfl (a := (lwm L)) (List.mem_of_getElem? (i := 4) rfl) ?_
        refine zp_iconst dL_leaves_297 (v := 4) (by decide) ?_
        refine zp_iload_n dL_leaves_298 rfl (x := (nI c)) (List.mem_of_getElem? (i := 3) rfl) ?_
        refine zp_imul dL_leaves_299 ?_
        rw [show ((4 * (nI c)) : Int32) = (nI (4 * c)) from pk_mul 4 c]
        refine zp_iconst dL_leaves_300 (v := 2) (by decide) ?_
        refine zp_iadd dL_leaves_301 ?_
        rw [show (((nI (4 * c)) + 2) : Int32) = (nI (4 * c + 2)) from nI_add (4 * c) 2]
        refine zp_iald_v dL_leaves_302 b31.Tm (Or.inl rfl) (j := (4 * c + 2)) (nI_clamp (by omega)) (vp_in_nI (by omega) (by decide)) (v := (dst D c 8)) ((b31.2.2.1.1 c (by omega)).2.2.2.2.2.2.1 2 (by decide)).1 ?_
        refine zp_aload dL_leaves_303 (a := (lwq L)) (List.mem_of_getElem? (i := 8) rfl) ?_
        refine zp_callS (st := []) (mc2 := 0) (ms2 := 0) dL_leaves_305 (c_L_pends l G (dst D c 8) (lwq L) _ b31.Tq) cl_L_10 st_L_pends rfl rfl (by omega) (by omega) (by omega) (Nat.le_of_ble_eq_true rfl) ?_
        rintro _ u32x ⟨rfl, hs32⟩
        refine zp_gen (fun s => LB D W L (pendP (dst D c 8) (leaveX D c S)) s ∧ LF L σ s) ⟨by rw [hs32]; exact b31.pend, by rw [hs32]; exact f31.trans LF.pend⟩ (fun u32 hn32 => ?_)
        obtain ⟨b32, f32⟩ := hn32
        refine zp_vret rfl dL_leaves_308 ?_
        exact ⟨rfl, b32.ig rfl rfl rfl (fun _ _ => rfl) (fun _ _ => rfl) (fun _ _ => rfl) rfl, f32⟩
    · skip
      refine zp_iload dL_leaves_59 (x := (dst D c 12)) (List.mem_of_getElem? (i := 2) rfl) ?_
      refine zp_if_ne dL_leaves_61 (tgt := 106) rfl (fun h61 => ?_) (fun h61 => ?_)
      · have hor : 0 < sh S c ∨ 0 < dst D c 12 := Or.inr (i_pos2 h12 h61)
        refine zp_iload dL_leaves_106 (x := 1) (List.mem_of_getElem? (i := 1) rfl) ?_
        refine zp_if_eq dL_leaves_108 (tgt := 157) rfl (fun q => absurd q (by decide)) (fun _ => ?_)
        refine zp_aload dL_leaves_111 (a := (lwq L)) (List.mem_of_getElem? (i := 8) rfl) ?_
        refine zp_aload_n dL_leaves_113 rfl (a := (lwa L)) (List.mem_of_getElem? (i := 6) rfl) ?_
        refine zp_callS (st := []) (mc2 := 0) (ms2 := 0) dL_leaves_114 (c_L_ends l G D W L S _ hB) cl_L_16 st_L_ends rfl rfl (by omega) (by omega) (by omega) (Nat.le_of_ble_eq_true rfl) ?_
        rintro _ u33 ⟨rfl, b33, f33⟩
        refine zp_aload_n dL_leaves_117 rfl (a := (lwa L)) (List.mem_of_getElem? (i := 6) rfl) ?_
        refine zp_bipush dL_leaves_118 (v := 48) (by decide) ?_
        refine zp_iload_n dL_leaves_120 rfl (x := (nI c)) (List.mem_of_getElem? (i := 3) rfl) ?_
        refine zp_iadd dL_leaves_121 ?_
        rw [show ((48 + (nI c)) : Int32) = (nI (48 + c)) from nI_add 48 c]
        refine zp_aload dL_leaves_122 (a := (lwh L)) (List.mem_of_getElem? (i := 7) rfl) ?_
        refine zp_iload_n dL_leaves_124 rfl (x := (nI c)) (List.mem_of_getElem? (i := 3) rfl) ?_
        refine zp_iald_v dL_leaves_125 b33.Th (Or.inl rfl) (j := (c)) (nI_clamp (by omega)) (vp_in_nI (by omega) (by decide)) (v := (sh (endP S) c)) (b33.rh (by omega)) ?_
        refine zp_if_le dL_leaves_126 (tgt := 136) rfl (fun h126 => ?_) (fun h126 => ?_)
        · skip
          refine zp_iconst dL_leaves_136 (v := 0) (by decide) ?_
          refine zp_iastore dL_leaves_137 b33.Ta (j := (48 + c)) (nI_clamp (by omega)) (vp_in_nI (by omega) (by decide)) ?_
          refine zp_gen (fun s => LB D W L (setA (48 + c) 0 (endP S)) s ∧ LF L σ s) ⟨b33.a (by omega), f33.wa hB.2.1⟩ (fun u34 hn34 => ?_)
          obtain ⟨b34, f34⟩ := hn34
          refine zp_aload dL_leaves_138 (a := (lwq L)) (List.mem_of_getElem? (i := 8) rfl) ?_
          refine zp_iconst dL_leaves_140 (v := 0) (by decide) ?_
          refine zp_dup2 dL_leaves_141 rfl rfl ?_
          refine zp_iald_v dL_leaves_142 b34.Tq (Or.inl rfl) (j := 0) (by decide) (zin (by decide)) (v := (sy (setA (48 + c) 0 (endP S)))) b34.r0 ?_
          refine zp_aload_n dL_leaves_143 rfl (a := (lwa L)) (List.mem_of_getElem? (i := 6) rfl) ?_
          refine zp_bipush dL_leaves_144 (v := 48) (by decide) ?_
          refine zp_iload_n dL_leaves_146 rfl (x := (nI c)) (List.mem_of_getElem? (i := 3) rfl) ?_
          refine zp_iadd dL_leaves_147 ?_
          rw [show ((48 + (nI c)) : Int32) = (nI (48 + c)) from nI_add 48 c]
          refine zp_iald_v dL_leaves_148 b34.Ta (Or.inl rfl) (j := (48 + c)) (nI_clamp (by omega)) (vp_in_nI (by omega) (by decide)) (v := (sa (setA (48 + c) 0 (endP S)) (48 + c))) (b34.ra (by omega)) ?_
          refine zp_iload dL_leaves_149 (x := (dst D c 12)) (List.mem_of_getElem? (i := 2) rfl) ?_
          refine zp_iadd dL_leaves_151 ?_
          refine zp_iadd dL_leaves_152 ?_
          refine zp_iastore dL_leaves_153 b34.Tq (j := 0) (by decide) (zin (by decide)) ?_
          refine zp_gen (fun s => LB D W L (setY ((sy (setA (48 + c) 0 (endP S))) + ((sa (setA (48 + c) 0 (endP S)) (48 + c)) + (dst D c 12))) (setA (48 + c) 0 (endP S))) s ∧ LF L σ s) ⟨b34.q0, f34.wq (by decide)⟩ (fun u35 hn35 => ?_)
          obtain ⟨b35, f35⟩ := hn35
          refine zp_goto dL_leaves_154 (tgt := 296) rfl ?_
          refine zp_gen (fun s => LB D W L (leaveX D c S) s ∧ LF L σ s) ⟨by
            first
            | exact lv_1 b35 rfl hb1 h56 h61
            | exact lv_2 b35 (m0_l h126).symm (by rw [show sa (setA (48 + c) 0 (endP S)) (48 + c) = 0 from if_pos rfl]; rfl) hb1 hor
            | exact lv_2 b35 (m0_r h126).symm (by rw [show sa (setA (48 + c) (sh (endP S) c) (endP S)) (48 + c) = sh (endP S) c from if_pos rfl]; rfl) hb1 hor
            | exact lv_3 b35 rfl (by rw [show sa (setA (48 + c) (sh (setBe 0 (setAb 0 S)) c) (setBe 0 (setAb 0 S))) (16 + c) = sa S (16 + c) from if_neg (by omega)]; rfl) hb1 (Int32.not_lt.mp h161)
            | exact lv_4 b35 (by rw [end16 h0 hc12 hb1, sub2] at h248; exact (m0_l h248).symm) (by rw [show sa (setA (48 + c) 0 (endP S)) (48 + c) = 0 from if_pos rfl, show sa (setA (48 + c) 0 (endP S)) (16 + c) = sa S (16 + c) from (if_neg (by omega)).trans (end16 h0 hc12 hb1)]) hb1 (i_nle h161) (Int32.not_le.mp h213)
            | exact lv_4 b35 (by rw [end16 h0 hc12 hb1, sub2] at h248 ⊢; exact (m0_r h248).symm) (by rw [show sa (setA (48 + c) ((sy (endP S) - sa (endP S) (16 + c)) - dst D c 10) (endP S)) (48 + c) = ((sy (endP S) - sa (endP S) (16 + c)) - dst D c 10) from if_pos rfl, show sa (setA (48 + c) ((sy (endP S) - sa (endP S) (16 + c)) - dst D c 10) (endP S)) (16 + c) = sa S (16 + c) from (if_neg (by omega)).trans (end16 h0 hc12 hb1)]) hb1 (i_nle h161) (Int32.not_le.mp h213)
            | exact lv_5 b35 (by rw [sub2] at h248; exact (m0_l h248).symm) hb1 (i_nle h161) (i_nlt h213)
            | exact lv_5 b35 (by rw [sub2] at h248 ⊢; exact (m0_r h248).symm) hb1 (i_nle h161) (i_nlt h213), f35⟩ (fun u36 hn36 => ?_)
          obtain ⟨b36, f36⟩ := hn36
          refine zp_aload_n dL_leaves_296 rfl (a := (lwm L)) (List.mem_of_getElem? (i := 4) rfl) ?_
          refine zp_iconst dL_leaves_297 (v := 4) (by decide) ?_
          refine zp_iload_n dL_leaves_298 rfl (x := (nI c)) (List.mem_of_getElem? (i := 3) rfl) ?_
          refine zp_imul dL_leaves_299 ?_
          rw [show ((4 * (nI c)) : Int32) = (nI (4 * c)) from pk_mul 4 c]
          refine zp_iconst dL_leaves_300 (v := 2) (by decide) ?_
          refine zp_iadd dL_leaves_301 ?_
          rw [show (((nI (4 * c)) + 2) : Int32) = (nI (4 * c + 2)) from nI_add (4 * c) 2]
          refine zp_iald_v dL_leaves_302 b36.Tm (Or.inl rfl) (j := (4 * c + 2)) (nI_clamp (by omega)) (vp_in_nI (by omega) (by decide)) (v := (dst D c 8)) ((b36.2.2.1.1 c (by omega)).2.2.2.2.2.2.1 2 (by decide)).1 ?_
          refine zp_aload dL_leaves_303 (a := (lwq L)) (List.mem_of_getElem? (i := 8) rfl) ?_
          refine zp_callS (st := []) (mc2 := 0) (ms2 := 0) dL_leaves_305 (c_L_pends l G (dst D c 8) (lwq L) _ b36.Tq) cl_L_10 st_L_pends rfl rfl (by omega) (by omega) (by omega) (Nat.le_of_ble_eq_true rfl) ?_
          rintro _ u37x ⟨rfl, hs37⟩
          refine zp_gen (fun s => LB D W L (pendP (dst D c 8) (leaveX D c S)) s ∧ LF L σ s) ⟨by rw [hs37]; exact b36.pend, by rw [hs37]; exact f36.trans LF.pend⟩ (fun u37 hn37 => ?_)
          obtain ⟨b37, f37⟩ := hn37
          refine zp_vret rfl dL_leaves_308 ?_
          exact ⟨rfl, b37.ig rfl rfl rfl (fun _ _ => rfl) (fun _ _ => rfl) (fun _ _ => rfl) rfl, f37⟩
        · skip
          refine zp_aload dL_leaves_129 (a := (lwh L)) (List.mem_of_getElem? (i := 7) rfl) ?_
          refine zp_iload_n dL_leaves_131 rfl (x := (nI c)) (List.mem_of_getElem? (i := 3) rfl) ?_
          refine zp_iald_v dL_leaves_132 b33.Th (Or.inl rfl) (j := (c)) (nI_clamp (by omega)) (vp_in_nI (by omega) (by decide)) (v := (sh (endP S) c)) (b33.rh (by omega)) ?_
          refine zp_goto dL_leaves_133 (tgt := 137) rfl ?_
          refine zp_iastore dL_leaves_137 b33.Ta (j := (48 + c)) (nI_clamp (by omega)) (vp_in_nI (by omega) (by decide)) ?_
          refine zp_gen (fun s => LB D W L (setA (48 + c) (sh (endP S) c) (endP S)) s ∧ LF L σ s) ⟨b33.a (by omega), f33.wa hB.2.1⟩ (fun u38 hn38 => ?_)
          obtain ⟨b38, f38⟩ := hn38
          refine zp_aload dL_leaves_138 (a := (lwq L)) (List.mem_of_getElem? (i := 8) rfl) ?_
          refine zp_iconst dL_leaves_140 (v := 0) (by decide) ?_
          refine zp_dup2 dL_leaves_141 rfl rfl ?_
          refine zp_iald_v dL_leaves_142 b38.Tq (Or.inl rfl) (j := 0) (by decide) (zin (by decide)) (v := (sy (setA (48 + c) (sh (endP S) c) (endP S)))) b38.r0 ?_
          refine zp_aload_n dL_leaves_143 rfl (a := (lwa L)) (List.mem_of_getElem? (i := 6) rfl) ?_
          refine zp_bipush dL_leaves_144 (v := 48) (by decide) ?_
          refine zp_iload_n dL_leaves_146 rfl (x := (nI c)) (List.mem_of_getElem? (i := 3) rfl) ?_
          refine zp_iadd dL_leaves_147 ?_
          rw [show ((48 + (nI c)) : Int32) = (nI (48 + c)) from nI_add 48 c]
          refine zp_iald_v dL_leaves_148 b38.Ta (Or.inl rfl) (j := (48 + c)) (nI_clamp (by omega)) (vp_in_nI (by omega) (by decide)) (v := (sa (setA (48 + c) (sh (endP S) c) (endP S)) (48 + c))) (b38.ra (by omega)) ?_
          refine zp_iload dL_leaves_149 (x := (dst D c 12)) (List.mem_of_getElem? (i := 2) rfl) ?_
          refine zp_iadd dL_leaves_151 ?_
          refine zp_iadd dL_leaves_152 ?_
          refine zp_iastore dL_leaves_153 b38.Tq (j := 0) (by decide) (zin (by decide)) ?_
          refine zp_gen (fun s => LB D W L (setY ((sy (setA (48 + c) (sh (endP S) c) (endP S))) + ((sa (setA (48 + c) (sh (endP S) c) (endP S)) (48 + c)) + (dst D c 12))) (setA (48 + c) (sh (endP S) c) (endP S))) s ∧ LF L σ s) ⟨b38.q0, f38.wq (by decide)⟩ (fun u39 hn39 => ?_)
          obtain ⟨b39, f39⟩ := hn39
          refine zp_goto dL_leaves_154 (tgt := 296) rfl ?_
          refine zp_gen (fun s => LB D W L (leaveX D c S) s ∧ LF L σ s) ⟨by
            first
            | exact lv_1 b39 rfl hb1 h56 h61
            | exact lv_2 b39 (m0_l h126).symm (by rw [show sa (setA (48 + c) 0 (endP S)) (48 + c) = 0 from if_pos rfl]; rfl) hb1 hor
            | exact lv_2 b39 (m0_r h126).symm (by rw [show sa (setA (48 + c) (sh (endP S) c) (endP S)) (48 + c) = sh (endP S) c from if_pos rfl]; rfl) hb1 hor
            | exact lv_3 b39 rfl (by rw [show sa (setA (48 + c) (sh (setBe 0 (setAb 0 S)) c) (setBe 0 (setAb 0 S))) (16 + c) = sa S (16 + c) from if_neg (by omega)]; rfl) hb1 (Int32.not_lt.mp h161)
            | exact lv_4 b39 (by rw [end16 h0 hc12 hb1, sub2] at h248; exact (m0_l h248).symm) (by rw [show sa (setA (48 + c) 0 (endP S)) (48 + c) = 0 from if_pos rfl, show sa (setA (48 + c) 0 (endP S)) (16 + c) = sa S (16 + c) from (if_neg (by omega)).trans (end16 h0 hc12 hb1)]) hb1 (i_nle h161) (Int32.not_le.mp h213)
            | exact lv_4 b39 (by rw [end16 h0 hc12 hb1, sub2] at h248 ⊢; exact (m0_r h248).symm) (by rw [show sa (setA (48 + c) ((sy (endP S) - sa (endP S) (16 + c)) - dst D c 10) (endP S)) (48 + c) = ((sy (endP S) - sa (endP S) (16 + c)) - dst D c 10) from if_pos rfl, show sa (setA (48 + c) ((sy (endP S) - sa (endP S) (16 + c)) - dst D c 10) (endP S)) (16 + c) = sa S (16 + c) from (if_neg (by omega)).trans (end16 h0 hc12 hb1)]) hb1 (i_nle h161) (Int32.not_le.mp h213)
            | exact lv_5 b39 (by rw [sub2] at h248; exact (m0_l h248).symm) hb1 (i_nle h161) (i_nlt h213)
            | exact lv_5 b39 (by rw [sub2] at h248 ⊢; exact (m0_r h248).symm) hb1 (i_nle h161) (i_nlt h213), f39⟩ (fun u40 hn40 => ?_)
          obtain ⟨b40, f40⟩ := hn40
          refine zp_aload_n dL_leaves_296 rfl (a := (lwm L)) (List.mem_of_getElem? (i := 4) rfl) ?_
          refine zp_iconst dL_leaves_297 (v := 4) (by decide) ?_
          refine zp_iload_n dL_leaves_298 rfl (x := (nI c)) (List.mem_of_getElem? (i := 3) rfl) ?_
          refine zp_imul dL_leaves_299 ?_
          rw [show ((4 * (nI c)) : Int32) = (nI (4 * c)) from pk_mul 4 c]
          refine zp_iconst dL_leaves_300 (v := 2) (by decide) ?_
          refine zp_iadd dL_leaves_301 ?_
          rw [show (((nI (4 * c)) + 2) : Int32) = (nI (4 * c + 2)) from nI_add (4 * c) 2]
          refine zp_iald_v dL_leaves_302 b40.Tm (Or.inl rfl) (j := (4 * c + 2)) (nI_clamp (by omega)) (vp_in_nI (by omega) (by decide)) (v := (dst D c 8)) ((b40.2.2.1.1 c (by omega)).2.2.2.2.2.2.1 2 (by decide)).1 ?_
          refine zp_aload dL_leaves_303 (a := (lwq L)) (List.mem_of_getElem? (i := 8) rfl) ?_
          refine zp_callS (st := []) (mc2 := 0) (ms2 := 0) dL_leaves_305 (c_L_pends l G (dst D c 8) (lwq L) _ b40.Tq) cl_L_10 st_L_pends rfl rfl (by omega) (by omega) (by omega) (Nat.le_of_ble_eq_true rfl) ?_
          rintro _ u41x ⟨rfl, hs41⟩
          refine zp_gen (fun s => LB D W L (pendP (dst D c 8) (leaveX D c S)) s ∧ LF L σ s) ⟨by rw [hs41]; exact b40.pend, by rw [hs41]; exact f40.trans LF.pend⟩ (fun u41 hn41 => ?_)
          obtain ⟨b41, f41⟩ := hn41
          refine zp_vret rfl dL_leaves_308 ?_
          exact ⟨rfl, b41.ig rfl rfl rfl (fun _ _ => rfl) (fun _ _ => rfl) (fun _ _ => rfl) rfl, f41⟩
      · skip
        refine zp_aload_n dL_leaves_64 rfl (a := (lwa L)) (List.mem_of_getElem? (i := 6) rfl) ?_
        refine zp_bipush dL_leaves_65 (v := 16) (by decide) ?_
        refine zp_iload_n dL_leaves_67 rfl (x := (nI c)) (List.mem_of_getElem? (i := 3) rfl) ?_
        refine zp_iadd dL_leaves_68 ?_
        rw [show ((16 + (nI c)) : Int32) = (nI (16 + c)) from nI_add 16 c]
        refine zp_aload dL_leaves_69 (a := (lwq L)) (List.mem_of_getElem? (i := 8) rfl) ?_
        refine zp_iconst dL_leaves_71 (v := 0) (by decide) ?_
        refine zp_iald_v dL_leaves_72 hB.Tq (Or.inl rfl) (j := 0) (by decide) (zin (by decide)) (v := (sy S)) hB.r0 ?_
        refine zp_aload dL_leaves_73 (a := (lwq L)) (List.mem_of_getElem? (i := 8) rfl) ?_
        refine zp_iconst dL_leaves_75 (v := 1) (by decide) ?_
        refine zp_iald_v dL_leaves_76 hB.Tq (Or.inl rfl) (j := 1) (by decide) (zin (by decide)) (v := (sab S)) hB.r1 ?_
        refine zp_iadd dL_leaves_77 ?_
        refine zp_aload dL_leaves_78 (a := (lwq L)) (List.mem_of_getElem? (i := 8) rfl) ?_
        refine zp_iconst dL_leaves_80 (v := 2) (by decide) ?_
        refine zp_iald_v dL_leaves_81 hB.Tq (Or.inl rfl) (j := 2) (by decide) (zin (by decide)) (v := (sbe S)) hB.r2 ?_
        refine zp_iadd dL_leaves_82 ?_
        refine zp_iastore dL_leaves_83 hB.Ta (j := (16 + c)) (nI_clamp (by omega)) (vp_in_nI (by omega) (by decide)) ?_
        refine zp_gen (fun s => LB D W L (setA (16 + c) (((sy S) + (sab S)) + (sbe S)) S) s ∧ LF L σ s) ⟨hB.a (by omega), LF.refl.wa hB.2.1⟩ (fun u42 hn42 => ?_)
        obtain ⟨b42, f42⟩ := hn42
        refine zp_aload_n dL_leaves_84 rfl (a := (lwa L)) (List.mem_of_getElem? (i := 6) rfl) ?_
        refine zp_bipush dL_leaves_85 (v := 48) (by decide) ?_
        refine zp_iload_n dL_leaves_87 rfl (x := (nI c)) (List.mem_of_getElem? (i := 3) rfl) ?_
        refine zp_iadd dL_leaves_88 ?_
        rw [show ((48 + (nI c)) : Int32) = (nI (48 + c)) from nI_add 48 c]
        refine zp_iconst dL_leaves_89 (v := 0) (by decide) ?_
        refine zp_iastore dL_leaves_90 b42.Ta (j := (48 + c)) (nI_clamp (by omega)) (vp_in_nI (by omega) (by decide)) ?_
        refine zp_gen (fun s => LB D W L (setA (48 + c) 0 (setA (16 + c) (((sy S) + (sab S)) + (sbe S)) S)) s ∧ LF L σ s) ⟨b42.a (by omega), f42.wa hB.2.1⟩ (fun u43 hn43 => ?_)
        obtain ⟨b43, f43⟩ := hn43
        refine zp_aload dL_leaves_91 (a := (lwq L)) (List.mem_of_getElem? (i := 8) rfl) ?_
        refine zp_iconst dL_leaves_93 (v := 5) (by decide) ?_
        refine zp_dup2 dL_leaves_94 rfl rfl ?_
        obtain ⟨mk5, n1, n2, n3⟩ := b43.bits
        refine zp_iald_v dL_leaves_95 b43.Tq (Or.inl rfl) (j := 5) (by decide) (zin (by decide)) (v := (nI mk5)) n2 ?_
        refine zp_iconst dL_leaves_96 (v := 1) (by decide) ?_
        refine zp_iload_n dL_leaves_97 rfl (x := (nI c)) (List.mem_of_getElem? (i := 3) rfl) ?_
        refine zp_ishl dL_leaves_98 ?_
        refine zp_iconst dL_leaves_99 (v := (-1)) (by decide) ?_
        refine zp_ixor dL_leaves_100 ?_
        refine zp_iand dL_leaves_101 ?_
        refine zp_iastore dL_leaves_102 b43.Tq (j := 5) (by decide) (zin (by decide)) ?_
        refine zp_gen (fun s => LB D W L (setW (setB (sw S) c false) (setA (48 + c) 0 (setA (16 + c) (((sy S) + (sab S)) + (sbe S)) S))) s ∧ LF L σ s) ⟨b43.q5 (bit_cl n1 (by omega) n3), f43.wq (by decide)⟩ (fun u44 hn44 => ?_)
        obtain ⟨b44, f44⟩ := hn44
        refine zp_goto dL_leaves_103 (tgt := 296) rfl ?_
        refine zp_gen (fun s => LB D W L (leaveX D c S) s ∧ LF L σ s) ⟨by
          first
          | exact lv_1 b44 rfl hb1 h56 h61
          | exact lv_2 b44 (m0_l h126).symm (by rw [show sa (setA (48 + c) 0 (endP S)) (48 + c) = 0 from if_pos rfl]; rfl) hb1 hor
          | exact lv_2 b44 (m0_r h126).symm (by rw [show sa (setA (48 + c) (sh (endP S) c) (endP S)) (48 + c) = sh (endP S) c from if_pos rfl]; rfl) hb1 hor
          | exact lv_3 b44 rfl (by rw [show sa (setA (48 + c) (sh (setBe 0 (setAb 0 S)) c) (setBe 0 (setAb 0 S))) (16 + c) = sa S (16 + c) from if_neg (by omega)]; rfl) hb1 (Int32.not_lt.mp h161)
          | exact lv_4 b44 (by rw [end16 h0 hc12 hb1, sub2] at h248; exact (m0_l h248).symm) (by rw [show sa (setA (48 + c) 0 (endP S)) (48 + c) = 0 from if_pos rfl, show sa (setA (48 + c) 0 (endP S)) (16 + c) = sa S (16 + c) from (if_neg (by omega)).trans (end16 h0 hc12 hb1)]) hb1 (i_nle h161) (Int32.not_le.mp h213)
          | exact lv_4 b44 (by rw [end16 h0 hc12 hb1, sub2] at h248 ⊢; exact (m0_r h248).symm) (by rw [show sa (setA (48 + c) ((sy (endP S) - sa (endP S) (16 + c)) - dst D c 10) (endP S)) (48 + c) = ((sy (endP S) - sa (endP S) (16 + c)) - dst D c 10) from if_pos rfl, show sa (setA (48 + c) ((sy (endP S) - sa (endP S) (16 + c)) - dst D c 10) (endP S)) (16 + c) = sa S (16 + c) from (if_neg (by omega)).trans (end16 h0 hc12 hb1)]) hb1 (i_nle h161) (Int32.not_le.mp h213)
          | exact lv_5 b44 (by rw [sub2] at h248; exact (m0_l h248).symm) hb1 (i_nle h161) (i_nlt h213)
          | exact lv_5 b44 (by rw [sub2] at h248 ⊢; exact (m0_r h248).symm) hb1 (i_nle h161) (i_nlt h213), f44⟩ (fun u45 hn45 => ?_)
        obtain ⟨b45, f45⟩ := hn45
        refine zp_aload_n dL_leaves_296 rfl (a := (lwm L)) (List.mem_of_getElem? (i := 4) rfl) ?_
        refine zp_iconst dL_leaves_297 (v := 4) (by decide) ?_
        refine zp_iload_n dL_leaves_298 rfl (x := (nI c)) (List.mem_of_getElem? (i := 3) rfl) ?_
        refine zp_imul dL_leaves_299 ?_
        rw [show ((4 * (nI c)) : Int32) = (nI (4 * c)) from pk_mul 4 c]
        refine zp_iconst dL_leaves_300 (v := 2) (by decide) ?_
        refine zp_iadd dL_leaves_301 ?_
        rw [show (((nI (4 * c)) + 2) : Int32) = (nI (4 * c + 2)) from nI_add (4 * c) 2]
        refine zp_iald_v dL_leaves_302 b45.Tm (Or.inl rfl) (j := (4 * c + 2)) (nI_clamp (by omega)) (vp_in_nI (by omega) (by decide)) (v := (dst D c 8)) ((b45.2.2.1.1 c (by omega)).2.2.2.2.2.2.1 2 (by decide)).1 ?_
        refine zp_aload dL_leaves_303 (a := (lwq L)) (List.mem_of_getElem? (i := 8) rfl) ?_
        refine zp_callS (st := []) (mc2 := 0) (ms2 := 0) dL_leaves_305 (c_L_pends l G (dst D c 8) (lwq L) _ b45.Tq) cl_L_10 st_L_pends rfl rfl (by omega) (by omega) (by omega) (Nat.le_of_ble_eq_true rfl) ?_
        rintro _ u46x ⟨rfl, hs46⟩
        refine zp_gen (fun s => LB D W L (pendP (dst D c 8) (leaveX D c S)) s ∧ LF L σ s) ⟨by rw [hs46]; exact b45.pend, by rw [hs46]; exact f45.trans LF.pend⟩ (fun u46 hn46 => ?_)
        obtain ⟨b46, f46⟩ := hn46
        refine zp_vret rfl dL_leaves_308 ?_
        exact ⟨rfl, b46.ig rfl rfl rfl (fun _ _ => rfl) (fun _ _ => rfl) (fun _ _ => rfl) rfl, f46⟩

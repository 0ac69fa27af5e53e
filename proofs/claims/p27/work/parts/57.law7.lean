/-! THE LAW: lays, the whole method (by wip/p27/gen_law7.py) -/
theorem LB_begin {D : Dt} {W : Int32} {L : Lw} {σ : Sto} (hT : LT L σ) (hd : LD L) (hi : LI D W L σ) : LB D W L (begP 0 (S0 W (zA σ (lwa L)) (zA σ (lwh L)))) (wA (wA (wA (wA (wA (wA (wA σ (lwq L) 0 0) (lwq L) 1 0) (lwq L) 2 0) (lwq L) 5 0) (lwq L) 6 0) (lwa L) 32 W) (lwh L) 0 (-1)) := by
  have qa : lwq L ≠ lwa L := hd.ne 7 5 (by decide) (by decide) (by decide)
  have qh : lwq L ≠ lwh L := hd.ne 7 6 (by decide) (by decide) (by decide)
  have ah : lwa L ≠ lwh L := hd.ne 5 6 (by decide) (by decide) (by decide)
  have aq := fun e => qa (Eq.symm e)
  have hq := fun e => qh (Eq.symm e)
  have ha := fun e => ah (Eq.symm e)
  refine ⟨fun i hi => hT i hi, hd, ((((((hi.w hd 7 (by decide) rfl (fun _ => by decide)).w hd 7 (by decide) rfl (fun _ => by decide)).w hd 7 (by decide) rfl (fun _ => by decide)).w hd 7 (by decide) rfl (fun _ => by decide)).w hd 7 (by decide) rfl (fun _ => by decide)).w hd 5 (by decide) rfl (fun e => absurd e (by decide))).w hd 6 (by decide) rfl (fun e => absurd e (by decide)), ?_, ?_, ?_, ⟨0, by decide, ?_, fun k _ => (Nat.zero_testBit k).symm⟩, ?_, fun i _ => ?_, fun i _ => ?_, fun i e h => ?_⟩
  · rw [rAb qh, rAb qa, rAn (by decide), rAn (by decide), rAn (by decide), rAn (by decide), rAe]; rfl
  · rw [rAb qh, rAb qa, rAn (by decide), rAn (by decide), rAn (by decide), rAe]; rfl
  · rw [rAb qh, rAb qa, rAn (by decide), rAn (by decide), rAe]; rfl
  · rw [rAb qh, rAb qa, rAn (by decide), rAe]; rfl
  · rw [rAb qh, rAb qa, rAe]; rfl
  · rw [rAb ah]
    show _ = setI (zA σ (lwa L)) 32 W i
    by_cases z : i = 32
    · rw [z, rAe, setI_self]
    · rw [rAn z, rAb aq, rAb aq, rAb aq, rAb aq, rAb aq, setI_o z]
  · show _ = setI (zA σ (lwh L)) 0 (-1) i
    by_cases z : i = 0
    · rw [z, rAe, setI_self]
    · rw [rAn z, rAb ha, rAb hq, rAb hq, rAb hq, rAb hq, rAb hq, setI_o z]
  · have h : ([] : List (Nat × Int32 × Int32))[i]? = some e := h
    rw [List.getElem?_nil] at h
    cases h
theorem LF_begin {L : Lw} {σ : Sto} {W : Int32} (hd : LD L) : LF L σ (wA (wA (wA (wA (wA (wA (wA σ (lwq L) 0 0) (lwq L) 1 0) (lwq L) 2 0) (lwq L) 5 0) (lwq L) 6 0) (lwa L) 32 W) (lwh L) 0 (-1)) :=
  ((((((LF.refl.wq (by decide)).wq (by decide)).wq (by decide)).wq (by decide)).wq (by decide)).wa hd).wh hd
set_option maxHeartbeats 4000000 in
theorem l_lays0 (l : Launch) {G : Gb} {D : Dt} {W : Int32} {L : Lw} {σ s : Sto} (hD : DW D) (hW0 : 0 ≤ W.toInt) (hW1 : W.toInt ≤ 300) (hU : Uw D (fun _ => false) (dn D) ≤ 20) (a h : Nat → Int32) (b : LB D W L (begP 0 (S0 W a h)) s) (f : LF L σ s) :
    Wp l G 3 0 0 (RL, cL_lays, 13, none, false) 49 [(11, .int 0), (10, .int 0), (9, .int 0), (0, .ref (lwt L)), (1, .ref (lwm L)), (2, .ref (lwe L)), (3, .ref (lwg L)), (4, .ref (lwl L)), (5, .ref (lwa L)), (6, .ref (lwh L)), (7, .ref (lwq L)), (8, .ref (lwn L))] [] s (fun v t => v = none ∧ ∃ a h, LB D W L (setA 48 (mx 0 (sy (laysP D W a h))) (laysP D W a h)) t ∧ (sls (laysP D W a h)).length ≤ 20 ∧ LF L σ t) := by
  have hn := hD.2.1
  have hLY : LY D 0 0 (begP 0 (S0 W a h)) := by
    refine ⟨⟨S0_vi (W := W) (a := a) (h := h), fun c h1 h2 h3 d h4 h5 => ?_⟩, ⟨?_, ?_⟩, ?_, ?_⟩
    · have hne : d ≠ 0 := fun q => by have := Ds.le hD h4 h5; omega
      exact ⟨if_neg hne, if_neg hne, rfl⟩
    · show 0 ≤ (sa (S0 W a h) (32 + 0)).toInt
      rw [S0_sa]; exact hW0
    · show (sa (S0 W a h) (32 + 0)).toInt ≤ 300 + 30 * ((0 : Nat) : Int)
      rw [S0_sa]; omega
    · show (sh (S0 W a h) 0).toInt ≤ 20
      rw [S0_sh]; decide
    · have e : Uf D (begP 0 (S0 W a h)) = Uw D (fun _ => false) (dn D) := Uw_box (v := fun _ => false) (c := 0) hD.2.2.2.1 (dn D)
      rw [e]
      show 0 + _ ≤ 20
      omega
  refine l_lays l hD (dn D) 0 0 (begP 0 (S0 W a h)) s _ (by omega) (Nat.le_refl _) hD.1 hD.1 hD.2.2.2.1 b f hLY (fun s' at2 b2 f2 h2 hx2 hlen => ?_)
  refine Wp.mono (l_yE l hD b2 f2 h2 hx2) (Nat.le_refl _) (Nat.le_refl _) (Nat.le_refl _) (fun v t q => ?_)
  exact ⟨q.1, a, h, q.2.1, by show (sls (flowP D (dn D) 0 0 (begP 0 (S0 W a h)))).length ≤ 20; omega, q.2.2⟩
set_option maxHeartbeats 4000000 in
theorem c_L_lays (l : Launch) (G : Gb) (D : Dt) (W : Int32) (L : Lw) (σ : Sto) (hD : DW D) (hT : LT L σ) (hd : LD L) (hi : LI D W L σ) (hW0 : 0 ≤ W.toInt) (hW1 : W.toInt ≤ 300) (hU : Uw D (fun _ => false) (dn D) ≤ 20) : Ct l G 4 0 0 yL_lays mL_lays [.ref (lwt L), .ref (lwm L), .ref (lwe L), .ref (lwg L), .ref (lwl L), .ref (lwa L), .ref (lwh L), .ref (lwq L), .ref (lwn L)] σ (fun v s => v = none ∧ ∃ a h, LB D W L (setA 48 (mx 0 (sy (laysP D W a h))) (laysP D W a h)) s ∧ (sls (laysP D W a h)).length ≤ 20 ∧ LF L σ s) := by
  have hn := hD.2.1
  have hTt : zT σ (lwt L) = (20, 64) := hT 0 (by decide)
  have hTm : zT σ (lwm L) = (20, 48) := hT 1 (by decide)
  have hTe : zT σ (lwe L) = (20, 48) := hT 2 (by decide)
  have hTg : zT σ (lwg L) = (20, 32) := hT 3 (by decide)
  have hTl : zT σ (lwl L) = (20, 48) := hT 4 (by decide)
  have hTa : zT σ (lwa L) = (20, 64) := hT 5 (by decide)
  have hTh : zT σ (lwh L) = (20, 16) := hT 6 (by decide)
  have hTq : zT σ (lwq L) = (20, 8) := hT 7 (by decide)
  have hTn : zT σ (lwn L) = (20, 64) := hT 8 (by decide)
  refine Ct.of (by decide) rfl (Nat.le_of_ble_eq_true rfl) (fun h => absurd h (by decide)) ?_
  show Wp l G 4 0 0 (RL, cL_lays, 13, none, false) 0 [(0, .ref (lwt L)), (1, .ref (lwm L)), (2, .ref (lwe L)), (3, .ref (lwg L)), (4, .ref (lwl L)), (5, .ref (lwa L)), (6, .ref (lwh L)), (7, .ref (lwq L)), (8, .ref (lwn L))] [] σ _
  show Wp l G 4 0 0 (RL, cL_lays, 13, none, false) 0 [(0, .ref (lwt L)), (1, .ref (lwm L)), (2, .ref (lwe L)), (3, .ref (lwg L)), (4, .ref (lwl L)), (5, .ref (lwa L)), (6, .ref (lwh L)), (7, .ref (lwq L)), (8, .ref (lwn L))] [] σ _
  refine zp_iconst dL_lays_0 (v := 0) (by decide) ?_
  refine zp_istore dL_lays_1 (Nat.le_of_ble_eq_true rfl) (lv2 := [(9, .int 0), (0, .ref (lwt L)), (1, .ref (lwm L)), (2, .ref (lwe L)), (3, .ref (lwg L)), (4, .ref (lwl L)), (5, .ref (lwa L)), (6, .ref (lwh L)), (7, .ref (lwq L)), (8, .ref (lwn L))]) rfl ?_
  refine zp_iconst dL_lays_3 (v := 0) (by decide) ?_
  refine zp_istore dL_lays_4 (Nat.le_of_ble_eq_true rfl) (lv2 := [(10, .int 0), (9, .int 0), (0, .ref (lwt L)), (1, .ref (lwm L)), (2, .ref (lwe L)), (3, .ref (lwg L)), (4, .ref (lwl L)), (5, .ref (lwa L)), (6, .ref (lwh L)), (7, .ref (lwq L)), (8, .ref (lwn L))]) rfl ?_
  refine zp_aload dL_lays_6 (a := (lwq L)) (List.mem_of_getElem? (i := 9) rfl) ?_
  refine zp_iconst dL_lays_8 (v := 0) (by decide) ?_
  refine zp_iconst dL_lays_9 (v := 0) (by decide) ?_
  refine zp_iastore dL_lays_10 hTq (j := 0) (by decide) (zin (by decide)) ?_
  refine zp_aload dL_lays_11 (a := (lwq L)) (List.mem_of_getElem? (i := 9) rfl) ?_
  refine zp_iconst dL_lays_13 (v := 1) (by decide) ?_
  refine zp_iconst dL_lays_14 (v := 0) (by decide) ?_
  refine zp_iastore dL_lays_15 (tA hTq) (j := 1) (by decide) (zin (by decide)) ?_
  refine zp_aload dL_lays_16 (a := (lwq L)) (List.mem_of_getElem? (i := 9) rfl) ?_
  refine zp_iconst dL_lays_18 (v := 2) (by decide) ?_
  refine zp_iconst dL_lays_19 (v := 0) (by decide) ?_
  refine zp_iastore dL_lays_20 (tA (tA hTq)) (j := 2) (by decide) (zin (by decide)) ?_
  refine zp_aload dL_lays_21 (a := (lwq L)) (List.mem_of_getElem? (i := 9) rfl) ?_
  refine zp_iconst dL_lays_23 (v := 5) (by decide) ?_
  refine zp_iconst dL_lays_24 (v := 0) (by decide) ?_
  refine zp_iastore dL_lays_25 (tA (tA (tA hTq))) (j := 5) (by decide) (zin (by decide)) ?_
  refine zp_aload dL_lays_26 (a := (lwq L)) (List.mem_of_getElem? (i := 9) rfl) ?_
  refine zp_bipush dL_lays_28 (v := 6) (by decide) ?_
  refine zp_iconst dL_lays_30 (v := 0) (by decide) ?_
  refine zp_iastore dL_lays_31 (tA (tA (tA (tA hTq)))) (j := 6) (by decide) (zin (by decide)) ?_
  refine zp_aload dL_lays_32 (a := (lwa L)) (List.mem_of_getElem? (i := 7) rfl) ?_
  refine zp_bipush dL_lays_34 (v := 32) (by decide) ?_
  refine zp_aload dL_lays_36 (a := (lwq L)) (List.mem_of_getElem? (i := 9) rfl) ?_
  refine zp_iconst dL_lays_38 (v := 4) (by decide) ?_
  refine zp_iald_v dL_lays_39 (tA (tA (tA (tA (tA hTq))))) (Or.inl rfl) (j := 4) (by decide) (zin (by decide)) (v := W) (by rw [rAn (by decide), rAn (by decide), rAn (by decide), rAn (by decide), rAn (by decide)]; exact hi.2.2) ?_
  refine zp_iastore dL_lays_40 (tA (tA (tA (tA (tA hTa))))) (j := 32) (by decide) (zin (by decide)) ?_
  refine zp_aload dL_lays_41 (a := (lwh L)) (List.mem_of_getElem? (i := 8) rfl) ?_
  refine zp_iconst dL_lays_43 (v := 0) (by decide) ?_
  refine zp_iconst dL_lays_44 (v := (-1)) (by decide) ?_
  refine zp_iastore dL_lays_45 (tA (tA (tA (tA (tA (tA hTh)))))) (j := 0) (by decide) (zin (by decide)) ?_
  refine zp_iconst dL_lays_46 (v := 0) (by decide) ?_
  refine zp_istore dL_lays_47 (Nat.le_of_ble_eq_true rfl) (lv2 := [(11, .int 0), (10, .int 0), (9, .int 0), (0, .ref (lwt L)), (1, .ref (lwm L)), (2, .ref (lwe L)), (3, .ref (lwg L)), (4, .ref (lwl L)), (5, .ref (lwa L)), (6, .ref (lwh L)), (7, .ref (lwq L)), (8, .ref (lwn L))]) rfl ?_
  exact Wp.mono (l_lays0 l hD hW0 hW1 hU _ _ (LB_begin hT hd hi) (LF_begin hd)) (by omega) (Nat.le_refl _) (Nat.le_refl _) (fun _ _ q => q)

/-! A NEW OBJECT: its constructor (by wip/p27/gen_ctor2.py) -/
theorem NwN.ex {σ s t : Sto} {a : Nat} {FI FR} {tx : Bool} {sy cn le cu : Nat} {pl pc : Bool → Nat} {th : Bool → Nat → Nat} (h : NwN σ s a FI FR tx sy cn le cu pl pc th) (e : Ex (fun _ => False) s t) : NwN σ t a FI FR tx sy cn le cu pl pc th := by
  obtain ⟨⟨c1, c2, c3, c4⟩, r, np, nb, nt⟩ := h
  have f := (e.2 a (by rw [c2]; decide) (fun z => z)).1
  exact ⟨⟨c1.ct e (fun _ z => z.elim), e.T c2, fun g => (f g).1.trans (c3 g), fun g => (f g).2.trans (c4 g)⟩, r.ex e (fun _ z => z.elim), fun b => (np b).ex e (fun _ z => z.elim), nb, nt⟩
/-- a layout, as its constructor leaves it -/
def LyX (s : Sto) (a : Nat) (b : Int32) (fa F : Nat) : Prop := zT s a = (3, 0) ∧ zI s 300 a = b ∧ zR s 302 a = some fa ∧ zT s fa = (22, 21) ∧ zQ s fa 0 = some F ∧ zT s F = (2, 0) ∧ zR s 303 a = none
theorem LyX.ex {s t : Sto} {O : Nat → Prop} {a fa F : Nat} {b : Int32} (h : LyX s a b fa F) (e : Ex O s t) (hO : ∀ c, O c → (zT s c).1 = 10) : LyX t a b fa F := LyF.ex (σ := s) h e hO
/-- the row of nodes -/
def RwX (s : Sto) (na t : Nat) : Prop := zT s na = (21, 60) ∧ ∀ k, zQ s na k = if k = 0 then some t else none
theorem RwX.ex {s t : Sto} {O : Nat → Prop} {na q : Nat} (h : RwX s na q) (e : Ex O s t) (hO : ∀ c, O c → (zT s c).1 = 10) : RwX t na q := by
  have k := (e.2 na (by rw [h.1]; decide) (fun z => by have := hO _ z; rw [h.1] at this; exact absurd this (by decide))).2.2
  exact ⟨e.T h.1, fun i => by rw [k]; exact h.2 i⟩
set_option maxRecDepth 100000 in
set_option maxHeartbeats 4000000 in
theorem c_X12_init (l : Launch) (G : Gb) (ob : Nat) (σ : Sto) (hA : zT σ ob = (10, 0)) (hz : ∀ g, zI σ g ob = 0 ∧ zR σ g ob = none) (hsw : Sw G σ) : Ct l G 36 115 16203 yX12_init mX12_init [.ref ob] σ (fun v s => v = none ∧ ∃ X Y LL fr LL' fr', Rz G D0 X Y 60 0 LL fr LL' fr' s ∧ xob Y = ob ∧ ∀ a, (zT σ a).1 ≠ 0 → zT s a = zT σ a ∧ (a ≠ ob → zA s a = zA σ a)) := by
  refine Ct.of (by decide) rfl (Nat.le_of_ble_eq_true rfl) (fun _ => rfl) ?_
  refine zp_zp0 (fun zz => ?_)
  show Wp l G 36 115 16203 (RX12, cX12_init, 3, none, true) 0 [(0, .ref ob)] [] σ _
  refine zp_aload_n dX12_init_0 rfl (a := ob) (List.mem_of_getElem? (i := 0) rfl) ?_
  refine zp_objInit dX12_init_1 wd_27 wd_28 wd_29 (by decide) (Nat.le_of_ble_eq_true rfl) ?_
  refine zp_new (c0 := 4) (mc2 := 114) (ms2 := 16183) dX12_init_4 rfl wd_30 wd_31 wd_2 (by omega) (by show _ + 20 ≤ _; omega) (fun q4 hq4 => ?_)
  refine zp_dup dX12_init_7 rfl ?_
  refine zp_iconst dX12_init_8 (v := 0) (by decide) ?_
  refine zp_null dX12_init_9 ?_
  refine zp_iconst dX12_init_10 (v := 0) (by decide) ?_
  refine zp_callI (st := [.ref q4]) (mc2 := 102) (ms2 := 16075) dX12_init_11 (c_X7_init0 l G q4 0 _ zT_self (fun g => (zz q4 hq4).1 g)) cl_X12_9 rfl im_X7_init rfl rfl rfl (by omega) (by omega) (by omega) (Nat.le_of_ble_eq_true rfl) ?_
  rintro _ s1 ⟨rfl, sy, cn, le, cu, pl, pc, th, nw⟩
  have e1 : Ex (fun _ => False) σ s1 := (Ex.refl.nT hq4).ct nw.1.1 (fun c hc => Or.inl (by rw [hc]; exact hq4))
  have ho1 : zT s1 ob = (10, 0) := e1.T hA
  refine zp_astore_n dX12_init_14 rfl (Nat.le_of_ble_eq_true rfl) (lv2 := [(1, .ref q4), (0, .ref ob)]) rfl ?_
  refine zp_new (c0 := 7) (mc2 := 101) (ms2 := 16068) dX12_init_15 rfl wd_291 wd_292 wd_8 (by omega) (by show _ + 7 ≤ _; omega) (fun q15 hq15 => ?_)
  refine zp_dup dX12_init_18 rfl ?_
  refine zp_callI (st := [.ref q15]) (mc2 := 97) (ms2 := 1304) dX12_init_19 (c_X10_init l G q15 _ zT_self) cl_X12_14 rfl im_X10_init rfl rfl rfl (by omega) (by omega) (by omega) (Nat.le_of_ble_eq_true rfl) ?_
  rintro _ s2 ⟨rfl, es2⟩
  have e12 : Ex (fun _ => False) s1 s2 := (Ex.refl.nT hq15).ct es2 (fun c hc => Or.inl (by rw [hc]; exact hq15))
  have e2 : Ex (fun _ => False) σ s2 := e1.ct e12 (fun _ z => z.elim)
  have nw2 := nw.ex e12
  have hsw2 : Sw G s2 := by
    have k := (e2.2 G.2.2.2.1 (by rw [hsw.1]; decide) (fun z => z)).2.1
    exact ⟨e2.T hsw.1, by rw [k]; exact hsw.2.1, by rw [k]; exact hsw.2.2⟩
  obtain ⟨hAI2, hDA2, hd2⟩ := AI_0 (ob := ob) (na := 0) (p := 0) (oa := 0) (Ly := fun _ => 0) (fa := fun _ => 0) (F := fun _ => 0) nw2 hsw2
  have ho2 : zT s2 ob = (10, 0) := e2.T hA
  refine zp_astore_n dX12_init_22 rfl (Nat.le_of_ble_eq_true rfl) (lv2 := [(2, .ref q15), (1, .ref q4), (0, .ref ob)]) rfl ?_
  refine zp_aload_n dX12_init_23 rfl (a := q4) (List.mem_of_getElem? (i := 1) rfl) ?_
  refine zp_callS (st := []) (mc2 := 97) (ms2 := 1304) dX12_init_24 (c_X7_assignRoles l G D0 (X0 q4 cn le cu pl pc th (fun _ => 0) (fun _ => 0) (fun _ => 0)) (Y0 ob 0 0 0 sy) s2 D0_ok hAI2 hDA2 hd2) cl_X12_15 st_X7_assignRoles rfl rfl (by omega) (by omega) (by omega) (Nat.le_of_ble_eq_true rfl) ?_
  rintro _ s3 ⟨rfl, hI3, hK3, f3⟩
  obtain ⟨g1, g2, g3, g4, g5⟩ := id f3
  have t3 : ∀ a, zT s3 a = zT s2 a := fun a => congrFun g3 a
  have ho3 : zT s3 ob = (10, 0) := (t3 _).trans ho2
  have hob : (zT σ ob).1 ≠ 0 := by rw [hA]; decide
  have hf3 : ∀ g, 1000 ≤ g → zI s3 g ob = 0 ∧ zR s3 g ob = none := fun g hg => by
    have k := (e2.2 ob hob (fun z => z)).1 g
    exact ⟨by rw [g1 g (by omega) (by omega) (by omega), k.1]; exact (hz g).1, by rw [g2, k.2]; exact (hz g).2⟩
  have hk3 := hK3 0 (by decide)
  have T4 : zT s3 q4 = (5, 0) := hk3.T
  refine zp_zp0 (fun z3 => ?_)
  refine zp_aload_n dX12_init_27 rfl (a := ob) (List.mem_of_getElem? (i := 2) rfl) ?_
  refine zp_bipush dX12_init_28 (v := 60) (by decide) ?_
  refine zp_newQ (j := 0) (mc2 := 96) (ms2 := 1244) (N := 60) dX12_init_30 wd_30 (by decide) rfl zao1 (by decide) (by decide) (by decide) (by omega) (by omega) (fun q30 hq30 => ?_)
  refine zp_putRf dX12_init_33 fl_X12_21 rfl (zOwn_of (r0 := (RX12, TX12, 10)) rfl rfl) (zT_new hq30 ho3) (r := some q30) rfl zfit_arr ?_
  refine zp_aload_n dX12_init_36 rfl (a := ob) (List.mem_of_getElem? (i := 2) rfl) ?_
  refine zp_getRv dX12_init_37 fl_X12_21 (tR (zT_new hq30 ho3)) (b := q30) rRe ?_
  refine zp_iconst dX12_init_40 (v := 0) (by decide) ?_
  refine zp_aload_n dX12_init_41 rfl (a := q4) (List.mem_of_getElem? (i := 1) rfl) ?_
  refine zp_aastore (j := 0) (c0 := 4) dX12_init_42 (tR zT_self) (by decide) rfl rfl (tR (zT_new hq30 T4)) (i := 0) (by decide) (zin (by decide)) ?_
  refine zp_aload_n dX12_init_43 rfl (a := ob) (List.mem_of_getElem? (i := 2) rfl) ?_
  refine zp_aload_n dX12_init_44 rfl (a := q4) (List.mem_of_getElem? (i := 1) rfl) ?_
  refine zp_putRf dX12_init_45 fl_X12_25 rfl (zOwn_of (r0 := (RX12, TX12, 10)) rfl rfl) (tQ (tR (zT_new hq30 ho3))) (r := some q4) rfl zfit_ref ?_
  refine zp_aload_n dX12_init_48 rfl (a := ob) (List.mem_of_getElem? (i := 2) rfl) ?_
  refine zp_iconst dX12_init_49 (v := 1) (by decide) ?_
  refine zp_putI dX12_init_50 fl_X12_29 (tR (tQ (tR (zT_new hq30 ho3)))) ?_
  refine zp_aload_n dX12_init_53 rfl (a := ob) (List.mem_of_getElem? (i := 2) rfl) ?_
  refine zp_bipush dX12_init_54 (v := 60) (by decide) ?_
  refine zp_putI dX12_init_56 fl_X12_33 (tI (tR (tQ (tR (zT_new hq30 ho3))))) ?_
  have c30 : CO s3 s3 ob (fun g => zI s3 g ob) (fun g => zR s3 g ob) := ⟨Ex.refl, ho3, fun _ => rfl, fun _ => rfl⟩
  refine zp_gen (fun s => CO s3 s ob (uI (uI (fun g => zI s3 g ob) 1005 1) 1006 60) (uR (uR (fun g => zR s3 g ob) 1000 (some q30)) 1001 (some q4)) ∧ RwX s q30 q4) ⟨((((((c30.T hq30).R).Q hq30).R).I).I), zT_self, fun k => ?_⟩ (fun s4 hs => ?_)
  · show zQ (wQ (wR (wT s3 q30 (21, 60)) 1000 ob (some q30)) q30 0 (some q4)) q30 k = _
    rw [zQ_wQ]
    by_cases z : k = 0
    · rw [if_pos ⟨rfl, z⟩, if_pos z]
    · rw [if_neg (fun y => z y.2), if_neg z]; exact ((z3 q30 hq30).2 k).2
  obtain ⟨c4, w4⟩ := hs
  refine zp_aload_n dX12_init_59 rfl (a := ob) (List.mem_of_getElem? (i := 2) rfl) ?_
  refine zp_zp0 (fun z4 => ?_)
  refine zp_new (c0 := 2) (mc2 := 95) (ms2 := 1238) dX12_init_60 rfl wd_373 wd_374 wd_10 (by omega) (by show _ + 6 ≤ _; omega) (fun q60 hq60 => ?_)
  refine zp_dup dX12_init_63 rfl ?_
  refine zp_iconst dX12_init_64 (v := 0) (by decide) ?_
  refine zp_aload_n dX12_init_65 rfl (a := q15) (List.mem_of_getElem? (i := 0) rfl) ?_
  refine zp_callI (st := [.ref q60, .ref ob]) (mc2 := 73) (ms2 := 797) dX12_init_66 (c_X4_init l G q60 q15 0 _ zT_self (Or.inl rfl)) cl_X12_38 rfl im_X4_init rfl rfl rfl (by omega) (by omega) (by omega) (Nat.le_of_ble_eq_true rfl) ?_
  rintro _ s5 ⟨rfl, fa5, F5, ly5⟩
  refine zp_putRf dX12_init_69 fl_X12_41 rfl (zOwn_of (r0 := (RX12, TX12, 10)) rfl rfl) (ly5.1.T (zT_new hq60 c4.2.1)) (r := some q60) rfl zfit_ref ?_
  have n60 : ob ≠ q60 := fun z => by rw [← z, c4.2.1] at hq60; exact absurd hq60 (by decide)
  have e46 : Ex (fun c => c = ob) s4 (wR s5 1002 ob (some q60)) := ((((Ex.refl (O := fun c => c = ob)).nT hq60).ct ly5.1 (fun c hc => Or.inl (by rw [hc]; exact hq60))).nR (Or.inr rfl))
  have e56 : Ex (fun c => c = ob) s5 (wR s5 1002 ob (some q60)) := (Ex.refl (O := fun c => c = ob)).nR (Or.inr rfl)
  have ho5 : zT s5 ob = (10, 0) := ly5.1.T (zT_new hq60 c4.2.1)
  refine zp_gen (fun s => CO s3 s ob (uI (uI (fun g => zI s3 g ob) 1005 1) 1006 60) (uR (uR (uR (fun g => zR s3 g ob) 1000 (some q30)) 1001 (some q4)) 1002 (some q60)) ∧ RwX s q30 q4 ∧ LyX s q60 0 fa5 F5) ⟨((c4.T hq60).ct ly5.1 (c4.1.fresh hq60) n60).R, w4.ex e46 (fun c hc => by rw [hc, c4.2.1]), LyX.ex ⟨ly5.2.1, ly5.2.2.1, ly5.2.2.2.1, ly5.2.2.2.2.1, ly5.2.2.2.2.2.2.1.1, ly5.2.2.2.2.2.2.1.2.1, ly5.2.2.2.2.2.2.2.trans ((z4 q60 hq60).1 303).2⟩ e56 (fun c hc => by rw [hc, ho5])⟩ (fun s6 hs => ?_)
  obtain ⟨c6, w6, l6⟩ := hs
  refine zp_zp0 (fun z6 => ?_)
  refine zp_aload_n dX12_init_72 rfl (a := ob) (List.mem_of_getElem? (i := 2) rfl) ?_
  refine zp_new (c0 := 2) (mc2 := 72) (ms2 := 791) dX12_init_73 rfl wd_373 wd_374 wd_10 (by omega) (by show _ + 6 ≤ _; omega) (fun q73 hq73 => ?_)
  refine zp_dup dX12_init_76 rfl ?_
  refine zp_iconst dX12_init_77 (v := 1) (by decide) ?_
  refine zp_aload_n dX12_init_78 rfl (a := q15) (List.mem_of_getElem? (i := 0) rfl) ?_
  refine zp_callI (st := [.ref q73, .ref ob]) (mc2 := 50) (ms2 := 350) dX12_init_79 (c_X4_init l G q73 q15 1 _ zT_self (Or.inr rfl)) cl_X12_38 rfl im_X4_init rfl rfl rfl (by omega) (by omega) (by omega) (Nat.le_of_ble_eq_true rfl) ?_
  rintro _ s7 ⟨rfl, fa7, F7, ly7⟩
  refine zp_putRf dX12_init_82 fl_X12_45 rfl (zOwn_of (r0 := (RX12, TX12, 10)) rfl rfl) (ly7.1.T (zT_new hq73 c6.2.1)) (r := some q73) rfl zfit_ref ?_
  have n73 : ob ≠ q73 := fun z => by rw [← z, c6.2.1] at hq73; exact absurd hq73 (by decide)
  have e68 : Ex (fun c => c = ob) s6 (wR s7 1003 ob (some q73)) := ((((Ex.refl (O := fun c => c = ob)).nT hq73).ct ly7.1 (fun c hc => Or.inl (by rw [hc]; exact hq73))).nR (Or.inr rfl))
  have e78 : Ex (fun c => c = ob) s7 (wR s7 1003 ob (some q73)) := (Ex.refl (O := fun c => c = ob)).nR (Or.inr rfl)
  have ho7 : zT s7 ob = (10, 0) := ly7.1.T (zT_new hq73 c6.2.1)
  have d73 : q60 ≠ q73 := fun z => by rw [← z, l6.1] at hq73; exact absurd hq73 (by decide)
  have dF : F5 ≠ F7 := fun z => by
    have k := ly7.2.2.2.2.2.2.1.2.2
    rw [← z] at k
    have k2 := ((Ex.refl (O := fun c => c = ob)).nT hq73 (t := (3, 0))).fresh k
    rw [l6.2.2.2.2.2.1] at k2
    exact absurd k2 (by decide)
  refine zp_gen (fun s => CO s3 s ob (uI (uI (fun g => zI s3 g ob) 1005 1) 1006 60) (uR (uR (uR (uR (fun g => zR s3 g ob) 1000 (some q30)) 1001 (some q4)) 1002 (some q60)) 1003 (some q73)) ∧ RwX s q30 q4 ∧ LyX s q60 0 fa5 F5 ∧ LyX s q73 1 fa7 F7) ⟨((c6.T hq73).ct ly7.1 (c6.1.fresh hq73) n73).R, w6.ex e68 (fun c hc => by rw [hc, c6.2.1]), LyX.ex l6 e68 (fun c hc => by rw [hc, c6.2.1]), LyX.ex ⟨ly7.2.1, ly7.2.2.1, ly7.2.2.2.1, ly7.2.2.2.2.1, ly7.2.2.2.2.2.2.1.1, ly7.2.2.2.2.2.2.1.2.1, ly7.2.2.2.2.2.2.2.trans ((z6 q73 hq73).1 303).2⟩ e78 (fun c hc => by rw [hc, ho7])⟩ (fun s8 hs => ?_)
  obtain ⟨c8, w8, l8, m8⟩ := hs
  refine zp_aload_n dX12_init_85 rfl (a := ob) (List.mem_of_getElem? (i := 2) rfl) ?_
  refine zp_new (c0 := 5) (mc2 := 49) (ms2 := 348) dX12_init_86 rfl wd_479 wd_480 wd_12 (by omega) (by show _ + 2 ≤ _; omega) (fun q86 hq86 => ?_)
  refine zp_dup dX12_init_89 rfl ?_
  refine zp_callI (st := [.ref q86, .ref ob]) (mc2 := 48) (ms2 := 288) dX12_init_90 (c_X8_init l G q86 _ zT_self) cl_X12_50 rfl im_X8_init rfl rfl rfl (by omega) (by omega) (by omega) (Nat.le_of_ble_eq_true rfl) ?_
  rintro _ s9 ⟨rfl, oa, pt9⟩
  refine zp_putRf dX12_init_93 fl_X12_51 rfl (zOwn_of (r0 := (RX12, TX12, 10)) rfl rfl) (pt9.1.T (zT_new hq86 c8.2.1)) (r := some q86) rfl zfit_ref ?_
  have n86 : ob ≠ q86 := fun z => by rw [← z, c8.2.1] at hq86; exact absurd hq86 (by decide)
  have e8a : Ex (fun c => c = ob) s8 (wR s9 1004 ob (some q86)) := ((((Ex.refl (O := fun c => c = ob)).nT hq86).ct pt9.1 (fun c hc => Or.inl (by rw [hc]; exact hq86))).nR (Or.inr rfl))
  have doa : q30 ≠ oa := fun z => by
    have k := pt9.2.2.2.2
    rw [← z] at k
    have k2 := ((Ex.refl (O := fun c => c = ob)).nT hq86 (t := (6, 0))).fresh k
    rw [w8.1] at k2
    exact absurd k2 (by decide)
  refine zp_gen (fun s => CO s3 s ob (uI (uI (fun g => zI s3 g ob) 1005 1) 1006 60) (uR (uR (uR (uR (uR (fun g => zR s3 g ob) 1000 (some q30)) 1001 (some q4)) 1002 (some q60)) 1003 (some q73)) 1004 (some q86)) ∧ RwX s q30 q4 ∧ LyX s q60 0 fa5 F5 ∧ LyX s q73 1 fa7 F7 ∧ Pp q86 oa s) ⟨((c8.T hq86).ct pt9.1 (c8.1.fresh hq86) n86).R, w8.ex e8a (fun c hc => by rw [hc, c8.2.1]), LyX.ex l8 e8a (fun c hc => by rw [hc, c8.2.1]), LyX.ex m8 e8a (fun c hc => by rw [hc, c8.2.1]), pt9.2.1, (rRn (by decide)).trans pt9.2.2.1, pt9.2.2.2.1⟩ (fun s10 hs => ?_)
  obtain ⟨c10, w10, l10, m10, p10⟩ := hs
  have e3a := c10.1
  have hkA : ∀ k, k < dn D0 → NK G D0 (X0 q4 cn le cu pl pc th (fun b => if b then q73 else q60) (fun b => if b then fa7 else fa5) (fun b => if b then F7 else F5)) s10 k := fun k hk => (show NK G D0 (X0 q4 cn le cu pl pc th (fun b => if b then q73 else q60) (fun b => if b then fa7 else fa5) (fun b => if b then F7 else F5)) s3 k from hK3 k hk).ex e3a ho3
  have pn : ∀ b, (zT s3 (pl b)).1 ≠ 0 := fun b => by rw [hk3.plT b]; exact (by decide : (7 : Nat) ≠ 0)
  have pne : ∀ b, pl b ≠ ob := fun b => kne (hk3.plT b) ho3 (by decide)
  have q4n : q4 ≠ ob := kne T4 ho3 (by decide)
  have pI : ∀ b g, g ≠ 516 → g ≠ 518 → g ≠ 519 → zI s10 g (pl b) = zI s2 g (pl b) := fun b g a1 a2 a3 => ((e3a.2 _ (pn b) (pne b)).1 g).1.trans (by rw [g1 g a1 a2 a3])
  have pR : ∀ b g, zR s10 g (pl b) = zR s2 g (pl b) := fun b g => ((e3a.2 _ (pn b) (pne b)).1 g).2.trans (by rw [g2])
  have q4I : ∀ g, g ≠ 516 → g ≠ 518 → g ≠ 519 → zI s10 g q4 = zI s2 g q4 := fun g a1 a2 a3 => ((e3a.2 _ (by rw [T4]; decide) q4n).1 g).1.trans (by rw [g1 g a1 a2 a3])
  have hdj : DJ (X0 q4 cn le cu pl pc th (fun b => if b then q73 else q60) (fun b => if b then fa7 else fa5) (fun b => if b then F7 else F5)) D0 := by
    refine ⟨fun j k hj hk _ => by rw [D0_k hj, D0_k hk], fun b c j k hj hk he => ⟨?_, by rw [D0_k hj, D0_k hk]⟩, fun b c j k i m hj hk hi hm he => ?_, fun b c he => ?_, fun b c he => ?_⟩
    · have he : pl b = pl c := he
      cases b <;> cases c
      · rfl
      · exact absurd he nw.2.2.2.1
      · exact absurd he.symm nw.2.2.2.1
      · rfl
    · have he : th b i = th c m := he
      have hi : i < pcn false := hi
      have hm : m < pcn false := hm
      have hbc : b = c := by
        cases b <;> cases c
        · rfl
        · exact absurd he (nw.2.2.2.2 i m hi hm)
        · exact absurd he.symm (nw.2.2.2.2 m i hm hi)
        · rfl
      rw [hbc] at he
      exact ⟨hbc, by rw [D0_k hj, D0_k hk], (nw.2.2.1 c).2.2.2.2.2.2.1 i m hi hm he⟩
    · cases b <;> cases c
      · rfl
      · exact absurd he dF
      · exact absurd he.symm dF
      · rfl
    · cases b <;> cases c
      · rfl
      · exact absurd he d73
      · exact absurd he.symm d73
      · rfl
  have hls : ∀ b, LyS (X0 q4 cn le cu pl pc th (fun b => if b then q73 else q60) (fun b => if b then fa7 else fa5) (fun b => if b then F7 else F5)) s10 b := fun b => by
    cases b
    · exact ⟨l10.1, l10.2.1, l10.2.2.1, l10.2.2.2.1, l10.2.2.2.2.1, l10.2.2.2.2.2.1⟩
    · exact ⟨m10.1, m10.2.1, m10.2.2.1, m10.2.2.2.1, m10.2.2.2.2.1, m10.2.2.2.2.2.1⟩
  have h502 : zI s10 502 q4 = 0 := (q4I 502 (by decide) (by decide) (by decide)).trans (nw2.1.2.2.1 502)
  have h513 : zI s10 513 q4 = 0 := (q4I 513 (by decide) (by decide) (by decide)).trans (nw2.1.2.2.1 513)
  have hN : NS G D0 (X0 q4 cn le cu pl pc th (fun b => if b then q73 else q60) (fun b => if b then fa7 else fa5) (fun b => if b then F7 else F5)) s10 := ⟨hkA, hls, hdj, h502⟩
  have hln : ∀ b, Ln Tt D0 (X0 q4 cn le cu pl pc th (fun b => if b then q73 else q60) (fun b => if b then fa7 else fa5) (fun b => if b then F7 else F5)) b s10 (fun _ => []) [] := fun b => by
    refine ⟨?_, fun k hk => ⟨(pR b 711).trans (nw2.2.2.1 b).2.2.2.2.2.2.2.2.2.2.1, (pR b 712).trans (nw2.2.2.1 b).2.2.2.2.2.2.2.2.2.2.2, rfl⟩, List.nodup_nil, fun k hk => ⟨List.nodup_nil, fun x hx => absurd hx List.not_mem_nil⟩, fun x hx => absurd hx List.not_mem_nil, fun k hk x hx => absurd hx List.not_mem_nil⟩
    cases b
    · exact l10.2.2.2.2.2.2
    · exact m10.2.2.2.2.2.2
  have hbz : ∀ b, Bz D0 (X0 q4 cn le cu pl pc th (fun b => if b then q73 else q60) (fun b => if b then fa7 else fa5) (fun b => if b then F7 else F5)) b s10 := fun b k hk ht => ⟨(pI b 707 (by decide) (by decide) (by decide)).trans (nw2.2.2.1 b).2.2.2.2.2.2.2.1, (pI b 708 (by decide) (by decide) (by decide)).trans (nw2.2.2.1 b).2.2.2.2.2.2.2.2.1⟩
  have sk : ∀ a n, zT s3 a = (20, n) → zA s10 a = zA s3 a := fun a n h => (e3a.2 a (by rw [h]; exact (by decide : (20 : Nat) ≠ 0)) (kne h ho3 (fun z => absurd (Prod.mk.inj z).1 (by decide)))).2.1
  have hS : ∀ k, k < dn D0 → Sy D0 (X0 q4 cn le cu pl pc th (fun b => if b then q73 else q60) (fun b => if b then fa7 else fa5) (fun b => if b then F7 else F5)) (Y0 ob q30 q86 oa sy) s10 k := fun k hk => by
    have hS3 := hI3.2.2.1 k hk
    exact ⟨((e3a.2 _ (by rw [T4]; decide) q4n).1 504).2.trans hS3.1, e3a.T hS3.2.1, fun ht i hi => by rw [sk _ _ hS3.2.1]; exact hS3.2.2 ht i hi⟩
  have hswA : Sw G s10 := by
    have h3 := hI3.2.2.2.1
    have k := (e3a.2 G.2.2.2.1 (by rw [h3.1]; decide) (kne h3.1 ho3 (by decide))).2.1
    exact ⟨e3a.T h3.1, by rw [k]; exact h3.2.1, by rw [k]; exact h3.2.2⟩
  have hTc0 : Tc D0 (X0 q4 cn le cu pl pc th (fun b => if b then q73 else q60) (fun b => if b then fa7 else fa5) (fun b => if b then F7 else F5)) s10 := fun k hk ht => by cases ht
  have hPL : PL G D0 (X0 q4 cn le cu pl pc th (fun b => if b then q73 else q60) (fun b => if b then fa7 else fa5) (fun b => if b then F7 else F5)) (Y0 ob q30 q86 oa sy) 60 0 (fun _ => []) [] (fun _ => []) [] s10 := by
    refine ⟨⟨c10.2.1, c10.2.2.2 1000, c10.2.2.2 1001, c10.2.2.2 1002, c10.2.2.2 1003, c10.2.2.2 1004, c10.2.2.1 1005, c10.2.2.1 1006, (c10.2.2.1 1007).trans (hf3 1007 (by decide)).1, w10.1, fun k hk => ?_, p10, doa, hDA2, fun k hk => ⟨0, Nat.zero_le _, h502⟩, hTc0, by decide⟩, AI.of D0_ok hN hS hswA, hls, hdj, h502, hln false, hln true, fun a ha => ?_, hbz false, hbz true, ?_⟩
    · rw [w10.2 k]
      by_cases z : k = 0
      · rw [if_pos z, if_pos (by rw [z]; decide)]
      · rw [if_neg z, if_neg (fun y => z (D0_k y))]
    · rcases ha with z | ⟨k, hk, z⟩
      · exact absurd z List.not_mem_nil
      · exact absurd z List.not_mem_nil
    · show 0 ≤ (zI s10 513 q4).toInt ∧ (zI s10 513 q4).toInt ≤ ((0 : Nat) : Int)
      rw [h513]; decide
  have hO := Ow_of (b := false) hN (by decide) (hln true)
  have hlo : Ln (fun a => ¬ ownP (X0 q4 cn le cu pl pc th (fun b => if b then q73 else q60) (fun b => if b then fa7 else fa5) (fun b => if b then F7 else F5)) D0 true (fun _ => []) [] a) D0 (X0 q4 cn le cu pl pc th (fun b => if b then q73 else q60) (fun b => if b then fa7 else fa5) (fun b => if b then F7 else F5)) false s10 (fun _ => []) [] := (hln false).mo (fun a ha => by
    rcases ha with z | ⟨k, hk, z⟩
    · exact absurd z List.not_mem_nil
    · exact absurd z List.not_mem_nil)
  have hTc : Tc D0 (X0 q4 cn le cu pl pc th (fun b => if b then q73 else q60) (fun b => if b then fa7 else fa5) (fun b => if b then F7 else F5)) s10 := fun k hk ht => by cases ht
  refine zp_aload_n dX12_init_96 rfl (a := ob) (List.mem_of_getElem? (i := 2) rfl) ?_
  refine zp_aload_n dX12_init_97 rfl (a := ob) (List.mem_of_getElem? (i := 2) rfl) ?_
  refine zp_getRv dX12_init_98 fl_X12_41 c10.2.1 (b := q60) (c10.2.2.2 1002) ?_
  refine zp_aload_n dX12_init_101 rfl (a := q4) (List.mem_of_getElem? (i := 1) rfl) ?_
  refine zp_bipush dX12_init_102 (v := 60) (by decide) ?_
  refine zp_iconst dX12_init_104 (v := 0) (by decide) ?_
  refine zp_callV (c0 := 2) (st := [.ref ob]) (mc2 := 0) (ms2 := 0) dX12_init_105 (c_X4_layAll l G (fun a => ¬ ownP (X0 q4 cn le cu pl pc th (fun b => if b then q73 else q60) (fun b => if b then fa7 else fa5) (fun b => if b then F7 else F5)) D0 true (fun _ => []) [] a) D0 (X0 q4 cn le cu pl pc th (fun b => if b then q73 else q60) (fun b => if b then fa7 else fa5) (fun b => if b then F7 else F5)) false (fun _ => []) [] s10 60 (nI 0) z0 z0 D0_ok hN hO hlo hswA (hbz false) (by decide) (by decide) (Or.inl (by show zI s10 715 (pl false) < zI s10 513 q4; rw [h513, pI false 715 (by decide) (by decide) (by decide), (nw2.2.2.1 false).2.2.2.2.2.2.2.2.2.1]; decide))) cl_X12_55 im_X4_layAll se_X4_layAll rfl rfl l10.1 rfl rfl (by omega) (by omega) (by omega) (Nat.le_of_ble_eq_true rfl) ?_
  rintro _ s11 ⟨w, LL2, fr2, rfl, r2, b2, sd2, f2, e703, e715, e716⟩
  have k11 : ∀ a c n, zT s10 a = (c + 1, n) → zT s11 a = (c + 1, n) := fun a c n h => (f2.2.2.2.1 a (by show (zT s10 a).1 ≠ 0; rw [h]; exact Nat.succ_ne_zero c)).trans h
  have hN11 := r2.ns
  have hp11 : Pp q86 oa s11 := ⟨k11 _ _ _ p10.1, by rw [f2.R (by unfold stf; omega)]; exact p10.2.1, k11 _ _ _ p10.2.2⟩
  have hT11 : Tc D0 (X0 q4 cn le cu pl pc th (fun b => if b then q73 else q60) (fun b => if b then fa7 else fa5) (fun b => if b then F7 else F5)) s11 := fun k hk ht => by cases ht
  have hsw11 : Sw G s11 := ⟨k11 _ _ _ hswA.1, by rw [f2.A]; exact hswA.2.1, by rw [f2.A]; exact hswA.2.2⟩
  refine zp_putI dX12_init_108 fl_X12_59 (k11 _ _ _ c10.2.1) ?_
  refine zp_aload_n dX12_init_111 rfl (a := ob) (List.mem_of_getElem? (i := 2) rfl) ?_
  refine zp_aload_n dX12_init_112 rfl (a := ob) (List.mem_of_getElem? (i := 2) rfl) ?_
  refine zp_getIv dX12_init_113 fl_X12_59 (tI (k11 _ _ _ c10.2.1)) (v := w) rIe ?_
  refine zp_putI dX12_init_116 fl_X12_62 (tI (k11 _ _ _ c10.2.1)) ?_
  have hN3 : NS G D0 (X0 q4 cn le cu pl pc th (fun b => if b then q73 else q60) (fun b => if b then fa7 else fa5) (fun b => if b then F7 else F5)) (wI (wI s11 1009 ob w) 1008 ob w) := NS.hi (by decide) (NS.hi (by decide) hN11)
  refine zp_aload_n dX12_init_119 rfl (a := ob) (List.mem_of_getElem? (i := 2) rfl) ?_
  refine zp_getRv dX12_init_120 fl_X12_51 (tI (tI (k11 _ _ _ c10.2.1))) (b := q86) (rRI.trans (rRI.trans ((congrFun (f2.R (by unfold stf; omega)) _).trans (c10.2.2.2 1004)))) ?_
  refine zp_aload_n dX12_init_123 rfl (a := q4) (List.mem_of_getElem? (i := 1) rfl) ?_
  refine zp_callV (c0 := 5) (st := []) (mc2 := 0) (ms2 := 0) dX12_init_124 (c_X8_arrange l G D0 (X0 q4 cn le cu pl pc th (fun b => if b then q73 else q60) (fun b => if b then fa7 else fa5) (fun b => if b then F7 else F5)) q86 oa _ D0_ok hN3 hp11 hT11 hsw11) cl_X12_65 im_X8_arrange se_X8_arrange rfl rfl (tI (tI hp11.1)) rfl rfl (by omega) (by omega) (by omega) (Nat.le_of_ble_eq_true rfl) ?_
  rintro _ s12 ⟨rfl, p1, p2⟩
  obtain ⟨hRz, tz, az⟩ := Rz_fin D0_ok hPL hN r2 b2 sd2 f2 e703 e715 e716 p1 p2
  have t0 : ∀ a, (zT σ a).1 ≠ 0 → zT s10 a = zT σ a := fun a ha => (e3a.1 a (by rw [t3, e2.1 a ha]; exact ha)).trans ((t3 a).trans (e2.1 a ha))
  have hfin : ∀ a, (zT σ a).1 ≠ 0 → zT s12 a = zT σ a ∧ (a ≠ ob → zA s12 a = zA σ a) := fun a ha => by
    refine ⟨(tz a (by rw [t0 a ha]; exact ha)).trans (t0 a ha), fun hne => ?_⟩
    have k3 : (zT s3 a).1 ≠ 0 := by rw [t3, e2.1 a ha]; exact ha
    have cnz : (zT σ cn).1 = 0 := ((Ex.refl (O := fun _ => False)).nT hq4 (t := (5, 0))).fresh nw.2.1.1.2.2.2.1
    rw [az, (e3a.2 a k3 hne).2.1, g5 a (fun k hk _ z => ha (by rw [z]; exact cnz))]
    exact (e2.2 a ha (fun z => z)).2.1
  refine zp_vret rfl dX12_init_127 ?_
  exact ⟨rfl, _, _, LL2, fr2, _, _, hRz, rfl, hfin⟩

/-! A THING ADDED (by wip/p27/gen_addth.py) -/
def lkS (F : Nat) (σ : Sto) : Sto := wI (wI (wI σ 209 F (zI σ 207 F)) 210 F (zI σ 207 F + zI σ 208 F)) 211 F 0
theorem lkS_I {F σ} {g : Nat} (h1 : g ≠ 209) (h2 : g ≠ 210) (h3 : g ≠ 211) : zI (lkS F σ) g = zI σ g := by
  funext a
  unfold lkS
  rw [rIn h3, rIn h2, rIn h1]
theorem lkS_R {F σ} : zR (lkS F σ) = zR σ := rfl
theorem lk_rel {G O D X b S wl σ fl up dw k cs lo LL fr} (hc : Rc G O D X b S wl σ) (hr : Ro O D X b S fl up dw k 0 cs lo LL fr σ) :
    Rc G O D X b S wl (lkS (xF X b) σ) ∧ Ro O D X b S fl up dw k 0 cs lo LL fr (lkS (xF X b) σ) ∧ Fm O σ (lkS (xF X b) σ) ∧ (zI (lkS (xF X b) σ) 209 (xF X b) = zI (lkS (xF X b) σ) 207 (xF X b) ∧ zI (lkS (xF X b) σ) 210 (xF X b) = zI (lkS (xF X b) σ) 207 (xF X b) + zI (lkS (xF X b) σ) 208 (xF X b)) ∧ (∀ g, 300 ≤ g → zI (lkS (xF X b) σ) g = zI σ g ∧ zR (lkS (xF X b) σ) g = zR σ g) ∧ zI (lkS (xF X b) σ) 211 (xF X b) = 0 := by
  have hf : Fm O σ (lkS (xF X b) σ) := ((Fm.wI hc.ow.2.1 (by unfold stf; omega)).trans (Fm.wI hc.ow.2.1 (by unfold stf; omega))).trans (Fm.wI hc.ow.2.1 (by unfold stf; omega))
  have k207 : zI (lkS (xF X b) σ) 207 = zI σ 207 := lkS_I (by decide) (by decide) (by decide)
  have k208 : zI (lkS (xF X b) σ) 208 = zI σ 208 := lkS_I (by decide) (by decide) (by decide)
  have kk : ∀ g, 300 ≤ g → zI (lkS (xF X b) σ) g = zI σ g := fun g hg => lkS_I (by omega) (by omega) (by omega)
  refine ⟨hc.keep hf (fun g h1 h2 => lkS_I (by omega) (by omega) (by omega)) rfl rfl rfl hc.l0 (by rw [lkS_I (by decide) (by decide) (by decide)]; exact hc.y) (by rw [lkS_I (by decide) (by decide) (by decide)]; exact hc.ab) (by rw [lkS_I (by decide) (by decide) (by decide)]; exact hc.be) rfl (fun _ _ _ => ⟨rfl, rfl, rfl, rfl⟩) rfl (fun _ _ => rfl) rfl, ?_, hf, ⟨?_, ?_⟩, fun g hg => ⟨kk g hg, rfl⟩, rIe⟩
  · refine ⟨hr.ln.to hf.2.2.2.1 rfl rfl rfl rfl, hr.lk, ?_, ?_, hr.lz, hr.lv, ?_, ?_, hr.z, fun q => absurd rfl q, hr.fb, ?_, ?_⟩
    · rw [kk 400 (by decide), kk 401 (by decide), kk 402 (by decide)]; exact hr.lc
    · rw [kk 400 (by decide), kk 401 (by decide), kk 402 (by decide)]; exact hr.cc
    · rw [kk 901 (by decide)]; exact hr.tx
    · rw [lkS_I (by decide) (by decide) (by decide)]; exact hr.th
    · rw [k207]; exact hr.lf
    · rw [k208]; exact hr.wi
  · rw [k207]; exact (rIn (by decide)).trans ((rIn (by decide)).trans rIe)
  · rw [k207, k208]; exact (rIn (by decide)).trans rIe
/-- behind a first thing -/
def Th0 (G : Gb) (O : Nat → Prop) (D : Dt) (X : Cx) (b : Bool) (S : FS) (wl : List Nat) (k t : Nat) (cs : List Nat) (len asc dsc : Int32) (LL : Nat → List Nat) (σ σ' : Sto) : Prop :=
  ∃ LL2 fr2 lo2, Rc G O D X b S wl σ' ∧ Ro O D X b S (0 + len) (mx 0 asc) (mx 0 dsc) k 1 cs lo2 LL2 fr2 σ' ∧ Fm O σ σ' ∧ Pt0 t lo2 0 σ σ' ∧ ∀ j l, l ∈ LL j → l ∈ LL2 j
theorem l_addThing0 (l : Launch) {G : Gb} {O : Nat → Prop} {D : Dt} {X : Cx} {b : Bool} {S : FS} {wl : List Nat} {σ : Sto} {k : Nat} {cs : List Nat} {lo : Nat} {LL : Nat → List Nat} {fr : List Nat} {t t2 : Nat} {len asc dsc : Int32} {v : Int32} (hv : v < 1000) (hc : Rc G O D X b S wl σ) (hr : Ro O D X b S 0 0 0 k 0 cs lo LL fr σ) (hT : zT σ t = (9, 0)) (hlen : zI σ 902 t = len) (hasc : zI σ 903 t = asc) (hdsc : zI σ 904 t = dsc) (hOt : O t) (ht : frT D X b S t) (hl1 : 1 ≤ len.toInt) (hl2 : len.toInt ≤ 30) (ha : 0 ≤ asc.toInt) (hd : 0 ≤ dsc.toInt) :
    Wp l G 4 1 6 (RX4, cX4_addThing, 9, none, false) 18 [(8, .int v), (7, .int 0), (6, .ref t), (0, .ref (xLy X b)), (1, .ref (xnd X k)), (2, .ref (xF X b)), (3, .ref t), (4, .ref t2), (5, .int 0)] [] σ (fun v s => v = none ∧ Th0 G O D X b S wl k t cs len asc dsc LL σ s) := by
  have hk := hr.lv.1
  unfold Th0
  refine zp_iload dX4_addThing_18 (x := v) (List.mem_of_getElem? (i := 0) rfl) ?_
  refine zp_sipush dX4_addThing_20 (v := 1000) (by decide) ?_
  refine zp_icmp_ge dX4_addThing_23 (tgt := 194) rfl (fun q => absurd q (Int32.not_le.mpr hv)) (fun _ => ?_)
  refine zp_aload_n dX4_addThing_26 rfl (a := (xF X b)) (List.mem_of_getElem? (i := 5) rfl) ?_
  refine zp_getIv dX4_addThing_27 fl_X4_458 (hc.ns.l b).FT (v := 0) hr.th ?_
  refine zp_if_ne dX4_addThing_30 (tgt := 45) rfl (fun q => absurd rfl q) (fun _ => ?_)
  refine zp_aload_n dX4_addThing_33 rfl (a := (xF X b)) (List.mem_of_getElem? (i := 5) rfl) ?_
  refine zp_aload_n dX4_addThing_34 rfl (a := (xF X b)) (List.mem_of_getElem? (i := 5) rfl) ?_
  refine zp_getIv dX4_addThing_35 fl_X4_326 (hc.ns.l b).FT (v := (zI σ 200 (xF X b))) rfl ?_
  refine zp_aload_n dX4_addThing_38 rfl (a := (xF X b)) (List.mem_of_getElem? (i := 5) rfl) ?_
  refine zp_getIv dX4_addThing_39 fl_X4_326 (hc.ns.l b).FT (v := (zI σ 200 (xF X b))) rfl ?_
  refine zp_callV (c0 := 1) (st := []) (mc2 := 1) (ms2 := 6) dX4_addThing_42 (c_X2_look l G (xF X b) 0 _ _ _ (hc.ns.l b).FT hc.f0) cl_X4_461 im_X2_look se_X2_look rfl rfl (hc.ns.l b).FT rfl rfl (by omega) (by omega) (by omega) (Nat.le_of_ble_eq_true rfl) ?_
  rintro _ σ1 ⟨rfl, hs1⟩
  have g := lk_rel hc hr
  have hs2 : σ1 = lkS (xF X b) σ := hs1
  rw [← hs2] at g
  clear hs2
  clear hs1
  obtain ⟨hc1, hr1, f1, hB1, hI1, h211⟩ := g
  have e902 : zI σ1 902 t = len := by rw [(hI1 902 (by decide)).1]; exact hlen
  have e903 : zI σ1 903 t = asc := by rw [(hI1 903 (by decide)).1]; exact hasc
  have e904 : zI σ1 904 t = dsc := by rw [(hI1 904 (by decide)).1]; exact hdsc
  refine zp_aload_n dX4_addThing_45 rfl (a := (xF X b)) (List.mem_of_getElem? (i := 5) rfl) ?_
  refine zp_aload dX4_addThing_46 (a := t) (List.mem_of_getElem? (i := 2) rfl) ?_
  refine zp_getIv dX4_addThing_48 fl_X4_432 (f1.T hT) (v := len) e902 ?_
  refine zp_callV (c0 := 1) (st := []) (mc2 := 1) (ms2 := 6) dX4_addThing_51 (c_X2_fits l G (xF X b) 0 _ _ (f1.T (hc.ns.l b).FT)) cl_X4_465 im_X2_fits se_X2_fits rfl rfl (f1.T (hc.ns.l b).FT) rfl rfl (by omega) (by omega) (by omega) (Nat.le_of_ble_eq_true rfl) ?_
  rintro _ s1 ⟨rfl, hs1⟩; obtain rfl := hs1.symm
  refine zp_ifb_eq dX4_addThing_54 (tgt := 66) rfl (fun h54 => ?_) (fun h54 => ?_)
  · skip
    refine zp_iload dX4_addThing_66 (x := 0) (List.mem_of_getElem? (i := 1) rfl) ?_
    refine zp_if_eq dX4_addThing_68 (tgt := 142) rfl (fun _ => ?_) (fun q => absurd rfl q)
    refine zp_aload_n dX4_addThing_142 rfl (a := (xF X b)) (List.mem_of_getElem? (i := 5) rfl) ?_
    refine zp_getIv dX4_addThing_143 fl_X4_458 (f1.T (hc.ns.l b).FT) (v := 0) hr1.th ?_
    refine zp_if_le dX4_addThing_146 (tgt := 157) rfl (fun _ => ?_) (fun q => absurd (by decide) q)
    refine zp_aload_n dX4_addThing_157 rfl (a := (xF X b)) (List.mem_of_getElem? (i := 5) rfl) ?_
    refine zp_getIv dX4_addThing_158 fl_X4_473 (f1.T (hc.ns.l b).FT) (v := 0) h211 ?_
    refine zp_if_eq dX4_addThing_161 (tgt := 179) rfl (fun _ => ?_) (fun q => absurd rfl q)
    refine zp_aload_n dX4_addThing_179 rfl (a := (xLy X b)) (List.mem_of_getElem? (i := 3) rfl) ?_
    refine zp_aload_n dX4_addThing_180 rfl (a := (xnd X k)) (List.mem_of_getElem? (i := 4) rfl) ?_
    refine zp_aload_n dX4_addThing_181 rfl (a := (xF X b)) (List.mem_of_getElem? (i := 5) rfl) ?_
    refine zp_aload dX4_addThing_182 (a := t) (List.mem_of_getElem? (i := 2) rfl) ?_
    refine zp_callV (c0 := 2) (st := []) (mc2 := 0) (ms2 := 0) dX4_addThing_184 (c_X4_putThingB l G O D X b k t 0 LL fr _ hc1.ns hc1.ow hr1.ln hk (f1.T hT) hr1.th) cl_X4_469 im_X4_putThing se_X4_putThing rfl rfl (f1.T (hc.ns.l b).T) rfl rfl (by omega) (by omega) (by omega) (Nat.le_of_ble_eq_true rfl) ?_
    rintro _ s1 ⟨x, fr2, σ2, rfl, q1, q2, q3, q4, q5, q6, hs1⟩
    rw [e902, e903, e904] at hs1
    obtain ⟨p1, p2, p3, p4⟩ := put_relB hc1 hr1 hOt ht hl1 hl2 ha hd hB1 q1 q2 q3 q4 q5
    refine zp_vret rfl dX4_addThing_187 ?_
    subst hs1
    refine ⟨rfl, _, fr2, x, p1, p2, f1.trans p3, ?_, fun j l hl => ?_⟩
    · obtain ⟨a1, a2, a3, a4, a5, a6⟩ := p4
      exact ⟨a1, a2, fun c hc => ⟨(a3 c hc).1.trans (congrFun (hI1 900 (by decide)).2 c), (a3 c hc).2.trans (congrFun (hI1 901 (by decide)).1 c)⟩, a4.trans (hI1 902 (by decide)).1, a5.trans (hI1 903 (by decide)).1, a6.trans (hI1 904 (by decide)).1⟩
    · by_cases hj : j = k
      · subst hj; rw [setL_self]; exact List.mem_append_left _ hl
      · rw [setL_ne hj]; exact hl
  · skip
    refine zp_aload_n dX4_addThing_57 rfl (a := (xLy X b)) (List.mem_of_getElem? (i := 3) rfl) ?_
    refine zp_aload_n dX4_addThing_58 rfl (a := (xnd X k)) (List.mem_of_getElem? (i := 4) rfl) ?_
    refine zp_aload_n dX4_addThing_59 rfl (a := (xF X b)) (List.mem_of_getElem? (i := 5) rfl) ?_
    refine zp_aload dX4_addThing_60 (a := t) (List.mem_of_getElem? (i := 2) rfl) ?_
    refine zp_callV (c0 := 2) (st := []) (mc2 := 0) (ms2 := 0) dX4_addThing_62 (c_X4_putThingB l G O D X b k t 0 LL fr _ hc1.ns hc1.ow hr1.ln hk (f1.T hT) hr1.th) cl_X4_469 im_X4_putThing se_X4_putThing rfl rfl (f1.T (hc.ns.l b).T) rfl rfl (by omega) (by omega) (by omega) (Nat.le_of_ble_eq_true rfl) ?_
    rintro _ s1 ⟨x, fr2, σ2, rfl, q1, q2, q3, q4, q5, q6, hs1⟩
    rw [e902, e903, e904] at hs1
    obtain ⟨p1, p2, p3, p4⟩ := put_relB hc1 hr1 hOt ht hl1 hl2 ha hd hB1 q1 q2 q3 q4 q5
    refine zp_vret rfl dX4_addThing_65 ?_
    subst hs1
    refine ⟨rfl, _, fr2, x, p1, p2, f1.trans p3, ?_, fun j l hl => ?_⟩
    · obtain ⟨a1, a2, a3, a4, a5, a6⟩ := p4
      exact ⟨a1, a2, fun c hc => ⟨(a3 c hc).1.trans (congrFun (hI1 900 (by decide)).2 c), (a3 c hc).2.trans (congrFun (hI1 901 (by decide)).1 c)⟩, a4.trans (hI1 902 (by decide)).1, a5.trans (hI1 903 (by decide)).1, a6.trans (hI1 904 (by decide)).1⟩
    · by_cases hj : j = k
      · subst hj; rw [setL_self]; exact List.mem_append_left _ hl
      · rw [setL_ne hj]; exact hl
/-- behind a thing -/
def Th1 (G : Gb) (O : Nat → Prop) (D : Dt) (X : Cx) (b : Bool) (Y : RS) (wl : List Nat) (k t : Nat) (len asc dsc : Int32) (LL : Nat → List Nat) (σ σ' : Sto) : Prop :=
  ∃ cs2 LL2 fr2 lo2 cnt2, Rc G O D X b (brkP D k len Y).1 wl σ' ∧ Ro O D X b (brkP D k len Y).1 (offP (brkP D k len Y) + len) (mx (brkP D k len Y).2.2.1 asc) (mx (brkP D k len Y).2.2.2 dsc) k (cnt2 + 1) cs2 lo2 LL2 fr2 σ' ∧ Fm O σ σ' ∧ Pt0 t lo2 (offP (brkP D k len Y)) σ σ' ∧ ∀ j l, l ∈ LL j → l ∈ LL2 j
set_option maxRecDepth 100000 in
set_option maxHeartbeats 4000000 in
theorem c_X4_addThing (l : Launch) (G : Gb) (O : Nat → Prop) (D : Dt) (X : Cx) (b : Bool) (S : FS) (wl : List Nat) (σ : Sto) (k cnt : Nat) (cs : List Nat) (lo : Nat) (LL : Nat → List Nat) (fr : List Nat) (t t2 : Nat) (fl up dw len asc dsc : Int32) (hc : Rc G O D X b S wl σ) (hr : Ro O D X b S fl up dw k cnt cs lo LL fr σ) (hW : (sa S (32 + k)).toInt ≤ 1000) (hT : zT σ t = (9, 0)) (hlen : zI σ 902 t = len) (hasc : zI σ 903 t = asc) (hdsc : zI σ 904 t = dsc) (hOt : O t) (ht : frT D X b S t) (hl1 : 1 ≤ len.toInt) (hl2 : len.toInt ≤ 30) (ha : 0 ≤ asc.toInt) (hd : 0 ≤ dsc.toInt) : Ct l G 4 1 6 yX4_addThing mX4_addThing [.ref (xLy X b), .ref (xnd X k), .ref (xF X b), .ref t, .ref t2, .int 0] σ (fun v s => v = none ∧ Th1 G O D X b (S, fl, up, dw) wl k t len asc dsc LL σ s) := by
  refine Ct.of (by decide) rfl (Nat.le_of_ble_eq_true rfl) (fun h => absurd h (by decide)) ?_
  show Wp l G 4 1 6 (RX4, cX4_addThing, 9, none, false) 0 [(0, .ref (xLy X b)), (1, .ref (xnd X k)), (2, .ref (xF X b)), (3, .ref t), (4, .ref t2), (5, .int 0)] [] σ _
  refine zp_aload_n dX4_addThing_0 rfl (a := t) (List.mem_of_getElem? (i := 3) rfl) ?_
  refine zp_astore dX4_addThing_1 (Nat.le_of_ble_eq_true rfl) (lv2 := [(6, .ref t), (0, .ref (xLy X b)), (1, .ref (xnd X k)), (2, .ref (xF X b)), (3, .ref t), (4, .ref t2), (5, .int 0)]) rfl ?_
  refine zp_iload dX4_addThing_3 (x := 0) (List.mem_of_getElem? (i := 6) rfl) ?_
  refine zp_if_le dX4_addThing_5 (tgt := 12) rfl (fun _ => ?_) (fun q => absurd (by decide) q)
  refine zp_iconst dX4_addThing_12 (v := 0) (by decide) ?_
  refine zp_istore dX4_addThing_13 (Nat.le_of_ble_eq_true rfl) (lv2 := [(7, .int 0), (6, .ref t), (0, .ref (xLy X b)), (1, .ref (xnd X k)), (2, .ref (xF X b)), (3, .ref t), (4, .ref t2), (5, .int 0)]) rfl ?_
  refine zp_iconst dX4_addThing_15 (v := 0) (by decide) ?_
  refine zp_istore dX4_addThing_16 (Nat.le_of_ble_eq_true rfl) (lv2 := [(8, .int 0), (7, .int 0), (6, .ref t), (0, .ref (xLy X b)), (1, .ref (xnd X k)), (2, .ref (xF X b)), (3, .ref t), (4, .ref t2), (5, .int 0)]) rfl ?_
  by_cases h0 : cnt = 0
  · subst h0
    obtain ⟨rfl, rfl, rfl⟩ := hr.z rfl
    refine Wp.mono (l_addThing0 l (v := 0) (t2 := t2) (by decide) hc hr hT hlen hasc hdsc hOt ht hl1 hl2 ha hd) (Nat.le_refl _) (Nat.le_refl _) (Nat.le_refl _) (fun v s q => ?_)
    obtain ⟨q0, LL2, fr2, lo2, q1, q2, q3, q4, q5⟩ := q
    exact ⟨q0, cs, LL2, fr2, lo2, 0, q1, q2, q3, q4, q5⟩
  have hfb := hr.fb
  have hn0 : ¬ nI cnt = 0 := fun q => h0 ((nI_eq (b := 0) (by omega) (by decide)).mp q)
  have hfl : fl ≠ 0 := fun q => by rw [q] at hfb; have : (0 : Int32).toInt = 0 := rfl; omega
  obtain ⟨n1, n2, n3, n4, n5, n6⟩ := hr.nz h0
  have hlo : lo ∈ LL k := by rw [hr.lk, if_neg h0]; simp
  have hfit : zoff σ (xF X b) + len ≤ zI σ 210 (xF X b) - zI σ 209 (xF X b) ↔ (fl + 1) + len ≤ sa S (32 + k) := by
    unfold zoff
    rw [hr.th, if_neg hn0, n1, n5, n6, hr.wi, Int32.add_comm (zI σ 207 (xF X b)), Int32.add_sub_cancel]
  refine zp_iload dX4_addThing_18 (x := 0) (List.mem_of_getElem? (i := 0) rfl) ?_
  refine zp_sipush dX4_addThing_20 (v := 1000) (by decide) ?_
  refine zp_icmp_ge dX4_addThing_23 (tgt := 194) rfl (fun q => absurd q (by decide)) (fun _ => ?_)
  refine zp_aload_n dX4_addThing_26 rfl (a := (xF X b)) (List.mem_of_getElem? (i := 5) rfl) ?_
  refine zp_getIv dX4_addThing_27 fl_X4_458 (hc.ns.l b).FT (v := (nI cnt)) hr.th ?_
  refine zp_if_ne dX4_addThing_30 (tgt := 45) rfl (fun _ => ?_) (fun q => absurd q hn0)
  refine zp_aload_n dX4_addThing_45 rfl (a := (xF X b)) (List.mem_of_getElem? (i := 5) rfl) ?_
  refine zp_aload dX4_addThing_46 (a := t) (List.mem_of_getElem? (i := 2) rfl) ?_
  refine zp_getIv dX4_addThing_48 fl_X4_432 hT (v := len) hlen ?_
  refine zp_callV (c0 := 1) (st := []) (mc2 := 1) (ms2 := 6) dX4_addThing_51 (c_X2_fits l G (xF X b) 0 _ _ (hc.ns.l b).FT) cl_X4_465 im_X2_fits se_X2_fits rfl rfl (hc.ns.l b).FT rfl rfl (by omega) (by omega) (by omega) (Nat.le_of_ble_eq_true rfl) ?_
  rintro _ s1 ⟨rfl, hs1⟩; obtain rfl := hs1.symm
  refine zp_ifb_eq dX4_addThing_54 (tgt := 66) rfl (fun h54 => ?_) (fun h54 => ?_)
  · skip
    refine zp_iload dX4_addThing_66 (x := 0) (List.mem_of_getElem? (i := 1) rfl) ?_
    refine zp_if_eq dX4_addThing_68 (tgt := 142) rfl (fun _ => ?_) (fun q => absurd rfl q)
    refine zp_aload_n dX4_addThing_142 rfl (a := (xF X b)) (List.mem_of_getElem? (i := 5) rfl) ?_
    refine zp_getIv dX4_addThing_143 fl_X4_458 (hc.ns.l b).FT (v := (nI cnt)) hr.th ?_
    refine zp_if_le dX4_addThing_146 (tgt := 157) rfl (fun q => absurd q (fun q => h0 (by have h1 := Int32.le_iff_toInt_le.mp q; rw [nI_toInt (by omega)] at h1; have : (0 : Int32).toInt = 0 := rfl; omega))) (fun _ => ?_)
    refine zp_aload_n dX4_addThing_149 rfl (a := (xLy X b)) (List.mem_of_getElem? (i := 3) rfl) ?_
    refine zp_aload_n dX4_addThing_150 rfl (a := (xF X b)) (List.mem_of_getElem? (i := 5) rfl) ?_
    refine zp_callV (c0 := 2) (st := []) (mc2 := 1) (ms2 := 6) dX4_addThing_151 (c_X4_endLineA l G (xLy X b) (xF X b) lo 0 _ (hc.ns.l b).FT n4 (hr.ln.T hr.lv.1 hlo) (by rw [hr.th]; exact hn0) hc.l0) cl_X4_419 im_X4_endLine se_X4_endLine rfl rfl (hc.ns.l b).T rfl rfl (by omega) (by omega) (by omega) (Nat.le_of_ble_eq_true rfl) ?_
    rintro _ s1 ⟨rfl, r1, r2, hs1⟩
    obtain ⟨p1, p2, p3, p4⟩ := end_rel (r1 := r1) (r2 := r2) hc hr h0
    rw [← hs1] at p1 p2 p3 p4
    refine zp_goto dX4_addThing_154 (tgt := 188) rfl ?_
    refine zp_iinc dX4_addThing_188 (k1 := 0) (x := 0) rfl (v := 1) rfl (Nat.le_of_ble_eq_true rfl) (lv2 := [(8, .int 1), (7, .int 0), (6, .ref t), (0, .ref (xLy X b)), (1, .ref (xnd X k)), (2, .ref (xF X b)), (3, .ref t), (4, .ref t2), (5, .int 0)]) rfl ?_
    refine zp_goto dX4_addThing_191 (tgt := 18) rfl ?_
    have hb : brkP D k len (S, fl, up, dw) = (shutP k (S, fl, up, dw), 0, 0, 0) := if_pos ⟨hfl, fun q => h54 (hfit.mpr q)⟩
    refine Wp.mono (l_addThing0 l (v := (0 + 1)) (t2 := t2) (by decide) p1 p2 (p3.T hT) (by rw [(p4 902 (by decide)).1]; exact hlen) (by rw [(p4 903 (by decide)).1]; exact hasc) (by rw [(p4 904 (by decide)).1]; exact hdsc) hOt ht hl1 hl2 ha hd) (Nat.le_refl _) (Nat.le_refl _) (Nat.le_refl _) (fun v s q => ?_)
    obtain ⟨q0, LL2, fr2, lo2, q1, q2, q3, q4, q5⟩ := q
    refine ⟨q0, cs ++ [lo], LL2, fr2, lo2, 0, ?_⟩
    rw [hb]
    refine ⟨q1, q2, p3.trans q3, ?_, q5⟩
    obtain ⟨a1, a2, a3, a4, a5, a6⟩ := q4
    exact ⟨a1, a2, fun c hcn => ⟨(a3 c hcn).1.trans (congrFun (p4 900 (by decide)).2 c), (a3 c hcn).2.trans (congrFun (p4 901 (by decide)).1 c)⟩, a4.trans (p4 902 (by decide)).1, a5.trans (p4 903 (by decide)).1, a6.trans (p4 904 (by decide)).1⟩
  · skip
    refine zp_aload_n dX4_addThing_57 rfl (a := (xLy X b)) (List.mem_of_getElem? (i := 3) rfl) ?_
    refine zp_aload_n dX4_addThing_58 rfl (a := (xnd X k)) (List.mem_of_getElem? (i := 4) rfl) ?_
    refine zp_aload_n dX4_addThing_59 rfl (a := (xF X b)) (List.mem_of_getElem? (i := 5) rfl) ?_
    refine zp_aload dX4_addThing_60 (a := t) (List.mem_of_getElem? (i := 2) rfl) ?_
    refine zp_callV (c0 := 2) (st := []) (mc2 := 1) (ms2 := 6) dX4_addThing_62 (c_X4_putThingA l G (xLy X b) (xnd X k) (xF X b) t 0 0 0 0 _ (hc.ns.l b).T (hc.ns.k k hr.lv.1).T (hc.ns.l b).FT hT lo (by rw [hr.th]; exact hn0) n4) cl_X4_469 im_X4_putThing se_X4_putThing rfl rfl (hc.ns.l b).T rfl rfl (by omega) (by omega) (by omega) (Nat.le_of_ble_eq_true rfl) ?_
    rintro _ s1 ⟨rfl, hs1⟩; obtain rfl := hs1.symm
    refine zp_vret rfl dX4_addThing_65 ?_
    obtain ⟨p1, p2, p3, p4⟩ := put_relA hc hr h0 hOt ht hl1 hl2 hW (hfit.mp h54) (asc := asc) (dsc := dsc)
    rw [n1, n2, n3, hr.th, hlen, hasc, hdsc]
    have hb : brkP D k len (S, fl, up, dw) = (S, fl, up, dw) := if_neg (fun q => q.2 (hfit.mp h54))
    refine ⟨rfl, cs, LL, fr, lo, cnt, ?_⟩
    rw [hb, show offP (S, fl, up, dw) = fl + 1 from if_neg hfl]
    exact ⟨p1, p2, p3, p4, fun _ _ h => h⟩

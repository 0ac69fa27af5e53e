/-! A NEW OBJECT (by wip/p27/gen_ctor.py) -/
set_option maxRecDepth 100000 in
set_option maxHeartbeats 4000000 in
theorem c_X10_init (l : Launch) (G : Gb) (a : Nat) (σ : Sto) (hA : zT σ a = (8, 0)) : Ct l G 2 4 14764 yX10_init mX10_init [.ref a] σ (fun v s => v = none ∧ Ex (fun c => c = a) σ s) := by
  refine Ct.of (by decide) rfl (Nat.le_of_ble_eq_true rfl) (fun _ => rfl) ?_
  show Wp l G 2 4 14764 (RX10, cX10_init, 1, none, true) 0 [(0, .ref a)] [] σ _
  refine zp_aload_n dX10_init_0 rfl (a := a) (List.mem_of_getElem? (i := 0) rfl) ?_
  refine zp_objInit dX10_init_1 wd_296 wd_28 wd_29 (by decide) (Nat.le_of_ble_eq_true rfl) ?_
  refine zp_aload_n dX10_init_4 rfl (a := a) (List.mem_of_getElem? (i := 0) rfl) ?_
  refine zp_sipush dX10_init_5 (v := 2460) (by decide) ?_
  refine zp_newI (mc2 := 3) (ms2 := 12304) (N := 2460) dX10_init_8 wd_84 (by decide) (by decide) (by decide) (by omega) (by omega) (fun q8 hq8 => ?_)
  refine zp_putRf dX10_init_10 fl_X10_11 rfl (zOwn_of (r0 := (RX10, TX10, 7)) rfl rfl) (zT_new hq8 hA) (r := some q8) rfl zfit_arr ?_
  refine zp_aload_n dX10_init_13 rfl (a := a) (List.mem_of_getElem? (i := 0) rfl) ?_
  refine zp_sipush dX10_init_14 (v := 2460) (by decide) ?_
  refine zp_newI (mc2 := 2) (ms2 := 9844) (N := 2460) dX10_init_17 wd_84 (by decide) (by decide) (by decide) (by omega) (by omega) (fun q17 hq17 => ?_)
  refine zp_putRf dX10_init_19 fl_X10_15 rfl (zOwn_of (r0 := (RX10, TX10, 7)) rfl rfl) (zT_new hq17 (tR (zT_new hq8 hA))) (r := some q17) rfl zfit_arr ?_
  refine zp_aload_n dX10_init_22 rfl (a := a) (List.mem_of_getElem? (i := 0) rfl) ?_
  refine zp_sipush dX10_init_23 (v := 4922) (by decide) ?_
  refine zp_newI (mc2 := 1) (ms2 := 4922) (N := 4922) dX10_init_26 wd_84 (by decide) (by decide) (by decide) (by omega) (by omega) (fun q26 hq26 => ?_)
  refine zp_putRf dX10_init_28 fl_X10_18 rfl (zOwn_of (r0 := (RX10, TX10, 7)) rfl rfl) (zT_new hq26 (tR (zT_new hq17 (tR (zT_new hq8 hA))))) (r := some q26) rfl zfit_arr ?_
  refine zp_aload_n dX10_init_31 rfl (a := a) (List.mem_of_getElem? (i := 0) rfl) ?_
  refine zp_sipush dX10_init_32 (v := 4922) (by decide) ?_
  refine zp_newI (mc2 := 0) (ms2 := 0) (N := 4922) dX10_init_35 wd_84 (by decide) (by decide) (by decide) (by omega) (by omega) (fun q35 hq35 => ?_)
  refine zp_putRf dX10_init_37 fl_X10_21 rfl (zOwn_of (r0 := (RX10, TX10, 7)) rfl rfl) (zT_new hq35 (tR (zT_new hq26 (tR (zT_new hq17 (tR (zT_new hq8 hA))))))) (r := some q35) rfl zfit_arr ?_
  refine zp_vret rfl dX10_init_40 ?_
  exact ⟨rfl, ((((((((Ex.refl (O := fun c => c = a)).nT hq8).nR (Or.inr rfl)).nT hq17).nR (Or.inr rfl)).nT hq26).nR (Or.inr rfl)).nT hq35).nR (Or.inr rfl)⟩
set_option maxRecDepth 100000 in
set_option maxHeartbeats 4000000 in
theorem c_X8_init (l : Launch) (G : Gb) (a : Nat) (σ : Sto) (hA : zT σ a = (6, 0)) : Ct l G 2 1 60 yX8_init mX8_init [.ref a] σ (fun v s => v = none ∧ ∃ oa, Ex (fun c => c = a) σ s ∧ zT s a = (6, 0) ∧ zR s 600 a = some oa ∧ zT s oa = (21, 60) ∧ (zT σ oa).1 = 0) := by
  refine Ct.of (by decide) rfl (Nat.le_of_ble_eq_true rfl) (fun _ => rfl) ?_
  show Wp l G 2 1 60 (RX8, cX8_init, 1, none, true) 0 [(0, .ref a)] [] σ _
  refine zp_aload_n dX8_init_0 rfl (a := a) (List.mem_of_getElem? (i := 0) rfl) ?_
  refine zp_objInit dX8_init_1 wd_484 wd_28 wd_29 (by decide) (Nat.le_of_ble_eq_true rfl) ?_
  refine zp_aload_n dX8_init_4 rfl (a := a) (List.mem_of_getElem? (i := 0) rfl) ?_
  refine zp_bipush dX8_init_5 (v := 60) (by decide) ?_
  refine zp_newQ (j := 0) (mc2 := 0) (ms2 := 0) (N := 60) dX8_init_7 wd_485 (by decide) rfl zao1 (by decide) (by decide) (by decide) (by omega) (by omega) (fun q7 hq7 => ?_)
  refine zp_putRf dX8_init_10 fl_X8_11 rfl (zOwn_of (r0 := (RX8, TX8, 2)) rfl rfl) (zT_new hq7 hA) (r := some q7) rfl zfit_arr ?_
  refine zp_vret rfl dX8_init_13 ?_
  exact ⟨rfl, q7, ((Ex.refl (O := fun c => c = a)).nT hq7).nR (Or.inr rfl), zT_new hq7 hA, rRe, zT_self, hq7⟩
/-- a layout as it is made -/
def LyF (σ s : Sto) (a : Nat) (b : Int32) (fa F : Nat) : Prop := Ex (fun c => c = a) σ s ∧ zT s a = (3, 0) ∧ zI s 300 a = b ∧ zR s 302 a = some fa ∧ zT s fa = (22, 21) ∧ (zT σ fa).1 = 0 ∧ (zQ s fa 0 = some F ∧ zT s F = (2, 0) ∧ (zT σ F).1 = 0) ∧ zR s 303 a = zR σ 303 a
def LyP (σ s : Sto) (a : Nat) (b : Int32) (fa i : Nat) : Prop := Ex (fun c => c = a) σ s ∧ zT s a = (3, 0) ∧ zI s 300 a = b ∧ zR s 302 a = some fa ∧ zT s fa = (22, 21) ∧ (zT σ fa).1 = 0 ∧ (0 < i → ∃ F, zQ s fa 0 = some F ∧ zT s F = (2, 0) ∧ (zT σ F).1 = 0) ∧ zR s 303 a = zR σ 303 a
theorem LyP.step {σ s : Sto} {a fa i q : Nat} {b : Int32} (h : LyP σ s a b fa i) (hq : (zT s q).1 = 0) : LyP σ (wQ (wT s q (2, 0)) fa i (some q)) a b fa (i + 1) := by
  obtain ⟨h1, h2, h3, h4, h5, h6, h7, h8⟩ := h
  refine ⟨(h1.nT hq).nQ (Or.inl h6), zT_new hq h2, h3, h4, zT_new hq h5, h6, fun _ => ?_, h8⟩
  by_cases z : i = 0
  · rw [z]; exact ⟨q, rQe, zT_self, h1.fresh hq⟩
  · obtain ⟨F, g1, g2, g3⟩ := h7 (by omega)
    exact ⟨F, (rQn (fun y => z y.symm)).trans g1, zT_new hq g2, g3⟩
set_option maxHeartbeats 4000000 in
theorem l_flows (l : Launch) {G : Gb} {a fa sp : Nat} {b : Int32} {σ : Sto} : ∀ (m i : Nat) (s : Sto), i + m = 21 → LyP σ s a b fa i →
    Wp l G 2 m (20 * m) (RX4, cX4_init, 4, none, true) 25 [(3, .int (nI i)), (0, .ref a), (1, .int b), (2, .ref sp)] [] s (fun v t => v = none ∧ ∃ fa F, LyF σ t a b fa F) := by
  intro m
  induction m with
  | zero =>
    intro i s hi h
    show Wp l G 2 0 (20 * 0) (RX4, cX4_init, 4, none, true) 25 [(3, .int (nI i)), (0, .ref a), (1, .int b), (2, .ref sp)] [] s _
    refine zp_iload_n dX4_init_25 rfl (x := (nI i)) (List.mem_of_getElem? (i := 0) rfl) ?_
    refine zp_bipush dX4_init_26 (v := 20) (by decide) ?_
    refine zp_icmp_gt dX4_init_28 (tgt := 50) rfl (fun _ => ?_) (fun q => absurd ((nI_ltj (j := 20) (by decide) (by omega)).mpr (by omega)) q)
    refine zp_vret rfl dX4_init_50 ?_
    obtain ⟨h1, h2, h3, h4, h5, h6, h7, h8⟩ := h
    obtain ⟨F, g⟩ := h7 (by omega)
    exact ⟨rfl, fa, F, h1, h2, h3, h4, h5, h6, g, h8⟩
  | succ m ih =>
    intro i s hi h
    show Wp l G 2 (m + 1) (20 * (m + 1)) (RX4, cX4_init, 4, none, true) 25 [(3, .int (nI i)), (0, .ref a), (1, .int b), (2, .ref sp)] [] s _
    refine zp_iload_n dX4_init_25 rfl (x := (nI i)) (List.mem_of_getElem? (i := 0) rfl) ?_
    refine zp_bipush dX4_init_26 (v := 20) (by decide) ?_
    refine zp_icmp_gt dX4_init_28 (tgt := 50) rfl (fun q => absurd q (fun q => by have := (nI_ltj (j := 20) (by decide) (by omega)).mp q; omega)) (fun _ => ?_)
    refine zp_aload_n dX4_init_31 rfl (a := a) (List.mem_of_getElem? (i := 1) rfl) ?_
    refine zp_getRv dX4_init_32 fl_X4_21 h.2.1 (b := fa) h.2.2.2.1 ?_
    refine zp_iload_n dX4_init_35 rfl (x := (nI i)) (List.mem_of_getElem? (i := 0) rfl) ?_
    refine zp_new (c0 := 1) (mc2 := m) (ms2 := 20 * m) dX4_init_36 rfl wd_379 wd_381 wd_11 (by omega) (by show _ + 20 ≤ _; omega) (fun q hq => ?_)
    refine zp_dup dX4_init_39 rfl ?_
    refine zp_callI (st := [.ref q, .int (nI i), .ref fa]) (mc2 := m) (ms2 := 20 * m) dX4_init_40 (c_X2_init l G q _) cl_X4_25 rfl im_X2_init rfl rfl rfl (by omega) (by omega) (by omega) (Nat.le_of_ble_eq_true rfl) ?_
    rintro _ s1 ⟨rfl, hs1⟩; obtain rfl := hs1.symm
    refine zp_aastore (j := 1) (c0 := 1) dX4_init_43 (zT_new hq h.2.2.2.2.1) (by decide) rfl rfl zT_self (i := i) (nI_clamp (by omega)) (vp_in_nI (by omega) (by decide)) ?_
    refine zp_iinc dX4_init_44 (k1 := 0) (x := (nI i)) rfl (v := (nI (i + 1))) (nI_1 i) (Nat.le_of_ble_eq_true rfl) (lv2 := [(3, .int (nI (i + 1))), (0, .ref a), (1, .int b), (2, .ref sp)]) rfl ?_
    refine zp_goto dX4_init_47 (tgt := 25) rfl ?_
    exact ih (i + 1) _ (by omega) (h.step hq)
set_option maxRecDepth 100000 in
set_option maxHeartbeats 4000000 in
theorem c_X4_init (l : Launch) (G : Gb) (a sp : Nat) (b : Int32) (σ : Sto) (hA : zT σ a = (3, 0)) (hb : b = 0 ∨ b = 1) : Ct l G 2 22 441 yX4_init mX4_init [.ref a, .int b, .ref sp] σ (fun v s => v = none ∧ ∃ fa F, LyF σ s a b fa F) := by
  refine Ct.of (by decide) rfl (Nat.le_of_ble_eq_true rfl) (fun _ => rfl) ?_
  show Wp l G 2 22 441 (RX4, cX4_init, 4, none, true) 0 [(0, .ref a), (1, .int b), (2, .ref sp)] [] σ _
  refine zp_aload_n dX4_init_0 rfl (a := a) (List.mem_of_getElem? (i := 0) rfl) ?_
  refine zp_objInit dX4_init_1 wd_378 wd_28 wd_29 (by decide) (Nat.le_of_ble_eq_true rfl) ?_
  refine zp_aload_n dX4_init_4 rfl (a := a) (List.mem_of_getElem? (i := 0) rfl) ?_
  refine zp_iload_n dX4_init_5 rfl (x := b) (List.mem_of_getElem? (i := 1) rfl) ?_
  refine zp_putZf dX4_init_6 fl_X4_9 rfl (zOwn_of (r0 := (RX4, TX4, 6)) rfl rfl) hA hb ?_
  refine zp_aload_n dX4_init_9 rfl (a := a) (List.mem_of_getElem? (i := 0) rfl) ?_
  refine zp_aload_n dX4_init_10 rfl (a := sp) (List.mem_of_getElem? (i := 2) rfl) ?_
  refine zp_putRf dX4_init_11 fl_X4_15 rfl (zOwn_of (r0 := (RX4, TX4, 6)) rfl rfl) (tI hA) (r := some sp) rfl zfit_ref ?_
  refine zp_aload_n dX4_init_14 rfl (a := a) (List.mem_of_getElem? (i := 0) rfl) ?_
  refine zp_bipush dX4_init_15 (v := 21) (by decide) ?_
  refine zp_newQ (j := 1) (mc2 := 21) (ms2 := 420) (N := 21) dX4_init_17 wd_379 (by decide) rfl zao2 (by decide) (by decide) (by decide) (by omega) (by omega) (fun q17 hq17 => ?_)
  refine zp_putRf dX4_init_20 fl_X4_21 rfl (zOwn_of (r0 := (RX4, TX4, 6)) rfl rfl) (zT_new hq17 (tR (tI hA))) (r := some q17) rfl zfit_arr ?_
  refine zp_iconst dX4_init_23 (v := 0) (by decide) ?_
  refine zp_istore_n dX4_init_24 rfl (Nat.le_of_ble_eq_true rfl) (lv2 := [(3, .int 0), (0, .ref a), (1, .int b), (2, .ref sp)]) rfl ?_
  exact l_flows l 21 0 _ (by omega) ⟨((((Ex.refl (O := fun c => c = a)).nI (Or.inr rfl)).nR (Or.inr rfl)).nT hq17).nR (Or.inr rfl), zT_new hq17 hA, rIe, rRe, zT_self, hq17, fun z => absurd z (Nat.lt_irrefl _), (rRn (by decide)).trans (rRn (by decide))⟩
theorem LyF.ex {σ s t : Sto} {O : Nat → Prop} {a fa F : Nat} {b : Int32} (h : zT s a = (3, 0) ∧ zI s 300 a = b ∧ zR s 302 a = some fa ∧ zT s fa = (22, 21) ∧ zQ s fa 0 = some F ∧ zT s F = (2, 0) ∧ zR s 303 a = none) (e : Ex O s t) (hO : ∀ c, O c → (zT s c).1 = 10) : zT t a = (3, 0) ∧ zI t 300 a = b ∧ zR t 302 a = some fa ∧ zT t fa = (22, 21) ∧ zQ t fa 0 = some F ∧ zT t F = (2, 0) ∧ zR t 303 a = none := by
  obtain ⟨h1, h2, h3, h4, h5, h6, h7⟩ := h
  have k1 := (e.2 a (by rw [h1]; decide) (fun q => by have := hO _ q; rw [h1] at this; exact absurd this (by decide))).1
  have k2 := (e.2 fa (by rw [h4]; decide) (fun q => by have := hO _ q; rw [h4] at this; exact absurd this (by decide))).2.2
  exact ⟨e.T h1, by rw [(k1 300).1]; exact h2, by rw [(k1 302).2]; exact h3, e.T h4, by rw [k2]; exact h5, e.T h6, by rw [(k1 303).2]; exact h7⟩
theorem NK.ex {G : Gb} {D : Dt} {X : Cx} {s t : Sto} {k ob : Nat} (h : NK G D X s k) (e : Ex (fun c => c = ob) s t) (ho : zT s ob = (10, 0)) : NK G D X t k := by
  obtain ⟨a1, a2, a3, a4, a5, a6, a7, a8, a9, a10, a11, a12, a13, a14, a15, a16, a17, a18, a19, a20, a21, a22, a23, a24, a25, a26⟩ := h
  have f : ∀ {a c n : Nat}, zT s a = (c + 1, n) → c + 1 ≠ 10 → (∀ g, zI t g a = zI s g a ∧ zR t g a = zR s g a) ∧ zA t a = zA s a ∧ zQ t a = zQ s a := fun {a c n} ha hc => e.2 a (by rw [ha]; exact Nat.succ_ne_zero c) (fun q => by rw [q, ho] at ha; exact hc (Prod.mk.inj ha).1.symm)
  have n := (f a1 (by decide)).1
  exact ⟨e.T a1, by rw [(n 501).2]; exact a2, by rw [(n 503).1]; exact a3, by rw [(n 505).2]; exact a4, e.T a5, by rw [(f a5 (by decide)).2.1]; exact a6, by rw [(n 510).2]; exact a7, by rw [(n 511).2]; exact a8, by rw [(n 512).1]; exact a9, by rw [(n 514).2]; exact a10, by rw [(n 515).1]; exact a11, by rw [(n 516).1]; exact a12, by rw [(n 517).1]; exact a13, by rw [(n 506).2]; exact a14, e.T a15, by rw [(f a15 (by decide)).2.1]; exact a16, by rw [(n 507).2]; exact a17, e.T a18, by rw [(f a18 (by decide)).2.1]; exact a19, fun b => by rw [(n (pfld b)).2]; exact a20 b, fun b => e.T (a21 b), fun b => by rw [((f (a21 b) (by decide)).1 714).2]; exact a22 b, fun b => e.T (a23 b), fun b i hi => by rw [(f (a23 b) (by decide)).2.2]; exact a24 b i hi, fun b i hi => e.T (a25 b i hi), by rw [(n 500).1]; exact a26⟩
theorem Rz_fin {G : Gb} {D : Dt} {X : Cx} {Y : Cy} {W : Int32} {T : Nat} {LL fr LL' fr' LL2 fr2} {s1 s2 s4 : Sto} {w v3 : Int32} (hD : DW D) (h : PL G D X Y W T LL fr LL' fr' s1) (hN1 : NS G D X s1)
    (r2 : RR G (fun a => ¬ ownP X D true LL' fr' a) D X false (laysP D W z0 z0) [] LL2 fr2 s2) (b2 : Bz D X false s2) (sd2 : ∀ k, k < dn D → dtx D k = false → Sd X false (laysP D W z0 z0) s2 k) (f2 : Fm (fun a => ¬ ownP X D true LL' fr' a) (wI s1 304 (xLy X false) (nI T)) s2) (e703 : zI s2 703 (xpl X false 0) = mx 0 (sy (laysP D W z0 z0))) (e715 : zI s2 715 (xpl X false 0) = nI T) (e716 : zI s2 716 (xpl X false 0) = W)
    (p1 : PF (xoa Y) (wI (wI s2 1009 (xob Y) w) 1008 (xob Y) v3) s4) (p2 : zI s4 601 (xpt Y) = nI (dn D)) : Rz G D X Y W T LL2 fr2 LL' fr' s4 ∧ (∀ a, (zT s1 a).1 ≠ 0 → zT s4 a = zT s1 a) ∧ zA s4 = zA s1 := by
  obtain ⟨hB, hI1, hLy, hJ, hdep, hl1, hl2, hlj, hb1, hb2, hca⟩ := id h
  obtain ⟨o1, o2, o3, o4, o5, o6, o7, o8, o9, o10, o11, o12, o13, o14, o15, o16, o17⟩ := id hB
  have ht2 : ∀ a, (zT s1 a).1 ≠ 0 → zT s2 a = zT s1 a := fun a ha => f2.2.2.2.1 a ha
  have hN2 := r2.ns
  have e2 : Eo X D true LL' fr' s1 s2 := Eo.fm hN1 (by decide) hl2 f2
  have i2 : ∀ g, g = 502 ∨ g = 513 ∨ 1000 ≤ g → zI s2 g = zI s1 g := fun g hg => (f2.I (by unfold stf; omega)).trans (show zI (wI s1 304 (xLy X false) (nI T)) g = zI s1 g by funext c; exact rIn (by omega))
  have q2 : ∀ g, stf g → zR s2 g = zR s1 g := fun g hg => f2.R hg
  have a2 : zA s2 = zA s1 := f2.A
  have qq2 : zQ s2 = zQ s1 := f2.Q
  have hp2 : Pp (xpt Y) (xoa Y) s2 := ⟨(ht2 _ (by rw [o12.1]; decide)).trans o12.1, by rw [q2 _ (by unfold stf; omega)]; exact o12.2.1, (ht2 _ (by rw [o12.2.2]; decide)).trans o12.2.2⟩
  have hsw2 : Sw G s2 := ⟨(ht2 _ (by rw [hI1.2.2.2.1.1]; decide)).trans hI1.2.2.2.1.1, by rw [a2]; exact hI1.2.2.2.1.2.1, by rw [a2]; exact hI1.2.2.2.1.2.2⟩
  have k1 : zT s2 (xob Y) = (10, 0) := (ht2 _ (by rw [o1]; decide)).trans o1
  have hN3 : NS G D X (wI (wI s2 1009 (xob Y) w) 1008 (xob Y) v3) := NS.hi (by decide) (NS.hi (by decide) hN2)
  have t4 : ∀ a, (zT s1 a).1 ≠ 0 → zT s4 a = zT s1 a := fun a ha => p1.T.trans (ht2 a ha)
  have t42 : ∀ a, (zT s2 a).1 ≠ 0 → zT s4 a = zT s2 a := fun a _ => p1.T
  have hN4 : NS G D X s4 := hN3.pf p1 hp2.2.2
  have i4 : ∀ g, g = 502 ∨ g = 513 ∨ (1000 ≤ g ∧ g < 1008) → zI s4 g = zI s1 g := fun g hg => (p1.2.2.2.1 g (by omega)).trans ((show zI (wI (wI s2 1009 (xob Y) w) 1008 (xob Y) v3) g = zI s2 g by funext c; rw [rIn (by omega), rIn (by omega)]).trans (i2 g (by omega)))
  have j4 : ∀ g, g < 1000 → g ≠ 601 → zI s4 g = zI s2 g := fun g hg h6 => (p1.2.2.2.1 g h6).trans (by funext c; show zI (wI (wI s2 1009 (xob Y) w) 1008 (xob Y) v3) g c = zI s2 g c; rw [rIn (by omega), rIn (by omega)])
  have r4 : zR s4 = zR s2 := p1.2.1
  have e4 : ∀ b LL fr, (∀ a, ownP X D b LL fr a → a ≠ xob Y) → Eo X D b LL fr s2 s4 := fun b LL fr hne a ha g hg => by
    refine ⟨(congrFun (p1.2.2.2.1 g (by omega)) a).trans ?_, by rw [r4]⟩
    show zI (wI (wI s2 1009 (xob Y) w) 1008 (xob Y) v3) g a = zI s2 g a
    rw [rIb (hne a ha), rIb (hne a ha)]
  have hl22 : Ln Tt D X true s2 LL' fr' := hl2.eo ht2 e2
  have n1 : ∀ a, ownP X D false LL2 fr2 a → a ≠ xob Y := fun a ha q => by have := own_T hN2 r2.2.1 ha; rw [q, k1] at this; omega
  have n2 : ∀ a, ownP X D true LL' fr' a → a ≠ xob Y := fun a ha q => by have := own_T hN2 hl22 ha; rw [q, k1] at this; omega
  have a4 : zA s4 = zA s1 := p1.2.2.1.trans a2
  have hsw4 : Sw G s4 := ⟨p1.T.trans hsw2.1, by rw [a4]; exact hI1.2.2.2.1.2.1, by rw [a4]; exact hI1.2.2.2.1.2.2⟩
  have hS4 : ∀ k, k < dn D → Sy D X Y s4 k := fun k hk => by
    obtain ⟨y1, y2, y3⟩ := hI1.2.2.1 k hk
    exact ⟨by rw [r4, q2 504 (by unfold stf; omega)]; exact y1, (t4 _ (by rw [y2]; decide)).trans y2, by rw [a4]; exact y3⟩
  have hB4 : OB D X Y W T s4 := hB.to (fun _ _ => List.not_mem_nil) t4 (fun g hg => i4 g (by omega)) (fun g hg => by rw [r4]; exact q2 g (by unfold stf; omega)) (by rw [p1.2.2.2.2 _ o13]; exact congrFun qq2 _) (fun k hk ht => by rw [a4]; exact o16 k hk ht)
  refine ⟨⟨⟨hB4, AI.of hD hN4 hS4 hsw4, hN4.l, hJ, hN4.dep, (r2.2.1.eo t42 (e4 _ _ _ n1)).mo (fun _ _ => trivial), (hl22.eo t42 (e4 _ _ _ n2)), fun a ha q => r2.2.1.lo ha (Or.inr (Or.inr (Or.inr (Or.inr q)))), b2.eo (e4 _ _ _ n1), (hb2.eo e2).eo (e4 _ _ _ n2), by rw [i4 513 (by omega)]; exact hca⟩, hN4, r2.eo hN4 t42 (e4 _ _ _ n1), fun k hk ht => ?_, ?_, p2, ?_, ?_⟩, t4, a4⟩
  · have := sd2 k hk ht
    unfold Sd at this ⊢
    rw [j4 705 (by decide) (by decide), j4 706 (by decide) (by decide)]
    exact this
  · rw [j4 703 (by decide) (by decide)]; exact e703
  · rw [j4 715 (by decide) (by decide)]; exact e715
  · rw [j4 716 (by decide) (by decide)]; exact e716
/-- the tree of a new object -/
def D0 : Dt := (1, (fun _ => 0), (fun _ => false), (fun _ => 0), (fun _ _ => 1), (fun _ => 1), (fun _ => fv))
theorem D0_ok : DW D0 := by
  refine ⟨by decide, by decide, rfl, rfl, fun k h1 h2 => ?_, fun _ => by show (0 : Nat) ≤ 4; omega, fun _ _ => ⟨(by decide : (1 : Int) ≤ (1 : Int32).toInt), (by decide : (1 : Int32).toInt ≤ 30)⟩, fun _ => ⟨(by decide : (1 : Int) ≤ (1 : Int32).toInt), (by decide : (1 : Int32).toInt ≤ 20)⟩, fun _ => ⟨Or.inl ⟨(by decide : (-1 : Int) ≤ (fv 4).toInt), (by decide : (fv 4).toInt ≤ 60)⟩, Or.inl ⟨(by decide : (-1 : Int) ≤ (fv 5).toInt), (by decide : (fv 5).toInt ≤ 20)⟩⟩, fun k s h1 h2 => ?_, fun k s h1 h2 => ?_, fun _ => ⟨rfl, rfl, rfl, rfl, rfl, rfl, rfl, rfl, rfl, rfl, rfl⟩⟩
  · have h2 : k < 1 := h2
    omega
  · show -15 ≤ (fv s).toInt ∧ (fv s).toInt ≤ 30
    have : s = 6 ∨ s = 7 ∨ s = 8 ∨ s = 9 := by omega
    rcases this with z | z | z | z <;> subst z <;> exact ⟨by decide, by decide⟩
  · show 0 ≤ (fv s).toInt ∧ (fv s).toInt ≤ 8
    have : s = 10 ∨ s = 11 ∨ s = 12 ∨ s = 13 := by omega
    rcases this with z | z | z | z <;> subst z <;> exact ⟨by decide, by decide⟩
abbrev X0 (t cn le cu : Nat) (pl pc : Bool → Nat) (th : Bool → Nat → Nat) (Ly fa F : Bool → Nat) : Cx := ((fun _ => t), (fun _ => cn), (fun _ => le), (fun _ => cu), (fun b _ => pl b), (fun b _ => pc b), (fun b _ => th b), Ly, fa, F)
abbrev Y0 (ob na p oa sy : Nat) : Cy := (ob, na, p, oa, fun _ => sy)
theorem D0_k {k : Nat} (h : k < dn D0) : k = 0 := by have h : k < 1 := h; omega
theorem D0_nx {k a : Nat} : nx D0 k a = none := nx_none.mpr (fun j h1 h2 => by have h2 : j < 1 := h2; omega)
/-- the first node, ahead of its kinds -/
theorem AI_0 {G : Gb} {σ s : Sto} {t sy cn le cu ob na p oa : Nat} {pl pc : Bool → Nat} {th : Bool → Nat → Nat} {Ly fa F : Bool → Nat} (nw : NwN σ s t (nFI 0 0 0) (nFR G none false sy cn le cu (pl false) (pl true)) false sy cn le cu pl pc th) (hsw : Sw G s) : AI G D0 (X0 t cn le cu pl pc th Ly fa F) (Y0 ob na p oa sy) s ∧ DA (X0 t cn le cu pl pc th Ly fa F) (Y0 ob na p oa sy) (dn D0) ∧ (∀ j k, j < dn D0 → k < dn D0 → xnd (X0 t cn le cu pl pc th Ly fa F) j = xnd (X0 t cn le cu pl pc th Ly fa F) k → j = k) := by
  obtain ⟨⟨c1, c2, c3, c4⟩, ⟨⟨r1, r2, r3, r4, r5, r6⟩, r7, r8, r9, r10, r11, r12⟩, np, nb, nt⟩ := nw
  refine ⟨⟨fun k hk => ?_, fun k hk _ => (r6 17 (by decide)).2, fun k hk => ⟨c4 504, r1, fun _ i hi => (r6 i hi).1⟩, hsw, fun k hk ht => by cases ht⟩, fun u v j k hu hv hj hk he => ?_, fun j k hj hk _ => by rw [D0_k hj, D0_k hk]⟩
  · rw [D0_k hk]
    refine ⟨c2, c4 501, c3 503, c4 505, r2, (c4 510).trans (by rw [D0_nx]; rfl), c4 511, c3 512, c4 514, c3 515, c3 517, c4 506, r7, fun i hi => absurd hi (Nat.not_lt_zero _), c4 507, r8, fun i hi => absurd hi (Nat.not_lt_zero _), fun b => by cases b; exact c4 508; exact c4 509, fun b => (np b).1, fun b => (np b).2.2.1, fun b => (np b).2.2.2.2.1, fun b i hi => ((np b).2.2.2.2.2.1 i hi).1, fun b i hi => ((np b).2.2.2.2.2.1 i hi).2.1, c3 500⟩
  · refine ⟨?_, by rw [D0_k hj, D0_k hk]⟩
    have hu4 : u = 0 ∨ u = 1 ∨ u = 2 ∨ u = 3 := by omega
    have hv4 : v = 0 ∨ v = 1 ∨ v = 2 ∨ v = 3 := by omega
    have g : ∀ w k, arX (X0 t cn le cu pl pc th Ly fa F) (Y0 ob na p oa sy) w k = (match w with | 0 => cn | 1 => sy | 2 => le | _ => cu) := fun w k => by
      match w with
      | 0 => rfl
      | 1 => rfl
      | 2 => rfl
      | w + 3 => rfl
    rw [g, g] at he
    obtain ⟨x1, x2, x3, x4, x5⟩ := r11
    rcases hu4 with a | a | a | a <;> rcases hv4 with b | b | b | b <;> subst a <;> subst b
    all_goals first
      | rfl
      | exact absurd he r5
      | exact absurd he.symm r5
      | exact absurd he x1
      | exact absurd he.symm x1
      | exact absurd he x2
      | exact absurd he.symm x2
      | exact absurd he x3
      | exact absurd he.symm x3
      | exact absurd he x4
      | exact absurd he.symm x4
      | exact absurd he x5
      | exact absurd he.symm x5
/-- the object's own cell under way -/
def CO (σ s : Sto) (a : Nat) (FI : Nat → Int32) (FR : Nat → Option Nat) : Prop := Ex (fun c => c = a) σ s ∧ zT s a = (10, 0) ∧ (∀ g, zI s g a = FI g) ∧ (∀ g, zR s g a = FR g)
theorem CO.I {σ s : Sto} {a f : Nat} {x : Int32} {FI FR} (h : CO σ s a FI FR) : CO σ (wI s f a x) a (uI FI f x) FR :=
  ⟨h.1.nI (Or.inr rfl), h.2.1, fun g => by
    unfold uI
    by_cases q : g = f
    · rw [if_pos q, q]; exact rIe
    · rw [if_neg q, rIn q]; exact h.2.2.1 g, h.2.2.2⟩
theorem CO.R {σ s : Sto} {a f : Nat} {x : Option Nat} {FI FR} (h : CO σ s a FI FR) : CO σ (wR s f a x) a FI (uR FR f x) :=
  ⟨h.1.nR (Or.inr rfl), h.2.1, h.2.2.1, fun g => by
    unfold uR
    by_cases q : g = f
    · rw [if_pos q, q]; exact rRe
    · rw [if_neg q, rRn q]; exact h.2.2.2 g⟩
theorem CO.Q {σ s : Sto} {a c i : Nat} {x : Option Nat} {FI FR} (h : CO σ s a FI FR) (hc : (zT σ c).1 = 0) : CO σ (wQ s c i x) a FI FR := ⟨h.1.nQ (Or.inl hc), h.2.1, h.2.2.1, h.2.2.2⟩
theorem CO.T {σ s : Sto} {a q : Nat} {t : Nat × Nat} {FI FR} (h : CO σ s a FI FR) (hq : (zT s q).1 = 0) : CO σ (wT s q t) a FI FR := ⟨h.1.nT hq, zT_new hq h.2.1, h.2.2.1, h.2.2.2⟩
theorem CO.ct {σ s t : Sto} {a p : Nat} {FI FR} (h : CO σ s a FI FR) (e : Ex (fun c => c = p) s t) (hp : (zT σ p).1 = 0) (hne : a ≠ p) : CO σ t a FI FR :=
  ⟨h.1.ct e (fun c hc => Or.inl (by rw [hc]; exact hp)), e.T h.2.1, fun g => (((e.2 a (by rw [h.2.1]; decide) hne).1 g).1).trans (h.2.2.1 g), fun g => (((e.2 a (by rw [h.2.1]; decide) hne).1 g).2).trans (h.2.2.2 g)⟩

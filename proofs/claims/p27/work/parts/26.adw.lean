/-! THE WORDS OF A TEXT (by wip/p27/gen_adw.py) -/
set_option maxRecDepth 100000 in
set_option maxHeartbeats 4000000 in
theorem c_X4_shiftOf (l : Launch) (G : Gb) (a n r nr : Nat) (σ : Sto) (hA : zT σ a = (5, n)) (hs : 0 < zI σ 503 a) (hr : zR σ 501 a = some r) (hR : zT σ r = (5, nr)) (hk : zR σ 514 r = some (G.2.2.1 0)) : Ct l G 2 0 0 yX4_shiftOf mX4_shiftOf [.ref a] σ (fun v s => v = some (.int 0) ∧ s = σ) := by
  refine Ct.of (by decide) rfl (Nat.le_of_ble_eq_true rfl) (fun h => absurd h (by decide)) ?_
  show Wp l G 2 0 0 (RX4, cX4_shiftOf, 3, (some .int), false) 0 [(0, .ref a)] [] σ _
  refine zp_kin (fun hkin => ?_)
  refine zp_aload_n dX4_shiftOf_0 rfl (a := a) (List.mem_of_getElem? (i := 0) rfl) ?_
  refine zp_callV (c0 := 4) (st := []) (mc2 := 0) (ms2 := 0) dX4_shiftOf_1 (c_X7_isText l G a n _ hA) cl_X4_122 im_X7_isText se_X7_isText rfl rfl hA rfl rfl (by omega) (by omega) (by omega) (Nat.le_of_ble_eq_true rfl) ?_
  rintro _ s1 ⟨rfl, hs1⟩; obtain rfl := hs1.symm
  refine zp_ifb_eq dX4_shiftOf_4 (tgt := 11) rfl (fun q => absurd hs q) (fun _ => ?_)
  refine zp_iconst dX4_shiftOf_7 (v := 0) (by decide) ?_
  refine zp_goto dX4_shiftOf_8 (tgt := 18) rfl ?_
  refine zp_istore_n dX4_shiftOf_18 rfl (Nat.le_of_ble_eq_true rfl) (lv2 := [(1, .int 0), (0, .ref a)]) rfl ?_
  refine zp_aload_n dX4_shiftOf_19 rfl (a := a) (List.mem_of_getElem? (i := 1) rfl) ?_
  refine zp_getRv dX4_shiftOf_20 fl_X4_75 hA (b := r) hr ?_
  refine zp_astore_n dX4_shiftOf_23 rfl (Nat.le_of_ble_eq_true rfl) (lv2 := [(2, .ref r), (1, .int 0), (0, .ref a)]) rfl ?_
  refine zp_aload_n dX4_shiftOf_24 rfl (a := r) (List.mem_of_getElem? (i := 0) rfl) ?_
  refine zp_nullF dX4_shiftOf_25 (tgt := 56) rfl ?_
  refine zp_aload_n dX4_shiftOf_28 rfl (a := r) (List.mem_of_getElem? (i := 0) rfl) ?_
  refine zp_getRv dX4_shiftOf_29 fl_X4_59 hR (b := (G.2.2.1 0)) hk ?_
  refine zp_kind (i := 1) dX4_shiftOf_32 (by decide) rfl wd_690 ?_
  refine zp_acmp_ne (rx := (some (G.2.2.1 0))) (ry := (some (G.2.2.1 1))) dX4_shiftOf_35 (tgt := 56) rfl rfl rfl (fun _ => ?_) (fun q => absurd q (fun q => absurd (hkin 0 1 (by decide) (by decide) (Option.some.inj q)) (by decide)))
  refine zp_iload_n dX4_shiftOf_56 rfl (x := 0) (List.mem_of_getElem? (i := 1) rfl) ?_
  refine zp_iret rfl dX4_shiftOf_57 ?_
  exact ⟨rfl, rfl⟩
theorem sa_setA {c : Nat} {v : Int32} {S : FS} : sa (setA c v S) = setI (sa S) c v := rfl
/-- behind the first words of a text -/
def Aw (G : Gb) (O : Nat → Prop) (D : Dt) (X : Cx) (b : Bool) (Y : RS) (wl : List Nat) (k : Nat) (LL : Nat → List Nat) (σ σ' : Sto) : Prop :=
  ∃ cs2 lo2 cnt2 LL2 fr2, Rc G O D X b Y.1 wl σ' ∧ Ro O D X b Y.1 Y.2.1 Y.2.2.1 Y.2.2.2 k cnt2 cs2 lo2 LL2 fr2 σ' ∧ Fm O σ σ' ∧ ∀ j l, l ∈ LL j → l ∈ LL2 j
/-- the text's first word stands where it is said to -/
def Tf (D : Dt) (X : Cx) (b : Bool) (S : FS) (k c : Nat) (LL : Nat → List Nat) (σ : Sto) : Prop := ∃ l, l ∈ LL k ∧ zR σ 900 (xth X b c 0) = some l ∧ inP D k (sa S) + zI σ 901 (xth X b c 0) = sa S c
set_option maxHeartbeats 4000000 in
theorem l_addWords (l : Launch) {G : Gb} {O : Nat → Prop} {D : Dt} {X : Cx} {b : Bool} {wl : List Nat} {k c : Nat} {Y0 : RS} (hD : DW D) (hct : dtx D c = true) (hcn : c < dn D) (hkc : k ≠ c) :
    ∀ (m i : Nat) (σ : Sto) (cs : List Nat) (lo : Nat) (LL : Nat → List Nat) (fr : List Nat) (cnt : Nat), i + m = dwc D c → Rc G O D X b (wordsP D k c i Y0).1 wl σ → Ro O D X b (wordsP D k c i Y0).1 (wordsP D k c i Y0).2.1 (wordsP D k c i Y0).2.2.1 (wordsP D k c i Y0).2.2.2 k cnt cs lo LL fr σ → svi (wordsP D k c i Y0).1 c = false → (sa (wordsP D k c i Y0).1 (32 + k)).toInt ≤ 1000 → (i ≠ 0 → Tf D X b (wordsP D k c i Y0).1 k c LL σ) →
    Wp l G 5 m (6 * m) (RX4, cX4_addWords, 10, none, false) 26 [(7, .int (nI i)), (6, .int 0), (5, .int (ascP D c)), (4, .ref (xpl X b c)), (0, .ref (xLy X b)), (1, .ref (xnd X k)), (2, .ref (xF X b)), (3, .ref (xnd X c))] [] σ (fun v s => v = none ∧ ∃ cs2 lo2 cnt2 LL2 fr2, Rc G O D X b (wordsP D k c (dwc D c) Y0).1 wl s ∧ Ro O D X b (wordsP D k c (dwc D c) Y0).1 (wordsP D k c (dwc D c) Y0).2.1 (wordsP D k c (dwc D c) Y0).2.2.1 (wordsP D k c (dwc D c) Y0).2.2.2 k cnt2 cs2 lo2 LL2 fr2 s ∧ Fm O σ s ∧ (∀ j l, l ∈ LL j → l ∈ LL2 j) ∧ (0 < dwc D c → Tf D X b (wordsP D k c (dwc D c) Y0).1 k c LL2 s) ∧ (cnt ≠ 0 ∨ i < dwc D c → cnt2 ≠ 0)) := by
  have hwc := hD.2.2.2.2.2.1 c
  intro m
  induction m with
  | zero =>
    intro i σ cs lo LL fr cnt him hc hr hv hW htf0
    have hN := hc.ns
    have hK := hN.k c hcn
    have hsz : zI σ 512 (xnd X c) = nI (dwc D c) := hK.wc
    show Wp l G 5 0 (6 * 0) (RX4, cX4_addWords, 10, none, false) 26 [(7, .int (nI i)), (6, .int 0), (5, .int (ascP D c)), (4, .ref (xpl X b c)), (0, .ref (xLy X b)), (1, .ref (xnd X k)), (2, .ref (xF X b)), (3, .ref (xnd X c))] [] σ _
    refine zp_iload dX4_addWords_26 (x := (nI i)) (List.mem_of_getElem? (i := 0) rfl) ?_
    refine zp_aload_n dX4_addWords_28 rfl (a := (xnd X c)) (List.mem_of_getElem? (i := 7) rfl) ?_
    refine zp_getIv dX4_addWords_29 fl_X4_390 hK.T (v := (nI (dwc D c))) hK.wc ?_
    refine zp_icmp_ge dX4_addWords_32 (tgt := 141) rfl (fun _ => ?_) (fun q => absurd (by rw [show i = dwc D c by omega]; exact Int32.le_refl _) q)
    refine zp_vret rfl dX4_addWords_141 ?_
    obtain rfl : i = dwc D c := by omega
    exact ⟨rfl, cs, lo, cnt, LL, fr, hc, hr, Fm.refl, fun _ _ h => h, fun h => htf0 (by omega), fun h => h.elim id (fun q => absurd q (by omega))⟩
  | succ m ih =>
    intro i σ cs lo LL fr cnt him hc hr hv hW htf0
    have hN := hc.ns
    have hK := hN.k c hcn
    have hsz : zI σ 512 (xnd X c) = nI (dwc D c) := hK.wc
    have hpcT : zT σ (xpc X b c) = (23, 40) := by have := hK.pcT b; rw [hct] at this; exact this
    have hleT : zT σ (xle X c) = (20, 20) := by have := hK.leT; rw [hct] at this; exact this
    have hcuT : zT σ (xcu X c) = (20, 20) := by have := hK.cuT; rw [hct] at this; exact this
    have hp40 : pcn (dtx D c) = 40 := by rw [hct]; rfl
    have hth1 := hK.th b (2 * i) (by omega)
    have hth2 := hK.th b (2 * i + 1) (by omega)
    have hT1 := hK.thT b (2 * i) (by omega)
    have hT2 := hK.thT b (2 * i + 1) (by omega)
    have hO1 := hc.ow.2.2.2.1 c (2 * i) hcn (by omega)
    have hO2 := hc.ow.2.2.2.1 c (2 * i + 1) hcn (by omega)
    have hsz1 : zI σ 503 (xnd X c) = dsz D c := by have := hK.size; rw [if_pos hct] at this; exact this
    have htt : xth X b c (2 * i) ≠ xth X b c (2 * i + 1) := fun q => by have := (hN.d.th b b c c _ _ hcn hcn (by omega) (by omega) q).2.2; omega
    have f1 : Fm O σ (wdS (xth X b c (2 * i)) (xth X b c (2 * i + 1)) (dln D c i) (ascP D c) (dsz D c - ascP D c) σ) := wdS_Fm hO1 hO2
    have hfrT : frT D X b (wordsP D k c i Y0).1 (xth X b c (2 * i)) := fun c' h1 h2 h3 h4 q => by
      have := (hN.d.th b b c' c 0 (2 * i) h1 hcn (by rw [h2]; decide) (by omega) q).2.1
      rw [this, hv] at h3; cases h3
    have hc1 : Rc G O D X b (wordsP D k c i Y0).1 wl (wdS (xth X b c (2 * i)) (xth X b c (2 * i + 1)) (dln D c i) (ascP D c) (dsz D c - ascP D c) σ) := Rc_keep9 hc f1 (fun g hg => wdS_I (by omega) (by omega) (by omega)) (fun g hg => wdS_R (by omega))
    have hr1 : Ro O D X b (wordsP D k c i Y0).1 (wordsP D k c i Y0).2.1 (wordsP D k c i Y0).2.2.1 (wordsP D k c i Y0).2.2.2 k cnt cs lo LL fr (wdS (xth X b c (2 * i)) (xth X b c (2 * i + 1)) (dln D c i) (ascP D c) (dsz D c - ascP D c) σ) := Ro_keep hr f1 (fun g _ h2 h3 h4 => wdS_I h2 h3 h4) (fun g h => wdS_R h) (fun c' h1 h2 h3 h4 => ⟨wdS_900 (fun q => by have := (hN.d.th b b c' c 0 (2 * i + 1) h1 hcn (by rw [h2]; decide) (by omega) q).2.2; omega), by rw [wdS_I (by decide) (by decide) (by decide)]⟩)
    show Wp l G 5 (m + 1) (6 * (m + 1)) (RX4, cX4_addWords, 10, none, false) 26 [(7, .int (nI i)), (6, .int 0), (5, .int (ascP D c)), (4, .ref (xpl X b c)), (0, .ref (xLy X b)), (1, .ref (xnd X k)), (2, .ref (xF X b)), (3, .ref (xnd X c))] [] σ _
    refine zp_iload dX4_addWords_26 (x := (nI i)) (List.mem_of_getElem? (i := 0) rfl) ?_
    refine zp_aload_n dX4_addWords_28 rfl (a := (xnd X c)) (List.mem_of_getElem? (i := 7) rfl) ?_
    refine zp_getIv dX4_addWords_29 fl_X4_390 hK.T (v := (nI (dwc D c))) hK.wc ?_
    refine zp_icmp_ge dX4_addWords_32 (tgt := 141) rfl (fun q => absurd q (fun q => by have := (nI_leI (by omega) (by omega)).mp q; omega)) (fun _ => ?_)
    refine zp_aload dX4_addWords_35 (a := (xpl X b c)) (List.mem_of_getElem? (i := 3) rfl) ?_
    refine zp_iconst dX4_addWords_37 (v := 2) (by decide) ?_
    refine zp_iload dX4_addWords_38 (x := (nI i)) (List.mem_of_getElem? (i := 0) rfl) ?_
    refine zp_imul dX4_addWords_40 ?_
    rw [show ((2 * (nI i)) : Int32) = (nI (2 * i)) from (pk_mul 2 i)]
    refine zp_callV (c0 := 6) (st := []) (mc2 := (m + 1)) (ms2 := (6 * (m + 1))) dX4_addWords_41 (c_X9_pieceAt l G (xpl X b c) 0 (xpc X b c) 40 (2 * i) _ (hK.plT b) (hK.pc b) hpcT (by decide) (by omega)) cl_X4_156 im_X9_pieceAt se_X9_pieceAt rfl rfl (hK.plT b) rfl rfl (by omega) (by omega) (by omega) (Nat.le_of_ble_eq_true rfl) ?_
    rintro _ s1 ⟨rfl, hs1⟩; obtain rfl := hs1.symm
    rw [hth1]
    refine zp_astore dX4_addWords_44 (Nat.le_of_ble_eq_true rfl) (lv2 := [(8, .ref (xth X b c (2 * i))), (7, .int (nI i)), (6, .int 0), (5, .int (ascP D c)), (4, .ref (xpl X b c)), (0, .ref (xLy X b)), (1, .ref (xnd X k)), (2, .ref (xF X b)), (3, .ref (xnd X c))]) rfl ?_
    refine zp_aload dX4_addWords_46 (a := (xpl X b c)) (List.mem_of_getElem? (i := 4) rfl) ?_
    refine zp_iconst dX4_addWords_48 (v := 2) (by decide) ?_
    refine zp_iload dX4_addWords_49 (x := (nI i)) (List.mem_of_getElem? (i := 1) rfl) ?_
    refine zp_imul dX4_addWords_51 ?_
    rw [show ((2 * (nI i)) : Int32) = (nI (2 * i)) from (pk_mul 2 i)]
    refine zp_iconst dX4_addWords_52 (v := 1) (by decide) ?_
    refine zp_iadd dX4_addWords_53 ?_
    rw [show (((nI (2 * i)) + 1) : Int32) = (nI (2 * i + 1)) from (nI_1 (2 * i))]
    refine zp_callV (c0 := 6) (st := []) (mc2 := (m + 1)) (ms2 := (6 * (m + 1))) dX4_addWords_54 (c_X9_pieceAt l G (xpl X b c) 0 (xpc X b c) 40 (2 * i + 1) _ (hK.plT b) (hK.pc b) hpcT (by decide) (by omega)) cl_X4_156 im_X9_pieceAt se_X9_pieceAt rfl rfl (hK.plT b) rfl rfl (by omega) (by omega) (by omega) (Nat.le_of_ble_eq_true rfl) ?_
    rintro _ s1 ⟨rfl, hs1⟩; obtain rfl := hs1.symm
    rw [hth2]
    refine zp_astore dX4_addWords_57 (Nat.le_of_ble_eq_true rfl) (lv2 := [(9, .ref (xth X b c (2 * i + 1))), (8, .ref (xth X b c (2 * i))), (7, .int (nI i)), (6, .int 0), (5, .int (ascP D c)), (4, .ref (xpl X b c)), (0, .ref (xLy X b)), (1, .ref (xnd X k)), (2, .ref (xF X b)), (3, .ref (xnd X c))]) rfl ?_
    refine zp_aload dX4_addWords_59 (a := (xth X b c (2 * i))) (List.mem_of_getElem? (i := 1) rfl) ?_
    refine zp_nullF dX4_addWords_61 (tgt := 135) rfl ?_
    refine zp_aload dX4_addWords_64 (a := (xth X b c (2 * i + 1))) (List.mem_of_getElem? (i := 0) rfl) ?_
    refine zp_nullF dX4_addWords_66 (tgt := 135) rfl ?_
    refine zp_aload dX4_addWords_69 (a := (xth X b c (2 * i))) (List.mem_of_getElem? (i := 1) rfl) ?_
    refine zp_aload_n dX4_addWords_71 rfl (a := (xnd X c)) (List.mem_of_getElem? (i := 9) rfl) ?_
    refine zp_getRv dX4_addWords_72 fl_X4_429 hK.T (b := (xle X c)) hK.le ?_
    refine zp_iload dX4_addWords_75 (x := (nI i)) (List.mem_of_getElem? (i := 2) rfl) ?_
    refine zp_iald_v dX4_addWords_77 hleT (Or.inl rfl) (j := i) (nI_clamp (by omega)) (vp_in_nI (by omega) (by decide)) (v := (dln D c i)) (hK.leA i (by omega)) ?_
    refine zp_putI dX4_addWords_78 fl_X4_432 hT1 ?_
    refine zp_aload dX4_addWords_81 (a := (xth X b c (2 * i))) (List.mem_of_getElem? (i := 1) rfl) ?_
    refine zp_iload dX4_addWords_83 (x := (ascP D c)) (List.mem_of_getElem? (i := 4) rfl) ?_
    refine zp_iload dX4_addWords_85 (x := 0) (List.mem_of_getElem? (i := 3) rfl) ?_
    refine zp_iadd dX4_addWords_87 ?_
    rw [show (((ascP D c) + 0) : Int32) = (ascP D c) from (Int32.add_zero _)]
    refine zp_putI dX4_addWords_88 fl_X4_435 (tI hT1) ?_
    refine zp_aload dX4_addWords_91 (a := (xth X b c (2 * i))) (List.mem_of_getElem? (i := 1) rfl) ?_
    refine zp_aload_n dX4_addWords_93 rfl (a := (xnd X c)) (List.mem_of_getElem? (i := 9) rfl) ?_
    refine zp_getIv dX4_addWords_94 fl_X4_423 (tI (tI hK.T)) (v := (dsz D c)) ((rIn (by decide)).trans ((rIn (by decide)).trans hsz1)) ?_
    refine zp_iload dX4_addWords_97 (x := (ascP D c)) (List.mem_of_getElem? (i := 4) rfl) ?_
    refine zp_isub dX4_addWords_99 ?_
    refine zp_iload dX4_addWords_100 (x := 0) (List.mem_of_getElem? (i := 3) rfl) ?_
    refine zp_isub dX4_addWords_102 ?_
    rw [show ((((dsz D c) - (ascP D c)) - 0) : Int32) = (dsz D c - ascP D c) from (Int32.sub_zero _)]
    refine zp_putI dX4_addWords_103 fl_X4_438 (tI (tI hT1)) ?_
    refine zp_aload dX4_addWords_106 (a := (xth X b c (2 * i + 1))) (List.mem_of_getElem? (i := 0) rfl) ?_
    refine zp_iconst dX4_addWords_108 (v := 0) (by decide) ?_
    refine zp_putI dX4_addWords_109 fl_X4_432 (tI (tI (tI hT2))) ?_
    refine zp_aload dX4_addWords_112 (a := (xth X b c (2 * i + 1))) (List.mem_of_getElem? (i := 0) rfl) ?_
    refine zp_null dX4_addWords_114 ?_
    refine zp_putR dX4_addWords_115 fl_X4_441 (tI (tI (tI (tI hT2)))) (r := none) rfl ?_
    refine zp_aload_n dX4_addWords_118 rfl (a := (xLy X b)) (List.mem_of_getElem? (i := 6) rfl) ?_
    refine zp_aload_n dX4_addWords_119 rfl (a := (xnd X k)) (List.mem_of_getElem? (i := 7) rfl) ?_
    refine zp_aload_n dX4_addWords_120 rfl (a := (xF X b)) (List.mem_of_getElem? (i := 8) rfl) ?_
    refine zp_aload dX4_addWords_121 (a := (xth X b c (2 * i))) (List.mem_of_getElem? (i := 1) rfl) ?_
    refine zp_aload dX4_addWords_123 (a := (xth X b c (2 * i + 1))) (List.mem_of_getElem? (i := 0) rfl) ?_
    refine zp_aload_n dX4_addWords_125 rfl (a := (xnd X c)) (List.mem_of_getElem? (i := 9) rfl) ?_
    refine zp_getRv dX4_addWords_126 fl_X4_445 (tR (tI (tI (tI (tI hK.T))))) (b := (xcu X c)) ((rRn (by decide)).trans (rRI.trans (rRI.trans (rRI.trans (rRI.trans hK.cu))))) ?_
    refine zp_iload dX4_addWords_129 (x := (nI i)) (List.mem_of_getElem? (i := 2) rfl) ?_
    refine zp_iald_v dX4_addWords_131 (tR (tI (tI (tI (tI hcuT))))) (Or.inl rfl) (j := i) (nI_clamp (by omega)) (vp_in_nI (by omega) (by decide)) (v := 0) (rAR.trans (rAI.trans (rAI.trans (rAI.trans (rAI.trans (hK.cuA i (by omega))))))) ?_
    refine zp_callV (c0 := 2) (st := []) (mc2 := m) (ms2 := (6 * m)) dX4_addWords_132 (c_X4_addThing l G O D X b (wordsP D k c i Y0).1 wl _ k cnt cs lo LL fr (xth X b c (2 * i)) (xth X b c (2 * i + 1)) (wordsP D k c i Y0).2.1 (wordsP D k c i Y0).2.2.1 (wordsP D k c i Y0).2.2.2 (dln D c i) (ascP D c) (dsz D c - ascP D c) hc1 hr1 hW (f1.T hT1) (wdS_902 htt) wdS_903 wdS_904 hO1 hfrT (hD.2.2.2.2.2.2.1 c i).1 (hD.2.2.2.2.2.2.1 c i).2 (asc_bound hD c).1 (asc_bound hD c).2) cl_X4_448 im_X4_addThing se_X4_addThing rfl rfl (tR (tI (tI (tI (tI (hN.l b).T))))) rfl rfl (by omega) (by omega) (by omega) (Nat.le_of_ble_eq_true rfl) ?_
    rintro _ s1 ⟨rfl, cs2, LL2, fr2, lo2, cnt2, u1, u2, u3, u4, u5⟩
    obtain ⟨a1, a2, a3, a4, a5, a6⟩ := u4
    have hin : ∀ v, inP D k (setI (sa (brkP D k (dln D c i) (wordsP D k c i Y0)).1) c v) = inP D k (sa (brkP D k (dln D c i) (wordsP D k c i Y0)).1) := fun v => inP_set hkc
    have hbv : svi (brkP D k (dln D c i) (wordsP D k c i Y0)).1 c = false := by rw [brk_svi]; exact hv
    have hlk : lo2 ∈ LL2 k := by rw [u2.lk, if_neg (Nat.succ_ne_zero cnt2)]; simp
    have hY : wordsP D k c (i + 1) Y0 = ((if i = 0 then setA c (inP D k (sa (brkP D k (dln D c i) (wordsP D k c i Y0)).1) + offP (brkP D k (dln D c i) (wordsP D k c i Y0))) (brkP D k (dln D c i) (wordsP D k c i Y0)).1 else (brkP D k (dln D c i) (wordsP D k c i Y0)).1), (putP (dln D c i) (ascP D c) (dsz D c - ascP D c) (brkP D k (dln D c i) (wordsP D k c i Y0))).2) := wordP_eq
    have hcY : Rc G O D X b (wordsP D k c (i + 1) Y0).1 wl s1 := by
      rw [hY]
      show Rc G O D X b (if i = 0 then _ else _) wl s1
      split
      · exact Rc_setA u1 hct (by have := hD.2.1; omega) hD.2.1
      · exact u1
    have hrY : Ro O D X b (wordsP D k c (i + 1) Y0).1 (wordsP D k c (i + 1) Y0).2.1 (wordsP D k c (i + 1) Y0).2.2.1 (wordsP D k c (i + 1) Y0).2.2.2 k (cnt2 + 1) cs2 lo2 LL2 fr2 s1 := by
      rw [hY]
      show Ro O D X b (if i = 0 then _ else _) _ _ _ k (cnt2 + 1) cs2 lo2 LL2 fr2 s1
      split
      · exact Ro_setA hD u2 hct hcn hbv
      · exact u2
    have hvY : svi (wordsP D k c (i + 1) Y0).1 c = false := by rw [words_svi]; rw [words_svi] at hv; exact hv
    have hWY : (sa (wordsP D k c (i + 1) Y0).1 (32 + k)).toInt ≤ 1000 := by rw [words_sa (by have := hD.2.1; omega)]; rw [words_sa (by have := hD.2.1; omega)] at hW; exact hW
    have a3 : ∀ c', c' ≠ xth X b c (2 * i) → zR s1 900 c' = zR (wdS (xth X b c (2 * i)) (xth X b c (2 * i + 1)) (dln D c i) (ascP D c) (dsz D c - ascP D c) σ) 900 c' ∧ zI s1 901 c' = zI (wdS (xth X b c (2 * i)) (xth X b c (2 * i + 1)) (dln D c i) (ascP D c) (dsz D c - ascP D c) σ) 901 c' := a3
    have e1 : (wordsP D k c (i + 1) Y0).1 = (if i = 0 then setA c (inP D k (sa (brkP D k (dln D c i) (wordsP D k c i Y0)).1) + offP (brkP D k (dln D c i) (wordsP D k c i Y0))) (brkP D k (dln D c i) (wordsP D k c i Y0)).1 else (brkP D k (dln D c i) (wordsP D k c i Y0)).1) := congrArg Prod.fst hY
    have htf : Tf D X b (wordsP D k c (i + 1) Y0).1 k c LL2 s1 := by
      unfold Tf
      rw [e1]
      by_cases h0 : i = 0
      · subst h0
        refine ⟨lo2, hlk, a1, ?_⟩
        rw [if_pos rfl, sa_setA, hin]
        show _ = setI _ c _ c
        unfold setI
        rw [if_pos rfl]
        exact congrArg _ a2
      · obtain ⟨l0, b1, b2, b3⟩ := htf0 h0
        have hne : xth X b c 0 ≠ xth X b c (2 * i) := fun q => by have := (hN.d.th b b c c 0 (2 * i) hcn hcn (by omega) (by omega) q).2.2; omega
        have hne2 : xth X b c 0 ≠ xth X b c (2 * i + 1) := fun q => by have := (hN.d.th b b c c 0 (2 * i + 1) hcn hcn (by omega) (by omega) q).2.2; omega
        refine ⟨l0, u5 _ _ b1, by rw [(a3 _ hne).1, wdS_900 hne2]; exact b2, ?_⟩
        rw [if_neg h0, (a3 _ hne).2, wdS_I (by decide) (by decide) (by decide), brk_sa]
        exact b3
    have hF2 := f1.trans u3
    refine zp_iinc dX4_addWords_135 (k1 := 2) (x := (nI i)) rfl (v := (nI (i + 1))) (nI_1 i) (Nat.le_of_ble_eq_true rfl) (lv2 := [(7, .int (nI (i + 1))), (9, .ref (xth X b c (2 * i + 1))), (8, .ref (xth X b c (2 * i))), (6, .int 0), (5, .int (ascP D c)), (4, .ref (xpl X b c)), (0, .ref (xLy X b)), (1, .ref (xnd X k)), (2, .ref (xF X b)), (3, .ref (xnd X c))]) rfl ?_
    refine zp_goto dX4_addWords_138 (tgt := 26) rfl ?_
    refine zp_lv [0, 3, 4, 5, 6, 7, 8, 9] rfl ?_
    refine Wp.mono (ih (i + 1) s1 cs2 lo2 LL2 fr2 (cnt2 + 1) (by omega) hcY hrY hvY hWY (fun _ => htf)) (Nat.le_refl _) (Nat.le_refl _) (Nat.le_refl _) (fun v s q => ?_)
    obtain ⟨q0, cs3, lo3, cnt3, LL3, fr3, q1, q2, q3, q4, q5, q6⟩ := q
    exact ⟨q0, cs3, lo3, cnt3, LL3, fr3, q1, q2, hF2.trans q3, fun j l hl => q4 j l (u5 j l hl), q5, fun _ => q6 (Or.inl (Nat.succ_ne_zero _))⟩
theorem textP_eq {D : Dt} {k c : Nat} {Y : RS} : textP D k c Y = (visP c (wordsP D k c (dwc D c) Y).1, (wordsP D k c (dwc D c) Y).2) := rfl
/-- behind a text of a run -/
def Tx (G : Gb) (O : Nat → Prop) (D : Dt) (X : Cx) (b : Bool) (Y : RS) (wl : List Nat) (k cnt : Nat) (nw : Prop) (σ σ' : Sto) : Prop :=
  ∃ cs2 lo2 cnt2 LL2 fr2, Rc G O D X b Y.1 wl σ' ∧ Ro O D X b Y.1 Y.2.1 Y.2.2.1 Y.2.2.2 k cnt2 cs2 lo2 LL2 fr2 σ' ∧ Fm O σ σ' ∧ (cnt ≠ 0 ∨ nw → cnt2 ≠ 0)
set_option maxRecDepth 100000 in
set_option maxHeartbeats 4000000 in
theorem c_X4_addWords (l : Launch) (G : Gb) (O : Nat → Prop) (D : Dt) (X : Cx) (b : Bool) (wl : List Nat) (k c : Nat) (Y : RS) (σ : Sto) (cs : List Nat) (lo : Nat) (LL : Nat → List Nat) (fr : List Nat) (cnt : Nat) (hD : DW D) (hct : dtx D c = true) (hcn : c < dn D) (hc0 : 0 < c) (hp : dpar D c = k) (hc : Rc G O D X b Y.1 wl σ) (hr : Ro O D X b Y.1 Y.2.1 Y.2.2.1 Y.2.2.2 k cnt cs lo LL fr σ) (hv : svi Y.1 c = false) (hW : (sa Y.1 (32 + k)).toInt ≤ 1000) : Ct l G 5 (dwc D c) (6 * dwc D c) yX4_addWords mX4_addWords [.ref (xLy X b), .ref (xnd X k), .ref (xF X b), .ref (xnd X c)] σ (fun v s => v = none ∧ Tx G O D X b (textP D k c Y) wl k cnt (0 < dwc D c) σ s) := by
  refine Ct.of (by decide) rfl (Nat.le_of_ble_eq_true rfl) (fun h => absurd h (by decide)) ?_
  have hN := hc.ns
  have hK := hN.k c hcn
  have hk := hD.2.2.2.2.1 c hc0 hcn
  rw [hp] at hk
  have hKk := hN.k k (by omega)
  have hsz1 : zI σ 503 (xnd X c) = dsz D c := by have := hK.size; rw [if_pos hct] at this; exact this
  have hpar : zR σ 501 (xnd X c) = some (xnd X k) := by have := hK.par; rw [if_neg (by omega), hp] at this; exact this
  have hkd : zR σ 514 (xnd X k) = some (G.2.2.1 0) := by have := hKk.kind; rw [hk.2] at this; exact this
  have hpos : 0 < zI σ 503 (xnd X c) := by rw [hsz1]; exact Int32.lt_iff_toInt_lt.mpr (by have := hD.2.2.2.2.2.2.2.1 c; rw [show (0 : Int32).toInt = 0 from rfl]; omega)
  show Wp l G 5 (dwc D c) (6 * dwc D c) (RX4, cX4_addWords, 10, none, false) 0 [(0, .ref (xLy X b)), (1, .ref (xnd X k)), (2, .ref (xF X b)), (3, .ref (xnd X c))] [] σ _
  refine zp_aload_n dX4_addWords_0 rfl (a := (xLy X b)) (List.mem_of_getElem? (i := 0) rfl) ?_
  refine zp_aload_n dX4_addWords_1 rfl (a := (xnd X c)) (List.mem_of_getElem? (i := 3) rfl) ?_
  refine zp_callV (c0 := 2) (st := []) (mc2 := (dwc D c)) (ms2 := (6 * dwc D c)) dX4_addWords_2 (c_X4_placeOf l G (xLy X b) 0 (xnd X c) 0 (xpl X b c) b _ (hN.l b).T hK.T (hN.l b).fr (hK.pl b)) cl_X4_35 im_X4_placeOf se_X4_placeOf rfl rfl (hN.l b).T rfl rfl (by omega) (by omega) (by omega) (Nat.le_of_ble_eq_true rfl) ?_
  rintro _ s1 ⟨rfl, hs1⟩; obtain rfl := hs1.symm
  refine zp_astore dX4_addWords_5 (Nat.le_of_ble_eq_true rfl) (lv2 := [(4, .ref (xpl X b c)), (0, .ref (xLy X b)), (1, .ref (xnd X k)), (2, .ref (xF X b)), (3, .ref (xnd X c))]) rfl ?_
  refine zp_aload_n dX4_addWords_7 rfl (a := (xnd X c)) (List.mem_of_getElem? (i := 4) rfl) ?_
  refine zp_getIv dX4_addWords_8 fl_X4_423 hK.T (v := (dsz D c)) hsz1 ?_
  refine zp_iconst dX4_addWords_11 (v := 3) (by decide) ?_
  refine zp_imul dX4_addWords_12 ?_
  refine zp_iconst dX4_addWords_13 (v := 4) (by decide) ?_
  refine zp_idiv dX4_addWords_14 (by decide) ?_
  show Wp l G 5 (dwc D c) (6 * dwc D c) (RX4, cX4_addWords, 10, none, false) 15 [(4, .ref (xpl X b c)), (0, .ref (xLy X b)), (1, .ref (xnd X k)), (2, .ref (xF X b)), (3, .ref (xnd X c))] [.int (ascP D c)] σ _
  refine zp_istore dX4_addWords_15 (Nat.le_of_ble_eq_true rfl) (lv2 := [(5, .int (ascP D c)), (4, .ref (xpl X b c)), (0, .ref (xLy X b)), (1, .ref (xnd X k)), (2, .ref (xF X b)), (3, .ref (xnd X c))]) rfl ?_
  refine zp_aload_n dX4_addWords_17 rfl (a := (xnd X c)) (List.mem_of_getElem? (i := 5) rfl) ?_
  refine zp_callS (st := []) (mc2 := (dwc D c)) (ms2 := (6 * dwc D c)) dX4_addWords_18 (c_X4_shiftOf l G (xnd X c) 0 (xnd X k) 0 _ hK.T hpos hpar hKk.T hkd) cl_X4_426 st_X4_shiftOf rfl rfl (by omega) (by omega) (by omega) (Nat.le_of_ble_eq_true rfl) ?_
  rintro _ s1 ⟨rfl, hs1⟩; obtain rfl := hs1.symm
  refine zp_istore dX4_addWords_21 (Nat.le_of_ble_eq_true rfl) (lv2 := [(6, .int 0), (5, .int (ascP D c)), (4, .ref (xpl X b c)), (0, .ref (xLy X b)), (1, .ref (xnd X k)), (2, .ref (xF X b)), (3, .ref (xnd X c))]) rfl ?_
  refine zp_iconst dX4_addWords_23 (v := 0) (by decide) ?_
  refine zp_istore dX4_addWords_24 (Nat.le_of_ble_eq_true rfl) (lv2 := [(7, .int 0), (6, .int 0), (5, .int (ascP D c)), (4, .ref (xpl X b c)), (0, .ref (xLy X b)), (1, .ref (xnd X k)), (2, .ref (xF X b)), (3, .ref (xnd X c))]) rfl ?_
  refine Wp.mono (l_addWords l hD hct hcn (by omega) (dwc D c) 0 σ cs lo LL fr cnt (by omega) hc hr hv hW (fun q => absurd rfl q)) (Nat.le_refl _) (Nat.le_refl _) (Nat.le_refl _) (fun v s q => ?_)
  obtain ⟨q0, cs3, lo3, cnt3, LL3, fr3, q1, q2, q3, q4, q5, q6⟩ := q
  exact ⟨q0, cs3, lo3, cnt3, LL3, fr3, Rc_vis q1 hct, Ro_vis q2 hct hp q5, q3, q6⟩

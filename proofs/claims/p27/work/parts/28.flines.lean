/-! LINES OF A RUN (by wip/p27/gen_flines.py) -/
theorem Ro_Rl {O D X b S fl up dw k cs lo LL fr σ} (h : Ro O D X b S fl up dw k 0 cs lo LL fr σ) : Rl O D X b S LL fr σ := by
  have hlk := h.lk
  rw [if_pos rfl] at hlk
  refine ⟨h.ln, fun j h1 h2 h3 => ?_, h.lz, h.tx, h.th⟩
  by_cases q : j = k
  · subst q; rw [hlk]; exact h.cc
  · exact h.lc j h1 h2 h3 q
theorem Rl_Ro {O D X b S k LL fr σ} (lo : Nat) (h : Rl O D X b S LL fr σ) (hk : k < dn D ∧ dtx D k = false ∧ slv S k = true ∧ svi S k = true) (hlf : zI σ 207 (xF X b) = inP D k (sa S)) (hwi : zI σ 208 (xF X b) = sa S (32 + k)) : Ro O D X b S 0 0 0 k 0 (LL k) lo LL fr σ :=
  ⟨h.ln, (if_pos rfl).symm, fun j h1 h2 h3 _ => h.lc j h1 h2 h3, h.lc k hk.1 hk.2.1 hk.2.2.1, h.lz, hk, h.tx, h.th, fun _ => ⟨rfl, rfl, rfl⟩, fun q => absurd rfl q, ⟨by decide, by decide⟩, hlf, hwi⟩
theorem Rl.keep {O D X b S LL fr σ} {σ' : Sto} {S' : FS} (hD : DW D) (h : Rl O D X b S LL fr σ) (f : Fm O σ σ') (h4 : ∀ g, g = 400 ∨ g = 401 ∨ g = 402 ∨ g = 901 → zI σ' g = zI σ g) (h213 : zI σ' 213 (xF X b) = zI σ 213 (xF X b)) (hR : ∀ g, g = 303 ∨ g = 405 ∨ g = 711 ∨ g = 712 ∨ g = 900 → zR σ' g = zR σ g)
    (e1 : sls S' = sls S) (e2 : slv S' = slv S) (e3 : ∀ c, dtx D c = true → svi S' c = svi S c) (e4 : ∀ k, k < dn D → slv S k = true ∨ dtx D k = true → sa S' k = sa S k) : Rl O D X b S' LL fr σ' := by
  have ei : ∀ j, j < dn D → slv S j = true → inP D j (sa S') = inP D j (sa S) := fun j hj hs => by unfold inP; rw [e4 j hj (Or.inl hs)]
  refine ⟨h.ln.to f.2.2.2.1 (hR _ (by omega)) (hR _ (by omega)) (hR _ (by omega)) (hR _ (by omega)), fun j h1 h2 h3 => ?_, fun j hj => ?_, fun c h1 h2 h3 h5 => ?_, h213.trans h.th⟩
  · rw [e2] at h3
    rw [h4 400 (by omega), h4 401 (by omega), h4 402 (by omega), e1, ei j h1 h3]
    exact h.lc j h1 h2 h3
  · rw [e2] at hj; rw [e1]; exact h.lz j hj
  · rw [e3 c h2] at h3
    have h0 : 0 < c := by
      rcases Nat.eq_zero_or_pos c with q | q
      · rw [q, hD.2.2.2.1] at h2; cases h2
      · exact q
    have hp := (hD.2.2.2.2.1 c h0 h1).1
    obtain ⟨g1, l, g2⟩ := h.tx c h1 h2 h3 h5
    rw [hR 900 (by omega), h4 901 (by omega), e2, e4 c h1 (Or.inr h2), ei _ (by omega) g1]
    exact ⟨g1, l, g2⟩
theorem emS_k {F ws yy σ} {g : Nat} (h1 : g ≠ 200) (h2 : g ≠ 201) (h3 : g ≠ 202) (h4 : g ≠ 701) (h5 : g ≠ 709) : zI (emS F ws yy σ) g = zI σ g := by
  funext a
  rw [emS_I, if_neg (fun q => h4 q.2), if_neg (fun q => h5 q.2), if_neg (fun q => h1 q.1), if_neg (fun q => h2 q.1), if_neg (fun q => h3 q.1)]
theorem emS_kR {F ws yy σ} {g : Nat} (h : g ≠ 203) : zR (emS F ws yy σ) g = zR σ g := by
  funext a
  rw [emS_R, if_neg (fun q => h q.1)]
theorem pl_mem {G : Gb} {D : Dt} {X : Cx} {σ : Sto} {b : Bool} {wl : List Nat} {k : Nat} (hN : NS G D X σ) (hw : ∀ j, j ∈ wl → j < dn D) (hk : k < dn D) : xpl X b k ∈ wl.map (xpl X b) ↔ k ∈ wl := by
  constructor
  · intro h
    obtain ⟨j, hj, e⟩ := List.mem_map.mp h
    rw [← (hN.d.pl b b j k (hw j hj) hk e).2]
    exact hj
  · exact fun h => List.mem_map_of_mem h
/-- margins end: who waits is held -/
theorem em_rel {G O D X b S wl σ} (hD : DW D) (hc : Rc G O D X b S wl σ) :
    Rc G O D X b (endP S) [] (emS (xF X b) (wl.map (xpl X b)) (pendY S) σ) ∧ Fm O σ (emS (xF X b) (wl.map (xpl X b)) (pendY S) σ) := by
  have hn := hD.2.1
  have hlt : ∀ j, j ∈ wl → j < dn D := fun j hj => (hc.wb j hj).2.1
  have f : Fm O σ (emS (xF X b) (wl.map (xpl X b)) (pendY S) σ) := emS_Fm hc.ow.2.1 (fun p hp => by
    obtain ⟨j, hj, rfl⟩ := List.mem_map.mp hp
    exact hc.ow.2.2.1 j (hlt j hj))
  have ea : ∀ j, j < 17 ∨ 27 < j → sa (endP S) j = sa S j := fun j hj => by
    show topsP (sw S) (sa S) _ j = _
    unfold topsP
    rw [if_neg (by omega)]
  refine ⟨⟨hc.ns.fm f, hc.ow.fm f, emS_y, ?_, ?_, by rw [emS_kR (by decide)]; exact hc.f0, by rw [emS_kR (by decide)]; exact hc.l0, ?_, List.nodup_nil, fun k => ⟨fun q => absurd q (by show ¬ (false = true); decide), fun q => absurd q List.not_mem_nil⟩, fun k hk => absurd hk List.not_mem_nil, fun k hk ht hv => ?_, fun k hk h0 ht hv => ?_, fun k hk h0 ht hv hw => ?_, fun k hk h0 ht hv => ?_, fun k hk h0 ht hv hcl => ?_⟩, f⟩
  · rw [emS_I]; simp; rfl
  · rw [emS_I]; simp; rfl
  · show zR _ 203 _ = none
    rw [emS_R, if_pos ⟨rfl, rfl⟩]
  · rw [emS_k (by decide) (by decide) (by decide) (by decide) (by decide), emS_k (g := 704) (by decide) (by decide) (by decide) (by decide) (by decide), ea _ (by omega)]
    exact hc.p2 k hk ht hv
  · rw [emS_k (by decide) (by decide) (by decide) (by decide) (by decide), ea _ (by omega)]
    exact hc.p0 k hk h0 ht hv
  · rw [emS_I]
    show _ = topsP (sw S) (sa S) (pendY S) (16 + k)
    unfold topsP
    by_cases q : k ∈ wl
    · rw [if_pos ⟨(pl_mem hc.ns hlt hk).mpr q, rfl⟩, if_pos ⟨by omega, by omega, by rw [show 16 + k - 16 = k by omega]; exact (hc.ww k).mpr q⟩]
    · have hs : sw S k = false := by
        cases e : sw S k
        · rfl
        · exact absurd ((hc.ww k).mp e) q
      rw [if_neg (fun z => q ((pl_mem hc.ns hlt hk).mp z.1)), if_neg (fun z => by cases z.2), if_neg (fun z => by cases z.1), if_neg (fun z => by cases z.1), if_neg (fun z => by cases z.1), if_neg (fun z => by rw [show 16 + k - 16 = k by omega, hs] at z; cases z.2.2)]
      exact hc.p1 k hk h0 ht hv hs
  · rw [emS_k (by decide) (by decide) (by decide) (by decide) (by decide), ea _ (by omega)]
    exact hc.p3 k hk h0 ht hv
  · rw [emS_I]
    show _ = zb (false = false)
    by_cases q : k ∈ wl
    · rw [if_neg (fun z => by cases z.2), if_pos ⟨(pl_mem hc.ns hlt hk).mpr q, rfl⟩]; rfl
    · have hs : sw S k = false := by
        cases e : sw S k
        · rfl
        · exact absurd ((hc.ww k).mp e) q
      rw [if_neg (fun z => q ((pl_mem hc.ns hlt hk).mp z.1)), if_neg (fun z => q ((pl_mem hc.ns hlt hk).mp z.1)), if_neg (fun z => by cases z.1), if_neg (fun z => by cases z.1), if_neg (fun z => by cases z.1)]
      have := hc.p9 k hk h0 ht hv hcl
      rw [this, hs]
theorem em_Rl {G O D X b S wl σ LL fr} (hD : DW D) (hc : Rc G O D X b S wl σ) (hl : Rl O D X b S LL fr σ) : Rl O D X b (endP S) LL fr (emS (xF X b) (wl.map (xpl X b)) (pendY S) σ) := by
  have hn := hD.2.1
  refine hl.keep hD (em_rel hD hc).2 (fun g hg => emS_k (by omega) (by omega) (by omega) (by omega) (by omega)) (by rw [emS_k (by decide) (by decide) (by decide) (by decide) (by decide)]) (fun g hg => emS_kR (by omega)) rfl rfl (fun _ _ => rfl) (fun k hk _ => ?_)
  show topsP (sw S) (sa S) _ k = _
  unfold topsP
  rw [if_neg (by omega)]
theorem Rc_pend {G O D X b S wl σ} (hc : Rc G O D X b S wl σ) : (zI σ 200 (xF X b) + zI σ 201 (xF X b)) + zI σ 202 (xF X b) = pendY S := by
  rw [hc.y, hc.ab, hc.be]; rfl
theorem text_svi {D : Dt} {k a : Nat} {Y : RS} : svi (textP D k a Y).1 = setB (svi Y.1) a true := by
  rw [textP_eq]
  show setB (svi (wordsP D k a (dwc D a) Y).1) a true = _
  rw [words_svi]
theorem text_sa {D : Dt} {k a j : Nat} {Y : RS} (h : j ≠ a) : sa (textP D k a Y).1 j = sa Y.1 j := by
  rw [textP_eq]
  exact words_sa h _
theorem endP_sa {S : FS} {j : Nat} (h : j < 17 ∨ 27 < j) : sa (endP S) j = sa S j := by
  show topsP (sw S) (sa S) _ j = _
  unfold topsP
  rw [if_neg (by omega)]
set_option maxHeartbeats 4000000 in
theorem l_flowLines (l : Launch) {G : Gb} {O : Nat → Prop} {D : Dt} {X : Cx} {b : Bool} {wl : List Nat} {k z : Nat} (hD : DW D) : ∀ (m a : Nat) (Y : RS) (σ : Sto) (cs : List Nat) (lo : Nat) (LL : Nat → List Nat) (fr : List Nat) (cnt : Nat), dn D ≤ a + m + 1 → a < dn D → dtx D a = true → dpar D a = k → Rc G O D X b Y.1 wl σ → Ro O D X b Y.1 Y.2.1 Y.2.2.1 Y.2.2.2 k cnt cs lo LL fr σ → Sw G σ → (∀ x, x ∈ runL D k m a → svi Y.1 x = false) → (sa Y.1 (32 + k)).toInt ≤ 1000 → (cnt ≠ 0 ∨ runW D (runL D k m a) ≠ 0) →
    Wp l G 6 (runW D (runL D k m a)) (6 * runW D (runL D k m a)) (RX4, cX4_flowLines, 6, none, false) 7 [(5, .ref (xnd X a)), (0, .ref (xLy X b)), (1, .ref (xnd X k)), (2, .ref (xF X b)), (3, .ref z), (4, .ref (xnd X ((runL D k m a).getLastD a)))] [] σ (fun v s => v = none ∧ ∃ LL2 fr2, Rc G O D X b (shutP k (runT D k (runL D k m a) Y)) wl s ∧ Rl O D X b (shutP k (runT D k (runL D k m a) Y)) LL2 fr2 s ∧ Fm O σ s) := by
  have key : ∀ (m a : Nat) (Y : RS) (σ : Sto) (cs : List Nat) (lo : Nat) (LL : Nat → List Nat) (fr : List Nat) (cnt : Nat), runL D k m a = [a] → dn D ≤ a + m + 1 → a < dn D → dtx D a = true → dpar D a = k → Rc G O D X b Y.1 wl σ → Ro O D X b Y.1 Y.2.1 Y.2.2.1 Y.2.2.2 k cnt cs lo LL fr σ → Sw G σ → (∀ x, x ∈ runL D k m a → svi Y.1 x = false) → (sa Y.1 (32 + k)).toInt ≤ 1000 → (cnt ≠ 0 ∨ runW D (runL D k m a) ≠ 0) →
    Wp l G 6 (runW D (runL D k m a)) (6 * runW D (runL D k m a)) (RX4, cX4_flowLines, 6, none, false) 7 [(5, .ref (xnd X a)), (0, .ref (xLy X b)), (1, .ref (xnd X k)), (2, .ref (xF X b)), (3, .ref z), (4, .ref (xnd X ((runL D k m a).getLastD a)))] [] σ (fun v s => v = none ∧ ∃ LL2 fr2, Rc G O D X b (shutP k (runT D k (runL D k m a) Y)) wl s ∧ Rl O D X b (shutP k (runT D k (runL D k m a) Y)) LL2 fr2 s ∧ Fm O σ s) := by
    intro m a Y σ cs lo LL fr cnt e hm ha ht hp hc hr hsw hv hW hcw
    rw [e] at hv hcw
    rw [e]
    show Wp l G 6 (runW D [a]) (6 * runW D [a]) (RX4, cX4_flowLines, 6, none, false) 7 [(5, .ref (xnd X a)), (0, .ref (xLy X b)), (1, .ref (xnd X k)), (2, .ref (xF X b)), (3, .ref z), (4, .ref (xnd X a))] [] σ _
    have hN := hc.ns
    have h0 : a ≠ 0 := fun q => by rw [q, hD.2.2.2.1] at ht; cases ht
    have hmem : a ∈ [a] := List.mem_singleton.mpr rfl
    have hmc : runW D [a] = dwc D a := by rw [runW_cons]; rfl
    have hKa := hN.k a ha
    have hkd : zR σ 514 (xnd X a) = some (G.2.2.1 7) := by have := hKa.kind; rw [ht] at this; exact this
    show Wp l G 6 (runW D [a]) (6 * runW D [a]) (RX4, cX4_flowLines, 6, none, false) 7 [(5, .ref (xnd X a)), (0, .ref (xLy X b)), (1, .ref (xnd X k)), (2, .ref (xF X b)), (3, .ref z), (4, .ref (xnd X a))] [] σ _
    refine zp_aload dX4_flowLines_7 (a := (xnd X a)) (List.mem_of_getElem? (i := 0) rfl) ?_
    refine zp_nullF dX4_flowLines_9 (tgt := 110) rfl ?_
    refine zp_swmap dX4_flowLines_12 wd_680 ?_
    refine zp_aload dX4_flowLines_15 (a := (xnd X a)) (List.mem_of_getElem? (i := 0) rfl) ?_
    refine zp_getRv dX4_flowLines_17 fl_X4_59 hKa.T (b := (G.2.2.1 7)) hkd ?_
    refine zp_callO (n := 0) (av := []) (nest := false) (i := 7) (st := [.ref G.2.2.2.1]) (mc2 := (runW D [a])) (ms2 := (6 * runW D [a])) (by decide) dX4_flowLines_20 (c_ordinal l G 7 (by decide) _) rfl (by decide) wd_681 wd_356 wd_358 im_Jx29ce0_ordinal_8abf5 wd_6 wd_360 rfl (by omega) (by omega) (by omega) (Nat.le_of_ble_eq_true rfl) ?_
    rintro _ s1 ⟨rfl, hs1⟩; obtain rfl := hs1.symm
    refine zp_iald_v dX4_flowLines_23 hsw.1 (Or.inr rfl) (j := 7) (by decide) (zin (by decide)) (v := 4) hsw.2.1 ?_
    refine zp_tableIn (off := 32) (tgt := 56) dX4_flowLines_24 (by decide) (by decide) (by decide) rfl ?_
    refine zp_aload_n dX4_flowLines_56 rfl (a := (xLy X b)) (List.mem_of_getElem? (i := 1) rfl) ?_
    refine zp_aload_n dX4_flowLines_57 rfl (a := (xnd X k)) (List.mem_of_getElem? (i := 2) rfl) ?_
    refine zp_aload_n dX4_flowLines_58 rfl (a := (xF X b)) (List.mem_of_getElem? (i := 3) rfl) ?_
    refine zp_aload dX4_flowLines_59 (a := (xnd X a)) (List.mem_of_getElem? (i := 0) rfl) ?_
    refine zp_callV (c0 := 2) (st := []) (mc2 := 0) (ms2 := (6 * 0)) dX4_flowLines_61 (c_X4_addWords l G O D X b wl k a Y _ cs lo LL fr cnt hD ht ha (by omega) hp hc hr (hv a hmem) hW) cl_X4_405 im_X4_addWords se_X4_addWords rfl rfl (hN.l b).T rfl rfl (by omega) (by omega) (by omega) (Nat.le_of_ble_eq_true rfl) ?_
    rintro _ s1 ⟨rfl, cs2, lo2, cnt2, LL2, fr2, u1, u2, u3, u4⟩
    have hN1 := u1.ns
    have hK1 := hN1.k a ha
    have hkd1 : zR s1 514 (xnd X a) = some (G.2.2.1 7) := by have := hK1.kind; rw [ht] at this; exact this
    have hnx1 : zR s1 511 (xnd X a) = lk X (nx D k a) := by have := hK1.next; rw [if_neg h0, hp] at this; exact this
    refine zp_goto dX4_flowLines_64 (tgt := 98) rfl ?_
    refine zp_aload dX4_flowLines_98 (a := (xnd X a)) (List.mem_of_getElem? (i := 0) rfl) ?_
    refine zp_aload dX4_flowLines_100 (a := (xnd X a)) (List.mem_of_getElem? (i := 5) rfl) ?_
    refine zp_callS (st := []) (mc2 := 0) (ms2 := (6 * 0)) dX4_flowLines_102 (c_X7_onwardB l G (xnd X a) 0 _ (u3.T hKa.T) hkd1) cl_X4_393 st_X7_onwardInRun rfl rfl (by omega) (by omega) (by omega) (Nat.le_of_ble_eq_true rfl) ?_
    rintro _ s1 ⟨rfl, hs1⟩; obtain rfl := hs1.symm
    refine zp_astoreo dX4_flowLines_105 (Nat.le_of_ble_eq_true rfl) (r := none) (v := .null) rfl (lv2 := [(5, .null), (0, .ref (xLy X b)), (1, .ref (xnd X k)), (2, .ref (xF X b)), (3, .ref z), (4, .ref (xnd X a))]) rfl ?_
    refine zp_goto dX4_flowLines_107 (tgt := 7) rfl ?_
    refine zp_aloado dX4_flowLines_7 (r := none) (v := .null) rfl (List.mem_of_getElem? (i := 0) rfl) ?_
    refine zp_nullT dX4_flowLines_9 (tgt := 110) rfl ?_
    have hc2 : cnt2 ≠ 0 := u4 (hcw.imp id (fun q => by rw [runW_cons] at q; exact Nat.pos_of_ne_zero (fun z => q (by rw [z]; rfl))))
    have hlo : zR s1 212 (xF X b) = some lo2 := (u2.nz hc2).2.2.2.1
    have hloT : zT s1 lo2 = (4, 0) := u2.ln.T u2.lv.1 (by rw [u2.lk, if_neg hc2]; simp)
    have h213 : ¬ zI s1 213 (xF X b) = 0 := by
      rw [u2.th]
      have := u2.fb
      exact fun q => hc2 (by have := congrArg Int32.toInt q; rw [nI_toInt (by omega), show (0 : Int32).toInt = 0 from rfl] at this; omega)
    refine zp_aload_n dX4_flowLines_110 rfl (a := (xLy X b)) (List.mem_of_getElem? (i := 1) rfl) ?_
    refine zp_aload_n dX4_flowLines_111 rfl (a := (xF X b)) (List.mem_of_getElem? (i := 3) rfl) ?_
    refine zp_callV (c0 := 2) (st := []) (mc2 := 0) (ms2 := (6 * 0)) dX4_flowLines_112 (c_X4_endLineA l G (xLy X b) (xF X b) lo2 0 _ (hN1.l b).FT hlo hloT h213 u1.l0) cl_X4_419 im_X4_endLine se_X4_endLine rfl rfl (u3.T (hN.l b).T) rfl rfl (by omega) (by omega) (by omega) (Nat.le_of_ble_eq_true rfl) ?_
    rintro _ s2 ⟨rfl, r1, r2, rfl⟩
    obtain ⟨w1, w2, w3, w4⟩ := end_rel (r1 := r1) (r2 := r2) u1 u2 hc2
    refine zp_vret rfl dX4_flowLines_115 ?_
    exact ⟨rfl, LL2, fr2, w1, Ro_Rl w2, u3.trans w3⟩
  intro m
  induction m with
  | zero =>
    intro a Y σ cs lo LL fr cnt hm ha ht hp hc hr hsw hv hW hcw
    rcases runL_cases D k (m := 0) hm with ⟨e, e'⟩ | ⟨c, m', e0, -⟩
    · exact key 0 a Y σ cs lo LL fr cnt e hm ha ht hp hc hr hsw hv hW hcw
    · omega
  | succ m ih =>
    intro a Y σ cs lo LL fr cnt hm ha ht hp hc hr hsw hv hW hcw
    rcases runL_cases D k hm with ⟨e, e'⟩ | ⟨c, m', e0, e1, e2, e3, e4, e5, e6, e7⟩
    · exact key (m + 1) a Y σ cs lo LL fr cnt e hm ha ht hp hc hr hsw hv hW hcw
    obtain rfl : m = m' := by omega
    rw [e3] at hv hcw
    rw [runL_last e3, e3]
    have hN := hc.ns
    have hmem : a ∈ a :: runL D k m c := List.mem_cons_self
    have hmc : runW D (a :: runL D k m c) = dwc D a + runW D (runL D k m c) := runW_cons
    have hKa := hN.k a ha
    have hkd : zR σ 514 (xnd X a) = some (G.2.2.1 7) := by have := hKa.kind; rw [ht] at this; exact this
    have h0 : a ≠ 0 := fun q => by rw [q, hD.2.2.2.1] at ht; cases ht
    have hnx : zR σ 511 (xnd X a) = some (xnd X c) := by have := hKa.next; rw [if_neg h0, hp, e1] at this; exact this
    have hne : xnd X a ≠ xnd X ((runL D k m c).getLastD c) := fun q => by
      obtain ⟨g1, g2, -⟩ := runL_in m c e7 e5 e2 e6 _ (runL_lastmem (D := D) (k := k) (m := m) (a := c))
      have := hN.d.nd _ _ ha g2 q
      omega
    have hcw0 : ∀ cnt2 : Nat, (cnt ≠ 0 ∨ 0 < dwc D a → cnt2 ≠ 0) → (cnt2 ≠ 0 ∨ runW D (runL D k m c) ≠ 0) := fun cnt2 u => by
      by_cases q : cnt2 = 0
      · refine Or.inr (fun z => ?_)
        rcases hcw with q2 | q2
        · exact u (Or.inl q2) q
        · exact u (Or.inr (by omega)) q
      · exact Or.inl q
    have hv1 : ∀ x, x ∈ runL D k m c → svi (textP D k a Y).1 x = false := fun x hx => by
      have := (runL_in m c e7 e5 e2 e6 x hx).1
      rw [text_svi]
      unfold setB
      rw [if_neg (by omega)]
      exact hv x (List.mem_cons_of_mem _ hx)
    show Wp l G 6 (runW D (a :: runL D k m c)) (6 * runW D (a :: runL D k m c)) (RX4, cX4_flowLines, 6, none, false) 7 [(5, .ref (xnd X a)), (0, .ref (xLy X b)), (1, .ref (xnd X k)), (2, .ref (xF X b)), (3, .ref z), (4, .ref (xnd X ((runL D k m c).getLastD c)))] [] σ _
    refine zp_aload dX4_flowLines_7 (a := (xnd X a)) (List.mem_of_getElem? (i := 0) rfl) ?_
    refine zp_nullF dX4_flowLines_9 (tgt := 110) rfl ?_
    refine zp_swmap dX4_flowLines_12 wd_680 ?_
    refine zp_aload dX4_flowLines_15 (a := (xnd X a)) (List.mem_of_getElem? (i := 0) rfl) ?_
    refine zp_getRv dX4_flowLines_17 fl_X4_59 hKa.T (b := (G.2.2.1 7)) hkd ?_
    refine zp_callO (n := 0) (av := []) (nest := false) (i := 7) (st := [.ref G.2.2.2.1]) (mc2 := (runW D (a :: runL D k m c))) (ms2 := (6 * runW D (a :: runL D k m c))) (by decide) dX4_flowLines_20 (c_ordinal l G 7 (by decide) _) rfl (by decide) wd_681 wd_356 wd_358 im_Jx29ce0_ordinal_8abf5 wd_6 wd_360 rfl (by omega) (by omega) (by omega) (Nat.le_of_ble_eq_true rfl) ?_
    rintro _ s1 ⟨rfl, hs1⟩; obtain rfl := hs1.symm
    refine zp_iald_v dX4_flowLines_23 hsw.1 (Or.inr rfl) (j := 7) (by decide) (zin (by decide)) (v := 4) hsw.2.1 ?_
    refine zp_tableIn (off := 32) (tgt := 56) dX4_flowLines_24 (by decide) (by decide) (by decide) rfl ?_
    refine zp_aload_n dX4_flowLines_56 rfl (a := (xLy X b)) (List.mem_of_getElem? (i := 1) rfl) ?_
    refine zp_aload_n dX4_flowLines_57 rfl (a := (xnd X k)) (List.mem_of_getElem? (i := 2) rfl) ?_
    refine zp_aload_n dX4_flowLines_58 rfl (a := (xF X b)) (List.mem_of_getElem? (i := 3) rfl) ?_
    refine zp_aload dX4_flowLines_59 (a := (xnd X a)) (List.mem_of_getElem? (i := 0) rfl) ?_
    refine zp_callV (c0 := 2) (st := []) (mc2 := (runW D (runL D k m c))) (ms2 := (6 * (runW D (runL D k m c)))) dX4_flowLines_61 (c_X4_addWords l G O D X b wl k a Y _ cs lo LL fr cnt hD ht ha (by omega) hp hc hr (hv a hmem) hW) cl_X4_405 im_X4_addWords se_X4_addWords rfl rfl (hN.l b).T rfl rfl (by omega) (by omega) (by omega) (Nat.le_of_ble_eq_true rfl) ?_
    rintro _ s1 ⟨rfl, cs2, lo2, cnt2, LL2, fr2, u1, u2, u3, u4⟩
    have hN1 := u1.ns
    have hK1 := hN1.k a ha
    have hkd1 : zR s1 514 (xnd X a) = some (G.2.2.1 7) := by have := hK1.kind; rw [ht] at this; exact this
    have hnx1 : zR s1 511 (xnd X a) = lk X (nx D k a) := by have := hK1.next; rw [if_neg h0, hp] at this; exact this
    refine zp_goto dX4_flowLines_64 (tgt := 98) rfl ?_
    refine zp_aload dX4_flowLines_98 (a := (xnd X a)) (List.mem_of_getElem? (i := 0) rfl) ?_
    refine zp_aload dX4_flowLines_100 (a := (xnd X ((runL D k m c).getLastD c))) (List.mem_of_getElem? (i := 5) rfl) ?_
    refine zp_callS (st := []) (mc2 := (runW D (runL D k m c))) (ms2 := (6 * (runW D (runL D k m c)))) dX4_flowLines_102 (c_X7_onwardA l G (xnd X a) (xnd X ((runL D k m c).getLastD c)) (xnd X c) 0 _ (u3.T hKa.T) hkd1 (hnx1.trans (by rw [e1]; rfl)) hne) cl_X4_393 st_X7_onwardInRun rfl rfl (by omega) (by omega) (by omega) (Nat.le_of_ble_eq_true rfl) ?_
    rintro _ s1 ⟨rfl, hs1⟩; obtain rfl := hs1.symm
    refine zp_astore dX4_flowLines_105 (Nat.le_of_ble_eq_true rfl) (lv2 := [(5, .ref (xnd X c)), (0, .ref (xLy X b)), (1, .ref (xnd X k)), (2, .ref (xF X b)), (3, .ref z), (4, .ref (xnd X ((runL D k m c).getLastD c)))]) rfl ?_
    refine zp_goto dX4_flowLines_107 (tgt := 7) rfl ?_
    refine Wp.mono (ih c (textP D k a Y) s1 cs2 lo2 LL2 fr2 cnt2 e7 e5 e2 e6 u1 u2 (hsw.fm u3) hv1 (by rw [text_sa (by have := hD.2.1; omega)]; exact hW) (hcw0 cnt2 u4)) (Nat.le_refl _) (Nat.le_refl _) (Nat.le_refl _) (fun v s q => ?_)
    obtain ⟨q0, LL3, fr3, q1, q2, q3⟩ := q
    exact ⟨q0, LL3, fr3, q1, q2, u3.trans q3⟩
theorem Rc_visL {G O D X b wl σ} : ∀ (r : List Nat) {S : FS}, (∀ x, x ∈ r → dtx D x = true) → Rc G O D X b S wl σ → Rc G O D X b (visL r S) wl σ
  | [], _, _, h => h
  | x :: xs, S, hx, h => Rc_visL xs (S := visP x S) (fun y hy => hx y (List.mem_cons_of_mem _ hy)) (Rc_vis h (hx x List.mem_cons_self))
theorem Rl_vis {O D X b S LL fr σ} {c : Nat} (h : Rl O D X b S LL fr σ) (hw : dwc D c = 0) : Rl O D X b (visP c S) LL fr σ := by
  refine ⟨h.ln, h.lc, h.lz, fun c' h1 h2 h3 h4 => ?_, h.th⟩
  have h3 : setB (svi S) c true c' = true := h3
  unfold setB at h3
  rw [if_neg (fun q => by rw [q, hw] at h4; cases h4)] at h3
  exact h.tx c' h1 h2 h3 h4
theorem Rl_visL {O D X b LL fr σ} : ∀ (r : List Nat) {S : FS}, runW D r = 0 → Rl O D X b S LL fr σ → Rl O D X b (visL r S) LL fr σ
  | [], _, _, h => h
  | x :: xs, S, hw, h => by
    rw [runW_cons] at hw
    exact Rl_visL xs (S := visP x S) (by omega) (Rl_vis h (by omega))
set_option maxRecDepth 100000 in
set_option maxHeartbeats 4000000 in
theorem c_X4_flowLines (l : Launch) (G : Gb) (O : Nat → Prop) (D : Dt) (X : Cx) (b : Bool) (S : FS) (wl : List Nat) (k m a : Nat) (LL : Nat → List Nat) (fr : List Nat) (σ : Sto) (hD : DW D) (hc : Rc G O D X b S wl σ) (hl : Rl O D X b S LL fr σ) (hsw : Sw G σ) (hk : k < dn D ∧ dtx D k = false ∧ slv S k = true ∧ svi S k = true) (hlf : zI σ 207 (xF X b) = inP D k (sa S)) (hwi : zI σ 208 (xF X b) = sa S (32 + k)) (hm : dn D ≤ a + m + 1) (ha : a < dn D) (ht : dtx D a = true) (hp : dpar D a = k) (hv : ∀ x, x ∈ runL D k m a → svi S x = false) (hW : (sa S (32 + k)).toInt ≤ 1000) (hw : runW D (runL D k m a) ≠ 0) : Ct l G 6 (runW D (runL D k m a)) (6 * runW D (runL D k m a)) yX4_flowLines mX4_flowLines [.ref (xLy X b), .ref (xnd X k), .ref (xF X b), .ref (xnd X a), .ref (xnd X ((runL D k m a).getLastD a))] σ (fun v s => v = none ∧ ∃ LL2 fr2, Rc G O D X b (runP D k (runL D k m a) S) [] s ∧ Rl O D X b (runP D k (runL D k m a) S) LL2 fr2 s ∧ Fm O σ s) := by
  refine Ct.of (by decide) rfl (Nat.le_of_ble_eq_true rfl) (fun h => absurd h (by decide)) ?_
  have hN := hc.ns
  have hn := hD.2.1
  show Wp l G 6 (runW D (runL D k m a)) (6 * runW D (runL D k m a)) (RX4, cX4_flowLines, 6, none, false) 0 [(0, .ref (xLy X b)), (1, .ref (xnd X k)), (2, .ref (xF X b)), (3, .ref (xnd X a)), (4, .ref (xnd X ((runL D k m a).getLastD a)))] [] σ _
  refine zp_aload_n dX4_flowLines_0 rfl (a := (xF X b)) (List.mem_of_getElem? (i := 2) rfl) ?_
  refine zp_callV (c0 := 1) (st := []) (mc2 := (runW D (runL D k m a))) (ms2 := (6 * runW D (runL D k m a))) dX4_flowLines_1 (c_X2_endMargins l G (xF X b) 0 (wl.map (xpl X b)) (pendY S) _ (hN.l b).FT hc.wt (Rc_pend hc)) cl_X4_244 im_X2_endMargins se_X2_endMargins rfl rfl (hN.l b).FT rfl rfl (by omega) (by omega) (by omega) (Nat.le_of_ble_eq_true rfl) ?_
  rintro _ s1 ⟨rfl, hs1⟩
  obtain ⟨c1, f1⟩ := em_rel hD hc
  have l1 := em_Rl hD hc hl
  have e207 : zI (emS (xF X b) (wl.map (xpl X b)) (pendY S) σ) 207 = zI σ 207 := emS_k (by decide) (by decide) (by decide) (by decide) (by decide)
  have e208 : zI (emS (xF X b) (wl.map (xpl X b)) (pendY S) σ) 208 = zI σ 208 := emS_k (by decide) (by decide) (by decide) (by decide) (by decide)
  rw [← hs1] at c1 f1 l1 e207 e208
  have hk0 := hk.1
  have hr1 := Rl_Ro 0 l1 (S := endP S) (k := k) hk (by rw [e207, hlf]; unfold inP; rw [endP_sa (by omega)]) (by rw [e208, hwi, endP_sa (by omega)])
  refine zp_aload_n dX4_flowLines_4 rfl (a := (xnd X a)) (List.mem_of_getElem? (i := 3) rfl) ?_
  refine zp_astore dX4_flowLines_5 (Nat.le_of_ble_eq_true rfl) (lv2 := [(5, .ref (xnd X a)), (0, .ref (xLy X b)), (1, .ref (xnd X k)), (2, .ref (xF X b)), (3, .ref (xnd X a)), (4, .ref (xnd X ((runL D k m a).getLastD a)))]) rfl ?_
  refine Wp.mono (l_flowLines l hD m a (endP S, 0, 0, 0) s1 (LL k) 0 LL fr 0 hm ha ht hp c1 hr1 (hsw.fm f1) hv (by show (sa (endP S) (32 + k)).toInt ≤ 1000; rw [endP_sa (by omega)]; exact hW) (Or.inr hw)) (Nat.le_refl _) (Nat.le_refl _) (Nat.le_refl _) (fun v s q => ?_)
  obtain ⟨q0, LL3, fr3, q1, q2, q3⟩ := q
  refine ⟨q0, LL3, fr3, ?_, ?_, f1.trans q3⟩
  · unfold runP; rw [if_neg hw]; exact q1
  · unfold runP; rw [if_neg hw]; exact q2

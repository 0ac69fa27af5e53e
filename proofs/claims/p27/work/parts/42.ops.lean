/-! STYLES, WORDS, THE PAGE (by wip/p27/gen_ops.py) -/
abbrev mkD (D : Dt) (wc : Nat → Nat) (ln : Nat → Nat → Int32) (st : Nat → Nat → Int32) : Dt := (dn D, dpar D, dtx D, wc, ln, dsz D, st)
def sst (D : Dt) (k s : Nat) (v : Int32) : Nat → Nat → Int32 := fun j t => if j = k ∧ t = s then v else dst D j t
def swc (D : Dt) (k : Nat) : Nat → Nat := fun j => if j = k then dwc D k + 1 else dwc D j
def sln (D : Dt) (k : Nat) (v : Int32) : Nat → Nat → Int32 := fun j i => if j = k ∧ i = dwc D k then v else dln D j i
theorem sst_same {D : Dt} {k s : Nat} {v : Int32} (h : dst D k s = v) : mkD D (dwc D) (dln D) (sst D k s v) = D := by
  have e : sst D k s v = dst D := by
    funext j t
    unfold sst
    split
    · next q => rw [q.1, q.2]; exact h.symm
    · rfl
  show (dn D, dpar D, dtx D, dwc D, dln D, dsz D, sst D k s v) = D
  rw [e]
theorem PL_step {G : Gb} {D : Dt} {X : Cx} {Y : Cy} {W : Int32} {T : Nat} {LL fr LL' fr'} {σ s : Sto} {wc : Nat → Nat} {ln : Nat → Nat → Int32} {st : Nat → Nat → Int32} (h : PL G D X Y W T LL fr LL' fr' σ) (h1 : s.1 = σ.1) (hR : zR s = zR σ) (hQ : zQ s = zQ σ) (hI : ∀ g, g ≠ 512 → g ≠ 513 → g ≠ 1007 → zI s g = zI σ g) (h7 : zI s 1007 (xob Y) = nI (T + 1)) (h513 : zI s 513 (xnd X 0) = nI (T + 1)) (hT : T < 1000) (hn : 0 < dn D)
    (hwc : ∀ k, k < dn D → zI s 512 (xnd X k) = nI (wc k)) (hle : ∀ k, k < dn D → ∀ i, i < wc k → zA s (xle X k) i = ln k i) (hcu : ∀ k, k < dn D → ∀ i, i < wc k → zA s (xcu X k) i = 0) (hcn : ∀ k, k < dn D → zA s (xcn X k) = zA σ (xcn X k)) (hsy : ∀ k, k < dn D → dtx D k = false → ∀ t, t < 21 → zA s (xsy Y k) t = st k t) (hsw : zA s G.2.2.2.1 = zA σ G.2.2.2.1) : PL G (mkD D wc ln st) X Y W (T + 1) LL fr LL' fr' s := by
  obtain ⟨hB, hAI, hLy, hJ, hdep, hl1, hl2, hlj, hb1, hb2, hca⟩ := h
  obtain ⟨o1, o2, o3, o4, o5, o6, o7, o8, o9, o10, o11, o12, o13, o14, o15, o16, o17⟩ := hB
  have t : ∀ a, zT s a = zT σ a := fun a => congrFun h1 a
  have lnk : ∀ {b LL fr}, Ln Tt D X b σ LL fr → Ln Tt (mkD D wc ln st) X b s LL fr := fun h => Ln.to (D := D) h (fun a _ => t a) (by rw [hR]) (by rw [hR]) (by rw [hR]) (by rw [hR])
  have bzk : ∀ {b}, Bz D X b σ → Bz (mkD D wc ln st) X b s := fun h k hk ht => by rw [hI 707 (by decide) (by decide) (by decide), hI 708 (by decide) (by decide) (by decide)]; exact h k hk ht
  refine ⟨⟨(t _).trans o1, by rw [hR]; exact o2, by rw [hR]; exact o3, by rw [hR]; exact o4, by rw [hR]; exact o5, by rw [hR]; exact o6, by rw [hI 1005 (by decide) (by decide) (by decide)]; exact o7, by rw [hI 1006 (by decide) (by decide) (by decide)]; exact o8, h7, (t _).trans o10, by rw [hQ]; exact o11, ⟨(t _).trans o12.1, by rw [hR]; exact o12.2.1, (t _).trans o12.2.2⟩, o13, o14, by rw [hI 502 (by decide) (by decide) (by decide)]; exact o15, fun k hk ht => by rw [hcn k hk]; exact o16 k hk ht, hT⟩, ⟨fun k hk => ?_, fun k hk ht => by rw [hcn k hk]; exact hAI.2.1 k hk ht, fun k hk => ⟨by rw [hR]; exact (hAI.2.2.1 k hk).1, (t _).trans (hAI.2.2.1 k hk).2.1, hsy k hk⟩, ⟨(t _).trans hAI.2.2.2.1.1, by rw [hsw]; exact hAI.2.2.2.1.2.1, by rw [hsw]; exact hAI.2.2.2.1.2.2⟩, fun k hk ht => by rw [hI 516 (by decide) (by decide) (by decide)]; exact hAI.2.2.2.2 k hk ht⟩, fun b => ?_, hJ, by rw [hI 502 (by decide) (by decide) (by decide)]; exact hdep, lnk hl1, lnk hl2, hlj, bzk hb1, bzk hb2, ?_⟩
  · obtain ⟨a1, a2, a3, a4, a5, a6, a7, a8, a9, a10, a11, a12, a13, a14, a15, a16, a17, a18, a19, a20, a21, a22, a23, a24⟩ := hAI.1 k hk
    refine ⟨(t _).trans a1, by rw [hR]; exact a2, by rw [hI 503 (by decide) (by decide) (by decide)]; exact a3, by rw [hR]; exact a4, (t _).trans a5, by rw [hR]; exact a6, by rw [hR]; exact a7, hwc k hk, by rw [hR]; exact a9, by rw [hI 515 (by decide) (by decide) (by decide)]; exact a10, by rw [hI 517 (by decide) (by decide) (by decide)]; exact a11, by rw [hR]; exact a12, (t _).trans a13, hle k hk, by rw [hR]; exact a15, (t _).trans a16, hcu k hk, fun b => by rw [hR]; exact a18 b, fun b => (t _).trans (a19 b), fun b => by rw [hR]; exact a20 b, fun b => (t _).trans (a21 b), fun b i hi => by rw [hQ]; exact a22 b i hi, fun b i hi => (t _).trans (a23 b i hi), by rw [hI 500 (by decide) (by decide) (by decide)]; exact a24⟩
  · obtain ⟨b1, b2, b3, b4, b5, b6⟩ := hLy b
    exact ⟨(t _).trans b1, by rw [hI 300 (by decide) (by decide) (by decide)]; exact b2, by rw [hR]; exact b3, (t _).trans b4, by rw [hQ]; exact b5, (t _).trans b6⟩
  · rw [h513, nI_toInt (by omega)]
    omega
theorem arT {G D X Y} {σ : Sto} {k t : Nat} (hAI : AI G D X Y σ) (hk : k < dn D) (ht : t < 4) : ∃ n, zT σ (arX X Y t k) = (20, n) := by
  have hK := hAI.1 k hk
  have hS := hAI.2.2.1 k hk
  have : t = 0 ∨ t = 1 ∨ t = 2 ∨ t = 3 := by omega
  rcases this with q | q | q | q <;> subst q
  · exact ⟨_, hK.2.2.2.2.1⟩
  · exact ⟨_, hS.2.1⟩
  · exact ⟨_, hK.2.2.2.2.2.2.2.2.2.2.2.2.1⟩
  · exact ⟨_, hK.2.2.2.2.2.2.2.2.2.2.2.2.2.2.2.1⟩
theorem arne {X Y n} (h : DA X Y n) {t u j k : Nat} (ht : t < 4) (hu : u < 4) (hj : j < n) (hk : k < n) (hn : t ≠ u ∨ j ≠ k) : arX X Y t j ≠ arX X Y u k := fun q => by
  obtain ⟨a, b⟩ := h t u j k ht hu hj hk q
  rcases hn with x | x
  · exact x a
  · exact x b
theorem swne {G D X Y} {σ : Sto} {k t : Nat} (hAI : AI G D X Y σ) (hk : k < dn D) (ht : t < 4) : G.2.2.2.1 ≠ arX X Y t k := fun q => by
  obtain ⟨n, hn⟩ := arT hAI hk ht
  have := hAI.2.2.2.1.1
  rw [q, hn] at this
  cases this
theorem PL.style {G D X Y W T LL fr LL' fr'} {σ s : Sto} {k t : Nat} {v : Int32} (h : PL G D X Y W T LL fr LL' fr' σ) (hD : DW D) (hk : k < dn D) (ht2 : t < 21) (f : NC Y T (wA σ (xsy Y k) t v) s) (h513 : zI s 513 (xnd X 0) = nI (T + 1)) (hT : T < 1000) : PL G (mkD D (dwc D) (dln D) (sst D k t v)) X Y W (T + 1) LL fr LL' fr' s ∧ Fo X Y (dn D) σ s := by
  have hA : zA s = zA (wA σ (xsy Y k) t v) := by unfold zA; rw [f.2.1]
  have hdA := h.1.2.2.2.2.2.2.2.2.2.2.2.2.2.1
  have hAI := h.2.1
  have kp : ∀ u j, u < 4 → j < dn D → (u ≠ 1 ∨ j ≠ k) → zA s (arX X Y u j) = zA σ (arX X Y u j) := fun u j hu hj hn => by
    rw [hA]; funext i; exact rAb (arne hdA hu (u := 1) (by decide) hj hk hn)
  refine ⟨PL_step h f.1 (by unfold zR; rw [f.2.1]; rfl) (by unfold zQ; rw [f.2.1]; rfl) (fun g _ a b => f.2.2.1 g a b) f.2.2.2 h513 hT hD.1 (fun j hj => by rw [f.2.2.1 512 (by decide) (by decide)]; exact (hAI.1 j hj).2.2.2.2.2.2.2.1) (fun j hj i hi => ?_) (fun j hj i hi => ?_) (fun j hj => kp 0 j (by decide) hj (Or.inl (by decide))) (fun j hj htj i hi => ?_) ?_, ⟨fun a _ => by unfold zT; rw [f.1]; rfl, fun a _ hn => ?_⟩⟩
  · rw [show zA s (xle X j) = zA σ (xle X j) from kp 2 j (by decide) hj (Or.inl (by decide))]
    exact (hAI.1 j hj).2.2.2.2.2.2.2.2.2.2.2.2.2.1 i hi
  · rw [show zA s (xcu X j) = zA σ (xcu X j) from kp 3 j (by decide) hj (Or.inl (by decide))]
    exact (hAI.1 j hj).2.2.2.2.2.2.2.2.2.2.2.2.2.2.2.2.1 i hi
  · unfold sst
    by_cases q : j = k
    · rw [q, hA, zA_wA]
      by_cases q2 : i = t
      · rw [if_pos ⟨rfl, q2⟩, if_pos ⟨rfl, q2⟩]
      · rw [if_neg (fun z => q2 z.2), if_neg (fun z => q2 z.2)]
        rw [q] at htj
        exact (hAI.2.2.1 k hk).2.2 htj i hi
    · rw [if_neg (fun z => q z.1), show zA s (xsy Y j) = zA σ (xsy Y j) from kp 1 j (by decide) hj (Or.inr q)]
      exact (hAI.2.2.1 j hj).2.2 htj i hi
  · rw [hA]; funext i; exact rAb (swne hAI hk (t := 1) (by decide))
  · rw [hA]; funext i; exact rAb (hn 1 k (by decide) hk)
theorem PL.word {G D X Y W T LL fr LL' fr'} {σ s : Sto} {k : Nat} {v : Int32} (h : PL G D X Y W T LL fr LL' fr' σ) (hD : DW D) (hk : k < dn D) (f : NC Y T (wI (wA (wA σ (xle X k) (dwc D k) v) (xcu X k) (dwc D k) 0) 512 (xnd X k) (nI (dwc D k + 1))) s) (h513 : zI s 513 (xnd X 0) = nI (T + 1)) (hT : T < 1000) : PL G (mkD D (swc D k) (sln D k v) (dst D)) X Y W (T + 1) LL fr LL' fr' s ∧ Fo X Y (dn D) σ s := by
  have hA : zA s = zA (wA (wA σ (xle X k) (dwc D k) v) (xcu X k) (dwc D k) 0) := by unfold zA; rw [f.2.1]; rfl
  have hdA := h.1.2.2.2.2.2.2.2.2.2.2.2.2.2.1
  have hAI := h.2.1
  have kp : ∀ u j, u < 4 → j < dn D → (u ≠ 2 ∨ j ≠ k) → (u ≠ 3 ∨ j ≠ k) → zA s (arX X Y u j) = zA σ (arX X Y u j) := fun u j hu hj hn hn2 => by
    rw [hA]; funext i; exact (rAb (arne hdA hu (u := 3) (by decide) hj hk hn2)).trans (rAb (arne hdA hu (u := 2) (by decide) hj hk hn))
  have n23 : xle X k ≠ xcu X k := arne hdA (t := 2) (u := 3) (by decide) (by decide) hk hk (Or.inl (by decide))
  refine ⟨PL_step h f.1 (by unfold zR; rw [f.2.1]; rfl) (by unfold zQ; rw [f.2.1]; rfl) (fun g c a b => (f.2.2.1 g a b).trans (by funext z; exact rIn c)) f.2.2.2 h513 hT hD.1 (fun j hj => ?_) (fun j hj i hi => ?_) (fun j hj i hi => ?_) (fun j hj => kp 0 j (by decide) hj (Or.inl (by decide)) (Or.inl (by decide))) (fun j hj htj i hi => ?_) ?_, ⟨fun a _ => by unfold zT; rw [f.1]; rfl, fun a _ hn => ?_⟩⟩
  · rw [f.2.2.1 512 (by decide) (by decide)]
    unfold swc
    by_cases q : j = k
    · rw [if_pos q, q]; exact rIe
    · rw [if_neg q, rIb (fun z => q (h.2.2.2.1.nd j k hj hk z))]
      exact (hAI.1 j hj).2.2.2.2.2.2.2.1
  · unfold sln
    unfold swc at hi
    by_cases q : j = k
    · rw [q, hA, rAb n23, zA_wA]
      by_cases q2 : i = dwc D k
      · rw [if_pos ⟨rfl, q2⟩, if_pos ⟨rfl, q2⟩]
      · rw [if_neg (fun z => q2 z.2), if_neg (fun z => q2 z.2)]
        rw [if_pos q] at hi
        exact (hAI.1 k hk).2.2.2.2.2.2.2.2.2.2.2.2.2.1 i (by omega)
    · rw [if_neg (fun z => q z.1), show zA s (xle X j) = zA σ (xle X j) from kp 2 j (by decide) hj (Or.inr q) (Or.inr q)]
      rw [if_neg q] at hi
      exact (hAI.1 j hj).2.2.2.2.2.2.2.2.2.2.2.2.2.1 i hi
  · unfold swc at hi
    by_cases q : j = k
    · rw [q, hA, zA_wA]
      by_cases q2 : i = dwc D k
      · rw [if_pos ⟨rfl, q2⟩]
      · rw [if_neg (fun z => q2 z.2), rAb (fun z => n23 z.symm)]
        rw [if_pos q] at hi
        exact (hAI.1 k hk).2.2.2.2.2.2.2.2.2.2.2.2.2.2.2.2.1 i (by omega)
    · rw [show zA s (xcu X j) = zA σ (xcu X j) from kp 3 j (by decide) hj (Or.inr q) (Or.inr q)]
      rw [if_neg q] at hi
      exact (hAI.1 j hj).2.2.2.2.2.2.2.2.2.2.2.2.2.2.2.2.1 i hi
  · rw [show zA s (xsy Y j) = zA σ (xsy Y j) from kp 1 j (by decide) hj (Or.inl (by decide)) (Or.inl (by decide))]
    exact (hAI.2.2.1 j hj).2.2 htj i hi
  · rw [hA]; funext i; exact (rAb (swne hAI hk (t := 3) (by decide))).trans (rAb (swne hAI hk (t := 2) (by decide)))
  · rw [hA]; funext i; exact (rAb (hn 3 k (by decide) hk)).trans (rAb (hn 2 k (by decide) hk))
theorem PL.page {G D X Y W T LL fr LL' fr'} {σ : Sto} {V : Int32} (h : PL G D X Y W T LL fr LL' fr' σ) : PL G D X Y V T LL fr LL' fr' (wI σ 1006 (xob Y) V) := by
  obtain ⟨hB, hAI, hLy, hJ, hdep, hl1, hl2, hlj, hb1, hb2, hca⟩ := h
  obtain ⟨o1, o2, o3, o4, o5, o6, o7, o8, o9, o10, o11, o12, o13, o14, o15, o16, o17⟩ := hB
  have i : ∀ g, g ≠ 1006 → zI (wI σ 1006 (xob Y) V) g = zI σ g := fun g hg => by funext c; exact rIn hg
  exact ⟨⟨o1, o2, o3, o4, o5, o6, (rIn (by decide)).trans o7, rIe, (rIn (by decide)).trans o9, o10, o11, o12, o13, o14, o15, o16, o17⟩, hAI.pI (by decide), hLy, hJ, hdep, hl1.to (fun _ _ => rfl) rfl rfl rfl rfl, hl2.to (fun _ _ => rfl) rfl rfl rfl rfl, hlj, hb1, hb2, hca⟩
theorem nI_s {T : Nat} (h : T < 2000) : nI T < nI (T + 1) := (nI_ltj (by omega) (by omega)).mpr (by omega)
theorem Fo.to {X : Cx} {Y : Cy} {n : Nat} {σ s t : Sto} (h : Fo X Y n σ s) (h' : Fo X Y n s t) : Fo X Y n σ t := h.trans h'
set_option maxRecDepth 100000 in
set_option maxHeartbeats 4000000 in
theorem c_X12_style (l : Launch) (G : Gb) (D : Dt) (X : Cx) (Y : Cy) (W : Int32) (T : Nat) (LL : Nat → List Nat) (fr : List Nat) (LL' : Nat → List Nat) (fr' : List Nat) (σ : Sto) (k t : Nat) (v : Int32) (hD : DW D) (h : Rz G D X Y W T LL fr LL' fr' σ) (hW0 : 0 ≤ W.toInt) (hW1 : W.toInt ≤ 300) (hD2 : DW (mkD D (dwc D) (dln D) (sst D k t v))) (hT : T < 1000) (hk : k < dn D) (hk0 : 0 < k) (ht : dtx D k = false) (h4 : 4 ≤ t) (h13 : t ≤ 13) (hv : okv t v) : Ct l G 37 48 288 yX12_style mX12_style [.ref (xob Y), .int (nI k), .int (nI t), .int v] σ (fun w s => w = some (.int (dst D k t)) ∧ ∃ T2 LL2 fr2, T2 ≤ T + 1 ∧ Rz G (mkD D (dwc D) (dln D) (sst D k t v)) X Y W T2 LL2 fr2 LL' fr' s ∧ Fo X Y (dn D) σ s) := by
  refine Ct.of (by decide) rfl (Nat.le_of_ble_eq_true rfl) (fun h => absurd h (by decide)) ?_
  have hS := h.1.2.1.2.2.1 k hk
  have hpar : zR σ 501 (xnd X k) = some (xnd X (dpar D k)) := by have := (h.1.2.1.1 k hk).2.1; rw [if_neg (by omega)] at this; exact this
  have hn := hD.2.1
  show Wp l G 37 48 288 (RX12, cX12_style, 6, (some .int), false) 0 [(0, .ref (xob Y)), (1, .int (nI k)), (2, .int (nI t)), (3, .int v)] [] σ _
  refine zp_aload_n dX12_style_0 rfl (a := (xob Y)) (List.mem_of_getElem? (i := 0) rfl) ?_
  refine zp_iload_n dX12_style_1 rfl (x := (nI k)) (List.mem_of_getElem? (i := 1) rfl) ?_
  refine zp_callV (c0 := 9) (st := []) (mc2 := 48) (ms2 := 288) dX12_style_2 (c_X12_boxAt l G D X Y W T k _ hD h.1.1 h.1.2.1 hk ht) cl_X12_68 im_X12_boxAt se_X12_boxAt rfl rfl h.1.1.1 rfl rfl (by omega) (by omega) (by omega) (Nat.le_of_ble_eq_true rfl) ?_
  rintro _ s1 ⟨rfl, hs1⟩; obtain rfl := hs1.symm
  refine zp_astore dX12_style_5 (Nat.le_of_ble_eq_true rfl) (lv2 := [(4, .ref (xnd X k)), (0, .ref (xob Y)), (1, .int (nI k)), (2, .int (nI t)), (3, .int v)]) rfl ?_
  refine zp_aload dX12_style_7 (a := (xnd X k)) (List.mem_of_getElem? (i := 0) rfl) ?_
  refine zp_nonnullT dX12_style_9 (tgt := 20) rfl ?_
  refine zp_iload_n dX12_style_20 rfl (x := (nI t)) (List.mem_of_getElem? (i := 3) rfl) ?_
  refine zp_if_lt dX12_style_21 (tgt := 38) rfl (fun q => absurd q (nI_nneg (by omega))) (fun _ => ?_)
  refine zp_iload_n dX12_style_24 rfl (x := (nI t)) (List.mem_of_getElem? (i := 3) rfl) ?_
  refine zp_bipush dX12_style_25 (v := 21) (by decide) ?_
  refine zp_icmp_ge dX12_style_27 (tgt := 38) rfl (fun q => absurd q (fun q => by have := (nI_le' (j := 21) (by decide) (by omega)).mp q; omega)) (fun _ => ?_)
  refine zp_iload_n dX12_style_30 rfl (x := (nI t)) (List.mem_of_getElem? (i := 3) rfl) ?_
  refine zp_iload_n dX12_style_31 rfl (x := v) (List.mem_of_getElem? (i := 4) rfl) ?_
  refine zp_callS (st := []) (mc2 := 48) (ms2 := 288) dX12_style_32 (c_X12_allows l G t v _ h4 h13 hv) cl_X12_127 st_X12_allows rfl rfl (by omega) (by omega) (by omega) (Nat.le_of_ble_eq_true rfl) ?_
  rintro _ s1 ⟨rfl, hs1⟩; obtain rfl := hs1.symm
  refine zp_if_ne dX12_style_35 (tgt := 46) rfl (fun _ => ?_) (fun q => absurd q (by decide))
  refine zp_aload dX12_style_46 (a := (xnd X k)) (List.mem_of_getElem? (i := 0) rfl) ?_
  refine zp_getRv dX12_style_48 fl_X12_114 (h.1.2.1.1 k hk).1 (b := (xnd X (dpar D k))) hpar ?_
  refine zp_nonnullT dX12_style_51 (tgt := 62) rfl ?_
  refine zp_aload dX12_style_62 (a := (xnd X k)) (List.mem_of_getElem? (i := 0) rfl) ?_
  refine zp_getRv dX12_style_64 fl_X12_131 (h.1.2.1.1 k hk).1 (b := (xsy Y k)) hS.1 ?_
  refine zp_iload_n dX12_style_67 rfl (x := (nI t)) (List.mem_of_getElem? (i := 3) rfl) ?_
  refine zp_iald_v dX12_style_68 hS.2.1 (Or.inl rfl) (j := t) (nI_clamp (by omega)) (vp_in_nI (by omega) (by decide)) (v := (dst D k t)) (hS.2.2 ht t (by omega)) ?_
  refine zp_istore dX12_style_69 (Nat.le_of_ble_eq_true rfl) (lv2 := [(5, .int (dst D k t)), (4, .ref (xnd X k)), (0, .ref (xob Y)), (1, .int (nI k)), (2, .int (nI t)), (3, .int v)]) rfl ?_
  refine zp_iload dX12_style_71 (x := (dst D k t)) (List.mem_of_getElem? (i := 0) rfl) ?_
  refine zp_iload_n dX12_style_73 rfl (x := v) (List.mem_of_getElem? (i := 5) rfl) ?_
  refine zp_icmp_eq dX12_style_74 (tgt := 108) rfl (fun hq => ?_) (fun hq => ?_)
  · skip
    refine zp_iload dX12_style_108 (x := (dst D k t)) (List.mem_of_getElem? (i := 0) rfl) ?_
    refine zp_iret rfl dX12_style_110 ?_
    exact ⟨rfl, T, LL, fr, by omega, by rw [sst_same hq]; exact h, Fo.refl⟩
  · skip
    refine zp_aload dX12_style_77 (a := (xnd X k)) (List.mem_of_getElem? (i := 1) rfl) ?_
    refine zp_getRv dX12_style_79 fl_X12_131 (h.1.2.1.1 k hk).1 (b := (xsy Y k)) hS.1 ?_
    refine zp_iload_n dX12_style_82 rfl (x := (nI t)) (List.mem_of_getElem? (i := 4) rfl) ?_
    refine zp_iload_n dX12_style_83 rfl (x := v) (List.mem_of_getElem? (i := 5) rfl) ?_
    refine zp_iastore dX12_style_84 hS.2.1 (j := t) (nI_clamp (by omega)) (vp_in_nI (by omega) (by decide)) ?_
    refine zp_aload_n dX12_style_85 rfl (a := (xob Y)) (List.mem_of_getElem? (i := 2) rfl) ?_
    refine zp_aload dX12_style_86 (a := (xnd X k)) (List.mem_of_getElem? (i := 1) rfl) ?_
    refine zp_callV (c0 := 9) (st := []) (mc2 := 48) (ms2 := 288) dX12_style_88 (c_X12_noteChange l G D X Y T k _ hD ⟨fun j hj => (h.1.2.1.nx h.1.2.2.2.1.nd).1 j hj, h.1.2.2.2.1.nd⟩ hk h.1.1.1 h.1.1.2.2.2.2.2.2.2.2.1) cl_X12_108 im_X12_noteChange se_X12_noteChange rfl rfl (tA h.1.1.1) rfl rfl (by omega) (by omega) (by omega) (Nat.le_of_ble_eq_true rfl) ?_
    rintro _ s1 ⟨rfl, f1, f513⟩
    obtain ⟨hP1, hF1⟩ := h.1.style hD hk (by omega) f1 f513 hT
    have e715 : zI s1 715 (xpl X false 0) = nI T := by rw [f1.2.2.1 715 (by decide) (by decide)]; exact h.2.2.2.2.2.2.1
    refine zp_iload_n dX12_style_91 rfl (x := (nI t)) (List.mem_of_getElem? (i := 4) rfl) ?_
    refine zp_callS (st := []) (mc2 := 48) (ms2 := 288) dX12_style_92 (c_X12_reachesInside l G (nI t) _ (fun q => by have := nI_inj (k := 0) (by omega) (by decide) q; omega) (fun q => by have := nI_inj (k := 1) (by omega) (by decide) q; omega) (fun q => by have := nI_inj (k := 3) (by omega) (by decide) q; omega) (fun q => by have := nI_inj (k := 14) (by omega) (by decide) q; omega) (fun q => by have := nI_inj (k := 17) (by omega) (by decide) q; omega)) cl_X12_134 st_X12_reachesInside rfl rfl (by omega) (by omega) (by omega) (Nat.le_of_ble_eq_true rfl) ?_
    rintro _ s1 ⟨rfl, hs1⟩; obtain rfl := hs1.symm
    refine zp_if_eq dX12_style_95 (tgt := 104) rfl (fun _ => ?_) (fun q => absurd rfl q)
    refine zp_aload_n dX12_style_104 rfl (a := (xob Y)) (List.mem_of_getElem? (i := 2) rfl) ?_
    refine zp_callV (c0 := 9) (st := []) (mc2 := 0) (ms2 := 0) dX12_style_105 (c_X12_layAgain l G (mkD D (dwc D) (dln D) (sst D k t v)) X Y W (T + 1) LL fr LL' fr' _ hD2 hP1 hW0 hW1 (Or.inl (by rw [e715, f513]; exact nI_s (by omega)))) cl_X12_89 im_X12_layAgain se_X12_layAgain rfl rfl hP1.1.1 rfl rfl (by omega) (by omega) (by omega) (Nat.le_of_ble_eq_true rfl) ?_
    rintro _ s2 ⟨rfl, ⟨LL2, fr2, hR2⟩, hF2⟩
    refine zp_iload dX12_style_108 (x := (dst D k t)) (List.mem_of_getElem? (i := 0) rfl) ?_
    refine zp_iret rfl dX12_style_110 ?_
    exact ⟨rfl, T + 1, LL2, fr2, Nat.le_refl _, hR2, hF1.trans hF2⟩
set_option maxRecDepth 100000 in
set_option maxHeartbeats 4000000 in
theorem c_X12_page (l : Launch) (G : Gb) (D : Dt) (X : Cx) (Y : Cy) (W : Int32) (T : Nat) (LL : Nat → List Nat) (fr : List Nat) (LL' : Nat → List Nat) (fr' : List Nat) (σ : Sto) (V : Int32) (hD : DW D) (h : Rz G D X Y W T LL fr LL' fr' σ) (hV0 : 1 ≤ V.toInt) (hV1 : V.toInt ≤ 300) : Ct l G 37 48 288 yX12_page mX12_page [.ref (xob Y), .int V] σ (fun w s => w = some (.int W) ∧ ∃ LL2 fr2, Rz G D X Y V T LL2 fr2 LL' fr' s ∧ Fo X Y (dn D) σ s) := by
  refine Ct.of (by decide) rfl (Nat.le_of_ble_eq_true rfl) (fun h => absurd h (by decide)) ?_
  show Wp l G 37 48 288 (RX12, cX12_page, 3, (some .int), false) 0 [(0, .ref (xob Y)), (1, .int V)] [] σ _
  refine zp_iload_n dX12_page_0 rfl (x := V) (List.mem_of_getElem? (i := 1) rfl) ?_
  refine zp_iconst dX12_page_1 (v := 1) (by decide) ?_
  refine zp_icmp_lt dX12_page_2 (tgt := 12) rfl (fun q => absurd q (i_nlt (Int32.le_iff_toInt_le.mpr hV0))) (fun _ => ?_)
  refine zp_iload_n dX12_page_5 rfl (x := V) (List.mem_of_getElem? (i := 1) rfl) ?_
  refine zp_sipush dX12_page_6 (v := 300) (by decide) ?_
  refine zp_icmp_le dX12_page_9 (tgt := 20) rfl (fun _ => ?_) (fun q => absurd (Int32.le_iff_toInt_le.mpr hV1) q)
  refine zp_aload_n dX12_page_20 rfl (a := (xob Y)) (List.mem_of_getElem? (i := 0) rfl) ?_
  refine zp_getIv dX12_page_21 fl_X12_33 h.1.1.1 (v := W) h.1.1.2.2.2.2.2.2.2.1 ?_
  refine zp_istore_n dX12_page_24 rfl (Nat.le_of_ble_eq_true rfl) (lv2 := [(2, .int W), (0, .ref (xob Y)), (1, .int V)]) rfl ?_
  refine zp_iload_n dX12_page_25 rfl (x := W) (List.mem_of_getElem? (i := 0) rfl) ?_
  refine zp_iload_n dX12_page_26 rfl (x := V) (List.mem_of_getElem? (i := 2) rfl) ?_
  refine zp_icmp_eq dX12_page_27 (tgt := 39) rfl (fun hq => ?_) (fun hq => ?_)
  · skip
    refine zp_iload_n dX12_page_39 rfl (x := W) (List.mem_of_getElem? (i := 0) rfl) ?_
    refine zp_iret rfl dX12_page_40 ?_
    exact ⟨rfl, LL, fr, by rw [← hq]; exact h, Fo.refl⟩
  · skip
    refine zp_aload_n dX12_page_30 rfl (a := (xob Y)) (List.mem_of_getElem? (i := 1) rfl) ?_
    refine zp_iload_n dX12_page_31 rfl (x := V) (List.mem_of_getElem? (i := 2) rfl) ?_
    refine zp_putI dX12_page_32 fl_X12_33 h.1.1.1 ?_
    refine zp_aload_n dX12_page_35 rfl (a := (xob Y)) (List.mem_of_getElem? (i := 1) rfl) ?_
    refine zp_callV (c0 := 9) (st := []) (mc2 := 0) (ms2 := 0) dX12_page_36 (c_X12_layAgain l G D X Y V T LL fr LL' fr' _ hD h.1.page (by omega) hV1 (Or.inr (by rw [rIn (by decide), h.2.2.2.2.2.2.2]; exact hq))) cl_X12_89 im_X12_layAgain se_X12_layAgain rfl rfl (tI h.1.1.1) rfl rfl (by omega) (by omega) (by omega) (Nat.le_of_ble_eq_true rfl) ?_
    rintro _ s2 ⟨rfl, ⟨LL2, fr2, hR2⟩, hF2⟩
    refine zp_iload_n dX12_page_39 rfl (x := W) (List.mem_of_getElem? (i := 0) rfl) ?_
    refine zp_iret rfl dX12_page_40 ?_
    exact ⟨rfl, LL2, fr2, hR2, ⟨fun a ha => hF2.1 a ha, fun a ha hn => hF2.2 a ha hn⟩⟩
set_option maxRecDepth 100000 in
set_option maxHeartbeats 4000000 in
theorem c_X12_word (l : Launch) (G : Gb) (D : Dt) (X : Cx) (Y : Cy) (W : Int32) (T : Nat) (LL : Nat → List Nat) (fr : List Nat) (LL' : Nat → List Nat) (fr' : List Nat) (σ : Sto) (k : Nat) (v : Int32) (hD : DW D) (h : Rz G D X Y W T LL fr LL' fr' σ) (hW0 : 0 ≤ W.toInt) (hW1 : W.toInt ≤ 300) (hD2 : DW (mkD D (swc D k) (sln D k v) (dst D))) (hT : T < 1000) (hk : k < dn D) (ht : dtx D k = true) (hw : dwc D k < 4) (hv0 : 1 ≤ v.toInt) (hv1 : v.toInt ≤ 30) : Ct l G 37 48 288 yX12_word mX12_word [.ref (xob Y), .int (nI k), .int v, .int 0] σ (fun w s => w = some (.int (nI (dwc D k + 1))) ∧ ∃ LL2 fr2, Rz G (mkD D (swc D k) (sln D k v) (dst D)) X Y W (T + 1) LL2 fr2 LL' fr' s ∧ Fo X Y (dn D) σ s) := by
  refine Ct.of (by decide) rfl (Nat.le_of_ble_eq_true rfl) (fun h => absurd h (by decide)) ?_
  have hK := h.1.2.1.1 k hk
  have hle := hK.2.2.2.2.2.2.2.2.2.2.2.1
  have hcu := hK.2.2.2.2.2.2.2.2.2.2.2.2.2.2.1
  have hleT : zT σ (xle X k) = (20, 20) := by have := hK.2.2.2.2.2.2.2.2.2.2.2.2.1; rw [ht] at this; exact this
  have hcuT : zT σ (xcu X k) = (20, 20) := by have := hK.2.2.2.2.2.2.2.2.2.2.2.2.2.2.2.1; rw [ht] at this; exact this
  have hwc : zI σ 512 (xnd X k) = nI (dwc D k) := hK.2.2.2.2.2.2.2.1
  show Wp l G 37 48 288 (RX12, cX12_word, 5, (some .int), false) 0 [(0, .ref (xob Y)), (1, .int (nI k)), (2, .int v), (3, .int 0)] [] σ _
  refine zp_aload_n dX12_word_0 rfl (a := (xob Y)) (List.mem_of_getElem? (i := 0) rfl) ?_
  refine zp_iload_n dX12_word_1 rfl (x := (nI k)) (List.mem_of_getElem? (i := 1) rfl) ?_
  refine zp_callV (c0 := 9) (st := []) (mc2 := 48) (ms2 := 288) dX12_word_2 (c_X12_textAt l G D X Y W T k _ hD h.1.1 h.1.2.1 hk ht) cl_X12_95 im_X12_textAt se_X12_textAt rfl rfl h.1.1.1 rfl rfl (by omega) (by omega) (by omega) (Nat.le_of_ble_eq_true rfl) ?_
  rintro _ s1 ⟨rfl, hs1⟩; obtain rfl := hs1.symm
  refine zp_astore dX12_word_5 (Nat.le_of_ble_eq_true rfl) (lv2 := [(4, .ref (xnd X k)), (0, .ref (xob Y)), (1, .int (nI k)), (2, .int v), (3, .int 0)]) rfl ?_
  refine zp_aload dX12_word_7 (a := (xnd X k)) (List.mem_of_getElem? (i := 0) rfl) ?_
  refine zp_nonnullT dX12_word_9 (tgt := 20) rfl ?_
  refine zp_iload_n dX12_word_20 rfl (x := v) (List.mem_of_getElem? (i := 3) rfl) ?_
  refine zp_iconst dX12_word_21 (v := 1) (by decide) ?_
  refine zp_icmp_lt dX12_word_22 (tgt := 40) rfl (fun q => absurd q (i_nlt (Int32.le_iff_toInt_le.mpr hv0))) (fun _ => ?_)
  refine zp_iload_n dX12_word_25 rfl (x := v) (List.mem_of_getElem? (i := 3) rfl) ?_
  refine zp_bipush dX12_word_26 (v := 30) (by decide) ?_
  refine zp_icmp_gt dX12_word_28 (tgt := 40) rfl (fun q => absurd q (i_nlt (Int32.le_iff_toInt_le.mpr hv1))) (fun _ => ?_)
  refine zp_iload_n dX12_word_31 rfl (x := 0) (List.mem_of_getElem? (i := 4) rfl) ?_
  refine zp_if_lt dX12_word_32 (tgt := 40) rfl (fun q => absurd q (by decide)) (fun _ => ?_)
  refine zp_iload_n dX12_word_35 rfl (x := 0) (List.mem_of_getElem? (i := 4) rfl) ?_
  refine zp_iload_n dX12_word_36 rfl (x := v) (List.mem_of_getElem? (i := 3) rfl) ?_
  refine zp_icmp_lt dX12_word_37 (tgt := 48) rfl (fun _ => ?_) (fun q => absurd (Int32.lt_iff_toInt_lt.mpr (by rw [show (0 : Int32).toInt = 0 from rfl]; omega)) q)
  refine zp_aload dX12_word_48 (a := (xnd X k)) (List.mem_of_getElem? (i := 0) rfl) ?_
  refine zp_getIv dX12_word_50 fl_X12_98 (h.1.2.1.1 k hk).1 (v := (nI (dwc D k))) hwc ?_
  refine zp_bipush dX12_word_53 (v := 20) (by decide) ?_
  refine zp_icmp_lt dX12_word_55 (tgt := 66) rfl (fun _ => ?_) (fun q => absurd ((nI_ltj (k := 20) (by omega) (by decide)).mpr (by omega)) q)
  refine zp_aload dX12_word_66 (a := (xnd X k)) (List.mem_of_getElem? (i := 0) rfl) ?_
  refine zp_getRv dX12_word_68 fl_X12_101 (h.1.2.1.1 k hk).1 (b := (xle X k)) hle ?_
  refine zp_aload dX12_word_71 (a := (xnd X k)) (List.mem_of_getElem? (i := 0) rfl) ?_
  refine zp_getIv dX12_word_73 fl_X12_98 (h.1.2.1.1 k hk).1 (v := (nI (dwc D k))) hwc ?_
  refine zp_iload_n dX12_word_76 rfl (x := v) (List.mem_of_getElem? (i := 3) rfl) ?_
  refine zp_iastore dX12_word_77 hleT (j := (dwc D k)) (nI_clamp (by omega)) (vp_in_nI (by omega) (by decide)) ?_
  refine zp_aload dX12_word_78 (a := (xnd X k)) (List.mem_of_getElem? (i := 0) rfl) ?_
  refine zp_getRv dX12_word_80 fl_X12_105 (tA (h.1.2.1.1 k hk).1) (b := (xcu X k)) (rRA.trans hcu) ?_
  refine zp_aload dX12_word_83 (a := (xnd X k)) (List.mem_of_getElem? (i := 0) rfl) ?_
  refine zp_getIv dX12_word_85 fl_X12_98 (tA (h.1.2.1.1 k hk).1) (v := (nI (dwc D k))) hwc ?_
  refine zp_iload_n dX12_word_88 rfl (x := 0) (List.mem_of_getElem? (i := 4) rfl) ?_
  refine zp_iastore dX12_word_89 (tA hcuT) (j := (dwc D k)) (nI_clamp (by omega)) (vp_in_nI (by omega) (by decide)) ?_
  refine zp_aload dX12_word_90 (a := (xnd X k)) (List.mem_of_getElem? (i := 0) rfl) ?_
  refine zp_dup dX12_word_92 rfl ?_
  refine zp_getIv dX12_word_93 fl_X12_98 (tA (tA (h.1.2.1.1 k hk).1)) (v := (nI (dwc D k))) hwc ?_
  refine zp_iconst dX12_word_96 (v := 1) (by decide) ?_
  refine zp_iadd dX12_word_97 ?_
  rw [show (((nI (dwc D k)) + 1) : Int32) = (nI (dwc D k + 1)) from (nI_1 (dwc D k))]
  refine zp_putI dX12_word_98 fl_X12_98 (tA (tA (h.1.2.1.1 k hk).1)) ?_
  refine zp_aload_n dX12_word_101 rfl (a := (xob Y)) (List.mem_of_getElem? (i := 1) rfl) ?_
  refine zp_aload dX12_word_102 (a := (xnd X k)) (List.mem_of_getElem? (i := 0) rfl) ?_
  refine zp_callV (c0 := 9) (st := []) (mc2 := 48) (ms2 := 288) dX12_word_104 (c_X12_noteChange l G D X Y T k _ hD ⟨fun j hj => (h.1.2.1.nx h.1.2.2.2.1.nd).1 j hj, h.1.2.2.2.1.nd⟩ hk h.1.1.1 ((rIn (by decide)).trans h.1.1.2.2.2.2.2.2.2.2.1)) cl_X12_108 im_X12_noteChange se_X12_noteChange rfl rfl (tI (tA (tA h.1.1.1))) rfl rfl (by omega) (by omega) (by omega) (Nat.le_of_ble_eq_true rfl) ?_
  rintro _ s1 ⟨rfl, f1, f513⟩
  obtain ⟨hP1, hF1⟩ := h.1.word hD hk f1 f513 hT
  have e715 : zI s1 715 (xpl X false 0) = nI T := by rw [f1.2.2.1 715 (by decide) (by decide)]; exact (rIn (by decide)).trans h.2.2.2.2.2.2.1
  refine zp_aload_n dX12_word_107 rfl (a := (xob Y)) (List.mem_of_getElem? (i := 1) rfl) ?_
  refine zp_callV (c0 := 9) (st := []) (mc2 := 0) (ms2 := 0) dX12_word_108 (c_X12_layAgain l G (mkD D (swc D k) (sln D k v) (dst D)) X Y W (T + 1) LL fr LL' fr' _ hD2 hP1 hW0 hW1 (Or.inl (by rw [e715, f513]; exact nI_s (by omega)))) cl_X12_89 im_X12_layAgain se_X12_layAgain rfl rfl hP1.1.1 rfl rfl (by omega) (by omega) (by omega) (Nat.le_of_ble_eq_true rfl) ?_
  rintro _ s2 ⟨rfl, ⟨LL2, fr2, hR2⟩, hF2⟩
  refine zp_aload dX12_word_111 (a := (xnd X k)) (List.mem_of_getElem? (i := 0) rfl) ?_
  refine zp_getIv dX12_word_113 fl_X12_98 (hR2.1.2.1.1 k hk).1 (v := (nI (dwc D k + 1))) ((hR2.1.2.1.1 k hk).2.2.2.2.2.2.2.1.trans (congrArg nI (if_pos rfl))) ?_
  refine zp_iret rfl dX12_word_116 ?_
  exact ⟨rfl, LL2, fr2, hR2, hF1.trans hF2⟩

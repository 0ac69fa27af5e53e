/-! THE OBJECT AT REST; LAYING OUT AGAIN (by wip/p27/gen_obj.py) -/
def Tt : Nat → Prop := fun _ => True
def lnM (D : Dt) (LL : Nat → List Nat) (fr : List Nat) (a : Nat) : Prop := a ∈ fr ∨ ∃ k, k < dn D ∧ a ∈ LL k
/-- what belongs to one of the layouts -/
def ownP (X : Cx) (D : Dt) (b : Bool) (LL : Nat → List Nat) (fr : List Nat) (a : Nat) : Prop :=
  a = xLy X b ∨ a = xF X b ∨ (∃ k, k < dn D ∧ a = xpl X b k) ∨ (∃ k i, k < dn D ∧ i < pcn (dtx D k) ∧ a = xth X b k i) ∨ lnM D LL fr a
theorem kne {σ : Sto} {a c : Nat} {t t2 : Nat × Nat} (h1 : zT σ a = t) (h2 : zT σ c = t2) (hn : t ≠ t2) : a ≠ c := fun q => hn (h1.symm.trans ((congrArg (zT σ) q).trans h2))
theorem Ln.lm {O D X b σ LL fr} (h : Ln O D X b σ LL fr) {a : Nat} (ha : lnM D LL fr a) : zT σ a = (4, 0) := by
  rcases ha with ha | ⟨k, hk, ha⟩
  · exact h.fT ha
  · exact h.T hk ha
theorem Ln.mo {O O' : Nat → Prop} {D X b σ LL fr} (h : Ln O D X b σ LL fr) (h2 : ∀ a, lnM D LL fr a → O' a) : Ln O' D X b σ LL fr :=
  ⟨h.1, h.2.1, h.2.2.1, h.2.2.2.1, fun x hx => h2 x (Or.inl hx), fun k hk x hx => h2 x (Or.inr ⟨k, hk, hx⟩)⟩
theorem Ln.lo {O : Nat → Prop} {D X b σ LL fr} (h : Ln O D X b σ LL fr) {a : Nat} (ha : lnM D LL fr a) : O a := by
  rcases ha with ha | ⟨k, hk, ha⟩
  · exact h.2.2.2.2.1 a ha
  · exact h.2.2.2.2.2 k hk a ha
theorem own_T {G : Gb} {O D X b σ LL fr} (hN : NS G D X σ) (hl : Ln O D X b σ LL fr) {a : Nat} (h : ownP X D b LL fr a) : (zT σ a).1 = 3 ∨ (zT σ a).1 = 2 ∨ (zT σ a).1 = 7 ∨ (zT σ a).1 = 9 ∨ (zT σ a).1 = 4 := by
  rcases h with h | h | ⟨k, hk, h⟩ | ⟨k, i, hk, hi, h⟩ | h
  · rw [h, (hN.l b).T]; exact Or.inl rfl
  · rw [h, (hN.l b).FT]; exact Or.inr (Or.inl rfl)
  · rw [h, (hN.k k hk).plT b]; exact Or.inr (Or.inr (Or.inl rfl))
  · rw [h, (hN.k k hk).thT b i hi]; exact Or.inr (Or.inr (Or.inr (Or.inl rfl)))
  · rw [hl.lm h]; exact Or.inr (Or.inr (Or.inr (Or.inr rfl)))
theorem Ow_of {G : Gb} {O D X b c σ LL fr} (hN : NS G D X σ) (hbc : b ≠ c) (hl : Ln O D X c σ LL fr) : Ow (fun a => ¬ ownP X D c LL fr a) D X b σ := by
  refine ⟨fun q => ?_, fun q => ?_, fun k hk q => ?_, fun k i hk hi q => ?_, fun a ha q => ?_⟩
  · rcases q with q | q | ⟨k, hk, q⟩ | ⟨k, i, hk, hi, q⟩ | q
    · exact hbc (hN.d.Ly _ _ q)
    · exact kne (hN.l b).T (hN.l c).FT (by decide) q
    · exact kne (hN.l b).T ((hN.k k hk).plT c) (by decide) q
    · exact kne (hN.l b).T ((hN.k k hk).thT c i hi) (by decide) q
    · exact kne (hN.l b).T (hl.lm q) (by decide) rfl
  · rcases q with q | q | ⟨k, hk, q⟩ | ⟨k, i, hk, hi, q⟩ | q
    · exact kne (hN.l b).FT (hN.l c).T (by decide) q
    · exact hbc (hN.d.F _ _ q)
    · exact kne (hN.l b).FT ((hN.k k hk).plT c) (by decide) q
    · exact kne (hN.l b).FT ((hN.k k hk).thT c i hi) (by decide) q
    · exact kne (hN.l b).FT (hl.lm q) (by decide) rfl
  · rcases q with q | q | ⟨j, hj, q⟩ | ⟨j, i, hj, hi, q⟩ | q
    · exact kne ((hN.k k hk).plT b) (hN.l c).T (by decide) q
    · exact kne ((hN.k k hk).plT b) (hN.l c).FT (by decide) q
    · exact hbc (hN.d.pl b c k j hk hj q).1
    · exact kne ((hN.k k hk).plT b) ((hN.k j hj).thT c i hi) (by decide) q
    · exact kne ((hN.k k hk).plT b) (hl.lm q) (by decide) rfl
  · rcases q with q | q | ⟨j, hj, q⟩ | ⟨j, m, hj, hm, q⟩ | q
    · exact kne ((hN.k k hk).thT b i hi) (hN.l c).T (by decide) q
    · exact kne ((hN.k k hk).thT b i hi) (hN.l c).FT (by decide) q
    · exact kne ((hN.k k hk).thT b i hi) ((hN.k j hj).plT c) (by decide) q
    · exact hbc (hN.d.th b c k j i m hk hj hi hm q).1
    · exact kne ((hN.k k hk).thT b i hi) (hl.lm q) (by decide) rfl
  · have := own_T hN hl q
    rw [ha] at this
    omega
theorem Ow_Tt {D X b σ} : Ow Tt D X b σ := ⟨trivial, trivial, fun _ _ => trivial, fun _ _ _ _ => trivial, fun _ _ => trivial⟩
/-- what is the layout's own reads as before -/
def Eo (X : Cx) (D : Dt) (b : Bool) (LL : Nat → List Nat) (fr : List Nat) (σ s : Sto) : Prop := ∀ a, ownP X D b LL fr a → ∀ g, (g < 500 ∨ 700 ≤ g) → zI s g a = zI σ g a ∧ zR s g a = zR σ g a
theorem Eo.trans {X D b LL fr} {σ s t : Sto} (h : Eo X D b LL fr σ s) (h' : Eo X D b LL fr s t) : Eo X D b LL fr σ t := fun a ha g hg => ⟨(h' a ha g hg).1.trans (h a ha g hg).1, (h' a ha g hg).2.trans (h a ha g hg).2⟩
theorem Eo.of {X D b LL fr} {σ s : Sto} (h1 : ∀ g, g < 500 ∨ 700 ≤ g → zI s g = zI σ g) (h2 : ∀ g, g < 500 ∨ 700 ≤ g → zR s g = zR σ g) : Eo X D b LL fr σ s := fun a _ g hg => ⟨by rw [h1 g hg], by rw [h2 g hg]⟩
theorem Eo.fm {G : Gb} {O2 X D b c LL fr} {σ s : Sto} {now : Int32} (hN : NS G D X σ) (hbc : b ≠ c) (hl : Ln O2 D X c σ LL fr) (f : Fm (fun a => ¬ ownP X D c LL fr a) (wI σ 304 (xLy X b) now) s) : Eo X D c LL fr σ s := fun a ha g _ => by
  have h1 := ((f.1 a (fun q => q ha)).1 g)
  have hne : a ≠ xLy X b := fun q => (Ow_of hN hbc hl).1 (q ▸ ha)
  exact ⟨h1.1.trans (rIb hne), h1.2⟩
theorem Ln.eo {O D X b σ LL fr} {s : Sto} (h : Ln O D X b σ LL fr) (hT : ∀ a, (zT σ a).1 ≠ 0 → zT s a = zT σ a) (he : Eo X D b LL fr σ s) : Ln O D X b s LL fr := by
  have hc : ∀ {r : Option Nat} {xs : List Nat}, (∀ x, x ∈ xs → lnM D LL fr x) → Ch σ r xs → Ch s r xs := fun {r xs} q h1 => h1.to (fun x hx => ⟨hT x (by rw [h1.T x hx]; decide), (he x (Or.inr (Or.inr (Or.inr (Or.inr (q x hx))))) 405 (by decide)).2⟩)
  refine ⟨?_, fun k hk => ⟨?_, ?_, ?_⟩, h.2.2⟩
  · rw [(he (xLy X b) (Or.inl rfl) 303 (by decide)).2]; exact hc (fun x hx => Or.inl hx) h.1
  · rw [(he (xpl X b k) (Or.inr (Or.inr (Or.inl ⟨k, hk, rfl⟩))) 711 (by decide)).2]; exact (h.2.1 k hk).1
  · rw [(he (xpl X b k) (Or.inr (Or.inr (Or.inl ⟨k, hk, rfl⟩))) 712 (by decide)).2]; exact (h.2.1 k hk).2.1
  · exact hc (fun x hx => Or.inr ⟨k, hk, hx⟩) (h.2.1 k hk).2.2
theorem RR.mo {G O D X b S wl LL fr σ} (h : RR G O D X b S wl LL fr σ) : RR G Tt D X b S wl LL fr σ :=
  ⟨⟨h.1.1, Ow_Tt, h.1.2.2⟩, ⟨h.2.1.mo (fun _ _ => trivial), h.2.2⟩⟩
theorem RR.eo {G O D X b S LL fr σ} {s : Sto} (h : RR G O D X b S [] LL fr σ) (hN : NS G D X s) (hT : ∀ a, (zT σ a).1 ≠ 0 → zT s a = zT σ a) (he : Eo X D b LL fr σ s) : RR G Tt D X b S [] LL fr s := by
  have eF := he (xF X b) (Or.inr (Or.inl rfl))
  have eP := fun k (hk : k < dn D) => he (xpl X b k) (Or.inr (Or.inr (Or.inl ⟨k, hk, rfl⟩)))
  have eL := fun k (hk : k < dn D) x (hx : x ∈ LL k) => he x (Or.inr (Or.inr (Or.inr (Or.inr (Or.inr ⟨k, hk, hx⟩)))))
  refine ⟨⟨hN, Ow_Tt, ?_, ?_, ?_, ?_, ?_, ?_, h.1.wn, h.1.ww, h.1.wb, fun k hk ht hv => ?_, fun k hk h0 ht hv => ?_, fun k hk h0 ht hv hw => ?_, fun k hk h0 ht hv => ?_, fun k hk h0 ht hv hc => ?_⟩, ⟨(h.2.1.eo hT he).mo (fun _ _ => trivial), fun j hj ht hv => ⟨?_, fun l hl => ?_⟩, h.2.lz, fun c hc ht hv hw => ?_, ?_⟩⟩
  · rw [(eF 200 (by decide)).1]; exact h.1.y
  · rw [(eF 201 (by decide)).1]; exact h.1.ab
  · rw [(eF 202 (by decide)).1]; exact h.1.be
  · rw [(eF 204 (by decide)).2]; exact h.1.f0
  · rw [(eF 218 (by decide)).2]; exact h.1.l0
  · rw [(eF 203 (by decide)).2]; exact h.1.wt
  · rw [(eP k hk 702 (by decide)).1, (eP k hk 704 (by decide)).1]; exact h.1.p2 k hk ht hv
  · rw [(eP k hk 700 (by decide)).1]; exact h.1.p0 k hk h0 ht hv
  · rw [(eP k hk 701 (by decide)).1]; exact h.1.p1 k hk h0 ht hv hw
  · rw [(eP k hk 703 (by decide)).1]; exact h.1.p3 k hk h0 ht hv
  · rw [(eP k hk 709 (by decide)).1]; exact h.1.p9 k hk h0 ht hv hc
  · rw [← (h.2.lc j hj ht hv).1]
    exact List.map_congr_left (fun l hl => by rw [(eL j hj l hl 401 (by decide)).1, (eL j hj l hl 402 (by decide)).1])
  · rw [(eL j hj l hl 400 (by decide)).1]; exact (h.2.lc j hj ht hv).2 l hl
  · obtain ⟨a1, l, a2, a3, a4⟩ := h.2.tx c hc ht hv hw
    have e := he (xth X b c 0) (Or.inr (Or.inr (Or.inr (Or.inl ⟨c, 0, hc, by rw [ht]; decide, rfl⟩))))
    exact ⟨a1, l, a2, by rw [(e 900 (by decide)).2]; exact a3, by rw [(e 901 (by decide)).1]; exact a4⟩
  · rw [(eF 213 (by decide)).1]; exact h.2.th
theorem Bz.eo {D X b σ LL fr} {s : Sto} (h : Bz D X b σ) (he : Eo X D b LL fr σ s) : Bz D X b s := fun k hk ht => by
  have e := he (xpl X b k) (Or.inr (Or.inr (Or.inl ⟨k, hk, rfl⟩)))
  rw [(e 707 (by decide)).1, (e 708 (by decide)).1]
  exact h k hk ht
def z0 : Nat → Int32 := fun _ => 0
theorem NS.hi {G : Gb} {D : Dt} {X : Cx} {σ : Sto} {g0 a : Nat} {x : Int32} (hg : 1000 ≤ g0) (h : NS G D X σ) : NS G D X (wI σ g0 a x) := by
  have e : ∀ g, g < 1000 → zI (wI σ g0 a x) g = zI σ g := fun g hg => by funext c; exact rIn (by omega)
  refine ⟨fun k hk => ?_, fun c => ?_, h.d, by rw [e _ (by decide)]; exact h.dep⟩
  · obtain ⟨a1, a2, a3, a4, a5, a6, a7, a8, a9, a10, a11, a12, a13, a14, a15, a16, a17, a18, a19, a20, a21, a22, a23, a24, a25, a26⟩ := h.k k hk
    exact ⟨a1, a2, by rw [e _ (by decide)]; exact a3, a4, a5, a6, a7, a8, by rw [e _ (by decide)]; exact a9, a10, by rw [e _ (by decide)]; exact a11, by rw [e _ (by decide)]; exact a12, by rw [e _ (by decide)]; exact a13, a14, a15, a16, a17, a18, a19, a20, a21, a22, a23, a24, a25, by rw [e _ (by decide)]; exact a26⟩
  · obtain ⟨a1, a2, a3, a4, a5, a6⟩ := h.l c
    exact ⟨a1, by rw [e _ (by decide)]; exact a2, a3, a4, a5, a6⟩
/-- the object's own: its fields, its row of nodes, the painter -/
def OB (D : Dt) (X : Cx) (Y : Cy) (W : Int32) (T : Nat) (σ : Sto) : Prop :=
  (zT σ (xob Y) = (10, 0)) ∧ (zR σ 1000 (xob Y) = some (xna Y)) ∧ (zR σ 1001 (xob Y) = some (xnd X 0)) ∧ (zR σ 1002 (xob Y) = some (xLy X false)) ∧ (zR σ 1003 (xob Y) = some (xLy X true)) ∧ (zR σ 1004 (xob Y) = some (xpt Y)) ∧
  (zI σ 1005 (xob Y) = nI (dn D)) ∧ (zI σ 1006 (xob Y) = W) ∧ (zI σ 1007 (xob Y) = nI T) ∧ (zT σ (xna Y) = (21, 60)) ∧ (∀ k, k < 60 → zQ σ (xna Y) k = if k < dn D then some (xnd X k) else none) ∧ (Pp (xpt Y) (xoa Y) σ) ∧ (xna Y ≠ xoa Y) ∧
  (DA X Y (dn D)) ∧ (∀ k, k < dn D → ∃ d, d ≤ k ∧ zI σ 502 (xnd X k) = nI d) ∧ (Tc D X σ) ∧ T ≤ 1000
theorem OB.to {D X Y W T} {σ s : Sto} (h : OB D X Y W T σ) (hn : ∀ k, k < dn D → xcn X k ∉ ([] : List Nat)) (hT : ∀ a, (zT σ a).1 ≠ 0 → zT s a = zT σ a) (hI : ∀ g, g = 502 ∨ g = 1005 ∨ g = 1006 ∨ g = 1007 → zI s g = zI σ g) (hR : ∀ g, g = 600 ∨ 1000 ≤ g → zR s g = zR σ g) (hQ : zQ s (xna Y) = zQ σ (xna Y)) (hA : ∀ k, k < dn D → dtx D k = true → zA s (xcn X k) 3 = 0) : OB D X Y W T s := by
  obtain ⟨a1, a2, a3, a4, a5, a6, a7, a8, a9, a10, a11, a12, a13, a14, a15, a16, a17⟩ := h
  have t : ∀ {a c n : Nat}, zT σ a = (c + 1, n) → zT s a = (c + 1, n) := fun {a c n} q => (hT a (by rw [q]; exact Nat.succ_ne_zero c)).trans q
  exact ⟨t a1, by rw [hR _ (by decide)]; exact a2, by rw [hR _ (by decide)]; exact a3, by rw [hR _ (by decide)]; exact a4, by rw [hR _ (by decide)]; exact a5, by rw [hR _ (by decide)]; exact a6, by rw [hI _ (by decide)]; exact a7, by rw [hI _ (by decide)]; exact a8, by rw [hI _ (by decide)]; exact a9, t a10, by rw [hQ]; exact a11, ⟨t a12.1, by rw [hR _ (by decide)]; exact a12.2.1, t a12.2.2⟩, a13, a14, by rw [hI _ (by decide)]; exact a15, hA, a17⟩
/-- ahead of a laying out -/
def PL (G : Gb) (D : Dt) (X : Cx) (Y : Cy) (W : Int32) (T : Nat) (LL : Nat → List Nat) (fr : List Nat) (LL' : Nat → List Nat) (fr' : List Nat) (σ : Sto) : Prop :=
  OB D X Y W T σ ∧ AI G D X Y σ ∧ (∀ b, LyS X σ b) ∧ DJ X D ∧ zI σ 502 (xnd X 0) = 0 ∧ Ln Tt D X false σ LL fr ∧ Ln Tt D X true σ LL' fr' ∧ (∀ a, lnM D LL fr a → ¬ lnM D LL' fr' a) ∧ Bz D X false σ ∧ Bz D X true σ ∧ (0 ≤ (zI σ 513 (xnd X 0)).toInt ∧ (zI σ 513 (xnd X 0)).toInt ≤ (T : Int))
theorem AI.of {G D X Y} {σ : Sto} (hD : DW D) (hN : NS G D X σ) (hS : ∀ k, k < dn D → Sy D X Y σ k) (hsw : Sw G σ) : AI G D X Y σ :=
  ⟨fun k hk => (hN.k k hk).p, fun k hk ht => ((hN.k k hk).cnA ht 17 (by decide)).trans (hD.2.2.2.2.2.2.2.2.2.2.2 k).2.2.2.2.2.2.2.1, hS, hsw, fun k hk ht => by
    rw [(hN.k k hk).ctx, zb_f]
    exact fun q => by rw [q, hD.2.2.2.1] at ht; cases ht⟩
/-- laid out: what the answers rest on -/
def Rz (G : Gb) (D : Dt) (X : Cx) (Y : Cy) (W : Int32) (T : Nat) (LL : Nat → List Nat) (fr : List Nat) (LL' : Nat → List Nat) (fr' : List Nat) (σ : Sto) : Prop :=
  PL G D X Y W T LL fr LL' fr' σ ∧ NS G D X σ ∧ RR G Tt D X false (laysP D W z0 z0) [] LL fr σ ∧ (∀ k, k < dn D → dtx D k = false → Sd X false (laysP D W z0 z0) σ k) ∧ zI σ 703 (xpl X false 0) = mx 0 (sy (laysP D W z0 z0)) ∧ zI σ 601 (xpt Y) = nI (dn D) ∧
  zI σ 715 (xpl X false 0) = nI T ∧ zI σ 716 (xpl X false 0) = W
/-- what the object's calls leave as it was -/
def Fo (X : Cx) (Y : Cy) (n : Nat) (σ s : Sto) : Prop := (∀ a, (zT σ a).1 ≠ 0 → zT s a = zT σ a) ∧ ∀ a, (zT σ a).1 ≠ 0 → (∀ t k, t < 4 → k < n → a ≠ arX X Y t k) → zA s a = zA σ a
theorem Fo.refl {X Y n} {σ : Sto} : Fo X Y n σ σ := ⟨fun _ _ => rfl, fun _ _ _ => rfl⟩
theorem Fo.trans {X Y n} {σ s t : Sto} (h : Fo X Y n σ s) (h' : Fo X Y n s t) : Fo X Y n σ t :=
  ⟨fun a ha => (h'.1 a (by rw [h.1 a ha]; exact ha)).trans (h.1 a ha), fun a ha hn => (h'.2 a (by rw [h.1 a ha]; exact ha) hn).trans (h.2 a ha hn)⟩
set_option maxRecDepth 100000 in
set_option maxHeartbeats 4000000 in
theorem c_X12_layAgain (l : Launch) (G : Gb) (D : Dt) (X : Cx) (Y : Cy) (W : Int32) (T : Nat) (LL : Nat → List Nat) (fr : List Nat) (LL' : Nat → List Nat) (fr' : List Nat) (σ : Sto) (hD : DW D) (h : PL G D X Y W T LL fr LL' fr' σ) (hW0 : 0 ≤ W.toInt) (hW1 : W.toInt ≤ 300) (hgo : zI σ 715 (xpl X false 0) < zI σ 513 (xnd X 0) ∨ zI σ 716 (xpl X false 0) ≠ W) : Ct l G 36 48 288 yX12_layAgain mX12_layAgain [.ref (xob Y)] σ (fun v s => v = none ∧ (∃ LL2 fr2, Rz G D X Y W T LL2 fr2 LL' fr' s) ∧ Fo X Y (dn D) σ s) := by
  refine Ct.of (by decide) rfl (Nat.le_of_ble_eq_true rfl) (fun h => absurd h (by decide)) ?_
  obtain ⟨hB, hI, hLy, hJ, hdep, hl1, hl2, hlj, hb1, hb2, hca⟩ := h
  obtain ⟨o1, o2, o3, o4, o5, o6, o7, o8, o9, o10, o11, o12, o13, o14, o15, o16, o17⟩ := id hB
  have hTcA : ∀ s, Fr D X σ s → Tc D X s := fun s f k hk ht => by
    rw [f.2.2.2.2 (xcn X k) (fun j hj htj q => by rw [(o14.n hk hj).1 q, htj] at ht; cases ht)]
    exact o16 k hk ht
  show Wp l G 36 48 288 (RX12, cX12_layAgain, 1, none, false) 0 [(0, .ref (xob Y))] [] σ _
  refine zp_aload_n dX12_layAgain_0 rfl (a := (xob Y)) (List.mem_of_getElem? (i := 0) rfl) ?_
  refine zp_getRv dX12_layAgain_1 fl_X12_25 o1 (b := (xnd X 0)) o3 ?_
  refine zp_callS (st := []) (mc2 := 48) (ms2 := 288) dX12_layAgain_4 (c_X7_assignRoles l G D X Y σ hD hI o14 hJ.nd) cl_X12_15 st_X7_assignRoles rfl rfl (by omega) (by omega) (by omega) (Nat.le_of_ble_eq_true rfl) ?_
  rintro _ s1 ⟨rfl, hI1, hK1, f1⟩
  obtain ⟨g1, g2, g3, g4, g5⟩ := id f1
  have t1 : ∀ a, zT s1 a = zT σ a := fun a => congrFun g3 a
  have hL1 : ∀ b, LyS X s1 b := fun b => by
    obtain ⟨b1, b2, b3, b4, b5, b6⟩ := hLy b
    exact ⟨(t1 _).trans b1, by rw [g1 _ (by decide) (by decide) (by decide)]; exact b2, by rw [g2]; exact b3, (t1 _).trans b4, by rw [g4]; exact b5, (t1 _).trans b6⟩
  have hN1 : NS G D X s1 := ⟨hK1, hL1, hJ, by rw [g1 _ (by decide) (by decide) (by decide)]; exact hdep⟩
  have e1 : ∀ b LL fr, Eo X D b LL fr σ s1 := fun b LL fr => Eo.of (fun g hg => g1 g (by omega) (by omega) (by omega)) (fun g _ => by rw [g2])
  have hl11 : Ln Tt D X false s1 LL fr := hl1.eo (fun a _ => t1 a) (e1 _ _ _)
  have hl21 : Ln Tt D X true s1 LL' fr' := hl2.eo (fun a _ => t1 a) (e1 _ _ _)
  have hO1 := Ow_of (b := false) hN1 (by decide) hl21
  have hlo1 : Ln (fun a => ¬ ownP X D true LL' fr' a) D X false s1 LL fr := hl11.mo (fun a ha q => by
    rcases q with q | q | ⟨k, hk, q⟩ | ⟨k, i, hk, hi, q⟩ | q
    · exact kne (hl11.lm ha) (hL1 true).T (by decide) q
    · exact kne (hl11.lm ha) (hL1 true).FT (by decide) q
    · exact kne (hl11.lm ha) ((hK1 k hk).plT true) (by decide) q
    · exact kne (hl11.lm ha) ((hK1 k hk).thT true i hi) (by decide) q
    · exact hlj a ha q)
  have hgo1 : zI s1 715 (xpl X false 0) < zI s1 513 (xnd X 0) ∨ zI s1 716 (xpl X false 0) ≠ W := by
    rw [g1 715 (by decide) (by decide) (by decide), g1 513 (by decide) (by decide) (by decide), g1 716 (by decide) (by decide) (by decide)]
    exact hgo
  have hTc1 : Tc D X s1 := hTcA s1 f1
  refine zp_aload_n dX12_layAgain_7 rfl (a := (xob Y)) (List.mem_of_getElem? (i := 0) rfl) ?_
  refine zp_aload_n dX12_layAgain_8 rfl (a := (xob Y)) (List.mem_of_getElem? (i := 0) rfl) ?_
  refine zp_getRv dX12_layAgain_9 fl_X12_41 ((t1 _).trans o1) (b := (xLy X false)) ((congrFun (congrFun g2 _) _).trans o4) ?_
  refine zp_aload_n dX12_layAgain_12 rfl (a := (xob Y)) (List.mem_of_getElem? (i := 0) rfl) ?_
  refine zp_getRv dX12_layAgain_13 fl_X12_25 ((t1 _).trans o1) (b := (xnd X 0)) ((congrFun (congrFun g2 _) _).trans o3) ?_
  refine zp_aload_n dX12_layAgain_16 rfl (a := (xob Y)) (List.mem_of_getElem? (i := 0) rfl) ?_
  refine zp_getIv dX12_layAgain_17 fl_X12_33 ((t1 _).trans o1) (v := W) ((congrFun (g1 _ (by decide) (by decide) (by decide)) _).trans o8) ?_
  refine zp_aload_n dX12_layAgain_20 rfl (a := (xob Y)) (List.mem_of_getElem? (i := 0) rfl) ?_
  refine zp_getIv dX12_layAgain_21 fl_X12_151 ((t1 _).trans o1) (v := (nI T)) ((congrFun (g1 _ (by decide) (by decide) (by decide)) _).trans o9) ?_
  refine zp_callV (c0 := 2) (st := [.ref (xob Y)]) (mc2 := 0) (ms2 := 0) dX12_layAgain_24 (c_X4_layAll l G (fun a => ¬ ownP X D true LL' fr' a) D X false LL fr s1 W (nI T) z0 z0 hD hN1 hO1 hlo1 hI1.2.2.2.1 (hb1.eo (e1 false LL fr)) hW0 hW1 hgo1) cl_X12_55 im_X4_layAll se_X4_layAll rfl rfl (hL1 false).T rfl rfl (by omega) (by omega) (by omega) (Nat.le_of_ble_eq_true rfl) ?_
  rintro _ s2 ⟨w, LL2, fr2, rfl, r2, b2, sd2, f2, e703, e715, e716⟩
  have ht2 : ∀ a, (zT σ a).1 ≠ 0 → zT s2 a = zT σ a := fun a ha => (f2.2.2.2.1 a (by rw [show zT (wI s1 304 (xLy X false) (nI T)) a = zT σ a from t1 a]; exact ha)).trans (t1 a)
  have hN2 := r2.ns
  have e2 : Eo X D true LL' fr' σ s2 := (e1 _ _ _).trans (Eo.fm hN1 (by decide) hl21 f2)
  have i2 : ∀ g, g = 502 ∨ g = 513 ∨ 1000 ≤ g → zI s2 g = zI σ g := fun g hg => (f2.I (by unfold stf; omega)).trans ((show zI (wI s1 304 (xLy X false) (nI T)) g = zI s1 g by funext c; exact rIn (by omega)).trans (g1 g (by omega) (by omega) (by omega)))
  have q2 : ∀ g, stf g → zR s2 g = zR σ g := fun g hg => (f2.R hg).trans (show zR s1 g = zR σ g by rw [g2])
  have a2 : zA s2 = zA s1 := f2.A
  have qq2 : zQ s2 = zQ σ := f2.Q.trans g4
  have hp2 : Pp (xpt Y) (xoa Y) s2 := ⟨(ht2 _ (by rw [o12.1]; decide)).trans o12.1, by rw [q2 _ (by unfold stf; omega)]; exact o12.2.1, (ht2 _ (by rw [o12.2.2]; decide)).trans o12.2.2⟩
  have hT2 : Tc D X s2 := fun k hk ht => by rw [a2]; exact hTc1 k hk ht
  have hsw2 : Sw G s2 := ⟨(ht2 _ (by rw [hI.2.2.2.1.1]; decide)).trans hI.2.2.2.1.1, by rw [a2]; exact hI1.2.2.2.1.2.1, by rw [a2]; exact hI1.2.2.2.1.2.2⟩
  have k1 : zT s2 (xob Y) = (10, 0) := (ht2 _ (by rw [o1]; decide)).trans o1
  have kr : ∀ g, g < 700 ∧ 500 ≤ g ∨ 1000 ≤ g → ∀ x y, zR (wI (wI s2 1009 (xob Y) x) 1008 (xob Y) y) g = zR σ g := fun g hg x y => q2 g (by unfold stf; omega)
  refine zp_putI dX12_layAgain_27 fl_X12_59 k1 ?_
  refine zp_aload_n dX12_layAgain_30 rfl (a := (xob Y)) (List.mem_of_getElem? (i := 0) rfl) ?_
  refine zp_dup dX12_layAgain_31 rfl ?_
  refine zp_getIv dX12_layAgain_32 fl_X12_62 (tI k1) (v := (zI s2 1008 (xob Y))) (rIn (by decide)) ?_
  refine zp_aload_n dX12_layAgain_35 rfl (a := (xob Y)) (List.mem_of_getElem? (i := 0) rfl) ?_
  refine zp_getIv dX12_layAgain_36 fl_X12_59 (tI k1) (v := w) rIe ?_
  refine zp_iadd dX12_layAgain_39 ?_
  refine zp_topi (fun v3 hv3 => ?_)
  refine zp_putI dX12_layAgain_40 fl_X12_62 (tI k1) ?_
  have hN3 : NS G D X (wI (wI s2 1009 (xob Y) w) 1008 (xob Y) v3) := NS.hi (by decide) (NS.hi (by decide) hN2)
  refine zp_aload_n dX12_layAgain_43 rfl (a := (xob Y)) (List.mem_of_getElem? (i := 0) rfl) ?_
  refine zp_getRv dX12_layAgain_44 fl_X12_51 (tI (tI k1)) (b := (xpt Y)) (rRI.trans (rRI.trans ((congrFun (q2 _ (by unfold stf; omega)) _).trans o6))) ?_
  refine zp_aload_n dX12_layAgain_47 rfl (a := (xob Y)) (List.mem_of_getElem? (i := 0) rfl) ?_
  refine zp_getRv dX12_layAgain_48 fl_X12_25 (tI (tI k1)) (b := (xnd X 0)) (rRI.trans (rRI.trans ((congrFun (q2 _ (by unfold stf; omega)) _).trans o3))) ?_
  refine zp_callV (c0 := 5) (st := []) (mc2 := 0) (ms2 := 0) dX12_layAgain_51 (c_X8_arrange l G D X (xpt Y) (xoa Y) _ hD hN3 hp2 hT2 hsw2) cl_X12_65 im_X8_arrange se_X8_arrange rfl rfl (tI (tI hp2.1)) rfl rfl (by omega) (by omega) (by omega) (Nat.le_of_ble_eq_true rfl) ?_
  rintro _ s4 ⟨rfl, p1, p2⟩
  have t4 : ∀ a, (zT σ a).1 ≠ 0 → zT s4 a = zT σ a := fun a ha => p1.T.trans (ht2 a ha)
  have t42 : ∀ a, (zT s2 a).1 ≠ 0 → zT s4 a = zT s2 a := fun a _ => p1.T
  have hN4 : NS G D X s4 := hN3.pf p1 hp2.2.2
  have i4 : ∀ g, g = 502 ∨ g = 513 ∨ (1000 ≤ g ∧ g < 1008) → zI s4 g = zI σ g := fun g hg => (p1.2.2.2.1 g (by omega)).trans ((show zI (wI (wI s2 1009 (xob Y) w) 1008 (xob Y) v3) g = zI s2 g by funext c; rw [rIn (by omega), rIn (by omega)]).trans (i2 g (by omega)))
  have j4 : ∀ g, g < 1000 → g ≠ 601 → zI s4 g = zI s2 g := fun g hg h6 => (p1.2.2.2.1 g h6).trans (by funext c; show zI (wI (wI s2 1009 (xob Y) w) 1008 (xob Y) v3) g c = zI s2 g c; rw [rIn (by omega), rIn (by omega)])
  have r4 : zR s4 = zR s2 := p1.2.1
  have e4 : ∀ b LL fr, (∀ a, ownP X D b LL fr a → a ≠ xob Y) → Eo X D b LL fr s2 s4 := fun b LL fr hne a ha g hg => by
    refine ⟨(congrFun (p1.2.2.2.1 g (by omega)) a).trans ?_, by rw [r4]⟩
    show zI (wI (wI s2 1009 (xob Y) w) 1008 (xob Y) v3) g a = zI s2 g a
    rw [rIb (hne a ha), rIb (hne a ha)]
  have hl22 : Ln Tt D X true s2 LL' fr' := hl2.eo ht2 e2
  have n1 : ∀ a, ownP X D false LL2 fr2 a → a ≠ xob Y := fun a ha q => by have := own_T hN2 r2.2.1 ha; rw [q, k1] at this; omega
  have n2 : ∀ a, ownP X D true LL' fr' a → a ≠ xob Y := fun a ha q => by have := own_T hN2 hl22 ha; rw [q, k1] at this; omega
  have a4 : zA s4 = zA s1 := p1.2.2.1.trans a2
  have hsw4 : Sw G s4 := ⟨p1.T.trans hsw2.1, by rw [a4]; exact hI1.2.2.2.1.2.1, by rw [a4]; exact hI1.2.2.2.1.2.2⟩
  have hS4 : ∀ k, k < dn D → Sy D X Y s4 k := fun k hk => by
    obtain ⟨y1, y2, y3⟩ := hI1.2.2.1 k hk
    refine ⟨?_, ?_, by rw [a4]; exact y3⟩
    · rw [r4, q2 504 (by unfold stf; omega)]; exact (hI.2.2.1 k hk).1
    · exact (t4 _ (by rw [(hI.2.2.1 k hk).2.1]; decide)).trans (hI.2.2.1 k hk).2.1
  have hB4 : OB D X Y W T s4 := hB.to (fun _ _ => List.not_mem_nil) t4 (fun g hg => i4 g (by omega)) (fun g hg => by rw [r4]; exact q2 g (by unfold stf; omega)) (by rw [p1.2.2.2.2 _ o13]; exact congrFun qq2 _) (fun k hk ht => by rw [a4]; exact hTc1 k hk ht)
  have hRz : Rz G D X Y W T LL2 fr2 LL' fr' s4 := by
    refine ⟨⟨hB4, AI.of hD hN4 hS4 hsw4, hN4.l, hJ, hN4.dep, (r2.2.1.eo t42 (e4 _ _ _ n1)).mo (fun _ _ => trivial), (hl22.eo t42 (e4 _ _ _ n2)), fun a ha q => r2.2.1.lo ha (Or.inr (Or.inr (Or.inr (Or.inr q)))), b2.eo (e4 _ _ _ n1), (hb2.eo e2).eo (e4 _ _ _ n2), by rw [i4 513 (by omega)]; exact hca⟩, hN4, r2.eo hN4 t42 (e4 _ _ _ n1), fun k hk ht => ?_, ?_, p2, ?_, ?_⟩
    · have := sd2 k hk ht
      unfold Sd at this ⊢
      rw [j4 705 (by decide) (by decide), j4 706 (by decide) (by decide)]
      exact this
    · rw [j4 703 (by decide) (by decide)]; exact e703
    · rw [j4 715 (by decide) (by decide)]; exact e715
    · rw [j4 716 (by decide) (by decide)]; exact e716
  have hFo : Fo X Y (dn D) σ s4 := ⟨t4, fun a _ hn => by rw [a4]; exact g5 a (fun k hk _ => hn 0 k (by decide) hk)⟩
  refine zp_vret rfl dX12_layAgain_54 ?_
  exact ⟨rfl, ⟨LL2, fr2, hRz⟩, hFo⟩

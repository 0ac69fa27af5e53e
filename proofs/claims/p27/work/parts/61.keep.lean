/-! WHAT THE LAW WRITES INTO ITS OWN ROWS, THE CLASS DOESN'T SEE (by wip/p27/gen_keep.py) -/
def aaS (σ : Sto) (A : Nat → Nat → Int32) : Sto := (σ.1, σ.2.1, σ.2.2.1, A, σ.2.2.2.2)
theorem aaS_of {σ s : Sto} (h1 : s.1 = σ.1) (hI : zI s = zI σ) (hR : zR s = zR σ) (hQ : zQ s = zQ σ) : s = aaS σ (zA s) := by
  obtain ⟨a1, a2, a3, a4, a5⟩ := s
  have k1 : a1 = σ.1 := h1
  have k2 : a2 = σ.2.1 := hI
  have k3 : a3 = σ.2.2.1 := hR
  have k4 : a5 = σ.2.2.2.2 := hQ
  show (a1, a2, a3, a4, a5) = (σ.1, σ.2.1, σ.2.2.1, a4, σ.2.2.2.2)
  rw [k1, k2, k3, k4]
theorem NK.aa {G : Gb} {D : Dt} {X : Cx} {σ : Sto} {k : Nat} {A : Nat → Nat → Int32} (h : NK G D X σ k) (e1 : A (xcn X k) = zA σ (xcn X k)) (e2 : A (xle X k) = zA σ (xle X k)) (e3 : A (xcu X k) = zA σ (xcu X k)) : NK G D X (aaS σ A) k := by
  obtain ⟨a1, a2, a3, a4, a5, a6, a7, a8, a9, a10, a11, a12, a13, a14, a15, a16, a17, a18, a19, a20⟩ := h
  exact ⟨a1, a2, a3, a4, a5, fun ht s hs => (congrFun e1 s).trans (a6 ht s hs), a7, a8, a9, a10, a11, a12, a13, a14, a15, fun i hi => (congrFun e2 i).trans (a16 i hi), a17, a18, fun i hi => (congrFun e3 i).trans (a19 i hi), a20⟩
theorem NKp.aa {G : Gb} {D : Dt} {X : Cx} {σ : Sto} {k : Nat} {A : Nat → Nat → Int32} (h : NKp G D X σ k) (e2 : A (xle X k) = zA σ (xle X k)) (e3 : A (xcu X k) = zA σ (xcu X k)) : NKp G D X (aaS σ A) k := by
  obtain ⟨a1, a2, a3, a4, a5, a6, a7, a8, a9, a10, a11, a12, a13, a14, a15, a16, a17, a18⟩ := h
  exact ⟨a1, a2, a3, a4, a5, a6, a7, a8, a9, a10, a11, a12, a13, fun i hi => (congrFun e2 i).trans (a14 i hi), a15, a16, fun i hi => (congrFun e3 i).trans (a17 i hi), a18⟩
theorem Rz.aa {G D X Y W T LL fr LL' fr'} {σ : Sto} {A : Nat → Nat → Int32} (h : Rz G D X Y W T LL fr LL' fr' σ) (hA : ∀ t k, t < 4 → k < dn D → A (arX X Y t k) = zA σ (arX X Y t k)) (hsw : A G.2.2.2.1 = zA σ G.2.2.2.1) : Rz G D X Y W T LL fr LL' fr' (aaS σ A) := by
  obtain ⟨⟨hB, ⟨i1, i2, i3, i4, i5⟩, hLy, hJ, hdep, hl1, hl2, hlj, hb1, hb2, hca⟩, hN, hr, hsd, e703, e601, e715, e716⟩ := h
  have eo : ∀ b LL fr, Eo X D b LL fr σ (aaS σ A) := fun b LL fr a ha g hg => ⟨rfl, rfl⟩
  have hT : ∀ a, (zT σ a).1 ≠ 0 → zT (aaS σ A) a = zT σ a := fun _ _ => rfl
  have hN2 : NS G D X (aaS σ A) := ⟨fun k hk => (hN.1 k hk).aa (hA 0 k (by decide) hk) (hA 2 k (by decide) hk) (hA 3 k (by decide) hk), hN.2.1, hN.2.2.1, hN.2.2.2⟩
  obtain ⟨o1, o2, o3, o4, o5, o6, o7, o8, o9, o10, o11, o12, o13, o14, o15, o16, o17⟩ := hB
  refine ⟨⟨⟨o1, o2, o3, o4, o5, o6, o7, o8, o9, o10, o11, o12, o13, o14, o15, fun k hk ht => (congrFun (hA 0 k (by decide) hk) 3).trans (o16 k hk ht), o17⟩, ⟨fun k hk => (i1 k hk).aa (hA 2 k (by decide) hk) (hA 3 k (by decide) hk), fun k hk ht => (congrFun (hA 0 k (by decide) hk) 17).trans (i2 k hk ht), fun k hk => ⟨(i3 k hk).1, (i3 k hk).2.1, fun ht s hs => (congrFun (hA 1 k (by decide) hk) s).trans ((i3 k hk).2.2 ht s hs)⟩, ⟨i4.1, (congrFun hsw 7).trans i4.2.1, (congrFun hsw 0).trans i4.2.2⟩, i5⟩, hLy, hJ, hdep, hl1.eo hT (eo _ _ _), hl2.eo hT (eo _ _ _), hlj, hb1.eo (eo false LL fr), hb2.eo (eo true LL' fr'), hca⟩, hN2, hr.eo hN2 hT (eo _ _ _), hsd, e703, e601, e715, e716⟩
theorem Rz.sw {G D X Y W T LL fr LL' fr'} {σ : Sto} (h : Rz G D X Y W T LL fr LL' fr' σ) : zT σ G.2.2.2.1 = (25, 9) := h.1.2.1.2.2.2.1.1
/-- apart from the class's rows, and not the switch's map -/
theorem Rz.keep {G D X Y W T LL fr LL' fr'} {σ s : Sto} {L : Lw} (h : Rz G D X Y W T LL fr LL' fr' σ) (hT : LT L σ) (ha : Ap X Y (dn D) L) (h1 : s.1 = σ.1) (hI : zI s = zI σ) (hR : zR s = zR σ) (hQ : zQ s = zQ σ) (hA : ∀ c, (∀ i, i < 9 → c ≠ arL L i) → zA s c = zA σ c) : Rz G D X Y W T LL fr LL' fr' s := by
  rw [aaS_of h1 hI hR hQ]
  refine h.aa (fun t k ht hk => hA _ (fun i hi q => ha i hi t k ht hk q.symm)) (hA _ (fun i hi q => ?_))
  have e := h.sw
  rw [q, hT i hi] at e
  have e := congrArg Prod.fst e
  exact absurd e (by decide : (20 : Nat) ≠ 25)
theorem Rz.lf {G D X Y W T LL fr LL' fr'} {σ s : Sto} {L : Lw} (h : Rz G D X Y W T LL fr LL' fr' σ) (hT : LT L σ) (ha : Ap X Y (dn D) L) (f : LF L σ s) : Rz G D X Y W T LL fr LL' fr' s :=
  h.keep hT ha f.1 f.2.1 f.2.2.1 f.2.2.2.1 (fun c hc => f.2.2.2.2.1 c (hc 5 (by decide)) (hc 6 (by decide)) (hc 7 (by decide)) (hc 8 (by decide)))
theorem Rz.wL {G D X Y W T LL fr LL' fr'} {σ : Sto} {L : Lw} {c j : Nat} {x : Int32} (h : Rz G D X Y W T LL fr LL' fr' σ) (hT : LT L σ) (ha : Ap X Y (dn D) L) (i : Nat) (hi : i < 9) (hc : c = arL L i) : Rz G D X Y W T LL fr LL' fr' (wA σ c j x) :=
  h.keep hT ha rfl rfl rfl rfl (fun d hd => by funext z; exact rAb (fun q => hd i hi (q.trans hc)))
theorem LT.w {L : Lw} {σ : Sto} {c j : Nat} {x : Int32} (h : LT L σ) : LT L (wA σ c j x) := h
theorem wA_same {σ : Sto} {a i : Nat} {x : Int32} (h : zA σ a i = x) : wA σ a i x = σ := by
  have e : (fun a' i' => if a' = a ∧ i' = i then x else σ.2.2.2.1 a' i') = σ.2.2.2.1 := by
    funext a' i'
    by_cases q : a' = a ∧ i' = i
    · rw [if_pos q, q.1, q.2]; exact h.symm
    · rw [if_neg q]
  show (σ.1, σ.2.1, σ.2.2.1, (fun a' i' => if a' = a ∧ i' = i then x else σ.2.2.2.1 a' i'), σ.2.2.2.2) = σ
  rw [e]
/-- the trees of styles -/
theorem sst_e {D : Dt} {k t : Nat} {v : Int32} : sst D k t v k t = v := if_pos ⟨rfl, rfl⟩
theorem sst_o {D : Dt} {k t j u : Nat} {v : Int32} (h : j ≠ k ∨ u ≠ t) : sst D k t v j u = dst D j u := if_neg (fun q => h.elim (fun z => z q.1) (fun z => z q.2))
abbrev stD (D : Dt) (k t : Nat) (v : Int32) : Dt := mkD D (dwc D) (dln D) (sst D k t v)
def sb (t : Nat) (v : Int32) : Prop := if t = 4 then (-1 ≤ v.toInt ∧ v.toInt ≤ 60) ∨ (1000 ≤ v.toInt ∧ v.toInt ≤ 1100) else if t = 5 then (-1 ≤ v.toInt ∧ v.toInt ≤ 20) ∨ (1000 ≤ v.toInt ∧ v.toInt ≤ 1100) else if t < 10 then -15 ≤ v.toInt ∧ v.toInt ≤ 30 else 0 ≤ v.toInt ∧ v.toInt ≤ 8
theorem sb_4 {v : Int32} (h : sb 4 v) : (-1 ≤ v.toInt ∧ v.toInt ≤ 60) ∨ (1000 ≤ v.toInt ∧ v.toInt ≤ 1100) := h
theorem sb_5 {v : Int32} (h : sb 5 v) : (-1 ≤ v.toInt ∧ v.toInt ≤ 20) ∨ (1000 ≤ v.toInt ∧ v.toInt ≤ 1100) := h
theorem sb_6 {t : Nat} {v : Int32} (h6 : 6 ≤ t) (h9 : t ≤ 9) (h : sb t v) : -15 ≤ v.toInt ∧ v.toInt ≤ 30 := by
  unfold sb at h
  rw [if_neg (by omega), if_neg (by omega), if_pos (by omega)] at h
  exact h
theorem sb_10 {t : Nat} {v : Int32} (h10 : 10 ≤ t) (h : sb t v) : 0 ≤ v.toInt ∧ v.toInt ≤ 8 := by
  unfold sb at h
  rw [if_neg (by omega), if_neg (by omega), if_neg (by omega)] at h
  exact h
theorem sb_okv {t : Nat} {v : Int32} (h4 : 4 ≤ t) (h : sb t v) : okv t v := by
  have c : ∀ {a b : Int32}, a.toInt ≤ b.toInt → a ≤ b := fun q => Int32.le_iff_toInt_le.mpr q
  unfold okv
  by_cases z4 : t = 4
  · subst z4
    rw [if_pos rfl]
    rcases sb_4 h with ⟨q1, q2⟩ | ⟨q1, q2⟩
    · exact Or.inl ⟨c (by rw [show (-4 : Int32).toInt = -4 from rfl]; omega), c (by rw [show (200 : Int32).toInt = 200 from rfl]; omega)⟩
    · exact Or.inr ⟨c (by rw [show (1000 : Int32).toInt = 1000 from rfl]; omega), c (by rw [show (1100 : Int32).toInt = 1100 from rfl]; omega)⟩
  · rw [if_neg z4]
    by_cases z5 : t = 5
    · subst z5
      rw [if_pos rfl]
      rcases sb_5 h with ⟨q1, q2⟩ | ⟨q1, q2⟩
      · exact Or.inl ⟨c (by rw [show (-1 : Int32).toInt = -1 from rfl]; omega), c (by rw [show (200 : Int32).toInt = 200 from rfl]; omega)⟩
      · exact Or.inr ⟨c (by rw [show (1000 : Int32).toInt = 1000 from rfl]; omega), c (by rw [show (1100 : Int32).toInt = 1100 from rfl]; omega)⟩
    · rw [if_neg z5]
      by_cases z9 : t < 10
      · rw [if_pos z9]
        obtain ⟨q1, q2⟩ := sb_6 (by omega) (by omega) h
        exact ⟨c (by rw [show (-40 : Int32).toInt = -40 from rfl]; omega), c (by rw [show (40 : Int32).toInt = 40 from rfl]; omega)⟩
      · rw [if_neg z9]
        obtain ⟨q1, q2⟩ := sb_10 (by omega) h
        exact ⟨c (by rw [show (0 : Int32).toInt = 0 from rfl]; omega), c (by rw [show (20 : Int32).toInt = 20 from rfl]; omega)⟩
theorem DW.st {D : Dt} {k t : Nat} {v : Int32} (hD : DW D) (h4 : 4 ≤ t) (h13 : t ≤ 13) (h : sb t v) : DW (stD D k t v) := by
  obtain ⟨d1, d2, d3, d4, d5, d6, d7, d8, d9, d10, d11, d12⟩ := hD
  refine ⟨d1, d2, d3, d4, d5, d6, d7, d8, fun j => ⟨?_, ?_⟩, fun j u h6 h9 => ?_, fun j u h10 h13' => ?_, fun j => ?_⟩
  · by_cases z : j = k ∧ 4 = t
    · obtain ⟨rfl, rfl⟩ := z
      rw [show dst (stD D j 4 v) j 4 = v from sst_e]; exact sb_4 h
    · rw [show dst (stD D k t v) j 4 = dst D j 4 from if_neg z]; exact (d9 j).1
  · by_cases z : j = k ∧ 5 = t
    · obtain ⟨rfl, rfl⟩ := z
      rw [show dst (stD D j 5 v) j 5 = v from sst_e]; exact sb_5 h
    · rw [show dst (stD D k t v) j 5 = dst D j 5 from if_neg z]; exact (d9 j).2
  · by_cases z : j = k ∧ u = t
    · obtain ⟨rfl, rfl⟩ := z
      rw [show dst (stD D j u v) j u = v from sst_e]; exact sb_6 h6 h9 h
    · rw [show dst (stD D k t v) j u = dst D j u from if_neg z]; exact d10 j u h6 h9
  · by_cases z : j = k ∧ u = t
    · obtain ⟨rfl, rfl⟩ := z
      rw [show dst (stD D j u v) j u = v from sst_e]; exact sb_10 h10 h
    · rw [show dst (stD D k t v) j u = dst D j u from if_neg z]; exact d11 j u h10 h13'
  · have e : ∀ u, u < 4 ∨ 13 < u → dst (stD D k t v) j u = dst D j u := fun u hu => sst_o (Or.inr (by omega))
    rw [e 0 (by decide), e 1 (by decide), e 2 (by decide), e 3 (by decide), e 14 (by decide), e 15 (by decide), e 16 (by decide), e 17 (by decide), e 18 (by decide), e 19 (by decide), e 20 (by decide)]
    exact d12 j
theorem LI.st4 {D W} {L : Lw} {σ : Sto} {k : Nat} {v : Int32} (h : LI D W L σ) (hd : LD L) (hn : dn D ≤ 12) (hk : k < dn D) : LI (stD D k 4 v) W L (wA σ (lwg L) k v) := by
  have n : ∀ i, i < 9 → i ≠ 3 → arL L i ≠ lwg L := fun i hi h3 => hd.ne i 3 hi (by decide) h3
  refine ⟨fun j hj => ?_, (rAb (n 7 (by decide) (by decide))).trans h.2.1, (rAb (n 7 (by decide) (by decide))).trans h.2.2⟩
  have hj : j < dn D := hj
  obtain ⟨b1, b2, b3, b4, b5, b6, b7, b8⟩ := h.1 j hj
  refine ⟨(rAb (n 0 (by decide) (by decide))).trans b1, (rAb (n 0 (by decide) (by decide))).trans b2, (rAb (n 0 (by decide) (by decide))).trans b3, fun q => (rAb (n 0 (by decide) (by decide))).trans (b4 q), ?_, ?_, fun i hi => ⟨?_, ?_⟩, fun i hi => (rAb (n 4 (by decide) (by decide))).trans (b8 i hi)⟩
  · show _ = sst D k 4 v j 4
    by_cases z : j = k
    · subst z; rw [rAe, sst_e]
    · rw [rAn z, sst_o (Or.inl z)]; exact b5
  · show _ = sst D k 4 v j 5
    rw [rAn (by omega), sst_o (Or.inr (by decide))]; exact b6
  · show _ = sst D k 4 v j (6 + i)
    rw [sst_o (Or.inr (by omega))]; exact (rAb (n 1 (by decide) (by decide))).trans (b7 i hi).1
  · show _ = sst D k 4 v j (10 + i)
    rw [sst_o (Or.inr (by omega))]; exact (rAb (n 2 (by decide) (by decide))).trans (b7 i hi).2
theorem LI.st5 {D W} {L : Lw} {σ : Sto} {k : Nat} {v : Int32} (h : LI D W L σ) (hd : LD L) (hn : dn D ≤ 12) (hk : k < dn D) : LI (stD D k 5 v) W L (wA σ (lwg L) (16 + k) v) := by
  have n : ∀ i, i < 9 → i ≠ 3 → arL L i ≠ lwg L := fun i hi h3 => hd.ne i 3 hi (by decide) h3
  refine ⟨fun j hj => ?_, (rAb (n 7 (by decide) (by decide))).trans h.2.1, (rAb (n 7 (by decide) (by decide))).trans h.2.2⟩
  have hj : j < dn D := hj
  obtain ⟨b1, b2, b3, b4, b5, b6, b7, b8⟩ := h.1 j hj
  refine ⟨(rAb (n 0 (by decide) (by decide))).trans b1, (rAb (n 0 (by decide) (by decide))).trans b2, (rAb (n 0 (by decide) (by decide))).trans b3, fun q => (rAb (n 0 (by decide) (by decide))).trans (b4 q), ?_, ?_, fun i hi => ⟨?_, ?_⟩, fun i hi => (rAb (n 4 (by decide) (by decide))).trans (b8 i hi)⟩
  · show _ = sst D k 5 v j 4
    rw [rAn (by omega), sst_o (Or.inr (by decide))]; exact b5
  · show _ = sst D k 5 v j 5
    by_cases z : j = k
    · subst z; rw [rAe, sst_e]
    · rw [rAn (by omega), sst_o (Or.inl z)]; exact b6
  · show _ = sst D k 5 v j (6 + i)
    rw [sst_o (Or.inr (by omega))]; exact (rAb (n 1 (by decide) (by decide))).trans (b7 i hi).1
  · show _ = sst D k 5 v j (10 + i)
    rw [sst_o (Or.inr (by omega))]; exact (rAb (n 2 (by decide) (by decide))).trans (b7 i hi).2
theorem LI.stm {D W} {L : Lw} {σ : Sto} {k u : Nat} {v : Int32} (h : LI D W L σ) (hd : LD L) (hn : dn D ≤ 12) (hk : k < dn D) (hu : u < 4) : LI (stD D k (6 + u) v) W L (wA σ (lwm L) (4 * k + u) v) := by
  have n : ∀ i, i < 9 → i ≠ 1 → arL L i ≠ lwm L := fun i hi h3 => hd.ne i 1 hi (by decide) h3
  refine ⟨fun j hj => ?_, (rAb (n 7 (by decide) (by decide))).trans h.2.1, (rAb (n 7 (by decide) (by decide))).trans h.2.2⟩
  have hj : j < dn D := hj
  obtain ⟨b1, b2, b3, b4, b5, b6, b7, b8⟩ := h.1 j hj
  refine ⟨(rAb (n 0 (by decide) (by decide))).trans b1, (rAb (n 0 (by decide) (by decide))).trans b2, (rAb (n 0 (by decide) (by decide))).trans b3, fun q => (rAb (n 0 (by decide) (by decide))).trans (b4 q), ?_, ?_, fun i hi => ⟨?_, ?_⟩, fun i hi => (rAb (n 4 (by decide) (by decide))).trans (b8 i hi)⟩
  · show _ = sst D k (6 + u) v j 4
    rw [sst_o (Or.inr (by omega))]; exact (rAb (n 3 (by decide) (by decide))).trans b5
  · show _ = sst D k (6 + u) v j 5
    rw [sst_o (Or.inr (by omega))]; exact (rAb (n 3 (by decide) (by decide))).trans b6
  · show _ = sst D k (6 + u) v j (6 + i)
    by_cases z : j = k ∧ i = u
    · obtain ⟨rfl, rfl⟩ := z; rw [rAe, sst_e]
    · rw [rAn (by omega), sst_o (by omega)]; exact (b7 i hi).1
  · show _ = sst D k (6 + u) v j (10 + i)
    rw [sst_o (Or.inr (by omega))]; exact (rAb (n 2 (by decide) (by decide))).trans (b7 i hi).2
theorem LI.ste {D W} {L : Lw} {σ : Sto} {k u : Nat} {v : Int32} (h : LI D W L σ) (hd : LD L) (hn : dn D ≤ 12) (hk : k < dn D) (hu : u < 4) : LI (stD D k (10 + u) v) W L (wA σ (lwe L) (4 * k + u) v) := by
  have n : ∀ i, i < 9 → i ≠ 2 → arL L i ≠ lwe L := fun i hi h3 => hd.ne i 2 hi (by decide) h3
  refine ⟨fun j hj => ?_, (rAb (n 7 (by decide) (by decide))).trans h.2.1, (rAb (n 7 (by decide) (by decide))).trans h.2.2⟩
  have hj : j < dn D := hj
  obtain ⟨b1, b2, b3, b4, b5, b6, b7, b8⟩ := h.1 j hj
  refine ⟨(rAb (n 0 (by decide) (by decide))).trans b1, (rAb (n 0 (by decide) (by decide))).trans b2, (rAb (n 0 (by decide) (by decide))).trans b3, fun q => (rAb (n 0 (by decide) (by decide))).trans (b4 q), ?_, ?_, fun i hi => ⟨?_, ?_⟩, fun i hi => (rAb (n 4 (by decide) (by decide))).trans (b8 i hi)⟩
  · show _ = sst D k (10 + u) v j 4
    rw [sst_o (Or.inr (by omega))]; exact (rAb (n 3 (by decide) (by decide))).trans b5
  · show _ = sst D k (10 + u) v j 5
    rw [sst_o (Or.inr (by omega))]; exact (rAb (n 3 (by decide) (by decide))).trans b6
  · show _ = sst D k (10 + u) v j (6 + i)
    rw [sst_o (Or.inr (by omega))]; exact (rAb (n 1 (by decide) (by decide))).trans (b7 i hi).1
  · show _ = sst D k (10 + u) v j (10 + i)
    by_cases z : j = k ∧ i = u
    · obtain ⟨rfl, rfl⟩ := z; rw [rAe, sst_e]
    · rw [rAn (by omega), sst_o (by omega)]; exact (b7 i hi).2
/-- the margins and edges of nodes to come -/
def TZ (n : Nat) (L : Lw) (σ : Sto) : Prop := ∀ j i, n ≤ j → j < 12 → i < 4 → zA σ (lwm L) (4 * j + i) = 0 ∧ zA σ (lwe L) (4 * j + i) = 0
theorem TZ.keep {n : Nat} {L : Lw} {σ s : Sto} (h : TZ n L σ) (hA : ∀ i, i < 9 → zA s (arL L i) = zA σ (arL L i)) : TZ n L s := fun j i hj h12 hi => by
  rw [show zA s (lwm L) = zA σ (lwm L) from hA 1 (by decide), show zA s (lwe L) = zA σ (lwe L) from hA 2 (by decide)]
  exact h j i hj h12 hi
theorem TZ.w {n : Nat} {L : Lw} {σ : Sto} {c x : Nat} {v : Int32} (h : TZ n L σ) (hm : c = lwm L → x < 4 * n) (he : c = lwe L → x < 4 * n) : TZ n L (wA σ c x v) := fun j i hj h12 hi => by
  refine ⟨?_, ?_⟩
  · by_cases q : lwm L = c
    · rw [rAn (by have := hm q.symm; omega)]; exact (h j i hj h12 hi).1
    · rw [rAb q]; exact (h j i hj h12 hi).1
  · by_cases q : lwe L = c
    · rw [rAn (by have := he q.symm; omega)]; exact (h j i hj h12 hi).2
    · rw [rAb q]; exact (h j i hj h12 hi).2
theorem TZ.mono {n m : Nat} {L : Lw} {σ : Sto} (h : TZ n L σ) (hm : n ≤ m) : TZ m L σ := fun j i hj h12 hi => h j i (by omega) h12 hi
/-- what stands ahead of a turn's laying out -/
def TI (G : Gb) (D : Dt) (X : Cx) (Y : Cy) (W : Int32) (T : Nat) (LL : Nat → List Nat) (fr : List Nat) (LL' : Nat → List Nat) (fr' : List Nat) (L : Lw) (σ : Sto) : Prop :=
  DW D ∧ (1 ≤ W.toInt ∧ W.toInt ≤ 300) ∧ LT L σ ∧ LD L ∧ LI D W L σ ∧ Ap X Y (dn D) L ∧ Rz G D X Y W T LL fr LL' fr' σ ∧ (∀ u, u < 4 → dst D 0 (10 + u) = 0) ∧ zA σ (lwq L) 7 = nI (Uw D (fun _ => false) (dn D)) ∧ Uw D (fun _ => false) (dn D) ≤ 20 ∧ TZ (dn D) L σ
theorem TI.st {G D X Y W T T2 LL fr LL' fr' LL2 fr2} {L : Lw} {σ s t : Sto} {k i : Nat} {v : Int32} (h : TI G D X Y W T LL fr LL' fr' L σ) (hk0 : 0 < k) (h4 : 4 ≤ i) (h13 : i ≤ 13) (hv : sb i v) (hLI : LI (stD D k i v) W L s) (hT : LT L s) (hq : zA s (lwq L) 7 = zA σ (lwq L) 7) (hZ : TZ (dn D) L s) (hz : Rz G (stD D k i v) X Y W T2 LL2 fr2 LL' fr' t) (f : Fo X Y (dn D) s t) : TI G (stD D k i v) X Y W T2 LL2 fr2 LL' fr' L t := by
  obtain ⟨a1, a2, a3, a4, a5, a6, a7, a8, a9, a10, a11⟩ := h
  have a6' : Ap X Y (dn (stD D k i v)) L := a6
  have hr := a6.rows hT f
  refine ⟨a1.st h4 h13 hv, a2, hT.fo f, a4, hLI.keep hr, a6', hz, fun u hu => ?_, ?_, a10, hZ.keep hr⟩
  · exact (sst_o (Or.inl (by omega))).trans (a8 u hu)
  · rw [show zA t (lwq L) = zA s (lwq L) from hr 7 (by decide), hq]; exact a9

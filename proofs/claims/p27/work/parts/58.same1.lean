/-! WHAT THE LAW'S ROWS HOLD BEHIND A LAYING OUT (by wip/p27/gen_same1.py) -/
def LsB (D : Dt) (S : FS) : Prop := ∀ e, e ∈ sls S → e.1 < dn D
theorem LsB.to {D : Dt} {S S' : FS} (h : LsB D S) (e : sls S' = sls S) : LsB D S' := fun x hx => h x (by rw [← e]; exact hx)
theorem LsB.shut {D : Dt} {box : Nat} {S : FS} {r : Int32 × Int32 × Int32} (hb : box < dn D) (h : LsB D S) : LsB D (shutP box (S, r)) := fun x hx => by
  have hx : x ∈ sls S ++ [(box, sy S, r.1)] := hx
  rcases List.mem_append.mp hx with q | q
  · exact h x q
  · rw [List.mem_singleton.mp q]; exact hb
theorem LsB.brk {D : Dt} {box : Nat} {len : Int32} {Y : RS} (hb : box < dn D) (h : LsB D Y.1) : LsB D (brkP D box len Y).1 := by
  obtain ⟨S, r⟩ := Y
  unfold brkP
  split
  · exact LsB.shut hb h
  · exact h
theorem LsB.word {D : Dt} {box c i : Nat} {Y : RS} (hb : box < dn D) (h : LsB D Y.1) : LsB D (wordP D box c i Y).1 := by
  rw [wordP_eq]
  have h1 := h.brk (len := dln D c i) hb
  by_cases z : i = 0
  · show LsB D (if i = 0 then _ else _)
    rw [if_pos z]; exact h1
  · show LsB D (if i = 0 then _ else _)
    rw [if_neg z]; exact h1
theorem LsB.words {D : Dt} {box c : Nat} {Y : RS} (hb : box < dn D) (h : LsB D Y.1) : ∀ i, LsB D (wordsP D box c i Y).1
  | 0 => h
  | i + 1 => (LsB.words hb h i).word hb
theorem LsB.run {D : Dt} {box : Nat} (hb : box < dn D) : ∀ (r : List Nat) {Y : RS}, LsB D Y.1 → LsB D (runT D box r Y).1
  | [], _, h => h
  | c :: r, Y, h => LsB.run hb r (Y := textP D box c Y) (LsB.words (c := c) hb h (dwc D c))
theorem visL_sls : ∀ (r : List Nat) {S : FS}, sls (visL r S) = sls S
  | [], _ => rfl
  | x :: r, S => (visL_sls r (S := visP x S)).trans rfl
theorem LsB.runP {D : Dt} {box : Nat} {r : List Nat} {S : FS} (hb : box < dn D) (h : LsB D S) : LsB D (runP D box r S) := by
  show LsB D (if runW D r = 0 then visL r S else shutP box (runT D box r (endP S, 0, 0, 0)))
  by_cases z : runW D r = 0
  · rw [if_pos z]; exact h.to (visL_sls r)
  · rw [if_neg z]; exact LsB.shut hb (LsB.run hb r (Y := (endP S, 0, 0, 0)) h)
theorem LsB.flow {D : Dt} : ∀ (f k at_ : Nat) (S : FS), k < dn D → LsB D S → LsB D (flowP D f k at_ S) := by
  intro f
  induction f with
  | zero => intro k at_ S hk h; exact h
  | succ f ih =>
    intro k at_ S hk h
    cases hx : nx D k at_ with
    | none => rw [flowP_none hx]; exact h
    | some c =>
    obtain ⟨hac, hcn, hcp⟩ := nx_up hx
    by_cases htx : dtx D c = true
    · rw [flowP_text hx htx]
      exact ih k _ _ hk (h.runP hk)
    · have htx : dtx D c = false := by cases e : dtx D c; rfl; exact absurd e htx
      rw [flowP_box hx htx]
      exact ih k c _ hk ((ih c c (begP c (enterP D c S)) hcn (h.to enter_sls)).to leave_sls)
theorem ls_bd {D : Dt} {W : Int32} (hD : DW D) : ∀ e, e ∈ sls (LSt D W) → e.1 < dn D := LsB.flow (dn D) 0 0 (begP 0 (S0 W z0 z0)) hD.1 (fun e he => absurd he List.not_mem_nil)
theorem root_w {D : Dt} {W : Int32} (hD : DW D) : sa (LSt D W) (32 + 0) = W := by
  have h : Sm (begP 0 (S0 W z0 z0)) (flowP D (dn D) 0 0 (begP 0 (S0 W z0 z0))) 0 := Sm_flow hD hD.1 (dn D) 0 0 _ (by omega) (fun c h1 h2 h3 g => by have := Ds.le hD hD.1 g; omega)
  have e : sa (LSt D W) (32 + 0) = sa (flowP D (dn D) 0 0 (begP 0 (S0 W z0 z0))) (32 + 0) := endP_sa (by omega)
  rw [e, h.2.1]
  exact S0_sa (W := W) (a := z0) (h := z0)
theorem lsOf_take {ls : List (Nat × Int32 × Int32)} {i k : Nat} {e : Nat × Int32 × Int32} (h : ls[i]? = some e) : lsOf (ls.take (i + 1)) k = lsOf (ls.take i) k ++ (if e.1 = k then [e.2] else []) := by
  unfold lsOf
  rw [List.take_add_one, h, Option.toList_some, List.filter_append, List.map_append]
  by_cases z : e.1 = k
  · rw [if_pos z, List.filter_cons_of_pos (by exact decide_eq_true z)]; rfl
  · rw [if_neg z, List.filter_cons_of_neg (by intro q; exact z (of_decide_eq_true q))]; rfl
theorem lsOf_get {ls : List (Nat × Int32 × Int32)} {i k : Nat} {e : Nat × Int32 × Int32} (h : ls[i]? = some e) (hk : e.1 = k) : (lsOf ls k)[(lsOf (ls.take i) k).length]? = some e.2 := by
  have h1 : ls = ls.take (i + 1) ++ ls.drop (i + 1) := (List.take_append_drop (i + 1) ls).symm
  have h2 : lsOf ls k = lsOf (ls.take (i + 1)) k ++ lsOf (ls.drop (i + 1)) k := by
    conv => lhs; rw [h1]
    unfold lsOf
    rw [List.filter_append, List.map_append]
  rw [h2, lsOf_take h, if_pos hk, List.append_assoc, List.getElem?_append_right (Nat.le_refl _), Nat.sub_self]
  rfl
theorem lsOf_len {ls : List (Nat × Int32 × Int32)} {i k : Nat} : (lsOf (ls.take i) k).length ≤ i := by
  unfold lsOf
  rw [List.length_map]
  exact Nat.le_trans (List.length_filter_le _ _) (List.length_take_le i ls)
/-- the sheet -/
def LA (D : Dt) (W : Int32) (L : Lw) (σ : Sto) : Prop := LT L σ ∧ LI D W L σ ∧ zA σ (lwa L) 48 = mx 0 (sy (LSt D W)) ∧
  (∀ k, k < dn D → dtx D k = false → k ≠ 0 → zA σ (lwa L) k = sa (LSt D W) k ∧ zA σ (lwa L) (16 + k) = sa (LSt D W) (16 + k) ∧ zA σ (lwa L) (32 + k) = sa (LSt D W) (32 + k) ∧ zA σ (lwa L) (48 + k) = sa (LSt D W) (48 + k)) ∧
  (∀ c, c < dn D → dtx D c = true → dwc D c ≠ 0 → zA σ (lwa L) c = sa (LSt D W) c) ∧ zA σ (lwq L) 6 = nI (sls (LSt D W)).length ∧
  (∀ i e, (sls (LSt D W))[i]? = some e → zA σ (lwn L) (3 * i) = nI e.1 ∧ zA σ (lwn L) (3 * i + 1) = e.2.1 ∧ zA σ (lwn L) (3 * i + 2) = e.2.2) ∧ (sls (LSt D W)).length ≤ 20
theorem LA.bx {D W} {L : Lw} {σ : Sto} (h : LA D W L σ) : (∀ k, k < dn D → dtx D k = false → k ≠ 0 → zA σ (lwa L) k = sa (LSt D W) k ∧ zA σ (lwa L) (16 + k) = sa (LSt D W) (16 + k) ∧ zA σ (lwa L) (32 + k) = sa (LSt D W) (32 + k) ∧ zA σ (lwa L) (48 + k) = sa (LSt D W) (48 + k)) := h.2.2.2.1
theorem LA.tx {D W} {L : Lw} {σ : Sto} (h : LA D W L σ) : (∀ c, c < dn D → dtx D c = true → dwc D c ≠ 0 → zA σ (lwa L) c = sa (LSt D W) c) := h.2.2.2.2.1
theorem LA.q6 {D W} {L : Lw} {σ : Sto} (h : LA D W L σ) : zA σ (lwq L) 6 = nI (sls (LSt D W)).length := h.2.2.2.2.2.1
theorem LA.nn {D W} {L : Lw} {σ : Sto} (h : LA D W L σ) : (∀ i e, (sls (LSt D W))[i]? = some e → zA σ (lwn L) (3 * i) = nI e.1 ∧ zA σ (lwn L) (3 * i + 1) = e.2.1 ∧ zA σ (lwn L) (3 * i + 2) = e.2.2) := h.2.2.2.2.2.2.1
theorem LA.len {D W} {L : Lw} {σ : Sto} (h : LA D W L σ) : (sls (LSt D W)).length ≤ 20 := h.2.2.2.2.2.2.2
theorem LA.of {D W} {L : Lw} {σ : Sto} {a h : Nat → Int32} (hD : DW D) (hB : LB D W L (setA 48 (mx 0 (sy (laysP D W a h))) (laysP D W a h)) σ) (hl : (sls (laysP D W a h)).length ≤ 20) : LA D W L σ := by
  obtain ⟨h1, h2, h3, g1, g2, g3, g4, g5, g6, g7, g8⟩ := hB
  obtain ⟨e1, e2, e3, e4⟩ := lays_eq hD W a h
  have hn := hD.2.1
  have g5 : zA σ (lwq L) 6 = nI (sls (laysP D W a h)).length := g5
  have g8 : ∀ i e, (sls (laysP D W a h))[i]? = some e → zA σ (lwn L) (3 * i) = nI e.1 ∧ zA σ (lwn L) (3 * i + 1) = e.2.1 ∧ zA σ (lwn L) (3 * i + 2) = e.2.2 := g8
  have ga : ∀ i, i < 64 → i ≠ 48 → zA σ (lwa L) i = sa (laysP D W a h) i := fun i hi h48 => (g6 i hi).trans (setI_o h48)
  refine ⟨h1, h3, ?_, fun k hk ht h0 => ?_, fun c hc ht hw => ?_, by rw [← e2]; exact g5, by rw [← e2]; exact g8, by rw [← e2]; exact hl⟩
  · rw [← e1]; refine (g6 48 (by decide)).trans ?_
    show setI (sa (laysP D W a h)) 48 (mx 0 (sy (laysP D W a h))) 48 = _
    exact setI_self
  · obtain ⟨x1, x2, x3, x4⟩ := e3 k hk ht h0
    exact ⟨(ga k (by omega) (by omega)).trans x1, (ga _ (by omega) (by omega)).trans x2, (ga _ (by omega) (by omega)).trans x3, (ga _ (by omega) (by omega)).trans x4⟩
  · exact (ga c (by omega) (by omega)).trans (e4 c hc ht hw)
theorem LI.keep {D W} {L : Lw} {σ s : Sto} (h : LI D W L σ) (hA : ∀ i, i < 9 → zA s (arL L i) = zA σ (arL L i)) : LI D W L s :=
  h.to (hA 0 (by decide)) (hA 1 (by decide)) (hA 2 (by decide)) (hA 3 (by decide)) (hA 4 (by decide)) (congrFun (hA 7 (by decide)) 3) (congrFun (hA 7 (by decide)) 4)
theorem LA.keep {D W} {L : Lw} {σ s : Sto} (h : LA D W L σ) (hT : ∀ a, (zT σ a).1 ≠ 0 → zT s a = zT σ a) (hA : ∀ i, i < 9 → zA s (arL L i) = zA σ (arL L i)) : LA D W L s := by
  obtain ⟨h1, h2, h3, h4, h5, h6, h7, h8⟩ := h
  have ea : zA s (lwa L) = zA σ (lwa L) := hA 5 (by decide)
  have en : zA s (lwn L) = zA σ (lwn L) := hA 8 (by decide)
  have eq : zA s (lwq L) = zA σ (lwq L) := hA 7 (by decide)
  exact ⟨fun i hi => (hT _ (by rw [h1 i hi]; exact (by decide : (20 : Nat) ≠ 0))).trans (h1 i hi), h2.keep hA, by rw [ea]; exact h3, by rw [ea]; exact h4, by rw [ea]; exact h5, by rw [eq]; exact h6, by rw [en]; exact h7, h8⟩
/-- the law's rows apart from the class's -/
def Ap (X : Cx) (Y : Cy) (n : Nat) (L : Lw) : Prop := ∀ i, i < 9 → ∀ t k, t < 4 → k < n → arL L i ≠ arX X Y t k
theorem LT.fo {X Y n} {L : Lw} {σ s : Sto} (h : LT L σ) (f : Fo X Y n σ s) : LT L s := fun i hi => (f.1 _ (by rw [h i hi]; exact (by decide : (20 : Nat) ≠ 0))).trans (h i hi)
theorem Ap.rows {X Y n} {L : Lw} {σ s : Sto} (ha : Ap X Y n L) (hT : LT L σ) (f : Fo X Y n σ s) : ∀ i, i < 9 → zA s (arL L i) = zA σ (arL L i) := fun i hi => f.2 _ (by rw [hT i hi]; exact (by decide : (20 : Nat) ≠ 0)) (fun t k ht hk => ha i hi t k ht hk)
theorem LA.fo {D W X Y} {L : Lw} {σ s : Sto} (h : LA D W L σ) (ha : Ap X Y (dn D) L) (f : Fo X Y (dn D) σ s) : LA D W L s := h.keep f.1 (ha.rows h.1 f)
theorem inP_0 {D : Dt} {k : Nat} {a : Nat → Int32} (hk : k < 12) (h : nI k = 0) : inP D k a = 0 := if_pos (by
  have := nI_le0 (by omega) (by rw [h]; decide : nI k ≤ 0)
  omega)
theorem inP_1 {D : Dt} {k : Nat} {a : Nat → Int32} (h : ¬ nI k = 0) : inP D k a = a k + dst D k 13 := if_neg (fun q => h (by rw [q]; rfl))

/-! THE ORDER OF THE TREE; A FLOW MEETS ALL (by wip/p27/gen_ord.py) -/
/-- the next node behind the whole of a node -/
def climbF (D : Dt) : Nat → Nat → Option Nat
  | 0, _ => none
  | f + 1, n => if n = 0 then none else match nx D (dpar D n) n with
    | some s => some s
    | none => climbF D f (dpar D n)
def up (D : Dt) (n : Nat) : Option Nat := climbF D (n + 1) n
theorem climb_fuel {D : Dt} (hD : DW D) : ∀ (f g n : Nat), n < f → n < g → n < dn D → climbF D f n = climbF D g n := by
  intro f
  induction f with
  | zero => intro g n h; omega
  | succ f ih =>
    intro g n h1 h2 h3
    obtain ⟨g, rfl⟩ : ∃ j, g = j + 1 := ⟨g - 1, by omega⟩
    unfold climbF
    by_cases q : n = 0
    · rw [if_pos q, if_pos q]
    · rw [if_neg q, if_neg q]
      cases nx D (dpar D n) n with
      | some s => rfl
      | none =>
        have := (hD.2.2.2.2.1 n (by omega) h3).1
        exact ih g (dpar D n) (by omega) (by omega) (by omega)
theorem up_0 {D : Dt} : up D 0 = none := rfl
theorem up_eq {D : Dt} (hD : DW D) {n : Nat} (h0 : n ≠ 0) (hn : n < dn D) : up D n = (match nx D (dpar D n) n with | some s => some s | none => up D (dpar D n)) := by
  have hp := (hD.2.2.2.2.1 n (by omega) hn).1
  show climbF D (n + 1) n = _
  rw [climbF, if_neg h0]
  cases nx D (dpar D n) n with
  | some s => rfl
  | none => exact climb_fuel hD _ _ _ hp (by omega) (by omega)
/-- the next node in the order of the tree -/
def onw (D : Dt) (n : Nat) : Option Nat := match nx D n n with
  | some c => some c
  | none => up D n
def ordF (D : Dt) : Nat → Nat → Nat → List Nat
  | 0, _, _ => []
  | f + 1, k, at_ => match nx D k at_ with
    | none => []
    | some c => c :: (ordF D f c c ++ ordF D f k c)
def ordL (D : Dt) : List Nat := 0 :: ordF D (dn D) 0 0
/-- from r on, by steps, through xs, to e -/
def Cn (D : Dt) : Option Nat → List Nat → Option Nat → Prop
  | r, [], e => r = e
  | r, x :: xs, e => r = some x ∧ Cn D (onw D x) xs e
theorem Cn.app {D : Dt} {e e2 : Option Nat} {ys : List Nat} : ∀ {xs : List Nat} {r : Option Nat}, Cn D r xs e → Cn D e ys e2 → Cn D r (xs ++ ys) e2
  | [], _, h, h2 => by have h : _ = _ := h; rw [h]; exact h2
  | x :: xs, _, h, h2 => ⟨h.1, Cn.app h.2 h2⟩
def stt (D : Dt) (k at_ : Nat) : Option Nat := match nx D k at_ with
  | some c => some c
  | none => up D k
theorem ordF_cn {D : Dt} (hD : DW D) : ∀ (f k at_ : Nat), dn D ≤ at_ + f → Cn D (stt D k at_) (ordF D f k at_) (up D k) := by
  intro f
  induction f with
  | zero =>
    intro k at_ h
    show stt D k at_ = up D k
    unfold stt
    cases e : nx D k at_ with
    | none => rfl
    | some c => have := nx_up e; omega
  | succ f ih =>
    intro k at_ h
    unfold ordF stt
    cases e : nx D k at_ with
    | none => rfl
    | some c =>
      obtain ⟨h1, h2, h3⟩ := nx_up e
      refine ⟨rfl, Cn.app (ih c c (by omega)) ?_⟩
      have := ih k c (by omega)
      rw [up_eq hD (by omega) h2, h3]
      exact this
theorem ordL_cn {D : Dt} (hD : DW D) : Cn D (some 0) (ordL D) none := ⟨rfl, ordF_cn hD (dn D) 0 0 (by omega)⟩
theorem Ds.down {D : Dt} (hD : DW D) {c d : Nat} (hd : d < dn D) (h0 : 0 < d) (h : Ds D c d) (hne : d ≠ c) : ∃ c', dpar D c' = c ∧ Ds D c' d ∧ c < c' ∧ c' < dn D := by
  obtain ⟨n, e⟩ := h
  induction n generalizing d with
  | zero => exact absurd e hne
  | succ n ih =>
    have hp := (hD.2.2.2.2.1 d h0 hd).1
    by_cases q : dpar D d = c
    · exact ⟨d, q, Ds.refl, by omega, hd⟩
    · have hp0 : 0 < dpar D d := by
        rcases Nat.eq_zero_or_pos (dpar D d) with z | z
        · have : Ds D c (dpar D d) := ⟨n, e⟩
          have := Ds.le hD (by omega) this
          omega
        · exact z
      obtain ⟨c', g1, g2, g3, g4⟩ := ih (d := dpar D d) (by omega) hp0 q e
      obtain ⟨m, e2⟩ := g2
      exact ⟨c', g1, ⟨m + 1, e2⟩, g3, g4⟩
theorem Ds.root {D : Dt} (hD : DW D) : ∀ (d : Nat), d < dn D → Ds D 0 d := by
  intro d
  induction d using Nat.strongRecOn with
  | ind d ih =>
    intro hd
    rcases Nat.eq_zero_or_pos d with q | q
    · rw [q]; exact Ds.refl
    · have hp := (hD.2.2.2.2.1 d q hd).1
      obtain ⟨n, e⟩ := ih _ hp (by omega)
      exact ⟨n + 1, e⟩
theorem ordF_mem {D : Dt} (hD : DW D) : ∀ (f k at_ : Nat), dn D ≤ at_ + f → ∀ d, d ∈ ordF D f k at_ ↔ (d < dn D ∧ ∃ c, at_ < c ∧ c < dn D ∧ dpar D c = k ∧ Ds D c d) := by
  intro f
  induction f with
  | zero =>
    intro k at_ h d
    exact ⟨fun q => absurd q List.not_mem_nil, fun ⟨_, c, h1, h2, _⟩ => by omega⟩
  | succ f ih =>
    intro k at_ h d
    unfold ordF
    cases e : nx D k at_ with
    | none => exact ⟨fun q => absurd q List.not_mem_nil, fun ⟨_, c, h1, h2, h3, _⟩ => absurd h3 (nx_none.mp e c h1 h2)⟩
    | some c =>
      obtain ⟨h1, h2, h3, h4⟩ := nx_some.mp e
      show d ∈ c :: (ordF D f c c ++ ordF D f k c) ↔ _
      rw [List.mem_cons, List.mem_append, ih c c (by omega), ih k c (by omega)]
      constructor
      · rintro (q | ⟨q0, c', q1, q2, q3, q4⟩ | ⟨q0, c', q1, q2, q3, q4⟩)
        · rw [q]; exact ⟨h1, c, h2, h1, h3, Ds.refl⟩
        · exact ⟨q0, c, h2, h1, h3, q4.up q3⟩
        · exact ⟨q0, c', by omega, q2, q3, q4⟩
      · rintro ⟨q0, c', q1, q2, q3, q4⟩
        rcases Nat.lt_trichotomy c' c with z | z | z
        · exact absurd q3 (h4 c' q1 z)
        · subst z
          by_cases y : d = c'
          · exact Or.inl y
          · refine Or.inr (Or.inl ⟨q0, ?_⟩)
            have := Ds.le hD q0 q4
            obtain ⟨c2, g1, g2, g3, g4⟩ := Ds.down hD q0 (by omega) q4 y
            exact ⟨c2, g3, g4, g1, g2⟩
        · exact Or.inr (Or.inr ⟨q0, c', z, q2, q3, q4⟩)
theorem ordF_nodup {D : Dt} (hD : DW D) : ∀ (f k at_ : Nat), dn D ≤ at_ + f → k ≤ at_ → (ordF D f k at_).Nodup := by
  intro f
  induction f with
  | zero => intro k at_ h _; exact List.nodup_nil
  | succ f ih =>
    intro k at_ h hk
    unfold ordF
    cases e : nx D k at_ with
    | none => exact List.nodup_nil
    | some c =>
      obtain ⟨h1, h2, h3, h4⟩ := nx_some.mp e
      refine List.nodup_cons.mpr ⟨fun q => ?_, List.nodup_append.mpr ⟨ih c c (by omega) (Nat.le_refl _), ih k c (by omega) (by omega), fun x hx y hy q => ?_⟩⟩
      · rcases List.mem_append.mp q with q | q
        · obtain ⟨q0, c', q1, q2, q3, q4⟩ := (ordF_mem hD f c c (by omega) c).mp q
          have := Ds.le hD q0 q4
          omega
        · obtain ⟨q0, c', q1, q2, q3, q4⟩ := (ordF_mem hD f k c (by omega) c).mp q
          have := Ds.le hD q0 q4
          omega
      · subst q
        obtain ⟨q0, c', q1, q2, q3, q4⟩ := (ordF_mem hD f c c (by omega) x).mp hx
        obtain ⟨p0, c2, p1, p2, p3, p4⟩ := (ordF_mem hD f k c (by omega) x).mp hy
        have := Ds.apart hD q0 (k := k) (by omega) (by omega) h1 p2 h3 p3 (q4.up q3) p4
        omega
theorem ordL_mem {D : Dt} (hD : DW D) (d : Nat) : d ∈ ordL D ↔ d < dn D := by
  have hn := hD.1
  unfold ordL
  rw [List.mem_cons, ordF_mem hD (dn D) 0 0 (by omega)]
  constructor
  · rintro (q | q)
    · omega
    · exact q.1
  · intro h
    rcases Nat.eq_zero_or_pos d with q | q
    · exact Or.inl q
    · obtain ⟨c', g1, g2, g3, g4⟩ := Ds.down hD h q (Ds.root hD d h) (by omega)
      exact Or.inr ⟨h, c', g3, g4, g1, g2⟩
theorem ordL_nodup {D : Dt} (hD : DW D) : (ordL D).Nodup := by
  refine List.nodup_cons.mpr ⟨fun q => ?_, ordF_nodup hD _ 0 0 (by omega) (Nat.le_refl _)⟩
  obtain ⟨q0, c', q1, q2, q3, q4⟩ := (ordF_mem hD (dn D) 0 0 (by omega) 0).mp q
  have := Ds.le hD q0 q4
  omega
theorem run_mem {D : Dt} {k : Nat} : ∀ (m a : Nat), dn D ≤ a + m + 1 → a < dn D → dtx D a = true → dpar D a = k → ∀ c, c < dn D → dpar D c = k → a ≤ c → c ≤ (runL D k m a).getLastD a → c ∈ runL D k m a := by
  intro m
  induction m with
  | zero =>
    intro a h1 h2 h3 h4 c c1 c2 c3 c4
    have : c = a := by have c4 : c ≤ a := c4; omega
    rw [this]; exact List.mem_cons_self
  | succ m ih =>
    intro a h1 h2 h3 h4 c c1 c2 c3 c4
    rcases runL_cases D k h1 with ⟨e, -⟩ | ⟨c', m', e0, e1, e2, e3, e4, e5, e6, e7⟩
    · rw [e] at c4 ⊢
      have : c = a := by have c4 : c ≤ a := c4; omega
      rw [this]; exact List.mem_cons_self
    · obtain rfl : m = m' := by omega
      rw [runL_last e3] at c4
      rw [e3]
      by_cases q : c = a
      · rw [q]; exact List.mem_cons_self
      · refine List.mem_cons_of_mem _ (ih c' e7 e5 e2 e6 c c1 c2 ?_ c4)
        have := (nx_some.mp e1).2.2.2 c (by omega)
        exact Decidable.byContradiction fun z => this (by omega) c2
/-- what is met, begun, closed stays so -/
def Mo (S S' : FS) : Prop := ∀ d, (svi S d = true → svi S' d = true) ∧ (slv S d = true → slv S' d = true) ∧ (scl S d = true → scl S' d = true)
theorem Mo.refl {S : FS} : Mo S S := fun _ => ⟨id, id, id⟩
theorem Mo.trans {S S1 S2 : FS} (h : Mo S S1) (h' : Mo S1 S2) : Mo S S2 := fun d => ⟨fun q => (h' d).1 ((h d).1 q), fun q => (h' d).2.1 ((h d).2.1 q), fun q => (h' d).2.2 ((h d).2.2 q)⟩
theorem Mo.of {S S' : FS} (h1 : svi S' = svi S) (h2 : slv S' = slv S) (h3 : scl S' = scl S) : Mo S S' := fun d => ⟨fun q => by rw [h1]; exact q, fun q => by rw [h2]; exact q, fun q => by rw [h3]; exact q⟩
theorem setB_mono {f : Nat → Bool} {k d : Nat} (h : f d = true) : setB f k true d = true := by unfold setB; split; rfl; exact h
theorem Mo_run {D : Dt} {k : Nat} {r : List Nat} {S : FS} : Mo S (runP D k r S) := by
  intro d
  refine ⟨fun q => by rw [runP_svi]; exact visV_set _ q, ?_, ?_⟩
  · have e : slv (runP D k r S) = slv S := by
      have h1 : ∀ (r : List Nat) (S : FS), slv (visL r S) = slv S := by
        intro r
        induction r with
        | nil => intro S; rfl
        | cons x xs ih => intro S; exact ih (visP x S)
      have h2 : ∀ (r : List Nat) (Y : RS), slv (runT D k r Y).1 = slv Y.1 := by
        intro r
        induction r with
        | nil => intro Y; rfl
        | cons x xs ih =>
          intro Y
          refine (ih (textP D k x Y)).trans ?_
          have h3 : ∀ i, slv (wordsP D k x i Y).1 = slv Y.1 := by
            intro i
            induction i with
            | zero => rfl
            | succ i ih2 =>
              rw [← ih2]
              rw [show wordsP D k x (i + 1) Y = wordP D k x i (wordsP D k x i Y) from rfl, wordP_eq]
              show slv (if i = 0 then _ else _) = _
              have hb : slv (brkP D k (dln D x i) (wordsP D k x i Y)).1 = slv (wordsP D k x i Y).1 := by unfold brkP; split <;> rfl
              split
              · exact hb
              · exact hb
          exact h3 _
      unfold runP
      split
      · exact h1 r S
      · exact h2 r (endP S, 0, 0, 0)
    exact fun q => by rw [e]; exact q
  · have e : scl (runP D k r S) = scl S := by
      have h1 : ∀ (r : List Nat) (S : FS), scl (visL r S) = scl S := by
        intro r
        induction r with
        | nil => intro S; rfl
        | cons x xs ih => intro S; exact ih (visP x S)
      have h2 : ∀ (r : List Nat) (Y : RS), scl (runT D k r Y).1 = scl Y.1 := by
        intro r
        induction r with
        | nil => intro Y; rfl
        | cons x xs ih =>
          intro Y
          refine (ih (textP D k x Y)).trans ?_
          have h3 : ∀ i, scl (wordsP D k x i Y).1 = scl Y.1 := by
            intro i
            induction i with
            | zero => rfl
            | succ i ih2 =>
              rw [← ih2]
              rw [show wordsP D k x (i + 1) Y = wordP D k x i (wordsP D k x i Y) from rfl, wordP_eq]
              show scl (if i = 0 then _ else _) = _
              have hb : scl (brkP D k (dln D x i) (wordsP D k x i Y)).1 = scl (wordsP D k x i Y).1 := by unfold brkP; split <;> rfl
              split
              · exact hb
              · exact hb
          exact h3 _
      unfold runP
      split
      · exact h1 r S
      · exact h2 r (endP S, 0, 0, 0)
    exact fun q => by rw [e]; exact q
theorem Mo_enter {D : Dt} {c : Nat} {S : FS} : Mo S (begP c (enterP D c S)) := by
  have e2 : slv (ent2P D c (ent1P D c S)) = slv S := by unfold ent2P; split <;> rfl
  have e3 : scl (ent2P D c (ent1P D c S)) = scl S := by unfold ent2P; split <;> rfl
  intro d
  refine ⟨fun q => ?_, fun q => ?_, fun q => ?_⟩
  · show svi (enterP D c S) d = true
    rw [enter_svi]
    exact setB_mono q
  · show setB (slv (ent2P D c (ent1P D c S))) c true d = true
    rw [e2]
    exact setB_mono q
  · show scl (ent2P D c (ent1P D c S)) d = true
    rw [e3]
    exact q
theorem Mo_leave {D : Dt} {c : Nat} {S : FS} : Mo S (leaveP D c S) ∧ scl (leaveP D c S) c = true := by
  have e1 : Mo S (if sw S c = true then leaveW D c S else leaveH D c S) := by
    split
    · unfold leaveW; split
      · exact Mo.of rfl rfl rfl
      · exact Mo.of rfl rfl rfl
    · unfold leaveH
      split
      · exact Mo.of rfl rfl rfl
      · split
        · exact Mo.of rfl rfl rfl
        · exact Mo.of rfl rfl rfl
  exact ⟨e1.trans (fun d => ⟨id, id, fun q => setB_mono q⟩), if_pos rfl⟩
theorem Mo_flow {D : Dt} : ∀ (f k at_ : Nat) (S : FS), Mo S (flowP D f k at_ S) := by
  intro f
  induction f with
  | zero => intro k at_ S; exact Mo.refl
  | succ f ih =>
    intro k at_ S
    cases hx : nx D k at_ with
    | none => rw [flowP_none hx]; exact Mo.refl
    | some c =>
      by_cases ht : dtx D c = true
      · rw [flowP_text hx ht]
        exact Mo_run.trans (ih _ _ _)
      · have ht : dtx D c = false := by cases e : dtx D c; rfl; exact absurd e ht
        rw [flowP_box hx ht]
        exact ((Mo_enter.trans (ih _ _ _)).trans Mo_leave.1).trans (ih _ _ _)
def Met3 (D : Dt) (S : FS) (d : Nat) : Prop := svi S d = true ∧ (dtx D d = false → slv S d = true ∧ scl S d = true)
theorem Met3.mo {D : Dt} {S S' : FS} {d : Nat} (h : Met3 D S d) (m : Mo S S') : Met3 D S' d := ⟨(m d).1 h.1, fun q => ⟨(m d).2.1 (h.2 q).1, (m d).2.2 (h.2 q).2⟩⟩
theorem visV_mem : ∀ (r : List Nat) {v : Nat → Bool} {x : Nat}, x ∈ r → visV r v x = true
  | y :: ys, v, x, h => by
    rcases List.mem_cons.mp h with q | q
    · exact visV_set ys (v := setB v y true) (by unfold setB; rw [if_pos q])
    · exact visV_mem ys q
theorem flowP_all {D : Dt} (hD : DW D) : ∀ (f k at_ : Nat) (S : FS), dn D ≤ at_ + f → ∀ c d, at_ < c → c < dn D → dpar D c = k → d < dn D → Ds D c d → Met3 D (flowP D f k at_ S) d := by
  intro f
  induction f with
  | zero => intro k at_ S h c d h1 h2; omega
  | succ f ih =>
    intro k at_ S h c d h1 h2 h3 h4 h5
    cases hx : nx D k at_ with
    | none => exact absurd h3 (nx_none.mp hx c h1 h2)
    | some c0 =>
      obtain ⟨n1, n2, n3, n4⟩ := nx_some.mp hx
      have hcc : c0 ≤ c := Decidable.byContradiction fun z => n4 c h1 (by omega) h3
      have hd := Ds.le hD h4 h5
      by_cases ht : dtx D c0 = true
      · rw [flowP_text hx ht]
        have hl := (runL_in f c0 (by omega) n1 ht n3 _ (runL_lastmem (D := D) (k := k) (m := f) (a := c0))).1
        by_cases q : c ≤ (runL D k f c0).getLastD c0
        · have hm := run_mem f c0 (by omega) n1 ht n3 c h2 h3 hcc q
          have hct := (runL_in f c0 (by omega) n1 ht n3 c hm).2.2.1
          have hdc : d = c := Decidable.byContradiction fun z => by
            obtain ⟨c', g1, g2, g3, g4⟩ := Ds.down hD h4 (by omega) h5 z
            have := (hD.2.2.2.2.1 c' (by omega) g4).2
            rw [g1, hct] at this
            cases this
          rw [hdc]
          refine Met3.mo (S := runP D k (runL D k f c0) S) ⟨?_, fun z => ?_⟩ (Mo_flow _ _ _ _)
          · rw [runP_svi]; exact visV_mem _ hm
          · rw [hct] at z; cases z
        · exact ih k _ _ (by omega) c d (by omega) h2 h3 h4 h5
      · have ht : dtx D c0 = false := by cases e : dtx D c0; rfl; exact absurd e ht
        rw [flowP_box hx ht]
        by_cases q : c = c0
        · subst q
          by_cases z : d = c
          · rw [z]
            refine Met3.mo (S := leaveP D c (flowP D f c c (begP c (enterP D c S)))) ⟨?_, fun _ => ⟨?_, Mo_leave.2⟩⟩ (Mo_flow _ _ _ _)
            · rw [leave_svi]
              refine ((Mo_flow f c c _) c).1 ?_
              show svi (enterP D c S) c = true
              rw [enter_svi]
              exact if_pos rfl
            · exact (Mo_leave.1 c).2.1 (((Mo_flow f c c _) c).2.1 (if_pos rfl))
          · obtain ⟨c', g1, g2, g3, g4⟩ := Ds.down hD h4 (by omega) h5 z
            exact (ih c c _ (by omega) c' d g3 g4 g1 h4 g2).mo (Mo_leave.1.trans (Mo_flow _ _ _ _))
        · exact ih k c0 _ (by omega) c d (by omega) h2 h3 h4 h5

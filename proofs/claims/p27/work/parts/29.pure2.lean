/-! WHAT flowP LEAVES AS IT WAS, AND HOW MANY WORDS ARE LEFT (by wip/p27/gen_pure.py) -/
def itp (D : Dt) : Nat → Nat → Nat
  | 0, d => d
  | n + 1, d => itp D n (dpar D d)
theorem itp_add {D : Dt} {j : Nat} : ∀ (n d : Nat), itp D (n + j) d = itp D j (itp D n d)
  | 0, d => by rw [Nat.zero_add]; rfl
  | n + 1, d => by
    rw [show n + 1 + j = (n + j) + 1 by omega]
    exact itp_add n (dpar D d)
/-- d lies in c, or is c -/
def Ds (D : Dt) (c d : Nat) : Prop := ∃ n, itp D n d = c
theorem Ds.refl {D : Dt} {c : Nat} : Ds D c c := ⟨0, rfl⟩
theorem Ds.up {D : Dt} {c c' d : Nat} (h : Ds D c' d) (hp : dpar D c' = c) : Ds D c d := by
  obtain ⟨n, e⟩ := h
  exact ⟨n + 1, by rw [itp_add, e]; exact hp⟩
theorem Ds.le {D : Dt} (hD : DW D) {c d : Nat} (hd : d < dn D) (h : Ds D c d) : c ≤ d := by
  obtain ⟨n, e⟩ := h
  induction n generalizing d with
  | zero => exact Nat.le_of_eq e.symm
  | succ n ih =>
    rcases Nat.eq_zero_or_pos d with q | q
    · subst q
      have : itp D n 0 = c := by have e : itp D n (dpar D 0) = c := e; rw [hD.2.2.1] at e; exact e
      exact ih hd this
    · have := (hD.2.2.2.2.1 d q hd).1
      have := ih (by omega) e
      omega
theorem Ds.apart {D : Dt} (hD : DW D) {k c c' d : Nat} (hd : d < dn D) (h1 : k < c) (h2 : k < c') (hn : c < dn D) (hn' : c' < dn D) (p1 : dpar D c = k) (p2 : dpar D c' = k) (g : Ds D c d) (g' : Ds D c' d) : c = c' := by
  obtain ⟨n, e⟩ := g
  obtain ⟨m, e'⟩ := g'
  have key : ∀ {n j c c' : Nat}, k < c' → c < dn D → dpar D c = k → itp D n d = c → itp D (n + (j + 1)) d = c' → False := fun {n j c c'} h2 hn p1 e e' => by
    rw [itp_add, e] at e'
    have e' : itp D j (dpar D c) = c' := e'
    rw [p1] at e'
    by_cases q : k < dn D
    · have := Ds.le hD q ⟨j, e'⟩
      omega
    · have : c ≠ 0 := fun z => by rw [z, hD.2.2.1] at p1; have := hD.1; omega
      have := (hD.2.2.2.2.1 c (by omega) hn).1
      omega
  rcases Nat.lt_trichotomy n m with q | q | q
  · obtain ⟨j, rfl⟩ : ∃ j, m = n + (j + 1) := ⟨m - n - 1, by omega⟩
    exact (key h2 hn p1 e e').elim
  · rw [← e, q, e']
  · obtain ⟨j, rfl⟩ : ∃ j, n = m + (j + 1) := ⟨n - m - 1, by omega⟩
    exact (key h1 hn' p2 e' e).elim
/-- of a node nothing has changed but who waits, tops and heights -/
def Sm (S S' : FS) (d : Nat) : Prop := sa S' d = sa S d ∧ sa S' (32 + d) = sa S (32 + d) ∧ sh S' d = sh S d ∧ svi S' d = svi S d ∧ slv S' d = slv S d ∧ scl S' d = scl S d
theorem Sm.refl {S : FS} {d : Nat} : Sm S S d := ⟨rfl, rfl, rfl, rfl, rfl, rfl⟩
theorem Sm.trans {S S1 S2 : FS} {d : Nat} (h : Sm S S1 d) (h' : Sm S1 S2 d) : Sm S S2 d := ⟨h'.1.trans h.1, h'.2.1.trans h.2.1, h'.2.2.1.trans h.2.2.1, h'.2.2.2.1.trans h.2.2.2.1, h'.2.2.2.2.1.trans h.2.2.2.2.1, h'.2.2.2.2.2.trans h.2.2.2.2.2⟩
theorem Sm_endP {S : FS} {d : Nat} (hd : d < 12) : Sm S (endP S) d := ⟨endP_sa (by omega), endP_sa (by omega), rfl, rfl, rfl, rfl⟩
theorem Sm_setA {S : FS} {d k : Nat} {x : Int32} (h1 : d ≠ k) (h2 : 32 + d ≠ k) : Sm S (setA k x S) d := ⟨if_neg h1, if_neg h2, rfl, rfl, rfl, rfl⟩
theorem Sm_clP {S : FS} {d c : Nat} (h : d ≠ c) : Sm S (clP c S) d := ⟨rfl, rfl, rfl, rfl, rfl, if_neg h⟩
theorem Sm_begP {S : FS} {d c : Nat} (h : d ≠ c) : Sm S (begP c S) d := ⟨rfl, rfl, rfl, rfl, if_neg h, rfl⟩
theorem Sm_visP {S : FS} {d c : Nat} (h : d ≠ c) : Sm S (visP c S) d := ⟨rfl, rfl, rfl, if_neg h, rfl, rfl⟩
theorem Sm_ent3 {D : Dt} {S : FS} {c d : Nat} {a0 h0 : Nat → Int32} (h : d ≠ c) (hd : d < 12) (hc : c < 12) : Sm S (ent3P D c a0 h0 S) d := by
  refine ⟨?_, ?_, if_neg h, if_neg h, rfl, rfl⟩
  · show setI (setI (sa S) c _) (32 + c) _ d = _
    unfold setI
    rw [if_neg (by omega), if_neg h]
  · show setI (setI (sa S) c _) (32 + c) _ (32 + d) = _
    unfold setI
    rw [if_neg (by omega), if_neg (by omega)]
theorem Sm_ent {D : Dt} {S : FS} {c d : Nat} (h : d ≠ c) (hd : d < 12) (hc : c < 12) : Sm S (enterP D c S) d := by
  unfold enterP
  refine Sm.trans ?_ (Sm_ent3 h hd hc)
  unfold ent2P
  split
  · exact Sm.trans (S1 := ent1P D c S) ⟨rfl, rfl, rfl, rfl, rfl, rfl⟩ (Sm.trans (Sm_endP hd) ⟨rfl, rfl, rfl, rfl, rfl, rfl⟩)
  · exact ⟨rfl, rfl, rfl, rfl, rfl, rfl⟩
theorem Sm_leave {D : Dt} {S : FS} {c d : Nat} (h : d ≠ c) (hd : d < 12) (hc : c < 12) : Sm S (leaveP D c S) d := by
  unfold leaveP
  refine Sm.trans ?_ (Sm_clP h)
  refine Sm.trans (S1 := if sw S c = true then leaveW D c S else leaveH D c S) ?_ ⟨rfl, rfl, rfl, rfl, rfl, rfl⟩
  split
  · unfold leaveW
    split
    · exact Sm.trans (Sm_setA (by omega) (by omega)) (Sm.trans (Sm_endP hd) ⟨rfl, rfl, rfl, rfl, rfl, rfl⟩)
    · exact Sm.trans (Sm_setA (by omega) (by omega)) (Sm.trans (Sm_setA (by omega) (by omega)) ⟨rfl, rfl, rfl, rfl, rfl, rfl⟩)
  · unfold leaveH
    split
    · exact Sm.trans (S1 := dropP S) ⟨rfl, rfl, rfl, rfl, rfl, rfl⟩ (Sm.trans (Sm_setA (by omega) (by omega)) ⟨rfl, rfl, rfl, rfl, rfl, rfl⟩)
    · split
      · exact Sm.trans (Sm_endP hd) (Sm.trans (Sm_setA (by omega) (by omega)) ⟨rfl, rfl, rfl, rfl, rfl, rfl⟩)
      · exact Sm_setA (by omega) (by omega)
theorem Sm_shut {S : FS} {k d : Nat} {r : Int32 × Int32 × Int32} : Sm S (shutP k (S, r)) d := ⟨rfl, rfl, rfl, rfl, rfl, rfl⟩
theorem Sm_text {D : Dt} {k c d : Nat} {Y : RS} (h : d ≠ c) (hd : d < 12) (hc : c < 12) : Sm Y.1 (textP D k c Y).1 d := by
  have h1 : ∀ i, Sm Y.1 (wordsP D k c i Y).1 d := by
    intro i
    induction i with
    | zero => exact Sm.refl
    | succ i ih =>
      refine ih.trans ?_
      rw [show wordsP D k c (i + 1) Y = wordP D k c i (wordsP D k c i Y) from rfl, wordP_eq]
      have h2 : Sm (wordsP D k c i Y).1 (brkP D k (dln D c i) (wordsP D k c i Y)).1 d := by
        unfold brkP
        split
        · exact ⟨rfl, rfl, rfl, rfl, rfl, rfl⟩
        · exact Sm.refl
      show Sm _ (if i = 0 then _ else _) d
      split
      · exact h2.trans (Sm_setA h (by omega))
      · exact h2
  rw [textP_eq]
  exact (h1 _).trans (Sm_visP h)
theorem Sm_runT {D : Dt} {k d : Nat} (hd : d < 12) : ∀ (r : List Nat) {Y : RS}, (∀ x, x ∈ r → d ≠ x ∧ x < 12) → Sm Y.1 (runT D k r Y).1 d
  | [], _, _ => Sm.refl
  | x :: xs, Y, h => (Sm_text (h x List.mem_cons_self).1 hd (h x List.mem_cons_self).2).trans (Sm_runT hd xs (Y := textP D k x Y) (fun y hy => h y (List.mem_cons_of_mem _ hy)))
theorem Sm_visL {d : Nat} : ∀ (r : List Nat) {S : FS}, (∀ x, x ∈ r → d ≠ x) → Sm S (visL r S) d
  | [], _, _ => Sm.refl
  | x :: xs, S, h => (Sm_visP (h x List.mem_cons_self)).trans (Sm_visL xs (S := visP x S) (fun y hy => h y (List.mem_cons_of_mem _ hy)))
theorem Sm_run {D : Dt} {k d : Nat} {r : List Nat} {S : FS} (hd : d < 12) (h : ∀ x, x ∈ r → d ≠ x ∧ x < 12) : Sm S (runP D k r S) d := by
  unfold runP
  split
  · exact Sm_visL r (fun x hx => (h x hx).1)
  · exact (Sm_endP hd).trans ((Sm_runT hd r (Y := (endP S, 0, 0, 0)) h).trans Sm_shut)
theorem flowP_eq {D : Dt} {f k at_ : Nat} {S : FS} : flowP D (f + 1) k at_ S = (match nx D k at_ with
    | none => S
    | some c => if dtx D c = true then flowP D f k ((runL D k f c).getLastD c) (runP D k (runL D k f c) S) else flowP D f k c (leaveP D c (flowP D f c c (begP c (enterP D c S))))) := rfl
theorem flowP_none {D : Dt} {f k at_ : Nat} {S : FS} (h : nx D k at_ = none) : flowP D (f + 1) k at_ S = S := by rw [flowP_eq, h]
theorem flowP_text {D : Dt} {f k at_ c : Nat} {S : FS} (h : nx D k at_ = some c) (ht : dtx D c = true) : flowP D (f + 1) k at_ S = flowP D f k ((runL D k f c).getLastD c) (runP D k (runL D k f c) S) := by
  rw [flowP_eq, h]
  exact if_pos ht
theorem flowP_box {D : Dt} {f k at_ c : Nat} {S : FS} (h : nx D k at_ = some c) (ht : dtx D c = false) : flowP D (f + 1) k at_ S = flowP D f k c (leaveP D c (flowP D f c c (begP c (enterP D c S)))) := by
  rw [flowP_eq, h]
  exact if_neg (by rw [ht]; decide)
theorem Sm_flow {D : Dt} (hD : DW D) {d : Nat} (hd : d < dn D) : ∀ (f k at_ : Nat) (S : FS), dn D ≤ at_ + f → (∀ c, at_ < c → c < dn D → dpar D c = k → ¬ Ds D c d) → Sm S (flowP D f k at_ S) d := by
  have hn := hD.2.1
  intro f
  induction f with
  | zero => intro k at_ S _ _; exact Sm.refl
  | succ f ih =>
    intro k at_ S hf h
    cases hx : nx D k at_ with
    | none => rw [flowP_none hx]; exact Sm.refl
    | some c =>
      obtain ⟨n1, n2, n3⟩ := nx_up hx
      by_cases ht : dtx D c = true
      · rw [flowP_text hx ht]
        have hin := runL_in f c (by omega) n2 ht n3
        refine (Sm_run (by omega) (fun x hx => ?_)).trans (ih k _ _ ?_ (fun c' h1 h2 h3 => ?_))
        · obtain ⟨g1, g2, g3, g4⟩ := hin x hx
          exact ⟨fun q => h x (by omega) g2 g4 (q ▸ Ds.refl), by omega⟩
        · have := (hin _ (runL_lastmem (D := D) (k := k) (m := f) (a := c))).1
          omega
        · have := (hin _ (runL_lastmem (D := D) (k := k) (m := f) (a := c))).1
          exact h c' (by omega) h2 h3
      · have ht : dtx D c = false := by cases e : dtx D c; rfl; exact absurd e ht
        rw [flowP_box hx ht]
        have hdc : d ≠ c := fun q => h c n1 n2 n3 (q ▸ Ds.refl)
        have s1 : Sm S (begP c (enterP D c S)) d := (Sm_ent hdc (by omega) (by omega)).trans (Sm_begP hdc)
        have s2 := ih c c (begP c (enterP D c S)) (by omega) (fun c' h1 h2 h3 g => h c n1 n2 n3 (g.up h3))
        exact ((s1.trans s2).trans (Sm_leave hdc (by omega) (by omega))).trans (ih k c _ (by omega) (fun c' h1 h2 h3 => h c' (by omega) h2 h3))
/-- words that are not yet met -/
def Uw (D : Dt) (v : Nat → Bool) (n : Nat) : Nat := ((List.range n).map (fun d => if v d = true ∨ dtx D d = false then 0 else dwc D d)).sum
theorem Uw_succ {D : Dt} {v : Nat → Bool} {n : Nat} : Uw D v (n + 1) = Uw D v n + (if v n = true ∨ dtx D n = false then 0 else dwc D n) := by
  unfold Uw
  rw [List.range_succ, List.map_append, List.sum_append]
  rfl
theorem Uw_mono {D : Dt} {v v' : Nat → Bool} (h : ∀ d, v d = true → v' d = true) : ∀ n, Uw D v' n ≤ Uw D v n
  | 0 => Nat.le_refl _
  | n + 1 => by
    rw [Uw_succ, Uw_succ]
    have h0 := Uw_mono (D := D) h n
    have h1 := h n
    by_cases q : v n = true ∨ dtx D n = false
    · rw [if_pos q, if_pos (q.imp h1 id)]; omega
    · rw [if_neg q]
      split <;> omega
theorem Uw_set {D : Dt} {v : Nat → Bool} {c : Nat} (h1 : v c = false) (h2 : dtx D c = true) : ∀ n, Uw D (setB v c true) n + (if c < n then dwc D c else 0) = Uw D v n
  | 0 => rfl
  | n + 1 => by
    rw [Uw_succ, Uw_succ]
    have h0 := Uw_set h1 h2 n
    by_cases q : n = c
    · subst q
      have hs : setB v n true n = true := if_pos rfl
      rw [if_pos (Or.inl hs), if_pos (Nat.lt_succ_self _), if_neg (by rw [h1, h2]; decide)]
      rw [if_neg (Nat.lt_irrefl _)] at h0
      omega
    · rw [show setB v c true n = v n from if_neg q]
      by_cases q2 : c < n
      · rw [if_pos q2] at h0; rw [if_pos (show c < n + 1 by omega)]; omega
      · rw [if_neg q2] at h0; rw [if_neg (show ¬ c < n + 1 by omega)]; omega
theorem Uw_box {D : Dt} {v : Nat → Bool} {c : Nat} (h2 : dtx D c = false) : ∀ n, Uw D (setB v c true) n = Uw D v n
  | 0 => rfl
  | n + 1 => by
    rw [Uw_succ, Uw_succ, Uw_box h2 n]
    by_cases q : n = c
    · subst q
      rw [if_pos (Or.inr h2), if_pos (Or.inr h2)]
    · rw [show setB v c true n = v n from if_neg q]
theorem Uw_le {D : Dt} {v : Nat → Bool} (h : ∀ k, dwc D k ≤ 4) : ∀ n, Uw D v n ≤ 4 * n
  | 0 => Nat.le_refl _
  | n + 1 => by
    rw [Uw_succ]
    have := Uw_le (v := v) h n
    have := h n
    split <;> omega
def Uf (D : Dt) (S : FS) : Nat := Uw D (svi S) (dn D)
def visV (r : List Nat) (v : Nat → Bool) : Nat → Bool := r.foldl (fun v c => setB v c true) v
theorem visV_set : ∀ (r : List Nat) {v : Nat → Bool} {c : Nat}, v c = true → visV r v c = true
  | [], _, _, h => h
  | x :: xs, v, c, h => visV_set xs (v := setB v x true) (by unfold setB; split; rfl; exact h)
theorem runT_svi {D : Dt} {k : Nat} : ∀ (r : List Nat) {Y : RS}, svi (runT D k r Y).1 = visV r (svi Y.1)
  | [], _ => rfl
  | x :: xs, Y => (runT_svi xs (Y := textP D k x Y)).trans (by rw [text_svi]; rfl)
theorem visL_svi : ∀ (r : List Nat) {S : FS}, svi (visL r S) = visV r (svi S)
  | [], _ => rfl
  | x :: xs, S => visL_svi xs (S := visP x S)
theorem runP_svi {D : Dt} {k : Nat} {r : List Nat} {S : FS} : svi (runP D k r S) = visV r (svi S) := by
  unfold runP
  split
  · exact visL_svi r
  · exact runT_svi r (Y := (endP S, 0, 0, 0))
theorem Uw_vis {D : Dt} {n : Nat} : ∀ (r : List Nat) {v : Nat → Bool}, r.Nodup → (∀ x, x ∈ r → v x = false ∧ dtx D x = true ∧ x < n) → Uw D (visV r v) n + runW D r = Uw D v n
  | [], _, _, _ => rfl
  | x :: xs, v, hn, h => by
    obtain ⟨h1, h2, h3⟩ := h x List.mem_cons_self
    obtain ⟨n1, n2⟩ := List.nodup_cons.mp hn
    have e1 := Uw_vis (D := D) (n := n) xs (v := setB v x true) n2 (fun y hy => by
      obtain ⟨g1, g2, g3⟩ := h y (List.mem_cons_of_mem _ hy)
      exact ⟨by unfold setB; rw [if_neg (fun q : y = x => n1 (q ▸ hy))]; exact g1, g2, g3⟩)
    have e2 := Uw_set (D := D) h1 h2 n
    rw [if_pos h3] at e2
    rw [runW_cons]
    have e1 : Uw D (visV (x :: xs) v) n + runW D xs = Uw D (setB v x true) n := e1
    omega
theorem leave_svi {D : Dt} {c : Nat} {S : FS} : svi (leaveP D c S) = svi S := by
  unfold leaveP
  show svi (if sw S c = true then leaveW D c S else leaveH D c S) = _
  split
  · unfold leaveW; split <;> rfl
  · unfold leaveH
    split
    · rfl
    · split <;> rfl
theorem enter_svi {D : Dt} {c : Nat} {S : FS} : svi (enterP D c S) = setB (svi S) c true := by
  unfold enterP
  show setB (svi (ent2P D c (ent1P D c S))) c true = _
  unfold ent2P
  split <;> rfl
theorem flowP_vis {D : Dt} : ∀ (f k at_ : Nat) (S : FS) (d : Nat), svi S d = true → svi (flowP D f k at_ S) d = true := by
  intro f
  induction f with
  | zero => intro k at_ S d h; exact h
  | succ f ih =>
    intro k at_ S d h
    cases hx : nx D k at_ with
    | none => rw [flowP_none hx]; exact h
    | some c =>
      by_cases ht : dtx D c = true
      · rw [flowP_text hx ht]
        refine ih _ _ _ d ?_
        rw [runP_svi]
        exact visV_set _ h
      · have ht : dtx D c = false := by cases e : dtx D c; rfl; exact absurd e ht
        rw [flowP_box hx ht]
        refine ih _ _ _ d ?_
        rw [leave_svi]
        refine ih _ _ _ d ?_
        show svi (enterP D c S) d = true
        rw [enter_svi]
        unfold setB
        split
        · rfl
        · exact h
theorem Uf_flow {D : Dt} {f k at_ : Nat} {S : FS} : Uf D (flowP D f k at_ S) ≤ Uf D S := Uw_mono (fun d h => flowP_vis f k at_ S d h) _
theorem Uf_run {D : Dt} {k m a : Nat} {S : FS} (hm : dn D ≤ a + m + 1) (ha : a < dn D) (ht : dtx D a = true) (hp : dpar D a = k) (hv : ∀ x, x ∈ runL D k m a → svi S x = false) : Uf D (runP D k (runL D k m a) S) + runW D (runL D k m a) = Uf D S := by
  unfold Uf
  rw [runP_svi]
  exact Uw_vis _ (runL_nodup m a hm ha ht hp) (fun x hx => ⟨hv x hx, (runL_in m a hm ha ht hp x hx).2.2.1, (runL_in m a hm ha ht hp x hx).2.1⟩)
theorem Uf_enter {D : Dt} {c : Nat} {S : FS} (h : dtx D c = false) : Uf D (begP c (enterP D c S)) = Uf D S := by
  show Uw D (svi (enterP D c S)) (dn D) = _
  rw [enter_svi, Uw_box h]
  rfl
theorem Uf_leave {D : Dt} {c : Nat} {S : FS} : Uf D (leaveP D c S) = Uf D S := by unfold Uf; rw [leave_svi]

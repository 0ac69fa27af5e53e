/-! WHAT A LAYOUT SHOWS DOESN'T HANG ON WHAT LAY IN THE ROWS BEFORE (by wip/p27/gen_pure3.py) -/
def reP (a h : Nat → Int32) : FS → FS
  | (y, ab, be, w, _, _, ls, vi, lv, cl) => (y, ab, be, w, a, h, ls, vi, lv, cl)
def AQ (D : Dt) (w vi cl : Nat → Bool) (a a' h h' : Nat → Int32) : Prop := ∀ k, k < dn D →
  (dtx D k = false → vi k = true → a (32 + k) = a' (32 + k) ∧ h k = h' k ∧ (k ≠ 0 → a k = a' k ∧ (w k = false → a (16 + k) = a' (16 + k)))) ∧
  (dtx D k = false → k ≠ 0 → cl k = true → a (48 + k) = a' (48 + k)) ∧
  (dtx D k = true → vi k = true → dwc D k ≠ 0 → a k = a' k)
def SQ (D : Dt) (S S' : FS) : Prop := ∃ a' h', S' = reP a' h' S ∧ AQ D (sw S) (svi S) (scl S) (sa S) a' (sh S) h'
theorem SQ.pend {D : Dt} {S S' : FS} (m : Int32) (q : SQ D S S') : SQ D (pendP m S) (pendP m S') := by
  obtain ⟨a', h', rfl, q⟩ := q
  exact ⟨a', h', rfl, q⟩
theorem SQ.qad {D : Dt} {S S' : FS} (m : Int32) (q : SQ D S S') : SQ D (addY m S) (addY m S') := by
  obtain ⟨a', h', rfl, q⟩ := q
  exact ⟨a', h', rfl, q⟩
theorem SQ.qsy {D : Dt} {S S' : FS} (m : Int32) (q : SQ D S S') : SQ D (setY m S) (setY m S') := by
  obtain ⟨a', h', rfl, q⟩ := q
  exact ⟨a', h', rfl, q⟩
theorem SQ.drop {D : Dt} {S S' : FS} (q : SQ D S S') : SQ D (dropP S) (dropP S') := by
  obtain ⟨a', h', rfl, q⟩ := q
  exact ⟨a', h', rfl, q⟩
theorem SQ.beg {D : Dt} {S S' : FS} (c : Nat) (q : SQ D S S') : SQ D (begP c S) (begP c S') := by
  obtain ⟨a', h', rfl, q⟩ := q
  exact ⟨a', h', rfl, q⟩
theorem SQ.shut {D : Dt} {S S' : FS} (box : Nat) (r : Int32 × Int32 × Int32) (q : SQ D S S') : SQ D (shutP box (S, r)) (shutP box (S', r)) := by
  obtain ⟨a', h', rfl, q⟩ := q
  exact ⟨a', h', rfl, q⟩
theorem SQ.y {D : Dt} {S S' : FS} (q : SQ D S S') : sy S' = sy S := by
  obtain ⟨a', h', rfl, q⟩ := q
  rfl
theorem SQ.ls {D : Dt} {S S' : FS} (q : SQ D S S') : sls S' = sls S := by
  obtain ⟨a', h', rfl, q⟩ := q
  rfl
theorem SQ.w {D : Dt} {S S' : FS} (q : SQ D S S') : sw S' = sw S := by
  obtain ⟨a', h', rfl, q⟩ := q
  rfl
theorem SQ.qpy {D : Dt} {S S' : FS} (q : SQ D S S') : pendY S' = pendY S := by
  obtain ⟨a', h', rfl, q⟩ := q
  rfl
theorem SQ.qat {D : Dt} {S S' : FS} (q : SQ D S S') : AQ D (sw S) (svi S) (scl S) (sa S) (sa S') (sh S) (sh S') := by
  obtain ⟨a', h', rfl, q⟩ := q
  exact q
theorem SQ.of {D : Dt} {S S' : FS} (e : S' = reP (sa S') (sh S') S) (q : AQ D (sw S) (svi S) (scl S) (sa S) (sa S') (sh S) (sh S')) : SQ D S S' := ⟨_, _, e, q⟩
theorem SQ.wid {D : Dt} {S S' : FS} {k : Nat} (q : SQ D S S') (hk : k < dn D) (ht : dtx D k = false) (hv : svi S k = true) : sa S' (32 + k) = sa S (32 + k) := (((q.qat k hk).1 ht hv).1).symm
theorem SQ.hei {D : Dt} {S S' : FS} {k : Nat} (q : SQ D S S') (hk : k < dn D) (ht : dtx D k = false) (hv : svi S k = true) : sh S' k = sh S k := (((q.qat k hk).1 ht hv).2.1).symm
theorem SQ.inn {D : Dt} {S S' : FS} {k : Nat} (q : SQ D S S') (hk : k < dn D) (ht : dtx D k = false) (hv : svi S k = true) : inP D k (sa S') = inP D k (sa S) := by
  unfold inP
  by_cases z : k = 0
  · rw [if_pos z, if_pos z]
  · rw [if_neg z, if_neg z, ((q.qat k hk).1 ht hv).2.2 z |>.1]
theorem tops_o {w : Nat → Bool} {a : Nat → Int32} {y : Int32} {i : Nat} (h : i < 17 ∨ 27 < i) : topsP w a y i = a i := if_neg (fun q => by omega)
theorem tops_t {w : Nat → Bool} {a : Nat → Int32} {y : Int32} {k : Nat} (h0 : k ≠ 0) (h : k < 12) (hw : w k = true) : topsP w a y (16 + k) = y := if_pos ⟨by omega, by omega, by rw [Nat.add_sub_cancel_left]; exact hw⟩
theorem tops_f {w : Nat → Bool} {a : Nat → Int32} {y : Int32} {k : Nat} (hw : ¬ w k = true) : topsP w a y (16 + k) = a (16 + k) := if_neg (fun q => by
  have := q.2.2
  rw [Nat.add_sub_cancel_left] at this
  exact hw this)
theorem SQ.qen {D : Dt} {S S' : FS} (hn : dn D ≤ 12) (q : SQ D S S') : SQ D (endP S) (endP S') := by
  obtain ⟨y, ab, be, w, a, h, ls, vi, lv, cl⟩ := S
  obtain ⟨a', h', rfl, q⟩ := q
  have q : AQ D w vi cl a a' h h' := q
  refine ⟨topsP w a' ((y + ab) + be), h', rfl, ?_⟩
  show AQ D (fun _ => false) vi cl (topsP w a ((y + ab) + be)) (topsP w a' ((y + ab) + be)) h h'
  intro k hk
  obtain ⟨q1, q2, q3⟩ := q k hk
  refine ⟨fun ht hv => ?_, fun ht h0 hc => ?_, fun ht hv hw => ?_⟩
  · obtain ⟨g1, g2, g3⟩ := q1 ht hv
    refine ⟨by rw [tops_o (by omega), tops_o (by omega)]; exact g1, g2, fun h0 => ⟨by rw [tops_o (by omega), tops_o (by omega)]; exact (g3 h0).1, fun _ => ?_⟩⟩
    by_cases z : w k = true
    · rw [tops_t h0 (by omega) z, tops_t h0 (by omega) z]
    · rw [tops_f z, tops_f z]
      exact (g3 h0).2 (by cases e : w k; rfl; exact absurd e z)
  · rw [tops_o (by omega), tops_o (by omega)]; exact q2 ht h0 hc
  · rw [tops_o (by omega), tops_o (by omega)]; exact q3 ht hv hw
theorem SQ.ent1 {D : Dt} {S S' : FS} (c : Nat) (q : SQ D S S') : SQ D (ent1P D c S) (ent1P D c S') := by
  obtain ⟨y, ab, be, w, a, h, ls, vi, lv, cl⟩ := S
  obtain ⟨a', h', rfl, q⟩ := q
  have q : AQ D w vi cl a a' h h' := q
  refine ⟨a', h', rfl, ?_⟩
  show AQ D (setB w c true) vi cl a a' h h'
  intro k hk
  obtain ⟨q1, q2, q3⟩ := q k hk
  refine ⟨fun ht hv => ?_, q2, q3⟩
  obtain ⟨g1, g2, g3⟩ := q1 ht hv
  refine ⟨g1, g2, fun h0 => ⟨(g3 h0).1, fun e => (g3 h0).2 ?_⟩⟩
  unfold setB at e
  split at e
  · cases e
  · exact e
def putE (c : Nat) (v v2 v3 : Int32) : FS → FS
  | (y, ab, be, w, a, h, ls, vi, lv, cl) => (y, ab, be, w, setI (setI a c v) (32 + c) v2, setI h c v3, ls, setB vi c true, lv, cl)
theorem ent3_put {D : Dt} {c : Nat} {a0 h0 : Nat → Int32} {S : FS} : ent3P D c a0 h0 S = putE c (inP D (dpar D c) a0 + dst D c 9) (wIn (dst D c 4) (a0 (32 + dpar D c)) (a0 (32 + dpar D c) - rimP D c)) (hIn (dst D c 5) (h0 (dpar D c))) S := rfl
theorem setI_o {f : Nat → Int32} {k j : Nat} {x : Int32} (h : j ≠ k) : setI f k x j = f j := if_neg h
theorem setB_o {f : Nat → Bool} {k j : Nat} {x : Bool} (h : j ≠ k) : setB f k x j = f j := if_neg h
theorem SQ.put {D : Dt} {S S' : FS} {c : Nat} (v v2 v3 : Int32) (hn : dn D ≤ 12) (hc : c < dn D) (htc : dtx D c = false) (q : SQ D S S') (hT : sw S c = false → sa S (16 + c) = sa S' (16 + c)) : SQ D (putE c v v2 v3 S) (putE c v v2 v3 S') := by
  obtain ⟨y, ab, be, w, a, h, ls, vi, lv, cl⟩ := S
  obtain ⟨a', h', rfl, q⟩ := q
  have q : AQ D w vi cl a a' h h' := q
  have hT : w c = false → a (16 + c) = a' (16 + c) := hT
  refine ⟨setI (setI a' c v) (32 + c) v2, setI h' c v3, rfl, ?_⟩
  show AQ D w (setB vi c true) cl (setI (setI a c v) (32 + c) v2) (setI (setI a' c v) (32 + c) v2) (setI h c v3) (setI h' c v3)
  intro k hk
  obtain ⟨q1, q2, q3⟩ := q k hk
  refine ⟨fun ht hv => ?_, fun ht h0 hcl => ?_, fun ht hv hw => ?_⟩
  · by_cases z : k = c
    · subst z
      refine ⟨by rw [setI_self, setI_self], by rw [setI_self, setI_self], fun h0 => ⟨((setI_o (by omega)).trans setI_self).trans ((setI_o (by omega)).trans setI_self).symm, fun e => ?_⟩⟩
      rw [setI_o (by omega), setI_o (by omega), setI_o (by omega), setI_o (by omega)]
      exact hT e
    · rw [setB_o z] at hv
      obtain ⟨g1, g2, g3⟩ := q1 ht hv
      refine ⟨?_, by rw [setI_o z, setI_o z]; exact g2, fun h0 => ⟨?_, fun e => ?_⟩⟩
      · rw [setI_o (by omega), setI_o (by omega), setI_o (by omega), setI_o (by omega)]; exact g1
      · rw [setI_o (by omega), setI_o (by omega), setI_o (by omega), setI_o (by omega)]; exact (g3 h0).1
      · rw [setI_o (by omega), setI_o (by omega), setI_o (by omega), setI_o (by omega)]; exact (g3 h0).2 e
  · rw [setI_o (by omega), setI_o (by omega), setI_o (by omega), setI_o (by omega)]; exact q2 ht h0 hcl
  · have z : k ≠ c := fun e => by rw [e, htc] at ht; cases ht
    rw [setB_o z] at hv
    rw [setI_o (by omega), setI_o (by omega), setI_o (by omega), setI_o (by omega)]; exact q3 ht hv hw
theorem SQ.enter {D : Dt} {S S' : FS} {c : Nat} (hn : dn D ≤ 12) (hc0 : c ≠ 0) (hc : c < dn D) (htc : dtx D c = false) (hp : dpar D c < dn D) (hpt : dtx D (dpar D c) = false) (hpv : svi S (dpar D c) = true) (q : SQ D S S') : SQ D (enterP D c S) (enterP D c S') := by
  have q1 := q.ent1 c
  have q2 : SQ D (ent2P D c (ent1P D c S)) (ent2P D c (ent1P D c S')) := by
    unfold ent2P
    by_cases z : 0 < dst D c 10
    · rw [if_pos z, if_pos z]; exact (q1.qen hn).qad _
    · rw [if_neg z, if_neg z]; exact q1
  have hT : sw (ent2P D c (ent1P D c S)) c = false → sa (ent2P D c (ent1P D c S)) (16 + c) = sa (ent2P D c (ent1P D c S')) (16 + c) := by
    have w1 : ∀ S : FS, sw (ent1P D c S) c = true := fun S => if_pos rfl
    unfold ent2P
    by_cases z : 0 < dst D c 10
    · rw [if_pos z, if_pos z]
      intro _
      have e : pendY (ent1P D c S') = pendY (ent1P D c S) := q1.qpy
      have k1 : sa (addY (dst D c 10) (endP (ent1P D c S))) (16 + c) = pendY (ent1P D c S) := tops_t (y := pendY (ent1P D c S)) hc0 (by omega) (w1 S)
      have k2 : sa (addY (dst D c 10) (endP (ent1P D c S'))) (16 + c) = pendY (ent1P D c S') := tops_t (y := pendY (ent1P D c S')) hc0 (by omega) (w1 S')
      rw [k1, k2, e]
    · rw [if_neg z, if_neg z]
      intro e
      rw [w1 S] at e
      cases e
  unfold enterP
  rw [ent3_put, ent3_put, q.inn hp hpt hpv, q.wid hp hpt hpv, q.hei hp hpt hpv]
  exact q2.put _ _ _ hn hc htc hT
theorem SQ.a48 {D : Dt} {S S' : FS} {c : Nat} (v : Int32) (hn : dn D ≤ 12) (hc : c < dn D) (q : SQ D S S') : SQ D (setA (48 + c) v S) (setA (48 + c) v S') := by
  obtain ⟨y, ab, be, w, a, h, ls, vi, lv, cl⟩ := S
  obtain ⟨a', h', rfl, q⟩ := q
  have q : AQ D w vi cl a a' h h' := q
  refine ⟨setI a' (48 + c) v, h', rfl, ?_⟩
  show AQ D w vi cl (setI a (48 + c) v) (setI a' (48 + c) v) h h'
  intro k hk
  obtain ⟨q1, q2, q3⟩ := q k hk
  refine ⟨fun ht hv => ?_, fun ht h0 hcl => ?_, fun ht hv hw => ?_⟩
  · obtain ⟨g1, g2, g3⟩ := q1 ht hv
    refine ⟨?_, g2, fun h0 => ⟨?_, fun e => ?_⟩⟩
    · rw [setI_o (by omega), setI_o (by omega)]; exact g1
    · rw [setI_o (by omega), setI_o (by omega)]; exact (g3 h0).1
    · rw [setI_o (by omega), setI_o (by omega)]; exact (g3 h0).2 e
  · by_cases z : k = c
    · rw [z, setI_self, setI_self]
    · rw [setI_o (by omega), setI_o (by omega)]; exact q2 ht h0 hcl
  · rw [setI_o (by omega), setI_o (by omega)]; exact q3 ht hv hw
theorem SQ.unw {D : Dt} {S S' : FS} {c : Nat} (p : Int32) (hn : dn D ≤ 12) (hc0 : c ≠ 0) (hc : c < dn D) (q : SQ D S S') : SQ D (unwP c (setA (16 + c) p S)) (unwP c (setA (16 + c) p S')) := by
  obtain ⟨y, ab, be, w, a, h, ls, vi, lv, cl⟩ := S
  obtain ⟨a', h', rfl, q⟩ := q
  have q : AQ D w vi cl a a' h h' := q
  refine ⟨setI a' (16 + c) p, h', rfl, ?_⟩
  show AQ D (setB w c false) vi cl (setI a (16 + c) p) (setI a' (16 + c) p) h h'
  intro k hk
  obtain ⟨q1, q2, q3⟩ := q k hk
  refine ⟨fun ht hv => ?_, fun ht h0 hcl => ?_, fun ht hv hw => ?_⟩
  · obtain ⟨g1, g2, g3⟩ := q1 ht hv
    refine ⟨?_, g2, fun h0 => ⟨?_, fun e => ?_⟩⟩
    · rw [setI_o (by omega), setI_o (by omega)]; exact g1
    · rw [setI_o (by omega), setI_o (by omega)]; exact (g3 h0).1
    · by_cases z : k = c
      · rw [z, setI_self, setI_self]
      · rw [setB_o z] at e
        rw [setI_o (by omega), setI_o (by omega)]; exact (g3 h0).2 e
  · rw [setI_o (by omega), setI_o (by omega)]; exact q2 ht h0 hcl
  · rw [setI_o (by omega), setI_o (by omega)]; exact q3 ht hv hw
theorem SQ.cl {D : Dt} {S S' : FS} {c : Nat} (q : SQ D S S') (hC : sa S (48 + c) = sa S' (48 + c)) : SQ D (clP c S) (clP c S') := by
  obtain ⟨y, ab, be, w, a, h, ls, vi, lv, cl⟩ := S
  obtain ⟨a', h', rfl, q⟩ := q
  have q : AQ D w vi cl a a' h h' := q
  refine ⟨a', h', rfl, ?_⟩
  show AQ D w vi (setB cl c true) a a' h h'
  intro k hk
  obtain ⟨q1, q2, q3⟩ := q k hk
  refine ⟨q1, fun ht h0 hcl => ?_, q3⟩
  by_cases z : k = c
  · rw [z]; exact hC
  · rw [setB_o z] at hcl
    exact q2 ht h0 hcl
theorem endP_48 {S : FS} {c : Nat} : sa (endP S) (48 + c) = sa S (48 + c) := tops_o (w := sw S) (a := sa S) (y := pendY S) (by omega)
theorem SQ.leave {D : Dt} {S S' : FS} {c : Nat} (hn : dn D ≤ 12) (hc0 : c ≠ 0) (hc : c < dn D) (htc : dtx D c = false) (hv : svi S c = true) (q : SQ D S S') : SQ D (leaveP D c S) (leaveP D c S') := by
  have eh : sh S' c = sh S c := q.hei hc htc hv
  unfold leaveP
  rw [show sw S' = sw S from q.w]
  by_cases z : sw S c = true
  · rw [if_pos z, if_pos z]
    unfold leaveW
    rw [eh]
    have q1 := q.a48 (c := c) (mx 0 (sh S c)) hn hc
    by_cases y : 0 < mx 0 (sh S c) ∨ 0 < dst D c 12
    · rw [if_pos y, if_pos y]
      refine (((q1.qen hn).qad _).pend _).cl ?_
      show sa (endP (setA (48 + c) (mx 0 (sh S c)) S)) (48 + c) = sa (endP (setA (48 + c) (mx 0 (sh S c)) S')) (48 + c)
      rw [endP_48, endP_48]
      exact (setI_self (f := sa S)).trans (setI_self (f := sa S')).symm
    · rw [if_neg y, if_neg y, show pendY S' = pendY S from q.qpy]
      refine ((q1.unw (pendY S) hn hc0 hc).pend _).cl ?_
      show setI (setI (sa S) (48 + c) (mx 0 (sh S c))) (16 + c) (pendY S) (48 + c) = setI (setI (sa S') (48 + c) (mx 0 (sh S c))) (16 + c) (pendY S) (48 + c)
      exact ((setI_o (by omega)).trans setI_self).trans ((setI_o (by omega)).trans setI_self).symm
  · rw [if_neg z, if_neg z]
    have ew : sw S c = false := by cases e : sw S c; rfl; exact absurd e z
    have et : sa S' (16 + c) = sa S (16 + c) := ((((q.qat c hc).1 htc hv).2.2 hc0).2 ew).symm
    unfold leaveH
    rw [eh, et, show pendY S' = pendY S from q.qpy, show sy S' = sy S from q.y]
    by_cases y : 0 ≤ sh S c
    · rw [if_pos y, if_pos y]
      refine (((q.drop.a48 (c := c) (sh S c) hn hc).qsy _).pend _).cl ?_
      exact (setI_self (f := sa S)).trans (setI_self (f := sa S')).symm
    · rw [if_neg y, if_neg y]
      by_cases x : 0 < dst D c 12
      · rw [if_pos x, if_pos x]
        refine ((((q.qen hn).a48 (c := c) _ hn hc).qsy _).pend _).cl ?_
        exact (setI_self (f := sa (endP S))).trans (setI_self (f := sa (endP S'))).symm
      · rw [if_neg x, if_neg x]
        refine ((q.a48 (c := c) _ hn hc).pend _).cl ?_
        exact (setI_self (f := sa S)).trans (setI_self (f := sa S')).symm
/-- the words -/
theorem SQ.at_ {D : Dt} {S S' : FS} {c : Nat} (v : Int32) (hn : dn D ≤ 12) (hc : c < dn D) (htc : dtx D c = true) (q : SQ D S S') : SQ D (setA c v S) (setA c v S') := by
  obtain ⟨y, ab, be, w, a, h, ls, vi, lv, cl⟩ := S
  obtain ⟨a', h', rfl, q⟩ := q
  have q : AQ D w vi cl a a' h h' := q
  refine ⟨setI a' c v, h', rfl, ?_⟩
  show AQ D w vi cl (setI a c v) (setI a' c v) h h'
  intro k hk
  obtain ⟨q1, q2, q3⟩ := q k hk
  refine ⟨fun ht hv => ?_, fun ht h0 hcl => ?_, fun ht hv hw => ?_⟩
  · have z : k ≠ c := fun e => by rw [e, htc] at ht; cases ht
    obtain ⟨g1, g2, g3⟩ := q1 ht hv
    refine ⟨?_, g2, fun h0 => ⟨?_, fun e => ?_⟩⟩
    · rw [setI_o (by omega), setI_o (by omega)]; exact g1
    · rw [setI_o (by omega), setI_o (by omega)]; exact (g3 h0).1
    · rw [setI_o (by omega), setI_o (by omega)]; exact (g3 h0).2 e
  · rw [setI_o (by omega), setI_o (by omega)]; exact q2 ht h0 hcl
  · by_cases z : k = c
    · rw [z, setI_self, setI_self]
    · rw [setI_o z, setI_o z]; exact q3 ht hv hw
def RQ (D : Dt) (Y Y' : RS) : Prop := SQ D Y.1 Y'.1 ∧ Y'.2 = Y.2
theorem brkw_eq {D : Dt} {box c i : Nat} {Y : RS} : wordP D box c i Y = (let Z : RS := brkP D box (dln D c i) Y; ((if i = 0 then setA c (inP D box (sa Z.1) + (if Z.2.1 = 0 then 0 else Z.2.1 + 1)) Z.1 else Z.1), (if Z.2.1 = 0 then 0 else Z.2.1 + 1) + dln D c i, mx Z.2.2.1 (ascP D c), mx Z.2.2.2 (dsz D c - ascP D c))) := rfl
theorem RQ.brk {D : Dt} {box : Nat} {len : Int32} {Y Y' : RS} (hb : box < dn D) (hbt : dtx D box = false) (hbv : svi Y.1 box = true) (q : RQ D Y Y') : RQ D (brkP D box len Y) (brkP D box len Y') := by
  obtain ⟨S, r⟩ := Y
  obtain ⟨S', r'⟩ := Y'
  obtain ⟨q, e⟩ := q
  have e : r' = r := e
  subst e
  unfold brkP
  rw [show sa (S', r').1 (32 + box) = sa (S, r').1 (32 + box) from q.wid hb hbt hbv]
  by_cases z : r'.1 ≠ 0 ∧ ¬ ((r'.1 + 1) + len ≤ sa (S, r').1 (32 + box))
  · rw [if_pos z, if_pos z]
    exact ⟨q.shut box r', rfl⟩
  · rw [if_neg z, if_neg z]
    exact ⟨q, rfl⟩
theorem brk_sac {D : Dt} {box : Nat} {len : Int32} {Y : RS} : sa (brkP D box len Y).1 = sa Y.1 := by
  unfold brkP
  split <;> rfl
theorem RQ.word {D : Dt} {box c i : Nat} {Y Y' : RS} (hn : dn D ≤ 12) (hb : box < dn D) (hbt : dtx D box = false) (hbv : svi Y.1 box = true) (hc : c < dn D) (htc : dtx D c = true) (q : RQ D Y Y') (hC : 0 < i → sa Y.1 c = sa Y'.1 c) : RQ D (wordP D box c i Y) (wordP D box c i Y') ∧ sa (wordP D box c i Y).1 c = sa (wordP D box c i Y').1 c := by
  have q1 := q.brk (len := dln D c i) hb hbt hbv
  have v1 : svi (brkP D box (dln D c i) Y).1 box = true := by rw [brk_svi]; exact hbv
  have hC' : 0 < i → sa (brkP D box (dln D c i) Y).1 c = sa (brkP D box (dln D c i) Y').1 c := fun h => by rw [brk_sac, brk_sac]; exact hC h
  rw [brkw_eq, brkw_eq]
  generalize brkP D box (dln D c i) Y = Z at *
  generalize brkP D box (dln D c i) Y' = Z' at *
  obtain ⟨S, r⟩ := Z
  obtain ⟨S', r'⟩ := Z'
  obtain ⟨q1, e⟩ := q1
  have e : r' = r := e
  subst e
  have hi : inP D box (sa S') = inP D box (sa S) := q1.inn hb hbt v1
  by_cases z : i = 0
  · refine ⟨⟨?_, rfl⟩, ?_⟩
    · show SQ D (if i = 0 then setA c (inP D box (sa S) + (if r'.1 = 0 then 0 else r'.1 + 1)) S else S) (if i = 0 then setA c (inP D box (sa S') + (if r'.1 = 0 then 0 else r'.1 + 1)) S' else S')
      rw [if_pos z, if_pos z, hi]
      exact q1.at_ _ hn hc htc
    · show sa (if i = 0 then setA c (inP D box (sa S) + (if r'.1 = 0 then 0 else r'.1 + 1)) S else S) c = sa (if i = 0 then setA c (inP D box (sa S') + (if r'.1 = 0 then 0 else r'.1 + 1)) S' else S') c
      rw [if_pos z, if_pos z, hi]
      exact (setI_self (f := sa S)).trans (setI_self (f := sa S')).symm
  · refine ⟨⟨?_, rfl⟩, ?_⟩
    · show SQ D (if i = 0 then setA c (inP D box (sa S) + (if r'.1 = 0 then 0 else r'.1 + 1)) S else S) (if i = 0 then setA c (inP D box (sa S') + (if r'.1 = 0 then 0 else r'.1 + 1)) S' else S')
      rw [if_neg z, if_neg z]
      exact q1
    · show sa (if i = 0 then setA c (inP D box (sa S) + (if r'.1 = 0 then 0 else r'.1 + 1)) S else S) c = sa (if i = 0 then setA c (inP D box (sa S') + (if r'.1 = 0 then 0 else r'.1 + 1)) S' else S') c
      rw [if_neg z, if_neg z]
      exact hC' (by omega)
theorem RQ.words {D : Dt} {box c : Nat} {Y Y' : RS} (hn : dn D ≤ 12) (hb : box < dn D) (hbt : dtx D box = false) (hbv : svi Y.1 box = true) (hc : c < dn D) (htc : dtx D c = true) (q : RQ D Y Y') : ∀ i, RQ D (wordsP D box c i Y) (wordsP D box c i Y') ∧ (0 < i → sa (wordsP D box c i Y).1 c = sa (wordsP D box c i Y').1 c)
  | 0 => ⟨q, fun h => absurd h (Nat.lt_irrefl 0)⟩
  | i + 1 => by
    obtain ⟨q1, q2⟩ := RQ.words hn hb hbt hbv hc htc q i
    have h := q1.word (box := box) (c := c) (i := i) hn hb hbt (by rw [words_svi]; exact hbv) hc htc q2
    exact ⟨h.1, fun _ => h.2⟩
theorem SQ.vis {D : Dt} {S S' : FS} {c : Nat} (htc : dtx D c = true) (q : SQ D S S') (hC : dwc D c ≠ 0 → sa S c = sa S' c) : SQ D (visP c S) (visP c S') := by
  obtain ⟨y, ab, be, w, a, h, ls, vi, lv, cl⟩ := S
  obtain ⟨a', h', rfl, q⟩ := q
  have q : AQ D w vi cl a a' h h' := q
  refine ⟨a', h', rfl, ?_⟩
  show AQ D w (setB vi c true) cl a a' h h'
  intro k hk
  obtain ⟨q1, q2, q3⟩ := q k hk
  refine ⟨fun ht hv => ?_, q2, fun ht hv hw => ?_⟩
  · have z : k ≠ c := fun e => by rw [e, htc] at ht; cases ht
    rw [setB_o z] at hv
    exact q1 ht hv
  · by_cases z : k = c
    · rw [z] at hw ⊢; exact hC hw
    · rw [setB_o z] at hv
      exact q3 ht hv hw
theorem RQ.text {D : Dt} {box c : Nat} {Y Y' : RS} (hn : dn D ≤ 12) (hb : box < dn D) (hbt : dtx D box = false) (hbv : svi Y.1 box = true) (hc : c < dn D) (htc : dtx D c = true) (q : RQ D Y Y') : RQ D (textP D box c Y) (textP D box c Y') := by
  obtain ⟨⟨q1, q2⟩, q3⟩ := RQ.words hn hb hbt hbv hc htc q (dwc D c)
  refine ⟨?_, q2⟩
  exact SQ.vis htc q1 (fun h => q3 (by omega))
theorem RQ.run {D : Dt} {box : Nat} (hn : dn D ≤ 12) (hb : box < dn D) (hbt : dtx D box = false) : ∀ (r : List Nat) {Y Y' : RS}, (∀ x, x ∈ r → x < dn D ∧ dtx D x = true) → svi Y.1 box = true → RQ D Y Y' → RQ D (runT D box r Y) (runT D box r Y')
  | [], _, _, _, _, q => q
  | c :: r, Y, Y', hr, hv, q => by
    have h1 := RQ.text hn hb hbt hv (hr c List.mem_cons_self).1 (hr c List.mem_cons_self).2 q
    refine RQ.run hn hb hbt r (Y := textP D box c Y) (Y' := textP D box c Y') (fun x hx => hr x (List.mem_cons_of_mem _ hx)) ?_ h1
    rw [text_svi]
    unfold setB
    split
    · rfl
    · exact hv
theorem SQ.qvl {D : Dt} : ∀ (r : List Nat) {S S' : FS}, (∀ x, x ∈ r → x < dn D ∧ dtx D x = true) → runW D r = 0 → SQ D S S' → SQ D (visL r S) (visL r S')
  | [], _, _, _, _, q => q
  | c :: r, S, S', hr, hw, q => by
    rw [runW_cons] at hw
    exact SQ.qvl r (S := visP c S) (S' := visP c S') (fun x hx => hr x (List.mem_cons_of_mem _ hx)) (by omega) (SQ.vis (hr c List.mem_cons_self).2 q (fun h => by omega))
theorem SQ.run {D : Dt} {box : Nat} {r : List Nat} {S S' : FS} (hn : dn D ≤ 12) (hb : box < dn D) (hbt : dtx D box = false) (hbv : svi S box = true) (hr : ∀ x, x ∈ r → x < dn D ∧ dtx D x = true) (q : SQ D S S') : SQ D (runP D box r S) (runP D box r S') := by
  unfold runP
  by_cases z : runW D r = 0
  · rw [if_pos z, if_pos z]; exact SQ.qvl r hr z q
  · rw [if_neg z, if_neg z]
    have h := RQ.run hn hb hbt r (Y := (endP S, 0, 0, 0)) (Y' := (endP S', 0, 0, 0)) hr hbv ⟨q.qen hn, rfl⟩
    have e := h.2
    generalize runT D box r (endP S, 0, 0, 0) = Z at *
    generalize runT D box r (endP S', 0, 0, 0) = Z' at *
    obtain ⟨A, x⟩ := Z
    obtain ⟨A', x'⟩ := Z'
    have e : x' = x := e
    subst e
    exact h.1.shut box x'
theorem SQ.flow {D : Dt} (hD : DW D) : ∀ (f k at_ : Nat) (S S' : FS), dn D ≤ at_ + f → k ≤ at_ → k < dn D → dtx D k = false → svi S k = true → SQ D S S' → SQ D (flowP D f k at_ S) (flowP D f k at_ S') := by
  have hn := hD.2.1
  intro f
  induction f with
  | zero => intro k at_ S S' hf hka hk ht hv q; exact q
  | succ f ih =>
    intro k at_ S S' hf hka hk ht hv q
    cases hx : nx D k at_ with
    | none => rw [flowP_none hx, flowP_none hx]; exact q
    | some c =>
    obtain ⟨hac, hcn, hcp⟩ := nx_up hx
    by_cases htx : dtx D c = true
    · rw [flowP_text hx htx, flowP_text hx htx]
      have hin := runL_in f c (by omega) hcn htx hcp
      obtain ⟨hl1, hln, hl3, hl4⟩ := hin _ (runL_lastmem (D := D) (k := k) (m := f) (a := c))
      refine ih k _ _ _ (by omega) (by omega) hk ht ?_ (q.run hn hk ht hv (fun x hx => ⟨(hin x hx).2.1, (hin x hx).2.2.1⟩))
      rw [runP_svi]
      exact visV_set _ hv
    · have htx : dtx D c = false := by cases e : dtx D c; rfl; exact absurd e htx
      rw [flowP_box hx htx, flowP_box hx htx]
      have q1 : SQ D (enterP D c S) (enterP D c S') := q.enter hn (by omega) hcn htx (by rw [hcp]; exact hk) (by rw [hcp]; exact ht) (by rw [hcp]; exact hv)
      have vc : svi (begP c (enterP D c S)) c = true := by
        show svi (enterP D c S) c = true
        rw [enter_svi]; exact if_pos rfl
      have vk : svi (begP c (enterP D c S)) k = true := by
        show svi (enterP D c S) k = true
        rw [enter_svi]; exact (if_neg (by omega)).trans hv
      have q2 := ih c c _ _ (by omega) (Nat.le_refl _) hcn htx vc (q1.beg c)
      refine ih k c _ _ (by omega) (by omega) hk ht ?_ (q2.leave hn (by omega) hcn htx (flowP_vis _ _ _ _ _ vc))
      rw [leave_svi]
      exact flowP_vis _ _ _ _ _ vk
theorem lays_sq {D : Dt} (hD : DW D) (W : Int32) (a h a' h' : Nat → Int32) : SQ D (laysP D W a h) (laysP D W a' h') := by
  rw [laysP_eq, laysP_eq]
  refine SQ.qen hD.2.1 (SQ.flow hD _ _ _ _ _ (by omega) (Nat.le_refl _) hD.1 hD.2.2.2.1 (S0_vi (W := W) (a := a) (h := h)) (SQ.beg 0 ?_))
  refine ⟨setI a' 32 W, setI h' 0 (-1), rfl, ?_⟩
  show AQ D (fun _ => false) (setB (fun _ => false) 0 true) (fun _ => false) (setI a 32 W) (setI a' 32 W) (setI h 0 (-1)) (setI h' 0 (-1))
  intro k hk
  by_cases z : k = 0
  · subst z
    refine ⟨fun _ _ => ⟨?_, by rw [setI_self, setI_self], fun h0 => absurd rfl h0⟩, fun _ h0 => absurd rfl h0, fun ht => by rw [hD.2.2.2.1] at ht; cases ht⟩
    rw [show 32 + 0 = 32 from rfl, setI_self, setI_self]
  · exact ⟨fun _ q => (by rw [setB_o z] at q; cases q), fun _ _ q => (by cases q), fun _ q => (by rw [setB_o z] at q; cases q)⟩
/-- what the law and the class may be asked -/
theorem lays_eq {D : Dt} (hD : DW D) (W : Int32) (a h : Nat → Int32) : sy (laysP D W a h) = sy (LSt D W) ∧ sls (laysP D W a h) = sls (LSt D W) ∧
    (∀ k, k < dn D → dtx D k = false → k ≠ 0 → sa (laysP D W a h) k = sa (LSt D W) k ∧ sa (laysP D W a h) (16 + k) = sa (LSt D W) (16 + k) ∧ sa (laysP D W a h) (32 + k) = sa (LSt D W) (32 + k) ∧ sa (laysP D W a h) (48 + k) = sa (LSt D W) (48 + k)) ∧
    (∀ c, c < dn D → dtx D c = true → dwc D c ≠ 0 → sa (laysP D W a h) c = sa (LSt D W) c) := by
  have q := lays_sq hD W z0 z0 a h
  refine ⟨q.y, q.ls, fun k hk ht h0 => ?_, fun c hc ht hw => (((q.qat c hc).2.2 ht (ls_met hD hc).1 hw)).symm⟩
  obtain ⟨g1, g2, g3⟩ := (q.qat k hk).1 ht (ls_met hD hk).1
  exact ⟨(g3 h0).1.symm, ((g3 h0).2 rfl).symm, g1.symm, ((q.qat k hk).2.1 ht h0 (((ls_met hD hk).2 ht).2 h0)).symm⟩

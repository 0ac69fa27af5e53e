/-! THE LAYOUT, as one mathematical value that class and law both come to: a tree of boxes and texts, numbered so that a parent is less than its children -/
/-- how many nodes; the parent; is it a text; how many words; their lengths; a text's size; a box's styles -/
abbrev Dt : Type := Nat × (Nat → Nat) × (Nat → Bool) × (Nat → Nat) × (Nat → Nat → Int32) × (Nat → Int32) × (Nat → Nat → Int32)
abbrev dn (D : Dt) : Nat := D.1
abbrev dpar (D : Dt) : Nat → Nat := D.2.1
abbrev dtx (D : Dt) : Nat → Bool := D.2.2.1
abbrev dwc (D : Dt) : Nat → Nat := D.2.2.2.1
abbrev dln (D : Dt) : Nat → Nat → Int32 := D.2.2.2.2.1
abbrev dsz (D : Dt) : Nat → Int32 := D.2.2.2.2.2.1
abbrev dst (D : Dt) : Nat → Nat → Int32 := D.2.2.2.2.2.2
/-- the next child of a box behind a node -/
def nx (D : Dt) (box at_ : Nat) : Option Nat := (List.range (dn D)).find? (fun k => decide (at_ < k) && decide (dpar D k = box))
theorem nx_some {D : Dt} {box at_ c : Nat} : nx D box at_ = some c ↔ (c < dn D ∧ at_ < c ∧ dpar D c = box ∧ ∀ j, at_ < j → j < c → dpar D j ≠ box) := by
  unfold nx
  rw [List.find?_range_eq_some]
  constructor
  · rintro ⟨h1, h2, h3⟩
    simp only [Bool.and_eq_true, decide_eq_true_eq] at h1
    refine ⟨List.mem_range.mp h2, h1.1, h1.2, fun j h4 h5 h6 => ?_⟩
    have := h3 j h5
    simp [h4, h6] at this
  · rintro ⟨h1, h2, h3, h4⟩
    refine ⟨by simp [h2, h3], List.mem_range.mpr h1, fun j hj => ?_⟩
    by_cases h5 : at_ < j
    · have := h4 j h5 hj
      simp [this]
    · simp [h5]
theorem nx_none {D : Dt} {box at_ : Nat} : nx D box at_ = none ↔ ∀ j, at_ < j → j < dn D → dpar D j ≠ box := by
  unfold nx
  rw [List.find?_eq_none]
  constructor
  · intro h j h1 h2 h3
    have := h j (List.mem_range.mpr h2)
    simp [h1, h3] at this
  · intro h j hj
    simp only [Bool.and_eq_true, decide_eq_true_eq, not_and]
    exact fun h1 => h j h1 (List.mem_range.mp hj)
/-- what a layout has reached: y, above, below; who waits; places (left, 16 + top, 32 + width, 48 + height); known heights; lines; what is entered, begun, closed -/
abbrev FS : Type := Int32 × Int32 × Int32 × (Nat → Bool) × (Nat → Int32) × (Nat → Int32) × List (Nat × Int32 × Int32) × (Nat → Bool) × (Nat → Bool) × (Nat → Bool)
def setB (f : Nat → Bool) (k : Nat) (b : Bool) : Nat → Bool := fun j => if j = k then b else f j
def setI (f : Nat → Int32) (k : Nat) (x : Int32) : Nat → Int32 := fun j => if j = k then x else f j
def pendP (m : Int32) : FS → FS
  | (y, ab, be, w, a, h, ls, vi, lv, cl) => (y, mx ab m, mn be m, w, a, h, ls, vi, lv, cl)
/-- the tops of those that wait -/
def topsP (w : Nat → Bool) (a : Nat → Int32) (y : Int32) : Nat → Int32 := fun i => if 17 ≤ i ∧ i ≤ 27 ∧ w (i - 16) = true then y else a i
def endP : FS → FS
  | (y, ab, be, w, a, h, ls, vi, lv, cl) => ((y + ab) + be, 0, 0, (fun _ => false), topsP w a ((y + ab) + be), h, ls, vi, lv, cl)
def inP (D : Dt) (box : Nat) (a : Nat → Int32) : Int32 := if box = 0 then 0 else a box + dst D box 13
def rimP (D : Dt) (c : Nat) : Int32 := ((dst D c 9 + dst D c 13) + dst D c 11) + dst D c 7
/-- a box's margin at the top is pending, it waits; with an edge there the margins end -/
def ent1P (D : Dt) (c : Nat) (S : FS) : FS := match pendP (dst D c 6) S with
  | (y, ab, be, w, a, h, ls, vi, lv, cl) => (y, ab, be, setB w c true, a, h, ls, vi, lv, cl)
def addY (e : Int32) : FS → FS
  | (y, ab, be, w, a, h, ls, vi, lv, cl) => (y + e, ab, be, w, a, h, ls, vi, lv, cl)
def ent2P (D : Dt) (c : Nat) (S : FS) : FS := if 0 < dst D c 10 then addY (dst D c 10) (endP S) else S
def ent3P (D : Dt) (c : Nat) (a0 h0 : Nat → Int32) : FS → FS
  | (y, ab, be, w, a, h, ls, vi, lv, cl) => (y, ab, be, w, setI (setI a c (inP D (dpar D c) a0 + dst D c 9)) (32 + c) (wIn (dst D c 4) (a0 (32 + dpar D c)) (a0 (32 + dpar D c) - rimP D c)), setI h c (hIn (dst D c 5) (h0 (dpar D c))), ls, setB vi c true, lv, cl)
def sa (S : FS) : Nat → Int32 := S.2.2.2.2.1
def sh (S : FS) : Nat → Int32 := S.2.2.2.2.2.1
def enterP (D : Dt) (c : Nat) (S : FS) : FS := ent3P D c (sa S) (sh S) (ent2P D c (ent1P D c S))
def begP (c : Nat) : FS → FS
  | (y, ab, be, w, a, h, ls, vi, lv, cl) => (y, ab, be, w, a, h, ls, vi, setB lv c true, cl)
def setA (k : Nat) (x : Int32) : FS → FS
  | (y, ab, be, w, a, h, ls, vi, lv, cl) => (y, ab, be, w, setI a k x, h, ls, vi, lv, cl)
def setY (x : Int32) : FS → FS
  | (_, ab, be, w, a, h, ls, vi, lv, cl) => (x, ab, be, w, a, h, ls, vi, lv, cl)
def dropP : FS → FS
  | (y, _, _, w, a, h, ls, vi, lv, cl) => (y, 0, 0, w, a, h, ls, vi, lv, cl)
def unwP (c : Nat) : FS → FS
  | (y, ab, be, w, a, h, ls, vi, lv, cl) => (y, ab, be, setB w c false, a, h, ls, vi, lv, cl)
def clP (c : Nat) : FS → FS
  | (y, ab, be, w, a, h, ls, vi, lv, cl) => (y, ab, be, w, a, h, ls, vi, lv, setB cl c true)
def pendY : FS → Int32
  | (y, ab, be, _, _, _, _, _, _, _) => (y + ab) + be
def sy (S : FS) : Int32 := S.1
def sw (S : FS) : Nat → Bool := S.2.2.2.1
/-- the lower end of a box that still waits -/
def leaveW (D : Dt) (c : Nat) (S : FS) : FS :=
  if 0 < mx 0 (sh S c) ∨ 0 < dst D c 12 then addY (dst D c 12 + mx 0 (sh S c)) (endP (setA (48 + c) (mx 0 (sh S c)) S))
  else unwP c (setA (16 + c) (pendY S) (setA (48 + c) (mx 0 (sh S c)) S))
/-- of one whose top is held -/
def leaveH (D : Dt) (c : Nat) (S : FS) : FS :=
  if 0 ≤ sh S c then setY (((sa S (16 + c) + dst D c 10) + sh S c) + dst D c 12) (setA (48 + c) (sh S c) (dropP S))
  else if 0 < dst D c 12 then setY (((sa S (16 + c) + dst D c 10) + mx 0 (pendY S - (sa S (16 + c) + dst D c 10))) + dst D c 12) (setA (48 + c) (mx 0 (pendY S - (sa S (16 + c) + dst D c 10))) (endP S))
  else setA (48 + c) (mx 0 (sy S - (sa S (16 + c) + dst D c 10))) S
def leaveP (D : Dt) (c : Nat) (S : FS) : FS := clP c (pendP (dst D c 8) (if sw S c = true then leaveW D c S else leaveH D c S))
/-- a line: what is in it, its ascent, its descent -/
abbrev RS : Type := FS × Int32 × Int32 × Int32
def ascP (D : Dt) (c : Nat) : Int32 := (dsz D c * 3) / 4
def shutP (box : Nat) : RS → FS
  | ((y, ab, be, w, a, h, ls, vi, lv, cl), fl, up, dw) => (y + mx 0 (up + dw), ab, be, w, a, h, ls ++ [(box, y, fl)], vi, lv, cl)
def wordP (D : Dt) (box c i : Nat) (X : RS) : RS :=
  let Y : RS := if X.2.1 ≠ 0 ∧ ¬ ((X.2.1 + 1) + dln D c i ≤ sa X.1 (32 + box)) then (shutP box X, 0, 0, 0) else X
  let off : Int32 := if Y.2.1 = 0 then 0 else Y.2.1 + 1
  ((if i = 0 then setA c (inP D box (sa Y.1) + off) Y.1 else Y.1), off + dln D c i, mx Y.2.2.1 (ascP D c), mx Y.2.2.2 (dsz D c - ascP D c))
def wordsP (D : Dt) (box c : Nat) : Nat → RS → RS
  | 0, X => X
  | i + 1, X => wordP D box c i (wordsP D box c i X)
def visP (c : Nat) : FS → FS
  | (y, ab, be, w, a, h, ls, vi, lv, cl) => (y, ab, be, w, a, h, ls, setB vi c true, lv, cl)
def textP (D : Dt) (box c : Nat) (X : RS) : RS := match wordsP D box c (dwc D c) X with
  | (S, r) => (visP c S, r)
/-- the texts of a run, from one on -/
def runL (D : Dt) (box : Nat) : Nat → Nat → List Nat
  | 0, c => [c]
  | f + 1, c => c :: (match nx D box c with
    | some k => if dtx D k = true then runL D box f k else []
    | none => [])
def runW (D : Dt) (r : List Nat) : Nat := (r.map (dwc D)).sum
def runT (D : Dt) (box : Nat) (r : List Nat) (X : RS) : RS := r.foldl (fun X c => textP D box c X) X
def visL (r : List Nat) (S : FS) : FS := r.foldl (fun S c => visP c S) S
def runP (D : Dt) (box : Nat) (r : List Nat) (S : FS) : FS :=
  if runW D r = 0 then visL r S else shutP box (runT D box r (endP S, 0, 0, 0))
/-- the children of a box behind a node -/
def flowP (D : Dt) : Nat → Nat → Nat → FS → FS
  | 0, _, _, S => S
  | f + 1, box, at_, S => match nx D box at_ with
    | none => S
    | some c =>
      if dtx D c = true then flowP D f box ((runL D box f c).getLastD c) (runP D box (runL D box f c) S)
      else flowP D f box c (leaveP D c (flowP D f c c (begP c (enterP D c S))))
/-- a whole layout, from what lay in the law's rows before -/
def laysP (D : Dt) (W : Int32) (a h : Nat → Int32) : FS := endP (flowP D (dn D) 0 0 (begP 0 (0, 0, 0, (fun _ => false), setI a 32 W, setI h 0 (-1), [], setB (fun _ => false) 0 true, (fun _ => false), (fun _ => false))))
/-- the numbers that may stand there -/
def DW (D : Dt) : Prop := 1 ≤ dn D ∧ dn D ≤ 12 ∧ dpar D 0 = 0 ∧ dtx D 0 = false ∧ (∀ k, 0 < k → k < dn D → dpar D k < k ∧ dtx D (dpar D k) = false) ∧
  (∀ k, dwc D k ≤ 4) ∧ (∀ k i, 1 ≤ (dln D k i).toInt ∧ (dln D k i).toInt ≤ 30) ∧ (∀ k, 1 ≤ (dsz D k).toInt ∧ (dsz D k).toInt ≤ 20) ∧
  (∀ k, ((-1 ≤ (dst D k 4).toInt ∧ (dst D k 4).toInt ≤ 60) ∨ (1000 ≤ (dst D k 4).toInt ∧ (dst D k 4).toInt ≤ 1100)) ∧ ((-1 ≤ (dst D k 5).toInt ∧ (dst D k 5).toInt ≤ 20) ∨ (1000 ≤ (dst D k 5).toInt ∧ (dst D k 5).toInt ≤ 1100))) ∧
  (∀ k s, 6 ≤ s → s ≤ 9 → -15 ≤ (dst D k s).toInt ∧ (dst D k s).toInt ≤ 30) ∧ (∀ k s, 10 ≤ s → s ≤ 13 → 0 ≤ (dst D k s).toInt ∧ (dst D k s).toInt ≤ 8) ∧
  (∀ k, dst D k 0 = 0 ∧ dst D k 1 = 0 ∧ dst D k 2 = 0 ∧ dst D k 3 = 0 ∧ dst D k 14 = 0 ∧ dst D k 15 = 0 ∧ dst D k 16 = 0 ∧ dst D k 17 = 1 ∧ dst D k 18 = -1000 ∧ dst D k 19 = -1000 ∧ dst D k 20 = 0)

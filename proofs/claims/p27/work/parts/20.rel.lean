/-! WHAT A LAYOUT HAS REACHED, in the store (by wip/p27/gen_rel.py) -/
theorem zp_ldcw {l G d mc ms M pc lv st σ Q} {i : Nat} {v : Int32} (hd : decode M.2.1 pc = .ok (.ldc_w i, 3)) (hw : Cond.constant M.1 i v ∈ gwl) (kk : Wp l G d mc ms M (pc + 3) lv (.int v :: st) σ Q) : Wp l G d mc ms M pc lv st σ Q := by
  intro p e R s m args below meth c H locs cells slots k n ls C K S P L r1 r2 r3 r4 r5 r6
  exact lv_ldcw C.1 C.2.1 C.2.2.2.1 (C.2.2.2.2.1 _ hw) hd (kk p e R s m args below meth c H locs cells slots k n ls C K S P L r1 r2 r3 r4 r5 r6)
def sab (S : FS) : Int32 := S.2.1
def sbe (S : FS) : Int32 := S.2.2.1
def sls (S : FS) : List (Nat × Int32 × Int32) := S.2.2.2.2.2.2.1
def svi (S : FS) : Nat → Bool := S.2.2.2.2.2.2.2.1
def slv (S : FS) : Nat → Bool := S.2.2.2.2.2.2.2.2.1
def scl (S : FS) : Nat → Bool := S.2.2.2.2.2.2.2.2.2
/-- a box's lines: tops and what is in them -/
def lsOf (ls : List (Nat × Int32 × Int32)) (k : Nat) : List (Int32 × Int32) := (ls.filter (fun e => decide (e.1 = k))).map (fun e => e.2)
/-- flow, places, who waits -/
def Rc (G : Gb) (O : Nat → Prop) (D : Dt) (X : Cx) (b : Bool) (S : FS) (wl : List Nat) (σ : Sto) : Prop :=
  (NS G D X σ) ∧
  (Ow O D X b σ) ∧
  (zI σ 200 (xF X b) = sy S) ∧
  (zI σ 201 (xF X b) = sab S) ∧
  (zI σ 202 (xF X b) = sbe S) ∧
  (zR σ 204 (xF X b) = none) ∧
  (zR σ 218 (xF X b) = none) ∧
  (Wt σ (zR σ 203 (xF X b)) (wl.map (xpl X b))) ∧
  (wl.Nodup) ∧
  (∀ k, sw S k = true ↔ k ∈ wl) ∧
  (∀ k, k ∈ wl → 0 < k ∧ k < dn D ∧ dtx D k = false ∧ svi S k = true ∧ scl S k = false) ∧
  (∀ k, k < dn D → dtx D k = false → svi S k = true → zI σ 702 (xpl X b k) = sa S (32 + k) ∧ zI σ 704 (xpl X b k) = sh S k) ∧
  (∀ k, k < dn D → k ≠ 0 → dtx D k = false → svi S k = true → zI σ 700 (xpl X b k) = sa S k) ∧
  (∀ k, k < dn D → k ≠ 0 → dtx D k = false → svi S k = true → sw S k = false → zI σ 701 (xpl X b k) = sa S (16 + k)) ∧
  (∀ k, k < dn D → k ≠ 0 → dtx D k = false → scl S k = true → zI σ 703 (xpl X b k) = sa S (48 + k)) ∧
  (∀ k, k < dn D → k ≠ 0 → dtx D k = false → svi S k = true → scl S k = false → zI σ 709 (xpl X b k) = zb (sw S k = false))
theorem Rc.ns {G : Gb} {O : Nat → Prop} {D : Dt} {X : Cx} {b : Bool} {S : FS} {wl : List Nat} {σ : Sto} (h : Rc G O D X b S wl σ) : NS G D X σ := h.1
theorem Rc.ow {G : Gb} {O : Nat → Prop} {D : Dt} {X : Cx} {b : Bool} {S : FS} {wl : List Nat} {σ : Sto} (h : Rc G O D X b S wl σ) : Ow O D X b σ := h.2.1
theorem Rc.y {G : Gb} {O : Nat → Prop} {D : Dt} {X : Cx} {b : Bool} {S : FS} {wl : List Nat} {σ : Sto} (h : Rc G O D X b S wl σ) : zI σ 200 (xF X b) = sy S := h.2.2.1
theorem Rc.ab {G : Gb} {O : Nat → Prop} {D : Dt} {X : Cx} {b : Bool} {S : FS} {wl : List Nat} {σ : Sto} (h : Rc G O D X b S wl σ) : zI σ 201 (xF X b) = sab S := h.2.2.2.1
theorem Rc.be {G : Gb} {O : Nat → Prop} {D : Dt} {X : Cx} {b : Bool} {S : FS} {wl : List Nat} {σ : Sto} (h : Rc G O D X b S wl σ) : zI σ 202 (xF X b) = sbe S := h.2.2.2.2.1
theorem Rc.f0 {G : Gb} {O : Nat → Prop} {D : Dt} {X : Cx} {b : Bool} {S : FS} {wl : List Nat} {σ : Sto} (h : Rc G O D X b S wl σ) : zR σ 204 (xF X b) = none := h.2.2.2.2.2.1
theorem Rc.l0 {G : Gb} {O : Nat → Prop} {D : Dt} {X : Cx} {b : Bool} {S : FS} {wl : List Nat} {σ : Sto} (h : Rc G O D X b S wl σ) : zR σ 218 (xF X b) = none := h.2.2.2.2.2.2.1
theorem Rc.wt {G : Gb} {O : Nat → Prop} {D : Dt} {X : Cx} {b : Bool} {S : FS} {wl : List Nat} {σ : Sto} (h : Rc G O D X b S wl σ) : Wt σ (zR σ 203 (xF X b)) (wl.map (xpl X b)) := h.2.2.2.2.2.2.2.1
theorem Rc.wn {G : Gb} {O : Nat → Prop} {D : Dt} {X : Cx} {b : Bool} {S : FS} {wl : List Nat} {σ : Sto} (h : Rc G O D X b S wl σ) : wl.Nodup := h.2.2.2.2.2.2.2.2.1
theorem Rc.ww {G : Gb} {O : Nat → Prop} {D : Dt} {X : Cx} {b : Bool} {S : FS} {wl : List Nat} {σ : Sto} (h : Rc G O D X b S wl σ) : ∀ k, sw S k = true ↔ k ∈ wl := h.2.2.2.2.2.2.2.2.2.1
theorem Rc.wb {G : Gb} {O : Nat → Prop} {D : Dt} {X : Cx} {b : Bool} {S : FS} {wl : List Nat} {σ : Sto} (h : Rc G O D X b S wl σ) : ∀ k, k ∈ wl → 0 < k ∧ k < dn D ∧ dtx D k = false ∧ svi S k = true ∧ scl S k = false := h.2.2.2.2.2.2.2.2.2.2.1
theorem Rc.p2 {G : Gb} {O : Nat → Prop} {D : Dt} {X : Cx} {b : Bool} {S : FS} {wl : List Nat} {σ : Sto} (h : Rc G O D X b S wl σ) : ∀ k, k < dn D → dtx D k = false → svi S k = true → zI σ 702 (xpl X b k) = sa S (32 + k) ∧ zI σ 704 (xpl X b k) = sh S k := h.2.2.2.2.2.2.2.2.2.2.2.1
theorem Rc.p0 {G : Gb} {O : Nat → Prop} {D : Dt} {X : Cx} {b : Bool} {S : FS} {wl : List Nat} {σ : Sto} (h : Rc G O D X b S wl σ) : ∀ k, k < dn D → k ≠ 0 → dtx D k = false → svi S k = true → zI σ 700 (xpl X b k) = sa S k := h.2.2.2.2.2.2.2.2.2.2.2.2.1
theorem Rc.p1 {G : Gb} {O : Nat → Prop} {D : Dt} {X : Cx} {b : Bool} {S : FS} {wl : List Nat} {σ : Sto} (h : Rc G O D X b S wl σ) : ∀ k, k < dn D → k ≠ 0 → dtx D k = false → svi S k = true → sw S k = false → zI σ 701 (xpl X b k) = sa S (16 + k) := h.2.2.2.2.2.2.2.2.2.2.2.2.2.1
theorem Rc.p3 {G : Gb} {O : Nat → Prop} {D : Dt} {X : Cx} {b : Bool} {S : FS} {wl : List Nat} {σ : Sto} (h : Rc G O D X b S wl σ) : ∀ k, k < dn D → k ≠ 0 → dtx D k = false → scl S k = true → zI σ 703 (xpl X b k) = sa S (48 + k) := h.2.2.2.2.2.2.2.2.2.2.2.2.2.2.1
theorem Rc.p9 {G : Gb} {O : Nat → Prop} {D : Dt} {X : Cx} {b : Bool} {S : FS} {wl : List Nat} {σ : Sto} (h : Rc G O D X b S wl σ) : ∀ k, k < dn D → k ≠ 0 → dtx D k = false → svi S k = true → scl S k = false → zI σ 709 (xpl X b k) = zb (sw S k = false) := h.2.2.2.2.2.2.2.2.2.2.2.2.2.2.2
/-- lines, words -/
def Rl (O : Nat → Prop) (D : Dt) (X : Cx) (b : Bool) (S : FS) (LL : Nat → List Nat) (fr : List Nat) (σ : Sto) : Prop :=
  (Ln O D X b σ LL fr) ∧
  (∀ j, j < dn D → dtx D j = false → slv S j = true → (LL j).map (fun l => (zI σ 401 l, zI σ 402 l)) = lsOf (sls S) j ∧ ∀ l, l ∈ LL j → zI σ 400 l = inP D j (sa S)) ∧
  (∀ j, slv S j = false → lsOf (sls S) j = []) ∧
  (∀ c, c < dn D → dtx D c = true → svi S c = true → 0 < dwc D c → slv S (dpar D c) = true ∧ ∃ l, l ∈ LL (dpar D c) ∧ zR σ 900 (xth X b c 0) = some l ∧ inP D (dpar D c) (sa S) + zI σ 901 (xth X b c 0) = sa S c) ∧
  (zI σ 213 (xF X b) = 0)
theorem Rl.ln {O : Nat → Prop} {D : Dt} {X : Cx} {b : Bool} {S : FS} {LL : Nat → List Nat} {fr : List Nat} {σ : Sto} (h : Rl O D X b S LL fr σ) : Ln O D X b σ LL fr := h.1
theorem Rl.lc {O : Nat → Prop} {D : Dt} {X : Cx} {b : Bool} {S : FS} {LL : Nat → List Nat} {fr : List Nat} {σ : Sto} (h : Rl O D X b S LL fr σ) : ∀ j, j < dn D → dtx D j = false → slv S j = true → (LL j).map (fun l => (zI σ 401 l, zI σ 402 l)) = lsOf (sls S) j ∧ ∀ l, l ∈ LL j → zI σ 400 l = inP D j (sa S) := h.2.1
theorem Rl.lz {O : Nat → Prop} {D : Dt} {X : Cx} {b : Bool} {S : FS} {LL : Nat → List Nat} {fr : List Nat} {σ : Sto} (h : Rl O D X b S LL fr σ) : ∀ j, slv S j = false → lsOf (sls S) j = [] := h.2.2.1
theorem Rl.tx {O : Nat → Prop} {D : Dt} {X : Cx} {b : Bool} {S : FS} {LL : Nat → List Nat} {fr : List Nat} {σ : Sto} (h : Rl O D X b S LL fr σ) : ∀ c, c < dn D → dtx D c = true → svi S c = true → 0 < dwc D c → slv S (dpar D c) = true ∧ ∃ l, l ∈ LL (dpar D c) ∧ zR σ 900 (xth X b c 0) = some l ∧ inP D (dpar D c) (sa S) + zI σ 901 (xth X b c 0) = sa S c := h.2.2.2.1
theorem Rl.th {O : Nat → Prop} {D : Dt} {X : Cx} {b : Bool} {S : FS} {LL : Nat → List Nat} {fr : List Nat} {σ : Sto} (h : Rl O D X b S LL fr σ) : zI σ 213 (xF X b) = 0 := h.2.2.2.2
/-- in a run of the box k: its closed lines cs, the open one lo with cnt things -/
def Ro (O : Nat → Prop) (D : Dt) (X : Cx) (b : Bool) (S : FS) (fl up dw : Int32) (k cnt : Nat) (cs : List Nat) (lo : Nat) (LL : Nat → List Nat) (fr : List Nat) (σ : Sto) : Prop :=
  (Ln O D X b σ LL fr) ∧
  (LL k = if cnt = 0 then cs else cs ++ [lo]) ∧
  (∀ j, j < dn D → dtx D j = false → slv S j = true → j ≠ k → (LL j).map (fun l => (zI σ 401 l, zI σ 402 l)) = lsOf (sls S) j ∧ ∀ l, l ∈ LL j → zI σ 400 l = inP D j (sa S)) ∧
  (cs.map (fun l => (zI σ 401 l, zI σ 402 l)) = lsOf (sls S) k ∧ ∀ l, l ∈ cs → zI σ 400 l = inP D k (sa S)) ∧
  (∀ j, slv S j = false → lsOf (sls S) j = []) ∧
  (k < dn D ∧ dtx D k = false ∧ slv S k = true ∧ svi S k = true) ∧
  (∀ c, c < dn D → dtx D c = true → svi S c = true → 0 < dwc D c → slv S (dpar D c) = true ∧ ∃ l, l ∈ LL (dpar D c) ∧ zR σ 900 (xth X b c 0) = some l ∧ inP D (dpar D c) (sa S) + zI σ 901 (xth X b c 0) = sa S c) ∧
  (zI σ 213 (xF X b) = nI cnt) ∧
  (cnt = 0 → fl = 0 ∧ up = 0 ∧ dw = 0) ∧
  (cnt ≠ 0 → zI σ 214 (xF X b) = fl ∧ zI σ 215 (xF X b) = up ∧ zI σ 216 (xF X b) = dw ∧ zR σ 212 (xF X b) = some lo ∧ zI σ 209 (xF X b) = zI σ 207 (xF X b) ∧ zI σ 210 (xF X b) = zI σ 207 (xF X b) + zI σ 208 (xF X b)) ∧
  ((cnt : Int) ≤ fl.toInt ∧ fl.toInt ≤ 1000) ∧
  (zI σ 207 (xF X b) = inP D k (sa S)) ∧
  (zI σ 208 (xF X b) = sa S (32 + k))
theorem Ro.ln {O : Nat → Prop} {D : Dt} {X : Cx} {b : Bool} {S : FS} {fl up dw : Int32} {k cnt : Nat} {cs : List Nat} {lo : Nat} {LL : Nat → List Nat} {fr : List Nat} {σ : Sto} (h : Ro O D X b S fl up dw k cnt cs lo LL fr σ) : Ln O D X b σ LL fr := h.1
theorem Ro.lk {O : Nat → Prop} {D : Dt} {X : Cx} {b : Bool} {S : FS} {fl up dw : Int32} {k cnt : Nat} {cs : List Nat} {lo : Nat} {LL : Nat → List Nat} {fr : List Nat} {σ : Sto} (h : Ro O D X b S fl up dw k cnt cs lo LL fr σ) : LL k = if cnt = 0 then cs else cs ++ [lo] := h.2.1
theorem Ro.lc {O : Nat → Prop} {D : Dt} {X : Cx} {b : Bool} {S : FS} {fl up dw : Int32} {k cnt : Nat} {cs : List Nat} {lo : Nat} {LL : Nat → List Nat} {fr : List Nat} {σ : Sto} (h : Ro O D X b S fl up dw k cnt cs lo LL fr σ) : ∀ j, j < dn D → dtx D j = false → slv S j = true → j ≠ k → (LL j).map (fun l => (zI σ 401 l, zI σ 402 l)) = lsOf (sls S) j ∧ ∀ l, l ∈ LL j → zI σ 400 l = inP D j (sa S) := h.2.2.1
theorem Ro.cc {O : Nat → Prop} {D : Dt} {X : Cx} {b : Bool} {S : FS} {fl up dw : Int32} {k cnt : Nat} {cs : List Nat} {lo : Nat} {LL : Nat → List Nat} {fr : List Nat} {σ : Sto} (h : Ro O D X b S fl up dw k cnt cs lo LL fr σ) : cs.map (fun l => (zI σ 401 l, zI σ 402 l)) = lsOf (sls S) k ∧ ∀ l, l ∈ cs → zI σ 400 l = inP D k (sa S) := h.2.2.2.1
theorem Ro.lz {O : Nat → Prop} {D : Dt} {X : Cx} {b : Bool} {S : FS} {fl up dw : Int32} {k cnt : Nat} {cs : List Nat} {lo : Nat} {LL : Nat → List Nat} {fr : List Nat} {σ : Sto} (h : Ro O D X b S fl up dw k cnt cs lo LL fr σ) : ∀ j, slv S j = false → lsOf (sls S) j = [] := h.2.2.2.2.1
theorem Ro.lv {O : Nat → Prop} {D : Dt} {X : Cx} {b : Bool} {S : FS} {fl up dw : Int32} {k cnt : Nat} {cs : List Nat} {lo : Nat} {LL : Nat → List Nat} {fr : List Nat} {σ : Sto} (h : Ro O D X b S fl up dw k cnt cs lo LL fr σ) : k < dn D ∧ dtx D k = false ∧ slv S k = true ∧ svi S k = true := h.2.2.2.2.2.1
theorem Ro.tx {O : Nat → Prop} {D : Dt} {X : Cx} {b : Bool} {S : FS} {fl up dw : Int32} {k cnt : Nat} {cs : List Nat} {lo : Nat} {LL : Nat → List Nat} {fr : List Nat} {σ : Sto} (h : Ro O D X b S fl up dw k cnt cs lo LL fr σ) : ∀ c, c < dn D → dtx D c = true → svi S c = true → 0 < dwc D c → slv S (dpar D c) = true ∧ ∃ l, l ∈ LL (dpar D c) ∧ zR σ 900 (xth X b c 0) = some l ∧ inP D (dpar D c) (sa S) + zI σ 901 (xth X b c 0) = sa S c := h.2.2.2.2.2.2.1
theorem Ro.th {O : Nat → Prop} {D : Dt} {X : Cx} {b : Bool} {S : FS} {fl up dw : Int32} {k cnt : Nat} {cs : List Nat} {lo : Nat} {LL : Nat → List Nat} {fr : List Nat} {σ : Sto} (h : Ro O D X b S fl up dw k cnt cs lo LL fr σ) : zI σ 213 (xF X b) = nI cnt := h.2.2.2.2.2.2.2.1
theorem Ro.z {O : Nat → Prop} {D : Dt} {X : Cx} {b : Bool} {S : FS} {fl up dw : Int32} {k cnt : Nat} {cs : List Nat} {lo : Nat} {LL : Nat → List Nat} {fr : List Nat} {σ : Sto} (h : Ro O D X b S fl up dw k cnt cs lo LL fr σ) : cnt = 0 → fl = 0 ∧ up = 0 ∧ dw = 0 := h.2.2.2.2.2.2.2.2.1
theorem Ro.nz {O : Nat → Prop} {D : Dt} {X : Cx} {b : Bool} {S : FS} {fl up dw : Int32} {k cnt : Nat} {cs : List Nat} {lo : Nat} {LL : Nat → List Nat} {fr : List Nat} {σ : Sto} (h : Ro O D X b S fl up dw k cnt cs lo LL fr σ) : cnt ≠ 0 → zI σ 214 (xF X b) = fl ∧ zI σ 215 (xF X b) = up ∧ zI σ 216 (xF X b) = dw ∧ zR σ 212 (xF X b) = some lo ∧ zI σ 209 (xF X b) = zI σ 207 (xF X b) ∧ zI σ 210 (xF X b) = zI σ 207 (xF X b) + zI σ 208 (xF X b) := h.2.2.2.2.2.2.2.2.2.1
theorem Ro.fb {O : Nat → Prop} {D : Dt} {X : Cx} {b : Bool} {S : FS} {fl up dw : Int32} {k cnt : Nat} {cs : List Nat} {lo : Nat} {LL : Nat → List Nat} {fr : List Nat} {σ : Sto} (h : Ro O D X b S fl up dw k cnt cs lo LL fr σ) : (cnt : Int) ≤ fl.toInt ∧ fl.toInt ≤ 1000 := h.2.2.2.2.2.2.2.2.2.2.1
theorem Ro.lf {O : Nat → Prop} {D : Dt} {X : Cx} {b : Bool} {S : FS} {fl up dw : Int32} {k cnt : Nat} {cs : List Nat} {lo : Nat} {LL : Nat → List Nat} {fr : List Nat} {σ : Sto} (h : Ro O D X b S fl up dw k cnt cs lo LL fr σ) : zI σ 207 (xF X b) = inP D k (sa S) := h.2.2.2.2.2.2.2.2.2.2.2.1
theorem Ro.wi {O : Nat → Prop} {D : Dt} {X : Cx} {b : Bool} {S : FS} {fl up dw : Int32} {k cnt : Nat} {cs : List Nat} {lo : Nat} {LL : Nat → List Nat} {fr : List Nat} {σ : Sto} (h : Ro O D X b S fl up dw k cnt cs lo LL fr σ) : zI σ 208 (xF X b) = sa S (32 + k) := h.2.2.2.2.2.2.2.2.2.2.2.2
theorem Rc.keep {G O D X b S wl σ} {σ' : Sto} {S' : FS} (h : Rc G O D X b S wl σ) (f : Fm O σ σ') (hI : ∀ g, 700 ≤ g → g < 711 → zI σ' g = zI σ g) (hR : zR σ' 710 = zR σ 710) (h203 : zR σ' 203 (xF X b) = zR σ 203 (xF X b)) (h204 : zR σ' 204 (xF X b) = zR σ 204 (xF X b)) (h218 : zR σ' 218 (xF X b) = none)
    (y : zI σ' 200 (xF X b) = sy S') (ab : zI σ' 201 (xF X b) = sab S') (be : zI σ' 202 (xF X b) = sbe S') (ew : sw S' = sw S) (ea : ∀ k, k < dn D → dtx D k = false → sa S' k = sa S k ∧ sa S' (16 + k) = sa S (16 + k) ∧ sa S' (32 + k) = sa S (32 + k) ∧ sa S' (48 + k) = sa S (48 + k)) (eh : sh S' = sh S) (ev : ∀ k, dtx D k = false → svi S' k = svi S k) (ec : scl S' = scl S) : Rc G O D X b S' wl σ' := by
  refine ⟨h.ns.fm f, h.ow.fm f, y, ab, be, by rw [h204]; exact h.f0, h218, ?_, h.wn, fun k => by rw [ew]; exact h.ww k, fun k hk => ?_, fun k hk ht hv => ?_, fun k hk h0 ht hv => ?_, fun k hk h0 ht hv hw => ?_, fun k hk h0 ht hv => ?_, fun k hk h0 ht hv hc => ?_⟩
  · rw [h203]
    refine h.wt.to (fun p hp => ⟨?_, by rw [hR]⟩)
    obtain ⟨k, hk, rfl⟩ := List.mem_map.mp hp
    have := ((h.ns.k k (h.wb k hk).2.1).plT b)
    exact (f.T this).trans this.symm
  · obtain ⟨q1, q2, q3, q4, q5⟩ := h.wb k hk
    exact ⟨q1, q2, q3, by rw [ev k q3]; exact q4, by rw [ec]; exact q5⟩
  · rw [ev k ht] at hv
    rw [hI 702 (by decide) (by decide), hI 704 (by decide) (by decide), (ea k hk ht).2.2.1, eh]
    exact h.p2 k hk ht hv
  · rw [ev k ht] at hv
    rw [hI 700 (by decide) (by decide), (ea k hk ht).1]
    exact h.p0 k hk h0 ht hv
  · rw [ev k ht] at hv
    rw [ew] at hw
    rw [hI 701 (by decide) (by decide), (ea k hk ht).2.1]
    exact h.p1 k hk h0 ht hv hw
  · rw [ec] at hv
    rw [hI 703 (by decide) (by decide), (ea k hk ht).2.2.2]
    exact h.p3 k hk h0 ht hv
  · rw [ev k ht] at hv
    rw [ec] at hc
    rw [hI 709 (by decide) (by decide), ew]
    exact h.p9 k hk h0 ht hv hc
theorem lsOf_app {ls : List (Nat × Int32 × Int32)} {k j : Nat} {y fl : Int32} : lsOf (ls ++ [(k, y, fl)]) j = if j = k then lsOf ls j ++ [(y, fl)] else lsOf ls j := by
  unfold lsOf
  rw [List.filter_append]
  by_cases h : j = k
  · subst h
    simp
  · rw [if_neg h]
    have : k ≠ j := fun q => h q.symm
    simp [this]
/-- a thing's place, behind what is in the line -/
def offP (Y : RS) : Int32 := if Y.2.1 = 0 then 0 else Y.2.1 + 1
/-- a line that has no room for a thing is shut -/
def brkP (D : Dt) (k : Nat) (len : Int32) (Y : RS) : RS := if Y.2.1 ≠ 0 ∧ ¬ ((Y.2.1 + 1) + len ≤ sa Y.1 (32 + k)) then (shutP k Y, 0, 0, 0) else Y
def putP (len asc dsc : Int32) (Y : RS) : RS := (Y.1, offP Y + len, mx Y.2.2.1 asc, mx Y.2.2.2 dsc)
theorem wordP_eq {D : Dt} {k c i : Nat} {Y : RS} : wordP D k c i Y = ((if i = 0 then setA c (inP D k (sa (brkP D k (dln D c i) Y).1) + offP (brkP D k (dln D c i) Y)) (brkP D k (dln D c i) Y).1 else (brkP D k (dln D c i) Y).1), (putP (dln D c i) (ascP D c) (dsz D c - ascP D c) (brkP D k (dln D c i) Y)).2) := rfl

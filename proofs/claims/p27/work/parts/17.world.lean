/-! THE WORLD: frames; chains; what nodes and layouts are in the store (by wip/p27/gen_world.py) -/
/-- fields that a layout never writes -/
def stf (f : Nat) : Prop := f < 200 ∨ (300 ≤ f ∧ f ≤ 302) ∨ (500 ≤ f ∧ f < 700) ∨ f = 713 ∨ f = 714 ∨ (800 ≤ f ∧ f < 900) ∨ 1000 ≤ f ∨ f = 304 ∨ f = 707 ∨ f = 708
/-- a layout's frame: what is not its own stays; fields of nodes and arrays stay everywhere -/
def Fm (O : Nat → Prop) (σ σ' : Sto) : Prop := (∀ a, ¬ O a → (∀ f, zI σ' f a = zI σ f a ∧ zR σ' f a = zR σ f a) ∧ zT σ' a = zT σ a) ∧ zA σ' = zA σ ∧ zQ σ' = zQ σ ∧
  (∀ a, (zT σ a).1 ≠ 0 → zT σ' a = zT σ a) ∧ ∀ f, stf f → zI σ' f = zI σ f ∧ zR σ' f = zR σ f
theorem Fm.refl {O : Nat → Prop} {σ : Sto} : Fm O σ σ := ⟨fun _ _ => ⟨fun _ => ⟨rfl, rfl⟩, rfl⟩, rfl, rfl, fun _ _ => rfl, fun _ _ => ⟨rfl, rfl⟩⟩
theorem Fm.trans {O : Nat → Prop} {σ σ1 σ2 : Sto} (h : Fm O σ σ1) (h' : Fm O σ1 σ2) : Fm O σ σ2 := by
  obtain ⟨a1, a2, a3, a4, a5⟩ := h
  obtain ⟨b1, b2, b3, b4, b5⟩ := h'
  refine ⟨fun a ha => ⟨fun f => ⟨((b1 a ha).1 f).1.trans ((a1 a ha).1 f).1, ((b1 a ha).1 f).2.trans ((a1 a ha).1 f).2⟩, (b1 a ha).2.trans (a1 a ha).2⟩, b2.trans a2, b3.trans a3, fun a ha => ?_, fun f hf => ⟨(b5 f hf).1.trans (a5 f hf).1, (b5 f hf).2.trans (a5 f hf).2⟩⟩
  rw [b4 a (by rw [a4 a ha]; exact ha), a4 a ha]
theorem Fm.wI {O : Nat → Prop} {σ : Sto} {f a : Nat} {x : Int32} (ha : O a) (hf : ¬ stf f) : Fm O σ (wI σ f a x) :=
  ⟨fun b hb => ⟨fun g => ⟨by rw [zI_wI, if_neg (fun q => hb (by rw [q.2]; exact ha))], rfl⟩, rfl⟩, rfl, rfl, fun _ _ => rfl, fun g hg => ⟨by funext b; rw [zI_wI, if_neg (fun q => hf (by rw [← q.1]; exact hg))], rfl⟩⟩
theorem Fm.wR {O : Nat → Prop} {σ : Sto} {f a : Nat} {x : Option Nat} (ha : O a) (hf : ¬ stf f) : Fm O σ (wR σ f a x) :=
  ⟨fun b hb => ⟨fun g => ⟨rfl, by rw [zR_wR, if_neg (fun q => hb (by rw [q.2]; exact ha))]⟩, rfl⟩, rfl, rfl, fun _ _ => rfl, fun g hg => ⟨rfl, by funext b; rw [zR_wR, if_neg (fun q => hf (by rw [← q.1]; exact hg))]⟩⟩
theorem Fm.wT {O : Nat → Prop} {σ : Sto} {a : Nat} {t : Nat × Nat} (ha : O a) (h0 : (zT σ a).1 = 0) : Fm O σ (wT σ a t) :=
  ⟨fun b hb => ⟨fun g => ⟨rfl, rfl⟩, by rw [zT_wT, if_neg (fun q => hb (by rw [q]; exact ha))]⟩, rfl, rfl, fun b hb => by rw [zT_wT, if_neg (fun q => hb (by rw [q]; exact h0))], fun g hg => ⟨rfl, rfl⟩⟩
theorem Fm.T {O : Nat → Prop} {σ σ' : Sto} {a k n : Nat} (h : Fm O σ σ') (ht : zT σ a = (k + 1, n)) : zT σ' a = (k + 1, n) := (h.2.2.2.1 a (by rw [ht]; exact Nat.succ_ne_zero k)).trans ht
theorem Fm.I {O : Nat → Prop} {σ σ' : Sto} {f : Nat} (h : Fm O σ σ') (hf : stf f) : zI σ' f = zI σ f := (h.2.2.2.2 f hf).1
theorem Fm.R {O : Nat → Prop} {σ σ' : Sto} {f : Nat} (h : Fm O σ σ') (hf : stf f) : zR σ' f = zR σ f := (h.2.2.2.2 f hf).2
theorem Fm.A {O : Nat → Prop} {σ σ' : Sto} (h : Fm O σ σ') : zA σ' = zA σ := h.2.1
theorem Fm.Q {O : Nat → Prop} {σ σ' : Sto} (h : Fm O σ σ') : zQ σ' = zQ σ := h.2.2.1
theorem hdS_Fm {O : Nat → Prop} {yy : Int32} : ∀ {ws : List Nat} {σ : Sto}, (∀ p ∈ ws, O p) → Fm O σ (hdS yy ws σ)
  | [], _, _ => Fm.refl
  | p :: ps, σ, h => by
    have h1 : Fm O σ (wI (wI σ 701 p yy) 709 p 1) := (Fm.wI (h p List.mem_cons_self) (by unfold stf; omega)).trans (Fm.wI (h p List.mem_cons_self) (by unfold stf; omega))
    exact h1.trans (hdS_Fm (fun q hq => h q (List.mem_cons_of_mem _ hq)))
theorem emS_Fm {O : Nat → Prop} {F : Nat} {ws : List Nat} {yy : Int32} {σ : Sto} (hF : O F) (hw : ∀ p ∈ ws, O p) : Fm O σ (emS F ws yy σ) :=
  ((((Fm.wI hF (by unfold stf; omega)).trans (Fm.wI hF (by unfold stf; omega))).trans (Fm.wI hF (by unfold stf; omega))).trans (hdS_Fm hw)).trans (Fm.wR hF (by unfold stf; omega))
/-- a chain of lines, from one on to null -/
def Ch (σ : Sto) : Option Nat → List Nat → Prop
  | r, [] => r = none
  | r, x :: xs => r = some x ∧ zT σ x = (4, 0) ∧ Ch σ (zR σ 405 x) xs
theorem Ch.to {σ σ' : Sto} : ∀ {xs : List Nat} {r : Option Nat}, Ch σ r xs → (∀ x ∈ xs, zT σ' x = zT σ x ∧ zR σ' 405 x = zR σ 405 x) → Ch σ' r xs
  | [], _, h, _ => h
  | x :: xs, _, h, hq => by
    obtain ⟨h1, h2, h3⟩ := h
    obtain ⟨q1, q2⟩ := hq x List.mem_cons_self
    exact ⟨h1, by rw [q1]; exact h2, by rw [q2]; exact Ch.to h3 (fun z hz => hq z (List.mem_cons_of_mem _ hz))⟩
theorem Ch.T {σ : Sto} : ∀ {xs : List Nat} {r : Option Nat}, Ch σ r xs → ∀ x ∈ xs, zT σ x = (4, 0)
  | [], _, _, x, hx => absurd hx List.not_mem_nil
  | y :: xs, _, h, x, hx => by
    rcases List.mem_cons.mp hx with rfl | hx
    · exact h.2.1
    · exact Ch.T h.2.2 x hx
theorem Ch.hd {σ : Sto} : ∀ {xs : List Nat} {r : Option Nat}, Ch σ r xs → r = xs.head?
  | [], _, h => h
  | _ :: _, _, h => h.1
/-- the chain xs, its last now linked to the chain ys -/
theorem Ch.glue {σ σ' : Sto} {r2 : Option Nat} {ys : List Nat} {la : Nat} : ∀ {xs : List Nat} {r : Option Nat}, Ch σ r (xs ++ [la]) → (∀ x ∈ xs, zT σ' x = zT σ x ∧ zR σ' 405 x = zR σ 405 x) → zT σ' la = zT σ la → zR σ' 405 la = r2 → Ch σ' r2 ys → Ch σ' r (xs ++ (la :: ys))
  | [], _, h, _, hT, hR, hy => ⟨h.1, by rw [hT]; exact h.2.1, by rw [hR]; exact hy⟩
  | x :: xs, _, h, hq, hT, hR, hy => by
    obtain ⟨h1, h2, h3⟩ := h
    obtain ⟨q1, q2⟩ := hq x List.mem_cons_self
    refine ⟨h1, by rw [q1]; exact h2, ?_⟩
    rw [q2]
    exact Ch.glue h3 (fun z hz => hq z (List.mem_cons_of_mem _ hz)) hT hR hy
/-- where things lie: nodes; their counted styles, lengths, cuts; places, pieces' rows, things of a layout; layouts, their rows of flows, their first flows -/
abbrev Cx : Type := (Nat → Nat) × (Nat → Nat) × (Nat → Nat) × (Nat → Nat) × (Bool → Nat → Nat) × (Bool → Nat → Nat) × (Bool → Nat → Nat → Nat) × (Bool → Nat) × (Bool → Nat) × (Bool → Nat)
abbrev xnd (X : Cx) : Nat → Nat := X.1
abbrev xcn (X : Cx) : Nat → Nat := X.2.1
abbrev xle (X : Cx) : Nat → Nat := X.2.2.1
abbrev xcu (X : Cx) : Nat → Nat := X.2.2.2.1
abbrev xpl (X : Cx) : Bool → Nat → Nat := X.2.2.2.2.1
abbrev xpc (X : Cx) : Bool → Nat → Nat := X.2.2.2.2.2.1
abbrev xth (X : Cx) : Bool → Nat → Nat → Nat := X.2.2.2.2.2.2.1
abbrev xLy (X : Cx) : Bool → Nat := X.2.2.2.2.2.2.2.1
abbrev xfa (X : Cx) : Bool → Nat := X.2.2.2.2.2.2.2.2.1
abbrev xF (X : Cx) : Bool → Nat := X.2.2.2.2.2.2.2.2.2
def kdn (b : Bool) : Nat := if b then 7 else 0
def wd20 (b : Bool) : Nat := if b then 20 else 0
def pcn (b : Bool) : Nat := if b then 40 else 1
/-- a link to a node, or none -/
def lk (X : Cx) (r : Option Nat) : Option Nat := r.map (xnd X)
/-- what the node k is in the store -/
def NK (G : Gb) (D : Dt) (X : Cx) (σ : Sto) (k : Nat) : Prop :=
  (zT σ (xnd X k) = (5, 0)) ∧
  (zR σ 501 (xnd X k) = if k = 0 then none else some (xnd X (dpar D k))) ∧
  (zI σ 503 (xnd X k) = if dtx D k = true then dsz D k else 0) ∧
  (zR σ 505 (xnd X k) = some (xcn X k)) ∧
  (zT σ (xcn X k) = (20, 21)) ∧
  (dtx D k = false → ∀ s, s < 21 → zA σ (xcn X k) s = dst D k s) ∧
  (zR σ 510 (xnd X k) = lk X (nx D k k)) ∧
  (zR σ 511 (xnd X k) = if k = 0 then none else lk X (nx D (dpar D k) k)) ∧
  (zI σ 512 (xnd X k) = nI (dwc D k)) ∧
  (zR σ 514 (xnd X k) = some (G.2.2.1 (kdn (dtx D k)))) ∧
  (zI σ 515 (xnd X k) = 0) ∧
  (zI σ 516 (xnd X k) = zb (k = 0)) ∧
  (zI σ 517 (xnd X k) = 0) ∧
  (zR σ 506 (xnd X k) = some (xle X k)) ∧
  (zT σ (xle X k) = (20, wd20 (dtx D k))) ∧
  (∀ i, i < dwc D k → zA σ (xle X k) i = dln D k i) ∧
  (zR σ 507 (xnd X k) = some (xcu X k)) ∧
  (zT σ (xcu X k) = (20, wd20 (dtx D k))) ∧
  (∀ i, i < dwc D k → zA σ (xcu X k) i = 0) ∧
  (∀ b, zR σ (pfld b) (xnd X k) = some (xpl X b k)) ∧
  (∀ b, zT σ (xpl X b k) = (7, 0)) ∧
  (∀ b, zR σ 714 (xpl X b k) = some (xpc X b k)) ∧
  (∀ b, zT σ (xpc X b k) = (23, pcn (dtx D k))) ∧
  (∀ b i, i < pcn (dtx D k) → zQ σ (xpc X b k) i = some (xth X b k i)) ∧
  (∀ b i, i < pcn (dtx D k) → zT σ (xth X b k i) = (9, 0)) ∧
  (zI σ 500 (xnd X k) = nI k)
theorem NK.T {G : Gb} {D : Dt} {X : Cx} {σ : Sto} {k : Nat} (h : NK G D X σ k) : zT σ (xnd X k) = (5, 0) := h.1
theorem NK.par {G : Gb} {D : Dt} {X : Cx} {σ : Sto} {k : Nat} (h : NK G D X σ k) : zR σ 501 (xnd X k) = if k = 0 then none else some (xnd X (dpar D k)) := h.2.1
theorem NK.size {G : Gb} {D : Dt} {X : Cx} {σ : Sto} {k : Nat} (h : NK G D X σ k) : zI σ 503 (xnd X k) = if dtx D k = true then dsz D k else 0 := h.2.2.1
theorem NK.cn {G : Gb} {D : Dt} {X : Cx} {σ : Sto} {k : Nat} (h : NK G D X σ k) : zR σ 505 (xnd X k) = some (xcn X k) := h.2.2.2.1
theorem NK.cnT {G : Gb} {D : Dt} {X : Cx} {σ : Sto} {k : Nat} (h : NK G D X σ k) : zT σ (xcn X k) = (20, 21) := h.2.2.2.2.1
theorem NK.cnA {G : Gb} {D : Dt} {X : Cx} {σ : Sto} {k : Nat} (h : NK G D X σ k) : dtx D k = false → ∀ s, s < 21 → zA σ (xcn X k) s = dst D k s := h.2.2.2.2.2.1
theorem NK.first {G : Gb} {D : Dt} {X : Cx} {σ : Sto} {k : Nat} (h : NK G D X σ k) : zR σ 510 (xnd X k) = lk X (nx D k k) := h.2.2.2.2.2.2.1
theorem NK.next {G : Gb} {D : Dt} {X : Cx} {σ : Sto} {k : Nat} (h : NK G D X σ k) : zR σ 511 (xnd X k) = if k = 0 then none else lk X (nx D (dpar D k) k) := h.2.2.2.2.2.2.2.1
theorem NK.wc {G : Gb} {D : Dt} {X : Cx} {σ : Sto} {k : Nat} (h : NK G D X σ k) : zI σ 512 (xnd X k) = nI (dwc D k) := h.2.2.2.2.2.2.2.2.1
theorem NK.kind {G : Gb} {D : Dt} {X : Cx} {σ : Sto} {k : Nat} (h : NK G D X σ k) : zR σ 514 (xnd X k) = some (G.2.2.1 (kdn (dtx D k))) := h.2.2.2.2.2.2.2.2.2.1
theorem NK.tab {G : Gb} {D : Dt} {X : Cx} {σ : Sto} {k : Nat} (h : NK G D X σ k) : zI σ 515 (xnd X k) = 0 := h.2.2.2.2.2.2.2.2.2.2.1
theorem NK.ctx {G : Gb} {D : Dt} {X : Cx} {σ : Sto} {k : Nat} (h : NK G D X σ k) : zI σ 516 (xnd X k) = zb (k = 0) := h.2.2.2.2.2.2.2.2.2.2.2.1
theorem NK.scr {G : Gb} {D : Dt} {X : Cx} {σ : Sto} {k : Nat} (h : NK G D X σ k) : zI σ 517 (xnd X k) = 0 := h.2.2.2.2.2.2.2.2.2.2.2.2.1
theorem NK.le {G : Gb} {D : Dt} {X : Cx} {σ : Sto} {k : Nat} (h : NK G D X σ k) : zR σ 506 (xnd X k) = some (xle X k) := h.2.2.2.2.2.2.2.2.2.2.2.2.2.1
theorem NK.leT {G : Gb} {D : Dt} {X : Cx} {σ : Sto} {k : Nat} (h : NK G D X σ k) : zT σ (xle X k) = (20, wd20 (dtx D k)) := h.2.2.2.2.2.2.2.2.2.2.2.2.2.2.1
theorem NK.leA {G : Gb} {D : Dt} {X : Cx} {σ : Sto} {k : Nat} (h : NK G D X σ k) : ∀ i, i < dwc D k → zA σ (xle X k) i = dln D k i := h.2.2.2.2.2.2.2.2.2.2.2.2.2.2.2.1
theorem NK.cu {G : Gb} {D : Dt} {X : Cx} {σ : Sto} {k : Nat} (h : NK G D X σ k) : zR σ 507 (xnd X k) = some (xcu X k) := h.2.2.2.2.2.2.2.2.2.2.2.2.2.2.2.2.1
theorem NK.cuT {G : Gb} {D : Dt} {X : Cx} {σ : Sto} {k : Nat} (h : NK G D X σ k) : zT σ (xcu X k) = (20, wd20 (dtx D k)) := h.2.2.2.2.2.2.2.2.2.2.2.2.2.2.2.2.2.1
theorem NK.cuA {G : Gb} {D : Dt} {X : Cx} {σ : Sto} {k : Nat} (h : NK G D X σ k) : ∀ i, i < dwc D k → zA σ (xcu X k) i = 0 := h.2.2.2.2.2.2.2.2.2.2.2.2.2.2.2.2.2.2.1
theorem NK.pl {G : Gb} {D : Dt} {X : Cx} {σ : Sto} {k : Nat} (h : NK G D X σ k) : ∀ b, zR σ (pfld b) (xnd X k) = some (xpl X b k) := h.2.2.2.2.2.2.2.2.2.2.2.2.2.2.2.2.2.2.2.1
theorem NK.plT {G : Gb} {D : Dt} {X : Cx} {σ : Sto} {k : Nat} (h : NK G D X σ k) : ∀ b, zT σ (xpl X b k) = (7, 0) := h.2.2.2.2.2.2.2.2.2.2.2.2.2.2.2.2.2.2.2.2.1
theorem NK.pc {G : Gb} {D : Dt} {X : Cx} {σ : Sto} {k : Nat} (h : NK G D X σ k) : ∀ b, zR σ 714 (xpl X b k) = some (xpc X b k) := h.2.2.2.2.2.2.2.2.2.2.2.2.2.2.2.2.2.2.2.2.2.1
theorem NK.pcT {G : Gb} {D : Dt} {X : Cx} {σ : Sto} {k : Nat} (h : NK G D X σ k) : ∀ b, zT σ (xpc X b k) = (23, pcn (dtx D k)) := h.2.2.2.2.2.2.2.2.2.2.2.2.2.2.2.2.2.2.2.2.2.2.1
theorem NK.th {G : Gb} {D : Dt} {X : Cx} {σ : Sto} {k : Nat} (h : NK G D X σ k) : ∀ b i, i < pcn (dtx D k) → zQ σ (xpc X b k) i = some (xth X b k i) := h.2.2.2.2.2.2.2.2.2.2.2.2.2.2.2.2.2.2.2.2.2.2.2.1
theorem NK.thT {G : Gb} {D : Dt} {X : Cx} {σ : Sto} {k : Nat} (h : NK G D X σ k) : ∀ b i, i < pcn (dtx D k) → zT σ (xth X b k i) = (9, 0) := h.2.2.2.2.2.2.2.2.2.2.2.2.2.2.2.2.2.2.2.2.2.2.2.2.1
theorem NK.num {G : Gb} {D : Dt} {X : Cx} {σ : Sto} {k : Nat} (h : NK G D X σ k) : zI σ 500 (xnd X k) = nI k := h.2.2.2.2.2.2.2.2.2.2.2.2.2.2.2.2.2.2.2.2.2.2.2.2.2
/-- what a layout is in the store -/
def LyS (X : Cx) (σ : Sto) (b : Bool) : Prop :=
  (zT σ (xLy X b) = (3, 0)) ∧
  (zI σ 300 (xLy X b) = zb (b = true)) ∧
  (zR σ 302 (xLy X b) = some (xfa X b)) ∧
  (zT σ (xfa X b) = (22, 21)) ∧
  (zQ σ (xfa X b) 0 = some (xF X b)) ∧
  (zT σ (xF X b) = (2, 0))
theorem LyS.T {X : Cx} {σ : Sto} {b : Bool} (h : LyS X σ b) : zT σ (xLy X b) = (3, 0) := h.1
theorem LyS.fr {X : Cx} {σ : Sto} {b : Bool} (h : LyS X σ b) : zI σ 300 (xLy X b) = zb (b = true) := h.2.1
theorem LyS.fa {X : Cx} {σ : Sto} {b : Bool} (h : LyS X σ b) : zR σ 302 (xLy X b) = some (xfa X b) := h.2.2.1
theorem LyS.faT {X : Cx} {σ : Sto} {b : Bool} (h : LyS X σ b) : zT σ (xfa X b) = (22, 21) := h.2.2.2.1
theorem LyS.F {X : Cx} {σ : Sto} {b : Bool} (h : LyS X σ b) : zQ σ (xfa X b) 0 = some (xF X b) := h.2.2.2.2.1
theorem LyS.FT {X : Cx} {σ : Sto} {b : Bool} (h : LyS X σ b) : zT σ (xF X b) = (2, 0) := h.2.2.2.2.2
/-- they lie apart -/
def DJ (X : Cx) (D : Dt) : Prop :=
  (∀ j k, j < dn D → k < dn D → xnd X j = xnd X k → j = k) ∧
  (∀ b c j k, j < dn D → k < dn D → xpl X b j = xpl X c k → b = c ∧ j = k) ∧
  (∀ b c j k i m, j < dn D → k < dn D → i < pcn (dtx D j) → m < pcn (dtx D k) → xth X b j i = xth X c k m → b = c ∧ j = k ∧ i = m) ∧
  (∀ b c, xF X b = xF X c → b = c) ∧
  (∀ b c, xLy X b = xLy X c → b = c)
theorem DJ.nd {X : Cx} {D : Dt} (h : DJ X D) : ∀ j k, j < dn D → k < dn D → xnd X j = xnd X k → j = k := h.1
theorem DJ.pl {X : Cx} {D : Dt} (h : DJ X D) : ∀ b c j k, j < dn D → k < dn D → xpl X b j = xpl X c k → b = c ∧ j = k := h.2.1
theorem DJ.th {X : Cx} {D : Dt} (h : DJ X D) : ∀ b c j k i m, j < dn D → k < dn D → i < pcn (dtx D j) → m < pcn (dtx D k) → xth X b j i = xth X c k m → b = c ∧ j = k ∧ i = m := h.2.2.1
theorem DJ.F {X : Cx} {D : Dt} (h : DJ X D) : ∀ b c, xF X b = xF X c → b = c := h.2.2.2.1
theorem DJ.Ly {X : Cx} {D : Dt} (h : DJ X D) : ∀ b c, xLy X b = xLy X c → b = c := h.2.2.2.2
/-- the whole tree, and both layouts -/
def NS (G : Gb) (D : Dt) (X : Cx) (σ : Sto) : Prop :=
  (∀ k, k < dn D → NK G D X σ k) ∧
  (∀ b, LyS X σ b) ∧
  (DJ X D) ∧
  (zI σ 502 (xnd X 0) = 0)
theorem NS.k {G : Gb} {D : Dt} {X : Cx} {σ : Sto} (h : NS G D X σ) : ∀ k, k < dn D → NK G D X σ k := h.1
theorem NS.l {G : Gb} {D : Dt} {X : Cx} {σ : Sto} (h : NS G D X σ) : ∀ b, LyS X σ b := h.2.1
theorem NS.d {G : Gb} {D : Dt} {X : Cx} {σ : Sto} (h : NS G D X σ) : DJ X D := h.2.2.1
theorem NS.dep {G : Gb} {D : Dt} {X : Cx} {σ : Sto} (h : NS G D X σ) : zI σ 502 (xnd X 0) = 0 := h.2.2.2
theorem NK.fm {G : Gb} {D : Dt} {X : Cx} {σ σ' : Sto} {k : Nat} {O : Nat → Prop} (h : NK G D X σ k) (f : Fm O σ σ') : NK G D X σ' k := by
  have i5 : ∀ g, 500 ≤ g → g < 700 → zI σ' g = zI σ g := fun g h1 h2 => f.I (Or.inr (Or.inr (Or.inl ⟨h1, h2⟩)))
  have r5 : ∀ g, 500 ≤ g → g < 700 → zR σ' g = zR σ g := fun g h1 h2 => f.R (Or.inr (Or.inr (Or.inl ⟨h1, h2⟩)))
  have r7 : zR σ' 714 = zR σ 714 := f.R (by unfold stf; omega)
  have rp : ∀ b, zR σ' (pfld b) = zR σ (pfld b) := fun b => by cases b <;> exact r5 _ (by decide) (by decide)
  refine ⟨f.T h.T, ?_, ?_, ?_, f.T h.cnT, ?_, ?_, ?_, ?_, ?_, ?_, ?_, ?_, ?_, f.T h.leT, ?_, ?_, f.T h.cuT, ?_, fun b => ?_, fun b => f.T (h.plT b), fun b => ?_, fun b => f.T (h.pcT b), fun b i hi => ?_, fun b i hi => f.T (h.thT b i hi), ?_⟩
  · rw [r5 _ (by decide) (by decide)]; exact h.par
  · rw [i5 _ (by decide) (by decide)]; exact h.size
  · rw [r5 _ (by decide) (by decide)]; exact h.cn
  · rw [f.A]; exact h.cnA
  · rw [r5 _ (by decide) (by decide)]; exact h.first
  · rw [r5 _ (by decide) (by decide)]; exact h.next
  · rw [i5 _ (by decide) (by decide)]; exact h.wc
  · rw [r5 _ (by decide) (by decide)]; exact h.kind
  · rw [i5 _ (by decide) (by decide)]; exact h.tab
  · rw [i5 _ (by decide) (by decide)]; exact h.ctx
  · rw [i5 _ (by decide) (by decide)]; exact h.scr
  · rw [r5 _ (by decide) (by decide)]; exact h.le
  · rw [f.A]; exact h.leA
  · rw [r5 _ (by decide) (by decide)]; exact h.cu
  · rw [f.A]; exact h.cuA
  · rw [rp b]; exact h.pl b
  · rw [r7]; exact h.pc b
  · rw [f.Q]; exact h.th b i hi
  · rw [i5 _ (by decide) (by decide)]; exact h.num
theorem LyS.fm {X : Cx} {σ σ' : Sto} {b : Bool} {O : Nat → Prop} (h : LyS X σ b) (f : Fm O σ σ') : LyS X σ' b := by
  refine ⟨f.T h.T, ?_, ?_, f.T h.faT, ?_, f.T h.FT⟩
  · rw [f.I (by unfold stf; omega)]; exact h.fr
  · rw [f.R (by unfold stf; omega)]; exact h.fa
  · rw [f.Q]; exact h.F
theorem NS.fm {G : Gb} {D : Dt} {X : Cx} {σ σ' : Sto} {O : Nat → Prop} (h : NS G D X σ) (f : Fm O σ σ') : NS G D X σ' :=
  ⟨fun k hk => (h.k k hk).fm f, fun b => (h.l b).fm f, h.d, by rw [f.I (by unfold stf; omega)]; exact h.dep⟩

/-! KINDS AND COUNTED STYLES (by wip/p27/gen_roles.py) -/
/-- the bare tree -/
def NX (D : Dt) (X : Cx) (σ : Sto) : Prop := (∀ k, k < dn D → zT σ (xnd X k) = (5, 0) ∧ zR σ 501 (xnd X k) = (if k = 0 then none else some (xnd X (dpar D k))) ∧ zR σ 510 (xnd X k) = lk X (nx D k k) ∧ zR σ 511 (xnd X k) = (if k = 0 then none else lk X (nx D (dpar D k) k))) ∧ ∀ j k, j < dn D → k < dn D → xnd X j = xnd X k → j = k
theorem NS.nx {G : Gb} {D : Dt} {X : Cx} {σ : Sto} (h : NS G D X σ) : NX D X σ := ⟨fun k hk => ⟨(h.k k hk).T, (h.k k hk).par, (h.k k hk).first, (h.k k hk).next⟩, h.d.nd⟩
theorem NX.to {D : Dt} {X : Cx} {σ σ' : Sto} (h : NX D X σ) (hT : ∀ a, (zT σ a).1 ≠ 0 → zT σ' a = zT σ a) (hR : zR σ' 501 = zR σ 501 ∧ zR σ' 510 = zR σ 510 ∧ zR σ' 511 = zR σ 511) : NX D X σ' :=
  ⟨fun k hk => by
    obtain ⟨h1, h2, h3, h4⟩ := h.1 k hk
    rw [hR.1, hR.2.1, hR.2.2]
    exact ⟨(hT _ (by rw [h1]; decide)).trans h1, h2, h3, h4⟩, h.2⟩
set_option maxHeartbeats 4000000 in
theorem l_climbX (l : Launch) {G : Gb} {D : Dt} {X : Cx} {z : Nat} {σ : Sto} (hD : DW D) (hN : NX D X σ) : ∀ n, n < dn D →
    Wp l G 1 0 0 (RX7, cX7_onward, 4, (some (.object "FlowBoxes$Node")), false) 18 [(3, .ref (xnd X n)), (0, .ref z), (1, .ref (xnd X 0)), (2, .int 1)] [] σ (fun v s => v = some (va_rf (lk X (up D n))) ∧ s = σ) := by
  intro n
  induction n using Nat.strongRecOn with
  | ind n ih =>
  intro hn
  by_cases h0 : n = 0
  · subst h0
    have hK0 := hN.1 0 hn
    show Wp l G 1 0 0 (RX7, cX7_onward, 4, (some (.object "FlowBoxes$Node")), false) 18 [(3, .ref (xnd X 0)), (0, .ref z), (1, .ref (xnd X 0)), (2, .int 1)] [] σ _
    refine zp_aload_n dX7_onward_18 rfl (a := (xnd X 0)) (List.mem_of_getElem? (i := 0) rfl) ?_
    refine zp_nullF dX7_onward_19 (tgt := 47) rfl ?_
    refine zp_aload_n dX7_onward_22 rfl (a := (xnd X 0)) (List.mem_of_getElem? (i := 0) rfl) ?_
    refine zp_aload_n dX7_onward_23 rfl (a := (xnd X 0)) (List.mem_of_getElem? (i := 2) rfl) ?_
    refine zp_acmp_eq (rx := (some (xnd X 0))) (ry := (some (xnd X 0))) dX7_onward_24 (tgt := 47) rfl rfl rfl (fun _ => ?_) (fun q => absurd rfl q)
    refine zp_null dX7_onward_47 ?_
    refine zp_aret rfl (r := none) rfl dX7_onward_48 ?_
    exact ⟨rfl, rfl⟩
  · have hKn := hN.1 n hn
    have hp := (hD.2.2.2.2.1 n (by omega) hn).1
    have hpar : zR σ 501 (xnd X n) = some (xnd X (dpar D n)) := by have := hKn.2.1; rw [if_neg h0] at this; exact this
    cases e : nx D (dpar D n) n with
    | some s =>
      have hnx : zR σ 511 (xnd X n) = some (xnd X s) := by have := hKn.2.2.2; rw [if_neg h0, e] at this; exact this
      show Wp l G 1 0 0 (RX7, cX7_onward, 4, (some (.object "FlowBoxes$Node")), false) 18 [(3, .ref (xnd X n)), (0, .ref z), (1, .ref (xnd X 0)), (2, .int 1)] [] σ _
      refine zp_aload_n dX7_onward_18 rfl (a := (xnd X n)) (List.mem_of_getElem? (i := 0) rfl) ?_
      refine zp_nullF dX7_onward_19 (tgt := 47) rfl ?_
      refine zp_aload_n dX7_onward_22 rfl (a := (xnd X n)) (List.mem_of_getElem? (i := 0) rfl) ?_
      refine zp_aload_n dX7_onward_23 rfl (a := (xnd X 0)) (List.mem_of_getElem? (i := 2) rfl) ?_
      refine zp_acmp_eq (rx := (some (xnd X n))) (ry := (some (xnd X 0))) dX7_onward_24 (tgt := 47) rfl rfl rfl (fun q => absurd q (fun q => h0 (hN.2 _ _ hn hD.1 (Option.some.inj q)))) (fun _ => ?_)
      refine zp_aload_n dX7_onward_27 rfl (a := (xnd X n)) (List.mem_of_getElem? (i := 0) rfl) ?_
      refine zp_getRv dX7_onward_28 fl_X7_83 hKn.1 (b := (xnd X s)) hnx ?_
      refine zp_nullF dX7_onward_31 (tgt := 39) rfl ?_
      refine zp_aload_n dX7_onward_34 rfl (a := (xnd X n)) (List.mem_of_getElem? (i := 0) rfl) ?_
      refine zp_getRv dX7_onward_35 fl_X7_83 hKn.1 (b := (xnd X s)) hnx ?_
      refine zp_aret rfl (r := some (xnd X s)) rfl dX7_onward_38 ?_
      rw [up_eq hD h0 hn, e]; exact ⟨rfl, rfl⟩
    | none =>
      have hnx : zR σ 511 (xnd X n) = none := by have := hKn.2.2.2; rw [if_neg h0, e] at this; exact this
      show Wp l G 1 0 0 (RX7, cX7_onward, 4, (some (.object "FlowBoxes$Node")), false) 18 [(3, .ref (xnd X n)), (0, .ref z), (1, .ref (xnd X 0)), (2, .int 1)] [] σ _
      refine zp_aload_n dX7_onward_18 rfl (a := (xnd X n)) (List.mem_of_getElem? (i := 0) rfl) ?_
      refine zp_nullF dX7_onward_19 (tgt := 47) rfl ?_
      refine zp_aload_n dX7_onward_22 rfl (a := (xnd X n)) (List.mem_of_getElem? (i := 0) rfl) ?_
      refine zp_aload_n dX7_onward_23 rfl (a := (xnd X 0)) (List.mem_of_getElem? (i := 2) rfl) ?_
      refine zp_acmp_eq (rx := (some (xnd X n))) (ry := (some (xnd X 0))) dX7_onward_24 (tgt := 47) rfl rfl rfl (fun q => absurd q (fun q => h0 (hN.2 _ _ hn hD.1 (Option.some.inj q)))) (fun _ => ?_)
      refine zp_aload_n dX7_onward_27 rfl (a := (xnd X n)) (List.mem_of_getElem? (i := 0) rfl) ?_
      refine zp_getRo dX7_onward_28 fl_X7_83 hKn.1 (r := none) hnx ?_
      refine zp_nullT dX7_onward_31 (tgt := 39) rfl ?_
      refine zp_aload_n dX7_onward_39 rfl (a := (xnd X n)) (List.mem_of_getElem? (i := 0) rfl) ?_
      refine zp_getRv dX7_onward_40 fl_X7_15 hKn.1 (b := (xnd X (dpar D n))) hpar ?_
      refine zp_astore_n dX7_onward_43 rfl (Nat.le_of_ble_eq_true rfl) (lv2 := [(3, .ref (xnd X (dpar D n))), (0, .ref z), (1, .ref (xnd X 0)), (2, .int 1)]) rfl ?_
      refine zp_goto dX7_onward_44 (tgt := 18) rfl ?_
      have e2 := ih (dpar D n) hp (by omega)
      rw [up_eq hD h0 hn, e]
      exact e2
set_option maxHeartbeats 4000000 in
theorem c_X7_onwardX (l : Launch) (G : Gb) (D : Dt) (X : Cx) (n : Nat) (σ : Sto) (hD : DW D) (hN : NX D X σ) (hn : n < dn D) : Ct l G 1 0 0 yX7_onward mX7_onward [.ref (xnd X n), .ref (xnd X 0), .int 1] σ (fun v s => v = some (va_rf (lk X (onw D n))) ∧ s = σ) := by
  refine Ct.of (by decide) rfl (Nat.le_of_ble_eq_true rfl) (fun h => absurd h (by decide)) ?_
  have hKn := hN.1 n hn
  unfold onw
  cases e : nx D n n with
  | some c =>
    have hfs : zR σ 510 (xnd X n) = some (xnd X c) := by rw [hKn.2.2.1, e]; rfl
    show Wp l G 1 0 0 (RX7, cX7_onward, 4, (some (.object "FlowBoxes$Node")), false) 0 [(0, .ref (xnd X n)), (1, .ref (xnd X 0)), (2, .int 1)] [] σ _
    refine zp_iload_n dX7_onward_0 rfl (x := 1) (List.mem_of_getElem? (i := 2) rfl) ?_
    refine zp_if_eq dX7_onward_1 (tgt := 16) rfl (fun q => absurd q (by decide)) (fun _ => ?_)
    refine zp_aload_n dX7_onward_4 rfl (a := (xnd X n)) (List.mem_of_getElem? (i := 0) rfl) ?_
    refine zp_getRv dX7_onward_5 fl_X7_80 hKn.1 (b := (xnd X c)) hfs ?_
    refine zp_nullF dX7_onward_8 (tgt := 16) rfl ?_
    refine zp_aload_n dX7_onward_11 rfl (a := (xnd X n)) (List.mem_of_getElem? (i := 0) rfl) ?_
    refine zp_getRv dX7_onward_12 fl_X7_80 hKn.1 (b := (xnd X c)) hfs ?_
    refine zp_aret rfl (r := some (xnd X c)) rfl dX7_onward_15 ?_
    exact ⟨rfl, rfl⟩
  | none =>
    have hfs : zR σ 510 (xnd X n) = none := by rw [hKn.2.2.1, e]; rfl
    show Wp l G 1 0 0 (RX7, cX7_onward, 4, (some (.object "FlowBoxes$Node")), false) 0 [(0, .ref (xnd X n)), (1, .ref (xnd X 0)), (2, .int 1)] [] σ _
    refine zp_iload_n dX7_onward_0 rfl (x := 1) (List.mem_of_getElem? (i := 2) rfl) ?_
    refine zp_if_eq dX7_onward_1 (tgt := 16) rfl (fun q => absurd q (by decide)) (fun _ => ?_)
    refine zp_aload_n dX7_onward_4 rfl (a := (xnd X n)) (List.mem_of_getElem? (i := 0) rfl) ?_
    refine zp_getRo dX7_onward_5 fl_X7_80 hKn.1 (r := none) hfs ?_
    refine zp_nullT dX7_onward_8 (tgt := 16) rfl ?_
    refine zp_aload_n dX7_onward_16 rfl (a := (xnd X n)) (List.mem_of_getElem? (i := 0) rfl) ?_
    refine zp_astore_n dX7_onward_17 rfl (Nat.le_of_ble_eq_true rfl) (lv2 := [(3, .ref (xnd X n)), (0, .ref (xnd X n)), (1, .ref (xnd X 0)), (2, .int 1)]) rfl ?_
    exact l_climbX l hD hN n hn
/-- where the rest lies: the object, its row of nodes, the painter, its row, the nodes' own styles -/
abbrev Cy : Type := Nat × Nat × Nat × Nat × (Nat → Nat)
abbrev xob (Y : Cy) : Nat := Y.1
abbrev xna (Y : Cy) : Nat := Y.2.1
abbrev xpt (Y : Cy) : Nat := Y.2.2.1
abbrev xoa (Y : Cy) : Nat := Y.2.2.2.1
abbrev xsy (Y : Cy) : Nat → Nat := Y.2.2.2.2
def arX (X : Cx) (Y : Cy) : Nat → Nat → Nat
  | 0, k => xcn X k
  | 1, k => xsy Y k
  | 2, k => xle X k
  | _, k => xcu X k
def DA (X : Cx) (Y : Cy) (n : Nat) : Prop := ∀ t u j k, t < 4 → u < 4 → j < n → k < n → arX X Y t j = arX X Y u k → t = u ∧ j = k
/-- a node, but for its counted styles and whether it is a context -/
def NKp (G : Gb) (D : Dt) (X : Cx) (σ : Sto) (k : Nat) : Prop :=
  (zT σ (xnd X k) = (5, 0)) ∧ (zR σ 501 (xnd X k) = if k = 0 then none else some (xnd X (dpar D k))) ∧ (zI σ 503 (xnd X k) = if dtx D k = true then dsz D k else 0) ∧ (zR σ 505 (xnd X k) = some (xcn X k)) ∧ (zT σ (xcn X k) = (20, 21)) ∧
  (zR σ 510 (xnd X k) = lk X (nx D k k)) ∧ (zR σ 511 (xnd X k) = if k = 0 then none else lk X (nx D (dpar D k) k)) ∧ (zI σ 512 (xnd X k) = nI (dwc D k)) ∧ (zR σ 514 (xnd X k) = some (G.2.2.1 (kdn (dtx D k)))) ∧ (zI σ 515 (xnd X k) = 0) ∧ (zI σ 517 (xnd X k) = 0) ∧
  (zR σ 506 (xnd X k) = some (xle X k)) ∧ (zT σ (xle X k) = (20, wd20 (dtx D k))) ∧ (∀ i, i < dwc D k → zA σ (xle X k) i = dln D k i) ∧ (zR σ 507 (xnd X k) = some (xcu X k)) ∧ (zT σ (xcu X k) = (20, wd20 (dtx D k))) ∧ (∀ i, i < dwc D k → zA σ (xcu X k) i = 0) ∧
  (∀ b, zR σ (pfld b) (xnd X k) = some (xpl X b k)) ∧ (∀ b, zT σ (xpl X b k) = (7, 0)) ∧ (∀ b, zR σ 714 (xpl X b k) = some (xpc X b k)) ∧ (∀ b, zT σ (xpc X b k) = (23, pcn (dtx D k))) ∧ (∀ b i, i < pcn (dtx D k) → zQ σ (xpc X b k) i = some (xth X b k i)) ∧ (∀ b i, i < pcn (dtx D k) → zT σ (xth X b k i) = (9, 0)) ∧ (zI σ 500 (xnd X k) = nI k)
theorem NK.p {G : Gb} {D : Dt} {X : Cx} {σ : Sto} {k : Nat} (h : NK G D X σ k) : NKp G D X σ k :=
  ⟨h.T, h.par, h.size, h.cn, h.cnT, h.first, h.next, h.wc, h.kind, h.tab, h.scr, h.le, h.leT, h.leA, h.cu, h.cuT, h.cuA, h.pl, h.plT, h.pc, h.pcT, h.th, h.thT, h.num⟩
theorem NKp.up {G : Gb} {D : Dt} {X : Cx} {σ : Sto} {k : Nat} (h : NKp G D X σ k) (hc : dtx D k = false → ∀ s, s < 21 → zA σ (xcn X k) s = dst D k s) (hx : zI σ 516 (xnd X k) = zb (k = 0)) : NK G D X σ k := by
  obtain ⟨a1, a2, a3, a4, a5, a6, a7, a8, a9, a10, a11, a12, a13, a14, a15, a16, a17, a18, a19, a20, a21, a22, a23, a24⟩ := h
  exact ⟨a1, a2, a3, a4, a5, hc, a6, a7, a8, a9, a10, hx, a11, a12, a13, a14, a15, a16, a17, a18, a19, a20, a21, a22, a23, a24⟩
/-- what NKp speaks of is as it was -/
theorem NKp.to {G : Gb} {D : Dt} {X : Cx} {σ σ' : Sto} {k : Nat} (h : NKp G D X σ k) (hT : ∀ a, (zT σ a).1 ≠ 0 → zT σ' a = zT σ a) (hI : ∀ g, g = 500 ∨ g = 503 ∨ g = 512 ∨ g = 515 ∨ g = 517 → zI σ' g (xnd X k) = zI σ g (xnd X k)) (hR : ∀ g, g = 501 ∨ g = 505 ∨ g = 506 ∨ g = 507 ∨ g = 508 ∨ g = 509 ∨ g = 510 ∨ g = 511 ∨ g = 514 → zR σ' g (xnd X k) = zR σ g (xnd X k)) (hR7 : ∀ b, zR σ' 714 (xpl X b k) = zR σ 714 (xpl X b k)) (hA : zA σ' (xle X k) = zA σ (xle X k) ∧ zA σ' (xcu X k) = zA σ (xcu X k)) (hQ : ∀ b, zQ σ' (xpc X b k) = zQ σ (xpc X b k)) : NKp G D X σ' k := by
  obtain ⟨a1, a2, a3, a4, a5, a6, a7, a8, a9, a10, a11, a12, a13, a14, a15, a16, a17, a18, a19, a20, a21, a22, a23, a24⟩ := h
  have t : ∀ {a c n : Nat}, zT σ a = (c + 1, n) → zT σ' a = (c + 1, n) := fun {a c n} q => (hT a (by rw [q]; exact Nat.succ_ne_zero c)).trans q
  refine ⟨t a1, (hR _ (by omega)).trans a2, (hI _ (by omega)).trans a3, (hR _ (by omega)).trans a4, t a5, (hR _ (by omega)).trans a6, (hR _ (by omega)).trans a7, (hI _ (by omega)).trans a8, (hR _ (by omega)).trans a9, (hI _ (by omega)).trans a10, (hI _ (by omega)).trans a11, (hR _ (by omega)).trans a12, t a13, fun i hi => by rw [hA.1]; exact a14 i hi, (hR _ (by omega)).trans a15, t a16, fun i hi => by rw [hA.2]; exact a17 i hi, fun b => ?_, fun b => t (a19 b), fun b => (hR7 b).trans (a20 b), fun b => t (a21 b), fun b i hi => by rw [hQ b]; exact a22 b i hi, fun b i hi => t (a23 b i hi), (hI _ (by omega)).trans a24⟩
  cases b
  · exact (hR _ (by unfold pfld; decide)).trans (a18 _)
  · exact (hR _ (by unfold pfld; decide)).trans (a18 _)
def Sy (D : Dt) (X : Cx) (Y : Cy) (σ : Sto) (k : Nat) : Prop := zR σ 504 (xnd X k) = some (xsy Y k) ∧ zT σ (xsy Y k) = (20, 21) ∧ (dtx D k = false → ∀ s, s < 21 → zA σ (xsy Y k) s = dst D k s)
/-- the counted styles of one node, from the first on -/
def cnS (c : Nat) (f : Nat → Int32) (n : Nat) (σ : Sto) : Sto := (σ.1, σ.2.1, σ.2.2.1, (fun a i => if a = c ∧ i < n then f i else σ.2.2.2.1 a i), σ.2.2.2.2)
theorem cnS_A {c : Nat} {f : Nat → Int32} {n : Nat} {σ : Sto} {a i : Nat} : zA (cnS c f n σ) a i = if a = c ∧ i < n then f i else zA σ a i := rfl
theorem cnS_b {c : Nat} {f : Nat → Int32} {n : Nat} {σ : Sto} {a : Nat} (h : a ≠ c) : zA (cnS c f n σ) a = zA σ a := by
  funext i
  rw [cnS_A, if_neg (fun q => h q.1)]
theorem cnS_0 {c : Nat} {f : Nat → Int32} {σ : Sto} : cnS c f 0 σ = σ := by
  have e : (fun a i => if a = c ∧ i < 0 then f i else σ.2.2.2.1 a i) = σ.2.2.2.1 := by
    funext a i
    rw [if_neg (fun q => by omega)]
  show (σ.1, σ.2.1, σ.2.2.1, _, σ.2.2.2.2) = σ
  rw [e]
theorem cnS_S {c : Nat} {f : Nat → Int32} {n : Nat} {σ : Sto} : wA (cnS c f n σ) c n (f n) = cnS c f (n + 1) σ := by
  have e : (fun a' i' => if a' = c ∧ i' = n then f n else (if a' = c ∧ i' < n then f i' else σ.2.2.2.1 a' i')) = (fun a i => if a = c ∧ i < n + 1 then f i else σ.2.2.2.1 a i) := by
    funext a i
    by_cases q : a = c
    · by_cases q2 : i = n
      · rw [if_pos ⟨q, q2⟩, if_pos ⟨q, by omega⟩, q2]
      · rw [if_neg (fun z => q2 z.2)]
        by_cases q3 : i < n
        · rw [if_pos ⟨q, q3⟩, if_pos ⟨q, by omega⟩]
        · rw [if_neg (fun z => q3 z.2), if_neg (fun z => by have := z.2; omega)]
    · rw [if_neg (fun z => q z.1), if_neg (fun z => q z.1), if_neg (fun z => q z.1)]
  show (σ.1, σ.2.1, σ.2.2.1, _, σ.2.2.2.2) = (σ.1, σ.2.1, σ.2.2.1, _, σ.2.2.2.2)
  rw [← e]
  rfl
theorem wR_same {σ : Sto} {f a : Nat} {x : Option Nat} (h : zR σ f a = x) : wR σ f a x = σ := by
  have e : (fun f' a' => if f' = f ∧ a' = a then x else σ.2.2.1 f' a') = σ.2.2.1 := by
    funext f' a'
    by_cases q : f' = f ∧ a' = a
    · rw [if_pos q, q.1, q.2]; exact h.symm
    · rw [if_neg q]
  show (σ.1, σ.2.1, (fun f' a' => if f' = f ∧ a' = a then x else σ.2.2.1 f' a'), σ.2.2.2) = σ
  rw [e]
/-- what the kinds need of every node -/
def AI (G : Gb) (D : Dt) (X : Cx) (Y : Cy) (σ : Sto) : Prop := (∀ k, k < dn D → NKp G D X σ k) ∧ (∀ k, k < dn D → dtx D k = false → zA σ (xcn X k) 17 = 1) ∧ (∀ k, k < dn D → Sy D X Y σ k) ∧ Sw G σ ∧ ∀ k, k < dn D → dtx D k = true → zI σ 516 (xnd X k) = 0
theorem AI.nx {G : Gb} {D : Dt} {X : Cx} {Y : Cy} {σ : Sto} (h : AI G D X Y σ) (hd : ∀ j k, j < dn D → k < dn D → xnd X j = xnd X k → j = k) : NX D X σ := ⟨fun k hk => ⟨(h.1 k hk).1, (h.1 k hk).2.1, (h.1 k hk).2.2.2.2.2.1, (h.1 k hk).2.2.2.2.2.2.1⟩, hd⟩
set_option maxRecDepth 100000 in
set_option maxHeartbeats 4000000 in
theorem c_X7_countsFor (l : Launch) (G : Gb) (a na : Nat) (s : Int32) (σ : Sto) (hA : zT σ a = (5, na)) (hk : zR σ 514 a = some (G.2.2.1 0)) (hsw : Sw G σ) : Ct l G 2 0 0 yX7_countsFor mX7_countsFor [.ref a, .int s] σ (fun v t => v = some (.int 1) ∧ t = σ) := by
  refine Ct.of (by decide) rfl (Nat.le_of_ble_eq_true rfl) (fun h => absurd h (by decide)) ?_
  show Wp l G 2 0 0 (RX7, cX7_countsFor, 2, (some .boolean), false) 0 [(0, .ref a), (1, .int s)] [] σ _
  refine zp_swmap dX7_countsFor_0 wd_353 ?_
  refine zp_aload_n dX7_countsFor_3 rfl (a := a) (List.mem_of_getElem? (i := 0) rfl) ?_
  refine zp_getRv dX7_countsFor_4 fl_X7_63 hA (b := (G.2.2.1 0)) hk ?_
  refine zp_callO (n := 0) (av := []) (nest := false) (i := 0) (st := [.ref G.2.2.2.1]) (mc2 := 0) (ms2 := 0) (by decide) dX7_countsFor_7 (c_ordinal l G 0 (by decide) _) rfl (by decide) wd_355 wd_356 wd_358 im_Jx29ce0_ordinal_8abf5 wd_6 wd_360 rfl (by omega) (by omega) (by omega) (Nat.le_of_ble_eq_true rfl) ?_
  rintro _ s1 ⟨rfl, hs1⟩; obtain rfl := hs1.symm
  refine zp_iald_v dX7_countsFor_10 hsw.1 (Or.inr rfl) (j := 0) (by decide) (zin (by decide)) (v := 0) hsw.2.2 ?_
  refine zp_tableOut (tgt := 73) dX7_countsFor_11 (by decide) rfl ?_
  refine zp_iconst dX7_countsFor_73 (v := 1) (by decide) ?_
  refine zp_zret rfl (Or.inr rfl) dX7_countsFor_74 ?_
  exact ⟨rfl, rfl⟩
set_option maxHeartbeats 4000000 in
theorem l_inCols (l : Launch) {G : Gb} {D : Dt} {X : Cx} {Y : Cy} {z : Nat} {σ : Sto} (hD : DW D) (h : AI G D X Y σ) : ∀ k, k < dn D → dtx D k = false →
    Wp l G 1 0 0 (RX7, cX7_isInColumns, 2, (some .boolean), false) 5 [(1, .ref (xnd X k)), (0, .ref z)] [] σ (fun v s => v = some (.int 0) ∧ s = σ) := by
  intro k
  induction k using Nat.strongRecOn with
  | ind k ih =>
  intro hk ht
  have hK := h.1 k hk
  by_cases h0 : k = 0
  · have hpar : zR σ 501 (xnd X k) = none := by have := hK.2.1; rw [if_pos h0] at this; exact this
    show Wp l G 1 0 0 (RX7, cX7_isInColumns, 2, (some .boolean), false) 5 [(1, .ref (xnd X k)), (0, .ref z)] [] σ _
    refine zp_aload_n dX7_isInColumns_5 rfl (a := (xnd X k)) (List.mem_of_getElem? (i := 0) rfl) ?_
    refine zp_nullF dX7_isInColumns_6 (tgt := 30) rfl ?_
    refine zp_aload_n dX7_isInColumns_9 rfl (a := (xnd X k)) (List.mem_of_getElem? (i := 0) rfl) ?_
    refine zp_getRv dX7_isInColumns_10 fl_X7_29 hK.1 (b := (xcn X k)) hK.2.2.2.1 ?_
    refine zp_bipush dX7_isInColumns_13 (v := 17) (by decide) ?_
    refine zp_iald_v dX7_isInColumns_15 hK.2.2.2.2.1 (Or.inl rfl) (j := 17) (by decide) (zin (by decide)) (v := 1) (h.2.1 k hk ht) ?_
    refine zp_iconst dX7_isInColumns_16 (v := 1) (by decide) ?_
    refine zp_icmp_le dX7_isInColumns_17 (tgt := 22) rfl (fun _ => ?_) (fun q => absurd (Int32.le_refl _) q)
    refine zp_aload_n dX7_isInColumns_22 rfl (a := (xnd X k)) (List.mem_of_getElem? (i := 0) rfl) ?_
    refine zp_getRo dX7_isInColumns_23 fl_X7_15 hK.1 (r := none) hpar ?_
    refine zp_astoreo_n dX7_isInColumns_26 rfl (Nat.le_of_ble_eq_true rfl) (r := none) (v := .null) rfl (lv2 := [(1, .null), (0, .ref z)]) rfl ?_
    refine zp_goto dX7_isInColumns_27 (tgt := 5) rfl ?_
    refine zp_aloado_n dX7_isInColumns_5 rfl (r := none) (v := .null) rfl (List.mem_of_getElem? (i := 0) rfl) ?_
    refine zp_nullT dX7_isInColumns_6 (tgt := 30) rfl ?_
    refine zp_iconst dX7_isInColumns_30 (v := 0) (by decide) ?_
    refine zp_zret rfl (Or.inl rfl) dX7_isInColumns_31 ?_
    exact ⟨rfl, rfl⟩
  · have hpar : zR σ 501 (xnd X k) = some (xnd X (dpar D k)) := by have := hK.2.1; rw [if_neg h0] at this; exact this
    have hp := hD.2.2.2.2.1 k (by omega) hk
    show Wp l G 1 0 0 (RX7, cX7_isInColumns, 2, (some .boolean), false) 5 [(1, .ref (xnd X k)), (0, .ref z)] [] σ _
    refine zp_aload_n dX7_isInColumns_5 rfl (a := (xnd X k)) (List.mem_of_getElem? (i := 0) rfl) ?_
    refine zp_nullF dX7_isInColumns_6 (tgt := 30) rfl ?_
    refine zp_aload_n dX7_isInColumns_9 rfl (a := (xnd X k)) (List.mem_of_getElem? (i := 0) rfl) ?_
    refine zp_getRv dX7_isInColumns_10 fl_X7_29 hK.1 (b := (xcn X k)) hK.2.2.2.1 ?_
    refine zp_bipush dX7_isInColumns_13 (v := 17) (by decide) ?_
    refine zp_iald_v dX7_isInColumns_15 hK.2.2.2.2.1 (Or.inl rfl) (j := 17) (by decide) (zin (by decide)) (v := 1) (h.2.1 k hk ht) ?_
    refine zp_iconst dX7_isInColumns_16 (v := 1) (by decide) ?_
    refine zp_icmp_le dX7_isInColumns_17 (tgt := 22) rfl (fun _ => ?_) (fun q => absurd (Int32.le_refl _) q)
    refine zp_aload_n dX7_isInColumns_22 rfl (a := (xnd X k)) (List.mem_of_getElem? (i := 0) rfl) ?_
    refine zp_getRv dX7_isInColumns_23 fl_X7_15 hK.1 (b := (xnd X (dpar D k))) hpar ?_
    refine zp_astore_n dX7_isInColumns_26 rfl (Nat.le_of_ble_eq_true rfl) (lv2 := [(1, .ref (xnd X (dpar D k))), (0, .ref z)]) rfl ?_
    refine zp_goto dX7_isInColumns_27 (tgt := 5) rfl ?_
    exact ih (dpar D k) hp.1 (by omega) hp.2
set_option maxRecDepth 100000 in
set_option maxHeartbeats 4000000 in
theorem c_X7_inCols0 (l : Launch) (G : Gb) (a na : Nat) (σ : Sto) (hA : zT σ a = (5, na)) (hp : zR σ 501 a = none) : Ct l G 1 0 0 yX7_isInColumns mX7_isInColumns [.ref a] σ (fun v s => v = some (.int 0) ∧ s = σ) := by
  refine Ct.of (by decide) rfl (Nat.le_of_ble_eq_true rfl) (fun h => absurd h (by decide)) ?_
  show Wp l G 1 0 0 (RX7, cX7_isInColumns, 2, (some .boolean), false) 0 [(0, .ref a)] [] σ _
  refine zp_aload_n dX7_isInColumns_0 rfl (a := a) (List.mem_of_getElem? (i := 0) rfl) ?_
  refine zp_getRo dX7_isInColumns_1 fl_X7_15 hA (r := none) hp ?_
  refine zp_astoreo_n dX7_isInColumns_4 rfl (Nat.le_of_ble_eq_true rfl) (r := none) (v := .null) rfl (lv2 := [(1, .null), (0, .ref a)]) rfl ?_
  refine zp_aloado_n dX7_isInColumns_5 rfl (r := none) (v := .null) rfl (List.mem_of_getElem? (i := 0) rfl) ?_
  refine zp_nullT dX7_isInColumns_6 (tgt := 30) rfl ?_
  refine zp_iconst dX7_isInColumns_30 (v := 0) (by decide) ?_
  refine zp_zret rfl (Or.inl rfl) dX7_isInColumns_31 ?_
  exact ⟨rfl, rfl⟩
set_option maxRecDepth 100000 in
set_option maxHeartbeats 4000000 in
theorem c_X7_inCols1 (l : Launch) (G : Gb) (D : Dt) (X : Cx) (Y : Cy) (k : Nat) (σ : Sto) (hD : DW D) (h : AI G D X Y σ) (hk : k < dn D) (h0 : k ≠ 0) : Ct l G 1 0 0 yX7_isInColumns mX7_isInColumns [.ref (xnd X k)] σ (fun v s => v = some (.int 0) ∧ s = σ) := by
  refine Ct.of (by decide) rfl (Nat.le_of_ble_eq_true rfl) (fun h => absurd h (by decide)) ?_
  have hK := h.1 k hk
  have hpar : zR σ 501 (xnd X k) = some (xnd X (dpar D k)) := by have := hK.2.1; rw [if_neg h0] at this; exact this
  have hp := hD.2.2.2.2.1 k (by omega) hk
  show Wp l G 1 0 0 (RX7, cX7_isInColumns, 2, (some .boolean), false) 0 [(0, .ref (xnd X k))] [] σ _
  refine zp_aload_n dX7_isInColumns_0 rfl (a := (xnd X k)) (List.mem_of_getElem? (i := 0) rfl) ?_
  refine zp_getRv dX7_isInColumns_1 fl_X7_15 hK.1 (b := (xnd X (dpar D k))) hpar ?_
  refine zp_astore_n dX7_isInColumns_4 rfl (Nat.le_of_ble_eq_true rfl) (lv2 := [(1, .ref (xnd X (dpar D k))), (0, .ref (xnd X k))]) rfl ?_
  exact l_inCols l hD h (dpar D k) (by omega) hp.2
set_option maxRecDepth 100000 in
set_option maxHeartbeats 4000000 in
theorem c_X7_findKind0 (l : Launch) (G : Gb) (a na : Nat) (σ : Sto) (hA : zT σ a = (5, na)) (hp : zR σ 501 a = none) : Ct l G 2 0 0 yX7_findKind mX7_findKind [.ref a] σ (fun v s => v = some (.ref (G.2.2.1 0)) ∧ s = σ) := by
  refine Ct.of (by decide) rfl (Nat.le_of_ble_eq_true rfl) (fun h => absurd h (by decide)) ?_
  show Wp l G 2 0 0 (RX7, cX7_findKind, 2, (some (.object "FlowBoxes$Kind")), false) 0 [(0, .ref a)] [] σ _
  refine zp_aload_n dX7_findKind_0 rfl (a := a) (List.mem_of_getElem? (i := 0) rfl) ?_
  refine zp_getRo dX7_findKind_1 fl_X7_15 hA (r := none) hp ?_
  refine zp_nonnullF dX7_findKind_4 (tgt := 11) rfl ?_
  refine zp_kind (i := 0) dX7_findKind_7 (by decide) rfl wd_190 ?_
  refine zp_aret rfl (r := some (G.2.2.1 0)) rfl dX7_findKind_10 ?_
  exact ⟨rfl, rfl⟩
set_option maxRecDepth 100000 in
set_option maxHeartbeats 4000000 in
theorem c_X7_findKindB (l : Launch) (G : Gb) (D : Dt) (X : Cx) (Y : Cy) (k : Nat) (σ : Sto) (hD : DW D) (h : AI G D X Y σ) (hk : k < dn D) (h0 : k ≠ 0) (ht : dtx D k = false) : Ct l G 2 0 0 yX7_findKind mX7_findKind [.ref (xnd X k)] σ (fun v s => v = some (.ref (G.2.2.1 0)) ∧ s = σ) := by
  refine Ct.of (by decide) rfl (Nat.le_of_ble_eq_true rfl) (fun h => absurd h (by decide)) ?_
  have hK := h.1 k hk
  have hpar : zR σ 501 (xnd X k) = some (xnd X (dpar D k)) := by have := hK.2.1; rw [if_neg h0] at this; exact this
  have hp := hD.2.2.2.2.1 k (by omega) hk
  have hKp := h.1 (dpar D k) (by omega)
  have hkp : zR σ 514 (xnd X (dpar D k)) = some (G.2.2.1 0) := by have := hKp.2.2.2.2.2.2.2.2.1; rw [hp.2] at this; exact this
  have htp : zI σ 515 (xnd X (dpar D k)) = 0 := hKp.2.2.2.2.2.2.2.2.2.1
  have hS := h.2.2.1 k hk
  refine zp_kin (fun hkin => ?_)
  have hpos : ¬ (0 < zI σ 503 (xnd X k)) := by rw [hK.2.2.1, if_neg (by rw [ht]; decide)]; decide
  show Wp l G 2 0 0 (RX7, cX7_findKind, 2, (some (.object "FlowBoxes$Kind")), false) 0 [(0, .ref (xnd X k))] [] σ _
  refine zp_aload_n dX7_findKind_0 rfl (a := (xnd X k)) (List.mem_of_getElem? (i := 0) rfl) ?_
  refine zp_getRv dX7_findKind_1 fl_X7_15 hK.1 (b := (xnd X (dpar D k))) hpar ?_
  refine zp_nonnullT dX7_findKind_4 (tgt := 11) rfl ?_
  refine zp_aload_n dX7_findKind_11 rfl (a := (xnd X k)) (List.mem_of_getElem? (i := 0) rfl) ?_
  refine zp_getRv dX7_findKind_12 fl_X7_15 hK.1 (b := (xnd X (dpar D k))) hpar ?_
  refine zp_getRv dX7_findKind_15 fl_X7_63 hKp.1 (b := (G.2.2.1 0)) hkp ?_
  refine zp_kind (i := 3) dX7_findKind_18 (by decide) rfl wd_331 ?_
  refine zp_acmp_ne (rx := (some (G.2.2.1 0))) (ry := (some (G.2.2.1 3))) dX7_findKind_21 (tgt := 28) rfl rfl rfl (fun _ => ?_) (fun q => absurd q (fun q => absurd (hkin 0 3 (by decide) (by decide) (Option.some.inj q)) (by decide)))
  refine zp_iconst dX7_findKind_28 (v := 0) (by decide) ?_
  refine zp_istore_n dX7_findKind_29 rfl (Nat.le_of_ble_eq_true rfl) (lv2 := [(1, .int 0), (0, .ref (xnd X k))]) rfl ?_
  refine zp_aload_n dX7_findKind_30 rfl (a := (xnd X k)) (List.mem_of_getElem? (i := 1) rfl) ?_
  refine zp_callV (c0 := 4) (st := []) (mc2 := 0) (ms2 := 0) dX7_findKind_31 (c_X7_isText l G (xnd X k) 0 _ hK.1) cl_X7_66 im_X7_isText se_X7_isText rfl rfl hK.1 rfl rfl (by omega) (by omega) (by omega) (Nat.le_of_ble_eq_true rfl) ?_
  rintro _ s1 ⟨rfl, hs1⟩; obtain rfl := hs1.symm
  refine zp_ifb_eq dX7_findKind_34 (tgt := 61) rfl (fun _ => ?_) (fun q => absurd q hpos)
  refine zp_aload_n dX7_findKind_61 rfl (a := (xnd X k)) (List.mem_of_getElem? (i := 1) rfl) ?_
  refine zp_getRv dX7_findKind_62 fl_X7_15 hK.1 (b := (xnd X (dpar D k))) hpar ?_
  refine zp_getIv dX7_findKind_65 fl_X7_70 hKp.1 (v := 0) htp ?_
  refine zp_if_ne dX7_findKind_68 (tgt := 75) rfl (fun q => absurd (by decide) q) (fun _ => ?_)
  refine zp_iload_n dX7_findKind_71 rfl (x := 0) (List.mem_of_getElem? (i := 0) rfl) ?_
  refine zp_if_eq dX7_findKind_72 (tgt := 89) rfl (fun _ => ?_) (fun q => absurd rfl q)
  refine zp_aload_n dX7_findKind_89 rfl (a := (xnd X k)) (List.mem_of_getElem? (i := 1) rfl) ?_
  refine zp_getRv dX7_findKind_90 fl_X7_25 hK.1 (b := (xsy Y k)) hS.1 ?_
  refine zp_iconst dX7_findKind_93 (v := 3) (by decide) ?_
  refine zp_iald_v dX7_findKind_94 hS.2.1 (Or.inl rfl) (j := 3) (by decide) (zin (by decide)) (v := 0) ((hS.2.2 ht 3 (by decide)).trans (hD.2.2.2.2.2.2.2.2.2.2.2 k).2.2.2.1) ?_
  refine zp_iconst dX7_findKind_95 (v := 2) (by decide) ?_
  refine zp_icmp_ne dX7_findKind_96 (tgt := 103) rfl (fun _ => ?_) (fun q => absurd q (by decide))
  refine zp_aload_n dX7_findKind_103 rfl (a := (xnd X k)) (List.mem_of_getElem? (i := 1) rfl) ?_
  refine zp_getRv dX7_findKind_104 fl_X7_25 hK.1 (b := (xsy Y k)) hS.1 ?_
  refine zp_iconst dX7_findKind_107 (v := 1) (by decide) ?_
  refine zp_iald_v dX7_findKind_108 hS.2.1 (Or.inl rfl) (j := 1) (by decide) (zin (by decide)) (v := 0) ((hS.2.2 ht 1 (by decide)).trans (hD.2.2.2.2.2.2.2.2.2.2.2 k).2.1) ?_
  refine zp_if_eq dX7_findKind_109 (tgt := 116) rfl (fun _ => ?_) (fun q => absurd rfl q)
  refine zp_aload_n dX7_findKind_116 rfl (a := (xnd X k)) (List.mem_of_getElem? (i := 1) rfl) ?_
  refine zp_getRv dX7_findKind_117 fl_X7_25 hK.1 (b := (xsy Y k)) hS.1 ?_
  refine zp_iconst dX7_findKind_120 (v := 0) (by decide) ?_
  refine zp_iald_v dX7_findKind_121 hS.2.1 (Or.inl rfl) (j := 0) (by decide) (zin (by decide)) (v := 0) ((hS.2.2 ht 0 (by decide)).trans (hD.2.2.2.2.2.2.2.2.2.2.2 k).1) ?_
  refine zp_iconst dX7_findKind_122 (v := 1) (by decide) ?_
  refine zp_icmp_ne dX7_findKind_123 (tgt := 130) rfl (fun _ => ?_) (fun q => absurd q (by decide))
  refine zp_aload_n dX7_findKind_130 rfl (a := (xnd X k)) (List.mem_of_getElem? (i := 1) rfl) ?_
  refine zp_getRv dX7_findKind_131 fl_X7_25 hK.1 (b := (xsy Y k)) hS.1 ?_
  refine zp_iconst dX7_findKind_134 (v := 0) (by decide) ?_
  refine zp_iald_v dX7_findKind_135 hS.2.1 (Or.inl rfl) (j := 0) (by decide) (zin (by decide)) (v := 0) ((hS.2.2 ht 0 (by decide)).trans (hD.2.2.2.2.2.2.2.2.2.2.2 k).1) ?_
  refine zp_iconst dX7_findKind_136 (v := 2) (by decide) ?_
  refine zp_icmp_eq dX7_findKind_137 (tgt := 153) rfl (fun q => absurd q (by decide)) (fun _ => ?_)
  refine zp_aload_n dX7_findKind_140 rfl (a := (xnd X k)) (List.mem_of_getElem? (i := 1) rfl) ?_
  refine zp_getRv dX7_findKind_141 fl_X7_15 hK.1 (b := (xnd X (dpar D k))) hpar ?_
  refine zp_getRv dX7_findKind_144 fl_X7_63 hKp.1 (b := (G.2.2.1 0)) hkp ?_
  refine zp_kind (i := 1) dX7_findKind_147 (by decide) rfl wd_345 ?_
  refine zp_acmp_ne (rx := (some (G.2.2.1 0))) (ry := (some (G.2.2.1 1))) dX7_findKind_150 (tgt := 159) rfl rfl rfl (fun _ => ?_) (fun q => absurd q (fun q => absurd (hkin 0 1 (by decide) (by decide) (Option.some.inj q)) (by decide)))
  refine zp_kind (i := 0) dX7_findKind_159 (by decide) rfl wd_190 ?_
  refine zp_aret rfl (r := some (G.2.2.1 0)) rfl dX7_findKind_162 ?_
  exact ⟨rfl, rfl⟩
set_option maxRecDepth 100000 in
set_option maxHeartbeats 4000000 in
theorem c_X7_findKindT (l : Launch) (G : Gb) (D : Dt) (X : Cx) (Y : Cy) (k : Nat) (σ : Sto) (hD : DW D) (h : AI G D X Y σ) (hk : k < dn D) (h0 : k ≠ 0) (ht : dtx D k = true) : Ct l G 2 0 0 yX7_findKind mX7_findKind [.ref (xnd X k)] σ (fun v s => v = some (.ref (G.2.2.1 7)) ∧ s = σ) := by
  refine Ct.of (by decide) rfl (Nat.le_of_ble_eq_true rfl) (fun h => absurd h (by decide)) ?_
  have hK := h.1 k hk
  have hpar : zR σ 501 (xnd X k) = some (xnd X (dpar D k)) := by have := hK.2.1; rw [if_neg h0] at this; exact this
  have hp := hD.2.2.2.2.1 k (by omega) hk
  have hKp := h.1 (dpar D k) (by omega)
  have hkp : zR σ 514 (xnd X (dpar D k)) = some (G.2.2.1 0) := by have := hKp.2.2.2.2.2.2.2.2.1; rw [hp.2] at this; exact this
  have htp : zI σ 515 (xnd X (dpar D k)) = 0 := hKp.2.2.2.2.2.2.2.2.2.1
  have hS := h.2.2.1 k hk
  refine zp_kin (fun hkin => ?_)
  have hpos : 0 < zI σ 503 (xnd X k) := by rw [hK.2.2.1, if_pos ht]; exact Int32.lt_iff_toInt_lt.mpr (by have := hD.2.2.2.2.2.2.2.1 k; rw [show (0 : Int32).toInt = 0 from rfl]; omega)
  show Wp l G 2 0 0 (RX7, cX7_findKind, 2, (some (.object "FlowBoxes$Kind")), false) 0 [(0, .ref (xnd X k))] [] σ _
  refine zp_aload_n dX7_findKind_0 rfl (a := (xnd X k)) (List.mem_of_getElem? (i := 0) rfl) ?_
  refine zp_getRv dX7_findKind_1 fl_X7_15 hK.1 (b := (xnd X (dpar D k))) hpar ?_
  refine zp_nonnullT dX7_findKind_4 (tgt := 11) rfl ?_
  refine zp_aload_n dX7_findKind_11 rfl (a := (xnd X k)) (List.mem_of_getElem? (i := 0) rfl) ?_
  refine zp_getRv dX7_findKind_12 fl_X7_15 hK.1 (b := (xnd X (dpar D k))) hpar ?_
  refine zp_getRv dX7_findKind_15 fl_X7_63 hKp.1 (b := (G.2.2.1 0)) hkp ?_
  refine zp_kind (i := 3) dX7_findKind_18 (by decide) rfl wd_331 ?_
  refine zp_acmp_ne (rx := (some (G.2.2.1 0))) (ry := (some (G.2.2.1 3))) dX7_findKind_21 (tgt := 28) rfl rfl rfl (fun _ => ?_) (fun q => absurd q (fun q => absurd (hkin 0 3 (by decide) (by decide) (Option.some.inj q)) (by decide)))
  refine zp_iconst dX7_findKind_28 (v := 0) (by decide) ?_
  refine zp_istore_n dX7_findKind_29 rfl (Nat.le_of_ble_eq_true rfl) (lv2 := [(1, .int 0), (0, .ref (xnd X k))]) rfl ?_
  refine zp_aload_n dX7_findKind_30 rfl (a := (xnd X k)) (List.mem_of_getElem? (i := 1) rfl) ?_
  refine zp_callV (c0 := 4) (st := []) (mc2 := 0) (ms2 := 0) dX7_findKind_31 (c_X7_isText l G (xnd X k) 0 _ hK.1) cl_X7_66 im_X7_isText se_X7_isText rfl rfl hK.1 rfl rfl (by omega) (by omega) (by omega) (Nat.le_of_ble_eq_true rfl) ?_
  rintro _ s1 ⟨rfl, hs1⟩; obtain rfl := hs1.symm
  refine zp_ifb_eq dX7_findKind_34 (tgt := 61) rfl (fun q => absurd hpos q) (fun _ => ?_)
  refine zp_aload_n dX7_findKind_37 rfl (a := (xnd X k)) (List.mem_of_getElem? (i := 1) rfl) ?_
  refine zp_getRv dX7_findKind_38 fl_X7_15 hK.1 (b := (xnd X (dpar D k))) hpar ?_
  refine zp_getIv dX7_findKind_41 fl_X7_70 hKp.1 (v := 0) htp ?_
  refine zp_if_ne dX7_findKind_44 (tgt := 51) rfl (fun q => absurd (by decide) q) (fun _ => ?_)
  refine zp_iload_n dX7_findKind_47 rfl (x := 0) (List.mem_of_getElem? (i := 0) rfl) ?_
  refine zp_if_eq dX7_findKind_48 (tgt := 57) rfl (fun _ => ?_) (fun q => absurd rfl q)
  refine zp_kind (i := 7) dX7_findKind_57 (by decide) rfl wd_188 ?_
  refine zp_aret rfl (r := some (G.2.2.1 7)) rfl dX7_findKind_60 ?_
  exact ⟨rfl, rfl⟩

/-! LINES: chains, who owns them; freeLines and addLine (by wip/p27/gen_lines.py) -/
def flS (Ly p : Nat) (σ : Sto) : Sto := match zR σ 712 p with
  | none => wR (wR σ 711 p none) 712 p none
  | some la => wR (wR (wR (wR σ 405 la (zR σ 303 Ly)) 303 Ly (zR σ 711 p)) 711 p none) 712 p none
def alS (p x : Nat) (σ : Sto) : Sto := match zR σ 712 p with
  | none => wR (wR (wR σ 405 x none) 711 p (some x)) 712 p (some x)
  | some la => wR (wR (wR σ 405 x none) 405 la (some x)) 712 p (some x)
set_option maxRecDepth 100000 in
set_option maxHeartbeats 4000000 in
theorem c_X4_freeLines (l : Launch) (G : Gb) (Ly p nL np : Nat) (σ : Sto) (hL : zT σ Ly = (3, nL)) (hp : zT σ p = (7, np)) (hla : ∀ la, zR σ 712 p = some la → zT σ la = (4, 0)) : Ct l G 1 0 0 yX4_freeLines mX4_freeLines [.ref Ly, .ref p] σ (fun v s => v = none ∧ s = flS Ly p σ) := by
  refine Ct.of (by decide) rfl (Nat.le_of_ble_eq_true rfl) (fun h => absurd h (by decide)) ?_
  show Wp l G 1 0 0 (RX4, cX4_freeLines, 2, none, false) 0 [(0, .ref Ly), (1, .ref p)] [] σ _
  refine zp_aload_n dX4_freeLines_0 rfl (a := p) (List.mem_of_getElem? (i := 1) rfl) ?_
  refine zp_getRn dX4_freeLines_1 fl_X4_520 hp (fun r hr => ?_)
  refine zp_ifnull (r := r) dX4_freeLines_4 (tgt := 26) rfl rfl (fun h4 => ?_) (fun la h4 => ?_)
  · subst h4
    refine zp_aload_n dX4_freeLines_26 rfl (a := p) (List.mem_of_getElem? (i := 1) rfl) ?_
    refine zp_null dX4_freeLines_27 ?_
    refine zp_putR dX4_freeLines_28 fl_X4_523 hp (r := none) rfl ?_
    refine zp_aload_n dX4_freeLines_31 rfl (a := p) (List.mem_of_getElem? (i := 1) rfl) ?_
    refine zp_null dX4_freeLines_32 ?_
    refine zp_putR dX4_freeLines_33 fl_X4_520 (tR hp) (r := none) rfl ?_
    refine zp_vret rfl dX4_freeLines_36 ?_
    exact ⟨rfl, by unfold flS; rw [← hr]⟩
  · subst h4
    refine zp_aload_n dX4_freeLines_7 rfl (a := p) (List.mem_of_getElem? (i := 1) rfl) ?_
    refine zp_getRv dX4_freeLines_8 fl_X4_520 hp (b := la) hr.symm ?_
    refine zp_aload_n dX4_freeLines_11 rfl (a := Ly) (List.mem_of_getElem? (i := 0) rfl) ?_
    refine zp_getRo dX4_freeLines_12 fl_X4_514 hL (r := (zR σ 303 Ly)) rfl ?_
    refine zp_putR dX4_freeLines_15 fl_X4_518 (hla _ hr.symm) (r := (zR σ 303 Ly)) rfl ?_
    refine zp_aload_n dX4_freeLines_18 rfl (a := Ly) (List.mem_of_getElem? (i := 0) rfl) ?_
    refine zp_aload_n dX4_freeLines_19 rfl (a := p) (List.mem_of_getElem? (i := 1) rfl) ?_
    refine zp_getRo dX4_freeLines_20 fl_X4_523 (tR hp) (r := (zR σ 711 p)) (by simp [zR_wR]) ?_
    refine zp_putR dX4_freeLines_23 fl_X4_514 (tR hL) (r := (zR σ 711 p)) rfl ?_
    refine zp_aload_n dX4_freeLines_26 rfl (a := p) (List.mem_of_getElem? (i := 1) rfl) ?_
    refine zp_null dX4_freeLines_27 ?_
    refine zp_putR dX4_freeLines_28 fl_X4_523 (tR (tR hp)) (r := none) rfl ?_
    refine zp_aload_n dX4_freeLines_31 rfl (a := p) (List.mem_of_getElem? (i := 1) rfl) ?_
    refine zp_null dX4_freeLines_32 ?_
    refine zp_putR dX4_freeLines_33 fl_X4_520 (tR (tR (tR hp))) (r := none) rfl ?_
    refine zp_vret rfl dX4_freeLines_36 ?_
    exact ⟨rfl, by unfold flS; rw [← hr]⟩
set_option maxRecDepth 100000 in
set_option maxHeartbeats 4000000 in
theorem c_X4_addLine (l : Launch) (G : Gb) (Ly p nL np : Nat) (σ : Sto) (hL : zT σ Ly = (3, nL)) (hp : zT σ p = (7, np)) (hla : ∀ la, zR σ 712 p = some la → zT σ la = (4, 0)) (hx : ∀ x, zR σ 303 Ly = some x → zT σ x = (4, 0)) : Ct l G 2 1 6 yX4_addLine mX4_addLine [.ref Ly, .ref p] σ (fun v s => ∃ x σ1, v = some (.ref x) ∧ ((zR σ 303 Ly = some x ∧ σ1 = wR σ 303 Ly (zR σ 405 x)) ∨ (zR σ 303 Ly = none ∧ (zT σ x).1 = 0 ∧ σ1 = wT σ x (4, 0))) ∧ s = alS p x σ1) := by
  refine Ct.of (by decide) rfl (Nat.le_of_ble_eq_true rfl) (fun h => absurd h (by decide)) ?_
  show Wp l G 2 1 6 (RX4, cX4_addLine, 3, (some (.object "FlowBoxes$Line")), false) 0 [(0, .ref Ly), (1, .ref p)] [] σ _
  refine zp_aload_n dX4_addLine_0 rfl (a := Ly) (List.mem_of_getElem? (i := 0) rfl) ?_
  refine zp_getRn dX4_addLine_1 fl_X4_514 hL (fun r hr => ?_)
  refine zp_astoreo_n dX4_addLine_4 rfl (Nat.le_of_ble_eq_true rfl) (r := r) (v := va_rf r) rfl (lv2 := [(2, va_rf r), (0, .ref Ly), (1, .ref p)]) rfl ?_
  refine zp_aloado_n dX4_addLine_5 rfl (r := r) (v := va_rf r) rfl (List.mem_of_getElem? (i := 0) rfl) ?_
  refine zp_ifnonnull (r := r) dX4_addLine_6 (tgt := 20) rfl rfl (fun x h6 => ?_) (fun h6 => ?_)
  · subst h6
    refine zp_aload_n dX4_addLine_20 rfl (a := Ly) (List.mem_of_getElem? (i := 1) rfl) ?_
    refine zp_aload_n dX4_addLine_21 rfl (a := x) (List.mem_of_getElem? (i := 0) rfl) ?_
    refine zp_getRo dX4_addLine_22 fl_X4_518 (hx _ hr.symm) (r := (zR σ 405 x)) rfl ?_
    refine zp_putR dX4_addLine_25 fl_X4_514 hL (r := (zR σ 405 x)) rfl ?_
    refine zp_aload_n dX4_addLine_28 rfl (a := x) (List.mem_of_getElem? (i := 0) rfl) ?_
    refine zp_null dX4_addLine_29 ?_
    refine zp_putR dX4_addLine_30 fl_X4_518 (tR (hx _ hr.symm)) (r := none) rfl ?_
    refine zp_aload_n dX4_addLine_33 rfl (a := p) (List.mem_of_getElem? (i := 2) rfl) ?_
    refine zp_getRn dX4_addLine_34 fl_X4_520 (tR (tR hp)) (fun r2 hr2 => ?_)
    replace hr2 : r2 = zR σ 712 p := by rw [hr2]; simp [zR_wR, zR_wT]
    refine zp_ifnonnull (r := r2) dX4_addLine_37 (tgt := 48) rfl rfl (fun la h37 => ?_) (fun h37 => ?_)
    · subst h37
      refine zp_aload_n dX4_addLine_48 rfl (a := p) (List.mem_of_getElem? (i := 2) rfl) ?_
      refine zp_getRv dX4_addLine_49 fl_X4_520 (tR (tR hp)) (b := la) (by rw [hr2]; simp [zR_wR, zR_wT]) ?_
      refine zp_aload_n dX4_addLine_52 rfl (a := x) (List.mem_of_getElem? (i := 0) rfl) ?_
      refine zp_putR dX4_addLine_53 fl_X4_518 (hla _ hr2.symm) (r := some x) rfl ?_
      refine zp_aload_n dX4_addLine_56 rfl (a := p) (List.mem_of_getElem? (i := 2) rfl) ?_
      refine zp_aload_n dX4_addLine_57 rfl (a := x) (List.mem_of_getElem? (i := 0) rfl) ?_
      refine zp_putR dX4_addLine_58 fl_X4_520 (tR (tR (tR hp))) (r := some x) rfl ?_
      refine zp_aload_n dX4_addLine_61 rfl (a := x) (List.mem_of_getElem? (i := 0) rfl) ?_
      refine zp_aret rfl (r := some x) rfl dX4_addLine_62 ?_
      exact ⟨x, _, rfl, Or.inl ⟨hr.symm, rfl⟩, by unfold alS; rw [show zR (wR σ 303 Ly (zR σ 405 x)) 712 p = zR σ 712 p by simp [zR_wR], ← hr2]⟩
    · subst h37
      refine zp_aload_n dX4_addLine_40 rfl (a := p) (List.mem_of_getElem? (i := 2) rfl) ?_
      refine zp_aload_n dX4_addLine_41 rfl (a := x) (List.mem_of_getElem? (i := 0) rfl) ?_
      refine zp_putR dX4_addLine_42 fl_X4_523 (tR (tR hp)) (r := some x) rfl ?_
      refine zp_goto dX4_addLine_45 (tgt := 56) rfl ?_
      refine zp_aload_n dX4_addLine_56 rfl (a := p) (List.mem_of_getElem? (i := 2) rfl) ?_
      refine zp_aload_n dX4_addLine_57 rfl (a := x) (List.mem_of_getElem? (i := 0) rfl) ?_
      refine zp_putR dX4_addLine_58 fl_X4_520 (tR (tR (tR hp))) (r := some x) rfl ?_
      refine zp_aload_n dX4_addLine_61 rfl (a := x) (List.mem_of_getElem? (i := 0) rfl) ?_
      refine zp_aret rfl (r := some x) rfl dX4_addLine_62 ?_
      exact ⟨x, _, rfl, Or.inl ⟨hr.symm, rfl⟩, by unfold alS; rw [show zR (wR σ 303 Ly (zR σ 405 x)) 712 p = zR σ 712 p by simp [zR_wR], ← hr2]⟩
  · subst h6
    refine zp_new (c0 := 3) (mc2 := 0) (ms2 := 0) dX4_addLine_9 rfl wd_729 wd_730 wd_15 (by omega) (by show 0 + 6 ≤ 6; omega) (fun q hq => ?_)
    refine zp_dup dX4_addLine_12 rfl ?_
    refine zp_callI (st := [.ref q]) (mc2 := 0) (ms2 := 0) dX4_addLine_13 (c_X5_init l G q _) cl_X4_517 rfl im_X5_init rfl rfl rfl (by omega) (by omega) (by omega) (Nat.le_of_ble_eq_true rfl) ?_
    rintro _ s1 ⟨rfl, hs1⟩; obtain rfl := hs1.symm
    refine zp_astore_n dX4_addLine_16 rfl (Nat.le_of_ble_eq_true rfl) (lv2 := [(2, .ref q), (0, .ref Ly), (1, .ref p)]) rfl ?_
    refine zp_goto dX4_addLine_17 (tgt := 28) rfl ?_
    refine zp_aload_n dX4_addLine_28 rfl (a := q) (List.mem_of_getElem? (i := 0) rfl) ?_
    refine zp_null dX4_addLine_29 ?_
    refine zp_putR dX4_addLine_30 fl_X4_518 zT_self (r := none) rfl ?_
    refine zp_aload_n dX4_addLine_33 rfl (a := p) (List.mem_of_getElem? (i := 2) rfl) ?_
    refine zp_getRn dX4_addLine_34 fl_X4_520 (tR (zT_new hq hp)) (fun r2 hr2 => ?_)
    replace hr2 : r2 = zR σ 712 p := by rw [hr2]; simp [zR_wR, zR_wT]
    refine zp_ifnonnull (r := r2) dX4_addLine_37 (tgt := 48) rfl rfl (fun la h37_2 => ?_) (fun h37_2 => ?_)
    · subst h37_2
      refine zp_aload_n dX4_addLine_48 rfl (a := p) (List.mem_of_getElem? (i := 2) rfl) ?_
      refine zp_getRv dX4_addLine_49 fl_X4_520 (tR (zT_new hq hp)) (b := la) (by rw [hr2]; simp [zR_wR, zR_wT]) ?_
      refine zp_aload_n dX4_addLine_52 rfl (a := q) (List.mem_of_getElem? (i := 0) rfl) ?_
      refine zp_putR dX4_addLine_53 fl_X4_518 (zT_new hq (hla _ hr2.symm)) (r := some q) rfl ?_
      refine zp_aload_n dX4_addLine_56 rfl (a := p) (List.mem_of_getElem? (i := 2) rfl) ?_
      refine zp_aload_n dX4_addLine_57 rfl (a := q) (List.mem_of_getElem? (i := 0) rfl) ?_
      refine zp_putR dX4_addLine_58 fl_X4_520 (tR (tR (zT_new hq hp))) (r := some q) rfl ?_
      refine zp_aload_n dX4_addLine_61 rfl (a := q) (List.mem_of_getElem? (i := 0) rfl) ?_
      refine zp_aret rfl (r := some q) rfl dX4_addLine_62 ?_
      exact ⟨q, _, rfl, Or.inr ⟨hr.symm, hq, rfl⟩, by unfold alS; rw [show zR (wT σ q (4, 0)) 712 p = zR σ 712 p from rfl, ← hr2]⟩
    · subst h37_2
      refine zp_aload_n dX4_addLine_40 rfl (a := p) (List.mem_of_getElem? (i := 2) rfl) ?_
      refine zp_aload_n dX4_addLine_41 rfl (a := q) (List.mem_of_getElem? (i := 0) rfl) ?_
      refine zp_putR dX4_addLine_42 fl_X4_523 (tR (zT_new hq hp)) (r := some q) rfl ?_
      refine zp_goto dX4_addLine_45 (tgt := 56) rfl ?_
      refine zp_aload_n dX4_addLine_56 rfl (a := p) (List.mem_of_getElem? (i := 2) rfl) ?_
      refine zp_aload_n dX4_addLine_57 rfl (a := q) (List.mem_of_getElem? (i := 0) rfl) ?_
      refine zp_putR dX4_addLine_58 fl_X4_520 (tR (tR (zT_new hq hp))) (r := some q) rfl ?_
      refine zp_aload_n dX4_addLine_61 rfl (a := q) (List.mem_of_getElem? (i := 0) rfl) ?_
      refine zp_aret rfl (r := some q) rfl dX4_addLine_62 ?_
      exact ⟨q, _, rfl, Or.inr ⟨hr.symm, hq, rfl⟩, by unfold alS; rw [show zR (wT σ q (4, 0)) 712 p = zR σ 712 p from rfl, ← hr2]⟩
/-- what a layout may write: itself, its flow, its places, its things, its lines, and what is not made yet -/
def Ow (O : Nat → Prop) (D : Dt) (X : Cx) (b : Bool) (σ : Sto) : Prop := O (xLy X b) ∧ O (xF X b) ∧ (∀ k, k < dn D → O (xpl X b k)) ∧ (∀ k i, k < dn D → i < pcn (dtx D k) → O (xth X b k i)) ∧ ∀ a, (zT σ a).1 = 0 → O a
theorem Ow.fm {O : Nat → Prop} {D : Dt} {X : Cx} {b : Bool} {σ σ' : Sto} (h : Ow O D X b σ) (f : Fm O σ σ') : Ow O D X b σ' :=
  ⟨h.1, h.2.1, h.2.2.1, h.2.2.2.1, fun a ha => h.2.2.2.2 a (Decidable.byContradiction fun q => q (by rw [← f.2.2.2.1 a q]; exact ha))⟩
/-- the lines of each box, and the free ones -/
def Ln (O : Nat → Prop) (D : Dt) (X : Cx) (b : Bool) (σ : Sto) (LL : Nat → List Nat) (fr : List Nat) : Prop :=
  Ch σ (zR σ 303 (xLy X b)) fr ∧ (∀ k, k < dn D → zR σ 711 (xpl X b k) = (LL k).head? ∧ zR σ 712 (xpl X b k) = (LL k).getLast? ∧ Ch σ (LL k).head? (LL k)) ∧
  fr.Nodup ∧ (∀ k, k < dn D → (LL k).Nodup ∧ ∀ x ∈ LL k, x ∉ fr ∧ ∀ j, j < dn D → j ≠ k → x ∉ LL j) ∧ (∀ x ∈ fr, O x) ∧ ∀ k, k < dn D → ∀ x ∈ LL k, O x
def setL (LL : Nat → List Nat) (k : Nat) (xs : List Nat) : Nat → List Nat := fun j => if j = k then xs else LL j
theorem setL_self {LL : Nat → List Nat} {k : Nat} {xs : List Nat} : setL LL k xs k = xs := if_pos rfl
theorem setL_ne {LL : Nat → List Nat} {k j : Nat} {xs : List Nat} (h : j ≠ k) : setL LL k xs j = LL j := if_neg h
theorem Ln.T {O D X b σ LL fr} (h : Ln O D X b σ LL fr) {k x : Nat} (hk : k < dn D) (hx : x ∈ LL k) : zT σ x = (4, 0) := (h.2.1 k hk).2.2.T x hx
theorem Ln.fT {O D X b σ LL fr} (h : Ln O D X b σ LL fr) {x : Nat} (hx : x ∈ fr) : zT σ x = (4, 0) := h.1.T x hx
/-- nothing that Ln speaks of is written -/
theorem Ln.to {O D X b σ σ' LL fr} (h : Ln O D X b σ LL fr) (hT : ∀ a, (zT σ a).1 ≠ 0 → zT σ' a = zT σ a) (h1 : zR σ' 303 = zR σ 303) (h2 : zR σ' 405 = zR σ 405) (h3 : zR σ' 711 = zR σ 711) (h4 : zR σ' 712 = zR σ 712) : Ln O D X b σ' LL fr := by
  have hc : ∀ {r : Option Nat} {xs : List Nat}, Ch σ r xs → Ch σ' r xs := fun h => h.to (fun x hx => ⟨hT x (by rw [h.T x hx]; decide), by rw [h2]⟩)
  exact ⟨by rw [h1]; exact hc h.1, fun k hk => ⟨by rw [h3]; exact (h.2.1 k hk).1, by rw [h4]; exact (h.2.1 k hk).2.1, hc (h.2.1 k hk).2.2⟩, h.2.2⟩
/-- the frame of freeLines and addLine -/
def Lf (σ σ' : Sto) : Prop := zI σ' = zI σ ∧ (∀ f, f ≠ 303 → f ≠ 405 → f ≠ 711 → f ≠ 712 → zR σ' f = zR σ f)
theorem Lf.wR {σ : Sto} {f a : Nat} {x : Option Nat} (hf : f = 303 ∨ f = 405 ∨ f = 711 ∨ f = 712) : Lf σ (wR σ f a x) := ⟨rfl, fun g h1 h2 h3 h4 => by funext b; rw [zR_wR, if_neg]; rintro ⟨rfl, -⟩; omega⟩
theorem Lf.trans {σ σ1 σ2 : Sto} (h : Lf σ σ1) (h' : Lf σ1 σ2) : Lf σ σ2 := ⟨h'.1.trans h.1, fun f h1 h2 h3 h4 => (h'.2 f h1 h2 h3 h4).trans (h.2 f h1 h2 h3 h4)⟩
theorem Lf.wT {σ : Sto} {a : Nat} {t : Nat × Nat} : Lf σ (wT σ a t) := ⟨rfl, fun _ _ _ _ _ => rfl⟩
theorem flS_Ln {O : Nat → Prop} {G : Gb} {D : Dt} {X : Cx} {b : Bool} {σ : Sto} {LL : Nat → List Nat} {fr : List Nat} {k : Nat} (hN : NS G D X σ) (hO : Ow O D X b σ) (h : Ln O D X b σ LL fr) (hk : k < dn D) :
    Ln O D X b (flS (xLy X b) (xpl X b k) σ) (setL LL k []) (LL k ++ fr) ∧ Fm O σ (flS (xLy X b) (xpl X b k) σ) ∧ Lf σ (flS (xLy X b) (xpl X b k) σ) := by
  obtain ⟨c1, c2, c3, c4, c5, c6⟩ := h
  obtain ⟨e1, e2, e3⟩ := c2 k hk
  have hp := hO.2.2.1 k hk
  have plne : ∀ j, j < dn D → j ≠ k → xpl X b j ≠ xpl X b k := fun j hj hne q => hne (hN.d.pl b b j k hj hk q).2
  rcases List.eq_nil_or_concat (LL k) with hl | ⟨xs, la, hl⟩
  · have hg : flS (xLy X b) (xpl X b k) σ = wR (wR σ 711 (xpl X b k) none) 712 (xpl X b k) none := by unfold flS; rw [e2, hl]; rfl
    rw [hg]
    refine ⟨⟨?_, fun j hj => ?_, ?_, fun j hj => ?_, ?_, fun j hj => ?_⟩, (Fm.wR hp (by unfold stf; omega)).trans (Fm.wR hp (by unfold stf; omega)), (Lf.wR (by omega)).trans (Lf.wR (by omega))⟩
    · rw [hl]
      have : zR (wR (wR σ 711 (xpl X b k) none) 712 (xpl X b k) none) 303 (xLy X b) = zR σ 303 (xLy X b) := by simp [zR_wR]
      rw [this]
      exact c1.to (fun x hx => ⟨rfl, by simp [zR_wR]⟩)
    · by_cases hjk : j = k
      · subst hjk
        rw [setL_self]
        exact ⟨by simp [zR_wR], by simp [zR_wR], rfl⟩
      · rw [setL_ne hjk]
        obtain ⟨g1, g2, g3⟩ := c2 j hj
        exact ⟨by rw [← g1]; simp [zR_wR, plne j hj hjk], by rw [← g2]; simp [zR_wR, plne j hj hjk], g3.to (fun x hx => ⟨rfl, by simp [zR_wR]⟩)⟩
    · rw [hl]; exact c3
    · by_cases hjk : j = k
      · subst hjk; rw [setL_self]; exact ⟨List.nodup_nil, fun x hx => absurd hx List.not_mem_nil⟩
      · rw [setL_ne hjk, hl]
        refine ⟨(c4 j hj).1, fun x hx => ⟨((c4 j hj).2 x hx).1, fun i hi hij => ?_⟩⟩
        by_cases hik : i = k
        · subst hik; rw [setL_self]; exact List.not_mem_nil
        · rw [setL_ne hik]; exact ((c4 j hj).2 x hx).2 i hi hij
    · rw [hl]; exact c5
    · by_cases hjk : j = k
      · subst hjk; rw [setL_self]; exact fun x hx => absurd hx List.not_mem_nil
      · rw [setL_ne hjk]; exact c6 j hj
  · have hl' : LL k = xs ++ [la] := by rw [hl]; simp
    have hlast : zR σ 712 (xpl X b k) = some la := by rw [e2, hl']; simp
    have hmem : la ∈ LL k := by rw [hl']; simp
    have hlaO := c6 k hk la hmem
    have hg : flS (xLy X b) (xpl X b k) σ = wR (wR (wR (wR σ 405 la (zR σ 303 (xLy X b))) 303 (xLy X b) (zR σ 711 (xpl X b k))) 711 (xpl X b k) none) 712 (xpl X b k) none := by unfold flS; rw [hlast]
    rw [hg]
    have h405 : ∀ x, x ≠ la → zR (wR (wR (wR (wR σ 405 la (zR σ 303 (xLy X b))) 303 (xLy X b) (zR σ 711 (xpl X b k))) 711 (xpl X b k) none) 712 (xpl X b k) none) 405 x = zR σ 405 x := fun x hx => by simp [zR_wR, hx]
    have hnd := (c4 k hk).1
    rw [hl'] at hnd
    have hlx : la ∉ xs := fun q => (List.nodup_append.mp hnd).2.2 la q la (by simp) rfl
    refine ⟨⟨?_, fun j hj => ?_, ?_, fun j hj => ?_, ?_, fun j hj => ?_⟩, (((Fm.wR hlaO (by unfold stf; omega)).trans (Fm.wR hO.1 (by unfold stf; omega))).trans (Fm.wR hp (by unfold stf; omega))).trans (Fm.wR hp (by unfold stf; omega)), (((Lf.wR (by omega)).trans (Lf.wR (by omega))).trans (Lf.wR (by omega))).trans (Lf.wR (by omega))⟩
    · have e4 : zR (wR (wR (wR (wR σ 405 la (zR σ 303 (xLy X b))) 303 (xLy X b) (zR σ 711 (xpl X b k))) 711 (xpl X b k) none) 712 (xpl X b k) none) 303 (xLy X b) = (LL k).head? := by rw [← e1]; simp [zR_wR]
      rw [e4]
      have e5 : LL k ++ fr = xs ++ (la :: fr) := by rw [hl']; simp
      rw [e5]
      rw [hl'] at e3 ⊢
      refine Ch.glue e3 (fun x hx => ⟨rfl, h405 x (fun q => hlx (q ▸ hx))⟩) rfl (by simp [zR_wR]) (c1.to (fun x hx => ⟨rfl, h405 x (fun q => ((c4 k hk).2 la hmem).1 (q ▸ hx))⟩))
    · by_cases hjk : j = k
      · subst hjk
        rw [setL_self]
        exact ⟨by simp [zR_wR], by simp [zR_wR], rfl⟩
      · rw [setL_ne hjk]
        obtain ⟨g1, g2, g3⟩ := c2 j hj
        exact ⟨by rw [← g1]; simp [zR_wR, plne j hj hjk], by rw [← g2]; simp [zR_wR, plne j hj hjk], g3.to (fun x hx => ⟨rfl, h405 x (fun q => ((c4 k hk).2 la hmem).2 j hj hjk (q ▸ hx))⟩)⟩
    · rw [List.nodup_append]
      exact ⟨(c4 k hk).1, c3, fun x hx y hy q => ((c4 k hk).2 x hx).1 (q ▸ hy)⟩
    · by_cases hjk : j = k
      · subst hjk; rw [setL_self]; exact ⟨List.nodup_nil, fun x hx => absurd hx List.not_mem_nil⟩
      · rw [setL_ne hjk]
        refine ⟨(c4 j hj).1, fun x hx => ⟨fun q => ?_, fun i hi hij => ?_⟩⟩
        · rcases List.mem_append.mp q with q | q
          · exact ((c4 j hj).2 x hx).2 k hk (fun z => hjk z.symm) q
          · exact ((c4 j hj).2 x hx).1 q
        · by_cases hik : i = k
          · subst hik; rw [setL_self]; exact List.not_mem_nil
          · rw [setL_ne hik]; exact ((c4 j hj).2 x hx).2 i hi hij
    · intro x hx
      rcases List.mem_append.mp hx with q | q
      · exact c6 k hk x q
      · exact c5 x q
    · by_cases hjk : j = k
      · subst hjk; rw [setL_self]; exact fun x hx => absurd hx List.not_mem_nil
      · rw [setL_ne hjk]; exact c6 j hj

/-! THE ORDER OF PAINTING: how many are painted (by wip/p27/gen_paint.py) -/
/-- what the painter writes: its count, its row -/
def PF (oa : Nat) (σ s : Sto) : Prop := s.1 = σ.1 ∧ zR s = zR σ ∧ zA s = zA σ ∧ (∀ g, g ≠ 601 → zI s g = zI σ g) ∧ ∀ c, c ≠ oa → zQ s c = zQ σ c
theorem PF.refl {oa : Nat} {σ : Sto} : PF oa σ σ := ⟨rfl, rfl, rfl, fun _ _ => rfl, fun _ _ => rfl⟩
theorem PF.trans {oa : Nat} {σ s t : Sto} (h : PF oa σ s) (h' : PF oa s t) : PF oa σ t :=
  ⟨h'.1.trans h.1, h'.2.1.trans h.2.1, h'.2.2.1.trans h.2.2.1, fun g hg => (h'.2.2.2.1 g hg).trans (h.2.2.2.1 g hg), fun c hc => (h'.2.2.2.2 c hc).trans (h.2.2.2.2 c hc)⟩
theorem PF.T {oa : Nat} {σ s : Sto} {a : Nat} (h : PF oa σ s) : zT s a = zT σ a := congrFun h.1 a
theorem PF.wI {oa p : Nat} {σ : Sto} {x : Int32} : PF oa σ (wI σ 601 p x) := ⟨rfl, rfl, rfl, fun g hg => by funext b; exact rIn hg, fun _ _ => rfl⟩
theorem PF.wQ {oa i : Nat} {σ : Sto} {x : Option Nat} : PF oa σ (wQ σ oa i x) := ⟨rfl, rfl, rfl, fun _ _ => rfl, fun c hc => by funext j; exact rQb hc⟩
theorem NS.pf {G : Gb} {D : Dt} {X : Cx} {σ s : Sto} {oa n : Nat} (h : NS G D X σ) (f : PF oa σ s) (ho : zT σ oa = (21, n)) : NS G D X s := by
  obtain ⟨f1, f2, f3, f4, f5⟩ := f
  have fT : ∀ a, zT s a = zT σ a := fun a => congrFun f1 a
  have hq : ∀ {c k m : Nat}, zT σ c = (k, m) → k ≠ 21 → zQ s c = zQ σ c := fun {c k m} hc hk => f5 c (fun q => by rw [q, ho] at hc; exact hk (Prod.mk.inj hc).1.symm)
  refine ⟨fun k hk => ?_, fun b => ?_, h.d, by rw [f4 _ (by decide)]; exact h.dep⟩
  · obtain ⟨a1, a2, a3, a4, a5, a6, a7, a8, a9, a10, a11, a12, a13, a14, a15, a16, a17, a18, a19, a20, a21, a22, a23, a24, a25, a26⟩ := h.k k hk
    refine ⟨?_, ?_, ?_, ?_, ?_, ?_, ?_, ?_, ?_, ?_, ?_, ?_, ?_, ?_, ?_, ?_, ?_, ?_, ?_, fun b => ?_, fun b => ?_, fun b => ?_, fun b => ?_, fun b i hi => ?_, fun b i hi => ?_, ?_⟩
    · rw [fT]; exact a1
    · rw [f2]; exact a2
    · rw [f4 _ (by decide)]; exact a3
    · rw [f2]; exact a4
    · rw [fT]; exact a5
    · rw [f3]; exact a6
    · rw [f2]; exact a7
    · rw [f2]; exact a8
    · rw [f4 _ (by decide)]; exact a9
    · rw [f2]; exact a10
    · rw [f4 _ (by decide)]; exact a11
    · rw [f4 _ (by decide)]; exact a12
    · rw [f4 _ (by decide)]; exact a13
    · rw [f2]; exact a14
    · rw [fT]; exact a15
    · rw [f3]; exact a16
    · rw [f2]; exact a17
    · rw [fT]; exact a18
    · rw [f3]; exact a19
    · rw [f2]; exact a20 b
    · rw [fT]; exact a21 b
    · rw [f2]; exact a22 b
    · rw [fT]; exact a23 b
    · rw [hq (a23 b) (by decide)]; exact a24 b i hi
    · rw [fT]; exact a25 b i hi
    · rw [f4 _ (by decide)]; exact a26
  · obtain ⟨a1, a2, a3, a4, a5, a6⟩ := h.l b
    exact ⟨by rw [fT]; exact a1, by rw [f4 _ (by decide)]; exact a2, by rw [f2]; exact a3, by rw [fT]; exact a4, by rw [hq a4 (by decide)]; exact a5, by rw [fT]; exact a6⟩
/-- the texts' counted position -/
def Tc (D : Dt) (X : Cx) (σ : Sto) : Prop := ∀ k, k < dn D → dtx D k = true → zA σ (xcn X k) 3 = 0
theorem nostack {G : Gb} {D : Dt} {X : Cx} {σ : Sto} {k : Nat} (hD : DW D) (hK : NK G D X σ k) (hc : Tc D X σ) (hk : k < dn D) (h0 : k ≠ 0) : ¬ (zR σ 501 (xnd X k) = none ∨ ¬ zA σ (xcn X k) 3 = 0) := by
  intro q
  rcases q with q | q
  · have := hK.par
    rw [if_neg h0, q] at this
    cases this
  · cases e : dtx D k with
    | true => exact q (hc k hk e)
    | false => exact q ((hK.cnA e 3 (by decide)).trans (hD.2.2.2.2.2.2.2.2.2.2.2 k).2.2.2.1)
/-- a node's step -/
def kst (D : Dt) (x : Nat) : Int32 := if dtx D x = true then 2 else 0
def kcn (D : Dt) (st : Int32) (xs : List Nat) : Nat := (xs.filter (fun x => decide (kst D x = st))).length
theorem kcn_cons {D : Dt} {st : Int32} {x : Nat} {xs : List Nat} : kcn D st (x :: xs) = kcn D st xs + if kst D x = st then 1 else 0 := by
  unfold kcn
  by_cases h : kst D x = st
  · rw [List.filter_cons_of_pos (by simp [h]), if_pos h]; rfl
  · rw [List.filter_cons_of_neg (by simp [h]), if_neg h]; rfl
theorem kcn_all {D : Dt} : ∀ (xs : List Nat), kcn D 0 xs + kcn D 1 xs + kcn D 2 xs = xs.length
  | [] => rfl
  | x :: xs => by
    have ih := kcn_all (D := D) xs
    rw [kcn_cons, kcn_cons, kcn_cons, List.length_cons]
    by_cases h : dtx D x = true
    · have e : kst D x = 2 := if_pos h
      rw [e, if_neg (by decide), if_neg (by decide), if_pos rfl]; omega
    · have e : kst D x = 0 := if_neg h
      rw [e, if_pos rfl, if_neg (by decide), if_neg (by decide)]; omega
theorem ordL_len {D : Dt} (hD : DW D) : (ordF D (dn D) 0 0).length + 1 = dn D := by
  have h := (List.perm_ext_iff_of_nodup (ordL_nodup hD) (List.nodup_range (n := dn D))).mpr (fun d => (ordL_mem hD d).trans List.mem_range.symm)
  have := h.length_eq
  rw [List.length_range] at this
  exact this
theorem ordF_ne {D : Dt} (hD : DW D) {x : Nat} (hx : x ∈ ordF D (dn D) 0 0) : x < dn D ∧ x ≠ 0 := by
  have h1 := ordL_nodup hD
  refine ⟨(ordL_mem hD x).mp (List.mem_cons_of_mem _ hx), fun q => ?_⟩
  rw [q] at hx
  exact (List.nodup_cons.mp h1).1 hx
theorem stt0 {D : Dt} : stt D 0 0 = nx D 0 0 := by
  unfold stt
  cases nx D 0 0 <;> rfl
set_option maxRecDepth 100000 in
set_option maxHeartbeats 4000000 in
theorem c_X8_add (l : Launch) (G : Gb) (p oa a np na c : Nat) (σ : Sto) (hP : zT σ p = (6, np)) (hr : zR σ 600 p = some oa) (hO : zT σ oa = (21, 60)) (hA : zT σ a = (5, na)) (hc : zI σ 601 p = nI c) (hc2 : c < 60) : Ct l G 1 0 0 yX8_add mX8_add [.ref p, .ref a] σ (fun v s => v = none ∧ s = wI (wQ σ oa c (some a)) 601 p (nI (c + 1))) := by
  refine Ct.of (by decide) rfl (Nat.le_of_ble_eq_true rfl) (fun h => absurd h (by decide)) ?_
  show Wp l G 1 0 0 (RX8, cX8_add, 2, none, false) 0 [(0, .ref p), (1, .ref a)] [] σ _
  refine zp_aload_n dX8_add_0 rfl (a := p) (List.mem_of_getElem? (i := 0) rfl) ?_
  refine zp_getIv dX8_add_1 fl_X8_17 hP (v := (nI c)) hc ?_
  refine zp_bipush dX8_add_4 (v := 60) (by decide) ?_
  refine zp_icmp_ge dX8_add_6 (tgt := 29) rfl (fun q => absurd q (fun q => by have q := Int32.le_iff_toInt_le.mp q; rw [nI_toInt (by omega), show (60 : Int32).toInt = 60 from rfl] at q; omega)) (fun _ => ?_)
  refine zp_aload_n dX8_add_9 rfl (a := p) (List.mem_of_getElem? (i := 0) rfl) ?_
  refine zp_getRv dX8_add_10 fl_X8_11 hP (b := oa) hr ?_
  refine zp_aload_n dX8_add_13 rfl (a := p) (List.mem_of_getElem? (i := 0) rfl) ?_
  refine zp_getIv dX8_add_14 fl_X8_17 hP (v := (nI c)) hc ?_
  refine zp_aload_n dX8_add_17 rfl (a := a) (List.mem_of_getElem? (i := 1) rfl) ?_
  refine zp_aastore (j := 0) (c0 := 4) dX8_add_18 hO (by decide) rfl rfl hA (i := c) (nI_clamp (by omega)) (vp_in_nI (by omega) (by decide)) ?_
  refine zp_aload_n dX8_add_19 rfl (a := p) (List.mem_of_getElem? (i := 0) rfl) ?_
  refine zp_dup dX8_add_20 rfl ?_
  refine zp_getIv dX8_add_21 fl_X8_17 (tQ hP) (v := (nI c)) hc ?_
  refine zp_iconst dX8_add_24 (v := 1) (by decide) ?_
  refine zp_iadd dX8_add_25 ?_
  rw [show (((nI c) + 1) : Int32) = (nI (c + 1)) from (nI_1 c)]
  refine zp_putI dX8_add_26 fl_X8_17 (tQ hP) ?_
  refine zp_vret rfl dX8_add_29 ?_
  exact ⟨rfl, rfl⟩
set_option maxRecDepth 100000 in
set_option maxHeartbeats 4000000 in
theorem c_X8_stepOfT (l : Launch) (G : Gb) (a na : Nat) (σ : Sto) (hA : zT σ a = (5, na)) (hk : zR σ 514 a = some (G.2.2.1 7)) (hsw : Sw G σ) : Ct l G 2 0 0 yX8_stepOf mX8_stepOf [.ref a] σ (fun v s => v = some (.int 2) ∧ s = σ) := by
  refine Ct.of (by decide) rfl (Nat.le_of_ble_eq_true rfl) (fun h => absurd h (by decide)) ?_
  show Wp l G 2 0 0 (RX8, cX8_stepOf, 1, (some .int), false) 0 [(0, .ref a)] [] σ _
  refine zp_swmap dX8_stepOf_0 wd_993 ?_
  refine zp_aload_n dX8_stepOf_3 rfl (a := a) (List.mem_of_getElem? (i := 0) rfl) ?_
  refine zp_getRv dX8_stepOf_4 fl_X8_51 hA (b := (G.2.2.1 7)) hk ?_
  refine zp_callO (n := 0) (av := []) (nest := false) (i := 7) (st := [.ref G.2.2.2.1]) (mc2 := 0) (ms2 := 0) (by decide) dX8_stepOf_7 (c_ordinal l G 7 (by decide) _) rfl (by decide) wd_994 wd_356 wd_358 im_Jx29ce0_ordinal_8abf5 wd_6 wd_360 rfl (by omega) (by omega) (by omega) (Nat.le_of_ble_eq_true rfl) ?_
  rintro _ s1 ⟨rfl, hs1⟩; obtain rfl := hs1.symm
  refine zp_iald_v dX8_stepOf_10 hsw.1 (Or.inr rfl) (j := 7) (by decide) (zin (by decide)) (v := 4) hsw.2.1 ?_
  refine zp_tableIn (off := 41) (tgt := 52) dX8_stepOf_11 (by decide) (by decide) (by decide) rfl ?_
  refine zp_iconst dX8_stepOf_52 (v := 2) (by decide) ?_
  refine zp_iret rfl dX8_stepOf_53 ?_
  exact ⟨rfl, rfl⟩
set_option maxRecDepth 100000 in
set_option maxHeartbeats 4000000 in
theorem c_X8_stepOfB (l : Launch) (G : Gb) (a na : Nat) (σ : Sto) (hA : zT σ a = (5, na)) (hk : zR σ 514 a = some (G.2.2.1 0)) (hsw : Sw G σ) : Ct l G 2 0 0 yX8_stepOf mX8_stepOf [.ref a] σ (fun v s => v = some (.int 0) ∧ s = σ) := by
  refine Ct.of (by decide) rfl (Nat.le_of_ble_eq_true rfl) (fun h => absurd h (by decide)) ?_
  show Wp l G 2 0 0 (RX8, cX8_stepOf, 1, (some .int), false) 0 [(0, .ref a)] [] σ _
  refine zp_swmap dX8_stepOf_0 wd_993 ?_
  refine zp_aload_n dX8_stepOf_3 rfl (a := a) (List.mem_of_getElem? (i := 0) rfl) ?_
  refine zp_getRv dX8_stepOf_4 fl_X8_51 hA (b := (G.2.2.1 0)) hk ?_
  refine zp_callO (n := 0) (av := []) (nest := false) (i := 0) (st := [.ref G.2.2.2.1]) (mc2 := 0) (ms2 := 0) (by decide) dX8_stepOf_7 (c_ordinal l G 0 (by decide) _) rfl (by decide) wd_994 wd_356 wd_358 im_Jx29ce0_ordinal_8abf5 wd_6 wd_360 rfl (by omega) (by omega) (by omega) (Nat.le_of_ble_eq_true rfl) ?_
  rintro _ s1 ⟨rfl, hs1⟩; obtain rfl := hs1.symm
  refine zp_iald_v dX8_stepOf_10 hsw.1 (Or.inr rfl) (j := 0) (by decide) (zin (by decide)) (v := 0) hsw.2.2 ?_
  refine zp_tableOut (tgt := 54) dX8_stepOf_11 (by decide) rfl ?_
  refine zp_iconst dX8_stepOf_54 (v := 0) (by decide) ?_
  refine zp_iret rfl dX8_stepOf_55 ?_
  exact ⟨rfl, rfl⟩
set_option maxHeartbeats 4000000 in
theorem l_psi (l : Launch) {G : Gb} {D : Dt} {X : Cx} {p : Nat} {z : Int32} {σ : Sto} (hD : DW D) (hN : NS G D X σ) (hT : Tc D X σ) : ∀ (xs : List Nat) (r : Option Nat), Cn D r xs none → (∀ x, x ∈ xs → x < dn D ∧ x ≠ 0) →
    Wp l G 2 0 0 (RX8, cX8_paintStacksIn, 5, none, false) 5 [(3, va_rf (lk X r)), (0, .ref p), (1, .ref (xnd X 0)), (2, .int z)] [] σ (fun v s => v = none ∧ s = σ) := by
  intro xs
  induction xs with
  | nil =>
    intro r hc hx
    have hr : r = none := hc
    rw [hr]
    show Wp l G 2 0 0 (RX8, cX8_paintStacksIn, 5, none, false) 5 [(3, .null), (0, .ref p), (1, .ref (xnd X 0)), (2, .int z)] [] σ _
    refine zp_aloado_n dX8_paintStacksIn_5 rfl (r := none) (v := .null) rfl (List.mem_of_getElem? (i := 0) rfl) ?_
    refine zp_nullT dX8_paintStacksIn_6 (tgt := 55) rfl ?_
    refine zp_vret rfl dX8_paintStacksIn_55 ?_
    exact ⟨rfl, rfl⟩
  | cons x xs ih =>
    intro r hc hx
    obtain ⟨hr, hc2⟩ := hc
    rw [hr]
    obtain ⟨hxn, hx0⟩ := hx x List.mem_cons_self
    have hK := hN.k x hxn
    show Wp l G 2 0 0 (RX8, cX8_paintStacksIn, 5, none, false) 5 [(3, .ref (xnd X x)), (0, .ref p), (1, .ref (xnd X 0)), (2, .int z)] [] σ _
    refine zp_aload_n dX8_paintStacksIn_5 rfl (a := (xnd X x)) (List.mem_of_getElem? (i := 0) rfl) ?_
    refine zp_nullF dX8_paintStacksIn_6 (tgt := 55) rfl ?_
    refine zp_aload_n dX8_paintStacksIn_9 rfl (a := (xnd X x)) (List.mem_of_getElem? (i := 0) rfl) ?_
    refine zp_callV (c0 := 4) (st := []) (mc2 := 0) (ms2 := 0) dX8_paintStacksIn_10 (c_X7_isStack l G (xnd X x) 0 (xcn X x) _ hK.T hK.cn hK.cnT) cl_X8_39 im_X7_isStack se_X7_isStack rfl rfl hK.T rfl rfl (by omega) (by omega) (by omega) (Nat.le_of_ble_eq_true rfl) ?_
    rintro _ s1 ⟨rfl, hs1⟩; obtain rfl := hs1.symm
    refine zp_topr (y := 0) (zb_f (nostack hD hK hT hxn hx0)) ?_
    refine zp_istore dX8_paintStacksIn_13 (Nat.le_of_ble_eq_true rfl) (lv2 := [(4, .int 0), (3, .ref (xnd X x)), (0, .ref p), (1, .ref (xnd X 0)), (2, .int z)]) rfl ?_
    refine zp_iload dX8_paintStacksIn_15 (x := 0) (List.mem_of_getElem? (i := 0) rfl) ?_
    refine zp_if_eq dX8_paintStacksIn_17 (tgt := 36) rfl (fun _ => ?_) (fun q => absurd rfl q)
    refine zp_aload_n dX8_paintStacksIn_36 rfl (a := (xnd X x)) (List.mem_of_getElem? (i := 1) rfl) ?_
    refine zp_aload_n dX8_paintStacksIn_37 rfl (a := (xnd X 0)) (List.mem_of_getElem? (i := 3) rfl) ?_
    refine zp_iload dX8_paintStacksIn_38 (x := 0) (List.mem_of_getElem? (i := 0) rfl) ?_
    refine zp_if_ne dX8_paintStacksIn_40 (tgt := 47) rfl (fun q => absurd (by decide) q) (fun _ => ?_)
    refine zp_iconst dX8_paintStacksIn_43 (v := 1) (by decide) ?_
    refine zp_goto dX8_paintStacksIn_44 (tgt := 48) rfl ?_
    refine zp_callS (st := []) (mc2 := 0) (ms2 := 0) dX8_paintStacksIn_48 (c_X7_onward l G D X x _ hD hN hxn) cl_X8_47 st_X7_onward rfl rfl (by omega) (by omega) (by omega) (Nat.le_of_ble_eq_true rfl) ?_
    rintro _ s1 ⟨rfl, hs1⟩; obtain rfl := hs1.symm
    refine zp_astoreo_n dX8_paintStacksIn_51 rfl (Nat.le_of_ble_eq_true rfl) (r := (lk X (onw D x))) (v := va_rf (lk X (onw D x))) rfl (lv2 := [(3, va_rf (lk X (onw D x))), (4, .int 0), (0, .ref p), (1, .ref (xnd X 0)), (2, .int z)]) rfl ?_
    refine zp_goto dX8_paintStacksIn_52 (tgt := 5) rfl ?_
    refine zp_lv [0, 2, 3, 4] rfl ?_
    exact ih (onw D x) hc2 (fun y hy => hx y (List.mem_cons_of_mem _ hy))
set_option maxRecDepth 100000 in
set_option maxHeartbeats 4000000 in
theorem c_X8_paintStacksIn (l : Launch) (G : Gb) (D : Dt) (X : Cx) (p : Nat) (z : Int32) (σ : Sto) (hD : DW D) (hN : NS G D X σ) (hT : Tc D X σ) : Ct l G 2 0 0 yX8_paintStacksIn mX8_paintStacksIn [.ref p, .ref (xnd X 0), .int z] σ (fun v s => v = none ∧ s = σ) := by
  refine Ct.of (by decide) rfl (Nat.le_of_ble_eq_true rfl) (fun h => absurd h (by decide)) ?_
  show Wp l G 2 0 0 (RX8, cX8_paintStacksIn, 5, none, false) 0 [(0, .ref p), (1, .ref (xnd X 0)), (2, .int z)] [] σ _
  refine zp_aload_n dX8_paintStacksIn_0 rfl (a := (xnd X 0)) (List.mem_of_getElem? (i := 1) rfl) ?_
  refine zp_getRo dX8_paintStacksIn_1 fl_X8_35 (hN.k 0 hD.1).T (r := (lk X (nx D 0 0))) (hN.k 0 hD.1).first ?_
  refine zp_astoreo_n dX8_paintStacksIn_4 rfl (Nat.le_of_ble_eq_true rfl) (r := (lk X (nx D 0 0))) (v := va_rf (lk X (nx D 0 0))) rfl (lv2 := [(3, va_rf (lk X (nx D 0 0))), (0, .ref p), (1, .ref (xnd X 0)), (2, .int z)]) rfl ?_
  have hcn := ordF_cn hD (dn D) 0 0 (by omega)
  rw [stt0, up_0] at hcn
  exact l_psi l hD hN hT (ordF D (dn D) 0 0) (nx D 0 0) hcn (fun x hx => ordF_ne hD hx)
def Pp (p oa : Nat) (σ : Sto) : Prop := zT σ p = (6, 0) ∧ zR σ 600 p = some oa ∧ zT σ oa = (21, 60)
set_option maxHeartbeats 4000000 in
theorem l_pin (l : Launch) {G : Gb} {D : Dt} {X : Cx} {p oa : Nat} {z : Int32} {Q : Option Value → Sto → Prop} (hD : DW D) : ∀ (xs : List Nat) (r : Option Nat) (σ : Sto) (c : Nat), Cn D r xs none → (∀ x, x ∈ xs → x < dn D ∧ x ≠ 0) → NS G D X σ → Pp p oa σ → Tc D X σ → Sw G σ → c + kcn D z xs < 60 → zI σ 601 p = nI c →
    (∀ s c2, NS G D X s → Pp p oa s → Tc D X s → Sw G s → c2 = c + kcn D z xs → PF oa σ s → zI s 601 p = nI c2 → Wp l G 3 0 0 (RX8, cX8_paintInside, 6, none, false) 101 [(0, .ref p), (1, .ref (xnd X 0)), (2, .int z)] [] s Q) →
    Wp l G 3 0 0 (RX8, cX8_paintInside, 6, none, false) 12 [(3, va_rf (lk X r)), (0, .ref p), (1, .ref (xnd X 0)), (2, .int z)] [] σ Q := by
  intro xs
  induction xs with
  | nil =>
    intro r σ c hc hx hN hp hT hsw hb hc0 kk
    have hr : r = none := hc
    rw [hr]
    show Wp l G 3 0 0 (RX8, cX8_paintInside, 6, none, false) 12 [(3, .null), (0, .ref p), (1, .ref (xnd X 0)), (2, .int z)] [] σ _
    refine zp_aloado_n dX8_paintInside_12 rfl (r := none) (v := .null) rfl (List.mem_of_getElem? (i := 0) rfl) ?_
    refine zp_nullT dX8_paintInside_13 (tgt := 101) rfl ?_
    refine zp_lv [1, 2, 3] rfl ?_
    exact kk σ c hN hp hT hsw rfl PF.refl hc0
  | cons x xs ih =>
    intro r σ c hc hx hN hp hT hsw hb hc0 kk
    obtain ⟨hr, hc2⟩ := hc
    rw [hr]
    obtain ⟨hxn, hx0⟩ := hx x List.mem_cons_self
    have hxs : ∀ y, y ∈ xs → y < dn D ∧ y ≠ 0 := fun y hy => hx y (List.mem_cons_of_mem _ hy)
    have hK := hN.k x hxn
    refine zp_kin (fun hkin => ?_)
    by_cases ht : dtx D x = true
    · have hks : kst D x = 2 := if_pos ht
      have hkd : zR σ 514 (xnd X x) = some (G.2.2.1 7) := by have := hK.kind; rw [ht] at this; exact this
      show Wp l G 3 0 0 (RX8, cX8_paintInside, 6, none, false) 12 [(3, .ref (xnd X x)), (0, .ref p), (1, .ref (xnd X 0)), (2, .int z)] [] σ _
      refine zp_aload_n dX8_paintInside_12 rfl (a := (xnd X x)) (List.mem_of_getElem? (i := 0) rfl) ?_
      refine zp_nullF dX8_paintInside_13 (tgt := 101) rfl ?_
      refine zp_aload_n dX8_paintInside_16 rfl (a := (xnd X x)) (List.mem_of_getElem? (i := 0) rfl) ?_
      refine zp_callV (c0 := 4) (st := []) (mc2 := 0) (ms2 := 0) dX8_paintInside_17 (c_X7_isStack l G (xnd X x) 0 (xcn X x) _ hK.T hK.cn hK.cnT) cl_X8_39 im_X7_isStack se_X7_isStack rfl rfl hK.T rfl rfl (by omega) (by omega) (by omega) (Nat.le_of_ble_eq_true rfl) ?_
      rintro _ s1 ⟨rfl, hs1⟩; obtain rfl := hs1.symm
      refine zp_topr (y := 0) (zb_f (nostack hD hK hT hxn hx0)) ?_
      refine zp_istore dX8_paintInside_20 (Nat.le_of_ble_eq_true rfl) (lv2 := [(4, .int 0), (3, .ref (xnd X x)), (0, .ref p), (1, .ref (xnd X 0)), (2, .int z)]) rfl ?_
      refine zp_aload_n dX8_paintInside_22 rfl (a := (xnd X x)) (List.mem_of_getElem? (i := 1) rfl) ?_
      refine zp_getRv dX8_paintInside_23 fl_X8_51 hK.T (b := (G.2.2.1 7)) hkd ?_
      refine zp_kind (i := 5) dX8_paintInside_26 (by decide) rfl wd_988 ?_
      refine zp_acmp_eq (rx := (some (G.2.2.1 7))) (ry := (some (G.2.2.1 5))) dX8_paintInside_29 (tgt := 42) rfl rfl rfl (fun q => absurd q (fun q => absurd (hkin 7 5 (by decide) (by decide) (Option.some.inj q)) (by decide))) (fun _ => ?_)
      refine zp_aload_n dX8_paintInside_32 rfl (a := (xnd X x)) (List.mem_of_getElem? (i := 1) rfl) ?_
      refine zp_getRv dX8_paintInside_33 fl_X8_51 hK.T (b := (G.2.2.1 7)) hkd ?_
      refine zp_kind (i := 2) dX8_paintInside_36 (by decide) rfl wd_989 ?_
      refine zp_acmp_ne (rx := (some (G.2.2.1 7))) (ry := (some (G.2.2.1 2))) dX8_paintInside_39 (tgt := 46) rfl rfl rfl (fun _ => ?_) (fun q => absurd q (fun q => absurd (hkin 7 2 (by decide) (by decide) (Option.some.inj q)) (by decide)))
      refine zp_iconst dX8_paintInside_46 (v := 0) (by decide) ?_
      refine zp_istore dX8_paintInside_47 (Nat.le_of_ble_eq_true rfl) (lv2 := [(5, .int 0), (4, .int 0), (3, .ref (xnd X x)), (0, .ref p), (1, .ref (xnd X 0)), (2, .int z)]) rfl ?_
      refine zp_iload dX8_paintInside_49 (x := 0) (List.mem_of_getElem? (i := 1) rfl) ?_
      refine zp_if_ne dX8_paintInside_51 (tgt := 77) rfl (fun q => absurd (by decide) q) (fun _ => ?_)
      refine zp_aload_n dX8_paintInside_54 rfl (a := (xnd X x)) (List.mem_of_getElem? (i := 2) rfl) ?_
      refine zp_callS (st := []) (mc2 := 0) (ms2 := 0) dX8_paintInside_55 (c_X8_stepOfT l G (xnd X x) 0 _ hK.T hkd hsw) cl_X8_63 st_X8_stepOf rfl rfl (by omega) (by omega) (by omega) (Nat.le_of_ble_eq_true rfl) ?_
      rintro _ s1 ⟨rfl, hs1⟩; obtain rfl := hs1.symm
      refine zp_iload_n dX8_paintInside_58 rfl (x := z) (List.mem_of_getElem? (i := 5) rfl) ?_
      refine zp_icmp_ne dX8_paintInside_59 (tgt := 77) rfl (fun hz0 => ?_) (fun hz0 => ?_)
      · have hz : ¬ kst D x = z := by rw [hks]; exact hz0
        refine zp_aload_n dX8_paintInside_77 rfl (a := (xnd X x)) (List.mem_of_getElem? (i := 2) rfl) ?_
        refine zp_aload_n dX8_paintInside_78 rfl (a := (xnd X 0)) (List.mem_of_getElem? (i := 4) rfl) ?_
        refine zp_iload dX8_paintInside_79 (x := 0) (List.mem_of_getElem? (i := 1) rfl) ?_
        refine zp_if_ne dX8_paintInside_81 (tgt := 93) rfl (fun q => absurd (by decide) q) (fun _ => ?_)
        refine zp_iload dX8_paintInside_84 (x := 0) (List.mem_of_getElem? (i := 0) rfl) ?_
        refine zp_if_ne dX8_paintInside_86 (tgt := 93) rfl (fun q => absurd (by decide) q) (fun _ => ?_)
        refine zp_iconst dX8_paintInside_89 (v := 1) (by decide) ?_
        refine zp_goto dX8_paintInside_90 (tgt := 94) rfl ?_
        refine zp_callS (st := []) (mc2 := 0) (ms2 := 0) dX8_paintInside_94 (c_X7_onward l G D X x _ hD hN hxn) cl_X8_47 st_X7_onward rfl rfl (by omega) (by omega) (by omega) (Nat.le_of_ble_eq_true rfl) ?_
        rintro _ s1 ⟨rfl, hs1⟩; obtain rfl := hs1.symm
        refine zp_astoreo_n dX8_paintInside_97 rfl (Nat.le_of_ble_eq_true rfl) (r := (lk X (onw D x))) (v := va_rf (lk X (onw D x))) rfl (lv2 := [(3, va_rf (lk X (onw D x))), (5, .int 0), (4, .int 0), (0, .ref p), (1, .ref (xnd X 0)), (2, .int z)]) rfl ?_
        refine zp_goto dX8_paintInside_98 (tgt := 12) rfl ?_
        refine zp_lv [0, 3, 4, 5] rfl ?_
        exact ih (onw D x) σ c hc2 hxs hN hp hT hsw (by rw [kcn_cons, if_neg hz] at hb; exact hb) hc0 (fun s2 c2 a1 a2 a3 a4 a5 a6 a7 => kk s2 c2 a1 a2 a3 a4 (by rw [a5, kcn_cons, if_neg hz]; rfl) a6 a7)
      · have hz : kst D x = z := by rw [hks]; exact hz0
        refine zp_aload_n dX8_paintInside_62 rfl (a := p) (List.mem_of_getElem? (i := 3) rfl) ?_
        refine zp_aload_n dX8_paintInside_63 rfl (a := (xnd X x)) (List.mem_of_getElem? (i := 2) rfl) ?_
        refine zp_callV (c0 := 5) (st := []) (mc2 := 0) (ms2 := 0) dX8_paintInside_64 (c_X8_add l G p oa (xnd X x) 0 0 c _ hp.1 hp.2.1 hp.2.2 hK.T hc0 (by rw [kcn_cons, if_pos hz] at hb; omega)) cl_X8_25 im_X8_add se_X8_add rfl rfl hp.1 rfl rfl (by omega) (by omega) (by omega) (Nat.le_of_ble_eq_true rfl) ?_
        rintro _ s1 ⟨rfl, hs1⟩
        have hf1 : PF oa σ s1 := by rw [hs1]; exact PF.wQ.trans PF.wI
        have h1c : zI s1 601 p = nI (c + 1) := by rw [hs1]; exact rIe
        have hN1 := hN.pf hf1 hp.2.2
        have hp1 : Pp p oa s1 := ⟨hf1.T.trans hp.1, by rw [hf1.2.1]; exact hp.2.1, hf1.T.trans hp.2.2⟩
        have hT1 : Tc D X s1 := fun k a b => by rw [hf1.2.2.1]; exact hT k a b
        have hsw1 : Sw G s1 := ⟨hf1.T.trans hsw.1, by rw [hf1.2.2.1]; exact hsw.2.1, by rw [hf1.2.2.1]; exact hsw.2.2⟩
        refine zp_iload dX8_paintInside_67 (x := 0) (List.mem_of_getElem? (i := 0) rfl) ?_
        refine zp_if_eq dX8_paintInside_69 (tgt := 77) rfl (fun _ => ?_) (fun q => absurd rfl q)
        refine zp_aload_n dX8_paintInside_77 rfl (a := (xnd X x)) (List.mem_of_getElem? (i := 2) rfl) ?_
        refine zp_aload_n dX8_paintInside_78 rfl (a := (xnd X 0)) (List.mem_of_getElem? (i := 4) rfl) ?_
        refine zp_iload dX8_paintInside_79 (x := 0) (List.mem_of_getElem? (i := 1) rfl) ?_
        refine zp_if_ne dX8_paintInside_81 (tgt := 93) rfl (fun q => absurd (by decide) q) (fun _ => ?_)
        refine zp_iload dX8_paintInside_84 (x := 0) (List.mem_of_getElem? (i := 0) rfl) ?_
        refine zp_if_ne dX8_paintInside_86 (tgt := 93) rfl (fun q => absurd (by decide) q) (fun _ => ?_)
        refine zp_iconst dX8_paintInside_89 (v := 1) (by decide) ?_
        refine zp_goto dX8_paintInside_90 (tgt := 94) rfl ?_
        refine zp_callS (st := []) (mc2 := 0) (ms2 := 0) dX8_paintInside_94 (c_X7_onward l G D X x _ hD hN1 hxn) cl_X8_47 st_X7_onward rfl rfl (by omega) (by omega) (by omega) (Nat.le_of_ble_eq_true rfl) ?_
        rintro _ s1 ⟨rfl, hs1⟩; obtain rfl := hs1.symm
        refine zp_astoreo_n dX8_paintInside_97 rfl (Nat.le_of_ble_eq_true rfl) (r := (lk X (onw D x))) (v := va_rf (lk X (onw D x))) rfl (lv2 := [(3, va_rf (lk X (onw D x))), (5, .int 0), (4, .int 0), (0, .ref p), (1, .ref (xnd X 0)), (2, .int z)]) rfl ?_
        refine zp_goto dX8_paintInside_98 (tgt := 12) rfl ?_
        refine zp_lv [0, 3, 4, 5] rfl ?_
        exact ih (onw D x) s1 (c + 1) hc2 hxs hN1 hp1 hT1 hsw1 (by rw [kcn_cons, if_pos hz] at hb; omega) h1c (fun s2 c2 a1 a2 a3 a4 a5 a6 a7 => kk s2 c2 a1 a2 a3 a4 (by rw [a5, kcn_cons, if_pos hz]; omega) (hf1.trans a6) a7)
    · have hks : kst D x = 0 := if_neg ht
      have ht : dtx D x = false := by cases e : dtx D x; rfl; exact absurd e ht
      have hkd : zR σ 514 (xnd X x) = some (G.2.2.1 0) := by have := hK.kind; rw [ht] at this; exact this
      show Wp l G 3 0 0 (RX8, cX8_paintInside, 6, none, false) 12 [(3, .ref (xnd X x)), (0, .ref p), (1, .ref (xnd X 0)), (2, .int z)] [] σ _
      refine zp_aload_n dX8_paintInside_12 rfl (a := (xnd X x)) (List.mem_of_getElem? (i := 0) rfl) ?_
      refine zp_nullF dX8_paintInside_13 (tgt := 101) rfl ?_
      refine zp_aload_n dX8_paintInside_16 rfl (a := (xnd X x)) (List.mem_of_getElem? (i := 0) rfl) ?_
      refine zp_callV (c0 := 4) (st := []) (mc2 := 0) (ms2 := 0) dX8_paintInside_17 (c_X7_isStack l G (xnd X x) 0 (xcn X x) _ hK.T hK.cn hK.cnT) cl_X8_39 im_X7_isStack se_X7_isStack rfl rfl hK.T rfl rfl (by omega) (by omega) (by omega) (Nat.le_of_ble_eq_true rfl) ?_
      rintro _ s1 ⟨rfl, hs1⟩; obtain rfl := hs1.symm
      refine zp_topr (y := 0) (zb_f (nostack hD hK hT hxn hx0)) ?_
      refine zp_istore dX8_paintInside_20 (Nat.le_of_ble_eq_true rfl) (lv2 := [(4, .int 0), (3, .ref (xnd X x)), (0, .ref p), (1, .ref (xnd X 0)), (2, .int z)]) rfl ?_
      refine zp_aload_n dX8_paintInside_22 rfl (a := (xnd X x)) (List.mem_of_getElem? (i := 1) rfl) ?_
      refine zp_getRv dX8_paintInside_23 fl_X8_51 hK.T (b := (G.2.2.1 0)) hkd ?_
      refine zp_kind (i := 5) dX8_paintInside_26 (by decide) rfl wd_988 ?_
      refine zp_acmp_eq (rx := (some (G.2.2.1 0))) (ry := (some (G.2.2.1 5))) dX8_paintInside_29 (tgt := 42) rfl rfl rfl (fun q => absurd q (fun q => absurd (hkin 0 5 (by decide) (by decide) (Option.some.inj q)) (by decide))) (fun _ => ?_)
      refine zp_aload_n dX8_paintInside_32 rfl (a := (xnd X x)) (List.mem_of_getElem? (i := 1) rfl) ?_
      refine zp_getRv dX8_paintInside_33 fl_X8_51 hK.T (b := (G.2.2.1 0)) hkd ?_
      refine zp_kind (i := 2) dX8_paintInside_36 (by decide) rfl wd_989 ?_
      refine zp_acmp_ne (rx := (some (G.2.2.1 0))) (ry := (some (G.2.2.1 2))) dX8_paintInside_39 (tgt := 46) rfl rfl rfl (fun _ => ?_) (fun q => absurd q (fun q => absurd (hkin 0 2 (by decide) (by decide) (Option.some.inj q)) (by decide)))
      refine zp_iconst dX8_paintInside_46 (v := 0) (by decide) ?_
      refine zp_istore dX8_paintInside_47 (Nat.le_of_ble_eq_true rfl) (lv2 := [(5, .int 0), (4, .int 0), (3, .ref (xnd X x)), (0, .ref p), (1, .ref (xnd X 0)), (2, .int z)]) rfl ?_
      refine zp_iload dX8_paintInside_49 (x := 0) (List.mem_of_getElem? (i := 1) rfl) ?_
      refine zp_if_ne dX8_paintInside_51 (tgt := 77) rfl (fun q => absurd (by decide) q) (fun _ => ?_)
      refine zp_aload_n dX8_paintInside_54 rfl (a := (xnd X x)) (List.mem_of_getElem? (i := 2) rfl) ?_
      refine zp_callS (st := []) (mc2 := 0) (ms2 := 0) dX8_paintInside_55 (c_X8_stepOfB l G (xnd X x) 0 _ hK.T hkd hsw) cl_X8_63 st_X8_stepOf rfl rfl (by omega) (by omega) (by omega) (Nat.le_of_ble_eq_true rfl) ?_
      rintro _ s1 ⟨rfl, hs1⟩; obtain rfl := hs1.symm
      refine zp_iload_n dX8_paintInside_58 rfl (x := z) (List.mem_of_getElem? (i := 5) rfl) ?_
      refine zp_icmp_ne dX8_paintInside_59 (tgt := 77) rfl (fun hz0 => ?_) (fun hz0 => ?_)
      · have hz : ¬ kst D x = z := by rw [hks]; exact hz0
        refine zp_aload_n dX8_paintInside_77 rfl (a := (xnd X x)) (List.mem_of_getElem? (i := 2) rfl) ?_
        refine zp_aload_n dX8_paintInside_78 rfl (a := (xnd X 0)) (List.mem_of_getElem? (i := 4) rfl) ?_
        refine zp_iload dX8_paintInside_79 (x := 0) (List.mem_of_getElem? (i := 1) rfl) ?_
        refine zp_if_ne dX8_paintInside_81 (tgt := 93) rfl (fun q => absurd (by decide) q) (fun _ => ?_)
        refine zp_iload dX8_paintInside_84 (x := 0) (List.mem_of_getElem? (i := 0) rfl) ?_
        refine zp_if_ne dX8_paintInside_86 (tgt := 93) rfl (fun q => absurd (by decide) q) (fun _ => ?_)
        refine zp_iconst dX8_paintInside_89 (v := 1) (by decide) ?_
        refine zp_goto dX8_paintInside_90 (tgt := 94) rfl ?_
        refine zp_callS (st := []) (mc2 := 0) (ms2 := 0) dX8_paintInside_94 (c_X7_onward l G D X x _ hD hN hxn) cl_X8_47 st_X7_onward rfl rfl (by omega) (by omega) (by omega) (Nat.le_of_ble_eq_true rfl) ?_
        rintro _ s1 ⟨rfl, hs1⟩; obtain rfl := hs1.symm
        refine zp_astoreo_n dX8_paintInside_97 rfl (Nat.le_of_ble_eq_true rfl) (r := (lk X (onw D x))) (v := va_rf (lk X (onw D x))) rfl (lv2 := [(3, va_rf (lk X (onw D x))), (5, .int 0), (4, .int 0), (0, .ref p), (1, .ref (xnd X 0)), (2, .int z)]) rfl ?_
        refine zp_goto dX8_paintInside_98 (tgt := 12) rfl ?_
        refine zp_lv [0, 3, 4, 5] rfl ?_
        exact ih (onw D x) σ c hc2 hxs hN hp hT hsw (by rw [kcn_cons, if_neg hz] at hb; exact hb) hc0 (fun s2 c2 a1 a2 a3 a4 a5 a6 a7 => kk s2 c2 a1 a2 a3 a4 (by rw [a5, kcn_cons, if_neg hz]; rfl) a6 a7)
      · have hz : kst D x = z := by rw [hks]; exact hz0
        refine zp_aload_n dX8_paintInside_62 rfl (a := p) (List.mem_of_getElem? (i := 3) rfl) ?_
        refine zp_aload_n dX8_paintInside_63 rfl (a := (xnd X x)) (List.mem_of_getElem? (i := 2) rfl) ?_
        refine zp_callV (c0 := 5) (st := []) (mc2 := 0) (ms2 := 0) dX8_paintInside_64 (c_X8_add l G p oa (xnd X x) 0 0 c _ hp.1 hp.2.1 hp.2.2 hK.T hc0 (by rw [kcn_cons, if_pos hz] at hb; omega)) cl_X8_25 im_X8_add se_X8_add rfl rfl hp.1 rfl rfl (by omega) (by omega) (by omega) (Nat.le_of_ble_eq_true rfl) ?_
        rintro _ s1 ⟨rfl, hs1⟩
        have hf1 : PF oa σ s1 := by rw [hs1]; exact PF.wQ.trans PF.wI
        have h1c : zI s1 601 p = nI (c + 1) := by rw [hs1]; exact rIe
        have hN1 := hN.pf hf1 hp.2.2
        have hp1 : Pp p oa s1 := ⟨hf1.T.trans hp.1, by rw [hf1.2.1]; exact hp.2.1, hf1.T.trans hp.2.2⟩
        have hT1 : Tc D X s1 := fun k a b => by rw [hf1.2.2.1]; exact hT k a b
        have hsw1 : Sw G s1 := ⟨hf1.T.trans hsw.1, by rw [hf1.2.2.1]; exact hsw.2.1, by rw [hf1.2.2.1]; exact hsw.2.2⟩
        refine zp_iload dX8_paintInside_67 (x := 0) (List.mem_of_getElem? (i := 0) rfl) ?_
        refine zp_if_eq dX8_paintInside_69 (tgt := 77) rfl (fun _ => ?_) (fun q => absurd rfl q)
        refine zp_aload_n dX8_paintInside_77 rfl (a := (xnd X x)) (List.mem_of_getElem? (i := 2) rfl) ?_
        refine zp_aload_n dX8_paintInside_78 rfl (a := (xnd X 0)) (List.mem_of_getElem? (i := 4) rfl) ?_
        refine zp_iload dX8_paintInside_79 (x := 0) (List.mem_of_getElem? (i := 1) rfl) ?_
        refine zp_if_ne dX8_paintInside_81 (tgt := 93) rfl (fun q => absurd (by decide) q) (fun _ => ?_)
        refine zp_iload dX8_paintInside_84 (x := 0) (List.mem_of_getElem? (i := 0) rfl) ?_
        refine zp_if_ne dX8_paintInside_86 (tgt := 93) rfl (fun q => absurd (by decide) q) (fun _ => ?_)
        refine zp_iconst dX8_paintInside_89 (v := 1) (by decide) ?_
        refine zp_goto dX8_paintInside_90 (tgt := 94) rfl ?_
        refine zp_callS (st := []) (mc2 := 0) (ms2 := 0) dX8_paintInside_94 (c_X7_onward l G D X x _ hD hN1 hxn) cl_X8_47 st_X7_onward rfl rfl (by omega) (by omega) (by omega) (Nat.le_of_ble_eq_true rfl) ?_
        rintro _ s1 ⟨rfl, hs1⟩; obtain rfl := hs1.symm
        refine zp_astoreo_n dX8_paintInside_97 rfl (Nat.le_of_ble_eq_true rfl) (r := (lk X (onw D x))) (v := va_rf (lk X (onw D x))) rfl (lv2 := [(3, va_rf (lk X (onw D x))), (5, .int 0), (4, .int 0), (0, .ref p), (1, .ref (xnd X 0)), (2, .int z)]) rfl ?_
        refine zp_goto dX8_paintInside_98 (tgt := 12) rfl ?_
        refine zp_lv [0, 3, 4, 5] rfl ?_
        exact ih (onw D x) s1 (c + 1) hc2 hxs hN1 hp1 hT1 hsw1 (by rw [kcn_cons, if_pos hz] at hb; omega) h1c (fun s2 c2 a1 a2 a3 a4 a5 a6 a7 => kk s2 c2 a1 a2 a3 a4 (by rw [a5, kcn_cons, if_pos hz]; omega) (hf1.trans a6) a7)
set_option maxRecDepth 100000 in
set_option maxHeartbeats 4000000 in
theorem c_X8_paintInside (l : Launch) (G : Gb) (D : Dt) (X : Cx) (p oa c : Nat) (σ : Sto) (hD : DW D) (hN : NS G D X σ) (hp : Pp p oa σ) (hT : Tc D X σ) (hsw : Sw G σ) (hb : c ≤ 1) (hc0 : zI σ 601 p = nI c) : Ct l G 3 0 0 yX8_paintInside mX8_paintInside [.ref p, .ref (xnd X 0)] σ (fun v s => v = none ∧ PF oa σ s ∧ zI s 601 p = nI (c + (dn D - 1))) := by
  refine Ct.of (by decide) rfl (Nat.le_of_ble_eq_true rfl) (fun h => absurd h (by decide)) ?_
  have hcn := ordF_cn hD (dn D) 0 0 (by omega)
  rw [stt0, up_0] at hcn
  have hlen := ordL_len hD
  have hall := kcn_all (D := D) (ordF D (dn D) 0 0)
  have hn12 := hD.2.1
  show Wp l G 3 0 0 (RX8, cX8_paintInside, 6, none, false) 0 [(0, .ref p), (1, .ref (xnd X 0))] [] σ _
  refine zp_iconst dX8_paintInside_0 (v := 0) (by decide) ?_
  refine zp_istore_n dX8_paintInside_1 rfl (Nat.le_of_ble_eq_true rfl) (lv2 := [(2, .int 0), (0, .ref p), (1, .ref (xnd X 0))]) rfl ?_
  show Wp l G 3 0 0 (RX8, cX8_paintInside, 6, none, false) 2 [(2, .int 0), (0, .ref p), (1, .ref (xnd X 0))] [] σ _
  refine zp_iload_n dX8_paintInside_2 rfl (x := 0) (List.mem_of_getElem? (i := 0) rfl) ?_
  refine zp_iconst dX8_paintInside_3 (v := 2) (by decide) ?_
  refine zp_icmp_gt dX8_paintInside_4 (tgt := 107) rfl (fun q => absurd q (by decide)) (fun _ => ?_)
  refine zp_aload_n dX8_paintInside_7 rfl (a := (xnd X 0)) (List.mem_of_getElem? (i := 2) rfl) ?_
  refine zp_getRo dX8_paintInside_8 fl_X8_35 (hN.k 0 hD.1).T (r := (lk X (nx D 0 0))) (hN.k 0 hD.1).first ?_
  refine zp_astoreo_n dX8_paintInside_11 rfl (Nat.le_of_ble_eq_true rfl) (r := (lk X (nx D 0 0))) (v := va_rf (lk X (nx D 0 0))) rfl (lv2 := [(3, va_rf (lk X (nx D 0 0))), (2, .int 0), (0, .ref p), (1, .ref (xnd X 0))]) rfl ?_
  refine zp_lv [0, 2, 3, 1] rfl ?_
  refine l_pin l hD (ordF D (dn D) 0 0) (nx D 0 0) σ c hcn (fun x hx => ordF_ne hD hx) hN hp hT hsw (by omega) hc0 ?_
  intro t1 c1 n1 p1 u1 w1 e1 f1 z1
  show Wp l G 3 0 0 (RX8, cX8_paintInside, 6, none, false) 101 [(0, .ref p), (1, .ref (xnd X 0)), (2, .int 0)] [] t1 _
  refine zp_iinc dX8_paintInside_101 (k1 := 2) (x := 0) rfl (v := 1) (by decide) (Nat.le_of_ble_eq_true rfl) (lv2 := [(2, .int 1), (0, .ref p), (1, .ref (xnd X 0))]) rfl ?_
  refine zp_goto dX8_paintInside_104 (tgt := 2) rfl ?_
  skip
  show Wp l G 3 0 0 (RX8, cX8_paintInside, 6, none, false) 2 [(2, .int 1), (0, .ref p), (1, .ref (xnd X 0))] [] t1 _
  refine zp_iload_n dX8_paintInside_2 rfl (x := 1) (List.mem_of_getElem? (i := 0) rfl) ?_
  refine zp_iconst dX8_paintInside_3 (v := 2) (by decide) ?_
  refine zp_icmp_gt dX8_paintInside_4 (tgt := 107) rfl (fun q => absurd q (by decide)) (fun _ => ?_)
  refine zp_aload_n dX8_paintInside_7 rfl (a := (xnd X 0)) (List.mem_of_getElem? (i := 2) rfl) ?_
  refine zp_getRo dX8_paintInside_8 fl_X8_35 (n1.k 0 hD.1).T (r := (lk X (nx D 0 0))) (n1.k 0 hD.1).first ?_
  refine zp_astoreo_n dX8_paintInside_11 rfl (Nat.le_of_ble_eq_true rfl) (r := (lk X (nx D 0 0))) (v := va_rf (lk X (nx D 0 0))) rfl (lv2 := [(3, va_rf (lk X (nx D 0 0))), (2, .int 1), (0, .ref p), (1, .ref (xnd X 0))]) rfl ?_
  refine zp_lv [0, 2, 3, 1] rfl ?_
  refine l_pin l hD (ordF D (dn D) 0 0) (nx D 0 0) t1 c1 hcn (fun x hx => ordF_ne hD hx) n1 p1 u1 w1 (by omega) z1 ?_
  intro t2 c2 n2 p2 u2 w2 e2 f2 z2
  show Wp l G 3 0 0 (RX8, cX8_paintInside, 6, none, false) 101 [(0, .ref p), (1, .ref (xnd X 0)), (2, .int 1)] [] t2 _
  refine zp_iinc dX8_paintInside_101 (k1 := 2) (x := 1) rfl (v := 2) (by decide) (Nat.le_of_ble_eq_true rfl) (lv2 := [(2, .int 2), (0, .ref p), (1, .ref (xnd X 0))]) rfl ?_
  refine zp_goto dX8_paintInside_104 (tgt := 2) rfl ?_
  skip
  show Wp l G 3 0 0 (RX8, cX8_paintInside, 6, none, false) 2 [(2, .int 2), (0, .ref p), (1, .ref (xnd X 0))] [] t2 _
  refine zp_iload_n dX8_paintInside_2 rfl (x := 2) (List.mem_of_getElem? (i := 0) rfl) ?_
  refine zp_iconst dX8_paintInside_3 (v := 2) (by decide) ?_
  refine zp_icmp_gt dX8_paintInside_4 (tgt := 107) rfl (fun q => absurd q (by decide)) (fun _ => ?_)
  refine zp_aload_n dX8_paintInside_7 rfl (a := (xnd X 0)) (List.mem_of_getElem? (i := 2) rfl) ?_
  refine zp_getRo dX8_paintInside_8 fl_X8_35 (n2.k 0 hD.1).T (r := (lk X (nx D 0 0))) (n2.k 0 hD.1).first ?_
  refine zp_astoreo_n dX8_paintInside_11 rfl (Nat.le_of_ble_eq_true rfl) (r := (lk X (nx D 0 0))) (v := va_rf (lk X (nx D 0 0))) rfl (lv2 := [(3, va_rf (lk X (nx D 0 0))), (2, .int 2), (0, .ref p), (1, .ref (xnd X 0))]) rfl ?_
  refine zp_lv [0, 2, 3, 1] rfl ?_
  refine l_pin l hD (ordF D (dn D) 0 0) (nx D 0 0) t2 c2 hcn (fun x hx => ordF_ne hD hx) n2 p2 u2 w2 (by omega) z2 ?_
  intro t3 c3 n3 p3 u3 w3 e3 f3 z3
  show Wp l G 3 0 0 (RX8, cX8_paintInside, 6, none, false) 101 [(0, .ref p), (1, .ref (xnd X 0)), (2, .int 2)] [] t3 _
  refine zp_iinc dX8_paintInside_101 (k1 := 2) (x := 2) rfl (v := 3) (by decide) (Nat.le_of_ble_eq_true rfl) (lv2 := [(2, .int 3), (0, .ref p), (1, .ref (xnd X 0))]) rfl ?_
  refine zp_goto dX8_paintInside_104 (tgt := 2) rfl ?_
  refine zp_iload_n dX8_paintInside_2 rfl (x := 3) (List.mem_of_getElem? (i := 0) rfl) ?_
  refine zp_iconst dX8_paintInside_3 (v := 2) (by decide) ?_
  refine zp_icmp_gt dX8_paintInside_4 (tgt := 107) rfl (fun _ => ?_) (fun q => absurd (by decide) q)
  refine zp_vret rfl dX8_paintInside_107 ?_
  exact ⟨rfl, f1.trans (f2.trans f3), by rw [z3]; congr 1; omega⟩
theorem i1_toInt {z : Int32} (h : z.toInt < 1000) : (z + 1).toInt = z.toInt + 1 := by
  have h2 := Int32.le_toInt z
  rw [Int32.toInt_add, show (1 : Int32).toInt = 1 from rfl]
  exact Int.bmod_eq_of_le (by omega) (by omega)
set_option maxHeartbeats 4000000 in
theorem l_ps1 (l : Launch) {G : Gb} {D : Dt} {X : Cx} {p oa : Nat} {σ : Sto} {Q : Option Value → Sto → Prop} (hD : DW D) (hN : NS G D X σ) (hp : Pp p oa σ) (hT : Tc D X σ) (kk : Wp l G 4 0 0 (RX8, cX8_paintStack, 3, none, false) 24 [(0, .ref p), (1, .ref (xnd X 0))] [] σ Q) : ∀ (m : Nat) (z : Int32), z.toInt + (m : Int) = 0 →
    Wp l G 4 0 0 (RX8, cX8_paintStack, 3, none, false) 8 [(2, .int z), (0, .ref p), (1, .ref (xnd X 0))] [] σ Q := by
  intro m
  induction m with
  | zero =>
    intro z hz
    show Wp l G 4 0 0 (RX8, cX8_paintStack, 3, none, false) 8 [(2, .int z), (0, .ref p), (1, .ref (xnd X 0))] [] σ _
    refine zp_iload_n dX8_paintStack_8 rfl (x := z) (List.mem_of_getElem? (i := 0) rfl) ?_
    refine zp_if_ge dX8_paintStack_9 (tgt := 24) rfl (fun _ => ?_) (fun q => absurd (Int32.le_iff_toInt_le.mpr (by rw [show (0 : Int32).toInt = 0 from rfl]; omega)) q)
    refine zp_lv [1, 2] rfl ?_
    exact kk
  | succ m ih =>
    intro z hz
    show Wp l G 4 0 0 (RX8, cX8_paintStack, 3, none, false) 8 [(2, .int z), (0, .ref p), (1, .ref (xnd X 0))] [] σ _
    refine zp_iload_n dX8_paintStack_8 rfl (x := z) (List.mem_of_getElem? (i := 0) rfl) ?_
    refine zp_if_ge dX8_paintStack_9 (tgt := 24) rfl (fun q => absurd q (fun q => by have q := Int32.le_iff_toInt_le.mp q; rw [show (0 : Int32).toInt = 0 from rfl] at q; omega)) (fun _ => ?_)
    refine zp_aload_n dX8_paintStack_12 rfl (a := p) (List.mem_of_getElem? (i := 1) rfl) ?_
    refine zp_aload_n dX8_paintStack_13 rfl (a := (xnd X 0)) (List.mem_of_getElem? (i := 2) rfl) ?_
    refine zp_iload_n dX8_paintStack_14 rfl (x := z) (List.mem_of_getElem? (i := 0) rfl) ?_
    refine zp_callV (c0 := 5) (st := []) (mc2 := 0) (ms2 := 0) dX8_paintStack_15 (c_X8_paintStacksIn l G D X p z _ hD hN hT) cl_X8_28 im_X8_paintStacksIn se_X8_paintStacksIn rfl rfl hp.1 rfl rfl (by omega) (by omega) (by omega) (Nat.le_of_ble_eq_true rfl) ?_
    rintro _ s1 ⟨rfl, hs1⟩; obtain rfl := hs1.symm
    refine zp_iinc dX8_paintStack_18 (k1 := 0) (x := z) rfl (v := (z + 1)) rfl (Nat.le_of_ble_eq_true rfl) (lv2 := [(2, .int (z + 1)), (0, .ref p), (1, .ref (xnd X 0))]) rfl ?_
    refine zp_goto dX8_paintStack_21 (tgt := 8) rfl ?_
    exact ih (z + 1) (by rw [i1_toInt (by omega)]; omega)
set_option maxHeartbeats 4000000 in
theorem l_ps2 (l : Launch) {G : Gb} {D : Dt} {X : Cx} {p oa : Nat} {σ : Sto} {Q : Option Value → Sto → Prop} (hD : DW D) (hN : NS G D X σ) (hp : Pp p oa σ) (hT : Tc D X σ) (kk : Wp l G 4 0 0 (RX8, cX8_paintStack, 3, none, false) 49 [(0, .ref p), (1, .ref (xnd X 0))] [] σ Q) : ∀ (m : Nat) (z : Int32), z.toInt + (m : Int) = 10 →
    Wp l G 4 0 0 (RX8, cX8_paintStack, 3, none, false) 31 [(2, .int z), (0, .ref p), (1, .ref (xnd X 0))] [] σ Q := by
  intro m
  induction m with
  | zero =>
    intro z hz
    show Wp l G 4 0 0 (RX8, cX8_paintStack, 3, none, false) 31 [(2, .int z), (0, .ref p), (1, .ref (xnd X 0))] [] σ _
    refine zp_iload_n dX8_paintStack_31 rfl (x := z) (List.mem_of_getElem? (i := 0) rfl) ?_
    refine zp_bipush dX8_paintStack_32 (v := 9) (by decide) ?_
    refine zp_icmp_gt dX8_paintStack_34 (tgt := 49) rfl (fun _ => ?_) (fun q => absurd (Int32.lt_iff_toInt_lt.mpr (by rw [show (9 : Int32).toInt = 9 from rfl]; omega)) q)
    refine zp_lv [1, 2] rfl ?_
    exact kk
  | succ m ih =>
    intro z hz
    show Wp l G 4 0 0 (RX8, cX8_paintStack, 3, none, false) 31 [(2, .int z), (0, .ref p), (1, .ref (xnd X 0))] [] σ _
    refine zp_iload_n dX8_paintStack_31 rfl (x := z) (List.mem_of_getElem? (i := 0) rfl) ?_
    refine zp_bipush dX8_paintStack_32 (v := 9) (by decide) ?_
    refine zp_icmp_gt dX8_paintStack_34 (tgt := 49) rfl (fun q => absurd q (fun q => by have q := Int32.lt_iff_toInt_lt.mp q; rw [show (9 : Int32).toInt = 9 from rfl] at q; omega)) (fun _ => ?_)
    refine zp_aload_n dX8_paintStack_37 rfl (a := p) (List.mem_of_getElem? (i := 1) rfl) ?_
    refine zp_aload_n dX8_paintStack_38 rfl (a := (xnd X 0)) (List.mem_of_getElem? (i := 2) rfl) ?_
    refine zp_iload_n dX8_paintStack_39 rfl (x := z) (List.mem_of_getElem? (i := 0) rfl) ?_
    refine zp_callV (c0 := 5) (st := []) (mc2 := 0) (ms2 := 0) dX8_paintStack_40 (c_X8_paintStacksIn l G D X p z _ hD hN hT) cl_X8_28 im_X8_paintStacksIn se_X8_paintStacksIn rfl rfl hp.1 rfl rfl (by omega) (by omega) (by omega) (Nat.le_of_ble_eq_true rfl) ?_
    rintro _ s1 ⟨rfl, hs1⟩; obtain rfl := hs1.symm
    refine zp_iinc dX8_paintStack_43 (k1 := 0) (x := z) rfl (v := (z + 1)) rfl (Nat.le_of_ble_eq_true rfl) (lv2 := [(2, .int (z + 1)), (0, .ref p), (1, .ref (xnd X 0))]) rfl ?_
    refine zp_goto dX8_paintStack_46 (tgt := 31) rfl ?_
    exact ih (z + 1) (by rw [i1_toInt (by omega)]; omega)
set_option maxRecDepth 100000 in
set_option maxHeartbeats 4000000 in
theorem c_X8_paintStack (l : Launch) (G : Gb) (D : Dt) (X : Cx) (p oa : Nat) (σ : Sto) (hD : DW D) (hN : NS G D X σ) (hp : Pp p oa σ) (hT : Tc D X σ) (hsw : Sw G σ) (hc0 : zI σ 601 p = nI 0) : Ct l G 4 0 0 yX8_paintStack mX8_paintStack [.ref p, .ref (xnd X 0)] σ (fun v s => v = none ∧ PF oa σ s ∧ zI s 601 p = nI (dn D)) := by
  refine Ct.of (by decide) rfl (Nat.le_of_ble_eq_true rfl) (fun h => absurd h (by decide)) ?_
  show Wp l G 4 0 0 (RX8, cX8_paintStack, 3, none, false) 0 [(0, .ref p), (1, .ref (xnd X 0))] [] σ _
  refine zp_aload_n dX8_paintStack_0 rfl (a := p) (List.mem_of_getElem? (i := 0) rfl) ?_
  refine zp_aload_n dX8_paintStack_1 rfl (a := (xnd X 0)) (List.mem_of_getElem? (i := 1) rfl) ?_
  refine zp_callV (c0 := 5) (st := []) (mc2 := 0) (ms2 := 0) dX8_paintStack_2 (c_X8_add l G p oa (xnd X 0) 0 0 0 _ hp.1 hp.2.1 hp.2.2 (hN.k 0 hD.1).T hc0 (by decide)) cl_X8_25 im_X8_add se_X8_add rfl rfl hp.1 rfl rfl (by omega) (by omega) (by omega) (Nat.le_of_ble_eq_true rfl) ?_
  rintro _ s1 ⟨rfl, hs1⟩
  have hf1 : PF oa σ s1 := by rw [hs1]; exact PF.wQ.trans PF.wI
  have h1c : zI s1 601 p = nI 1 := by rw [hs1]; exact rIe
  have hN1 := hN.pf hf1 hp.2.2
  have hp1 : Pp p oa s1 := ⟨hf1.T.trans hp.1, by rw [hf1.2.1]; exact hp.2.1, hf1.T.trans hp.2.2⟩
  have hT1 : Tc D X s1 := fun k a b => by rw [hf1.2.2.1]; exact hT k a b
  have hsw1 : Sw G s1 := ⟨hf1.T.trans hsw.1, by rw [hf1.2.2.1]; exact hsw.2.1, by rw [hf1.2.2.1]; exact hsw.2.2⟩
  refine zp_bipush dX8_paintStack_5 (v := (-9)) (by decide) ?_
  refine zp_istore_n dX8_paintStack_7 rfl (Nat.le_of_ble_eq_true rfl) (lv2 := [(2, .int (-9)), (0, .ref p), (1, .ref (xnd X 0))]) rfl ?_
  refine l_ps1 l hD hN1 hp1 hT1 ?_ 9 (-9) (by decide)
  show Wp l G 4 0 0 (RX8, cX8_paintStack, 3, none, false) 24 [(0, .ref p), (1, .ref (xnd X 0))] [] s1 _
  refine zp_aload_n dX8_paintStack_24 rfl (a := p) (List.mem_of_getElem? (i := 0) rfl) ?_
  refine zp_aload_n dX8_paintStack_25 rfl (a := (xnd X 0)) (List.mem_of_getElem? (i := 1) rfl) ?_
  refine zp_callV (c0 := 5) (st := []) (mc2 := 0) (ms2 := 0) dX8_paintStack_26 (c_X8_paintInside l G D X p oa 1 _ hD hN1 hp1 hT1 hsw1 (by decide) h1c) cl_X8_32 im_X8_paintInside se_X8_paintInside rfl rfl hp1.1 rfl rfl (by omega) (by omega) (by omega) (Nat.le_of_ble_eq_true rfl) ?_
  rintro _ s2 ⟨rfl, q1, q2⟩
  have hN2 := hN1.pf q1 hp1.2.2
  have hp2 : Pp p oa s2 := ⟨q1.T.trans hp1.1, by rw [q1.2.1]; exact hp1.2.1, q1.T.trans hp1.2.2⟩
  have hT2 : Tc D X s2 := fun k a b => by rw [q1.2.2.1]; exact hT1 k a b
  refine zp_iconst dX8_paintStack_29 (v := 0) (by decide) ?_
  refine zp_istore_n dX8_paintStack_30 rfl (Nat.le_of_ble_eq_true rfl) (lv2 := [(2, .int 0), (0, .ref p), (1, .ref (xnd X 0))]) rfl ?_
  refine l_ps2 l hD hN2 hp2 hT2 ?_ 10 0 (by decide)
  show Wp l G 4 0 0 (RX8, cX8_paintStack, 3, none, false) 49 [(0, .ref p), (1, .ref (xnd X 0))] [] s2 _
  refine zp_vret rfl dX8_paintStack_49 ?_
  exact ⟨rfl, hf1.trans q1, by rw [q2]; congr 1; have := hD.1; omega⟩
set_option maxRecDepth 100000 in
set_option maxHeartbeats 4000000 in
theorem c_X8_arrange (l : Launch) (G : Gb) (D : Dt) (X : Cx) (p oa : Nat) (σ : Sto) (hD : DW D) (hN : NS G D X σ) (hp : Pp p oa σ) (hT : Tc D X σ) (hsw : Sw G σ) : Ct l G 5 0 0 yX8_arrange mX8_arrange [.ref p, .ref (xnd X 0)] σ (fun v s => v = none ∧ PF oa σ s ∧ zI s 601 p = nI (dn D)) := by
  refine Ct.of (by decide) rfl (Nat.le_of_ble_eq_true rfl) (fun h => absurd h (by decide)) ?_
  show Wp l G 5 0 0 (RX8, cX8_arrange, 2, none, false) 0 [(0, .ref p), (1, .ref (xnd X 0))] [] σ _
  refine zp_aload_n dX8_arrange_0 rfl (a := p) (List.mem_of_getElem? (i := 0) rfl) ?_
  refine zp_iconst dX8_arrange_1 (v := 0) (by decide) ?_
  refine zp_putI dX8_arrange_2 fl_X8_17 hp.1 ?_
  refine zp_aload_n dX8_arrange_5 rfl (a := p) (List.mem_of_getElem? (i := 0) rfl) ?_
  refine zp_aload_n dX8_arrange_6 rfl (a := (xnd X 0)) (List.mem_of_getElem? (i := 1) rfl) ?_
  refine zp_callV (c0 := 5) (st := []) (mc2 := 0) (ms2 := 0) dX8_arrange_7 (c_X8_paintStack l G D X p oa _ hD (hN.pf (PF.wI (oa := oa)) hp.2.2) hp hT hsw rIe) cl_X8_21 im_X8_paintStack se_X8_paintStack rfl rfl (tI hp.1) rfl rfl (by omega) (by omega) (by omega) (Nat.le_of_ble_eq_true rfl) ?_
  rintro _ s2 ⟨rfl, q1, q2⟩
  refine zp_vret rfl dX8_arrange_10 ?_
  exact ⟨rfl, PF.wI.trans q1, q2⟩

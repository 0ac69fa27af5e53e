/-! A WHOLE LAYOUT, first half (by wip/p27/gen_lay.py) -/
set_option maxHeartbeats 4000000 in
theorem l_climb (l : Launch) {G : Gb} {D : Dt} {X : Cx} {z : Nat} {σ : Sto} (hD : DW D) (hN : NS G D X σ) : ∀ n, n < dn D →
    Wp l G 1 0 0 (RX7, cX7_onward, 4, (some (.object "FlowBoxes$Node")), false) 18 [(3, .ref (xnd X n)), (0, .ref z), (1, .ref (xnd X 0)), (2, .int 1)] [] σ (fun v s => v = some (va_rf (lk X (up D n))) ∧ s = σ) := by
  intro n
  induction n using Nat.strongRecOn with
  | ind n ih =>
  intro hn
  by_cases h0 : n = 0
  · subst h0
    have hK0 := hN.k 0 hn
    show Wp l G 1 0 0 (RX7, cX7_onward, 4, (some (.object "FlowBoxes$Node")), false) 18 [(3, .ref (xnd X 0)), (0, .ref z), (1, .ref (xnd X 0)), (2, .int 1)] [] σ _
    refine zp_aload_n dX7_onward_18 rfl (a := (xnd X 0)) (List.mem_of_getElem? (i := 0) rfl) ?_
    refine zp_nullF dX7_onward_19 (tgt := 47) rfl ?_
    refine zp_aload_n dX7_onward_22 rfl (a := (xnd X 0)) (List.mem_of_getElem? (i := 0) rfl) ?_
    refine zp_aload_n dX7_onward_23 rfl (a := (xnd X 0)) (List.mem_of_getElem? (i := 2) rfl) ?_
    refine zp_acmp_eq (rx := (some (xnd X 0))) (ry := (some (xnd X 0))) dX7_onward_24 (tgt := 47) rfl rfl rfl (fun _ => ?_) (fun q => absurd rfl q)
    refine zp_null dX7_onward_47 ?_
    refine zp_aret rfl (r := none) rfl dX7_onward_48 ?_
    exact ⟨rfl, rfl⟩
  · have hKn := hN.k n hn
    have hp := (hD.2.2.2.2.1 n (by omega) hn).1
    have hpar : zR σ 501 (xnd X n) = some (xnd X (dpar D n)) := by have := hKn.par; rw [if_neg h0] at this; exact this
    cases e : nx D (dpar D n) n with
    | some s =>
      have hnx : zR σ 511 (xnd X n) = some (xnd X s) := by have := hKn.next; rw [if_neg h0, e] at this; exact this
      show Wp l G 1 0 0 (RX7, cX7_onward, 4, (some (.object "FlowBoxes$Node")), false) 18 [(3, .ref (xnd X n)), (0, .ref z), (1, .ref (xnd X 0)), (2, .int 1)] [] σ _
      refine zp_aload_n dX7_onward_18 rfl (a := (xnd X n)) (List.mem_of_getElem? (i := 0) rfl) ?_
      refine zp_nullF dX7_onward_19 (tgt := 47) rfl ?_
      refine zp_aload_n dX7_onward_22 rfl (a := (xnd X n)) (List.mem_of_getElem? (i := 0) rfl) ?_
      refine zp_aload_n dX7_onward_23 rfl (a := (xnd X 0)) (List.mem_of_getElem? (i := 2) rfl) ?_
      refine zp_acmp_eq (rx := (some (xnd X n))) (ry := (some (xnd X 0))) dX7_onward_24 (tgt := 47) rfl rfl rfl (fun q => absurd q (fun q => h0 (hN.d.nd _ _ hn hD.1 (Option.some.inj q)))) (fun _ => ?_)
      refine zp_aload_n dX7_onward_27 rfl (a := (xnd X n)) (List.mem_of_getElem? (i := 0) rfl) ?_
      refine zp_getRv dX7_onward_28 fl_X7_83 hKn.T (b := (xnd X s)) hnx ?_
      refine zp_nullF dX7_onward_31 (tgt := 39) rfl ?_
      refine zp_aload_n dX7_onward_34 rfl (a := (xnd X n)) (List.mem_of_getElem? (i := 0) rfl) ?_
      refine zp_getRv dX7_onward_35 fl_X7_83 hKn.T (b := (xnd X s)) hnx ?_
      refine zp_aret rfl (r := some (xnd X s)) rfl dX7_onward_38 ?_
      rw [up_eq hD h0 hn, e]; exact ⟨rfl, rfl⟩
    | none =>
      have hnx : zR σ 511 (xnd X n) = none := by have := hKn.next; rw [if_neg h0, e] at this; exact this
      show Wp l G 1 0 0 (RX7, cX7_onward, 4, (some (.object "FlowBoxes$Node")), false) 18 [(3, .ref (xnd X n)), (0, .ref z), (1, .ref (xnd X 0)), (2, .int 1)] [] σ _
      refine zp_aload_n dX7_onward_18 rfl (a := (xnd X n)) (List.mem_of_getElem? (i := 0) rfl) ?_
      refine zp_nullF dX7_onward_19 (tgt := 47) rfl ?_
      refine zp_aload_n dX7_onward_22 rfl (a := (xnd X n)) (List.mem_of_getElem? (i := 0) rfl) ?_
      refine zp_aload_n dX7_onward_23 rfl (a := (xnd X 0)) (List.mem_of_getElem? (i := 2) rfl) ?_
      refine zp_acmp_eq (rx := (some (xnd X n))) (ry := (some (xnd X 0))) dX7_onward_24 (tgt := 47) rfl rfl rfl (fun q => absurd q (fun q => h0 (hN.d.nd _ _ hn hD.1 (Option.some.inj q)))) (fun _ => ?_)
      refine zp_aload_n dX7_onward_27 rfl (a := (xnd X n)) (List.mem_of_getElem? (i := 0) rfl) ?_
      refine zp_getRo dX7_onward_28 fl_X7_83 hKn.T (r := none) hnx ?_
      refine zp_nullT dX7_onward_31 (tgt := 39) rfl ?_
      refine zp_aload_n dX7_onward_39 rfl (a := (xnd X n)) (List.mem_of_getElem? (i := 0) rfl) ?_
      refine zp_getRv dX7_onward_40 fl_X7_15 hKn.T (b := (xnd X (dpar D n))) hpar ?_
      refine zp_astore_n dX7_onward_43 rfl (Nat.le_of_ble_eq_true rfl) (lv2 := [(3, .ref (xnd X (dpar D n))), (0, .ref z), (1, .ref (xnd X 0)), (2, .int 1)]) rfl ?_
      refine zp_goto dX7_onward_44 (tgt := 18) rfl ?_
      have e2 := ih (dpar D n) hp (by omega)
      rw [up_eq hD h0 hn, e]
      exact e2
set_option maxHeartbeats 4000000 in
theorem c_X7_onward (l : Launch) (G : Gb) (D : Dt) (X : Cx) (n : Nat) (σ : Sto) (hD : DW D) (hN : NS G D X σ) (hn : n < dn D) : Ct l G 1 0 0 yX7_onward mX7_onward [.ref (xnd X n), .ref (xnd X 0), .int 1] σ (fun v s => v = some (va_rf (lk X (onw D n))) ∧ s = σ) := by
  refine Ct.of (by decide) rfl (Nat.le_of_ble_eq_true rfl) (fun h => absurd h (by decide)) ?_
  have hKn := hN.k n hn
  unfold onw
  cases e : nx D n n with
  | some c =>
    have hfs : zR σ 510 (xnd X n) = some (xnd X c) := by rw [hKn.first, e]; rfl
    show Wp l G 1 0 0 (RX7, cX7_onward, 4, (some (.object "FlowBoxes$Node")), false) 0 [(0, .ref (xnd X n)), (1, .ref (xnd X 0)), (2, .int 1)] [] σ _
    refine zp_iload_n dX7_onward_0 rfl (x := 1) (List.mem_of_getElem? (i := 2) rfl) ?_
    refine zp_if_eq dX7_onward_1 (tgt := 16) rfl (fun q => absurd q (by decide)) (fun _ => ?_)
    refine zp_aload_n dX7_onward_4 rfl (a := (xnd X n)) (List.mem_of_getElem? (i := 0) rfl) ?_
    refine zp_getRv dX7_onward_5 fl_X7_80 hKn.T (b := (xnd X c)) hfs ?_
    refine zp_nullF dX7_onward_8 (tgt := 16) rfl ?_
    refine zp_aload_n dX7_onward_11 rfl (a := (xnd X n)) (List.mem_of_getElem? (i := 0) rfl) ?_
    refine zp_getRv dX7_onward_12 fl_X7_80 hKn.T (b := (xnd X c)) hfs ?_
    refine zp_aret rfl (r := some (xnd X c)) rfl dX7_onward_15 ?_
    exact ⟨rfl, rfl⟩
  | none =>
    have hfs : zR σ 510 (xnd X n) = none := by rw [hKn.first, e]; rfl
    show Wp l G 1 0 0 (RX7, cX7_onward, 4, (some (.object "FlowBoxes$Node")), false) 0 [(0, .ref (xnd X n)), (1, .ref (xnd X 0)), (2, .int 1)] [] σ _
    refine zp_iload_n dX7_onward_0 rfl (x := 1) (List.mem_of_getElem? (i := 2) rfl) ?_
    refine zp_if_eq dX7_onward_1 (tgt := 16) rfl (fun q => absurd q (by decide)) (fun _ => ?_)
    refine zp_aload_n dX7_onward_4 rfl (a := (xnd X n)) (List.mem_of_getElem? (i := 0) rfl) ?_
    refine zp_getRo dX7_onward_5 fl_X7_80 hKn.T (r := none) hfs ?_
    refine zp_nullT dX7_onward_8 (tgt := 16) rfl ?_
    refine zp_aload_n dX7_onward_16 rfl (a := (xnd X n)) (List.mem_of_getElem? (i := 0) rfl) ?_
    refine zp_astore_n dX7_onward_17 rfl (Nat.le_of_ble_eq_true rfl) (lv2 := [(3, .ref (xnd X n)), (0, .ref (xnd X n)), (1, .ref (xnd X 0)), (2, .int 1)]) rfl ?_
    exact l_climb l hD hN n hn
set_option maxRecDepth 100000 in
set_option maxHeartbeats 4000000 in
theorem c_X4_flowOf (l : Launch) (G : Gb) (Ly nL a na fa F : Nat) (σ : Sto) (hL : zT σ Ly = (3, nL)) (hA : zT σ a = (5, na)) (hf : zR σ 302 Ly = some fa) (hfT : zT σ fa = (22, 21)) (hF : zQ σ fa 0 = some F) (hd : zI σ 502 a = 0) : Ct l G 1 0 0 yX4_flowOf mX4_flowOf [.ref Ly, .ref a] σ (fun v s => v = some (.ref F) ∧ s = σ) := by
  refine Ct.of (by decide) rfl (Nat.le_of_ble_eq_true rfl) (fun h => absurd h (by decide)) ?_
  show Wp l G 1 0 0 (RX4, cX4_flowOf, 2, (some (.object "FlowBoxes$Flow")), false) 0 [(0, .ref Ly), (1, .ref a)] [] σ _
  refine zp_aload_n dX4_flowOf_0 rfl (a := Ly) (List.mem_of_getElem? (i := 0) rfl) ?_
  refine zp_getRv dX4_flowOf_1 fl_X4_21 hL (b := fa) hf ?_
  refine zp_iconst dX4_flowOf_4 (v := 0) (by decide) ?_
  refine zp_aload_n dX4_flowOf_5 rfl (a := a) (List.mem_of_getElem? (i := 1) rfl) ?_
  refine zp_getIv dX4_flowOf_6 fl_X4_230 hA (v := 0) hd ?_
  refine zp_bipush dX4_flowOf_9 (v := 20) (by decide) ?_
  refine zp_min dX4_flowOf_11 wd_613 wd_614 wd_14 wd_615 (by decide) (Nat.le_of_ble_eq_true rfl) (v := 0) (by decide) ?_
  refine zp_max dX4_flowOf_14 wd_517 wd_515 wd_14 wd_516 (by decide) (Nat.le_of_ble_eq_true rfl) (v := 0) (by decide) ?_
  refine zp_aaload (j := 1) dX4_flowOf_17 hfT (by decide) rfl (i := 0) (by decide) (zin (by decide)) (v := .ref F) (congrArg va_rf hF) ?_
  refine zp_aret rfl (r := some F) rfl dX4_flowOf_18 ?_
  exact ⟨rfl, rfl⟩
def bgS (F : Nat) (σ : Sto) : Sto := wR (wR (wI (wI (wR (wI (wR (wR (wR (wI (wI (wI σ 200 F 0) 201 F 0) 202 F 0) 203 F none) 204 F none) 205 F none) 206 F (-1000000)) 212 F none) 213 F 0) 214 F 0) 218 F none) 219 F none
theorem bgS_I {F : Nat} {σ : Sto} {g : Nat} (h : g < 200 ∨ 214 < g) : zI (bgS F σ) g = zI σ g := by
  funext a
  unfold bgS
  rw [rIR, rIR, rIn (by omega), rIn (by omega), rIR, rIn (by omega), rIR, rIR, rIR, rIn (by omega), rIn (by omega), rIn (by omega)]
theorem bgS_R {F : Nat} {σ : Sto} {g : Nat} (h : g < 200 ∨ 219 < g) : zR (bgS F σ) g = zR σ g := by
  funext a
  unfold bgS
  rw [rRn (by omega), rRn (by omega), rRI, rRI, rRn (by omega), rRI, rRn (by omega), rRn (by omega), rRn (by omega), rRI, rRI, rRI]
theorem bgS_v {F : Nat} {σ : Sto} : zI (bgS F σ) 200 F = 0 ∧ zI (bgS F σ) 201 F = 0 ∧ zI (bgS F σ) 202 F = 0 ∧ zI (bgS F σ) 213 F = 0 ∧ zR (bgS F σ) 203 F = none ∧ zR (bgS F σ) 204 F = none ∧ zR (bgS F σ) 218 F = none := by
  unfold bgS
  refine ⟨?_, ?_, ?_, ?_, ?_, ?_, ?_⟩
  · rw [rIR, rIR, rIn (by decide), rIn (by decide), rIR, rIn (by decide), rIR, rIR, rIR, rIn (by decide), rIn (by decide), rIe]
  · rw [rIR, rIR, rIn (by decide), rIn (by decide), rIR, rIn (by decide), rIR, rIR, rIR, rIn (by decide), rIe]
  · rw [rIR, rIR, rIn (by decide), rIn (by decide), rIR, rIn (by decide), rIR, rIR, rIR, rIe]
  · rw [rIR, rIR, rIn (by decide), rIe]
  · rw [rRn (by decide), rRn (by decide), rRI, rRI, rRn (by decide), rRI, rRn (by decide), rRn (by decide), rRe]
  · rw [rRn (by decide), rRn (by decide), rRI, rRI, rRn (by decide), rRI, rRn (by decide), rRe]
  · rw [rRn (by decide), rRe]
theorem bgS_Fm {O : Nat → Prop} {F : Nat} {σ : Sto} (hF : O F) : Fm O σ (bgS F σ) :=
  (((((((((((Fm.wI hF (by unfold stf; omega)).trans (Fm.wI hF (by unfold stf; omega))).trans (Fm.wI hF (by unfold stf; omega))).trans (Fm.wR hF (by unfold stf; omega))).trans (Fm.wR hF (by unfold stf; omega))).trans (Fm.wR hF (by unfold stf; omega))).trans (Fm.wI hF (by unfold stf; omega))).trans (Fm.wR hF (by unfold stf; omega))).trans (Fm.wI hF (by unfold stf; omega))).trans (Fm.wI hF (by unfold stf; omega))).trans (Fm.wR hF (by unfold stf; omega))).trans (Fm.wR hF (by unfold stf; omega))
def S0 (W : Int32) (a h : Nat → Int32) : FS := (0, 0, 0, (fun _ => false), setI a 32 W, setI h 0 (-1), [], setB (fun _ => false) 0 true, (fun _ => false), (fun _ => false))
theorem setI_self {f : Nat → Int32} {k : Nat} {x : Int32} : setI f k x k = x := if_pos rfl
theorem setB_self {f : Nat → Bool} {k : Nat} {x : Bool} : setB f k x k = x := if_pos rfl
theorem S0_sa {W : Int32} {a h : Nat → Int32} : sa (S0 W a h) (32 + 0) = W := setI_self (f := a) (k := 32)
theorem S0_sh {W : Int32} {a h : Nat → Int32} : sh (S0 W a h) 0 = -1 := setI_self (f := h) (k := 0)
theorem S0_vi {W : Int32} {a h : Nat → Int32} : svi (S0 W a h) 0 = true := setB_self (f := fun _ => false) (k := 0)
theorem laysP_eq {D : Dt} {W : Int32} {a h : Nat → Int32} : laysP D W a h = endP (flowP D (dn D) 0 0 (begP 0 (S0 W a h))) := rfl
theorem start_rel {G O D X b LL fr σ} {W : Int32} {a h : Nat → Int32} (hD : DW D) (hN : NS G D X σ) (hO : Ow O D X b σ) (hl : Ln O D X b σ LL fr) (h702 : zI σ 702 (xpl X b 0) = W) (h704 : zI σ 704 (xpl X b 0) = -1) :
    RR G O D X b (S0 W a h) [] LL fr (bgS (xF X b) σ) ∧ Fm O σ (bgS (xF X b) σ) := by
  have f : Fm O σ (bgS (xF X b) σ) := bgS_Fm hO.2.1
  obtain ⟨v1, v2, v3, v4, v5, v6, v7⟩ := bgS_v (F := xF X b) (σ := σ)
  have hv : ∀ k, svi (S0 W a h) k = true → k = 0 := fun k q => by
    have q : setB (fun _ => false) 0 true k = true := q
    unfold setB at q
    split at q
    · assumption
    · cases q
  refine ⟨⟨⟨hN.fm f, hO.fm f, v1, v2, v3, v6, v7, v5, List.nodup_nil, fun k => ⟨fun q => absurd q (by show ¬ (false = true); decide), fun q => absurd q List.not_mem_nil⟩, fun k hk => absurd hk List.not_mem_nil, fun k hk ht q => ?_, fun k hk h0 ht q => absurd (hv k q) h0, fun k hk h0 ht q => absurd (hv k q) h0, fun k hk h0 ht q => ?_, fun k hk h0 ht q => absurd (hv k q) h0⟩, hl.to f.2.2.2.1 (bgS_R (by omega)) (bgS_R (by omega)) (bgS_R (by omega)) (bgS_R (by omega)), fun j h1 h2 h3 => ?_, fun j _ => rfl, fun c h1 h2 h3 => ?_, v4⟩, f⟩
  · have hk0 := hv k q
    subst hk0
    rw [bgS_I (by omega), bgS_I (g := 704) (by omega), h702, h704]
    exact ⟨S0_sa.symm, S0_sh.symm⟩
  · exact absurd q (by show ¬ (false = true); decide)
  · exact absurd h3 (by show ¬ (false = true); decide)
  · have := hv c h3
    rw [this, hD.2.2.2.1] at h2
    cases h2
/-- writes that no relation speaks of -/
theorem RR_w {G O D X b S wl LL fr σ} {g a : Nat} {x : Int32} (hD : DW D) (h : RR G O D X b S wl LL fr σ) (ha : O a) (hs : ¬ stf g) (h1 : 300 ≤ g) (h2 : g ≠ 400 ∧ g ≠ 401 ∧ g ≠ 402 ∧ g ≠ 901) (h3 : g ≠ 700 ∧ g ≠ 701 ∧ g ≠ 702 ∧ g ≠ 704 ∧ g ≠ 709) (h4 : g ≠ 703 ∨ a = xpl X b 0) :
    RR G O D X b S wl LL fr (wI σ g a x) ∧ Fm O σ (wI σ g a x) := by
  have f : Fm O σ (wI σ g a x) := Fm.wI ha hs
  have kI : ∀ j, j ≠ g → zI (wI σ g a x) j = zI σ j := fun j hj => by funext c; exact rIn hj
  refine ⟨⟨⟨h.1.ns.fm f, h.1.ow.fm f, by rw [kI _ (by omega)]; exact h.1.y, by rw [kI _ (by omega)]; exact h.1.ab, by rw [kI _ (by omega)]; exact h.1.be, h.1.f0, h.1.l0, h.1.wt.to (fun p hp => ⟨rfl, rfl⟩), h.1.wn, h.1.ww, h.1.wb, fun k hk ht hv => ?_, fun k hk h0 ht hv => ?_, fun k hk h0 ht hv hw => ?_, fun k hk h0 ht hv => ?_, fun k hk h0 ht hv hc => ?_⟩, h.2.keep hD f (fun j hj => kI j (by omega)) (by rw [kI _ (by omega)]) (fun _ _ => rfl) rfl rfl (fun _ _ => rfl) (fun _ _ _ => rfl)⟩, f⟩
  · rw [kI _ (by omega), kI 704 (by omega)]; exact h.1.p2 k hk ht hv
  · rw [kI _ (by omega)]; exact h.1.p0 k hk h0 ht hv
  · rw [kI _ (by omega)]; exact h.1.p1 k hk h0 ht hv hw
  · rcases h4 with q | q
    · rw [kI _ (by omega)]; exact h.1.p3 k hk h0 ht hv
    · rw [q, rIb (fun z => h0 (h.1.ns.d.pl b b k 0 hk hD.1 z).2)]
      exact h.1.p3 k hk h0 ht hv
  · rw [kI _ (by omega)]; exact h.1.p9 k hk h0 ht hv hc
theorem wI_same {σ : Sto} {f a : Nat} {x : Int32} (h : zI σ f a = x) : wI σ f a x = σ := by
  have e : (fun f' a' => if f' = f ∧ a' = a then x else σ.2.1 f' a') = σ.2.1 := by
    funext f' a'
    by_cases q : f' = f ∧ a' = a
    · rw [if_pos q, q.1, q.2]; exact h.symm
    · rw [if_neg q]
  show (σ.1, (fun f' a' => if f' = f ∧ a' = a then x else σ.2.1 f' a'), σ.2.2) = σ
  rw [e]
set_option maxRecDepth 100000 in
set_option maxHeartbeats 4000000 in
theorem c_X4_flowContext (l : Launch) (G : Gb) (O : Nat → Prop) (D : Dt) (X : Cx) (b : Bool) (LL : Nat → List Nat) (fr : List Nat) (σ : Sto) (W : Int32) (a h : Nat → Int32) (hD : DW D) (hN : NS G D X σ) (hO : Ow O D X b σ) (hl : Ln O D X b σ LL fr) (hsw : Sw G σ) (h702 : zI σ 702 (xpl X b 0) = W) (h704 : zI σ 704 (xpl X b 0) = -1) (hW0 : 0 ≤ W.toInt) (hW1 : W.toInt ≤ 300) : Ct l G 33 48 288 yX4_flowContext mX4_flowContext [.ref (xLy X b), .ref (xnd X 0), .int W] σ (fun v s => v = some (.int (mx 0 (sy (laysP D W a h)))) ∧ ∃ LL2 fr2, RR G O D X b (laysP D W a h) [] LL2 fr2 s ∧ Fm O σ s) := by
  refine Ct.of (by decide) rfl (Nat.le_of_ble_eq_true rfl) (fun h => absurd h (by decide)) ?_
  have hn := hD.2.1
  have eW : sa (S0 W a h) (32 + 0) = W := S0_sa
  have e0 : inP D 0 (sa (S0 W a h)) = 0 := if_pos rfl
  show Wp l G 33 48 288 (RX4, cX4_flowContext, 4, (some .int), false) 0 [(0, .ref (xLy X b)), (1, .ref (xnd X 0)), (2, .int W)] [] σ _
  refine zp_aload_n dX4_flowContext_0 rfl (a := (xLy X b)) (List.mem_of_getElem? (i := 0) rfl) ?_
  refine zp_dup dX4_flowContext_1 rfl ?_
  refine zp_getIv dX4_flowContext_2 fl_X4_52 (hN.l b).T (v := (zI σ 305 (xLy X b))) rfl ?_
  refine zp_iconst dX4_flowContext_5 (v := 1) (by decide) ?_
  refine zp_iadd dX4_flowContext_6 ?_
  refine zp_putI dX4_flowContext_7 fl_X4_52 (hN.l b).T ?_
  have f1 : Fm O σ (wI σ 305 (xLy X b) ((zI σ 305 (xLy X b)) + 1)) := Fm.wI hO.1 (by unfold stf; omega)
  have hN1 := hN.fm f1
  refine zp_aload_n dX4_flowContext_10 rfl (a := (xLy X b)) (List.mem_of_getElem? (i := 0) rfl) ?_
  refine zp_aload_n dX4_flowContext_11 rfl (a := (xnd X 0)) (List.mem_of_getElem? (i := 1) rfl) ?_
  refine zp_callV (c0 := 2) (st := []) (mc2 := 48) (ms2 := 288) dX4_flowContext_12 (c_X4_flowOf l G (xLy X b) 0 (xnd X 0) 0 (xfa X b) (xF X b) _ (hN1.l b).T (hN1.k 0 hD.1).T (hN1.l b).fa (hN1.l b).faT (hN1.l b).F hN1.dep) cl_X4_233 im_X4_flowOf se_X4_flowOf rfl rfl (tI (hN.l b).T) rfl rfl (by omega) (by omega) (by omega) (Nat.le_of_ble_eq_true rfl) ?_
  rintro _ s1 ⟨rfl, hs1⟩; obtain rfl := hs1.symm
  refine zp_astore_n dX4_flowContext_15 rfl (Nat.le_of_ble_eq_true rfl) (lv2 := [(3, .ref (xF X b)), (0, .ref (xLy X b)), (1, .ref (xnd X 0)), (2, .int W)]) rfl ?_
  refine zp_aload_n dX4_flowContext_16 rfl (a := (xF X b)) (List.mem_of_getElem? (i := 0) rfl) ?_
  refine zp_callV (c0 := 1) (st := []) (mc2 := 48) (ms2 := 288) dX4_flowContext_17 (c_X2_begin l G (xF X b) 0 _ (hN1.l b).FT) cl_X4_237 im_X2_begin se_X2_begin rfl rfl (tI (hN.l b).FT) rfl rfl (by omega) (by omega) (by omega) (Nat.le_of_ble_eq_true rfl) ?_
  rintro _ s2 ⟨rfl, hs2⟩
  have hs2 : s2 = bgS (xF X b) (wI σ 305 (xLy X b) ((zI σ 305 (xLy X b)) + 1)) := hs2
  obtain ⟨r2, f2⟩ := start_rel (W := W) (a := a) (h := h) hD hN1 (hO.fm f1) (hl.to f1.2.2.2.1 rfl rfl rfl rfl) ((rIn (by decide)).trans h702) ((rIn (by decide)).trans h704)
  rw [← hs2] at r2 f2
  have hct := cfc_all (O := O) (b := b) l hD (dn D) 0 (S0 W a h) [] LL fr s2 (by omega) hD.1 hD.2.2.2.1 r2 ((hsw.fm f1).fm f2) ⟨S0_vi, fun c h1 h2 h3 d h4 h5 => by
    have := Ds.le hD h4 h5
    exact ⟨if_neg (by omega), rfl, rfl⟩⟩ rfl ⟨by rw [eW]; exact hW0, by rw [eW]; omega⟩
  rw [e0, eW] at hct
  have hU : Uf D (S0 W a h) ≤ 4 * dn D := Uw_le hD.2.2.2.2.2.1 _
  refine zp_aload_n dX4_flowContext_20 rfl (a := (xLy X b)) (List.mem_of_getElem? (i := 1) rfl) ?_
  refine zp_aload_n dX4_flowContext_21 rfl (a := (xnd X 0)) (List.mem_of_getElem? (i := 2) rfl) ?_
  refine zp_aload_n dX4_flowContext_22 rfl (a := (xF X b)) (List.mem_of_getElem? (i := 0) rfl) ?_
  refine zp_iconst dX4_flowContext_23 (v := 0) (by decide) ?_
  refine zp_iload_n dX4_flowContext_24 rfl (x := W) (List.mem_of_getElem? (i := 3) rfl) ?_
  refine zp_callV (c0 := 2) (st := []) (mc2 := 0) (ms2 := 0) dX4_flowContext_25 (hct) cl_X4_240 im_X4_flowContainer se_X4_flowContainer rfl rfl (r2.ns.l b).T rfl rfl (by omega) (by omega) (by omega) (Nat.le_of_ble_eq_true rfl) ?_
  rintro _ s3 ⟨rfl, wl3, LL3, fr3, r3, f3, hw3⟩
  have hwl : wl3 = [] := hw3.elim id id
  subst hwl
  refine zp_aload_n dX4_flowContext_28 rfl (a := (xF X b)) (List.mem_of_getElem? (i := 0) rfl) ?_
  refine zp_callV (c0 := 1) (st := []) (mc2 := 0) (ms2 := 0) dX4_flowContext_29 (c_X2_endMargins l G (xF X b) 0 (([] : List Nat).map (xpl X b)) (pendY (flowP D (dn D) 0 0 (begP 0 (S0 W a h)))) _ (r3.ns.l b).FT r3.1.wt (Rc_pend r3.1)) cl_X4_244 im_X2_endMargins se_X2_endMargins rfl rfl (r3.ns.l b).FT rfl rfl (by omega) (by omega) (by omega) (Nat.le_of_ble_eq_true rfl) ?_
  rintro _ s4 ⟨rfl, hs4⟩
  obtain ⟨r4, f4⟩ := RR_em hD r3
  rw [← hs4] at r4 f4
  refine zp_aload_n dX4_flowContext_32 rfl (a := (xF X b)) (List.mem_of_getElem? (i := 0) rfl) ?_
  refine zp_callV (c0 := 1) (st := []) (mc2 := 0) (ms2 := 0) dX4_flowContext_33 (c_X2_contentHeight l G (xF X b) 0 _ (r4.ns.l b).FT r4.1.f0) cl_X4_247 im_X2_contentHeight se_X2_contentHeight rfl rfl (r4.ns.l b).FT rfl rfl (by omega) (by omega) (by omega) (Nat.le_of_ble_eq_true rfl) ?_
  rintro _ s1 ⟨rfl, hs1⟩; obtain rfl := hs1.symm
  refine zp_topr (y := (mx 0 (sy (laysP D W a h)))) (by rw [r4.1.y]; rfl) ?_
  refine zp_iret rfl dX4_flowContext_36 ?_
  exact ⟨rfl, LL3, fr3, r4, ((f1.trans f2).trans f3).trans f4⟩
set_option maxRecDepth 100000 in
set_option maxHeartbeats 4000000 in
theorem c_X4_layOut (l : Launch) (G : Gb) (O : Nat → Prop) (D : Dt) (X : Cx) (b : Bool) (LL : Nat → List Nat) (fr : List Nat) (σ : Sto) (W : Int32) (a h : Nat → Int32) (hD : DW D) (hN : NS G D X σ) (hO : Ow O D X b σ) (hl : Ln O D X b σ LL fr) (hsw : Sw G σ) (hW0 : 0 ≤ W.toInt) (hW1 : W.toInt ≤ 300) (hgo : zI σ 715 (xpl X b 0) < zI σ 513 (xnd X 0) ∨ zI σ 716 (xpl X b 0) ≠ W) : Ct l G 34 48 288 yX4_layOut mX4_layOut [.ref (xLy X b), .ref (xnd X 0), .int W, .int (-1)] σ (fun v s => v = none ∧ ∃ LL2 fr2, RR G O D X b (laysP D W a h) [] LL2 fr2 s ∧ Fm O σ s ∧ zI s 703 (xpl X b 0) = mx 0 (sy (laysP D W a h)) ∧ zI s 715 (xpl X b 0) = zI σ 304 (xLy X b) ∧ zI s 716 (xpl X b 0) = W) := by
  refine Ct.of (by decide) rfl (Nat.le_of_ble_eq_true rfl) (fun h => absurd h (by decide)) ?_
  have hOp0 := hO.2.2.1 0 hD.1
  have rest : ∀ s1, Fm O σ s1 → zR s1 303 = zR σ 303 → zR s1 405 = zR σ 405 → zR s1 711 = zR σ 711 → zR s1 712 = zR σ 712 → zI s1 702 (xpl X b 0) = W → zI s1 704 (xpl X b 0) = -1 → Wp l G 34 48 288 (RX4, cX4_layOut, 6, none, false) 73 [(4, .ref (xpl X b 0)), (0, .ref (xLy X b)), (1, .ref (xnd X 0)), (2, .int W), (3, .int (-1))] [] s1 (fun v s => v = none ∧ ∃ LL2 fr2, RR G O D X b (laysP D W a h) [] LL2 fr2 s ∧ Fm O σ s ∧ zI s 703 (xpl X b 0) = mx 0 (sy (laysP D W a h)) ∧ zI s 715 (xpl X b 0) = zI σ 304 (xLy X b) ∧ zI s 716 (xpl X b 0) = W) := by
    intro s1 f1 k1 k2 k3 k4 h702 h704
    have hN1 := hN.fm f1
    have hO1 := hO.fm f1
    have hl1 := hl.to f1.2.2.2.1 k1 k2 k3 k4
    have hsw1 := hsw.fm f1
    have hK1 := hN1.k 0 hD.1
    show Wp l G 34 48 288 (RX4, cX4_layOut, 6, none, false) 73 [(4, .ref (xpl X b 0)), (0, .ref (xLy X b)), (1, .ref (xnd X 0)), (2, .int W), (3, .int (-1))] [] s1 _
    refine zp_aload_n dX4_layOut_73 rfl (a := (xnd X 0)) (List.mem_of_getElem? (i := 2) rfl) ?_
    refine zp_getIv dX4_layOut_74 fl_X4_215 hK1.T (v := 0) hK1.scr ?_
    refine zp_if_eq dX4_layOut_77 (tgt := 95) rfl (fun _ => ?_) (fun q => absurd rfl q)
    refine zp_aload_n dX4_layOut_95 rfl (a := (xnd X 0)) (List.mem_of_getElem? (i := 2) rfl) ?_
    refine zp_getRv dX4_layOut_96 fl_X4_128 hK1.T (b := (xcn X 0)) hK1.cn ?_
    refine zp_bipush dX4_layOut_99 (v := 17) (by decide) ?_
    refine zp_iald_v dX4_layOut_101 hK1.cnT (Or.inl rfl) (j := 17) (by decide) (zin (by decide)) (v := 1) ((hK1.cnA hD.2.2.2.1 17 (by decide)).trans (hD.2.2.2.2.2.2.2.2.2.2.2 0).2.2.2.2.2.2.2.1) ?_
    refine zp_iconst dX4_layOut_102 (v := 1) (by decide) ?_
    refine zp_icmp_le dX4_layOut_103 (tgt := 121) rfl (fun _ => ?_) (fun q => absurd (Int32.le_refl _) q)
    refine zp_aload_n dX4_layOut_121 rfl (a := (xLy X b)) (List.mem_of_getElem? (i := 1) rfl) ?_
    refine zp_aload_n dX4_layOut_122 rfl (a := (xnd X 0)) (List.mem_of_getElem? (i := 2) rfl) ?_
    refine zp_iload_n dX4_layOut_123 rfl (x := W) (List.mem_of_getElem? (i := 3) rfl) ?_
    refine zp_callV (c0 := 2) (st := []) (mc2 := 0) (ms2 := 0) dX4_layOut_124 (c_X4_flowContext l G O D X b LL fr _ W a h hD hN1 hO1 hl1 hsw1 h702 h704 hW0 hW1) cl_X4_227 im_X4_flowContext se_X4_flowContext rfl rfl (hN1.l b).T rfl rfl (by omega) (by omega) (by omega) (Nat.le_of_ble_eq_true rfl) ?_
    rintro _ s2 ⟨rfl, LL2, fr2, r2, f2⟩
    have e304 : zI s2 304 (xLy X b) = zI σ 304 (xLy X b) := by rw [f2.I (by unfold stf; omega), f1.I (by unfold stf; omega)]
    have hOp := r2.1.ow.2.2.1 0 hD.1
    refine zp_istore dX4_layOut_127 (Nat.le_of_ble_eq_true rfl) (lv2 := [(5, .int (mx 0 (sy (laysP D W a h)))), (4, .ref (xpl X b 0)), (0, .ref (xLy X b)), (1, .ref (xnd X 0)), (2, .int W), (3, .int (-1))]) rfl ?_
    refine zp_aload dX4_layOut_129 (a := (xpl X b 0)) (List.mem_of_getElem? (i := 1) rfl) ?_
    refine zp_iload_n dX4_layOut_131 rfl (x := (-1)) (List.mem_of_getElem? (i := 5) rfl) ?_
    refine zp_if_lt dX4_layOut_132 (tgt := 139) rfl (fun _ => ?_) (fun q => absurd (by decide) q)
    refine zp_iload dX4_layOut_139 (x := (mx 0 (sy (laysP D W a h)))) (List.mem_of_getElem? (i := 0) rfl) ?_
    refine zp_putI dX4_layOut_141 fl_X4_221 ((r2.ns.k 0 hD.1).plT b) ?_
    refine zp_aload dX4_layOut_144 (a := (xpl X b 0)) (List.mem_of_getElem? (i := 1) rfl) ?_
    refine zp_aload_n dX4_layOut_146 rfl (a := (xLy X b)) (List.mem_of_getElem? (i := 2) rfl) ?_
    refine zp_getIv dX4_layOut_147 fl_X4_49 (tI (r2.ns.l b).T) (v := (zI σ 304 (xLy X b))) ((rIn (by decide)).trans e304) ?_
    refine zp_putI dX4_layOut_150 fl_X4_39 (tI ((r2.ns.k 0 hD.1).plT b)) ?_
    refine zp_aload dX4_layOut_153 (a := (xpl X b 0)) (List.mem_of_getElem? (i := 1) rfl) ?_
    refine zp_iload_n dX4_layOut_155 rfl (x := W) (List.mem_of_getElem? (i := 4) rfl) ?_
    refine zp_putI dX4_layOut_156 fl_X4_209 (tI (tI ((r2.ns.k 0 hD.1).plT b))) ?_
    refine zp_aload dX4_layOut_159 (a := (xpl X b 0)) (List.mem_of_getElem? (i := 1) rfl) ?_
    refine zp_iload_n dX4_layOut_161 rfl (x := (-1)) (List.mem_of_getElem? (i := 5) rfl) ?_
    refine zp_putI dX4_layOut_162 fl_X4_212 (tI (tI (tI ((r2.ns.k 0 hD.1).plT b)))) ?_
    refine zp_aload dX4_layOut_165 (a := (xpl X b 0)) (List.mem_of_getElem? (i := 1) rfl) ?_
    refine zp_aload dX4_layOut_167 (a := (xpl X b 0)) (List.mem_of_getElem? (i := 1) rfl) ?_
    refine zp_getIv dX4_layOut_169 fl_X4_221 (tI (tI (tI (tI ((r2.ns.k 0 hD.1).plT b))))) (v := (mx 0 (sy (laysP D W a h)))) ((rIn (by decide)).trans ((rIn (by decide)).trans ((rIn (by decide)).trans rIe))) ?_
    refine zp_putI dX4_layOut_172 fl_X4_203 (tI (tI (tI (tI ((r2.ns.k 0 hD.1).plT b))))) ?_
    refine zp_vret rfl dX4_layOut_175 ?_
    obtain ⟨r3, f3⟩ := RR_w (g := 718) (x := mx 0 (sy (laysP D W a h))) hD r2 hOp (by unfold stf; omega) (by decide) (by decide) (by decide) (Or.inl (by decide))
    obtain ⟨r4, f4⟩ := RR_w (g := 715) (x := zI σ 304 (xLy X b)) hD r3 hOp (by unfold stf; omega) (by decide) (by decide) (by decide) (Or.inl (by decide))
    obtain ⟨r5, f5⟩ := RR_w (g := 716) (x := W) hD r4 hOp (by unfold stf; omega) (by decide) (by decide) (by decide) (Or.inl (by decide))
    obtain ⟨r6, f6⟩ := RR_w (g := 717) (x := -1) hD r5 hOp (by unfold stf; omega) (by decide) (by decide) (by decide) (Or.inl (by decide))
    obtain ⟨r7, f7⟩ := RR_w (g := 703) (x := mx 0 (sy (laysP D W a h))) hD r6 hOp (by unfold stf; omega) (by decide) (by decide) (by decide) (Or.inr rfl)
    exact ⟨rfl, LL2, fr2, r7, ((((((f1.trans f2).trans f3).trans f4).trans f5).trans f6).trans f7), rIe, (rIn (by decide)).trans ((rIn (by decide)).trans ((rIn (by decide)).trans rIe)), (rIn (by decide)).trans ((rIn (by decide)).trans rIe)⟩
  have f1 : Fm O σ (wI (wI σ 702 (xpl X b 0) W) 704 (xpl X b 0) (-1)) := (Fm.wI hOp0 (by unfold stf; omega)).trans (Fm.wI hOp0 (by unfold stf; omega))
  show Wp l G 34 48 288 (RX4, cX4_layOut, 6, none, false) 0 [(0, .ref (xLy X b)), (1, .ref (xnd X 0)), (2, .int W), (3, .int (-1))] [] σ _
  refine zp_aload_n dX4_layOut_0 rfl (a := (xLy X b)) (List.mem_of_getElem? (i := 0) rfl) ?_
  refine zp_aload_n dX4_layOut_1 rfl (a := (xnd X 0)) (List.mem_of_getElem? (i := 1) rfl) ?_
  refine zp_callV (c0 := 2) (st := []) (mc2 := 48) (ms2 := 288) dX4_layOut_2 (c_X4_placeOf l G (xLy X b) 0 (xnd X 0) 0 (xpl X b 0) b _ (hN.l b).T (hN.k 0 hD.1).T (hN.l b).fr ((hN.k 0 hD.1).pl b)) cl_X4_35 im_X4_placeOf se_X4_placeOf rfl rfl (hN.l b).T rfl rfl (by omega) (by omega) (by omega) (Nat.le_of_ble_eq_true rfl) ?_
  rintro _ s1 ⟨rfl, hs1⟩; obtain rfl := hs1.symm
  refine zp_astore dX4_layOut_5 (Nat.le_of_ble_eq_true rfl) (lv2 := [(4, .ref (xpl X b 0)), (0, .ref (xLy X b)), (1, .ref (xnd X 0)), (2, .int W), (3, .int (-1))]) rfl ?_
  refine zp_aload dX4_layOut_7 (a := (xpl X b 0)) (List.mem_of_getElem? (i := 0) rfl) ?_
  refine zp_iload_n dX4_layOut_9 rfl (x := W) (List.mem_of_getElem? (i := 3) rfl) ?_
  refine zp_putI dX4_layOut_10 fl_X4_87 ((hN.k 0 hD.1).plT b) ?_
  refine zp_aload dX4_layOut_13 (a := (xpl X b 0)) (List.mem_of_getElem? (i := 0) rfl) ?_
  refine zp_iload_n dX4_layOut_15 rfl (x := (-1)) (List.mem_of_getElem? (i := 4) rfl) ?_
  refine zp_putI dX4_layOut_16 fl_X4_98 (tI ((hN.k 0 hD.1).plT b)) ?_
  refine zp_aload_n dX4_layOut_19 rfl (a := (xnd X 0)) (List.mem_of_getElem? (i := 2) rfl) ?_
  refine zp_getIv dX4_layOut_20 fl_X4_185 (tI (tI (hN.k 0 hD.1).T)) (v := 0) ((rIn (by decide)).trans ((rIn (by decide)).trans (hN.k 0 hD.1).tab)) ?_
  refine zp_if_eq dX4_layOut_23 (tgt := 43) rfl (fun _ => ?_) (fun q => absurd rfl q)
  refine zp_aload dX4_layOut_43 (a := (xpl X b 0)) (List.mem_of_getElem? (i := 0) rfl) ?_
  refine zp_getIv dX4_layOut_45 fl_X4_39 (tI (tI ((hN.k 0 hD.1).plT b))) (v := (zI σ 715 (xpl X b 0))) ((rIn (by decide)).trans (rIn (by decide))) ?_
  refine zp_aload_n dX4_layOut_48 rfl (a := (xnd X 0)) (List.mem_of_getElem? (i := 2) rfl) ?_
  refine zp_getIv dX4_layOut_49 fl_X4_206 (tI (tI (hN.k 0 hD.1).T)) (v := (zI σ 513 (xnd X 0))) ((rIn (by decide)).trans (rIn (by decide))) ?_
  refine zp_icmp_lt dX4_layOut_52 (tgt := 73) rfl (fun h52 => ?_) (fun h52 => ?_)
  · skip
    exact rest _ f1 rfl rfl rfl rfl ((rIn (by decide)).trans rIe) rIe
  · skip
    refine zp_aload dX4_layOut_55 (a := (xpl X b 0)) (List.mem_of_getElem? (i := 0) rfl) ?_
    refine zp_getIv dX4_layOut_57 fl_X4_209 (tI (tI ((hN.k 0 hD.1).plT b))) (v := (zI σ 716 (xpl X b 0))) ((rIn (by decide)).trans (rIn (by decide))) ?_
    refine zp_iload_n dX4_layOut_60 rfl (x := W) (List.mem_of_getElem? (i := 3) rfl) ?_
    refine zp_icmp_ne dX4_layOut_61 (tgt := 73) rfl (fun h61 => ?_) (fun h61 => ?_)
    · skip
      exact rest _ f1 rfl rfl rfl rfl ((rIn (by decide)).trans rIe) rIe
    · exact (hgo.elim h52 (fun z => z h61)).elim

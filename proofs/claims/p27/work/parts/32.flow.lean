/-! THE FLOW OF A BOX (by wip/p27/gen_flow.py) -/
theorem zp_topr {l G d mc ms M pc lv st σ Q} {x y : Int32} (h : x = y) (kk : Wp l G d mc ms M pc lv (.int y :: st) σ Q) : Wp l G d mc ms M pc lv (.int x :: st) σ Q := by rw [h]; exact kk
theorem RR.ns {G O D X b S wl LL fr σ} (h : RR G O D X b S wl LL fr σ) : NS G D X σ := h.1.1
/-- what a box must be for its children behind at_ to be flown -/
def Vf (D : Dt) (k at_ : Nat) (S : FS) : Prop := svi S k = true ∧ ∀ c, at_ < c → c < dn D → dpar D c = k → ∀ d, d < dn D → Ds D c d → svi S d = false ∧ slv S d = false ∧ scl S d = false
def Wd (D : Dt) (k : Nat) (S : FS) : Prop := 0 ≤ (sa S (32 + k)).toInt ∧ (sa S (32 + k)).toInt ≤ 300 + 30 * (k : Int)
def Pf (G : Gb) (O : Nat → Prop) (D : Dt) (X : Cx) (b : Bool) (S' : FS) (wl : List Nat) (σ : Sto) : Option Value → Sto → Prop := fun v s => v = none ∧ ∃ wl2 LL2 fr2, RR G O D X b S' wl2 LL2 fr2 s ∧ Fm O σ s ∧ (wl2 = wl ∨ wl2 = [])
def PFl (l : Launch) (G : Gb) (O : Nat → Prop) (D : Dt) (X : Cx) (b : Bool) (f : Nat) : Prop := ∀ (k at_ : Nat) (S : FS) (wl : List Nat) (LL : Nat → List Nat) (fr : List Nat) (σ : Sto), dn D ≤ at_ + f → k ≤ at_ → k < dn D → dtx D k = false → RR G O D X b S wl LL fr σ → Sw G σ → Vf D k at_ S → slv S k = true → Wd D k S →
  Wp l G (32 - 2 * k) (Uf D S - Uf D (flowP D f k at_ S)) (6 * (Uf D S - Uf D (flowP D f k at_ S))) (RX4, cX4_flowContainer, 7, none, false) 15 [(5, va_rf (lk X (nx D k at_))), (0, .ref (xLy X b)), (1, .ref (xnd X k)), (2, .ref (xF X b)), (3, .int (inP D k (sa S))), (4, .int (sa S (32 + k)))] [] σ (Pf G O D X b (flowP D f k at_ S) wl σ)
def CFC (l : Launch) (G : Gb) (O : Nat → Prop) (D : Dt) (X : Cx) (b : Bool) (f : Nat) : Prop := ∀ (k : Nat) (S : FS) (wl : List Nat) (LL : Nat → List Nat) (fr : List Nat) (σ : Sto), dn D ≤ k + f → k < dn D → dtx D k = false → RR G O D X b S wl LL fr σ → Sw G σ → Vf D k k S → slv S k = false → Wd D k S →
  Ct l G (32 - 2 * k) (Uf D S - Uf D (flowP D f k k (begP k S))) (6 * (Uf D S - Uf D (flowP D f k k (begP k S)))) yX4_flowContainer mX4_flowContainer [.ref (xLy X b), .ref (xnd X k), .ref (xF X b), .int (inP D k (sa S)), .int (sa S (32 + k))] σ (Pf G O D X b (flowP D f k k (begP k S)) wl σ)
def blkP (D : Dt) (f c : Nat) (S : FS) : FS := leaveP D c (flowP D f c c (begP c (enterP D c S)))
def CPB (l : Launch) (G : Gb) (O : Nat → Prop) (D : Dt) (X : Cx) (b : Bool) (f : Nat) : Prop := ∀ (c : Nat) (S : FS) (wl : List Nat) (LL : Nat → List Nat) (fr : List Nat) (σ : Sto), dn D ≤ c + f → 0 < c → c < dn D → dtx D c = false → RR G O D X b S wl LL fr σ → Sw G σ → svi S (dpar D c) = true → (∀ d, d < dn D → Ds D c d → svi S d = false ∧ slv S d = false ∧ scl S d = false) → Wd D (dpar D c) S → zI σ 207 (xF X b) = inP D (dpar D c) (sa S) → zI σ 208 (xF X b) = sa S (32 + dpar D c) →
  Ct l G (33 - 2 * c) (Uf D S - Uf D (blkP D f c S)) (6 * (Uf D S - Uf D (blkP D f c S))) yX4_flowPlainBlock mX4_flowPlainBlock [.ref (xLy X b), .ref (xnd X c), .ref (xF X b)] σ (Pf G O D X b (blkP D f c S) wl σ)
set_option maxRecDepth 100000 in
set_option maxHeartbeats 4000000 in
theorem cfc_of (l : Launch) (G : Gb) (O : Nat → Prop) (D : Dt) (X : Cx) (b : Bool) (f : Nat) (hD : DW D) (hP : PFl l G O D X b f) (k : Nat) (S : FS) (wl : List Nat) (LL : Nat → List Nat) (fr : List Nat) (σ : Sto) (hf : dn D ≤ k + f) (hk : k < dn D) (ht : dtx D k = false) (h : RR G O D X b S wl LL fr σ) (hsw : Sw G σ) (hv : Vf D k k S) (hlv : slv S k = false) (hw : Wd D k S) : Ct l G (32 - 2 * k) (Uf D S - Uf D (flowP D f k k (begP k S))) (6 * (Uf D S - Uf D (flowP D f k k (begP k S)))) yX4_flowContainer mX4_flowContainer [.ref (xLy X b), .ref (xnd X k), .ref (xF X b), .int (inP D k (sa S)), .int (sa S (32 + k))] σ (Pf G O D X b (flowP D f k k (begP k S)) wl σ) := by
  refine Ct.of (by decide) rfl (Nat.le_of_ble_eq_true rfl) (fun h => absurd h (by decide)) ?_
  have hN := h.ns
  have hn := hD.2.1
  have hK := hN.k k hk
  show Wp l G (32 - 2 * k) (Uf D S - Uf D (flowP D f k k (begP k S))) (6 * (Uf D S - Uf D (flowP D f k k (begP k S)))) (RX4, cX4_flowContainer, 7, none, false) 0 [(0, .ref (xLy X b)), (1, .ref (xnd X k)), (2, .ref (xF X b)), (3, .int (inP D k (sa S))), (4, .int (sa S (32 + k)))] [] σ _
  refine zp_aload_n dX4_flowContainer_0 rfl (a := (xLy X b)) (List.mem_of_getElem? (i := 0) rfl) ?_
  refine zp_aload_n dX4_flowContainer_1 rfl (a := (xLy X b)) (List.mem_of_getElem? (i := 0) rfl) ?_
  refine zp_aload_n dX4_flowContainer_2 rfl (a := (xnd X k)) (List.mem_of_getElem? (i := 1) rfl) ?_
  refine zp_callV (c0 := 2) (st := [.ref (xLy X b)]) (mc2 := (Uf D S - Uf D (flowP D f k k (begP k S)))) (ms2 := (6 * (Uf D S - Uf D (flowP D f k k (begP k S))))) dX4_flowContainer_3 (c_X4_placeOf l G (xLy X b) 0 (xnd X k) 0 (xpl X b k) b _ (hN.l b).T hK.T (hN.l b).fr (hK.pl b)) cl_X4_35 im_X4_placeOf se_X4_placeOf rfl rfl (hN.l b).T rfl rfl (by omega) (by omega) (by omega) (Nat.le_of_ble_eq_true rfl) ?_
  rintro _ s1 ⟨rfl, hs1⟩; obtain rfl := hs1.symm
  refine zp_callV (c0 := 2) (st := []) (mc2 := (Uf D S - Uf D (flowP D f k k (begP k S)))) (ms2 := (6 * (Uf D S - Uf D (flowP D f k k (begP k S))))) dX4_flowContainer_6 (c_X4_freeLines l G (xLy X b) (xpl X b k) 0 0 _ (hN.l b).T (hK.plT b) (fun la hla => h.2.ln.T hk (List.mem_of_getLast? (((h.2.ln.2.1 k hk).2.1).symm.trans hla)))) cl_X4_256 im_X4_freeLines se_X4_freeLines rfl rfl (hN.l b).T rfl rfl (by omega) (by omega) (by omega) (Nat.le_of_ble_eq_true rfl) ?_
  rintro _ s1 ⟨rfl, hs1⟩
  obtain ⟨r1, f1⟩ := RR_beg hD h hk ht hlv
  rw [← hs1] at r1 f1
  have hK1 := r1.ns.k k hk
  refine zp_aload_n dX4_flowContainer_9 rfl (a := (xnd X k)) (List.mem_of_getElem? (i := 1) rfl) ?_
  refine zp_getRo dX4_flowContainer_10 fl_X4_260 (f1.T hK.T) (r := (lk X (nx D k k))) hK1.first ?_
  refine zp_astoreo dX4_flowContainer_13 (Nat.le_of_ble_eq_true rfl) (r := (lk X (nx D k k))) (v := va_rf (lk X (nx D k k))) rfl (lv2 := [(5, va_rf (lk X (nx D k k))), (0, .ref (xLy X b)), (1, .ref (xnd X k)), (2, .ref (xF X b)), (3, .int (inP D k (sa S))), (4, .int (sa S (32 + k)))]) rfl ?_
  refine Wp.mono (hP k k (begP k S) wl _ _ s1 hf (Nat.le_refl _) hk ht r1 (hsw.fm f1) ⟨hv.1, fun c h1 h2 h3 d h4 h5 => ?_⟩ (if_pos rfl) hw) (Nat.le_refl _) (Nat.le_refl _) (Nat.le_refl _) (fun v s q => ?_)
  · obtain ⟨g1, g2, g3⟩ := hv.2 c h1 h2 h3 d h4 h5
    have := Ds.le hD h4 h5
    refine ⟨g1, ?_, g3⟩
    show setB (slv S) k true d = false
    unfold setB
    rw [if_neg (by omega)]
    exact g2
  · obtain ⟨q0, wl2, LL2, fr2, q1, q2, q3⟩ := q
    exact ⟨q0, wl2, LL2, fr2, q1, f1.trans q2, q3⟩
theorem pt_bound {w p : Int32} (h0 : 0 ≤ w.toInt) (h1 : w.toInt ≤ 100000) (g0 : 0 ≤ p.toInt) (g1 : p.toInt ≤ 100) : (pt w p).toInt = w.toInt * p.toInt / 100 := by
  unfold pt
  have e1 : (w.toInt64 * p.toInt64).toInt = w.toInt * p.toInt := by
    rw [Int64.toInt_mul, Int32.toInt_toInt64, Int32.toInt_toInt64]
    apply Int.bmod_eq_of_le
    · have := Int.mul_nonneg h0 g0
      omega
    · have : w.toInt * p.toInt ≤ 100000 * 100 := Int.mul_le_mul h1 g1 g0 (by decide)
      omega
  have q0 := Int.mul_nonneg h0 g0
  have q1 : w.toInt * p.toInt ≤ 100000 * 100 := Int.mul_le_mul h1 g1 g0 (by decide)
  rw [Int64.toInt_toInt32, Int64.toInt_div, e1, show ((100 : Int32).toInt64).toInt = 100 from rfl]
  rw [Int.tdiv_eq_ediv_of_nonneg q0]
  rw [Int.bmod_eq_of_le (m := 2 ^ 64) (by omega) (by omega)]
  exact Int.bmod_eq_of_le (by omega) (by omega)
theorem Wd_enter {D : Dt} {c : Nat} {S : FS} (hD : DW D) (hc0 : 0 < c) (hc : c < dn D) (hw : Wd D (dpar D c) S) : Wd D c (enterP D c S) := by
  have hn := hD.2.1
  obtain ⟨hp, -⟩ := hD.2.2.2.2.1 c hc0 hc
  obtain ⟨w0, w1⟩ := hw
  have e : sa (enterP D c S) (32 + c) = wIn (dst D c 4) (sa S (32 + dpar D c)) (sa S (32 + dpar D c) - rimP D c) := by
    rw [enter_eq (by omega)]
    split
    · show sa (endP (ent0P D c S)) (32 + c) = _
      rw [endP_sa (by omega), ent0_sa]
      exact if_pos rfl
    · rw [ent0_sa]
      exact if_pos rfl
  have hm := hD.2.2.2.2.2.2.2.2.2.1 c
  have hE := hD.2.2.2.2.2.2.2.2.2.2.1 c
  have hr : -30 ≤ (rimP D c).toInt ∧ (rimP D c).toInt ≤ 76 := by
    have a1 := hm 9 (by decide) (by decide)
    have a2 := hE 13 (by decide) (by decide)
    have a3 := hE 11 (by decide) (by decide)
    have a4 := hm 7 (by decide) (by decide)
    unfold rimP
    have b1 : (dst D c 9 + dst D c 13).toInt = (dst D c 9).toInt + (dst D c 13).toInt := Jvm.Kit.i32_add (by omega) (by omega)
    have b2 : ((dst D c 9 + dst D c 13) + dst D c 11).toInt = (dst D c 9).toInt + (dst D c 13).toInt + (dst D c 11).toInt := by rw [Jvm.Kit.i32_add (by omega) (by omega), b1]
    have b3 : (((dst D c 9 + dst D c 13) + dst D c 11) + dst D c 7).toInt = (dst D c 9).toInt + (dst D c 13).toInt + (dst D c 11).toInt + (dst D c 7).toInt := by rw [Jvm.Kit.i32_add (by omega) (by omega), b2]
    omega
  have hs : (sa S (32 + dpar D c) - rimP D c).toInt = (sa S (32 + dpar D c)).toInt - (rimP D c).toInt := Jvm.Kit.i32_sub (by omega) (by omega)
  have h4 := (hD.2.2.2.2.2.2.2.2.1 c).1
  unfold Wd
  rw [e]
  unfold wIn
  split
  · split
    · unfold mx
      split
      · rw [hs]
        rename_i q
        have q := Int32.lt_iff_toInt_lt.mp q
        rw [show (0 : Int32).toInt = 0 from rfl, hs] at q
        omega
      · rw [show (0 : Int32).toInt = 0 from rfl]
        omega
    · rename_i q1 q2
      have q2 := Int32.le_iff_toInt_le.mp (Int32.not_lt.mp q2)
      have q1 := Int32.lt_iff_toInt_lt.mp q1
      rw [show (0 : Int32).toInt = 0 from rfl] at q2
      rw [show (1000 : Int32).toInt = 1000 from rfl] at q1
      omega
  · rename_i q1
    have q1 := Int32.le_iff_toInt_le.mp (Int32.not_lt.mp q1)
    rw [show (1000 : Int32).toInt = 1000 from rfl] at q1
    have e5 : (dst D c 4 - 1000).toInt = (dst D c 4).toInt - 1000 := Jvm.Kit.i32_sub (by rw [show (1000 : Int32).toInt = 1000 from rfl]; omega) (by rw [show (1000 : Int32).toInt = 1000 from rfl]; omega)
    rw [pt_bound w0 (by omega) (by omega) (by omega)]
    have : (sa S (32 + dpar D c)).toInt * (dst D c 4 - 1000).toInt ≤ (sa S (32 + dpar D c)).toInt * 100 := Int.mul_le_mul_of_nonneg_left (by omega) w0
    have := Int.mul_nonneg w0 (show 0 ≤ (dst D c 4 - 1000).toInt by omega)
    omega
set_option maxRecDepth 100000 in
set_option maxHeartbeats 4000000 in
theorem cpb_of (l : Launch) (G : Gb) (O : Nat → Prop) (D : Dt) (X : Cx) (b : Bool) (f : Nat) (hD : DW D) (hF : CFC l G O D X b f) (c : Nat) (S : FS) (wl : List Nat) (LL : Nat → List Nat) (fr : List Nat) (σ : Sto) (hf : dn D ≤ c + f) (hc0 : 0 < c) (hc : c < dn D) (ht : dtx D c = false) (h : RR G O D X b S wl LL fr σ) (hsw : Sw G σ) (hvp : svi S (dpar D c) = true) (hu : ∀ d, d < dn D → Ds D c d → svi S d = false ∧ slv S d = false ∧ scl S d = false) (hw : Wd D (dpar D c) S) (h207 : zI σ 207 (xF X b) = inP D (dpar D c) (sa S)) (h208 : zI σ 208 (xF X b) = sa S (32 + dpar D c)) : Ct l G (33 - 2 * c) (Uf D S - Uf D (blkP D f c S)) (6 * (Uf D S - Uf D (blkP D f c S))) yX4_flowPlainBlock mX4_flowPlainBlock [.ref (xLy X b), .ref (xnd X c), .ref (xF X b)] σ (Pf G O D X b (blkP D f c S) wl σ) := by
  refine Ct.of (by decide) rfl (Nat.le_of_ble_eq_true rfl) (fun h => absurd h (by decide)) ?_
  have hN := h.ns
  have hn := hD.2.1
  have hK := hN.k c hc
  obtain ⟨hpc, hpt⟩ := hD.2.2.2.2.1 c hc0 hc
  have hKp := hN.k (dpar D c) (by omega)
  have hOp := h.1.ow.2.2.1 c hc
  obtain ⟨hv0, hlv0, hcl0⟩ := hu c hc Ds.refl
  have hvE : svi (enterP D c S) c = true := by rw [enter_svi]; exact if_pos rfl
  have hslv : slv (enterP D c S) = slv S := by
    show slv (ent2P D c (ent1P D c S)) = slv S
    unfold ent2P
    split <;> rfl
  have hscl : scl (enterP D c S) = scl S := by
    show scl (ent2P D c (ent1P D c S)) = scl S
    unfold ent2P
    split <;> rfl
  have hlvE : slv (enterP D c S) c = false := by rw [hslv]; exact hlv0
  have hclE : scl (enterP D c S) c = false := by rw [hscl]; exact hcl0
  have hVE : Vf D c c (enterP D c S) := ⟨hvE, fun c' h1 h2 h3 d h4 h5 => by
    have hl := Ds.le hD h4 h5
    obtain ⟨g1, g2, g3⟩ := hu d h4 (h5.up h3)
    refine ⟨?_, by rw [hslv]; exact g2, by rw [hscl]; exact g3⟩
    rw [enter_svi]
    unfold setB
    rw [if_neg (by omega)]
    exact g1⟩
  have hWE : Wd D c (enterP D c S) := Wd_enter hD hc0 hc hw
  have hU1 : Uf D (enterP D c S) = Uf D S := Uf_enter ht
  have hU2 : Uf D (blkP D f c S) = Uf D (flowP D f c c (begP c (enterP D c S))) := Uf_leave
  have hU3 : Uf D (flowP D f c c (begP c (enterP D c S))) ≤ Uf D (begP c (enterP D c S)) := Uf_flow
  have rest : ∀ (s : Sto) (wl2 : List Nat), RR G O D X b (enterP D c S) wl2 LL fr s → Fm O σ s → (wl2 = c :: wl ∨ wl2 = []) →
      Wp l G (33 - 2 * c) (Uf D S - Uf D (blkP D f c S)) (6 * (Uf D S - Uf D (blkP D f c S))) (RX4, cX4_flowPlainBlock, 6, none, false) 122 [(5, .int (sa (enterP D c S) c)), (4, .ref (xcn X c)), (3, .ref (xpl X b c)), (0, .ref (xLy X b)), (1, .ref (xnd X c)), (2, .ref (xF X b))] [] s (Pf G O D X b (blkP D f c S) wl σ) := by
    intro s wl2 r fs hwl
    have hN := r.ns
    have hK := hN.k c hc
    show Wp l G (33 - 2 * c) (Uf D S - Uf D (blkP D f c S)) (6 * (Uf D S - Uf D (blkP D f c S))) (RX4, cX4_flowPlainBlock, 6, none, false) 122 [(5, .int (sa (enterP D c S) c)), (4, .ref (xcn X c)), (3, .ref (xpl X b c)), (0, .ref (xLy X b)), (1, .ref (xnd X c)), (2, .ref (xF X b))] [] s (Pf G O D X b (blkP D f c S) wl σ)
    refine zp_aload_n dX4_flowPlainBlock_122 rfl (a := (xF X b)) (List.mem_of_getElem? (i := 5) rfl) ?_
    refine zp_iload dX4_flowPlainBlock_123 (x := (sa (enterP D c S) c)) (List.mem_of_getElem? (i := 0) rfl) ?_
    refine zp_aload_n dX4_flowPlainBlock_125 rfl (a := (xpl X b c)) (List.mem_of_getElem? (i := 2) rfl) ?_
    refine zp_getIv dX4_flowPlainBlock_126 fl_X4_87 (hK.plT b) (v := (sa (enterP D c S) (32 + c))) (r.1.p2 c hc ht hvE).1 ?_
    refine zp_iadd dX4_flowPlainBlock_129 ?_
    refine zp_aload_n dX4_flowPlainBlock_130 rfl (a := (xnd X c)) (List.mem_of_getElem? (i := 4) rfl) ?_
    refine zp_callV (c0 := 4) (st := [.int ((sa (enterP D c S) c) + (sa (enterP D c S) (32 + c))), .ref (xF X b)]) (mc2 := (Uf D S - Uf D (blkP D f c S))) (ms2 := (6 * (Uf D S - Uf D (blkP D f c S)))) dX4_flowPlainBlock_131 (c_X7_flatEdges l G (xnd X c) 0 (xcn X c) _ hK.T hK.cn hK.cnT) cl_X4_329 im_X7_flatEdges se_X7_flatEdges rfl rfl hK.T rfl rfl (by omega) (by omega) (by omega) (Nat.le_of_ble_eq_true rfl) ?_
    rintro _ s1 ⟨rfl, hs1⟩; obtain rfl := hs1.symm
    refine zp_iadd dX4_flowPlainBlock_134 ?_
    refine zp_topi (fun vv hvv => ?_)
    refine zp_callV (c0 := 1) (st := []) (mc2 := (Uf D S - Uf D (blkP D f c S))) (ms2 := (6 * (Uf D S - Uf D (blkP D f c S)))) dX4_flowPlainBlock_135 (c_X2_reachToE l G (xF X b) 0 _ _ (hN.l b).FT) cl_X4_332 im_X2_reachTo se_X2_reachTo rfl rfl (hN.l b).FT rfl rfl (by omega) (by omega) (by omega) (Nat.le_of_ble_eq_true rfl) ?_
    rintro _ s5 ⟨rfl, rr, hs5⟩
    obtain ⟨r5, f5⟩ := RR_r (x := rr) hD r (Or.inl rfl)
    rw [← hs5] at r5 f5
    refine zp_aload_n dX4_flowPlainBlock_138 rfl (a := (xLy X b)) (List.mem_of_getElem? (i := 3) rfl) ?_
    refine zp_aload_n dX4_flowPlainBlock_139 rfl (a := (xnd X c)) (List.mem_of_getElem? (i := 4) rfl) ?_
    refine zp_aload_n dX4_flowPlainBlock_140 rfl (a := (xF X b)) (List.mem_of_getElem? (i := 5) rfl) ?_
    refine zp_iload dX4_flowPlainBlock_141 (x := (sa (enterP D c S) c)) (List.mem_of_getElem? (i := 0) rfl) ?_
    refine zp_aload dX4_flowPlainBlock_143 (a := (xcn X c)) (List.mem_of_getElem? (i := 1) rfl) ?_
    refine zp_bipush dX4_flowPlainBlock_145 (v := 13) (by decide) ?_
    refine zp_iald_v dX4_flowPlainBlock_147 (r5.ns.k c hc).cnT (Or.inl rfl) (j := 13) (by decide) (zin (by decide)) (v := (dst D c 13)) ((r5.ns.k c hc).cnA ht 13 (by decide)) ?_
    refine zp_iadd dX4_flowPlainBlock_148 ?_
    rw [show (((sa (enterP D c S) c) + (dst D c 13)) : Int32) = (inP D c (sa (enterP D c S))) from (if_neg (by omega)).symm]
    refine zp_aload_n dX4_flowPlainBlock_149 rfl (a := (xpl X b c)) (List.mem_of_getElem? (i := 2) rfl) ?_
    refine zp_getIv dX4_flowPlainBlock_150 fl_X4_87 ((r5.ns.k c hc).plT b) (v := (sa (enterP D c S) (32 + c))) (r5.1.p2 c hc ht hvE).1 ?_
    refine zp_callV (c0 := 2) (st := []) (mc2 := 0) (ms2 := 0) dX4_flowPlainBlock_153 (hF c (enterP D c S) wl2 LL fr s5 hf hc ht r5 ((hsw.fm fs).fm f5) hVE hlvE hWE) cl_X4_240 im_X4_flowContainer se_X4_flowContainer rfl rfl (r5.ns.l b).T rfl rfl (by omega) (by omega) (by omega) (Nat.le_of_ble_eq_true rfl) ?_
    rintro _ s6 ⟨rfl, wl6, LL6, fr6, r6, f6, hw6⟩
    have hm6 := Sm_flow hD hc f c c (begP c (enterP D c S)) hf (fun c' h1 h2 h3 g => by have := Ds.le hD hc g; omega)
    have hv6 : svi (flowP D f c c (begP c (enterP D c S))) c = true := hm6.2.2.2.1.trans hvE
    have hcl6 : scl (flowP D f c c (begP c (enterP D c S))) c = false := hm6.2.2.2.2.2.trans hclE
    refine zp_aload_n dX4_flowPlainBlock_156 rfl (a := (xpl X b c)) (List.mem_of_getElem? (i := 2) rfl) ?_
    refine zp_getIv dX4_flowPlainBlock_157 fl_X4_317 ((r6.ns.k c hc).plT b) (v := zb (sw (flowP D f c c (begP c (enterP D c S))) c = false)) (r6.1.p9 c hc (by omega) ht hv6 hcl6) ?_
    refine zp_ifb_eq dX4_flowPlainBlock_160 (tgt := 173) rfl (fun h160 => ?_) (fun h160 => ?_)
    · have hsw6 : sw (flowP D f c c (begP c (enterP D c S))) c = true := by cases e : sw (flowP D f c c (begP c (enterP D c S))) c; exact absurd e h160; rfl
      have hwc : wl6 = c :: wl := by
        have hm := (r6.1.ww c).mp hsw6
        rcases hw6 with q | q
        · rcases hwl with q2 | q2
          · rw [q, q2]
          · rw [q, q2] at hm; cases hm
        · rw [q] at hm; cases hm
      subst hwc
      refine zp_aload dX4_flowPlainBlock_173 (a := (xcn X c)) (List.mem_of_getElem? (i := 1) rfl) ?_
      refine zp_aload_n dX4_flowPlainBlock_175 rfl (a := (xpl X b c)) (List.mem_of_getElem? (i := 2) rfl) ?_
      refine zp_aload_n dX4_flowPlainBlock_176 rfl (a := (xF X b)) (List.mem_of_getElem? (i := 5) rfl) ?_
      refine zp_callS (st := []) (mc2 := 0) (ms2 := 0) dX4_flowPlainBlock_177 (c_X4_endWaitingBlock l G (xcn X c) (xpl X b c) (xF X b) 0 0 ((c :: wl).map (xpl X b)) _ (r6.ns.k c hc).cnT ((r6.ns.k c hc).plT b) (r6.ns.l b).FT r6.1.wt (Or.inr trivial)) cl_X4_339 st_X4_endWaitingBlock rfl rfl (by omega) (by omega) (by omega) (Nat.le_of_ble_eq_true rfl) ?_
      rintro _ s7 ⟨rfl, hs7⟩
      obtain ⟨wl7, hw7, r7, f7⟩ := RR_leaveW hD r6 (by omega) hc ht hv6 hcl6
      rw [← hs7] at r7 f7
      have eL : leaveP D c (flowP D f c c (begP c (enterP D c S))) = pendP (dst D c 8) (clP c (leaveW D c (flowP D f c c (begP c (enterP D c S))))) := by rw [leaveP_eq, if_pos hsw6]
      refine zp_aload_n dX4_flowPlainBlock_180 rfl (a := (xF X b)) (List.mem_of_getElem? (i := 5) rfl) ?_
      refine zp_aload dX4_flowPlainBlock_181 (a := (xcn X c)) (List.mem_of_getElem? (i := 1) rfl) ?_
      refine zp_bipush dX4_flowPlainBlock_183 (v := 8) (by decide) ?_
      refine zp_iald_v dX4_flowPlainBlock_185 (r7.ns.k c hc).cnT (Or.inl rfl) (j := 8) (by decide) (zin (by decide)) (v := (dst D c 8)) ((r7.ns.k c hc).cnA ht 8 (by decide)) ?_
      refine zp_callV (c0 := 1) (st := []) (mc2 := 0) (ms2 := 0) dX4_flowPlainBlock_186 (c_X2_pend l G (xF X b) 0 (dst D c 8) _ (r7.ns.l b).FT) cl_X4_307 im_X2_pend se_X2_pend rfl rfl (r7.ns.l b).FT rfl rfl (by omega) (by omega) (by omega) (Nat.le_of_ble_eq_true rfl) ?_
      rintro _ s8 ⟨rfl, hs8⟩
      obtain ⟨r8, f8⟩ := RR_pend (m := dst D c 8) hD r7
      rw [← hs8] at r8 f8
      refine zp_vret rfl dX4_flowPlainBlock_189 ?_
      exact ⟨rfl, wl7, LL6, fr6, by show RR G O D X b (leaveP D c _) wl7 LL6 fr6 s8; rw [eL]; exact r8, (((((fs.trans f5).trans f6).trans f7).trans f8)), hw7⟩
    · skip
      refine zp_aload dX4_flowPlainBlock_163 (a := (xcn X c)) (List.mem_of_getElem? (i := 1) rfl) ?_
      refine zp_aload_n dX4_flowPlainBlock_165 rfl (a := (xpl X b c)) (List.mem_of_getElem? (i := 2) rfl) ?_
      refine zp_aload_n dX4_flowPlainBlock_166 rfl (a := (xF X b)) (List.mem_of_getElem? (i := 5) rfl) ?_
      refine zp_callS (st := []) (mc2 := 0) (ms2 := 0) dX4_flowPlainBlock_167 (c_X4_endHeldBlock l G (xcn X c) (xpl X b c) (xF X b) 0 0 (wl6.map (xpl X b)) _ (r6.ns.k c hc).cnT ((r6.ns.k c hc).plT b) (r6.ns.l b).FT r6.1.wt) cl_X4_335 st_X4_endHeldBlock rfl rfl (by omega) (by omega) (by omega) (Nat.le_of_ble_eq_true rfl) ?_
      rintro _ s7 ⟨rfl, hs7⟩
      obtain ⟨wl7, hw7, r7, f7⟩ := RR_leaveH hD r6 (by omega) hc ht hv6 hcl6 h160
      rw [← hs7] at r7 f7
      have eL : leaveP D c (flowP D f c c (begP c (enterP D c S))) = pendP (dst D c 8) (clP c (leaveH D c (flowP D f c c (begP c (enterP D c S))))) := by rw [leaveP_eq, if_neg (by rw [h160]; decide)]
      have hw7 : wl7 = wl ∨ wl7 = [] := by
        have : wl6 = [] := by
          rcases hw6 with q | q
          · rcases hwl with q2 | q2
            · exact absurd ((r6.1.ww c).mpr (by rw [q, q2]; exact List.mem_cons_self)) (by rw [h160]; decide)
            · rw [q, q2]
          · exact q
        rcases hw7 with q | q
        · exact Or.inr (q.trans this)
        · exact Or.inr q
      refine zp_goto dX4_flowPlainBlock_170 (tgt := 180) rfl ?_
      refine zp_aload_n dX4_flowPlainBlock_180 rfl (a := (xF X b)) (List.mem_of_getElem? (i := 5) rfl) ?_
      refine zp_aload dX4_flowPlainBlock_181 (a := (xcn X c)) (List.mem_of_getElem? (i := 1) rfl) ?_
      refine zp_bipush dX4_flowPlainBlock_183 (v := 8) (by decide) ?_
      refine zp_iald_v dX4_flowPlainBlock_185 (r7.ns.k c hc).cnT (Or.inl rfl) (j := 8) (by decide) (zin (by decide)) (v := (dst D c 8)) ((r7.ns.k c hc).cnA ht 8 (by decide)) ?_
      refine zp_callV (c0 := 1) (st := []) (mc2 := 0) (ms2 := 0) dX4_flowPlainBlock_186 (c_X2_pend l G (xF X b) 0 (dst D c 8) _ (r7.ns.l b).FT) cl_X4_307 im_X2_pend se_X2_pend rfl rfl (r7.ns.l b).FT rfl rfl (by omega) (by omega) (by omega) (Nat.le_of_ble_eq_true rfl) ?_
      rintro _ s8 ⟨rfl, hs8⟩
      obtain ⟨r8, f8⟩ := RR_pend (m := dst D c 8) hD r7
      rw [← hs8] at r8 f8
      refine zp_vret rfl dX4_flowPlainBlock_189 ?_
      exact ⟨rfl, wl7, LL6, fr6, by show RR G O D X b (leaveP D c _) wl7 LL6 fr6 s8; rw [eL]; exact r8, (((((fs.trans f5).trans f6).trans f7).trans f8)), hw7⟩
  have h2z : zA σ (xcn X c) 2 = 0 := (hK.cnA ht 2 (by decide)).trans (hD.2.2.2.2.2.2.2.2.2.2.2 c).2.2.1
  have h515 : zI σ 515 (xnd X c) = 0 := hK.tab
  have hkd : zR σ 514 (xnd X c) = some (G.2.2.1 0) := by have := hK.kind; rw [ht] at this; exact this
  have hkdp : zR σ 514 (xnd X (dpar D c)) = some (G.2.2.1 0) := by have := hKp.kind; rw [hpt] at this; exact this
  have hpar : zR σ 501 (xnd X c) = some (xnd X (dpar D c)) := by have := hK.par; rw [if_neg (by omega)] at this; exact this
  have ht4 := (hD.2.2.2.2.2.2.2.2.1 c).1
  have hLF : inP D (dpar D c) (sa S) + dst D c 9 = sa (enterP D c S) c := by
    rw [enter_eq (by omega)]
    split
    · show _ = sa (endP (ent0P D c S)) c
      rw [endP_sa (by omega), ent0_sa]
      unfold setI
      rw [if_neg (by omega), if_pos rfl]
    · rw [ent0_sa]
      unfold setI
      rw [if_neg (by omega), if_pos rfl]
  show Wp l G (33 - 2 * c) (Uf D S - Uf D (blkP D f c S)) (6 * (Uf D S - Uf D (blkP D f c S))) (RX4, cX4_flowPlainBlock, 6, none, false) 0 [(0, .ref (xLy X b)), (1, .ref (xnd X c)), (2, .ref (xF X b))] [] σ _
  refine zp_aload_n dX4_flowPlainBlock_0 rfl (a := (xLy X b)) (List.mem_of_getElem? (i := 0) rfl) ?_
  refine zp_aload_n dX4_flowPlainBlock_1 rfl (a := (xnd X c)) (List.mem_of_getElem? (i := 1) rfl) ?_
  refine zp_callV (c0 := 2) (st := []) (mc2 := (Uf D S - Uf D (blkP D f c S))) (ms2 := (6 * (Uf D S - Uf D (blkP D f c S)))) dX4_flowPlainBlock_2 (c_X4_placeOf l G (xLy X b) 0 (xnd X c) 0 (xpl X b c) b _ (hN.l b).T hK.T (hN.l b).fr (hK.pl b)) cl_X4_35 im_X4_placeOf se_X4_placeOf rfl rfl (hN.l b).T rfl rfl (by omega) (by omega) (by omega) (Nat.le_of_ble_eq_true rfl) ?_
  rintro _ s1 ⟨rfl, hs1⟩; obtain rfl := hs1.symm
  refine zp_astore_n dX4_flowPlainBlock_5 rfl (Nat.le_of_ble_eq_true rfl) (lv2 := [(3, .ref (xpl X b c)), (0, .ref (xLy X b)), (1, .ref (xnd X c)), (2, .ref (xF X b))]) rfl ?_
  refine zp_aload_n dX4_flowPlainBlock_6 rfl (a := (xnd X c)) (List.mem_of_getElem? (i := 2) rfl) ?_
  refine zp_getRv dX4_flowPlainBlock_7 fl_X4_128 hK.T (b := (xcn X c)) hK.cn ?_
  refine zp_astore dX4_flowPlainBlock_10 (Nat.le_of_ble_eq_true rfl) (lv2 := [(4, .ref (xcn X c)), (3, .ref (xpl X b c)), (0, .ref (xLy X b)), (1, .ref (xnd X c)), (2, .ref (xF X b))]) rfl ?_
  refine zp_aload_n dX4_flowPlainBlock_12 rfl (a := (xF X b)) (List.mem_of_getElem? (i := 4) rfl) ?_
  refine zp_aload dX4_flowPlainBlock_13 (a := (xcn X c)) (List.mem_of_getElem? (i := 0) rfl) ?_
  refine zp_bipush dX4_flowPlainBlock_15 (v := 6) (by decide) ?_
  refine zp_iald_v dX4_flowPlainBlock_17 hK.cnT (Or.inl rfl) (j := 6) (by decide) (zin (by decide)) (v := (dst D c 6)) (hK.cnA ht 6 (by decide)) ?_
  refine zp_callV (c0 := 1) (st := []) (mc2 := (Uf D S - Uf D (blkP D f c S))) (ms2 := (6 * (Uf D S - Uf D (blkP D f c S)))) dX4_flowPlainBlock_18 (c_X2_pend l G (xF X b) 0 (dst D c 6) _ (hN.l b).FT) cl_X4_307 im_X2_pend se_X2_pend rfl rfl (hN.l b).FT rfl rfl (by omega) (by omega) (by omega) (Nat.le_of_ble_eq_true rfl) ?_
  rintro _ s1 ⟨rfl, hs1⟩; obtain rfl := hs1.symm
  obtain ⟨r1, f1⟩ := RR_pend (m := dst D c 6) hD h
  have hN1 := r1.ns
  have hK1 := hN1.k c hc
  have hKp1 := hN1.k (dpar D c) (by omega)
  have e704 := (r1.1.p2 (dpar D c) (by omega) hpt hvp).2
  refine zp_aload_n dX4_flowPlainBlock_21 rfl (a := (xF X b)) (List.mem_of_getElem? (i := 4) rfl) ?_
  refine zp_aload dX4_flowPlainBlock_22 (a := (xcn X c)) (List.mem_of_getElem? (i := 0) rfl) ?_
  refine zp_iconst dX4_flowPlainBlock_24 (v := 2) (by decide) ?_
  refine zp_iald_v dX4_flowPlainBlock_25 (tI (tI hK.cnT)) (Or.inl rfl) (j := 2) (by decide) (zin (by decide)) (v := 0) (rAI.trans (rAI.trans h2z)) ?_
  refine zp_callV (c0 := 1) (st := []) (mc2 := (Uf D S - Uf D (blkP D f c S))) (ms2 := (6 * (Uf D S - Uf D (blkP D f c S)))) dX4_flowPlainBlock_26 (c_X2_clearFloats l G (xF X b) _) cl_X4_311 im_X2_clearFloats se_X2_clearFloats rfl rfl (tI (tI (hN.l b).FT)) rfl rfl (by omega) (by omega) (by omega) (Nat.le_of_ble_eq_true rfl) ?_
  rintro _ s1 ⟨rfl, hs1⟩; obtain rfl := hs1.symm
  refine zp_aload_n dX4_flowPlainBlock_29 rfl (a := (xpl X b c)) (List.mem_of_getElem? (i := 1) rfl) ?_
  refine zp_aload_n dX4_flowPlainBlock_30 rfl (a := (xLy X b)) (List.mem_of_getElem? (i := 2) rfl) ?_
  refine zp_aload_n dX4_flowPlainBlock_31 rfl (a := (xnd X c)) (List.mem_of_getElem? (i := 3) rfl) ?_
  refine zp_callV (c0 := 2) (st := [.ref (xpl X b c)]) (mc2 := (Uf D S - Uf D (blkP D f c S))) (ms2 := (6 * (Uf D S - Uf D (blkP D f c S)))) dX4_flowPlainBlock_32 (c_X4_knownHeight l G (xLy X b) 0 (xnd X c) 0 (xcn X c) (xnd X (dpar D c)) 0 (xpl X b (dpar D c)) 0 b _ (hN1.l b).T hK1.T (hN1.l b).fr hK1.cn hK1.cnT (rRI.trans (rRI.trans hpar)) hKp1.T (rRI.trans (rRI.trans hkdp)) (hKp1.pl b) (hKp1.plT b)) cl_X4_314 im_X4_knownHeight se_X4_knownHeight rfl rfl (tI (tI (hN.l b).T)) rfl rfl (by omega) (by omega) (by omega) (Nat.le_of_ble_eq_true rfl) ?_
  rintro _ s1 ⟨rfl, hs1⟩; obtain rfl := hs1.symm
  refine zp_topr (y := (hIn (dst D c 5) (sh S (dpar D c)))) (by rw [hK1.cnA ht 5 (by decide), e704]; rfl) ?_
  refine zp_putI dX4_flowPlainBlock_35 fl_X4_98 (tI (tI (hK.plT b))) ?_
  have f2 := f1.trans (Fm.wI (x := hIn (dst D c 5) (sh S (dpar D c))) (f := 704) hOp (by unfold stf; omega))
  have hK2 := hK.fm f2
  refine zp_aload_n dX4_flowPlainBlock_38 rfl (a := (xpl X b c)) (List.mem_of_getElem? (i := 1) rfl) ?_
  refine zp_aload_n dX4_flowPlainBlock_39 rfl (a := (xnd X c)) (List.mem_of_getElem? (i := 3) rfl) ?_
  refine zp_aload_n dX4_flowPlainBlock_40 rfl (a := (xF X b)) (List.mem_of_getElem? (i := 4) rfl) ?_
  refine zp_getIv dX4_flowPlainBlock_41 fl_X4_265 (tI (tI (tI (hN.l b).FT))) (v := (sa S (32 + dpar D c))) ((rIn (by decide)).trans ((rIn (by decide)).trans ((rIn (by decide)).trans h208))) ?_
  refine zp_aload_n dX4_flowPlainBlock_44 rfl (a := (xF X b)) (List.mem_of_getElem? (i := 4) rfl) ?_
  refine zp_getIv dX4_flowPlainBlock_45 fl_X4_265 (tI (tI (tI (hN.l b).FT))) (v := (sa S (32 + dpar D c))) ((rIn (by decide)).trans ((rIn (by decide)).trans ((rIn (by decide)).trans h208))) ?_
  refine zp_aload_n dX4_flowPlainBlock_48 rfl (a := (xnd X c)) (List.mem_of_getElem? (i := 3) rfl) ?_
  refine zp_callV (c0 := 4) (st := [.int (sa S (32 + dpar D c)), .int (sa S (32 + dpar D c)), .ref (xnd X c), .ref (xpl X b c)]) (mc2 := (Uf D S - Uf D (blkP D f c S))) (ms2 := (6 * (Uf D S - Uf D (blkP D f c S)))) dX4_flowPlainBlock_49 (c_X7_flatRim l G (xnd X c) 0 (xcn X c) _ hK2.T hK2.cn hK2.cnT) cl_X4_90 im_X7_flatRim se_X7_flatRim rfl rfl (tI (tI (tI hK.T))) rfl rfl (by omega) (by omega) (by omega) (Nat.le_of_ble_eq_true rfl) ?_
  rintro _ s1 ⟨rfl, hs1⟩; obtain rfl := hs1.symm
  refine zp_topr (y := (rimP D c)) (by rw [hK2.cnA ht 9 (by decide), hK2.cnA ht 13 (by decide), hK2.cnA ht 11 (by decide), hK2.cnA ht 7 (by decide)]; rfl) ?_
  refine zp_isub dX4_flowPlainBlock_52 ?_
  refine zp_callS (st := [.ref (xpl X b c)]) (mc2 := (Uf D S - Uf D (blkP D f c S))) (ms2 := (6 * (Uf D S - Uf D (blkP D f c S)))) dX4_flowPlainBlock_53 (c_X4_widthIn l G (xnd X c) 0 (xcn X c) _ hK2.T hK2.cn hK2.cnT _ _ (by rw [hK2.cnA ht 4 (by decide)]; exact Int32.le_iff_toInt_le.mpr (by rw [show (-1 : Int32).toInt = -1 from rfl]; omega)) hK2.tab ((rRI.trans (rRI.trans (rRI.trans hkd))))) cl_X4_94 st_X4_widthIn rfl rfl (by omega) (by omega) (by omega) (Nat.le_of_ble_eq_true rfl) ?_
  rintro _ s1 ⟨rfl, hs1⟩; obtain rfl := hs1.symm
  refine zp_topr (y := (wIn (dst D c 4) (sa S (32 + dpar D c)) (sa S (32 + dpar D c) - rimP D c))) (by rw [hK2.cnA ht 4 (by decide)]) ?_
  refine zp_putI dX4_flowPlainBlock_56 fl_X4_87 (tI (tI (tI (hK.plT b)))) ?_
  refine zp_aload_n dX4_flowPlainBlock_59 rfl (a := (xF X b)) (List.mem_of_getElem? (i := 4) rfl) ?_
  refine zp_getIv dX4_flowPlainBlock_60 fl_X4_263 (tI (tI (tI (tI (hN.l b).FT)))) (v := (inP D (dpar D c) (sa S))) ((rIn (by decide)).trans ((rIn (by decide)).trans ((rIn (by decide)).trans ((rIn (by decide)).trans h207)))) ?_
  refine zp_aload dX4_flowPlainBlock_63 (a := (xcn X c)) (List.mem_of_getElem? (i := 0) rfl) ?_
  refine zp_bipush dX4_flowPlainBlock_65 (v := 9) (by decide) ?_
  refine zp_iald_v dX4_flowPlainBlock_67 (tI (tI (tI (tI hK.cnT)))) (Or.inl rfl) (j := 9) (by decide) (zin (by decide)) (v := (dst D c 9)) (rAI.trans (rAI.trans (rAI.trans (rAI.trans (hK.cnA ht 9 (by decide)))))) ?_
  refine zp_iadd dX4_flowPlainBlock_68 ?_
  refine zp_istore dX4_flowPlainBlock_69 (Nat.le_of_ble_eq_true rfl) (lv2 := [(5, .int ((inP D (dpar D c) (sa S)) + (dst D c 9))), (4, .ref (xcn X c)), (3, .ref (xpl X b c)), (0, .ref (xLy X b)), (1, .ref (xnd X c)), (2, .ref (xF X b))]) rfl ?_
  refine zp_aload_n dX4_flowPlainBlock_71 rfl (a := (xpl X b c)) (List.mem_of_getElem? (i := 2) rfl) ?_
  refine zp_iload dX4_flowPlainBlock_72 (x := ((inP D (dpar D c) (sa S)) + (dst D c 9))) (List.mem_of_getElem? (i := 0) rfl) ?_
  refine zp_i2l dX4_flowPlainBlock_74 ?_
  refine zp_putJ dX4_flowPlainBlock_75 fl_X4_143 (tI (tI (tI (tI (hK.plT b))))) (v := ((inP D (dpar D c) (sa S)) + (dst D c 9))) (j_i2l ((inP D (dpar D c) (sa S)) + (dst D c 9))) ?_
  refine zp_aload_n dX4_flowPlainBlock_78 rfl (a := (xpl X b c)) (List.mem_of_getElem? (i := 2) rfl) ?_
  refine zp_iconst dX4_flowPlainBlock_79 (v := 0) (by decide) ?_
  refine zp_putZ dX4_flowPlainBlock_80 fl_X4_317 (tI (tI (tI (tI (tI (hK.plT b)))))) (Or.inl rfl) ?_
  refine zp_aload_n dX4_flowPlainBlock_83 rfl (a := (xpl X b c)) (List.mem_of_getElem? (i := 2) rfl) ?_
  refine zp_aload_n dX4_flowPlainBlock_84 rfl (a := (xF X b)) (List.mem_of_getElem? (i := 5) rfl) ?_
  refine zp_getRo dX4_flowPlainBlock_85 fl_X4_320 (tI (tI (tI (tI (tI (tI (hN.l b).FT)))))) (r := (zR σ 203 (xF X b))) (rRI.trans (rRI.trans (rRI.trans (rRI.trans (rRI.trans rRI))))) ?_
  refine zp_putR dX4_flowPlainBlock_88 fl_X4_323 (tI (tI (tI (tI (tI (tI (hK.plT b))))))) (r := (zR σ 203 (xF X b))) rfl ?_
  refine zp_aload_n dX4_flowPlainBlock_91 rfl (a := (xF X b)) (List.mem_of_getElem? (i := 5) rfl) ?_
  refine zp_aload_n dX4_flowPlainBlock_92 rfl (a := (xpl X b c)) (List.mem_of_getElem? (i := 2) rfl) ?_
  refine zp_putR dX4_flowPlainBlock_93 fl_X4_320 (tR (tI (tI (tI (tI (tI (tI (hN.l b).FT))))))) (r := some (xpl X b c)) rfl ?_
  obtain ⟨r3, f3⟩ := RR_enter hD h hc0 hc ht hv0 hlv0 hcl0 (m := dst D c 6) (kn := hIn (dst D c 5) (sh S (dpar D c))) (wd := wIn (dst D c 4) (sa S (32 + dpar D c)) (sa S (32 + dpar D c) - rimP D c)) (lf := inP D (dpar D c) (sa S) + dst D c 9) rfl rfl rfl rfl
  show Wp l G (33 - 2 * c) (Uf D S - Uf D (blkP D f c S)) (6 * (Uf D S - Uf D (blkP D f c S))) (RX4, cX4_flowPlainBlock, 6, none, false) 96 [(5, .int ((inP D (dpar D c) (sa S)) + (dst D c 9))), (4, .ref (xcn X c)), (3, .ref (xpl X b c)), (0, .ref (xLy X b)), (1, .ref (xnd X c)), (2, .ref (xF X b))] [] (enS (xF X b) (xpl X b c) (dst D c 6) (hIn (dst D c 5) (sh S (dpar D c))) (wIn (dst D c 4) (sa S (32 + dpar D c)) (sa S (32 + dpar D c) - rimP D c)) (inP D (dpar D c) (sa S) + dst D c 9) σ) _
  generalize enS (xF X b) (xpl X b c) (dst D c 6) (hIn (dst D c 5) (sh S (dpar D c))) (wIn (dst D c 4) (sa S (32 + dpar D c)) (sa S (32 + dpar D c) - rimP D c)) (inP D (dpar D c) (sa S) + dst D c 9) σ = s3 at r3 f3 ⊢
  rw [hLF]
  refine zp_aload dX4_flowPlainBlock_96 (a := (xcn X c)) (List.mem_of_getElem? (i := 1) rfl) ?_
  refine zp_bipush dX4_flowPlainBlock_98 (v := 10) (by decide) ?_
  refine zp_iald_v dX4_flowPlainBlock_100 (r3.ns.k c hc).cnT (Or.inl rfl) (j := 10) (by decide) (zin (by decide)) (v := (dst D c 10)) ((r3.ns.k c hc).cnA ht 10 (by decide)) ?_
  refine zp_if_le dX4_flowPlainBlock_101 (tgt := 122) rfl (fun h101 => ?_) (fun h101 => ?_)
  · have eE : enterP D c S = ent0P D c S := (enter_eq (by omega)).trans (if_neg (Int32.not_lt.mpr h101))
    rw [← eE] at r3
    exact rest _ (c :: wl) r3 f3 (Or.inl rfl)
  · have eE : enterP D c S = addY (dst D c 10) (endP (ent0P D c S)) := (enter_eq (by omega)).trans (if_pos (Int32.not_le.mp h101))
    refine zp_aload_n dX4_flowPlainBlock_104 rfl (a := (xF X b)) (List.mem_of_getElem? (i := 5) rfl) ?_
    refine zp_callV (c0 := 1) (st := []) (mc2 := (Uf D S - Uf D (blkP D f c S))) (ms2 := (6 * (Uf D S - Uf D (blkP D f c S)))) dX4_flowPlainBlock_105 (c_X2_endMargins l G (xF X b) 0 ((c :: wl).map (xpl X b)) (pendY (ent0P D c S)) _ (r3.ns.l b).FT r3.1.wt (Rc_pend r3.1)) cl_X4_244 im_X2_endMargins se_X2_endMargins rfl rfl (r3.ns.l b).FT rfl rfl (by omega) (by omega) (by omega) (Nat.le_of_ble_eq_true rfl) ?_
    rintro _ s4 ⟨rfl, hs4⟩
    obtain ⟨r4, f4⟩ := RR_em hD r3
    rw [← hs4] at r4 f4
    refine zp_aload_n dX4_flowPlainBlock_108 rfl (a := (xF X b)) (List.mem_of_getElem? (i := 5) rfl) ?_
    refine zp_dup dX4_flowPlainBlock_109 rfl ?_
    refine zp_getIv dX4_flowPlainBlock_110 fl_X4_326 (r4.ns.l b).FT (v := (sy (endP (ent0P D c S)))) r4.1.y ?_
    refine zp_aload dX4_flowPlainBlock_113 (a := (xcn X c)) (List.mem_of_getElem? (i := 1) rfl) ?_
    refine zp_bipush dX4_flowPlainBlock_115 (v := 10) (by decide) ?_
    refine zp_iald_v dX4_flowPlainBlock_117 (r4.ns.k c hc).cnT (Or.inl rfl) (j := 10) (by decide) (zin (by decide)) (v := (dst D c 10)) ((r4.ns.k c hc).cnA ht 10 (by decide)) ?_
    refine zp_iadd dX4_flowPlainBlock_118 ?_
    refine zp_putI dX4_flowPlainBlock_119 fl_X4_326 (r4.ns.l b).FT ?_
    obtain ⟨r5, f5⟩ := RR_y (S' := addY (dst D c 10) (endP (ent0P D c S))) (x := sy (endP (ent0P D c S)) + dst D c 10) hD r4 rfl rfl rfl rfl
    rw [← eE] at r5
    exact rest _ [] r5 ((f3.trans f4).trans f5) (Or.inr rfl)

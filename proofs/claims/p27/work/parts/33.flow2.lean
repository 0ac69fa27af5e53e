/-! THE LOOP OVER A BOX'S CHILDREN (by wip/p27/gen_flow2.py) -/
theorem runL_le {D : Dt} {k : Nat} : ∀ (m a : Nat), dn D ≤ a + m + 1 → a < dn D → dtx D a = true → dpar D a = k → ∀ x ∈ runL D k m a, x ≤ (runL D k m a).getLastD a := by
  intro m
  induction m with
  | zero =>
    intro a h1 h2 h3 h4 x hx
    rw [List.mem_singleton.mp hx]
    exact Nat.le_refl _
  | succ m ih =>
    intro a h1 h2 h3 h4 x hx
    rcases runL_cases D k h1 with ⟨e, -⟩ | ⟨c, m', e0, e1, e2, e3, e4, e5, e6, e7⟩
    · rw [e] at hx ⊢
      rw [List.mem_singleton.mp hx]
      exact Nat.le_refl _
    · obtain rfl : m = m' := by omega
      rw [runL_last e3]
      rw [e3] at hx
      rcases List.mem_cons.mp hx with q | q
      · rw [q]
        have := (runL_in m c e7 e5 e2 e6 _ (runL_lastmem (D := D) (k := k) (m := m) (a := c))).1
        omega
      · exact ih c e7 e5 e2 e6 x q
set_option maxHeartbeats 4000000 in
theorem pfl_none (l : Launch) {G O D X b S wl LL fr σ} {k : Nat} (h : RR G O D X b S wl LL fr σ) : Wp l G 1 0 0 (RX4, cX4_flowContainer, 7, none, false) 15 [(5, .null), (0, .ref (xLy X b)), (1, .ref (xnd X k)), (2, .ref (xF X b)), (3, .int (inP D k (sa S))), (4, .int (sa S (32 + k)))] [] σ (Pf G O D X b S wl σ) := by
  show Wp l G 1 0 0 (RX4, cX4_flowContainer, 7, none, false) 15 [(5, .null), (0, .ref (xLy X b)), (1, .ref (xnd X k)), (2, .ref (xF X b)), (3, .int (inP D k (sa S))), (4, .int (sa S (32 + k)))] [] σ _
  refine zp_aloado dX4_flowContainer_15 (r := none) (v := .null) rfl (List.mem_of_getElem? (i := 0) rfl) ?_
  refine zp_nullT dX4_flowContainer_17 (tgt := 144) rfl ?_
  refine zp_vret rfl dX4_flowContainer_144 ?_
  exact ⟨rfl, wl, LL, fr, h, Fm.refl, Or.inl rfl⟩
theorem Sm_blk {D : Dt} (hD : DW D) {f c d : Nat} {S : FS} (hf : dn D ≤ c + f) (hc : c < dn D) (hd : d < dn D) (h : ¬ Ds D c d) : Sm S (blkP D f c S) d := by
  have hn := hD.2.1
  have hdc : d ≠ c := fun q => h (q ▸ Ds.refl)
  exact ((Sm_ent hdc (by omega) (by omega)).trans (Sm_begP hdc)).trans ((Sm_flow hD hd f c c _ hf (fun c' h1 h2 h3 g => h (g.up h3))).trans (Sm_leave hdc (by omega) (by omega)))
theorem Uf_blk {D : Dt} {f c : Nat} {S : FS} (ht : dtx D c = false) : Uf D (blkP D f c S) ≤ Uf D S := by
  unfold blkP
  rw [Uf_leave]
  have h1 : Uf D (begP c (enterP D c S)) = Uf D S := Uf_enter ht
  rw [← h1]
  exact Uf_flow
set_option maxHeartbeats 4000000 in
theorem pfl_all (l : Launch) {G : Gb} {O : Nat → Prop} {D : Dt} {X : Cx} {b : Bool} (hD : DW D) : ∀ f, PFl l G O D X b f := by
  have hn := hD.2.1
  intro f
  induction f with
  | zero =>
    intro k at_ S wl LL fr σ hf hka hk ht h hsw hv hlv hw
    have hx : nx D k at_ = none := by
      cases e : nx D k at_ with
      | none => rfl
      | some c => have := nx_up e; omega
    rw [hx]
    exact Wp.mono (pfl_none l h) (by omega) (Nat.zero_le _) (Nat.zero_le _) (fun v s q => q)
  | succ f ih =>
    intro k at_ S wl LL fr σ hf hka hk ht h hsw hv hlv hw
    have hN := h.ns
    cases hx : nx D k at_ with
    | none =>
      rw [flowP_none hx]
      exact Wp.mono (pfl_none l h) (by omega) (Nat.zero_le _) (Nat.zero_le _) (fun v s q => q)
    | some c =>
    obtain ⟨hac, hcn, hcp⟩ := nx_up hx
    have hc0 : 0 < c := by omega
    obtain ⟨hw0, hw1⟩ := hw
    have hw : Wd D k S := ⟨hw0, hw1⟩
    by_cases htx : dtx D c = true
    · rw [flowP_text hx htx]
      have hin := runL_in f c (by omega) hcn htx hcp
      obtain ⟨hl1, hln, hl3, hl4⟩ := hin _ (runL_lastmem (D := D) (k := k) (m := f) (a := c))
      have hle := runL_le f c (by omega) hcn htx hcp
      have hvr : ∀ x, x ∈ runL D k f c → svi S x = false := fun x hx => by
        obtain ⟨g1, g2, g3, g4⟩ := hin x hx
        exact (hv.2 x (by omega) g2 g4 x g2 Ds.refl).1
      have hU1 := Uf_run (S := S) (show dn D ≤ c + f + 1 by omega) hcn htx hcp hvr
      have hU2 : Uf D (flowP D f k ((runL D k f c).getLastD c) (runP D k (runL D k f c) S)) ≤ Uf D (runP D k (runL D k f c) S) := Uf_flow
      have hSm : ∀ d, d < dn D → (∀ x, x ∈ runL D k f c → d ≠ x) → Sm S (runP D k (runL D k f c) S) d := fun d hd hx => Sm_run (by omega) (fun x hx' => ⟨hx x hx', by have := (hin x hx').2.1; omega⟩)
      have hSk : Sm S (runP D k (runL D k f c) S) k := hSm k hk (fun x hx q => by have := (hin x hx).1; omega)
      have ex : inP D k (sa (runP D k (runL D k f c) S)) = inP D k (sa S) := by unfold inP; rw [hSk.1]
      have hunv : ∀ c', (runL D k f c).getLastD c < c' → c' < dn D → dpar D c' = k → ∀ d, d < dn D → Ds D c' d → svi (runP D k (runL D k f c) S) d = false ∧ slv (runP D k (runL D k f c) S) d = false ∧ scl (runP D k (runL D k f c) S) d = false := fun c' h1 h2 h3 d h4 h5 => by
        have hs := hSm d h4 (fun x hx q => by
          obtain ⟨g1, g2, g3, g4⟩ := hin x hx
          have := Ds.apart hD h4 (k := k) (by omega) (by omega) g2 h2 g4 h3 (q ▸ Ds.refl) h5
          have := hle x hx
          omega)
        rw [hs.2.2.2.1, hs.2.2.2.2.1, hs.2.2.2.2.2]
        exact hv.2 c' (by omega) h2 h3 d h4 h5
      have rest : ∀ (s : Sto) (wl2 : List Nat) (LL2 : Nat → List Nat) (fr2 : List Nat), RR G O D X b (runP D k (runL D k f c) S) wl2 LL2 fr2 s → Fm O σ s → (wl2 = wl ∨ wl2 = []) →
          Wp l G (32 - 2 * k) (Uf D (runP D k (runL D k f c) S) - Uf D (flowP D f k ((runL D k f c).getLastD c) (runP D k (runL D k f c) S))) (6 * (Uf D (runP D k (runL D k f c) S) - Uf D (flowP D f k ((runL D k f c).getLastD c) (runP D k (runL D k f c) S)))) (RX4, cX4_flowContainer, 7, none, false) 81 [(6, .ref (xnd X ((runL D k f c).getLastD c))), (5, .ref (xnd X c)), (0, .ref (xLy X b)), (1, .ref (xnd X k)), (2, .ref (xF X b)), (3, .int (inP D k (sa S))), (4, .int (sa S (32 + k)))] [] s (Pf G O D X b (flowP D f k ((runL D k f c).getLastD c) (runP D k (runL D k f c) S)) wl σ) := by
        intro s wl2 LL2 fr2 r fs hwl
        have hN := r.ns
        have hnx : zR s 511 (xnd X ((runL D k f c).getLastD c)) = lk X (nx D k ((runL D k f c).getLastD c)) := by have := (hN.k _ hln).next; rw [if_neg (by omega), hl4] at this; exact this
        show Wp l G (32 - 2 * k) (Uf D (runP D k (runL D k f c) S) - Uf D (flowP D f k ((runL D k f c).getLastD c) (runP D k (runL D k f c) S))) (6 * (Uf D (runP D k (runL D k f c) S) - Uf D (flowP D f k ((runL D k f c).getLastD c) (runP D k (runL D k f c) S)))) (RX4, cX4_flowContainer, 7, none, false) 81 [(6, .ref (xnd X ((runL D k f c).getLastD c))), (5, .ref (xnd X c)), (0, .ref (xLy X b)), (1, .ref (xnd X k)), (2, .ref (xF X b)), (3, .int (inP D k (sa S))), (4, .int (sa S (32 + k)))] [] s _
        refine zp_aload dX4_flowContainer_81 (a := (xnd X ((runL D k f c).getLastD c))) (List.mem_of_getElem? (i := 0) rfl) ?_
        refine zp_astore dX4_flowContainer_83 (Nat.le_of_ble_eq_true rfl) (lv2 := [(5, .ref (xnd X ((runL D k f c).getLastD c))), (6, .ref (xnd X ((runL D k f c).getLastD c))), (0, .ref (xLy X b)), (1, .ref (xnd X k)), (2, .ref (xF X b)), (3, .int (inP D k (sa S))), (4, .int (sa S (32 + k)))]) rfl ?_
        refine zp_goto dX4_flowContainer_85 (tgt := 134) rfl ?_
        refine zp_aload dX4_flowContainer_134 (a := (xnd X ((runL D k f c).getLastD c))) (List.mem_of_getElem? (i := 0) rfl) ?_
        refine zp_getRo dX4_flowContainer_136 fl_X4_294 (hN.k _ hln).T (r := (lk X (nx D k ((runL D k f c).getLastD c)))) hnx ?_
        refine zp_astoreo dX4_flowContainer_139 (Nat.le_of_ble_eq_true rfl) (r := (lk X (nx D k ((runL D k f c).getLastD c)))) (v := va_rf (lk X (nx D k ((runL D k f c).getLastD c)))) rfl (lv2 := [(5, va_rf (lk X (nx D k ((runL D k f c).getLastD c)))), (6, .ref (xnd X ((runL D k f c).getLastD c))), (0, .ref (xLy X b)), (1, .ref (xnd X k)), (2, .ref (xF X b)), (3, .int (inP D k (sa S))), (4, .int (sa S (32 + k)))]) rfl ?_
        refine zp_goto dX4_flowContainer_141 (tgt := 15) rfl ?_
        refine zp_lv [0, 2, 3, 4, 5, 6] rfl ?_
        have ih2 := ih k ((runL D k f c).getLastD c) (runP D k (runL D k f c) S) wl2 LL2 fr2 s (by omega) (by omega) hk ht r (hsw.fm fs) ⟨hSk.2.2.2.1.trans hv.1, hunv⟩ (hSk.2.2.2.2.1.trans hlv) (by unfold Wd; rw [hSk.2.1]; exact hw)
        rw [ex, hSk.2.1] at ih2
        refine Wp.mono ih2 (Nat.le_refl _) (Nat.le_refl _) (Nat.le_refl _) (fun v s q => ?_)
        obtain ⟨q0, wl3, LL3, fr3, q1, q2, q3⟩ := q
        refine ⟨q0, wl3, LL3, fr3, q1, fs.trans q2, ?_⟩
        rcases q3 with z | z
        · rw [z]; exact hwl
        · exact Or.inr z
      show Wp l G (32 - 2 * k) (Uf D S - Uf D (flowP D f k ((runL D k f c).getLastD c) (runP D k (runL D k f c) S))) (6 * (Uf D S - Uf D (flowP D f k ((runL D k f c).getLastD c) (runP D k (runL D k f c) S)))) (RX4, cX4_flowContainer, 7, none, false) 15 [(5, .ref (xnd X c)), (0, .ref (xLy X b)), (1, .ref (xnd X k)), (2, .ref (xF X b)), (3, .int (inP D k (sa S))), (4, .int (sa S (32 + k)))] [] σ _
      refine zp_aload dX4_flowContainer_15 (a := (xnd X c)) (List.mem_of_getElem? (i := 0) rfl) ?_
      refine zp_nullF dX4_flowContainer_17 (tgt := 144) rfl ?_
      refine zp_aload_n dX4_flowContainer_20 rfl (a := (xF X b)) (List.mem_of_getElem? (i := 3) rfl) ?_
      refine zp_iload_n dX4_flowContainer_21 rfl (x := (inP D k (sa S))) (List.mem_of_getElem? (i := 4) rfl) ?_
      refine zp_putI dX4_flowContainer_22 fl_X4_263 (hN.l b).FT ?_
      refine zp_aload_n dX4_flowContainer_25 rfl (a := (xF X b)) (List.mem_of_getElem? (i := 3) rfl) ?_
      refine zp_iload dX4_flowContainer_26 (x := (sa S (32 + k))) (List.mem_of_getElem? (i := 5) rfl) ?_
      refine zp_putI dX4_flowContainer_28 fl_X4_265 (tI (hN.l b).FT) ?_
      obtain ⟨r0, f0⟩ := RR_r (g := 207) (x := inP D k (sa S)) hD h (Or.inr (Or.inl rfl))
      obtain ⟨r1, f1⟩ := RR_r (g := 208) (x := sa S (32 + k)) hD r0 (Or.inr (Or.inr rfl))
      have h207 : zI (wI (wI σ 207 (xF X b) (inP D k (sa S))) 208 (xF X b) (sa S (32 + k))) 207 (xF X b) = inP D k (sa S) := (rIn (by decide)).trans rIe
      have h208 : zI (wI (wI σ 207 (xF X b) (inP D k (sa S))) 208 (xF X b) (sa S (32 + k))) 208 (xF X b) = sa S (32 + k) := rIe
      have fm1 := f0.trans f1
      clear f1
      generalize wI (wI σ 207 (xF X b) (inP D k (sa S))) 208 (xF X b) (sa S (32 + k)) = s1 at r1 fm1 h207 h208 ⊢
      have hN1 := r1.ns
      have hK1 := hN1.k c hcn
      have hkd : zR s1 514 (xnd X c) = some (G.2.2.1 7) := by have := hK1.kind; rw [htx] at this; exact this
      refine zp_kin (fun hkin => ?_)
      refine zp_aload dX4_flowContainer_31 (a := (xnd X c)) (List.mem_of_getElem? (i := 0) rfl) ?_
      refine zp_getRv dX4_flowContainer_33 fl_X4_59 hK1.T (b := (G.2.2.1 7)) hkd ?_
      refine zp_callK (i := 7) (st := []) (mc2 := (Uf D S - Uf D (flowP D f k ((runL D k f c).getLastD c) (runP D k (runL D k f c) S)))) (ms2 := (6 * (Uf D S - Uf D (flowP D f k ((runL D k f c).getLastD c) (runP D k (runL D k f c) S))))) (by decide) rfl dX4_flowContainer_36 (c_X3_isInLines l G 7 (by decide) _) cl_X4_266 im_X3_isInLines se_X3_isInLines rfl rfl (by omega) (by omega) (by omega) (Nat.le_of_ble_eq_true rfl) ?_
      rintro _ s1 ⟨rfl, hs1⟩; obtain rfl := hs1.symm
      refine zp_ifb_eq dX4_flowContainer_39 (tgt := 88) rfl (fun q => absurd (by decide) q) (fun _ => ?_)
      refine zp_aload dX4_flowContainer_42 (a := (xnd X c)) (List.mem_of_getElem? (i := 0) rfl) ?_
      refine zp_callS (st := []) (mc2 := (Uf D S - Uf D (flowP D f k ((runL D k f c).getLastD c) (runP D k (runL D k f c) S)))) (ms2 := (6 * (Uf D S - Uf D (flowP D f k ((runL D k f c).getLastD c) (runP D k (runL D k f c) S))))) dX4_flowContainer_44 (c_X7_endOfRun l G D X k f c _ hD hN1 (by omega) hcn htx hc0 hcp) cl_X4_269 st_X7_endOfRun rfl rfl (by omega) (by omega) (by omega) (Nat.le_of_ble_eq_true rfl) ?_
      rintro _ s1 ⟨rfl, hs1⟩; obtain rfl := hs1.symm
      refine zp_astore dX4_flowContainer_47 (Nat.le_of_ble_eq_true rfl) (lv2 := [(6, .ref (xnd X ((runL D k f c).getLastD c))), (5, .ref (xnd X c)), (0, .ref (xLy X b)), (1, .ref (xnd X k)), (2, .ref (xF X b)), (3, .int (inP D k (sa S))), (4, .int (sa S (32 + k)))]) rfl ?_
      refine zp_aload dX4_flowContainer_49 (a := (xnd X c)) (List.mem_of_getElem? (i := 1) rfl) ?_
      refine zp_aload dX4_flowContainer_51 (a := (xnd X ((runL D k f c).getLastD c))) (List.mem_of_getElem? (i := 0) rfl) ?_
      refine zp_callS (st := []) (mc2 := (Uf D S - Uf D (flowP D f k ((runL D k f c).getLastD c) (runP D k (runL D k f c) S)))) (ms2 := (6 * (Uf D S - Uf D (flowP D f k ((runL D k f c).getLastD c) (runP D k (runL D k f c) S))))) dX4_flowContainer_53 (c_X4_hasThings l G D X k f c _ hD hN1 (by omega) hcn htx hcp) cl_X4_272 st_X4_hasThings rfl rfl (by omega) (by omega) (by omega) (Nat.le_of_ble_eq_true rfl) ?_
      rintro _ s1 ⟨rfl, hs1⟩; obtain rfl := hs1.symm
      refine zp_ifb_eq dX4_flowContainer_56 (tgt := 72) rfl (fun h56 => ?_) (fun h56 => ?_)
      · skip
        refine zp_aload_n dX4_flowContainer_72 rfl (a := (xLy X b)) (List.mem_of_getElem? (i := 2) rfl) ?_
        refine zp_aload_n dX4_flowContainer_73 rfl (a := (xF X b)) (List.mem_of_getElem? (i := 4) rfl) ?_
        refine zp_aload dX4_flowContainer_74 (a := (xnd X c)) (List.mem_of_getElem? (i := 1) rfl) ?_
        refine zp_aload dX4_flowContainer_76 (a := (xnd X ((runL D k f c).getLastD c))) (List.mem_of_getElem? (i := 0) rfl) ?_
        refine zp_callV (c0 := 2) (st := []) (mc2 := (Uf D S - Uf D (flowP D f k ((runL D k f c).getLastD c) (runP D k (runL D k f c) S)))) (ms2 := (6 * (Uf D S - Uf D (flowP D f k ((runL D k f c).getLastD c) (runP D k (runL D k f c) S))))) dX4_flowContainer_78 (c_X4_flowWithoutLines l G D X b k f c (xF X b) _ hD hN1 (by omega) hcn htx hcp) cl_X4_280 im_X4_flowWithoutLines se_X4_flowWithoutLines rfl rfl (hN1.l b).T rfl rfl (by omega) (by omega) (by omega) (Nat.le_of_ble_eq_true rfl) ?_
        rintro _ s1 ⟨rfl, hs1⟩; obtain rfl := hs1.symm
        have h0 : runW D (runL D k f c) = 0 := Decidable.byContradiction h56
        have eS : runP D k (runL D k f c) S = visL (runL D k f c) S := if_pos h0
        have r2 : RR G O D X b (runP D k (runL D k f c) S) wl LL fr s1 := by
          rw [eS]
          exact ⟨Rc_visL _ (fun x hx => (hin x hx).2.2.1) r1.1, Rl_visL _ h0 r1.2⟩
        exact Wp.mono (rest s1 wl LL fr r2 fm1 (Or.inl rfl)) (Nat.le_refl _) (by omega) (by omega) (fun v s q => q)
      · skip
        refine zp_aload_n dX4_flowContainer_59 rfl (a := (xLy X b)) (List.mem_of_getElem? (i := 2) rfl) ?_
        refine zp_aload_n dX4_flowContainer_60 rfl (a := (xnd X k)) (List.mem_of_getElem? (i := 3) rfl) ?_
        refine zp_aload_n dX4_flowContainer_61 rfl (a := (xF X b)) (List.mem_of_getElem? (i := 4) rfl) ?_
        refine zp_aload dX4_flowContainer_62 (a := (xnd X c)) (List.mem_of_getElem? (i := 1) rfl) ?_
        refine zp_aload dX4_flowContainer_64 (a := (xnd X ((runL D k f c).getLastD c))) (List.mem_of_getElem? (i := 0) rfl) ?_
        refine zp_callV (c0 := 2) (st := []) (mc2 := (Uf D (runP D k (runL D k f c) S) - Uf D (flowP D f k ((runL D k f c).getLastD c) (runP D k (runL D k f c) S)))) (ms2 := (6 * (Uf D (runP D k (runL D k f c) S) - Uf D (flowP D f k ((runL D k f c).getLastD c) (runP D k (runL D k f c) S))))) dX4_flowContainer_66 (c_X4_flowLines l G O D X b S wl k f c LL fr _ hD r1.1 r1.2 (hsw.fm fm1) ⟨hk, ht, hlv, hv.1⟩ h207 h208 (by omega) hcn htx hcp hvr (by omega) h56) cl_X4_276 im_X4_flowLines se_X4_flowLines rfl rfl (hN1.l b).T rfl rfl (by omega) (by omega) (by omega) (Nat.le_of_ble_eq_true rfl) ?_
        rintro _ s2 ⟨rfl, LL2, fr2, q1, q2, q3⟩
        refine zp_goto dX4_flowContainer_69 (tgt := 81) rfl ?_
        refine Wp.mono (rest s2 [] LL2 fr2 ⟨q1, q2⟩ (fm1.trans q3) (Or.inr rfl)) (Nat.le_refl _) (Nat.le_refl _) (Nat.le_refl _) (fun v s q => q)
    · have htx : dtx D c = false := by cases e : dtx D c; rfl; exact absurd e htx
      rw [flowP_box hx htx]
      show Wp l G _ (Uf D S - Uf D (flowP D f k c (blkP D f c S))) (6 * (Uf D S - Uf D (flowP D f k c (blkP D f c S)))) _ _ _ _ _ (Pf G O D X b (flowP D f k c (blkP D f c S)) wl σ)
      have hPB : CPB l G O D X b f := fun c S wl LL fr σ h1 h2 h3 h4 h5 h6 h7 h8 h9 h10 h11 => cpb_of l G O D X b f hD (fun k S wl LL fr σ h1 h2 h3 h4 h5 h6 h7 h8 => cfc_of l G O D X b f hD ih k S wl LL fr σ h1 h2 h3 h4 h5 h6 h7 h8) c S wl LL fr σ h1 h2 h3 h4 h5 h6 h7 h8 h9 h10 h11
      have hu := hv.2 c hac hcn hcp
      have hU1 : Uf D (blkP D f c S) ≤ Uf D S := Uf_blk htx
      have hU2 : Uf D (flowP D f k c (blkP D f c S)) ≤ Uf D (blkP D f c S) := Uf_flow
      have hSm : ∀ d, d < dn D → ¬ Ds D c d → Sm S (blkP D f c S) d := fun d hd hx => Sm_blk hD (by omega) hcn hd hx
      have hSk : Sm S (blkP D f c S) k := hSm k hk (fun q => by have := Ds.le hD hk q; omega)
      have ex : inP D k (sa (blkP D f c S)) = inP D k (sa S) := by unfold inP; rw [hSk.1]
      have hunv : ∀ c', c < c' → c' < dn D → dpar D c' = k → ∀ d, d < dn D → Ds D c' d → svi (blkP D f c S) d = false ∧ slv (blkP D f c S) d = false ∧ scl (blkP D f c S) d = false := fun c' h1 h2 h3 d h4 h5 => by
        have hs := hSm d h4 (fun g => by
          have := Ds.apart hD h4 (k := k) (by omega) (by omega) hcn h2 hcp h3 g h5
          omega)
        rw [hs.2.2.2.1, hs.2.2.2.2.1, hs.2.2.2.2.2]
        exact hv.2 c' (by omega) h2 h3 d h4 h5
      show Wp l G (32 - 2 * k) (Uf D S - Uf D (flowP D f k c (blkP D f c S))) (6 * (Uf D S - Uf D (flowP D f k c (blkP D f c S)))) (RX4, cX4_flowContainer, 7, none, false) 15 [(5, .ref (xnd X c)), (0, .ref (xLy X b)), (1, .ref (xnd X k)), (2, .ref (xF X b)), (3, .int (inP D k (sa S))), (4, .int (sa S (32 + k)))] [] σ _
      refine zp_aload dX4_flowContainer_15 (a := (xnd X c)) (List.mem_of_getElem? (i := 0) rfl) ?_
      refine zp_nullF dX4_flowContainer_17 (tgt := 144) rfl ?_
      refine zp_aload_n dX4_flowContainer_20 rfl (a := (xF X b)) (List.mem_of_getElem? (i := 3) rfl) ?_
      refine zp_iload_n dX4_flowContainer_21 rfl (x := (inP D k (sa S))) (List.mem_of_getElem? (i := 4) rfl) ?_
      refine zp_putI dX4_flowContainer_22 fl_X4_263 (hN.l b).FT ?_
      refine zp_aload_n dX4_flowContainer_25 rfl (a := (xF X b)) (List.mem_of_getElem? (i := 3) rfl) ?_
      refine zp_iload dX4_flowContainer_26 (x := (sa S (32 + k))) (List.mem_of_getElem? (i := 5) rfl) ?_
      refine zp_putI dX4_flowContainer_28 fl_X4_265 (tI (hN.l b).FT) ?_
      obtain ⟨r0, f0⟩ := RR_r (g := 207) (x := inP D k (sa S)) hD h (Or.inr (Or.inl rfl))
      obtain ⟨r1, f1⟩ := RR_r (g := 208) (x := sa S (32 + k)) hD r0 (Or.inr (Or.inr rfl))
      have h207 : zI (wI (wI σ 207 (xF X b) (inP D k (sa S))) 208 (xF X b) (sa S (32 + k))) 207 (xF X b) = inP D k (sa S) := (rIn (by decide)).trans rIe
      have h208 : zI (wI (wI σ 207 (xF X b) (inP D k (sa S))) 208 (xF X b) (sa S (32 + k))) 208 (xF X b) = sa S (32 + k) := rIe
      have fm1 := f0.trans f1
      clear f1
      generalize wI (wI σ 207 (xF X b) (inP D k (sa S))) 208 (xF X b) (sa S (32 + k)) = s1 at r1 fm1 h207 h208 ⊢
      have hN1 := r1.ns
      have hK1 := hN1.k c hcn
      have hkd : zR s1 514 (xnd X c) = some (G.2.2.1 0) := by have := hK1.kind; rw [htx] at this; exact this
      refine zp_kin (fun hkin => ?_)
      refine zp_aload dX4_flowContainer_31 (a := (xnd X c)) (List.mem_of_getElem? (i := 0) rfl) ?_
      refine zp_getRv dX4_flowContainer_33 fl_X4_59 hK1.T (b := (G.2.2.1 0)) hkd ?_
      refine zp_callK (i := 0) (st := []) (mc2 := (Uf D S - Uf D (flowP D f k c (blkP D f c S)))) (ms2 := (6 * (Uf D S - Uf D (flowP D f k c (blkP D f c S))))) (by decide) rfl dX4_flowContainer_36 (c_X3_isInLines l G 0 (by decide) _) cl_X4_266 im_X3_isInLines se_X3_isInLines rfl rfl (by omega) (by omega) (by omega) (Nat.le_of_ble_eq_true rfl) ?_
      rintro _ s1 ⟨rfl, hs1⟩; obtain rfl := hs1.symm
      refine zp_ifb_eq dX4_flowContainer_39 (tgt := 88) rfl (fun _ => ?_) (fun q => absurd q (by decide))
      refine zp_aload dX4_flowContainer_88 (a := (xnd X c)) (List.mem_of_getElem? (i := 0) rfl) ?_
      refine zp_getRv dX4_flowContainer_90 fl_X4_59 hK1.T (b := (G.2.2.1 0)) hkd ?_
      refine zp_kind (i := 0) dX4_flowContainer_93 (by decide) rfl wd_783 ?_
      refine zp_acmp_eq (rx := (some (G.2.2.1 0))) (ry := (some (G.2.2.1 0))) dX4_flowContainer_96 (tgt := 109) rfl rfl rfl (fun _ => ?_) (fun q => absurd rfl q)
      refine zp_aload dX4_flowContainer_109 (a := (xnd X c)) (List.mem_of_getElem? (i := 0) rfl) ?_
      refine zp_getIv dX4_flowContainer_111 fl_X4_153 hK1.T (v := zb (c = 0)) hK1.ctx ?_
      refine zp_ifb_eq dX4_flowContainer_114 (tgt := 127) rfl (fun _ => ?_) (fun q => absurd q (by omega))
      refine zp_aload_n dX4_flowContainer_127 rfl (a := (xLy X b)) (List.mem_of_getElem? (i := 1) rfl) ?_
      refine zp_aload dX4_flowContainer_128 (a := (xnd X c)) (List.mem_of_getElem? (i := 0) rfl) ?_
      refine zp_aload_n dX4_flowContainer_130 rfl (a := (xF X b)) (List.mem_of_getElem? (i := 3) rfl) ?_
      refine zp_callV (c0 := 2) (st := []) (mc2 := (Uf D (blkP D f c S) - Uf D (flowP D f k c (blkP D f c S)))) (ms2 := (6 * (Uf D (blkP D f c S) - Uf D (flowP D f k c (blkP D f c S))))) dX4_flowContainer_131 (hPB c S wl LL fr s1 (by omega) hc0 hcn htx r1 (hsw.fm fm1) (by rw [hcp]; exact hv.1) hu (by rw [hcp]; exact hw) (by rw [hcp]; exact h207) (by rw [hcp]; exact h208)) cl_X4_291 im_X4_flowPlainBlock se_X4_flowPlainBlock rfl rfl (hN1.l b).T rfl rfl (by omega) (by omega) (by omega) (Nat.le_of_ble_eq_true rfl) ?_
      rintro _ s2 ⟨rfl, wl2, LL2, fr2, r2, f2, hw2⟩
      have hnx2 : zR s2 511 (xnd X c) = lk X (nx D k c) := by have := (r2.ns.k c hcn).next; rw [if_neg (by omega), hcp] at this; exact this
      refine zp_aload dX4_flowContainer_134 (a := (xnd X c)) (List.mem_of_getElem? (i := 0) rfl) ?_
      refine zp_getRo dX4_flowContainer_136 fl_X4_294 (r2.ns.k c hcn).T (r := (lk X (nx D k c))) hnx2 ?_
      refine zp_astoreo dX4_flowContainer_139 (Nat.le_of_ble_eq_true rfl) (r := (lk X (nx D k c))) (v := va_rf (lk X (nx D k c))) rfl (lv2 := [(5, va_rf (lk X (nx D k c))), (0, .ref (xLy X b)), (1, .ref (xnd X k)), (2, .ref (xF X b)), (3, .int (inP D k (sa S))), (4, .int (sa S (32 + k)))]) rfl ?_
      refine zp_goto dX4_flowContainer_141 (tgt := 15) rfl ?_
      have ih2 := ih k c (blkP D f c S) wl2 LL2 fr2 s2 (by omega) (by omega) hk ht r2 ((hsw.fm fm1).fm f2) ⟨hSk.2.2.2.1.trans hv.1, hunv⟩ (hSk.2.2.2.2.1.trans hlv) (by unfold Wd; rw [hSk.2.1]; exact hw)
      rw [ex, hSk.2.1] at ih2
      refine Wp.mono ih2 (Nat.le_refl _) (Nat.le_refl _) (Nat.le_refl _) (fun v s q => ?_)
      obtain ⟨q0, wl3, LL3, fr3, q1, q2, q3⟩ := q
      refine ⟨q0, wl3, LL3, fr3, q1, (fm1.trans f2).trans q2, ?_⟩
      rcases q3 with z | z
      · rw [z]; exact hw2
      · exact Or.inr z
theorem cfc_all (l : Launch) {G : Gb} {O : Nat → Prop} {D : Dt} {X : Cx} {b : Bool} (hD : DW D) (f : Nat) : CFC l G O D X b f := fun k S wl LL fr σ h1 h2 h3 h4 h5 h6 h7 h8 => cfc_of l G O D X b f hD (pfl_all l hD f) k S wl LL fr σ h1 h2 h3 h4 h5 h6 h7 h8

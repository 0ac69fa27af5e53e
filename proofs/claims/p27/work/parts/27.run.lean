/-! A RUN OF TEXTS (by wip/p27/gen_run.py) -/
/-- the switch over Kind, as it lies there -/
def Sw (G : Gb) (σ : Sto) : Prop := zT σ G.2.2.2.1 = (25, 9) ∧ zA σ G.2.2.2.1 7 = 4 ∧ zA σ G.2.2.2.1 0 = 0
theorem Sw.fm {G : Gb} {O : Nat → Prop} {σ σ' : Sto} (h : Sw G σ) (f : Fm O σ σ') : Sw G σ' := ⟨f.T h.1, by rw [f.A]; exact h.2.1, by rw [f.A]; exact h.2.2⟩
theorem nx_up {D : Dt} {k a c : Nat} (h : nx D k a = some c) : a < c ∧ c < dn D ∧ dpar D c = k := ⟨(nx_some.mp h).2.1, (nx_some.mp h).1, (nx_some.mp h).2.2.1⟩
theorem runL_cases (D : Dt) (k : Nat) {m a : Nat} (hm : dn D ≤ a + m + 1) : (runL D k m a = [a] ∧ (∀ c, nx D k a = some c → dtx D c = false)) ∨ (∃ c m', m = m' + 1 ∧ nx D k a = some c ∧ dtx D c = true ∧ runL D k m a = a :: runL D k m' c ∧ a < c ∧ c < dn D ∧ dpar D c = k ∧ dn D ≤ c + m' + 1) := by
  cases m with
  | zero =>
    refine Or.inl ⟨rfl, fun c hc => ?_⟩
    obtain ⟨h1, h2, -⟩ := nx_up hc
    omega
  | succ m =>
    cases hx : nx D k a with
    | none =>
      refine Or.inl ⟨?_, fun c hc => by cases hc⟩
      show a :: (match nx D k a with | some k' => _ | none => []) = _
      rw [hx]
    | some c =>
      obtain ⟨h1, h2, h3⟩ := nx_up hx
      by_cases ht : dtx D c = true
      · refine Or.inr ⟨c, m, rfl, rfl, ht, ?_, h1, h2, h3, by omega⟩
        show a :: (match nx D k a with | some k' => if dtx D k' = true then runL D k m k' else [] | none => []) = _
        rw [hx]
        show a :: (if dtx D c = true then _ else _) = _
        rw [if_pos ht]
      · refine Or.inl ⟨?_, fun c' hc => ?_⟩
        · show a :: (match nx D k a with | some k' => if dtx D k' = true then runL D k m k' else [] | none => []) = _
          rw [hx]
          show a :: (if dtx D c = true then _ else _) = _
          rw [if_neg ht]
        · cases hc; exact Bool.not_eq_true _ ▸ ht
theorem runL_hd {D : Dt} {k m a : Nat} : ∃ xs, runL D k m a = a :: xs := by cases m <;> exact ⟨_, rfl⟩
theorem runL_last {D : Dt} {k m m' a c : Nat} (h : runL D k m a = a :: runL D k m' c) : (runL D k m a).getLastD a = (runL D k m' c).getLastD c := by
  obtain ⟨xs, e⟩ := runL_hd (D := D) (k := k) (m := m') (a := c)
  rw [h, e, List.getLastD_cons, List.getLastD_cons, List.getLastD_cons]
theorem runL_in {D : Dt} {k : Nat} : ∀ (m a : Nat), dn D ≤ a + m + 1 → a < dn D → dtx D a = true → dpar D a = k → ∀ x ∈ runL D k m a, a ≤ x ∧ x < dn D ∧ dtx D x = true ∧ dpar D x = k := by
  intro m
  induction m with
  | zero =>
    intro a h1 h2 h3 h4 x hx
    rw [List.mem_singleton.mp hx]
    exact ⟨Nat.le_refl _, h2, h3, h4⟩
  | succ m ih =>
    intro a h1 h2 h3 h4 x hx
    rcases runL_cases D k h1 with ⟨e, -⟩ | ⟨c, m', e0, e1, e2, e3, e4, e5, e6, e7⟩
    · rw [e] at hx
      rw [List.mem_singleton.mp hx]
      exact ⟨Nat.le_refl _, h2, h3, h4⟩
    · obtain rfl : m = m' := by omega
      rw [e3] at hx
      rcases List.mem_cons.mp hx with q | q
      · rw [q]; exact ⟨Nat.le_refl _, h2, h3, h4⟩
      · obtain ⟨g1, g2⟩ := ih c e7 e5 e2 e6 x q
        exact ⟨by omega, g2⟩
theorem lastD_mem : ∀ (ys : List Nat) (y : Nat), ys.getLastD y ∈ y :: ys
  | [], _ => List.mem_cons_self
  | z :: zs, y => by rw [List.getLastD_cons]; exact List.mem_cons_of_mem _ (lastD_mem zs z)
theorem nodup_one {y : Nat} : [y].Nodup := List.nodup_cons.mpr ⟨List.not_mem_nil, List.nodup_nil⟩
theorem runL_lastmem {D : Dt} {k m a : Nat} : (runL D k m a).getLastD a ∈ runL D k m a := by
  obtain ⟨xs, e⟩ := runL_hd (D := D) (k := k) (m := m) (a := a)
  rw [e, List.getLastD_cons]
  exact lastD_mem xs a
theorem runL_nodup {D : Dt} {k : Nat} : ∀ (m a : Nat), dn D ≤ a + m + 1 → a < dn D → dtx D a = true → dpar D a = k → (runL D k m a).Nodup := by
  intro m
  induction m with
  | zero => intro a h1 h2 h3 h4; exact nodup_one
  | succ m ih =>
    intro a h1 h2 h3 h4
    rcases runL_cases D k h1 with ⟨e, -⟩ | ⟨c, m', e0, e1, e2, e3, e4, e5, e6, e7⟩
    · rw [e]; exact nodup_one
    · obtain rfl : m = m' := by omega
      rw [e3]
      exact List.nodup_cons.mpr ⟨fun q => by have := (runL_in m c e7 e5 e2 e6 a q).1; omega, ih c e7 e5 e2 e6⟩
theorem runL_fuel {D : Dt} {k : Nat} : ∀ (m m2 a : Nat), dn D ≤ a + m + 1 → dn D ≤ a + m2 + 1 → runL D k m a = runL D k m2 a := by
  intro m
  induction m with
  | zero =>
    intro m2 a h1 h2
    rcases runL_cases D k h2 with ⟨e, -⟩ | ⟨c, m', e0, e1, e2, e3, e4, e5, e6, e7⟩
    · rw [e]; rfl
    · omega
  | succ m ih =>
    intro m2 a h1 h2
    rcases runL_cases D k h1 with ⟨e, e'⟩ | ⟨c, m', e0, e1, e2, e3, e4, e5, e6, e7⟩
    · rcases runL_cases D k h2 with ⟨e9, -⟩ | ⟨c, m', f0, f1, f2, f3, f4, f5, f6, f7⟩
      · rw [e, e9]
      · rw [e' c f1] at f2; cases f2
    · rcases runL_cases D k h2 with ⟨e9, e8⟩ | ⟨c', m3, f0, f1, f2, f3, f4, f5, f6, f7⟩
      · rw [e8 c e1] at e2; cases e2
      · obtain rfl : m = m' := by omega
        rw [e1] at f1
        cases f1
        rw [e3, f3, ih m3 c e7 f7]
set_option maxRecDepth 100000 in
set_option maxHeartbeats 4000000 in
theorem c_X7_onwardA (l : Launch) (G : Gb) (a z n na : Nat) (σ : Sto) (hA : zT σ a = (5, na)) (hk : zR σ 514 a = some (G.2.2.1 7)) (hn : zR σ 511 a = some n) (hne : a ≠ z) : Ct l G 1 0 0 yX7_onwardInRun mX7_onwardInRun [.ref a, .ref z] σ (fun v s => v = some (.ref n) ∧ s = σ) := by
  refine Ct.of (by decide) rfl (Nat.le_of_ble_eq_true rfl) (fun h => absurd h (by decide)) ?_
  show Wp l G 1 0 0 (RX7, cX7_onwardInRun, 3, (some (.object "FlowBoxes$Node")), false) 0 [(0, .ref a), (1, .ref z)] [] σ _
  refine zp_kin (fun hkin => ?_)
  refine zp_aload_n dX7_onwardInRun_0 rfl (a := a) (List.mem_of_getElem? (i := 0) rfl) ?_
  refine zp_getRv dX7_onwardInRun_1 fl_X7_63 hA (b := (G.2.2.1 7)) hk ?_
  refine zp_kind (i := 1) dX7_onwardInRun_4 (by decide) rfl wd_345 ?_
  refine zp_acmp_ne (rx := (some (G.2.2.1 7))) (ry := (some (G.2.2.1 1))) dX7_onwardInRun_7 (tgt := 22) rfl rfl rfl (fun _ => ?_) (fun q => absurd q (fun q => absurd (hkin 7 1 (by decide) (by decide) (Option.some.inj q)) (by decide)))
  refine zp_aload_n dX7_onwardInRun_22 rfl (a := a) (List.mem_of_getElem? (i := 0) rfl) ?_
  refine zp_astore_n dX7_onwardInRun_23 rfl (Nat.le_of_ble_eq_true rfl) (lv2 := [(2, .ref a), (0, .ref a), (1, .ref z)]) rfl ?_
  refine zp_aload_n dX7_onwardInRun_24 rfl (a := a) (List.mem_of_getElem? (i := 0) rfl) ?_
  refine zp_nullF dX7_onwardInRun_25 (tgt := 53) rfl ?_
  refine zp_aload_n dX7_onwardInRun_28 rfl (a := a) (List.mem_of_getElem? (i := 0) rfl) ?_
  refine zp_aload_n dX7_onwardInRun_29 rfl (a := z) (List.mem_of_getElem? (i := 2) rfl) ?_
  refine zp_acmp_eq (rx := (some a)) (ry := (some z)) dX7_onwardInRun_30 (tgt := 53) rfl rfl rfl (fun q => absurd q (fun q => hne (Option.some.inj q))) (fun _ => ?_)
  refine zp_aload_n dX7_onwardInRun_33 rfl (a := a) (List.mem_of_getElem? (i := 0) rfl) ?_
  refine zp_getRv dX7_onwardInRun_34 fl_X7_83 hA (b := n) hn ?_
  refine zp_nullF dX7_onwardInRun_37 (tgt := 45) rfl ?_
  refine zp_aload_n dX7_onwardInRun_40 rfl (a := a) (List.mem_of_getElem? (i := 0) rfl) ?_
  refine zp_getRv dX7_onwardInRun_41 fl_X7_83 hA (b := n) hn ?_
  refine zp_aret rfl (r := some n) rfl dX7_onwardInRun_44 ?_
  exact ⟨rfl, rfl⟩
set_option maxRecDepth 100000 in
set_option maxHeartbeats 4000000 in
theorem c_X7_onwardB (l : Launch) (G : Gb) (a na : Nat) (σ : Sto) (hA : zT σ a = (5, na)) (hk : zR σ 514 a = some (G.2.2.1 7)) : Ct l G 1 0 0 yX7_onwardInRun mX7_onwardInRun [.ref a, .ref a] σ (fun v s => v = some .null ∧ s = σ) := by
  refine Ct.of (by decide) rfl (Nat.le_of_ble_eq_true rfl) (fun h => absurd h (by decide)) ?_
  show Wp l G 1 0 0 (RX7, cX7_onwardInRun, 3, (some (.object "FlowBoxes$Node")), false) 0 [(0, .ref a), (1, .ref a)] [] σ _
  refine zp_kin (fun hkin => ?_)
  refine zp_aload_n dX7_onwardInRun_0 rfl (a := a) (List.mem_of_getElem? (i := 0) rfl) ?_
  refine zp_getRv dX7_onwardInRun_1 fl_X7_63 hA (b := (G.2.2.1 7)) hk ?_
  refine zp_kind (i := 1) dX7_onwardInRun_4 (by decide) rfl wd_345 ?_
  refine zp_acmp_ne (rx := (some (G.2.2.1 7))) (ry := (some (G.2.2.1 1))) dX7_onwardInRun_7 (tgt := 22) rfl rfl rfl (fun _ => ?_) (fun q => absurd q (fun q => absurd (hkin 7 1 (by decide) (by decide) (Option.some.inj q)) (by decide)))
  refine zp_aload_n dX7_onwardInRun_22 rfl (a := a) (List.mem_of_getElem? (i := 0) rfl) ?_
  refine zp_astore_n dX7_onwardInRun_23 rfl (Nat.le_of_ble_eq_true rfl) (lv2 := [(2, .ref a), (0, .ref a), (1, .ref a)]) rfl ?_
  refine zp_aload_n dX7_onwardInRun_24 rfl (a := a) (List.mem_of_getElem? (i := 0) rfl) ?_
  refine zp_nullF dX7_onwardInRun_25 (tgt := 53) rfl ?_
  refine zp_aload_n dX7_onwardInRun_28 rfl (a := a) (List.mem_of_getElem? (i := 0) rfl) ?_
  refine zp_aload_n dX7_onwardInRun_29 rfl (a := a) (List.mem_of_getElem? (i := 2) rfl) ?_
  refine zp_acmp_eq (rx := (some a)) (ry := (some a)) dX7_onwardInRun_30 (tgt := 53) rfl rfl rfl (fun _ => ?_) (fun q => absurd rfl q)
  refine zp_null dX7_onwardInRun_53 ?_
  refine zp_aret rfl (r := none) rfl dX7_onwardInRun_54 ?_
  exact ⟨rfl, rfl⟩
set_option maxRecDepth 100000 in
set_option maxHeartbeats 4000000 in
theorem c_X4_flowOutside (l : Launch) (G : Gb) (Ly a F na : Nat) (σ : Sto) (hA : zT σ a = (5, na)) (hk : zR σ 514 a = some (G.2.2.1 7)) : Ct l G 1 0 0 yX4_flowOutside mX4_flowOutside [.ref Ly, .ref a, .ref F] σ (fun v s => v = none ∧ s = σ) := by
  refine Ct.of (by decide) rfl (Nat.le_of_ble_eq_true rfl) (fun h => absurd h (by decide)) ?_
  show Wp l G 1 0 0 (RX4, cX4_flowOutside, 4, none, false) 0 [(0, .ref Ly), (1, .ref a), (2, .ref F)] [] σ _
  refine zp_kin (fun hkin => ?_)
  refine zp_aload_n dX4_flowOutside_0 rfl (a := a) (List.mem_of_getElem? (i := 1) rfl) ?_
  refine zp_getRv dX4_flowOutside_1 fl_X4_59 hA (b := (G.2.2.1 7)) hk ?_
  refine zp_kind (i := 5) dX4_flowOutside_4 (by decide) rfl wd_836 ?_
  refine zp_acmp_ne (rx := (some (G.2.2.1 7))) (ry := (some (G.2.2.1 5))) dX4_flowOutside_7 (tgt := 23) rfl rfl rfl (fun _ => ?_) (fun q => absurd q (fun q => absurd (hkin 7 5 (by decide) (by decide) (Option.some.inj q)) (by decide)))
  refine zp_aload_n dX4_flowOutside_23 rfl (a := a) (List.mem_of_getElem? (i := 1) rfl) ?_
  refine zp_getRv dX4_flowOutside_24 fl_X4_59 hA (b := (G.2.2.1 7)) hk ?_
  refine zp_kind (i := 6) dX4_flowOutside_27 (by decide) rfl wd_838 ?_
  refine zp_acmp_ne (rx := (some (G.2.2.1 7))) (ry := (some (G.2.2.1 6))) dX4_flowOutside_30 (tgt := 56) rfl rfl rfl (fun _ => ?_) (fun q => absurd q (fun q => absurd (hkin 7 6 (by decide) (by decide) (Option.some.inj q)) (by decide)))
  refine zp_vret rfl dX4_flowOutside_56 ?_
  exact ⟨rfl, rfl⟩
set_option maxHeartbeats 4000000 in
theorem l_endOfRun (l : Launch) {G : Gb} {D : Dt} {X : Cx} {k z : Nat} {σ : Sto} (hD : DW D) (hN : NS G D X σ) : ∀ (m a : Nat), dn D ≤ a + m + 1 → a < dn D → dtx D a = true → dpar D a = k →
    Wp l G 3 0 0 (RX7, cX7_endOfRun, 3, (some (.object "FlowBoxes$Node")), false) 7 [(2, va_rf (lk X (nx D k a))), (1, .ref (xnd X a)), (0, .ref z)] [] σ (fun v s => v = some (.ref (xnd X ((runL D k m a).getLastD a))) ∧ s = σ) := by
  have key : ∀ (m a : Nat), dn D ≤ a + m + 1 → a < dn D → (∀ c, nx D k a = some c → dtx D c = false) → runL D k m a = [a] → Wp l G 3 0 0 (RX7, cX7_endOfRun, 3, (some (.object "FlowBoxes$Node")), false) 7 [(2, va_rf (lk X (nx D k a))), (1, .ref (xnd X a)), (0, .ref z)] [] σ (fun v s => v = some (.ref (xnd X ((runL D k m a).getLastD a))) ∧ s = σ) := by
    intro m a hm ha e' e
    cases hx : nx D k a with
    | none =>
      show Wp l G 3 0 0 (RX7, cX7_endOfRun, 3, (some (.object "FlowBoxes$Node")), false) 7 [(2, .null), (1, .ref (xnd X a)), (0, .ref z)] [] σ _
      refine zp_aloado_n dX7_endOfRun_7 rfl (r := none) (v := .null) rfl (List.mem_of_getElem? (i := 0) rfl) ?_
      refine zp_nullT dX7_endOfRun_8 (tgt := 38) rfl ?_
      refine zp_aload_n dX7_endOfRun_38 rfl (a := (xnd X a)) (List.mem_of_getElem? (i := 1) rfl) ?_
      refine zp_aret rfl (r := some (xnd X a)) rfl dX7_endOfRun_39 ?_
      rw [e]; exact ⟨rfl, rfl⟩
    | some c =>
      have hKc := hN.k c (nx_up hx).2.1
      have hkd : zR σ 514 (xnd X c) = some (G.2.2.1 0) := by have := hKc.kind; rw [e' c hx] at this; exact this
      show Wp l G 3 0 0 (RX7, cX7_endOfRun, 3, (some (.object "FlowBoxes$Node")), false) 7 [(2, .ref (xnd X c)), (1, .ref (xnd X a)), (0, .ref z)] [] σ _
      refine zp_aload_n dX7_endOfRun_7 rfl (a := (xnd X c)) (List.mem_of_getElem? (i := 0) rfl) ?_
      refine zp_nullF dX7_endOfRun_8 (tgt := 38) rfl ?_
      refine zp_aload_n dX7_endOfRun_11 rfl (a := (xnd X c)) (List.mem_of_getElem? (i := 0) rfl) ?_
      refine zp_callV (c0 := 4) (st := []) (mc2 := 0) (ms2 := 0) dX7_endOfRun_12 (c_X7_mayStandInRun l G (xnd X c) 0 0 (Or.inl rfl) _ hKc.T hkd) cl_X7_86 im_X7_mayStandInRun se_X7_mayStandInRun rfl rfl hKc.T rfl rfl (by omega) (by omega) (by omega) (Nat.le_of_ble_eq_true rfl) ?_
      rintro _ s1 ⟨rfl, hs1⟩; obtain rfl := hs1.symm
      refine zp_ifb_eq dX7_endOfRun_15 (tgt := 38) rfl (fun _ => ?_) (fun q => absurd q (by decide))
      refine zp_aload_n dX7_endOfRun_38 rfl (a := (xnd X a)) (List.mem_of_getElem? (i := 1) rfl) ?_
      refine zp_aret rfl (r := some (xnd X a)) rfl dX7_endOfRun_39 ?_
      rw [e]; exact ⟨rfl, rfl⟩
  intro m
  induction m with
  | zero =>
    intro a hm ha ht hp
    rcases runL_cases D k (m := 0) hm with ⟨e, e'⟩ | ⟨c, m', e0, -⟩
    · exact key 0 a hm ha e' e
    · omega
  | succ m ih =>
    intro a hm ha ht hp
    rcases runL_cases D k hm with ⟨e, e'⟩ | ⟨c, m', e0, e1, e2, e3, e4, e5, e6, e7⟩
    · exact key (m + 1) a hm ha e' e
    obtain rfl : m = m' := by omega
    rw [runL_last e3, e1]
    have hKc := hN.k c e5
    have hkd : zR σ 514 (xnd X c) = some (G.2.2.1 7) := by have := hKc.kind; rw [e2] at this; exact this
    have hnx : zR σ 511 (xnd X c) = lk X (nx D k c) := by have := hKc.next; rw [if_neg (by omega), e6] at this; exact this
    show Wp l G 3 0 0 (RX7, cX7_endOfRun, 3, (some (.object "FlowBoxes$Node")), false) 7 [(2, .ref (xnd X c)), (1, .ref (xnd X a)), (0, .ref z)] [] σ _
    refine zp_aload_n dX7_endOfRun_7 rfl (a := (xnd X c)) (List.mem_of_getElem? (i := 0) rfl) ?_
    refine zp_nullF dX7_endOfRun_8 (tgt := 38) rfl ?_
    refine zp_aload_n dX7_endOfRun_11 rfl (a := (xnd X c)) (List.mem_of_getElem? (i := 0) rfl) ?_
    refine zp_callV (c0 := 4) (st := []) (mc2 := 0) (ms2 := 0) dX7_endOfRun_12 (c_X7_mayStandInRun l G (xnd X c) 0 7 (Or.inr rfl) _ hKc.T hkd) cl_X7_86 im_X7_mayStandInRun se_X7_mayStandInRun rfl rfl hKc.T rfl rfl (by omega) (by omega) (by omega) (Nat.le_of_ble_eq_true rfl) ?_
    rintro _ s1 ⟨rfl, hs1⟩; obtain rfl := hs1.symm
    refine zp_ifb_eq dX7_endOfRun_15 (tgt := 38) rfl (fun q => absurd rfl q) (fun _ => ?_)
    refine zp_aload_n dX7_endOfRun_18 rfl (a := (xnd X c)) (List.mem_of_getElem? (i := 0) rfl) ?_
    refine zp_getRv dX7_endOfRun_19 fl_X7_63 hKc.T (b := (G.2.2.1 7)) hkd ?_
    refine zp_callK (i := 7) (st := []) (mc2 := 0) (ms2 := 0) (by decide) rfl dX7_endOfRun_22 (c_X3_isInLines l G 7 (by decide) _) cl_X7_89 im_X3_isInLines se_X3_isInLines rfl rfl (by omega) (by omega) (by omega) (Nat.le_of_ble_eq_true rfl) ?_
    rintro _ s1 ⟨rfl, hs1⟩; obtain rfl := hs1.symm
    refine zp_ifb_eq dX7_endOfRun_25 (tgt := 30) rfl (fun q => absurd (by decide) q) (fun _ => ?_)
    refine zp_aload_n dX7_endOfRun_28 rfl (a := (xnd X c)) (List.mem_of_getElem? (i := 0) rfl) ?_
    refine zp_astore_n dX7_endOfRun_29 rfl (Nat.le_of_ble_eq_true rfl) (lv2 := [(1, .ref (xnd X c)), (2, .ref (xnd X c)), (0, .ref z)]) rfl ?_
    refine zp_aload_n dX7_endOfRun_30 rfl (a := (xnd X c)) (List.mem_of_getElem? (i := 1) rfl) ?_
    refine zp_getRo dX7_endOfRun_31 fl_X7_83 hKc.T (r := (lk X (nx D k c))) hnx ?_
    refine zp_astoreo_n dX7_endOfRun_34 rfl (Nat.le_of_ble_eq_true rfl) (r := (lk X (nx D k c))) (v := va_rf (lk X (nx D k c))) rfl (lv2 := [(2, va_rf (lk X (nx D k c))), (1, .ref (xnd X c)), (0, .ref z)]) rfl ?_
    refine zp_goto dX7_endOfRun_35 (tgt := 7) rfl ?_
    exact ih c e7 e5 e2 e6
set_option maxRecDepth 100000 in
set_option maxHeartbeats 4000000 in
theorem c_X7_endOfRun (l : Launch) (G : Gb) (D : Dt) (X : Cx) (k m a : Nat) (σ : Sto) (hD : DW D) (hN : NS G D X σ) (hm : dn D ≤ a + m + 1) (ha : a < dn D) (ht : dtx D a = true) (h0 : 0 < a) (hp : dpar D a = k) : Ct l G 3 0 0 yX7_endOfRun mX7_endOfRun [.ref (xnd X a)] σ (fun v s => v = some (.ref (xnd X ((runL D k m a).getLastD a))) ∧ s = σ) := by
  refine Ct.of (by decide) rfl (Nat.le_of_ble_eq_true rfl) (fun h => absurd h (by decide)) ?_
  have hKa := hN.k a ha
  have hnx : zR σ 511 (xnd X a) = lk X (nx D k a) := by have := hKa.next; rw [if_neg (by omega), hp] at this; exact this
  show Wp l G 3 0 0 (RX7, cX7_endOfRun, 3, (some (.object "FlowBoxes$Node")), false) 0 [(0, .ref (xnd X a))] [] σ _
  refine zp_aload_n dX7_endOfRun_0 rfl (a := (xnd X a)) (List.mem_of_getElem? (i := 0) rfl) ?_
  refine zp_astore_n dX7_endOfRun_1 rfl (Nat.le_of_ble_eq_true rfl) (lv2 := [(1, .ref (xnd X a)), (0, .ref (xnd X a))]) rfl ?_
  refine zp_aload_n dX7_endOfRun_2 rfl (a := (xnd X a)) (List.mem_of_getElem? (i := 1) rfl) ?_
  refine zp_getRo dX7_endOfRun_3 fl_X7_83 hKa.T (r := (lk X (nx D k a))) hnx ?_
  refine zp_astoreo_n dX7_endOfRun_6 rfl (Nat.le_of_ble_eq_true rfl) (r := (lk X (nx D k a))) (v := va_rf (lk X (nx D k a))) rfl (lv2 := [(2, va_rf (lk X (nx D k a))), (1, .ref (xnd X a)), (0, .ref (xnd X a))]) rfl ?_
  exact l_endOfRun l hD hN m a hm ha ht hp
theorem nI_le0 {j : Nat} (hj : j < 2147483648) (h : nI j ≤ 0) : j = 0 := by
  have := Int32.le_iff_toInt_le.mp h
  rw [nI_toInt hj, show (0 : Int32).toInt = 0 from rfl] at this
  omega
theorem runW_cons {D : Dt} {a : Nat} {xs : List Nat} : runW D (a :: xs) = dwc D a + runW D xs := by unfold runW; rw [List.map_cons, List.sum_cons]
set_option maxHeartbeats 4000000 in
theorem l_hasThings (l : Launch) {G : Gb} {D : Dt} {X : Cx} {k z : Nat} {σ : Sto} (hD : DW D) (hN : NS G D X σ) : ∀ (m a : Nat), dn D ≤ a + m + 1 → a < dn D → dtx D a = true → dpar D a = k →
    Wp l G 2 0 0 (RX4, cX4_hasThings, 3, (some .boolean), false) 2 [(2, .ref (xnd X a)), (0, .ref z), (1, .ref (xnd X ((runL D k m a).getLastD a)))] [] σ (fun v s => v = some (.int (zb (runW D (runL D k m a) ≠ 0))) ∧ s = σ) := by
  have key : ∀ (m a : Nat), a < dn D → dtx D a = true → runL D k m a = [a] → Wp l G 2 0 0 (RX4, cX4_hasThings, 3, (some .boolean), false) 2 [(2, .ref (xnd X a)), (0, .ref z), (1, .ref (xnd X ((runL D k m a).getLastD a)))] [] σ (fun v s => v = some (.int (zb (runW D (runL D k m a) ≠ 0))) ∧ s = σ) := by
    intro m a ha ht e
    rw [e]
    show Wp l G 2 0 0 (RX4, cX4_hasThings, 3, (some .boolean), false) 2 [(2, .ref (xnd X a)), (0, .ref z), (1, .ref (xnd X a))] [] σ _
    have hKa := hN.k a ha
    have hwc := hD.2.2.2.2.2.1 a
    have hkd : zR σ 514 (xnd X a) = some (G.2.2.1 7) := by have := hKa.kind; rw [ht] at this; exact this
    have hpos : dwc D a ≠ 0 → runW D [a] ≠ 0 := fun q => by rw [runW_cons]; omega
    have hzero : dwc D a = 0 → ¬ (runW D [a] ≠ 0) := fun q => by rw [runW_cons, q]; exact fun q => q rfl
    refine zp_kin (fun hkin => ?_)
    show Wp l G 2 0 0 (RX4, cX4_hasThings, 3, (some .boolean), false) 2 [(2, .ref (xnd X a)), (0, .ref z), (1, .ref (xnd X a))] [] σ _
    refine zp_aload_n dX4_hasThings_2 rfl (a := (xnd X a)) (List.mem_of_getElem? (i := 0) rfl) ?_
    refine zp_nullF dX4_hasThings_3 (tgt := 34) rfl ?_
    refine zp_aload_n dX4_hasThings_6 rfl (a := (xnd X a)) (List.mem_of_getElem? (i := 0) rfl) ?_
    refine zp_getRv dX4_hasThings_7 fl_X4_59 hKa.T (b := (G.2.2.1 7)) hkd ?_
    refine zp_kind (i := 2) dX4_hasThings_10 (by decide) rfl wd_662 ?_
    refine zp_acmp_eq (rx := (some (G.2.2.1 7))) (ry := (some (G.2.2.1 2))) dX4_hasThings_13 (tgt := 23) rfl rfl rfl (fun q => absurd q (fun q => absurd (hkin 7 2 (by decide) (by decide) (Option.some.inj q)) (by decide))) (fun _ => ?_)
    refine zp_aload_n dX4_hasThings_16 rfl (a := (xnd X a)) (List.mem_of_getElem? (i := 0) rfl) ?_
    refine zp_getIv dX4_hasThings_17 fl_X4_390 hKa.T (v := (nI (dwc D a))) hKa.wc ?_
    refine zp_if_le dX4_hasThings_20 (tgt := 25) rfl (fun h20 => ?_) (fun h20 => ?_)
    · have hw : dwc D a = 0 := nI_le0 (by omega) h20
      refine zp_aload_n dX4_hasThings_25 rfl (a := (xnd X a)) (List.mem_of_getElem? (i := 0) rfl) ?_
      refine zp_aload_n dX4_hasThings_26 rfl (a := (xnd X a)) (List.mem_of_getElem? (i := 2) rfl) ?_
      refine zp_callS (st := []) (mc2 := 0) (ms2 := 0) dX4_hasThings_27 (c_X7_onwardB l G (xnd X a) 0 _ hKa.T hkd) cl_X4_393 st_X7_onwardInRun rfl rfl (by omega) (by omega) (by omega) (Nat.le_of_ble_eq_true rfl) ?_
      rintro _ s1 ⟨rfl, hs1⟩; obtain rfl := hs1.symm
      refine zp_astoreo_n dX4_hasThings_30 rfl (Nat.le_of_ble_eq_true rfl) (r := none) (v := .null) rfl (lv2 := [(2, .null), (0, .ref z), (1, .ref (xnd X a))]) rfl ?_
      refine zp_goto dX4_hasThings_31 (tgt := 2) rfl ?_
      refine zp_aloado_n dX4_hasThings_2 rfl (r := none) (v := .null) rfl (List.mem_of_getElem? (i := 0) rfl) ?_
      refine zp_nullT dX4_hasThings_3 (tgt := 34) rfl ?_
      refine zp_iconst dX4_hasThings_34 (v := 0) (by decide) ?_
      refine zp_zret rfl (Or.inl rfl) dX4_hasThings_35 ?_
      exact ⟨congrArg (fun x => some (Value.int x)) (zb_f (hzero hw)).symm, rfl⟩
    · have hw : dwc D a ≠ 0 := fun q => h20 (by rw [q]; decide)
      refine zp_iconst dX4_hasThings_23 (v := 1) (by decide) ?_
      refine zp_zret rfl (Or.inr rfl) dX4_hasThings_24 ?_
      exact ⟨congrArg (fun x => some (Value.int x)) (zb_t (hpos hw)).symm, rfl⟩
  intro m
  induction m with
  | zero =>
    intro a hm ha ht hp
    rcases runL_cases D k (m := 0) hm with ⟨e, e'⟩ | ⟨c, m', e0, -⟩
    · exact key 0 a ha ht e
    · omega
  | succ m ih =>
    intro a hm ha ht hp
    rcases runL_cases D k hm with ⟨e, e'⟩ | ⟨c, m', e0, e1, e2, e3, e4, e5, e6, e7⟩
    · exact key (m + 1) a ha ht e
    obtain rfl : m = m' := by omega
    rw [runL_last e3, e3]
    have hKa := hN.k a ha
    have hwc := hD.2.2.2.2.2.1 a
    have hkd : zR σ 514 (xnd X a) = some (G.2.2.1 7) := by have := hKa.kind; rw [ht] at this; exact this
    have h0 : a ≠ 0 := fun q => by rw [q, hD.2.2.2.1] at ht; cases ht
    have hnx : zR σ 511 (xnd X a) = some (xnd X c) := by have := hKa.next; rw [if_neg h0, hp, e1] at this; exact this
    have hne : xnd X a ≠ xnd X ((runL D k m c).getLastD c) := fun q => by
      obtain ⟨g1, g2, -⟩ := runL_in m c e7 e5 e2 e6 _ (runL_lastmem (D := D) (k := k) (m := m) (a := c))
      have := hN.d.nd _ _ ha g2 q
      omega
    have hpos : dwc D a ≠ 0 → runW D (a :: runL D k m c) ≠ 0 := fun q => by rw [runW_cons]; omega
    have hmore : dwc D a = 0 → runW D (a :: runL D k m c) = runW D (runL D k m c) := fun q => by rw [runW_cons, q]; omega
    refine zp_kin (fun hkin => ?_)
    show Wp l G 2 0 0 (RX4, cX4_hasThings, 3, (some .boolean), false) 2 [(2, .ref (xnd X a)), (0, .ref z), (1, .ref (xnd X ((runL D k m c).getLastD c)))] [] σ _
    refine zp_aload_n dX4_hasThings_2 rfl (a := (xnd X a)) (List.mem_of_getElem? (i := 0) rfl) ?_
    refine zp_nullF dX4_hasThings_3 (tgt := 34) rfl ?_
    refine zp_aload_n dX4_hasThings_6 rfl (a := (xnd X a)) (List.mem_of_getElem? (i := 0) rfl) ?_
    refine zp_getRv dX4_hasThings_7 fl_X4_59 hKa.T (b := (G.2.2.1 7)) hkd ?_
    refine zp_kind (i := 2) dX4_hasThings_10 (by decide) rfl wd_662 ?_
    refine zp_acmp_eq (rx := (some (G.2.2.1 7))) (ry := (some (G.2.2.1 2))) dX4_hasThings_13 (tgt := 23) rfl rfl rfl (fun q => absurd q (fun q => absurd (hkin 7 2 (by decide) (by decide) (Option.some.inj q)) (by decide))) (fun _ => ?_)
    refine zp_aload_n dX4_hasThings_16 rfl (a := (xnd X a)) (List.mem_of_getElem? (i := 0) rfl) ?_
    refine zp_getIv dX4_hasThings_17 fl_X4_390 hKa.T (v := (nI (dwc D a))) hKa.wc ?_
    refine zp_if_le dX4_hasThings_20 (tgt := 25) rfl (fun h20 => ?_) (fun h20 => ?_)
    · have hw : dwc D a = 0 := nI_le0 (by omega) h20
      refine zp_aload_n dX4_hasThings_25 rfl (a := (xnd X a)) (List.mem_of_getElem? (i := 0) rfl) ?_
      refine zp_aload_n dX4_hasThings_26 rfl (a := (xnd X ((runL D k m c).getLastD c))) (List.mem_of_getElem? (i := 2) rfl) ?_
      refine zp_callS (st := []) (mc2 := 0) (ms2 := 0) dX4_hasThings_27 (c_X7_onwardA l G (xnd X a) (xnd X ((runL D k m c).getLastD c)) (xnd X c) 0 _ hKa.T hkd hnx hne) cl_X4_393 st_X7_onwardInRun rfl rfl (by omega) (by omega) (by omega) (Nat.le_of_ble_eq_true rfl) ?_
      rintro _ s1 ⟨rfl, hs1⟩; obtain rfl := hs1.symm
      refine zp_astore_n dX4_hasThings_30 rfl (Nat.le_of_ble_eq_true rfl) (lv2 := [(2, .ref (xnd X c)), (0, .ref z), (1, .ref (xnd X ((runL D k m c).getLastD c)))]) rfl ?_
      refine zp_goto dX4_hasThings_31 (tgt := 2) rfl ?_
      refine Wp.mono (ih c e7 e5 e2 e6) (Nat.le_refl _) (Nat.le_refl _) (Nat.le_refl _) (fun v s q => ⟨q.1.trans ?_, q.2⟩)
      rw [hmore hw]
    · have hw : dwc D a ≠ 0 := fun q => h20 (by rw [q]; decide)
      refine zp_iconst dX4_hasThings_23 (v := 1) (by decide) ?_
      refine zp_zret rfl (Or.inr rfl) dX4_hasThings_24 ?_
      exact ⟨congrArg (fun x => some (Value.int x)) (zb_t (hpos hw)).symm, rfl⟩
set_option maxRecDepth 100000 in
set_option maxHeartbeats 4000000 in
theorem c_X4_hasThings (l : Launch) (G : Gb) (D : Dt) (X : Cx) (k m a : Nat) (σ : Sto) (hD : DW D) (hN : NS G D X σ) (hm : dn D ≤ a + m + 1) (ha : a < dn D) (ht : dtx D a = true) (hp : dpar D a = k) : Ct l G 2 0 0 yX4_hasThings mX4_hasThings [.ref (xnd X a), .ref (xnd X ((runL D k m a).getLastD a))] σ (fun v s => v = some (.int (zb (runW D (runL D k m a) ≠ 0))) ∧ s = σ) := by
  refine Ct.of (by decide) rfl (Nat.le_of_ble_eq_true rfl) (fun h => absurd h (by decide)) ?_
  show Wp l G 2 0 0 (RX4, cX4_hasThings, 3, (some .boolean), false) 0 [(0, .ref (xnd X a)), (1, .ref (xnd X ((runL D k m a).getLastD a)))] [] σ _
  refine zp_aload_n dX4_hasThings_0 rfl (a := (xnd X a)) (List.mem_of_getElem? (i := 0) rfl) ?_
  refine zp_astore_n dX4_hasThings_1 rfl (Nat.le_of_ble_eq_true rfl) (lv2 := [(2, .ref (xnd X a)), (0, .ref (xnd X a)), (1, .ref (xnd X ((runL D k m a).getLastD a)))]) rfl ?_
  exact l_hasThings l hD hN m a hm ha ht hp
set_option maxHeartbeats 4000000 in
theorem l_flowWithoutLines (l : Launch) {G : Gb} {D : Dt} {X : Cx} {b : Bool} {k z F : Nat} {σ : Sto} (hD : DW D) (hN : NS G D X σ) : ∀ (m a : Nat), dn D ≤ a + m + 1 → a < dn D → dtx D a = true → dpar D a = k →
    Wp l G 2 0 0 (RX4, cX4_flowWithoutLines, 5, none, false) 3 [(4, .ref (xnd X a)), (0, .ref (xLy X b)), (1, .ref F), (2, .ref z), (3, .ref (xnd X ((runL D k m a).getLastD a)))] [] σ (fun v s => v = none ∧ s = σ) := by
  have key : ∀ (m a : Nat), a < dn D → dtx D a = true → runL D k m a = [a] → Wp l G 2 0 0 (RX4, cX4_flowWithoutLines, 5, none, false) 3 [(4, .ref (xnd X a)), (0, .ref (xLy X b)), (1, .ref F), (2, .ref z), (3, .ref (xnd X ((runL D k m a).getLastD a)))] [] σ (fun v s => v = none ∧ s = σ) := by
    intro m a ha ht e
    rw [e]
    show Wp l G 2 0 0 (RX4, cX4_flowWithoutLines, 5, none, false) 3 [(4, .ref (xnd X a)), (0, .ref (xLy X b)), (1, .ref F), (2, .ref z), (3, .ref (xnd X a))] [] σ _
    have hKa := hN.k a ha
    have hkd : zR σ 514 (xnd X a) = some (G.2.2.1 7) := by have := hKa.kind; rw [ht] at this; exact this
    show Wp l G 2 0 0 (RX4, cX4_flowWithoutLines, 5, none, false) 3 [(4, .ref (xnd X a)), (0, .ref (xLy X b)), (1, .ref F), (2, .ref z), (3, .ref (xnd X a))] [] σ _
    refine zp_aload dX4_flowWithoutLines_3 (a := (xnd X a)) (List.mem_of_getElem? (i := 0) rfl) ?_
    refine zp_nullF dX4_flowWithoutLines_5 (tgt := 26) rfl ?_
    refine zp_aload_n dX4_flowWithoutLines_8 rfl (a := (xLy X b)) (List.mem_of_getElem? (i := 1) rfl) ?_
    refine zp_aload dX4_flowWithoutLines_9 (a := (xnd X a)) (List.mem_of_getElem? (i := 0) rfl) ?_
    refine zp_aload_n dX4_flowWithoutLines_11 rfl (a := F) (List.mem_of_getElem? (i := 2) rfl) ?_
    refine zp_callV (c0 := 2) (st := []) (mc2 := 0) (ms2 := 0) dX4_flowWithoutLines_12 (c_X4_flowOutside l G (xLy X b) (xnd X a) F 0 _ hKa.T hkd) cl_X4_284 im_X4_flowOutside se_X4_flowOutside rfl rfl (hN.l b).T rfl rfl (by omega) (by omega) (by omega) (Nat.le_of_ble_eq_true rfl) ?_
    rintro _ s1 ⟨rfl, hs1⟩; obtain rfl := hs1.symm
    refine zp_aload dX4_flowWithoutLines_15 (a := (xnd X a)) (List.mem_of_getElem? (i := 0) rfl) ?_
    refine zp_aload_n dX4_flowWithoutLines_17 rfl (a := (xnd X a)) (List.mem_of_getElem? (i := 4) rfl) ?_
    refine zp_callS (st := []) (mc2 := 0) (ms2 := 0) dX4_flowWithoutLines_18 (c_X7_onwardB l G (xnd X a) 0 _ hKa.T hkd) cl_X4_393 st_X7_onwardInRun rfl rfl (by omega) (by omega) (by omega) (Nat.le_of_ble_eq_true rfl) ?_
    rintro _ s1 ⟨rfl, hs1⟩; obtain rfl := hs1.symm
    refine zp_astoreo dX4_flowWithoutLines_21 (Nat.le_of_ble_eq_true rfl) (r := none) (v := .null) rfl (lv2 := [(4, .null), (0, .ref (xLy X b)), (1, .ref F), (2, .ref z), (3, .ref (xnd X a))]) rfl ?_
    refine zp_goto dX4_flowWithoutLines_23 (tgt := 3) rfl ?_
    refine zp_aloado dX4_flowWithoutLines_3 (r := none) (v := .null) rfl (List.mem_of_getElem? (i := 0) rfl) ?_
    refine zp_nullT dX4_flowWithoutLines_5 (tgt := 26) rfl ?_
    refine zp_vret rfl dX4_flowWithoutLines_26 ?_
    exact ⟨rfl, rfl⟩
  intro m
  induction m with
  | zero =>
    intro a hm ha ht hp
    rcases runL_cases D k (m := 0) hm with ⟨e, e'⟩ | ⟨c, m', e0, -⟩
    · exact key 0 a ha ht e
    · omega
  | succ m ih =>
    intro a hm ha ht hp
    rcases runL_cases D k hm with ⟨e, e'⟩ | ⟨c, m', e0, e1, e2, e3, e4, e5, e6, e7⟩
    · exact key (m + 1) a ha ht e
    obtain rfl : m = m' := by omega
    rw [runL_last e3]
    have hKa := hN.k a ha
    have hkd : zR σ 514 (xnd X a) = some (G.2.2.1 7) := by have := hKa.kind; rw [ht] at this; exact this
    have h0 : a ≠ 0 := fun q => by rw [q, hD.2.2.2.1] at ht; cases ht
    have hnx : zR σ 511 (xnd X a) = some (xnd X c) := by have := hKa.next; rw [if_neg h0, hp, e1] at this; exact this
    have hne : xnd X a ≠ xnd X ((runL D k m c).getLastD c) := fun q => by
      obtain ⟨g1, g2, -⟩ := runL_in m c e7 e5 e2 e6 _ (runL_lastmem (D := D) (k := k) (m := m) (a := c))
      have := hN.d.nd _ _ ha g2 q
      omega
    show Wp l G 2 0 0 (RX4, cX4_flowWithoutLines, 5, none, false) 3 [(4, .ref (xnd X a)), (0, .ref (xLy X b)), (1, .ref F), (2, .ref z), (3, .ref (xnd X ((runL D k m c).getLastD c)))] [] σ _
    refine zp_aload dX4_flowWithoutLines_3 (a := (xnd X a)) (List.mem_of_getElem? (i := 0) rfl) ?_
    refine zp_nullF dX4_flowWithoutLines_5 (tgt := 26) rfl ?_
    refine zp_aload_n dX4_flowWithoutLines_8 rfl (a := (xLy X b)) (List.mem_of_getElem? (i := 1) rfl) ?_
    refine zp_aload dX4_flowWithoutLines_9 (a := (xnd X a)) (List.mem_of_getElem? (i := 0) rfl) ?_
    refine zp_aload_n dX4_flowWithoutLines_11 rfl (a := F) (List.mem_of_getElem? (i := 2) rfl) ?_
    refine zp_callV (c0 := 2) (st := []) (mc2 := 0) (ms2 := 0) dX4_flowWithoutLines_12 (c_X4_flowOutside l G (xLy X b) (xnd X a) F 0 _ hKa.T hkd) cl_X4_284 im_X4_flowOutside se_X4_flowOutside rfl rfl (hN.l b).T rfl rfl (by omega) (by omega) (by omega) (Nat.le_of_ble_eq_true rfl) ?_
    rintro _ s1 ⟨rfl, hs1⟩; obtain rfl := hs1.symm
    refine zp_aload dX4_flowWithoutLines_15 (a := (xnd X a)) (List.mem_of_getElem? (i := 0) rfl) ?_
    refine zp_aload_n dX4_flowWithoutLines_17 rfl (a := (xnd X ((runL D k m c).getLastD c))) (List.mem_of_getElem? (i := 4) rfl) ?_
    refine zp_callS (st := []) (mc2 := 0) (ms2 := 0) dX4_flowWithoutLines_18 (c_X7_onwardA l G (xnd X a) (xnd X ((runL D k m c).getLastD c)) (xnd X c) 0 _ hKa.T hkd hnx hne) cl_X4_393 st_X7_onwardInRun rfl rfl (by omega) (by omega) (by omega) (Nat.le_of_ble_eq_true rfl) ?_
    rintro _ s1 ⟨rfl, hs1⟩; obtain rfl := hs1.symm
    refine zp_astore dX4_flowWithoutLines_21 (Nat.le_of_ble_eq_true rfl) (lv2 := [(4, .ref (xnd X c)), (0, .ref (xLy X b)), (1, .ref F), (2, .ref z), (3, .ref (xnd X ((runL D k m c).getLastD c)))]) rfl ?_
    refine zp_goto dX4_flowWithoutLines_23 (tgt := 3) rfl ?_
    exact ih c e7 e5 e2 e6
set_option maxRecDepth 100000 in
set_option maxHeartbeats 4000000 in
theorem c_X4_flowWithoutLines (l : Launch) (G : Gb) (D : Dt) (X : Cx) (b : Bool) (k m a F : Nat) (σ : Sto) (hD : DW D) (hN : NS G D X σ) (hm : dn D ≤ a + m + 1) (ha : a < dn D) (ht : dtx D a = true) (hp : dpar D a = k) : Ct l G 2 0 0 yX4_flowWithoutLines mX4_flowWithoutLines [.ref (xLy X b), .ref F, .ref (xnd X a), .ref (xnd X ((runL D k m a).getLastD a))] σ (fun v s => v = none ∧ s = σ) := by
  refine Ct.of (by decide) rfl (Nat.le_of_ble_eq_true rfl) (fun h => absurd h (by decide)) ?_
  show Wp l G 2 0 0 (RX4, cX4_flowWithoutLines, 5, none, false) 0 [(0, .ref (xLy X b)), (1, .ref F), (2, .ref (xnd X a)), (3, .ref (xnd X ((runL D k m a).getLastD a)))] [] σ _
  refine zp_aload_n dX4_flowWithoutLines_0 rfl (a := (xnd X a)) (List.mem_of_getElem? (i := 2) rfl) ?_
  refine zp_astore dX4_flowWithoutLines_1 (Nat.le_of_ble_eq_true rfl) (lv2 := [(4, .ref (xnd X a)), (0, .ref (xLy X b)), (1, .ref F), (2, .ref (xnd X a)), (3, .ref (xnd X ((runL D k m a).getLastD a)))]) rfl ?_
  exact l_flowWithoutLines l hD hN m a hm ha ht hp

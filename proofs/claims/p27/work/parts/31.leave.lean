/-! A BOX LEFT: the relation (by wip/p27/gen_leave.py) -/
theorem leaveP_eq {D : Dt} {c : Nat} {S : FS} : leaveP D c S = pendP (dst D c 8) (clP c (if sw S c = true then leaveW D c S else leaveH D c S)) := rfl
theorem RR_leaveW {G O D X b S wl LL fr σ} {c : Nat} (hD : DW D) (h : RR G O D X b S (c :: wl) LL fr σ) (hc0 : c ≠ 0) (hc : c < dn D) (ht : dtx D c = false) (hv : svi S c = true) (hcl : scl S c = false) :
    ∃ wl', (wl' = wl ∨ wl' = []) ∧ RR G O D X b (clP c (leaveW D c S)) wl' LL fr (ewS (xcn X c) (xpl X b c) (xF X b) ((c :: wl).map (xpl X b)) σ) ∧ Fm O σ (ewS (xcn X c) (xpl X b c) (xF X b) ((c :: wl).map (xpl X b)) σ) := by
  have hn := hD.2.1
  have hK := h.1.ns.k c hc
  have e4 : zI σ 704 (xpl X b c) = sh S c := (h.1.p2 c hc ht hv).2
  have e12 : zA σ (xcn X c) 12 = dst D c 12 := hK.cnA ht 12 (by decide)
  have ey := Rc_pend h.1
  unfold ewS
  rw [e4, e12, ey]
  by_cases q : 0 < mx 0 (sh S c) ∨ 0 < dst D c 12
  · refine ⟨[], Or.inr rfl, ?_⟩
    rw [if_pos q]
    obtain ⟨r1, f1, e1⟩ := RR_703 (x := mx 0 (sh S c)) hD h hc hcl
    obtain ⟨r2, f2⟩ := RR_em hD r1
    have r2 : RR G O D X b (endP (setA (48 + c) (mx 0 (sh S c)) S)) [] LL fr (emS (xF X b) ((c :: wl).map (xpl X b)) (pendY S) (wI σ 703 (xpl X b c) (mx 0 (sh S c)))) := r2
    have f2 : Fm O _ (emS (xF X b) ((c :: wl).map (xpl X b)) (pendY S) (wI σ 703 (xpl X b c) (mx 0 (sh S c)))) := f2
    obtain ⟨r3, f3⟩ := RR_y (S' := addY (dst D c 12 + mx 0 (sh S c)) (endP (setA (48 + c) (mx 0 (sh S c)) S))) (x := pendY S + (dst D c 12 + mx 0 (sh S c))) hD r2 rfl rfl rfl rfl
    have eL : leaveW D c S = addY (dst D c 12 + mx 0 (sh S c)) (endP (setA (48 + c) (mx 0 (sh S c)) S)) := if_pos q
    rw [eL]
    refine ⟨RR_cl r3 hc List.not_mem_nil ?_, (f1.trans f2).trans f3⟩
    rw [rIn (by decide), emS_k (by decide) (by decide) (by decide) (by decide) (by decide), e1]
    show _ = sa (endP (setA (48 + c) (mx 0 (sh S c)) S)) (48 + c)
    rw [endP_sa (by omega)]
  · refine ⟨wl, Or.inl rfl, ?_⟩
    rw [if_neg q]
    have eL : leaveW D c S = unwP c (setA (16 + c) (pendY S) (setA (48 + c) (mx 0 (sh S c)) S)) := if_neg q
    rw [eL]
    have hp := h.1.ow.2.2.1 c hc
    have f : Fm O σ (wI (wR (wI σ 703 (xpl X b c) (mx 0 (sh S c))) 203 (xF X b) (zR σ 710 (xpl X b c))) 701 (xpl X b c) (pendY S)) := ((Fm.wI hp (by unfold stf; omega)).trans (Fm.wR h.1.ow.2.1 (by unfold stf; omega))).trans (Fm.wI hp (by unfold stf; omega))
    have ne : ∀ k, k < dn D → k ≠ c → xpl X b k ≠ xpl X b c := fun k hk q z => q (h.1.ns.d.pl b b k c hk hc z).2
    have kI : ∀ g, g ≠ 703 → g ≠ 701 → zI (wI (wR (wI σ 703 (xpl X b c) (mx 0 (sh S c))) 203 (xF X b) (zR σ 710 (xpl X b c))) 701 (xpl X b c) (pendY S)) g = zI σ g := fun g h1 h2 => by
      funext a
      rw [rIn h2, rIR, rIn h1]
    have kb : ∀ g a, a ≠ xpl X b c → zI (wI (wR (wI σ 703 (xpl X b c) (mx 0 (sh S c))) 203 (xF X b) (zR σ 710 (xpl X b c))) 701 (xpl X b c) (pendY S)) g a = zI σ g a := fun g a h1 => by
      rw [rIb h1, rIR, rIb h1]
    have kR : ∀ g, g ≠ 203 → zR (wI (wR (wI σ 703 (xpl X b c) (mx 0 (sh S c))) 203 (xF X b) (zR σ 710 (xpl X b c))) 701 (xpl X b c) (pendY S)) g = zR σ g := fun g h1 => by
      funext a
      rw [rRI, rRn h1, rRI]
    obtain ⟨cw1, cw2⟩ := List.nodup_cons.mp h.1.wn
    have ea : ∀ j, j ≠ 16 + c → j ≠ 48 + c → setI (setI (sa S) (48 + c) (mx 0 (sh S c))) (16 + c) (pendY S) j = sa S j := fun j h1 h2 => by unfold setI; rw [if_neg h1, if_neg h2]
    have ecl : ∀ k, k ≠ c → setB (scl S) c true k = scl S k := fun k q => if_neg q
    refine ⟨⟨⟨h.1.ns.fm f, h.1.ow.fm f, ?_, ?_, ?_, by rw [kR _ (by decide)]; exact h.1.f0, by rw [kR _ (by decide)]; exact h.1.l0, ?_, cw2, fun k => ?_, fun k hk => ?_, fun k hk ht' hv' => ?_, fun k hk h0 ht' hv' => ?_, fun k hk h0 ht' hv' hw' => ?_, fun k hk h0 ht' hv' => ?_, fun k hk h0 ht' hv' hcl' => ?_⟩, ?_⟩, f⟩
    · rw [kI _ (by decide) (by decide)]; exact h.1.y
    · rw [kI _ (by decide) (by decide)]; exact h.1.ab
    · rw [kI _ (by decide) (by decide)]; exact h.1.be
    · rw [rRI, rRe]
      have hw := h.1.wt
      obtain ⟨w1, w2, w3⟩ := hw
      refine Wt.to w3 (fun p hp => ?_)
      obtain ⟨j, hj, rfl⟩ := List.mem_map.mp hp
      have hjn := (h.1.wb j (List.mem_cons_of_mem _ hj)).2.1
      exact ⟨(f.T ((h.1.ns.k j hjn).plT b)).trans ((h.1.ns.k j hjn).plT b).symm, by rw [kR 710 (by decide)]⟩
    · show setB (sw S) c false k = true ↔ _
      unfold setB
      by_cases z : k = c
      · rw [if_pos z, z]; exact ⟨fun y => absurd y (by decide), fun y => absurd y cw1⟩
      · rw [if_neg z, h.1.ww k]
        exact ⟨fun y => (List.mem_cons.mp y).resolve_left z, fun y => List.mem_cons_of_mem _ y⟩
    · obtain ⟨q1, q2, q3, q4, q5⟩ := h.1.wb k (List.mem_cons_of_mem _ hk)
      exact ⟨q1, q2, q3, q4, by show setB (scl S) c true k = false; rw [ecl k (fun z => cw1 (z ▸ hk))]; exact q5⟩
    · rw [kI _ (by decide) (by decide), kI 704 (by decide) (by decide)]
      show _ = setI (setI (sa S) (48 + c) _) (16 + c) _ (32 + k) ∧ _
      rw [ea _ (by omega) (by omega)]
      exact h.1.p2 k hk ht' hv'
    · rw [kI _ (by decide) (by decide)]
      show _ = setI (setI (sa S) (48 + c) _) (16 + c) _ k
      rw [ea _ (by omega) (by omega)]
      exact h.1.p0 k hk h0 ht' hv'
    · show _ = setI (setI (sa S) (48 + c) _) (16 + c) _ (16 + k)
      by_cases z : k = c
      · rw [z, rIe]; exact (if_pos rfl).symm
      · rw [kb _ _ (ne k hk z), ea _ (by omega) (by omega)]
        have hw' : setB (sw S) c false k = false := hw'
        unfold setB at hw'
        rw [if_neg z] at hw'
        exact h.1.p1 k hk h0 ht' hv' hw'
    · show _ = setI (setI (sa S) (48 + c) _) (16 + c) _ (48 + k)
      by_cases z : k = c
      · rw [z, rIn (by decide), rIR, rIe]
        unfold setI
        rw [if_neg (by omega), if_pos rfl]
      · rw [kb _ _ (ne k hk z), ea _ (by omega) (by omega)]
        have hv' : setB (scl S) c true k = true := hv'
        rw [ecl k z] at hv'
        exact h.1.p3 k hk h0 ht' hv'
    · have z : k ≠ c := fun z => by
        have hcl' : setB (scl S) c true k = false := hcl'
        rw [z] at hcl'
        unfold setB at hcl'
        rw [if_pos rfl] at hcl'
        cases hcl'
      have hcl' : setB (scl S) c true k = false := hcl'
      rw [ecl k z] at hcl'
      rw [kb _ _ (ne k hk z)]
      show _ = zb (setB (sw S) c false k = false)
      have e9 := h.1.p9 k hk h0 ht' hv' hcl'
      rw [e9]
      refine zb_congr ?_
      unfold setB
      rw [if_neg z]
    · refine h.2.keep hD f (fun g hg => kI g (by omega) (by omega)) (by rw [kI 213 (by decide) (by decide)]) (fun g hg => kR g (by omega)) rfl rfl (fun _ _ => rfl) (fun k hk _ => ea _ (by omega) (by omega))
theorem RR_leaveH {G O D X b S wl LL fr σ} {c : Nat} (hD : DW D) (h : RR G O D X b S wl LL fr σ) (hc0 : c ≠ 0) (hc : c < dn D) (ht : dtx D c = false) (hv : svi S c = true) (hcl : scl S c = false) (hw : sw S c = false) :
    ∃ wl', (wl' = wl ∨ wl' = []) ∧ RR G O D X b (clP c (leaveH D c S)) wl' LL fr (ehS (xcn X c) (xpl X b c) (xF X b) (wl.map (xpl X b)) σ) ∧ Fm O σ (ehS (xcn X c) (xpl X b c) (xF X b) (wl.map (xpl X b)) σ) := by
  have hn := hD.2.1
  have hK := h.1.ns.k c hc
  have hcw : c ∉ wl := fun q => by have := (h.1.ww c).mpr q; rw [hw] at this; cases this
  have e4 : zI σ 704 (xpl X b c) = sh S c := (h.1.p2 c hc ht hv).2
  have e12 : zA σ (xcn X c) 12 = dst D c 12 := hK.cnA ht 12 (by decide)
  have ein : inS (xcn X c) (xpl X b c) σ = sa S (16 + c) + dst D c 10 := by
    unfold inS
    rw [h.1.p1 c hc hc0 ht hv hw, hK.cnA ht 10 (by decide)]
  have ey := Rc_pend h.1
  unfold ehS
  rw [e4, e12, ey, ein, h.1.y]
  by_cases q : 0 ≤ sh S c
  · refine ⟨wl, Or.inl rfl, ?_⟩
    rw [if_pos q]
    have eL : leaveH D c S = setY (((sa S (16 + c) + dst D c 10) + sh S c) + dst D c 12) (setA (48 + c) (sh S c) (dropP S)) := if_pos q
    rw [eL]
    obtain ⟨r1, f1⟩ := RR_drop hD h
    obtain ⟨r2, f2, e2⟩ := RR_703 (x := sh S c) hD r1 hc hcl
    obtain ⟨r3, f3⟩ := RR_y (S' := setY (((sa S (16 + c) + dst D c 10) + sh S c) + dst D c 12) (setA (48 + c) (sh S c) (dropP S))) (x := ((sa S (16 + c) + dst D c 10) + sh S c) + dst D c 12) hD r2 rfl rfl rfl rfl
    exact ⟨RR_cl r3 hc hcw ((rIn (by decide)).trans e2), (f1.trans f2).trans f3⟩
  · rw [if_neg q]
    by_cases q2 : 0 < dst D c 12
    · refine ⟨[], Or.inr rfl, ?_⟩
      rw [if_pos q2]
      have eL : leaveH D c S = setY (((sa S (16 + c) + dst D c 10) + mx 0 (pendY S - (sa S (16 + c) + dst D c 10))) + dst D c 12) (setA (48 + c) (mx 0 (pendY S - (sa S (16 + c) + dst D c 10))) (endP S)) := (if_neg q).trans (if_pos q2)
      rw [eL]
      obtain ⟨r1, f1⟩ := RR_em hD h
      obtain ⟨r2, f2, e2⟩ := RR_703 (x := mx 0 (pendY S - (sa S (16 + c) + dst D c 10))) hD r1 hc hcl
      obtain ⟨r3, f3⟩ := RR_y (S' := setY (((sa S (16 + c) + dst D c 10) + mx 0 (pendY S - (sa S (16 + c) + dst D c 10))) + dst D c 12) (setA (48 + c) (mx 0 (pendY S - (sa S (16 + c) + dst D c 10))) (endP S))) (x := ((sa S (16 + c) + dst D c 10) + mx 0 (pendY S - (sa S (16 + c) + dst D c 10))) + dst D c 12) hD r2 rfl rfl rfl rfl
      exact ⟨RR_cl r3 hc List.not_mem_nil ((rIn (by decide)).trans e2), (f1.trans f2).trans f3⟩
    · refine ⟨wl, Or.inl rfl, ?_⟩
      rw [if_neg q2]
      have eL : leaveH D c S = setA (48 + c) (mx 0 (sy S - (sa S (16 + c) + dst D c 10))) S := (if_neg q).trans (if_neg q2)
      rw [eL]
      obtain ⟨r2, f2, e2⟩ := RR_703 (x := mx 0 (sy S - (sa S (16 + c) + dst D c 10))) hD h hc hcl
      exact ⟨RR_cl r2 hc hcw e2, f2⟩

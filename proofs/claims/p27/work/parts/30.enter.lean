/-! A BOX ENTERED, BEGUN, LEFT: the relation (by wip/p27/gen_enter.py) -/
def RR (G : Gb) (O : Nat → Prop) (D : Dt) (X : Cx) (b : Bool) (S : FS) (wl : List Nat) (LL : Nat → List Nat) (fr : List Nat) (σ : Sto) : Prop := Rc G O D X b S wl σ ∧ Rl O D X b S LL fr σ
/-- writes to the flow's numbers -/
theorem RR_F {G O D X b S wl LL fr σ} {σ' : Sto} {S' : FS} (hD : DW D) (h : RR G O D X b S wl LL fr σ) (f : Fm O σ σ') (hI : ∀ g, 300 ≤ g → zI σ' g = zI σ g) (h213 : zI σ' 213 (xF X b) = zI σ 213 (xF X b)) (hR : zR σ' = zR σ)
    (y : zI σ' 200 (xF X b) = sy S') (ab : zI σ' 201 (xF X b) = sab S') (be : zI σ' 202 (xF X b) = sbe S') (e : S'.2.2.2 = S.2.2.2) : RR G O D X b S' wl LL fr σ' := by
  have ew : sw S' = sw S := congrArg (fun x => x.1) e
  have ea : sa S' = sa S := congrArg (fun x => x.2.1) e
  have eh : sh S' = sh S := congrArg (fun x => x.2.2.1) e
  have el : sls S' = sls S := congrArg (fun x => x.2.2.2.1) e
  have ev : svi S' = svi S := congrArg (fun x => x.2.2.2.2.1) e
  have en : slv S' = slv S := congrArg (fun x => x.2.2.2.2.2.1) e
  have ec : scl S' = scl S := congrArg (fun x => x.2.2.2.2.2.2) e
  refine ⟨h.1.keep f (fun g h1 h2 => hI g (by omega)) (by rw [hR]) (by rw [hR]) (by rw [hR]) (by rw [hR]; exact h.1.l0) y ab be ew (fun _ _ _ => by rw [ea]; exact ⟨rfl, rfl, rfl, rfl⟩) eh (fun _ _ => by rw [ev]) ec, ?_⟩
  exact h.2.keep hD f (fun g hg => hI g (by omega)) h213 (fun g _ => by rw [hR]) el en (fun _ _ => by rw [ev]) (fun _ _ _ => by rw [ea])
theorem RR_em {G O D X b S wl LL fr σ} (hD : DW D) (h : RR G O D X b S wl LL fr σ) : RR G O D X b (endP S) [] LL fr (emS (xF X b) (wl.map (xpl X b)) (pendY S) σ) ∧ Fm O σ (emS (xF X b) (wl.map (xpl X b)) (pendY S) σ) :=
  ⟨⟨(em_rel hD h.1).1, em_Rl hD h.1 h.2⟩, (em_rel hD h.1).2⟩
theorem RR_y {G O D X b S wl LL fr σ} {S' : FS} {x : Int32} (hD : DW D) (h : RR G O D X b S wl LL fr σ) (y : x = sy S') (ab : sab S' = sab S) (be : sbe S' = sbe S) (e : S'.2.2.2 = S.2.2.2) : RR G O D X b S' wl LL fr (wI σ 200 (xF X b) x) ∧ Fm O σ (wI σ 200 (xF X b) x) := by
  have f : Fm O σ (wI σ 200 (xF X b) x) := Fm.wI h.1.ow.2.1 (by unfold stf; omega)
  refine ⟨RR_F hD h f (fun g hg => by funext a; exact rIn (by omega)) (rIn (by decide)) rfl (rIe.trans y) ((rIn (by decide)).trans (h.1.ab.trans ab.symm)) ((rIn (by decide)).trans (h.1.be.trans be.symm)) e, f⟩
theorem RR_r {G O D X b S wl LL fr σ} {g : Nat} {x : Int32} (hD : DW D) (h : RR G O D X b S wl LL fr σ) (hg : g = 206 ∨ g = 207 ∨ g = 208) : RR G O D X b S wl LL fr (wI σ g (xF X b) x) ∧ Fm O σ (wI σ g (xF X b) x) := by
  have f : Fm O σ (wI σ g (xF X b) x) := Fm.wI h.1.ow.2.1 (by unfold stf; omega)
  exact ⟨RR_F hD h f (fun g' hg' => by funext a; exact rIn (by omega)) (rIn (by omega)) rfl ((rIn (by omega)).trans h.1.y) ((rIn (by omega)).trans h.1.ab) ((rIn (by omega)).trans h.1.be) rfl, f⟩
theorem RR_pend {G O D X b S wl LL fr σ} {m : Int32} (hD : DW D) (h : RR G O D X b S wl LL fr σ) : RR G O D X b (pendP m S) wl LL fr (wI (wI σ 201 (xF X b) (mx (zI σ 201 (xF X b)) m)) 202 (xF X b) (mn (zI σ 202 (xF X b)) m)) ∧ Fm O σ (wI (wI σ 201 (xF X b) (mx (zI σ 201 (xF X b)) m)) 202 (xF X b) (mn (zI σ 202 (xF X b)) m)) := by
  have f : Fm O σ (wI (wI σ 201 (xF X b) (mx (zI σ 201 (xF X b)) m)) 202 (xF X b) (mn (zI σ 202 (xF X b)) m)) := (Fm.wI h.1.ow.2.1 (by unfold stf; omega)).trans (Fm.wI h.1.ow.2.1 (by unfold stf; omega))
  refine ⟨RR_F hD h f (fun g hg => by funext a; exact (rIn (by omega)).trans (rIn (by omega))) ((rIn (by decide)).trans (rIn (by decide))) rfl ((rIn (by decide)).trans ((rIn (by decide)).trans h.1.y)) ((rIn (by decide)).trans (rIe.trans ?_)) (rIe.trans ?_) rfl, f⟩
  · rw [h.1.ab]; rfl
  · rw [h.1.be]; rfl
theorem RR_drop {G O D X b S wl LL fr σ} (hD : DW D) (h : RR G O D X b S wl LL fr σ) : RR G O D X b (dropP S) wl LL fr (wI (wI σ 201 (xF X b) 0) 202 (xF X b) 0) ∧ Fm O σ (wI (wI σ 201 (xF X b) 0) 202 (xF X b) 0) := by
  have f : Fm O σ (wI (wI σ 201 (xF X b) 0) 202 (xF X b) 0) := (Fm.wI h.1.ow.2.1 (by unfold stf; omega)).trans (Fm.wI h.1.ow.2.1 (by unfold stf; omega))
  exact ⟨RR_F hD h f (fun g hg => by funext a; exact (rIn (by omega)).trans (rIn (by omega))) ((rIn (by decide)).trans (rIn (by decide))) rfl ((rIn (by decide)).trans ((rIn (by decide)).trans h.1.y)) ((rIn (by decide)).trans rIe) rIe rfl, f⟩
/-- a box's height is set before it is closed -/
theorem RR_703 {G O D X b S wl LL fr σ} {c : Nat} {x : Int32} (hD : DW D) (h : RR G O D X b S wl LL fr σ) (hc : c < dn D) (hcl : scl S c = false) :
    RR G O D X b (setA (48 + c) x S) wl LL fr (wI σ 703 (xpl X b c) x) ∧ Fm O σ (wI σ 703 (xpl X b c) x) ∧ zI (wI σ 703 (xpl X b c) x) 703 (xpl X b c) = sa (setA (48 + c) x S) (48 + c) := by
  have hn := hD.2.1
  have f : Fm O σ (wI σ 703 (xpl X b c) x) := Fm.wI (h.1.ow.2.2.1 c hc) (by unfold stf; omega)
  have kI : ∀ g, g ≠ 703 → zI (wI σ 703 (xpl X b c) x) g = zI σ g := fun g hg => by funext a; exact rIn hg
  have ea : ∀ j, j ≠ 48 + c → sa (setA (48 + c) x S) j = sa S j := fun j hj => if_neg hj
  refine ⟨⟨⟨h.1.ns.fm f, h.1.ow.fm f, by rw [kI 200 (by decide)]; exact h.1.y, by rw [kI 201 (by decide)]; exact h.1.ab, by rw [kI 202 (by decide)]; exact h.1.be, h.1.f0, h.1.l0, h.1.wt.to (fun p hp => ⟨rfl, rfl⟩), h.1.wn, h.1.ww, h.1.wb, fun k hk ht hv => ?_, fun k hk h0 ht hv => ?_, fun k hk h0 ht hv hw => ?_, fun k hk h0 ht hv => ?_, fun k hk h0 ht hv hcl' => ?_⟩, ?_⟩, f, ?_⟩
  · rw [kI 702 (by decide), kI 704 (by decide), ea _ (by omega)]; exact h.1.p2 k hk ht hv
  · rw [kI 700 (by decide), ea _ (by omega)]; exact h.1.p0 k hk h0 ht hv
  · rw [kI 701 (by decide), ea _ (by omega)]; exact h.1.p1 k hk h0 ht hv hw
  · have hkc : k ≠ c := fun q => by
      have hv : scl S k = true := hv
      rw [q, hcl] at hv; cases hv
    rw [ea _ (by omega), rIb (fun q => hkc (h.1.ns.d.pl b b k c hk hc q).2)]
    exact h.1.p3 k hk h0 ht hv
  · rw [kI 709 (by decide)]; exact h.1.p9 k hk h0 ht hv hcl'
  · exact h.2.keep hD f (fun g hg => kI g (by omega)) (by rw [kI 213 (by decide)]) (fun g _ => rfl) rfl rfl (fun _ _ => rfl) (fun k hk _ => ea _ (by omega))
  · rw [rIe]; exact (if_pos rfl).symm
theorem RR_cl {G O D X b S wl LL fr σ} {c : Nat} (h : RR G O D X b S wl LL fr σ) (hc : c < dn D) (hw : c ∉ wl) (h3 : zI σ 703 (xpl X b c) = sa S (48 + c)) : RR G O D X b (clP c S) wl LL fr σ := by
  have ec : ∀ j, j ≠ c → scl (clP c S) j = scl S j := fun j hj => if_neg hj
  refine ⟨⟨h.1.ns, h.1.ow, h.1.y, h.1.ab, h.1.be, h.1.f0, h.1.l0, h.1.wt, h.1.wn, h.1.ww, fun k hk => ?_, h.1.p2, h.1.p0, h.1.p1, fun k hk h0 ht hv => ?_, fun k hk h0 ht hv hcl => ?_⟩, h.2⟩
  · obtain ⟨q1, q2, q3, q4, q5⟩ := h.1.wb k hk
    exact ⟨q1, q2, q3, q4, by rw [ec k (fun q => hw (q ▸ hk))]; exact q5⟩
  · by_cases q : k = c
    · rw [q]; exact h3
    · rw [ec k q] at hv; exact h.1.p3 k hk h0 ht hv
  · have hkc : k ≠ c := fun q => by
      rw [q] at hcl
      have : scl (clP c S) c = true := if_pos rfl
      rw [this] at hcl; cases hcl
    rw [ec k hkc] at hcl
    exact h.1.p9 k hk h0 ht hv hcl
/-- what flowPlainBlock writes before it looks at the edge -/
def enS (F p : Nat) (m kn wd lf : Int32) (σ : Sto) : Sto :=
  wR (wR (wI (wI (wI (wI (wI (wI σ 201 F (mx (zI σ 201 F) m)) 202 F (mn (zI σ 202 F) m)) 704 p kn) 702 p wd) 700 p lf) 709 p 0) 710 p (zR σ 203 F)) 203 F (some p)
theorem enS_I {F p m kn wd lf σ} {g : Nat} (h1 : g ≠ 201) (h2 : g ≠ 202) (h3 : g ≠ 704) (h4 : g ≠ 702) (h5 : g ≠ 700) (h6 : g ≠ 709) : zI (enS F p m kn wd lf σ) g = zI σ g := by
  funext a
  unfold enS
  rw [rIR, rIR, rIn h6, rIn h5, rIn h4, rIn h3, rIn h2, rIn h1]
theorem enS_b {F p m kn wd lf σ} {g a : Nat} (h : 203 < g) (ha : a ≠ p) : zI (enS F p m kn wd lf σ) g a = zI σ g a := by
  unfold enS
  rw [rIR, rIR, rIb ha, rIb ha, rIb ha, rIb ha, rIn (by omega), rIn (by omega)]
theorem enS_R {F p m kn wd lf σ} {g : Nat} (h1 : g ≠ 710) (h2 : g ≠ 203) : zR (enS F p m kn wd lf σ) g = zR σ g := by
  funext a
  unfold enS
  rw [rRn h2, rRn h1]
  rfl
theorem enS_203 {F p m kn wd lf σ} : zR (enS F p m kn wd lf σ) 203 F = some p := rRe
theorem enS_710 {F p m kn wd lf σ} : zR (enS F p m kn wd lf σ) 710 p = zR σ 203 F := (rRn (by decide)).trans rRe
theorem enS_710b {F p m kn wd lf σ} {a : Nat} (h : a ≠ p) : zR (enS F p m kn wd lf σ) 710 a = zR σ 710 a := (rRn (by decide)).trans ((rRb h).trans (rRI.trans (rRI.trans (rRI.trans (rRI.trans (rRI.trans rRI))))))
theorem enS_201 {F p m kn wd lf σ} : zI (enS F p m kn wd lf σ) 201 F = mx (zI σ 201 F) m := by
  unfold enS
  rw [rIR, rIR, rIn (by decide), rIn (by decide), rIn (by decide), rIn (by decide), rIn (by decide), rIe]
theorem enS_202 {F p m kn wd lf σ} : zI (enS F p m kn wd lf σ) 202 F = mn (zI σ 202 F) m := by
  unfold enS
  rw [rIR, rIR, rIn (by decide), rIn (by decide), rIn (by decide), rIn (by decide), rIe]
theorem enS_704 {F p m kn wd lf σ} : zI (enS F p m kn wd lf σ) 704 p = kn := by
  unfold enS
  rw [rIR, rIR, rIn (by decide), rIn (by decide), rIn (by decide), rIe]
theorem enS_702 {F p m kn wd lf σ} : zI (enS F p m kn wd lf σ) 702 p = wd := by
  unfold enS
  rw [rIR, rIR, rIn (by decide), rIn (by decide), rIe]
theorem enS_700 {F p m kn wd lf σ} : zI (enS F p m kn wd lf σ) 700 p = lf := by
  unfold enS
  rw [rIR, rIR, rIn (by decide), rIe]
theorem enS_709 {F p m kn wd lf σ} : zI (enS F p m kn wd lf σ) 709 p = 0 := by
  unfold enS
  rw [rIR, rIR, rIe]
theorem enS_Fm {O : Nat → Prop} {F p m kn wd lf σ} (hF : O F) (hp : O p) : Fm O σ (enS F p m kn wd lf σ) :=
  (((((((Fm.wI hF (by unfold stf; omega)).trans (Fm.wI hF (by unfold stf; omega))).trans (Fm.wI hp (by unfold stf; omega))).trans (Fm.wI hp (by unfold stf; omega))).trans (Fm.wI hp (by unfold stf; omega))).trans (Fm.wI hp (by unfold stf; omega))).trans (Fm.wR hp (by unfold stf; omega))).trans (Fm.wR hF (by unfold stf; omega))
def ent0P (D : Dt) (c : Nat) (S : FS) : FS := ent3P D c (sa S) (sh S) (ent1P D c S)
theorem enter_eq {D : Dt} {c : Nat} {S : FS} (hc : c < 12) : enterP D c S = if 0 < dst D c 10 then addY (dst D c 10) (endP (ent0P D c S)) else ent0P D c S := by
  unfold enterP ent2P ent0P
  split
  · obtain ⟨y, ab, be, w, a, h, ls, vi, lv, cl⟩ := S
    have e : ∀ (w : Nat → Bool) (a : Nat → Int32) (yy u v : Int32), setI (setI (topsP w a yy) c v) (32 + c) u = topsP w (setI (setI a c v) (32 + c) u) yy := fun w a yy u v => by
      funext j
      unfold topsP setI
      by_cases q1 : j = 32 + c
      · rw [if_pos q1, if_neg (by omega), if_pos q1]
      · by_cases q2 : j = c
        · rw [if_neg q1, if_pos q2, if_neg (by omega), if_neg q1, if_pos q2]
        · rw [if_neg q1, if_neg q2, if_neg q1, if_neg q2]
    show (_, _, _, _, setI (setI (topsP _ _ _) c _) (32 + c) _, _, _, _, _, _) = _
    rw [e]
    rfl
  · rfl
theorem ent0_sa {D : Dt} {c : Nat} {S : FS} : sa (ent0P D c S) = setI (setI (sa S) c (inP D (dpar D c) (sa S) + dst D c 9)) (32 + c) (wIn (dst D c 4) (sa S (32 + dpar D c)) (sa S (32 + dpar D c) - rimP D c)) := rfl
theorem ent0_sh {D : Dt} {c : Nat} {S : FS} : sh (ent0P D c S) = setI (sh S) c (hIn (dst D c 5) (sh S (dpar D c))) := rfl
theorem ent0_sw {D : Dt} {c : Nat} {S : FS} : sw (ent0P D c S) = setB (sw S) c true := rfl
theorem ent0_svi {D : Dt} {c : Nat} {S : FS} : svi (ent0P D c S) = setB (svi S) c true := rfl
theorem RR_enter {G O D X b S wl LL fr σ} {c : Nat} {m kn wd lf : Int32} (hD : DW D) (h : RR G O D X b S wl LL fr σ) (hc0 : 0 < c) (hc : c < dn D) (ht : dtx D c = false) (hv : svi S c = false) (hlv : slv S c = false) (hcl : scl S c = false)
    (em : m = dst D c 6) (ek : kn = hIn (dst D c 5) (sh S (dpar D c))) (ewd : wd = wIn (dst D c 4) (sa S (32 + dpar D c)) (sa S (32 + dpar D c) - rimP D c)) (elf : lf = inP D (dpar D c) (sa S) + dst D c 9) :
    RR G O D X b (ent0P D c S) (c :: wl) LL fr (enS (xF X b) (xpl X b c) m kn wd lf σ) ∧ Fm O σ (enS (xF X b) (xpl X b c) m kn wd lf σ) := by
  have hn := hD.2.1
  have f : Fm O σ (enS (xF X b) (xpl X b c) m kn wd lf σ) := enS_Fm h.1.ow.2.1 (h.1.ow.2.2.1 c hc)
  have ne : ∀ k, k < dn D → k ≠ c → xpl X b k ≠ xpl X b c := fun k hk q z => q (h.1.ns.d.pl b b k c hk hc z).2
  have ea : ∀ j, j ≠ c → j ≠ 32 + c → sa (ent0P D c S) j = sa S j := fun j h1 h2 => by rw [ent0_sa]; unfold setI; rw [if_neg h2, if_neg h1]
  have eac : sa (ent0P D c S) c = lf := by rw [ent0_sa, elf]; unfold setI; rw [if_neg (by omega), if_pos rfl]
  have eaw : sa (ent0P D c S) (32 + c) = wd := by rw [ent0_sa, ewd]; unfold setI; rw [if_pos rfl]
  have ehc : sh (ent0P D c S) c = kn := by rw [ent0_sh, ek]; exact if_pos rfl
  have ehk : ∀ k, k ≠ c → sh (ent0P D c S) k = sh S k := fun k q => if_neg q
  have evk : ∀ k, k ≠ c → svi (ent0P D c S) k = svi S k := fun k q => if_neg q
  have ewk : ∀ k, k ≠ c → sw (ent0P D c S) k = sw S k := fun k q => if_neg q
  have ewc : sw (ent0P D c S) c = true := if_pos rfl
  have hcw : c ∉ wl := fun q => by have := (h.1.wb c q).2.2.2.1; rw [hv] at this; cases this
  refine ⟨⟨⟨h.1.ns.fm f, h.1.ow.fm f, ?_, ?_, ?_, by rw [enS_R (by decide) (by decide)]; exact h.1.f0, by rw [enS_R (by decide) (by decide)]; exact h.1.l0, ?_, List.nodup_cons.mpr ⟨hcw, h.1.wn⟩, fun k => ?_, fun k hk => ?_, fun k hk ht' hv' => ?_, fun k hk h0 ht' hv' => ?_, fun k hk h0 ht' hv' hw' => ?_, fun k hk h0 ht' hv' => ?_, fun k hk h0 ht' hv' hcl' => ?_⟩, ?_⟩, f⟩
  · rw [enS_I (by decide) (by decide) (by decide) (by decide) (by decide) (by decide)]; exact h.1.y
  · rw [enS_201, h.1.ab, em]; rfl
  · rw [enS_202, h.1.be, em]; rfl
  · rw [enS_203]
    refine ⟨rfl, ⟨0, f.T ((h.1.ns.k c hc).plT b)⟩, ?_⟩
    rw [enS_710]
    refine h.1.wt.to (fun p hp => ?_)
    obtain ⟨j, hj, rfl⟩ := List.mem_map.mp hp
    have hjn := (h.1.wb j hj).2.1
    exact ⟨(f.T ((h.1.ns.k j hjn).plT b)).trans ((h.1.ns.k j hjn).plT b).symm, enS_710b (ne j hjn (fun q => hcw (q ▸ hj)))⟩
  · by_cases q : k = c
    · rw [q]; exact ⟨fun _ => List.mem_cons_self, fun _ => ewc⟩
    · rw [ewk k q, h.1.ww k]
      exact ⟨fun z => List.mem_cons_of_mem _ z, fun z => (List.mem_cons.mp z).resolve_left q⟩
  · rcases List.mem_cons.mp hk with q | q
    · rw [q]
      exact ⟨hc0, hc, ht, if_pos rfl, hcl⟩
    · obtain ⟨q1, q2, q3, q4, q5⟩ := h.1.wb k q
      exact ⟨q1, q2, q3, by rw [evk k (fun z => hcw (z ▸ q))]; exact q4, q5⟩
  · by_cases q : k = c
    · rw [q, enS_702, enS_704, eaw, ehc]; exact ⟨rfl, rfl⟩
    · rw [evk k q] at hv'
      rw [enS_b (by decide) (ne k hk q), enS_b (by decide) (ne k hk q), ea _ (by omega) (by omega), ehk k q]
      exact h.1.p2 k hk ht' hv'
  · by_cases q : k = c
    · rw [q, enS_700, eac]
    · rw [evk k q] at hv'
      rw [enS_b (by decide) (ne k hk q), ea _ (by omega) (by omega)]
      exact h.1.p0 k hk h0 ht' hv'
  · by_cases q : k = c
    · rw [q, ewc] at hw'; cases hw'
    · rw [evk k q] at hv'
      rw [ewk k q] at hw'
      rw [enS_b (by decide) (ne k hk q), ea _ (by omega) (by omega)]
      exact h.1.p1 k hk h0 ht' hv' hw'
  · have q : k ≠ c := fun q => by
      have hv' : scl S k = true := hv'
      rw [q, hcl] at hv'; cases hv'
    rw [enS_b (by decide) (ne k hk q), ea _ (by omega) (by omega)]
    exact h.1.p3 k hk h0 ht' hv'
  · by_cases q : k = c
    · rw [q, enS_709, ewc]; rfl
    · rw [evk k q] at hv'
      rw [enS_b (by decide) (ne k hk q), ewk k q]
      exact h.1.p9 k hk h0 ht' hv' hcl'
  · refine h.2.keep hD f (fun g hg => enS_I (by omega) (by omega) (by omega) (by omega) (by omega) (by omega)) (by rw [enS_I (by decide) (by decide) (by decide) (by decide) (by decide) (by decide)]) (fun g hg => enS_R (by omega) (by omega)) rfl rfl (fun k hk => evk k (fun q => by rw [q, ht] at hk; cases hk)) (fun k hk hs => ea _ (fun q => ?_) (by omega))
    rcases hs with z | z
    · rw [q, hlv] at z; cases z
    · rw [q, ht] at z; cases z
/-- a box's lines are freed before it is flown -/
theorem RR_beg {G O D X b S wl LL fr σ} {k : Nat} (hD : DW D) (h : RR G O D X b S wl LL fr σ) (hk : k < dn D) (ht : dtx D k = false) (hlv : slv S k = false) :
    RR G O D X b (begP k S) wl (setL LL k []) (LL k ++ fr) (flS (xLy X b) (xpl X b k) σ) ∧ Fm O σ (flS (xLy X b) (xpl X b k) σ) := by
  obtain ⟨g1, f, g3⟩ := flS_Ln h.1.ns h.1.ow h.2.ln hk
  refine ⟨⟨h.1.keep f (fun g _ _ => by rw [g3.1]) (g3.2 710 (by decide) (by decide) (by decide) (by decide)) (by rw [g3.2 203 (by decide) (by decide) (by decide) (by decide)]) (by rw [g3.2 204 (by decide) (by decide) (by decide) (by decide)]) (by rw [g3.2 218 (by decide) (by decide) (by decide) (by decide)]; exact h.1.l0) (by rw [g3.1]; exact h.1.y) (by rw [g3.1]; exact h.1.ab) (by rw [g3.1]; exact h.1.be) rfl (fun _ _ _ => ⟨rfl, rfl, rfl, rfl⟩) rfl (fun _ _ => rfl) rfl, g1, fun j h1 h2 h3 => ?_, fun j hj => ?_, fun c h1 h2 h3 h4 => ?_, by rw [g3.1]; exact h.2.th⟩, f⟩
  · rw [g3.1]
    by_cases q : j = k
    · rw [q, setL_self]
      exact ⟨(h.2.lz k hlv).symm, fun l hl => absurd hl List.not_mem_nil⟩
    · rw [setL_ne q]
      have h3 : setB (slv S) k true j = true := h3
      unfold setB at h3
      rw [if_neg q] at h3
      exact h.2.lc j h1 h2 h3
  · have hj : setB (slv S) k true j = false := hj
    unfold setB at hj
    split at hj
    · cases hj
    · exact h.2.lz j hj
  · obtain ⟨q1, l, q2⟩ := h.2.tx c h1 h2 h3 h4
    have hne : dpar D c ≠ k := fun q => by rw [q, hlv] at q1; cases q1
    rw [setL_ne hne, g3.1, g3.2 900 (by decide) (by decide) (by decide) (by decide)]
    refine ⟨?_, l, q2⟩
    show setB (slv S) k true (dpar D c) = true
    unfold setB
    rw [if_neg hne]
    exact q1

/-! THE LAW: its rows, its small methods (by wip/p27/gen_law1.py) -/
abbrev Lw := Nat × Nat × Nat × Nat × Nat × Nat × Nat × Nat × Nat
abbrev lwt (L : Lw) : Nat := L.1
abbrev lwm (L : Lw) : Nat := L.2.1
abbrev lwe (L : Lw) : Nat := L.2.2.1
abbrev lwg (L : Lw) : Nat := L.2.2.2.1
abbrev lwl (L : Lw) : Nat := L.2.2.2.2.1
abbrev lwa (L : Lw) : Nat := L.2.2.2.2.2.1
abbrev lwh (L : Lw) : Nat := L.2.2.2.2.2.2.1
abbrev lwq (L : Lw) : Nat := L.2.2.2.2.2.2.2.1
abbrev lwn (L : Lw) : Nat := L.2.2.2.2.2.2.2.2
def arL (L : Lw) : Nat → Nat
  | 0 => lwt L
  | 1 => lwm L
  | 2 => lwe L
  | 3 => lwg L
  | 4 => lwl L
  | 5 => lwa L
  | 6 => lwh L
  | 7 => lwq L
  | _ => lwn L
def lnL : Nat → Nat
  | 0 => 64
  | 1 => 48
  | 2 => 48
  | 3 => 32
  | 4 => 48
  | 5 => 64
  | 6 => 16
  | 7 => 8
  | _ => 64
def LT (L : Lw) (σ : Sto) : Prop := ∀ i, i < 9 → zT σ (arL L i) = (20, lnL i)
def LD (L : Lw) : Prop := ∀ i j, i < 9 → j < 9 → arL L i = arL L j → i = j
theorem LD.ne {L : Lw} (h : LD L) (i j : Nat) (hi : i < 9) (hj : j < 9) (hn : i ≠ j) : arL L i ≠ arL L j := fun q => hn (h i j hi hj q)
/-- the tree in the law's rows -/
def LI (D : Dt) (W : Int32) (L : Lw) (σ : Sto) : Prop := (∀ k, k < dn D → zA σ (lwt L) k = nI (dpar D k) ∧ zA σ (lwt L) (16 + k) = zb (dtx D k = true) ∧ zA σ (lwt L) (32 + k) = nI (dwc D k) ∧ (0 < k → zA σ (lwt L) (48 + k) = dsz D k) ∧ zA σ (lwg L) k = dst D k 4 ∧ zA σ (lwg L) (16 + k) = dst D k 5 ∧
  (∀ i, i < 4 → zA σ (lwm L) (4 * k + i) = dst D k (6 + i) ∧ zA σ (lwe L) (4 * k + i) = dst D k (10 + i)) ∧ (∀ i, i < dwc D k → zA σ (lwl L) (4 * k + i) = dln D k i)) ∧ zA σ (lwq L) 3 = nI (dn D) ∧ zA σ (lwq L) 4 = W
/-- what is reached, in the law's rows -/
def LR (L : Lw) (S : FS) (σ : Sto) : Prop := zA σ (lwq L) 0 = sy S ∧ zA σ (lwq L) 1 = sab S ∧ zA σ (lwq L) 2 = sbe S ∧ (∃ mk : Nat, mk < 4096 ∧ zA σ (lwq L) 5 = nI mk ∧ ∀ k, k < 12 → sw S k = mk.testBit k) ∧ zA σ (lwq L) 6 = nI (sls S).length ∧
  (∀ i, i < 64 → zA σ (lwa L) i = sa S i) ∧ (∀ i, i < 16 → zA σ (lwh L) i = sh S i) ∧ ∀ i e, (sls S)[i]? = some e → zA σ (lwn L) (3 * i) = nI e.1 ∧ zA σ (lwn L) (3 * i + 1) = e.2.1 ∧ zA σ (lwn L) (3 * i + 2) = e.2.2
def LB (D : Dt) (W : Int32) (L : Lw) (S : FS) (σ : Sto) : Prop := LT L σ ∧ LD L ∧ LI D W L σ ∧ LR L S σ
/-- what a laying out of the law's leaves as it was -/
def LF (L : Lw) (σ s : Sto) : Prop := s.1 = σ.1 ∧ zI s = zI σ ∧ zR s = zR σ ∧ zQ s = zQ σ ∧ (∀ c, c ≠ lwa L → c ≠ lwh L → c ≠ lwq L → c ≠ lwn L → zA s c = zA σ c) ∧ zA s (lwq L) 7 = zA σ (lwq L) 7
theorem LF.refl {L : Lw} {σ : Sto} : LF L σ σ := ⟨rfl, rfl, rfl, rfl, fun _ _ _ _ _ => rfl, rfl⟩
theorem LF.trans {L : Lw} {σ s t : Sto} (h : LF L σ s) (h' : LF L s t) : LF L σ t := ⟨h'.1.trans h.1, h'.2.1.trans h.2.1, h'.2.2.1.trans h.2.2.1, h'.2.2.2.1.trans h.2.2.2.1, fun c a b d e => (h'.2.2.2.2.1 c a b d e).trans (h.2.2.2.2.1 c a b d e), h'.2.2.2.2.2.trans h.2.2.2.2.2⟩
theorem LF.w {L : Lw} {σ s : Sto} {c i : Nat} {x : Int32} (h : LF L σ s) (hc : c = lwa L ∨ c = lwh L ∨ c = lwq L ∨ c = lwn L) (h7 : c = lwq L → i ≠ 7) : LF L σ (wA s c i x) :=
  ⟨h.1, h.2.1, h.2.2.1, h.2.2.2.1, fun d a1 a2 a3 a4 => (by funext j; exact rAb (fun q => by rw [q] at a1 a2 a3 a4; rcases hc with z | z | z | z; exact a1 z; exact a2 z; exact a3 z; exact a4 z) : zA (wA s c i x) d = zA s d).trans (h.2.2.2.2.1 d a1 a2 a3 a4), by
    by_cases z : c = lwq L
    · rw [z, rAn (fun q => h7 z q.symm)]; exact h.2.2.2.2.2
    · rw [rAb (fun q => z q.symm)]; exact h.2.2.2.2.2⟩
theorem LI.to {D W} {L : Lw} {σ s : Sto} (h : LI D W L σ) (ht : zA s (lwt L) = zA σ (lwt L)) (hm : zA s (lwm L) = zA σ (lwm L)) (he : zA s (lwe L) = zA σ (lwe L)) (hg : zA s (lwg L) = zA σ (lwg L)) (hl : zA s (lwl L) = zA σ (lwl L)) (h3 : zA s (lwq L) 3 = zA σ (lwq L) 3) (h4 : zA s (lwq L) 4 = zA σ (lwq L) 4) : LI D W L s := by
  refine ⟨fun k hk => ?_, h3.trans h.2.1, h4.trans h.2.2⟩
  rw [ht, hm, he, hg, hl]
  exact h.1 k hk
theorem LI.w {D W} {L : Lw} {σ : Sto} {c i : Nat} {x : Int32} (h : LI D W L σ) (hd : LD L) (j : Nat) (hj : 5 ≤ j ∧ j < 9) (hc : c = arL L j) (h3 : j = 7 → i ≠ 3 ∧ i ≠ 4) : LI D W L (wA σ c i x) := by
  have kp : ∀ u, u < 5 → zA (wA σ c i x) (arL L u) = zA σ (arL L u) := fun u hu => by
    funext z; rw [hc]; exact rAb (hd.ne u j (by omega) hj.2 (by omega))
  refine h.to (kp 0 (by decide)) (kp 1 (by decide)) (kp 2 (by decide)) (kp 3 (by decide)) (kp 4 (by decide)) ?_ ?_
  · by_cases z : j = 7
    · exact rAn (fun q => (h3 z).1 q.symm)
    · rw [hc]; exact rAb (hd.ne 7 j (by decide) hj.2 (fun q => z q.symm))
  · by_cases z : j = 7
    · exact rAn (fun q => (h3 z).2 q.symm)
    · rw [hc]; exact rAb (hd.ne 7 j (by decide) hj.2 (fun q => z q.symm))
def setH (k : Nat) (x : Int32) : FS → FS
  | (y, ab, be, w, a, h, ls, vi, lv, cl) => (y, ab, be, w, a, setI h k x, ls, vi, lv, cl)
def setAb (x : Int32) : FS → FS
  | (y, _, be, w, a, h, ls, vi, lv, cl) => (y, x, be, w, a, h, ls, vi, lv, cl)
def setBe (x : Int32) : FS → FS
  | (y, ab, _, w, a, h, ls, vi, lv, cl) => (y, ab, x, w, a, h, ls, vi, lv, cl)
def setW (w : Nat → Bool) : FS → FS
  | (y, ab, be, _, a, h, ls, vi, lv, cl) => (y, ab, be, w, a, h, ls, vi, lv, cl)
def addLs (e : Nat × Int32 × Int32) : FS → FS
  | (y, ab, be, w, a, h, ls, vi, lv, cl) => (y, ab, be, w, a, h, ls ++ [e], vi, lv, cl)
theorem LB.T {D W} {L : Lw} {S : FS} {σ : Sto} (h : LB D W L S σ) (i : Nat) (hi : i < 9) : zT σ (arL L i) = (20, lnL i) := h.1 i hi
theorem LB.Tt {D W} {L : Lw} {S : FS} {σ : Sto} (h : LB D W L S σ) : zT σ (lwt L) = (20, 64) := h.1 0 (by decide)
theorem LB.Tm {D W} {L : Lw} {S : FS} {σ : Sto} (h : LB D W L S σ) : zT σ (lwm L) = (20, 48) := h.1 1 (by decide)
theorem LB.Te {D W} {L : Lw} {S : FS} {σ : Sto} (h : LB D W L S σ) : zT σ (lwe L) = (20, 48) := h.1 2 (by decide)
theorem LB.Tg {D W} {L : Lw} {S : FS} {σ : Sto} (h : LB D W L S σ) : zT σ (lwg L) = (20, 32) := h.1 3 (by decide)
theorem LB.Tl {D W} {L : Lw} {S : FS} {σ : Sto} (h : LB D W L S σ) : zT σ (lwl L) = (20, 48) := h.1 4 (by decide)
theorem LB.Ta {D W} {L : Lw} {S : FS} {σ : Sto} (h : LB D W L S σ) : zT σ (lwa L) = (20, 64) := h.1 5 (by decide)
theorem LB.Th {D W} {L : Lw} {S : FS} {σ : Sto} (h : LB D W L S σ) : zT σ (lwh L) = (20, 16) := h.1 6 (by decide)
theorem LB.Tq {D W} {L : Lw} {S : FS} {σ : Sto} (h : LB D W L S σ) : zT σ (lwq L) = (20, 8) := h.1 7 (by decide)
theorem LB.Tn {D W} {L : Lw} {S : FS} {σ : Sto} (h : LB D W L S σ) : zT σ (lwn L) = (20, 64) := h.1 8 (by decide)
theorem LB.a {D W} {L : Lw} {S : FS} {σ : Sto} {i : Nat} {x : Int32} (h : LB D W L S σ) (hi : i < 64) : LB D W L (setA i x S) (wA σ (lwa L) i x) := by
  obtain ⟨y, ab, be, w, a, hh, ls, vi, lv, cl⟩ := S
  obtain ⟨h1, h2, h3, g1, g2, g3, g4, g5, g6, g7, g8⟩ := h
  have nq : lwq L ≠ lwa L := h2.ne 7 5 (by decide) (by decide) (by decide)
  have nh : lwh L ≠ lwa L := h2.ne 6 5 (by decide) (by decide) (by decide)
  have nn : lwn L ≠ lwa L := h2.ne 8 5 (by decide) (by decide) (by decide)
  refine ⟨h1, h2, h3.w h2 5 (by decide) rfl (fun q => absurd q (by decide)), (rAb nq).trans g1, (rAb nq).trans g2, (rAb nq).trans g3, ?_, (rAb nq).trans g5, fun j hj => ?_, fun j hj => (rAb nh).trans (g7 j hj), fun j e he => ?_⟩
  · obtain ⟨mk, m1, m2, m3⟩ := g4
    exact ⟨mk, m1, (rAb nq).trans m2, m3⟩
  · show zA (wA σ (lwa L) i x) (lwa L) j = if j = i then x else a j
    by_cases z : j = i
    · rw [if_pos z, z]; exact rAe
    · rw [if_neg z, rAn z]; exact g6 j hj
  · obtain ⟨e1, e2, e3⟩ := g8 j e he
    exact ⟨(rAb nn).trans e1, (rAb nn).trans e2, (rAb nn).trans e3⟩
theorem LB.h {D W} {L : Lw} {S : FS} {σ : Sto} {i : Nat} {x : Int32} (h : LB D W L S σ) (hi : i < 16) : LB D W L (setH i x S) (wA σ (lwh L) i x) := by
  obtain ⟨y, ab, be, w, a, hh, ls, vi, lv, cl⟩ := S
  obtain ⟨h1, h2, h3, g1, g2, g3, g4, g5, g6, g7, g8⟩ := h
  have nq : lwq L ≠ lwh L := h2.ne 7 6 (by decide) (by decide) (by decide)
  have na : lwa L ≠ lwh L := h2.ne 5 6 (by decide) (by decide) (by decide)
  have nn : lwn L ≠ lwh L := h2.ne 8 6 (by decide) (by decide) (by decide)
  refine ⟨h1, h2, h3.w h2 6 (by decide) rfl (fun q => absurd q (by decide)), (rAb nq).trans g1, (rAb nq).trans g2, (rAb nq).trans g3, ?_, (rAb nq).trans g5, fun j hj => (rAb na).trans (g6 j hj), fun j hj => ?_, fun j e he => ?_⟩
  · obtain ⟨mk, m1, m2, m3⟩ := g4
    exact ⟨mk, m1, (rAb nq).trans m2, m3⟩
  · show zA (wA σ (lwh L) i x) (lwh L) j = if j = i then x else hh j
    by_cases z : j = i
    · rw [if_pos z, z]; exact rAe
    · rw [if_neg z, rAn z]; exact g7 j hj
  · obtain ⟨e1, e2, e3⟩ := g8 j e he
    exact ⟨(rAb nn).trans e1, (rAb nn).trans e2, (rAb nn).trans e3⟩
theorem LB.q {D W} {L : Lw} {S S' : FS} {σ : Sto} {i : Nat} {x : Int32} (h : LB D W L S σ) (hi : i ≠ 3 ∧ i ≠ 4) (ea : sa S' = sa S) (eh : sh S' = sh S) (el : sls S' = sls S) (e0 : (if i = 0 then x else sy S) = sy S') (e1 : (if i = 1 then x else sab S) = sab S') (e2 : (if i = 2 then x else sbe S) = sbe S') (e6 : i ≠ 6)
    (e5 : if i = 5 then ∃ mk : Nat, mk < 4096 ∧ x = nI mk ∧ ∀ k, k < 12 → sw S' k = mk.testBit k else sw S' = sw S) : LB D W L S' (wA σ (lwq L) i x) := by
  obtain ⟨h1, h2, h3, g1, g2, g3, g4, g5, g6, g7, g8⟩ := h
  have na : lwa L ≠ lwq L := h2.ne 5 7 (by decide) (by decide) (by decide)
  have nh : lwh L ≠ lwq L := h2.ne 6 7 (by decide) (by decide) (by decide)
  have nn : lwn L ≠ lwq L := h2.ne 8 7 (by decide) (by decide) (by decide)
  have rq : ∀ j v, zA σ (lwq L) j = v → ∀ v', (if i = j then x else v) = v' → zA (wA σ (lwq L) i x) (lwq L) j = v' := fun j v hv v' hv' => by
    by_cases z : i = j
    · rw [if_pos z] at hv'; rw [← z, ← hv']; exact rAe
    · rw [if_neg z] at hv'; rw [rAn (fun q => z q.symm), hv, hv']
  refine ⟨h1, h2, h3.w h2 7 (by decide) rfl (fun _ => hi), rq 0 _ g1 _ e0, rq 1 _ g2 _ e1, rq 2 _ g3 _ e2, ?_, by rw [el]; exact rq 6 _ g5 _ (if_neg e6), fun j hj => by rw [ea]; exact (rAb na).trans (g6 j hj), fun j hj => by rw [eh]; exact (rAb nh).trans (g7 j hj), fun j e he => ?_⟩
  · by_cases z : i = 5
    · rw [if_pos z] at e5
      obtain ⟨mk, m1, m2, m3⟩ := e5
      exact ⟨mk, m1, by rw [z]; exact (rAe).trans m2, m3⟩
    · rw [if_neg z] at e5
      obtain ⟨mk, m1, m2, m3⟩ := g4
      exact ⟨mk, m1, (rAn (fun q => z q.symm)).trans m2, by rw [e5]; exact m3⟩
  · rw [el] at he
    obtain ⟨e1, e2, e3⟩ := g8 j e he
    exact ⟨(rAb nn).trans e1, (rAb nn).trans e2, (rAb nn).trans e3⟩
theorem LB.q0 {D W} {L : Lw} {S : FS} {σ : Sto} {x : Int32} (h : LB D W L S σ) : LB D W L (setY x S) (wA σ (lwq L) 0 x) := by
  obtain ⟨y, ab, be, w, a, hh, ls, vi, lv, cl⟩ := S
  exact h.q (by decide) rfl rfl rfl rfl rfl rfl (by decide) rfl
theorem LB.q1 {D W} {L : Lw} {S : FS} {σ : Sto} {x : Int32} (h : LB D W L S σ) : LB D W L (setAb x S) (wA σ (lwq L) 1 x) := by
  obtain ⟨y, ab, be, w, a, hh, ls, vi, lv, cl⟩ := S
  exact h.q (by decide) rfl rfl rfl rfl rfl rfl (by decide) rfl
theorem LB.q2 {D W} {L : Lw} {S : FS} {σ : Sto} {x : Int32} (h : LB D W L S σ) : LB D W L (setBe x S) (wA σ (lwq L) 2 x) := by
  obtain ⟨y, ab, be, w, a, hh, ls, vi, lv, cl⟩ := S
  exact h.q (by decide) rfl rfl rfl rfl rfl rfl (by decide) rfl
theorem LB.q5 {D W} {L : Lw} {S : FS} {σ : Sto} {x : Int32} {w' : Nat → Bool} (h : LB D W L S σ) (hx : ∃ mk : Nat, mk < 4096 ∧ x = nI mk ∧ ∀ k, k < 12 → w' k = mk.testBit k) : LB D W L (setW w' S) (wA σ (lwq L) 5 x) := by
  obtain ⟨y, ab, be, w, a, hh, ls, vi, lv, cl⟩ := S
  exact h.q (by decide) rfl rfl rfl rfl rfl rfl (by decide) hx
/-- the law reads nothing of these -/
theorem LB.ig {D W} {L : Lw} {S S' : FS} {σ : Sto} (h : LB D W L S σ) (e0 : sy S' = sy S) (e1 : sab S' = sab S) (e2 : sbe S' = sbe S) (e3 : ∀ k, k < 12 → sw S' k = sw S k) (e4 : ∀ i, i < 64 → sa S' i = sa S i) (e5 : ∀ i, i < 16 → sh S' i = sh S i) (e6 : sls S' = sls S) : LB D W L S' σ := by
  obtain ⟨h1, h2, h3, g1, g2, g3, ⟨mk, m1, m2, m3⟩, g5, g6, g7, g8⟩ := h
  exact ⟨h1, h2, h3, by rw [e0]; exact g1, by rw [e1]; exact g2, by rw [e2]; exact g3, ⟨mk, m1, m2, fun k hk => by rw [e3 k hk]; exact m3 k hk⟩, by rw [e6]; exact g5, fun i hi => by rw [e4 i hi]; exact g6 i hi, fun i hi => by rw [e5 i hi]; exact g7 i hi, by rw [e6]; exact g8⟩
theorem LB.of_fm {D W} {L : Lw} {S : FS} {σ s : Sto} (h : LB D W L S σ) (hT : ∀ a, (zT σ a).1 ≠ 0 → zT s a = zT σ a) (hA : ∀ i, i < 9 → zA s (arL L i) = zA σ (arL L i)) : LB D W L S s := by
  obtain ⟨h1, h2, h3, g1, g2, g3, ⟨mk, m1, m2, m3⟩, g5, g6, g7, g8⟩ := h
  have q : zA s (lwq L) = zA σ (lwq L) := hA 7 (by decide)
  have a : zA s (lwa L) = zA σ (lwa L) := hA 5 (by decide)
  have hh : zA s (lwh L) = zA σ (lwh L) := hA 6 (by decide)
  have n : zA s (lwn L) = zA σ (lwn L) := hA 8 (by decide)
  exact ⟨fun i hi => (hT _ (by rw [h1 i hi]; exact (by decide : (20 : Nat) ≠ 0))).trans (h1 i hi), h2, h3.to (hA 0 (by decide)) (hA 1 (by decide)) (hA 2 (by decide)) (hA 3 (by decide)) (hA 4 (by decide)) (by rw [q]) (by rw [q]), by rw [q]; exact g1, by rw [q]; exact g2, by rw [q]; exact g3, ⟨mk, m1, by rw [q]; exact m2, m3⟩, by rw [q]; exact g5, by rw [a]; exact g6, by rw [hh]; exact g7, by rw [n]; exact g8⟩
theorem vp_lt {x : Int32} {n : Nat} (h0 : 0 ≤ x.toInt) (hn : n < 2147483648) (h : ¬ nI n ≤ x) : vp_in x n := by
  have h2 : ¬ ((n : Int) ≤ x.toInt) := fun q => h (Int32.le_iff_toInt_le.mpr (by rw [nI_toInt hn]; exact q))
  have e : x = nI x.toInt.toNat := Int32.toInt_inj.mp (by rw [nI_toInt (by omega)]; omega)
  rw [e]
  exact vp_in_nI (by omega) hn
set_option maxRecDepth 100000 in
set_option maxHeartbeats 4000000 in
theorem c_L_cell (l : Launch) (G : Gb) (b n : Nat) (x : Int32) (σ : Sto) (hB : zT σ b = (25, n)) (hn : n < 1000) (hx : 0 ≤ x.toInt) : Ct l G 1 0 0 yL_cell mL_cell [.ref b, .int x] σ (fun v s => ∃ y, v = some (.int y) ∧ s = σ) := by
  refine Ct.of (by decide) rfl (Nat.le_of_ble_eq_true rfl) (fun h => absurd h (by decide)) ?_
  show Wp l G 1 0 0 (RL, cL_cell, 2, (some .int), false) 0 [(0, .ref b), (1, .int x)] [] σ _
  refine zp_iload_n dL_cell_0 rfl (x := x) (List.mem_of_getElem? (i := 1) rfl) ?_
  refine zp_aload_n dL_cell_1 rfl (a := b) (List.mem_of_getElem? (i := 0) rfl) ?_
  refine zp_alen dL_cell_2 hB (Or.inr (Or.inl rfl)) (v := (nI n)) rfl ?_
  refine zp_icmp_ge dL_cell_3 (tgt := 12) rfl (fun hc => ?_) (fun hc => ?_)
  · skip
    refine zp_ldc dL_cell_12 wd_1100 ?_
    refine zp_iload_n dL_cell_14 rfl (x := x) (List.mem_of_getElem? (i := 1) rfl) ?_
    refine zp_bipush dL_cell_15 (v := 47) (by decide) ?_
    refine zp_iadd dL_cell_17 ?_
    refine zp_imul dL_cell_18 ?_
    refine zp_ldc dL_cell_19 wd_1101 ?_
    refine zp_iadd dL_cell_21 ?_
    refine zp_iret rfl dL_cell_22 ?_
    exact ⟨_, rfl, rfl⟩
  · skip
    refine zp_aload_n dL_cell_6 rfl (a := b) (List.mem_of_getElem? (i := 0) rfl) ?_
    refine zp_iload_n dL_cell_7 rfl (x := x) (List.mem_of_getElem? (i := 1) rfl) ?_
    refine zp_iald_n dL_cell_8 hB (Or.inr rfl) (j := x.toNatClampNeg) rfl (vp_lt hx (by omega) hc) (fun y hy => ?_)
    refine zp_goto dL_cell_9 (tgt := 22) rfl ?_
    refine zp_iret rfl dL_cell_22 ?_
    exact ⟨_, rfl, rfl⟩
theorem and_nn (v : Int32) : ∃ a : Nat, a < 2147483648 ∧ v &&& 2147483647 = nI a := by
  have hm : (v &&& 2147483647).toBitVec.msb = false := by
    rw [Int32.toBitVec_and, BitVec.msb_and, show (2147483647 : Int32).toBitVec.msb = false from rfl, Bool.and_false]
  have h : (v &&& 2147483647).toInt = ((v &&& 2147483647).toBitVec.toNat : Int) := BitVec.toInt_eq_toNat_of_msb hm
  have h2 := BitVec.toNat_lt_of_msb_false hm
  exact ⟨(v &&& 2147483647).toBitVec.toNat, h2, Int32.toInt_inj.mp (by rw [h, nI_toInt h2])⟩
set_option maxRecDepth 100000 in
set_option maxHeartbeats 4000000 in
theorem c_L_low (l : Launch) (G : Gb) (v : Int32) (d : Nat) (σ : Sto) (hd : 0 < d) (hd2 : d < 1000) : Ct l G 1 0 0 yL_low mL_low [.int v, .int (nI d)] σ (fun w s => (∃ x, x < d ∧ w = some (.int (nI x))) ∧ s = σ) := by
  refine Ct.of (by decide) rfl (Nat.le_of_ble_eq_true rfl) (fun h => absurd h (by decide)) ?_
  obtain ⟨a, ha2, ha⟩ := and_nn v
  show Wp l G 1 0 0 (RL, cL_low, 2, (some .int), false) 0 [(0, .int v), (1, .int (nI d))] [] σ _
  refine zp_iload_n dL_low_0 rfl (x := v) (List.mem_of_getElem? (i := 0) rfl) ?_
  refine zp_ldc dL_low_1 wd_1105 ?_
  refine zp_iand dL_low_3 ?_
  rw [show ((v &&& 2147483647) : Int32) = (nI a) from ha]
  refine zp_iload_n dL_low_4 rfl (x := (nI d)) (List.mem_of_getElem? (i := 1) rfl) ?_
  refine zp_irem dL_low_5 (fun q => by have := nI_inj (k := 0) (by omega) (by decide) q; omega) ?_
  rw [show (((nI a) - (nI a) / (nI d) * (nI d)) : Int32) = (nI (a % d)) from pk_rem (by omega) (by omega) (by omega)]
  refine zp_iret rfl dL_low_6 ?_
  exact ⟨⟨a % d, Nat.mod_lt _ hd, rfl⟩, rfl⟩
theorem mx_l {x m : Int32} (h : m ≤ x) : mx x m = x := if_neg (i_nlt h)
theorem mx_r {x m : Int32} (h : ¬ m ≤ x) : mx x m = m := if_pos (Int32.not_le.mp h)
theorem mn_l {x m : Int32} (h : x ≤ m) : mn x m = x := if_neg (i_nlt h)
theorem mn_r {x m : Int32} (h : ¬ x ≤ m) : mn x m = m := if_pos (Int32.not_le.mp h)
theorem m0_l {x : Int32} (h : x ≤ 0) : mx 0 x = 0 := mx_l h
theorem m0_r {x : Int32} (h : ¬ x ≤ 0) : mx 0 x = x := mx_r h
set_option maxRecDepth 100000 in
set_option maxHeartbeats 4000000 in
theorem c_L_pends (l : Launch) (G : Gb) (m : Int32) (q : Nat) (σ : Sto) (hQ : zT σ q = (20, 8)) : Ct l G 1 0 0 yL_pends mL_pends [.int m, .ref q] σ (fun v s => v = none ∧ s = wA (wA σ q 1 (mx (zA σ q 1) m)) q 2 (mn (zA σ q 2) m)) := by
  refine Ct.of (by decide) rfl (Nat.le_of_ble_eq_true rfl) (fun h => absurd h (by decide)) ?_
  show Wp l G 1 0 0 (RL, cL_pends, 2, none, false) 0 [(0, .int m), (1, .ref q)] [] σ _
  refine zp_aload_n dL_pends_0 rfl (a := q) (List.mem_of_getElem? (i := 1) rfl) ?_
  refine zp_iconst dL_pends_1 (v := 1) (by decide) ?_
  refine zp_iload_n dL_pends_2 rfl (x := m) (List.mem_of_getElem? (i := 0) rfl) ?_
  refine zp_aload_n dL_pends_3 rfl (a := q) (List.mem_of_getElem? (i := 1) rfl) ?_
  refine zp_iconst dL_pends_4 (v := 1) (by decide) ?_
  refine zp_iald_v dL_pends_5 hQ (Or.inl rfl) (j := 1) (by decide) (zin (by decide)) (v := (zA σ q 1)) rfl ?_
  refine zp_icmp_le dL_pends_6 (tgt := 13) rfl (fun h1 => ?_) (fun h1 => ?_)
  · skip
    refine zp_aload_n dL_pends_13 rfl (a := q) (List.mem_of_getElem? (i := 1) rfl) ?_
    refine zp_iconst dL_pends_14 (v := 1) (by decide) ?_
    refine zp_iald_v dL_pends_15 hQ (Or.inl rfl) (j := 1) (by decide) (zin (by decide)) (v := (zA σ q 1)) rfl ?_
    refine zp_iastore dL_pends_16 hQ (j := 1) (by decide) (zin (by decide)) ?_
    refine zp_aload_n dL_pends_17 rfl (a := q) (List.mem_of_getElem? (i := 1) rfl) ?_
    refine zp_iconst dL_pends_18 (v := 2) (by decide) ?_
    refine zp_iload_n dL_pends_19 rfl (x := m) (List.mem_of_getElem? (i := 0) rfl) ?_
    refine zp_aload_n dL_pends_20 rfl (a := q) (List.mem_of_getElem? (i := 1) rfl) ?_
    refine zp_iconst dL_pends_21 (v := 2) (by decide) ?_
    refine zp_iald_v dL_pends_22 (tA hQ) (Or.inl rfl) (j := 2) (by decide) (zin (by decide)) (v := (zA σ q 2)) (rAn (by decide)) ?_
    refine zp_icmp_ge dL_pends_23 (tgt := 30) rfl (fun h2 => ?_) (fun h2 => ?_)
    · skip
      refine zp_aload_n dL_pends_30 rfl (a := q) (List.mem_of_getElem? (i := 1) rfl) ?_
      refine zp_iconst dL_pends_31 (v := 2) (by decide) ?_
      refine zp_iald_v dL_pends_32 (tA hQ) (Or.inl rfl) (j := 2) (by decide) (zin (by decide)) (v := (zA σ q 2)) (rAn (by decide)) ?_
      refine zp_iastore dL_pends_33 (tA hQ) (j := 2) (by decide) (zin (by decide)) ?_
      refine zp_vret rfl dL_pends_34 ?_
      first | exact ⟨rfl, by rw [mx_l h1, mn_l h2]⟩ | exact ⟨rfl, by rw [mx_l h1, mn_r h2]⟩ | exact ⟨rfl, by rw [mx_r h1, mn_l h2]⟩ | exact ⟨rfl, by rw [mx_r h1, mn_r h2]⟩
    · skip
      refine zp_iload_n dL_pends_26 rfl (x := m) (List.mem_of_getElem? (i := 0) rfl) ?_
      refine zp_goto dL_pends_27 (tgt := 33) rfl ?_
      refine zp_iastore dL_pends_33 (tA hQ) (j := 2) (by decide) (zin (by decide)) ?_
      refine zp_vret rfl dL_pends_34 ?_
      first | exact ⟨rfl, by rw [mx_l h1, mn_l h2]⟩ | exact ⟨rfl, by rw [mx_l h1, mn_r h2]⟩ | exact ⟨rfl, by rw [mx_r h1, mn_l h2]⟩ | exact ⟨rfl, by rw [mx_r h1, mn_r h2]⟩
  · skip
    refine zp_iload_n dL_pends_9 rfl (x := m) (List.mem_of_getElem? (i := 0) rfl) ?_
    refine zp_goto dL_pends_10 (tgt := 16) rfl ?_
    refine zp_iastore dL_pends_16 hQ (j := 1) (by decide) (zin (by decide)) ?_
    refine zp_aload_n dL_pends_17 rfl (a := q) (List.mem_of_getElem? (i := 1) rfl) ?_
    refine zp_iconst dL_pends_18 (v := 2) (by decide) ?_
    refine zp_iload_n dL_pends_19 rfl (x := m) (List.mem_of_getElem? (i := 0) rfl) ?_
    refine zp_aload_n dL_pends_20 rfl (a := q) (List.mem_of_getElem? (i := 1) rfl) ?_
    refine zp_iconst dL_pends_21 (v := 2) (by decide) ?_
    refine zp_iald_v dL_pends_22 (tA hQ) (Or.inl rfl) (j := 2) (by decide) (zin (by decide)) (v := (zA σ q 2)) (rAn (by decide)) ?_
    refine zp_icmp_ge dL_pends_23 (tgt := 30) rfl (fun h2 => ?_) (fun h2 => ?_)
    · skip
      refine zp_aload_n dL_pends_30 rfl (a := q) (List.mem_of_getElem? (i := 1) rfl) ?_
      refine zp_iconst dL_pends_31 (v := 2) (by decide) ?_
      refine zp_iald_v dL_pends_32 (tA hQ) (Or.inl rfl) (j := 2) (by decide) (zin (by decide)) (v := (zA σ q 2)) (rAn (by decide)) ?_
      refine zp_iastore dL_pends_33 (tA hQ) (j := 2) (by decide) (zin (by decide)) ?_
      refine zp_vret rfl dL_pends_34 ?_
      first | exact ⟨rfl, by rw [mx_l h1, mn_l h2]⟩ | exact ⟨rfl, by rw [mx_l h1, mn_r h2]⟩ | exact ⟨rfl, by rw [mx_r h1, mn_l h2]⟩ | exact ⟨rfl, by rw [mx_r h1, mn_r h2]⟩
    · skip
      refine zp_iload_n dL_pends_26 rfl (x := m) (List.mem_of_getElem? (i := 0) rfl) ?_
      refine zp_goto dL_pends_27 (tgt := 33) rfl ?_
      refine zp_iastore dL_pends_33 (tA hQ) (j := 2) (by decide) (zin (by decide)) ?_
      refine zp_vret rfl dL_pends_34 ?_
      first | exact ⟨rfl, by rw [mx_l h1, mn_l h2]⟩ | exact ⟨rfl, by rw [mx_l h1, mn_r h2]⟩ | exact ⟨rfl, by rw [mx_r h1, mn_l h2]⟩ | exact ⟨rfl, by rw [mx_r h1, mn_r h2]⟩
/-- the first child at j or behind -/
def nxj (D : Dt) (box j : Nat) : Nat := match j with
  | 0 => 0
  | j + 1 => (nx D box j).getD 0
theorem nxj_hit {D : Dt} {box j : Nat} (hj : j < dn D) (h0 : 0 < j) (h : dpar D j = box) : nxj D box j = j := by
  cases j with
  | zero => omega
  | succ j =>
    show (nx D box j).getD 0 = j + 1
    rw [nx_some.mpr ⟨hj, Nat.lt_succ_self _, h, fun i h1 h2 => by omega⟩]
    rfl
theorem nxj_miss {D : Dt} {box j : Nat} (hj : j < dn D) (h0 : 0 < j) (h : dpar D j ≠ box) : nxj D box j = nxj D box (j + 1) := by
  cases j with
  | zero => omega
  | succ j =>
    show (nx D box j).getD 0 = (nx D box (j + 1)).getD 0
    cases e : nx D box (j + 1) with
    | some c =>
      obtain ⟨c1, c2, c3, c4⟩ := nx_some.mp e
      rw [nx_some.mpr ⟨c1, by omega, c3, fun i h1 h2 => (by by_cases z : i = j + 1; rw [z]; exact h; exact c4 i (by omega) h2)⟩]
    | none =>
      have c := nx_none.mp e
      rw [nx_none.mpr (fun i h1 h2 => (by by_cases z : i = j + 1; rw [z]; exact h; exact c i (by omega) h2))]
theorem nxj_end {D : Dt} {box j : Nat} (hj : dn D ≤ j) : nxj D box j = 0 := by
  cases j with
  | zero => rfl
  | succ j =>
    show (nx D box j).getD 0 = 0
    rw [nx_none.mpr (fun i h1 h2 => by omega)]
    rfl
set_option maxHeartbeats 4000000 in
theorem l_next (l : Launch) {G : Gb} {D : Dt} {W : Int32} {L : Lw} {S : FS} {box : Nat} {b : Int32} {σ : Sto} (hn : dn D ≤ 12) (hB : LB D W L S σ) (hbx : box < 12) (hpar : ∀ k, k < dn D → dpar D k < 12) : ∀ (m j : Nat), j + m = dn D → 0 < j →
    Wp l G 1 0 0 (RL, cL_next, 5, (some .int), false) 5 [(4, .int (nI j)), (0, .int (nI box)), (1, .int b), (2, .ref (lwt L)), (3, .ref (lwq L))] [] σ (fun v s => v = some (.int (nI (nxj D box j))) ∧ s = σ) := by
  intro m
  induction m with
  | zero =>
    intro j hj h0
    rw [nxj_end (by omega)]
    show Wp l G 1 0 0 (RL, cL_next, 5, (some .int), false) 5 [(4, .int (nI j)), (0, .int (nI box)), (1, .int b), (2, .ref (lwt L)), (3, .ref (lwq L))] [] σ _
    refine zp_iload dL_next_5 (x := (nI j)) (List.mem_of_getElem? (i := 0) rfl) ?_
    refine zp_aload_n dL_next_7 rfl (a := (lwq L)) (List.mem_of_getElem? (i := 4) rfl) ?_
    refine zp_iconst dL_next_8 (v := 3) (by decide) ?_
    refine zp_iald_v dL_next_9 hB.Tq (Or.inl rfl) (j := 3) (by decide) (zin (by decide)) (v := (nI (dn D))) hB.2.2.1.2.1 ?_
    refine zp_icmp_ge dL_next_10 (tgt := 30) rfl (fun _ => ?_) (fun q => absurd ((nI_le' (by omega) (by omega)).mpr (by omega)) q)
    refine zp_iconst dL_next_30 (v := 0) (by decide) ?_
    refine zp_iret rfl dL_next_31 ?_
    exact ⟨rfl, rfl⟩
  | succ m ih =>
    intro j hj h0
    have e1 : dpar D j = box → nxj D box j = j := fun q => nxj_hit (by omega) h0 q
    have e2 : dpar D j ≠ box → nxj D box j = nxj D box (j + 1) := fun q => nxj_miss (by omega) h0 q
    have hpj := hpar j (by omega)
    show Wp l G 1 0 0 (RL, cL_next, 5, (some .int), false) 5 [(4, .int (nI j)), (0, .int (nI box)), (1, .int b), (2, .ref (lwt L)), (3, .ref (lwq L))] [] σ _
    refine zp_iload dL_next_5 (x := (nI j)) (List.mem_of_getElem? (i := 0) rfl) ?_
    refine zp_aload_n dL_next_7 rfl (a := (lwq L)) (List.mem_of_getElem? (i := 4) rfl) ?_
    refine zp_iconst dL_next_8 (v := 3) (by decide) ?_
    refine zp_iald_v dL_next_9 hB.Tq (Or.inl rfl) (j := 3) (by decide) (zin (by decide)) (v := (nI (dn D))) hB.2.2.1.2.1 ?_
    refine zp_icmp_ge dL_next_10 (tgt := 30) rfl (fun q => absurd q (fun q => by have := (nI_le' (by omega) (by omega)).mp q; omega)) (fun _ => ?_)
    refine zp_aload_n dL_next_13 rfl (a := (lwt L)) (List.mem_of_getElem? (i := 3) rfl) ?_
    refine zp_iload dL_next_14 (x := (nI j)) (List.mem_of_getElem? (i := 0) rfl) ?_
    refine zp_iald_v dL_next_16 hB.Tt (Or.inl rfl) (j := (j)) (nI_clamp (by omega)) (vp_in_nI (by omega) (by decide)) (v := (nI (dpar D j))) (hB.2.2.1.1 j (by omega)).1 ?_
    refine zp_iload_n dL_next_17 rfl (x := (nI box)) (List.mem_of_getElem? (i := 1) rfl) ?_
    refine zp_icmp_ne dL_next_18 (tgt := 24) rfl (fun hc => ?_) (fun hc => ?_)
    · skip
      refine zp_iinc dL_next_24 (k1 := 0) (x := (nI j)) rfl (v := (nI (j + 1))) (nI_1 j) (Nat.le_of_ble_eq_true rfl) (lv2 := [(4, .int (nI (j + 1))), (0, .int (nI box)), (1, .int b), (2, .ref (lwt L)), (3, .ref (lwq L))]) rfl ?_
      refine zp_goto dL_next_27 (tgt := 5) rfl ?_
      refine zp_lv [0, 1, 2, 3, 4] rfl ?_
      rw [e2 (fun q => hc (by rw [q]))]
      exact ih (j + 1) (by omega) (by omega)
    · skip
      refine zp_iload dL_next_21 (x := (nI j)) (List.mem_of_getElem? (i := 0) rfl) ?_
      refine zp_iret rfl dL_next_23 ?_
      exact ⟨by rw [e1 (nI_inj (by omega) (by omega) hc)], rfl⟩
set_option maxRecDepth 100000 in
set_option maxHeartbeats 4000000 in
theorem c_L_next (l : Launch) (G : Gb) (D : Dt) (W : Int32) (L : Lw) (S : FS) (box at_ : Nat) (σ : Sto) (hD : DW D) (hB : LB D W L S σ) (hbx : box < 12) (hat : at_ < dn D) : Ct l G 1 0 0 yL_next mL_next [.int (nI box), .int (nI at_), .ref (lwt L), .ref (lwq L)] σ (fun v s => v = some (.int (nI ((nx D box at_).getD 0))) ∧ s = σ) := by
  refine Ct.of (by decide) rfl (Nat.le_of_ble_eq_true rfl) (fun h => absurd h (by decide)) ?_
  have hn := hD.2.1
  have hpar : ∀ k, k < dn D → dpar D k < 12 := fun k hk => by
    by_cases z : k = 0
    · rw [z, hD.2.2.1]; decide
    · have := (hD.2.2.2.2.1 k (by omega) hk).1; omega
  show Wp l G 1 0 0 (RL, cL_next, 5, (some .int), false) 0 [(0, .int (nI box)), (1, .int (nI at_)), (2, .ref (lwt L)), (3, .ref (lwq L))] [] σ _
  refine zp_iload_n dL_next_0 rfl (x := (nI at_)) (List.mem_of_getElem? (i := 1) rfl) ?_
  refine zp_iconst dL_next_1 (v := 1) (by decide) ?_
  refine zp_iadd dL_next_2 ?_
  rw [show (((nI at_) + 1) : Int32) = (nI (at_ + 1)) from nI_add at_ 1]
  refine zp_istore dL_next_3 (Nat.le_of_ble_eq_true rfl) (lv2 := [(4, .int (nI (at_ + 1))), (0, .int (nI box)), (1, .int (nI at_)), (2, .ref (lwt L)), (3, .ref (lwq L))]) rfl ?_
  exact l_next l (S := S) hn hB hbx hpar (dn D - (at_ + 1)) (at_ + 1) (by omega) (by omega)
set_option maxRecDepth 100000 in
set_option maxHeartbeats 4000000 in
theorem c_L_inside (l : Launch) (G : Gb) (D : Dt) (W : Int32) (L : Lw) (S : FS) (k : Nat) (σ : Sto) (hn : dn D ≤ 12) (hB : LB D W L S σ) (hk : k < dn D) : Ct l G 1 0 0 yL_inside mL_inside [.int (nI k), .ref (lwa L), .ref (lwe L)] σ (fun v s => v = some (.int (inP D k (sa S))) ∧ s = σ) := by
  refine Ct.of (by decide) rfl (Nat.le_of_ble_eq_true rfl) (fun h => absurd h (by decide)) ?_
  show Wp l G 1 0 0 (RL, cL_inside, 3, (some .int), false) 0 [(0, .int (nI k)), (1, .ref (lwa L)), (2, .ref (lwe L))] [] σ _
  refine zp_iload_n dL_inside_0 rfl (x := (nI k)) (List.mem_of_getElem? (i := 0) rfl) ?_
  refine zp_if_ne dL_inside_1 (tgt := 8) rfl (fun h0 => ?_) (fun h0 => ?_)
  · skip
    refine zp_aload_n dL_inside_8 rfl (a := (lwa L)) (List.mem_of_getElem? (i := 1) rfl) ?_
    refine zp_iload_n dL_inside_9 rfl (x := (nI k)) (List.mem_of_getElem? (i := 0) rfl) ?_
    refine zp_iald_v dL_inside_10 hB.Ta (Or.inl rfl) (j := (k)) (nI_clamp (by omega)) (vp_in_nI (by omega) (by decide)) (v := (sa S k)) (hB.2.2.2.2.2.2.2.2.1 k (by omega)) ?_
    refine zp_aload_n dL_inside_11 rfl (a := (lwe L)) (List.mem_of_getElem? (i := 2) rfl) ?_
    refine zp_iconst dL_inside_12 (v := 4) (by decide) ?_
    refine zp_iload_n dL_inside_13 rfl (x := (nI k)) (List.mem_of_getElem? (i := 0) rfl) ?_
    refine zp_imul dL_inside_14 ?_
    rw [show ((4 * (nI k)) : Int32) = (nI (4 * k)) from pk_mul 4 k]
    refine zp_iconst dL_inside_15 (v := 3) (by decide) ?_
    refine zp_iadd dL_inside_16 ?_
    rw [show (((nI (4 * k)) + 3) : Int32) = (nI (4 * k + 3)) from nI_add (4 * k) 3]
    refine zp_iald_v dL_inside_17 hB.Te (Or.inl rfl) (j := (4 * k + 3)) (nI_clamp (by omega)) (vp_in_nI (by omega) (by decide)) (v := (dst D k 13)) ((hB.2.2.1.1 k hk).2.2.2.2.2.2.1 3 (by decide)).2 ?_
    refine zp_iadd dL_inside_18 ?_
    refine zp_iret rfl dL_inside_19 ?_
    exact ⟨by rw [show inP D k (sa S) = sa S k + dst D k 13 from if_neg (fun q => h0 (by rw [q]; rfl))], rfl⟩
  · skip
    refine zp_iconst dL_inside_4 (v := 0) (by decide) ?_
    refine zp_goto dL_inside_5 (tgt := 19) rfl ?_
    refine zp_iret rfl dL_inside_19 ?_
    exact ⟨by rw [show inP D k (sa S) = 0 from if_pos (nI_inj (k := 0) (by omega) (by decide) h0)], rfl⟩

/-! THE TREES THAT GROW (by wip/p27/gen_make1.py) -/
theorem DW.add {D : Dt} {up : Nat} {tx : Bool} {size : Int32} (hD : DW D) (hn : dn D < 12) (hup : up < dn D) (htu : dtx D up = false) (h1 : 1 ≤ size.toInt) (h20 : size.toInt ≤ 20) : DW (addD D up tx size) := by
  obtain ⟨d1, d2, d3, d4, d5, d6, d7, d8, d9, d10, d11, d12⟩ := hD
  refine ⟨by show 1 ≤ dn D + 1; omega, by show dn D + 1 ≤ 12; omega, (upd_o (by omega)).trans d3, (upd_o (by omega)).trans d4, fun k h0 hk => ?_, fun k => ?_, d7, fun k => ?_, fun k => ?_, fun k s h6 h9 => ?_, fun k s h10 h13 => ?_, fun k => ?_⟩
  · show upn (dpar D) (dn D) up k < k ∧ upn (dtx D) (dn D) tx (upn (dpar D) (dn D) up k) = false
    have hk : k < dn D + 1 := hk
    by_cases z : k = dn D
    · rw [z, upd_n, upd_o (by omega)]
      exact ⟨hup, htu⟩
    · rw [upd_o z]
      have q := d5 k h0 (by omega)
      rw [upd_o (by omega)]
      exact q
  · show upn (dwc D) (dn D) 0 k ≤ 4
    by_cases z : k = dn D
    · rw [z, upd_n]; decide
    · rw [upd_o z]; exact d6 k
  · show 1 ≤ (upn (dsz D) (dn D) size k).toInt ∧ (upn (dsz D) (dn D) size k).toInt ≤ 20
    by_cases z : k = dn D
    · rw [z, upd_n]; exact ⟨h1, h20⟩
    · rw [upd_o z]; exact d8 k
  · show ((-1 ≤ (upn (dst D) (dn D) fv k 4).toInt ∧ (upn (dst D) (dn D) fv k 4).toInt ≤ 60) ∨ (1000 ≤ (upn (dst D) (dn D) fv k 4).toInt ∧ (upn (dst D) (dn D) fv k 4).toInt ≤ 1100)) ∧ ((-1 ≤ (upn (dst D) (dn D) fv k 5).toInt ∧ (upn (dst D) (dn D) fv k 5).toInt ≤ 20) ∨ (1000 ≤ (upn (dst D) (dn D) fv k 5).toInt ∧ (upn (dst D) (dn D) fv k 5).toInt ≤ 1100))
    by_cases z : k = dn D
    · rw [z, upd_n]; decide
    · rw [upd_o z]; exact d9 k
  · show -15 ≤ (upn (dst D) (dn D) fv k s).toInt ∧ (upn (dst D) (dn D) fv k s).toInt ≤ 30
    by_cases z : k = dn D
    · rw [z, upd_n]
      have hs : s = 6 ∨ s = 7 ∨ s = 8 ∨ s = 9 := by omega
      rcases hs with rfl | rfl | rfl | rfl <;> decide
    · rw [upd_o z]; exact d10 k s h6 h9
  · show 0 ≤ (upn (dst D) (dn D) fv k s).toInt ∧ (upn (dst D) (dn D) fv k s).toInt ≤ 8
    by_cases z : k = dn D
    · rw [z, upd_n]
      have hs : s = 10 ∨ s = 11 ∨ s = 12 ∨ s = 13 := by omega
      rcases hs with rfl | rfl | rfl | rfl <;> decide
    · rw [upd_o z]; exact d11 k s h10 h13
  · by_cases z : k = dn D
    · have e : dst (addD D up tx size) k = fv := by rw [z]; exact upd_n
      rw [e]; decide
    · have e : dst (addD D up tx size) k = dst D k := upd_o z
      rw [e]; exact d12 k
theorem Uw_add {D : Dt} {up : Nat} {tx : Bool} {size : Int32} {v : Nat → Bool} : Uw (addD D up tx size) v (dn (addD D up tx size)) = Uw D v (dn D) := by
  have h : ∀ n, n ≤ dn D → Uw (addD D up tx size) v n = Uw D v n := fun n => by
    induction n with
    | zero => intro _; rfl
    | succ n ih =>
      intro hn
      rw [Uw_succ, Uw_succ, ih (by omega), show dtx (addD D up tx size) n = dtx D n from upd_o (by omega), show dwc (addD D up tx size) n = dwc D n from upd_o (by omega)]
  show Uw (addD D up tx size) v (dn D + 1) = _
  rw [Uw_succ, h _ (Nat.le_refl _), show dwc (addD D up tx size) (dn D) = 0 from upd_n]
  split <;> rfl
/-- the tree of a word more -/
abbrev wdD (D : Dt) (k : Nat) (v : Int32) : Dt := mkD D (swc D k) (sln D k v) (dst D)
theorem swc_e {D : Dt} {k : Nat} : swc D k k = dwc D k + 1 := if_pos rfl
theorem swc_o {D : Dt} {k j : Nat} (h : j ≠ k) : swc D k j = dwc D j := if_neg h
theorem Uw_wd {D : Dt} {k : Nat} {v : Int32} {hk : k < dn D} (ht : dtx D k = true) : Uw (wdD D k v) (fun _ => false) (dn (wdD D k v)) = Uw D (fun _ => false) (dn D) + 1 := by
  have h : ∀ n, Uw (wdD D k v) (fun _ => false) n = Uw D (fun _ => false) n + (if k < n then 1 else 0) := fun n => by
    induction n with
    | zero => rfl
    | succ n ih =>
      rw [Uw_succ, Uw_succ, ih]
      by_cases z : n = k
      · subst z
        rw [show dwc (wdD D n v) n = dwc D n + 1 from swc_e, if_neg (Nat.lt_irrefl n), if_pos (Nat.lt_succ_self n), if_neg (by rw [show dtx (wdD D n v) n = true from ht]; decide), if_neg (by rw [ht]; decide)]
        omega
      · rw [show dwc (wdD D k v) n = dwc D n from swc_o z, show dtx (wdD D k v) n = dtx D n from rfl]
        by_cases y : k < n
        · rw [if_pos y, if_pos (show k < n + 1 by omega)]; omega
        · rw [if_neg y, if_neg (show ¬ k < n + 1 by omega)]; omega
  show Uw (wdD D k v) (fun _ => false) (dn D) = _
  rw [h, if_pos hk]
theorem DW.wd {D : Dt} {k : Nat} {v : Int32} (hD : DW D) (hw : dwc D k < 4) (h1 : 1 ≤ v.toInt) (h30 : v.toInt ≤ 30) : DW (wdD D k v) := by
  obtain ⟨d1, d2, d3, d4, d5, d6, d7, d8, d9⟩ := hD
  refine ⟨d1, d2, d3, d4, d5, fun j => ?_, fun j i => ?_, d8, d9⟩
  · show swc D k j ≤ 4
    by_cases z : j = k
    · rw [z, swc_e]; omega
    · rw [swc_o z]; exact d6 j
  · show 1 ≤ (sln D k v j i).toInt ∧ (sln D k v j i).toInt ≤ 30
    unfold sln
    split
    · exact ⟨h1, h30⟩
    · exact d7 j i
theorem LI.add {D W} {L : Lw} {σ : Sto} {up : Nat} {tx : Bool} {size b : Int32} (h : LI D W L σ) (hd : LD L) (hn : dn D < 12) (hz : TZ (dn D) L σ) (hb : b = zb (tx = true)) :
    LI (addD D up tx size) W L (wA (wA (wA (wA (wA (wA (wA σ (lwt L) (dn D) (nI up)) (lwt L) (16 + dn D) b) (lwt L) (32 + dn D) 0) (lwt L) (48 + dn D) size) (lwg L) (dn D) (-1)) (lwg L) (16 + dn D) (-1)) (lwq L) 3 (nI (dn D + 1))) := by
  have tq : lwt L ≠ lwq L := hd.ne 0 7 (by decide) (by decide) (by decide)
  have tg : lwt L ≠ lwg L := hd.ne 0 3 (by decide) (by decide) (by decide)
  have gq : lwg L ≠ lwq L := hd.ne 3 7 (by decide) (by decide) (by decide)
  have gt : lwg L ≠ lwt L := hd.ne 3 0 (by decide) (by decide) (by decide)
  have mq : lwm L ≠ lwq L := hd.ne 1 7 (by decide) (by decide) (by decide)
  have mg : lwm L ≠ lwg L := hd.ne 1 3 (by decide) (by decide) (by decide)
  have mt : lwm L ≠ lwt L := hd.ne 1 0 (by decide) (by decide) (by decide)
  have eq : lwe L ≠ lwq L := hd.ne 2 7 (by decide) (by decide) (by decide)
  have eg : lwe L ≠ lwg L := hd.ne 2 3 (by decide) (by decide) (by decide)
  have et : lwe L ≠ lwt L := hd.ne 2 0 (by decide) (by decide) (by decide)
  have lq : lwl L ≠ lwq L := hd.ne 4 7 (by decide) (by decide) (by decide)
  have lg : lwl L ≠ lwg L := hd.ne 4 3 (by decide) (by decide) (by decide)
  have lt : lwl L ≠ lwt L := hd.ne 4 0 (by decide) (by decide) (by decide)
  have qg : lwq L ≠ lwg L := hd.ne 7 3 (by decide) (by decide) (by decide)
  have qt : lwq L ≠ lwt L := hd.ne 7 0 (by decide) (by decide) (by decide)
  refine ⟨fun j hj => ?_, rAe, by rw [rAn (by decide), rAb qg, rAb qg, rAb qt, rAb qt, rAb qt, rAb qt]; exact h.2.2⟩
  have hj : j < dn D + 1 := hj
  by_cases z : j = dn D
  · subst z
    refine ⟨?_, ?_, ?_, ?_, ?_, ?_, fun i hi => ⟨?_, ?_⟩, fun i hi => ?_⟩
    · rw [rAb tq, rAb tg, rAb tg, rAn (by omega), rAn (by omega), rAn (by omega), rAe, show dpar (addD D up tx size) (dn D) = up from upd_n]
    · rw [rAb tq, rAb tg, rAb tg, rAn (by omega), rAn (by omega), rAe, show dtx (addD D up tx size) (dn D) = tx from upd_n]; exact hb
    · rw [rAb tq, rAb tg, rAb tg, rAn (by omega), rAe, show dwc (addD D up tx size) (dn D) = 0 from upd_n]; rfl
    · intro _; rw [rAb tq, rAb tg, rAb tg, rAe, show dsz (addD D up tx size) (dn D) = size from upd_n]
    · rw [rAb gq, rAn (by omega), rAe, show dst (addD D up tx size) (dn D) = fv from upd_n]; decide
    · rw [rAb gq, rAe, show dst (addD D up tx size) (dn D) = fv from upd_n]; decide
    · rw [rAb mq, rAb mg, rAb mg, rAb mt, rAb mt, rAb mt, rAb mt, (hz _ i (Nat.le_refl _) hn hi).1, show dst (addD D up tx size) (dn D) = fv from upd_n]
      have hs : i = 0 ∨ i = 1 ∨ i = 2 ∨ i = 3 := by omega
      rcases hs with rfl | rfl | rfl | rfl <;> decide
    · rw [rAb eq, rAb eg, rAb eg, rAb et, rAb et, rAb et, rAb et, (hz _ i (Nat.le_refl _) hn hi).2, show dst (addD D up tx size) (dn D) = fv from upd_n]
      have hs : i = 0 ∨ i = 1 ∨ i = 2 ∨ i = 3 := by omega
      rcases hs with rfl | rfl | rfl | rfl <;> decide
    · rw [show dwc (addD D up tx size) (dn D) = 0 from upd_n] at hi
      omega
  · obtain ⟨b1, b2, b3, b4, b5, b6, b7, b8⟩ := h.1 j (by omega)
    refine ⟨?_, ?_, ?_, ?_, ?_, ?_, fun i hi => ⟨?_, ?_⟩, fun i hi => ?_⟩
    · rw [rAb tq, rAb tg, rAb tg, rAn (by omega), rAn (by omega), rAn (by omega), rAn z, show dpar (addD D up tx size) j = dpar D j from upd_o z]; exact b1
    · rw [rAb tq, rAb tg, rAb tg, rAn (by omega), rAn (by omega), rAn (by omega), rAn (by omega), show dtx (addD D up tx size) j = dtx D j from upd_o z]; exact b2
    · rw [rAb tq, rAb tg, rAb tg, rAn (by omega), rAn (by omega), rAn (by omega), rAn (by omega), show dwc (addD D up tx size) j = dwc D j from upd_o z]; exact b3
    · intro q; rw [rAb tq, rAb tg, rAb tg, rAn (by omega), rAn (by omega), rAn (by omega), rAn (by omega), show dsz (addD D up tx size) j = dsz D j from upd_o z]; exact b4 q
    · rw [rAb gq, rAn (by omega), rAn z, rAb gt, rAb gt, rAb gt, rAb gt, show dst (addD D up tx size) j = dst D j from upd_o z]; exact b5
    · rw [rAb gq, rAn (by omega), rAn (by omega), rAb gt, rAb gt, rAb gt, rAb gt, show dst (addD D up tx size) j = dst D j from upd_o z]; exact b6
    · rw [rAb mq, rAb mg, rAb mg, rAb mt, rAb mt, rAb mt, rAb mt, show dst (addD D up tx size) j = dst D j from upd_o z]; exact (b7 i hi).1
    · rw [rAb eq, rAb eg, rAb eg, rAb et, rAb et, rAb et, rAb et, show dst (addD D up tx size) j = dst D j from upd_o z]; exact (b7 i hi).2
    · rw [show dwc (addD D up tx size) j = dwc D j from upd_o z] at hi
      rw [rAb lq, rAb lg, rAb lg, rAb lt, rAb lt, rAb lt, rAb lt]; exact b8 i hi
theorem LI.wd {D W} {L : Lw} {σ : Sto} {k : Nat} {v c : Int32} (h : LI D W L σ) (hd : LD L) (hn : dn D ≤ 12) (hk : k < dn D) (hw : dwc D k < 4) (h4 : ∀ j, dwc D j ≤ 4) :
    LI (wdD D k v) W L (wA (wA (wA σ (lwl L) (4 * k + dwc D k) v) (lwt L) (32 + k) (nI (dwc D k + 1))) (lwq L) 7 c) := by
  have tq : lwt L ≠ lwq L := hd.ne 0 7 (by decide) (by decide) (by decide)
  have tl : lwt L ≠ lwl L := hd.ne 0 4 (by decide) (by decide) (by decide)
  have gq : lwg L ≠ lwq L := hd.ne 3 7 (by decide) (by decide) (by decide)
  have gt : lwg L ≠ lwt L := hd.ne 3 0 (by decide) (by decide) (by decide)
  have gl : lwg L ≠ lwl L := hd.ne 3 4 (by decide) (by decide) (by decide)
  have mq : lwm L ≠ lwq L := hd.ne 1 7 (by decide) (by decide) (by decide)
  have ml : lwm L ≠ lwl L := hd.ne 1 4 (by decide) (by decide) (by decide)
  have mt : lwm L ≠ lwt L := hd.ne 1 0 (by decide) (by decide) (by decide)
  have eq : lwe L ≠ lwq L := hd.ne 2 7 (by decide) (by decide) (by decide)
  have el : lwe L ≠ lwl L := hd.ne 2 4 (by decide) (by decide) (by decide)
  have et : lwe L ≠ lwt L := hd.ne 2 0 (by decide) (by decide) (by decide)
  have lq : lwl L ≠ lwq L := hd.ne 4 7 (by decide) (by decide) (by decide)
  have lt : lwl L ≠ lwt L := hd.ne 4 0 (by decide) (by decide) (by decide)
  have ql : lwq L ≠ lwl L := hd.ne 7 4 (by decide) (by decide) (by decide)
  have qt : lwq L ≠ lwt L := hd.ne 7 0 (by decide) (by decide) (by decide)
  refine ⟨fun j hj => ?_, by rw [rAn (by decide), rAb qt, rAb ql]; exact h.2.1, by rw [rAn (by decide), rAb qt, rAb ql]; exact h.2.2⟩
  have hj : j < dn D := hj
  obtain ⟨b1, b2, b3, b4, b5, b6, b7, b8⟩ := h.1 j hj
  refine ⟨?_, ?_, ?_, ?_, ?_, ?_, fun i hi => ⟨?_, ?_⟩, fun i hi => ?_⟩
  · rw [rAb tq, rAn (by omega), rAb tl]; exact b1
  · rw [rAb tq, rAn (by omega), rAb tl]; exact b2
  · show _ = nI (swc D k j)
    by_cases z : j = k
    · rw [z, rAb tq, rAe, swc_e]
    · rw [rAb tq, rAn (by omega), rAb tl, swc_o z]; exact b3
  · intro q; rw [rAb tq, rAn (by omega), rAb tl]; exact b4 q
  · rw [rAb gq, rAb gt, rAb gl]; exact b5
  · rw [rAb gq, rAb gt, rAb gl]; exact b6
  · rw [rAb mq, rAb mt, rAb ml]; exact (b7 i hi).1
  · rw [rAb eq, rAb et, rAb el]; exact (b7 i hi).2
  · have hi : i < swc D k j := hi
    show _ = sln D k v j i
    rw [rAb lq, rAb lt]
    by_cases z : j = k ∧ i = dwc D k
    · obtain ⟨rfl, rfl⟩ := z
      rw [rAe]
      exact (if_pos ⟨rfl, rfl⟩).symm
    · have e : sln D k v j i = dln D j i := if_neg z
      have hjw := h4 j
      have hi2 : i < dwc D j := by
        by_cases y : j = k
        · subst y
          rw [swc_e] at hi
          have : i ≠ dwc D j := fun q => z ⟨rfl, q⟩
          omega
        · rw [swc_o y] at hi; exact hi
      rw [rAn (fun q => z (by omega)), e]
      exact b8 i hi2

/-! A NODE PUT IN (by wip/p27/gen_ins.py) -/
def upn {α : Type} (f : Nat → α) (n : Nat) (v : α) : Nat → α := fun k => if k = n then v else f k
theorem upd_n {α : Type} {f : Nat → α} {n : Nat} {v : α} : upn f n v n = v := if_pos rfl
theorem upd_o {α : Type} {f : Nat → α} {n k : Nat} {v : α} (h : k ≠ n) : upn f n v k = f k := if_neg h
abbrev addD (D : Dt) (up : Nat) (tx : Bool) (size : Int32) : Dt := (dn D + 1, upn (dpar D) (dn D) up, upn (dtx D) (dn D) tx, upn (dwc D) (dn D) 0, dln D, upn (dsz D) (dn D) size, upn (dst D) (dn D) fv)
abbrev xX (X : Cx) (n q cn le cu : Nat) (pl pc : Bool → Nat) (th : Bool → Nat → Nat) : Cx := (upn (xnd X) n q, upn (xcn X) n cn, upn (xle X) n le, upn (xcu X) n cu, (fun b => upn (xpl X b) n (pl b)), (fun b => upn (xpc X b) n (pc b)), (fun b => upn (xth X b) n (th b)), xLy X, xfa X, xF X)
abbrev yX (Y : Cy) (n sy : Nat) : Cy := (xob Y, xna Y, xpt Y, xoa Y, upn (xsy Y) n sy)
theorem nx_add_o {D : Dt} {up : Nat} {tx : Bool} {size : Int32} {k a : Nat} (hk : k ≠ up) : nx (addD D up tx size) k a = nx D k a := by
  cases e : nx D k a with
  | some c =>
    obtain ⟨h1, h2, h3, h4⟩ := nx_some.mp e
    refine nx_some.mpr ⟨Nat.lt_succ_of_lt h1, h2, (upd_o (by omega)).trans h3, fun j j1 j2 => ?_⟩
    show upn (dpar D) (dn D) up j ≠ k
    rw [upd_o (by omega)]
    exact h4 j j1 j2
  | none =>
    have h := nx_none.mp e
    refine nx_none.mpr (fun j j1 j2 => ?_)
    show upn (dpar D) (dn D) up j ≠ k
    have j2 : j < dn D + 1 := j2
    by_cases z : j = dn D
    · rw [z, upd_n]; exact fun q => hk q.symm
    · rw [upd_o z]; exact h j j1 (by omega)
theorem nx_add_s {D : Dt} {up : Nat} {tx : Bool} {size : Int32} {a c : Nat} (e : nx D up a = some c) : nx (addD D up tx size) up a = some c := by
  obtain ⟨h1, h2, h3, h4⟩ := nx_some.mp e
  refine nx_some.mpr ⟨Nat.lt_succ_of_lt h1, h2, (upd_o (by omega)).trans h3, fun j j1 j2 => ?_⟩
  show upn (dpar D) (dn D) up j ≠ up
  rw [upd_o (by omega)]
  exact h4 j j1 j2
theorem nx_add_n {D : Dt} {up : Nat} {tx : Bool} {size : Int32} {a : Nat} (e : nx D up a = none) (ha : a < dn D) : nx (addD D up tx size) up a = some (dn D) := by
  have h := nx_none.mp e
  refine nx_some.mpr ⟨Nat.lt_succ_self _, ha, upd_n, fun j j1 j2 => ?_⟩
  show upn (dpar D) (dn D) up j ≠ up
  rw [upd_o (by omega)]
  exact h j j1 j2
theorem nx_add_l {D : Dt} {up : Nat} {tx : Bool} {size : Int32} : nx (addD D up tx size) up (dn D) = none :=
  nx_none.mpr (fun j j1 j2 => by have j2 : j < dn D + 1 := j2; omega)
theorem nx_add_e {D : Dt} (hD : DW D) {up : Nat} {tx : Bool} {size : Int32} (hup : up < dn D) : nx (addD D up tx size) (dn D) (dn D) = none :=
  nx_none.mpr (fun j j1 j2 => by have j2 : j < dn D + 1 := j2; omega)
/-- the pieces of the new node's picture -/
theorem PL_ins {G : Gb} {D : Dt} {X : Cx} {Y : Cy} {W : Int32} {T : Nat} {LL fr LL' fr'} {σ s sB : Sto} {up q sy cn le cu : Nat} {tx : Bool} {size dep : Int32} {pl pc : Bool → Nat} {th : Bool → Nat → Nat} (h : PL G D X Y W T LL fr LL' fr' σ) (hD : DW D) (hup : up < dn D) (hn : dn D < 60)
    (nw : NwN (wT σ q (5, 0)) sB q (nFI (nI (dn D)) dep (if tx = true then size else 0)) (nFR G (some (xnd X up)) tx sy cn le cu (pl false) (pl true)) tx sy cn le cu pl pc th) (hq : (zT σ q).1 = 0) (hdep : ∃ d, d ≤ dn D ∧ dep = nI d)
    (hT : s.1 = sB.1) (hA : zA s = zA sB) (hQ : ∀ c, c ≠ xna Y → zQ s c = zQ sB c) (hQn : ∀ i, zQ s (xna Y) i = if i = dn D then some q else zQ σ (xna Y) i)
    (hI : ∀ g, g ≠ 513 → g ≠ 1005 → g ≠ 1007 → zI s g = zI sB g) (h5 : zI s 1005 (xob Y) = nI (dn D + 1)) (h7 : zI s 1007 (xob Y) = nI (T + 1)) (h513 : zI s 513 (xnd X 0) = nI (T + 1)) (hTT : T < 1000)
    (hR : ∀ g, g ≠ 510 → g ≠ 511 → zR s g = zR sB g) (h510 : ∀ k, k < dn D → zR s 510 (xnd X k) = lk (xX X (dn D) q cn le cu pl pc th) (nx (addD D up tx size) k k)) (h510n : zR s 510 q = none)
    (h511 : ∀ k, k < dn D → zR s 511 (xnd X k) = if k = 0 then none else lk (xX X (dn D) q cn le cu pl pc th) (nx (addD D up tx size) (dpar D k) k)) (h511n : zR s 511 q = none) :
    PL G (addD D up tx size) (xX X (dn D) q cn le cu pl pc th) (yX Y (dn D) sy) W (T + 1) (setL LL (dn D) []) fr (setL LL' (dn D) []) fr' s := by
  obtain ⟨hB, hAI, hLy, hJ, hdp, hl1, hl2, hlj, hb1, hb2, hca⟩ := h
  obtain ⟨o1, o2, o3, o4, o5, o6, o7, o8, o9, o10, o11, o12, o13, o14, o15, o16, o17⟩ := hB
  obtain ⟨⟨c1, c2, c3, c4⟩, ⟨⟨r1, r2, r3, r4, r5, r6⟩, r7, r8, r9, r10, r11, r12⟩, np, nb, nt⟩ := nw
  have e : Ex (fun _ => False) σ sB := (Ex.refl.nT hq).ct c1 (fun c hc => Or.inl (by rw [hc]; exact hq))
  have fz : ∀ {c : Nat}, (zT (wT σ q (5, 0)) c).1 = 0 → (zT σ c).1 = 0 := fun hc => ((Ex.refl (O := fun _ => False)).nT hq).fresh hc
  have t : ∀ a, zT s a = zT sB a := fun a => congrFun hT a
  have tt : ∀ {a c m : Nat}, zT σ a = (c + 1, m) → zT s a = (c + 1, m) := fun {a c m} z => (t a).trans (e.T z)
  have nz : ∀ {a c m : Nat}, zT σ a = (c + 1, m) → (zT σ a).1 ≠ 0 := fun {a c m} z => by rw [z]; exact Nat.succ_ne_zero c
  have fo : ∀ a, (zT σ a).1 ≠ 0 → ∀ g, zI sB g a = zI σ g a ∧ zR sB g a = zR σ g a := fun a ha => (e.2 a ha (fun z => z)).1
  have fA : ∀ a, (zT σ a).1 ≠ 0 → zA s a = zA σ a := fun a ha => by rw [hA]; exact (e.2 a ha (fun z => z)).2.1
  have fQ : ∀ a, (zT σ a).1 ≠ 0 → a ≠ xna Y → zQ s a = zQ σ a := fun a ha hne => by rw [hQ a hne]; exact (e.2 a ha (fun z => z)).2.2
  have fI : ∀ a, (zT σ a).1 ≠ 0 → ∀ g, g ≠ 513 → g ≠ 1005 → g ≠ 1007 → zI s g a = zI σ g a := fun a ha g a1 a2 a3 => by rw [hI g a1 a2 a3]; exact (fo a ha g).1
  have fR : ∀ a, (zT σ a).1 ≠ 0 → ∀ g, g ≠ 510 → g ≠ 511 → zR s g a = zR σ g a := fun a ha g a1 a2 => by rw [hR g a1 a2]; exact (fo a ha g).2
  have nwne : ∀ {a c : Nat}, (zT σ a).1 = 0 → (zT σ c).1 ≠ 0 → a ≠ c := fun ha hc z => hc (by rw [← z]; exact ha)
  have kn : ∀ {k}, k < dn D → (zT σ (xnd X k)).1 ≠ 0 := fun hk => nz (hAI.1 _ hk).1
  have kpl : ∀ b {k}, k < dn D → (zT σ (xpl X b k)).1 ≠ 0 := fun b k hk => nz ((hAI.1 k hk).2.2.2.2.2.2.2.2.2.2.2.2.2.2.2.2.2.2.1 b)
  have lyz : ∀ b, (zT σ (xLy X b)).1 ≠ 0 := fun b => nz (hLy b).1
  have pt12 : zT σ (xpt Y) = (6, 0) ∧ zT σ (xoa Y) = (21, 60) := ⟨o12.1, o12.2.2⟩
  have rows : ∀ u, u < 4 → (zT σ (arX (xX X (dn D) q cn le cu pl pc th) (yX Y (dn D) sy) u (dn D))).1 = 0 := fun u hu => by
    have : u = 0 ∨ u = 1 ∨ u = 2 ∨ u = 3 := by omega
    rcases this with z | z | z | z <;> subst z
    · show (zT σ (upn (xcn X) (dn D) cn (dn D))).1 = 0; rw [upd_n]; exact fz r4
    · show (zT σ (upn (xsy Y) (dn D) sy (dn D))).1 = 0; rw [upd_n]; exact fz r3
    · show (zT σ (upn (xle X) (dn D) le (dn D))).1 = 0; rw [upd_n]; exact fz r9
    · show (zT σ (upn (xcu X) (dn D) cu (dn D))).1 = 0; rw [upd_n]; exact fz r10
  have rowo : ∀ u k, k < dn D → arX (xX X (dn D) q cn le cu pl pc th) (yX Y (dn D) sy) u k = arX X Y u k := fun u k hk => by
    match u with
    | 0 => exact upd_o (by omega)
    | 1 => exact upd_o (by omega)
    | 2 => exact upd_o (by omega)
    | u + 3 => exact upd_o (by omega)
  have lnk : ∀ {b LL fr}, Ln Tt D X b σ LL fr → Ln Tt (addD D up tx size) (xX X (dn D) q cn le cu pl pc th) b s (setL LL (dn D) []) fr := fun {b LL fr} hl => by
    have hc : ∀ {r : Option Nat} {xs : List Nat}, Ch σ r xs → Ch s r xs := fun h1 => h1.to (fun x hx => ⟨(t x).trans (e.1 x (nz (h1.T x hx))), fR x (nz (h1.T x hx)) 405 (by decide) (by decide)⟩)
    refine ⟨?_, fun k hk => ?_, hl.2.2.1, fun k hk => ?_, fun _ _ => trivial, fun _ _ _ _ => trivial⟩
    · show Ch s (zR s 303 (xLy X b)) fr
      rw [fR _ (lyz b) 303 (by decide) (by decide)]; exact hc hl.1
    · have hk : k < dn D + 1 := hk
      by_cases z : k = dn D
      · rw [z, setL_self]
        obtain ⟨p1, p2, p3, p4, p5, p6, p7, p8, p9, p10, p11, p12⟩ := np b
        refine ⟨?_, ?_, rfl⟩
        · show zR s 711 (upn (xpl X b) (dn D) (pl b) (dn D)) = none
          rw [upd_n, hR 711 (by decide) (by decide)]; exact p11
        · show zR s 712 (upn (xpl X b) (dn D) (pl b) (dn D)) = none
          rw [upd_n, hR 712 (by decide) (by decide)]; exact p12
      · rw [setL_ne z]
        have hk2 : k < dn D := by omega
        refine ⟨?_, ?_, hc (hl.2.1 k hk2).2.2⟩
        · show zR s 711 (upn (xpl X b) (dn D) (pl b) k) = _
          rw [upd_o z, fR _ (kpl b hk2) 711 (by decide) (by decide)]; exact (hl.2.1 k hk2).1
        · show zR s 712 (upn (xpl X b) (dn D) (pl b) k) = _
          rw [upd_o z, fR _ (kpl b hk2) 712 (by decide) (by decide)]; exact (hl.2.1 k hk2).2.1
    · have hk : k < dn D + 1 := hk
      by_cases z : k = dn D
      · rw [z, setL_self]
        exact ⟨List.nodup_nil, fun x hx => absurd hx List.not_mem_nil⟩
      · rw [setL_ne z]
        have hk2 : k < dn D := by omega
        obtain ⟨a1, a2⟩ := hl.2.2.2.1 k hk2
        refine ⟨a1, fun x hx => ⟨(a2 x hx).1, fun j hj hjk => ?_⟩⟩
        have hj : j < dn D + 1 := hj
        by_cases z2 : j = dn D
        · rw [z2, setL_self]; exact List.not_mem_nil
        · rw [setL_ne z2]; exact (a2 x hx).2 j (by omega) hjk
  have lnm : ∀ {LL fr a}, lnM (addD D up tx size) (setL LL (dn D) []) fr a → lnM D LL fr a := fun {LL fr a} hh => by
    rcases hh with z | ⟨k, hk, z⟩
    · exact Or.inl z
    · have hk : k < dn D + 1 := hk
      by_cases z2 : k = dn D
      · rw [z2, setL_self] at z; exact absurd z List.not_mem_nil
      · rw [setL_ne z2] at z; exact Or.inr ⟨k, by omega, z⟩
  have bz : ∀ {b}, Bz D X b σ → Bz (addD D up tx size) (xX X (dn D) q cn le cu pl pc th) b s := fun {b} hb k hk ht => by
    have hk : k < dn D + 1 := hk
    show zI s 707 (upn (xpl X b) (dn D) (pl b) k) = 0 ∧ zI s 708 (upn (xpl X b) (dn D) (pl b) k) = 0
    by_cases z : k = dn D
    · rw [z, upd_n, hI 707 (by decide) (by decide) (by decide), hI 708 (by decide) (by decide) (by decide)]
      obtain ⟨p1, p2, p3, p4, p5, p6, p7, p8, p9, p10, p11, p12⟩ := np b
      exact ⟨p8, p9⟩
    · have ht : upn (dtx D) (dn D) tx k = false := ht
      rw [upd_o z] at ht ⊢
      rw [fI _ (kpl b (by omega)) 707 (by decide) (by decide) (by decide), fI _ (kpl b (by omega)) 708 (by decide) (by decide) (by decide)]
      exact hb k (by omega) ht
  have d0 : (0 : Nat) ≠ dn D := by have := hD.1; omega
  have n0 : upn (xnd X) (dn D) q 0 = xnd X 0 := upd_o d0
  have da : DA (xX X (dn D) q cn le cu pl pc th) (yX Y (dn D) sy) (dn D + 1) := fun u v j k hu hv hj hk he => by
    by_cases z : j = dn D
    · by_cases z2 : k = dn D
      · refine ⟨?_, by omega⟩
        rw [z, z2] at he
        have hu4 : u = 0 ∨ u = 1 ∨ u = 2 ∨ u = 3 := by omega
        have hv4 : v = 0 ∨ v = 1 ∨ v = 2 ∨ v = 3 := by omega
        have g : ∀ w, arX (xX X (dn D) q cn le cu pl pc th) (yX Y (dn D) sy) w (dn D) = (match w with | 0 => cn | 1 => sy | 2 => le | _ => cu) := fun w => by
          match w with
          | 0 => exact upd_n
          | 1 => exact upd_n
          | 2 => exact upd_n
          | w + 3 => exact upd_n
        rw [g, g] at he
        obtain ⟨x1, x2, x3, x4, x5⟩ := r11
        rcases hu4 with a | a | a | a <;> rcases hv4 with b | b | b | b <;> subst a <;> subst b
        all_goals first
          | rfl
          | exact absurd he r5
          | exact absurd he.symm r5
          | exact absurd he x1
          | exact absurd he.symm x1
          | exact absurd he x2
          | exact absurd he.symm x2
          | exact absurd he x3
          | exact absurd he.symm x3
          | exact absurd he x4
          | exact absurd he.symm x4
          | exact absurd he x5
          | exact absurd he.symm x5
      · rw [z, rowo v k (by omega)] at he
        obtain ⟨m, hm⟩ := arT hAI (k := k) (by omega) hv
        exact absurd he (nwne (rows u hu) (nz hm))
    · by_cases z2 : k = dn D
      · rw [z2, rowo u j (by omega)] at he
        obtain ⟨m, hm⟩ := arT hAI (k := j) (by omega) hu
        exact absurd he.symm (nwne (rows v hv) (nz hm))
      · rw [rowo u j (by omega), rowo v k (by omega)] at he
        exact o14 u v j k hu hv (by omega) (by omega) he
  refine ⟨⟨tt o1, ?_, ?_, ?_, ?_, ?_, h5, ?_, h7, tt o10, fun k hk => ?_, ⟨tt o12.1, ?_, tt o12.2.2⟩, o13, da, fun k hk => ?_, fun k hk ht => ?_, hTT⟩, ⟨fun k hk => ?_, fun k hk ht => ?_, fun k hk => ?_, ⟨tt hAI.2.2.2.1.1, ?_, ?_⟩, fun k hk ht => ?_⟩, fun b => ?_, ?_, ?_, lnk hl1, lnk hl2, fun a ha z => hlj a (lnm ha) (lnm z), bz hb1, bz hb2, ?_⟩
  · rw [fR _ (nz o1) 1000 (by decide) (by decide)]; exact o2
  · show zR s 1001 (xob Y) = some (upn (xnd X) (dn D) q 0)
    rw [fR _ (nz o1) 1001 (by decide) (by decide), n0]; exact o3
  · rw [fR _ (nz o1) 1002 (by decide) (by decide)]; exact o4
  · rw [fR _ (nz o1) 1003 (by decide) (by decide)]; exact o5
  · rw [fR _ (nz o1) 1004 (by decide) (by decide)]; exact o6
  · rw [fI _ (nz o1) 1006 (by decide) (by decide) (by decide)]; exact o8
  · show zQ s (xna Y) k = if k < dn D + 1 then some (upn (xnd X) (dn D) q k) else none
    rw [hQn k]
    by_cases z : k = dn D
    · rw [if_pos z, if_pos (by omega), z, upd_n]
    · rw [if_neg z, o11 k hk, upd_o z]
      by_cases z2 : k < dn D
      · rw [if_pos z2, if_pos (by omega)]
      · rw [if_neg z2, if_neg (by omega)]
  · rw [fR _ (nz o12.1) 600 (by decide) (by decide)]; exact o12.2.1
  · show ∃ d, d ≤ k ∧ zI s 502 (upn (xnd X) (dn D) q k) = nI d
    have hk : k < dn D + 1 := hk
    by_cases z : k = dn D
    · obtain ⟨d, d1, d2⟩ := hdep
      exact ⟨d, by omega, by rw [z, upd_n, hI 502 (by decide) (by decide) (by decide), c3 502, ← d2]; rfl⟩
    · rw [upd_o z, fI _ (kn (by omega)) 502 (by decide) (by decide) (by decide)]
      exact o15 k (by omega)
  · have hk : k < dn D + 1 := hk
    show zA s (upn (xcn X) (dn D) cn k) 3 = 0
    by_cases z : k = dn D
    · rw [z, upd_n, hA]; exact (r6 3 (by decide)).2
    · have ht : upn (dtx D) (dn D) tx k = true := ht
      rw [upd_o z] at ht ⊢
      rw [fA _ (nz (hAI.1 k (by omega)).2.2.2.2.1)]
      exact o16 k (by omega) ht
  · have hk : k < dn D + 1 := hk
    by_cases z : k = dn D
    · subst z
      have E : ∀ {α : Type} {f : Nat → α} {v : α}, upn f (dn D) v (dn D) = v := upd_n
      have dne : dn D ≠ 0 := fun z => d0 z.symm
      refine ⟨?_, ?_, ?_, ?_, ?_, ?_, ?_, ?_, ?_, ?_, ?_, ?_, ?_, ?_, ?_, ?_, ?_, fun b => ?_, fun b => ?_, fun b => ?_, fun b => ?_, fun b i hi => ?_, fun b i hi => ?_, ?_⟩
      · show zT s (upn (xnd X) (dn D) q (dn D)) = _; rw [E]; exact (t _).trans c2
      · show zR s 501 (upn (xnd X) (dn D) q (dn D)) = if dn D = 0 then none else some (upn (xnd X) (dn D) q (upn (dpar D) (dn D) up (dn D)))
        rw [if_neg dne, E, E, upd_o (by omega), hR 501 (by decide) (by decide)]; exact c4 501
      · show zI s 503 (upn (xnd X) (dn D) q (dn D)) = if upn (dtx D) (dn D) tx (dn D) = true then upn (dsz D) (dn D) size (dn D) else 0
        rw [E, E, E, hI 503 (by decide) (by decide) (by decide)]; exact c3 503
      · show zR s 505 (upn (xnd X) (dn D) q (dn D)) = some (upn (xcn X) (dn D) cn (dn D))
        rw [E, E, hR 505 (by decide) (by decide)]; exact c4 505
      · show zT s (upn (xcn X) (dn D) cn (dn D)) = _; rw [E]; exact (t _).trans r2
      · show zR s 510 (upn (xnd X) (dn D) q (dn D)) = _; rw [E, h510n, nx_add_e hD hup]; rfl
      · show zR s 511 (upn (xnd X) (dn D) q (dn D)) = if dn D = 0 then none else lk _ (nx (addD D up tx size) (upn (dpar D) (dn D) up (dn D)) (dn D))
        rw [if_neg dne, E, E, h511n, nx_add_l]; rfl
      · show zI s 512 (upn (xnd X) (dn D) q (dn D)) = nI (upn (dwc D) (dn D) 0 (dn D))
        rw [E, E, hI 512 (by decide) (by decide) (by decide)]; exact c3 512
      · show zR s 514 (upn (xnd X) (dn D) q (dn D)) = some (G.2.2.1 (kdn (upn (dtx D) (dn D) tx (dn D))))
        rw [E, E, hR 514 (by decide) (by decide)]; exact c4 514
      · show zI s 515 (upn (xnd X) (dn D) q (dn D)) = 0; rw [E, hI 515 (by decide) (by decide) (by decide)]; exact c3 515
      · show zI s 517 (upn (xnd X) (dn D) q (dn D)) = 0; rw [E, hI 517 (by decide) (by decide) (by decide)]; exact c3 517
      · show zR s 506 (upn (xnd X) (dn D) q (dn D)) = some (upn (xle X) (dn D) le (dn D))
        rw [E, E, hR 506 (by decide) (by decide)]; exact c4 506
      · show zT s (upn (xle X) (dn D) le (dn D)) = (20, wd20 (upn (dtx D) (dn D) tx (dn D))); rw [E, E]; exact (t _).trans r7
      · intro i hi
        have hi : i < upn (dwc D) (dn D) 0 (dn D) := hi
        rw [E] at hi; exact absurd hi (Nat.not_lt_zero _)
      · show zR s 507 (upn (xnd X) (dn D) q (dn D)) = some (upn (xcu X) (dn D) cu (dn D))
        rw [E, E, hR 507 (by decide) (by decide)]; exact c4 507
      · show zT s (upn (xcu X) (dn D) cu (dn D)) = (20, wd20 (upn (dtx D) (dn D) tx (dn D))); rw [E, E]; exact (t _).trans r8
      · intro i hi
        have hi : i < upn (dwc D) (dn D) 0 (dn D) := hi
        rw [E] at hi; exact absurd hi (Nat.not_lt_zero _)
      · show zR s (pfld b) (upn (xnd X) (dn D) q (dn D)) = some (upn (xpl X b) (dn D) (pl b) (dn D))
        rw [E, E]
        cases b
        · rw [hR (pfld false) (by decide) (by decide)]; exact c4 508
        · rw [hR (pfld true) (by decide) (by decide)]; exact c4 509
      · show zT s (upn (xpl X b) (dn D) (pl b) (dn D)) = _; rw [E]; exact (t _).trans (np b).1
      · show zR s 714 (upn (xpl X b) (dn D) (pl b) (dn D)) = some (upn (xpc X b) (dn D) (pc b) (dn D)); rw [E, E, hR 714 (by decide) (by decide)]; exact (np b).2.2.1
      · show zT s (upn (xpc X b) (dn D) (pc b) (dn D)) = (23, pcn (upn (dtx D) (dn D) tx (dn D))); rw [E, E]; exact (t _).trans (np b).2.2.2.2.1
      · have hi : i < pcn (upn (dtx D) (dn D) tx (dn D)) := hi
        show zQ s (upn (xpc X b) (dn D) (pc b) (dn D)) i = some (upn (xth X b) (dn D) (th b) (dn D) i)
        rw [E] at hi ⊢
        rw [E, hQ (pc b) (nwne (fz (np b).2.2.2.1) (nz o10))]
        exact ((np b).2.2.2.2.2.1 i hi).1
      · have hi : i < pcn (upn (dtx D) (dn D) tx (dn D)) := hi
        show zT s (upn (xth X b) (dn D) (th b) (dn D) i) = _
        rw [E] at hi ⊢
        exact (t _).trans ((np b).2.2.2.2.2.1 i hi).2.1
      · show zI s 500 (upn (xnd X) (dn D) q (dn D)) = nI (dn D); rw [E, hI 500 (by decide) (by decide) (by decide)]; exact c3 500
    · have hk2 : k < dn D := by omega
      have E : ∀ {α : Type} {f : Nat → α} {v : α}, upn f (dn D) v k = f k := upd_o z
      obtain ⟨a1, a2, a3, a4, a5, a6, a7, a8, a9, a10, a11, a12, a13, a14, a15, a16, a17, a18, a19, a20, a21, a22, a23, a24⟩ := hAI.1 k hk2
      have nk := nz a1
      refine ⟨?_, ?_, ?_, ?_, ?_, ?_, ?_, ?_, ?_, ?_, ?_, ?_, ?_, ?_, ?_, ?_, ?_, fun b => ?_, fun b => ?_, fun b => ?_, fun b => ?_, fun b i hi => ?_, fun b i hi => ?_, ?_⟩
      · show zT s (upn (xnd X) (dn D) q k) = _; rw [E]; exact tt a1
      · show zR s 501 (upn (xnd X) (dn D) q k) = if k = 0 then none else some (upn (xnd X) (dn D) q (upn (dpar D) (dn D) up k))
        rw [E, E, fR _ nk 501 (by decide) (by decide), a2]
        by_cases z0 : k = 0
        · rw [if_pos z0, if_pos z0]
        · have := (hD.2.2.2.2.1 k (by omega) hk2).1
          rw [if_neg z0, if_neg z0, upd_o (by omega)]
      · show zI s 503 (upn (xnd X) (dn D) q k) = if upn (dtx D) (dn D) tx k = true then upn (dsz D) (dn D) size k else 0
        rw [E, E, E, fI _ nk 503 (by decide) (by decide) (by decide)]; exact a3
      · show zR s 505 (upn (xnd X) (dn D) q k) = some (upn (xcn X) (dn D) cn k); rw [E, E, fR _ nk 505 (by decide) (by decide)]; exact a4
      · show zT s (upn (xcn X) (dn D) cn k) = _; rw [E]; exact tt a5
      · show zR s 510 (upn (xnd X) (dn D) q k) = _; rw [E]; exact h510 k hk2
      · show zR s 511 (upn (xnd X) (dn D) q k) = if k = 0 then none else lk _ (nx (addD D up tx size) (upn (dpar D) (dn D) up k) k)
        rw [E, E]; exact h511 k hk2
      · show zI s 512 (upn (xnd X) (dn D) q k) = nI (upn (dwc D) (dn D) 0 k); rw [E, E, fI _ nk 512 (by decide) (by decide) (by decide)]; exact a8
      · show zR s 514 (upn (xnd X) (dn D) q k) = some (G.2.2.1 (kdn (upn (dtx D) (dn D) tx k))); rw [E, E, fR _ nk 514 (by decide) (by decide)]; exact a9
      · show zI s 515 (upn (xnd X) (dn D) q k) = 0; rw [E, fI _ nk 515 (by decide) (by decide) (by decide)]; exact a10
      · show zI s 517 (upn (xnd X) (dn D) q k) = 0; rw [E, fI _ nk 517 (by decide) (by decide) (by decide)]; exact a11
      · show zR s 506 (upn (xnd X) (dn D) q k) = some (upn (xle X) (dn D) le k); rw [E, E, fR _ nk 506 (by decide) (by decide)]; exact a12
      · show zT s (upn (xle X) (dn D) le k) = (20, wd20 (upn (dtx D) (dn D) tx k)); rw [E, E]; exact tt a13
      · intro i hi
        have hi : i < upn (dwc D) (dn D) 0 k := hi
        show zA s (upn (xle X) (dn D) le k) i = _
        rw [E] at hi ⊢
        rw [fA _ (nz a13)]; exact a14 i hi
      · show zR s 507 (upn (xnd X) (dn D) q k) = some (upn (xcu X) (dn D) cu k); rw [E, E, fR _ nk 507 (by decide) (by decide)]; exact a15
      · show zT s (upn (xcu X) (dn D) cu k) = (20, wd20 (upn (dtx D) (dn D) tx k)); rw [E, E]; exact tt a16
      · intro i hi
        have hi : i < upn (dwc D) (dn D) 0 k := hi
        show zA s (upn (xcu X) (dn D) cu k) i = _
        rw [E] at hi ⊢
        rw [fA _ (nz a16)]; exact a17 i hi
      · show zR s (pfld b) (upn (xnd X) (dn D) q k) = some (upn (xpl X b) (dn D) (pl b) k)
        rw [E, E, fR _ nk (pfld b) (by cases b <;> decide) (by cases b <;> decide)]; exact a18 b
      · show zT s (upn (xpl X b) (dn D) (pl b) k) = _; rw [E]; exact tt (a19 b)
      · show zR s 714 (upn (xpl X b) (dn D) (pl b) k) = some (upn (xpc X b) (dn D) (pc b) k); rw [E, E, fR _ (nz (a19 b)) 714 (by decide) (by decide)]; exact a20 b
      · show zT s (upn (xpc X b) (dn D) (pc b) k) = (23, pcn (upn (dtx D) (dn D) tx k)); rw [E, E]; exact tt (a21 b)
      · have hi : i < pcn (upn (dtx D) (dn D) tx k) := hi
        show zQ s (upn (xpc X b) (dn D) (pc b) k) i = some (upn (xth X b) (dn D) (th b) k i)
        rw [E] at hi ⊢
        rw [E, fQ _ (nz (a21 b)) (kne (a21 b) o10 (fun z => absurd (Prod.mk.inj z).1 (by decide)))]
        exact a22 b i hi
      · have hi : i < pcn (upn (dtx D) (dn D) tx k) := hi
        show zT s (upn (xth X b) (dn D) (th b) k i) = _
        rw [E] at hi ⊢
        exact tt (a23 b i hi)
      · show zI s 500 (upn (xnd X) (dn D) q k) = nI k; rw [E, fI _ nk 500 (by decide) (by decide) (by decide)]; exact a24
  · have hk : k < dn D + 1 := hk
    show zA s (upn (xcn X) (dn D) cn k) 17 = 1
    by_cases z : k = dn D
    · rw [z, upd_n, hA]; exact (r6 17 (by decide)).2
    · have ht : upn (dtx D) (dn D) tx k = false := ht
      rw [upd_o z] at ht ⊢
      rw [fA _ (nz (hAI.1 k (by omega)).2.2.2.2.1)]
      exact hAI.2.1 k (by omega) ht
  · have hk : k < dn D + 1 := hk
    show zR s 504 (upn (xnd X) (dn D) q k) = some (upn (xsy Y) (dn D) sy k) ∧ zT s (upn (xsy Y) (dn D) sy k) = (20, 21) ∧ (upn (dtx D) (dn D) tx k = false → ∀ i, i < 21 → zA s (upn (xsy Y) (dn D) sy k) i = upn (dst D) (dn D) fv k i)
    by_cases z : k = dn D
    · rw [z, upd_n, upd_n, upd_n, upd_n, hR 504 (by decide) (by decide)]
      exact ⟨c4 504, (t _).trans r1, fun _ i hi => by rw [hA]; exact (r6 i hi).1⟩
    · rw [upd_o z, upd_o z, upd_o z, upd_o z]
      have hS := hAI.2.2.1 k (by omega)
      exact ⟨by rw [fR _ (kn (by omega)) 504 (by decide) (by decide)]; exact hS.1, tt hS.2.1, fun ht i hi => by rw [fA _ (nz hS.2.1)]; exact hS.2.2 ht i hi⟩
  · rw [fA _ (nz hAI.2.2.2.1.1)]; exact hAI.2.2.2.1.2.1
  · rw [fA _ (nz hAI.2.2.2.1.1)]; exact hAI.2.2.2.1.2.2
  · have hk : k < dn D + 1 := hk
    show zI s 516 (upn (xnd X) (dn D) q k) = 0
    by_cases z : k = dn D
    · rw [z, upd_n, hI 516 (by decide) (by decide) (by decide)]; exact c3 516
    · have ht : upn (dtx D) (dn D) tx k = true := ht
      rw [upd_o z] at ht ⊢
      rw [fI _ (kn (by omega)) 516 (by decide) (by decide) (by decide)]
      exact hAI.2.2.2.2 k (by omega) ht
  · obtain ⟨b1, b2, b3, b4, b5, b6⟩ := hLy b
    exact ⟨tt b1, by rw [fI _ (nz b1) 300 (by decide) (by decide) (by decide)]; exact b2, by rw [fR _ (nz b1) 302 (by decide) (by decide)]; exact b3, tt b4, by rw [fQ _ (nz b4) (kne b4 o10 (by decide))]; exact b5, tt b6⟩
  · refine ⟨fun j k hj hk he => ?_, fun b c j k hj hk he => ?_, fun b c j k i m hj hk hi hm he => ?_, hJ.F, hJ.Ly⟩
    · have hj : j < dn D + 1 := hj
      have hk : k < dn D + 1 := hk
      have he : upn (xnd X) (dn D) q j = upn (xnd X) (dn D) q k := he
      by_cases z : j = dn D
      · by_cases z2 : k = dn D
        · omega
        · rw [z, upd_n, upd_o z2] at he; exact absurd he (nwne hq (kn (by omega)))
      · by_cases z2 : k = dn D
        · rw [z2, upd_n, upd_o z] at he; exact absurd he.symm (nwne hq (kn (by omega)))
        · rw [upd_o z, upd_o z2] at he; exact hJ.nd j k (by omega) (by omega) he
    · have hj : j < dn D + 1 := hj
      have hk : k < dn D + 1 := hk
      have he : upn (xpl X b) (dn D) (pl b) j = upn (xpl X c) (dn D) (pl c) k := he
      by_cases z : j = dn D
      · by_cases z2 : k = dn D
        · rw [z, z2, upd_n, upd_n] at he
          refine ⟨?_, by omega⟩
          cases b <;> cases c
          · rfl
          · exact absurd he nb
          · exact absurd he.symm nb
          · rfl
        · rw [z, upd_n, upd_o z2] at he; exact absurd he (nwne (fz (np b).2.1) (kpl c (by omega)))
      · by_cases z2 : k = dn D
        · rw [z2, upd_n, upd_o z] at he; exact absurd he.symm (nwne (fz (np c).2.1) (kpl b (by omega)))
        · rw [upd_o z, upd_o z2] at he; exact hJ.pl b c j k (by omega) (by omega) he
    · have hj : j < dn D + 1 := hj
      have hk : k < dn D + 1 := hk
      have he : upn (xth X b) (dn D) (th b) j i = upn (xth X c) (dn D) (th c) k m := he
      have hi : i < pcn (upn (dtx D) (dn D) tx j) := hi
      have hm : m < pcn (upn (dtx D) (dn D) tx k) := hm
      have tz : ∀ b i, i < pcn tx → (zT σ (th b i)).1 = 0 := fun b i hi => fz ((np b).2.2.2.2.2.1 i hi).2.2
      have to : ∀ b k i, k < dn D → i < pcn (dtx D k) → (zT σ (xth X b k i)).1 ≠ 0 := fun b k i hk hi => nz ((hAI.1 k hk).2.2.2.2.2.2.2.2.2.2.2.2.2.2.2.2.2.2.2.2.2.2.1 b i hi)
      by_cases z : j = dn D
      · by_cases z2 : k = dn D
        · rw [z, upd_n] at hi
          rw [z2, upd_n] at hm
          rw [z, z2, upd_n, upd_n] at he
          have hbc : b = c := by
            cases b <;> cases c
            · rfl
            · exact absurd he (nt i m hi hm)
            · exact absurd he.symm (nt m i hm hi)
            · rfl
          refine ⟨hbc, by omega, ?_⟩
          rw [hbc] at he
          exact (np c).2.2.2.2.2.2.1 i m hi hm he
        · rw [z, upd_n] at hi
          rw [upd_o z2] at hm
          rw [z, upd_n, upd_o z2] at he
          exact absurd he (nwne (tz b i hi) (to c k m (by omega) hm))
      · by_cases z2 : k = dn D
        · rw [z2, upd_n] at hm
          rw [upd_o z] at hi
          rw [z2, upd_n, upd_o z] at he
          exact absurd he.symm (nwne (tz c m hm) (to b j i (by omega) hi))
        · rw [upd_o z] at hi
          rw [upd_o z2] at hm
          rw [upd_o z, upd_o z2] at he
          exact hJ.th b c j k i m (by omega) (by omega) hi hm he
  · show zI s 502 (upn (xnd X) (dn D) q 0) = 0
    rw [n0, fI _ (kn hD.1) 502 (by decide) (by decide) (by decide)]; exact hdp
  · show 0 ≤ (zI s 513 (upn (xnd X) (dn D) q 0)).toInt ∧ (zI s 513 (upn (xnd X) (dn D) q 0)).toInt ≤ ((T + 1 : Nat) : Int)
    rw [n0, h513, nI_toInt (by omega)]
    omega

/-! THE CLAIM OUT OF ONE WALK OF THE LAW'S BODY. Your part is whole_start (and what it stands on); all else here is the same for every law, but numbers. -/
def R_law : String := "FlowBoxesLaw"
def lw_P (b : Addr) (xs : List Int32) (args : Array Value) (s : State) : Prop := args = #[.ref b] ∧ s.IntsAt b xs ∧ xs.length ≤ 260 ∧ (Jvm.Cond.and given_1 narrow_1).before args s = true
def lw_Q (_ : Array Value) (s : State) (o : Outcome) (t : State) : Prop := o = .returned (some (.int 1)) ∧ Framed s o t [] 638563 7185779
def lw_Z (below : List Frame) (a : Array Value) (s : State) : State → Prop := fun t => ∃ o, t.status = .running ∧ Ended t below o ∧ lw_Q a s o t
/-- the law's own end, with 1 on the stack, nothing written that was there before, its room as the claim has it -/
theorem lw_ret {p : Program} {l : Launch} {e : Env} {s : State} {m : MethodId} {below : List Frame} {meth : Method} {c : Code} {b : Nat} (hx : p.tables.exec = Jvm.exec) (hb : c.code = code) (hr : meth.sig.returnType = ret) (hlocks : meth.locks = false) {pc : Nat} {H : Heap} {ls : Array Slot} (hdg : decode code pc = .ok (.ireturn, 1)) : W p l e room_1 s m #[Value.ref b] below meth c H [] 638563 7185779 (lw_Z below #[Value.ref b] s) (F0 m pc ls [.int 1]) := by
  intro T hT X
  obtain ⟨fs, hret, hrun, hended, hW, hframe⟩ := X.leave (v := some (.int 1)) (hlocks := hlocks) (fun h => by rw [hr] at h; cases h)
  have hmeth' : T.vm.method? m = some meth := X.method'
  refine ⟨T.setFrames fs, ?_, .returned (some (.int 1)), hrun, hended, rfl, ⟨_, rfl⟩, hW, hframe⟩
  jvm_step X.here [X.here.top, hx, hb, hdg, hmeth', hr, ret, narrow_b1]
  (try refine ⟨rfl, ?_⟩); (try refine ⟨rfl, ?_⟩)
  first | (intro acts; rw [hret _ acts rfl rfl rfl]) | rw [hret _ _ rfl rfl rfl]
  exact Steps.refl _
/-- what holds at the law's entry: the machine, the code, the tables' words (any of lw_tbl by 'hts w (by decide +kernel)'), the script of L ints xs at the cell b, what the Statement gives of the start (any of its parts by flat_of_before) -/
def lw_At (p : Program) (s : State) (m : MethodId) (meth : Method) (c : Code) (b L : Nat) (xs : Nat → Int32) : Prop :=
  p.tables.exec = Jvm.exec ∧ c.code = code ∧ meth.sig.returnType = ret ∧ c.maxLocals = 15 ∧ s.vm.findClass R_law = some m.cls ∧ (∀ w ∈ lw_tbl, w.before #[Value.ref b] s = true) ∧ va_X b L xs s s.heap ∧ b < s.heap.size ∧ meth.locks = false ∧ (Jvm.Cond.and given_1 narrow_1).before #[Value.ref b] s = true
-- ===== YOUR PART BEGINS =====
/-- the switch's numbers -/
def swv (j : Nat) : Int32 := ([0, 3, 5, 1, 2, 6, 7, 4, 8] : List Int32).getD j 0
theorem k_known {s : State} {b : Nat} (hts : ∀ w ∈ lw_tbl, w.before #[Value.ref b] s = true) : ∃ (dC : Nat → ClassId) (dI : Nat → Nat → Nat), ∀ (c : Nat) (r : vw_C), zcl[c]? = some r → u_Kn s r.1 r.2.1 r.2.2 (dC c) (dI c) := by
  have hins : ∀ r ∈ zcl, Cond.instantiable r.1 r.2.2 ∈ lw_tbl := by decide +kernel
  have hk : ∀ c : Nat, ∃ q : ClassId × (Nat → Nat), ∀ r, zcl[c]? = some r → u_Kn s r.1 r.2.1 r.2.2 q.1 q.2 := fun c => by
    cases h : zcl[c]? with
    | none => exact ⟨(0, fun _ => 0), fun r hr => by cases hr⟩
    | some r =>
      obtain ⟨ty, hC⟩ := zCl_ok h
      obtain ⟨cC, iS, hK⟩ := u_known (C := r.1) (T := r.2.1) (N := r.2.2) (n := r.2.2) hts (fun w hw => (List.mem_filter.mp (hC.1 w hw)).1) (hts _ (hins r (List.mem_of_getElem? h)))
      exact ⟨(cC, iS), fun r' hr' => by cases hr'; exact hK⟩
  obtain ⟨f, hf⟩ := Classical.axiomOfChoice hk
  exact ⟨fun c => (f c).1, fun c => (f c).2, hf⟩
theorem k_arr {s : State} {C : String} {args : Array Value} (h : (Cond.arrayOver (.object C)).before args s = true) : ∃ cA : ClassId, ArrOfT s cA (.object C) ∧ va_RA s cA (.object C) := by
  obtain ⟨comp, c, k, h1, h2, h3, h4, h5⟩ := Cond.arrayOver_spec h
  exact ⟨c, fun n z => ⟨fun k h => (by cases h), k, h3, comp, h4⟩, k, comp, h3, h4, h1, h5⟩
theorem k_int {s : State} {args : Array Value} (h : (Cond.arrayClass .int).before args s = true) : ∃ cA : ClassId, ArrOfT s cA .int ∧ va_RA s cA .int := by
  obtain ⟨c, k, comp, h1, h2, h3⟩ := Cond.arrayClass_spec h
  exact ⟨c, fun n z => ⟨fun k h => (by cases h), k, h2, comp, h3⟩, h1⟩
theorem k_en {s : State} {b : Nat} (hts : ∀ w ∈ lw_tbl, w.before #[Value.ref b] s = true) (hs : ∀ w ∈ flatC (Jvm.Cond.and given_1 narrow_1), w.before #[Value.ref b] s = true) : ∃ ad : Nat → Nat, va_En RX3 "LFlowBoxes$Kind;" znm zen ad (fun q => s.heap.size ≤ q) s s.heap := by
  refine va_Enof (args := #[Value.ref b]) (fun i hi => ?_) (hts _ (by decide +kernel)) (fun i hi => ?_) (fun q hq i hi => ?_) (fun i j hi hj hij => ?_) (fun a h => Nat.not_le.mpr h)
  · have h9 : ∀ i, i < 9 → Cond.laysStatic RX3 (znm.getD i "") "LFlowBoxes$Kind;" ∈ lw_tbl := by decide +kernel
    exact hts _ (h9 i hi)
  · have h9 : ∀ i, i < 9 → Cond.exactly (.static RX3 (znm.getD i "") "LFlowBoxes$Kind;") RX3 ∈ flatC (Jvm.Cond.and given_1 narrow_1) := by decide +kernel
    exact hs _ (h9 i hi)
  · have h9 : ∀ q ∈ zen, ∀ i, i < 9 → Cond.eq (.field (.static RX3 (znm.getD i "") "LFlowBoxes$Kind;") q.1 q.2.1 q.2.2.1) (.int (q.2.2.2.getD i 0)) ∈ flatC (Jvm.Cond.and given_1 narrow_1) := by decide +kernel
    exact hs _ (h9 q hq i hi)
  · have h9 : ∀ i, i < 9 → ∀ j, j < 9 → i ≠ j → (Cond.not (.eq (.static RX3 (znm.getD i "") "LFlowBoxes$Kind;") (.static RX3 (znm.getD j "") "LFlowBoxes$Kind;")) ∈ flatC (Jvm.Cond.and given_1 narrow_1) ∨ Cond.not (.eq (.static RX3 (znm.getD j "") "LFlowBoxes$Kind;") (.static RX3 (znm.getD i "") "LFlowBoxes$Kind;")) ∈ flatC (Jvm.Cond.and given_1 narrow_1)) := by decide +kernel
    exact (h9 i hi j hj hij).imp (hs _) (hs _)
theorem k_sw {s : State} {b : Nat} (hts : ∀ w ∈ lw_tbl, w.before #[Value.ref b] s = true) (hs : ∀ w ∈ flatC (Jvm.Cond.and given_1 narrow_1), w.before #[Value.ref b] s = true) : ∃ t : Nat, va_Z RX0 "$SwitchMap$FlowBoxes$Kind" "[I" (.ref t) (fun q => s.heap.size ≤ q) s s.heap ∧ va_T .int t 9 (fun j => .int (swv j)) (fun q => s.heap.size ≤ q) s s.heap ∧ b ≠ t := by
  have h9 : ∀ j, j < 9 → Cond.eq (.elem (.static RX0 "$SwitchMap$FlowBoxes$Kind" "[I") (.int (Int32.ofNat j))) (.int (swv j)) ∈ flatC (Jvm.Cond.and given_1 narrow_1) := by decide +kernel
  obtain ⟨t, ht, hT⟩ := va_Tof (args := #[Value.ref b]) (s := s) (tm := .static RX0 "$SwitchMap$FlowBoxes$Kind" "[I") (ty := .int) (N := 9) (f := fun j => .int (swv j)) (A := fun q => s.heap.size ≤ q) (by decide) (hs _ (by decide +kernel)) (va_eqt (hs (Cond.eq (.length (.static RX0 "$SwitchMap$FlowBoxes$Kind" "[I")) (.int 9)) (by decide +kernel))) (fun j hj => va_eqt (hs _ (h9 j hj))) (fun a h => Nat.not_le.mpr h)
  exact ⟨t, va_Zref (hts _ (by decide +kernel)) (hts _ (by decide +kernel)) ht (fun a h => Nat.not_le.mpr h), hT, va_neR (t := .arg 0) (hs _ (by decide +kernel)) rfl ht⟩
def sto0 (b L t : Nat) (xs : Nat → Int32) : Sto := ((fun a => if a = b then (25, L) else if a = t then (25, 9) else (0, 0)), (fun _ _ => 0), (fun _ _ => none), (fun a i => if a = b then xs i else if a = t then swv i else 0), (fun _ _ => none))
theorem sto0_k {b L t a : Nat} {xs : Nat → Int32} {c n : Nat} (h : zT (sto0 b L t xs) a = (c + 1, n)) : c = 24 := by
  have h : (if a = b then ((25 : Nat), L) else if a = t then (25, 9) else (0, 0)) = (c + 1, n) := h
  split at h
  · have := congrArg Prod.fst h; simp at this; omega
  · split at h
    · have := congrArg Prod.fst h; simp at this; omega
    · have := congrArg Prod.fst h; simp at this
theorem whole_start {p : Program} {e : Env} {s : State} {m : MethodId} {below : List Frame} {meth : Method} {c : Code} (l : Launch) (hflags : l.flags = flags0) {b L : Nat} {xs : Nat → Int32} (hL : L ≤ 260) (C0 : lw_At p s m meth c b L xs) : W p l e room_1 s m #[Value.ref b] below meth c s.heap [] 0 0 (lw_Z below #[Value.ref b] s) (entryFrame m ([Value.ref b] : List Value).toArray 15) := by
  obtain ⟨hx, hb, hr, hml, hown, hts, hX, hbl, hlocks, hgv⟩ := id C0
  have hs := flat_of_before _ hgv
  obtain ⟨dC, dI, hKn⟩ := k_known hts
  obtain ⟨c0, a0, r0⟩ := k_int (hts (.arrayClass .int) (by decide +kernel))
  obtain ⟨c1, a1, r1⟩ := k_arr (C := "FlowBoxes$Node") (hts _ (by decide +kernel))
  obtain ⟨c2, a2, r2⟩ := k_arr (C := "FlowBoxes$Flow") (hts _ (by decide +kernel))
  obtain ⟨c3, a3, r3⟩ := k_arr (C := "FlowBoxes$Thing") (hts _ (by decide +kernel))
  obtain ⟨ad, hEn⟩ := k_en hts hs
  obtain ⟨t, hZ, hT, hbt⟩ := k_sw hts hs
  let G : Gb := ((dC, dI), s.heap.size, ad, t, fun k => if k = 0 then c0 else if k = 1 then c1 else if k = 2 then c2 else c3)
  have hK : zK G s s.heap := by
    refine ⟨⟨hKn, fun k q hq => ?_⟩, fun w hw => ?_, ⟨va_AO.of (hts (.arrayOver (.object "FlowBoxes$Node")) (by decide +kernel)), va_AO.of (hts (.arrayOver (.object "FlowBoxes$Flow")) (by decide +kernel)), va_AO.of (hts (.arrayOver (.object "FlowBoxes$Thing")) (by decide +kernel))⟩, hEn, hZ, Nat.le_refl _⟩
    · match k, hq with
      | 0, hq => cases hq; exact ⟨a0, r0⟩
      | 1, hq => cases hq; exact ⟨a1, r1⟩
      | 2, hq => cases hq; exact ⟨a2, r2⟩
      | 3, hq => cases hq; exact ⟨a3, r3⟩
      | k + 4, hq => simp [ztys] at hq
    · have h1 := List.mem_filter.mp hw
      refine va_Nw.of ?_ (hts w h1.1)
      have h2 := h1.2
      cases w <;> first | rfl | (exfalso; simp [isNW] at h2; done)
  obtain ⟨tc, t1, t2, t3, t4, t5, t6, t7⟩ := id hT
  have htl : t < s.heap.size := (Array.getElem?_eq_some_iff.mp t1).1
  have hP : zP G (sto0 b L t xs) s s.heap := by
    refine ⟨fun a ha => ⟨fun _ => ⟨rfl, rfl⟩, fun i => ⟨?_, rfl⟩⟩, fun a c n h hc => absurd (sto0_k h) (by omega), fun a n h => absurd (sto0_k (c := 19) h) (by decide), fun a j n h hj => absurd (sto0_k (c := 20 + j) (by rw [h, show 21 + j = 20 + j + 1 by omega])) (by omega), fun a n h => ?_, fun a n h => absurd (sto0_k (c := 29) h) (by decide), fun a ha => ?_⟩
    · have ha : (if a = b then ((25 : Nat), L) else if a = t then (25, 9) else (0, 0)).1 = 0 := ha
      show (if a = b then xs i else if a = t then swv i else 0) = 0
      by_cases e1 : a = b
      · rw [if_pos e1] at ha; exact absurd ha (by show (25 : Nat) ≠ 0; decide)
      · by_cases e2 : a = t
        · rw [if_neg e1, if_pos e2] at ha; exact absurd ha (by show (25 : Nat) ≠ 0; decide)
        · rw [if_neg e1, if_neg e2]
    · have h : (if a = b then ((25 : Nat), L) else if a = t then (25, 9) else (0, 0)) = (25, n) := h
      by_cases e1 : a = b
      · rw [if_pos e1] at h
        have hn : L = n := congrArg Prod.snd h
        obtain ⟨scr, x1, x2, x3, x4, x5⟩ := hX
        refine ⟨by rw [e1]; exact hbl, scr, by rw [e1]; exact x1, x2, x3, ⟨by omega, by rw [x4, hn]⟩, fun j hj => ?_⟩
        rw [x5 j (by omega)]
        show _ = some (Value.int (if a = b then xs j else if a = t then swv j else 0))
        rw [if_pos e1]
      · by_cases e2 : a = t
        · rw [if_neg e1, if_pos e2] at h
          have hn : 9 = n := congrArg Prod.snd h
          subst hn
          refine ⟨by rw [e2]; exact htl, tc, by rw [e2]; exact t1, t2, t3, ⟨t4, t5⟩, fun j hj => ?_⟩
          rw [t6 j hj]
          show _ = some (Value.int (if a = b then xs j else if a = t then swv j else 0))
          rw [if_neg e1, if_pos e2]
        · rw [if_neg e1, if_neg e2] at h
          exact absurd (congrArg Prod.fst h) (by show (0 : Nat) ≠ 25; decide)
    · have ha : (if a = b then ((25 : Nat), L) else if a = t then (25, 9) else (0, 0)).1 ≠ 0 := ha
      by_cases e1 : a = b
      · rw [e1]; exact hbl
      · by_cases e2 : a = t
        · rw [e2]; exact htl
        · rw [if_neg e1, if_neg e2] at ha; exact absurd rfl ha
  have hsw : Sw G (sto0 b L t xs) := by
    refine ⟨?_, ?_, ?_⟩
    · show (if t = b then ((25 : Nat), L) else if t = t then (25, 9) else (0, 0)) = (25, 9)
      rw [if_neg (fun e => hbt e.symm), if_pos rfl]
    · show (if t = b then xs 7 else if t = t then swv 7 else 0) = 4
      rw [if_neg (fun e => hbt e.symm), if_pos rfl]; decide
    · show (if t = b then xs 0 else if t = t then swv 0 else 0) = 0
      rw [if_neg (fun e => hbt e.symm), if_pos rfl]; decide
  have hl := lv_entry ([.ref b]) (n := 15) (Nat.le_of_ble_eq_true rfl)
  rw [lg_entry_eq]
  generalize (lg_sl ([.ref b]) ++ List.replicate (15 - (lg_sl ([.ref b])).length) Slot.unset).toArray = ls at hl ⊢
  have hl : lv_has ls 15 [(0, .ref b)] := hl
  have K := l_start l (G := G) (σ := sto0 b L t xs) (b := b) (n := L) (by omega) (if_pos rfl) hsw p e room_1 s m #[.ref b] below meth c s.heap [] 0 0 638563 7185779 ls ⟨hx, hb, hml, hown, fun w hw => hts w (List.mem_filter.mp hw).1, hr, hlocks, fun q => by cases q⟩ hK va_S.rf hP hl (by decide) (by decide) (by decide) (by decide) (by decide) (by decide)
  intro T hT0 X
  obtain ⟨t', q1, o, b1, b2, ⟨⟨v, s', e1, e2, e3⟩, hF⟩, ⟨Ls, f1, f2⟩⟩ := K T hT0 X
  subst e1
  subst e2
  exact ⟨t', q1, _, b1, b2, rfl, ⟨_, rfl⟩, f1.2.1, f1.2.2.weaken (fun y hy hlt => absurd hlt (Nat.not_lt.mpr (f2 y hy))) (Nat.le_refl _) (Nat.le_refl _)⟩
-- ===== YOUR PART ENDS =====
set_option maxHeartbeats 4000000 in
theorem lw_walk (l : Launch) (hflags : l.flags = flags0) (b : Addr) (xs : List Int32) : MetFree l x (headSpec (Jvm.Cond.code x code maxLocals ret :: tables_1) room_1) (lw_P b xs) (fun _ _ _ _ _ => True) lw_Q := by
  refine MetFree.of_bodyS (code := code) (maxLocals := maxLocals) (ret := ret) (by decide) ?_ ?_
  · intro args s m h hn
    obtain ⟨meth, c, h1, h2, h3, h4, h5, h6, -, -⟩ := Cond.code_spec hn (atoms_spec (ws := Jvm.Cond.code x code maxLocals ret :: tables_1) h _ List.mem_cons_self)
    exact ⟨meth, c, h1, h2, h3, h4, h5, h6⟩
  · intro p e s m args below meth c s₁ B hml0 hP _
    obtain ⟨rfl, hx, hbd, hgv⟩ := hP
    obtain ⟨scr, harrAt, hlist, hof, hsmall⟩ := hx
    obtain ⟨hcb, hkn, -, -⟩ := State.arrayAt?_spec harrAt
    have hown : s.vm.findClass R_law = some m.cls := findClass_of_methodNamed B.named
    have hts0 : ∀ c ∈ (Jvm.Cond.code x code maxLocals ret :: tables_1), c.before #[Value.ref b] s = true := atoms_spec (ws := Jvm.Cond.code x code maxLocals ret :: tables_1) B.pre
    have hts : ∀ w ∈ lw_tbl, w.before #[Value.ref b] s = true := k2_hts_sels lw_privs (fun w hw => hts0 w (List.mem_cons_of_mem _ hw)) lw_privs_ok
    have hml : c.maxLocals = 15 := B.maxLocals_eq (hts0 _ List.mem_cons_self)
    have X₀ : Stand p l e room_1 s m #[Value.ref b] below meth c s₁ [] 0 0 := Stand.of_body B
    have hh0 : s₁.heap = s.heap := by rw [B.state]; rfl
    have hsz : scr.slots.size = xs.length := by rw [← Array.length_toList, hlist, List.length_map]
    have hval : ∀ j : Nat, j < xs.length → scr.slots[j]? = some (.int (xs.getD j 0)) := fun j hj => by
      rw [← Array.getElem?_toList, hlist]
      simp [hj]
    have hbl : b < s.heap.size := (Array.getElem?_eq_some_iff.mp hcb).1
    have hX : va_X b xs.length (fun j => xs.getD j 0) s s.heap := ⟨scr, hcb, hof, hkn, hsz, hval⟩
    have K : W p l e room_1 s m #[Value.ref b] below meth c s₁.heap [] 0 0 (lw_Z below #[Value.ref b] s) (entryFrame m ([Value.ref b] : List Value).toArray 15) := by
      rw [hh0]
      exact whole_start l hflags hbd ⟨B.exec, B.bytes, B.returns, hml, hown, hts, hX, hbl, B.notSynchronized, hgv⟩
    obtain ⟨t, a1, o, b1, b2, b3⟩ := K s₁ rfl X₀
    exact ⟨t, o, a1, b1, b2, b3⟩
theorem lw_pre_spec {args : Array Value} {s : State} (h : (Jvm.Cond.and given_1 narrow_1).before args s = true) (hr : rest_1_c.before args s = true) : ∃ (b : Addr) (xs : List Int32), lw_P b xs args s := by
  have hs := flat_of_before _ h
  have hq := flat_of_before _ hr
  have hc : (Cond.count 1).before args s = true := hs _ (by decide +kernel)
  have harr : (Cond.arrayOf (.arg 0) .int).before args s = true := hs _ (by decide +kernel)
  have hle : (Cond.le (.length (.arg 0)) (.int 260)).before args s = true := hs _ (by decide +kernel)
  have hlen : (Cond.isInt (.length (.arg 0))).before args s = true := hq _ (by decide +kernel)
  have hall : (Cond.all (.arg 0) (.isInt (.elem (.arg 0) (.index 0)))).before args s = true := hq _ (by decide +kernel)
  obtain ⟨b, xs, hb, hx⟩ := State.ints_of_pre rfl harr hlen hall
  have hsm : xs.length < 2 ^ 31 := hx.choose_spec.2.2.2
  have hev : (Term.length (.arg 0)).eval args s none [] s = some (.int xs.length.toInt32) := hx.length_eval hb
  have hv := Cond.le_ints hev (show (Term.int 260).eval args s none [] s = some (.int 260) from rfl)
  have hd : xs.length.toInt32 ≤ 260 := by
    simpa [Cond.before, Cond.holds, hv] using hle
  have hN : xs.length ≤ 260 := (Int32.ofNat_le_ofNat hsm (by decide)).mp (show Int32.ofNat xs.length ≤ Int32.ofNat 260 from hd)
  exact ⟨b, xs, Cond.one_arg hc (show args[0]? = some (.ref b) from hb), hx, hN, h⟩
theorem lw_comes (l : Launch) (hflags : l.flags = flags0) : Comes l x (Jvm.Cond.code x code maxLocals ret :: tables_1) room_1 (fun tb e args s => Calls_1 tb e args s ∧ rest_1 tb e args s ∧ Pre_1 tb e args s)
    (fun _ _ args s o t => lw_Q args s o t) := by
  intro p e ha hc hk s m args below hf hfit hheap happ hpre
  obtain ⟨b, xs, hP⟩ := lw_pre_spec hpre.2.2 hpre.2.1
  obtain ⟨k, o, h1, h2, h3, hQ⟩ := lw_walk l hflags b xs p e ha hc hk s m args below hf ((Spec.applies_iff_loose hf).mp happ).1 hP trivial
  exact ⟨k, o, h1, h2, h3, hQ⟩
theorem lw_frame {s t : State} {o : Outcome} {args : Array Value} (h : Framed s o t [] 638563 7185779) :
    Framed s o t (fieldLocs frame_1_writes args s ++ arrayLocs frame_1_arrays args s ++ staticLocs frame_1_statics s) 638563 7185779 := h
theorem lw_limb (L : Cond) (hL : ∀ (args : Array Value) (s t : State), L.after args s (.returned (some (.int 1))) t = true) :
    ArmFor flags0 classFile x code maxLocals ret World_1 tables_1 room_1 Calls_1 rest_1 Pre_1
      (fun tb e a s o t => postC L tb e a s o t ∧ Framed s o t (fieldLocs frame_1_writes a s ++ arrayLocs frame_1_arrays a s ++ staticLocs frame_1_statics s) 638563 7185779) := by
  intro l hflags _ _ p e ha hc hk s m args below hf hfit hheap happ hpre
  obtain ⟨k, o, h1, h2, h3, rfl, hF⟩ := lw_comes l hflags p e ha hc hk s m args below hf hfit hheap happ hpre
  exact ⟨k, _, h1, h2, h3, hL args s _, lw_frame hF⟩
theorem i_vc : Claimed_1_1 ∧ Claimed_1_2 := ⟨lw_limb limb_1_1 (fun args s t => by simp [limb_1_1, Cond.after, Cond.holds, Cond.value]), lw_limb limb_1_2 (fun args s t => Cond.after_iff.mpr (by
  first | (rw [show limb_1_2 = Cond.eq .result (.int 1) from rfl, Cond.eq_ints (x := 1) (y := 1) rfl rfl]; simp; done) | (simp [limb_1_2, Cond.value, Term.eval]; done)))⟩

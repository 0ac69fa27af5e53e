/-! ROWS that read or change the heap, over Wp -/
/-- a field's link: own reads it at the place i of its pool: kind kd, number f, its type, final or not, of references or not -/
def zF0 (own : String) (i kd f : Nat) (ty : FieldType) (fin b x : Bool) : Prop :=
  ∃ (c k : Nat) (r : vw_C), kd = c + 1 ∧ c < 10 ∧ f = 100 * kd + k ∧ zcl[c]? = some r ∧ k < r.2.2 ∧ parseFieldDescriptor (r.2.1 k).2.2.1 = some ty ∧ (r.2.1 k).2.2.2 = fin ∧ zref f = b ∧ (r.2.1 k).1 = r.1 ∧
    ((x = false ∧ Cond.fieldLink own i (r.2.1 k).1 (r.2.1 k).2.1 (r.2.1 k).2.2.1 ∈ gwl) ∨ (x = true ∧ Cond.fieldLinkNest own i (r.2.1 k).1 (r.2.1 k).2.1 (r.2.1 k).2.2.1 "FlowBoxes" ∈ gnl))
/-- .. not one of longs -/
def zFL (own : String) (i kd f : Nat) (ty : FieldType) (fin b x : Bool) : Prop := zLb ty = false ∧ zF0 own i kd f ty fin b x
theorem gw_of {i : Nat} {w : Cond} (h : tables_1[i]? = some w) (hg : goodWord w = true) : w ∈ gwl := List.mem_filter.mpr ⟨List.mem_append_right _ (List.mem_of_getElem? h), hg⟩
theorem gs_of {q : MethodName × Nat} (h : q ∈ lw_privs) : Cond.selects q.1.cls q.1 q.1 ∈ gwl := List.mem_filter.mpr ⟨List.mem_append_left _ (List.mem_map.mpr ⟨q, h, rfl⟩), rfl⟩
theorem gn_of {i : Nat} {w : Cond} (h : tables_1[i]? = some w) (hg : isNW w = true) : w ∈ gnl := List.mem_filter.mpr ⟨List.mem_append_right _ (List.mem_of_getElem? h), hg⟩
/-- what the tables say of a class: its fields' words; their types; their names apart; what a new object's fields hold -/
def zCl (c : Nat) (r : vw_C) (ty : Nat → FieldType) : Prop := (∀ w ∈ u_ws r.1 r.2.1 r.2.2, w ∈ gwl) ∧ (∀ k, k < r.2.2 → parseFieldDescriptor (r.2.1 k).2.2.1 = some (ty k)) ∧ (∀ a, a < r.2.2 → ∀ b, b < r.2.2 → a ≠ b → (r.2.1 a).2.1 ≠ (r.2.1 b).2.1) ∧
  (∀ k, k < r.2.2 → defaultValue (ty k) = cond (zLb (ty k)) (Value.long 0) (cond (zref (100 * (c + 1) + k)) Value.null (Value.int 0))) ∧ r.2.2 ≤ 20
theorem gw_all {ws : List Cond} (h : ∀ w ∈ ws, w ∈ lw_tbl) (hg : ws.all goodWord = true) : ∀ w ∈ ws, w ∈ gwl := fun w hw => List.mem_filter.mpr ⟨h w hw, List.all_eq_true.mp hg w hw⟩
theorem zCl_0 : zCl 0 (RX1, TX1, 7) tyX1 := ⟨gw_all (by decide +kernel) (by decide +kernel), tyX1_ok, nmX1, by decide +kernel, by decide⟩
theorem zCl_1 : zCl 1 (RX2, TX2, 20) tyX2 := ⟨gw_all (by decide +kernel) (by decide +kernel), tyX2_ok, nmX2, by decide +kernel, by decide⟩
theorem zCl_2 : zCl 2 (RX4, TX4, 6) tyX4 := ⟨gw_all (by decide +kernel) (by decide +kernel), tyX4_ok, nmX4, by decide +kernel, by decide⟩
theorem zCl_3 : zCl 3 (RX5, TX5, 6) tyX5 := ⟨gw_all (by decide +kernel) (by decide +kernel), tyX5_ok, nmX5, by decide +kernel, by decide⟩
theorem zCl_4 : zCl 4 (RX7, TX7, 20) tyX7 := ⟨gw_all (by decide +kernel) (by decide +kernel), tyX7_ok, nmX7, by decide +kernel, by decide⟩
theorem zCl_5 : zCl 5 (RX8, TX8, 2) tyX8 := ⟨gw_all (by decide +kernel) (by decide +kernel), tyX8_ok, nmX8, by decide +kernel, by decide⟩
theorem zCl_6 : zCl 6 (RX9, TX9, 20) tyX9 := ⟨gw_all (by decide +kernel) (by decide +kernel), tyX9_ok, nmX9, by decide +kernel, by decide⟩
theorem zCl_7 : zCl 7 (RX10, TX10, 7) tyX10 := ⟨gw_all (by decide +kernel) (by decide +kernel), tyX10_ok, nmX10, by decide +kernel, by decide⟩
theorem zCl_8 : zCl 8 (RX11, TX11, 5) tyX11 := ⟨gw_all (by decide +kernel) (by decide +kernel), tyX11_ok, nmX11, by decide +kernel, by decide⟩
theorem zCl_9 : zCl 9 (RX12, TX12, 10) tyX12 := ⟨gw_all (by decide +kernel) (by decide +kernel), tyX12_ok, nmX12, by decide +kernel, by decide⟩
theorem zCl_ok {c : Nat} {r : vw_C} (h : zcl[c]? = some r) : ∃ ty, zCl c r ty := by
  match c, h with
  | 0, h => cases h; exact ⟨_, zCl_0⟩
  | 1, h => cases h; exact ⟨_, zCl_1⟩
  | 2, h => cases h; exact ⟨_, zCl_2⟩
  | 3, h => cases h; exact ⟨_, zCl_3⟩
  | 4, h => cases h; exact ⟨_, zCl_4⟩
  | 5, h => cases h; exact ⟨_, zCl_5⟩
  | 6, h => cases h; exact ⟨_, zCl_6⟩
  | 7, h => cases h; exact ⟨_, zCl_7⟩
  | 8, h => cases h; exact ⟨_, zCl_8⟩
  | 9, h => cases h; exact ⟨_, zCl_9⟩
  | c + 10, h => simp [zcl] at h
theorem zP.lt {G σ U H a} (h : zP G σ U H) (ha : (zT σ a).1 ≠ 0) : a < H.size := h.2.2.2.2.2.2 a ha
theorem zfv_n {ty : FieldType} {σ : Sto} {f a : Nat} {v : Value} (h : zLb ty = false) : zfv (some ty) σ f a v ↔ v = zval (zref f) σ f a := by
  cases ty <;> first | exact Iff.rfl | exact absurd h (by decide)
theorem zval_same {b : Bool} {σ σ' : Sto} {f a : Nat} (hI : zI σ' f a = zI σ f a) (hR : zR σ' f a = zR σ f a) : zval b σ' f a = zval b σ f a := by
  cases b
  · show Value.int _ = Value.int _; rw [hI]
  · show va_rf _ = va_rf _; rw [hR]
theorem zfv_same {t : Option FieldType} {σ σ' : Sto} {f a : Nat} {v : Value} (hI : zI σ' f a = zI σ f a) (hR : zR σ' f a = zR σ f a) (h : zfv t σ f a v) : zfv t σ' f a v := by
  cases t with
  | none => exact (show v = _ from h).trans (zval_same hI hR).symm
  | some ty => cases ty <;> first | exact (show v = _ from h).trans (zval_same hI hR).symm | exact (let ⟨L, e, q⟩ := h; ⟨L, e, q.trans hI.symm⟩)
/-- a store that differs from one that the heap holds at the cell a alone -/
theorem zP.change {G : Gb} {σ σ' : Sto} {U : State} {H H1 : Heap} {a : Nat} (h : zP G σ U H) (hT : ∀ b, zT σ' b = zT σ b) (ha : (zT σ a).1 ≠ 0) (hb : G.2.1 ≤ a)
    (hI : ∀ f b, b ≠ a → zI σ' f b = zI σ f b) (hR : ∀ f b, b ≠ a → zR σ' f b = zR σ f b) (hA : ∀ b, b ≠ a → zA σ' b = zA σ b) (hQ : ∀ b, b ≠ a → zQ σ' b = zQ σ b) (hz : H1.size = H.size) (ho : ∀ q, q ≠ a → H1[q]? = H[q]?)
    (h1 : ∀ c n, zT σ a = (c + 1, n) → c < 10 → zOb G σ' c a H1)
    (h2 : ∀ n, zT σ a = (20, n) → H1[a]? = some (arrV (G.2.2.2.2 0) n (fun j => .int (zA σ' a j))))
    (h3 : ∀ j n, zT σ a = (21 + j, n) → j < 3 → H1[a]? = some (arrV (G.2.2.2.2 (j + 1)) n (fun i => va_rf (zQ σ' a i)))) : zP G σ' U H1 := by
  obtain ⟨p0, p1, p2, p3, p4, p5, p6⟩ := h
  refine ⟨fun b e => ?_, fun b c n e hc => ?_, fun b n e => ?_, fun b j n e hj => ?_, fun b n e => ?_, fun b n e => ?_, fun b e => ?_⟩
  · rw [hT] at e
    have hne : b ≠ a := fun q => ha (by rw [← q]; exact e)
    exact ⟨fun f => by rw [hI f b hne, hR f b hne]; exact (p0 b e).1 f, fun i => by rw [hA b hne, hQ b hne]; exact (p0 b e).2 i⟩
  · rw [hT] at e
    by_cases hne : b = a
    · subst hne
      exact ⟨hb, h1 c n e hc⟩
    · obtain ⟨g1, r, g2, V, g3, g4⟩ := p1 b c n e hc
      exact ⟨g1, r, g2, V, g3.kept (ho b hne), fun k hk => zfv_same (hI _ b hne) (hR _ b hne) (g4 k hk)⟩
  · rw [hT] at e
    by_cases hne : b = a
    · subst hne
      exact ⟨hb, h2 n e⟩
    · exact ⟨(p2 b n e).1, by rw [ho b hne, hA b hne]; exact (p2 b n e).2⟩
  · rw [hT] at e
    by_cases hne : b = a
    · subst hne
      exact ⟨hb, h3 j n e hj⟩
    · exact ⟨(p3 b j n e hj).1, by rw [ho b hne, hQ b hne]; exact (p3 b j n e hj).2⟩
  · rw [hT] at e
    have hne : b ≠ a := fun q => by have := (p4 b n e).1; omega
    exact ⟨(p4 b n e).1, by rw [hA b hne]; exact zY.kept (p4 b n e).2 (ho b hne)⟩
  · rw [hT] at e
    exact p5 b n e
  · rw [hT] at e
    rw [hz]
    exact p6 b e
/-- a store with one cell more -/
theorem zP.push {G : Gb} {σ : Sto} {U : State} {H H1 : Heap} {t : Nat × Nat} (h : zP G σ U H) (hb : G.2.1 ≤ H.size) (hz : H1.size = H.size + 1) (ho : ∀ q, q < H.size → H1[q]? = H[q]?) (ht : t.1 ≠ 0 ∧ t.1 ≠ 25 ∧ t.1 ≠ 30)
    (h1 : ∀ c, t.1 = c + 1 → c < 10 → zOb G σ c H.size H1)
    (h2 : t.1 = 20 → H1[H.size]? = some (arrV (G.2.2.2.2 0) t.2 (fun j => .int (zA σ H.size j))))
    (h3 : ∀ j, t.1 = 21 + j → j < 3 → H1[H.size]? = some (arrV (G.2.2.2.2 (j + 1)) t.2 (fun i => va_rf (zQ σ H.size i)))) : zP G (wT σ H.size t) U H1 := by
  have hlt : ∀ b, (zT σ b).1 ≠ 0 → b < H.size := fun b e => h.lt e
  obtain ⟨p0, p1, p2, p3, p4, p5, p6⟩ := h
  have hT : ∀ b x, zT (wT σ H.size t) b = x → (b = H.size ∧ t = x) ∨ (b ≠ H.size ∧ zT σ b = x) := fun b x e => by
    rw [zT_wT] at e
    by_cases q : b = H.size
    · rw [if_pos q] at e; exact Or.inl ⟨q, e⟩
    · rw [if_neg q] at e; exact Or.inr ⟨q, e⟩
  refine ⟨fun b e => ?_, fun b c n e hc => ?_, fun b n e => ?_, fun b j n e hj => ?_, fun b n e => ?_, fun b n e => ?_, fun b e => ?_⟩
  · rcases hT b _ rfl with ⟨q1, q2⟩ | ⟨q1, q2⟩
    · rw [← q2] at e; exact absurd e ht.1
    · rw [← q2] at e; exact p0 b e
  · rcases hT b _ e with ⟨q1, q2⟩ | ⟨q1, q2⟩
    · subst q1
      obtain ⟨r, g2, V, g3, g4⟩ := h1 c (by rw [q2]) hc
      exact ⟨hb, r, g2, V, g3, fun k hk => zfv_same (σ := σ) rfl rfl (g4 k hk)⟩
    · obtain ⟨g1, r, g2, V, g3, g4⟩ := p1 b c n q2 hc
      exact ⟨g1, r, g2, V, g3.kept (ho b (hlt b (by rw [q2]; exact Nat.succ_ne_zero c))), fun k hk => zfv_same (σ := σ) rfl rfl (g4 k hk)⟩
  · rcases hT b _ e with ⟨q1, q2⟩ | ⟨q1, q2⟩
    · subst q1
      have := h2 (by rw [q2])
      rw [q2] at this
      exact ⟨hb, this⟩
    · exact ⟨(p2 b n q2).1, by rw [ho b (hlt b (by rw [q2]; exact fun z => by cases z))]; exact (p2 b n q2).2⟩
  · rcases hT b _ e with ⟨q1, q2⟩ | ⟨q1, q2⟩
    · subst q1
      have := h3 j (by rw [q2]) hj
      rw [q2] at this
      exact ⟨hb, this⟩
    · exact ⟨(p3 b j n q2 hj).1, by rw [ho b (hlt b (by rw [q2]; show 21 + j ≠ 0; omega))]; exact (p3 b j n q2 hj).2⟩
  · rcases hT b _ e with ⟨q1, q2⟩ | ⟨q1, q2⟩
    · rw [q2] at ht; exact absurd rfl ht.2.1
    · exact ⟨(p4 b n q2).1, zY.kept (p4 b n q2).2 (ho b (hlt b (by rw [q2]; exact fun z => by cases z)))⟩
  · rcases hT b _ e with ⟨q1, q2⟩ | ⟨q1, q2⟩
    · rw [q2] at ht; exact absurd rfl ht.2.2
    · exact p5 b n q2
  · rcases hT b _ rfl with ⟨q1, q2⟩ | ⟨q1, q2⟩
    · omega
    · rw [← q2] at e; have := hlt b e; omega
theorem zp_get0 {l G d mc ms M pc lv st σ Q} {i kd f a n : Nat} {ty : FieldType} {fin b x : Bool} (hd : decode M.2.1 pc = .ok (.getfield i, 3)) (h : zF0 M.1 i kd f ty fin b x) (ht : zT σ a = (kd, n)) (kk : ∀ v, zfv (some ty) σ f a v → Wp l G d mc ms M (pc + 3) lv (v :: st) σ Q) : Wp l G d mc ms M pc lv (.ref a :: st) σ Q := by
  intro p e R s m args below meth c H locs cells slots k n ls C K S P L r1 r2 r3 r4 r5 r6
  obtain ⟨c0, k0, r0, rfl, hc10, rfl, hr, hk, hty, hfin, rfl, -, hl⟩ := h
  obtain ⟨hbase, r, h1, V, ⟨cell, q1, q2, q3, q4⟩, hV⟩ := P.2.1 a c0 _ ht hc10
  cases h1.symm.trans hr
  have hv := hV k0 hk
  rw [hty] at hv
  obtain ⟨ty0, hC, -⟩ := zCl_ok hr
  obtain ⟨hS, hfc, kC, hkC, hkind⟩ := K.1.1 c0 _ hr
  obtain ⟨cf, kf, fi, fd, hi, hsl⟩ := hS k0 hk
  have hfs := (u_facts hfc hkC (u_lays C.2.2.2.2.1 hC hk) hi).1
  rcases hl with ⟨-, hl⟩ | ⟨-, hl⟩
  · exact W.getf C.1 C.2.1 C.2.2.2.1 (C.2.2.2.2.1 _ hl) hi hfs q1 (by rw [q3]; exact fun h => by cases h) (v := V k0) (by rw [hsl, q4 k0 hk]) rfl rfl hd (kk _ hv p e R s m args below meth c H locs cells slots k n ls C K S P L r1 r2 r3 r4 r5 r6)
  · exact va_Wgetf C.1 C.2.1 C.2.2.2.1 (va_Nw.use rfl (K.2.1 _ hl)) hi hfs q1 (by rw [q3]; exact fun h => by cases h) (v := V k0) (by rw [hsl, q4 k0 hk]) rfl rfl hd (kk _ hv p e R s m args below meth c H locs cells slots k n ls C K S P L r1 r2 r3 r4 r5 r6)
theorem zp_get {l G d mc ms M pc lv st σ Q} {i kd f a n : Nat} {ty : FieldType} {fin b x : Bool} (hd : decode M.2.1 pc = .ok (.getfield i, 3)) (h : zFL M.1 i kd f ty fin b x) (ht : zT σ a = (kd, n)) (kk : Wp l G d mc ms M (pc + 3) lv (zval b σ f a :: st) σ Q) : Wp l G d mc ms M pc lv (.ref a :: st) σ Q :=
  zp_get0 hd h.2 ht fun v hv => by
    obtain ⟨c0, k0, r0, -, -, -, -, -, -, -, hb, -⟩ := h.2
    rw [(zfv_n h.1).mp hv, hb]
    exact kk
theorem zp_getI {l G d mc ms M pc lv st σ Q} {i kd f a n : Nat} {ty : FieldType} {fin x : Bool} (hd : decode M.2.1 pc = .ok (.getfield i, 3)) (h : zFL M.1 i kd f ty fin false x) (ht : zT σ a = (kd, n)) (kk : Wp l G d mc ms M (pc + 3) lv (.int (zI σ f a) :: st) σ Q) : Wp l G d mc ms M pc lv (.ref a :: st) σ Q := zp_get hd h ht kk
theorem zp_getR {l G d mc ms M pc lv st σ Q} {i kd f a n : Nat} {ty : FieldType} {fin x : Bool} {v : Value} (hd : decode M.2.1 pc = .ok (.getfield i, 3)) (h : zFL M.1 i kd f ty fin true x) (ht : zT σ a = (kd, n)) (hv : va_rf (zR σ f a) = v) (kk : Wp l G d mc ms M (pc + 3) lv (v :: st) σ Q) : Wp l G d mc ms M pc lv (.ref a :: st) σ Q := zp_get hd h ht (by rw [show zval true σ f a = v from hv]; exact kk)
/-- a long's field: what is read is known by its lower half -/
theorem zp_getJ {l G d mc ms M pc lv st σ Q} {i kd f a n : Nat} {x : Bool} {v : Int32} (hd : decode M.2.1 pc = .ok (.getfield i, 3)) (h : zF0 M.1 i kd f .long false true x) (ht : zT σ a = (kd, n)) (hv : zI σ f a = v) (kk : ∀ L : Int64, L.toInt32 = v → Wp l G d mc ms M (pc + 3) lv (.long L :: st) σ Q) : Wp l G d mc ms M pc lv (.ref a :: st) σ Q :=
  zp_get0 hd h ht fun w hw => by
    obtain ⟨L, rfl, q⟩ := hw
    exact kk L (q.trans hv)
/-- what a field may be given -/
def zfit (ty : FieldType) (v : Value) : Prop := narrow ty v = v ∧ fits ty v = true
theorem zp_put0 {l G d mc ms M pc lv st σ Q} {i kd f a n : Nat} {ty : FieldType} {fin b x : Bool} {v : Value} {σ' : Sto} (hd : decode M.2.1 pc = .ok (.putfield i, 3)) (h : zF0 M.1 i kd f ty fin b x) (hfin : fin = false ∨ (M.2.2.2.2 = true ∧ x = false ∧ ∀ (c0 k0 : Nat) (r : vw_C), f = 100 * (c0 + 1) + k0 → k0 < 20 → zcl[c0]? = some r → (r.2.1 k0).1 = M.1)) (ht : zT σ a = (kd, n)) (hv : zfit ty v)
    (hT : ∀ b, zT σ' b = zT σ b) (hI : ∀ g b, b ≠ a → zI σ' g b = zI σ g b) (hR : ∀ g b, b ≠ a → zR σ' g b = zR σ g b) (hA : ∀ b, zA σ' b = zA σ b) (hQ : ∀ b, zQ σ' b = zQ σ b) (hV : ∀ g t w, g ≠ f → zfv t σ g a w → zfv t σ' g a w) (hN : zfv (some ty) σ' f a v)
    (kk : Wp l G d mc ms M (pc + 3) lv st σ' Q) : Wp l G d mc ms M pc lv (v :: .ref a :: st) σ Q := by
  intro p e R s m args below meth c H locs cells slots k n ls C K S P L r1 r2 r3 r4 r5 r6
  obtain ⟨c0, k0, r0, rfl, hc10, rfl, hr, hk, hty, hfn, rfl, hO, hl⟩ := h
  obtain ⟨hbase, r, h1, V, ⟨cell, q1, q2, q3, q4⟩, hVk⟩ := P.2.1 a c0 _ ht hc10
  cases h1.symm.trans hr
  obtain ⟨ty0, hC, hC2, hC3, -, hC5⟩ := zCl_ok hr
  have hap := va_apart (own := M.1) (C.2.2.2.2.1) hC ty0 hC2 hC3 K.1 hr
  obtain ⟨hS, hfc, kC, hkC, hkind⟩ := K.1.1 c0 _ hr
  obtain ⟨cf, kf, fi, fd, hi, hsl⟩ := hS k0 hk
  have hfs := (u_facts hfc hkC (u_lays C.2.2.2.2.1 hC hk) hi).1
  have hlay := C.2.2.2.2.1 _ (hC _ (u_in_lay hk))
  unfold u_lay at hlay
  have fin_ : ∀ H1 : Heap, H1[a]? = some (cell.setSlot fd.slot v) → H1.size = H.size → (∀ q, q ≠ a → H1[q]? = H[q]?) → va_S (gP G) s.heap H1 (locs ++ [⟨a, fd.slot⟩]) ∧ zP G σ' s H1 := fun H1 e1 e2 e3 => by
    refine ⟨S.put e2 e3 hbase, P.change hT (by rw [ht]; exact Nat.succ_ne_zero _) hbase hI hR (fun b _ => hA b) (fun b _ => hQ b) e2 e3 (fun c2 n2 e hc => ?_) (fun n2 e => ?_) (fun j n2 e hj => ?_)⟩
    · rw [ht] at e
      cases e
      refine ⟨_, hr, updV V k0 v, ⟨_, e1, q2, q3, by rw [hsl]; exact t_set q4 hap hk v⟩, fun j hj => ?_⟩
      by_cases hjk : j = k0
      · subst hjk
        rw [hty, show updV V j v j = v from by simp [updV]]
        exact hN
      · rw [show updV V k0 v j = V j from by simp [updV, hjk]]
        exact hV _ _ _ (by omega) (hVk j hj)
    · rw [ht] at e; have e' : c0 + 1 = 20 := congrArg Prod.fst e; omega
    · rw [ht] at e; have e' : c0 + 1 = 21 + j := congrArg Prod.fst e; omega
  have kk' : ∀ H1 : Heap, H1[a]? = some (cell.setSlot fd.slot v) → H1.size = H.size → (∀ q, q ≠ a → H1[q]? = H[q]?) → W p l e R s m args below meth c H1 (locs ++ [⟨a, fd.slot⟩]) cells slots (MQ below (zQC G Q) args s k n (gP G)) (F0 m (pc + 3) ls st) := fun H1 e1 e2 e3 =>
    kk p e R s m args below meth c H1 _ cells slots k n ls C K (fin_ H1 e1 e2 e3).1 (fin_ H1 e1 e2 e3).2 L r1 r2 r3 r4 r5 r6
  have hsz : fd.slot < cell.slots.size := by rw [hsl]; exact k2_hasslot (q4 k0 hk)
  cases hfl : (r0.2.1 k0).2.2.2 with
  | false =>
    rw [if_neg (by rw [hfl]; decide)] at hlay
    have h6 := u_store hfc hkC hkind hlay hi hty hv.1 hv.2
    rcases hl with ⟨-, hl⟩ | ⟨-, hl⟩
    · exact W.putK C.1 C.2.1 (f := fd) ⟨C.2.2.2.1, C.2.2.2.2.1 _ hl, ⟨_, _, _, hi⟩, hfs⟩ (by rw [q2]; exact h6) q1 q3 hsz rfl rfl hd kk'
    · exact va_WputK C.1 C.2.1 (f := fd) C.2.2.2.1 (va_Nw.use rfl (K.2.1 _ hl)) hi hfs (by rw [q2]; exact h6) q1 q3 hsz rfl rfl hd kk'
  | true =>
    rcases hfin with hf | ⟨hf, hx, hown⟩
    · rw [hfn, hf] at hfl; cases hfl
    · rw [if_pos hfl] at hlay
      have hdecl := hown c0 k0 r0 rfl (Nat.lt_of_lt_of_le hk hC5) hr
      have hcf : m.cls = cf := by
        obtain ⟨_, _, c', _, _, _, -, -, hf', -, -, -, hown2, -⟩ := Cond.laysFinal_spec hlay
        have e1 : c' = cf := by have := hi.symm.trans hf'; simp at this; exact this.1.symm
        rw [hdecl] at hown2
        rw [← e1]; exact Option.some.inj (C.2.2.2.1.symm.trans hown2)
      have h6 := u_fits hfc hkC hkind (Or.inr hlay) hi hty hv.1 hv.2
      rcases hl with ⟨-, hl⟩ | ⟨hx2, hl⟩
      · exact W.putFinK C.1 C.2.1 C.2.2.2.1 (C.2.2.2.2.1 _ hl) hi hfs hcf (C.2.2.2.2.2.2.2 hf) (by rw [q2]; exact h6) q1 q3 hsz rfl rfl hd kk'
      · rw [hx] at hx2; cases hx2

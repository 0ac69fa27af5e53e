/-! FLOW: margins that end, places that wait, the lower end of a block (by wip/p27/gen_flow1.py) -/
/-- the places that wait, from one on -/
def Wt (σ : Sto) : Option Nat → List Nat → Prop
  | o, [] => o = none
  | o, p :: ps => o = some p ∧ (∃ n, zT σ p = (7, n)) ∧ Wt σ (zR σ 710 p) ps
theorem Wt.to {σ σ' : Sto} : ∀ {ws : List Nat} {o : Option Nat}, Wt σ o ws → (∀ p ∈ ws, zT σ' p = zT σ p ∧ zR σ' 710 p = zR σ 710 p) → Wt σ' o ws
  | [], _, h, _ => h
  | p :: ps, _, h, hq => by
    obtain ⟨h1, ⟨n, h2⟩, h3⟩ := h
    obtain ⟨q1, q2⟩ := hq p List.mem_cons_self
    exact ⟨h1, ⟨n, by rw [q1]; exact h2⟩, by rw [q2]; exact Wt.to h3 (fun p hp => hq p (List.mem_cons_of_mem _ hp))⟩
def hdS (yy : Int32) (ws : List Nat) (σ : Sto) : Sto := ws.foldl (fun s p => wI (wI s 701 p yy) 709 p 1) σ
def emS (F : Nat) (ws : List Nat) (yy : Int32) (σ : Sto) : Sto := wR (hdS yy ws (wI (wI (wI σ 200 F yy) 201 F 0) 202 F 0)) 203 F none
theorem hdS_T {yy ws σ} : (hdS yy ws σ).1 = σ.1 := by
  induction ws generalizing σ with
  | nil => rfl
  | cons p ps ih => exact ih
theorem hdS_R {yy ws σ} : (hdS yy ws σ).2.2 = σ.2.2 := by
  induction ws generalizing σ with
  | nil => rfl
  | cons p ps ih => exact ih
theorem hdS_I {yy : Int32} {ws : List Nat} {σ : Sto} {f a : Nat} : zI (hdS yy ws σ) f a = if a ∈ ws ∧ f = 701 then yy else if a ∈ ws ∧ f = 709 then 1 else zI σ f a := by
  induction ws generalizing σ with
  | nil => simp [hdS]
  | cons p ps ih =>
    show zI (hdS yy ps (wI (wI σ 701 p yy) 709 p 1)) f a = _
    rw [ih]
    simp only [zI_wI, List.mem_cons]
    by_cases h1 : a ∈ ps
    · by_cases h2 : f = 701
      · simp [h1, h2]
      · by_cases h3 : f = 709
        · simp [h1, h3]
        · simp [h1, h2, h3]
    · by_cases h0 : a = p
      · by_cases h2 : f = 701
        · simp [h1, h2, h0]
        · by_cases h3 : f = 709
          · simp [h1, h3, h0]
          · simp [h1, h2, h3, h0]
      · simp [h1, h0]
theorem emS_T {F ws yy σ a} : zT (emS F ws yy σ) a = zT σ a := congrFun (hdS_T (yy := yy) (ws := ws)) a
theorem emS_R {F ws yy σ f a} : zR (emS F ws yy σ) f a = if f = 203 ∧ a = F then none else zR σ f a := by
  unfold emS
  rw [zR_wR]
  split
  · rfl
  · have := hdS_R (yy := yy) (ws := ws) (σ := wI (wI (wI σ 200 F yy) 201 F 0) 202 F 0)
    exact congrFun (congrFun (congrArg (fun x => x.1) this) f) a
theorem emS_A {F ws yy σ} : zA (emS F ws yy σ) = zA σ := congrArg (fun x => x.2.1) (hdS_R (yy := yy) (ws := ws) (σ := wI (wI (wI σ 200 F yy) 201 F 0) 202 F 0))
theorem emS_Q {F ws yy σ} : zQ (emS F ws yy σ) = zQ σ := congrArg (fun x => x.2.2) (hdS_R (yy := yy) (ws := ws) (σ := wI (wI (wI σ 200 F yy) 201 F 0) 202 F 0))
theorem emS_I {F : Nat} {ws : List Nat} {yy : Int32} {σ : Sto} {f a : Nat} : zI (emS F ws yy σ) f a = if a ∈ ws ∧ f = 701 then yy else if a ∈ ws ∧ f = 709 then 1 else if f = 200 ∧ a = F then yy else if f = 201 ∧ a = F then 0 else if f = 202 ∧ a = F then 0 else zI σ f a := by
  unfold emS
  rw [zI_wR, hdS_I]
  simp only [zI_wI]
  by_cases h0 : a = F
  · by_cases h1 : f = 200
    · simp [h0, h1]
    · by_cases h2 : f = 201
      · simp [h0, h2]
      · by_cases h3 : f = 202
        · simp [h0, h3]
        · simp [h0, h1, h2, h3]
  · simp [h0]
theorem emS_y {F ws yy σ} : zI (emS F ws yy σ) 200 F = yy := by rw [emS_I]; simp
theorem l_X2_endMargins (l : Launch) (G : Gb) (F n : Nat) (yy : Int32) : ∀ (ws : List Nat) (σ : Sto) (r : Option Nat), Wt σ r ws → zT σ F = (2, n) → zI σ 200 F = yy → Wp l G 1 0 0 (RX2, cX2_endMargins, 2, none, false) 17 [(1, va_rf r), (0, .ref F)] [] σ (fun v s => v = none ∧ s = wR (hdS yy ws σ) 203 F none) := by
  intro ws
  induction ws with
  | nil =>
    intro σ r hW hF hy
    obtain rfl : r = none := hW
    show Wp l G 1 0 0 (RX2, cX2_endMargins, 2, none, false) 17 [(1, .null), (0, .ref F)] [] σ _
    refine zp_aloado_n dX2_endMargins_17 rfl (r := none) (v := .null) rfl (List.mem_of_getElem? (i := 0) rfl) ?_
    refine zp_nullT dX2_endMargins_18 (tgt := 42) rfl ?_
    refine zp_aload_n dX2_endMargins_42 rfl (a := F) (List.mem_of_getElem? (i := 1) rfl) ?_
    refine zp_null dX2_endMargins_43 ?_
    refine zp_putR dX2_endMargins_44 fl_X2_21 hF (r := none) rfl ?_
    refine zp_vret rfl dX2_endMargins_47 ?_
    exact ⟨rfl, rfl⟩
  | cons p ps ih =>
    intro σ r hW hF hy
    obtain ⟨rfl, ⟨np, hp⟩, hW⟩ := hW
    show Wp l G 1 0 0 (RX2, cX2_endMargins, 2, none, false) 17 [(1, .ref p), (0, .ref F)] [] σ _
    refine zp_aload_n dX2_endMargins_17 rfl (a := p) (List.mem_of_getElem? (i := 0) rfl) ?_
    refine zp_nullF dX2_endMargins_18 (tgt := 42) rfl ?_
    refine zp_aload_n dX2_endMargins_21 rfl (a := p) (List.mem_of_getElem? (i := 0) rfl) ?_
    refine zp_aload_n dX2_endMargins_22 rfl (a := F) (List.mem_of_getElem? (i := 1) rfl) ?_
    refine zp_getIv dX2_endMargins_23 fl_X2_9 hF (v := yy) hy ?_
    refine zp_putI dX2_endMargins_26 fl_X2_68 hp ?_
    refine zp_aload_n dX2_endMargins_29 rfl (a := p) (List.mem_of_getElem? (i := 0) rfl) ?_
    refine zp_iconst dX2_endMargins_30 (v := 1) (by decide) ?_
    refine zp_putZ dX2_endMargins_31 fl_X2_73 (tI hp) (Or.inr rfl) ?_
    refine zp_aload_n dX2_endMargins_34 rfl (a := p) (List.mem_of_getElem? (i := 0) rfl) ?_
    refine zp_getRn dX2_endMargins_35 fl_X2_77 (tI (tI hp)) (fun x35 hx35 => ?_)
    refine zp_astoreo_n dX2_endMargins_38 rfl (Nat.le_of_ble_eq_true rfl) (r := x35) (v := va_rf x35) rfl (lv2 := [(1, va_rf x35), (0, .ref F)]) rfl ?_
    refine zp_goto dX2_endMargins_39 (tgt := 17) rfl ?_
    subst hx35
    exact ih _ _ (hW.to (fun q _ => ⟨rfl, rfl⟩)) hF (by simpa [zI_wI] using hy)
set_option maxRecDepth 100000 in
set_option maxHeartbeats 4000000 in
theorem c_X2_endMargins (l : Launch) (G : Gb) (F n : Nat) (ws : List Nat) (yy : Int32) (σ : Sto) (hF : zT σ F = (2, n)) (hW : Wt σ (zR σ 203 F) ws) (hy : (zI σ 200 F + zI σ 201 F) + zI σ 202 F = yy) : Ct l G 2 0 0 yX2_endMargins mX2_endMargins [.ref F] σ (fun v s => v = none ∧ s = emS F ws yy σ) := by
  refine Ct.of (by decide) rfl (Nat.le_of_ble_eq_true rfl) (fun h => absurd h (by decide)) ?_
  show Wp l G 2 0 0 (RX2, cX2_endMargins, 2, none, false) 0 [(0, .ref F)] [] σ _
  refine zp_aload_n dX2_endMargins_0 rfl (a := F) (List.mem_of_getElem? (i := 0) rfl) ?_
  refine zp_aload_n dX2_endMargins_1 rfl (a := F) (List.mem_of_getElem? (i := 0) rfl) ?_
  refine zp_callV (c0 := 1) (st := [.ref F]) (mc2 := 0) (ms2 := 0) dX2_endMargins_2 (c_X2_pendingY l G F n _ hF) cl_X2_61 im_X2_pendingY se_X2_pendingY rfl rfl hF rfl rfl (by omega) (by omega) (by omega) (Nat.le_of_ble_eq_true rfl) ?_
  rintro _ s1 ⟨rfl, hs1⟩; obtain rfl := hs1.symm
  rw [hy]
  refine zp_putI dX2_endMargins_5 fl_X2_9 hF ?_
  refine zp_aload_n dX2_endMargins_8 rfl (a := F) (List.mem_of_getElem? (i := 0) rfl) ?_
  refine zp_callV (c0 := 1) (st := []) (mc2 := 0) (ms2 := 0) dX2_endMargins_9 (c_X2_dropMargins l G F n _ hF) cl_X2_65 im_X2_dropMargins se_X2_dropMargins rfl rfl (tI hF) rfl rfl (by omega) (by omega) (by omega) (Nat.le_of_ble_eq_true rfl) ?_
  rintro _ s1 ⟨rfl, hs1⟩; obtain rfl := hs1.symm
  refine zp_aload_n dX2_endMargins_12 rfl (a := F) (List.mem_of_getElem? (i := 0) rfl) ?_
  refine zp_getRn dX2_endMargins_13 fl_X2_21 (tI hF) (fun r hr => ?_)
  refine zp_astoreo_n dX2_endMargins_16 rfl (Nat.le_of_ble_eq_true rfl) (r := r) (v := va_rf r) rfl (lv2 := [(1, va_rf r), (0, .ref F)]) rfl ?_
  subst hr
  exact Wp.widen (by decide) (by decide) (by decide) (l_X2_endMargins l G F n yy ws _ _ (hW.to (fun q _ => ⟨rfl, rfl⟩)) hF (by simp [zI_wI]))
def ewS (c p F : Nat) (ws : List Nat) (σ : Sto) : Sto :=
  if 0 < mx 0 (zI σ 704 p) ∨ 0 < zA σ c 12 then wI (emS F ws ((zI σ 200 F + zI σ 201 F) + zI σ 202 F) (wI σ 703 p (mx 0 (zI σ 704 p)))) 200 F (((zI σ 200 F + zI σ 201 F) + zI σ 202 F) + (zA σ c 12 + mx 0 (zI σ 704 p)))
  else wI (wR (wI σ 703 p (mx 0 (zI σ 704 p))) 203 F (zR σ 710 p)) 701 p ((zI σ 200 F + zI σ 201 F) + zI σ 202 F)
set_option maxRecDepth 100000 in
set_option maxHeartbeats 4000000 in
theorem c_X4_endWaitingBlock (l : Launch) (G : Gb) (c p F np nF : Nat) (ws : List Nat) (σ : Sto) (hc : zT σ c = (20, 21)) (hp : zT σ p = (7, np)) (hF : zT σ F = (2, nF)) (hW : Wt σ (zR σ 203 F) ws) (hq : p ∉ ws ∨ True) : Ct l G 3 0 0 yX4_endWaitingBlock mX4_endWaitingBlock [.ref c, .ref p, .ref F] σ (fun v s => v = none ∧ s = ewS c p F ws σ) := by
  refine Ct.of (by decide) rfl (Nat.le_of_ble_eq_true rfl) (fun h => absurd h (by decide)) ?_
  show Wp l G 3 0 0 (RX4, cX4_endWaitingBlock, 3, none, false) 0 [(0, .ref c), (1, .ref p), (2, .ref F)] [] σ _
  refine zp_aload_n dX4_endWaitingBlock_0 rfl (a := p) (List.mem_of_getElem? (i := 1) rfl) ?_
  refine zp_iconst dX4_endWaitingBlock_1 (v := 0) (by decide) ?_
  refine zp_aload_n dX4_endWaitingBlock_2 rfl (a := p) (List.mem_of_getElem? (i := 1) rfl) ?_
  refine zp_getIv dX4_endWaitingBlock_3 fl_X4_98 hp (v := (zI σ 704 p)) rfl ?_
  refine zp_max dX4_endWaitingBlock_6 wd_517 wd_515 wd_14 wd_516 (by decide) (Nat.le_of_ble_eq_true rfl) (v := (mx 0 (zI σ 704 p))) rfl ?_
  refine zp_putI dX4_endWaitingBlock_9 fl_X4_203 hp ?_
  refine zp_aload_n dX4_endWaitingBlock_12 rfl (a := p) (List.mem_of_getElem? (i := 1) rfl) ?_
  refine zp_getIv dX4_endWaitingBlock_13 fl_X4_203 (tI hp) (v := (mx 0 (zI σ 704 p))) rIe ?_
  refine zp_if_gt dX4_endWaitingBlock_16 (tgt := 26) rfl (fun h16 => ?_) (fun h16 => ?_)
  · skip
    refine zp_aload_n dX4_endWaitingBlock_26 rfl (a := F) (List.mem_of_getElem? (i := 2) rfl) ?_
    refine zp_callV (c0 := 1) (st := []) (mc2 := 0) (ms2 := 0) dX4_endWaitingBlock_27 (c_X2_endMargins l G F nF ws ((zI σ 200 F + zI σ 201 F) + zI σ 202 F) _ hF (hW.to (fun q _ => ⟨rfl, rfl⟩)) (by simp only [zI_wI]; simp)) cl_X4_244 im_X2_endMargins se_X2_endMargins rfl rfl (tI hF) rfl rfl (by omega) (by omega) (by omega) (Nat.le_of_ble_eq_true rfl) ?_
    rintro _ s1 ⟨rfl, hs1⟩; obtain rfl := hs1.symm
    refine zp_aload_n dX4_endWaitingBlock_30 rfl (a := F) (List.mem_of_getElem? (i := 2) rfl) ?_
    refine zp_dup dX4_endWaitingBlock_31 rfl ?_
    refine zp_getIv dX4_endWaitingBlock_32 fl_X4_326 ((emS_T).trans (tI hF)) (v := ((zI σ 200 F + zI σ 201 F) + zI σ 202 F)) emS_y ?_
    refine zp_aload_n dX4_endWaitingBlock_35 rfl (a := c) (List.mem_of_getElem? (i := 0) rfl) ?_
    refine zp_bipush dX4_endWaitingBlock_36 (v := 12) (by decide) ?_
    refine zp_iald_v dX4_endWaitingBlock_38 ((emS_T).trans (tI hc)) (Or.inl rfl) (j := 12) (by decide) (zin (by decide)) (v := (zA σ c 12)) (by rw [emS_A]; rfl) ?_
    refine zp_aload_n dX4_endWaitingBlock_39 rfl (a := p) (List.mem_of_getElem? (i := 1) rfl) ?_
    refine zp_getIv dX4_endWaitingBlock_40 fl_X4_203 ((emS_T).trans (tI hp)) (v := (mx 0 (zI σ 704 p))) (by rw [emS_I]; simp [zI_wI]) ?_
    refine zp_iadd dX4_endWaitingBlock_43 ?_
    refine zp_iadd dX4_endWaitingBlock_44 ?_
    refine zp_putI dX4_endWaitingBlock_45 fl_X4_326 ((emS_T).trans (tI hF)) ?_
    refine zp_goto dX4_endWaitingBlock_48 (tgt := 67) rfl ?_
    refine zp_vret rfl dX4_endWaitingBlock_67 ?_
    exact ⟨rfl, by unfold ewS; rw [if_pos (by first | exact Or.inl h16 | exact Or.inr (Int32.not_le.mp h23))]⟩
  · skip
    refine zp_aload_n dX4_endWaitingBlock_19 rfl (a := c) (List.mem_of_getElem? (i := 0) rfl) ?_
    refine zp_bipush dX4_endWaitingBlock_20 (v := 12) (by decide) ?_
    refine zp_iald_v dX4_endWaitingBlock_22 (tI hc) (Or.inl rfl) (j := 12) (by decide) (zin (by decide)) (v := (zA σ c 12)) rAI ?_
    refine zp_if_le dX4_endWaitingBlock_23 (tgt := 51) rfl (fun h23 => ?_) (fun h23 => ?_)
    · skip
      refine zp_aload_n dX4_endWaitingBlock_51 rfl (a := F) (List.mem_of_getElem? (i := 2) rfl) ?_
      refine zp_aload_n dX4_endWaitingBlock_52 rfl (a := p) (List.mem_of_getElem? (i := 1) rfl) ?_
      refine zp_getRo dX4_endWaitingBlock_53 fl_X4_323 (tI hp) (r := (zR σ 710 p)) rfl ?_
      refine zp_putR dX4_endWaitingBlock_56 fl_X4_320 (tI hF) (r := (zR σ 710 p)) rfl ?_
      refine zp_aload_n dX4_endWaitingBlock_59 rfl (a := p) (List.mem_of_getElem? (i := 1) rfl) ?_
      refine zp_aload_n dX4_endWaitingBlock_60 rfl (a := F) (List.mem_of_getElem? (i := 2) rfl) ?_
      refine zp_callV (c0 := 1) (st := [.ref p]) (mc2 := 0) (ms2 := 0) dX4_endWaitingBlock_61 (c_X2_pendingY l G F nF _ hF) cl_X4_300 im_X2_pendingY se_X2_pendingY rfl rfl (tR (tI hF)) rfl rfl (by omega) (by omega) (by omega) (Nat.le_of_ble_eq_true rfl) ?_
      rintro _ s1 ⟨rfl, hs1⟩; obtain rfl := hs1.symm
      simp only [zI_wI, zI_wR]
      simp only [show (200 = 703 ∧ F = p) = False by simp, show (201 = 703 ∧ F = p) = False by simp, show (202 = 703 ∧ F = p) = False by simp, if_false]
      refine zp_putI dX4_endWaitingBlock_64 fl_X4_150 (tR (tI hp)) ?_
      refine zp_vret rfl dX4_endWaitingBlock_67 ?_
      exact ⟨rfl, by unfold ewS; rw [if_neg (by rintro (q | q) <;> first | exact h16 q | exact absurd q (Int32.not_lt.mpr h23))]⟩
    · skip
      refine zp_aload_n dX4_endWaitingBlock_26 rfl (a := F) (List.mem_of_getElem? (i := 2) rfl) ?_
      refine zp_callV (c0 := 1) (st := []) (mc2 := 0) (ms2 := 0) dX4_endWaitingBlock_27 (c_X2_endMargins l G F nF ws ((zI σ 200 F + zI σ 201 F) + zI σ 202 F) _ hF (hW.to (fun q _ => ⟨rfl, rfl⟩)) (by simp only [zI_wI]; simp)) cl_X4_244 im_X2_endMargins se_X2_endMargins rfl rfl (tI hF) rfl rfl (by omega) (by omega) (by omega) (Nat.le_of_ble_eq_true rfl) ?_
      rintro _ s1 ⟨rfl, hs1⟩; obtain rfl := hs1.symm
      refine zp_aload_n dX4_endWaitingBlock_30 rfl (a := F) (List.mem_of_getElem? (i := 2) rfl) ?_
      refine zp_dup dX4_endWaitingBlock_31 rfl ?_
      refine zp_getIv dX4_endWaitingBlock_32 fl_X4_326 ((emS_T).trans (tI hF)) (v := ((zI σ 200 F + zI σ 201 F) + zI σ 202 F)) emS_y ?_
      refine zp_aload_n dX4_endWaitingBlock_35 rfl (a := c) (List.mem_of_getElem? (i := 0) rfl) ?_
      refine zp_bipush dX4_endWaitingBlock_36 (v := 12) (by decide) ?_
      refine zp_iald_v dX4_endWaitingBlock_38 ((emS_T).trans (tI hc)) (Or.inl rfl) (j := 12) (by decide) (zin (by decide)) (v := (zA σ c 12)) (by rw [emS_A]; rfl) ?_
      refine zp_aload_n dX4_endWaitingBlock_39 rfl (a := p) (List.mem_of_getElem? (i := 1) rfl) ?_
      refine zp_getIv dX4_endWaitingBlock_40 fl_X4_203 ((emS_T).trans (tI hp)) (v := (mx 0 (zI σ 704 p))) (by rw [emS_I]; simp [zI_wI]) ?_
      refine zp_iadd dX4_endWaitingBlock_43 ?_
      refine zp_iadd dX4_endWaitingBlock_44 ?_
      refine zp_putI dX4_endWaitingBlock_45 fl_X4_326 ((emS_T).trans (tI hF)) ?_
      refine zp_goto dX4_endWaitingBlock_48 (tgt := 67) rfl ?_
      refine zp_vret rfl dX4_endWaitingBlock_67 ?_
      exact ⟨rfl, by unfold ewS; rw [if_pos (by first | exact Or.inl h16 | exact Or.inr (Int32.not_le.mp h23))]⟩
def inS (c p : Nat) (σ : Sto) : Int32 := zI σ 701 p + zA σ c 10
def ehS (c p F : Nat) (ws : List Nat) (σ : Sto) : Sto :=
  if 0 ≤ zI σ 704 p then wI (wI (wI (wI σ 201 F 0) 202 F 0) 703 p (zI σ 704 p)) 200 F ((inS c p σ + zI σ 704 p) + zA σ c 12)
  else if 0 < zA σ c 12 then wI (wI (emS F ws ((zI σ 200 F + zI σ 201 F) + zI σ 202 F) σ) 703 p (mx 0 (((zI σ 200 F + zI σ 201 F) + zI σ 202 F) - inS c p σ))) 200 F ((inS c p σ + mx 0 (((zI σ 200 F + zI σ 201 F) + zI σ 202 F) - inS c p σ)) + zA σ c 12)
  else wI σ 703 p (mx 0 (zI σ 200 F - inS c p σ))
set_option maxRecDepth 100000 in
set_option maxHeartbeats 4000000 in
theorem c_X4_endHeldBlock (l : Launch) (G : Gb) (c p F np nF : Nat) (ws : List Nat) (σ : Sto) (hc : zT σ c = (20, 21)) (hp : zT σ p = (7, np)) (hF : zT σ F = (2, nF)) (hW : Wt σ (zR σ 203 F) ws) : Ct l G 3 0 0 yX4_endHeldBlock mX4_endHeldBlock [.ref c, .ref p, .ref F] σ (fun v s => v = none ∧ s = ehS c p F ws σ) := by
  refine Ct.of (by decide) rfl (Nat.le_of_ble_eq_true rfl) (fun h => absurd h (by decide)) ?_
  show Wp l G 3 0 0 (RX4, cX4_endHeldBlock, 4, none, false) 0 [(0, .ref c), (1, .ref p), (2, .ref F)] [] σ _
  refine zp_aload_n dX4_endHeldBlock_0 rfl (a := p) (List.mem_of_getElem? (i := 1) rfl) ?_
  refine zp_getIv dX4_endHeldBlock_1 fl_X4_150 hp (v := (zI σ 701 p)) rfl ?_
  refine zp_aload_n dX4_endHeldBlock_4 rfl (a := c) (List.mem_of_getElem? (i := 0) rfl) ?_
  refine zp_bipush dX4_endHeldBlock_5 (v := 10) (by decide) ?_
  refine zp_iald_v dX4_endHeldBlock_7 hc (Or.inl rfl) (j := 10) (by decide) (zin (by decide)) (v := (zA σ c 10)) rfl ?_
  refine zp_iadd dX4_endHeldBlock_8 ?_
  refine zp_istore_n dX4_endHeldBlock_9 rfl (Nat.le_of_ble_eq_true rfl) (lv2 := [(3, .int ((zI σ 701 p) + (zA σ c 10))), (0, .ref c), (1, .ref p), (2, .ref F)]) rfl ?_
  refine zp_aload_n dX4_endHeldBlock_10 rfl (a := p) (List.mem_of_getElem? (i := 2) rfl) ?_
  refine zp_getIv dX4_endHeldBlock_11 fl_X4_98 hp (v := (zI σ 704 p)) rfl ?_
  refine zp_if_lt dX4_endHeldBlock_14 (tgt := 47) rfl (fun h14 => ?_) (fun h14 => ?_)
  · skip
    refine zp_aload_n dX4_endHeldBlock_47 rfl (a := c) (List.mem_of_getElem? (i := 1) rfl) ?_
    refine zp_bipush dX4_endHeldBlock_48 (v := 12) (by decide) ?_
    refine zp_iald_v dX4_endHeldBlock_50 hc (Or.inl rfl) (j := 12) (by decide) (zin (by decide)) (v := (zA σ c 12)) rfl ?_
    refine zp_if_le dX4_endHeldBlock_51 (tgt := 90) rfl (fun h51 => ?_) (fun h51 => ?_)
    · skip
      refine zp_aload_n dX4_endHeldBlock_90 rfl (a := p) (List.mem_of_getElem? (i := 2) rfl) ?_
      refine zp_iconst dX4_endHeldBlock_91 (v := 0) (by decide) ?_
      refine zp_aload_n dX4_endHeldBlock_92 rfl (a := F) (List.mem_of_getElem? (i := 3) rfl) ?_
      refine zp_getIv dX4_endHeldBlock_93 fl_X4_326 hF (v := (zI σ 200 F)) rfl ?_
      refine zp_iload_n dX4_endHeldBlock_96 rfl (x := ((zI σ 701 p) + (zA σ c 10))) (List.mem_of_getElem? (i := 0) rfl) ?_
      refine zp_isub dX4_endHeldBlock_97 ?_
      refine zp_max dX4_endHeldBlock_98 wd_517 wd_515 wd_14 wd_516 (by decide) (Nat.le_of_ble_eq_true rfl) (v := (mx 0 (zI σ 200 F - (zI σ 701 p + zA σ c 10)))) rfl ?_
      refine zp_putI dX4_endHeldBlock_101 fl_X4_203 hp ?_
      refine zp_vret rfl dX4_endHeldBlock_104 ?_
      exact ⟨rfl, by unfold ehS inS; first | (rw [if_pos (Int32.not_lt.mp h14)]; done) | (rw [if_neg (Int32.not_le.mpr h14), if_pos (Int32.not_le.mp h51)]; done) | (rw [if_neg (Int32.not_le.mpr h14), if_neg (Int32.not_lt.mpr h51)]; done)⟩
    · skip
      refine zp_aload_n dX4_endHeldBlock_54 rfl (a := F) (List.mem_of_getElem? (i := 3) rfl) ?_
      refine zp_callV (c0 := 1) (st := []) (mc2 := 0) (ms2 := 0) dX4_endHeldBlock_55 (c_X2_endMargins l G F nF ws ((zI σ 200 F + zI σ 201 F) + zI σ 202 F) _ hF hW rfl) cl_X4_244 im_X2_endMargins se_X2_endMargins rfl rfl hF rfl rfl (by omega) (by omega) (by omega) (Nat.le_of_ble_eq_true rfl) ?_
      rintro _ s1 ⟨rfl, hs1⟩; obtain rfl := hs1.symm
      refine zp_aload_n dX4_endHeldBlock_58 rfl (a := p) (List.mem_of_getElem? (i := 2) rfl) ?_
      refine zp_iconst dX4_endHeldBlock_59 (v := 0) (by decide) ?_
      refine zp_aload_n dX4_endHeldBlock_60 rfl (a := F) (List.mem_of_getElem? (i := 3) rfl) ?_
      refine zp_getIv dX4_endHeldBlock_61 fl_X4_326 ((emS_T).trans hF) (v := ((zI σ 200 F + zI σ 201 F) + zI σ 202 F)) emS_y ?_
      refine zp_iload_n dX4_endHeldBlock_64 rfl (x := ((zI σ 701 p) + (zA σ c 10))) (List.mem_of_getElem? (i := 0) rfl) ?_
      refine zp_isub dX4_endHeldBlock_65 ?_
      refine zp_max dX4_endHeldBlock_66 wd_517 wd_515 wd_14 wd_516 (by decide) (Nat.le_of_ble_eq_true rfl) (v := (mx 0 (((zI σ 200 F + zI σ 201 F) + zI σ 202 F) - (zI σ 701 p + zA σ c 10)))) rfl ?_
      refine zp_putI dX4_endHeldBlock_69 fl_X4_203 ((emS_T).trans hp) ?_
      refine zp_aload_n dX4_endHeldBlock_72 rfl (a := F) (List.mem_of_getElem? (i := 3) rfl) ?_
      refine zp_iload_n dX4_endHeldBlock_73 rfl (x := ((zI σ 701 p) + (zA σ c 10))) (List.mem_of_getElem? (i := 0) rfl) ?_
      refine zp_aload_n dX4_endHeldBlock_74 rfl (a := p) (List.mem_of_getElem? (i := 2) rfl) ?_
      refine zp_getIv dX4_endHeldBlock_75 fl_X4_203 (tI ((emS_T).trans hp)) (v := (mx 0 (((zI σ 200 F + zI σ 201 F) + zI σ 202 F) - (zI σ 701 p + zA σ c 10)))) (by simp [zI_wI]) ?_
      refine zp_iadd dX4_endHeldBlock_78 ?_
      refine zp_aload_n dX4_endHeldBlock_79 rfl (a := c) (List.mem_of_getElem? (i := 1) rfl) ?_
      refine zp_bipush dX4_endHeldBlock_80 (v := 12) (by decide) ?_
      refine zp_iald_v dX4_endHeldBlock_82 (tI ((emS_T).trans hc)) (Or.inl rfl) (j := 12) (by decide) (zin (by decide)) (v := (zA σ c 12)) (by rw [zA_wI, emS_A]) ?_
      refine zp_iadd dX4_endHeldBlock_83 ?_
      refine zp_putI dX4_endHeldBlock_84 fl_X4_326 (tI ((emS_T).trans hF)) ?_
      refine zp_goto dX4_endHeldBlock_87 (tgt := 104) rfl ?_
      refine zp_vret rfl dX4_endHeldBlock_104 ?_
      exact ⟨rfl, by unfold ehS inS; first | (rw [if_pos (Int32.not_lt.mp h14)]; done) | (rw [if_neg (Int32.not_le.mpr h14), if_pos (Int32.not_le.mp h51)]; done) | (rw [if_neg (Int32.not_le.mpr h14), if_neg (Int32.not_lt.mpr h51)]; done)⟩
  · skip
    refine zp_aload_n dX4_endHeldBlock_17 rfl (a := F) (List.mem_of_getElem? (i := 3) rfl) ?_
    refine zp_callV (c0 := 1) (st := []) (mc2 := 0) (ms2 := 0) dX4_endHeldBlock_18 (c_X2_dropMargins l G F nF _ hF) cl_X4_342 im_X2_dropMargins se_X2_dropMargins rfl rfl hF rfl rfl (by omega) (by omega) (by omega) (Nat.le_of_ble_eq_true rfl) ?_
    rintro _ s1 ⟨rfl, hs1⟩; obtain rfl := hs1.symm
    refine zp_aload_n dX4_endHeldBlock_21 rfl (a := p) (List.mem_of_getElem? (i := 2) rfl) ?_
    refine zp_aload_n dX4_endHeldBlock_22 rfl (a := p) (List.mem_of_getElem? (i := 2) rfl) ?_
    refine zp_getIv dX4_endHeldBlock_23 fl_X4_98 hp (v := (zI σ 704 p)) (by simp [zI_wI]) ?_
    refine zp_putI dX4_endHeldBlock_26 fl_X4_203 hp ?_
    refine zp_aload_n dX4_endHeldBlock_29 rfl (a := F) (List.mem_of_getElem? (i := 3) rfl) ?_
    refine zp_iload_n dX4_endHeldBlock_30 rfl (x := ((zI σ 701 p) + (zA σ c 10))) (List.mem_of_getElem? (i := 0) rfl) ?_
    refine zp_aload_n dX4_endHeldBlock_31 rfl (a := p) (List.mem_of_getElem? (i := 2) rfl) ?_
    refine zp_getIv dX4_endHeldBlock_32 fl_X4_203 (tI hp) (v := (zI σ 704 p)) (by simp [zI_wI]) ?_
    refine zp_iadd dX4_endHeldBlock_35 ?_
    refine zp_aload_n dX4_endHeldBlock_36 rfl (a := c) (List.mem_of_getElem? (i := 1) rfl) ?_
    refine zp_bipush dX4_endHeldBlock_37 (v := 12) (by decide) ?_
    refine zp_iald_v dX4_endHeldBlock_39 (tI hc) (Or.inl rfl) (j := 12) (by decide) (zin (by decide)) (v := (zA σ c 12)) rfl ?_
    refine zp_iadd dX4_endHeldBlock_40 ?_
    refine zp_putI dX4_endHeldBlock_41 fl_X4_326 (tI hF) ?_
    refine zp_goto dX4_endHeldBlock_44 (tgt := 104) rfl ?_
    refine zp_vret rfl dX4_endHeldBlock_104 ?_
    exact ⟨rfl, by unfold ehS inS; first | (rw [if_pos (Int32.not_lt.mp h14)]; done) | (rw [if_neg (Int32.not_le.mpr h14), if_pos (Int32.not_le.mp h51)]; done) | (rw [if_neg (Int32.not_le.mpr h14), if_neg (Int32.not_lt.mpr h51)]; done)⟩
set_option maxRecDepth 100000 in
set_option maxHeartbeats 4000000 in
theorem c_X4_knownHeight (l : Launch) (G : Gb) (Ly nL a n c r nr P nP : Nat) (b : Bool) (σ : Sto) (hL : zT σ Ly = (3, nL)) (hA : zT σ a = (5, n)) (hb : zI σ 300 Ly = zb (b = true)) (hc : zR σ 505 a = some c) (hC : zT σ c = (20, 21)) (hr : zR σ 501 a = some r) (hR : zT σ r = (5, nr)) (hk : zR σ 514 r = some (G.2.2.1 0)) (hP : zR σ (pfld b) r = some P) (hp : zT σ P = (7, nP)) : Ct l G 3 0 0 yX4_knownHeight mX4_knownHeight [.ref Ly, .ref a] σ (fun v s => v = some (.int (hIn (zA σ c 5) (zI σ 704 P))) ∧ s = σ) := by
  refine Ct.of (by decide) rfl (Nat.le_of_ble_eq_true rfl) (fun h => absurd h (by decide)) ?_
  show Wp l G 3 0 0 (RX4, cX4_knownHeight, 3, (some .int), false) 0 [(0, .ref Ly), (1, .ref a)] [] σ _
  refine zp_kin (fun hkin => ?_)
  refine zp_aload_n dX4_knownHeight_0 rfl (a := a) (List.mem_of_getElem? (i := 1) rfl) ?_
  refine zp_getRv dX4_knownHeight_1 fl_X4_75 hA (b := r) hr ?_
  refine zp_astore_n dX4_knownHeight_4 rfl (Nat.le_of_ble_eq_true rfl) (lv2 := [(2, .ref r), (0, .ref Ly), (1, .ref a)]) rfl ?_
  refine zp_aload_n dX4_knownHeight_5 rfl (a := r) (List.mem_of_getElem? (i := 0) rfl) ?_
  refine zp_nullF dX4_knownHeight_6 (tgt := 27) rfl ?_
  refine zp_aload_n dX4_knownHeight_9 rfl (a := r) (List.mem_of_getElem? (i := 0) rfl) ?_
  refine zp_getRv dX4_knownHeight_10 fl_X4_59 hR (b := (G.2.2.1 0)) hk ?_
  refine zp_kind (i := 1) dX4_knownHeight_13 (by decide) rfl wd_690 ?_
  refine zp_acmp_ne (rx := (some (G.2.2.1 0))) (ry := (some (G.2.2.1 1))) dX4_knownHeight_16 (tgt := 27) rfl rfl rfl (fun _ => ?_) (fun q => absurd q (fun q => absurd (hkin 0 1 (by decide) (by decide) (Option.some.inj q)) (by decide)))
  refine zp_aload_n dX4_knownHeight_27 rfl (a := a) (List.mem_of_getElem? (i := 2) rfl) ?_
  refine zp_aload_n dX4_knownHeight_28 rfl (a := r) (List.mem_of_getElem? (i := 0) rfl) ?_
  refine zp_nonnullT dX4_knownHeight_29 (tgt := 36) rfl ?_
  refine zp_aload_n dX4_knownHeight_36 rfl (a := Ly) (List.mem_of_getElem? (i := 1) rfl) ?_
  refine zp_aload_n dX4_knownHeight_37 rfl (a := r) (List.mem_of_getElem? (i := 0) rfl) ?_
  refine zp_callV (c0 := 2) (st := [.ref a]) (mc2 := 0) (ms2 := 0) dX4_knownHeight_38 (c_X4_placeOf l G Ly nL r nr P b _ hL hR hb hP) cl_X4_35 im_X4_placeOf se_X4_placeOf rfl rfl hL rfl rfl (by omega) (by omega) (by omega) (Nat.le_of_ble_eq_true rfl) ?_
  rintro _ s1 ⟨rfl, hs1⟩; obtain rfl := hs1.symm
  refine zp_getIv dX4_knownHeight_41 fl_X4_98 hp (v := (zI σ 704 P)) rfl ?_
  refine zp_callS (st := []) (mc2 := 0) (ms2 := 0) dX4_knownHeight_44 (c_X4_heightIn l G a n c _ hA hc hC _) cl_X4_101 st_X4_heightIn rfl rfl (by omega) (by omega) (by omega) (Nat.le_of_ble_eq_true rfl) ?_
  rintro _ s1 ⟨rfl, hs1⟩; obtain rfl := hs1.symm
  refine zp_iret rfl dX4_knownHeight_47 ?_
  exact ⟨rfl, rfl⟩

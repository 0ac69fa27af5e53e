/-! THE STORE: what lies in the heap, by kind of cell, field and address; a method's walk (Wp) and contract (Ct) over it. -/
abbrev Sto : Type := (Nat → Nat × Nat) × (Nat → Nat → Int32) × (Nat → Nat → Option Nat) × (Nat → Nat → Int32) × (Nat → Nat → Option Nat)
/-- the kind of the cell a: 0 none; 1 to 10 an object; 20 int[]; 21 to 23 an array of references; 25 an int[] that is only read; 30 a constant of Kind; and its length (or number) -/
def zT (σ : Sto) (a : Nat) : Nat × Nat := σ.1 a
def zI (σ : Sto) (f a : Nat) : Int32 := σ.2.1 f a
def zR (σ : Sto) (f a : Nat) : Option Nat := σ.2.2.1 f a
def zA (σ : Sto) (a i : Nat) : Int32 := σ.2.2.2.1 a i
def zQ (σ : Sto) (a i : Nat) : Option Nat := σ.2.2.2.2 a i
def wI (σ : Sto) (f a : Nat) (x : Int32) : Sto := (σ.1, fun f' a' => if f' = f ∧ a' = a then x else σ.2.1 f' a', σ.2.2)
def wR (σ : Sto) (f a : Nat) (x : Option Nat) : Sto := (σ.1, σ.2.1, fun f' a' => if f' = f ∧ a' = a then x else σ.2.2.1 f' a', σ.2.2.2)
def wA (σ : Sto) (a i : Nat) (x : Int32) : Sto := (σ.1, σ.2.1, σ.2.2.1, fun a' i' => if a' = a ∧ i' = i then x else σ.2.2.2.1 a' i', σ.2.2.2.2)
def wQ (σ : Sto) (a i : Nat) (x : Option Nat) : Sto := (σ.1, σ.2.1, σ.2.2.1, σ.2.2.2.1, fun a' i' => if a' = a ∧ i' = i then x else σ.2.2.2.2 a' i')
def wT (σ : Sto) (a : Nat) (t : Nat × Nat) : Sto := (fun a' => if a' = a then t else σ.1 a', σ.2)
theorem zT_wI {σ f a x b} : zT (wI σ f a x) b = zT σ b := rfl
theorem zT_wR {σ f a x b} : zT (wR σ f a x) b = zT σ b := rfl
theorem zT_wA {σ f a x b} : zT (wA σ f a x) b = zT σ b := rfl
theorem zT_wQ {σ f a x b} : zT (wQ σ f a x) b = zT σ b := rfl
theorem zT_wT {σ a t b} : zT (wT σ a t) b = if b = a then t else zT σ b := rfl
theorem zI_wI {σ f a x g b} : zI (wI σ f a x) g b = if g = f ∧ b = a then x else zI σ g b := rfl
theorem zI_wR {σ f a x g b} : zI (wR σ f a x) g b = zI σ g b := rfl
theorem zI_wA {σ f a x g b} : zI (wA σ f a x) g b = zI σ g b := rfl
theorem zI_wQ {σ f a x g b} : zI (wQ σ f a x) g b = zI σ g b := rfl
theorem zI_wT {σ a t g b} : zI (wT σ a t) g b = zI σ g b := rfl
theorem zR_wI {σ f a x g b} : zR (wI σ f a x) g b = zR σ g b := rfl
theorem zR_wR {σ f a x g b} : zR (wR σ f a x) g b = if g = f ∧ b = a then x else zR σ g b := rfl
theorem zR_wA {σ f a x g b} : zR (wA σ f a x) g b = zR σ g b := rfl
theorem zR_wQ {σ f a x g b} : zR (wQ σ f a x) g b = zR σ g b := rfl
theorem zR_wT {σ a t g b} : zR (wT σ a t) g b = zR σ g b := rfl
theorem zA_wI {σ f a x b i} : zA (wI σ f a x) b i = zA σ b i := rfl
theorem zA_wR {σ f a x b i} : zA (wR σ f a x) b i = zA σ b i := rfl
theorem zA_wA {σ a j x b i} : zA (wA σ a j x) b i = if b = a ∧ i = j then x else zA σ b i := rfl
theorem zA_wQ {σ a j x b i} : zA (wQ σ a j x) b i = zA σ b i := rfl
theorem zA_wT {σ a t b i} : zA (wT σ a t) b i = zA σ b i := rfl
theorem zQ_wI {σ f a x b i} : zQ (wI σ f a x) b i = zQ σ b i := rfl
theorem zQ_wR {σ f a x b i} : zQ (wR σ f a x) b i = zQ σ b i := rfl
theorem zQ_wA {σ a j x b i} : zQ (wA σ a j x) b i = zQ σ b i := rfl
theorem zQ_wQ {σ a j x b i} : zQ (wQ σ a j x) b i = if b = a ∧ i = j then x else zQ σ b i := rfl
theorem zQ_wT {σ a t b i} : zQ (wT σ a t) b i = zQ σ b i := rfl
/-- the classes whose objects lie in the store; the kind of an object is its place here and 1 -/
def zcl : List vw_C := [(RX1, TX1, 7), (RX2, TX2, 20), (RX4, TX4, 6), (RX5, TX5, 6), (RX7, TX7, 20), (RX8, TX8, 2), (RX9, TX9, 20), (RX10, TX10, 7), (RX11, TX11, 5), (RX12, TX12, 10)]
/-- is the field 100 * kind + slot one of references? -/
def zref (f : Nat) : Bool := match zcl[f / 100 - 1]? with
  | some r => match parseFieldDescriptor (r.2.1 (f % 100)).2.2.1 with
    | some .int => false
    | some .boolean => false
    | _ => true
  | none => false
def zval (b : Bool) (σ : Sto) (f a : Nat) : Value := match b with
  | true => va_rf (zR σ f a)
  | false => .int (zI σ f a)
/-- fixed for a whole script: the tables' numbers; the first address that is the script's run's own; the constants of Kind; the switch's array; the classes of arrays -/
abbrev Gb : Type := va_G × Nat × (Nat → Nat) × Nat × (Nat → ClassId)
def gP (G : Gb) : Nat → Prop := fun q => G.2.1 ≤ q
def gwl : List Cond := lw_tbl.filter goodWord
def isNW (w : Cond) : Bool := match w with
  | .fieldLinkNest .. => true
  | .methodLinkNest .. => true
  | _ => false
def gnl : List Cond := lw_tbl.filter isNW
def ztys (G : Gb) : List (ClassId × FieldType) := [(G.2.2.2.2 0, .int), (G.2.2.2.2 1, .object "FlowBoxes$Node"), (G.2.2.2.2 2, .object "FlowBoxes$Flow"), (G.2.2.2.2 3, .object "FlowBoxes$Thing")]
def znm : List String := ["BLOCK", "SPAN", "INLINE", "ROW", "CELL", "FLOATING", "ABSOLUTE", "TEXT", "OUT"]
def zen : List (String × String × String × List Int32) := [("java/lang/Enum", "ordinal", "I", [0, 1, 2, 3, 4, 5, 6, 7, 8])]
/-- what the tables and the statics give, in any state of the run -/
def zK (G : Gb) (U : State) (H : Heap) : Prop :=
  va_K G.1 zcl (ztys G) U ∧ (∀ w ∈ gnl, va_Nw w U) ∧ (va_AO "FlowBoxes$Node" U ∧ va_AO "FlowBoxes$Flow" U ∧ va_AO "FlowBoxes$Thing" U) ∧
  va_En RX3 "LFlowBoxes$Kind;" znm zen G.2.2.1 (gP G) U H ∧ va_Z RX0 "$SwitchMap$FlowBoxes$Kind" "[I" (.ref G.2.2.2.1) (gP G) U H ∧ G.2.1 ≤ H.size
def zP0 (σ : Sto) : Prop := ∀ a, (zT σ a).1 = 0 → (∀ f, zI σ f a = 0 ∧ zR σ f a = none) ∧ (∀ i, zA σ a i = 0 ∧ zQ σ a i = none)
def zLb : FieldType → Bool
  | .long => true
  | _ => false
/-- what lies in the heap where the store speaks of the field f of a: of a long the store has the lower half alone -/
def zfv (t : Option FieldType) (σ : Sto) (f a : Nat) (v : Value) : Prop := match t with
  | some .long => ∃ L : Int64, v = .long L ∧ L.toInt32 = zI σ f a
  | _ => v = zval (zref f) σ f a
/-- an object of the class c -/
def zOb (G : Gb) (σ : Sto) (c a : Nat) (H : Heap) : Prop := ∃ r : vw_C, zcl[c]? = some r ∧ ∃ V : Nat → Value, t_OB a (G.1.1 c) r.2.2 (G.1.2 c) H V ∧ ∀ k, k < r.2.2 → zfv (parseFieldDescriptor (r.2.1 k).2.2.1) σ (100 * (c + 1) + k) a (V k)
def zP1 (G : Gb) (σ : Sto) (H : Heap) : Prop := ∀ a c n, zT σ a = (c + 1, n) → c < 10 → G.2.1 ≤ a ∧ zOb G σ c a H
def zP2 (G : Gb) (σ : Sto) (H : Heap) : Prop := ∀ a n, zT σ a = (20, n) → G.2.1 ≤ a ∧ H[a]? = some (arrV (G.2.2.2.2 0) n (fun j => .int (zA σ a j)))
def zP3 (G : Gb) (σ : Sto) (H : Heap) : Prop := ∀ a j n, zT σ a = (21 + j, n) → j < 3 → G.2.1 ≤ a ∧ H[a]? = some (arrV (G.2.2.2.2 (j + 1)) n (fun i => va_rf (zQ σ a i)))
/-- an int[] that is only read: at least n long, and its length reads as n -/
def zY (a n : Nat) (f : Nat → Int32) (U : State) (H : Heap) : Prop := ∃ scr : Cell, H[a]? = some scr ∧ U.isArrayOf scr .int ∧ scr.vm ≠ .unknown ∧ (n ≤ scr.slots.size ∧ scr.slots.size.toInt32 = Int32.ofNat n) ∧ ∀ j : Nat, j < n → scr.slots[j]? = some (.int (f j))
theorem zY.kept {a n : Nat} {f : Nat → Int32} {U : State} {H H1 : Heap} (h : zY a n f U H) (hq : H1[a]? = H[a]?) : zY a n f U H1 := by
  obtain ⟨scr, h1, h2⟩ := h
  exact ⟨scr, by rw [hq]; exact h1, h2⟩
theorem zY.moved {a n : Nat} {f : Nat → Int32} {u U : State} {H : Heap} (hvm : u.vm.Alike U.vm) (h : zY a n f u H) : zY a n f U H := by
  obtain ⟨scr, h1, h2, h3⟩ := h
  exact ⟨scr, h1, State.isArrayOf_alike hvm h2, h3⟩
def zP4 (G : Gb) (σ : Sto) (U : State) (H : Heap) : Prop := ∀ a n, zT σ a = (25, n) → a < G.2.1 ∧ zY a n (fun j => zA σ a j) U H
def zP5 (G : Gb) (σ : Sto) : Prop := ∀ a n, zT σ a = (30, n) → n < 9 ∧ a = G.2.2.1 n
def zP6 (σ : Sto) (H : Heap) : Prop := ∀ a, (zT σ a).1 ≠ 0 → a < H.size
/-- the heap holds the store -/
def zP (G : Gb) (σ : Sto) (U : State) (H : Heap) : Prop := zP0 σ ∧ zP1 G σ H ∧ zP2 G σ H ∧ zP3 G σ H ∧ zP4 G σ U H ∧ zP5 G σ ∧ zP6 σ H
theorem zK.warm {G : Gb} {u U : State} {H : Heap} (hW : u.WarmedH U.vm) (h : zK G u H) : zK G U H := by
  obtain ⟨h1, h2, h3, h4, h5, h6⟩ := h
  refine ⟨va_K.moved hW.alike h1, fun w hw => ?_, ⟨h3.1.moved hW.alike, h3.2.1.moved hW.alike, h3.2.2.moved hW.alike⟩, va_En.moved hW.alike h4, va_Z.moved hW.alike h5, h6⟩
  have hn := (List.mem_filter.mp hw).2
  cases w <;> first | exact va_Nw.warmF hW (h2 _ hw) | exact va_Nw.warmM hW (h2 _ hw) | exact absurd hn (by simp [isNW])
theorem zK.kept {G : Gb} {U : State} {H H1 : Heap} (h : zK G U H) (hz : H.size ≤ H1.size) (hq : ∀ a : Nat, a < H.size → ¬ gP G a → H1[a]? = H[a]?) : zK G U H1 := by
  obtain ⟨h1, h2, h3, h4, h5, h6⟩ := h
  exact ⟨h1, h2, h3, va_En.kept h4 hq, va_Z.kept h5 hq, Nat.le_trans h6 hz⟩
theorem zK.same {G : Gb} {u U : State} {H : Heap} (e : u.vm = U.vm) (h : zK G u H) : zK G U H := by
  obtain ⟨h1, h2, h3, h4, h5, h6⟩ := h
  have hv : u.vm.Alike U.vm := by rw [e]; exact Vm.Alike.refl _
  refine ⟨va_K.moved hv h1, fun w hw => ?_, ⟨h3.1.moved hv, h3.2.1.moved hv, h3.2.2.moved hv⟩, va_En.moved hv h4, va_Z.moved hv h5, h6⟩
  have hn := (List.mem_filter.mp hw).2
  cases w <;> first | (exfalso; simp [isNW] at hn; done) | exact va_Nw.same rfl e (h2 _ hw)
theorem zP.moved {G : Gb} {σ : Sto} {u U : State} {H : Heap} (hvm : u.vm.Alike U.vm) (h : zP G σ u H) : zP G σ U H := by
  obtain ⟨h0, h1, h2, h3, h4, h5, h6⟩ := h
  exact ⟨h0, h1, h2, h3, fun a n e => ⟨(h4 a n e).1, zY.moved hvm (h4 a n e).2⟩, h5, h6⟩
/-- a method's code: its class, bytes, locals, what it returns; is it a constructor -/
abbrev Mth : Type := String × ByteArray × Nat × Option FieldType × Bool
/-- how a method ends -/
def zQC (G : Gb) (Q : Option Value → Sto → Prop) : Array Value → State → Outcome → State → Prop := fun _ st o t =>
  (∃ v σ', o = .returned v ∧ Q v σ' ∧ zP G σ' t t.heap) ∧ va_F (gP G) st t
def zCX (M : Mth) (p : Program) (s : State) (m : MethodId) (args : Array Value) (meth : Method) (c : Code) : Prop :=
  p.tables.exec = Jvm.exec ∧ c.code = M.2.1 ∧ c.maxLocals = M.2.2.1 ∧ s.vm.findClass M.1 = some m.cls ∧ (∀ w ∈ gwl, w.before args s = true) ∧ meth.sig.returnType = M.2.2.2.1 ∧ meth.locks = false ∧ (M.2.2.2.2 = true → meth.name = "<init>")
/-- from here, with the store σ and at most mc cells of ms slots still to be made, d frames above: the method comes to its end, with Q -/
def Wp (l : Launch) (G : Gb) (d mc ms : Nat) (M : Mth) (pc : Nat) (lv : List (Nat × Value)) (st : List Value) (σ : Sto) (Q : Option Value → Sto → Prop) : Prop :=
  ∀ (p : Program) (e : Env) (R : Room) (s : State) (m : MethodId) (args : Array Value) (below : List Frame) (meth : Method) (c : Code) (H : Heap) (locs : List Loc) (cells slots k n : Nat) (ls : Array Slot),
    zCX M p s m args meth c → zK G s s.heap → va_S (gP G) s.heap H locs → zP G σ s H → lv_has ls M.2.2.1 lv →
    d ≤ R.frames → 40 * d ≤ R.locals → cells + mc ≤ k → slots + ms ≤ n → k ≤ R.cells → n ≤ R.slots →
    W p l e R s m args below meth c H locs cells slots (MQ below (zQC G Q) args s k n (gP G)) (F0 m pc ls st)
/-- a method's contract: called with av over the store σ it returns, with Q -/
def Ct (l : Launch) (G : Gb) (d mc ms : Nat) (y : MethodName) (M : Mth) (av : List Value) (σ : Sto) (Q : Option Value → Sto → Prop) : Prop :=
  Met l y (.code y M.2.1 M.2.2.1 M.2.2.2.1 :: gwl) { frames := d, cells := mc, slots := ms, locals := 40 * d } (va_Pc av (fun U => zK G U U.heap ∧ zP G σ U U.heap)) (zQC G Q) mc ms (gP G)
theorem Wp.mono {l G d mc ms M pc lv st σ} {Q Q2 : Option Value → Sto → Prop} {d2 mc2 ms2 : Nat} (h : Wp l G d mc ms M pc lv st σ Q) (hd : d ≤ d2) (h1 : mc ≤ mc2) (h2 : ms ≤ ms2) (hQ : ∀ v s, Q v s → Q2 v s) : Wp l G d2 mc2 ms2 M pc lv st σ Q2 := by
  intro p e R s m args below meth c H locs cells slots k n ls C K S P L r1 r2 r3 r4 r5 r6 T hT X
  obtain ⟨t, a, o, b1, b2, ⟨⟨v, s', e1, e2, e3⟩, hF⟩, b4⟩ := h p e R s m args below meth c H locs cells slots k n ls C K S P L (Nat.le_trans hd r1) (Nat.le_trans (Nat.mul_le_mul_left 40 hd) r2) (by omega) (by omega) r5 r6 T hT X
  exact ⟨t, a, o, b1, b2, ⟨⟨v, s', e1, hQ _ _ e2, e3⟩, hF⟩, b4⟩
theorem Ct.of {l G d mc ms} {y : MethodName} {M : Mth} {av : List Value} {σ Q} (hy : plainName y.cls = true) (hc : y.cls = M.1) (hn : (lg_sl av).length ≤ M.2.2.1) (hi : M.2.2.2.2 = true → y.name = "<init>")
    (h : Wp l G d mc ms M 0 (lv_args 0 av) [] σ Q) : Ct l G d mc ms y M av σ Q := by
  refine Met.ofW (cc := M.2.1) (maxL := M.2.2.1) (ret := M.2.2.2.1) hy rfl ?_
  intro p e s m args below meth c s₁ B hml hv
  obtain ⟨rfl, hK, hP⟩ := hv
  have hts := atoms_spec (ws := (.code y M.2.1 M.2.2.1 M.2.2.2.1 :: gwl)) B.pre
  have hown : s.vm.findClass y.cls = some m.cls := findClass_of_methodNamed B.named
  have hl := lv_entry av hn
  rw [lg_entry_eq]
  exact h p e _ s m _ below meth c s.heap [] 0 0 mc ms _ ⟨B.exec, B.bytes, hml, by rw [← hc]; exact hown, fun w hw => hts w (List.mem_cons_of_mem _ hw), B.returns, B.notSynchronized, fun q => (name_of_methodNamed B.named B.method).1.trans (hi q)⟩ hK va_S.rf hP hl (Nat.le_refl _) (Nat.le_refl _) (by omega) (by omega) (Nat.le_refl _) (Nat.le_refl _)

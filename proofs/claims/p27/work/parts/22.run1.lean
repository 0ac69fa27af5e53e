/-! A THING INTO A LINE, A LINE ENDED: what the relation says behind it -/
theorem ptS_I {F t lo off len asc dsc up dw th σ} {g : Nat} (h1 : g ≠ 901) (h2 : g ≠ 214) (h3 : g ≠ 215) (h4 : g ≠ 216) (h5 : g ≠ 213) : zI (ptS F t lo off len asc dsc up dw th σ) g = zI σ g := by
  funext a
  unfold ptS
  rw [rIn h5, rIn h4, rIn h3, rIn h2, rIn h1, rIR]
theorem ptS_R {F t lo off len asc dsc up dw th σ} {g : Nat} (h : g ≠ 900) : zR (ptS F t lo off len asc dsc up dw th σ) g = zR σ g := by
  funext a
  unfold ptS
  rw [rRI, rRI, rRI, rRI, rRI, rRn h]
theorem ptS_T {F t lo off len asc dsc up dw th σ a} : zT (ptS F t lo off len asc dsc up dw th σ) a = zT σ a := by
  unfold ptS
  rw [zT_wI, zT_wI, zT_wI, zT_wI, zT_wI, zT_wR]
theorem ptS_213 {F t lo off len asc dsc up dw th σ} : zI (ptS F t lo off len asc dsc up dw th σ) 213 F = th + 1 := rIe
theorem ptS_216 {F t lo off len asc dsc up dw th σ} : zI (ptS F t lo off len asc dsc up dw th σ) 216 F = mx dw dsc := (rIn (by decide)).trans rIe
theorem ptS_215 {F t lo off len asc dsc up dw th σ} : zI (ptS F t lo off len asc dsc up dw th σ) 215 F = mx up asc := (rIn (by decide)).trans ((rIn (by decide)).trans rIe)
theorem ptS_214 {F t lo off len asc dsc up dw th σ} : zI (ptS F t lo off len asc dsc up dw th σ) 214 F = off + len := (rIn (by decide)).trans ((rIn (by decide)).trans ((rIn (by decide)).trans rIe))
theorem ptS_901 {F t lo off len asc dsc up dw th σ} : zI (ptS F t lo off len asc dsc up dw th σ) 901 t = off := (rIn (by decide)).trans ((rIn (by decide)).trans ((rIn (by decide)).trans ((rIn (by decide)).trans rIe)))
theorem ptS_901n {F t lo off len asc dsc up dw th σ} {c : Nat} (h : c ≠ t) : zI (ptS F t lo off len asc dsc up dw th σ) 901 c = zI σ 901 c := (rIn (by decide)).trans ((rIn (by decide)).trans ((rIn (by decide)).trans ((rIn (by decide)).trans ((rIb h).trans rIR))))
theorem ptS_900 {F t lo off len asc dsc up dw th σ} : zR (ptS F t lo off len asc dsc up dw th σ) 900 t = some lo := by
  unfold ptS
  rw [rRI, rRI, rRI, rRI, rRI, rRe]
theorem ptS_900n {F t lo off len asc dsc up dw th σ} {c : Nat} (h : c ≠ t) : zR (ptS F t lo off len asc dsc up dw th σ) 900 c = zR σ 900 c := by
  unfold ptS
  rw [rRI, rRI, rRI, rRI, rRI, rRb h]
theorem ptS_Fm {O : Nat → Prop} {F t lo off len asc dsc up dw th σ} (hF : O F) (ht : O t) : Fm O σ (ptS F t lo off len asc dsc up dw th σ) :=
  (((((Fm.wR ht (by unfold stf; omega)).trans (Fm.wI ht (by unfold stf; omega))).trans (Fm.wI hF (by unfold stf; omega))).trans (Fm.wI hF (by unfold stf; omega))).trans (Fm.wI hF (by unfold stf; omega))).trans (Fm.wI hF (by unfold stf; omega))
/-- the things of a run's words that are not yet in the relation -/
def frT (D : Dt) (X : Cx) (b : Bool) (S : FS) (t : Nat) : Prop := ∀ c, c < dn D → dtx D c = true → svi S c = true → 0 < dwc D c → xth X b c 0 ≠ t
/-- what a step behind a thing put leaves of the things -/
def Pt0 (t lo : Nat) (off : Int32) (σ σ' : Sto) : Prop := zR σ' 900 t = some lo ∧ zI σ' 901 t = off ∧ (∀ c, c ≠ t → zR σ' 900 c = zR σ 900 c ∧ zI σ' 901 c = zI σ 901 c) ∧ zI σ' 902 = zI σ 902 ∧ zI σ' 903 = zI σ 903 ∧ zI σ' 904 = zI σ 904
theorem put_relA {G O D X b S wl σ fl up dw k cnt cs lo LL fr} {t : Nat} {len asc dsc : Int32} (hc : Rc G O D X b S wl σ) (hr : Ro O D X b S fl up dw k cnt cs lo LL fr σ) (h0 : cnt ≠ 0) (hOt : O t) (ht : frT D X b S t) (hl1 : 1 ≤ len.toInt) (hl2 : len.toInt ≤ 30) (hW : (sa S (32 + k)).toInt ≤ 1000) (hfit : (fl + 1) + len ≤ sa S (32 + k)) :
    Rc G O D X b S wl (ptS (xF X b) t lo (fl + 1) len asc dsc up dw (nI cnt) σ) ∧ Ro O D X b S ((fl + 1) + len) (mx up asc) (mx dw dsc) k (cnt + 1) cs lo LL fr (ptS (xF X b) t lo (fl + 1) len asc dsc up dw (nI cnt) σ) ∧ Fm O σ (ptS (xF X b) t lo (fl + 1) len asc dsc up dw (nI cnt) σ) ∧ Pt0 t lo (fl + 1) σ (ptS (xF X b) t lo (fl + 1) len asc dsc up dw (nI cnt) σ) := by
  have hf : Fm O σ (ptS (xF X b) t lo (fl + 1) len asc dsc up dw (nI cnt) σ) := ptS_Fm hc.ow.2.1 hOt
  have hfb := hr.fb
  have e1 : (fl + 1).toInt = fl.toInt + 1 := by
    rw [Jvm.Kit.i32_add]
    · rfl
    · show _ ≤ fl.toInt + 1; omega
    · show fl.toInt + 1 < _; omega
  have e2 : ((fl + 1) + len).toInt = fl.toInt + 1 + len.toInt := by
    rw [Jvm.Kit.i32_add, e1]
    · rw [e1]; omega
    · rw [e1]; omega
  have hle := Int32.le_iff_toInt_le.mp hfit
  refine ⟨hc.keep hf (fun g h1 h2 => ptS_I (by omega) (by omega) (by omega) (by omega) (by omega)) (ptS_R (by decide)) (by rw [ptS_R (by decide)]) (by rw [ptS_R (by decide)]) (by rw [ptS_R (by decide)]; exact hc.l0) (by rw [ptS_I (by decide) (by decide) (by decide) (by decide) (by decide)]; exact hc.y) (by rw [ptS_I (by decide) (by decide) (by decide) (by decide) (by decide)]; exact hc.ab) (by rw [ptS_I (by decide) (by decide) (by decide) (by decide) (by decide)]; exact hc.be) rfl (fun _ _ _ => ⟨rfl, rfl, rfl, rfl⟩) rfl (fun _ _ => rfl) rfl, ?_, hf, ptS_900, ptS_901, fun c hcn => ⟨ptS_900n hcn, ptS_901n hcn⟩, ptS_I (by decide) (by decide) (by decide) (by decide) (by decide), ptS_I (by decide) (by decide) (by decide) (by decide) (by decide), ptS_I (by decide) (by decide) (by decide) (by decide) (by decide)⟩
  have k400 : zI (ptS (xF X b) t lo (fl + 1) len asc dsc up dw (nI cnt) σ) 400 = zI σ 400 := ptS_I (by decide) (by decide) (by decide) (by decide) (by decide)
  have k401 : zI (ptS (xF X b) t lo (fl + 1) len asc dsc up dw (nI cnt) σ) 401 = zI σ 401 := ptS_I (by decide) (by decide) (by decide) (by decide) (by decide)
  have k402 : zI (ptS (xF X b) t lo (fl + 1) len asc dsc up dw (nI cnt) σ) 402 = zI σ 402 := ptS_I (by decide) (by decide) (by decide) (by decide) (by decide)
  refine ⟨hr.ln.to hf.2.2.2.1 (ptS_R (by decide)) (ptS_R (by decide)) (ptS_R (by decide)) (ptS_R (by decide)), ?_, ?_, ?_, hr.lz, hr.lv, fun c h1 h2 h3 h4 => ?_, ?_, fun q => by omega, fun _ => ?_, ?_, ?_, ?_⟩
  · rw [if_neg (by omega), hr.lk, if_neg h0]
  · rw [k400, k401, k402]; exact hr.lc
  · rw [k400, k401, k402]; exact hr.cc
  · obtain ⟨g1, l, g2, g3, g4⟩ := hr.tx c h1 h2 h3 h4
    exact ⟨g1, l, g2, by rw [ptS_900n (ht c h1 h2 h3 h4)]; exact g3, by rw [ptS_901n (ht c h1 h2 h3 h4)]; exact g4⟩
  · rw [ptS_213, nI_succ]
  · obtain ⟨n1, n2, n3, n4, n5, n6⟩ := hr.nz h0
    refine ⟨ptS_214, ptS_215, ptS_216, by rw [ptS_R (by decide)]; exact n4, ?_, ?_⟩
    · rw [ptS_I (by decide) (by decide) (by decide) (by decide) (by decide), ptS_I (g := 207) (by decide) (by decide) (by decide) (by decide) (by decide)]; exact n5
    · rw [ptS_I (by decide) (by decide) (by decide) (by decide) (by decide), ptS_I (g := 207) (by decide) (by decide) (by decide) (by decide) (by decide), ptS_I (g := 208) (by decide) (by decide) (by decide) (by decide) (by decide)]; exact n6
  · rw [e2]; exact ⟨by omega, by omega⟩
  · rw [ptS_I (by decide) (by decide) (by decide) (by decide) (by decide)]; exact hr.lf
  · rw [ptS_I (by decide) (by decide) (by decide) (by decide) (by decide)]; exact hr.wi

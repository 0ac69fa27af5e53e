/-! WORDS: what changes of the relation by a text's own place, and by its having been met -/
theorem sa_shut {k : Nat} {Y : RS} : sa (shutP k Y) = sa Y.1 := rfl
theorem brk_sa {D : Dt} {k : Nat} {len : Int32} {Y : RS} : sa (brkP D k len Y).1 = sa Y.1 := by
  unfold brkP; split <;> rfl
theorem brk_svi {D : Dt} {k : Nat} {len : Int32} {Y : RS} : svi (brkP D k len Y).1 = svi Y.1 := by
  unfold brkP; split <;> rfl
theorem word_svi {D : Dt} {k c i : Nat} {Y : RS} : svi (wordP D k c i Y).1 = svi Y.1 := by
  rw [wordP_eq]
  show svi (if i = 0 then _ else _) = _
  split <;> exact brk_svi
theorem words_svi {D : Dt} {k c : Nat} {Y : RS} : ∀ i, svi (wordsP D k c i Y).1 = svi Y.1
  | 0 => rfl
  | i + 1 => word_svi.trans (words_svi i)
theorem word_sa {D : Dt} {k c i j : Nat} {Y : RS} (h : j ≠ c) : sa (wordP D k c i Y).1 j = sa Y.1 j := by
  rw [wordP_eq]
  show sa (if i = 0 then _ else _) j = _
  split
  · show setI (sa (brkP D k (dln D c i) Y).1) c _ j = _
    unfold setI
    rw [if_neg h, brk_sa]
  · rw [brk_sa]
theorem words_sa {D : Dt} {k c j : Nat} {Y : RS} (h : j ≠ c) : ∀ i, sa (wordsP D k c i Y).1 j = sa Y.1 j
  | 0 => rfl
  | i + 1 => (word_sa h).trans (words_sa h i)
theorem inP_set {D : Dt} {k c : Nat} {a : Nat → Int32} {v : Int32} (h : k ≠ c) : inP D k (setI a c v) = inP D k a := by
  unfold inP setI
  rw [if_neg h]
theorem Rc_setA {G O D X b S wl σ} {c : Nat} {v : Int32} (h : Rc G O D X b S wl σ) (hc : dtx D c = true) (hc2 : c < 12) (hn : dn D ≤ 12) : Rc G O D X b (setA c v S) wl σ :=
  h.keep Fm.refl (fun _ _ _ => rfl) rfl rfl rfl h.l0 h.y h.ab h.be rfl (fun k hk ht => by
    have hkc : k ≠ c := fun q => by rw [q, hc] at ht; cases ht
    show setI (sa S) c v k = _ ∧ setI (sa S) c v (16 + k) = _ ∧ setI (sa S) c v (32 + k) = _ ∧ setI (sa S) c v (48 + k) = _
    unfold setI
    rw [if_neg hkc, if_neg (by omega), if_neg (by omega), if_neg (by omega)]
    exact ⟨rfl, rfl, rfl, rfl⟩) rfl (fun _ _ => rfl) rfl
theorem Ro_setA {O D X b S fl up dw k cnt cs lo LL fr σ} {c : Nat} {v : Int32} (hD : DW D) (h : Ro O D X b S fl up dw k cnt cs lo LL fr σ) (hc : dtx D c = true) (hc2 : c < dn D) (hv : svi S c = false) : Ro O D X b (setA c v S) fl up dw k cnt cs lo LL fr σ := by
  have hn := hD.2.1
  have hin : ∀ j, dtx D j = false → inP D j (sa (setA c v S)) = inP D j (sa S) := fun j hj => inP_set (fun q => by rw [q, hc] at hj; cases hj)
  refine ⟨h.ln, h.lk, fun j h1 h2 h3 h4 => ?_, ?_, h.lz, h.lv, fun c' h1 h2 h3 h4 => ?_, h.th, h.z, h.nz, h.fb, ?_, ?_⟩
  · rw [hin j h2]; exact h.lc j h1 h2 h3 h4
  · rw [hin k h.lv.2.1]; exact h.cc
  · obtain ⟨g1, l, g2, g3, g4⟩ := h.tx c' h1 h2 h3 h4
    have hcc : c' ≠ c := fun q => by
      have h3 : svi S c' = true := h3
      rw [q, hv] at h3; cases h3
    have h0 : 0 < c' := by
      rcases Nat.eq_zero_or_pos c' with q | q
      · rw [q, hD.2.2.2.1] at h2; cases h2
      · exact q
    refine ⟨g1, l, g2, g3, ?_⟩
    rw [hin (dpar D c') (hD.2.2.2.2.1 c' h0 h1).2]
    show _ = setI (sa S) c v c'
    unfold setI
    rw [if_neg hcc]
    exact g4
  · rw [hin k h.lv.2.1]; exact h.lf
  · show _ = setI (sa S) c v (32 + k)
    unfold setI
    rw [if_neg (by omega)]
    exact h.wi
theorem Rc_vis {G O D X b S wl σ} {c : Nat} (h : Rc G O D X b S wl σ) (hc : dtx D c = true) : Rc G O D X b (visP c S) wl σ :=
  h.keep Fm.refl (fun _ _ _ => rfl) rfl rfl rfl h.l0 h.y h.ab h.be rfl (fun _ _ _ => ⟨rfl, rfl, rfl, rfl⟩) rfl (fun k ht => by
    have hkc : k ≠ c := fun q => by rw [q, hc] at ht; cases ht
    show setB (svi S) c true k = _
    unfold setB
    rw [if_neg hkc]) rfl
theorem Ro_vis {O D X b S fl up dw k cnt cs lo LL fr σ} {c : Nat} (h : Ro O D X b S fl up dw k cnt cs lo LL fr σ) (hc : dtx D c = true) (hp : dpar D c = k) (ht : 0 < dwc D c → ∃ l, l ∈ LL k ∧ zR σ 900 (xth X b c 0) = some l ∧ inP D k (sa S) + zI σ 901 (xth X b c 0) = sa S c) : Ro O D X b (visP c S) fl up dw k cnt cs lo LL fr σ := by
  refine ⟨h.ln, h.lk, h.lc, h.cc, h.lz, ⟨h.lv.1, h.lv.2.1, h.lv.2.2.1, ?_⟩, fun c' h1 h2 h3 h4 => ?_, h.th, h.z, h.nz, h.fb, h.lf, h.wi⟩
  · show setB (svi S) c true k = true
    unfold setB
    split
    · rfl
    · exact h.lv.2.2.2
  · by_cases q : c' = c
    · subst q
      rw [hp]
      exact ⟨h.lv.2.2.1, ht h4⟩
    · refine h.tx c' h1 h2 ?_ h4
      have h3 : setB (svi S) c true c' = true := h3
      unfold setB at h3
      rw [if_neg q] at h3
      exact h3
/-- writes to things that no relation speaks of -/
theorem Ro_keep {O D X b S fl up dw k cnt cs lo LL fr σ} {σ' : Sto} (h : Ro O D X b S fl up dw k cnt cs lo LL fr σ) (f : Fm O σ σ') (hI : ∀ g, g ≠ 901 → g ≠ 902 → g ≠ 903 → g ≠ 904 → zI σ' g = zI σ g) (hR : ∀ g, g ≠ 900 → zR σ' g = zR σ g)
    (h9 : ∀ c, c < dn D → dtx D c = true → svi S c = true → 0 < dwc D c → zR σ' 900 (xth X b c 0) = zR σ 900 (xth X b c 0) ∧ zI σ' 901 (xth X b c 0) = zI σ 901 (xth X b c 0)) : Ro O D X b S fl up dw k cnt cs lo LL fr σ' := by
  have k4 : ∀ g, g < 900 → zI σ' g = zI σ g := fun g hg => hI g (by omega) (by omega) (by omega) (by omega)
  refine ⟨h.ln.to f.2.2.2.1 (hR _ (by decide)) (hR _ (by decide)) (hR _ (by decide)) (hR _ (by decide)), h.lk, ?_, ?_, h.lz, h.lv, fun c h1 h2 h3 h4 => ?_, ?_, h.z, ?_, h.fb, ?_, ?_⟩
  · rw [k4 400 (by decide), k4 401 (by decide), k4 402 (by decide)]; exact h.lc
  · rw [k4 400 (by decide), k4 401 (by decide), k4 402 (by decide)]; exact h.cc
  · obtain ⟨g1, l, g2, g3, g4⟩ := h.tx c h1 h2 h3 h4
    exact ⟨g1, l, g2, by rw [(h9 c h1 h2 h3 h4).1]; exact g3, by rw [(h9 c h1 h2 h3 h4).2]; exact g4⟩
  · rw [k4 213 (by decide)]; exact h.th
  · rw [k4 214 (by decide), k4 215 (by decide), k4 216 (by decide), k4 207 (by decide), k4 208 (by decide), k4 209 (by decide), k4 210 (by decide), hR 212 (by decide)]; exact h.nz
  · rw [k4 207 (by decide)]; exact h.lf
  · rw [k4 208 (by decide)]; exact h.wi
theorem Rc_keep9 {G O D X b S wl σ} {σ' : Sto} (h : Rc G O D X b S wl σ) (f : Fm O σ σ') (hI : ∀ g, g < 900 → zI σ' g = zI σ g) (hR : ∀ g, g < 900 → zR σ' g = zR σ g) : Rc G O D X b S wl σ' :=
  h.keep f (fun g h1 h2 => hI g (by omega)) (hR 710 (by decide)) (by rw [hR 203 (by decide)]) (by rw [hR 204 (by decide)]) (by rw [hR 218 (by decide)]; exact h.l0) (by rw [hI 200 (by decide)]; exact h.y) (by rw [hI 201 (by decide)]; exact h.ab) (by rw [hI 202 (by decide)]; exact h.be) rfl (fun _ _ _ => ⟨rfl, rfl, rfl, rfl⟩) rfl (fun _ _ => rfl) rfl
/-- a word's things, as they are laid out -/
def wdS (t t2 : Nat) (len asc dsc : Int32) (σ : Sto) : Sto := wR (wI (wI (wI (wI σ 902 t len) 903 t asc) 904 t dsc) 902 t2 0) 900 t2 none
theorem wdS_I {t t2 len asc dsc σ} {g : Nat} (h2 : g ≠ 902) (h3 : g ≠ 903) (h4 : g ≠ 904) : zI (wdS t t2 len asc dsc σ) g = zI σ g := by
  funext a
  unfold wdS
  rw [rIR, rIn h2, rIn h4, rIn h3, rIn h2]
theorem wdS_R {t t2 len asc dsc σ} {g : Nat} (h : g ≠ 900) : zR (wdS t t2 len asc dsc σ) g = zR σ g := by
  funext a
  unfold wdS
  rw [rRn h, rRI, rRI, rRI, rRI]
theorem wdS_900 {t t2 len asc dsc σ} {c : Nat} (h : c ≠ t2) : zR (wdS t t2 len asc dsc σ) 900 c = zR σ 900 c := by
  unfold wdS
  rw [rRb h, rRI, rRI, rRI, rRI]
theorem wdS_902 {t t2 len asc dsc σ} (h : t ≠ t2) : zI (wdS t t2 len asc dsc σ) 902 t = len := by
  unfold wdS
  rw [rIR, rIb h, rIn (by decide), rIn (by decide), rIe]
theorem wdS_903 {t t2 len asc dsc σ} : zI (wdS t t2 len asc dsc σ) 903 t = asc := by
  unfold wdS
  rw [rIR, rIn (by decide), rIn (by decide), rIe]
theorem wdS_904 {t t2 len asc dsc σ} : zI (wdS t t2 len asc dsc σ) 904 t = dsc := by
  unfold wdS
  rw [rIR, rIn (by decide), rIe]
theorem wdS_Fm {O : Nat → Prop} {t t2 len asc dsc σ} (ht : O t) (ht2 : O t2) : Fm O σ (wdS t t2 len asc dsc σ) :=
  ((((Fm.wI ht (by unfold stf; omega)).trans (Fm.wI ht (by unfold stf; omega))).trans (Fm.wI ht (by unfold stf; omega))).trans (Fm.wI ht2 (by unfold stf; omega))).trans (Fm.wR ht2 (by unfold stf; omega))
theorem asc_bound {D : Dt} (hD : DW D) (c : Nat) : 0 ≤ (ascP D c).toInt ∧ 0 ≤ (dsz D c - ascP D c).toInt := by
  obtain ⟨h1, h2⟩ := hD.2.2.2.2.2.2.2.1 c
  have hq : ∃ j : Nat, j < 21 ∧ dsz D c = nI j := by
    refine ⟨(dsz D c).toInt.toNat, by omega, ?_⟩
    apply Int32.toInt_inj.mp
    rw [nI_toInt (by omega)]
    omega
  obtain ⟨j, hj, e⟩ := hq
  unfold ascP
  rw [e]
  have : ∀ j : Nat, j < 21 → 0 ≤ ((nI j * 3) / 4).toInt ∧ 0 ≤ (nI j - (nI j * 3) / 4).toInt := by decide
  exact this j hj

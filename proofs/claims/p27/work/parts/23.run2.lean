/-! A FIRST THING INTO A LINE; A LINE ENDED: what the relation says behind it -/
def w4S (F x : Nat) (asc dsc : Int32) (σ : Sto) : Sto := wI (wI (wI (wR σ 212 F (some x)) 215 F asc) 216 F dsc) 217 F (-1000000)
theorem w4S_I {F x asc dsc σ} {g : Nat} (h1 : g ≠ 215) (h2 : g ≠ 216) (h3 : g ≠ 217) : zI (w4S F x asc dsc σ) g = zI σ g := by
  funext a
  unfold w4S
  rw [rIn h3, rIn h2, rIn h1, rIR]
theorem w4S_R {F x asc dsc σ} {g : Nat} (h : g ≠ 212) : zR (w4S F x asc dsc σ) g = zR σ g := by
  funext a
  unfold w4S
  rw [rRI, rRI, rRI, rRn h]
theorem w4S_212 {F x asc dsc σ} : zR (w4S F x asc dsc σ) 212 F = some x := by
  unfold w4S
  rw [rRI, rRI, rRI, rRe]
theorem w4S_Fm {O : Nat → Prop} {F x asc dsc σ} (hF : O F) : Fm O σ (w4S F x asc dsc σ) :=
  (((Fm.wR hF (by unfold stf; omega)).trans (Fm.wI hF (by unfold stf; omega))).trans (Fm.wI hF (by unfold stf; omega))).trans (Fm.wI hF (by unfold stf; omega))
theorem mx_self (x : Int32) : mx x x = x := by unfold mx; split <;> rfl
theorem mx_0 {x : Int32} (h : 0 ≤ x.toInt) : mx 0 x = x := by
  unfold mx
  split
  · rfl
  · rename_i q
    have q := Int32.not_lt.mp q
    have q2 := Int32.le_iff_toInt_le.mp q
    apply Int32.toInt_inj.mp
    rw [show (0 : Int32).toInt = 0 from rfl] at q2 ⊢
    omega
theorem put_relB {G O D X b S wl σ k cs lo LL fr fl up dw} {t x : Nat} {fr2 : List Nat} {σ2 : Sto} {len asc dsc : Int32} (hc : Rc G O D X b S wl σ) (hr : Ro O D X b S fl up dw k 0 cs lo LL fr σ) (hOt : O t) (ht : frT D X b S t) (hl1 : 1 ≤ len.toInt) (hl2 : len.toInt ≤ 30) (ha : 0 ≤ asc.toInt) (hd : 0 ≤ dsc.toInt)
    (hB : zI σ 209 (xF X b) = zI σ 207 (xF X b) ∧ zI σ 210 (xF X b) = zI σ 207 (xF X b) + zI σ 208 (xF X b))
    (q1 : Ln O D X b σ2 (setL LL k (LL k ++ [x])) fr2) (q2 : Fm O σ σ2) (q3 : Lf σ σ2) (q4 : zT σ2 x = (4, 0)) (q5 : O x) :
    Rc G O D X b S wl (ptS (xF X b) t x 0 len asc dsc asc dsc 0 (w4S (xF X b) x asc dsc σ2)) ∧ Ro O D X b S (0 + len) (mx 0 asc) (mx 0 dsc) k 1 cs x (setL LL k (LL k ++ [x])) fr2 (ptS (xF X b) t x 0 len asc dsc asc dsc 0 (w4S (xF X b) x asc dsc σ2)) ∧ Fm O σ (ptS (xF X b) t x 0 len asc dsc asc dsc 0 (w4S (xF X b) x asc dsc σ2)) ∧ Pt0 t x 0 σ (ptS (xF X b) t x 0 len asc dsc asc dsc 0 (w4S (xF X b) x asc dsc σ2)) := by
  have hf : Fm O σ (ptS (xF X b) t x 0 len asc dsc asc dsc 0 (w4S (xF X b) x asc dsc σ2)) := (q2.trans (w4S_Fm hc.ow.2.1)).trans (ptS_Fm hc.ow.2.1 hOt)
  have kI : ∀ g, g ≠ 901 → g ≠ 214 → g ≠ 215 → g ≠ 216 → g ≠ 213 → g ≠ 217 → zI (ptS (xF X b) t x 0 len asc dsc asc dsc 0 (w4S (xF X b) x asc dsc σ2)) g = zI σ g := fun g h1 h2 h3 h4 h5 h6 => by
    rw [ptS_I h1 h2 h3 h4 h5, w4S_I h3 h4 h6, q3.1]
  have kR : ∀ g, g ≠ 900 → g ≠ 212 → g ≠ 303 → g ≠ 405 → g ≠ 711 → g ≠ 712 → zR (ptS (xF X b) t x 0 len asc dsc asc dsc 0 (w4S (xF X b) x asc dsc σ2)) g = zR σ g := fun g h1 h2 h3 h4 h5 h6 => by
    rw [ptS_R h1, w4S_R h2, q3.2 g h3 h4 h5 h6]
  have kR2 : ∀ g, g ≠ 900 → g ≠ 212 → zR (ptS (xF X b) t x 0 len asc dsc asc dsc 0 (w4S (xF X b) x asc dsc σ2)) g = zR σ2 g := fun g h1 h2 => by rw [ptS_R h1, w4S_R h2]
  have k9 : ∀ c, c ≠ t → zR (ptS (xF X b) t x 0 len asc dsc asc dsc 0 (w4S (xF X b) x asc dsc σ2)) 900 c = zR σ 900 c ∧ zI (ptS (xF X b) t x 0 len asc dsc asc dsc 0 (w4S (xF X b) x asc dsc σ2)) 901 c = zI σ 901 c := fun c hcn => by
    rw [ptS_900n hcn, ptS_901n hcn, w4S_R (by decide), w4S_I (by decide) (by decide) (by decide), q3.1, q3.2 900 (by decide) (by decide) (by decide) (by decide)]
    exact ⟨rfl, rfl⟩
  refine ⟨hc.keep hf (fun g h1 h2 => kI g (by omega) (by omega) (by omega) (by omega) (by omega) (by omega)) (kR 710 (by decide) (by decide) (by decide) (by decide) (by decide) (by decide)) (by rw [kR 203 (by decide) (by decide) (by decide) (by decide) (by decide) (by decide)]) (by rw [kR 204 (by decide) (by decide) (by decide) (by decide) (by decide) (by decide)]) (by rw [kR 218 (by decide) (by decide) (by decide) (by decide) (by decide) (by decide)]; exact hc.l0) (by rw [kI 200 (by decide) (by decide) (by decide) (by decide) (by decide) (by decide)]; exact hc.y) (by rw [kI 201 (by decide) (by decide) (by decide) (by decide) (by decide) (by decide)]; exact hc.ab) (by rw [kI 202 (by decide) (by decide) (by decide) (by decide) (by decide) (by decide)]; exact hc.be) rfl (fun _ _ _ => ⟨rfl, rfl, rfl, rfl⟩) rfl (fun _ _ => rfl) rfl, ?_, hf, ptS_900, ptS_901, k9, kI 902 (by decide) (by decide) (by decide) (by decide) (by decide) (by decide), kI 903 (by decide) (by decide) (by decide) (by decide) (by decide) (by decide), kI 904 (by decide) (by decide) (by decide) (by decide) (by decide) (by decide)⟩
  have k400 := kI 400 (by decide) (by decide) (by decide) (by decide) (by decide) (by decide)
  have k401 := kI 401 (by decide) (by decide) (by decide) (by decide) (by decide) (by decide)
  have k402 := kI 402 (by decide) (by decide) (by decide) (by decide) (by decide) (by decide)
  have k207 := kI 207 (by decide) (by decide) (by decide) (by decide) (by decide) (by decide)
  have k208 := kI 208 (by decide) (by decide) (by decide) (by decide) (by decide) (by decide)
  have k209 := kI 209 (by decide) (by decide) (by decide) (by decide) (by decide) (by decide)
  have k210 := kI 210 (by decide) (by decide) (by decide) (by decide) (by decide) (by decide)
  have hlk := hr.lk
  rw [if_pos rfl] at hlk
  have e2 : ((0 : Int32) + len).toInt = len.toInt := by rw [Int32.zero_add]
  refine ⟨q1.to ((w4S_Fm (O := O) hc.ow.2.1).trans (ptS_Fm hc.ow.2.1 hOt)).2.2.2.1 (kR2 303 (by decide) (by decide)) (kR2 405 (by decide) (by decide)) (kR2 711 (by decide) (by decide)) (kR2 712 (by decide) (by decide)), ?_, fun j h1 h2 h3 h4 => ?_, ?_, hr.lz, hr.lv, fun c h1 h2 h3 h4 => ?_, ?_, (fun q => absurd q (by decide)), fun _ => ?_, ?_, ?_, ?_⟩
  · rw [setL_self, hlk]; rfl
  · rw [setL_ne h4, k400, k401, k402]; exact hr.lc j h1 h2 h3 h4
  · rw [k400, k401, k402]; exact hr.cc
  · obtain ⟨g1, l, g2, g3, g4⟩ := hr.tx c h1 h2 h3 h4
    refine ⟨g1, l, ?_, by rw [(k9 _ (ht c h1 h2 h3 h4)).1]; exact g3, by rw [(k9 _ (ht c h1 h2 h3 h4)).2]; exact g4⟩
    by_cases hj : dpar D c = k
    · rw [hj, setL_self]; rw [hj] at g2; exact List.mem_append_left _ g2
    · rw [setL_ne hj]; exact g2
  · rw [ptS_213]; rfl
  · refine ⟨ptS_214, by rw [ptS_215, mx_self, mx_0 ha], by rw [ptS_216, mx_self, mx_0 hd], by rw [ptS_R (by decide), w4S_212], ?_, ?_⟩
    · rw [k209, k207]; exact hB.1
    · rw [k210, k207, k208]; exact hB.2
  · rw [e2]; exact ⟨by omega, by omega⟩
  · rw [k207]; exact hr.lf
  · rw [k208]; exact hr.wi
theorem elS_I {F lo r1 r2 σ} {g : Nat} (h : g < 400 ∨ 404 < g) (h2 : g ≠ 206) (h3 : g ≠ 200) (h4 : g ≠ 213) (h5 : g ≠ 214) : zI (elS F lo r1 r2 σ) g = zI σ g := by
  funext a
  unfold elS
  rw [rIR, rIR, rIn h5, rIn h4, rIn h3, rIn h2, rIn h2, rIn (by omega), rIn (by omega), rIn (by omega), rIn (by omega), rIn (by omega)]
theorem elS_b {F lo r1 r2 σ} {g a : Nat} (h : 400 ≤ g) (ha : a ≠ lo) : zI (elS F lo r1 r2 σ) g a = zI σ g a := by
  unfold elS
  rw [rIR, rIR, rIn (by omega), rIn (by omega), rIn (by omega), rIn (by omega), rIn (by omega), rIb ha, rIb ha, rIb ha, rIb ha, rIb ha]
theorem elS_400 {F lo r1 r2 σ} : zI (elS F lo r1 r2 σ) 400 lo = zI σ 209 F := by
  unfold elS
  rw [rIR, rIR, rIn (by decide), rIn (by decide), rIn (by decide), rIn (by decide), rIn (by decide), rIn (by decide), rIn (by decide), rIn (by decide), rIn (by decide), rIe]
theorem elS_401 {F lo r1 r2 σ} : zI (elS F lo r1 r2 σ) 401 lo = zI σ 200 F := by
  unfold elS
  rw [rIR, rIR, rIn (by decide), rIn (by decide), rIn (by decide), rIn (by decide), rIn (by decide), rIn (by decide), rIn (by decide), rIn (by decide), rIe]
theorem elS_402 {F lo r1 r2 σ} : zI (elS F lo r1 r2 σ) 402 lo = zI σ 214 F := by
  unfold elS
  rw [rIR, rIR, rIn (by decide), rIn (by decide), rIn (by decide), rIn (by decide), rIn (by decide), rIn (by decide), rIn (by decide), rIe]
theorem elS_200 {F lo r1 r2 σ} : zI (elS F lo r1 r2 σ) 200 F = zI σ 200 F + mx 0 (zI σ 215 F + zI σ 216 F) := by
  unfold elS
  rw [rIR, rIR, rIn (by decide), rIn (by decide), rIe]
theorem elS_213 {F lo r1 r2 σ} : zI (elS F lo r1 r2 σ) 213 F = 0 := by
  unfold elS
  rw [rIR, rIR, rIn (by decide), rIe]
theorem elS_R {F lo r1 r2 σ} {g : Nat} (h1 : g ≠ 218) (h2 : g ≠ 219) : zR (elS F lo r1 r2 σ) g = zR σ g := by
  funext a
  unfold elS
  rw [rRn h2, rRn h1]
  rfl
theorem elS_218 {F lo r1 r2 σ} : zR (elS F lo r1 r2 σ) 218 F = none := by
  unfold elS
  rw [rRn (by decide), rRe]
theorem elS_Fm {O : Nat → Prop} {F lo r1 r2 σ} (hF : O F) (hl : O lo) : Fm O σ (elS F lo r1 r2 σ) := by
  unfold elS
  exact (((((((((((Fm.wI hl (by unfold stf; omega)).trans (Fm.wI hl (by unfold stf; omega))).trans (Fm.wI hl (by unfold stf; omega))).trans (Fm.wI hl (by unfold stf; omega))).trans (Fm.wI hl (by unfold stf; omega))).trans (Fm.wI hF (by unfold stf; omega))).trans (Fm.wI hF (by unfold stf; omega))).trans (Fm.wI hF (by unfold stf; omega))).trans (Fm.wI hF (by unfold stf; omega))).trans (Fm.wI hF (by unfold stf; omega))).trans (Fm.wR hF (by unfold stf; omega))).trans (Fm.wR hF (by unfold stf; omega))
theorem end_rel {G O D X b S wl σ fl up dw k cnt cs lo LL fr} {r1 r2 : Int32} (hc : Rc G O D X b S wl σ) (hr : Ro O D X b S fl up dw k cnt cs lo LL fr σ) (h0 : cnt ≠ 0) :
    Rc G O D X b (shutP k (S, fl, up, dw)) wl (elS (xF X b) lo r1 r2 σ) ∧ Ro O D X b (shutP k (S, fl, up, dw)) 0 0 0 k 0 (cs ++ [lo]) lo LL fr (elS (xF X b) lo r1 r2 σ) ∧ Fm O σ (elS (xF X b) lo r1 r2 σ) ∧ (∀ g, 900 ≤ g → zI (elS (xF X b) lo r1 r2 σ) g = zI σ g ∧ zR (elS (xF X b) lo r1 r2 σ) g = zR σ g) := by
  have hk := hr.lv.1
  have hlk := hr.lk
  rw [if_neg h0] at hlk
  have hlo : lo ∈ LL k := by rw [hlk]; simp
  have hlO := hr.ln.2.2.2.2.2 k hk lo hlo
  have hf : Fm O σ (elS (xF X b) lo r1 r2 σ) := elS_Fm hc.ow.2.1 hlO
  obtain ⟨n1, n2, n3, n4, n5, n6⟩ := hr.nz h0
  have hnd := (hr.ln.2.2.2.1 k hk).1
  rw [hlk] at hnd
  have hcs : ∀ l, l ∈ cs → l ≠ lo := fun l hl q => (List.nodup_append.mp hnd).2.2 l hl lo (by simp) q
  refine ⟨hc.keep hf (fun g h1 h2 => elS_I (by omega) (by omega) (by omega) (by omega) (by omega)) (elS_R (by decide) (by decide)) (by rw [elS_R (by decide) (by decide)]) (by rw [elS_R (by decide) (by decide)]) elS_218 (by rw [elS_200, hc.y, n2, n3]; rfl) (by rw [elS_I (by omega) (by decide) (by decide) (by decide) (by decide)]; exact hc.ab) (by rw [elS_I (by omega) (by decide) (by decide) (by decide) (by decide)]; exact hc.be) rfl (fun _ _ _ => ⟨rfl, rfl, rfl, rfl⟩) rfl (fun _ _ => rfl) rfl, ?_, hf, fun g hg => ⟨elS_I (by omega) (by omega) (by omega) (by omega) (by omega), elS_R (by omega) (by omega)⟩⟩
  refine ⟨hr.ln.to hf.2.2.2.1 (elS_R (by decide) (by decide)) (elS_R (by decide) (by decide)) (elS_R (by decide) (by decide)) (elS_R (by decide) (by decide)), ?_, fun j h1 h2 h3 h4 => ?_, ?_, fun j hj => ?_, hr.lv, fun c h1 h2 h3 h4 => ?_, elS_213, fun _ => ⟨rfl, rfl, rfl⟩, fun q => absurd rfl q, ⟨by decide, by decide⟩, ?_, ?_⟩
  · rw [if_pos rfl]; exact hlk
  · have hne : ∀ l, l ∈ LL j → l ≠ lo := fun l hl q => ((hr.ln.2.2.2.1 k hk).2 lo hlo).2 j h1 h4 (q ▸ hl)
    obtain ⟨g1, g2⟩ := hr.lc j h1 h2 h3 h4
    refine ⟨?_, fun l hl => by rw [elS_b (by decide) (hne l hl)]; exact g2 l hl⟩
    show _ = lsOf (sls S ++ [(k, sy S, fl)]) j
    rw [lsOf_app, if_neg h4, ← g1]
    exact List.map_congr_left fun l hl => by rw [elS_b (by decide) (hne l hl), elS_b (by decide) (hne l hl)]
  · obtain ⟨g1, g2⟩ := hr.cc
    constructor
    · show _ = lsOf (sls S ++ [(k, sy S, fl)]) k
      rw [lsOf_app, if_pos rfl, ← g1, List.map_append]
      congr 1
      · exact List.map_congr_left fun l hl => by rw [elS_b (by decide) (hcs l hl), elS_b (by decide) (hcs l hl)]
      · show [(_, _)] = _
        rw [elS_401, elS_402, hc.y, n1]
    · intro l hl
      rcases List.mem_append.mp hl with q | q
      · rw [elS_b (by decide) (hcs l q)]; exact g2 l q
      · rw [List.mem_singleton.mp q, elS_400, n5]; exact hr.lf
  · show lsOf (sls S ++ [(k, sy S, fl)]) j = []
    have hjk : j ≠ k := fun q => by
      have h1 : slv S j = false := hj
      rw [q, hr.lv.2.2.1] at h1
      cases h1
    rw [lsOf_app, if_neg hjk]
    exact hr.lz j hj
  · obtain ⟨g1, l, g2, g3, g4⟩ := hr.tx c h1 h2 h3 h4
    exact ⟨g1, l, g2, by rw [elS_R (by decide) (by decide)]; exact g3, by rw [elS_I (by omega) (by decide) (by decide) (by decide) (by decide)]; exact g4⟩
  · rw [elS_I (by omega) (by decide) (by decide) (by decide) (by decide)]; exact hr.lf
  · rw [elS_I (by omega) (by decide) (by decide) (by decide) (by decide)]; exact hr.wi

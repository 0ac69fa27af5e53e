/-! LINES, second part: addLine over the lists of lines (by wip/p27/gen_lines2.py) -/
theorem alS_pre {O : Nat → Prop} {G : Gb} {D : Dt} {X : Cx} {b : Bool} {σ σ1 : Sto} {LL : Nat → List Nat} {fr : List Nat} {x : Nat} (hN : NS G D X σ) (hO : Ow O D X b σ) (h : Ln O D X b σ LL fr)
    (hx : (zR σ 303 (xLy X b) = some x ∧ σ1 = wR σ 303 (xLy X b) (zR σ 405 x)) ∨ (zR σ 303 (xLy X b) = none ∧ (zT σ x).1 = 0 ∧ σ1 = wT σ x (4, 0))) :
    ∃ fr', Ln O D X b σ1 LL fr' ∧ Fm O σ σ1 ∧ Lf σ σ1 ∧ zT σ1 x = (4, 0) ∧ O x ∧ x ∉ fr' ∧ ∀ j, j < dn D → x ∉ LL j := by
  obtain ⟨c1, c2, c3, c4, c5, c6⟩ := h
  rcases hx with ⟨h1, rfl⟩ | ⟨h1, h2, rfl⟩
  · rw [h1] at c1
    cases fr with
    | nil => cases c1
    | cons z fr' =>
      obtain ⟨q1, q2, q3⟩ := c1
      cases q1
      have hz := List.nodup_cons.mp c3
      have k405 : ∀ y, zR (wR σ 303 (xLy X b) (zR σ 405 x)) 405 y = zR σ 405 y := fun y => by simp [zR_wR]
      refine ⟨fr', ⟨?_, fun k hk => ?_, hz.2, fun k hk => ⟨(c4 k hk).1, fun y hy => ⟨fun q => ((c4 k hk).2 y hy).1 (List.mem_cons_of_mem _ q), ((c4 k hk).2 y hy).2⟩⟩, fun y hy => c5 y (List.mem_cons_of_mem _ hy), c6⟩, Fm.wR hO.1 (by unfold stf; omega), Lf.wR (by omega), q2, c5 x List.mem_cons_self, hz.1, fun j hj hj2 => ((c4 j hj).2 x hj2).1 List.mem_cons_self⟩
      · rw [show zR (wR σ 303 (xLy X b) (zR σ 405 x)) 303 (xLy X b) = zR σ 405 x by simp [zR_wR]]
        exact q3.to (fun y _ => ⟨rfl, k405 y⟩)
      · obtain ⟨g1, g2, g3⟩ := c2 k hk
        exact ⟨by rw [← g1]; simp [zR_wR], by rw [← g2]; simp [zR_wR], g3.to (fun y _ => ⟨rfl, k405 y⟩)⟩
  · have hfr : fr = [] := by
      rw [h1] at c1
      cases fr with
      | nil => rfl
      | cons z zs => cases c1.1
    subst hfr
    have hne : ∀ y, zT σ y = (4, 0) → y ≠ x := fun y hy q => by rw [q] at hy; rw [hy] at h2; cases h2
    have hT : ∀ y, zT σ y = (4, 0) → zT (wT σ x (4, 0)) y = zT σ y := fun y hy => by rw [zT_wT, if_neg (hne y hy)]
    refine ⟨[], ⟨by rw [show zR (wT σ x (4, 0)) 303 (xLy X b) = none from h1]; rfl, fun k hk => ?_, List.nodup_nil, c4, c5, c6⟩, Fm.wT (hO.2.2.2.2 x h2) h2, Lf.wT, zT_self, hO.2.2.2.2 x h2, List.not_mem_nil, fun j hj hj2 => hne x ((c2 j hj).2.2.T x hj2) rfl⟩
    obtain ⟨g1, g2, g3⟩ := c2 k hk
    exact ⟨g1, g2, g3.to (fun y hy => ⟨hT y (g3.T y hy), rfl⟩)⟩
theorem alS_Ln {O : Nat → Prop} {G : Gb} {D : Dt} {X : Cx} {b : Bool} {σ σ1 : Sto} {LL : Nat → List Nat} {fr : List Nat} {x k : Nat} (hN : NS G D X σ) (hO : Ow O D X b σ) (h : Ln O D X b σ LL fr) (hk : k < dn D)
    (hx : (zR σ 303 (xLy X b) = some x ∧ σ1 = wR σ 303 (xLy X b) (zR σ 405 x)) ∨ (zR σ 303 (xLy X b) = none ∧ (zT σ x).1 = 0 ∧ σ1 = wT σ x (4, 0))) :
    ∃ fr', Ln O D X b (alS (xpl X b k) x σ1) (setL LL k (LL k ++ [x])) fr' ∧ Fm O σ (alS (xpl X b k) x σ1) ∧ Lf σ (alS (xpl X b k) x σ1) ∧ zT (alS (xpl X b k) x σ1) x = (4, 0) ∧ O x ∧ ∀ j, j < dn D → x ∉ LL j := by
  obtain ⟨fr', h1, f1, l1, t1, hOx, hxf, hxl⟩ := alS_pre hN hO h hx
  clear hx h
  have hN1 := hN.fm f1
  obtain ⟨c1, c2, c3, c4, c5, c6⟩ := h1
  obtain ⟨e1, e2, e3⟩ := c2 k hk
  have hp := hO.2.2.1 k hk
  have plne : ∀ j, j < dn D → j ≠ k → xpl X b j ≠ xpl X b k := fun j hj hne q => hne (hN.d.pl b b j k hj hk q).2
  have nd : (LL k ++ [x]).Nodup := by
    rw [List.nodup_append]
    exact ⟨(c4 k hk).1, by simp, fun y hy z hz q => hxl k hk (by rw [List.mem_singleton.mp hz] at q; exact q ▸ hy)⟩
  have disj : ∀ j, j < dn D → (setL LL k (LL k ++ [x]) j).Nodup ∧ ∀ y ∈ setL LL k (LL k ++ [x]) j, y ∉ fr' ∧ ∀ i, i < dn D → i ≠ j → y ∉ setL LL k (LL k ++ [x]) i := by
    intro j hj
    by_cases hjk : j = k
    · subst hjk
      rw [setL_self]
      refine ⟨nd, fun y hy => ?_⟩
      rcases List.mem_append.mp hy with q | q
      · exact ⟨((c4 j hj).2 y q).1, fun i hi hij => by rw [setL_ne hij]; exact ((c4 j hj).2 y q).2 i hi hij⟩
      · rw [List.mem_singleton.mp q]
        exact ⟨hxf, fun i hi hij => by rw [setL_ne hij]; exact hxl i hi⟩
    · rw [setL_ne hjk]
      refine ⟨(c4 j hj).1, fun y hy => ⟨((c4 j hj).2 y hy).1, fun i hi hij => ?_⟩⟩
      by_cases hik : i = k
      · subst hik
        rw [setL_self]
        intro q
        rcases List.mem_append.mp q with q | q
        · exact ((c4 j hj).2 y hy).2 i hi hij q
        · rw [List.mem_singleton.mp q] at hy; exact hxl j hj hy
      · rw [setL_ne hik]; exact ((c4 j hj).2 y hy).2 i hi hij
  have own : ∀ j, j < dn D → ∀ y ∈ setL LL k (LL k ++ [x]) j, O y := by
    intro j hj y hy
    by_cases hjk : j = k
    · subst hjk
      rw [setL_self] at hy
      rcases List.mem_append.mp hy with q | q
      · exact c6 j hj y q
      · rw [List.mem_singleton.mp q]; exact hOx
    · rw [setL_ne hjk] at hy; exact c6 j hj y hy
  rcases List.eq_nil_or_concat (LL k) with hl | ⟨xs, la, hl⟩
  · have hg : alS (xpl X b k) x σ1 = wR (wR (wR σ1 405 x none) 711 (xpl X b k) (some x)) 712 (xpl X b k) (some x) := by unfold alS; rw [e2, hl]; rfl
    rw [hg]
    have k405 : ∀ y, y ≠ x → zR (wR (wR (wR σ1 405 x none) 711 (xpl X b k) (some x)) 712 (xpl X b k) (some x)) 405 y = zR σ1 405 y := fun y hy => by simp [zR_wR, hy]
    refine ⟨fr', ⟨?_, fun j hj => ?_, c3, disj, c5, own⟩, f1.trans (((Fm.wR hOx (by unfold stf; omega)).trans (Fm.wR hp (by unfold stf; omega))).trans (Fm.wR hp (by unfold stf; omega))), l1.trans (((Lf.wR (by omega)).trans (Lf.wR (by omega))).trans (Lf.wR (by omega))), t1, hOx, hxl⟩
    · rw [show zR (wR (wR (wR σ1 405 x none) 711 (xpl X b k) (some x)) 712 (xpl X b k) (some x)) 303 (xLy X b) = zR σ1 303 (xLy X b) by simp [zR_wR]]
      exact c1.to (fun y hy => ⟨rfl, k405 y (fun q => hxf (q ▸ hy))⟩)
    · by_cases hjk : j = k
      · subst hjk
        rw [setL_self, hl]
        exact ⟨by simp [zR_wR], by simp [zR_wR], rfl, t1, by simp [zR_wR, Ch]⟩
      · rw [setL_ne hjk]
        obtain ⟨g1, g2, g3⟩ := c2 j hj
        exact ⟨by rw [← g1]; simp [zR_wR, plne j hj hjk], by rw [← g2]; simp [zR_wR, plne j hj hjk], g3.to (fun y hy => ⟨rfl, k405 y (fun q => hxl j hj (q ▸ hy))⟩)⟩
  · have hl' : LL k = xs ++ [la] := by rw [hl]; simp
    have hlast : zR σ1 712 (xpl X b k) = some la := by rw [e2, hl']; simp
    have hmem : la ∈ LL k := by rw [hl']; simp
    have hlaO := c6 k hk la hmem
    have hlax : la ≠ x := fun q => hxl k hk (q ▸ hmem)
    have hnd := (c4 k hk).1
    rw [hl'] at hnd
    have hlx : la ∉ xs := fun q => (List.nodup_append.mp hnd).2.2 la q la (by simp) rfl
    have hg : alS (xpl X b k) x σ1 = wR (wR (wR σ1 405 x none) 405 la (some x)) 712 (xpl X b k) (some x) := by unfold alS; rw [hlast]
    rw [hg]
    have k405 : ∀ y, y ≠ x → y ≠ la → zR (wR (wR (wR σ1 405 x none) 405 la (some x)) 712 (xpl X b k) (some x)) 405 y = zR σ1 405 y := fun y hy hy2 => by simp [zR_wR, hy, hy2]
    refine ⟨fr', ⟨?_, fun j hj => ?_, c3, disj, c5, own⟩, f1.trans (((Fm.wR hOx (by unfold stf; omega)).trans (Fm.wR hlaO (by unfold stf; omega))).trans (Fm.wR hp (by unfold stf; omega))), l1.trans (((Lf.wR (by omega)).trans (Lf.wR (by omega))).trans (Lf.wR (by omega))), t1, hOx, hxl⟩
    · rw [show zR (wR (wR (wR σ1 405 x none) 405 la (some x)) 712 (xpl X b k) (some x)) 303 (xLy X b) = zR σ1 303 (xLy X b) by simp [zR_wR]]
      exact c1.to (fun y hy => ⟨rfl, k405 y (fun q => hxf (q ▸ hy)) (fun q => ((c4 k hk).2 la hmem).1 (q ▸ hy))⟩)
    · by_cases hjk : j = k
      · subst hjk
        rw [setL_self]
        refine ⟨?_, by simp [zR_wR], ?_⟩
        · rw [show zR (wR (wR (wR σ1 405 x none) 405 la (some x)) 712 (xpl X b j) (some x)) 711 (xpl X b j) = zR σ1 711 (xpl X b j) by simp [zR_wR], e1, hl']
          cases xs <;> simp
        · have e4 : (LL j ++ [x]).head? = (LL j).head? := by rw [hl']; cases xs <;> simp
          rw [e4]
          rw [hl'] at e3 ⊢
          rw [show xs ++ [la] ++ [x] = xs ++ (la :: [x]) by simp]
          refine Ch.glue e3 (fun y hy => ⟨rfl, k405 y (fun q => hxl j hj (by rw [hl']; simp [← q, hy])) (fun q => hlx (q ▸ hy))⟩) rfl (r2 := some x) (by simp [zR_wR]) ⟨rfl, t1, ?_⟩
          show zR _ 405 x = none
          simp [zR_wR, Ne.symm hlax]
      · rw [setL_ne hjk]
        obtain ⟨g1, g2, g3⟩ := c2 j hj
        exact ⟨by rw [← g1]; simp [zR_wR, plne j hj hjk], by rw [← g2]; simp [zR_wR, plne j hj hjk], g3.to (fun y hy => ⟨rfl, k405 y (fun q => hxl j hj (q ▸ hy)) (fun q => ((c4 k hk).2 la hmem).2 j hj hjk (q ▸ hy))⟩)⟩

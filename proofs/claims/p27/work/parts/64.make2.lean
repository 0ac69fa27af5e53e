/-! THE LAW: makes (by wip/p27/gen_make2.py) -/
theorem nI_ngw {w : Nat} (h : w < 4) (q : 4 ≤ nI w) : False := by
  have := (nI_le' (j := 4) (k := w) (by omega) (by omega)).mp q
  omega
theorem TI.wd {G D X Y W T LL fr LL' fr' LL2 fr2} {L : Lw} {σ s t : Sto} {k w : Nat} {v : Int32} (h : TI G D X Y W T LL fr LL' fr' L σ) (hk : k < dn D) (ht : dtx D k = true) (hw : dwc D k = w) (hw4 : w < 4) (hv : 1 ≤ v.toInt) (hv2 : v.toInt ≤ 30) (hU : Uw D (fun _ => false) (dn D) < 20) (hLI : LI (wdD D k v) W L s) (hT : LT L s) (hq : zA s (lwq L) 7 = nI (Uw D (fun _ => false) (dn D) + 1)) (hZ : TZ (dn D) L s) (hz : Rz G (wdD D k v) X Y W (T + 1) LL2 fr2 LL' fr' t) (f : Fo X Y (dn D) s t) : TI G (wdD D k v) X Y W (T + 1) LL2 fr2 LL' fr' L t := by
  obtain ⟨a1, a2, a3, a4, a5, a6, a7, a8, a9, a10, a11⟩ := h
  have a6' : Ap X Y (dn (wdD D k v)) L := a6
  have hr := a6.rows hT f
  refine ⟨a1.wd (by omega) hv hv2, a2, hT.fo f, a4, hLI.keep hr, a6', hz, a8, ?_, ?_, hZ.keep hr⟩
  · rw [show zA t (lwq L) = zA s (lwq L) from hr 7 (by decide), hq, Uw_wd (hk := hk) ht]
  · rw [Uw_wd (hk := hk) ht]; omega
set_option maxHeartbeats 8000000 in
theorem l_mkW (l : Launch) {G : Gb} {D : Dt} {X : Cx} {Y : Cy} {W : Int32} {T : Nat} {LL : Nat → List Nat} {fr : List Nat} {LL' : Nat → List Nat} {fr' : List Nat} {L : Lw} {s : Sto} {z : Int32} (hTI : TI G D X Y W T LL fr LL' fr' L s) {k w up m : Nat} (hT : T < 1000) (hk : k < dn D) (ht : dtx D k = true) (hw : dwc D k = w) (hw4 : w < 4)
    (kk : ∀ t LL2 fr2 x2, x2 < 30 → TI G (wdD D k (nI (1 + x2))) X Y W (T + 1) LL2 fr2 LL' fr' L t → Fo2 X Y (dn D) L s t → Wp l G 38 (48 * m) (288 * m) (RL, cL_makes, 11, (some .boolean), false) 180 [(10, .int (nI (w + 1))), (9, .int 1), (8, .int 1), (7, .int (nI up)), (6, .int (nI k)), (0, .ref (xob Y)), (1, .int z), (2, .ref (lwt L)), (3, .ref (lwg L)), (4, .ref (lwl L)), (5, .ref (lwq L))] [] t (fun v t => v = some (.int 1) ∧ ∃ D2 T2 LL2 fr2, T2 ≤ T + (m + 1) ∧ dn D2 = dn D ∧ TI G D2 X Y W T2 LL2 fr2 LL' fr' L t ∧ Fo2 X Y (dn D) L s t)) :
    Wp l G 38 (48 * (m + 1)) (288 * (m + 1)) (RL, cL_makes, 11, (some .boolean), false) 180 [(10, .int (nI w)), (9, .int 1), (8, .int 1), (7, .int (nI up)), (6, .int (nI k)), (0, .ref (xob Y)), (1, .int z), (2, .ref (lwt L)), (3, .ref (lwg L)), (4, .ref (lwl L)), (5, .ref (lwq L))] [] s (fun v t => v = some (.int 1) ∧ ∃ D2 T2 LL2 fr2, T2 ≤ T + (m + 1) ∧ dn D2 = dn D ∧ TI G D2 X Y W T2 LL2 fr2 LL' fr' L t ∧ Fo2 X Y (dn D) L s t) := by
  have hXU := hTI.2.2.2.2.2.2.2.2.2.1
  have hTt : zT s (lwt L) = (20, 64) := hTI.2.2.1 0 (by decide)
  have hTg : zT s (lwg L) = (20, 32) := hTI.2.2.1 3 (by decide)
  have hTl : zT s (lwl L) = (20, 48) := hTI.2.2.1 4 (by decide)
  have hTq : zT s (lwq L) = (20, 8) := hTI.2.2.1 7 (by decide)
  have hob : zT s (xob Y) = (10, 0) := hTI.2.2.2.2.2.2.1.zo
  have hi := hTI.2.2.2.2.1
  have hn := hTI.1.2.1
  have hd := hTI.2.2.2.1
  show Wp l G 38 (48 * (m + 1)) (288 * (m + 1)) (RL, cL_makes, 11, (some .boolean), false) 180 [(10, .int (nI w)), (9, .int 1), (8, .int 1), (7, .int (nI up)), (6, .int (nI k)), (0, .ref (xob Y)), (1, .int z), (2, .ref (lwt L)), (3, .ref (lwg L)), (4, .ref (lwl L)), (5, .ref (lwq L))] [] s _
  refine zp_iload dL_makes_180 (x := (nI w)) (List.mem_of_getElem? (i := 0) rfl) ?_
  refine zp_iconst dL_makes_182 (v := 4) (by decide) ?_
  refine zp_icmp_ge dL_makes_183 (tgt := 299) rfl (fun q => absurd q (fun q => nI_ngw hw4 q)) (fun _ => ?_)
  refine zp_iload dL_makes_186 (x := 1) (List.mem_of_getElem? (i := 2) rfl) ?_
  refine zp_if_eq dL_makes_188 (tgt := 299) rfl (fun q => absurd q (by decide)) (fun _ => ?_)
  refine zp_iload_n dL_makes_191 rfl (x := z) (List.mem_of_getElem? (i := 6) rfl) ?_
  refine zp_bipush dL_makes_192 (v := 9) (by decide) ?_
  refine zp_ishr dL_makes_194 ?_
  refine zp_iconst dL_makes_195 (v := 5) (by decide) ?_
  refine zp_callS (st := []) (mc2 := (48 * (m + 1))) (ms2 := (288 * (m + 1))) dL_makes_196 (c_L_low l G _ 5 _ (by decide) (by decide)) cl_L_81 st_L_low rfl rfl (by omega) (by omega) (by omega) (Nat.le_of_ble_eq_true rfl) ?_
  rintro _ sx ⟨⟨x1, hx1, rfl⟩, hsx⟩; obtain rfl := hsx.symm
  refine zp_iload dL_makes_199 (x := (nI w)) (List.mem_of_getElem? (i := 0) rfl) ?_
  refine zp_icmp_le dL_makes_201 (tgt := 299) rfl (fun h201 => ?_) (fun h201 => ?_)
  · skip
    refine zp_iload dL_makes_299 (x := 1) (List.mem_of_getElem? (i := 1) rfl) ?_
    refine zp_zret rfl (Or.inr rfl) dL_makes_301 ?_
    exact ⟨rfl, D, T, LL, fr, by omega, rfl, hTI, fun _ _ => rfl⟩
  · skip
    refine zp_aload dL_makes_204 (a := (lwq L)) (List.mem_of_getElem? (i := 10) rfl) ?_
    refine zp_bipush dL_makes_206 (v := 7) (by decide) ?_
    refine zp_iald_v dL_makes_208 hTq (Or.inl rfl) (j := 7) (by decide) (zin (by decide)) (v := (nI (Uw D (fun _ => false) (dn D)))) hTI.2.2.2.2.2.2.2.2.1 ?_
    refine zp_bipush dL_makes_209 (v := 20) (by decide) ?_
    refine zp_icmp_ge dL_makes_211 (tgt := 299) rfl (fun h211 => ?_) (fun h211 => ?_)
    · skip
      refine zp_iload dL_makes_299 (x := 1) (List.mem_of_getElem? (i := 1) rfl) ?_
      refine zp_zret rfl (Or.inr rfl) dL_makes_301 ?_
      exact ⟨rfl, D, T, LL, fr, by omega, rfl, hTI, fun _ _ => rfl⟩
    · have hU : Uw D (fun _ => false) (dn D) < 20 := by
        have q2 := mt (nI_le' (j := 20) (k := Uw D (fun _ => false) (dn D)) (by omega) (by have := hTI.2.2.2.2.2.2.2.2.2.1; omega)).mpr h211
        omega
      refine zp_aload dL_makes_214 (a := (lwl L)) (List.mem_of_getElem? (i := 9) rfl) ?_
      refine zp_iconst dL_makes_216 (v := 4) (by decide) ?_
      refine zp_iload dL_makes_217 (x := (nI k)) (List.mem_of_getElem? (i := 4) rfl) ?_
      refine zp_imul dL_makes_219 ?_
      rw [show ((4 * (nI k)) : Int32) = (nI (4 * k)) from pk_mul 4 k]
      refine zp_iload dL_makes_220 (x := (nI w)) (List.mem_of_getElem? (i := 0) rfl) ?_
      refine zp_iadd dL_makes_222 ?_
      rw [show (((nI (4 * k)) + (nI w)) : Int32) = (nI (4 * k + w)) from nI_add (4 * k) w]
      refine zp_iconst dL_makes_223 (v := 1) (by decide) ?_
      refine zp_iload_n dL_makes_224 rfl (x := z) (List.mem_of_getElem? (i := 6) rfl) ?_
      refine zp_iconst dL_makes_225 (v := 3) (by decide) ?_
      refine zp_iload dL_makes_226 (x := (nI w)) (List.mem_of_getElem? (i := 0) rfl) ?_
      refine zp_imul dL_makes_228 ?_
      rw [show ((3 * (nI w)) : Int32) = (nI (3 * w)) from pk_mul 3 w]
      refine zp_ishr dL_makes_229 ?_
      refine zp_bipush dL_makes_230 (v := 30) (by decide) ?_
      refine zp_callS (st := [.int 1, .int (nI (4 * k + w)), .ref (lwl L)]) (mc2 := (48 * (m + 1))) (ms2 := (288 * (m + 1))) dL_makes_232 (c_L_low l G _ 30 _ (by decide) (by decide)) cl_L_81 st_L_low rfl rfl (by omega) (by omega) (by omega) (Nat.le_of_ble_eq_true rfl) ?_
      rintro _ sx ⟨⟨x2, hx2, rfl⟩, hsx⟩; obtain rfl := hsx.symm
      refine zp_iadd dL_makes_235 ?_
      rw [show ((1 + (nI x2)) : Int32) = (nI (1 + x2)) from nI_add 1 x2]
      refine zp_iastore dL_makes_236 hTl (j := (4 * k + w)) (nI_clamp (by omega)) (vp_in_nI (by omega) (by decide)) ?_
      skip
      refine zp_aload_n dL_makes_237 rfl (a := (lwt L)) (List.mem_of_getElem? (i := 7) rfl) ?_
      refine zp_bipush dL_makes_238 (v := 32) (by decide) ?_
      refine zp_iload dL_makes_240 (x := (nI k)) (List.mem_of_getElem? (i := 4) rfl) ?_
      refine zp_iadd dL_makes_242 ?_
      rw [show ((32 + (nI k)) : Int32) = (nI (32 + k)) from nI_add 32 k]
      refine zp_dup2 dL_makes_243 rfl rfl ?_
      refine zp_iald_v dL_makes_244 (tA hTt) (Or.inl rfl) (j := (32 + k)) (nI_clamp (by omega)) (vp_in_nI (by omega) (by decide)) (v := (nI w)) ((rAb (hd.ne 0 4 (by decide) (by decide) (by decide))).trans (((hi.1 k hk).2.2.1).trans (congrArg nI hw))) ?_
      refine zp_iconst dL_makes_245 (v := 1) (by decide) ?_
      refine zp_iadd dL_makes_246 ?_
      rw [show (((nI w) + 1) : Int32) = (nI (w + 1)) from nI_add w 1]
      refine zp_iastore dL_makes_247 (tA hTt) (j := (32 + k)) (nI_clamp (by omega)) (vp_in_nI (by omega) (by decide)) ?_
      skip
      refine zp_aload dL_makes_248 (a := (lwq L)) (List.mem_of_getElem? (i := 10) rfl) ?_
      refine zp_bipush dL_makes_250 (v := 7) (by decide) ?_
      refine zp_dup2 dL_makes_252 rfl rfl ?_
      refine zp_iald_v dL_makes_253 (tA (tA hTq)) (Or.inl rfl) (j := 7) (by decide) (zin (by decide)) (v := (nI (Uw D (fun _ => false) (dn D)))) ((rAb (hd.ne 7 0 (by decide) (by decide) (by decide))).trans ((rAb (hd.ne 7 4 (by decide) (by decide) (by decide))).trans hTI.2.2.2.2.2.2.2.2.1)) ?_
      refine zp_iconst dL_makes_254 (v := 1) (by decide) ?_
      refine zp_iadd dL_makes_255 ?_
      rw [show (((nI (Uw D (fun _ => false) (dn D))) + 1) : Int32) = (nI (Uw D (fun _ => false) (dn D) + 1)) from nI_add (Uw D (fun _ => false) (dn D)) 1]
      refine zp_iastore dL_makes_256 (tA (tA hTq)) (j := 7) (by decide) (zin (by decide)) ?_
      refine zp_gen (fun r => LI (wdD D k (nI (1 + x2))) W L r ∧ LT L r ∧ Rz G D X Y W T LL fr LL' fr' r ∧ zA r (lwq L) 7 = nI (Uw D (fun _ => false) (dn D) + 1) ∧ TZ (dn D) L r ∧ zA r (lwl L) (4 * k + w) = nI (1 + x2) ∧ ∀ a, (zT s a).1 ≠ 0 → zT r a = zT s a) ⟨by rw [← hw]; exact hi.wd hd hn hk (by omega) hTI.1.2.2.2.2.2.1, hTI.2.2.1, ((hTI.2.2.2.2.2.2.1.wL hTI.2.2.1 hTI.2.2.2.2.2.1 4 (by decide) rfl).wL hTI.2.2.1 hTI.2.2.2.2.2.1 0 (by decide) rfl).wL hTI.2.2.1 hTI.2.2.2.2.2.1 7 (by decide) rfl, rAe, ((hTI.2.2.2.2.2.2.2.2.2.2.w (fun q => absurd q (hd.ne 4 1 (by decide) (by decide) (by decide))) (fun q => absurd q (hd.ne 4 2 (by decide) (by decide) (by decide)))).w (fun q => absurd q (hd.ne 0 1 (by decide) (by decide) (by decide))) (fun q => absurd q (hd.ne 0 2 (by decide) (by decide) (by decide)))).w (fun q => absurd q (hd.ne 7 1 (by decide) (by decide) (by decide))) (fun q => absurd q (hd.ne 7 2 (by decide) (by decide) (by decide))), (rAb (hd.ne 4 7 (by decide) (by decide) (by decide))).trans ((rAb (hd.ne 4 0 (by decide) (by decide) (by decide))).trans rAe), fun _ _ => rfl⟩ (fun s1 h1 => ?_)
      obtain ⟨h1i, h1T, h1z, h1q, h1Z, h1l, h1k⟩ := h1
      have h1o : zT s1 (xob Y) = (10, 0) := h1z.zo
      have h1Tt : zT s1 (lwt L) = (20, 64) := h1T 0 (by decide)
      have h1Tg : zT s1 (lwg L) = (20, 32) := h1T 3 (by decide)
      have h1Tl : zT s1 (lwl L) = (20, 48) := h1T 4 (by decide)
      have h1Tq : zT s1 (lwq L) = (20, 8) := h1T 7 (by decide)
      refine zp_iload dL_makes_257 (x := 1) (List.mem_of_getElem? (i := 1) rfl) ?_
      refine zp_if_eq dL_makes_259 (tgt := 290) rfl (fun q => absurd q (by decide)) (fun _ => ?_)
      refine zp_aload_n dL_makes_262 rfl (a := (xob Y)) (List.mem_of_getElem? (i := 5) rfl) ?_
      refine zp_iload dL_makes_263 (x := (nI k)) (List.mem_of_getElem? (i := 4) rfl) ?_
      refine zp_aload dL_makes_265 (a := (lwl L)) (List.mem_of_getElem? (i := 9) rfl) ?_
      refine zp_iconst dL_makes_267 (v := 4) (by decide) ?_
      refine zp_iload dL_makes_268 (x := (nI k)) (List.mem_of_getElem? (i := 4) rfl) ?_
      refine zp_imul dL_makes_270 ?_
      rw [show ((4 * (nI k)) : Int32) = (nI (4 * k)) from pk_mul 4 k]
      refine zp_iload dL_makes_271 (x := (nI w)) (List.mem_of_getElem? (i := 0) rfl) ?_
      refine zp_iadd dL_makes_273 ?_
      rw [show (((nI (4 * k)) + (nI w)) : Int32) = (nI (4 * k + w)) from nI_add (4 * k) w]
      refine zp_iald_v dL_makes_274 h1Tl (Or.inl rfl) (j := (4 * k + w)) (nI_clamp (by omega)) (vp_in_nI (by omega) (by decide)) (v := (nI (1 + x2))) h1l ?_
      refine zp_iconst dL_makes_275 (v := 0) (by decide) ?_
      refine zp_callV (c0 := 9) (st := []) (mc2 := (48 * m)) (ms2 := (288 * m)) dL_makes_276 (c_X12_word l G D X Y W T LL fr LL' fr' s1 k (nI (1 + x2)) hTI.1 h1z (by have := hTI.2.1.1; omega) hTI.2.1.2 (hTI.1.wd (by omega) (by rw [nI_toInt (by omega)]; omega) (by rw [nI_toInt (by omega)]; omega)) (by omega) hk ht (by omega) (by rw [nI_toInt (by omega)]; omega) (by rw [nI_toInt (by omega)]; omega)) cl_L_93 im_X12_word se_X12_word rfl rfl h1o rfl rfl (by omega) (by omega) (by omega) (Nat.le_of_ble_eq_true rfl) ?_
      rintro _ s2 ⟨rfl, LL2, fr2, z2, f2⟩
      refine zp_iload dL_makes_279 (x := (nI w)) (List.mem_of_getElem? (i := 0) rfl) ?_
      refine zp_iconst dL_makes_281 (v := 1) (by decide) ?_
      refine zp_iadd dL_makes_282 ?_
      rw [show (((nI w) + 1) : Int32) = (nI (w + 1)) from nI_add w 1]
      refine zp_icmp_ne dL_makes_283 (tgt := 290) rfl (fun q => absurd (by rw [hw]) q) (fun _ => ?_)
      refine zp_iconst dL_makes_286 (v := 1) (by decide) ?_
      refine zp_goto dL_makes_287 (tgt := 291) rfl ?_
      refine zp_istore dL_makes_291 (Nat.le_of_ble_eq_true rfl) (lv2 := [(9, .int 1), (10, .int (nI w)), (8, .int 1), (7, .int (nI up)), (6, .int (nI k)), (0, .ref (xob Y)), (1, .int z), (2, .ref (lwt L)), (3, .ref (lwg L)), (4, .ref (lwl L)), (5, .ref (lwq L))]) rfl ?_
      refine zp_iinc dL_makes_293 (k1 := 1) (x := (nI w)) rfl (v := (nI (w + 1))) (nI_1 w) (Nat.le_of_ble_eq_true rfl) (lv2 := [(10, .int (nI (w + 1))), (9, .int 1), (8, .int 1), (7, .int (nI up)), (6, .int (nI k)), (0, .ref (xob Y)), (1, .int z), (2, .ref (lwt L)), (3, .ref (lwg L)), (4, .ref (lwl L)), (5, .ref (lwq L))]) rfl ?_
      refine zp_goto dL_makes_296 (tgt := 180) rfl ?_
      refine zp_lv [0, 1, 2, 3, 4, 5, 6, 7, 8, 9, 10] rfl ?_
      exact kk s2 LL2 fr2 x2 hx2 (hTI.wd hk ht hw hw4 (by rw [nI_toInt (by omega)]; omega) (by rw [nI_toInt (by omega)]; omega) hU h1i h1T h1q h1Z z2 f2) (fun a ha => (f2.1 a (by rw [h1k a ha]; exact ha)).trans (h1k a ha))
theorem l_mkE (l : Launch) {G : Gb} {D : Dt} {X : Cx} {Y : Cy} {W : Int32} {T : Nat} {LL : Nat → List Nat} {fr : List Nat} {LL' : Nat → List Nat} {fr' : List Nat} {L : Lw} {s : Sto} {z : Int32} (hTI : TI G D X Y W T LL fr LL' fr' L s) {k up : Nat} : Wp l G 38 0 0 (RL, cL_makes, 11, (some .boolean), false) 180 [(10, .int (nI 4)), (9, .int 1), (8, .int 1), (7, .int (nI up)), (6, .int (nI k)), (0, .ref (xob Y)), (1, .int z), (2, .ref (lwt L)), (3, .ref (lwg L)), (4, .ref (lwl L)), (5, .ref (lwq L))] [] s (fun v t => v = some (.int 1) ∧ ∃ D2 T2 LL2 fr2, T2 ≤ T + 0 ∧ dn D2 = dn D ∧ TI G D2 X Y W T2 LL2 fr2 LL' fr' L t ∧ Fo2 X Y (dn D) L s t) := by
  have hTt : zT s (lwt L) = (20, 64) := hTI.2.2.1 0 (by decide)
  have hTg : zT s (lwg L) = (20, 32) := hTI.2.2.1 3 (by decide)
  have hTl : zT s (lwl L) = (20, 48) := hTI.2.2.1 4 (by decide)
  have hTq : zT s (lwq L) = (20, 8) := hTI.2.2.1 7 (by decide)
  have hob : zT s (xob Y) = (10, 0) := hTI.2.2.2.2.2.2.1.zo
  have hi := hTI.2.2.2.2.1
  have hn := hTI.1.2.1
  have hd := hTI.2.2.2.1
  show Wp l G 38 0 0 (RL, cL_makes, 11, (some .boolean), false) 180 [(10, .int (nI 4)), (9, .int 1), (8, .int 1), (7, .int (nI up)), (6, .int (nI k)), (0, .ref (xob Y)), (1, .int z), (2, .ref (lwt L)), (3, .ref (lwg L)), (4, .ref (lwl L)), (5, .ref (lwq L))] [] s _
  refine zp_iload dL_makes_180 (x := (nI 4)) (List.mem_of_getElem? (i := 0) rfl) ?_
  refine zp_iconst dL_makes_182 (v := 4) (by decide) ?_
  refine zp_icmp_ge dL_makes_183 (tgt := 299) rfl (fun _ => ?_) (fun q => absurd (by decide) q)
  refine zp_iload dL_makes_299 (x := 1) (List.mem_of_getElem? (i := 1) rfl) ?_
  refine zp_zret rfl (Or.inr rfl) dL_makes_301 ?_
  exact ⟨rfl, D, T, LL, fr, Nat.le_refl _, rfl, hTI, fun _ _ => rfl⟩
theorem l_mk (l : Launch) {G : Gb} {X : Cx} {Y : Cy} {W : Int32} {LL' : Nat → List Nat} {fr' : List Nat} {L : Lw} {z : Int32} {k up : Nat} : ∀ (m w : Nat) (D : Dt) (T : Nat) (LL : Nat → List Nat) (fr : List Nat) (s : Sto), w + m = 4 → T + m ≤ 1000 → k < dn D → dtx D k = true → dwc D k = w → TI G D X Y W T LL fr LL' fr' L s → Wp l G 38 (48 * m) (288 * m) (RL, cL_makes, 11, (some .boolean), false) 180 [(10, .int (nI w)), (9, .int 1), (8, .int 1), (7, .int (nI up)), (6, .int (nI k)), (0, .ref (xob Y)), (1, .int z), (2, .ref (lwt L)), (3, .ref (lwg L)), (4, .ref (lwl L)), (5, .ref (lwq L))] [] s (fun v t => v = some (.int 1) ∧ ∃ D2 T2 LL2 fr2, T2 ≤ T + m ∧ dn D2 = dn D ∧ TI G D2 X Y W T2 LL2 fr2 LL' fr' L t ∧ Fo2 X Y (dn D) L s t)
  | 0, w, D, T, LL, fr, s, hm, hT, hk, ht, hw, hTI => by
    have hm : w = 4 := hm
    subst hm
    exact l_mkE l hTI
  | m + 1, w, D, T, LL, fr, s, hm, hT, hk, ht, hw, hTI => by
    refine l_mkW l hTI (by omega) hk ht hw (by omega) (fun t LL2 fr2 x2 hx2 h2 f2 => ?_)
    have hw2 : dwc (wdD D k (nI (1 + x2))) k = w + 1 := by rw [show dwc (wdD D k (nI (1 + x2))) k = dwc D k + 1 from swc_e, hw]
    refine Wp.mono (l_mk l m (w + 1) (wdD D k (nI (1 + x2))) (T + 1) LL2 fr2 t (by omega) (by omega) hk ht hw2 h2) (Nat.le_refl _) (Nat.le_refl _) (Nat.le_refl _) (fun v r q => ?_)
    obtain ⟨q1, D2, T2, LL3, fr3, q2, q3, q4, q5⟩ := q
    exact ⟨q1, D2, T2, LL3, fr3, by omega, q3, q4, fun a ha => (q5 a (by rw [f2 a ha]; exact ha)).trans (f2 a ha)⟩
theorem TI.add {G D X Y X2 Y2 W T LL fr LL' fr' LL2 fr2 LL3} {L : Lw} {σ s t : Sto} {up : Nat} {tx : Bool} {v : Int32} (h : TI G D X Y W T LL fr LL' fr' L σ) (hn : dn D < 12) (hup : up < dn D) (htu : dtx D up = false) (hv : 1 ≤ v.toInt) (hv2 : v.toInt ≤ 20) (hLI : LI (addD D up tx v) W L s) (hT : LT L s) (hq : zA s (lwq L) 7 = nI (Uw D (fun _ => false) (dn D))) (hZ : TZ (dn D + 1) L s) (hz : Rz G (addD D up tx v) X2 Y2 W (T + 1) LL2 fr2 LL3 fr' t)
    (f : ∀ a, (zT s a).1 ≠ 0 → zT t a = zT s a ∧ ((∀ t k, t < 4 → k < dn D → a ≠ arX X Y t k) → zA t a = zA s a ∧ ∀ t k, t < 4 → k < dn D + 1 → a ≠ arX X2 Y2 t k)) : TI G (addD D up tx v) X2 Y2 W (T + 1) LL2 fr2 LL3 fr' L t := by
  obtain ⟨a1, a2, a3, a4, a5, a6, a7, a8, a9, a10, a11⟩ := h
  have h0 := a1.1
  have ho : ∀ i, i < 9 → (zT s (arL L i)).1 ≠ 0 := fun i hi => by rw [hT i hi]; exact (by decide : (20 : Nat) ≠ 0)
  have hr : ∀ i, i < 9 → zA t (arL L i) = zA s (arL L i) := fun i hi => ((f _ (ho i hi)).2 (fun u k hu hk => a6 i hi u k hu hk)).1
  refine ⟨a1.add hn hup htu hv hv2, a2, fun i hi => ((f _ (ho i hi)).1).trans (hT i hi), a4, hLI.keep hr, fun i hi u k hu hk => ((f _ (ho i hi)).2 (fun u k hu hk => a6 i hi u k hu hk)).2 u k hu hk, hz, fun u hu => ?_, ?_, ?_, hZ.keep hr⟩
  · rw [show dst (addD D up tx v) 0 = dst D 0 from upd_o (by omega)]; exact a8 u hu
  · rw [show zA t (lwq L) = zA s (lwq L) from hr 7 (by decide), hq, Uw_add]
  · rw [Uw_add]; exact a10
set_option maxHeartbeats 8000000 in
theorem l_mkNB (l : Launch) {G : Gb} {D : Dt} {X : Cx} {Y : Cy} {W : Int32} {T : Nat} {LL : Nat → List Nat} {fr : List Nat} {LL' : Nat → List Nat} {fr' : List Nat} {L : Lw} {s : Sto} {z : Int32} (hTI : TI G D X Y W T LL fr LL' fr' L s) {up : Nat} (hTT : T + 5 ≤ 1000) (hn12 : dn D < 12) (hup : up < dn D) (htu : dtx D up = false) : Wp l G 38 331 2076 (RL, cL_makes, 11, (some .boolean), false) 54 [(7, .int (nI up)), (6, .int (nI (dn D))), (0, .ref (xob Y)), (1, .int z), (2, .ref (lwt L)), (3, .ref (lwg L)), (4, .ref (lwl L)), (5, .ref (lwq L))] [.int 0] s (fun v t => v = some (.int 1) ∧ ∃ D2 X2 Y2 T2 LL2 fr2 LL3, T2 ≤ T + 5 ∧ dn D2 = dn D + 1 ∧ xob Y2 = xob Y ∧ TI G D2 X2 Y2 W T2 LL2 fr2 LL3 fr' L t ∧ Fo2 X Y (dn D) L s t) := by
  have hTt : zT s (lwt L) = (20, 64) := hTI.2.2.1 0 (by decide)
  have hTg : zT s (lwg L) = (20, 32) := hTI.2.2.1 3 (by decide)
  have hTl : zT s (lwl L) = (20, 48) := hTI.2.2.1 4 (by decide)
  have hTq : zT s (lwq L) = (20, 8) := hTI.2.2.1 7 (by decide)
  have hob : zT s (xob Y) = (10, 0) := hTI.2.2.2.2.2.2.1.zo
  have hi := hTI.2.2.2.2.1
  have hn := hTI.1.2.1
  have hd := hTI.2.2.2.1
  have tq : lwt L ≠ lwq L := hd.ne 0 7 (by decide) (by decide) (by decide)
  have tg : lwt L ≠ lwg L := hd.ne 0 3 (by decide) (by decide) (by decide)
  have qg : lwq L ≠ lwg L := hd.ne 7 3 (by decide) (by decide) (by decide)
  have qt : lwq L ≠ lwt L := hd.ne 7 0 (by decide) (by decide) (by decide)
  show Wp l G 38 331 2076 (RL, cL_makes, 11, (some .boolean), false) 54 [(7, .int (nI up)), (6, .int (nI (dn D))), (0, .ref (xob Y)), (1, .int z), (2, .ref (lwt L)), (3, .ref (lwg L)), (4, .ref (lwl L)), (5, .ref (lwq L))] [.int 0] s _
  refine zp_istore dL_makes_54 (Nat.le_of_ble_eq_true rfl) (lv2 := [(8, .int 0), (7, .int (nI up)), (6, .int (nI (dn D))), (0, .ref (xob Y)), (1, .int z), (2, .ref (lwt L)), (3, .ref (lwg L)), (4, .ref (lwl L)), (5, .ref (lwq L))]) rfl ?_
  refine zp_aload_n dL_makes_56 rfl (a := (lwt L)) (List.mem_of_getElem? (i := 5) rfl) ?_
  refine zp_iload dL_makes_57 (x := (nI (dn D))) (List.mem_of_getElem? (i := 2) rfl) ?_
  refine zp_iload dL_makes_59 (x := (nI up)) (List.mem_of_getElem? (i := 1) rfl) ?_
  refine zp_iastore dL_makes_61 hTt (j := (dn D)) (nI_clamp (by omega)) (vp_in_nI (by omega) (by decide)) ?_
  skip
  refine zp_aload_n dL_makes_62 rfl (a := (lwt L)) (List.mem_of_getElem? (i := 5) rfl) ?_
  refine zp_bipush dL_makes_63 (v := 16) (by decide) ?_
  refine zp_iload dL_makes_65 (x := (nI (dn D))) (List.mem_of_getElem? (i := 2) rfl) ?_
  refine zp_iadd dL_makes_67 ?_
  rw [show ((16 + (nI (dn D))) : Int32) = (nI (16 + dn D)) from nI_add 16 (dn D)]
  refine zp_iload dL_makes_68 (x := 0) (List.mem_of_getElem? (i := 0) rfl) ?_
  refine zp_if_eq dL_makes_70 (tgt := 77) rfl (fun _ => ?_) (fun q => absurd (by decide) q)
  refine zp_iconst dL_makes_77 (v := 0) (by decide) ?_
  refine zp_iastore dL_makes_78 (tA hTt) (j := (16 + dn D)) (nI_clamp (by omega)) (vp_in_nI (by omega) (by decide)) ?_
  skip
  refine zp_aload_n dL_makes_79 rfl (a := (lwt L)) (List.mem_of_getElem? (i := 5) rfl) ?_
  refine zp_bipush dL_makes_80 (v := 32) (by decide) ?_
  refine zp_iload dL_makes_82 (x := (nI (dn D))) (List.mem_of_getElem? (i := 2) rfl) ?_
  refine zp_iadd dL_makes_84 ?_
  rw [show ((32 + (nI (dn D))) : Int32) = (nI (32 + dn D)) from nI_add 32 (dn D)]
  refine zp_iconst dL_makes_85 (v := 0) (by decide) ?_
  refine zp_iastore dL_makes_86 (tA (tA hTt)) (j := (32 + dn D)) (nI_clamp (by omega)) (vp_in_nI (by omega) (by decide)) ?_
  skip
  refine zp_aload_n dL_makes_87 rfl (a := (lwt L)) (List.mem_of_getElem? (i := 5) rfl) ?_
  refine zp_bipush dL_makes_88 (v := 48) (by decide) ?_
  refine zp_iload dL_makes_90 (x := (nI (dn D))) (List.mem_of_getElem? (i := 2) rfl) ?_
  refine zp_iadd dL_makes_92 ?_
  rw [show ((48 + (nI (dn D))) : Int32) = (nI (48 + dn D)) from nI_add 48 (dn D)]
  refine zp_iconst dL_makes_93 (v := 1) (by decide) ?_
  refine zp_iload_n dL_makes_94 rfl (x := z) (List.mem_of_getElem? (i := 4) rfl) ?_
  refine zp_bipush dL_makes_95 (v := 6) (by decide) ?_
  refine zp_ishr dL_makes_97 ?_
  refine zp_bipush dL_makes_98 (v := 20) (by decide) ?_
  refine zp_callS (st := [.int 1, .int (nI (48 + dn D)), .ref (lwt L)]) (mc2 := 331) (ms2 := 2076) dL_makes_100 (c_L_low l G _ 20 _ (by decide) (by decide)) cl_L_81 st_L_low rfl rfl (by omega) (by omega) (by omega) (Nat.le_of_ble_eq_true rfl) ?_
  rintro _ sx ⟨⟨x3, hx3, rfl⟩, hsx⟩; obtain rfl := hsx.symm
  refine zp_iadd dL_makes_103 ?_
  rw [show ((1 + (nI x3)) : Int32) = (nI (1 + x3)) from nI_add 1 x3]
  refine zp_iastore dL_makes_104 (tA (tA (tA hTt))) (j := (48 + dn D)) (nI_clamp (by omega)) (vp_in_nI (by omega) (by decide)) ?_
  skip
  refine zp_aload_n dL_makes_105 rfl (a := (lwg L)) (List.mem_of_getElem? (i := 6) rfl) ?_
  refine zp_iload dL_makes_106 (x := (nI (dn D))) (List.mem_of_getElem? (i := 2) rfl) ?_
  refine zp_iconst dL_makes_108 (v := (-1)) (by decide) ?_
  refine zp_iastore dL_makes_109 (tA (tA (tA (tA hTg)))) (j := (dn D)) (nI_clamp (by omega)) (vp_in_nI (by omega) (by decide)) ?_
  skip
  refine zp_aload_n dL_makes_110 rfl (a := (lwg L)) (List.mem_of_getElem? (i := 6) rfl) ?_
  refine zp_bipush dL_makes_111 (v := 16) (by decide) ?_
  refine zp_iload dL_makes_113 (x := (nI (dn D))) (List.mem_of_getElem? (i := 2) rfl) ?_
  refine zp_iadd dL_makes_115 ?_
  rw [show ((16 + (nI (dn D))) : Int32) = (nI (16 + dn D)) from nI_add 16 (dn D)]
  refine zp_iconst dL_makes_116 (v := (-1)) (by decide) ?_
  refine zp_iastore dL_makes_117 (tA (tA (tA (tA (tA hTg))))) (j := (16 + dn D)) (nI_clamp (by omega)) (vp_in_nI (by omega) (by decide)) ?_
  skip
  refine zp_aload dL_makes_118 (a := (lwq L)) (List.mem_of_getElem? (i := 8) rfl) ?_
  refine zp_iconst dL_makes_120 (v := 3) (by decide) ?_
  refine zp_dup2 dL_makes_121 rfl rfl ?_
  refine zp_iald_v dL_makes_122 (tA (tA (tA (tA (tA (tA hTq)))))) (Or.inl rfl) (j := 3) (by decide) (zin (by decide)) (v := (nI (dn D))) ((rAb qg).trans ((rAb qg).trans ((rAb qt).trans ((rAb qt).trans ((rAb qt).trans ((rAb qt).trans hi.2.1)))))) ?_
  refine zp_iconst dL_makes_123 (v := 1) (by decide) ?_
  refine zp_iadd dL_makes_124 ?_
  rw [show (((nI (dn D)) + 1) : Int32) = (nI (dn D + 1)) from nI_add (dn D) 1]
  refine zp_iastore dL_makes_125 (tA (tA (tA (tA (tA (tA hTq)))))) (j := 3) (by decide) (zin (by decide)) ?_
  refine zp_gen (fun r => LI (addD D up false (nI (1 + x3))) W L r ∧ LT L r ∧ Rz G D X Y W T LL fr LL' fr' r ∧ zA r (lwq L) 7 = nI (Uw D (fun _ => false) (dn D)) ∧ TZ (dn D + 1) L r ∧ zA r (lwt L) (48 + dn D) = nI (1 + x3) ∧ ∀ a, (zT s a).1 ≠ 0 → zT r a = zT s a) ⟨hi.add hd hn12 hTI.2.2.2.2.2.2.2.2.2.2 (by decide), hTI.2.2.1, (((((((hTI.2.2.2.2.2.2.1.wL hTI.2.2.1 hTI.2.2.2.2.2.1 0 (by decide) rfl).wL hTI.2.2.1 hTI.2.2.2.2.2.1 0 (by decide) rfl).wL hTI.2.2.1 hTI.2.2.2.2.2.1 0 (by decide) rfl).wL hTI.2.2.1 hTI.2.2.2.2.2.1 0 (by decide) rfl).wL hTI.2.2.1 hTI.2.2.2.2.2.1 3 (by decide) rfl).wL hTI.2.2.1 hTI.2.2.2.2.2.1 3 (by decide) rfl).wL hTI.2.2.1 hTI.2.2.2.2.2.1 7 (by decide) rfl), by rw [rAn (by decide), rAb qg, rAb qg, rAb qt, rAb qt, rAb qt, rAb qt]; exact hTI.2.2.2.2.2.2.2.2.1, ((((((((hTI.2.2.2.2.2.2.2.2.2.2.mono (Nat.le_succ _)).w (fun q => absurd q (hd.ne 0 1 (by decide) (by decide) (by decide))) (fun q => absurd q (hd.ne 0 2 (by decide) (by decide) (by decide)))).w (fun q => absurd q (hd.ne 0 1 (by decide) (by decide) (by decide))) (fun q => absurd q (hd.ne 0 2 (by decide) (by decide) (by decide)))).w (fun q => absurd q (hd.ne 0 1 (by decide) (by decide) (by decide))) (fun q => absurd q (hd.ne 0 2 (by decide) (by decide) (by decide)))).w (fun q => absurd q (hd.ne 0 1 (by decide) (by decide) (by decide))) (fun q => absurd q (hd.ne 0 2 (by decide) (by decide) (by decide)))).w (fun q => absurd q (hd.ne 3 1 (by decide) (by decide) (by decide))) (fun q => absurd q (hd.ne 3 2 (by decide) (by decide) (by decide)))).w (fun q => absurd q (hd.ne 3 1 (by decide) (by decide) (by decide))) (fun q => absurd q (hd.ne 3 2 (by decide) (by decide) (by decide)))).w (fun q => absurd q (hd.ne 7 1 (by decide) (by decide) (by decide))) (fun q => absurd q (hd.ne 7 2 (by decide) (by decide) (by decide)))), by rw [rAb tq, rAb tg, rAb tg, rAe], fun _ _ => rfl⟩ (fun s1 h1 => ?_)
  obtain ⟨h1i, h1T, h1z, h1q, h1Z, h1s, h1k⟩ := h1
  have h1o : zT s1 (xob Y) = (10, 0) := h1z.zo
  have h1Tt : zT s1 (lwt L) = (20, 64) := h1T 0 (by decide)
  have h1Tg : zT s1 (lwg L) = (20, 32) := h1T 3 (by decide)
  have h1Tl : zT s1 (lwl L) = (20, 48) := h1T 4 (by decide)
  have h1Tq : zT s1 (lwq L) = (20, 8) := h1T 7 (by decide)
  refine zp_iload dL_makes_126 (x := 0) (List.mem_of_getElem? (i := 0) rfl) ?_
  refine zp_if_eq dL_makes_128 (tgt := 153) rfl (fun _ => ?_) (fun q => absurd (by decide) q)
  refine zp_aload_n dL_makes_153 rfl (a := (xob Y)) (List.mem_of_getElem? (i := 3) rfl) ?_
  refine zp_iload dL_makes_154 (x := (nI up)) (List.mem_of_getElem? (i := 1) rfl) ?_
  refine zp_aload_n dL_makes_156 rfl (a := (xob Y)) (List.mem_of_getElem? (i := 3) rfl) ?_
  refine zp_iload dL_makes_157 (x := (nI up)) (List.mem_of_getElem? (i := 1) rfl) ?_
  refine zp_callV (c0 := 9) (st := [.int (nI up), .ref (xob Y)]) (mc2 := 331) (ms2 := 2076) dL_makes_159 (c_X12_children l G D X Y W T LL fr LL' fr' up s1 hTI.1 h1z hup htu) cl_L_84 im_X12_children se_X12_children rfl rfl h1o rfl rfl (by omega) (by omega) (by omega) (Nat.le_of_ble_eq_true rfl) ?_
  rintro _ sx ⟨rfl, hsx⟩; obtain rfl := hsx.symm
  refine zp_callV (c0 := 9) (st := []) (mc2 := 270) (ms2 := 1660) dL_makes_162 (c_X12_box l G D X Y W T LL fr LL' fr' up s1 hTI.1 h1z hup htu hn12 (by omega) (nI (1 + x3)) (hTI.1.add (tx := false) hn12 hup htu (by rw [nI_toInt (by omega)]; omega) (by rw [nI_toInt (by omega)]; omega)) (by have := hTI.2.1.1; omega) hTI.2.1.2) cl_L_90 im_X12_box se_X12_box rfl rfl h1o rfl rfl (by omega) (by omega) (by omega) (Nat.le_of_ble_eq_true rfl) ?_
  rintro _ s2 ⟨rfl, X2, Y2, LL2, fr2, LL3, z2, oe, f2⟩
  refine zp_iload dL_makes_165 (x := (nI (dn D))) (List.mem_of_getElem? (i := 2) rfl) ?_
  refine zp_icmp_ne dL_makes_167 (tgt := 174) rfl (fun q => absurd rfl q) (fun _ => ?_)
  refine zp_iconst dL_makes_170 (v := 1) (by decide) ?_
  refine zp_goto dL_makes_171 (tgt := 175) rfl ?_
  refine zp_istore dL_makes_175 (Nat.le_of_ble_eq_true rfl) (lv2 := [(9, .int 1), (8, .int 0), (7, .int (nI up)), (6, .int (nI (dn D))), (0, .ref (xob Y)), (1, .int z), (2, .ref (lwt L)), (3, .ref (lwg L)), (4, .ref (lwl L)), (5, .ref (lwq L))]) rfl ?_
  refine zp_iconst dL_makes_177 (v := 0) (by decide) ?_
  refine zp_istore dL_makes_178 (Nat.le_of_ble_eq_true rfl) (lv2 := [(10, .int 0), (9, .int 1), (8, .int 0), (7, .int (nI up)), (6, .int (nI (dn D))), (0, .ref (xob Y)), (1, .int z), (2, .ref (lwt L)), (3, .ref (lwg L)), (4, .ref (lwl L)), (5, .ref (lwq L))]) rfl ?_
  refine zp_iload dL_makes_180 (x := 0) (List.mem_of_getElem? (i := 0) rfl) ?_
  refine zp_iconst dL_makes_182 (v := 4) (by decide) ?_
  refine zp_icmp_ge dL_makes_183 (tgt := 299) rfl (fun h183 => ?_) (fun h183 => ?_)
  · skip
    refine zp_iload dL_makes_299 (x := 1) (List.mem_of_getElem? (i := 1) rfl) ?_
    refine zp_zret rfl (Or.inr rfl) dL_makes_301 ?_
    exact ⟨rfl, addD D up false (nI (1 + x3)), X2, Y2, T + 1, LL2, fr2, LL3, by omega, rfl, oe, hTI.add hn12 hup htu (by rw [nI_toInt (by omega)]; omega) (by rw [nI_toInt (by omega)]; omega) h1i h1T h1q h1Z z2 f2, (fun a ha => ((f2 a (by rw [h1k a ha]; exact ha)).1).trans (h1k a ha))⟩
  · skip
    refine zp_iload dL_makes_186 (x := 0) (List.mem_of_getElem? (i := 2) rfl) ?_
    refine zp_if_eq dL_makes_188 (tgt := 299) rfl (fun _ => ?_) (fun q => absurd (by decide) q)
    refine zp_iload dL_makes_299 (x := 1) (List.mem_of_getElem? (i := 1) rfl) ?_
    refine zp_zret rfl (Or.inr rfl) dL_makes_301 ?_
    exact ⟨rfl, addD D up false (nI (1 + x3)), X2, Y2, T + 1, LL2, fr2, LL3, by omega, rfl, oe, hTI.add hn12 hup htu (by rw [nI_toInt (by omega)]; omega) (by rw [nI_toInt (by omega)]; omega) h1i h1T h1q h1Z z2 f2, (fun a ha => ((f2 a (by rw [h1k a ha]; exact ha)).1).trans (h1k a ha))⟩
set_option maxHeartbeats 8000000 in
theorem l_mkNT (l : Launch) {G : Gb} {D : Dt} {X : Cx} {Y : Cy} {W : Int32} {T : Nat} {LL : Nat → List Nat} {fr : List Nat} {LL' : Nat → List Nat} {fr' : List Nat} {L : Lw} {s : Sto} {z : Int32} (hTI : TI G D X Y W T LL fr LL' fr' L s) {up : Nat} (hTT : T + 5 ≤ 1000) (hn12 : dn D < 12) (hup : up < dn D) (htu : dtx D up = false) : Wp l G 38 331 2076 (RL, cL_makes, 11, (some .boolean), false) 54 [(7, .int (nI up)), (6, .int (nI (dn D))), (0, .ref (xob Y)), (1, .int z), (2, .ref (lwt L)), (3, .ref (lwg L)), (4, .ref (lwl L)), (5, .ref (lwq L))] [.int 1] s (fun v t => v = some (.int 1) ∧ ∃ D2 X2 Y2 T2 LL2 fr2 LL3, T2 ≤ T + 5 ∧ dn D2 = dn D + 1 ∧ xob Y2 = xob Y ∧ TI G D2 X2 Y2 W T2 LL2 fr2 LL3 fr' L t ∧ Fo2 X Y (dn D) L s t) := by
  have hTt : zT s (lwt L) = (20, 64) := hTI.2.2.1 0 (by decide)
  have hTg : zT s (lwg L) = (20, 32) := hTI.2.2.1 3 (by decide)
  have hTl : zT s (lwl L) = (20, 48) := hTI.2.2.1 4 (by decide)
  have hTq : zT s (lwq L) = (20, 8) := hTI.2.2.1 7 (by decide)
  have hob : zT s (xob Y) = (10, 0) := hTI.2.2.2.2.2.2.1.zo
  have hi := hTI.2.2.2.2.1
  have hn := hTI.1.2.1
  have hd := hTI.2.2.2.1
  have tq : lwt L ≠ lwq L := hd.ne 0 7 (by decide) (by decide) (by decide)
  have tg : lwt L ≠ lwg L := hd.ne 0 3 (by decide) (by decide) (by decide)
  have qg : lwq L ≠ lwg L := hd.ne 7 3 (by decide) (by decide) (by decide)
  have qt : lwq L ≠ lwt L := hd.ne 7 0 (by decide) (by decide) (by decide)
  show Wp l G 38 331 2076 (RL, cL_makes, 11, (some .boolean), false) 54 [(7, .int (nI up)), (6, .int (nI (dn D))), (0, .ref (xob Y)), (1, .int z), (2, .ref (lwt L)), (3, .ref (lwg L)), (4, .ref (lwl L)), (5, .ref (lwq L))] [.int 1] s _
  refine zp_istore dL_makes_54 (Nat.le_of_ble_eq_true rfl) (lv2 := [(8, .int 1), (7, .int (nI up)), (6, .int (nI (dn D))), (0, .ref (xob Y)), (1, .int z), (2, .ref (lwt L)), (3, .ref (lwg L)), (4, .ref (lwl L)), (5, .ref (lwq L))]) rfl ?_
  refine zp_aload_n dL_makes_56 rfl (a := (lwt L)) (List.mem_of_getElem? (i := 5) rfl) ?_
  refine zp_iload dL_makes_57 (x := (nI (dn D))) (List.mem_of_getElem? (i := 2) rfl) ?_
  refine zp_iload dL_makes_59 (x := (nI up)) (List.mem_of_getElem? (i := 1) rfl) ?_
  refine zp_iastore dL_makes_61 hTt (j := (dn D)) (nI_clamp (by omega)) (vp_in_nI (by omega) (by decide)) ?_
  skip
  refine zp_aload_n dL_makes_62 rfl (a := (lwt L)) (List.mem_of_getElem? (i := 5) rfl) ?_
  refine zp_bipush dL_makes_63 (v := 16) (by decide) ?_
  refine zp_iload dL_makes_65 (x := (nI (dn D))) (List.mem_of_getElem? (i := 2) rfl) ?_
  refine zp_iadd dL_makes_67 ?_
  rw [show ((16 + (nI (dn D))) : Int32) = (nI (16 + dn D)) from nI_add 16 (dn D)]
  refine zp_iload dL_makes_68 (x := 1) (List.mem_of_getElem? (i := 0) rfl) ?_
  refine zp_if_eq dL_makes_70 (tgt := 77) rfl (fun q => absurd q (by decide)) (fun _ => ?_)
  refine zp_iconst dL_makes_73 (v := 1) (by decide) ?_
  refine zp_goto dL_makes_74 (tgt := 78) rfl ?_
  refine zp_iastore dL_makes_78 (tA hTt) (j := (16 + dn D)) (nI_clamp (by omega)) (vp_in_nI (by omega) (by decide)) ?_
  skip
  refine zp_aload_n dL_makes_79 rfl (a := (lwt L)) (List.mem_of_getElem? (i := 5) rfl) ?_
  refine zp_bipush dL_makes_80 (v := 32) (by decide) ?_
  refine zp_iload dL_makes_82 (x := (nI (dn D))) (List.mem_of_getElem? (i := 2) rfl) ?_
  refine zp_iadd dL_makes_84 ?_
  rw [show ((32 + (nI (dn D))) : Int32) = (nI (32 + dn D)) from nI_add 32 (dn D)]
  refine zp_iconst dL_makes_85 (v := 0) (by decide) ?_
  refine zp_iastore dL_makes_86 (tA (tA hTt)) (j := (32 + dn D)) (nI_clamp (by omega)) (vp_in_nI (by omega) (by decide)) ?_
  skip
  refine zp_aload_n dL_makes_87 rfl (a := (lwt L)) (List.mem_of_getElem? (i := 5) rfl) ?_
  refine zp_bipush dL_makes_88 (v := 48) (by decide) ?_
  refine zp_iload dL_makes_90 (x := (nI (dn D))) (List.mem_of_getElem? (i := 2) rfl) ?_
  refine zp_iadd dL_makes_92 ?_
  rw [show ((48 + (nI (dn D))) : Int32) = (nI (48 + dn D)) from nI_add 48 (dn D)]
  refine zp_iconst dL_makes_93 (v := 1) (by decide) ?_
  refine zp_iload_n dL_makes_94 rfl (x := z) (List.mem_of_getElem? (i := 4) rfl) ?_
  refine zp_bipush dL_makes_95 (v := 6) (by decide) ?_
  refine zp_ishr dL_makes_97 ?_
  refine zp_bipush dL_makes_98 (v := 20) (by decide) ?_
  refine zp_callS (st := [.int 1, .int (nI (48 + dn D)), .ref (lwt L)]) (mc2 := 331) (ms2 := 2076) dL_makes_100 (c_L_low l G _ 20 _ (by decide) (by decide)) cl_L_81 st_L_low rfl rfl (by omega) (by omega) (by omega) (Nat.le_of_ble_eq_true rfl) ?_
  rintro _ sx ⟨⟨x3, hx3, rfl⟩, hsx⟩; obtain rfl := hsx.symm
  refine zp_iadd dL_makes_103 ?_
  rw [show ((1 + (nI x3)) : Int32) = (nI (1 + x3)) from nI_add 1 x3]
  refine zp_iastore dL_makes_104 (tA (tA (tA hTt))) (j := (48 + dn D)) (nI_clamp (by omega)) (vp_in_nI (by omega) (by decide)) ?_
  skip
  refine zp_aload_n dL_makes_105 rfl (a := (lwg L)) (List.mem_of_getElem? (i := 6) rfl) ?_
  refine zp_iload dL_makes_106 (x := (nI (dn D))) (List.mem_of_getElem? (i := 2) rfl) ?_
  refine zp_iconst dL_makes_108 (v := (-1)) (by decide) ?_
  refine zp_iastore dL_makes_109 (tA (tA (tA (tA hTg)))) (j := (dn D)) (nI_clamp (by omega)) (vp_in_nI (by omega) (by decide)) ?_
  skip
  refine zp_aload_n dL_makes_110 rfl (a := (lwg L)) (List.mem_of_getElem? (i := 6) rfl) ?_
  refine zp_bipush dL_makes_111 (v := 16) (by decide) ?_
  refine zp_iload dL_makes_113 (x := (nI (dn D))) (List.mem_of_getElem? (i := 2) rfl) ?_
  refine zp_iadd dL_makes_115 ?_
  rw [show ((16 + (nI (dn D))) : Int32) = (nI (16 + dn D)) from nI_add 16 (dn D)]
  refine zp_iconst dL_makes_116 (v := (-1)) (by decide) ?_
  refine zp_iastore dL_makes_117 (tA (tA (tA (tA (tA hTg))))) (j := (16 + dn D)) (nI_clamp (by omega)) (vp_in_nI (by omega) (by decide)) ?_
  skip
  refine zp_aload dL_makes_118 (a := (lwq L)) (List.mem_of_getElem? (i := 8) rfl) ?_
  refine zp_iconst dL_makes_120 (v := 3) (by decide) ?_
  refine zp_dup2 dL_makes_121 rfl rfl ?_
  refine zp_iald_v dL_makes_122 (tA (tA (tA (tA (tA (tA hTq)))))) (Or.inl rfl) (j := 3) (by decide) (zin (by decide)) (v := (nI (dn D))) ((rAb qg).trans ((rAb qg).trans ((rAb qt).trans ((rAb qt).trans ((rAb qt).trans ((rAb qt).trans hi.2.1)))))) ?_
  refine zp_iconst dL_makes_123 (v := 1) (by decide) ?_
  refine zp_iadd dL_makes_124 ?_
  rw [show (((nI (dn D)) + 1) : Int32) = (nI (dn D + 1)) from nI_add (dn D) 1]
  refine zp_iastore dL_makes_125 (tA (tA (tA (tA (tA (tA hTq)))))) (j := 3) (by decide) (zin (by decide)) ?_
  refine zp_gen (fun r => LI (addD D up true (nI (1 + x3))) W L r ∧ LT L r ∧ Rz G D X Y W T LL fr LL' fr' r ∧ zA r (lwq L) 7 = nI (Uw D (fun _ => false) (dn D)) ∧ TZ (dn D + 1) L r ∧ zA r (lwt L) (48 + dn D) = nI (1 + x3) ∧ ∀ a, (zT s a).1 ≠ 0 → zT r a = zT s a) ⟨hi.add hd hn12 hTI.2.2.2.2.2.2.2.2.2.2 (by decide), hTI.2.2.1, (((((((hTI.2.2.2.2.2.2.1.wL hTI.2.2.1 hTI.2.2.2.2.2.1 0 (by decide) rfl).wL hTI.2.2.1 hTI.2.2.2.2.2.1 0 (by decide) rfl).wL hTI.2.2.1 hTI.2.2.2.2.2.1 0 (by decide) rfl).wL hTI.2.2.1 hTI.2.2.2.2.2.1 0 (by decide) rfl).wL hTI.2.2.1 hTI.2.2.2.2.2.1 3 (by decide) rfl).wL hTI.2.2.1 hTI.2.2.2.2.2.1 3 (by decide) rfl).wL hTI.2.2.1 hTI.2.2.2.2.2.1 7 (by decide) rfl), by rw [rAn (by decide), rAb qg, rAb qg, rAb qt, rAb qt, rAb qt, rAb qt]; exact hTI.2.2.2.2.2.2.2.2.1, ((((((((hTI.2.2.2.2.2.2.2.2.2.2.mono (Nat.le_succ _)).w (fun q => absurd q (hd.ne 0 1 (by decide) (by decide) (by decide))) (fun q => absurd q (hd.ne 0 2 (by decide) (by decide) (by decide)))).w (fun q => absurd q (hd.ne 0 1 (by decide) (by decide) (by decide))) (fun q => absurd q (hd.ne 0 2 (by decide) (by decide) (by decide)))).w (fun q => absurd q (hd.ne 0 1 (by decide) (by decide) (by decide))) (fun q => absurd q (hd.ne 0 2 (by decide) (by decide) (by decide)))).w (fun q => absurd q (hd.ne 0 1 (by decide) (by decide) (by decide))) (fun q => absurd q (hd.ne 0 2 (by decide) (by decide) (by decide)))).w (fun q => absurd q (hd.ne 3 1 (by decide) (by decide) (by decide))) (fun q => absurd q (hd.ne 3 2 (by decide) (by decide) (by decide)))).w (fun q => absurd q (hd.ne 3 1 (by decide) (by decide) (by decide))) (fun q => absurd q (hd.ne 3 2 (by decide) (by decide) (by decide)))).w (fun q => absurd q (hd.ne 7 1 (by decide) (by decide) (by decide))) (fun q => absurd q (hd.ne 7 2 (by decide) (by decide) (by decide)))), by rw [rAb tq, rAb tg, rAb tg, rAe], fun _ _ => rfl⟩ (fun s1 h1 => ?_)
  obtain ⟨h1i, h1T, h1z, h1q, h1Z, h1s, h1k⟩ := h1
  have h1o : zT s1 (xob Y) = (10, 0) := h1z.zo
  have h1Tt : zT s1 (lwt L) = (20, 64) := h1T 0 (by decide)
  have h1Tg : zT s1 (lwg L) = (20, 32) := h1T 3 (by decide)
  have h1Tl : zT s1 (lwl L) = (20, 48) := h1T 4 (by decide)
  have h1Tq : zT s1 (lwq L) = (20, 8) := h1T 7 (by decide)
  refine zp_iload dL_makes_126 (x := 1) (List.mem_of_getElem? (i := 0) rfl) ?_
  refine zp_if_eq dL_makes_128 (tgt := 153) rfl (fun q => absurd q (by decide)) (fun _ => ?_)
  refine zp_aload_n dL_makes_131 rfl (a := (xob Y)) (List.mem_of_getElem? (i := 3) rfl) ?_
  refine zp_iload dL_makes_132 (x := (nI up)) (List.mem_of_getElem? (i := 1) rfl) ?_
  refine zp_aload_n dL_makes_134 rfl (a := (xob Y)) (List.mem_of_getElem? (i := 3) rfl) ?_
  refine zp_iload dL_makes_135 (x := (nI up)) (List.mem_of_getElem? (i := 1) rfl) ?_
  refine zp_callV (c0 := 9) (st := [.int (nI up), .ref (xob Y)]) (mc2 := 331) (ms2 := 2076) dL_makes_137 (c_X12_children l G D X Y W T LL fr LL' fr' up s1 hTI.1 h1z hup htu) cl_L_84 im_X12_children se_X12_children rfl rfl h1o rfl rfl (by omega) (by omega) (by omega) (Nat.le_of_ble_eq_true rfl) ?_
  rintro _ sx ⟨rfl, hsx⟩; obtain rfl := hsx.symm
  refine zp_aload_n dL_makes_140 rfl (a := (lwt L)) (List.mem_of_getElem? (i := 5) rfl) ?_
  refine zp_bipush dL_makes_141 (v := 48) (by decide) ?_
  refine zp_iload dL_makes_143 (x := (nI (dn D))) (List.mem_of_getElem? (i := 2) rfl) ?_
  refine zp_iadd dL_makes_145 ?_
  rw [show ((48 + (nI (dn D))) : Int32) = (nI (48 + dn D)) from nI_add 48 (dn D)]
  refine zp_iald_v dL_makes_146 h1Tt (Or.inl rfl) (j := (48 + dn D)) (nI_clamp (by omega)) (vp_in_nI (by omega) (by decide)) (v := (nI (1 + x3))) h1s ?_
  refine zp_callV (c0 := 9) (st := []) (mc2 := 192) (ms2 := 1152) dL_makes_147 (c_X12_text l G D X Y W T LL fr LL' fr' up s1 hTI.1 h1z hup htu hn12 (by omega) (nI (1 + x3)) (hTI.1.add (tx := true) hn12 hup htu (by rw [nI_toInt (by omega)]; omega) (by rw [nI_toInt (by omega)]; omega)) (by have := hTI.2.1.1; omega) hTI.2.1.2 (Int32.lt_iff_toInt_lt.mpr (by rw [nI_toInt (by omega), show (0 : Int32).toInt = 0 from rfl]; omega)) (Int32.le_iff_toInt_le.mpr (by rw [nI_toInt (by omega), show (20 : Int32).toInt = 20 from rfl]; omega))) cl_L_87 im_X12_text se_X12_text rfl rfl h1o rfl rfl (by omega) (by omega) (by omega) (Nat.le_of_ble_eq_true rfl) ?_
  rintro _ s2 ⟨rfl, X2, Y2, LL2, fr2, LL3, z2, oe, f2⟩
  refine zp_goto dL_makes_150 (tgt := 165) rfl ?_
  refine zp_iload dL_makes_165 (x := (nI (dn D))) (List.mem_of_getElem? (i := 2) rfl) ?_
  refine zp_icmp_ne dL_makes_167 (tgt := 174) rfl (fun q => absurd rfl q) (fun _ => ?_)
  refine zp_iconst dL_makes_170 (v := 1) (by decide) ?_
  refine zp_goto dL_makes_171 (tgt := 175) rfl ?_
  refine zp_istore dL_makes_175 (Nat.le_of_ble_eq_true rfl) (lv2 := [(9, .int 1), (8, .int 1), (7, .int (nI up)), (6, .int (nI (dn D))), (0, .ref (xob Y)), (1, .int z), (2, .ref (lwt L)), (3, .ref (lwg L)), (4, .ref (lwl L)), (5, .ref (lwq L))]) rfl ?_
  refine zp_iconst dL_makes_177 (v := 0) (by decide) ?_
  refine zp_istore dL_makes_178 (Nat.le_of_ble_eq_true rfl) (lv2 := [(10, .int 0), (9, .int 1), (8, .int 1), (7, .int (nI up)), (6, .int (nI (dn D))), (0, .ref (xob Y)), (1, .int z), (2, .ref (lwt L)), (3, .ref (lwg L)), (4, .ref (lwl L)), (5, .ref (lwq L))]) rfl ?_
  refine zp_lv [0, 1, 2, 3, 4, 5, 6, 7, 8, 9, 10] rfl ?_
  rw [← oe]
  refine Wp.mono (l_mk l (k := dn D) 4 0 (addD D up true (nI (1 + x3))) (T + 1) LL2 fr2 s2 (by decide) (by omega) (Nat.lt_succ_self _) upd_n upd_n (hTI.add hn12 hup htu (by rw [nI_toInt (by omega)]; omega) (by rw [nI_toInt (by omega)]; omega) h1i h1T h1q h1Z z2 f2)) (Nat.le_refl _) (Nat.le_refl _) (Nat.le_refl _) (fun v r q => ?_)
  obtain ⟨q1, D2, T2, LL4, fr4, q2, q3, q4, q5⟩ := q
  exact ⟨q1, D2, X2, Y2, T2, LL4, fr4, LL3, by omega, q3, rfl, q4, fun a ha => (q5 a (by rw [(fun a ha => ((f2 a (by rw [h1k a ha]; exact ha)).1).trans (h1k a ha)) a ha]; exact ha)).trans ((fun a ha => ((f2 a (by rw [h1k a ha]; exact ha)).1).trans (h1k a ha)) a ha)⟩
theorem l_mk31 (l : Launch) {G : Gb} {D : Dt} {X : Cx} {Y : Cy} {W : Int32} {T : Nat} {LL : Nat → List Nat} {fr : List Nat} {LL' : Nat → List Nat} {fr' : List Nat} {L : Lw} {s : Sto} {z : Int32} (hTI : TI G D X Y W T LL fr LL' fr' L s) {up : Nat} (hTT : T + 5 ≤ 1000) (hn12 : dn D < 12) (hup : up < dn D) (htu : dtx D up = false) : Wp l G 38 331 2076 (RL, cL_makes, 11, (some .boolean), false) 31 [(6, .int (nI (dn D))), (0, .ref (xob Y)), (1, .int z), (2, .ref (lwt L)), (3, .ref (lwg L)), (4, .ref (lwl L)), (5, .ref (lwq L))] [.int (nI up)] s (fun v t => v = some (.int 1) ∧ ∃ D2 X2 Y2 T2 LL2 fr2 LL3, T2 ≤ T + 5 ∧ dn D2 = dn D + 1 ∧ xob Y2 = xob Y ∧ TI G D2 X2 Y2 W T2 LL2 fr2 LL3 fr' L t ∧ Fo2 X Y (dn D) L s t) := by
  have hTt : zT s (lwt L) = (20, 64) := hTI.2.2.1 0 (by decide)
  have hTg : zT s (lwg L) = (20, 32) := hTI.2.2.1 3 (by decide)
  have hTl : zT s (lwl L) = (20, 48) := hTI.2.2.1 4 (by decide)
  have hTq : zT s (lwq L) = (20, 8) := hTI.2.2.1 7 (by decide)
  have hob : zT s (xob Y) = (10, 0) := hTI.2.2.2.2.2.2.1.zo
  have hi := hTI.2.2.2.2.1
  have hn := hTI.1.2.1
  have hd := hTI.2.2.2.1
  show Wp l G 38 331 2076 (RL, cL_makes, 11, (some .boolean), false) 31 [(6, .int (nI (dn D))), (0, .ref (xob Y)), (1, .int z), (2, .ref (lwt L)), (3, .ref (lwg L)), (4, .ref (lwl L)), (5, .ref (lwq L))] [.int (nI up)] s _
  refine zp_istore dL_makes_31 (Nat.le_of_ble_eq_true rfl) (lv2 := [(7, .int (nI up)), (6, .int (nI (dn D))), (0, .ref (xob Y)), (1, .int z), (2, .ref (lwt L)), (3, .ref (lwg L)), (4, .ref (lwl L)), (5, .ref (lwq L))]) rfl ?_
  refine zp_iload dL_makes_33 (x := (nI (dn D))) (List.mem_of_getElem? (i := 1) rfl) ?_
  refine zp_iconst dL_makes_35 (v := 1) (by decide) ?_
  refine zp_icmp_le dL_makes_36 (tgt := 53) rfl (fun h36 => ?_) (fun h36 => ?_)
  · skip
    refine zp_iconst dL_makes_53 (v := 0) (by decide) ?_
    refine zp_lv [0, 1, 2, 3, 4, 5, 6, 7] rfl ?_
    exact l_mkNB l hTI hTT hn12 hup htu
  · skip
    refine zp_iload_n dL_makes_39 rfl (x := z) (List.mem_of_getElem? (i := 3) rfl) ?_
    refine zp_iconst dL_makes_40 (v := 4) (by decide) ?_
    refine zp_ishr dL_makes_41 ?_
    refine zp_iconst dL_makes_42 (v := 3) (by decide) ?_
    refine zp_callS (st := []) (mc2 := 331) (ms2 := 2076) dL_makes_43 (c_L_low l G _ 3 _ (by decide) (by decide)) cl_L_81 st_L_low rfl rfl (by omega) (by omega) (by omega) (Nat.le_of_ble_eq_true rfl) ?_
    rintro _ sx ⟨⟨x1, hx1, rfl⟩, hsx⟩; obtain rfl := hsx.symm
    refine zp_if_ne dL_makes_46 (tgt := 53) rfl (fun h46 => ?_) (fun h46 => ?_)
    · skip
      refine zp_iconst dL_makes_53 (v := 0) (by decide) ?_
      refine zp_lv [0, 1, 2, 3, 4, 5, 6, 7] rfl ?_
      exact l_mkNB l hTI hTT hn12 hup htu
    · skip
      refine zp_iconst dL_makes_49 (v := 1) (by decide) ?_
      refine zp_goto dL_makes_50 (tgt := 54) rfl ?_
      refine zp_lv [0, 1, 2, 3, 4, 5, 6, 7] rfl ?_
      exact l_mkNT l hTI hTT hn12 hup htu
set_option maxHeartbeats 8000000 in
theorem c_L_makes (l : Launch) (G : Gb) (D : Dt) (X : Cx) (Y : Cy) (W : Int32) (T : Nat) (LL : Nat → List Nat) (fr : List Nat) (LL' : Nat → List Nat) (fr' : List Nat) (L : Lw) (s : Sto) (z : Int32) (hTI : TI G D X Y W T LL fr LL' fr' L s) (hTT : T + 5 ≤ 1000) (hn12 : dn D < 12) : Ct l G 38 331 2076 yL_makes mL_makes [.ref (xob Y), .int z, .ref (lwt L), .ref (lwg L), .ref (lwl L), .ref (lwq L)] s (fun v t => v = some (.int 1) ∧ ∃ D2 X2 Y2 T2 LL2 fr2 LL3, T2 ≤ T + 5 ∧ dn D2 = dn D + 1 ∧ xob Y2 = xob Y ∧ TI G D2 X2 Y2 W T2 LL2 fr2 LL3 fr' L t ∧ Fo2 X Y (dn D) L s t) := by
  have hTt : zT s (lwt L) = (20, 64) := hTI.2.2.1 0 (by decide)
  have hTg : zT s (lwg L) = (20, 32) := hTI.2.2.1 3 (by decide)
  have hTl : zT s (lwl L) = (20, 48) := hTI.2.2.1 4 (by decide)
  have hTq : zT s (lwq L) = (20, 8) := hTI.2.2.1 7 (by decide)
  have hob : zT s (xob Y) = (10, 0) := hTI.2.2.2.2.2.2.1.zo
  have hi := hTI.2.2.2.2.1
  have hn := hTI.1.2.1
  have hd := hTI.2.2.2.1
  refine Ct.of (by decide) rfl (Nat.le_of_ble_eq_true rfl) (fun h => absurd h (by decide)) ?_
  show Wp l G 38 331 2076 (RL, cL_makes, 11, (some .boolean), false) 0 [(0, .ref (xob Y)), (1, .int z), (2, .ref (lwt L)), (3, .ref (lwg L)), (4, .ref (lwl L)), (5, .ref (lwq L))] [] s _
  refine zp_aload dL_makes_0 (a := (lwq L)) (List.mem_of_getElem? (i := 5) rfl) ?_
  refine zp_iconst dL_makes_2 (v := 3) (by decide) ?_
  refine zp_iald_v dL_makes_3 hTq (Or.inl rfl) (j := 3) (by decide) (zin (by decide)) (v := (nI (dn D))) hi.2.1 ?_
  refine zp_istore dL_makes_4 (Nat.le_of_ble_eq_true rfl) (lv2 := [(6, .int (nI (dn D))), (0, .ref (xob Y)), (1, .int z), (2, .ref (lwt L)), (3, .ref (lwg L)), (4, .ref (lwl L)), (5, .ref (lwq L))]) rfl ?_
  refine zp_iload_n dL_makes_6 rfl (x := z) (List.mem_of_getElem? (i := 2) rfl) ?_
  refine zp_iload dL_makes_7 (x := (nI (dn D))) (List.mem_of_getElem? (i := 0) rfl) ?_
  refine zp_callS (st := []) (mc2 := 331) (ms2 := 2076) dL_makes_9 (c_L_low l G _ (dn D) _ (by have := hTI.1.1; omega) (by omega)) cl_L_81 st_L_low rfl rfl (by omega) (by omega) (by omega) (Nat.le_of_ble_eq_true rfl) ?_
  rintro _ sx ⟨⟨u, hu, rfl⟩, hsx⟩; obtain rfl := hsx.symm
  refine zp_istore dL_makes_12 (Nat.le_of_ble_eq_true rfl) (lv2 := [(7, .int (nI u)), (6, .int (nI (dn D))), (0, .ref (xob Y)), (1, .int z), (2, .ref (lwt L)), (3, .ref (lwg L)), (4, .ref (lwl L)), (5, .ref (lwq L))]) rfl ?_
  refine zp_aload_n dL_makes_14 rfl (a := (lwt L)) (List.mem_of_getElem? (i := 4) rfl) ?_
  refine zp_bipush dL_makes_15 (v := 16) (by decide) ?_
  refine zp_iload dL_makes_17 (x := (nI u)) (List.mem_of_getElem? (i := 0) rfl) ?_
  refine zp_iadd dL_makes_19 ?_
  rw [show ((16 + (nI u)) : Int32) = (nI (16 + u)) from nI_add 16 u]
  refine zp_iald_v dL_makes_20 hTt (Or.inl rfl) (j := (16 + u)) (nI_clamp (by omega)) (vp_in_nI (by omega) (by decide)) (v := (zb (dtx D u = true))) (hi.1 u hu).2.1 ?_
  refine zp_iconst dL_makes_21 (v := 1) (by decide) ?_
  refine zp_icmp_ne dL_makes_22 (tgt := 29) rfl (fun h22 => ?_) (fun h22 => ?_)
  · have htu : dtx D u = false := by cases e : dtx D u; rfl; exact absurd (zb_t e) h22
    refine zp_iload dL_makes_29 (x := (nI u)) (List.mem_of_getElem? (i := 0) rfl) ?_
    refine zp_lv [1, 2, 3, 4, 5, 6, 7] rfl ?_
    exact l_mk31 l hTI (up := u) hTT hn12 hu htu
  · skip
    refine zp_iconst dL_makes_25 (v := 0) (by decide) ?_
    refine zp_goto dL_makes_26 (tgt := 31) rfl ?_
    refine zp_lv [1, 2, 3, 4, 5, 6, 7] rfl ?_
    exact l_mk31 l hTI (up := 0) hTT hn12 hTI.1.1 hTI.1.2.2.2.1

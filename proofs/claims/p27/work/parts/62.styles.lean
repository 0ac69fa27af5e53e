/-! THE LAW: styles (by wip/p27/gen_styles.py) -/
theorem sb_m {t x : Nat} (hx : x < 31) (ht : 6 ≤ t ∧ t ≤ 9) : sb t (nI x - 0) := by
  unfold sb
  rw [if_neg (by omega), if_neg (by omega), if_pos (by omega), Int32.sub_zero, nI_toInt (by omega)]
  omega
theorem sb_m15 {t x : Nat} (hx : x < 31) (ht : 6 ≤ t ∧ t ≤ 9) : sb t (nI x - 15) := by
  unfold sb
  rw [if_neg (by omega), if_neg (by omega), if_pos (by omega), Jvm.Kit.i32_sub (by rw [nI_toInt (by omega), show (15 : Int32).toInt = 15 from rfl]; omega) (by rw [nI_toInt (by omega), show (15 : Int32).toInt = 15 from rfl]; omega), nI_toInt (by omega), show (15 : Int32).toInt = 15 from rfl]
  omega
theorem sb_e {t x : Nat} (hx : x < 9) (ht : 10 ≤ t) : sb t (nI x) := by
  unfold sb
  rw [if_neg (by omega), if_neg (by omega), if_neg (by omega), nI_toInt (by omega)]
  omega
theorem sb_e0 {t : Nat} (ht : 10 ≤ t) : sb t 0 := by
  unfold sb
  rw [if_neg (by omega), if_neg (by omega), if_neg (by omega)]
  decide
/-- of a turn's change: what was there stays, but for the class's rows and the law's -/
def Fo2 (X : Cx) (Y : Cy) (n : Nat) (L : Lw) (σ s : Sto) : Prop := ∀ a, (zT σ a).1 ≠ 0 → zT s a = zT σ a
theorem nI_sub {j k : Nat} (h : k ≤ j) (hj : j < 1000) : nI j - nI k = nI (j - k) := by
  apply Int32.toInt_inj.mp
  rw [Jvm.Kit.i32_sub (by rw [nI_toInt (by omega), nI_toInt (by omega)]; omega) (by rw [nI_toInt (by omega), nI_toInt (by omega)]; omega), nI_toInt (by omega), nI_toInt (by omega), nI_toInt (by omega)]
  omega
theorem zb_1t {p : Prop} [Decidable p] (h : zb p = 1) : p := by
  by_cases q : p
  · exact q
  · rw [zb_f q] at h; exact absurd h (by decide)
set_option maxHeartbeats 8000000 in
theorem l_styV0 (l : Launch) {G : Gb} {D : Dt} {X : Cx} {Y : Cy} {W : Int32} {T : Nat} {LL : Nat → List Nat} {fr : List Nat} {LL' : Nat → List Nat} {fr' : List Nat} {L : Lw} {s : Sto} {z : Int32} (hTI : TI G D X Y W T LL fr LL' fr' L s) (hTT : T < 1000) {k : Nat} (hk0 : 0 < k) (hk : k < dn D) (ht : dtx D k = false) {v : Int32} (hv : sb 4 v) : Wp l G 38 48 288 (RL, cL_styles, 11, (some .boolean), false) 169 [(8, .int 0), (7, .int (nI k)), (0, .ref (xob Y)), (1, .int z), (2, .ref (lwt L)), (3, .ref (lwm L)), (4, .ref (lwe L)), (5, .ref (lwg L)), (6, .ref (lwq L))] [.int v] s (fun v t => v = some (.int 1) ∧ ∃ D2 T2 LL2 fr2, T2 ≤ T + 1 ∧ dn D2 = dn D ∧ TI G D2 X Y W T2 LL2 fr2 LL' fr' L t ∧ Fo2 X Y (dn D) L s t) := by
  have h1W := hTI.2.1.1
  have hTt : zT s (lwt L) = (20, 64) := hTI.2.2.1 0 (by decide)
  have hTm : zT s (lwm L) = (20, 48) := hTI.2.2.1 1 (by decide)
  have hTe : zT s (lwe L) = (20, 48) := hTI.2.2.1 2 (by decide)
  have hTg : zT s (lwg L) = (20, 32) := hTI.2.2.1 3 (by decide)
  have hTq : zT s (lwq L) = (20, 8) := hTI.2.2.1 7 (by decide)
  have hob : zT s (xob Y) = (10, 0) := hTI.2.2.2.2.2.2.1.zo
  have hi := hTI.2.2.2.2.1
  have hn := hTI.1.2.1
  show Wp l G 38 48 288 (RL, cL_styles, 11, (some .boolean), false) 169 [(8, .int 0), (7, .int (nI k)), (0, .ref (xob Y)), (1, .int z), (2, .ref (lwt L)), (3, .ref (lwm L)), (4, .ref (lwe L)), (5, .ref (lwg L)), (6, .ref (lwq L))] [.int v] s _
  refine zp_istore dL_styles_169 (Nat.le_of_ble_eq_true rfl) (lv2 := [(9, .int v), (8, .int 0), (7, .int (nI k)), (0, .ref (xob Y)), (1, .int z), (2, .ref (lwt L)), (3, .ref (lwm L)), (4, .ref (lwe L)), (5, .ref (lwg L)), (6, .ref (lwq L))]) rfl ?_
  refine zp_iload dL_styles_171 (x := 0) (List.mem_of_getElem? (i := 1) rfl) ?_
  refine zp_if_ne dL_styles_173 (tgt := 184) rfl (fun q => absurd (by decide) q) (fun _ => ?_)
  refine zp_aload dL_styles_176 (a := (lwg L)) (List.mem_of_getElem? (i := 8) rfl) ?_
  refine zp_iload dL_styles_178 (x := (nI k)) (List.mem_of_getElem? (i := 2) rfl) ?_
  refine zp_iald_v dL_styles_180 hTg (Or.inl rfl) (j := (k)) (nI_clamp (by omega)) (vp_in_nI (by omega) (by decide)) (v := (dst D k 4)) (hi.1 k hk).2.2.2.2.1 ?_
  refine zp_goto dL_styles_181 (tgt := 235) rfl ?_
  refine zp_istore dL_styles_235 (Nat.le_of_ble_eq_true rfl) (lv2 := [(10, .int (dst D k 4)), (9, .int v), (8, .int 0), (7, .int (nI k)), (0, .ref (xob Y)), (1, .int z), (2, .ref (lwt L)), (3, .ref (lwm L)), (4, .ref (lwe L)), (5, .ref (lwg L)), (6, .ref (lwq L))]) rfl ?_
  refine zp_aload dL_styles_237 (a := (lwg L)) (List.mem_of_getElem? (i := 9) rfl) ?_
  refine zp_iload dL_styles_239 (x := 0) (List.mem_of_getElem? (i := 2) rfl) ?_
  refine zp_if_ne dL_styles_241 (tgt := 249) rfl (fun q => absurd (by decide) q) (fun _ => ?_)
  refine zp_iload dL_styles_244 (x := (nI k)) (List.mem_of_getElem? (i := 3) rfl) ?_
  refine zp_goto dL_styles_246 (tgt := 264) rfl ?_
  refine zp_iload dL_styles_264 (x := 0) (List.mem_of_getElem? (i := 2) rfl) ?_
  refine zp_iconst dL_styles_266 (v := 2) (by decide) ?_
  refine zp_icmp_ge dL_styles_267 (tgt := 275) rfl (fun q => absurd q (by decide)) (fun _ => ?_)
  refine zp_iload dL_styles_270 (x := v) (List.mem_of_getElem? (i := 1) rfl) ?_
  refine zp_goto dL_styles_272 (tgt := 279) rfl ?_
  refine zp_iastore dL_styles_279 hTg (j := (k)) (nI_clamp (by omega)) (vp_in_nI (by omega) (by decide)) ?_
  refine zp_gen (fun r => LI (stD D k 4 v) W L r ∧ LT L r ∧ Rz G D X Y W T LL fr LL' fr' r ∧ zA r (lwq L) 7 = zA s (lwq L) 7 ∧ TZ (dn D) L r ∧ ∀ a, (zT s a).1 ≠ 0 → zT r a = zT s a) ⟨hi.st4 hTI.2.2.2.1 hn hk, hTI.2.2.1, hTI.2.2.2.2.2.2.1.wL hTI.2.2.1 hTI.2.2.2.2.2.1 3 (by decide) rfl, rAb (hTI.2.2.2.1.ne 7 3 (by decide) (by decide) (by decide)), hTI.2.2.2.2.2.2.2.2.2.2.w (fun q => absurd q (hTI.2.2.2.1.ne 3 1 (by decide) (by decide) (by decide))) (fun q => absurd q (hTI.2.2.2.1.ne 3 2 (by decide) (by decide) (by decide))), fun _ _ => rfl⟩ (fun s1 h1 => ?_)
  obtain ⟨h1i, h1T, h1z, h1q, h1Z, h1k⟩ := h1
  have h1o : zT s1 (xob Y) = (10, 0) := h1z.zo
  have h1g : zT s1 (lwg L) = (20, 32) := h1T 3 (by decide)
  have h1m : zT s1 (lwm L) = (20, 48) := h1T 1 (by decide)
  have h1e : zT s1 (lwe L) = (20, 48) := h1T 2 (by decide)
  refine zp_aload_n dL_styles_280 rfl (a := (lwm L)) (List.mem_of_getElem? (i := 7) rfl) ?_
  refine zp_iload dL_styles_281 (x := 0) (List.mem_of_getElem? (i := 2) rfl) ?_
  refine zp_iconst dL_styles_283 (v := 1) (by decide) ?_
  refine zp_icmp_le dL_styles_284 (tgt := 306) rfl (fun _ => ?_) (fun q => absurd (by decide) q)
  refine zp_iconst dL_styles_306 (v := 0) (by decide) ?_
  refine zp_iload dL_styles_307 (x := 0) (List.mem_of_getElem? (i := 2) rfl) ?_
  refine zp_iconst dL_styles_309 (v := 1) (by decide) ?_
  refine zp_icmp_le dL_styles_310 (tgt := 325) rfl (fun _ => ?_) (fun q => absurd (by decide) q)
  refine zp_aload_n dL_styles_325 rfl (a := (lwm L)) (List.mem_of_getElem? (i := 7) rfl) ?_
  refine zp_iconst dL_styles_326 (v := 0) (by decide) ?_
  refine zp_iald_v dL_styles_327 h1m (Or.inl rfl) (j := 0) (by decide) (zin (by decide)) (v := (zA s1 (lwm L) 0)) rfl ?_
  refine zp_iastore dL_styles_328 h1m (j := 0) (by decide) (zin (by decide)) ?_
  rw [wA_same rfl]
  refine zp_aload dL_styles_329 (a := (lwe L)) (List.mem_of_getElem? (i := 8) rfl) ?_
  refine zp_iload dL_styles_331 (x := 0) (List.mem_of_getElem? (i := 2) rfl) ?_
  refine zp_iconst dL_styles_333 (v := 5) (by decide) ?_
  refine zp_icmp_le dL_styles_334 (tgt := 350) rfl (fun _ => ?_) (fun q => absurd (by decide) q)
  refine zp_iconst dL_styles_350 (v := 0) (by decide) ?_
  refine zp_iload dL_styles_351 (x := 0) (List.mem_of_getElem? (i := 2) rfl) ?_
  refine zp_iconst dL_styles_353 (v := 5) (by decide) ?_
  refine zp_icmp_le dL_styles_354 (tgt := 362) rfl (fun _ => ?_) (fun q => absurd (by decide) q)
  refine zp_aload dL_styles_362 (a := (lwe L)) (List.mem_of_getElem? (i := 8) rfl) ?_
  refine zp_iconst dL_styles_364 (v := 0) (by decide) ?_
  refine zp_iald_v dL_styles_365 h1e (Or.inl rfl) (j := 0) (by decide) (zin (by decide)) (v := (zA s1 (lwe L) 0)) rfl ?_
  refine zp_iastore dL_styles_366 h1e (j := 0) (by decide) (zin (by decide)) ?_
  rw [wA_same rfl]
  refine zp_aload_n dL_styles_367 rfl (a := (xob Y)) (List.mem_of_getElem? (i := 4) rfl) ?_
  refine zp_iload dL_styles_368 (x := (nI k)) (List.mem_of_getElem? (i := 3) rfl) ?_
  refine zp_iconst dL_styles_370 (v := 4) (by decide) ?_
  refine zp_iload dL_styles_371 (x := 0) (List.mem_of_getElem? (i := 2) rfl) ?_
  refine zp_iadd dL_styles_373 ?_
  refine zp_iload dL_styles_374 (x := v) (List.mem_of_getElem? (i := 1) rfl) ?_
  refine zp_callV (c0 := 9) (st := []) (mc2 := 0) (ms2 := 0) dL_styles_376 (c_X12_style l G D X Y W T LL fr LL' fr' s1 k 4 v hTI.1 h1z (by omega) hTI.2.1.2 (hTI.1.st (by decide) (by decide) hv) hTT hk hk0 ht (by decide) (by decide) (sb_okv (by decide) hv)) cl_L_96 im_X12_style se_X12_style rfl rfl h1o rfl rfl (by omega) (by omega) (by omega) (Nat.le_of_ble_eq_true rfl) ?_
  rintro _ s2 ⟨rfl, T2, LL2, fr2, hT2, z2, f2⟩
  refine zp_iload dL_styles_379 (x := (dst D k 4)) (List.mem_of_getElem? (i := 0) rfl) ?_
  refine zp_icmp_ne dL_styles_381 (tgt := 388) rfl (fun q => absurd rfl q) (fun _ => ?_)
  refine zp_iconst dL_styles_384 (v := 1) (by decide) ?_
  refine zp_goto dL_styles_385 (tgt := 389) rfl ?_
  refine zp_zret rfl (Or.inr rfl) dL_styles_389 ?_
  exact ⟨rfl, stD D k 4 v, T2, LL2, fr2, hT2, rfl, hTI.st hk0 (by decide) (by decide) hv h1i h1T h1q h1Z z2 f2, fun a ha => (f2.1 a (by rw [h1k a ha]; exact ha)).trans (h1k a ha)⟩
set_option maxHeartbeats 8000000 in
theorem l_styV1 (l : Launch) {G : Gb} {D : Dt} {X : Cx} {Y : Cy} {W : Int32} {T : Nat} {LL : Nat → List Nat} {fr : List Nat} {LL' : Nat → List Nat} {fr' : List Nat} {L : Lw} {s : Sto} {z : Int32} (hTI : TI G D X Y W T LL fr LL' fr' L s) (hTT : T < 1000) {k : Nat} (hk0 : 0 < k) (hk : k < dn D) (ht : dtx D k = false) {v : Int32} (hv : sb 5 v) : Wp l G 38 48 288 (RL, cL_styles, 11, (some .boolean), false) 169 [(8, .int 1), (7, .int (nI k)), (0, .ref (xob Y)), (1, .int z), (2, .ref (lwt L)), (3, .ref (lwm L)), (4, .ref (lwe L)), (5, .ref (lwg L)), (6, .ref (lwq L))] [.int v] s (fun v t => v = some (.int 1) ∧ ∃ D2 T2 LL2 fr2, T2 ≤ T + 1 ∧ dn D2 = dn D ∧ TI G D2 X Y W T2 LL2 fr2 LL' fr' L t ∧ Fo2 X Y (dn D) L s t) := by
  have h1W := hTI.2.1.1
  have hTt : zT s (lwt L) = (20, 64) := hTI.2.2.1 0 (by decide)
  have hTm : zT s (lwm L) = (20, 48) := hTI.2.2.1 1 (by decide)
  have hTe : zT s (lwe L) = (20, 48) := hTI.2.2.1 2 (by decide)
  have hTg : zT s (lwg L) = (20, 32) := hTI.2.2.1 3 (by decide)
  have hTq : zT s (lwq L) = (20, 8) := hTI.2.2.1 7 (by decide)
  have hob : zT s (xob Y) = (10, 0) := hTI.2.2.2.2.2.2.1.zo
  have hi := hTI.2.2.2.2.1
  have hn := hTI.1.2.1
  show Wp l G 38 48 288 (RL, cL_styles, 11, (some .boolean), false) 169 [(8, .int 1), (7, .int (nI k)), (0, .ref (xob Y)), (1, .int z), (2, .ref (lwt L)), (3, .ref (lwm L)), (4, .ref (lwe L)), (5, .ref (lwg L)), (6, .ref (lwq L))] [.int v] s _
  refine zp_istore dL_styles_169 (Nat.le_of_ble_eq_true rfl) (lv2 := [(9, .int v), (8, .int 1), (7, .int (nI k)), (0, .ref (xob Y)), (1, .int z), (2, .ref (lwt L)), (3, .ref (lwm L)), (4, .ref (lwe L)), (5, .ref (lwg L)), (6, .ref (lwq L))]) rfl ?_
  refine zp_iload dL_styles_171 (x := 1) (List.mem_of_getElem? (i := 1) rfl) ?_
  refine zp_if_ne dL_styles_173 (tgt := 184) rfl (fun _ => ?_) (fun q => absurd q (by decide))
  refine zp_iload dL_styles_184 (x := 1) (List.mem_of_getElem? (i := 1) rfl) ?_
  refine zp_iconst dL_styles_186 (v := 1) (by decide) ?_
  refine zp_icmp_ne dL_styles_187 (tgt := 201) rfl (fun q => absurd (by decide) q) (fun _ => ?_)
  refine zp_aload dL_styles_190 (a := (lwg L)) (List.mem_of_getElem? (i := 8) rfl) ?_
  refine zp_bipush dL_styles_192 (v := 16) (by decide) ?_
  refine zp_iload dL_styles_194 (x := (nI k)) (List.mem_of_getElem? (i := 2) rfl) ?_
  refine zp_iadd dL_styles_196 ?_
  rw [show ((16 + (nI k)) : Int32) = (nI (16 + k)) from nI_add 16 k]
  refine zp_iald_v dL_styles_197 hTg (Or.inl rfl) (j := (16 + k)) (nI_clamp (by omega)) (vp_in_nI (by omega) (by decide)) (v := (dst D k 5)) (hi.1 k hk).2.2.2.2.2.1 ?_
  refine zp_goto dL_styles_198 (tgt := 235) rfl ?_
  refine zp_istore dL_styles_235 (Nat.le_of_ble_eq_true rfl) (lv2 := [(10, .int (dst D k 5)), (9, .int v), (8, .int 1), (7, .int (nI k)), (0, .ref (xob Y)), (1, .int z), (2, .ref (lwt L)), (3, .ref (lwm L)), (4, .ref (lwe L)), (5, .ref (lwg L)), (6, .ref (lwq L))]) rfl ?_
  refine zp_aload dL_styles_237 (a := (lwg L)) (List.mem_of_getElem? (i := 9) rfl) ?_
  refine zp_iload dL_styles_239 (x := 1) (List.mem_of_getElem? (i := 2) rfl) ?_
  refine zp_if_ne dL_styles_241 (tgt := 249) rfl (fun _ => ?_) (fun q => absurd q (by decide))
  refine zp_iload dL_styles_249 (x := 1) (List.mem_of_getElem? (i := 2) rfl) ?_
  refine zp_iconst dL_styles_251 (v := 1) (by decide) ?_
  refine zp_icmp_ne dL_styles_252 (tgt := 263) rfl (fun q => absurd (by decide) q) (fun _ => ?_)
  refine zp_bipush dL_styles_255 (v := 16) (by decide) ?_
  refine zp_iload dL_styles_257 (x := (nI k)) (List.mem_of_getElem? (i := 3) rfl) ?_
  refine zp_iadd dL_styles_259 ?_
  rw [show ((16 + (nI k)) : Int32) = (nI (16 + k)) from nI_add 16 k]
  refine zp_goto dL_styles_260 (tgt := 264) rfl ?_
  refine zp_iload dL_styles_264 (x := 1) (List.mem_of_getElem? (i := 2) rfl) ?_
  refine zp_iconst dL_styles_266 (v := 2) (by decide) ?_
  refine zp_icmp_ge dL_styles_267 (tgt := 275) rfl (fun q => absurd q (by decide)) (fun _ => ?_)
  refine zp_iload dL_styles_270 (x := v) (List.mem_of_getElem? (i := 1) rfl) ?_
  refine zp_goto dL_styles_272 (tgt := 279) rfl ?_
  refine zp_iastore dL_styles_279 hTg (j := (16 + k)) (nI_clamp (by omega)) (vp_in_nI (by omega) (by decide)) ?_
  refine zp_gen (fun r => LI (stD D k 5 v) W L r ∧ LT L r ∧ Rz G D X Y W T LL fr LL' fr' r ∧ zA r (lwq L) 7 = zA s (lwq L) 7 ∧ TZ (dn D) L r ∧ ∀ a, (zT s a).1 ≠ 0 → zT r a = zT s a) ⟨hi.st5 hTI.2.2.2.1 hn hk, hTI.2.2.1, hTI.2.2.2.2.2.2.1.wL hTI.2.2.1 hTI.2.2.2.2.2.1 3 (by decide) rfl, rAb (hTI.2.2.2.1.ne 7 3 (by decide) (by decide) (by decide)), hTI.2.2.2.2.2.2.2.2.2.2.w (fun q => absurd q (hTI.2.2.2.1.ne 3 1 (by decide) (by decide) (by decide))) (fun q => absurd q (hTI.2.2.2.1.ne 3 2 (by decide) (by decide) (by decide))), fun _ _ => rfl⟩ (fun s1 h1 => ?_)
  obtain ⟨h1i, h1T, h1z, h1q, h1Z, h1k⟩ := h1
  have h1o : zT s1 (xob Y) = (10, 0) := h1z.zo
  have h1g : zT s1 (lwg L) = (20, 32) := h1T 3 (by decide)
  have h1m : zT s1 (lwm L) = (20, 48) := h1T 1 (by decide)
  have h1e : zT s1 (lwe L) = (20, 48) := h1T 2 (by decide)
  refine zp_aload_n dL_styles_280 rfl (a := (lwm L)) (List.mem_of_getElem? (i := 7) rfl) ?_
  refine zp_iload dL_styles_281 (x := 1) (List.mem_of_getElem? (i := 2) rfl) ?_
  refine zp_iconst dL_styles_283 (v := 1) (by decide) ?_
  refine zp_icmp_le dL_styles_284 (tgt := 306) rfl (fun _ => ?_) (fun q => absurd (by decide) q)
  refine zp_iconst dL_styles_306 (v := 0) (by decide) ?_
  refine zp_iload dL_styles_307 (x := 1) (List.mem_of_getElem? (i := 2) rfl) ?_
  refine zp_iconst dL_styles_309 (v := 1) (by decide) ?_
  refine zp_icmp_le dL_styles_310 (tgt := 325) rfl (fun _ => ?_) (fun q => absurd (by decide) q)
  refine zp_aload_n dL_styles_325 rfl (a := (lwm L)) (List.mem_of_getElem? (i := 7) rfl) ?_
  refine zp_iconst dL_styles_326 (v := 0) (by decide) ?_
  refine zp_iald_v dL_styles_327 h1m (Or.inl rfl) (j := 0) (by decide) (zin (by decide)) (v := (zA s1 (lwm L) 0)) rfl ?_
  refine zp_iastore dL_styles_328 h1m (j := 0) (by decide) (zin (by decide)) ?_
  rw [wA_same rfl]
  refine zp_aload dL_styles_329 (a := (lwe L)) (List.mem_of_getElem? (i := 8) rfl) ?_
  refine zp_iload dL_styles_331 (x := 1) (List.mem_of_getElem? (i := 2) rfl) ?_
  refine zp_iconst dL_styles_333 (v := 5) (by decide) ?_
  refine zp_icmp_le dL_styles_334 (tgt := 350) rfl (fun _ => ?_) (fun q => absurd (by decide) q)
  refine zp_iconst dL_styles_350 (v := 0) (by decide) ?_
  refine zp_iload dL_styles_351 (x := 1) (List.mem_of_getElem? (i := 2) rfl) ?_
  refine zp_iconst dL_styles_353 (v := 5) (by decide) ?_
  refine zp_icmp_le dL_styles_354 (tgt := 362) rfl (fun _ => ?_) (fun q => absurd (by decide) q)
  refine zp_aload dL_styles_362 (a := (lwe L)) (List.mem_of_getElem? (i := 8) rfl) ?_
  refine zp_iconst dL_styles_364 (v := 0) (by decide) ?_
  refine zp_iald_v dL_styles_365 h1e (Or.inl rfl) (j := 0) (by decide) (zin (by decide)) (v := (zA s1 (lwe L) 0)) rfl ?_
  refine zp_iastore dL_styles_366 h1e (j := 0) (by decide) (zin (by decide)) ?_
  rw [wA_same rfl]
  refine zp_aload_n dL_styles_367 rfl (a := (xob Y)) (List.mem_of_getElem? (i := 4) rfl) ?_
  refine zp_iload dL_styles_368 (x := (nI k)) (List.mem_of_getElem? (i := 3) rfl) ?_
  refine zp_iconst dL_styles_370 (v := 4) (by decide) ?_
  refine zp_iload dL_styles_371 (x := 1) (List.mem_of_getElem? (i := 2) rfl) ?_
  refine zp_iadd dL_styles_373 ?_
  refine zp_iload dL_styles_374 (x := v) (List.mem_of_getElem? (i := 1) rfl) ?_
  refine zp_callV (c0 := 9) (st := []) (mc2 := 0) (ms2 := 0) dL_styles_376 (c_X12_style l G D X Y W T LL fr LL' fr' s1 k 5 v hTI.1 h1z (by omega) hTI.2.1.2 (hTI.1.st (by decide) (by decide) hv) hTT hk hk0 ht (by decide) (by decide) (sb_okv (by decide) hv)) cl_L_96 im_X12_style se_X12_style rfl rfl h1o rfl rfl (by omega) (by omega) (by omega) (Nat.le_of_ble_eq_true rfl) ?_
  rintro _ s2 ⟨rfl, T2, LL2, fr2, hT2, z2, f2⟩
  refine zp_iload dL_styles_379 (x := (dst D k 5)) (List.mem_of_getElem? (i := 0) rfl) ?_
  refine zp_icmp_ne dL_styles_381 (tgt := 388) rfl (fun q => absurd rfl q) (fun _ => ?_)
  refine zp_iconst dL_styles_384 (v := 1) (by decide) ?_
  refine zp_goto dL_styles_385 (tgt := 389) rfl ?_
  refine zp_zret rfl (Or.inr rfl) dL_styles_389 ?_
  exact ⟨rfl, stD D k 5 v, T2, LL2, fr2, hT2, rfl, hTI.st hk0 (by decide) (by decide) hv h1i h1T h1q h1Z z2 f2, fun a ha => (f2.1 a (by rw [h1k a ha]; exact ha)).trans (h1k a ha)⟩
set_option maxHeartbeats 8000000 in
theorem l_styV2 (l : Launch) {G : Gb} {D : Dt} {X : Cx} {Y : Cy} {W : Int32} {T : Nat} {LL : Nat → List Nat} {fr : List Nat} {LL' : Nat → List Nat} {fr' : List Nat} {L : Lw} {s : Sto} {z : Int32} (hTI : TI G D X Y W T LL fr LL' fr' L s) (hTT : T < 1000) {k : Nat} (hk0 : 0 < k) (hk : k < dn D) (ht : dtx D k = false) {v : Int32} (hv : sb 6 v) : Wp l G 38 48 288 (RL, cL_styles, 11, (some .boolean), false) 169 [(8, .int 2), (7, .int (nI k)), (0, .ref (xob Y)), (1, .int z), (2, .ref (lwt L)), (3, .ref (lwm L)), (4, .ref (lwe L)), (5, .ref (lwg L)), (6, .ref (lwq L))] [.int v] s (fun v t => v = some (.int 1) ∧ ∃ D2 T2 LL2 fr2, T2 ≤ T + 1 ∧ dn D2 = dn D ∧ TI G D2 X Y W T2 LL2 fr2 LL' fr' L t ∧ Fo2 X Y (dn D) L s t) := by
  have h1W := hTI.2.1.1
  have hTt : zT s (lwt L) = (20, 64) := hTI.2.2.1 0 (by decide)
  have hTm : zT s (lwm L) = (20, 48) := hTI.2.2.1 1 (by decide)
  have hTe : zT s (lwe L) = (20, 48) := hTI.2.2.1 2 (by decide)
  have hTg : zT s (lwg L) = (20, 32) := hTI.2.2.1 3 (by decide)
  have hTq : zT s (lwq L) = (20, 8) := hTI.2.2.1 7 (by decide)
  have hob : zT s (xob Y) = (10, 0) := hTI.2.2.2.2.2.2.1.zo
  have hi := hTI.2.2.2.2.1
  have hn := hTI.1.2.1
  show Wp l G 38 48 288 (RL, cL_styles, 11, (some .boolean), false) 169 [(8, .int 2), (7, .int (nI k)), (0, .ref (xob Y)), (1, .int z), (2, .ref (lwt L)), (3, .ref (lwm L)), (4, .ref (lwe L)), (5, .ref (lwg L)), (6, .ref (lwq L))] [.int v] s _
  refine zp_istore dL_styles_169 (Nat.le_of_ble_eq_true rfl) (lv2 := [(9, .int v), (8, .int 2), (7, .int (nI k)), (0, .ref (xob Y)), (1, .int z), (2, .ref (lwt L)), (3, .ref (lwm L)), (4, .ref (lwe L)), (5, .ref (lwg L)), (6, .ref (lwq L))]) rfl ?_
  refine zp_iload dL_styles_171 (x := 2) (List.mem_of_getElem? (i := 1) rfl) ?_
  refine zp_if_ne dL_styles_173 (tgt := 184) rfl (fun _ => ?_) (fun q => absurd q (by decide))
  refine zp_iload dL_styles_184 (x := 2) (List.mem_of_getElem? (i := 1) rfl) ?_
  refine zp_iconst dL_styles_186 (v := 1) (by decide) ?_
  refine zp_icmp_ne dL_styles_187 (tgt := 201) rfl (fun _ => ?_) (fun q => absurd q (by decide))
  refine zp_iload dL_styles_201 (x := 2) (List.mem_of_getElem? (i := 1) rfl) ?_
  refine zp_bipush dL_styles_203 (v := 6) (by decide) ?_
  refine zp_icmp_ge dL_styles_205 (tgt := 222) rfl (fun q => absurd q (by decide)) (fun _ => ?_)
  refine zp_aload_n dL_styles_208 rfl (a := (lwm L)) (List.mem_of_getElem? (i := 6) rfl) ?_
  refine zp_iconst dL_styles_209 (v := 4) (by decide) ?_
  refine zp_iload dL_styles_210 (x := (nI k)) (List.mem_of_getElem? (i := 2) rfl) ?_
  refine zp_imul dL_styles_212 ?_
  rw [show ((4 * (nI k)) : Int32) = (nI (4 * k)) from pk_mul 4 k]
  refine zp_iload dL_styles_213 (x := 2) (List.mem_of_getElem? (i := 1) rfl) ?_
  refine zp_iadd dL_styles_215 ?_
  rw [show (((nI (4 * k)) + 2) : Int32) = (nI (4 * k + 2)) from nI_add (4 * k) 2]
  refine zp_iconst dL_styles_216 (v := 2) (by decide) ?_
  refine zp_isub dL_styles_217 ?_
  rw [show (((nI (4 * k + 2)) - 2) : Int32) = (nI (4 * k + 0)) from ((nI_sub (k := 2) (by omega) (by omega)).trans (congrArg nI (by omega)))]
  refine zp_iald_v dL_styles_218 hTm (Or.inl rfl) (j := (4 * k + 0)) (nI_clamp (by omega)) (vp_in_nI (by omega) (by decide)) (v := (dst D k 6)) ((hi.1 k hk).2.2.2.2.2.2.1 0 (by decide)).1 ?_
  refine zp_goto dL_styles_219 (tgt := 235) rfl ?_
  refine zp_istore dL_styles_235 (Nat.le_of_ble_eq_true rfl) (lv2 := [(10, .int (dst D k 6)), (9, .int v), (8, .int 2), (7, .int (nI k)), (0, .ref (xob Y)), (1, .int z), (2, .ref (lwt L)), (3, .ref (lwm L)), (4, .ref (lwe L)), (5, .ref (lwg L)), (6, .ref (lwq L))]) rfl ?_
  refine zp_aload dL_styles_237 (a := (lwg L)) (List.mem_of_getElem? (i := 9) rfl) ?_
  refine zp_iload dL_styles_239 (x := 2) (List.mem_of_getElem? (i := 2) rfl) ?_
  refine zp_if_ne dL_styles_241 (tgt := 249) rfl (fun _ => ?_) (fun q => absurd q (by decide))
  refine zp_iload dL_styles_249 (x := 2) (List.mem_of_getElem? (i := 2) rfl) ?_
  refine zp_iconst dL_styles_251 (v := 1) (by decide) ?_
  refine zp_icmp_ne dL_styles_252 (tgt := 263) rfl (fun _ => ?_) (fun q => absurd q (by decide))
  refine zp_iconst dL_styles_263 (v := 0) (by decide) ?_
  refine zp_iload dL_styles_264 (x := 2) (List.mem_of_getElem? (i := 2) rfl) ?_
  refine zp_iconst dL_styles_266 (v := 2) (by decide) ?_
  refine zp_icmp_ge dL_styles_267 (tgt := 275) rfl (fun _ => ?_) (fun q => absurd (by decide) q)
  refine zp_aload dL_styles_275 (a := (lwg L)) (List.mem_of_getElem? (i := 9) rfl) ?_
  refine zp_iconst dL_styles_277 (v := 0) (by decide) ?_
  refine zp_iald_v dL_styles_278 hTg (Or.inl rfl) (j := 0) (by decide) (zin (by decide)) (v := (zA s (lwg L) 0)) rfl ?_
  refine zp_iastore dL_styles_279 hTg (j := 0) (by decide) (zin (by decide)) ?_
  rw [wA_same rfl]
  refine zp_aload_n dL_styles_280 rfl (a := (lwm L)) (List.mem_of_getElem? (i := 7) rfl) ?_
  refine zp_iload dL_styles_281 (x := 2) (List.mem_of_getElem? (i := 2) rfl) ?_
  refine zp_iconst dL_styles_283 (v := 1) (by decide) ?_
  refine zp_icmp_le dL_styles_284 (tgt := 306) rfl (fun q => absurd q (by decide)) (fun _ => ?_)
  refine zp_iload dL_styles_287 (x := 2) (List.mem_of_getElem? (i := 2) rfl) ?_
  refine zp_bipush dL_styles_289 (v := 6) (by decide) ?_
  refine zp_icmp_ge dL_styles_291 (tgt := 306) rfl (fun q => absurd q (by decide)) (fun _ => ?_)
  refine zp_iconst dL_styles_294 (v := 4) (by decide) ?_
  refine zp_iload dL_styles_295 (x := (nI k)) (List.mem_of_getElem? (i := 3) rfl) ?_
  refine zp_imul dL_styles_297 ?_
  rw [show ((4 * (nI k)) : Int32) = (nI (4 * k)) from pk_mul 4 k]
  refine zp_iload dL_styles_298 (x := 2) (List.mem_of_getElem? (i := 2) rfl) ?_
  refine zp_iadd dL_styles_300 ?_
  rw [show (((nI (4 * k)) + 2) : Int32) = (nI (4 * k + 2)) from nI_add (4 * k) 2]
  refine zp_iconst dL_styles_301 (v := 2) (by decide) ?_
  refine zp_isub dL_styles_302 ?_
  rw [show (((nI (4 * k + 2)) - 2) : Int32) = (nI (4 * k + 0)) from ((nI_sub (k := 2) (by omega) (by omega)).trans (congrArg nI (by omega)))]
  refine zp_goto dL_styles_303 (tgt := 307) rfl ?_
  refine zp_iload dL_styles_307 (x := 2) (List.mem_of_getElem? (i := 2) rfl) ?_
  refine zp_iconst dL_styles_309 (v := 1) (by decide) ?_
  refine zp_icmp_le dL_styles_310 (tgt := 325) rfl (fun q => absurd q (by decide)) (fun _ => ?_)
  refine zp_iload dL_styles_313 (x := 2) (List.mem_of_getElem? (i := 2) rfl) ?_
  refine zp_bipush dL_styles_315 (v := 6) (by decide) ?_
  refine zp_icmp_ge dL_styles_317 (tgt := 325) rfl (fun q => absurd q (by decide)) (fun _ => ?_)
  refine zp_iload dL_styles_320 (x := v) (List.mem_of_getElem? (i := 1) rfl) ?_
  refine zp_goto dL_styles_322 (tgt := 328) rfl ?_
  refine zp_iastore dL_styles_328 hTm (j := (4 * k + 0)) (nI_clamp (by omega)) (vp_in_nI (by omega) (by decide)) ?_
  refine zp_gen (fun r => LI (stD D k 6 v) W L r ∧ LT L r ∧ Rz G D X Y W T LL fr LL' fr' r ∧ zA r (lwq L) 7 = zA s (lwq L) 7 ∧ TZ (dn D) L r ∧ ∀ a, (zT s a).1 ≠ 0 → zT r a = zT s a) ⟨hi.stm hTI.2.2.2.1 hn hk (u := 0) (by decide), hTI.2.2.1, hTI.2.2.2.2.2.2.1.wL hTI.2.2.1 hTI.2.2.2.2.2.1 1 (by decide) rfl, rAb (hTI.2.2.2.1.ne 7 1 (by decide) (by decide) (by decide)), hTI.2.2.2.2.2.2.2.2.2.2.w (fun _ => by omega) (fun q => absurd q (hTI.2.2.2.1.ne 1 2 (by decide) (by decide) (by decide))), fun _ _ => rfl⟩ (fun s1 h1 => ?_)
  obtain ⟨h1i, h1T, h1z, h1q, h1Z, h1k⟩ := h1
  have h1o : zT s1 (xob Y) = (10, 0) := h1z.zo
  have h1g : zT s1 (lwg L) = (20, 32) := h1T 3 (by decide)
  have h1m : zT s1 (lwm L) = (20, 48) := h1T 1 (by decide)
  have h1e : zT s1 (lwe L) = (20, 48) := h1T 2 (by decide)
  refine zp_aload dL_styles_329 (a := (lwe L)) (List.mem_of_getElem? (i := 8) rfl) ?_
  refine zp_iload dL_styles_331 (x := 2) (List.mem_of_getElem? (i := 2) rfl) ?_
  refine zp_iconst dL_styles_333 (v := 5) (by decide) ?_
  refine zp_icmp_le dL_styles_334 (tgt := 350) rfl (fun _ => ?_) (fun q => absurd (by decide) q)
  refine zp_iconst dL_styles_350 (v := 0) (by decide) ?_
  refine zp_iload dL_styles_351 (x := 2) (List.mem_of_getElem? (i := 2) rfl) ?_
  refine zp_iconst dL_styles_353 (v := 5) (by decide) ?_
  refine zp_icmp_le dL_styles_354 (tgt := 362) rfl (fun _ => ?_) (fun q => absurd (by decide) q)
  refine zp_aload dL_styles_362 (a := (lwe L)) (List.mem_of_getElem? (i := 8) rfl) ?_
  refine zp_iconst dL_styles_364 (v := 0) (by decide) ?_
  refine zp_iald_v dL_styles_365 h1e (Or.inl rfl) (j := 0) (by decide) (zin (by decide)) (v := (zA s1 (lwe L) 0)) rfl ?_
  refine zp_iastore dL_styles_366 h1e (j := 0) (by decide) (zin (by decide)) ?_
  rw [wA_same rfl]
  refine zp_aload_n dL_styles_367 rfl (a := (xob Y)) (List.mem_of_getElem? (i := 4) rfl) ?_
  refine zp_iload dL_styles_368 (x := (nI k)) (List.mem_of_getElem? (i := 3) rfl) ?_
  refine zp_iconst dL_styles_370 (v := 4) (by decide) ?_
  refine zp_iload dL_styles_371 (x := 2) (List.mem_of_getElem? (i := 2) rfl) ?_
  refine zp_iadd dL_styles_373 ?_
  refine zp_iload dL_styles_374 (x := v) (List.mem_of_getElem? (i := 1) rfl) ?_
  refine zp_callV (c0 := 9) (st := []) (mc2 := 0) (ms2 := 0) dL_styles_376 (c_X12_style l G D X Y W T LL fr LL' fr' s1 k 6 v hTI.1 h1z (by omega) hTI.2.1.2 (hTI.1.st (by decide) (by decide) hv) hTT hk hk0 ht (by decide) (by decide) (sb_okv (by decide) hv)) cl_L_96 im_X12_style se_X12_style rfl rfl h1o rfl rfl (by omega) (by omega) (by omega) (Nat.le_of_ble_eq_true rfl) ?_
  rintro _ s2 ⟨rfl, T2, LL2, fr2, hT2, z2, f2⟩
  refine zp_iload dL_styles_379 (x := (dst D k 6)) (List.mem_of_getElem? (i := 0) rfl) ?_
  refine zp_icmp_ne dL_styles_381 (tgt := 388) rfl (fun q => absurd rfl q) (fun _ => ?_)
  refine zp_iconst dL_styles_384 (v := 1) (by decide) ?_
  refine zp_goto dL_styles_385 (tgt := 389) rfl ?_
  refine zp_zret rfl (Or.inr rfl) dL_styles_389 ?_
  exact ⟨rfl, stD D k 6 v, T2, LL2, fr2, hT2, rfl, hTI.st hk0 (by decide) (by decide) hv h1i h1T h1q h1Z z2 f2, fun a ha => (f2.1 a (by rw [h1k a ha]; exact ha)).trans (h1k a ha)⟩
set_option maxHeartbeats 8000000 in
theorem l_styV3 (l : Launch) {G : Gb} {D : Dt} {X : Cx} {Y : Cy} {W : Int32} {T : Nat} {LL : Nat → List Nat} {fr : List Nat} {LL' : Nat → List Nat} {fr' : List Nat} {L : Lw} {s : Sto} {z : Int32} (hTI : TI G D X Y W T LL fr LL' fr' L s) (hTT : T < 1000) {k : Nat} (hk0 : 0 < k) (hk : k < dn D) (ht : dtx D k = false) {v : Int32} (hv : sb 7 v) : Wp l G 38 48 288 (RL, cL_styles, 11, (some .boolean), false) 169 [(8, .int 3), (7, .int (nI k)), (0, .ref (xob Y)), (1, .int z), (2, .ref (lwt L)), (3, .ref (lwm L)), (4, .ref (lwe L)), (5, .ref (lwg L)), (6, .ref (lwq L))] [.int v] s (fun v t => v = some (.int 1) ∧ ∃ D2 T2 LL2 fr2, T2 ≤ T + 1 ∧ dn D2 = dn D ∧ TI G D2 X Y W T2 LL2 fr2 LL' fr' L t ∧ Fo2 X Y (dn D) L s t) := by
  have h1W := hTI.2.1.1
  have hTt : zT s (lwt L) = (20, 64) := hTI.2.2.1 0 (by decide)
  have hTm : zT s (lwm L) = (20, 48) := hTI.2.2.1 1 (by decide)
  have hTe : zT s (lwe L) = (20, 48) := hTI.2.2.1 2 (by decide)
  have hTg : zT s (lwg L) = (20, 32) := hTI.2.2.1 3 (by decide)
  have hTq : zT s (lwq L) = (20, 8) := hTI.2.2.1 7 (by decide)
  have hob : zT s (xob Y) = (10, 0) := hTI.2.2.2.2.2.2.1.zo
  have hi := hTI.2.2.2.2.1
  have hn := hTI.1.2.1
  show Wp l G 38 48 288 (RL, cL_styles, 11, (some .boolean), false) 169 [(8, .int 3), (7, .int (nI k)), (0, .ref (xob Y)), (1, .int z), (2, .ref (lwt L)), (3, .ref (lwm L)), (4, .ref (lwe L)), (5, .ref (lwg L)), (6, .ref (lwq L))] [.int v] s _
  refine zp_istore dL_styles_169 (Nat.le_of_ble_eq_true rfl) (lv2 := [(9, .int v), (8, .int 3), (7, .int (nI k)), (0, .ref (xob Y)), (1, .int z), (2, .ref (lwt L)), (3, .ref (lwm L)), (4, .ref (lwe L)), (5, .ref (lwg L)), (6, .ref (lwq L))]) rfl ?_
  refine zp_iload dL_styles_171 (x := 3) (List.mem_of_getElem? (i := 1) rfl) ?_
  refine zp_if_ne dL_styles_173 (tgt := 184) rfl (fun _ => ?_) (fun q => absurd q (by decide))
  refine zp_iload dL_styles_184 (x := 3) (List.mem_of_getElem? (i := 1) rfl) ?_
  refine zp_iconst dL_styles_186 (v := 1) (by decide) ?_
  refine zp_icmp_ne dL_styles_187 (tgt := 201) rfl (fun _ => ?_) (fun q => absurd q (by decide))
  refine zp_iload dL_styles_201 (x := 3) (List.mem_of_getElem? (i := 1) rfl) ?_
  refine zp_bipush dL_styles_203 (v := 6) (by decide) ?_
  refine zp_icmp_ge dL_styles_205 (tgt := 222) rfl (fun q => absurd q (by decide)) (fun _ => ?_)
  refine zp_aload_n dL_styles_208 rfl (a := (lwm L)) (List.mem_of_getElem? (i := 6) rfl) ?_
  refine zp_iconst dL_styles_209 (v := 4) (by decide) ?_
  refine zp_iload dL_styles_210 (x := (nI k)) (List.mem_of_getElem? (i := 2) rfl) ?_
  refine zp_imul dL_styles_212 ?_
  rw [show ((4 * (nI k)) : Int32) = (nI (4 * k)) from pk_mul 4 k]
  refine zp_iload dL_styles_213 (x := 3) (List.mem_of_getElem? (i := 1) rfl) ?_
  refine zp_iadd dL_styles_215 ?_
  rw [show (((nI (4 * k)) + 3) : Int32) = (nI (4 * k + 3)) from nI_add (4 * k) 3]
  refine zp_iconst dL_styles_216 (v := 2) (by decide) ?_
  refine zp_isub dL_styles_217 ?_
  rw [show (((nI (4 * k + 3)) - 2) : Int32) = (nI (4 * k + 1)) from ((nI_sub (k := 2) (by omega) (by omega)).trans (congrArg nI (by omega)))]
  refine zp_iald_v dL_styles_218 hTm (Or.inl rfl) (j := (4 * k + 1)) (nI_clamp (by omega)) (vp_in_nI (by omega) (by decide)) (v := (dst D k 7)) ((hi.1 k hk).2.2.2.2.2.2.1 1 (by decide)).1 ?_
  refine zp_goto dL_styles_219 (tgt := 235) rfl ?_
  refine zp_istore dL_styles_235 (Nat.le_of_ble_eq_true rfl) (lv2 := [(10, .int (dst D k 7)), (9, .int v), (8, .int 3), (7, .int (nI k)), (0, .ref (xob Y)), (1, .int z), (2, .ref (lwt L)), (3, .ref (lwm L)), (4, .ref (lwe L)), (5, .ref (lwg L)), (6, .ref (lwq L))]) rfl ?_
  refine zp_aload dL_styles_237 (a := (lwg L)) (List.mem_of_getElem? (i := 9) rfl) ?_
  refine zp_iload dL_styles_239 (x := 3) (List.mem_of_getElem? (i := 2) rfl) ?_
  refine zp_if_ne dL_styles_241 (tgt := 249) rfl (fun _ => ?_) (fun q => absurd q (by decide))
  refine zp_iload dL_styles_249 (x := 3) (List.mem_of_getElem? (i := 2) rfl) ?_
  refine zp_iconst dL_styles_251 (v := 1) (by decide) ?_
  refine zp_icmp_ne dL_styles_252 (tgt := 263) rfl (fun _ => ?_) (fun q => absurd q (by decide))
  refine zp_iconst dL_styles_263 (v := 0) (by decide) ?_
  refine zp_iload dL_styles_264 (x := 3) (List.mem_of_getElem? (i := 2) rfl) ?_
  refine zp_iconst dL_styles_266 (v := 2) (by decide) ?_
  refine zp_icmp_ge dL_styles_267 (tgt := 275) rfl (fun _ => ?_) (fun q => absurd (by decide) q)
  refine zp_aload dL_styles_275 (a := (lwg L)) (List.mem_of_getElem? (i := 9) rfl) ?_
  refine zp_iconst dL_styles_277 (v := 0) (by decide) ?_
  refine zp_iald_v dL_styles_278 hTg (Or.inl rfl) (j := 0) (by decide) (zin (by decide)) (v := (zA s (lwg L) 0)) rfl ?_
  refine zp_iastore dL_styles_279 hTg (j := 0) (by decide) (zin (by decide)) ?_
  rw [wA_same rfl]
  refine zp_aload_n dL_styles_280 rfl (a := (lwm L)) (List.mem_of_getElem? (i := 7) rfl) ?_
  refine zp_iload dL_styles_281 (x := 3) (List.mem_of_getElem? (i := 2) rfl) ?_
  refine zp_iconst dL_styles_283 (v := 1) (by decide) ?_
  refine zp_icmp_le dL_styles_284 (tgt := 306) rfl (fun q => absurd q (by decide)) (fun _ => ?_)
  refine zp_iload dL_styles_287 (x := 3) (List.mem_of_getElem? (i := 2) rfl) ?_
  refine zp_bipush dL_styles_289 (v := 6) (by decide) ?_
  refine zp_icmp_ge dL_styles_291 (tgt := 306) rfl (fun q => absurd q (by decide)) (fun _ => ?_)
  refine zp_iconst dL_styles_294 (v := 4) (by decide) ?_
  refine zp_iload dL_styles_295 (x := (nI k)) (List.mem_of_getElem? (i := 3) rfl) ?_
  refine zp_imul dL_styles_297 ?_
  rw [show ((4 * (nI k)) : Int32) = (nI (4 * k)) from pk_mul 4 k]
  refine zp_iload dL_styles_298 (x := 3) (List.mem_of_getElem? (i := 2) rfl) ?_
  refine zp_iadd dL_styles_300 ?_
  rw [show (((nI (4 * k)) + 3) : Int32) = (nI (4 * k + 3)) from nI_add (4 * k) 3]
  refine zp_iconst dL_styles_301 (v := 2) (by decide) ?_
  refine zp_isub dL_styles_302 ?_
  rw [show (((nI (4 * k + 3)) - 2) : Int32) = (nI (4 * k + 1)) from ((nI_sub (k := 2) (by omega) (by omega)).trans (congrArg nI (by omega)))]
  refine zp_goto dL_styles_303 (tgt := 307) rfl ?_
  refine zp_iload dL_styles_307 (x := 3) (List.mem_of_getElem? (i := 2) rfl) ?_
  refine zp_iconst dL_styles_309 (v := 1) (by decide) ?_
  refine zp_icmp_le dL_styles_310 (tgt := 325) rfl (fun q => absurd q (by decide)) (fun _ => ?_)
  refine zp_iload dL_styles_313 (x := 3) (List.mem_of_getElem? (i := 2) rfl) ?_
  refine zp_bipush dL_styles_315 (v := 6) (by decide) ?_
  refine zp_icmp_ge dL_styles_317 (tgt := 325) rfl (fun q => absurd q (by decide)) (fun _ => ?_)
  refine zp_iload dL_styles_320 (x := v) (List.mem_of_getElem? (i := 1) rfl) ?_
  refine zp_goto dL_styles_322 (tgt := 328) rfl ?_
  refine zp_iastore dL_styles_328 hTm (j := (4 * k + 1)) (nI_clamp (by omega)) (vp_in_nI (by omega) (by decide)) ?_
  refine zp_gen (fun r => LI (stD D k 7 v) W L r ∧ LT L r ∧ Rz G D X Y W T LL fr LL' fr' r ∧ zA r (lwq L) 7 = zA s (lwq L) 7 ∧ TZ (dn D) L r ∧ ∀ a, (zT s a).1 ≠ 0 → zT r a = zT s a) ⟨hi.stm hTI.2.2.2.1 hn hk (u := 1) (by decide), hTI.2.2.1, hTI.2.2.2.2.2.2.1.wL hTI.2.2.1 hTI.2.2.2.2.2.1 1 (by decide) rfl, rAb (hTI.2.2.2.1.ne 7 1 (by decide) (by decide) (by decide)), hTI.2.2.2.2.2.2.2.2.2.2.w (fun _ => by omega) (fun q => absurd q (hTI.2.2.2.1.ne 1 2 (by decide) (by decide) (by decide))), fun _ _ => rfl⟩ (fun s1 h1 => ?_)
  obtain ⟨h1i, h1T, h1z, h1q, h1Z, h1k⟩ := h1
  have h1o : zT s1 (xob Y) = (10, 0) := h1z.zo
  have h1g : zT s1 (lwg L) = (20, 32) := h1T 3 (by decide)
  have h1m : zT s1 (lwm L) = (20, 48) := h1T 1 (by decide)
  have h1e : zT s1 (lwe L) = (20, 48) := h1T 2 (by decide)
  refine zp_aload dL_styles_329 (a := (lwe L)) (List.mem_of_getElem? (i := 8) rfl) ?_
  refine zp_iload dL_styles_331 (x := 3) (List.mem_of_getElem? (i := 2) rfl) ?_
  refine zp_iconst dL_styles_333 (v := 5) (by decide) ?_
  refine zp_icmp_le dL_styles_334 (tgt := 350) rfl (fun _ => ?_) (fun q => absurd (by decide) q)
  refine zp_iconst dL_styles_350 (v := 0) (by decide) ?_
  refine zp_iload dL_styles_351 (x := 3) (List.mem_of_getElem? (i := 2) rfl) ?_
  refine zp_iconst dL_styles_353 (v := 5) (by decide) ?_
  refine zp_icmp_le dL_styles_354 (tgt := 362) rfl (fun _ => ?_) (fun q => absurd (by decide) q)
  refine zp_aload dL_styles_362 (a := (lwe L)) (List.mem_of_getElem? (i := 8) rfl) ?_
  refine zp_iconst dL_styles_364 (v := 0) (by decide) ?_
  refine zp_iald_v dL_styles_365 h1e (Or.inl rfl) (j := 0) (by decide) (zin (by decide)) (v := (zA s1 (lwe L) 0)) rfl ?_
  refine zp_iastore dL_styles_366 h1e (j := 0) (by decide) (zin (by decide)) ?_
  rw [wA_same rfl]
  refine zp_aload_n dL_styles_367 rfl (a := (xob Y)) (List.mem_of_getElem? (i := 4) rfl) ?_
  refine zp_iload dL_styles_368 (x := (nI k)) (List.mem_of_getElem? (i := 3) rfl) ?_
  refine zp_iconst dL_styles_370 (v := 4) (by decide) ?_
  refine zp_iload dL_styles_371 (x := 3) (List.mem_of_getElem? (i := 2) rfl) ?_
  refine zp_iadd dL_styles_373 ?_
  refine zp_iload dL_styles_374 (x := v) (List.mem_of_getElem? (i := 1) rfl) ?_
  refine zp_callV (c0 := 9) (st := []) (mc2 := 0) (ms2 := 0) dL_styles_376 (c_X12_style l G D X Y W T LL fr LL' fr' s1 k 7 v hTI.1 h1z (by omega) hTI.2.1.2 (hTI.1.st (by decide) (by decide) hv) hTT hk hk0 ht (by decide) (by decide) (sb_okv (by decide) hv)) cl_L_96 im_X12_style se_X12_style rfl rfl h1o rfl rfl (by omega) (by omega) (by omega) (Nat.le_of_ble_eq_true rfl) ?_
  rintro _ s2 ⟨rfl, T2, LL2, fr2, hT2, z2, f2⟩
  refine zp_iload dL_styles_379 (x := (dst D k 7)) (List.mem_of_getElem? (i := 0) rfl) ?_
  refine zp_icmp_ne dL_styles_381 (tgt := 388) rfl (fun q => absurd rfl q) (fun _ => ?_)
  refine zp_iconst dL_styles_384 (v := 1) (by decide) ?_
  refine zp_goto dL_styles_385 (tgt := 389) rfl ?_
  refine zp_zret rfl (Or.inr rfl) dL_styles_389 ?_
  exact ⟨rfl, stD D k 7 v, T2, LL2, fr2, hT2, rfl, hTI.st hk0 (by decide) (by decide) hv h1i h1T h1q h1Z z2 f2, fun a ha => (f2.1 a (by rw [h1k a ha]; exact ha)).trans (h1k a ha)⟩
set_option maxHeartbeats 8000000 in
theorem l_styV4 (l : Launch) {G : Gb} {D : Dt} {X : Cx} {Y : Cy} {W : Int32} {T : Nat} {LL : Nat → List Nat} {fr : List Nat} {LL' : Nat → List Nat} {fr' : List Nat} {L : Lw} {s : Sto} {z : Int32} (hTI : TI G D X Y W T LL fr LL' fr' L s) (hTT : T < 1000) {k : Nat} (hk0 : 0 < k) (hk : k < dn D) (ht : dtx D k = false) {v : Int32} (hv : sb 8 v) : Wp l G 38 48 288 (RL, cL_styles, 11, (some .boolean), false) 169 [(8, .int 4), (7, .int (nI k)), (0, .ref (xob Y)), (1, .int z), (2, .ref (lwt L)), (3, .ref (lwm L)), (4, .ref (lwe L)), (5, .ref (lwg L)), (6, .ref (lwq L))] [.int v] s (fun v t => v = some (.int 1) ∧ ∃ D2 T2 LL2 fr2, T2 ≤ T + 1 ∧ dn D2 = dn D ∧ TI G D2 X Y W T2 LL2 fr2 LL' fr' L t ∧ Fo2 X Y (dn D) L s t) := by
  have h1W := hTI.2.1.1
  have hTt : zT s (lwt L) = (20, 64) := hTI.2.2.1 0 (by decide)
  have hTm : zT s (lwm L) = (20, 48) := hTI.2.2.1 1 (by decide)
  have hTe : zT s (lwe L) = (20, 48) := hTI.2.2.1 2 (by decide)
  have hTg : zT s (lwg L) = (20, 32) := hTI.2.2.1 3 (by decide)
  have hTq : zT s (lwq L) = (20, 8) := hTI.2.2.1 7 (by decide)
  have hob : zT s (xob Y) = (10, 0) := hTI.2.2.2.2.2.2.1.zo
  have hi := hTI.2.2.2.2.1
  have hn := hTI.1.2.1
  show Wp l G 38 48 288 (RL, cL_styles, 11, (some .boolean), false) 169 [(8, .int 4), (7, .int (nI k)), (0, .ref (xob Y)), (1, .int z), (2, .ref (lwt L)), (3, .ref (lwm L)), (4, .ref (lwe L)), (5, .ref (lwg L)), (6, .ref (lwq L))] [.int v] s _
  refine zp_istore dL_styles_169 (Nat.le_of_ble_eq_true rfl) (lv2 := [(9, .int v), (8, .int 4), (7, .int (nI k)), (0, .ref (xob Y)), (1, .int z), (2, .ref (lwt L)), (3, .ref (lwm L)), (4, .ref (lwe L)), (5, .ref (lwg L)), (6, .ref (lwq L))]) rfl ?_
  refine zp_iload dL_styles_171 (x := 4) (List.mem_of_getElem? (i := 1) rfl) ?_
  refine zp_if_ne dL_styles_173 (tgt := 184) rfl (fun _ => ?_) (fun q => absurd q (by decide))
  refine zp_iload dL_styles_184 (x := 4) (List.mem_of_getElem? (i := 1) rfl) ?_
  refine zp_iconst dL_styles_186 (v := 1) (by decide) ?_
  refine zp_icmp_ne dL_styles_187 (tgt := 201) rfl (fun _ => ?_) (fun q => absurd q (by decide))
  refine zp_iload dL_styles_201 (x := 4) (List.mem_of_getElem? (i := 1) rfl) ?_
  refine zp_bipush dL_styles_203 (v := 6) (by decide) ?_
  refine zp_icmp_ge dL_styles_205 (tgt := 222) rfl (fun q => absurd q (by decide)) (fun _ => ?_)
  refine zp_aload_n dL_styles_208 rfl (a := (lwm L)) (List.mem_of_getElem? (i := 6) rfl) ?_
  refine zp_iconst dL_styles_209 (v := 4) (by decide) ?_
  refine zp_iload dL_styles_210 (x := (nI k)) (List.mem_of_getElem? (i := 2) rfl) ?_
  refine zp_imul dL_styles_212 ?_
  rw [show ((4 * (nI k)) : Int32) = (nI (4 * k)) from pk_mul 4 k]
  refine zp_iload dL_styles_213 (x := 4) (List.mem_of_getElem? (i := 1) rfl) ?_
  refine zp_iadd dL_styles_215 ?_
  rw [show (((nI (4 * k)) + 4) : Int32) = (nI (4 * k + 4)) from nI_add (4 * k) 4]
  refine zp_iconst dL_styles_216 (v := 2) (by decide) ?_
  refine zp_isub dL_styles_217 ?_
  rw [show (((nI (4 * k + 4)) - 2) : Int32) = (nI (4 * k + 2)) from ((nI_sub (k := 2) (by omega) (by omega)).trans (congrArg nI (by omega)))]
  refine zp_iald_v dL_styles_218 hTm (Or.inl rfl) (j := (4 * k + 2)) (nI_clamp (by omega)) (vp_in_nI (by omega) (by decide)) (v := (dst D k 8)) ((hi.1 k hk).2.2.2.2.2.2.1 2 (by decide)).1 ?_
  refine zp_goto dL_styles_219 (tgt := 235) rfl ?_
  refine zp_istore dL_styles_235 (Nat.le_of_ble_eq_true rfl) (lv2 := [(10, .int (dst D k 8)), (9, .int v), (8, .int 4), (7, .int (nI k)), (0, .ref (xob Y)), (1, .int z), (2, .ref (lwt L)), (3, .ref (lwm L)), (4, .ref (lwe L)), (5, .ref (lwg L)), (6, .ref (lwq L))]) rfl ?_
  refine zp_aload dL_styles_237 (a := (lwg L)) (List.mem_of_getElem? (i := 9) rfl) ?_
  refine zp_iload dL_styles_239 (x := 4) (List.mem_of_getElem? (i := 2) rfl) ?_
  refine zp_if_ne dL_styles_241 (tgt := 249) rfl (fun _ => ?_) (fun q => absurd q (by decide))
  refine zp_iload dL_styles_249 (x := 4) (List.mem_of_getElem? (i := 2) rfl) ?_
  refine zp_iconst dL_styles_251 (v := 1) (by decide) ?_
  refine zp_icmp_ne dL_styles_252 (tgt := 263) rfl (fun _ => ?_) (fun q => absurd q (by decide))
  refine zp_iconst dL_styles_263 (v := 0) (by decide) ?_
  refine zp_iload dL_styles_264 (x := 4) (List.mem_of_getElem? (i := 2) rfl) ?_
  refine zp_iconst dL_styles_266 (v := 2) (by decide) ?_
  refine zp_icmp_ge dL_styles_267 (tgt := 275) rfl (fun _ => ?_) (fun q => absurd (by decide) q)
  refine zp_aload dL_styles_275 (a := (lwg L)) (List.mem_of_getElem? (i := 9) rfl) ?_
  refine zp_iconst dL_styles_277 (v := 0) (by decide) ?_
  refine zp_iald_v dL_styles_278 hTg (Or.inl rfl) (j := 0) (by decide) (zin (by decide)) (v := (zA s (lwg L) 0)) rfl ?_
  refine zp_iastore dL_styles_279 hTg (j := 0) (by decide) (zin (by decide)) ?_
  rw [wA_same rfl]
  refine zp_aload_n dL_styles_280 rfl (a := (lwm L)) (List.mem_of_getElem? (i := 7) rfl) ?_
  refine zp_iload dL_styles_281 (x := 4) (List.mem_of_getElem? (i := 2) rfl) ?_
  refine zp_iconst dL_styles_283 (v := 1) (by decide) ?_
  refine zp_icmp_le dL_styles_284 (tgt := 306) rfl (fun q => absurd q (by decide)) (fun _ => ?_)
  refine zp_iload dL_styles_287 (x := 4) (List.mem_of_getElem? (i := 2) rfl) ?_
  refine zp_bipush dL_styles_289 (v := 6) (by decide) ?_
  refine zp_icmp_ge dL_styles_291 (tgt := 306) rfl (fun q => absurd q (by decide)) (fun _ => ?_)
  refine zp_iconst dL_styles_294 (v := 4) (by decide) ?_
  refine zp_iload dL_styles_295 (x := (nI k)) (List.mem_of_getElem? (i := 3) rfl) ?_
  refine zp_imul dL_styles_297 ?_
  rw [show ((4 * (nI k)) : Int32) = (nI (4 * k)) from pk_mul 4 k]
  refine zp_iload dL_styles_298 (x := 4) (List.mem_of_getElem? (i := 2) rfl) ?_
  refine zp_iadd dL_styles_300 ?_
  rw [show (((nI (4 * k)) + 4) : Int32) = (nI (4 * k + 4)) from nI_add (4 * k) 4]
  refine zp_iconst dL_styles_301 (v := 2) (by decide) ?_
  refine zp_isub dL_styles_302 ?_
  rw [show (((nI (4 * k + 4)) - 2) : Int32) = (nI (4 * k + 2)) from ((nI_sub (k := 2) (by omega) (by omega)).trans (congrArg nI (by omega)))]
  refine zp_goto dL_styles_303 (tgt := 307) rfl ?_
  refine zp_iload dL_styles_307 (x := 4) (List.mem_of_getElem? (i := 2) rfl) ?_
  refine zp_iconst dL_styles_309 (v := 1) (by decide) ?_
  refine zp_icmp_le dL_styles_310 (tgt := 325) rfl (fun q => absurd q (by decide)) (fun _ => ?_)
  refine zp_iload dL_styles_313 (x := 4) (List.mem_of_getElem? (i := 2) rfl) ?_
  refine zp_bipush dL_styles_315 (v := 6) (by decide) ?_
  refine zp_icmp_ge dL_styles_317 (tgt := 325) rfl (fun q => absurd q (by decide)) (fun _ => ?_)
  refine zp_iload dL_styles_320 (x := v) (List.mem_of_getElem? (i := 1) rfl) ?_
  refine zp_goto dL_styles_322 (tgt := 328) rfl ?_
  refine zp_iastore dL_styles_328 hTm (j := (4 * k + 2)) (nI_clamp (by omega)) (vp_in_nI (by omega) (by decide)) ?_
  refine zp_gen (fun r => LI (stD D k 8 v) W L r ∧ LT L r ∧ Rz G D X Y W T LL fr LL' fr' r ∧ zA r (lwq L) 7 = zA s (lwq L) 7 ∧ TZ (dn D) L r ∧ ∀ a, (zT s a).1 ≠ 0 → zT r a = zT s a) ⟨hi.stm hTI.2.2.2.1 hn hk (u := 2) (by decide), hTI.2.2.1, hTI.2.2.2.2.2.2.1.wL hTI.2.2.1 hTI.2.2.2.2.2.1 1 (by decide) rfl, rAb (hTI.2.2.2.1.ne 7 1 (by decide) (by decide) (by decide)), hTI.2.2.2.2.2.2.2.2.2.2.w (fun _ => by omega) (fun q => absurd q (hTI.2.2.2.1.ne 1 2 (by decide) (by decide) (by decide))), fun _ _ => rfl⟩ (fun s1 h1 => ?_)
  obtain ⟨h1i, h1T, h1z, h1q, h1Z, h1k⟩ := h1
  have h1o : zT s1 (xob Y) = (10, 0) := h1z.zo
  have h1g : zT s1 (lwg L) = (20, 32) := h1T 3 (by decide)
  have h1m : zT s1 (lwm L) = (20, 48) := h1T 1 (by decide)
  have h1e : zT s1 (lwe L) = (20, 48) := h1T 2 (by decide)
  refine zp_aload dL_styles_329 (a := (lwe L)) (List.mem_of_getElem? (i := 8) rfl) ?_
  refine zp_iload dL_styles_331 (x := 4) (List.mem_of_getElem? (i := 2) rfl) ?_
  refine zp_iconst dL_styles_333 (v := 5) (by decide) ?_
  refine zp_icmp_le dL_styles_334 (tgt := 350) rfl (fun _ => ?_) (fun q => absurd (by decide) q)
  refine zp_iconst dL_styles_350 (v := 0) (by decide) ?_
  refine zp_iload dL_styles_351 (x := 4) (List.mem_of_getElem? (i := 2) rfl) ?_
  refine zp_iconst dL_styles_353 (v := 5) (by decide) ?_
  refine zp_icmp_le dL_styles_354 (tgt := 362) rfl (fun _ => ?_) (fun q => absurd (by decide) q)
  refine zp_aload dL_styles_362 (a := (lwe L)) (List.mem_of_getElem? (i := 8) rfl) ?_
  refine zp_iconst dL_styles_364 (v := 0) (by decide) ?_
  refine zp_iald_v dL_styles_365 h1e (Or.inl rfl) (j := 0) (by decide) (zin (by decide)) (v := (zA s1 (lwe L) 0)) rfl ?_
  refine zp_iastore dL_styles_366 h1e (j := 0) (by decide) (zin (by decide)) ?_
  rw [wA_same rfl]
  refine zp_aload_n dL_styles_367 rfl (a := (xob Y)) (List.mem_of_getElem? (i := 4) rfl) ?_
  refine zp_iload dL_styles_368 (x := (nI k)) (List.mem_of_getElem? (i := 3) rfl) ?_
  refine zp_iconst dL_styles_370 (v := 4) (by decide) ?_
  refine zp_iload dL_styles_371 (x := 4) (List.mem_of_getElem? (i := 2) rfl) ?_
  refine zp_iadd dL_styles_373 ?_
  refine zp_iload dL_styles_374 (x := v) (List.mem_of_getElem? (i := 1) rfl) ?_
  refine zp_callV (c0 := 9) (st := []) (mc2 := 0) (ms2 := 0) dL_styles_376 (c_X12_style l G D X Y W T LL fr LL' fr' s1 k 8 v hTI.1 h1z (by omega) hTI.2.1.2 (hTI.1.st (by decide) (by decide) hv) hTT hk hk0 ht (by decide) (by decide) (sb_okv (by decide) hv)) cl_L_96 im_X12_style se_X12_style rfl rfl h1o rfl rfl (by omega) (by omega) (by omega) (Nat.le_of_ble_eq_true rfl) ?_
  rintro _ s2 ⟨rfl, T2, LL2, fr2, hT2, z2, f2⟩
  refine zp_iload dL_styles_379 (x := (dst D k 8)) (List.mem_of_getElem? (i := 0) rfl) ?_
  refine zp_icmp_ne dL_styles_381 (tgt := 388) rfl (fun q => absurd rfl q) (fun _ => ?_)
  refine zp_iconst dL_styles_384 (v := 1) (by decide) ?_
  refine zp_goto dL_styles_385 (tgt := 389) rfl ?_
  refine zp_zret rfl (Or.inr rfl) dL_styles_389 ?_
  exact ⟨rfl, stD D k 8 v, T2, LL2, fr2, hT2, rfl, hTI.st hk0 (by decide) (by decide) hv h1i h1T h1q h1Z z2 f2, fun a ha => (f2.1 a (by rw [h1k a ha]; exact ha)).trans (h1k a ha)⟩
set_option maxHeartbeats 8000000 in
theorem l_styV5 (l : Launch) {G : Gb} {D : Dt} {X : Cx} {Y : Cy} {W : Int32} {T : Nat} {LL : Nat → List Nat} {fr : List Nat} {LL' : Nat → List Nat} {fr' : List Nat} {L : Lw} {s : Sto} {z : Int32} (hTI : TI G D X Y W T LL fr LL' fr' L s) (hTT : T < 1000) {k : Nat} (hk0 : 0 < k) (hk : k < dn D) (ht : dtx D k = false) {v : Int32} (hv : sb 9 v) : Wp l G 38 48 288 (RL, cL_styles, 11, (some .boolean), false) 169 [(8, .int 5), (7, .int (nI k)), (0, .ref (xob Y)), (1, .int z), (2, .ref (lwt L)), (3, .ref (lwm L)), (4, .ref (lwe L)), (5, .ref (lwg L)), (6, .ref (lwq L))] [.int v] s (fun v t => v = some (.int 1) ∧ ∃ D2 T2 LL2 fr2, T2 ≤ T + 1 ∧ dn D2 = dn D ∧ TI G D2 X Y W T2 LL2 fr2 LL' fr' L t ∧ Fo2 X Y (dn D) L s t) := by
  have h1W := hTI.2.1.1
  have hTt : zT s (lwt L) = (20, 64) := hTI.2.2.1 0 (by decide)
  have hTm : zT s (lwm L) = (20, 48) := hTI.2.2.1 1 (by decide)
  have hTe : zT s (lwe L) = (20, 48) := hTI.2.2.1 2 (by decide)
  have hTg : zT s (lwg L) = (20, 32) := hTI.2.2.1 3 (by decide)
  have hTq : zT s (lwq L) = (20, 8) := hTI.2.2.1 7 (by decide)
  have hob : zT s (xob Y) = (10, 0) := hTI.2.2.2.2.2.2.1.zo
  have hi := hTI.2.2.2.2.1
  have hn := hTI.1.2.1
  show Wp l G 38 48 288 (RL, cL_styles, 11, (some .boolean), false) 169 [(8, .int 5), (7, .int (nI k)), (0, .ref (xob Y)), (1, .int z), (2, .ref (lwt L)), (3, .ref (lwm L)), (4, .ref (lwe L)), (5, .ref (lwg L)), (6, .ref (lwq L))] [.int v] s _
  refine zp_istore dL_styles_169 (Nat.le_of_ble_eq_true rfl) (lv2 := [(9, .int v), (8, .int 5), (7, .int (nI k)), (0, .ref (xob Y)), (1, .int z), (2, .ref (lwt L)), (3, .ref (lwm L)), (4, .ref (lwe L)), (5, .ref (lwg L)), (6, .ref (lwq L))]) rfl ?_
  refine zp_iload dL_styles_171 (x := 5) (List.mem_of_getElem? (i := 1) rfl) ?_
  refine zp_if_ne dL_styles_173 (tgt := 184) rfl (fun _ => ?_) (fun q => absurd q (by decide))
  refine zp_iload dL_styles_184 (x := 5) (List.mem_of_getElem? (i := 1) rfl) ?_
  refine zp_iconst dL_styles_186 (v := 1) (by decide) ?_
  refine zp_icmp_ne dL_styles_187 (tgt := 201) rfl (fun _ => ?_) (fun q => absurd q (by decide))
  refine zp_iload dL_styles_201 (x := 5) (List.mem_of_getElem? (i := 1) rfl) ?_
  refine zp_bipush dL_styles_203 (v := 6) (by decide) ?_
  refine zp_icmp_ge dL_styles_205 (tgt := 222) rfl (fun q => absurd q (by decide)) (fun _ => ?_)
  refine zp_aload_n dL_styles_208 rfl (a := (lwm L)) (List.mem_of_getElem? (i := 6) rfl) ?_
  refine zp_iconst dL_styles_209 (v := 4) (by decide) ?_
  refine zp_iload dL_styles_210 (x := (nI k)) (List.mem_of_getElem? (i := 2) rfl) ?_
  refine zp_imul dL_styles_212 ?_
  rw [show ((4 * (nI k)) : Int32) = (nI (4 * k)) from pk_mul 4 k]
  refine zp_iload dL_styles_213 (x := 5) (List.mem_of_getElem? (i := 1) rfl) ?_
  refine zp_iadd dL_styles_215 ?_
  rw [show (((nI (4 * k)) + 5) : Int32) = (nI (4 * k + 5)) from nI_add (4 * k) 5]
  refine zp_iconst dL_styles_216 (v := 2) (by decide) ?_
  refine zp_isub dL_styles_217 ?_
  rw [show (((nI (4 * k + 5)) - 2) : Int32) = (nI (4 * k + 3)) from ((nI_sub (k := 2) (by omega) (by omega)).trans (congrArg nI (by omega)))]
  refine zp_iald_v dL_styles_218 hTm (Or.inl rfl) (j := (4 * k + 3)) (nI_clamp (by omega)) (vp_in_nI (by omega) (by decide)) (v := (dst D k 9)) ((hi.1 k hk).2.2.2.2.2.2.1 3 (by decide)).1 ?_
  refine zp_goto dL_styles_219 (tgt := 235) rfl ?_
  refine zp_istore dL_styles_235 (Nat.le_of_ble_eq_true rfl) (lv2 := [(10, .int (dst D k 9)), (9, .int v), (8, .int 5), (7, .int (nI k)), (0, .ref (xob Y)), (1, .int z), (2, .ref (lwt L)), (3, .ref (lwm L)), (4, .ref (lwe L)), (5, .ref (lwg L)), (6, .ref (lwq L))]) rfl ?_
  refine zp_aload dL_styles_237 (a := (lwg L)) (List.mem_of_getElem? (i := 9) rfl) ?_
  refine zp_iload dL_styles_239 (x := 5) (List.mem_of_getElem? (i := 2) rfl) ?_
  refine zp_if_ne dL_styles_241 (tgt := 249) rfl (fun _ => ?_) (fun q => absurd q (by decide))
  refine zp_iload dL_styles_249 (x := 5) (List.mem_of_getElem? (i := 2) rfl) ?_
  refine zp_iconst dL_styles_251 (v := 1) (by decide) ?_
  refine zp_icmp_ne dL_styles_252 (tgt := 263) rfl (fun _ => ?_) (fun q => absurd q (by decide))
  refine zp_iconst dL_styles_263 (v := 0) (by decide) ?_
  refine zp_iload dL_styles_264 (x := 5) (List.mem_of_getElem? (i := 2) rfl) ?_
  refine zp_iconst dL_styles_266 (v := 2) (by decide) ?_
  refine zp_icmp_ge dL_styles_267 (tgt := 275) rfl (fun _ => ?_) (fun q => absurd (by decide) q)
  refine zp_aload dL_styles_275 (a := (lwg L)) (List.mem_of_getElem? (i := 9) rfl) ?_
  refine zp_iconst dL_styles_277 (v := 0) (by decide) ?_
  refine zp_iald_v dL_styles_278 hTg (Or.inl rfl) (j := 0) (by decide) (zin (by decide)) (v := (zA s (lwg L) 0)) rfl ?_
  refine zp_iastore dL_styles_279 hTg (j := 0) (by decide) (zin (by decide)) ?_
  rw [wA_same rfl]
  refine zp_aload_n dL_styles_280 rfl (a := (lwm L)) (List.mem_of_getElem? (i := 7) rfl) ?_
  refine zp_iload dL_styles_281 (x := 5) (List.mem_of_getElem? (i := 2) rfl) ?_
  refine zp_iconst dL_styles_283 (v := 1) (by decide) ?_
  refine zp_icmp_le dL_styles_284 (tgt := 306) rfl (fun q => absurd q (by decide)) (fun _ => ?_)
  refine zp_iload dL_styles_287 (x := 5) (List.mem_of_getElem? (i := 2) rfl) ?_
  refine zp_bipush dL_styles_289 (v := 6) (by decide) ?_
  refine zp_icmp_ge dL_styles_291 (tgt := 306) rfl (fun q => absurd q (by decide)) (fun _ => ?_)
  refine zp_iconst dL_styles_294 (v := 4) (by decide) ?_
  refine zp_iload dL_styles_295 (x := (nI k)) (List.mem_of_getElem? (i := 3) rfl) ?_
  refine zp_imul dL_styles_297 ?_
  rw [show ((4 * (nI k)) : Int32) = (nI (4 * k)) from pk_mul 4 k]
  refine zp_iload dL_styles_298 (x := 5) (List.mem_of_getElem? (i := 2) rfl) ?_
  refine zp_iadd dL_styles_300 ?_
  rw [show (((nI (4 * k)) + 5) : Int32) = (nI (4 * k + 5)) from nI_add (4 * k) 5]
  refine zp_iconst dL_styles_301 (v := 2) (by decide) ?_
  refine zp_isub dL_styles_302 ?_
  rw [show (((nI (4 * k + 5)) - 2) : Int32) = (nI (4 * k + 3)) from ((nI_sub (k := 2) (by omega) (by omega)).trans (congrArg nI (by omega)))]
  refine zp_goto dL_styles_303 (tgt := 307) rfl ?_
  refine zp_iload dL_styles_307 (x := 5) (List.mem_of_getElem? (i := 2) rfl) ?_
  refine zp_iconst dL_styles_309 (v := 1) (by decide) ?_
  refine zp_icmp_le dL_styles_310 (tgt := 325) rfl (fun q => absurd q (by decide)) (fun _ => ?_)
  refine zp_iload dL_styles_313 (x := 5) (List.mem_of_getElem? (i := 2) rfl) ?_
  refine zp_bipush dL_styles_315 (v := 6) (by decide) ?_
  refine zp_icmp_ge dL_styles_317 (tgt := 325) rfl (fun q => absurd q (by decide)) (fun _ => ?_)
  refine zp_iload dL_styles_320 (x := v) (List.mem_of_getElem? (i := 1) rfl) ?_
  refine zp_goto dL_styles_322 (tgt := 328) rfl ?_
  refine zp_iastore dL_styles_328 hTm (j := (4 * k + 3)) (nI_clamp (by omega)) (vp_in_nI (by omega) (by decide)) ?_
  refine zp_gen (fun r => LI (stD D k 9 v) W L r ∧ LT L r ∧ Rz G D X Y W T LL fr LL' fr' r ∧ zA r (lwq L) 7 = zA s (lwq L) 7 ∧ TZ (dn D) L r ∧ ∀ a, (zT s a).1 ≠ 0 → zT r a = zT s a) ⟨hi.stm hTI.2.2.2.1 hn hk (u := 3) (by decide), hTI.2.2.1, hTI.2.2.2.2.2.2.1.wL hTI.2.2.1 hTI.2.2.2.2.2.1 1 (by decide) rfl, rAb (hTI.2.2.2.1.ne 7 1 (by decide) (by decide) (by decide)), hTI.2.2.2.2.2.2.2.2.2.2.w (fun _ => by omega) (fun q => absurd q (hTI.2.2.2.1.ne 1 2 (by decide) (by decide) (by decide))), fun _ _ => rfl⟩ (fun s1 h1 => ?_)
  obtain ⟨h1i, h1T, h1z, h1q, h1Z, h1k⟩ := h1
  have h1o : zT s1 (xob Y) = (10, 0) := h1z.zo
  have h1g : zT s1 (lwg L) = (20, 32) := h1T 3 (by decide)
  have h1m : zT s1 (lwm L) = (20, 48) := h1T 1 (by decide)
  have h1e : zT s1 (lwe L) = (20, 48) := h1T 2 (by decide)
  refine zp_aload dL_styles_329 (a := (lwe L)) (List.mem_of_getElem? (i := 8) rfl) ?_
  refine zp_iload dL_styles_331 (x := 5) (List.mem_of_getElem? (i := 2) rfl) ?_
  refine zp_iconst dL_styles_333 (v := 5) (by decide) ?_
  refine zp_icmp_le dL_styles_334 (tgt := 350) rfl (fun _ => ?_) (fun q => absurd (by decide) q)
  refine zp_iconst dL_styles_350 (v := 0) (by decide) ?_
  refine zp_iload dL_styles_351 (x := 5) (List.mem_of_getElem? (i := 2) rfl) ?_
  refine zp_iconst dL_styles_353 (v := 5) (by decide) ?_
  refine zp_icmp_le dL_styles_354 (tgt := 362) rfl (fun _ => ?_) (fun q => absurd (by decide) q)
  refine zp_aload dL_styles_362 (a := (lwe L)) (List.mem_of_getElem? (i := 8) rfl) ?_
  refine zp_iconst dL_styles_364 (v := 0) (by decide) ?_
  refine zp_iald_v dL_styles_365 h1e (Or.inl rfl) (j := 0) (by decide) (zin (by decide)) (v := (zA s1 (lwe L) 0)) rfl ?_
  refine zp_iastore dL_styles_366 h1e (j := 0) (by decide) (zin (by decide)) ?_
  rw [wA_same rfl]
  refine zp_aload_n dL_styles_367 rfl (a := (xob Y)) (List.mem_of_getElem? (i := 4) rfl) ?_
  refine zp_iload dL_styles_368 (x := (nI k)) (List.mem_of_getElem? (i := 3) rfl) ?_
  refine zp_iconst dL_styles_370 (v := 4) (by decide) ?_
  refine zp_iload dL_styles_371 (x := 5) (List.mem_of_getElem? (i := 2) rfl) ?_
  refine zp_iadd dL_styles_373 ?_
  refine zp_iload dL_styles_374 (x := v) (List.mem_of_getElem? (i := 1) rfl) ?_
  refine zp_callV (c0 := 9) (st := []) (mc2 := 0) (ms2 := 0) dL_styles_376 (c_X12_style l G D X Y W T LL fr LL' fr' s1 k 9 v hTI.1 h1z (by omega) hTI.2.1.2 (hTI.1.st (by decide) (by decide) hv) hTT hk hk0 ht (by decide) (by decide) (sb_okv (by decide) hv)) cl_L_96 im_X12_style se_X12_style rfl rfl h1o rfl rfl (by omega) (by omega) (by omega) (Nat.le_of_ble_eq_true rfl) ?_
  rintro _ s2 ⟨rfl, T2, LL2, fr2, hT2, z2, f2⟩
  refine zp_iload dL_styles_379 (x := (dst D k 9)) (List.mem_of_getElem? (i := 0) rfl) ?_
  refine zp_icmp_ne dL_styles_381 (tgt := 388) rfl (fun q => absurd rfl q) (fun _ => ?_)
  refine zp_iconst dL_styles_384 (v := 1) (by decide) ?_
  refine zp_goto dL_styles_385 (tgt := 389) rfl ?_
  refine zp_zret rfl (Or.inr rfl) dL_styles_389 ?_
  exact ⟨rfl, stD D k 9 v, T2, LL2, fr2, hT2, rfl, hTI.st hk0 (by decide) (by decide) hv h1i h1T h1q h1Z z2 f2, fun a ha => (f2.1 a (by rw [h1k a ha]; exact ha)).trans (h1k a ha)⟩
set_option maxHeartbeats 8000000 in
theorem l_styV6 (l : Launch) {G : Gb} {D : Dt} {X : Cx} {Y : Cy} {W : Int32} {T : Nat} {LL : Nat → List Nat} {fr : List Nat} {LL' : Nat → List Nat} {fr' : List Nat} {L : Lw} {s : Sto} {z : Int32} (hTI : TI G D X Y W T LL fr LL' fr' L s) (hTT : T < 1000) {k : Nat} (hk0 : 0 < k) (hk : k < dn D) (ht : dtx D k = false) {v : Int32} (hv : sb 10 v) : Wp l G 38 48 288 (RL, cL_styles, 11, (some .boolean), false) 169 [(8, .int 6), (7, .int (nI k)), (0, .ref (xob Y)), (1, .int z), (2, .ref (lwt L)), (3, .ref (lwm L)), (4, .ref (lwe L)), (5, .ref (lwg L)), (6, .ref (lwq L))] [.int v] s (fun v t => v = some (.int 1) ∧ ∃ D2 T2 LL2 fr2, T2 ≤ T + 1 ∧ dn D2 = dn D ∧ TI G D2 X Y W T2 LL2 fr2 LL' fr' L t ∧ Fo2 X Y (dn D) L s t) := by
  have h1W := hTI.2.1.1
  have hTt : zT s (lwt L) = (20, 64) := hTI.2.2.1 0 (by decide)
  have hTm : zT s (lwm L) = (20, 48) := hTI.2.2.1 1 (by decide)
  have hTe : zT s (lwe L) = (20, 48) := hTI.2.2.1 2 (by decide)
  have hTg : zT s (lwg L) = (20, 32) := hTI.2.2.1 3 (by decide)
  have hTq : zT s (lwq L) = (20, 8) := hTI.2.2.1 7 (by decide)
  have hob : zT s (xob Y) = (10, 0) := hTI.2.2.2.2.2.2.1.zo
  have hi := hTI.2.2.2.2.1
  have hn := hTI.1.2.1
  show Wp l G 38 48 288 (RL, cL_styles, 11, (some .boolean), false) 169 [(8, .int 6), (7, .int (nI k)), (0, .ref (xob Y)), (1, .int z), (2, .ref (lwt L)), (3, .ref (lwm L)), (4, .ref (lwe L)), (5, .ref (lwg L)), (6, .ref (lwq L))] [.int v] s _
  refine zp_istore dL_styles_169 (Nat.le_of_ble_eq_true rfl) (lv2 := [(9, .int v), (8, .int 6), (7, .int (nI k)), (0, .ref (xob Y)), (1, .int z), (2, .ref (lwt L)), (3, .ref (lwm L)), (4, .ref (lwe L)), (5, .ref (lwg L)), (6, .ref (lwq L))]) rfl ?_
  refine zp_iload dL_styles_171 (x := 6) (List.mem_of_getElem? (i := 1) rfl) ?_
  refine zp_if_ne dL_styles_173 (tgt := 184) rfl (fun _ => ?_) (fun q => absurd q (by decide))
  refine zp_iload dL_styles_184 (x := 6) (List.mem_of_getElem? (i := 1) rfl) ?_
  refine zp_iconst dL_styles_186 (v := 1) (by decide) ?_
  refine zp_icmp_ne dL_styles_187 (tgt := 201) rfl (fun _ => ?_) (fun q => absurd q (by decide))
  refine zp_iload dL_styles_201 (x := 6) (List.mem_of_getElem? (i := 1) rfl) ?_
  refine zp_bipush dL_styles_203 (v := 6) (by decide) ?_
  refine zp_icmp_ge dL_styles_205 (tgt := 222) rfl (fun _ => ?_) (fun q => absurd (by decide) q)
  refine zp_aload dL_styles_222 (a := (lwe L)) (List.mem_of_getElem? (i := 7) rfl) ?_
  refine zp_iconst dL_styles_224 (v := 4) (by decide) ?_
  refine zp_iload dL_styles_225 (x := (nI k)) (List.mem_of_getElem? (i := 2) rfl) ?_
  refine zp_imul dL_styles_227 ?_
  rw [show ((4 * (nI k)) : Int32) = (nI (4 * k)) from pk_mul 4 k]
  refine zp_iload dL_styles_228 (x := 6) (List.mem_of_getElem? (i := 1) rfl) ?_
  refine zp_iadd dL_styles_230 ?_
  rw [show (((nI (4 * k)) + 6) : Int32) = (nI (4 * k + 6)) from nI_add (4 * k) 6]
  refine zp_bipush dL_styles_231 (v := 6) (by decide) ?_
  refine zp_isub dL_styles_233 ?_
  rw [show (((nI (4 * k + 6)) - 6) : Int32) = (nI (4 * k + 0)) from ((nI_sub (k := 6) (by omega) (by omega)).trans (congrArg nI (by omega)))]
  refine zp_iald_v dL_styles_234 hTe (Or.inl rfl) (j := (4 * k + 0)) (nI_clamp (by omega)) (vp_in_nI (by omega) (by decide)) (v := (dst D k 10)) ((hi.1 k hk).2.2.2.2.2.2.1 0 (by decide)).2 ?_
  refine zp_istore dL_styles_235 (Nat.le_of_ble_eq_true rfl) (lv2 := [(10, .int (dst D k 10)), (9, .int v), (8, .int 6), (7, .int (nI k)), (0, .ref (xob Y)), (1, .int z), (2, .ref (lwt L)), (3, .ref (lwm L)), (4, .ref (lwe L)), (5, .ref (lwg L)), (6, .ref (lwq L))]) rfl ?_
  refine zp_aload dL_styles_237 (a := (lwg L)) (List.mem_of_getElem? (i := 9) rfl) ?_
  refine zp_iload dL_styles_239 (x := 6) (List.mem_of_getElem? (i := 2) rfl) ?_
  refine zp_if_ne dL_styles_241 (tgt := 249) rfl (fun _ => ?_) (fun q => absurd q (by decide))
  refine zp_iload dL_styles_249 (x := 6) (List.mem_of_getElem? (i := 2) rfl) ?_
  refine zp_iconst dL_styles_251 (v := 1) (by decide) ?_
  refine zp_icmp_ne dL_styles_252 (tgt := 263) rfl (fun _ => ?_) (fun q => absurd q (by decide))
  refine zp_iconst dL_styles_263 (v := 0) (by decide) ?_
  refine zp_iload dL_styles_264 (x := 6) (List.mem_of_getElem? (i := 2) rfl) ?_
  refine zp_iconst dL_styles_266 (v := 2) (by decide) ?_
  refine zp_icmp_ge dL_styles_267 (tgt := 275) rfl (fun _ => ?_) (fun q => absurd (by decide) q)
  refine zp_aload dL_styles_275 (a := (lwg L)) (List.mem_of_getElem? (i := 9) rfl) ?_
  refine zp_iconst dL_styles_277 (v := 0) (by decide) ?_
  refine zp_iald_v dL_styles_278 hTg (Or.inl rfl) (j := 0) (by decide) (zin (by decide)) (v := (zA s (lwg L) 0)) rfl ?_
  refine zp_iastore dL_styles_279 hTg (j := 0) (by decide) (zin (by decide)) ?_
  rw [wA_same rfl]
  refine zp_aload_n dL_styles_280 rfl (a := (lwm L)) (List.mem_of_getElem? (i := 7) rfl) ?_
  refine zp_iload dL_styles_281 (x := 6) (List.mem_of_getElem? (i := 2) rfl) ?_
  refine zp_iconst dL_styles_283 (v := 1) (by decide) ?_
  refine zp_icmp_le dL_styles_284 (tgt := 306) rfl (fun q => absurd q (by decide)) (fun _ => ?_)
  refine zp_iload dL_styles_287 (x := 6) (List.mem_of_getElem? (i := 2) rfl) ?_
  refine zp_bipush dL_styles_289 (v := 6) (by decide) ?_
  refine zp_icmp_ge dL_styles_291 (tgt := 306) rfl (fun _ => ?_) (fun q => absurd (by decide) q)
  refine zp_iconst dL_styles_306 (v := 0) (by decide) ?_
  refine zp_iload dL_styles_307 (x := 6) (List.mem_of_getElem? (i := 2) rfl) ?_
  refine zp_iconst dL_styles_309 (v := 1) (by decide) ?_
  refine zp_icmp_le dL_styles_310 (tgt := 325) rfl (fun q => absurd q (by decide)) (fun _ => ?_)
  refine zp_iload dL_styles_313 (x := 6) (List.mem_of_getElem? (i := 2) rfl) ?_
  refine zp_bipush dL_styles_315 (v := 6) (by decide) ?_
  refine zp_icmp_ge dL_styles_317 (tgt := 325) rfl (fun _ => ?_) (fun q => absurd (by decide) q)
  refine zp_aload_n dL_styles_325 rfl (a := (lwm L)) (List.mem_of_getElem? (i := 7) rfl) ?_
  refine zp_iconst dL_styles_326 (v := 0) (by decide) ?_
  refine zp_iald_v dL_styles_327 hTm (Or.inl rfl) (j := 0) (by decide) (zin (by decide)) (v := (zA s (lwm L) 0)) rfl ?_
  refine zp_iastore dL_styles_328 hTm (j := 0) (by decide) (zin (by decide)) ?_
  rw [wA_same rfl]
  refine zp_aload dL_styles_329 (a := (lwe L)) (List.mem_of_getElem? (i := 8) rfl) ?_
  refine zp_iload dL_styles_331 (x := 6) (List.mem_of_getElem? (i := 2) rfl) ?_
  refine zp_iconst dL_styles_333 (v := 5) (by decide) ?_
  refine zp_icmp_le dL_styles_334 (tgt := 350) rfl (fun q => absurd q (by decide)) (fun _ => ?_)
  refine zp_iconst dL_styles_337 (v := 4) (by decide) ?_
  refine zp_iload dL_styles_338 (x := (nI k)) (List.mem_of_getElem? (i := 3) rfl) ?_
  refine zp_imul dL_styles_340 ?_
  rw [show ((4 * (nI k)) : Int32) = (nI (4 * k)) from pk_mul 4 k]
  refine zp_iload dL_styles_341 (x := 6) (List.mem_of_getElem? (i := 2) rfl) ?_
  refine zp_iadd dL_styles_343 ?_
  rw [show (((nI (4 * k)) + 6) : Int32) = (nI (4 * k + 6)) from nI_add (4 * k) 6]
  refine zp_bipush dL_styles_344 (v := 6) (by decide) ?_
  refine zp_isub dL_styles_346 ?_
  rw [show (((nI (4 * k + 6)) - 6) : Int32) = (nI (4 * k + 0)) from ((nI_sub (k := 6) (by omega) (by omega)).trans (congrArg nI (by omega)))]
  refine zp_goto dL_styles_347 (tgt := 351) rfl ?_
  refine zp_iload dL_styles_351 (x := 6) (List.mem_of_getElem? (i := 2) rfl) ?_
  refine zp_iconst dL_styles_353 (v := 5) (by decide) ?_
  refine zp_icmp_le dL_styles_354 (tgt := 362) rfl (fun q => absurd q (by decide)) (fun _ => ?_)
  refine zp_iload dL_styles_357 (x := v) (List.mem_of_getElem? (i := 1) rfl) ?_
  refine zp_goto dL_styles_359 (tgt := 366) rfl ?_
  refine zp_iastore dL_styles_366 hTe (j := (4 * k + 0)) (nI_clamp (by omega)) (vp_in_nI (by omega) (by decide)) ?_
  refine zp_gen (fun r => LI (stD D k 10 v) W L r ∧ LT L r ∧ Rz G D X Y W T LL fr LL' fr' r ∧ zA r (lwq L) 7 = zA s (lwq L) 7 ∧ TZ (dn D) L r ∧ ∀ a, (zT s a).1 ≠ 0 → zT r a = zT s a) ⟨hi.ste hTI.2.2.2.1 hn hk (u := 0) (by decide), hTI.2.2.1, hTI.2.2.2.2.2.2.1.wL hTI.2.2.1 hTI.2.2.2.2.2.1 2 (by decide) rfl, rAb (hTI.2.2.2.1.ne 7 2 (by decide) (by decide) (by decide)), hTI.2.2.2.2.2.2.2.2.2.2.w (fun q => absurd q (hTI.2.2.2.1.ne 2 1 (by decide) (by decide) (by decide))) (fun _ => by omega), fun _ _ => rfl⟩ (fun s1 h1 => ?_)
  obtain ⟨h1i, h1T, h1z, h1q, h1Z, h1k⟩ := h1
  have h1o : zT s1 (xob Y) = (10, 0) := h1z.zo
  have h1g : zT s1 (lwg L) = (20, 32) := h1T 3 (by decide)
  have h1m : zT s1 (lwm L) = (20, 48) := h1T 1 (by decide)
  have h1e : zT s1 (lwe L) = (20, 48) := h1T 2 (by decide)
  refine zp_aload_n dL_styles_367 rfl (a := (xob Y)) (List.mem_of_getElem? (i := 4) rfl) ?_
  refine zp_iload dL_styles_368 (x := (nI k)) (List.mem_of_getElem? (i := 3) rfl) ?_
  refine zp_iconst dL_styles_370 (v := 4) (by decide) ?_
  refine zp_iload dL_styles_371 (x := 6) (List.mem_of_getElem? (i := 2) rfl) ?_
  refine zp_iadd dL_styles_373 ?_
  refine zp_iload dL_styles_374 (x := v) (List.mem_of_getElem? (i := 1) rfl) ?_
  refine zp_callV (c0 := 9) (st := []) (mc2 := 0) (ms2 := 0) dL_styles_376 (c_X12_style l G D X Y W T LL fr LL' fr' s1 k 10 v hTI.1 h1z (by omega) hTI.2.1.2 (hTI.1.st (by decide) (by decide) hv) hTT hk hk0 ht (by decide) (by decide) (sb_okv (by decide) hv)) cl_L_96 im_X12_style se_X12_style rfl rfl h1o rfl rfl (by omega) (by omega) (by omega) (Nat.le_of_ble_eq_true rfl) ?_
  rintro _ s2 ⟨rfl, T2, LL2, fr2, hT2, z2, f2⟩
  refine zp_iload dL_styles_379 (x := (dst D k 10)) (List.mem_of_getElem? (i := 0) rfl) ?_
  refine zp_icmp_ne dL_styles_381 (tgt := 388) rfl (fun q => absurd rfl q) (fun _ => ?_)
  refine zp_iconst dL_styles_384 (v := 1) (by decide) ?_
  refine zp_goto dL_styles_385 (tgt := 389) rfl ?_
  refine zp_zret rfl (Or.inr rfl) dL_styles_389 ?_
  exact ⟨rfl, stD D k 10 v, T2, LL2, fr2, hT2, rfl, hTI.st hk0 (by decide) (by decide) hv h1i h1T h1q h1Z z2 f2, fun a ha => (f2.1 a (by rw [h1k a ha]; exact ha)).trans (h1k a ha)⟩
set_option maxHeartbeats 8000000 in
theorem l_styV7 (l : Launch) {G : Gb} {D : Dt} {X : Cx} {Y : Cy} {W : Int32} {T : Nat} {LL : Nat → List Nat} {fr : List Nat} {LL' : Nat → List Nat} {fr' : List Nat} {L : Lw} {s : Sto} {z : Int32} (hTI : TI G D X Y W T LL fr LL' fr' L s) (hTT : T < 1000) {k : Nat} (hk0 : 0 < k) (hk : k < dn D) (ht : dtx D k = false) {v : Int32} (hv : sb 11 v) : Wp l G 38 48 288 (RL, cL_styles, 11, (some .boolean), false) 169 [(8, .int 7), (7, .int (nI k)), (0, .ref (xob Y)), (1, .int z), (2, .ref (lwt L)), (3, .ref (lwm L)), (4, .ref (lwe L)), (5, .ref (lwg L)), (6, .ref (lwq L))] [.int v] s (fun v t => v = some (.int 1) ∧ ∃ D2 T2 LL2 fr2, T2 ≤ T + 1 ∧ dn D2 = dn D ∧ TI G D2 X Y W T2 LL2 fr2 LL' fr' L t ∧ Fo2 X Y (dn D) L s t) := by
  have h1W := hTI.2.1.1
  have hTt : zT s (lwt L) = (20, 64) := hTI.2.2.1 0 (by decide)
  have hTm : zT s (lwm L) = (20, 48) := hTI.2.2.1 1 (by decide)
  have hTe : zT s (lwe L) = (20, 48) := hTI.2.2.1 2 (by decide)
  have hTg : zT s (lwg L) = (20, 32) := hTI.2.2.1 3 (by decide)
  have hTq : zT s (lwq L) = (20, 8) := hTI.2.2.1 7 (by decide)
  have hob : zT s (xob Y) = (10, 0) := hTI.2.2.2.2.2.2.1.zo
  have hi := hTI.2.2.2.2.1
  have hn := hTI.1.2.1
  show Wp l G 38 48 288 (RL, cL_styles, 11, (some .boolean), false) 169 [(8, .int 7), (7, .int (nI k)), (0, .ref (xob Y)), (1, .int z), (2, .ref (lwt L)), (3, .ref (lwm L)), (4, .ref (lwe L)), (5, .ref (lwg L)), (6, .ref (lwq L))] [.int v] s _
  refine zp_istore dL_styles_169 (Nat.le_of_ble_eq_true rfl) (lv2 := [(9, .int v), (8, .int 7), (7, .int (nI k)), (0, .ref (xob Y)), (1, .int z), (2, .ref (lwt L)), (3, .ref (lwm L)), (4, .ref (lwe L)), (5, .ref (lwg L)), (6, .ref (lwq L))]) rfl ?_
  refine zp_iload dL_styles_171 (x := 7) (List.mem_of_getElem? (i := 1) rfl) ?_
  refine zp_if_ne dL_styles_173 (tgt := 184) rfl (fun _ => ?_) (fun q => absurd q (by decide))
  refine zp_iload dL_styles_184 (x := 7) (List.mem_of_getElem? (i := 1) rfl) ?_
  refine zp_iconst dL_styles_186 (v := 1) (by decide) ?_
  refine zp_icmp_ne dL_styles_187 (tgt := 201) rfl (fun _ => ?_) (fun q => absurd q (by decide))
  refine zp_iload dL_styles_201 (x := 7) (List.mem_of_getElem? (i := 1) rfl) ?_
  refine zp_bipush dL_styles_203 (v := 6) (by decide) ?_
  refine zp_icmp_ge dL_styles_205 (tgt := 222) rfl (fun _ => ?_) (fun q => absurd (by decide) q)
  refine zp_aload dL_styles_222 (a := (lwe L)) (List.mem_of_getElem? (i := 7) rfl) ?_
  refine zp_iconst dL_styles_224 (v := 4) (by decide) ?_
  refine zp_iload dL_styles_225 (x := (nI k)) (List.mem_of_getElem? (i := 2) rfl) ?_
  refine zp_imul dL_styles_227 ?_
  rw [show ((4 * (nI k)) : Int32) = (nI (4 * k)) from pk_mul 4 k]
  refine zp_iload dL_styles_228 (x := 7) (List.mem_of_getElem? (i := 1) rfl) ?_
  refine zp_iadd dL_styles_230 ?_
  rw [show (((nI (4 * k)) + 7) : Int32) = (nI (4 * k + 7)) from nI_add (4 * k) 7]
  refine zp_bipush dL_styles_231 (v := 6) (by decide) ?_
  refine zp_isub dL_styles_233 ?_
  rw [show (((nI (4 * k + 7)) - 6) : Int32) = (nI (4 * k + 1)) from ((nI_sub (k := 6) (by omega) (by omega)).trans (congrArg nI (by omega)))]
  refine zp_iald_v dL_styles_234 hTe (Or.inl rfl) (j := (4 * k + 1)) (nI_clamp (by omega)) (vp_in_nI (by omega) (by decide)) (v := (dst D k 11)) ((hi.1 k hk).2.2.2.2.2.2.1 1 (by decide)).2 ?_
  refine zp_istore dL_styles_235 (Nat.le_of_ble_eq_true rfl) (lv2 := [(10, .int (dst D k 11)), (9, .int v), (8, .int 7), (7, .int (nI k)), (0, .ref (xob Y)), (1, .int z), (2, .ref (lwt L)), (3, .ref (lwm L)), (4, .ref (lwe L)), (5, .ref (lwg L)), (6, .ref (lwq L))]) rfl ?_
  refine zp_aload dL_styles_237 (a := (lwg L)) (List.mem_of_getElem? (i := 9) rfl) ?_
  refine zp_iload dL_styles_239 (x := 7) (List.mem_of_getElem? (i := 2) rfl) ?_
  refine zp_if_ne dL_styles_241 (tgt := 249) rfl (fun _ => ?_) (fun q => absurd q (by decide))
  refine zp_iload dL_styles_249 (x := 7) (List.mem_of_getElem? (i := 2) rfl) ?_
  refine zp_iconst dL_styles_251 (v := 1) (by decide) ?_
  refine zp_icmp_ne dL_styles_252 (tgt := 263) rfl (fun _ => ?_) (fun q => absurd q (by decide))
  refine zp_iconst dL_styles_263 (v := 0) (by decide) ?_
  refine zp_iload dL_styles_264 (x := 7) (List.mem_of_getElem? (i := 2) rfl) ?_
  refine zp_iconst dL_styles_266 (v := 2) (by decide) ?_
  refine zp_icmp_ge dL_styles_267 (tgt := 275) rfl (fun _ => ?_) (fun q => absurd (by decide) q)
  refine zp_aload dL_styles_275 (a := (lwg L)) (List.mem_of_getElem? (i := 9) rfl) ?_
  refine zp_iconst dL_styles_277 (v := 0) (by decide) ?_
  refine zp_iald_v dL_styles_278 hTg (Or.inl rfl) (j := 0) (by decide) (zin (by decide)) (v := (zA s (lwg L) 0)) rfl ?_
  refine zp_iastore dL_styles_279 hTg (j := 0) (by decide) (zin (by decide)) ?_
  rw [wA_same rfl]
  refine zp_aload_n dL_styles_280 rfl (a := (lwm L)) (List.mem_of_getElem? (i := 7) rfl) ?_
  refine zp_iload dL_styles_281 (x := 7) (List.mem_of_getElem? (i := 2) rfl) ?_
  refine zp_iconst dL_styles_283 (v := 1) (by decide) ?_
  refine zp_icmp_le dL_styles_284 (tgt := 306) rfl (fun q => absurd q (by decide)) (fun _ => ?_)
  refine zp_iload dL_styles_287 (x := 7) (List.mem_of_getElem? (i := 2) rfl) ?_
  refine zp_bipush dL_styles_289 (v := 6) (by decide) ?_
  refine zp_icmp_ge dL_styles_291 (tgt := 306) rfl (fun _ => ?_) (fun q => absurd (by decide) q)
  refine zp_iconst dL_styles_306 (v := 0) (by decide) ?_
  refine zp_iload dL_styles_307 (x := 7) (List.mem_of_getElem? (i := 2) rfl) ?_
  refine zp_iconst dL_styles_309 (v := 1) (by decide) ?_
  refine zp_icmp_le dL_styles_310 (tgt := 325) rfl (fun q => absurd q (by decide)) (fun _ => ?_)
  refine zp_iload dL_styles_313 (x := 7) (List.mem_of_getElem? (i := 2) rfl) ?_
  refine zp_bipush dL_styles_315 (v := 6) (by decide) ?_
  refine zp_icmp_ge dL_styles_317 (tgt := 325) rfl (fun _ => ?_) (fun q => absurd (by decide) q)
  refine zp_aload_n dL_styles_325 rfl (a := (lwm L)) (List.mem_of_getElem? (i := 7) rfl) ?_
  refine zp_iconst dL_styles_326 (v := 0) (by decide) ?_
  refine zp_iald_v dL_styles_327 hTm (Or.inl rfl) (j := 0) (by decide) (zin (by decide)) (v := (zA s (lwm L) 0)) rfl ?_
  refine zp_iastore dL_styles_328 hTm (j := 0) (by decide) (zin (by decide)) ?_
  rw [wA_same rfl]
  refine zp_aload dL_styles_329 (a := (lwe L)) (List.mem_of_getElem? (i := 8) rfl) ?_
  refine zp_iload dL_styles_331 (x := 7) (List.mem_of_getElem? (i := 2) rfl) ?_
  refine zp_iconst dL_styles_333 (v := 5) (by decide) ?_
  refine zp_icmp_le dL_styles_334 (tgt := 350) rfl (fun q => absurd q (by decide)) (fun _ => ?_)
  refine zp_iconst dL_styles_337 (v := 4) (by decide) ?_
  refine zp_iload dL_styles_338 (x := (nI k)) (List.mem_of_getElem? (i := 3) rfl) ?_
  refine zp_imul dL_styles_340 ?_
  rw [show ((4 * (nI k)) : Int32) = (nI (4 * k)) from pk_mul 4 k]
  refine zp_iload dL_styles_341 (x := 7) (List.mem_of_getElem? (i := 2) rfl) ?_
  refine zp_iadd dL_styles_343 ?_
  rw [show (((nI (4 * k)) + 7) : Int32) = (nI (4 * k + 7)) from nI_add (4 * k) 7]
  refine zp_bipush dL_styles_344 (v := 6) (by decide) ?_
  refine zp_isub dL_styles_346 ?_
  rw [show (((nI (4 * k + 7)) - 6) : Int32) = (nI (4 * k + 1)) from ((nI_sub (k := 6) (by omega) (by omega)).trans (congrArg nI (by omega)))]
  refine zp_goto dL_styles_347 (tgt := 351) rfl ?_
  refine zp_iload dL_styles_351 (x := 7) (List.mem_of_getElem? (i := 2) rfl) ?_
  refine zp_iconst dL_styles_353 (v := 5) (by decide) ?_
  refine zp_icmp_le dL_styles_354 (tgt := 362) rfl (fun q => absurd q (by decide)) (fun _ => ?_)
  refine zp_iload dL_styles_357 (x := v) (List.mem_of_getElem? (i := 1) rfl) ?_
  refine zp_goto dL_styles_359 (tgt := 366) rfl ?_
  refine zp_iastore dL_styles_366 hTe (j := (4 * k + 1)) (nI_clamp (by omega)) (vp_in_nI (by omega) (by decide)) ?_
  refine zp_gen (fun r => LI (stD D k 11 v) W L r ∧ LT L r ∧ Rz G D X Y W T LL fr LL' fr' r ∧ zA r (lwq L) 7 = zA s (lwq L) 7 ∧ TZ (dn D) L r ∧ ∀ a, (zT s a).1 ≠ 0 → zT r a = zT s a) ⟨hi.ste hTI.2.2.2.1 hn hk (u := 1) (by decide), hTI.2.2.1, hTI.2.2.2.2.2.2.1.wL hTI.2.2.1 hTI.2.2.2.2.2.1 2 (by decide) rfl, rAb (hTI.2.2.2.1.ne 7 2 (by decide) (by decide) (by decide)), hTI.2.2.2.2.2.2.2.2.2.2.w (fun q => absurd q (hTI.2.2.2.1.ne 2 1 (by decide) (by decide) (by decide))) (fun _ => by omega), fun _ _ => rfl⟩ (fun s1 h1 => ?_)
  obtain ⟨h1i, h1T, h1z, h1q, h1Z, h1k⟩ := h1
  have h1o : zT s1 (xob Y) = (10, 0) := h1z.zo
  have h1g : zT s1 (lwg L) = (20, 32) := h1T 3 (by decide)
  have h1m : zT s1 (lwm L) = (20, 48) := h1T 1 (by decide)
  have h1e : zT s1 (lwe L) = (20, 48) := h1T 2 (by decide)
  refine zp_aload_n dL_styles_367 rfl (a := (xob Y)) (List.mem_of_getElem? (i := 4) rfl) ?_
  refine zp_iload dL_styles_368 (x := (nI k)) (List.mem_of_getElem? (i := 3) rfl) ?_
  refine zp_iconst dL_styles_370 (v := 4) (by decide) ?_
  refine zp_iload dL_styles_371 (x := 7) (List.mem_of_getElem? (i := 2) rfl) ?_
  refine zp_iadd dL_styles_373 ?_
  refine zp_iload dL_styles_374 (x := v) (List.mem_of_getElem? (i := 1) rfl) ?_
  refine zp_callV (c0 := 9) (st := []) (mc2 := 0) (ms2 := 0) dL_styles_376 (c_X12_style l G D X Y W T LL fr LL' fr' s1 k 11 v hTI.1 h1z (by omega) hTI.2.1.2 (hTI.1.st (by decide) (by decide) hv) hTT hk hk0 ht (by decide) (by decide) (sb_okv (by decide) hv)) cl_L_96 im_X12_style se_X12_style rfl rfl h1o rfl rfl (by omega) (by omega) (by omega) (Nat.le_of_ble_eq_true rfl) ?_
  rintro _ s2 ⟨rfl, T2, LL2, fr2, hT2, z2, f2⟩
  refine zp_iload dL_styles_379 (x := (dst D k 11)) (List.mem_of_getElem? (i := 0) rfl) ?_
  refine zp_icmp_ne dL_styles_381 (tgt := 388) rfl (fun q => absurd rfl q) (fun _ => ?_)
  refine zp_iconst dL_styles_384 (v := 1) (by decide) ?_
  refine zp_goto dL_styles_385 (tgt := 389) rfl ?_
  refine zp_zret rfl (Or.inr rfl) dL_styles_389 ?_
  exact ⟨rfl, stD D k 11 v, T2, LL2, fr2, hT2, rfl, hTI.st hk0 (by decide) (by decide) hv h1i h1T h1q h1Z z2 f2, fun a ha => (f2.1 a (by rw [h1k a ha]; exact ha)).trans (h1k a ha)⟩
set_option maxHeartbeats 8000000 in
theorem l_styV8 (l : Launch) {G : Gb} {D : Dt} {X : Cx} {Y : Cy} {W : Int32} {T : Nat} {LL : Nat → List Nat} {fr : List Nat} {LL' : Nat → List Nat} {fr' : List Nat} {L : Lw} {s : Sto} {z : Int32} (hTI : TI G D X Y W T LL fr LL' fr' L s) (hTT : T < 1000) {k : Nat} (hk0 : 0 < k) (hk : k < dn D) (ht : dtx D k = false) {v : Int32} (hv : sb 12 v) : Wp l G 38 48 288 (RL, cL_styles, 11, (some .boolean), false) 169 [(8, .int 8), (7, .int (nI k)), (0, .ref (xob Y)), (1, .int z), (2, .ref (lwt L)), (3, .ref (lwm L)), (4, .ref (lwe L)), (5, .ref (lwg L)), (6, .ref (lwq L))] [.int v] s (fun v t => v = some (.int 1) ∧ ∃ D2 T2 LL2 fr2, T2 ≤ T + 1 ∧ dn D2 = dn D ∧ TI G D2 X Y W T2 LL2 fr2 LL' fr' L t ∧ Fo2 X Y (dn D) L s t) := by
  have h1W := hTI.2.1.1
  have hTt : zT s (lwt L) = (20, 64) := hTI.2.2.1 0 (by decide)
  have hTm : zT s (lwm L) = (20, 48) := hTI.2.2.1 1 (by decide)
  have hTe : zT s (lwe L) = (20, 48) := hTI.2.2.1 2 (by decide)
  have hTg : zT s (lwg L) = (20, 32) := hTI.2.2.1 3 (by decide)
  have hTq : zT s (lwq L) = (20, 8) := hTI.2.2.1 7 (by decide)
  have hob : zT s (xob Y) = (10, 0) := hTI.2.2.2.2.2.2.1.zo
  have hi := hTI.2.2.2.2.1
  have hn := hTI.1.2.1
  show Wp l G 38 48 288 (RL, cL_styles, 11, (some .boolean), false) 169 [(8, .int 8), (7, .int (nI k)), (0, .ref (xob Y)), (1, .int z), (2, .ref (lwt L)), (3, .ref (lwm L)), (4, .ref (lwe L)), (5, .ref (lwg L)), (6, .ref (lwq L))] [.int v] s _
  refine zp_istore dL_styles_169 (Nat.le_of_ble_eq_true rfl) (lv2 := [(9, .int v), (8, .int 8), (7, .int (nI k)), (0, .ref (xob Y)), (1, .int z), (2, .ref (lwt L)), (3, .ref (lwm L)), (4, .ref (lwe L)), (5, .ref (lwg L)), (6, .ref (lwq L))]) rfl ?_
  refine zp_iload dL_styles_171 (x := 8) (List.mem_of_getElem? (i := 1) rfl) ?_
  refine zp_if_ne dL_styles_173 (tgt := 184) rfl (fun _ => ?_) (fun q => absurd q (by decide))
  refine zp_iload dL_styles_184 (x := 8) (List.mem_of_getElem? (i := 1) rfl) ?_
  refine zp_iconst dL_styles_186 (v := 1) (by decide) ?_
  refine zp_icmp_ne dL_styles_187 (tgt := 201) rfl (fun _ => ?_) (fun q => absurd q (by decide))
  refine zp_iload dL_styles_201 (x := 8) (List.mem_of_getElem? (i := 1) rfl) ?_
  refine zp_bipush dL_styles_203 (v := 6) (by decide) ?_
  refine zp_icmp_ge dL_styles_205 (tgt := 222) rfl (fun _ => ?_) (fun q => absurd (by decide) q)
  refine zp_aload dL_styles_222 (a := (lwe L)) (List.mem_of_getElem? (i := 7) rfl) ?_
  refine zp_iconst dL_styles_224 (v := 4) (by decide) ?_
  refine zp_iload dL_styles_225 (x := (nI k)) (List.mem_of_getElem? (i := 2) rfl) ?_
  refine zp_imul dL_styles_227 ?_
  rw [show ((4 * (nI k)) : Int32) = (nI (4 * k)) from pk_mul 4 k]
  refine zp_iload dL_styles_228 (x := 8) (List.mem_of_getElem? (i := 1) rfl) ?_
  refine zp_iadd dL_styles_230 ?_
  rw [show (((nI (4 * k)) + 8) : Int32) = (nI (4 * k + 8)) from nI_add (4 * k) 8]
  refine zp_bipush dL_styles_231 (v := 6) (by decide) ?_
  refine zp_isub dL_styles_233 ?_
  rw [show (((nI (4 * k + 8)) - 6) : Int32) = (nI (4 * k + 2)) from ((nI_sub (k := 6) (by omega) (by omega)).trans (congrArg nI (by omega)))]
  refine zp_iald_v dL_styles_234 hTe (Or.inl rfl) (j := (4 * k + 2)) (nI_clamp (by omega)) (vp_in_nI (by omega) (by decide)) (v := (dst D k 12)) ((hi.1 k hk).2.2.2.2.2.2.1 2 (by decide)).2 ?_
  refine zp_istore dL_styles_235 (Nat.le_of_ble_eq_true rfl) (lv2 := [(10, .int (dst D k 12)), (9, .int v), (8, .int 8), (7, .int (nI k)), (0, .ref (xob Y)), (1, .int z), (2, .ref (lwt L)), (3, .ref (lwm L)), (4, .ref (lwe L)), (5, .ref (lwg L)), (6, .ref (lwq L))]) rfl ?_
  refine zp_aload dL_styles_237 (a := (lwg L)) (List.mem_of_getElem? (i := 9) rfl) ?_
  refine zp_iload dL_styles_239 (x := 8) (List.mem_of_getElem? (i := 2) rfl) ?_
  refine zp_if_ne dL_styles_241 (tgt := 249) rfl (fun _ => ?_) (fun q => absurd q (by decide))
  refine zp_iload dL_styles_249 (x := 8) (List.mem_of_getElem? (i := 2) rfl) ?_
  refine zp_iconst dL_styles_251 (v := 1) (by decide) ?_
  refine zp_icmp_ne dL_styles_252 (tgt := 263) rfl (fun _ => ?_) (fun q => absurd q (by decide))
  refine zp_iconst dL_styles_263 (v := 0) (by decide) ?_
  refine zp_iload dL_styles_264 (x := 8) (List.mem_of_getElem? (i := 2) rfl) ?_
  refine zp_iconst dL_styles_266 (v := 2) (by decide) ?_
  refine zp_icmp_ge dL_styles_267 (tgt := 275) rfl (fun _ => ?_) (fun q => absurd (by decide) q)
  refine zp_aload dL_styles_275 (a := (lwg L)) (List.mem_of_getElem? (i := 9) rfl) ?_
  refine zp_iconst dL_styles_277 (v := 0) (by decide) ?_
  refine zp_iald_v dL_styles_278 hTg (Or.inl rfl) (j := 0) (by decide) (zin (by decide)) (v := (zA s (lwg L) 0)) rfl ?_
  refine zp_iastore dL_styles_279 hTg (j := 0) (by decide) (zin (by decide)) ?_
  rw [wA_same rfl]
  refine zp_aload_n dL_styles_280 rfl (a := (lwm L)) (List.mem_of_getElem? (i := 7) rfl) ?_
  refine zp_iload dL_styles_281 (x := 8) (List.mem_of_getElem? (i := 2) rfl) ?_
  refine zp_iconst dL_styles_283 (v := 1) (by decide) ?_
  refine zp_icmp_le dL_styles_284 (tgt := 306) rfl (fun q => absurd q (by decide)) (fun _ => ?_)
  refine zp_iload dL_styles_287 (x := 8) (List.mem_of_getElem? (i := 2) rfl) ?_
  refine zp_bipush dL_styles_289 (v := 6) (by decide) ?_
  refine zp_icmp_ge dL_styles_291 (tgt := 306) rfl (fun _ => ?_) (fun q => absurd (by decide) q)
  refine zp_iconst dL_styles_306 (v := 0) (by decide) ?_
  refine zp_iload dL_styles_307 (x := 8) (List.mem_of_getElem? (i := 2) rfl) ?_
  refine zp_iconst dL_styles_309 (v := 1) (by decide) ?_
  refine zp_icmp_le dL_styles_310 (tgt := 325) rfl (fun q => absurd q (by decide)) (fun _ => ?_)
  refine zp_iload dL_styles_313 (x := 8) (List.mem_of_getElem? (i := 2) rfl) ?_
  refine zp_bipush dL_styles_315 (v := 6) (by decide) ?_
  refine zp_icmp_ge dL_styles_317 (tgt := 325) rfl (fun _ => ?_) (fun q => absurd (by decide) q)
  refine zp_aload_n dL_styles_325 rfl (a := (lwm L)) (List.mem_of_getElem? (i := 7) rfl) ?_
  refine zp_iconst dL_styles_326 (v := 0) (by decide) ?_
  refine zp_iald_v dL_styles_327 hTm (Or.inl rfl) (j := 0) (by decide) (zin (by decide)) (v := (zA s (lwm L) 0)) rfl ?_
  refine zp_iastore dL_styles_328 hTm (j := 0) (by decide) (zin (by decide)) ?_
  rw [wA_same rfl]
  refine zp_aload dL_styles_329 (a := (lwe L)) (List.mem_of_getElem? (i := 8) rfl) ?_
  refine zp_iload dL_styles_331 (x := 8) (List.mem_of_getElem? (i := 2) rfl) ?_
  refine zp_iconst dL_styles_333 (v := 5) (by decide) ?_
  refine zp_icmp_le dL_styles_334 (tgt := 350) rfl (fun q => absurd q (by decide)) (fun _ => ?_)
  refine zp_iconst dL_styles_337 (v := 4) (by decide) ?_
  refine zp_iload dL_styles_338 (x := (nI k)) (List.mem_of_getElem? (i := 3) rfl) ?_
  refine zp_imul dL_styles_340 ?_
  rw [show ((4 * (nI k)) : Int32) = (nI (4 * k)) from pk_mul 4 k]
  refine zp_iload dL_styles_341 (x := 8) (List.mem_of_getElem? (i := 2) rfl) ?_
  refine zp_iadd dL_styles_343 ?_
  rw [show (((nI (4 * k)) + 8) : Int32) = (nI (4 * k + 8)) from nI_add (4 * k) 8]
  refine zp_bipush dL_styles_344 (v := 6) (by decide) ?_
  refine zp_isub dL_styles_346 ?_
  rw [show (((nI (4 * k + 8)) - 6) : Int32) = (nI (4 * k + 2)) from ((nI_sub (k := 6) (by omega) (by omega)).trans (congrArg nI (by omega)))]
  refine zp_goto dL_styles_347 (tgt := 351) rfl ?_
  refine zp_iload dL_styles_351 (x := 8) (List.mem_of_getElem? (i := 2) rfl) ?_
  refine zp_iconst dL_styles_353 (v := 5) (by decide) ?_
  refine zp_icmp_le dL_styles_354 (tgt := 362) rfl (fun q => absurd q (by decide)) (fun _ => ?_)
  refine zp_iload dL_styles_357 (x := v) (List.mem_of_getElem? (i := 1) rfl) ?_
  refine zp_goto dL_styles_359 (tgt := 366) rfl ?_
  refine zp_iastore dL_styles_366 hTe (j := (4 * k + 2)) (nI_clamp (by omega)) (vp_in_nI (by omega) (by decide)) ?_
  refine zp_gen (fun r => LI (stD D k 12 v) W L r ∧ LT L r ∧ Rz G D X Y W T LL fr LL' fr' r ∧ zA r (lwq L) 7 = zA s (lwq L) 7 ∧ TZ (dn D) L r ∧ ∀ a, (zT s a).1 ≠ 0 → zT r a = zT s a) ⟨hi.ste hTI.2.2.2.1 hn hk (u := 2) (by decide), hTI.2.2.1, hTI.2.2.2.2.2.2.1.wL hTI.2.2.1 hTI.2.2.2.2.2.1 2 (by decide) rfl, rAb (hTI.2.2.2.1.ne 7 2 (by decide) (by decide) (by decide)), hTI.2.2.2.2.2.2.2.2.2.2.w (fun q => absurd q (hTI.2.2.2.1.ne 2 1 (by decide) (by decide) (by decide))) (fun _ => by omega), fun _ _ => rfl⟩ (fun s1 h1 => ?_)
  obtain ⟨h1i, h1T, h1z, h1q, h1Z, h1k⟩ := h1
  have h1o : zT s1 (xob Y) = (10, 0) := h1z.zo
  have h1g : zT s1 (lwg L) = (20, 32) := h1T 3 (by decide)
  have h1m : zT s1 (lwm L) = (20, 48) := h1T 1 (by decide)
  have h1e : zT s1 (lwe L) = (20, 48) := h1T 2 (by decide)
  refine zp_aload_n dL_styles_367 rfl (a := (xob Y)) (List.mem_of_getElem? (i := 4) rfl) ?_
  refine zp_iload dL_styles_368 (x := (nI k)) (List.mem_of_getElem? (i := 3) rfl) ?_
  refine zp_iconst dL_styles_370 (v := 4) (by decide) ?_
  refine zp_iload dL_styles_371 (x := 8) (List.mem_of_getElem? (i := 2) rfl) ?_
  refine zp_iadd dL_styles_373 ?_
  refine zp_iload dL_styles_374 (x := v) (List.mem_of_getElem? (i := 1) rfl) ?_
  refine zp_callV (c0 := 9) (st := []) (mc2 := 0) (ms2 := 0) dL_styles_376 (c_X12_style l G D X Y W T LL fr LL' fr' s1 k 12 v hTI.1 h1z (by omega) hTI.2.1.2 (hTI.1.st (by decide) (by decide) hv) hTT hk hk0 ht (by decide) (by decide) (sb_okv (by decide) hv)) cl_L_96 im_X12_style se_X12_style rfl rfl h1o rfl rfl (by omega) (by omega) (by omega) (Nat.le_of_ble_eq_true rfl) ?_
  rintro _ s2 ⟨rfl, T2, LL2, fr2, hT2, z2, f2⟩
  refine zp_iload dL_styles_379 (x := (dst D k 12)) (List.mem_of_getElem? (i := 0) rfl) ?_
  refine zp_icmp_ne dL_styles_381 (tgt := 388) rfl (fun q => absurd rfl q) (fun _ => ?_)
  refine zp_iconst dL_styles_384 (v := 1) (by decide) ?_
  refine zp_goto dL_styles_385 (tgt := 389) rfl ?_
  refine zp_zret rfl (Or.inr rfl) dL_styles_389 ?_
  exact ⟨rfl, stD D k 12 v, T2, LL2, fr2, hT2, rfl, hTI.st hk0 (by decide) (by decide) hv h1i h1T h1q h1Z z2 f2, fun a ha => (f2.1 a (by rw [h1k a ha]; exact ha)).trans (h1k a ha)⟩
set_option maxHeartbeats 8000000 in
theorem l_styV9 (l : Launch) {G : Gb} {D : Dt} {X : Cx} {Y : Cy} {W : Int32} {T : Nat} {LL : Nat → List Nat} {fr : List Nat} {LL' : Nat → List Nat} {fr' : List Nat} {L : Lw} {s : Sto} {z : Int32} (hTI : TI G D X Y W T LL fr LL' fr' L s) (hTT : T < 1000) {k : Nat} (hk0 : 0 < k) (hk : k < dn D) (ht : dtx D k = false) {v : Int32} (hv : sb 13 v) : Wp l G 38 48 288 (RL, cL_styles, 11, (some .boolean), false) 169 [(8, .int 9), (7, .int (nI k)), (0, .ref (xob Y)), (1, .int z), (2, .ref (lwt L)), (3, .ref (lwm L)), (4, .ref (lwe L)), (5, .ref (lwg L)), (6, .ref (lwq L))] [.int v] s (fun v t => v = some (.int 1) ∧ ∃ D2 T2 LL2 fr2, T2 ≤ T + 1 ∧ dn D2 = dn D ∧ TI G D2 X Y W T2 LL2 fr2 LL' fr' L t ∧ Fo2 X Y (dn D) L s t) := by
  have h1W := hTI.2.1.1
  have hTt : zT s (lwt L) = (20, 64) := hTI.2.2.1 0 (by decide)
  have hTm : zT s (lwm L) = (20, 48) := hTI.2.2.1 1 (by decide)
  have hTe : zT s (lwe L) = (20, 48) := hTI.2.2.1 2 (by decide)
  have hTg : zT s (lwg L) = (20, 32) := hTI.2.2.1 3 (by decide)
  have hTq : zT s (lwq L) = (20, 8) := hTI.2.2.1 7 (by decide)
  have hob : zT s (xob Y) = (10, 0) := hTI.2.2.2.2.2.2.1.zo
  have hi := hTI.2.2.2.2.1
  have hn := hTI.1.2.1
  show Wp l G 38 48 288 (RL, cL_styles, 11, (some .boolean), false) 169 [(8, .int 9), (7, .int (nI k)), (0, .ref (xob Y)), (1, .int z), (2, .ref (lwt L)), (3, .ref (lwm L)), (4, .ref (lwe L)), (5, .ref (lwg L)), (6, .ref (lwq L))] [.int v] s _
  refine zp_istore dL_styles_169 (Nat.le_of_ble_eq_true rfl) (lv2 := [(9, .int v), (8, .int 9), (7, .int (nI k)), (0, .ref (xob Y)), (1, .int z), (2, .ref (lwt L)), (3, .ref (lwm L)), (4, .ref (lwe L)), (5, .ref (lwg L)), (6, .ref (lwq L))]) rfl ?_
  refine zp_iload dL_styles_171 (x := 9) (List.mem_of_getElem? (i := 1) rfl) ?_
  refine zp_if_ne dL_styles_173 (tgt := 184) rfl (fun _ => ?_) (fun q => absurd q (by decide))
  refine zp_iload dL_styles_184 (x := 9) (List.mem_of_getElem? (i := 1) rfl) ?_
  refine zp_iconst dL_styles_186 (v := 1) (by decide) ?_
  refine zp_icmp_ne dL_styles_187 (tgt := 201) rfl (fun _ => ?_) (fun q => absurd q (by decide))
  refine zp_iload dL_styles_201 (x := 9) (List.mem_of_getElem? (i := 1) rfl) ?_
  refine zp_bipush dL_styles_203 (v := 6) (by decide) ?_
  refine zp_icmp_ge dL_styles_205 (tgt := 222) rfl (fun _ => ?_) (fun q => absurd (by decide) q)
  refine zp_aload dL_styles_222 (a := (lwe L)) (List.mem_of_getElem? (i := 7) rfl) ?_
  refine zp_iconst dL_styles_224 (v := 4) (by decide) ?_
  refine zp_iload dL_styles_225 (x := (nI k)) (List.mem_of_getElem? (i := 2) rfl) ?_
  refine zp_imul dL_styles_227 ?_
  rw [show ((4 * (nI k)) : Int32) = (nI (4 * k)) from pk_mul 4 k]
  refine zp_iload dL_styles_228 (x := 9) (List.mem_of_getElem? (i := 1) rfl) ?_
  refine zp_iadd dL_styles_230 ?_
  rw [show (((nI (4 * k)) + 9) : Int32) = (nI (4 * k + 9)) from nI_add (4 * k) 9]
  refine zp_bipush dL_styles_231 (v := 6) (by decide) ?_
  refine zp_isub dL_styles_233 ?_
  rw [show (((nI (4 * k + 9)) - 6) : Int32) = (nI (4 * k + 3)) from ((nI_sub (k := 6) (by omega) (by omega)).trans (congrArg nI (by omega)))]
  refine zp_iald_v dL_styles_234 hTe (Or.inl rfl) (j := (4 * k + 3)) (nI_clamp (by omega)) (vp_in_nI (by omega) (by decide)) (v := (dst D k 13)) ((hi.1 k hk).2.2.2.2.2.2.1 3 (by decide)).2 ?_
  refine zp_istore dL_styles_235 (Nat.le_of_ble_eq_true rfl) (lv2 := [(10, .int (dst D k 13)), (9, .int v), (8, .int 9), (7, .int (nI k)), (0, .ref (xob Y)), (1, .int z), (2, .ref (lwt L)), (3, .ref (lwm L)), (4, .ref (lwe L)), (5, .ref (lwg L)), (6, .ref (lwq L))]) rfl ?_
  refine zp_aload dL_styles_237 (a := (lwg L)) (List.mem_of_getElem? (i := 9) rfl) ?_
  refine zp_iload dL_styles_239 (x := 9) (List.mem_of_getElem? (i := 2) rfl) ?_
  refine zp_if_ne dL_styles_241 (tgt := 249) rfl (fun _ => ?_) (fun q => absurd q (by decide))
  refine zp_iload dL_styles_249 (x := 9) (List.mem_of_getElem? (i := 2) rfl) ?_
  refine zp_iconst dL_styles_251 (v := 1) (by decide) ?_
  refine zp_icmp_ne dL_styles_252 (tgt := 263) rfl (fun _ => ?_) (fun q => absurd q (by decide))
  refine zp_iconst dL_styles_263 (v := 0) (by decide) ?_
  refine zp_iload dL_styles_264 (x := 9) (List.mem_of_getElem? (i := 2) rfl) ?_
  refine zp_iconst dL_styles_266 (v := 2) (by decide) ?_
  refine zp_icmp_ge dL_styles_267 (tgt := 275) rfl (fun _ => ?_) (fun q => absurd (by decide) q)
  refine zp_aload dL_styles_275 (a := (lwg L)) (List.mem_of_getElem? (i := 9) rfl) ?_
  refine zp_iconst dL_styles_277 (v := 0) (by decide) ?_
  refine zp_iald_v dL_styles_278 hTg (Or.inl rfl) (j := 0) (by decide) (zin (by decide)) (v := (zA s (lwg L) 0)) rfl ?_
  refine zp_iastore dL_styles_279 hTg (j := 0) (by decide) (zin (by decide)) ?_
  rw [wA_same rfl]
  refine zp_aload_n dL_styles_280 rfl (a := (lwm L)) (List.mem_of_getElem? (i := 7) rfl) ?_
  refine zp_iload dL_styles_281 (x := 9) (List.mem_of_getElem? (i := 2) rfl) ?_
  refine zp_iconst dL_styles_283 (v := 1) (by decide) ?_
  refine zp_icmp_le dL_styles_284 (tgt := 306) rfl (fun q => absurd q (by decide)) (fun _ => ?_)
  refine zp_iload dL_styles_287 (x := 9) (List.mem_of_getElem? (i := 2) rfl) ?_
  refine zp_bipush dL_styles_289 (v := 6) (by decide) ?_
  refine zp_icmp_ge dL_styles_291 (tgt := 306) rfl (fun _ => ?_) (fun q => absurd (by decide) q)
  refine zp_iconst dL_styles_306 (v := 0) (by decide) ?_
  refine zp_iload dL_styles_307 (x := 9) (List.mem_of_getElem? (i := 2) rfl) ?_
  refine zp_iconst dL_styles_309 (v := 1) (by decide) ?_
  refine zp_icmp_le dL_styles_310 (tgt := 325) rfl (fun q => absurd q (by decide)) (fun _ => ?_)
  refine zp_iload dL_styles_313 (x := 9) (List.mem_of_getElem? (i := 2) rfl) ?_
  refine zp_bipush dL_styles_315 (v := 6) (by decide) ?_
  refine zp_icmp_ge dL_styles_317 (tgt := 325) rfl (fun _ => ?_) (fun q => absurd (by decide) q)
  refine zp_aload_n dL_styles_325 rfl (a := (lwm L)) (List.mem_of_getElem? (i := 7) rfl) ?_
  refine zp_iconst dL_styles_326 (v := 0) (by decide) ?_
  refine zp_iald_v dL_styles_327 hTm (Or.inl rfl) (j := 0) (by decide) (zin (by decide)) (v := (zA s (lwm L) 0)) rfl ?_
  refine zp_iastore dL_styles_328 hTm (j := 0) (by decide) (zin (by decide)) ?_
  rw [wA_same rfl]
  refine zp_aload dL_styles_329 (a := (lwe L)) (List.mem_of_getElem? (i := 8) rfl) ?_
  refine zp_iload dL_styles_331 (x := 9) (List.mem_of_getElem? (i := 2) rfl) ?_
  refine zp_iconst dL_styles_333 (v := 5) (by decide) ?_
  refine zp_icmp_le dL_styles_334 (tgt := 350) rfl (fun q => absurd q (by decide)) (fun _ => ?_)
  refine zp_iconst dL_styles_337 (v := 4) (by decide) ?_
  refine zp_iload dL_styles_338 (x := (nI k)) (List.mem_of_getElem? (i := 3) rfl) ?_
  refine zp_imul dL_styles_340 ?_
  rw [show ((4 * (nI k)) : Int32) = (nI (4 * k)) from pk_mul 4 k]
  refine zp_iload dL_styles_341 (x := 9) (List.mem_of_getElem? (i := 2) rfl) ?_
  refine zp_iadd dL_styles_343 ?_
  rw [show (((nI (4 * k)) + 9) : Int32) = (nI (4 * k + 9)) from nI_add (4 * k) 9]
  refine zp_bipush dL_styles_344 (v := 6) (by decide) ?_
  refine zp_isub dL_styles_346 ?_
  rw [show (((nI (4 * k + 9)) - 6) : Int32) = (nI (4 * k + 3)) from ((nI_sub (k := 6) (by omega) (by omega)).trans (congrArg nI (by omega)))]
  refine zp_goto dL_styles_347 (tgt := 351) rfl ?_
  refine zp_iload dL_styles_351 (x := 9) (List.mem_of_getElem? (i := 2) rfl) ?_
  refine zp_iconst dL_styles_353 (v := 5) (by decide) ?_
  refine zp_icmp_le dL_styles_354 (tgt := 362) rfl (fun q => absurd q (by decide)) (fun _ => ?_)
  refine zp_iload dL_styles_357 (x := v) (List.mem_of_getElem? (i := 1) rfl) ?_
  refine zp_goto dL_styles_359 (tgt := 366) rfl ?_
  refine zp_iastore dL_styles_366 hTe (j := (4 * k + 3)) (nI_clamp (by omega)) (vp_in_nI (by omega) (by decide)) ?_
  refine zp_gen (fun r => LI (stD D k 13 v) W L r ∧ LT L r ∧ Rz G D X Y W T LL fr LL' fr' r ∧ zA r (lwq L) 7 = zA s (lwq L) 7 ∧ TZ (dn D) L r ∧ ∀ a, (zT s a).1 ≠ 0 → zT r a = zT s a) ⟨hi.ste hTI.2.2.2.1 hn hk (u := 3) (by decide), hTI.2.2.1, hTI.2.2.2.2.2.2.1.wL hTI.2.2.1 hTI.2.2.2.2.2.1 2 (by decide) rfl, rAb (hTI.2.2.2.1.ne 7 2 (by decide) (by decide) (by decide)), hTI.2.2.2.2.2.2.2.2.2.2.w (fun q => absurd q (hTI.2.2.2.1.ne 2 1 (by decide) (by decide) (by decide))) (fun _ => by omega), fun _ _ => rfl⟩ (fun s1 h1 => ?_)
  obtain ⟨h1i, h1T, h1z, h1q, h1Z, h1k⟩ := h1
  have h1o : zT s1 (xob Y) = (10, 0) := h1z.zo
  have h1g : zT s1 (lwg L) = (20, 32) := h1T 3 (by decide)
  have h1m : zT s1 (lwm L) = (20, 48) := h1T 1 (by decide)
  have h1e : zT s1 (lwe L) = (20, 48) := h1T 2 (by decide)
  refine zp_aload_n dL_styles_367 rfl (a := (xob Y)) (List.mem_of_getElem? (i := 4) rfl) ?_
  refine zp_iload dL_styles_368 (x := (nI k)) (List.mem_of_getElem? (i := 3) rfl) ?_
  refine zp_iconst dL_styles_370 (v := 4) (by decide) ?_
  refine zp_iload dL_styles_371 (x := 9) (List.mem_of_getElem? (i := 2) rfl) ?_
  refine zp_iadd dL_styles_373 ?_
  refine zp_iload dL_styles_374 (x := v) (List.mem_of_getElem? (i := 1) rfl) ?_
  refine zp_callV (c0 := 9) (st := []) (mc2 := 0) (ms2 := 0) dL_styles_376 (c_X12_style l G D X Y W T LL fr LL' fr' s1 k 13 v hTI.1 h1z (by omega) hTI.2.1.2 (hTI.1.st (by decide) (by decide) hv) hTT hk hk0 ht (by decide) (by decide) (sb_okv (by decide) hv)) cl_L_96 im_X12_style se_X12_style rfl rfl h1o rfl rfl (by omega) (by omega) (by omega) (Nat.le_of_ble_eq_true rfl) ?_
  rintro _ s2 ⟨rfl, T2, LL2, fr2, hT2, z2, f2⟩
  refine zp_iload dL_styles_379 (x := (dst D k 13)) (List.mem_of_getElem? (i := 0) rfl) ?_
  refine zp_icmp_ne dL_styles_381 (tgt := 388) rfl (fun q => absurd rfl q) (fun _ => ?_)
  refine zp_iconst dL_styles_384 (v := 1) (by decide) ?_
  refine zp_goto dL_styles_385 (tgt := 389) rfl ?_
  refine zp_zret rfl (Or.inr rfl) dL_styles_389 ?_
  exact ⟨rfl, stD D k 13 v, T2, LL2, fr2, hT2, rfl, hTI.st hk0 (by decide) (by decide) hv h1i h1T h1q h1Z z2 f2, fun a ha => (f2.1 a (by rw [h1k a ha]; exact ha)).trans (h1k a ha)⟩
set_option maxHeartbeats 8000000 in
theorem l_styW0 (l : Launch) {G : Gb} {D : Dt} {X : Cx} {Y : Cy} {W : Int32} {T : Nat} {LL : Nat → List Nat} {fr : List Nat} {LL' : Nat → List Nat} {fr' : List Nat} {L : Lw} {s : Sto} {z : Int32} (hTI : TI G D X Y W T LL fr LL' fr' L s) (hTT : T < 1000) {k : Nat} (hk0 : 0 < k) (hk : k < dn D) (ht : dtx D k = false) : Wp l G 38 48 288 (RL, cL_styles, 11, (some .boolean), false) 37 [(8, .int 0), (7, .int (nI k)), (0, .ref (xob Y)), (1, .int z), (2, .ref (lwt L)), (3, .ref (lwm L)), (4, .ref (lwe L)), (5, .ref (lwg L)), (6, .ref (lwq L))] [] s (fun v t => v = some (.int 1) ∧ ∃ D2 T2 LL2 fr2, T2 ≤ T + 1 ∧ dn D2 = dn D ∧ TI G D2 X Y W T2 LL2 fr2 LL' fr' L t ∧ Fo2 X Y (dn D) L s t) := by
  have hTt : zT s (lwt L) = (20, 64) := hTI.2.2.1 0 (by decide)
  have hTm : zT s (lwm L) = (20, 48) := hTI.2.2.1 1 (by decide)
  have hTe : zT s (lwe L) = (20, 48) := hTI.2.2.1 2 (by decide)
  have hTg : zT s (lwg L) = (20, 32) := hTI.2.2.1 3 (by decide)
  have hTq : zT s (lwq L) = (20, 8) := hTI.2.2.1 7 (by decide)
  have hob : zT s (xob Y) = (10, 0) := hTI.2.2.2.2.2.2.1.zo
  have hi := hTI.2.2.2.2.1
  have hn := hTI.1.2.1
  show Wp l G 38 48 288 (RL, cL_styles, 11, (some .boolean), false) 37 [(8, .int 0), (7, .int (nI k)), (0, .ref (xob Y)), (1, .int z), (2, .ref (lwt L)), (3, .ref (lwm L)), (4, .ref (lwe L)), (5, .ref (lwg L)), (6, .ref (lwq L))] [] s _
  refine zp_iload dL_styles_37 (x := 0) (List.mem_of_getElem? (i := 0) rfl) ?_
  refine zp_iconst dL_styles_39 (v := 2) (by decide) ?_
  refine zp_icmp_ge dL_styles_40 (tgt := 108) rfl (fun q => absurd q (by decide)) (fun _ => ?_)
  refine zp_iload_n dL_styles_43 rfl (x := z) (List.mem_of_getElem? (i := 3) rfl) ?_
  refine zp_bipush dL_styles_44 (v := 7) (by decide) ?_
  refine zp_ishr dL_styles_46 ?_
  refine zp_iconst dL_styles_47 (v := 3) (by decide) ?_
  refine zp_callS (st := []) (mc2 := 48) (ms2 := 288) dL_styles_48 (c_L_low l G _ 3 _ (by decide) (by decide)) cl_L_81 st_L_low rfl rfl (by omega) (by omega) (by omega) (Nat.le_of_ble_eq_true rfl) ?_
  rintro _ sx ⟨⟨x1, hx1, rfl⟩, hsx⟩; obtain rfl := hsx.symm
  refine zp_if_ne dL_styles_51 (tgt := 58) rfl (fun h51 => ?_) (fun h51 => ?_)
  · skip
    refine zp_iload_n dL_styles_58 rfl (x := z) (List.mem_of_getElem? (i := 3) rfl) ?_
    refine zp_bipush dL_styles_59 (v := 7) (by decide) ?_
    refine zp_ishr dL_styles_61 ?_
    refine zp_iconst dL_styles_62 (v := 3) (by decide) ?_
    refine zp_callS (st := []) (mc2 := 48) (ms2 := 288) dL_styles_63 (c_L_low l G _ 3 _ (by decide) (by decide)) cl_L_81 st_L_low rfl rfl (by omega) (by omega) (by omega) (Nat.le_of_ble_eq_true rfl) ?_
    rintro _ sx ⟨⟨x2, hx2, rfl⟩, hsx⟩; obtain rfl := hsx.symm
    refine zp_iconst dL_styles_66 (v := 1) (by decide) ?_
    refine zp_icmp_ne dL_styles_67 (tgt := 86) rfl (fun h67 => ?_) (fun h67 => ?_)
    · skip
      refine zp_iload_n dL_styles_86 rfl (x := z) (List.mem_of_getElem? (i := 3) rfl) ?_
      refine zp_bipush dL_styles_87 (v := 9) (by decide) ?_
      refine zp_ishr dL_styles_89 ?_
      refine zp_iload dL_styles_90 (x := 0) (List.mem_of_getElem? (i := 0) rfl) ?_
      refine zp_if_ne dL_styles_92 (tgt := 100) rfl (fun q => absurd (by decide) q) (fun _ => ?_)
      refine zp_bipush dL_styles_95 (v := 61) (by decide) ?_
      refine zp_goto dL_styles_97 (tgt := 102) rfl ?_
      refine zp_callS (st := []) (mc2 := 48) (ms2 := 288) dL_styles_102 (c_L_low l G _ 61 _ (by decide) (by decide)) cl_L_81 st_L_low rfl rfl (by omega) (by omega) (by omega) (Nat.le_of_ble_eq_true rfl) ?_
      rintro _ sx ⟨⟨x3, hx3, rfl⟩, hsx⟩; obtain rfl := hsx.symm
      refine zp_goto dL_styles_105 (tgt := 169) rfl ?_
      exact l_styV0 l hTI hTT hk0 hk ht (v := (nI x3)) (Or.inl ⟨by rw [nI_toInt (by omega)]; omega, by rw [nI_toInt (by omega)]; omega⟩)
    · skip
      refine zp_sipush dL_styles_70 (v := 1000) (by decide) ?_
      refine zp_iload_n dL_styles_73 rfl (x := z) (List.mem_of_getElem? (i := 3) rfl) ?_
      refine zp_bipush dL_styles_74 (v := 9) (by decide) ?_
      refine zp_ishr dL_styles_76 ?_
      refine zp_bipush dL_styles_77 (v := 101) (by decide) ?_
      refine zp_callS (st := [.int 1000]) (mc2 := 48) (ms2 := 288) dL_styles_79 (c_L_low l G _ 101 _ (by decide) (by decide)) cl_L_81 st_L_low rfl rfl (by omega) (by omega) (by omega) (Nat.le_of_ble_eq_true rfl) ?_
      rintro _ sx ⟨⟨x3, hx3, rfl⟩, hsx⟩; obtain rfl := hsx.symm
      refine zp_iadd dL_styles_82 ?_
      rw [show ((1000 + (nI x3)) : Int32) = (nI (1000 + x3)) from nI_add 1000 x3]
      refine zp_goto dL_styles_83 (tgt := 169) rfl ?_
      exact l_styV0 l hTI hTT hk0 hk ht (v := (nI (1000 + x3))) (Or.inr ⟨by rw [nI_toInt (by omega)]; omega, by rw [nI_toInt (by omega)]; omega⟩)
  · skip
    refine zp_iconst dL_styles_54 (v := (-1)) (by decide) ?_
    refine zp_goto dL_styles_55 (tgt := 169) rfl ?_
    exact l_styV0 l hTI hTT hk0 hk ht (v := (-1)) (Or.inl ⟨by decide, by decide⟩)
set_option maxHeartbeats 8000000 in
theorem l_styW1 (l : Launch) {G : Gb} {D : Dt} {X : Cx} {Y : Cy} {W : Int32} {T : Nat} {LL : Nat → List Nat} {fr : List Nat} {LL' : Nat → List Nat} {fr' : List Nat} {L : Lw} {s : Sto} {z : Int32} (hTI : TI G D X Y W T LL fr LL' fr' L s) (hTT : T < 1000) {k : Nat} (hk0 : 0 < k) (hk : k < dn D) (ht : dtx D k = false) : Wp l G 38 48 288 (RL, cL_styles, 11, (some .boolean), false) 37 [(8, .int 1), (7, .int (nI k)), (0, .ref (xob Y)), (1, .int z), (2, .ref (lwt L)), (3, .ref (lwm L)), (4, .ref (lwe L)), (5, .ref (lwg L)), (6, .ref (lwq L))] [] s (fun v t => v = some (.int 1) ∧ ∃ D2 T2 LL2 fr2, T2 ≤ T + 1 ∧ dn D2 = dn D ∧ TI G D2 X Y W T2 LL2 fr2 LL' fr' L t ∧ Fo2 X Y (dn D) L s t) := by
  have hTt : zT s (lwt L) = (20, 64) := hTI.2.2.1 0 (by decide)
  have hTm : zT s (lwm L) = (20, 48) := hTI.2.2.1 1 (by decide)
  have hTe : zT s (lwe L) = (20, 48) := hTI.2.2.1 2 (by decide)
  have hTg : zT s (lwg L) = (20, 32) := hTI.2.2.1 3 (by decide)
  have hTq : zT s (lwq L) = (20, 8) := hTI.2.2.1 7 (by decide)
  have hob : zT s (xob Y) = (10, 0) := hTI.2.2.2.2.2.2.1.zo
  have hi := hTI.2.2.2.2.1
  have hn := hTI.1.2.1
  show Wp l G 38 48 288 (RL, cL_styles, 11, (some .boolean), false) 37 [(8, .int 1), (7, .int (nI k)), (0, .ref (xob Y)), (1, .int z), (2, .ref (lwt L)), (3, .ref (lwm L)), (4, .ref (lwe L)), (5, .ref (lwg L)), (6, .ref (lwq L))] [] s _
  refine zp_iload dL_styles_37 (x := 1) (List.mem_of_getElem? (i := 0) rfl) ?_
  refine zp_iconst dL_styles_39 (v := 2) (by decide) ?_
  refine zp_icmp_ge dL_styles_40 (tgt := 108) rfl (fun q => absurd q (by decide)) (fun _ => ?_)
  refine zp_iload_n dL_styles_43 rfl (x := z) (List.mem_of_getElem? (i := 3) rfl) ?_
  refine zp_bipush dL_styles_44 (v := 7) (by decide) ?_
  refine zp_ishr dL_styles_46 ?_
  refine zp_iconst dL_styles_47 (v := 3) (by decide) ?_
  refine zp_callS (st := []) (mc2 := 48) (ms2 := 288) dL_styles_48 (c_L_low l G _ 3 _ (by decide) (by decide)) cl_L_81 st_L_low rfl rfl (by omega) (by omega) (by omega) (Nat.le_of_ble_eq_true rfl) ?_
  rintro _ sx ⟨⟨x1, hx1, rfl⟩, hsx⟩; obtain rfl := hsx.symm
  refine zp_if_ne dL_styles_51 (tgt := 58) rfl (fun h51 => ?_) (fun h51 => ?_)
  · skip
    refine zp_iload_n dL_styles_58 rfl (x := z) (List.mem_of_getElem? (i := 3) rfl) ?_
    refine zp_bipush dL_styles_59 (v := 7) (by decide) ?_
    refine zp_ishr dL_styles_61 ?_
    refine zp_iconst dL_styles_62 (v := 3) (by decide) ?_
    refine zp_callS (st := []) (mc2 := 48) (ms2 := 288) dL_styles_63 (c_L_low l G _ 3 _ (by decide) (by decide)) cl_L_81 st_L_low rfl rfl (by omega) (by omega) (by omega) (Nat.le_of_ble_eq_true rfl) ?_
    rintro _ sx ⟨⟨x2, hx2, rfl⟩, hsx⟩; obtain rfl := hsx.symm
    refine zp_iconst dL_styles_66 (v := 1) (by decide) ?_
    refine zp_icmp_ne dL_styles_67 (tgt := 86) rfl (fun h67 => ?_) (fun h67 => ?_)
    · skip
      refine zp_iload_n dL_styles_86 rfl (x := z) (List.mem_of_getElem? (i := 3) rfl) ?_
      refine zp_bipush dL_styles_87 (v := 9) (by decide) ?_
      refine zp_ishr dL_styles_89 ?_
      refine zp_iload dL_styles_90 (x := 1) (List.mem_of_getElem? (i := 0) rfl) ?_
      refine zp_if_ne dL_styles_92 (tgt := 100) rfl (fun _ => ?_) (fun q => absurd q (by decide))
      refine zp_bipush dL_styles_100 (v := 20) (by decide) ?_
      refine zp_callS (st := []) (mc2 := 48) (ms2 := 288) dL_styles_102 (c_L_low l G _ 20 _ (by decide) (by decide)) cl_L_81 st_L_low rfl rfl (by omega) (by omega) (by omega) (Nat.le_of_ble_eq_true rfl) ?_
      rintro _ sx ⟨⟨x3, hx3, rfl⟩, hsx⟩; obtain rfl := hsx.symm
      refine zp_goto dL_styles_105 (tgt := 169) rfl ?_
      exact l_styV1 l hTI hTT hk0 hk ht (v := (nI x3)) (Or.inl ⟨by rw [nI_toInt (by omega)]; omega, by rw [nI_toInt (by omega)]; omega⟩)
    · skip
      refine zp_sipush dL_styles_70 (v := 1000) (by decide) ?_
      refine zp_iload_n dL_styles_73 rfl (x := z) (List.mem_of_getElem? (i := 3) rfl) ?_
      refine zp_bipush dL_styles_74 (v := 9) (by decide) ?_
      refine zp_ishr dL_styles_76 ?_
      refine zp_bipush dL_styles_77 (v := 101) (by decide) ?_
      refine zp_callS (st := [.int 1000]) (mc2 := 48) (ms2 := 288) dL_styles_79 (c_L_low l G _ 101 _ (by decide) (by decide)) cl_L_81 st_L_low rfl rfl (by omega) (by omega) (by omega) (Nat.le_of_ble_eq_true rfl) ?_
      rintro _ sx ⟨⟨x3, hx3, rfl⟩, hsx⟩; obtain rfl := hsx.symm
      refine zp_iadd dL_styles_82 ?_
      rw [show ((1000 + (nI x3)) : Int32) = (nI (1000 + x3)) from nI_add 1000 x3]
      refine zp_goto dL_styles_83 (tgt := 169) rfl ?_
      exact l_styV1 l hTI hTT hk0 hk ht (v := (nI (1000 + x3))) (Or.inr ⟨by rw [nI_toInt (by omega)]; omega, by rw [nI_toInt (by omega)]; omega⟩)
  · skip
    refine zp_iconst dL_styles_54 (v := (-1)) (by decide) ?_
    refine zp_goto dL_styles_55 (tgt := 169) rfl ?_
    exact l_styV1 l hTI hTT hk0 hk ht (v := (-1)) (Or.inl ⟨by decide, by decide⟩)
set_option maxHeartbeats 8000000 in
theorem l_styW2 (l : Launch) {G : Gb} {D : Dt} {X : Cx} {Y : Cy} {W : Int32} {T : Nat} {LL : Nat → List Nat} {fr : List Nat} {LL' : Nat → List Nat} {fr' : List Nat} {L : Lw} {s : Sto} {z : Int32} (hTI : TI G D X Y W T LL fr LL' fr' L s) (hTT : T < 1000) {k : Nat} (hk0 : 0 < k) (hk : k < dn D) (ht : dtx D k = false) : Wp l G 38 48 288 (RL, cL_styles, 11, (some .boolean), false) 37 [(8, .int 2), (7, .int (nI k)), (0, .ref (xob Y)), (1, .int z), (2, .ref (lwt L)), (3, .ref (lwm L)), (4, .ref (lwe L)), (5, .ref (lwg L)), (6, .ref (lwq L))] [] s (fun v t => v = some (.int 1) ∧ ∃ D2 T2 LL2 fr2, T2 ≤ T + 1 ∧ dn D2 = dn D ∧ TI G D2 X Y W T2 LL2 fr2 LL' fr' L t ∧ Fo2 X Y (dn D) L s t) := by
  have hTt : zT s (lwt L) = (20, 64) := hTI.2.2.1 0 (by decide)
  have hTm : zT s (lwm L) = (20, 48) := hTI.2.2.1 1 (by decide)
  have hTe : zT s (lwe L) = (20, 48) := hTI.2.2.1 2 (by decide)
  have hTg : zT s (lwg L) = (20, 32) := hTI.2.2.1 3 (by decide)
  have hTq : zT s (lwq L) = (20, 8) := hTI.2.2.1 7 (by decide)
  have hob : zT s (xob Y) = (10, 0) := hTI.2.2.2.2.2.2.1.zo
  have hi := hTI.2.2.2.2.1
  have hn := hTI.1.2.1
  show Wp l G 38 48 288 (RL, cL_styles, 11, (some .boolean), false) 37 [(8, .int 2), (7, .int (nI k)), (0, .ref (xob Y)), (1, .int z), (2, .ref (lwt L)), (3, .ref (lwm L)), (4, .ref (lwe L)), (5, .ref (lwg L)), (6, .ref (lwq L))] [] s _
  refine zp_iload dL_styles_37 (x := 2) (List.mem_of_getElem? (i := 0) rfl) ?_
  refine zp_iconst dL_styles_39 (v := 2) (by decide) ?_
  refine zp_icmp_ge dL_styles_40 (tgt := 108) rfl (fun _ => ?_) (fun q => absurd (by decide) q)
  refine zp_iload dL_styles_108 (x := 2) (List.mem_of_getElem? (i := 0) rfl) ?_
  refine zp_bipush dL_styles_110 (v := 6) (by decide) ?_
  refine zp_icmp_ge dL_styles_112 (tgt := 145) rfl (fun q => absurd q (by decide)) (fun _ => ?_)
  refine zp_iload_n dL_styles_115 rfl (x := z) (List.mem_of_getElem? (i := 3) rfl) ?_
  refine zp_bipush dL_styles_116 (v := 9) (by decide) ?_
  refine zp_ishr dL_styles_118 ?_
  refine zp_bipush dL_styles_119 (v := 31) (by decide) ?_
  refine zp_callS (st := []) (mc2 := 48) (ms2 := 288) dL_styles_121 (c_L_low l G _ 31 _ (by decide) (by decide)) cl_L_81 st_L_low rfl rfl (by omega) (by omega) (by omega) (Nat.le_of_ble_eq_true rfl) ?_
  rintro _ sx ⟨⟨x3, hx3, rfl⟩, hsx⟩; obtain rfl := hsx.symm
  refine zp_iload_n dL_styles_124 rfl (x := z) (List.mem_of_getElem? (i := 3) rfl) ?_
  refine zp_bipush dL_styles_125 (v := 7) (by decide) ?_
  refine zp_ishr dL_styles_127 ?_
  refine zp_iconst dL_styles_128 (v := 2) (by decide) ?_
  refine zp_callS (st := [.int (nI x3)]) (mc2 := 48) (ms2 := 288) dL_styles_129 (c_L_low l G _ 2 _ (by decide) (by decide)) cl_L_81 st_L_low rfl rfl (by omega) (by omega) (by omega) (Nat.le_of_ble_eq_true rfl) ?_
  rintro _ sx ⟨⟨x4, hx4, rfl⟩, hsx⟩; obtain rfl := hsx.symm
  refine zp_if_ne dL_styles_132 (tgt := 140) rfl (fun h132 => ?_) (fun h132 => ?_)
  · skip
    refine zp_iconst dL_styles_140 (v := 0) (by decide) ?_
    refine zp_isub dL_styles_141 ?_
    refine zp_goto dL_styles_142 (tgt := 169) rfl ?_
    exact l_styV2 l hTI hTT hk0 hk ht (v := ((nI x3) - 0)) (sb_m (by omega) (by decide))
  · skip
    refine zp_bipush dL_styles_135 (v := 15) (by decide) ?_
    refine zp_goto dL_styles_137 (tgt := 141) rfl ?_
    refine zp_isub dL_styles_141 ?_
    refine zp_goto dL_styles_142 (tgt := 169) rfl ?_
    exact l_styV2 l hTI hTT hk0 hk ht (v := ((nI x3) - 15)) (sb_m15 (by omega) (by decide))
set_option maxHeartbeats 8000000 in
theorem l_styW3 (l : Launch) {G : Gb} {D : Dt} {X : Cx} {Y : Cy} {W : Int32} {T : Nat} {LL : Nat → List Nat} {fr : List Nat} {LL' : Nat → List Nat} {fr' : List Nat} {L : Lw} {s : Sto} {z : Int32} (hTI : TI G D X Y W T LL fr LL' fr' L s) (hTT : T < 1000) {k : Nat} (hk0 : 0 < k) (hk : k < dn D) (ht : dtx D k = false) : Wp l G 38 48 288 (RL, cL_styles, 11, (some .boolean), false) 37 [(8, .int 3), (7, .int (nI k)), (0, .ref (xob Y)), (1, .int z), (2, .ref (lwt L)), (3, .ref (lwm L)), (4, .ref (lwe L)), (5, .ref (lwg L)), (6, .ref (lwq L))] [] s (fun v t => v = some (.int 1) ∧ ∃ D2 T2 LL2 fr2, T2 ≤ T + 1 ∧ dn D2 = dn D ∧ TI G D2 X Y W T2 LL2 fr2 LL' fr' L t ∧ Fo2 X Y (dn D) L s t) := by
  have hTt : zT s (lwt L) = (20, 64) := hTI.2.2.1 0 (by decide)
  have hTm : zT s (lwm L) = (20, 48) := hTI.2.2.1 1 (by decide)
  have hTe : zT s (lwe L) = (20, 48) := hTI.2.2.1 2 (by decide)
  have hTg : zT s (lwg L) = (20, 32) := hTI.2.2.1 3 (by decide)
  have hTq : zT s (lwq L) = (20, 8) := hTI.2.2.1 7 (by decide)
  have hob : zT s (xob Y) = (10, 0) := hTI.2.2.2.2.2.2.1.zo
  have hi := hTI.2.2.2.2.1
  have hn := hTI.1.2.1
  show Wp l G 38 48 288 (RL, cL_styles, 11, (some .boolean), false) 37 [(8, .int 3), (7, .int (nI k)), (0, .ref (xob Y)), (1, .int z), (2, .ref (lwt L)), (3, .ref (lwm L)), (4, .ref (lwe L)), (5, .ref (lwg L)), (6, .ref (lwq L))] [] s _
  refine zp_iload dL_styles_37 (x := 3) (List.mem_of_getElem? (i := 0) rfl) ?_
  refine zp_iconst dL_styles_39 (v := 2) (by decide) ?_
  refine zp_icmp_ge dL_styles_40 (tgt := 108) rfl (fun _ => ?_) (fun q => absurd (by decide) q)
  refine zp_iload dL_styles_108 (x := 3) (List.mem_of_getElem? (i := 0) rfl) ?_
  refine zp_bipush dL_styles_110 (v := 6) (by decide) ?_
  refine zp_icmp_ge dL_styles_112 (tgt := 145) rfl (fun q => absurd q (by decide)) (fun _ => ?_)
  refine zp_iload_n dL_styles_115 rfl (x := z) (List.mem_of_getElem? (i := 3) rfl) ?_
  refine zp_bipush dL_styles_116 (v := 9) (by decide) ?_
  refine zp_ishr dL_styles_118 ?_
  refine zp_bipush dL_styles_119 (v := 31) (by decide) ?_
  refine zp_callS (st := []) (mc2 := 48) (ms2 := 288) dL_styles_121 (c_L_low l G _ 31 _ (by decide) (by decide)) cl_L_81 st_L_low rfl rfl (by omega) (by omega) (by omega) (Nat.le_of_ble_eq_true rfl) ?_
  rintro _ sx ⟨⟨x3, hx3, rfl⟩, hsx⟩; obtain rfl := hsx.symm
  refine zp_iload_n dL_styles_124 rfl (x := z) (List.mem_of_getElem? (i := 3) rfl) ?_
  refine zp_bipush dL_styles_125 (v := 7) (by decide) ?_
  refine zp_ishr dL_styles_127 ?_
  refine zp_iconst dL_styles_128 (v := 2) (by decide) ?_
  refine zp_callS (st := [.int (nI x3)]) (mc2 := 48) (ms2 := 288) dL_styles_129 (c_L_low l G _ 2 _ (by decide) (by decide)) cl_L_81 st_L_low rfl rfl (by omega) (by omega) (by omega) (Nat.le_of_ble_eq_true rfl) ?_
  rintro _ sx ⟨⟨x4, hx4, rfl⟩, hsx⟩; obtain rfl := hsx.symm
  refine zp_if_ne dL_styles_132 (tgt := 140) rfl (fun h132 => ?_) (fun h132 => ?_)
  · skip
    refine zp_iconst dL_styles_140 (v := 0) (by decide) ?_
    refine zp_isub dL_styles_141 ?_
    refine zp_goto dL_styles_142 (tgt := 169) rfl ?_
    exact l_styV3 l hTI hTT hk0 hk ht (v := ((nI x3) - 0)) (sb_m (by omega) (by decide))
  · skip
    refine zp_bipush dL_styles_135 (v := 15) (by decide) ?_
    refine zp_goto dL_styles_137 (tgt := 141) rfl ?_
    refine zp_isub dL_styles_141 ?_
    refine zp_goto dL_styles_142 (tgt := 169) rfl ?_
    exact l_styV3 l hTI hTT hk0 hk ht (v := ((nI x3) - 15)) (sb_m15 (by omega) (by decide))
set_option maxHeartbeats 8000000 in
theorem l_styW4 (l : Launch) {G : Gb} {D : Dt} {X : Cx} {Y : Cy} {W : Int32} {T : Nat} {LL : Nat → List Nat} {fr : List Nat} {LL' : Nat → List Nat} {fr' : List Nat} {L : Lw} {s : Sto} {z : Int32} (hTI : TI G D X Y W T LL fr LL' fr' L s) (hTT : T < 1000) {k : Nat} (hk0 : 0 < k) (hk : k < dn D) (ht : dtx D k = false) : Wp l G 38 48 288 (RL, cL_styles, 11, (some .boolean), false) 37 [(8, .int 4), (7, .int (nI k)), (0, .ref (xob Y)), (1, .int z), (2, .ref (lwt L)), (3, .ref (lwm L)), (4, .ref (lwe L)), (5, .ref (lwg L)), (6, .ref (lwq L))] [] s (fun v t => v = some (.int 1) ∧ ∃ D2 T2 LL2 fr2, T2 ≤ T + 1 ∧ dn D2 = dn D ∧ TI G D2 X Y W T2 LL2 fr2 LL' fr' L t ∧ Fo2 X Y (dn D) L s t) := by
  have hTt : zT s (lwt L) = (20, 64) := hTI.2.2.1 0 (by decide)
  have hTm : zT s (lwm L) = (20, 48) := hTI.2.2.1 1 (by decide)
  have hTe : zT s (lwe L) = (20, 48) := hTI.2.2.1 2 (by decide)
  have hTg : zT s (lwg L) = (20, 32) := hTI.2.2.1 3 (by decide)
  have hTq : zT s (lwq L) = (20, 8) := hTI.2.2.1 7 (by decide)
  have hob : zT s (xob Y) = (10, 0) := hTI.2.2.2.2.2.2.1.zo
  have hi := hTI.2.2.2.2.1
  have hn := hTI.1.2.1
  show Wp l G 38 48 288 (RL, cL_styles, 11, (some .boolean), false) 37 [(8, .int 4), (7, .int (nI k)), (0, .ref (xob Y)), (1, .int z), (2, .ref (lwt L)), (3, .ref (lwm L)), (4, .ref (lwe L)), (5, .ref (lwg L)), (6, .ref (lwq L))] [] s _
  refine zp_iload dL_styles_37 (x := 4) (List.mem_of_getElem? (i := 0) rfl) ?_
  refine zp_iconst dL_styles_39 (v := 2) (by decide) ?_
  refine zp_icmp_ge dL_styles_40 (tgt := 108) rfl (fun _ => ?_) (fun q => absurd (by decide) q)
  refine zp_iload dL_styles_108 (x := 4) (List.mem_of_getElem? (i := 0) rfl) ?_
  refine zp_bipush dL_styles_110 (v := 6) (by decide) ?_
  refine zp_icmp_ge dL_styles_112 (tgt := 145) rfl (fun q => absurd q (by decide)) (fun _ => ?_)
  refine zp_iload_n dL_styles_115 rfl (x := z) (List.mem_of_getElem? (i := 3) rfl) ?_
  refine zp_bipush dL_styles_116 (v := 9) (by decide) ?_
  refine zp_ishr dL_styles_118 ?_
  refine zp_bipush dL_styles_119 (v := 31) (by decide) ?_
  refine zp_callS (st := []) (mc2 := 48) (ms2 := 288) dL_styles_121 (c_L_low l G _ 31 _ (by decide) (by decide)) cl_L_81 st_L_low rfl rfl (by omega) (by omega) (by omega) (Nat.le_of_ble_eq_true rfl) ?_
  rintro _ sx ⟨⟨x3, hx3, rfl⟩, hsx⟩; obtain rfl := hsx.symm
  refine zp_iload_n dL_styles_124 rfl (x := z) (List.mem_of_getElem? (i := 3) rfl) ?_
  refine zp_bipush dL_styles_125 (v := 7) (by decide) ?_
  refine zp_ishr dL_styles_127 ?_
  refine zp_iconst dL_styles_128 (v := 2) (by decide) ?_
  refine zp_callS (st := [.int (nI x3)]) (mc2 := 48) (ms2 := 288) dL_styles_129 (c_L_low l G _ 2 _ (by decide) (by decide)) cl_L_81 st_L_low rfl rfl (by omega) (by omega) (by omega) (Nat.le_of_ble_eq_true rfl) ?_
  rintro _ sx ⟨⟨x4, hx4, rfl⟩, hsx⟩; obtain rfl := hsx.symm
  refine zp_if_ne dL_styles_132 (tgt := 140) rfl (fun h132 => ?_) (fun h132 => ?_)
  · skip
    refine zp_iconst dL_styles_140 (v := 0) (by decide) ?_
    refine zp_isub dL_styles_141 ?_
    refine zp_goto dL_styles_142 (tgt := 169) rfl ?_
    exact l_styV4 l hTI hTT hk0 hk ht (v := ((nI x3) - 0)) (sb_m (by omega) (by decide))
  · skip
    refine zp_bipush dL_styles_135 (v := 15) (by decide) ?_
    refine zp_goto dL_styles_137 (tgt := 141) rfl ?_
    refine zp_isub dL_styles_141 ?_
    refine zp_goto dL_styles_142 (tgt := 169) rfl ?_
    exact l_styV4 l hTI hTT hk0 hk ht (v := ((nI x3) - 15)) (sb_m15 (by omega) (by decide))
set_option maxHeartbeats 8000000 in
theorem l_styW5 (l : Launch) {G : Gb} {D : Dt} {X : Cx} {Y : Cy} {W : Int32} {T : Nat} {LL : Nat → List Nat} {fr : List Nat} {LL' : Nat → List Nat} {fr' : List Nat} {L : Lw} {s : Sto} {z : Int32} (hTI : TI G D X Y W T LL fr LL' fr' L s) (hTT : T < 1000) {k : Nat} (hk0 : 0 < k) (hk : k < dn D) (ht : dtx D k = false) : Wp l G 38 48 288 (RL, cL_styles, 11, (some .boolean), false) 37 [(8, .int 5), (7, .int (nI k)), (0, .ref (xob Y)), (1, .int z), (2, .ref (lwt L)), (3, .ref (lwm L)), (4, .ref (lwe L)), (5, .ref (lwg L)), (6, .ref (lwq L))] [] s (fun v t => v = some (.int 1) ∧ ∃ D2 T2 LL2 fr2, T2 ≤ T + 1 ∧ dn D2 = dn D ∧ TI G D2 X Y W T2 LL2 fr2 LL' fr' L t ∧ Fo2 X Y (dn D) L s t) := by
  have hTt : zT s (lwt L) = (20, 64) := hTI.2.2.1 0 (by decide)
  have hTm : zT s (lwm L) = (20, 48) := hTI.2.2.1 1 (by decide)
  have hTe : zT s (lwe L) = (20, 48) := hTI.2.2.1 2 (by decide)
  have hTg : zT s (lwg L) = (20, 32) := hTI.2.2.1 3 (by decide)
  have hTq : zT s (lwq L) = (20, 8) := hTI.2.2.1 7 (by decide)
  have hob : zT s (xob Y) = (10, 0) := hTI.2.2.2.2.2.2.1.zo
  have hi := hTI.2.2.2.2.1
  have hn := hTI.1.2.1
  show Wp l G 38 48 288 (RL, cL_styles, 11, (some .boolean), false) 37 [(8, .int 5), (7, .int (nI k)), (0, .ref (xob Y)), (1, .int z), (2, .ref (lwt L)), (3, .ref (lwm L)), (4, .ref (lwe L)), (5, .ref (lwg L)), (6, .ref (lwq L))] [] s _
  refine zp_iload dL_styles_37 (x := 5) (List.mem_of_getElem? (i := 0) rfl) ?_
  refine zp_iconst dL_styles_39 (v := 2) (by decide) ?_
  refine zp_icmp_ge dL_styles_40 (tgt := 108) rfl (fun _ => ?_) (fun q => absurd (by decide) q)
  refine zp_iload dL_styles_108 (x := 5) (List.mem_of_getElem? (i := 0) rfl) ?_
  refine zp_bipush dL_styles_110 (v := 6) (by decide) ?_
  refine zp_icmp_ge dL_styles_112 (tgt := 145) rfl (fun q => absurd q (by decide)) (fun _ => ?_)
  refine zp_iload_n dL_styles_115 rfl (x := z) (List.mem_of_getElem? (i := 3) rfl) ?_
  refine zp_bipush dL_styles_116 (v := 9) (by decide) ?_
  refine zp_ishr dL_styles_118 ?_
  refine zp_bipush dL_styles_119 (v := 31) (by decide) ?_
  refine zp_callS (st := []) (mc2 := 48) (ms2 := 288) dL_styles_121 (c_L_low l G _ 31 _ (by decide) (by decide)) cl_L_81 st_L_low rfl rfl (by omega) (by omega) (by omega) (Nat.le_of_ble_eq_true rfl) ?_
  rintro _ sx ⟨⟨x3, hx3, rfl⟩, hsx⟩; obtain rfl := hsx.symm
  refine zp_iload_n dL_styles_124 rfl (x := z) (List.mem_of_getElem? (i := 3) rfl) ?_
  refine zp_bipush dL_styles_125 (v := 7) (by decide) ?_
  refine zp_ishr dL_styles_127 ?_
  refine zp_iconst dL_styles_128 (v := 2) (by decide) ?_
  refine zp_callS (st := [.int (nI x3)]) (mc2 := 48) (ms2 := 288) dL_styles_129 (c_L_low l G _ 2 _ (by decide) (by decide)) cl_L_81 st_L_low rfl rfl (by omega) (by omega) (by omega) (Nat.le_of_ble_eq_true rfl) ?_
  rintro _ sx ⟨⟨x4, hx4, rfl⟩, hsx⟩; obtain rfl := hsx.symm
  refine zp_if_ne dL_styles_132 (tgt := 140) rfl (fun h132 => ?_) (fun h132 => ?_)
  · skip
    refine zp_iconst dL_styles_140 (v := 0) (by decide) ?_
    refine zp_isub dL_styles_141 ?_
    refine zp_goto dL_styles_142 (tgt := 169) rfl ?_
    exact l_styV5 l hTI hTT hk0 hk ht (v := ((nI x3) - 0)) (sb_m (by omega) (by decide))
  · skip
    refine zp_bipush dL_styles_135 (v := 15) (by decide) ?_
    refine zp_goto dL_styles_137 (tgt := 141) rfl ?_
    refine zp_isub dL_styles_141 ?_
    refine zp_goto dL_styles_142 (tgt := 169) rfl ?_
    exact l_styV5 l hTI hTT hk0 hk ht (v := ((nI x3) - 15)) (sb_m15 (by omega) (by decide))
set_option maxHeartbeats 8000000 in
theorem l_styW6 (l : Launch) {G : Gb} {D : Dt} {X : Cx} {Y : Cy} {W : Int32} {T : Nat} {LL : Nat → List Nat} {fr : List Nat} {LL' : Nat → List Nat} {fr' : List Nat} {L : Lw} {s : Sto} {z : Int32} (hTI : TI G D X Y W T LL fr LL' fr' L s) (hTT : T < 1000) {k : Nat} (hk0 : 0 < k) (hk : k < dn D) (ht : dtx D k = false) : Wp l G 38 48 288 (RL, cL_styles, 11, (some .boolean), false) 37 [(8, .int 6), (7, .int (nI k)), (0, .ref (xob Y)), (1, .int z), (2, .ref (lwt L)), (3, .ref (lwm L)), (4, .ref (lwe L)), (5, .ref (lwg L)), (6, .ref (lwq L))] [] s (fun v t => v = some (.int 1) ∧ ∃ D2 T2 LL2 fr2, T2 ≤ T + 1 ∧ dn D2 = dn D ∧ TI G D2 X Y W T2 LL2 fr2 LL' fr' L t ∧ Fo2 X Y (dn D) L s t) := by
  have hTt : zT s (lwt L) = (20, 64) := hTI.2.2.1 0 (by decide)
  have hTm : zT s (lwm L) = (20, 48) := hTI.2.2.1 1 (by decide)
  have hTe : zT s (lwe L) = (20, 48) := hTI.2.2.1 2 (by decide)
  have hTg : zT s (lwg L) = (20, 32) := hTI.2.2.1 3 (by decide)
  have hTq : zT s (lwq L) = (20, 8) := hTI.2.2.1 7 (by decide)
  have hob : zT s (xob Y) = (10, 0) := hTI.2.2.2.2.2.2.1.zo
  have hi := hTI.2.2.2.2.1
  have hn := hTI.1.2.1
  show Wp l G 38 48 288 (RL, cL_styles, 11, (some .boolean), false) 37 [(8, .int 6), (7, .int (nI k)), (0, .ref (xob Y)), (1, .int z), (2, .ref (lwt L)), (3, .ref (lwm L)), (4, .ref (lwe L)), (5, .ref (lwg L)), (6, .ref (lwq L))] [] s _
  refine zp_iload dL_styles_37 (x := 6) (List.mem_of_getElem? (i := 0) rfl) ?_
  refine zp_iconst dL_styles_39 (v := 2) (by decide) ?_
  refine zp_icmp_ge dL_styles_40 (tgt := 108) rfl (fun _ => ?_) (fun q => absurd (by decide) q)
  refine zp_iload dL_styles_108 (x := 6) (List.mem_of_getElem? (i := 0) rfl) ?_
  refine zp_bipush dL_styles_110 (v := 6) (by decide) ?_
  refine zp_icmp_ge dL_styles_112 (tgt := 145) rfl (fun _ => ?_) (fun q => absurd (by decide) q)
  refine zp_iload_n dL_styles_145 rfl (x := z) (List.mem_of_getElem? (i := 3) rfl) ?_
  refine zp_bipush dL_styles_146 (v := 7) (by decide) ?_
  refine zp_ishr dL_styles_148 ?_
  refine zp_iconst dL_styles_149 (v := 2) (by decide) ?_
  refine zp_callS (st := []) (mc2 := 48) (ms2 := 288) dL_styles_150 (c_L_low l G _ 2 _ (by decide) (by decide)) cl_L_81 st_L_low rfl rfl (by omega) (by omega) (by omega) (Nat.le_of_ble_eq_true rfl) ?_
  rintro _ sx ⟨⟨x1, hx1, rfl⟩, hsx⟩; obtain rfl := hsx.symm
  refine zp_if_ne dL_styles_153 (tgt := 160) rfl (fun h153 => ?_) (fun h153 => ?_)
  · skip
    refine zp_iload_n dL_styles_160 rfl (x := z) (List.mem_of_getElem? (i := 3) rfl) ?_
    refine zp_bipush dL_styles_161 (v := 9) (by decide) ?_
    refine zp_ishr dL_styles_163 ?_
    refine zp_bipush dL_styles_164 (v := 9) (by decide) ?_
    refine zp_callS (st := []) (mc2 := 48) (ms2 := 288) dL_styles_166 (c_L_low l G _ 9 _ (by decide) (by decide)) cl_L_81 st_L_low rfl rfl (by omega) (by omega) (by omega) (Nat.le_of_ble_eq_true rfl) ?_
    rintro _ sx ⟨⟨x3, hx3, rfl⟩, hsx⟩; obtain rfl := hsx.symm
    exact l_styV6 l hTI hTT hk0 hk ht (v := (nI x3)) (sb_e (by omega) (by decide))
  · skip
    refine zp_iconst dL_styles_156 (v := 0) (by decide) ?_
    refine zp_goto dL_styles_157 (tgt := 169) rfl ?_
    exact l_styV6 l hTI hTT hk0 hk ht (v := 0) (sb_e0 (by decide))
set_option maxHeartbeats 8000000 in
theorem l_styW7 (l : Launch) {G : Gb} {D : Dt} {X : Cx} {Y : Cy} {W : Int32} {T : Nat} {LL : Nat → List Nat} {fr : List Nat} {LL' : Nat → List Nat} {fr' : List Nat} {L : Lw} {s : Sto} {z : Int32} (hTI : TI G D X Y W T LL fr LL' fr' L s) (hTT : T < 1000) {k : Nat} (hk0 : 0 < k) (hk : k < dn D) (ht : dtx D k = false) : Wp l G 38 48 288 (RL, cL_styles, 11, (some .boolean), false) 37 [(8, .int 7), (7, .int (nI k)), (0, .ref (xob Y)), (1, .int z), (2, .ref (lwt L)), (3, .ref (lwm L)), (4, .ref (lwe L)), (5, .ref (lwg L)), (6, .ref (lwq L))] [] s (fun v t => v = some (.int 1) ∧ ∃ D2 T2 LL2 fr2, T2 ≤ T + 1 ∧ dn D2 = dn D ∧ TI G D2 X Y W T2 LL2 fr2 LL' fr' L t ∧ Fo2 X Y (dn D) L s t) := by
  have hTt : zT s (lwt L) = (20, 64) := hTI.2.2.1 0 (by decide)
  have hTm : zT s (lwm L) = (20, 48) := hTI.2.2.1 1 (by decide)
  have hTe : zT s (lwe L) = (20, 48) := hTI.2.2.1 2 (by decide)
  have hTg : zT s (lwg L) = (20, 32) := hTI.2.2.1 3 (by decide)
  have hTq : zT s (lwq L) = (20, 8) := hTI.2.2.1 7 (by decide)
  have hob : zT s (xob Y) = (10, 0) := hTI.2.2.2.2.2.2.1.zo
  have hi := hTI.2.2.2.2.1
  have hn := hTI.1.2.1
  show Wp l G 38 48 288 (RL, cL_styles, 11, (some .boolean), false) 37 [(8, .int 7), (7, .int (nI k)), (0, .ref (xob Y)), (1, .int z), (2, .ref (lwt L)), (3, .ref (lwm L)), (4, .ref (lwe L)), (5, .ref (lwg L)), (6, .ref (lwq L))] [] s _
  refine zp_iload dL_styles_37 (x := 7) (List.mem_of_getElem? (i := 0) rfl) ?_
  refine zp_iconst dL_styles_39 (v := 2) (by decide) ?_
  refine zp_icmp_ge dL_styles_40 (tgt := 108) rfl (fun _ => ?_) (fun q => absurd (by decide) q)
  refine zp_iload dL_styles_108 (x := 7) (List.mem_of_getElem? (i := 0) rfl) ?_
  refine zp_bipush dL_styles_110 (v := 6) (by decide) ?_
  refine zp_icmp_ge dL_styles_112 (tgt := 145) rfl (fun _ => ?_) (fun q => absurd (by decide) q)
  refine zp_iload_n dL_styles_145 rfl (x := z) (List.mem_of_getElem? (i := 3) rfl) ?_
  refine zp_bipush dL_styles_146 (v := 7) (by decide) ?_
  refine zp_ishr dL_styles_148 ?_
  refine zp_iconst dL_styles_149 (v := 2) (by decide) ?_
  refine zp_callS (st := []) (mc2 := 48) (ms2 := 288) dL_styles_150 (c_L_low l G _ 2 _ (by decide) (by decide)) cl_L_81 st_L_low rfl rfl (by omega) (by omega) (by omega) (Nat.le_of_ble_eq_true rfl) ?_
  rintro _ sx ⟨⟨x1, hx1, rfl⟩, hsx⟩; obtain rfl := hsx.symm
  refine zp_if_ne dL_styles_153 (tgt := 160) rfl (fun h153 => ?_) (fun h153 => ?_)
  · skip
    refine zp_iload_n dL_styles_160 rfl (x := z) (List.mem_of_getElem? (i := 3) rfl) ?_
    refine zp_bipush dL_styles_161 (v := 9) (by decide) ?_
    refine zp_ishr dL_styles_163 ?_
    refine zp_bipush dL_styles_164 (v := 9) (by decide) ?_
    refine zp_callS (st := []) (mc2 := 48) (ms2 := 288) dL_styles_166 (c_L_low l G _ 9 _ (by decide) (by decide)) cl_L_81 st_L_low rfl rfl (by omega) (by omega) (by omega) (Nat.le_of_ble_eq_true rfl) ?_
    rintro _ sx ⟨⟨x3, hx3, rfl⟩, hsx⟩; obtain rfl := hsx.symm
    exact l_styV7 l hTI hTT hk0 hk ht (v := (nI x3)) (sb_e (by omega) (by decide))
  · skip
    refine zp_iconst dL_styles_156 (v := 0) (by decide) ?_
    refine zp_goto dL_styles_157 (tgt := 169) rfl ?_
    exact l_styV7 l hTI hTT hk0 hk ht (v := 0) (sb_e0 (by decide))
set_option maxHeartbeats 8000000 in
theorem l_styW8 (l : Launch) {G : Gb} {D : Dt} {X : Cx} {Y : Cy} {W : Int32} {T : Nat} {LL : Nat → List Nat} {fr : List Nat} {LL' : Nat → List Nat} {fr' : List Nat} {L : Lw} {s : Sto} {z : Int32} (hTI : TI G D X Y W T LL fr LL' fr' L s) (hTT : T < 1000) {k : Nat} (hk0 : 0 < k) (hk : k < dn D) (ht : dtx D k = false) : Wp l G 38 48 288 (RL, cL_styles, 11, (some .boolean), false) 37 [(8, .int 8), (7, .int (nI k)), (0, .ref (xob Y)), (1, .int z), (2, .ref (lwt L)), (3, .ref (lwm L)), (4, .ref (lwe L)), (5, .ref (lwg L)), (6, .ref (lwq L))] [] s (fun v t => v = some (.int 1) ∧ ∃ D2 T2 LL2 fr2, T2 ≤ T + 1 ∧ dn D2 = dn D ∧ TI G D2 X Y W T2 LL2 fr2 LL' fr' L t ∧ Fo2 X Y (dn D) L s t) := by
  have hTt : zT s (lwt L) = (20, 64) := hTI.2.2.1 0 (by decide)
  have hTm : zT s (lwm L) = (20, 48) := hTI.2.2.1 1 (by decide)
  have hTe : zT s (lwe L) = (20, 48) := hTI.2.2.1 2 (by decide)
  have hTg : zT s (lwg L) = (20, 32) := hTI.2.2.1 3 (by decide)
  have hTq : zT s (lwq L) = (20, 8) := hTI.2.2.1 7 (by decide)
  have hob : zT s (xob Y) = (10, 0) := hTI.2.2.2.2.2.2.1.zo
  have hi := hTI.2.2.2.2.1
  have hn := hTI.1.2.1
  show Wp l G 38 48 288 (RL, cL_styles, 11, (some .boolean), false) 37 [(8, .int 8), (7, .int (nI k)), (0, .ref (xob Y)), (1, .int z), (2, .ref (lwt L)), (3, .ref (lwm L)), (4, .ref (lwe L)), (5, .ref (lwg L)), (6, .ref (lwq L))] [] s _
  refine zp_iload dL_styles_37 (x := 8) (List.mem_of_getElem? (i := 0) rfl) ?_
  refine zp_iconst dL_styles_39 (v := 2) (by decide) ?_
  refine zp_icmp_ge dL_styles_40 (tgt := 108) rfl (fun _ => ?_) (fun q => absurd (by decide) q)
  refine zp_iload dL_styles_108 (x := 8) (List.mem_of_getElem? (i := 0) rfl) ?_
  refine zp_bipush dL_styles_110 (v := 6) (by decide) ?_
  refine zp_icmp_ge dL_styles_112 (tgt := 145) rfl (fun _ => ?_) (fun q => absurd (by decide) q)
  refine zp_iload_n dL_styles_145 rfl (x := z) (List.mem_of_getElem? (i := 3) rfl) ?_
  refine zp_bipush dL_styles_146 (v := 7) (by decide) ?_
  refine zp_ishr dL_styles_148 ?_
  refine zp_iconst dL_styles_149 (v := 2) (by decide) ?_
  refine zp_callS (st := []) (mc2 := 48) (ms2 := 288) dL_styles_150 (c_L_low l G _ 2 _ (by decide) (by decide)) cl_L_81 st_L_low rfl rfl (by omega) (by omega) (by omega) (Nat.le_of_ble_eq_true rfl) ?_
  rintro _ sx ⟨⟨x1, hx1, rfl⟩, hsx⟩; obtain rfl := hsx.symm
  refine zp_if_ne dL_styles_153 (tgt := 160) rfl (fun h153 => ?_) (fun h153 => ?_)
  · skip
    refine zp_iload_n dL_styles_160 rfl (x := z) (List.mem_of_getElem? (i := 3) rfl) ?_
    refine zp_bipush dL_styles_161 (v := 9) (by decide) ?_
    refine zp_ishr dL_styles_163 ?_
    refine zp_bipush dL_styles_164 (v := 9) (by decide) ?_
    refine zp_callS (st := []) (mc2 := 48) (ms2 := 288) dL_styles_166 (c_L_low l G _ 9 _ (by decide) (by decide)) cl_L_81 st_L_low rfl rfl (by omega) (by omega) (by omega) (Nat.le_of_ble_eq_true rfl) ?_
    rintro _ sx ⟨⟨x3, hx3, rfl⟩, hsx⟩; obtain rfl := hsx.symm
    exact l_styV8 l hTI hTT hk0 hk ht (v := (nI x3)) (sb_e (by omega) (by decide))
  · skip
    refine zp_iconst dL_styles_156 (v := 0) (by decide) ?_
    refine zp_goto dL_styles_157 (tgt := 169) rfl ?_
    exact l_styV8 l hTI hTT hk0 hk ht (v := 0) (sb_e0 (by decide))
set_option maxHeartbeats 8000000 in
theorem l_styW9 (l : Launch) {G : Gb} {D : Dt} {X : Cx} {Y : Cy} {W : Int32} {T : Nat} {LL : Nat → List Nat} {fr : List Nat} {LL' : Nat → List Nat} {fr' : List Nat} {L : Lw} {s : Sto} {z : Int32} (hTI : TI G D X Y W T LL fr LL' fr' L s) (hTT : T < 1000) {k : Nat} (hk0 : 0 < k) (hk : k < dn D) (ht : dtx D k = false) : Wp l G 38 48 288 (RL, cL_styles, 11, (some .boolean), false) 37 [(8, .int 9), (7, .int (nI k)), (0, .ref (xob Y)), (1, .int z), (2, .ref (lwt L)), (3, .ref (lwm L)), (4, .ref (lwe L)), (5, .ref (lwg L)), (6, .ref (lwq L))] [] s (fun v t => v = some (.int 1) ∧ ∃ D2 T2 LL2 fr2, T2 ≤ T + 1 ∧ dn D2 = dn D ∧ TI G D2 X Y W T2 LL2 fr2 LL' fr' L t ∧ Fo2 X Y (dn D) L s t) := by
  have hTt : zT s (lwt L) = (20, 64) := hTI.2.2.1 0 (by decide)
  have hTm : zT s (lwm L) = (20, 48) := hTI.2.2.1 1 (by decide)
  have hTe : zT s (lwe L) = (20, 48) := hTI.2.2.1 2 (by decide)
  have hTg : zT s (lwg L) = (20, 32) := hTI.2.2.1 3 (by decide)
  have hTq : zT s (lwq L) = (20, 8) := hTI.2.2.1 7 (by decide)
  have hob : zT s (xob Y) = (10, 0) := hTI.2.2.2.2.2.2.1.zo
  have hi := hTI.2.2.2.2.1
  have hn := hTI.1.2.1
  show Wp l G 38 48 288 (RL, cL_styles, 11, (some .boolean), false) 37 [(8, .int 9), (7, .int (nI k)), (0, .ref (xob Y)), (1, .int z), (2, .ref (lwt L)), (3, .ref (lwm L)), (4, .ref (lwe L)), (5, .ref (lwg L)), (6, .ref (lwq L))] [] s _
  refine zp_iload dL_styles_37 (x := 9) (List.mem_of_getElem? (i := 0) rfl) ?_
  refine zp_iconst dL_styles_39 (v := 2) (by decide) ?_
  refine zp_icmp_ge dL_styles_40 (tgt := 108) rfl (fun _ => ?_) (fun q => absurd (by decide) q)
  refine zp_iload dL_styles_108 (x := 9) (List.mem_of_getElem? (i := 0) rfl) ?_
  refine zp_bipush dL_styles_110 (v := 6) (by decide) ?_
  refine zp_icmp_ge dL_styles_112 (tgt := 145) rfl (fun _ => ?_) (fun q => absurd (by decide) q)
  refine zp_iload_n dL_styles_145 rfl (x := z) (List.mem_of_getElem? (i := 3) rfl) ?_
  refine zp_bipush dL_styles_146 (v := 7) (by decide) ?_
  refine zp_ishr dL_styles_148 ?_
  refine zp_iconst dL_styles_149 (v := 2) (by decide) ?_
  refine zp_callS (st := []) (mc2 := 48) (ms2 := 288) dL_styles_150 (c_L_low l G _ 2 _ (by decide) (by decide)) cl_L_81 st_L_low rfl rfl (by omega) (by omega) (by omega) (Nat.le_of_ble_eq_true rfl) ?_
  rintro _ sx ⟨⟨x1, hx1, rfl⟩, hsx⟩; obtain rfl := hsx.symm
  refine zp_if_ne dL_styles_153 (tgt := 160) rfl (fun h153 => ?_) (fun h153 => ?_)
  · skip
    refine zp_iload_n dL_styles_160 rfl (x := z) (List.mem_of_getElem? (i := 3) rfl) ?_
    refine zp_bipush dL_styles_161 (v := 9) (by decide) ?_
    refine zp_ishr dL_styles_163 ?_
    refine zp_bipush dL_styles_164 (v := 9) (by decide) ?_
    refine zp_callS (st := []) (mc2 := 48) (ms2 := 288) dL_styles_166 (c_L_low l G _ 9 _ (by decide) (by decide)) cl_L_81 st_L_low rfl rfl (by omega) (by omega) (by omega) (Nat.le_of_ble_eq_true rfl) ?_
    rintro _ sx ⟨⟨x3, hx3, rfl⟩, hsx⟩; obtain rfl := hsx.symm
    exact l_styV9 l hTI hTT hk0 hk ht (v := (nI x3)) (sb_e (by omega) (by decide))
  · skip
    refine zp_iconst dL_styles_156 (v := 0) (by decide) ?_
    refine zp_goto dL_styles_157 (tgt := 169) rfl ?_
    exact l_styV9 l hTI hTT hk0 hk ht (v := 0) (sb_e0 (by decide))
set_option maxHeartbeats 8000000 in
theorem c_L_styles (l : Launch) (G : Gb) (D : Dt) (X : Cx) (Y : Cy) (W : Int32) (T : Nat) (LL : Nat → List Nat) (fr : List Nat) (LL' : Nat → List Nat) (fr' : List Nat) (L : Lw) (s : Sto) (z : Int32) (hTI : TI G D X Y W T LL fr LL' fr' L s) (hTT : T < 1000) (hd2 : 2 ≤ dn D) : Ct l G 38 48 288 yL_styles mL_styles [.ref (xob Y), .int z, .ref (lwt L), .ref (lwm L), .ref (lwe L), .ref (lwg L), .ref (lwq L)] s (fun v t => v = some (.int 1) ∧ ∃ D2 T2 LL2 fr2, T2 ≤ T + 1 ∧ dn D2 = dn D ∧ TI G D2 X Y W T2 LL2 fr2 LL' fr' L t ∧ Fo2 X Y (dn D) L s t) := by
  have hTt : zT s (lwt L) = (20, 64) := hTI.2.2.1 0 (by decide)
  have hTm : zT s (lwm L) = (20, 48) := hTI.2.2.1 1 (by decide)
  have hTe : zT s (lwe L) = (20, 48) := hTI.2.2.1 2 (by decide)
  have hTg : zT s (lwg L) = (20, 32) := hTI.2.2.1 3 (by decide)
  have hTq : zT s (lwq L) = (20, 8) := hTI.2.2.1 7 (by decide)
  have hob : zT s (xob Y) = (10, 0) := hTI.2.2.2.2.2.2.1.zo
  have hi := hTI.2.2.2.2.1
  have hn := hTI.1.2.1
  refine Ct.of (by decide) rfl (Nat.le_of_ble_eq_true rfl) (fun h => absurd h (by decide)) ?_
  show Wp l G 38 48 288 (RL, cL_styles, 11, (some .boolean), false) 0 [(0, .ref (xob Y)), (1, .int z), (2, .ref (lwt L)), (3, .ref (lwm L)), (4, .ref (lwe L)), (5, .ref (lwg L)), (6, .ref (lwq L))] [] s _
  refine zp_iconst dL_styles_0 (v := 1) (by decide) ?_
  refine zp_iload_n dL_styles_1 rfl (x := z) (List.mem_of_getElem? (i := 1) rfl) ?_
  refine zp_aload dL_styles_2 (a := (lwq L)) (List.mem_of_getElem? (i := 6) rfl) ?_
  refine zp_iconst dL_styles_4 (v := 3) (by decide) ?_
  refine zp_iald_v dL_styles_5 hTq (Or.inl rfl) (j := 3) (by decide) (zin (by decide)) (v := (nI (dn D))) hi.2.1 ?_
  refine zp_iconst dL_styles_6 (v := 1) (by decide) ?_
  refine zp_isub dL_styles_7 ?_
  rw [show (((nI (dn D)) - 1) : Int32) = (nI (dn D - 1)) from (nI_sub (k := 1) (by omega) (by omega))]
  refine zp_callS (st := [.int 1]) (mc2 := 48) (ms2 := 288) dL_styles_8 (c_L_low l G _ (dn D - 1) _ (by omega) (by omega)) cl_L_81 st_L_low rfl rfl (by omega) (by omega) (by omega) (Nat.le_of_ble_eq_true rfl) ?_
  rintro _ sx ⟨⟨x0, hx0, rfl⟩, hsx⟩; obtain rfl := hsx.symm
  refine zp_iadd dL_styles_11 ?_
  rw [show ((1 + (nI x0)) : Int32) = (nI (1 + x0)) from nI_add 1 x0]
  generalize hk1 : 1 + x0 = k
  have hk0 : 0 < k := by omega
  have hk : k < dn D := by omega
  refine zp_istore dL_styles_12 (Nat.le_of_ble_eq_true rfl) (lv2 := [(7, .int (nI k)), (0, .ref (xob Y)), (1, .int z), (2, .ref (lwt L)), (3, .ref (lwm L)), (4, .ref (lwe L)), (5, .ref (lwg L)), (6, .ref (lwq L))]) rfl ?_
  refine zp_aload_n dL_styles_14 rfl (a := (lwt L)) (List.mem_of_getElem? (i := 3) rfl) ?_
  refine zp_bipush dL_styles_15 (v := 16) (by decide) ?_
  refine zp_iload dL_styles_17 (x := (nI k)) (List.mem_of_getElem? (i := 0) rfl) ?_
  refine zp_iadd dL_styles_19 ?_
  rw [show ((16 + (nI k)) : Int32) = (nI (16 + k)) from nI_add 16 k]
  refine zp_iald_v dL_styles_20 hTt (Or.inl rfl) (j := (16 + k)) (nI_clamp (by omega)) (vp_in_nI (by omega) (by decide)) (v := (zb (dtx D k = true))) (hi.1 k hk).2.1 ?_
  refine zp_iconst dL_styles_21 (v := 1) (by decide) ?_
  refine zp_icmp_ne dL_styles_22 (tgt := 27) rfl (fun h22 => ?_) (fun h22 => ?_)
  · have ht : dtx D k = false := by cases e : dtx D k; rfl; exact absurd (zb_t e) h22
    refine zp_iload_n dL_styles_27 rfl (x := z) (List.mem_of_getElem? (i := 2) rfl) ?_
    refine zp_iconst dL_styles_28 (v := 4) (by decide) ?_
    refine zp_ishr dL_styles_29 ?_
    refine zp_bipush dL_styles_30 (v := 10) (by decide) ?_
    refine zp_callS (st := []) (mc2 := 48) (ms2 := 288) dL_styles_32 (c_L_low l G _ 10 _ (by decide) (by decide)) cl_L_81 st_L_low rfl rfl (by omega) (by omega) (by omega) (Nat.le_of_ble_eq_true rfl) ?_
    rintro _ sx ⟨⟨wh, hwh, rfl⟩, hsx⟩; obtain rfl := hsx.symm
    refine zp_istore dL_styles_35 (Nat.le_of_ble_eq_true rfl) (lv2 := [(8, .int (nI wh)), (7, .int (nI k)), (0, .ref (xob Y)), (1, .int z), (2, .ref (lwt L)), (3, .ref (lwm L)), (4, .ref (lwe L)), (5, .ref (lwg L)), (6, .ref (lwq L))]) rfl ?_
    have hw : wh = 0 ∨ wh = 1 ∨ wh = 2 ∨ wh = 3 ∨ wh = 4 ∨ wh = 5 ∨ wh = 6 ∨ wh = 7 ∨ wh = 8 ∨ wh = 9 := by omega
    rcases hw with rfl | rfl | rfl | rfl | rfl | rfl | rfl | rfl | rfl | rfl
    · exact l_styW0 l hTI hTT hk0 hk ht
    · exact l_styW1 l hTI hTT hk0 hk ht
    · exact l_styW2 l hTI hTT hk0 hk ht
    · exact l_styW3 l hTI hTT hk0 hk ht
    · exact l_styW4 l hTI hTT hk0 hk ht
    · exact l_styW5 l hTI hTT hk0 hk ht
    · exact l_styW6 l hTI hTT hk0 hk ht
    · exact l_styW7 l hTI hTT hk0 hk ht
    · exact l_styW8 l hTI hTT hk0 hk ht
    · exact l_styW9 l hTI hTT hk0 hk ht
  · skip
    refine zp_iconst dL_styles_25 (v := 1) (by decide) ?_
    refine zp_zret rfl (Or.inr rfl) dL_styles_26 ?_
    exact ⟨rfl, D, T, LL, fr, Nat.le_succ T, rfl, hTI, fun _ _ => rfl⟩

/-! A TURN OF THE LAW (by wip/p27/gen_turn.py) -/
theorem TI.turn {G D X Y W T LL fr LL' fr' LL2 fr2 LL3 fr3} {L : Lw} {σ s t : Sto} (h : TI G D X Y W T LL fr LL' fr' L σ) (f1 : LF L σ s) (hs : LA D W L s) (A : LA D W L t) (z : Rz G D X Y W T LL2 fr2 LL3 fr3 t) (f2 : Fo X Y (dn D) s t) : TI G D X Y W T LL2 fr2 LL3 fr3 L t := by
  obtain ⟨a1, a2, a3, a4, a5, a6, a7, a8, a9, a10, a11⟩ := h
  have hr := a6.rows hs.1 f2
  have k1 : zA s (lwm L) = zA σ (lwm L) := f1.2.2.2.2.1 (lwm L) (a4.ne 1 5 (by decide) (by decide) (by decide)) (a4.ne 1 6 (by decide) (by decide) (by decide)) (a4.ne 1 7 (by decide) (by decide) (by decide)) (a4.ne 1 8 (by decide) (by decide) (by decide))
  have k2 : zA s (lwe L) = zA σ (lwe L) := f1.2.2.2.2.1 (lwe L) (a4.ne 2 5 (by decide) (by decide) (by decide)) (a4.ne 2 6 (by decide) (by decide) (by decide)) (a4.ne 2 7 (by decide) (by decide) (by decide)) (a4.ne 2 8 (by decide) (by decide) (by decide))
  have hZ : TZ (dn D) L s := fun j i hj h12 hi => by rw [k1, k2]; exact a11 j i hj h12 hi
  refine ⟨a1, a2, A.1, a4, A.2.1, a6, z, a8, ?_, a10, hZ.keep hr⟩
  rw [show zA t (lwq L) = zA s (lwq L) from hr 7 (by decide)]
  exact f1.2.2.2.2.2.trans a9
/-- at the head of a turn -/
def LH (G : Gb) (ob b n i : Nat) (L : Lw) (σ : Sto) : Prop := ∃ D X Y W T LL fr LL' fr', TI G D X Y W T LL fr LL' fr' L σ ∧ xob Y = ob ∧ T ≤ 5 * i ∧ (i ≤ 5 → dn D = i + 1) ∧ (5 ≤ i → 6 ≤ dn D) ∧ zT σ b = (25, n)
set_option maxHeartbeats 8000000 in
theorem l_238 (l : Launch) {G : Gb} {D : Dt} {X : Cx} {Y : Cy} {W : Int32} {T : Nat} {LL : Nat → List Nat} {fr : List Nat} {LL' : Nat → List Nat} {fr' : List Nat} {L : Lw} {s : Sto} {b n i m : Nat} {Q : Option Value → Sto → Prop} (hTI : TI G D X Y W T LL fr LL' fr' L s) (hB : zT s b = (25, n)) (h60 : i < 60) {ob : Nat} (hY : xob Y = ob) (hT5 : T ≤ 5 * (i + 1)) (hd1 : i + 1 ≤ 5 → dn D = i + 1 + 1) (hd2 : 5 ≤ i + 1 → 6 ≤ dn D) (kk : ∀ t, LH G ob b n (i + 1) L t → Wp l G 39 (859 * m) (5244 * m) (RL, cL_law, 15, (some .boolean), false) 85 [(11, .int (nI (i + 1))), (0, .ref b), (1, .ref ob), (2, .ref (lwt L)), (3, .ref (lwm L)), (4, .ref (lwe L)), (5, .ref (lwg L)), (6, .ref (lwl L)), (7, .ref (lwa L)), (8, .ref (lwh L)), (9, .ref (lwq L)), (10, .ref (lwn L))] [] t Q) : Wp l G 39 (859 * m + 528) (5244 * m + 3168) (RL, cL_law, 15, (some .boolean), false) 238 [(13, .int 1), (11, .int (nI i)), (0, .ref b), (1, .ref ob), (2, .ref (lwt L)), (3, .ref (lwm L)), (4, .ref (lwe L)), (5, .ref (lwg L)), (6, .ref (lwl L)), (7, .ref (lwa L)), (8, .ref (lwh L)), (9, .ref (lwq L)), (10, .ref (lwn L))] [] s Q := by
  subst hY
  have hY : xob Y = xob Y := rfl
  have hTt : zT s (lwt L) = (20, 64) := hTI.2.2.1 0 (by decide)
  have hTm : zT s (lwm L) = (20, 48) := hTI.2.2.1 1 (by decide)
  have hTe : zT s (lwe L) = (20, 48) := hTI.2.2.1 2 (by decide)
  have hTg : zT s (lwg L) = (20, 32) := hTI.2.2.1 3 (by decide)
  have hTl : zT s (lwl L) = (20, 48) := hTI.2.2.1 4 (by decide)
  have hTa : zT s (lwa L) = (20, 64) := hTI.2.2.1 5 (by decide)
  have hTh : zT s (lwh L) = (20, 16) := hTI.2.2.1 6 (by decide)
  have hTq : zT s (lwq L) = (20, 8) := hTI.2.2.1 7 (by decide)
  have hTn : zT s (lwn L) = (20, 64) := hTI.2.2.1 8 (by decide)
  have hob : zT s (xob Y) = (10, 0) := hTI.2.2.2.2.2.2.1.zo
  have hi := hTI.2.2.2.2.1
  have hn := hTI.1.2.1
  have hd := hTI.2.2.2.1
  show Wp l G 39 (859 * m + 528) (5244 * m + 3168) (RL, cL_law, 15, (some .boolean), false) 238 [(13, .int 1), (11, .int (nI i)), (0, .ref b), (1, .ref (xob Y)), (2, .ref (lwt L)), (3, .ref (lwm L)), (4, .ref (lwe L)), (5, .ref (lwg L)), (6, .ref (lwl L)), (7, .ref (lwa L)), (8, .ref (lwh L)), (9, .ref (lwq L)), (10, .ref (lwn L))] [] s _
  refine zp_aload_n dL_law_238 rfl (a := (lwt L)) (List.mem_of_getElem? (i := 4) rfl) ?_
  refine zp_aload_n dL_law_239 rfl (a := (lwm L)) (List.mem_of_getElem? (i := 5) rfl) ?_
  refine zp_aload dL_law_240 (a := (lwe L)) (List.mem_of_getElem? (i := 6) rfl) ?_
  refine zp_aload dL_law_242 (a := (lwg L)) (List.mem_of_getElem? (i := 7) rfl) ?_
  refine zp_aload dL_law_244 (a := (lwl L)) (List.mem_of_getElem? (i := 8) rfl) ?_
  refine zp_aload dL_law_246 (a := (lwa L)) (List.mem_of_getElem? (i := 9) rfl) ?_
  refine zp_aload dL_law_248 (a := (lwh L)) (List.mem_of_getElem? (i := 10) rfl) ?_
  refine zp_aload dL_law_250 (a := (lwq L)) (List.mem_of_getElem? (i := 11) rfl) ?_
  refine zp_aload dL_law_252 (a := (lwn L)) (List.mem_of_getElem? (i := 12) rfl) ?_
  refine zp_callS (st := []) (mc2 := (859 * m + 528)) (ms2 := (5244 * m + 3168)) dL_law_254 (c_L_lays l G D W L s hTI.1 hTI.2.2.1 hd hi (by have := hTI.2.1.1; omega) hTI.2.1.2 hTI.2.2.2.2.2.2.2.2.2.1) cl_L_115 st_L_lays rfl rfl (by omega) (by omega) (by omega) (Nat.le_of_ble_eq_true rfl) ?_
  rintro _ s1 ⟨rfl, a, h, hB1, hl1, f1⟩
  have hA1 : LA D W L s1 := LA.of hTI.1 hB1 hl1
  have z1 := hTI.2.2.2.2.2.2.1.lf hTI.2.2.1 hTI.2.2.2.2.2.1 f1
  refine zp_iload dL_law_257 (x := 1) (List.mem_of_getElem? (i := 0) rfl) ?_
  refine zp_if_eq dL_law_259 (tgt := 278) rfl (fun q => absurd q (by decide)) (fun _ => ?_)
  refine zp_aload_n dL_law_262 rfl (a := (xob Y)) (List.mem_of_getElem? (i := 3) rfl) ?_
  refine zp_aload_n dL_law_263 rfl (a := (lwt L)) (List.mem_of_getElem? (i := 4) rfl) ?_
  refine zp_aload dL_law_264 (a := (lwe L)) (List.mem_of_getElem? (i := 6) rfl) ?_
  refine zp_aload dL_law_266 (a := (lwa L)) (List.mem_of_getElem? (i := 9) rfl) ?_
  refine zp_aload dL_law_268 (a := (lwq L)) (List.mem_of_getElem? (i := 11) rfl) ?_
  refine zp_aload dL_law_270 (a := (lwn L)) (List.mem_of_getElem? (i := 12) rfl) ?_
  refine zp_callS (st := []) (mc2 := (859 * m)) (ms2 := (5244 * m)) dL_law_272 (c_L_same l G D X Y W T LL fr LL' fr' L s1 hTI.1 (by have := hTI.2.1.1; omega) hTI.2.1.2 hTI.2.2.2.2.2.1 z1 hA1 (hTI.2.2.2.2.2.2.2.1 0 (by decide)) (hTI.2.2.2.2.2.2.2.1 1 (by decide)) (hTI.2.2.2.2.2.2.2.1 2 (by decide)) (hTI.2.2.2.2.2.2.2.1 3 (by decide))) cl_L_119 st_L_same rfl rfl (by omega) (by omega) (by omega) (Nat.le_of_ble_eq_true rfl) ?_
  rintro _ s2 ⟨rfl, LLa, fra, LLb, frb, z2, A2, f2⟩
  refine zp_if_ne dL_law_275 (tgt := 280) rfl (fun _ => ?_) (fun q => absurd q (by decide))
  refine zp_iinc dL_law_280 (k1 := 1) (x := (nI i)) rfl (v := (nI (i + 1))) (nI_1 i) (Nat.le_of_ble_eq_true rfl) (lv2 := [(11, .int (nI (i + 1))), (13, .int 1), (0, .ref b), (1, .ref (xob Y)), (2, .ref (lwt L)), (3, .ref (lwm L)), (4, .ref (lwe L)), (5, .ref (lwg L)), (6, .ref (lwl L)), (7, .ref (lwa L)), (8, .ref (lwh L)), (9, .ref (lwq L)), (10, .ref (lwn L))]) rfl ?_
  refine zp_goto dL_law_283 (tgt := 85) rfl ?_
  refine zp_lv [0, 2, 3, 4, 5, 6, 7, 8, 9, 10, 11, 12] rfl ?_
  exact kk s2 ⟨D, X, Y, W, T, LLa, fra, LLb, frb, hTI.turn f1 hA1 A2 z2 f2, hY, hT5, hd1, hd2, (f2.1 b (by rw [show zT s1 b = zT s b from congrFun f1.1 b, hB]; exact (by decide : (25 : Nat) ≠ 0))).trans ((congrFun f1.1 b).trans hB)⟩
set_option maxHeartbeats 8000000 in
theorem l_127 (l : Launch) {G : Gb} {D : Dt} {X : Cx} {Y : Cy} {W : Int32} {T : Nat} {LL : Nat → List Nat} {fr : List Nat} {LL' : Nat → List Nat} {fr' : List Nat} {L : Lw} {s : Sto} {b n i m : Nat} {Q : Option Value → Sto → Prop} (hTI : TI G D X Y W T LL fr LL' fr' L s) (hB : zT s b = (25, n)) (h60 : i < 60) {y : Int32} (hT5 : T ≤ 5 * i) (hd1 : i ≤ 5 → dn D = i + 1) (hd2 : 5 ≤ i → 6 ≤ dn D) (hn12 : dn D < 12) (kk : ∀ t, LH G (xob Y) b n (i + 1) L t → Wp l G 39 (859 * m) (5244 * m) (RL, cL_law, 15, (some .boolean), false) 85 [(11, .int (nI (i + 1))), (0, .ref b), (1, .ref (xob Y)), (2, .ref (lwt L)), (3, .ref (lwm L)), (4, .ref (lwe L)), (5, .ref (lwg L)), (6, .ref (lwl L)), (7, .ref (lwa L)), (8, .ref (lwh L)), (9, .ref (lwq L)), (10, .ref (lwn L))] [] t Q) : Wp l G 39 (859 * (m + 1)) (5244 * (m + 1)) (RL, cL_law, 15, (some .boolean), false) 127 [(13, .int 1), (12, .int y), (11, .int (nI i)), (0, .ref b), (1, .ref (xob Y)), (2, .ref (lwt L)), (3, .ref (lwm L)), (4, .ref (lwe L)), (5, .ref (lwg L)), (6, .ref (lwl L)), (7, .ref (lwa L)), (8, .ref (lwh L)), (9, .ref (lwq L)), (10, .ref (lwn L))] [] s Q := by
  have hTt : zT s (lwt L) = (20, 64) := hTI.2.2.1 0 (by decide)
  have hTm : zT s (lwm L) = (20, 48) := hTI.2.2.1 1 (by decide)
  have hTe : zT s (lwe L) = (20, 48) := hTI.2.2.1 2 (by decide)
  have hTg : zT s (lwg L) = (20, 32) := hTI.2.2.1 3 (by decide)
  have hTl : zT s (lwl L) = (20, 48) := hTI.2.2.1 4 (by decide)
  have hTa : zT s (lwa L) = (20, 64) := hTI.2.2.1 5 (by decide)
  have hTh : zT s (lwh L) = (20, 16) := hTI.2.2.1 6 (by decide)
  have hTq : zT s (lwq L) = (20, 8) := hTI.2.2.1 7 (by decide)
  have hTn : zT s (lwn L) = (20, 64) := hTI.2.2.1 8 (by decide)
  have hob : zT s (xob Y) = (10, 0) := hTI.2.2.2.2.2.2.1.zo
  have hi := hTI.2.2.2.2.1
  have hn := hTI.1.2.1
  have hd := hTI.2.2.2.1
  show Wp l G 39 (859 * (m + 1)) (5244 * (m + 1)) (RL, cL_law, 15, (some .boolean), false) 127 [(13, .int 1), (12, .int y), (11, .int (nI i)), (0, .ref b), (1, .ref (xob Y)), (2, .ref (lwt L)), (3, .ref (lwm L)), (4, .ref (lwe L)), (5, .ref (lwg L)), (6, .ref (lwl L)), (7, .ref (lwa L)), (8, .ref (lwh L)), (9, .ref (lwq L)), (10, .ref (lwn L))] [] s _
  refine zp_aload_n dL_law_127 rfl (a := (xob Y)) (List.mem_of_getElem? (i := 4) rfl) ?_
  refine zp_iload dL_law_128 (x := y) (List.mem_of_getElem? (i := 1) rfl) ?_
  refine zp_iconst dL_law_130 (v := 3) (by decide) ?_
  refine zp_ishr dL_law_131 ?_
  refine zp_aload_n dL_law_132 rfl (a := (lwt L)) (List.mem_of_getElem? (i := 5) rfl) ?_
  refine zp_aload dL_law_133 (a := (lwg L)) (List.mem_of_getElem? (i := 8) rfl) ?_
  refine zp_aload dL_law_135 (a := (lwl L)) (List.mem_of_getElem? (i := 9) rfl) ?_
  refine zp_aload dL_law_137 (a := (lwq L)) (List.mem_of_getElem? (i := 12) rfl) ?_
  refine zp_callS (st := []) (mc2 := (859 * m + 528)) (ms2 := (5244 * m + 3168)) dL_law_139 (c_L_makes l G D X Y W T LL fr LL' fr' L s _ hTI (by omega) hn12) cl_L_104 st_L_makes rfl rfl (by omega) (by omega) (by omega) (Nat.le_of_ble_eq_true rfl) ?_
  rintro _ s2 ⟨rfl, D2, X2, Y2, T2, LL2, fr2, LL3, hT2, hdn, oe, h2, f2⟩
  refine zp_istore dL_law_142 (Nat.le_of_ble_eq_true rfl) (lv2 := [(13, .int 1), (12, .int y), (11, .int (nI i)), (0, .ref b), (1, .ref (xob Y)), (2, .ref (lwt L)), (3, .ref (lwm L)), (4, .ref (lwe L)), (5, .ref (lwg L)), (6, .ref (lwl L)), (7, .ref (lwa L)), (8, .ref (lwh L)), (9, .ref (lwq L)), (10, .ref (lwn L))]) rfl ?_
  refine zp_goto dL_law_144 (tgt := 238) rfl ?_
  refine zp_lv [0, 2, 3, 4, 5, 6, 7, 8, 9, 10, 11, 12, 13] rfl ?_
  exact l_238 l h2 ((f2 b (by rw [hB]; exact (by decide : (25 : Nat) ≠ 0))).trans hB) h60 oe (by omega) (by omega) (by omega) kk
set_option maxHeartbeats 8000000 in
theorem l_220 (l : Launch) {G : Gb} {D : Dt} {X : Cx} {Y : Cy} {W : Int32} {T : Nat} {LL : Nat → List Nat} {fr : List Nat} {LL' : Nat → List Nat} {fr' : List Nat} {L : Lw} {s : Sto} {b n i m : Nat} {Q : Option Value → Sto → Prop} (hTI : TI G D X Y W T LL fr LL' fr' L s) (hB : zT s b = (25, n)) (h60 : i < 60) {y : Int32} (hT5 : T ≤ 5 * i) (hd1 : i ≤ 5 → dn D = i + 1) (hd2 : 5 ≤ i → 6 ≤ dn D) (hi5 : 5 ≤ i) (kk : ∀ t, LH G (xob Y) b n (i + 1) L t → Wp l G 39 (859 * m) (5244 * m) (RL, cL_law, 15, (some .boolean), false) 85 [(11, .int (nI (i + 1))), (0, .ref b), (1, .ref (xob Y)), (2, .ref (lwt L)), (3, .ref (lwm L)), (4, .ref (lwe L)), (5, .ref (lwg L)), (6, .ref (lwl L)), (7, .ref (lwa L)), (8, .ref (lwh L)), (9, .ref (lwq L)), (10, .ref (lwn L))] [] t Q) : Wp l G 39 (859 * (m + 1)) (5244 * (m + 1)) (RL, cL_law, 15, (some .boolean), false) 220 [(13, .int 1), (12, .int y), (11, .int (nI i)), (0, .ref b), (1, .ref (xob Y)), (2, .ref (lwt L)), (3, .ref (lwm L)), (4, .ref (lwe L)), (5, .ref (lwg L)), (6, .ref (lwl L)), (7, .ref (lwa L)), (8, .ref (lwh L)), (9, .ref (lwq L)), (10, .ref (lwn L))] [] s Q := by
  have hTt : zT s (lwt L) = (20, 64) := hTI.2.2.1 0 (by decide)
  have hTm : zT s (lwm L) = (20, 48) := hTI.2.2.1 1 (by decide)
  have hTe : zT s (lwe L) = (20, 48) := hTI.2.2.1 2 (by decide)
  have hTg : zT s (lwg L) = (20, 32) := hTI.2.2.1 3 (by decide)
  have hTl : zT s (lwl L) = (20, 48) := hTI.2.2.1 4 (by decide)
  have hTa : zT s (lwa L) = (20, 64) := hTI.2.2.1 5 (by decide)
  have hTh : zT s (lwh L) = (20, 16) := hTI.2.2.1 6 (by decide)
  have hTq : zT s (lwq L) = (20, 8) := hTI.2.2.1 7 (by decide)
  have hTn : zT s (lwn L) = (20, 64) := hTI.2.2.1 8 (by decide)
  have hob : zT s (xob Y) = (10, 0) := hTI.2.2.2.2.2.2.1.zo
  have hi := hTI.2.2.2.2.1
  have hn := hTI.1.2.1
  have hd := hTI.2.2.2.1
  show Wp l G 39 (859 * (m + 1)) (5244 * (m + 1)) (RL, cL_law, 15, (some .boolean), false) 220 [(13, .int 1), (12, .int y), (11, .int (nI i)), (0, .ref b), (1, .ref (xob Y)), (2, .ref (lwt L)), (3, .ref (lwm L)), (4, .ref (lwe L)), (5, .ref (lwg L)), (6, .ref (lwl L)), (7, .ref (lwa L)), (8, .ref (lwh L)), (9, .ref (lwq L)), (10, .ref (lwn L))] [] s _
  refine zp_aload_n dL_law_220 rfl (a := (xob Y)) (List.mem_of_getElem? (i := 4) rfl) ?_
  refine zp_iload dL_law_221 (x := y) (List.mem_of_getElem? (i := 1) rfl) ?_
  refine zp_iconst dL_law_223 (v := 5) (by decide) ?_
  refine zp_ishr dL_law_224 ?_
  refine zp_aload_n dL_law_225 rfl (a := (lwt L)) (List.mem_of_getElem? (i := 5) rfl) ?_
  refine zp_aload_n dL_law_226 rfl (a := (lwm L)) (List.mem_of_getElem? (i := 6) rfl) ?_
  refine zp_aload dL_law_227 (a := (lwe L)) (List.mem_of_getElem? (i := 7) rfl) ?_
  refine zp_aload dL_law_229 (a := (lwg L)) (List.mem_of_getElem? (i := 8) rfl) ?_
  refine zp_aload dL_law_231 (a := (lwq L)) (List.mem_of_getElem? (i := 12) rfl) ?_
  refine zp_callS (st := []) (mc2 := (859 * m + 528)) (ms2 := (5244 * m + 3168)) dL_law_233 (c_L_styles l G D X Y W T LL fr LL' fr' L s _ hTI (by omega) (by omega)) cl_L_111 st_L_styles rfl rfl (by omega) (by omega) (by omega) (Nat.le_of_ble_eq_true rfl) ?_
  rintro _ s2 ⟨rfl, D2, T2, LL2, fr2, hT2, hdn, h2, f2⟩
  refine zp_istore dL_law_236 (Nat.le_of_ble_eq_true rfl) (lv2 := [(13, .int 1), (12, .int y), (11, .int (nI i)), (0, .ref b), (1, .ref (xob Y)), (2, .ref (lwt L)), (3, .ref (lwm L)), (4, .ref (lwe L)), (5, .ref (lwg L)), (6, .ref (lwl L)), (7, .ref (lwa L)), (8, .ref (lwh L)), (9, .ref (lwq L)), (10, .ref (lwn L))]) rfl ?_
  refine zp_lv [0, 2, 3, 4, 5, 6, 7, 8, 9, 10, 11, 12, 13] rfl ?_
  exact l_238 l h2 ((f2 b (by rw [hB]; exact (by decide : (25 : Nat) ≠ 0))).trans hB) h60 rfl (by omega) (by omega) (by omega) kk
theorem LI.q4 {D W V} {L : Lw} {σ : Sto} (h : LI D W L σ) (hd : LD L) : LI D V L (wA σ (lwq L) 4 V) := by
  refine ⟨fun k hk => ?_, (rAn (by decide)).trans h.2.1, rAe⟩
  have n : ∀ i, i < 7 → zA (wA σ (lwq L) 4 V) (arL L i) = zA σ (arL L i) := fun i hi => by
    funext z; exact rAb (hd.ne i 7 (by omega) (by decide) (by omega))
  rw [show zA (wA σ (lwq L) 4 V) (lwt L) = zA σ (lwt L) from n 0 (by decide), show zA (wA σ (lwq L) 4 V) (lwg L) = zA σ (lwg L) from n 3 (by decide), show zA (wA σ (lwq L) 4 V) (lwm L) = zA σ (lwm L) from n 1 (by decide), show zA (wA σ (lwq L) 4 V) (lwe L) = zA σ (lwe L) from n 2 (by decide), show zA (wA σ (lwq L) 4 V) (lwl L) = zA σ (lwl L) from n 4 (by decide)]
  exact h.1 k hk
theorem TI.page {G D X Y W T LL fr LL' fr' LL2 fr2} {L : Lw} {σ s t : Sto} {x : Nat} (h : TI G D X Y W T LL fr LL' fr' L σ) (hx : x < 300) (hLI : LI D (nI (1 + x)) L s) (hT : LT L s) (hq : zA s (lwq L) 7 = zA σ (lwq L) 7) (hZ : TZ (dn D) L s) (hz : Rz G D X Y (nI (1 + x)) T LL2 fr2 LL' fr' t) (f : Fo X Y (dn D) s t) : TI G D X Y (nI (1 + x)) T LL2 fr2 LL' fr' L t := by
  obtain ⟨a1, a2, a3, a4, a5, a6, a7, a8, a9, a10, a11⟩ := h
  have hr := a6.rows hT f
  refine ⟨a1, ⟨by rw [nI_toInt (by omega)]; omega, by rw [nI_toInt (by omega)]; omega⟩, hT.fo f, a4, hLI.keep hr, a6, hz, a8, ?_, a10, hZ.keep hr⟩
  rw [show zA t (lwq L) = zA s (lwq L) from hr 7 (by decide), hq]; exact a9
set_option maxHeartbeats 8000000 in
theorem l_158 (l : Launch) {G : Gb} {D : Dt} {X : Cx} {Y : Cy} {W : Int32} {T : Nat} {LL : Nat → List Nat} {fr : List Nat} {LL' : Nat → List Nat} {fr' : List Nat} {L : Lw} {s : Sto} {b n i m : Nat} {Q : Option Value → Sto → Prop} (hTI : TI G D X Y W T LL fr LL' fr' L s) (hB : zT s b = (25, n)) (h60 : i < 60) {y : Int32} (hT5 : T ≤ 5 * i) (hd1 : i ≤ 5 → dn D = i + 1) (hd2 : 5 ≤ i → 6 ≤ dn D) (hi5 : 5 ≤ i) (kk : ∀ t, LH G (xob Y) b n (i + 1) L t → Wp l G 39 (859 * m) (5244 * m) (RL, cL_law, 15, (some .boolean), false) 85 [(11, .int (nI (i + 1))), (0, .ref b), (1, .ref (xob Y)), (2, .ref (lwt L)), (3, .ref (lwm L)), (4, .ref (lwe L)), (5, .ref (lwg L)), (6, .ref (lwl L)), (7, .ref (lwa L)), (8, .ref (lwh L)), (9, .ref (lwq L)), (10, .ref (lwn L))] [] t Q) : Wp l G 39 (859 * (m + 1)) (5244 * (m + 1)) (RL, cL_law, 15, (some .boolean), false) 158 [(13, .int 1), (12, .int y), (11, .int (nI i)), (0, .ref b), (1, .ref (xob Y)), (2, .ref (lwt L)), (3, .ref (lwm L)), (4, .ref (lwe L)), (5, .ref (lwg L)), (6, .ref (lwl L)), (7, .ref (lwa L)), (8, .ref (lwh L)), (9, .ref (lwq L)), (10, .ref (lwn L))] [] s Q := by
  have hTt : zT s (lwt L) = (20, 64) := hTI.2.2.1 0 (by decide)
  have hTm : zT s (lwm L) = (20, 48) := hTI.2.2.1 1 (by decide)
  have hTe : zT s (lwe L) = (20, 48) := hTI.2.2.1 2 (by decide)
  have hTg : zT s (lwg L) = (20, 32) := hTI.2.2.1 3 (by decide)
  have hTl : zT s (lwl L) = (20, 48) := hTI.2.2.1 4 (by decide)
  have hTa : zT s (lwa L) = (20, 64) := hTI.2.2.1 5 (by decide)
  have hTh : zT s (lwh L) = (20, 16) := hTI.2.2.1 6 (by decide)
  have hTq : zT s (lwq L) = (20, 8) := hTI.2.2.1 7 (by decide)
  have hTn : zT s (lwn L) = (20, 64) := hTI.2.2.1 8 (by decide)
  have hob : zT s (xob Y) = (10, 0) := hTI.2.2.2.2.2.2.1.zo
  have hi := hTI.2.2.2.2.1
  have hn := hTI.1.2.1
  have hd := hTI.2.2.2.1
  show Wp l G 39 (859 * (m + 1)) (5244 * (m + 1)) (RL, cL_law, 15, (some .boolean), false) 158 [(13, .int 1), (12, .int y), (11, .int (nI i)), (0, .ref b), (1, .ref (xob Y)), (2, .ref (lwt L)), (3, .ref (lwm L)), (4, .ref (lwe L)), (5, .ref (lwg L)), (6, .ref (lwl L)), (7, .ref (lwa L)), (8, .ref (lwh L)), (9, .ref (lwq L)), (10, .ref (lwn L))] [] s _
  refine zp_aload dL_law_158 (a := (lwq L)) (List.mem_of_getElem? (i := 12) rfl) ?_
  refine zp_iconst dL_law_160 (v := 4) (by decide) ?_
  refine zp_iald_v dL_law_161 hTq (Or.inl rfl) (j := 4) (by decide) (zin (by decide)) (v := W) hi.2.2 ?_
  refine zp_istore dL_law_162 (Nat.le_of_ble_eq_true rfl) (lv2 := [(14, .int W), (13, .int 1), (12, .int y), (11, .int (nI i)), (0, .ref b), (1, .ref (xob Y)), (2, .ref (lwt L)), (3, .ref (lwm L)), (4, .ref (lwe L)), (5, .ref (lwg L)), (6, .ref (lwl L)), (7, .ref (lwa L)), (8, .ref (lwh L)), (9, .ref (lwq L)), (10, .ref (lwn L))]) rfl ?_
  refine zp_aload dL_law_164 (a := (lwq L)) (List.mem_of_getElem? (i := 13) rfl) ?_
  refine zp_iconst dL_law_166 (v := 4) (by decide) ?_
  refine zp_iconst dL_law_167 (v := 1) (by decide) ?_
  refine zp_iload dL_law_168 (x := y) (List.mem_of_getElem? (i := 2) rfl) ?_
  refine zp_iconst dL_law_170 (v := 5) (by decide) ?_
  refine zp_ishr dL_law_171 ?_
  refine zp_iload dL_law_172 (x := y) (List.mem_of_getElem? (i := 2) rfl) ?_
  refine zp_bipush dL_law_174 (v := 14) (by decide) ?_
  refine zp_ishr dL_law_176 ?_
  refine zp_iconst dL_law_177 (v := 2) (by decide) ?_
  refine zp_callS (st := [.int (y >>> (5 &&& 31)), .int 1, .int 4, .ref (lwq L)]) (mc2 := (859 * (m + 1))) (ms2 := (5244 * (m + 1))) dL_law_178 (c_L_low l G _ 2 _ (by decide) (by decide)) cl_L_81 st_L_low rfl rfl (by omega) (by omega) (by omega) (Nat.le_of_ble_eq_true rfl) ?_
  rintro _ sx ⟨⟨x1, hx1, rfl⟩, hsx⟩; obtain rfl := hsx.symm
  refine zp_if_ne dL_law_181 (tgt := 190) rfl (fun h181 => ?_) (fun h181 => ?_)
  · skip
    refine zp_bipush dL_law_190 (v := 60) (by decide) ?_
    refine zp_callS (st := [.int 1, .int 4, .ref (lwq L)]) (mc2 := (859 * (m + 1))) (ms2 := (5244 * (m + 1))) dL_law_192 (c_L_low l G _ 60 _ (by decide) (by decide)) cl_L_81 st_L_low rfl rfl (by omega) (by omega) (by omega) (Nat.le_of_ble_eq_true rfl) ?_
    rintro _ sx ⟨⟨x2, hx2, rfl⟩, hsx⟩; obtain rfl := hsx.symm
    refine zp_iadd dL_law_195 ?_
    rw [show ((1 + (nI x2)) : Int32) = (nI (1 + x2)) from nI_add 1 x2]
    refine zp_iastore dL_law_196 hTq (j := 4) (by decide) (zin (by decide)) ?_
    refine zp_gen (fun r => LI D (nI (1 + x2)) L r ∧ LT L r ∧ Rz G D X Y W T LL fr LL' fr' r ∧ zA r (lwq L) 7 = zA s (lwq L) 7 ∧ TZ (dn D) L r ∧ ∀ a, zT r a = zT s a) ⟨hi.q4 hd, hTI.2.2.1, hTI.2.2.2.2.2.2.1.wL hTI.2.2.1 hTI.2.2.2.2.2.1 7 (by decide) rfl, rAn (by decide), (hTI.2.2.2.2.2.2.2.2.2.2.w (fun q => absurd q (hd.ne 7 1 (by decide) (by decide) (by decide))) (fun q => absurd q (hd.ne 7 2 (by decide) (by decide) (by decide)))), fun _ => rfl⟩ (fun s1 h1 => ?_)
    obtain ⟨h1i, h1T, h1z, h1q, h1Z, h1k⟩ := h1
    have h1o : zT s1 (xob Y) = (10, 0) := h1z.zo
    have h1m : x2 < 300 := by omega
    have h1Tt : zT s1 (lwt L) = (20, 64) := h1T 0 (by decide)
    have h1Tm : zT s1 (lwm L) = (20, 48) := h1T 1 (by decide)
    have h1Te : zT s1 (lwe L) = (20, 48) := h1T 2 (by decide)
    have h1Tg : zT s1 (lwg L) = (20, 32) := h1T 3 (by decide)
    have h1Tl : zT s1 (lwl L) = (20, 48) := h1T 4 (by decide)
    have h1Ta : zT s1 (lwa L) = (20, 64) := h1T 5 (by decide)
    have h1Th : zT s1 (lwh L) = (20, 16) := h1T 6 (by decide)
    have h1Tq : zT s1 (lwq L) = (20, 8) := h1T 7 (by decide)
    have h1Tn : zT s1 (lwn L) = (20, 64) := h1T 8 (by decide)
    refine zp_aload_n dL_law_197 rfl (a := (xob Y)) (List.mem_of_getElem? (i := 5) rfl) ?_
    refine zp_aload dL_law_198 (a := (lwq L)) (List.mem_of_getElem? (i := 13) rfl) ?_
    refine zp_iconst dL_law_200 (v := 4) (by decide) ?_
    refine zp_iald_v dL_law_201 h1Tq (Or.inl rfl) (j := 4) (by decide) (zin (by decide)) (v := (nI (1 + x2))) h1i.2.2 ?_
    refine zp_callV (c0 := 9) (st := []) (mc2 := (859 * m + 528)) (ms2 := (5244 * m + 3168)) dL_law_202 (c_X12_page l G D X Y W T LL fr LL' fr' s1 (nI (1 + x2)) hTI.1 h1z (by rw [nI_toInt (by omega)]; omega) (by rw [nI_toInt (by omega)]; omega)) cl_L_108 im_X12_page se_X12_page rfl rfl h1o rfl rfl (by omega) (by omega) (by omega) (Nat.le_of_ble_eq_true rfl) ?_
    rintro _ s2 ⟨rfl, LL2, fr2, z2, f2⟩
    refine zp_iload dL_law_205 (x := W) (List.mem_of_getElem? (i := 0) rfl) ?_
    refine zp_icmp_ne dL_law_207 (tgt := 214) rfl (fun q => absurd rfl q) (fun _ => ?_)
    refine zp_iconst dL_law_210 (v := 1) (by decide) ?_
    refine zp_goto dL_law_211 (tgt := 215) rfl ?_
    refine zp_istore dL_law_215 (Nat.le_of_ble_eq_true rfl) (lv2 := [(13, .int 1), (14, .int W), (12, .int y), (11, .int (nI i)), (0, .ref b), (1, .ref (xob Y)), (2, .ref (lwt L)), (3, .ref (lwm L)), (4, .ref (lwe L)), (5, .ref (lwg L)), (6, .ref (lwl L)), (7, .ref (lwa L)), (8, .ref (lwh L)), (9, .ref (lwq L)), (10, .ref (lwn L))]) rfl ?_
    refine zp_goto dL_law_217 (tgt := 238) rfl ?_
    refine zp_lv [0, 3, 4, 5, 6, 7, 8, 9, 10, 11, 12, 13, 14] rfl ?_
    exact l_238 l (hTI.page h1m h1i h1T h1q h1Z z2 f2) ((f2.1 b (by rw [h1k, hB]; exact (by decide : (25 : Nat) ≠ 0))).trans ((h1k b).trans hB)) h60 rfl (by omega) (by omega) (by omega) kk
  · skip
    refine zp_sipush dL_law_184 (v := 300) (by decide) ?_
    refine zp_goto dL_law_187 (tgt := 192) rfl ?_
    refine zp_callS (st := [.int 1, .int 4, .ref (lwq L)]) (mc2 := (859 * (m + 1))) (ms2 := (5244 * (m + 1))) dL_law_192 (c_L_low l G _ 300 _ (by decide) (by decide)) cl_L_81 st_L_low rfl rfl (by omega) (by omega) (by omega) (Nat.le_of_ble_eq_true rfl) ?_
    rintro _ sx ⟨⟨x2, hx2, rfl⟩, hsx⟩; obtain rfl := hsx.symm
    refine zp_iadd dL_law_195 ?_
    rw [show ((1 + (nI x2)) : Int32) = (nI (1 + x2)) from nI_add 1 x2]
    refine zp_iastore dL_law_196 hTq (j := 4) (by decide) (zin (by decide)) ?_
    refine zp_gen (fun r => LI D (nI (1 + x2)) L r ∧ LT L r ∧ Rz G D X Y W T LL fr LL' fr' r ∧ zA r (lwq L) 7 = zA s (lwq L) 7 ∧ TZ (dn D) L r ∧ ∀ a, zT r a = zT s a) ⟨hi.q4 hd, hTI.2.2.1, hTI.2.2.2.2.2.2.1.wL hTI.2.2.1 hTI.2.2.2.2.2.1 7 (by decide) rfl, rAn (by decide), (hTI.2.2.2.2.2.2.2.2.2.2.w (fun q => absurd q (hd.ne 7 1 (by decide) (by decide) (by decide))) (fun q => absurd q (hd.ne 7 2 (by decide) (by decide) (by decide)))), fun _ => rfl⟩ (fun s1 h1 => ?_)
    obtain ⟨h1i, h1T, h1z, h1q, h1Z, h1k⟩ := h1
    have h1o : zT s1 (xob Y) = (10, 0) := h1z.zo
    have h1m : x2 < 300 := by omega
    have h1Tt : zT s1 (lwt L) = (20, 64) := h1T 0 (by decide)
    have h1Tm : zT s1 (lwm L) = (20, 48) := h1T 1 (by decide)
    have h1Te : zT s1 (lwe L) = (20, 48) := h1T 2 (by decide)
    have h1Tg : zT s1 (lwg L) = (20, 32) := h1T 3 (by decide)
    have h1Tl : zT s1 (lwl L) = (20, 48) := h1T 4 (by decide)
    have h1Ta : zT s1 (lwa L) = (20, 64) := h1T 5 (by decide)
    have h1Th : zT s1 (lwh L) = (20, 16) := h1T 6 (by decide)
    have h1Tq : zT s1 (lwq L) = (20, 8) := h1T 7 (by decide)
    have h1Tn : zT s1 (lwn L) = (20, 64) := h1T 8 (by decide)
    refine zp_aload_n dL_law_197 rfl (a := (xob Y)) (List.mem_of_getElem? (i := 5) rfl) ?_
    refine zp_aload dL_law_198 (a := (lwq L)) (List.mem_of_getElem? (i := 13) rfl) ?_
    refine zp_iconst dL_law_200 (v := 4) (by decide) ?_
    refine zp_iald_v dL_law_201 h1Tq (Or.inl rfl) (j := 4) (by decide) (zin (by decide)) (v := (nI (1 + x2))) h1i.2.2 ?_
    refine zp_callV (c0 := 9) (st := []) (mc2 := (859 * m + 528)) (ms2 := (5244 * m + 3168)) dL_law_202 (c_X12_page l G D X Y W T LL fr LL' fr' s1 (nI (1 + x2)) hTI.1 h1z (by rw [nI_toInt (by omega)]; omega) (by rw [nI_toInt (by omega)]; omega)) cl_L_108 im_X12_page se_X12_page rfl rfl h1o rfl rfl (by omega) (by omega) (by omega) (Nat.le_of_ble_eq_true rfl) ?_
    rintro _ s2 ⟨rfl, LL2, fr2, z2, f2⟩
    refine zp_iload dL_law_205 (x := W) (List.mem_of_getElem? (i := 0) rfl) ?_
    refine zp_icmp_ne dL_law_207 (tgt := 214) rfl (fun q => absurd rfl q) (fun _ => ?_)
    refine zp_iconst dL_law_210 (v := 1) (by decide) ?_
    refine zp_goto dL_law_211 (tgt := 215) rfl ?_
    refine zp_istore dL_law_215 (Nat.le_of_ble_eq_true rfl) (lv2 := [(13, .int 1), (14, .int W), (12, .int y), (11, .int (nI i)), (0, .ref b), (1, .ref (xob Y)), (2, .ref (lwt L)), (3, .ref (lwm L)), (4, .ref (lwe L)), (5, .ref (lwg L)), (6, .ref (lwl L)), (7, .ref (lwa L)), (8, .ref (lwh L)), (9, .ref (lwq L)), (10, .ref (lwn L))]) rfl ?_
    refine zp_goto dL_law_217 (tgt := 238) rfl ?_
    refine zp_lv [0, 3, 4, 5, 6, 7, 8, 9, 10, 11, 12, 13, 14] rfl ?_
    exact l_238 l (hTI.page h1m h1i h1T h1q h1Z z2 f2) ((f2.1 b (by rw [h1k, hB]; exact (by decide : (25 : Nat) ≠ 0))).trans ((h1k b).trans hB)) h60 rfl (by omega) (by omega) (by omega) kk
theorem l_147 (l : Launch) {G : Gb} {D : Dt} {X : Cx} {Y : Cy} {W : Int32} {T : Nat} {LL : Nat → List Nat} {fr : List Nat} {LL' : Nat → List Nat} {fr' : List Nat} {L : Lw} {s : Sto} {b n i m : Nat} {Q : Option Value → Sto → Prop} (hTI : TI G D X Y W T LL fr LL' fr' L s) (hB : zT s b = (25, n)) (h60 : i < 60) {y : Int32} (hT5 : T ≤ 5 * i) (hd1 : i ≤ 5 → dn D = i + 1) (hd2 : 5 ≤ i → 6 ≤ dn D) (hi5 : 5 ≤ i) (kk : ∀ t, LH G (xob Y) b n (i + 1) L t → Wp l G 39 (859 * m) (5244 * m) (RL, cL_law, 15, (some .boolean), false) 85 [(11, .int (nI (i + 1))), (0, .ref b), (1, .ref (xob Y)), (2, .ref (lwt L)), (3, .ref (lwm L)), (4, .ref (lwe L)), (5, .ref (lwg L)), (6, .ref (lwl L)), (7, .ref (lwa L)), (8, .ref (lwh L)), (9, .ref (lwq L)), (10, .ref (lwn L))] [] t Q) : Wp l G 39 (859 * (m + 1)) (5244 * (m + 1)) (RL, cL_law, 15, (some .boolean), false) 147 [(13, .int 1), (12, .int y), (11, .int (nI i)), (0, .ref b), (1, .ref (xob Y)), (2, .ref (lwt L)), (3, .ref (lwm L)), (4, .ref (lwe L)), (5, .ref (lwg L)), (6, .ref (lwl L)), (7, .ref (lwa L)), (8, .ref (lwh L)), (9, .ref (lwq L)), (10, .ref (lwn L))] [] s Q := by
  have hTt : zT s (lwt L) = (20, 64) := hTI.2.2.1 0 (by decide)
  have hTm : zT s (lwm L) = (20, 48) := hTI.2.2.1 1 (by decide)
  have hTe : zT s (lwe L) = (20, 48) := hTI.2.2.1 2 (by decide)
  have hTg : zT s (lwg L) = (20, 32) := hTI.2.2.1 3 (by decide)
  have hTl : zT s (lwl L) = (20, 48) := hTI.2.2.1 4 (by decide)
  have hTa : zT s (lwa L) = (20, 64) := hTI.2.2.1 5 (by decide)
  have hTh : zT s (lwh L) = (20, 16) := hTI.2.2.1 6 (by decide)
  have hTq : zT s (lwq L) = (20, 8) := hTI.2.2.1 7 (by decide)
  have hTn : zT s (lwn L) = (20, 64) := hTI.2.2.1 8 (by decide)
  have hob : zT s (xob Y) = (10, 0) := hTI.2.2.2.2.2.2.1.zo
  have hi := hTI.2.2.2.2.1
  have hn := hTI.1.2.1
  have hd := hTI.2.2.2.1
  show Wp l G 39 (859 * (m + 1)) (5244 * (m + 1)) (RL, cL_law, 15, (some .boolean), false) 147 [(13, .int 1), (12, .int y), (11, .int (nI i)), (0, .ref b), (1, .ref (xob Y)), (2, .ref (lwt L)), (3, .ref (lwm L)), (4, .ref (lwe L)), (5, .ref (lwg L)), (6, .ref (lwl L)), (7, .ref (lwa L)), (8, .ref (lwh L)), (9, .ref (lwq L)), (10, .ref (lwn L))] [] s _
  refine zp_iload dL_law_147 (x := y) (List.mem_of_getElem? (i := 1) rfl) ?_
  refine zp_bipush dL_law_149 (v := 9) (by decide) ?_
  refine zp_callS (st := []) (mc2 := (859 * (m + 1))) (ms2 := (5244 * (m + 1))) dL_law_151 (c_L_low l G _ 9 _ (by decide) (by decide)) cl_L_81 st_L_low rfl rfl (by omega) (by omega) (by omega) (Nat.le_of_ble_eq_true rfl) ?_
  rintro _ sx ⟨⟨x1, hx1, rfl⟩, hsx⟩; obtain rfl := hsx.symm
  refine zp_iconst dL_law_154 (v := 1) (by decide) ?_
  refine zp_icmp_ne dL_law_155 (tgt := 220) rfl (fun h155 => ?_) (fun h155 => ?_)
  · skip
    refine zp_lv [0, 1, 2, 3, 4, 5, 6, 7, 8, 9, 10, 11, 12, 13] rfl ?_
    exact l_220 l hTI hB h60 hT5 hd1 hd2 hi5 kk
  · skip
    refine zp_lv [0, 1, 2, 3, 4, 5, 6, 7, 8, 9, 10, 11, 12, 13] rfl ?_
    exact l_158 l hTI hB h60 hT5 hd1 hd2 hi5 kk
theorem nI_n60 {i : Nat} (h : i < 60) (q : 60 ≤ nI i) : False := by
  have := (nI_le' (j := 60) (k := i) (by omega) (by omega)).mp q
  omega
set_option maxHeartbeats 8000000 in
theorem l_85 (l : Launch) {G : Gb} {D : Dt} {X : Cx} {Y : Cy} {W : Int32} {T : Nat} {LL : Nat → List Nat} {fr : List Nat} {LL' : Nat → List Nat} {fr' : List Nat} {L : Lw} {s : Sto} {b n i m : Nat} {Q : Option Value → Sto → Prop} (hTI : TI G D X Y W T LL fr LL' fr' L s) (hB : zT s b = (25, n)) (h60 : i < 60) (hT5 : T ≤ 5 * i) (hd1 : i ≤ 5 → dn D = i + 1) (hd2 : 5 ≤ i → 6 ≤ dn D) (hnb : n < 1000) (kk : ∀ t, LH G (xob Y) b n (i + 1) L t → Wp l G 39 (859 * m) (5244 * m) (RL, cL_law, 15, (some .boolean), false) 85 [(11, .int (nI (i + 1))), (0, .ref b), (1, .ref (xob Y)), (2, .ref (lwt L)), (3, .ref (lwm L)), (4, .ref (lwe L)), (5, .ref (lwg L)), (6, .ref (lwl L)), (7, .ref (lwa L)), (8, .ref (lwh L)), (9, .ref (lwq L)), (10, .ref (lwn L))] [] t Q) : Wp l G 39 (859 * (m + 1)) (5244 * (m + 1)) (RL, cL_law, 15, (some .boolean), false) 85 [(11, .int (nI i)), (0, .ref b), (1, .ref (xob Y)), (2, .ref (lwt L)), (3, .ref (lwm L)), (4, .ref (lwe L)), (5, .ref (lwg L)), (6, .ref (lwl L)), (7, .ref (lwa L)), (8, .ref (lwh L)), (9, .ref (lwq L)), (10, .ref (lwn L))] [] s Q := by
  have hTt : zT s (lwt L) = (20, 64) := hTI.2.2.1 0 (by decide)
  have hTm : zT s (lwm L) = (20, 48) := hTI.2.2.1 1 (by decide)
  have hTe : zT s (lwe L) = (20, 48) := hTI.2.2.1 2 (by decide)
  have hTg : zT s (lwg L) = (20, 32) := hTI.2.2.1 3 (by decide)
  have hTl : zT s (lwl L) = (20, 48) := hTI.2.2.1 4 (by decide)
  have hTa : zT s (lwa L) = (20, 64) := hTI.2.2.1 5 (by decide)
  have hTh : zT s (lwh L) = (20, 16) := hTI.2.2.1 6 (by decide)
  have hTq : zT s (lwq L) = (20, 8) := hTI.2.2.1 7 (by decide)
  have hTn : zT s (lwn L) = (20, 64) := hTI.2.2.1 8 (by decide)
  have hob : zT s (xob Y) = (10, 0) := hTI.2.2.2.2.2.2.1.zo
  have hi := hTI.2.2.2.2.1
  have hn := hTI.1.2.1
  have hd := hTI.2.2.2.1
  show Wp l G 39 (859 * (m + 1)) (5244 * (m + 1)) (RL, cL_law, 15, (some .boolean), false) 85 [(11, .int (nI i)), (0, .ref b), (1, .ref (xob Y)), (2, .ref (lwt L)), (3, .ref (lwm L)), (4, .ref (lwe L)), (5, .ref (lwg L)), (6, .ref (lwl L)), (7, .ref (lwa L)), (8, .ref (lwh L)), (9, .ref (lwq L)), (10, .ref (lwn L))] [] s _
  refine zp_iload dL_law_85 (x := (nI i)) (List.mem_of_getElem? (i := 0) rfl) ?_
  refine zp_bipush dL_law_87 (v := 60) (by decide) ?_
  refine zp_icmp_ge dL_law_89 (tgt := 286) rfl (fun q => absurd q (nI_n60 h60)) (fun _ => ?_)
  refine zp_aload_n dL_law_92 rfl (a := b) (List.mem_of_getElem? (i := 1) rfl) ?_
  refine zp_iload dL_law_93 (x := (nI i)) (List.mem_of_getElem? (i := 0) rfl) ?_
  refine zp_callS (st := []) (mc2 := (859 * (m + 1))) (ms2 := (5244 * (m + 1))) dL_law_95 (c_L_cell l G b n (nI i) s hB hnb (by rw [nI_toInt (by omega)]; omega)) cl_L_100 st_L_cell rfl rfl (by omega) (by omega) (by omega) (Nat.le_of_ble_eq_true rfl) ?_
  rintro _ sx ⟨y, rfl, hsx⟩; obtain rfl := hsx.symm
  refine zp_istore dL_law_98 (Nat.le_of_ble_eq_true rfl) (lv2 := [(12, .int y), (11, .int (nI i)), (0, .ref b), (1, .ref (xob Y)), (2, .ref (lwt L)), (3, .ref (lwm L)), (4, .ref (lwe L)), (5, .ref (lwg L)), (6, .ref (lwl L)), (7, .ref (lwa L)), (8, .ref (lwh L)), (9, .ref (lwq L)), (10, .ref (lwn L))]) rfl ?_
  refine zp_iconst dL_law_100 (v := 1) (by decide) ?_
  refine zp_istore dL_law_101 (Nat.le_of_ble_eq_true rfl) (lv2 := [(13, .int 1), (12, .int y), (11, .int (nI i)), (0, .ref b), (1, .ref (xob Y)), (2, .ref (lwt L)), (3, .ref (lwm L)), (4, .ref (lwe L)), (5, .ref (lwg L)), (6, .ref (lwl L)), (7, .ref (lwa L)), (8, .ref (lwh L)), (9, .ref (lwq L)), (10, .ref (lwn L))]) rfl ?_
  refine zp_iload dL_law_103 (x := (nI i)) (List.mem_of_getElem? (i := 2) rfl) ?_
  refine zp_iconst dL_law_105 (v := 5) (by decide) ?_
  refine zp_icmp_lt dL_law_106 (tgt := 127) rfl (fun h106 => ?_) (fun h106 => ?_)
  · have h5 : i < 5 := (nI_ltj (k := 5) (by omega) (by omega)).mp h106
    refine zp_lv [0, 1, 2, 3, 4, 5, 6, 7, 8, 9, 10, 11, 12, 13] rfl ?_
    exact l_127 l hTI hB h60 hT5 hd1 hd2 (by omega) kk
  · have hi5 : 5 ≤ i := by
      have q2 := mt (nI_ltj (j := i) (k := 5) (by omega) (by omega)).mpr h106
      omega
    refine zp_aload dL_law_109 (a := (lwq L)) (List.mem_of_getElem? (i := 12) rfl) ?_
    refine zp_iconst dL_law_111 (v := 3) (by decide) ?_
    refine zp_iald_v dL_law_112 hTq (Or.inl rfl) (j := 3) (by decide) (zin (by decide)) (v := (nI (dn D))) hi.2.1 ?_
    refine zp_bipush dL_law_113 (v := 12) (by decide) ?_
    refine zp_icmp_ge dL_law_115 (tgt := 147) rfl (fun h115 => ?_) (fun h115 => ?_)
    · skip
      refine zp_lv [0, 1, 2, 3, 4, 5, 6, 7, 8, 9, 10, 11, 12, 13] rfl ?_
      exact l_147 l hTI hB h60 hT5 hd1 hd2 hi5 kk
    · have hn12 : dn D < 12 := by
        have q2 := mt (nI_le' (j := 12) (k := dn D) (by omega) (by omega)).mpr h115
        omega
      refine zp_iload dL_law_118 (x := y) (List.mem_of_getElem? (i := 1) rfl) ?_
      refine zp_iconst dL_law_120 (v := 4) (by decide) ?_
      refine zp_callS (st := []) (mc2 := (859 * (m + 1))) (ms2 := (5244 * (m + 1))) dL_law_121 (c_L_low l G _ 4 _ (by decide) (by decide)) cl_L_81 st_L_low rfl rfl (by omega) (by omega) (by omega) (Nat.le_of_ble_eq_true rfl) ?_
      rintro _ sx ⟨⟨x1, hx1, rfl⟩, hsx⟩; obtain rfl := hsx.symm
      refine zp_if_ne dL_law_124 (tgt := 147) rfl (fun h124 => ?_) (fun h124 => ?_)
      · skip
        refine zp_lv [0, 1, 2, 3, 4, 5, 6, 7, 8, 9, 10, 11, 12, 13] rfl ?_
        exact l_147 l hTI hB h60 hT5 hd1 hd2 hi5 kk
      · skip
        refine zp_lv [0, 1, 2, 3, 4, 5, 6, 7, 8, 9, 10, 11, 12, 13] rfl ?_
        exact l_127 l hTI hB h60 hT5 hd1 hd2 (by omega) kk
theorem l_85E (l : Launch) {G : Gb} {L : Lw} {s : Sto} {b ob : Nat} : Wp l G 39 0 0 (RL, cL_law, 15, (some .boolean), false) 85 [(11, .int (nI 60)), (0, .ref b), (1, .ref ob), (2, .ref (lwt L)), (3, .ref (lwm L)), (4, .ref (lwe L)), (5, .ref (lwg L)), (6, .ref (lwl L)), (7, .ref (lwa L)), (8, .ref (lwh L)), (9, .ref (lwq L)), (10, .ref (lwn L))] [] s (fun v _ => v = some (.int 1)) := by
  show Wp l G 39 0 0 (RL, cL_law, 15, (some .boolean), false) 85 [(11, .int (nI 60)), (0, .ref b), (1, .ref ob), (2, .ref (lwt L)), (3, .ref (lwm L)), (4, .ref (lwe L)), (5, .ref (lwg L)), (6, .ref (lwl L)), (7, .ref (lwa L)), (8, .ref (lwh L)), (9, .ref (lwq L)), (10, .ref (lwn L))] [] s _
  refine zp_iload dL_law_85 (x := (nI 60)) (List.mem_of_getElem? (i := 0) rfl) ?_
  refine zp_bipush dL_law_87 (v := 60) (by decide) ?_
  refine zp_icmp_ge dL_law_89 (tgt := 286) rfl (fun _ => ?_) (fun q => absurd (by decide) q)
  refine zp_iconst dL_law_286 (v := 1) (by decide) ?_
  refine zp_zret rfl (Or.inr rfl) dL_law_287 ?_
  exact rfl
theorem l_law (l : Launch) {G : Gb} {L : Lw} {b n ob : Nat} (hnb : n < 1000) : ∀ (m i : Nat) (s : Sto), i + m = 60 → LH G ob b n i L s → Wp l G 39 (859 * m) (5244 * m) (RL, cL_law, 15, (some .boolean), false) 85 [(11, .int (nI i)), (0, .ref b), (1, .ref ob), (2, .ref (lwt L)), (3, .ref (lwm L)), (4, .ref (lwe L)), (5, .ref (lwg L)), (6, .ref (lwl L)), (7, .ref (lwa L)), (8, .ref (lwh L)), (9, .ref (lwq L)), (10, .ref (lwn L))] [] s (fun v _ => v = some (.int 1))
  | 0, i, s, hm, h => by
    have hm : i = 60 := hm
    subst hm
    exact l_85E l
  | m + 1, i, s, hm, h => by
    obtain ⟨D, X, Y, W, T, LL, fr, LL', fr', hTI, hY, hT5, hd1, hd2, hB⟩ := h
    subst hY
    exact l_85 l hTI hB (by omega) hT5 hd1 hd2 hnb (fun t ht => l_law l hnb m (i + 1) t (by omega) ht)

/-! THE LAW, FROM ITS FIRST ROW (by wip/p27/gen_start.py) -/
theorem Rz.nT {G D X Y W T LL fr LL' fr'} {σ : Sto} {q : Nat} {t : Nat × Nat} (hD : DW D) (h : Rz G D X Y W T LL fr LL' fr' σ) (hq : (zT σ q).1 = 0) : Rz G D X Y W T LL fr LL' fr' (wT σ q t) := by
  obtain ⟨⟨hB, ⟨i1, i2, i3, i4, i5⟩, hLy, hJ, hdep, hl1, hl2, hlj, hb1, hb2, hca⟩, hN, hr, hsd, e703, e601, e715, e716⟩ := h
  have hT : ∀ a, (zT σ a).1 ≠ 0 → zT (wT σ q t) a = zT σ a := fun a ha => if_neg (fun e => ha (by rw [e]; exact hq))
  have tt : ∀ {a c n : Nat}, zT σ a = (c + 1, n) → zT (wT σ q t) a = (c + 1, n) := fun {a c n} e => (hT a (by rw [e]; exact Nat.succ_ne_zero c)).trans e
  have f : Fm (fun a => (zT σ a).1 = 0) σ (wT σ q t) := ⟨fun a ha => ⟨fun _ => ⟨rfl, rfl⟩, hT a ha⟩, rfl, rfl, hT, fun _ _ => ⟨rfl, rfl⟩⟩
  have hN2 : NS G D X (wT σ q t) := hN.fm f
  have eo : ∀ b LL fr, Eo X D b LL fr σ (wT σ q t) := fun b LL fr a ha g hg => ⟨rfl, rfl⟩
  have hAI : AI G D X Y (wT σ q t) := AI.of hD hN2 (fun k hk => ⟨(i3 k hk).1, tt (i3 k hk).2.1, (i3 k hk).2.2⟩) ⟨tt i4.1, i4.2.1, i4.2.2⟩
  have ho : OB D X Y W T (wT σ q t) := hB.to (fun _ _ => List.not_mem_nil) hT (fun _ _ => rfl) (fun _ _ => rfl) rfl (fun k hk ht => hB.2.2.2.2.2.2.2.2.2.2.2.2.2.2.2.1 k hk ht)
  exact ⟨⟨ho, hAI, hN2.2.1, hJ, hdep, hl1.eo hT (eo _ _ _), hl2.eo hT (eo _ _ _), hlj, hb1.eo (eo false LL fr), hb2.eo (eo true LL' fr'), hca⟩, hN2, hr.eo hN2 hT (eo _ _ _), hsd, e703, e601, e715, e716⟩
theorem Rz.rows {G D X Y W T LL fr LL' fr'} {σ : Sto} (h : Rz G D X Y W T LL fr LL' fr' σ) {t k : Nat} (ht : t < 4) (hk : k < dn D) : (zT σ (arX X Y t k)).1 = 20 := by
  have hs : t = 0 ∨ t = 1 ∨ t = 2 ∨ t = 3 := by omega
  have hN := h.1.2.1.1 k hk
  rcases hs with rfl | rfl | rfl | rfl
  · exact congrArg Prod.fst hN.2.2.2.2.1
  · exact congrArg Prod.fst (h.1.2.1.2.2.1 k hk).2.1
  · exact congrArg Prod.fst hN.2.2.2.2.2.2.2.2.2.2.2.2.1
  · exact congrArg Prod.fst hN.2.2.2.2.2.2.2.2.2.2.2.2.2.2.2.1
theorem fr_ne {σ : Sto} {q r n : Nat} (h : (zT (wT σ q (20, n)) r).1 = 0) : r ≠ q ∧ (zT σ r).1 = 0 := by
  by_cases e : r = q
  · rw [e, zT_wT, if_pos rfl] at h
    exact absurd h (by show (20 : Nat) ≠ 0; decide)
  · rw [zT_wT, if_neg e] at h
    exact ⟨e, h⟩
theorem LD_of {L : Lw} (h : ∀ i j, i < j → j < 9 → arL L j ≠ arL L i) : LD L := fun i j hi hj e => by
  rcases Nat.lt_trichotomy i j with q | q | q
  · exact absurd e.symm (h i j q hj)
  · exact q
  · exact absurd e (h j i q hi)
theorem TI_0 {G X Y LL fr LL' fr'} {L : Lw} {r : Sto} (h : Rz G D0 X Y 60 0 LL fr LL' fr' r) (hT : LT L r) (hd : LD L) (ha : Ap X Y 1 L) (hz : ∀ i, i < 9 → ∀ j, zA r (arL L i) j = 0) :
    TI G D0 X Y 60 0 LL fr LL' fr' L (wA (wA (wA (wA r (lwq L) 3 1) (lwq L) 4 60) (lwg L) 0 (-1)) (lwg L) 16 (-1)) := by
  have gq : lwg L ≠ lwq L := hd.ne 3 7 (by decide) (by decide) (by decide)
  have qg : lwq L ≠ lwg L := hd.ne 7 3 (by decide) (by decide) (by decide)
  have o : ∀ i, i < 9 → i ≠ 3 → i ≠ 7 → ∀ j, zA (wA (wA (wA (wA r (lwq L) 3 1) (lwq L) 4 60) (lwg L) 0 (-1)) (lwg L) 16 (-1)) (arL L i) j = 0 := fun i hi h3 h7 j => by
    rw [rAb (show arL L i ≠ lwg L from hd.ne i 3 hi (by decide) h3), rAb (show arL L i ≠ lwg L from hd.ne i 3 hi (by decide) h3), rAb (show arL L i ≠ lwq L from hd.ne i 7 hi (by decide) h7), rAb (show arL L i ≠ lwq L from hd.ne i 7 hi (by decide) h7)]
    exact hz i hi j
  refine ⟨D0_ok, ⟨by decide, by decide⟩, hT, hd, ⟨fun k hk => ?_, ?_, ?_⟩, ha, ((((h.wL hT ha 7 (by decide) rfl).wL hT ha 7 (by decide) rfl).wL hT ha 3 (by decide) rfl).wL hT ha 3 (by decide) rfl), fun u hu => ?_, ?_, by decide, fun j i hj h12 hi => ⟨o 1 (by decide) (by decide) (by decide) _, o 2 (by decide) (by decide) (by decide) _⟩⟩
  · have hk : k = 0 := D0_k hk
    subst hk
    refine ⟨o 0 (by decide) (by decide) (by decide) _, o 0 (by decide) (by decide) (by decide) _, o 0 (by decide) (by decide) (by decide) _, fun q => absurd q (Nat.lt_irrefl 0), ?_, ?_, fun i hi => ⟨?_, ?_⟩, fun i hi => absurd hi (Nat.not_lt_zero i)⟩
    · rw [rAn (by decide), rAe]; decide
    · rw [rAe]; decide
    · rw [show zA (wA (wA (wA (wA r (lwq L) 3 1) (lwq L) 4 60) (lwg L) 0 (-1)) (lwg L) 16 (-1)) (lwm L) (4 * 0 + i) = 0 from o 1 (by decide) (by decide) (by decide) _]
      have hs : i = 0 ∨ i = 1 ∨ i = 2 ∨ i = 3 := by omega
      rcases hs with rfl | rfl | rfl | rfl <;> decide
    · rw [show zA (wA (wA (wA (wA r (lwq L) 3 1) (lwq L) 4 60) (lwg L) 0 (-1)) (lwg L) 16 (-1)) (lwe L) (4 * 0 + i) = 0 from o 2 (by decide) (by decide) (by decide) _]
      have hs : i = 0 ∨ i = 1 ∨ i = 2 ∨ i = 3 := by omega
      rcases hs with rfl | rfl | rfl | rfl <;> decide
  · rw [rAb qg, rAb qg, rAn (by decide), rAe]; rfl
  · rw [rAb qg, rAb qg, rAe]
  · have hs : u = 0 ∨ u = 1 ∨ u = 2 ∨ u = 3 := by omega
    rcases hs with rfl | rfl | rfl | rfl <;> decide
  · rw [rAb qg, rAb qg, rAn (by decide), rAn (by decide)]
    exact (hz 7 (by decide) 7).trans (by decide)
set_option maxHeartbeats 8000000 in
theorem l_start (l : Launch) {G : Gb} {σ : Sto} {b n : Nat} (hnb : n < 1000) (hB : zT σ b = (25, n)) (hsw : Sw G σ) : Wp l G 39 52000 332000 (RL, cL_law, 15, (some .boolean), false) 0 [(0, .ref b)] [] σ (fun v _ => v = some (.int 1)) := by
  refine zp_zp0 (fun zz => ?_)
  show Wp l G 39 52000 332000 (RL, cL_law, 15, (some .boolean), false) 0 [(0, .ref b)] [] σ _
  refine zp_new (c0 := 9) (mc2 := 51999) (ms2 := 331980) dL_law_0 rfl wd_22 wd_23 wd_1 (by omega) (by show _ + 10 ≤ _; omega) (fun ob hob => ?_)
  refine zp_dup dL_law_3 rfl ?_
  refine zp_callI (st := [.ref ob]) (mc2 := 51884) (ms2 := 315777) dL_law_4 (c_X12_init l G ob _ zT_self (fun g => (zz ob hob).1 g) ⟨zT_new hob hsw.1, hsw.2.1, hsw.2.2⟩) cl_L_99 rfl im_X12_init rfl rfl rfl (by omega) (by omega) (by omega) (Nat.le_of_ble_eq_true rfl) ?_
  rintro _ s1 ⟨rfl, X, Y, LL, fr, LL', fr', hz1, oe, f1⟩
  have hB1 : zT s1 b = (25, n) := (f1 b (by rw [zT_new hob hB]; exact (by decide : (25 : Nat) ≠ 0))).1.trans (zT_new hob hB)
  refine zp_zp0 (fun zz1 => ?_)
  refine zp_astore_n dL_law_7 rfl (Nat.le_of_ble_eq_true rfl) (lv2 := [(1, .ref ob), (0, .ref b)]) rfl ?_
  refine zp_bipush dL_law_8 (v := 64) (by decide) ?_
  refine zp_newI (mc2 := 51883) (ms2 := 315713) (N := 64) dL_law_10 wd_84 (by decide) (by decide) (by decide) (by omega) (by omega) (fun r0 hr0 => ?_)
  refine zp_astore_n dL_law_12 rfl (Nat.le_of_ble_eq_true rfl) (lv2 := [(2, .ref r0), (1, .ref ob), (0, .ref b)]) rfl ?_
  refine zp_bipush dL_law_13 (v := 48) (by decide) ?_
  refine zp_newI (mc2 := 51882) (ms2 := 315665) (N := 48) dL_law_15 wd_84 (by decide) (by decide) (by decide) (by omega) (by omega) (fun r1 hr1 => ?_)
  refine zp_astore_n dL_law_17 rfl (Nat.le_of_ble_eq_true rfl) (lv2 := [(3, .ref r1), (2, .ref r0), (1, .ref ob), (0, .ref b)]) rfl ?_
  refine zp_bipush dL_law_18 (v := 48) (by decide) ?_
  refine zp_newI (mc2 := 51881) (ms2 := 315617) (N := 48) dL_law_20 wd_84 (by decide) (by decide) (by decide) (by omega) (by omega) (fun r2 hr2 => ?_)
  refine zp_astore dL_law_22 (Nat.le_of_ble_eq_true rfl) (lv2 := [(4, .ref r2), (3, .ref r1), (2, .ref r0), (1, .ref ob), (0, .ref b)]) rfl ?_
  refine zp_bipush dL_law_24 (v := 32) (by decide) ?_
  refine zp_newI (mc2 := 51880) (ms2 := 315585) (N := 32) dL_law_26 wd_84 (by decide) (by decide) (by decide) (by omega) (by omega) (fun r3 hr3 => ?_)
  refine zp_astore dL_law_28 (Nat.le_of_ble_eq_true rfl) (lv2 := [(5, .ref r3), (4, .ref r2), (3, .ref r1), (2, .ref r0), (1, .ref ob), (0, .ref b)]) rfl ?_
  refine zp_bipush dL_law_30 (v := 48) (by decide) ?_
  refine zp_newI (mc2 := 51879) (ms2 := 315537) (N := 48) dL_law_32 wd_84 (by decide) (by decide) (by decide) (by omega) (by omega) (fun r4 hr4 => ?_)
  refine zp_astore dL_law_34 (Nat.le_of_ble_eq_true rfl) (lv2 := [(6, .ref r4), (5, .ref r3), (4, .ref r2), (3, .ref r1), (2, .ref r0), (1, .ref ob), (0, .ref b)]) rfl ?_
  refine zp_bipush dL_law_36 (v := 64) (by decide) ?_
  refine zp_newI (mc2 := 51878) (ms2 := 315473) (N := 64) dL_law_38 wd_84 (by decide) (by decide) (by decide) (by omega) (by omega) (fun r5 hr5 => ?_)
  refine zp_astore dL_law_40 (Nat.le_of_ble_eq_true rfl) (lv2 := [(7, .ref r5), (6, .ref r4), (5, .ref r3), (4, .ref r2), (3, .ref r1), (2, .ref r0), (1, .ref ob), (0, .ref b)]) rfl ?_
  refine zp_bipush dL_law_42 (v := 16) (by decide) ?_
  refine zp_newI (mc2 := 51877) (ms2 := 315457) (N := 16) dL_law_44 wd_84 (by decide) (by decide) (by decide) (by omega) (by omega) (fun r6 hr6 => ?_)
  refine zp_astore dL_law_46 (Nat.le_of_ble_eq_true rfl) (lv2 := [(8, .ref r6), (7, .ref r5), (6, .ref r4), (5, .ref r3), (4, .ref r2), (3, .ref r1), (2, .ref r0), (1, .ref ob), (0, .ref b)]) rfl ?_
  refine zp_bipush dL_law_48 (v := 8) (by decide) ?_
  refine zp_newI (mc2 := 51876) (ms2 := 315449) (N := 8) dL_law_50 wd_84 (by decide) (by decide) (by decide) (by omega) (by omega) (fun r7 hr7 => ?_)
  refine zp_astore dL_law_52 (Nat.le_of_ble_eq_true rfl) (lv2 := [(9, .ref r7), (8, .ref r6), (7, .ref r5), (6, .ref r4), (5, .ref r3), (4, .ref r2), (3, .ref r1), (2, .ref r0), (1, .ref ob), (0, .ref b)]) rfl ?_
  refine zp_bipush dL_law_54 (v := 64) (by decide) ?_
  refine zp_newI (mc2 := 51875) (ms2 := 315385) (N := 64) dL_law_56 wd_84 (by decide) (by decide) (by decide) (by omega) (by omega) (fun r8 hr8 => ?_)
  refine zp_astore dL_law_58 (Nat.le_of_ble_eq_true rfl) (lv2 := [(10, .ref r8), (9, .ref r7), (8, .ref r6), (7, .ref r5), (6, .ref r4), (5, .ref r3), (4, .ref r2), (3, .ref r1), (2, .ref r0), (1, .ref ob), (0, .ref b)]) rfl ?_
  have z0 : (zT s1 r0).1 = 0 := hr0
  obtain ⟨n1_0, x1_0⟩ := fr_ne hr1
  have z1 : (zT s1 r1).1 = 0 := x1_0
  obtain ⟨n2_1, x2_1⟩ := fr_ne hr2
  obtain ⟨n2_0, x2_0⟩ := fr_ne x2_1
  have z2 : (zT s1 r2).1 = 0 := x2_0
  obtain ⟨n3_2, x3_2⟩ := fr_ne hr3
  obtain ⟨n3_1, x3_1⟩ := fr_ne x3_2
  obtain ⟨n3_0, x3_0⟩ := fr_ne x3_1
  have z3 : (zT s1 r3).1 = 0 := x3_0
  obtain ⟨n4_3, x4_3⟩ := fr_ne hr4
  obtain ⟨n4_2, x4_2⟩ := fr_ne x4_3
  obtain ⟨n4_1, x4_1⟩ := fr_ne x4_2
  obtain ⟨n4_0, x4_0⟩ := fr_ne x4_1
  have z4 : (zT s1 r4).1 = 0 := x4_0
  obtain ⟨n5_4, x5_4⟩ := fr_ne hr5
  obtain ⟨n5_3, x5_3⟩ := fr_ne x5_4
  obtain ⟨n5_2, x5_2⟩ := fr_ne x5_3
  obtain ⟨n5_1, x5_1⟩ := fr_ne x5_2
  obtain ⟨n5_0, x5_0⟩ := fr_ne x5_1
  have z5 : (zT s1 r5).1 = 0 := x5_0
  obtain ⟨n6_5, x6_5⟩ := fr_ne hr6
  obtain ⟨n6_4, x6_4⟩ := fr_ne x6_5
  obtain ⟨n6_3, x6_3⟩ := fr_ne x6_4
  obtain ⟨n6_2, x6_2⟩ := fr_ne x6_3
  obtain ⟨n6_1, x6_1⟩ := fr_ne x6_2
  obtain ⟨n6_0, x6_0⟩ := fr_ne x6_1
  have z6 : (zT s1 r6).1 = 0 := x6_0
  obtain ⟨n7_6, x7_6⟩ := fr_ne hr7
  obtain ⟨n7_5, x7_5⟩ := fr_ne x7_6
  obtain ⟨n7_4, x7_4⟩ := fr_ne x7_5
  obtain ⟨n7_3, x7_3⟩ := fr_ne x7_4
  obtain ⟨n7_2, x7_2⟩ := fr_ne x7_3
  obtain ⟨n7_1, x7_1⟩ := fr_ne x7_2
  obtain ⟨n7_0, x7_0⟩ := fr_ne x7_1
  have z7 : (zT s1 r7).1 = 0 := x7_0
  obtain ⟨n8_7, x8_7⟩ := fr_ne hr8
  obtain ⟨n8_6, x8_6⟩ := fr_ne x8_7
  obtain ⟨n8_5, x8_5⟩ := fr_ne x8_6
  obtain ⟨n8_4, x8_4⟩ := fr_ne x8_5
  obtain ⟨n8_3, x8_3⟩ := fr_ne x8_4
  obtain ⟨n8_2, x8_2⟩ := fr_ne x8_3
  obtain ⟨n8_1, x8_1⟩ := fr_ne x8_2
  obtain ⟨n8_0, x8_0⟩ := fr_ne x8_1
  have z8 : (zT s1 r8).1 = 0 := x8_0
  have y0 : zT (wT (wT (wT (wT (wT (wT (wT (wT (wT s1 r0 (20, 64)) r1 (20, 48)) r2 (20, 48)) r3 (20, 32)) r4 (20, 48)) r5 (20, 64)) r6 (20, 16)) r7 (20, 8)) r8 (20, 64)) r0 = (20, 64) := (zT_new hr8 (zT_new hr7 (zT_new hr6 (zT_new hr5 (zT_new hr4 (zT_new hr3 (zT_new hr2 (zT_new hr1 zT_self))))))))
  have y1 : zT (wT (wT (wT (wT (wT (wT (wT (wT (wT s1 r0 (20, 64)) r1 (20, 48)) r2 (20, 48)) r3 (20, 32)) r4 (20, 48)) r5 (20, 64)) r6 (20, 16)) r7 (20, 8)) r8 (20, 64)) r1 = (20, 48) := (zT_new hr8 (zT_new hr7 (zT_new hr6 (zT_new hr5 (zT_new hr4 (zT_new hr3 (zT_new hr2 zT_self)))))))
  have y2 : zT (wT (wT (wT (wT (wT (wT (wT (wT (wT s1 r0 (20, 64)) r1 (20, 48)) r2 (20, 48)) r3 (20, 32)) r4 (20, 48)) r5 (20, 64)) r6 (20, 16)) r7 (20, 8)) r8 (20, 64)) r2 = (20, 48) := (zT_new hr8 (zT_new hr7 (zT_new hr6 (zT_new hr5 (zT_new hr4 (zT_new hr3 zT_self))))))
  have y3 : zT (wT (wT (wT (wT (wT (wT (wT (wT (wT s1 r0 (20, 64)) r1 (20, 48)) r2 (20, 48)) r3 (20, 32)) r4 (20, 48)) r5 (20, 64)) r6 (20, 16)) r7 (20, 8)) r8 (20, 64)) r3 = (20, 32) := (zT_new hr8 (zT_new hr7 (zT_new hr6 (zT_new hr5 (zT_new hr4 zT_self)))))
  have y4 : zT (wT (wT (wT (wT (wT (wT (wT (wT (wT s1 r0 (20, 64)) r1 (20, 48)) r2 (20, 48)) r3 (20, 32)) r4 (20, 48)) r5 (20, 64)) r6 (20, 16)) r7 (20, 8)) r8 (20, 64)) r4 = (20, 48) := (zT_new hr8 (zT_new hr7 (zT_new hr6 (zT_new hr5 zT_self))))
  have y5 : zT (wT (wT (wT (wT (wT (wT (wT (wT (wT s1 r0 (20, 64)) r1 (20, 48)) r2 (20, 48)) r3 (20, 32)) r4 (20, 48)) r5 (20, 64)) r6 (20, 16)) r7 (20, 8)) r8 (20, 64)) r5 = (20, 64) := (zT_new hr8 (zT_new hr7 (zT_new hr6 zT_self)))
  have y6 : zT (wT (wT (wT (wT (wT (wT (wT (wT (wT s1 r0 (20, 64)) r1 (20, 48)) r2 (20, 48)) r3 (20, 32)) r4 (20, 48)) r5 (20, 64)) r6 (20, 16)) r7 (20, 8)) r8 (20, 64)) r6 = (20, 16) := (zT_new hr8 (zT_new hr7 zT_self))
  have y7 : zT (wT (wT (wT (wT (wT (wT (wT (wT (wT s1 r0 (20, 64)) r1 (20, 48)) r2 (20, 48)) r3 (20, 32)) r4 (20, 48)) r5 (20, 64)) r6 (20, 16)) r7 (20, 8)) r8 (20, 64)) r7 = (20, 8) := (zT_new hr8 zT_self)
  have y8 : zT (wT (wT (wT (wT (wT (wT (wT (wT (wT s1 r0 (20, 64)) r1 (20, 48)) r2 (20, 48)) r3 (20, 32)) r4 (20, 48)) r5 (20, 64)) r6 (20, 16)) r7 (20, 8)) r8 (20, 64)) r8 = (20, 64) := zT_self
  have yB : zT (wT (wT (wT (wT (wT (wT (wT (wT (wT s1 r0 (20, 64)) r1 (20, 48)) r2 (20, 48)) r3 (20, 32)) r4 (20, 48)) r5 (20, 64)) r6 (20, 16)) r7 (20, 8)) r8 (20, 64)) b = (25, n) := (zT_new hr8 (zT_new hr7 (zT_new hr6 (zT_new hr5 (zT_new hr4 (zT_new hr3 (zT_new hr2 (zT_new hr1 (zT_new hr0 hB1)))))))))
  have yz : Rz G D0 X Y 60 0 LL fr LL' fr' (wT (wT (wT (wT (wT (wT (wT (wT (wT s1 r0 (20, 64)) r1 (20, 48)) r2 (20, 48)) r3 (20, 32)) r4 (20, 48)) r5 (20, 64)) r6 (20, 16)) r7 (20, 8)) r8 (20, 64)) := (((((((((hz1.nT D0_ok hr0).nT D0_ok hr1).nT D0_ok hr2).nT D0_ok hr3).nT D0_ok hr4).nT D0_ok hr5).nT D0_ok hr6).nT D0_ok hr7).nT D0_ok hr8)
  refine zp_gen (fun r => LT (r0, r1, r2, r3, r4, r5, r6, r7, r8) r ∧ LD (r0, r1, r2, r3, r4, r5, r6, r7, r8) ∧ Ap X Y 1 (r0, r1, r2, r3, r4, r5, r6, r7, r8) ∧ Rz G D0 X Y 60 0 LL fr LL' fr' r ∧ (∀ i, i < 9 → ∀ j, zA r (arL (r0, r1, r2, r3, r4, r5, r6, r7, r8) i) j = 0) ∧ zT r b = (25, n)) ⟨?_, ?_, ?_, yz, ?_, yB⟩ (fun s2 h2 => ?_)
  · intro i hi
    have hi9 : i = 0 ∨ i = 1 ∨ i = 2 ∨ i = 3 ∨ i = 4 ∨ i = 5 ∨ i = 6 ∨ i = 7 ∨ i = 8 := by omega
    rcases hi9 with rfl | rfl | rfl | rfl | rfl | rfl | rfl | rfl | rfl
    · exact y0
    · exact y1
    · exact y2
    · exact y3
    · exact y4
    · exact y5
    · exact y6
    · exact y7
    · exact y8
  · refine LD_of (fun i j hij hj => ?_)
    have hj9 : j = 0 ∨ j = 1 ∨ j = 2 ∨ j = 3 ∨ j = 4 ∨ j = 5 ∨ j = 6 ∨ j = 7 ∨ j = 8 := by omega
    rcases hj9 with rfl | rfl | rfl | rfl | rfl | rfl | rfl | rfl | rfl
    · exact absurd hij (Nat.not_lt_zero i)
    · have hi0 : i = 0 := by omega
      subst hi0
      exact n1_0
    · have hi9 : i = 0 ∨ i = 1 := by omega
      rcases hi9 with rfl | rfl
      · exact n2_0
      · exact n2_1
    · have hi9 : i = 0 ∨ i = 1 ∨ i = 2 := by omega
      rcases hi9 with rfl | rfl | rfl
      · exact n3_0
      · exact n3_1
      · exact n3_2
    · have hi9 : i = 0 ∨ i = 1 ∨ i = 2 ∨ i = 3 := by omega
      rcases hi9 with rfl | rfl | rfl | rfl
      · exact n4_0
      · exact n4_1
      · exact n4_2
      · exact n4_3
    · have hi9 : i = 0 ∨ i = 1 ∨ i = 2 ∨ i = 3 ∨ i = 4 := by omega
      rcases hi9 with rfl | rfl | rfl | rfl | rfl
      · exact n5_0
      · exact n5_1
      · exact n5_2
      · exact n5_3
      · exact n5_4
    · have hi9 : i = 0 ∨ i = 1 ∨ i = 2 ∨ i = 3 ∨ i = 4 ∨ i = 5 := by omega
      rcases hi9 with rfl | rfl | rfl | rfl | rfl | rfl
      · exact n6_0
      · exact n6_1
      · exact n6_2
      · exact n6_3
      · exact n6_4
      · exact n6_5
    · have hi9 : i = 0 ∨ i = 1 ∨ i = 2 ∨ i = 3 ∨ i = 4 ∨ i = 5 ∨ i = 6 := by omega
      rcases hi9 with rfl | rfl | rfl | rfl | rfl | rfl | rfl
      · exact n7_0
      · exact n7_1
      · exact n7_2
      · exact n7_3
      · exact n7_4
      · exact n7_5
      · exact n7_6
    · have hi9 : i = 0 ∨ i = 1 ∨ i = 2 ∨ i = 3 ∨ i = 4 ∨ i = 5 ∨ i = 6 ∨ i = 7 := by omega
      rcases hi9 with rfl | rfl | rfl | rfl | rfl | rfl | rfl | rfl
      · exact n8_0
      · exact n8_1
      · exact n8_2
      · exact n8_3
      · exact n8_4
      · exact n8_5
      · exact n8_6
      · exact n8_7
  · intro i hi t k ht hk q
    have e := hz1.rows ht hk
    rw [← q] at e
    have hi9 : i = 0 ∨ i = 1 ∨ i = 2 ∨ i = 3 ∨ i = 4 ∨ i = 5 ∨ i = 6 ∨ i = 7 ∨ i = 8 := by omega
    rcases hi9 with rfl | rfl | rfl | rfl | rfl | rfl | rfl | rfl | rfl
    · exact absurd (z0.symm.trans e) (by decide)
    · exact absurd (z1.symm.trans e) (by decide)
    · exact absurd (z2.symm.trans e) (by decide)
    · exact absurd (z3.symm.trans e) (by decide)
    · exact absurd (z4.symm.trans e) (by decide)
    · exact absurd (z5.symm.trans e) (by decide)
    · exact absurd (z6.symm.trans e) (by decide)
    · exact absurd (z7.symm.trans e) (by decide)
    · exact absurd (z8.symm.trans e) (by decide)
  · intro i hi j
    have hi9 : i = 0 ∨ i = 1 ∨ i = 2 ∨ i = 3 ∨ i = 4 ∨ i = 5 ∨ i = 6 ∨ i = 7 ∨ i = 8 := by omega
    rcases hi9 with rfl | rfl | rfl | rfl | rfl | rfl | rfl | rfl | rfl
    · exact ((zz1 r0 z0).2 j).1
    · exact ((zz1 r1 z1).2 j).1
    · exact ((zz1 r2 z2).2 j).1
    · exact ((zz1 r3 z3).2 j).1
    · exact ((zz1 r4 z4).2 j).1
    · exact ((zz1 r5 z5).2 j).1
    · exact ((zz1 r6 z6).2 j).1
    · exact ((zz1 r7 z7).2 j).1
    · exact ((zz1 r8 z8).2 j).1
  obtain ⟨g1, g2, g3, g4, g5, h2B⟩ := h2
  have h2T0 : zT s2 r0 = (20, 64) := g1 0 (by decide)
  have h2T1 : zT s2 r1 = (20, 48) := g1 1 (by decide)
  have h2T2 : zT s2 r2 = (20, 48) := g1 2 (by decide)
  have h2T3 : zT s2 r3 = (20, 32) := g1 3 (by decide)
  have h2T4 : zT s2 r4 = (20, 48) := g1 4 (by decide)
  have h2T5 : zT s2 r5 = (20, 64) := g1 5 (by decide)
  have h2T6 : zT s2 r6 = (20, 16) := g1 6 (by decide)
  have h2T7 : zT s2 r7 = (20, 8) := g1 7 (by decide)
  have h2T8 : zT s2 r8 = (20, 64) := g1 8 (by decide)
  refine zp_aload dL_law_60 (a := r7) (List.mem_of_getElem? (i := 1) rfl) ?_
  refine zp_iconst dL_law_62 (v := 3) (by decide) ?_
  refine zp_iconst dL_law_63 (v := 1) (by decide) ?_
  refine zp_iastore dL_law_64 h2T7 (j := 3) (by decide) (zin (by decide)) ?_
  refine zp_aload dL_law_65 (a := r7) (List.mem_of_getElem? (i := 1) rfl) ?_
  refine zp_iconst dL_law_67 (v := 4) (by decide) ?_
  refine zp_bipush dL_law_68 (v := 60) (by decide) ?_
  refine zp_iastore dL_law_70 (tA h2T7) (j := 4) (by decide) (zin (by decide)) ?_
  refine zp_aload dL_law_71 (a := r3) (List.mem_of_getElem? (i := 5) rfl) ?_
  refine zp_iconst dL_law_73 (v := 0) (by decide) ?_
  refine zp_iconst dL_law_74 (v := (-1)) (by decide) ?_
  refine zp_iastore dL_law_75 (tA (tA h2T3)) (j := 0) (by decide) (zin (by decide)) ?_
  refine zp_aload dL_law_76 (a := r3) (List.mem_of_getElem? (i := 5) rfl) ?_
  refine zp_bipush dL_law_78 (v := 16) (by decide) ?_
  refine zp_iconst dL_law_80 (v := (-1)) (by decide) ?_
  refine zp_iastore dL_law_81 (tA (tA (tA h2T3))) (j := 16) (by decide) (zin (by decide)) ?_
  refine zp_iconst dL_law_82 (v := 0) (by decide) ?_
  refine zp_istore dL_law_83 (Nat.le_of_ble_eq_true rfl) (lv2 := [(11, .int 0), (10, .ref r8), (9, .ref r7), (8, .ref r6), (7, .ref r5), (6, .ref r4), (5, .ref r3), (4, .ref r2), (3, .ref r1), (2, .ref r0), (1, .ref ob), (0, .ref b)]) rfl ?_
  refine zp_lv [0, 11, 10, 9, 8, 7, 6, 5, 4, 3, 2, 1] rfl ?_
  exact (l_law l (L := (r0, r1, r2, r3, r4, r5, r6, r7, r8)) hnb 60 0 _ rfl ⟨D0, X, Y, 60, 0, LL, fr, LL', fr', TI_0 g4 g1 g2 g3 g5, oe, Nat.le_refl _, fun _ => rfl, fun q => absurd q (by decide), h2B⟩).les (by decide) (by decide)

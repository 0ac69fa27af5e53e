/-! THE LAW: same, the lines, and the whole method (by wip/p27/gen_same3.py) -/
theorem l_s3E (l : Launch) {G : Gb} {D : Dt} {X : Cx} {Y : Cy} {W : Int32} {T : Nat} {LL2 : Nat → List Nat} {fr2 : List Nat} {L : Lw} (hD : DW D) {s : Sto} {LL : Nat → List Nat} {fr : List Nat} {Q : Option Value → Sto → Prop} (hz : Rz G D X Y W T LL fr LL2 fr2 s) (hA : LA D W L s) {k c : Nat} (kk : Wp l G 37 0 0 (RL, cL_same, 10, (some .boolean), false) 413 [(8, .int (nI c)), (7, .int (nI k)), (6, .int 1), (0, .ref (xob Y)), (1, .ref (lwt L)), (2, .ref (lwe L)), (3, .ref (lwa L)), (4, .ref (lwq L)), (5, .ref (lwn L))] [] s Q) : Wp l G 37 0 0 (RL, cL_same, 10, (some .boolean), false) 284 [(9, .int (nI (sls (LSt D W)).length)), (8, .int (nI c)), (7, .int (nI k)), (6, .int 1), (0, .ref (xob Y)), (1, .ref (lwt L)), (2, .ref (lwe L)), (3, .ref (lwa L)), (4, .ref (lwq L)), (5, .ref (lwn L))] [] s Q := by
  have hn := hD.2.1
  show Wp l G 37 0 0 (RL, cL_same, 10, (some .boolean), false) 284 [(9, .int (nI (sls (LSt D W)).length)), (8, .int (nI c)), (7, .int (nI k)), (6, .int 1), (0, .ref (xob Y)), (1, .ref (lwt L)), (2, .ref (lwe L)), (3, .ref (lwa L)), (4, .ref (lwq L)), (5, .ref (lwn L))] [] s _
  refine zp_iload dL_same_284 (x := (nI (sls (LSt D W)).length)) (List.mem_of_getElem? (i := 0) rfl) ?_
  refine zp_aload dL_same_286 (a := (lwq L)) (List.mem_of_getElem? (i := 8) rfl) ?_
  refine zp_bipush dL_same_288 (v := 6) (by decide) ?_
  refine zp_iald_v dL_same_290 (hA.Tq) (Or.inl rfl) (j := 6) (by decide) (zin (by decide)) (v := (nI (sls (LSt D W)).length)) hA.q6 ?_
  refine zp_icmp_ge dL_same_291 (tgt := 413) rfl (fun _ => ?_) (fun q => absurd (Int32.le_refl _) q)
  refine zp_lv [1, 2, 3, 4, 5, 6, 7, 8, 9] rfl ?_
  exact kk
theorem nI_ngl {k n : Nat} (hn : n ≤ 20) (hk : k < n) (q : nI n ≤ nI k) : False := by
  have := (nI_le' (j := n) (k := k) (by omega) (by omega)).mp q
  omega
set_option maxHeartbeats 8000000 in
theorem l_s3N (l : Launch) {G : Gb} {D : Dt} {X : Cx} {Y : Cy} {W : Int32} {T : Nat} {LL2 : Nat → List Nat} {fr2 : List Nat} {L : Lw} (hD : DW D) {s : Sto} {LL : Nat → List Nat} {fr : List Nat} {Q : Option Value → Sto → Prop} (hz : Rz G D X Y W T LL fr LL2 fr2 s) (hA : LA D W L s) {k c i : Nat} {e : Nat × Int32 × Int32} (hk : k < dn D) (ht : dtx D k = false) (he : (sls (LSt D W))[i]? = some e) (hne : e.1 ≠ k) (kk : Wp l G 37 0 0 (RL, cL_same, 10, (some .boolean), false) 284 [(9, .int (nI (i + 1))), (8, .int (nI c)), (7, .int (nI k)), (6, .int 1), (0, .ref (xob Y)), (1, .ref (lwt L)), (2, .ref (lwe L)), (3, .ref (lwa L)), (4, .ref (lwq L)), (5, .ref (lwn L))] [] s Q) : Wp l G 37 0 0 (RL, cL_same, 10, (some .boolean), false) 284 [(9, .int (nI i)), (8, .int (nI c)), (7, .int (nI k)), (6, .int 1), (0, .ref (xob Y)), (1, .ref (lwt L)), (2, .ref (lwe L)), (3, .ref (lwa L)), (4, .ref (lwq L)), (5, .ref (lwn L))] [] s Q := by
  have hn := hD.2.1
  have hi : i < (sls (LSt D W)).length := by
    rcases Nat.lt_or_ge i (sls (LSt D W)).length with q | q
    · exact q
    · rw [List.getElem?_eq_none q] at he; cases he
  have heb := ls_bd hD e (List.mem_of_getElem? he)
  have h20 := hA.len
  show Wp l G 37 0 0 (RL, cL_same, 10, (some .boolean), false) 284 [(9, .int (nI i)), (8, .int (nI c)), (7, .int (nI k)), (6, .int 1), (0, .ref (xob Y)), (1, .ref (lwt L)), (2, .ref (lwe L)), (3, .ref (lwa L)), (4, .ref (lwq L)), (5, .ref (lwn L))] [] s _
  refine zp_iload dL_same_284 (x := (nI i)) (List.mem_of_getElem? (i := 0) rfl) ?_
  refine zp_aload dL_same_286 (a := (lwq L)) (List.mem_of_getElem? (i := 8) rfl) ?_
  refine zp_bipush dL_same_288 (v := 6) (by decide) ?_
  refine zp_iald_v dL_same_290 (hA.Tq) (Or.inl rfl) (j := 6) (by decide) (zin (by decide)) (v := (nI (sls (LSt D W)).length)) hA.q6 ?_
  refine zp_icmp_ge dL_same_291 (tgt := 413) rfl (fun q => absurd q (fun q => nI_ngl hA.len hi q)) (fun _ => ?_)
  refine zp_iload dL_same_294 (x := 1) (List.mem_of_getElem? (i := 3) rfl) ?_
  refine zp_if_eq dL_same_296 (tgt := 413) rfl (fun q => absurd q (by decide)) (fun _ => ?_)
  refine zp_aload_n dL_same_299 rfl (a := (lwt L)) (List.mem_of_getElem? (i := 5) rfl) ?_
  refine zp_bipush dL_same_300 (v := 16) (by decide) ?_
  refine zp_iload dL_same_302 (x := (nI k)) (List.mem_of_getElem? (i := 2) rfl) ?_
  refine zp_iadd dL_same_304 ?_
  rw [show ((16 + (nI k)) : Int32) = (nI (16 + k)) from nI_add 16 k]
  refine zp_iald_v dL_same_305 (hA.Tt) (Or.inl rfl) (j := (16 + k)) (nI_clamp (by omega)) (vp_in_nI (by omega) (by decide)) (v := (zb (dtx D k = true))) (hA.li k (by omega)).2.1 ?_
  refine zp_if_ne dL_same_306 (tgt := 413) rfl (fun q => absurd (zb_f (by rw [ht]; decide)) q) (fun _ => ?_)
  refine zp_aload dL_same_309 (a := (lwn L)) (List.mem_of_getElem? (i := 9) rfl) ?_
  refine zp_iconst dL_same_311 (v := 3) (by decide) ?_
  refine zp_iload dL_same_312 (x := (nI i)) (List.mem_of_getElem? (i := 0) rfl) ?_
  refine zp_imul dL_same_314 ?_
  rw [show ((3 * (nI i)) : Int32) = (nI (3 * i)) from pk_mul 3 i]
  refine zp_iald_v dL_same_315 (hA.Tn) (Or.inl rfl) (j := (3 * i)) (nI_clamp (by omega)) (vp_in_nI (by omega) (by decide)) (v := (nI e.1)) ((hA.nn i e he).1) ?_
  refine zp_iload dL_same_316 (x := (nI k)) (List.mem_of_getElem? (i := 2) rfl) ?_
  refine zp_icmp_ne dL_same_318 (tgt := 407) rfl (fun _ => ?_) (fun q => absurd q (fun q => hne (nI_inj (by omega) (by omega) q)))
  refine zp_iinc dL_same_407 (k1 := 0) (x := (nI i)) rfl (v := (nI (i + 1))) (nI_1 i) (Nat.le_of_ble_eq_true rfl) (lv2 := [(9, .int (nI (i + 1))), (8, .int (nI c)), (7, .int (nI k)), (6, .int 1), (0, .ref (xob Y)), (1, .ref (lwt L)), (2, .ref (lwe L)), (3, .ref (lwa L)), (4, .ref (lwq L)), (5, .ref (lwn L))]) rfl ?_
  refine zp_goto dL_same_410 (tgt := 284) rfl ?_
  refine zp_lv [0, 1, 2, 3, 4, 5, 6, 7, 8, 9] rfl ?_
  exact kk
set_option maxHeartbeats 8000000 in
theorem l_s3Y (l : Launch) {G : Gb} {D : Dt} {X : Cx} {Y : Cy} {W : Int32} {T : Nat} {LL2 : Nat → List Nat} {fr2 : List Nat} {L : Lw} (hD : DW D) {s : Sto} {LL : Nat → List Nat} {fr : List Nat} {Q : Option Value → Sto → Prop} (hz : Rz G D X Y W T LL fr LL2 fr2 s) (hA : LA D W L s) {k c i : Nat} {e : Nat × Int32 × Int32} (hk : k < dn D) (ht : dtx D k = false) (he : (sls (LSt D W))[i]? = some e) (hey : e.1 = k) (hc : c = (lsOf ((sls (LSt D W)).take i) k).length) (kk : Wp l G 37 0 0 (RL, cL_same, 10, (some .boolean), false) 284 [(9, .int (nI (i + 1))), (8, .int (nI (c + 1))), (7, .int (nI k)), (6, .int 1), (0, .ref (xob Y)), (1, .ref (lwt L)), (2, .ref (lwe L)), (3, .ref (lwa L)), (4, .ref (lwq L)), (5, .ref (lwn L))] [] s Q) : Wp l G 37 0 0 (RL, cL_same, 10, (some .boolean), false) 284 [(9, .int (nI i)), (8, .int (nI c)), (7, .int (nI k)), (6, .int 1), (0, .ref (xob Y)), (1, .ref (lwt L)), (2, .ref (lwe L)), (3, .ref (lwa L)), (4, .ref (lwq L)), (5, .ref (lwn L))] [] s Q := by
  have hn := hD.2.1
  have hi : i < (sls (LSt D W)).length := by
    rcases Nat.lt_or_ge i (sls (LSt D W)).length with q | q
    · exact q
    · rw [List.getElem?_eq_none q] at he; cases he
  have heb := ls_bd hD e (List.mem_of_getElem? he)
  have h20 := hA.len
  have hq : (lsOf (sls (LSt D W)) k)[c]? = some e.2 := by rw [hc]; exact lsOf_get he hey
  have hci : c ≤ i := by rw [hc]; exact lsOf_len
  show Wp l G 37 0 0 (RL, cL_same, 10, (some .boolean), false) 284 [(9, .int (nI i)), (8, .int (nI c)), (7, .int (nI k)), (6, .int 1), (0, .ref (xob Y)), (1, .ref (lwt L)), (2, .ref (lwe L)), (3, .ref (lwa L)), (4, .ref (lwq L)), (5, .ref (lwn L))] [] s _
  refine zp_iload dL_same_284 (x := (nI i)) (List.mem_of_getElem? (i := 0) rfl) ?_
  refine zp_aload dL_same_286 (a := (lwq L)) (List.mem_of_getElem? (i := 8) rfl) ?_
  refine zp_bipush dL_same_288 (v := 6) (by decide) ?_
  refine zp_iald_v dL_same_290 (hA.Tq) (Or.inl rfl) (j := 6) (by decide) (zin (by decide)) (v := (nI (sls (LSt D W)).length)) hA.q6 ?_
  refine zp_icmp_ge dL_same_291 (tgt := 413) rfl (fun q => absurd q (fun q => nI_ngl hA.len hi q)) (fun _ => ?_)
  refine zp_iload dL_same_294 (x := 1) (List.mem_of_getElem? (i := 3) rfl) ?_
  refine zp_if_eq dL_same_296 (tgt := 413) rfl (fun q => absurd q (by decide)) (fun _ => ?_)
  refine zp_aload_n dL_same_299 rfl (a := (lwt L)) (List.mem_of_getElem? (i := 5) rfl) ?_
  refine zp_bipush dL_same_300 (v := 16) (by decide) ?_
  refine zp_iload dL_same_302 (x := (nI k)) (List.mem_of_getElem? (i := 2) rfl) ?_
  refine zp_iadd dL_same_304 ?_
  rw [show ((16 + (nI k)) : Int32) = (nI (16 + k)) from nI_add 16 k]
  refine zp_iald_v dL_same_305 (hA.Tt) (Or.inl rfl) (j := (16 + k)) (nI_clamp (by omega)) (vp_in_nI (by omega) (by decide)) (v := (zb (dtx D k = true))) (hA.li k (by omega)).2.1 ?_
  refine zp_if_ne dL_same_306 (tgt := 413) rfl (fun q => absurd (zb_f (by rw [ht]; decide)) q) (fun _ => ?_)
  refine zp_aload dL_same_309 (a := (lwn L)) (List.mem_of_getElem? (i := 9) rfl) ?_
  refine zp_iconst dL_same_311 (v := 3) (by decide) ?_
  refine zp_iload dL_same_312 (x := (nI i)) (List.mem_of_getElem? (i := 0) rfl) ?_
  refine zp_imul dL_same_314 ?_
  rw [show ((3 * (nI i)) : Int32) = (nI (3 * i)) from pk_mul 3 i]
  refine zp_iald_v dL_same_315 (hA.Tn) (Or.inl rfl) (j := (3 * i)) (nI_clamp (by omega)) (vp_in_nI (by omega) (by decide)) (v := (nI e.1)) ((hA.nn i e he).1) ?_
  refine zp_iload dL_same_316 (x := (nI k)) (List.mem_of_getElem? (i := 2) rfl) ?_
  refine zp_icmp_ne dL_same_318 (tgt := 407) rfl (fun q => absurd (by rw [hey]) q) (fun _ => ?_)
  refine zp_aload_n dL_same_321 rfl (a := (xob Y)) (List.mem_of_getElem? (i := 4) rfl) ?_
  refine zp_iload dL_same_322 (x := (nI k)) (List.mem_of_getElem? (i := 2) rfl) ?_
  refine zp_iload dL_same_324 (x := (nI c)) (List.mem_of_getElem? (i := 1) rfl) ?_
  refine zp_iconst dL_same_326 (v := 1) (by decide) ?_
  refine zp_callV (c0 := 9) (st := []) (mc2 := 0) (ms2 := 0) dL_same_327 (c_X12_line1 l G D X Y W T LL fr LL2 fr2 k s hD hz hk c e.2 ht hq (by omega)) cl_L_74 im_X12_line se_X12_line rfl rfl (hz.zo) rfl rfl (by omega) (by omega) (by omega) (Nat.le_of_ble_eq_true rfl) ?_
  rintro _ sx ⟨rfl, hsx⟩; obtain rfl := hsx.symm
  refine zp_aload dL_same_330 (a := (lwn L)) (List.mem_of_getElem? (i := 9) rfl) ?_
  refine zp_iconst dL_same_332 (v := 3) (by decide) ?_
  refine zp_iload dL_same_333 (x := (nI i)) (List.mem_of_getElem? (i := 0) rfl) ?_
  refine zp_imul dL_same_335 ?_
  rw [show ((3 * (nI i)) : Int32) = (nI (3 * i)) from pk_mul 3 i]
  refine zp_iconst dL_same_336 (v := 1) (by decide) ?_
  refine zp_iadd dL_same_337 ?_
  rw [show (((nI (3 * i)) + 1) : Int32) = (nI (3 * i + 1)) from nI_add (3 * i) 1]
  refine zp_iald_v dL_same_338 (hA.Tn) (Or.inl rfl) (j := (3 * i + 1)) (nI_clamp (by omega)) (vp_in_nI (by omega) (by decide)) (v := (e.2.1)) ((hA.nn i e he).2.1) ?_
  refine zp_icmp_ne dL_same_339 (tgt := 401) rfl (fun q => absurd rfl q) (fun _ => ?_)
  refine zp_aload_n dL_same_342 rfl (a := (xob Y)) (List.mem_of_getElem? (i := 4) rfl) ?_
  refine zp_iload dL_same_343 (x := (nI k)) (List.mem_of_getElem? (i := 2) rfl) ?_
  refine zp_iload dL_same_345 (x := (nI c)) (List.mem_of_getElem? (i := 1) rfl) ?_
  refine zp_iconst dL_same_347 (v := 2) (by decide) ?_
  refine zp_callV (c0 := 9) (st := []) (mc2 := 0) (ms2 := 0) dL_same_348 (c_X12_line2 l G D X Y W T LL fr LL2 fr2 k s hD hz hk c e.2 ht hq (by omega)) cl_L_74 im_X12_line se_X12_line rfl rfl (hz.zo) rfl rfl (by omega) (by omega) (by omega) (Nat.le_of_ble_eq_true rfl) ?_
  rintro _ sx ⟨rfl, hsx⟩; obtain rfl := hsx.symm
  refine zp_aload dL_same_351 (a := (lwn L)) (List.mem_of_getElem? (i := 9) rfl) ?_
  refine zp_iconst dL_same_353 (v := 3) (by decide) ?_
  refine zp_iload dL_same_354 (x := (nI i)) (List.mem_of_getElem? (i := 0) rfl) ?_
  refine zp_imul dL_same_356 ?_
  rw [show ((3 * (nI i)) : Int32) = (nI (3 * i)) from pk_mul 3 i]
  refine zp_iconst dL_same_357 (v := 2) (by decide) ?_
  refine zp_iadd dL_same_358 ?_
  rw [show (((nI (3 * i)) + 2) : Int32) = (nI (3 * i + 2)) from nI_add (3 * i) 2]
  refine zp_iald_v dL_same_359 (hA.Tn) (Or.inl rfl) (j := (3 * i + 2)) (nI_clamp (by omega)) (vp_in_nI (by omega) (by decide)) (v := (e.2.2)) ((hA.nn i e he).2.2) ?_
  refine zp_icmp_ne dL_same_360 (tgt := 401) rfl (fun q => absurd rfl q) (fun _ => ?_)
  refine zp_aload_n dL_same_363 rfl (a := (xob Y)) (List.mem_of_getElem? (i := 4) rfl) ?_
  refine zp_iload dL_same_364 (x := (nI k)) (List.mem_of_getElem? (i := 2) rfl) ?_
  refine zp_iload dL_same_366 (x := (nI c)) (List.mem_of_getElem? (i := 1) rfl) ?_
  refine zp_iconst dL_same_368 (v := 0) (by decide) ?_
  refine zp_callV (c0 := 9) (st := []) (mc2 := 0) (ms2 := 0) dL_same_369 (c_X12_line0 l G D X Y W T LL fr LL2 fr2 k s hD hz hk c e.2 ht hq (by omega)) cl_L_74 im_X12_line se_X12_line rfl rfl (hz.zo) rfl rfl (by omega) (by omega) (by omega) (Nat.le_of_ble_eq_true rfl) ?_
  rintro _ sx ⟨rfl, hsx⟩; obtain rfl := hsx.symm
  refine zp_iload dL_same_372 (x := (nI k)) (List.mem_of_getElem? (i := 2) rfl) ?_
  refine zp_if_ne dL_same_374 (tgt := 381) rfl (fun h372 => ?_) (fun h372 => ?_)
  · skip
    refine zp_aload_n dL_same_381 rfl (a := (lwa L)) (List.mem_of_getElem? (i := 7) rfl) ?_
    refine zp_iload dL_same_382 (x := (nI k)) (List.mem_of_getElem? (i := 2) rfl) ?_
    refine zp_iald_v dL_same_384 (hA.Ta) (Or.inl rfl) (j := (k)) (nI_clamp (by omega)) (vp_in_nI (by omega) (by decide)) (v := (sa (LSt D W) k)) (hA.bx k hk ht (fun q => h372 (by rw [q]; rfl))).1 ?_
    refine zp_aload_n dL_same_385 rfl (a := (lwe L)) (List.mem_of_getElem? (i := 6) rfl) ?_
    refine zp_iconst dL_same_386 (v := 4) (by decide) ?_
    refine zp_iload dL_same_387 (x := (nI k)) (List.mem_of_getElem? (i := 2) rfl) ?_
    refine zp_imul dL_same_389 ?_
    rw [show ((4 * (nI k)) : Int32) = (nI (4 * k)) from pk_mul 4 k]
    refine zp_iconst dL_same_390 (v := 3) (by decide) ?_
    refine zp_iadd dL_same_391 ?_
    rw [show (((nI (4 * k)) + 3) : Int32) = (nI (4 * k + 3)) from nI_add (4 * k) 3]
    refine zp_iald_v dL_same_392 (hA.Te) (Or.inl rfl) (j := (4 * k + 3)) (nI_clamp (by omega)) (vp_in_nI (by omega) (by decide)) (v := (dst D k 13)) ((hA.li k (by omega)).2.2.2.2.2.2.1 3 (by decide)).2 ?_
    refine zp_iadd dL_same_393 ?_
    refine zp_icmp_ne dL_same_394 (tgt := 401) rfl (fun q => absurd (inP_1 h372) q) (fun _ => ?_)
    refine zp_iconst dL_same_397 (v := 1) (by decide) ?_
    refine zp_goto dL_same_398 (tgt := 402) rfl ?_
    refine zp_istore dL_same_402 (Nat.le_of_ble_eq_true rfl) (lv2 := [(6, .int 1), (9, .int (nI i)), (8, .int (nI c)), (7, .int (nI k)), (0, .ref (xob Y)), (1, .ref (lwt L)), (2, .ref (lwe L)), (3, .ref (lwa L)), (4, .ref (lwq L)), (5, .ref (lwn L))]) rfl ?_
    refine zp_iinc dL_same_404 (k1 := 2) (x := (nI c)) rfl (v := (nI (c + 1))) (nI_1 c) (Nat.le_of_ble_eq_true rfl) (lv2 := [(8, .int (nI (c + 1))), (6, .int 1), (9, .int (nI i)), (7, .int (nI k)), (0, .ref (xob Y)), (1, .ref (lwt L)), (2, .ref (lwe L)), (3, .ref (lwa L)), (4, .ref (lwq L)), (5, .ref (lwn L))]) rfl ?_
    refine zp_iinc dL_same_407 (k1 := 2) (x := (nI i)) rfl (v := (nI (i + 1))) (nI_1 i) (Nat.le_of_ble_eq_true rfl) (lv2 := [(9, .int (nI (i + 1))), (8, .int (nI (c + 1))), (6, .int 1), (7, .int (nI k)), (0, .ref (xob Y)), (1, .ref (lwt L)), (2, .ref (lwe L)), (3, .ref (lwa L)), (4, .ref (lwq L)), (5, .ref (lwn L))]) rfl ?_
    refine zp_goto dL_same_410 (tgt := 284) rfl ?_
    refine zp_lv [0, 1, 3, 2, 4, 5, 6, 7, 8, 9] rfl ?_
    exact kk
  · skip
    refine zp_iconst dL_same_377 (v := 0) (by decide) ?_
    refine zp_goto dL_same_378 (tgt := 394) rfl ?_
    refine zp_icmp_ne dL_same_394 (tgt := 401) rfl (fun q => absurd (inP_0 (by omega) h372) q) (fun _ => ?_)
    refine zp_iconst dL_same_397 (v := 1) (by decide) ?_
    refine zp_goto dL_same_398 (tgt := 402) rfl ?_
    refine zp_istore dL_same_402 (Nat.le_of_ble_eq_true rfl) (lv2 := [(6, .int 1), (9, .int (nI i)), (8, .int (nI c)), (7, .int (nI k)), (0, .ref (xob Y)), (1, .ref (lwt L)), (2, .ref (lwe L)), (3, .ref (lwa L)), (4, .ref (lwq L)), (5, .ref (lwn L))]) rfl ?_
    refine zp_iinc dL_same_404 (k1 := 2) (x := (nI c)) rfl (v := (nI (c + 1))) (nI_1 c) (Nat.le_of_ble_eq_true rfl) (lv2 := [(8, .int (nI (c + 1))), (6, .int 1), (9, .int (nI i)), (7, .int (nI k)), (0, .ref (xob Y)), (1, .ref (lwt L)), (2, .ref (lwe L)), (3, .ref (lwa L)), (4, .ref (lwq L)), (5, .ref (lwn L))]) rfl ?_
    refine zp_iinc dL_same_407 (k1 := 2) (x := (nI i)) rfl (v := (nI (i + 1))) (nI_1 i) (Nat.le_of_ble_eq_true rfl) (lv2 := [(9, .int (nI (i + 1))), (8, .int (nI (c + 1))), (6, .int 1), (7, .int (nI k)), (0, .ref (xob Y)), (1, .ref (lwt L)), (2, .ref (lwe L)), (3, .ref (lwa L)), (4, .ref (lwq L)), (5, .ref (lwn L))]) rfl ?_
    refine zp_goto dL_same_410 (tgt := 284) rfl ?_
    refine zp_lv [0, 1, 3, 2, 4, 5, 6, 7, 8, 9] rfl ?_
    exact kk
theorem l_s3 (l : Launch) {G : Gb} {D : Dt} {X : Cx} {Y : Cy} {W : Int32} {T : Nat} {LL2 : Nat → List Nat} {fr2 : List Nat} {L : Lw} (hD : DW D) {s : Sto} {LL : Nat → List Nat} {fr : List Nat} {Q : Option Value → Sto → Prop} (hz : Rz G D X Y W T LL fr LL2 fr2 s) (hA : LA D W L s) {k : Nat} (hk : k < dn D) (ht : dtx D k = false) (kk : Wp l G 37 0 0 (RL, cL_same, 10, (some .boolean), false) 413 [(8, .int (nI (lsOf (sls (LSt D W)) k).length)), (7, .int (nI k)), (6, .int 1), (0, .ref (xob Y)), (1, .ref (lwt L)), (2, .ref (lwe L)), (3, .ref (lwa L)), (4, .ref (lwq L)), (5, .ref (lwn L))] [] s Q) : ∀ (m i : Nat), i + m = (sls (LSt D W)).length → Wp l G 37 0 0 (RL, cL_same, 10, (some .boolean), false) 284 [(9, .int (nI i)), (8, .int (nI (lsOf ((sls (LSt D W)).take i) k).length)), (7, .int (nI k)), (6, .int 1), (0, .ref (xob Y)), (1, .ref (lwt L)), (2, .ref (lwe L)), (3, .ref (lwa L)), (4, .ref (lwq L)), (5, .ref (lwn L))] [] s Q
  | 0, i, hm => by
    have hm : i = (sls (LSt D W)).length := hm
    subst hm
    rw [List.take_length]
    exact l_s3E l hD hz hA kk
  | m + 1, i, hm => by
    have hi : i < (sls (LSt D W)).length := by omega
    have he : (sls (LSt D W))[i]? = some (sls (LSt D W))[i] := List.getElem?_eq_getElem hi
    have ih := l_s3 l hD hz hA hk ht kk m (i + 1) (by omega)
    rw [lsOf_take he] at ih
    by_cases z : ((sls (LSt D W))[i]).1 = k
    · rw [if_pos z, List.length_append] at ih
      exact l_s3Y l hD hz hA hk ht he z rfl ih
    · rw [if_neg z, List.append_nil] at ih
      exact l_s3N l hD hz hA hk ht he z ih
set_option maxHeartbeats 8000000 in
theorem l_s2T0 (l : Launch) {G : Gb} {D : Dt} {X : Cx} {Y : Cy} {W : Int32} {T : Nat} {LL2 : Nat → List Nat} {fr2 : List Nat} {L : Lw} (hD : DW D) {s : Sto} {LL : Nat → List Nat} {fr : List Nat} {Q : Option Value → Sto → Prop} (hz : Rz G D X Y W T LL fr LL2 fr2 s) (hA : LA D W L s) {k : Nat} (hk : k < dn D) (ht : dtx D k = true) (h0 : (sls (LSt D W)).length = 0) (kk : Wp l G 37 0 0 (RL, cL_same, 10, (some .boolean), false) 264 [(7, .int (nI (k + 1))), (6, .int 1), (0, .ref (xob Y)), (1, .ref (lwt L)), (2, .ref (lwe L)), (3, .ref (lwa L)), (4, .ref (lwq L)), (5, .ref (lwn L))] [] s Q) : Wp l G 37 0 0 (RL, cL_same, 10, (some .boolean), false) 264 [(7, .int (nI k)), (6, .int 1), (0, .ref (xob Y)), (1, .ref (lwt L)), (2, .ref (lwe L)), (3, .ref (lwa L)), (4, .ref (lwq L)), (5, .ref (lwn L))] [] s Q := by
  have hn := hD.2.1
  show Wp l G 37 0 0 (RL, cL_same, 10, (some .boolean), false) 264 [(7, .int (nI k)), (6, .int 1), (0, .ref (xob Y)), (1, .ref (lwt L)), (2, .ref (lwe L)), (3, .ref (lwa L)), (4, .ref (lwq L)), (5, .ref (lwn L))] [] s _
  refine zp_iload dL_same_264 (x := (nI k)) (List.mem_of_getElem? (i := 0) rfl) ?_
  refine zp_aload dL_same_266 (a := (lwq L)) (List.mem_of_getElem? (i := 6) rfl) ?_
  refine zp_iconst dL_same_268 (v := 3) (by decide) ?_
  refine zp_iald_v dL_same_269 (hA.Tq) (Or.inl rfl) (j := 3) (by decide) (zin (by decide)) (v := (nI (dn D))) hA.2.1.2.1 ?_
  refine zp_icmp_ge dL_same_270 (tgt := 453) rfl (fun q => absurd q (fun q => nI_nge hn hk q)) (fun _ => ?_)
  refine zp_iload dL_same_273 (x := 1) (List.mem_of_getElem? (i := 1) rfl) ?_
  refine zp_if_eq dL_same_275 (tgt := 453) rfl (fun q => absurd q (by decide)) (fun _ => ?_)
  refine zp_iconst dL_same_278 (v := 0) (by decide) ?_
  refine zp_istore dL_same_279 (Nat.le_of_ble_eq_true rfl) (lv2 := [(8, .int 0), (7, .int (nI k)), (6, .int 1), (0, .ref (xob Y)), (1, .ref (lwt L)), (2, .ref (lwe L)), (3, .ref (lwa L)), (4, .ref (lwq L)), (5, .ref (lwn L))]) rfl ?_
  refine zp_iconst dL_same_281 (v := 0) (by decide) ?_
  refine zp_istore dL_same_282 (Nat.le_of_ble_eq_true rfl) (lv2 := [(9, .int 0), (8, .int 0), (7, .int (nI k)), (6, .int 1), (0, .ref (xob Y)), (1, .ref (lwt L)), (2, .ref (lwe L)), (3, .ref (lwa L)), (4, .ref (lwq L)), (5, .ref (lwn L))]) rfl ?_
  refine zp_iload dL_same_284 (x := 0) (List.mem_of_getElem? (i := 0) rfl) ?_
  refine zp_aload dL_same_286 (a := (lwq L)) (List.mem_of_getElem? (i := 8) rfl) ?_
  refine zp_bipush dL_same_288 (v := 6) (by decide) ?_
  refine zp_iald_v dL_same_290 (hA.Tq) (Or.inl rfl) (j := 6) (by decide) (zin (by decide)) (v := (nI (sls (LSt D W)).length)) hA.q6 ?_
  refine zp_icmp_ge dL_same_291 (tgt := 413) rfl (fun _ => ?_) (fun q => absurd (by rw [h0]; decide) q)
  refine zp_iload dL_same_413 (x := 1) (List.mem_of_getElem? (i := 3) rfl) ?_
  refine zp_if_eq dL_same_415 (tgt := 444) rfl (fun q => absurd q (by decide)) (fun _ => ?_)
  refine zp_aload_n dL_same_418 rfl (a := (lwt L)) (List.mem_of_getElem? (i := 5) rfl) ?_
  refine zp_bipush dL_same_419 (v := 16) (by decide) ?_
  refine zp_iload dL_same_421 (x := (nI k)) (List.mem_of_getElem? (i := 2) rfl) ?_
  refine zp_iadd dL_same_423 ?_
  rw [show ((16 + (nI k)) : Int32) = (nI (16 + k)) from nI_add 16 k]
  refine zp_iald_v dL_same_424 (hA.Tt) (Or.inl rfl) (j := (16 + k)) (nI_clamp (by omega)) (vp_in_nI (by omega) (by decide)) (v := (zb (dtx D k = true))) (hA.li k (by omega)).2.1 ?_
  refine zp_iconst dL_same_425 (v := 1) (by decide) ?_
  refine zp_icmp_eq dL_same_426 (tgt := 440) rfl (fun _ => ?_) (fun q => absurd (zb_t ht) q)
  refine zp_iconst dL_same_440 (v := 1) (by decide) ?_
  refine zp_goto dL_same_441 (tgt := 445) rfl ?_
  refine zp_istore dL_same_445 (Nat.le_of_ble_eq_true rfl) (lv2 := [(6, .int 1), (9, .int 0), (8, .int 0), (7, .int (nI k)), (0, .ref (xob Y)), (1, .ref (lwt L)), (2, .ref (lwe L)), (3, .ref (lwa L)), (4, .ref (lwq L)), (5, .ref (lwn L))]) rfl ?_
  refine zp_iinc dL_same_447 (k1 := 3) (x := (nI k)) rfl (v := (nI (k + 1))) (nI_1 k) (Nat.le_of_ble_eq_true rfl) (lv2 := [(7, .int (nI (k + 1))), (6, .int 1), (9, .int 0), (8, .int 0), (0, .ref (xob Y)), (1, .ref (lwt L)), (2, .ref (lwe L)), (3, .ref (lwa L)), (4, .ref (lwq L)), (5, .ref (lwn L))]) rfl ?_
  refine zp_goto dL_same_450 (tgt := 264) rfl ?_
  refine zp_lv [0, 1, 4, 5, 6, 7, 8, 9] rfl ?_
  exact kk
set_option maxHeartbeats 8000000 in
theorem l_s2T1 (l : Launch) {G : Gb} {D : Dt} {X : Cx} {Y : Cy} {W : Int32} {T : Nat} {LL2 : Nat → List Nat} {fr2 : List Nat} {L : Lw} (hD : DW D) {s : Sto} {LL : Nat → List Nat} {fr : List Nat} {Q : Option Value → Sto → Prop} (hz : Rz G D X Y W T LL fr LL2 fr2 s) (hA : LA D W L s) {k : Nat} (hk : k < dn D) (ht : dtx D k = true) (h0 : (sls (LSt D W)).length ≠ 0) (kk : Wp l G 37 0 0 (RL, cL_same, 10, (some .boolean), false) 264 [(7, .int (nI (k + 1))), (6, .int 1), (0, .ref (xob Y)), (1, .ref (lwt L)), (2, .ref (lwe L)), (3, .ref (lwa L)), (4, .ref (lwq L)), (5, .ref (lwn L))] [] s Q) : Wp l G 37 0 0 (RL, cL_same, 10, (some .boolean), false) 264 [(7, .int (nI k)), (6, .int 1), (0, .ref (xob Y)), (1, .ref (lwt L)), (2, .ref (lwe L)), (3, .ref (lwa L)), (4, .ref (lwq L)), (5, .ref (lwn L))] [] s Q := by
  have hn := hD.2.1
  have h20 := hA.len
  show Wp l G 37 0 0 (RL, cL_same, 10, (some .boolean), false) 264 [(7, .int (nI k)), (6, .int 1), (0, .ref (xob Y)), (1, .ref (lwt L)), (2, .ref (lwe L)), (3, .ref (lwa L)), (4, .ref (lwq L)), (5, .ref (lwn L))] [] s _
  refine zp_iload dL_same_264 (x := (nI k)) (List.mem_of_getElem? (i := 0) rfl) ?_
  refine zp_aload dL_same_266 (a := (lwq L)) (List.mem_of_getElem? (i := 6) rfl) ?_
  refine zp_iconst dL_same_268 (v := 3) (by decide) ?_
  refine zp_iald_v dL_same_269 (hA.Tq) (Or.inl rfl) (j := 3) (by decide) (zin (by decide)) (v := (nI (dn D))) hA.2.1.2.1 ?_
  refine zp_icmp_ge dL_same_270 (tgt := 453) rfl (fun q => absurd q (fun q => nI_nge hn hk q)) (fun _ => ?_)
  refine zp_iload dL_same_273 (x := 1) (List.mem_of_getElem? (i := 1) rfl) ?_
  refine zp_if_eq dL_same_275 (tgt := 453) rfl (fun q => absurd q (by decide)) (fun _ => ?_)
  refine zp_iconst dL_same_278 (v := 0) (by decide) ?_
  refine zp_istore dL_same_279 (Nat.le_of_ble_eq_true rfl) (lv2 := [(8, .int 0), (7, .int (nI k)), (6, .int 1), (0, .ref (xob Y)), (1, .ref (lwt L)), (2, .ref (lwe L)), (3, .ref (lwa L)), (4, .ref (lwq L)), (5, .ref (lwn L))]) rfl ?_
  refine zp_iconst dL_same_281 (v := 0) (by decide) ?_
  refine zp_istore dL_same_282 (Nat.le_of_ble_eq_true rfl) (lv2 := [(9, .int 0), (8, .int 0), (7, .int (nI k)), (6, .int 1), (0, .ref (xob Y)), (1, .ref (lwt L)), (2, .ref (lwe L)), (3, .ref (lwa L)), (4, .ref (lwq L)), (5, .ref (lwn L))]) rfl ?_
  refine zp_iload dL_same_284 (x := 0) (List.mem_of_getElem? (i := 0) rfl) ?_
  refine zp_aload dL_same_286 (a := (lwq L)) (List.mem_of_getElem? (i := 8) rfl) ?_
  refine zp_bipush dL_same_288 (v := 6) (by decide) ?_
  refine zp_iald_v dL_same_290 (hA.Tq) (Or.inl rfl) (j := 6) (by decide) (zin (by decide)) (v := (nI (sls (LSt D W)).length)) hA.q6 ?_
  refine zp_icmp_ge dL_same_291 (tgt := 413) rfl (fun q => absurd q (fun q => by have := nI_le0 (by omega) q; omega)) (fun _ => ?_)
  refine zp_iload dL_same_294 (x := 1) (List.mem_of_getElem? (i := 3) rfl) ?_
  refine zp_if_eq dL_same_296 (tgt := 413) rfl (fun q => absurd q (by decide)) (fun _ => ?_)
  refine zp_aload_n dL_same_299 rfl (a := (lwt L)) (List.mem_of_getElem? (i := 5) rfl) ?_
  refine zp_bipush dL_same_300 (v := 16) (by decide) ?_
  refine zp_iload dL_same_302 (x := (nI k)) (List.mem_of_getElem? (i := 2) rfl) ?_
  refine zp_iadd dL_same_304 ?_
  rw [show ((16 + (nI k)) : Int32) = (nI (16 + k)) from nI_add 16 k]
  refine zp_iald_v dL_same_305 (hA.Tt) (Or.inl rfl) (j := (16 + k)) (nI_clamp (by omega)) (vp_in_nI (by omega) (by decide)) (v := (zb (dtx D k = true))) (hA.li k (by omega)).2.1 ?_
  refine zp_if_ne dL_same_306 (tgt := 413) rfl (fun _ => ?_) (fun q => absurd q (by rw [zb_t ht]; decide))
  refine zp_iload dL_same_413 (x := 1) (List.mem_of_getElem? (i := 3) rfl) ?_
  refine zp_if_eq dL_same_415 (tgt := 444) rfl (fun q => absurd q (by decide)) (fun _ => ?_)
  refine zp_aload_n dL_same_418 rfl (a := (lwt L)) (List.mem_of_getElem? (i := 5) rfl) ?_
  refine zp_bipush dL_same_419 (v := 16) (by decide) ?_
  refine zp_iload dL_same_421 (x := (nI k)) (List.mem_of_getElem? (i := 2) rfl) ?_
  refine zp_iadd dL_same_423 ?_
  rw [show ((16 + (nI k)) : Int32) = (nI (16 + k)) from nI_add 16 k]
  refine zp_iald_v dL_same_424 (hA.Tt) (Or.inl rfl) (j := (16 + k)) (nI_clamp (by omega)) (vp_in_nI (by omega) (by decide)) (v := (zb (dtx D k = true))) (hA.li k (by omega)).2.1 ?_
  refine zp_iconst dL_same_425 (v := 1) (by decide) ?_
  refine zp_icmp_eq dL_same_426 (tgt := 440) rfl (fun _ => ?_) (fun q => absurd (zb_t ht) q)
  refine zp_iconst dL_same_440 (v := 1) (by decide) ?_
  refine zp_goto dL_same_441 (tgt := 445) rfl ?_
  refine zp_istore dL_same_445 (Nat.le_of_ble_eq_true rfl) (lv2 := [(6, .int 1), (9, .int 0), (8, .int 0), (7, .int (nI k)), (0, .ref (xob Y)), (1, .ref (lwt L)), (2, .ref (lwe L)), (3, .ref (lwa L)), (4, .ref (lwq L)), (5, .ref (lwn L))]) rfl ?_
  refine zp_iinc dL_same_447 (k1 := 3) (x := (nI k)) rfl (v := (nI (k + 1))) (nI_1 k) (Nat.le_of_ble_eq_true rfl) (lv2 := [(7, .int (nI (k + 1))), (6, .int 1), (9, .int 0), (8, .int 0), (0, .ref (xob Y)), (1, .ref (lwt L)), (2, .ref (lwe L)), (3, .ref (lwa L)), (4, .ref (lwq L)), (5, .ref (lwn L))]) rfl ?_
  refine zp_goto dL_same_450 (tgt := 264) rfl ?_
  refine zp_lv [0, 1, 4, 5, 6, 7, 8, 9] rfl ?_
  exact kk
set_option maxHeartbeats 8000000 in
theorem l_s2B (l : Launch) {G : Gb} {D : Dt} {X : Cx} {Y : Cy} {W : Int32} {T : Nat} {LL2 : Nat → List Nat} {fr2 : List Nat} {L : Lw} (hD : DW D) {s : Sto} {LL : Nat → List Nat} {fr : List Nat} {Q : Option Value → Sto → Prop} (hz : Rz G D X Y W T LL fr LL2 fr2 s) (hA : LA D W L s) {k : Nat} (hk : k < dn D) (ht : dtx D k = false) (kk : Wp l G 37 0 0 (RL, cL_same, 10, (some .boolean), false) 284 [(9, .int (nI 0)), (8, .int (nI 0)), (7, .int (nI k)), (6, .int 1), (0, .ref (xob Y)), (1, .ref (lwt L)), (2, .ref (lwe L)), (3, .ref (lwa L)), (4, .ref (lwq L)), (5, .ref (lwn L))] [] s Q) : Wp l G 37 0 0 (RL, cL_same, 10, (some .boolean), false) 264 [(7, .int (nI k)), (6, .int 1), (0, .ref (xob Y)), (1, .ref (lwt L)), (2, .ref (lwe L)), (3, .ref (lwa L)), (4, .ref (lwq L)), (5, .ref (lwn L))] [] s Q := by
  have hn := hD.2.1
  show Wp l G 37 0 0 (RL, cL_same, 10, (some .boolean), false) 264 [(7, .int (nI k)), (6, .int 1), (0, .ref (xob Y)), (1, .ref (lwt L)), (2, .ref (lwe L)), (3, .ref (lwa L)), (4, .ref (lwq L)), (5, .ref (lwn L))] [] s _
  refine zp_iload dL_same_264 (x := (nI k)) (List.mem_of_getElem? (i := 0) rfl) ?_
  refine zp_aload dL_same_266 (a := (lwq L)) (List.mem_of_getElem? (i := 6) rfl) ?_
  refine zp_iconst dL_same_268 (v := 3) (by decide) ?_
  refine zp_iald_v dL_same_269 (hA.Tq) (Or.inl rfl) (j := 3) (by decide) (zin (by decide)) (v := (nI (dn D))) hA.2.1.2.1 ?_
  refine zp_icmp_ge dL_same_270 (tgt := 453) rfl (fun q => absurd q (fun q => nI_nge hn hk q)) (fun _ => ?_)
  refine zp_iload dL_same_273 (x := 1) (List.mem_of_getElem? (i := 1) rfl) ?_
  refine zp_if_eq dL_same_275 (tgt := 453) rfl (fun q => absurd q (by decide)) (fun _ => ?_)
  refine zp_iconst dL_same_278 (v := 0) (by decide) ?_
  refine zp_istore dL_same_279 (Nat.le_of_ble_eq_true rfl) (lv2 := [(8, .int 0), (7, .int (nI k)), (6, .int 1), (0, .ref (xob Y)), (1, .ref (lwt L)), (2, .ref (lwe L)), (3, .ref (lwa L)), (4, .ref (lwq L)), (5, .ref (lwn L))]) rfl ?_
  refine zp_iconst dL_same_281 (v := 0) (by decide) ?_
  refine zp_istore dL_same_282 (Nat.le_of_ble_eq_true rfl) (lv2 := [(9, .int 0), (8, .int 0), (7, .int (nI k)), (6, .int 1), (0, .ref (xob Y)), (1, .ref (lwt L)), (2, .ref (lwe L)), (3, .ref (lwa L)), (4, .ref (lwq L)), (5, .ref (lwn L))]) rfl ?_
  refine zp_lv [0, 1, 2, 3, 4, 5, 6, 7, 8, 9] rfl ?_
  exact kk
set_option maxHeartbeats 8000000 in
theorem l_s2C (l : Launch) {G : Gb} {D : Dt} {X : Cx} {Y : Cy} {W : Int32} {T : Nat} {LL2 : Nat → List Nat} {fr2 : List Nat} {L : Lw} (hD : DW D) {s : Sto} {LL : Nat → List Nat} {fr : List Nat} {Q : Option Value → Sto → Prop} (hz : Rz G D X Y W T LL fr LL2 fr2 s) (hA : LA D W L s) {k : Nat} (hk : k < dn D) (ht : dtx D k = false) (kk : Wp l G 37 0 0 (RL, cL_same, 10, (some .boolean), false) 264 [(7, .int (nI (k + 1))), (6, .int 1), (0, .ref (xob Y)), (1, .ref (lwt L)), (2, .ref (lwe L)), (3, .ref (lwa L)), (4, .ref (lwq L)), (5, .ref (lwn L))] [] s Q) : Wp l G 37 0 0 (RL, cL_same, 10, (some .boolean), false) 413 [(8, .int (nI (lsOf (sls (LSt D W)) k).length)), (7, .int (nI k)), (6, .int 1), (0, .ref (xob Y)), (1, .ref (lwt L)), (2, .ref (lwe L)), (3, .ref (lwa L)), (4, .ref (lwq L)), (5, .ref (lwn L))] [] s Q := by
  have hn := hD.2.1
  show Wp l G 37 0 0 (RL, cL_same, 10, (some .boolean), false) 413 [(8, .int (nI (lsOf (sls (LSt D W)) k).length)), (7, .int (nI k)), (6, .int 1), (0, .ref (xob Y)), (1, .ref (lwt L)), (2, .ref (lwe L)), (3, .ref (lwa L)), (4, .ref (lwq L)), (5, .ref (lwn L))] [] s _
  refine zp_iload dL_same_413 (x := 1) (List.mem_of_getElem? (i := 2) rfl) ?_
  refine zp_if_eq dL_same_415 (tgt := 444) rfl (fun q => absurd q (by decide)) (fun _ => ?_)
  refine zp_aload_n dL_same_418 rfl (a := (lwt L)) (List.mem_of_getElem? (i := 4) rfl) ?_
  refine zp_bipush dL_same_419 (v := 16) (by decide) ?_
  refine zp_iload dL_same_421 (x := (nI k)) (List.mem_of_getElem? (i := 1) rfl) ?_
  refine zp_iadd dL_same_423 ?_
  rw [show ((16 + (nI k)) : Int32) = (nI (16 + k)) from nI_add 16 k]
  refine zp_iald_v dL_same_424 (hA.Tt) (Or.inl rfl) (j := (16 + k)) (nI_clamp (by omega)) (vp_in_nI (by omega) (by decide)) (v := (zb (dtx D k = true))) (hA.li k (by omega)).2.1 ?_
  refine zp_iconst dL_same_425 (v := 1) (by decide) ?_
  refine zp_icmp_eq dL_same_426 (tgt := 440) rfl (fun q => absurd q (by rw [zb_f (by rw [ht]; decide)]; decide)) (fun _ => ?_)
  refine zp_aload_n dL_same_429 rfl (a := (xob Y)) (List.mem_of_getElem? (i := 3) rfl) ?_
  refine zp_iload dL_same_430 (x := (nI k)) (List.mem_of_getElem? (i := 1) rfl) ?_
  refine zp_callV (c0 := 9) (st := []) (mc2 := 0) (ms2 := 0) dL_same_432 (c_X12_lines l G D X Y W T LL fr LL2 fr2 k s hD hz hk ht) cl_L_78 im_X12_lines se_X12_lines rfl rfl (hz.zo) rfl rfl (by omega) (by omega) (by omega) (Nat.le_of_ble_eq_true rfl) ?_
  rintro _ sx ⟨rfl, hsx⟩; obtain rfl := hsx.symm
  refine zp_iload dL_same_435 (x := (nI (lsOf (sls (LSt D W)) k).length)) (List.mem_of_getElem? (i := 0) rfl) ?_
  refine zp_icmp_ne dL_same_437 (tgt := 444) rfl (fun q => absurd rfl q) (fun _ => ?_)
  refine zp_iconst dL_same_440 (v := 1) (by decide) ?_
  refine zp_goto dL_same_441 (tgt := 445) rfl ?_
  refine zp_istore dL_same_445 (Nat.le_of_ble_eq_true rfl) (lv2 := [(6, .int 1), (8, .int (nI (lsOf (sls (LSt D W)) k).length)), (7, .int (nI k)), (0, .ref (xob Y)), (1, .ref (lwt L)), (2, .ref (lwe L)), (3, .ref (lwa L)), (4, .ref (lwq L)), (5, .ref (lwn L))]) rfl ?_
  refine zp_iinc dL_same_447 (k1 := 2) (x := (nI k)) rfl (v := (nI (k + 1))) (nI_1 k) (Nat.le_of_ble_eq_true rfl) (lv2 := [(7, .int (nI (k + 1))), (6, .int 1), (8, .int (nI (lsOf (sls (LSt D W)) k).length)), (0, .ref (xob Y)), (1, .ref (lwt L)), (2, .ref (lwe L)), (3, .ref (lwa L)), (4, .ref (lwq L)), (5, .ref (lwn L))]) rfl ?_
  refine zp_goto dL_same_450 (tgt := 264) rfl ?_
  refine zp_lv [0, 1, 3, 4, 5, 6, 7, 8] rfl ?_
  exact kk
theorem l_s2E (l : Launch) {G : Gb} {D : Dt} {X : Cx} {Y : Cy} {W : Int32} {T : Nat} {LL2 : Nat → List Nat} {fr2 : List Nat} {L : Lw} (hD : DW D) {s : Sto} {LL : Nat → List Nat} {fr : List Nat} {Q : Option Value → Sto → Prop} (hz : Rz G D X Y W T LL fr LL2 fr2 s) (hA : LA D W L s) (kk : Q (some (.int 1)) s) : Wp l G 37 0 0 (RL, cL_same, 10, (some .boolean), false) 264 [(7, .int (nI (dn D))), (6, .int 1), (0, .ref (xob Y)), (1, .ref (lwt L)), (2, .ref (lwe L)), (3, .ref (lwa L)), (4, .ref (lwq L)), (5, .ref (lwn L))] [] s Q := by
  show Wp l G 37 0 0 (RL, cL_same, 10, (some .boolean), false) 264 [(7, .int (nI (dn D))), (6, .int 1), (0, .ref (xob Y)), (1, .ref (lwt L)), (2, .ref (lwe L)), (3, .ref (lwa L)), (4, .ref (lwq L)), (5, .ref (lwn L))] [] s _
  refine zp_iload dL_same_264 (x := (nI (dn D))) (List.mem_of_getElem? (i := 0) rfl) ?_
  refine zp_aload dL_same_266 (a := (lwq L)) (List.mem_of_getElem? (i := 6) rfl) ?_
  refine zp_iconst dL_same_268 (v := 3) (by decide) ?_
  refine zp_iald_v dL_same_269 (hA.Tq) (Or.inl rfl) (j := 3) (by decide) (zin (by decide)) (v := (nI (dn D))) hA.2.1.2.1 ?_
  refine zp_icmp_ge dL_same_270 (tgt := 453) rfl (fun _ => ?_) (fun q => absurd (Int32.le_refl _) q)
  refine zp_iload dL_same_453 (x := 1) (List.mem_of_getElem? (i := 1) rfl) ?_
  refine zp_zret rfl (Or.inr rfl) dL_same_455 ?_
  exact kk
theorem l_s2 (l : Launch) {G : Gb} {D : Dt} {X : Cx} {Y : Cy} {W : Int32} {T : Nat} {LL2 : Nat → List Nat} {fr2 : List Nat} {L : Lw} (hD : DW D) {s : Sto} {LL : Nat → List Nat} {fr : List Nat} {Q : Option Value → Sto → Prop} (hz : Rz G D X Y W T LL fr LL2 fr2 s) (hA : LA D W L s) (kk : Q (some (.int 1)) s) : ∀ (m k : Nat), k + m = dn D → Wp l G 37 0 0 (RL, cL_same, 10, (some .boolean), false) 264 [(7, .int (nI k)), (6, .int 1), (0, .ref (xob Y)), (1, .ref (lwt L)), (2, .ref (lwe L)), (3, .ref (lwa L)), (4, .ref (lwq L)), (5, .ref (lwn L))] [] s Q
  | 0, k, hm => by
    have hm : k = dn D := hm
    subst hm
    exact l_s2E l hD hz hA kk
  | m + 1, k, hm => by
    have hk : k < dn D := by omega
    have ih := l_s2 l hD hz hA kk m (k + 1) (by omega)
    by_cases ht : dtx D k = true
    · by_cases h0 : (sls (LSt D W)).length = 0
      · exact l_s2T0 l hD hz hA hk ht h0 ih
      · exact l_s2T1 l hD hz hA hk ht h0 ih
    · have ht : dtx D k = false := by cases e : dtx D k; rfl; exact absurd e ht
      exact l_s2B l hD hz hA hk ht (l_s3 l hD hz hA hk ht (l_s2C l hD hz hA hk ht ih) (sls (LSt D W)).length 0 (by omega))
theorem l_s1X (l : Launch) {G : Gb} {D : Dt} {X : Cx} {Y : Cy} {W : Int32} {T : Nat} {LL2 : Nat → List Nat} {fr2 : List Nat} {L : Lw} (hD : DW D) {s : Sto} {LL : Nat → List Nat} {fr : List Nat} {Q : Option Value → Sto → Prop} (hz : Rz G D X Y W T LL fr LL2 fr2 s) (hA : LA D W L s) (kk : Wp l G 37 0 0 (RL, cL_same, 10, (some .boolean), false) 264 [(7, .int (nI 0)), (6, .int 1), (0, .ref (xob Y)), (1, .ref (lwt L)), (2, .ref (lwe L)), (3, .ref (lwa L)), (4, .ref (lwq L)), (5, .ref (lwn L))] [] s Q) : Wp l G 37 0 0 (RL, cL_same, 10, (some .boolean), false) 261 [(7, .int (nI (dn D))), (6, .int 1), (0, .ref (xob Y)), (1, .ref (lwt L)), (2, .ref (lwe L)), (3, .ref (lwa L)), (4, .ref (lwq L)), (5, .ref (lwn L))] [] s Q := by
  show Wp l G 37 0 0 (RL, cL_same, 10, (some .boolean), false) 261 [(7, .int (nI (dn D))), (6, .int 1), (0, .ref (xob Y)), (1, .ref (lwt L)), (2, .ref (lwe L)), (3, .ref (lwa L)), (4, .ref (lwq L)), (5, .ref (lwn L))] [] s _
  refine zp_iconst dL_same_261 (v := 0) (by decide) ?_
  refine zp_istore dL_same_262 (Nat.le_of_ble_eq_true rfl) (lv2 := [(7, .int 0), (6, .int 1), (0, .ref (xob Y)), (1, .ref (lwt L)), (2, .ref (lwe L)), (3, .ref (lwa L)), (4, .ref (lwq L)), (5, .ref (lwn L))]) rfl ?_
  refine zp_lv [0, 1, 2, 3, 4, 5, 6, 7] rfl ?_
  exact kk
set_option maxHeartbeats 8000000 in
theorem c_L_same (l : Launch) (G : Gb) (D : Dt) (X : Cx) (Y : Cy) (W : Int32) (T : Nat) (LL : Nat → List Nat) (fr : List Nat) (LL2 : Nat → List Nat) (fr2 : List Nat) (L : Lw) (s : Sto) (hD : DW D) (hW0 : 0 ≤ W.toInt) (hW1 : W.toInt ≤ 300) (ha : Ap X Y (dn D) L) (hz : Rz G D X Y W T LL fr LL2 fr2 s) (hA : LA D W L s) (r0 : dst D 0 10 = 0) (r1 : dst D 0 11 = 0) (r2 : dst D 0 12 = 0) (r3 : dst D 0 13 = 0) : Ct l G 37 528 3168 yL_same mL_same [.ref (xob Y), .ref (lwt L), .ref (lwe L), .ref (lwa L), .ref (lwq L), .ref (lwn L)] s (fun v t => v = some (.int 1) ∧ ∃ LL fr LL2 fr2, Rz G D X Y W T LL fr LL2 fr2 t ∧ LA D W L t ∧ Fo X Y (dn D) s t) := by
  have hn := hD.2.1
  have hn1 := hD.1
  refine Ct.of (by decide) rfl (Nat.le_of_ble_eq_true rfl) (fun h => absurd h (by decide)) ?_
  show Wp l G 37 528 3168 (RL, cL_same, 10, (some .boolean), false) 0 [(0, .ref (xob Y)), (1, .ref (lwt L)), (2, .ref (lwe L)), (3, .ref (lwa L)), (4, .ref (lwq L)), (5, .ref (lwn L))] [] s _
  refine zp_aload_n dL_same_0 rfl (a := (xob Y)) (List.mem_of_getElem? (i := 0) rfl) ?_
  refine zp_iconst dL_same_1 (v := 0) (by decide) ?_
  refine zp_callV (c0 := 9) (st := []) (mc2 := 528) (ms2 := 3168) dL_same_2 (c_X12_height0 l G D X Y W T LL fr LL2 fr2 0 s hD hz hD.1 rfl hD.2.2.2.1) cl_L_48 im_X12_height se_X12_height rfl rfl (hz.zo) rfl rfl (by omega) (by omega) (by omega) (Nat.le_of_ble_eq_true rfl) ?_
  rintro _ sx ⟨rfl, hsx⟩; obtain rfl := hsx.symm
  refine zp_aload_n dL_same_5 rfl (a := (lwa L)) (List.mem_of_getElem? (i := 3) rfl) ?_
  refine zp_bipush dL_same_6 (v := 48) (by decide) ?_
  refine zp_iald_v dL_same_8 (hA.Ta) (Or.inl rfl) (j := 48) (by decide) (zin (by decide)) (v := (mx 0 (sy (LSt D W)))) hA.2.2.1 ?_
  refine zp_icmp_ne dL_same_9 (tgt := 39) rfl (fun q => absurd (by simp only [r0, r2, Int32.add_zero]) q) (fun _ => ?_)
  refine zp_aload_n dL_same_12 rfl (a := (xob Y)) (List.mem_of_getElem? (i := 0) rfl) ?_
  refine zp_iconst dL_same_13 (v := 0) (by decide) ?_
  refine zp_callV (c0 := 9) (st := []) (mc2 := 528) (ms2 := 3168) dL_same_14 (c_X12_widthB l G D X Y W T LL fr LL2 fr2 0 s hD hz hD.1 hD.2.2.2.1) cl_L_54 im_X12_width se_X12_width rfl rfl (hz.zo) rfl rfl (by omega) (by omega) (by omega) (Nat.le_of_ble_eq_true rfl) ?_
  rintro _ sx ⟨rfl, hsx⟩; obtain rfl := hsx.symm
  refine zp_aload dL_same_17 (a := (lwq L)) (List.mem_of_getElem? (i := 4) rfl) ?_
  refine zp_iconst dL_same_19 (v := 4) (by decide) ?_
  refine zp_iald_v dL_same_20 (hA.Tq) (Or.inl rfl) (j := 4) (by decide) (zin (by decide)) (v := W) hA.2.1.2.2 ?_
  refine zp_icmp_ne dL_same_21 (tgt := 39) rfl (fun q => absurd (by rw [root_w hD]; simp only [r1, r3, Int32.add_zero]) q) (fun _ => ?_)
  refine zp_aload_n dL_same_24 rfl (a := (xob Y)) (List.mem_of_getElem? (i := 0) rfl) ?_
  refine zp_callV (c0 := 9) (st := []) (mc2 := 528) (ms2 := 3168) dL_same_25 (c_X12_paintedR l G D X Y W T LL fr LL2 fr2 s hz) cl_L_57 im_X12_painted se_X12_painted rfl rfl (hz.zo) rfl rfl (by omega) (by omega) (by omega) (Nat.le_of_ble_eq_true rfl) ?_
  rintro _ sx ⟨rfl, hsx⟩; obtain rfl := hsx.symm
  refine zp_aload dL_same_28 (a := (lwq L)) (List.mem_of_getElem? (i := 4) rfl) ?_
  refine zp_iconst dL_same_30 (v := 3) (by decide) ?_
  refine zp_iald_v dL_same_31 (hA.Tq) (Or.inl rfl) (j := 3) (by decide) (zin (by decide)) (v := (nI (dn D))) hA.2.1.2.1 ?_
  refine zp_icmp_ne dL_same_32 (tgt := 39) rfl (fun q => absurd rfl q) (fun _ => ?_)
  refine zp_iconst dL_same_35 (v := 1) (by decide) ?_
  refine zp_goto dL_same_36 (tgt := 40) rfl ?_
  refine zp_istore dL_same_40 (Nat.le_of_ble_eq_true rfl) (lv2 := [(6, .int 1), (0, .ref (xob Y)), (1, .ref (lwt L)), (2, .ref (lwe L)), (3, .ref (lwa L)), (4, .ref (lwq L)), (5, .ref (lwn L))]) rfl ?_
  refine zp_iconst dL_same_42 (v := 1) (by decide) ?_
  refine zp_istore dL_same_43 (Nat.le_of_ble_eq_true rfl) (lv2 := [(7, .int 1), (6, .int 1), (0, .ref (xob Y)), (1, .ref (lwt L)), (2, .ref (lwe L)), (3, .ref (lwa L)), (4, .ref (lwq L)), (5, .ref (lwn L))]) rfl ?_
  refine zp_lv [0, 1, 2, 3, 4, 5, 6, 7] rfl ?_
  refine Wp.les (l_s1 l hD hW0 hW1 ha (dn D - 1) 1 s LL fr LL2 fr2 (by omega) (by decide) hz hA (fun s2 LLa fra LLb frb z2 A2 f2 => ?_)) (by omega) (by omega)
  refine l_s1X l hD z2 A2 ?_
  exact l_s2 l hD z2 A2 ⟨rfl, LLa, fra, LLb, frb, z2, A2, f2⟩ (dn D) 0 (by omega)

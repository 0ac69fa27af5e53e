/-! THE LAW: a run (by wip/p27/gen_law4.py) -/
theorem zp_lve {l G d mc ms M pc lv lv2 st σ Q} (h : lv = lv2) (kk : Wp l G d mc ms M pc lv2 st σ Q) : Wp l G d mc ms M pc lv st σ Q := by rw [h]; exact kk
def offI (fl len : Int32) : Int32 := (if fl = 0 then 0 else fl + 1) + len
theorem off_0 {fl len : Int32} (h : fl = 0) : fl + (0 + len) = offI fl len := by unfold offI; rw [if_pos h, h, Int32.zero_add]
theorem off_1 {fl len : Int32} (h : ¬ fl = 0) : fl + (1 + len) = offI fl len := by unfold offI; rw [if_neg h, Int32.add_assoc]
def wdA (D : Dt) (box c i : Nat) (fl : Int32) (S : FS) : FS := if i = 0 then setA c (inP D box (sa S) + (if fl = 0 then 0 else fl + 1)) S else S
theorem wordP_def {D : Dt} {box c i : Nat} {Y : RS} : wordP D box c i Y = (wdA D box c i (brkP D box (dln D c i) Y).2.1 (brkP D box (dln D c i) Y).1, offI (brkP D box (dln D c i) Y).2.1 (dln D c i), mx (brkP D box (dln D c i) Y).2.2.1 (ascP D c), mx (brkP D box (dln D c i) Y).2.2.2 (dsz D c - ascP D c)) := rfl
set_option maxHeartbeats 8000000 in
theorem l_w177 (l : Launch) {G : Gb} {D : Dt} {W : Int32} {L : Lw} {S : FS} {σ s0 : Sto} {box c i : Nat} {last fi fl up dw : Int32} {Q : Option Value → Sto → Prop} (hn : dn D ≤ 12) (hB : LB D W L S s0) (hbx : box < dn D) (hc : c < dn D) (hc0 : 0 < c) (hi : i < 4) (hfl : 0 ≤ fl.toInt) (b0 : LB D W L S s0) (f0 : LF L σ s0)
    (kk : ∀ s, LB D W L (wdA D box c i fl S) s → LF L σ s → Wp l G 2 0 0 (RL, cL_runs, 18, (some .int), false) 288 [(15, .int (nI i)), (14, .int (nI c)), (13, .int (mx dw (dsz D c - ascP D c))), (12, .int (mx up (ascP D c))), (11, .int (offI fl (dln D c i))), (8, .int last), (0, .int (nI box)), (1, .int fi), (2, .ref (lwt L)), (3, .ref (lwl L)), (4, .ref (lwa L)), (5, .ref (lwe L)), (6, .ref (lwq L)), (7, .ref (lwn L))] [] s Q) :
    Wp l G 2 0 0 (RL, cL_runs, 18, (some .int), false) 177 [(16, .int (dln D c i)), (15, .int (nI i)), (14, .int (nI c)), (13, .int dw), (12, .int up), (11, .int fl), (8, .int last), (0, .int (nI box)), (1, .int fi), (2, .ref (lwt L)), (3, .ref (lwl L)), (4, .ref (lwa L)), (5, .ref (lwe L)), (6, .ref (lwq L)), (7, .ref (lwn L))] [] s0 Q := by
  by_cases hf : fl = 0
  · have hle : fl ≤ 0 := by rw [hf]; decide
    show Wp l G 2 0 0 (RL, cL_runs, 18, (some .int), false) 177 [(16, .int (dln D c i)), (15, .int (nI i)), (14, .int (nI c)), (13, .int dw), (12, .int up), (11, .int fl), (8, .int last), (0, .int (nI box)), (1, .int fi), (2, .ref (lwt L)), (3, .ref (lwl L)), (4, .ref (lwa L)), (5, .ref (lwe L)), (6, .ref (lwq L)), (7, .ref (lwn L))] [] s0 _
    refine zp_iconst dL_runs_177 (v := 3) (by decide) ?_
    refine zp_aload_n dL_runs_178 rfl (a := (lwt L)) (List.mem_of_getElem? (i := 9) rfl) ?_
    refine zp_bipush dL_runs_179 (v := 48) (by decide) ?_
    refine zp_iload dL_runs_181 (x := (nI c)) (List.mem_of_getElem? (i := 2) rfl) ?_
    refine zp_iadd dL_runs_183 ?_
    rw [show ((48 + (nI c)) : Int32) = (nI (48 + c)) from nI_add 48 c]
    refine zp_iald_v dL_runs_184 b0.Tt (Or.inl rfl) (j := (48 + c)) (nI_clamp (by omega)) (vp_in_nI (by omega) (by decide)) (v := (dsz D c)) ((b0.2.2.1.1 c (by omega)).2.2.2.1 hc0) ?_
    refine zp_imul dL_runs_185 ?_
    refine zp_iconst dL_runs_186 (v := 4) (by decide) ?_
    refine zp_idiv dL_runs_187 (by decide) ?_
    rw [show (((3 * (dsz D c)) / 4) : Int32) = (ascP D c) from (by rw [Int32.mul_comm]; rfl)]
    refine zp_istore dL_runs_188 (Nat.le_of_ble_eq_true rfl) (lv2 := [(17, .int (ascP D c)), (16, .int (dln D c i)), (15, .int (nI i)), (14, .int (nI c)), (13, .int dw), (12, .int up), (11, .int fl), (8, .int last), (0, .int (nI box)), (1, .int fi), (2, .ref (lwt L)), (3, .ref (lwl L)), (4, .ref (lwa L)), (5, .ref (lwe L)), (6, .ref (lwq L)), (7, .ref (lwn L))]) rfl ?_
    refine zp_iload dL_runs_190 (x := (nI i)) (List.mem_of_getElem? (i := 2) rfl) ?_
    refine zp_if_ne dL_runs_192 (tgt := 222) rfl (fun h192 => ?_) (fun h192 => ?_)
    · skip
      refine zp_iload dL_runs_222 (x := fl) (List.mem_of_getElem? (i := 6) rfl) ?_
      refine zp_iload dL_runs_224 (x := fl) (List.mem_of_getElem? (i := 6) rfl) ?_
      refine zp_if_le dL_runs_226 (tgt := 233) rfl (fun _ => ?_) (fun q => absurd hle q)
      refine zp_iconst dL_runs_233 (v := 0) (by decide) ?_
      refine zp_iload dL_runs_234 (x := (dln D c i)) (List.mem_of_getElem? (i := 1) rfl) ?_
      refine zp_iadd dL_runs_236 ?_
      refine zp_iadd dL_runs_237 ?_
      refine zp_topi (fun v238 hv238 => ?_)
      refine zp_istore dL_runs_238 (Nat.le_of_ble_eq_true rfl) (lv2 := [(11, .int v238), (17, .int (ascP D c)), (16, .int (dln D c i)), (15, .int (nI i)), (14, .int (nI c)), (13, .int dw), (12, .int up), (8, .int last), (0, .int (nI box)), (1, .int fi), (2, .ref (lwt L)), (3, .ref (lwl L)), (4, .ref (lwa L)), (5, .ref (lwe L)), (6, .ref (lwq L)), (7, .ref (lwn L))]) rfl ?_
      refine zp_iload dL_runs_240 (x := (ascP D c)) (List.mem_of_getElem? (i := 1) rfl) ?_
      refine zp_iload dL_runs_242 (x := up) (List.mem_of_getElem? (i := 6) rfl) ?_
      refine zp_icmp_le dL_runs_244 (tgt := 252) rfl (fun h244 => ?_) (fun h244 => ?_)
      · skip
        refine zp_iload dL_runs_252 (x := up) (List.mem_of_getElem? (i := 6) rfl) ?_
        refine zp_istore dL_runs_254 (Nat.le_of_ble_eq_true rfl) (lv2 := [(12, .int up), (11, .int v238), (17, .int (ascP D c)), (16, .int (dln D c i)), (15, .int (nI i)), (14, .int (nI c)), (13, .int dw), (8, .int last), (0, .int (nI box)), (1, .int fi), (2, .ref (lwt L)), (3, .ref (lwl L)), (4, .ref (lwa L)), (5, .ref (lwe L)), (6, .ref (lwq L)), (7, .ref (lwn L))]) rfl ?_
        refine zp_aload_n dL_runs_256 rfl (a := (lwt L)) (List.mem_of_getElem? (i := 10) rfl) ?_
        refine zp_bipush dL_runs_257 (v := 48) (by decide) ?_
        refine zp_iload dL_runs_259 (x := (nI c)) (List.mem_of_getElem? (i := 5) rfl) ?_
        refine zp_iadd dL_runs_261 ?_
        rw [show ((48 + (nI c)) : Int32) = (nI (48 + c)) from nI_add 48 c]
        refine zp_iald_v dL_runs_262 b0.Tt (Or.inl rfl) (j := (48 + c)) (nI_clamp (by omega)) (vp_in_nI (by omega) (by decide)) (v := (dsz D c)) ((b0.2.2.1.1 c (by omega)).2.2.2.1 hc0) ?_
        refine zp_iload dL_runs_263 (x := (ascP D c)) (List.mem_of_getElem? (i := 2) rfl) ?_
        refine zp_isub dL_runs_265 ?_
        refine zp_iload dL_runs_266 (x := dw) (List.mem_of_getElem? (i := 6) rfl) ?_
        refine zp_icmp_le dL_runs_268 (tgt := 284) rfl (fun h268 => ?_) (fun h268 => ?_)
        · skip
          refine zp_iload dL_runs_284 (x := dw) (List.mem_of_getElem? (i := 6) rfl) ?_
          refine zp_istore dL_runs_286 (Nat.le_of_ble_eq_true rfl) (lv2 := [(13, .int dw), (12, .int up), (11, .int v238), (17, .int (ascP D c)), (16, .int (dln D c i)), (15, .int (nI i)), (14, .int (nI c)), (8, .int last), (0, .int (nI box)), (1, .int fi), (2, .ref (lwt L)), (3, .ref (lwl L)), (4, .ref (lwa L)), (5, .ref (lwe L)), (6, .ref (lwq L)), (7, .ref (lwn L))]) rfl ?_
          refine zp_lv [5, 6, 0, 1, 2, 7, 8, 9, 10, 11, 12, 13, 14, 15] rfl ?_
          refine zp_lve (lv2 := [(15, .int (nI i)), (14, .int (nI c)), (13, .int (mx dw (dsz D c - ascP D c))), (12, .int (mx up (ascP D c))), (11, .int (offI fl (dln D c i))), (8, .int last), (0, .int (nI box)), (1, .int fi), (2, .ref (lwt L)), (3, .ref (lwl L)), (4, .ref (lwa L)), (5, .ref (lwe L)), (6, .ref (lwq L)), (7, .ref (lwn L))]) ?_ (kk _ (by rw [show (wdA D box c i fl S) = S from if_neg (fun q => h192 (by rw [q]; rfl))]; exact b0) f0)
          rw [hv238, off_0 hf]
          first
            | rw [mx_l h244, mx_l h268]; rfl
            | rw [mx_l h244, mx_r h268]; rfl
            | rw [mx_r h244, mx_l h268]; rfl
            | rw [mx_r h244, mx_r h268]; rfl
        · skip
          refine zp_aload_n dL_runs_271 rfl (a := (lwt L)) (List.mem_of_getElem? (i := 10) rfl) ?_
          refine zp_bipush dL_runs_272 (v := 48) (by decide) ?_
          refine zp_iload dL_runs_274 (x := (nI c)) (List.mem_of_getElem? (i := 5) rfl) ?_
          refine zp_iadd dL_runs_276 ?_
          rw [show ((48 + (nI c)) : Int32) = (nI (48 + c)) from nI_add 48 c]
          refine zp_iald_v dL_runs_277 b0.Tt (Or.inl rfl) (j := (48 + c)) (nI_clamp (by omega)) (vp_in_nI (by omega) (by decide)) (v := (dsz D c)) ((b0.2.2.1.1 c (by omega)).2.2.2.1 hc0) ?_
          refine zp_iload dL_runs_278 (x := (ascP D c)) (List.mem_of_getElem? (i := 2) rfl) ?_
          refine zp_isub dL_runs_280 ?_
          refine zp_goto dL_runs_281 (tgt := 286) rfl ?_
          refine zp_istore dL_runs_286 (Nat.le_of_ble_eq_true rfl) (lv2 := [(13, .int ((dsz D c) - (ascP D c))), (12, .int up), (11, .int v238), (17, .int (ascP D c)), (16, .int (dln D c i)), (15, .int (nI i)), (14, .int (nI c)), (8, .int last), (0, .int (nI box)), (1, .int fi), (2, .ref (lwt L)), (3, .ref (lwl L)), (4, .ref (lwa L)), (5, .ref (lwe L)), (6, .ref (lwq L)), (7, .ref (lwn L))]) rfl ?_
          refine zp_lv [5, 6, 0, 1, 2, 7, 8, 9, 10, 11, 12, 13, 14, 15] rfl ?_
          refine zp_lve (lv2 := [(15, .int (nI i)), (14, .int (nI c)), (13, .int (mx dw (dsz D c - ascP D c))), (12, .int (mx up (ascP D c))), (11, .int (offI fl (dln D c i))), (8, .int last), (0, .int (nI box)), (1, .int fi), (2, .ref (lwt L)), (3, .ref (lwl L)), (4, .ref (lwa L)), (5, .ref (lwe L)), (6, .ref (lwq L)), (7, .ref (lwn L))]) ?_ (kk _ (by rw [show (wdA D box c i fl S) = S from if_neg (fun q => h192 (by rw [q]; rfl))]; exact b0) f0)
          rw [hv238, off_0 hf]
          first
            | rw [mx_l h244, mx_l h268]; rfl
            | rw [mx_l h244, mx_r h268]; rfl
            | rw [mx_r h244, mx_l h268]; rfl
            | rw [mx_r h244, mx_r h268]; rfl
      · skip
        refine zp_iload dL_runs_247 (x := (ascP D c)) (List.mem_of_getElem? (i := 1) rfl) ?_
        refine zp_goto dL_runs_249 (tgt := 254) rfl ?_
        refine zp_istore dL_runs_254 (Nat.le_of_ble_eq_true rfl) (lv2 := [(12, .int (ascP D c)), (11, .int v238), (17, .int (ascP D c)), (16, .int (dln D c i)), (15, .int (nI i)), (14, .int (nI c)), (13, .int dw), (8, .int last), (0, .int (nI box)), (1, .int fi), (2, .ref (lwt L)), (3, .ref (lwl L)), (4, .ref (lwa L)), (5, .ref (lwe L)), (6, .ref (lwq L)), (7, .ref (lwn L))]) rfl ?_
        refine zp_aload_n dL_runs_256 rfl (a := (lwt L)) (List.mem_of_getElem? (i := 10) rfl) ?_
        refine zp_bipush dL_runs_257 (v := 48) (by decide) ?_
        refine zp_iload dL_runs_259 (x := (nI c)) (List.mem_of_getElem? (i := 5) rfl) ?_
        refine zp_iadd dL_runs_261 ?_
        rw [show ((48 + (nI c)) : Int32) = (nI (48 + c)) from nI_add 48 c]
        refine zp_iald_v dL_runs_262 b0.Tt (Or.inl rfl) (j := (48 + c)) (nI_clamp (by omega)) (vp_in_nI (by omega) (by decide)) (v := (dsz D c)) ((b0.2.2.1.1 c (by omega)).2.2.2.1 hc0) ?_
        refine zp_iload dL_runs_263 (x := (ascP D c)) (List.mem_of_getElem? (i := 2) rfl) ?_
        refine zp_isub dL_runs_265 ?_
        refine zp_iload dL_runs_266 (x := dw) (List.mem_of_getElem? (i := 6) rfl) ?_
        refine zp_icmp_le dL_runs_268 (tgt := 284) rfl (fun h268 => ?_) (fun h268 => ?_)
        · skip
          refine zp_iload dL_runs_284 (x := dw) (List.mem_of_getElem? (i := 6) rfl) ?_
          refine zp_istore dL_runs_286 (Nat.le_of_ble_eq_true rfl) (lv2 := [(13, .int dw), (12, .int (ascP D c)), (11, .int v238), (17, .int (ascP D c)), (16, .int (dln D c i)), (15, .int (nI i)), (14, .int (nI c)), (8, .int last), (0, .int (nI box)), (1, .int fi), (2, .ref (lwt L)), (3, .ref (lwl L)), (4, .ref (lwa L)), (5, .ref (lwe L)), (6, .ref (lwq L)), (7, .ref (lwn L))]) rfl ?_
          refine zp_lv [5, 6, 0, 1, 2, 7, 8, 9, 10, 11, 12, 13, 14, 15] rfl ?_
          refine zp_lve (lv2 := [(15, .int (nI i)), (14, .int (nI c)), (13, .int (mx dw (dsz D c - ascP D c))), (12, .int (mx up (ascP D c))), (11, .int (offI fl (dln D c i))), (8, .int last), (0, .int (nI box)), (1, .int fi), (2, .ref (lwt L)), (3, .ref (lwl L)), (4, .ref (lwa L)), (5, .ref (lwe L)), (6, .ref (lwq L)), (7, .ref (lwn L))]) ?_ (kk _ (by rw [show (wdA D box c i fl S) = S from if_neg (fun q => h192 (by rw [q]; rfl))]; exact b0) f0)
          rw [hv238, off_0 hf]
          first
            | rw [mx_l h244, mx_l h268]; rfl
            | rw [mx_l h244, mx_r h268]; rfl
            | rw [mx_r h244, mx_l h268]; rfl
            | rw [mx_r h244, mx_r h268]; rfl
        · skip
          refine zp_aload_n dL_runs_271 rfl (a := (lwt L)) (List.mem_of_getElem? (i := 10) rfl) ?_
          refine zp_bipush dL_runs_272 (v := 48) (by decide) ?_
          refine zp_iload dL_runs_274 (x := (nI c)) (List.mem_of_getElem? (i := 5) rfl) ?_
          refine zp_iadd dL_runs_276 ?_
          rw [show ((48 + (nI c)) : Int32) = (nI (48 + c)) from nI_add 48 c]
          refine zp_iald_v dL_runs_277 b0.Tt (Or.inl rfl) (j := (48 + c)) (nI_clamp (by omega)) (vp_in_nI (by omega) (by decide)) (v := (dsz D c)) ((b0.2.2.1.1 c (by omega)).2.2.2.1 hc0) ?_
          refine zp_iload dL_runs_278 (x := (ascP D c)) (List.mem_of_getElem? (i := 2) rfl) ?_
          refine zp_isub dL_runs_280 ?_
          refine zp_goto dL_runs_281 (tgt := 286) rfl ?_
          refine zp_istore dL_runs_286 (Nat.le_of_ble_eq_true rfl) (lv2 := [(13, .int ((dsz D c) - (ascP D c))), (12, .int (ascP D c)), (11, .int v238), (17, .int (ascP D c)), (16, .int (dln D c i)), (15, .int (nI i)), (14, .int (nI c)), (8, .int last), (0, .int (nI box)), (1, .int fi), (2, .ref (lwt L)), (3, .ref (lwl L)), (4, .ref (lwa L)), (5, .ref (lwe L)), (6, .ref (lwq L)), (7, .ref (lwn L))]) rfl ?_
          refine zp_lv [5, 6, 0, 1, 2, 7, 8, 9, 10, 11, 12, 13, 14, 15] rfl ?_
          refine zp_lve (lv2 := [(15, .int (nI i)), (14, .int (nI c)), (13, .int (mx dw (dsz D c - ascP D c))), (12, .int (mx up (ascP D c))), (11, .int (offI fl (dln D c i))), (8, .int last), (0, .int (nI box)), (1, .int fi), (2, .ref (lwt L)), (3, .ref (lwl L)), (4, .ref (lwa L)), (5, .ref (lwe L)), (6, .ref (lwq L)), (7, .ref (lwn L))]) ?_ (kk _ (by rw [show (wdA D box c i fl S) = S from if_neg (fun q => h192 (by rw [q]; rfl))]; exact b0) f0)
          rw [hv238, off_0 hf]
          first
            | rw [mx_l h244, mx_l h268]; rfl
            | rw [mx_l h244, mx_r h268]; rfl
            | rw [mx_r h244, mx_l h268]; rfl
            | rw [mx_r h244, mx_r h268]; rfl
    · skip
      refine zp_aload dL_runs_195 (a := (lwa L)) (List.mem_of_getElem? (i := 12) rfl) ?_
      refine zp_iload dL_runs_197 (x := (nI c)) (List.mem_of_getElem? (i := 3) rfl) ?_
      refine zp_iload_n dL_runs_199 rfl (x := (nI box)) (List.mem_of_getElem? (i := 8) rfl) ?_
      refine zp_aload dL_runs_200 (a := (lwa L)) (List.mem_of_getElem? (i := 12) rfl) ?_
      refine zp_aload dL_runs_202 (a := (lwe L)) (List.mem_of_getElem? (i := 13) rfl) ?_
      refine zp_callS (st := [.int (nI c), .ref (lwa L)]) (mc2 := 0) (ms2 := 0) dL_runs_204 (c_L_inside l G D W L S box _ hn b0 (by omega)) cl_L_24 st_L_inside rfl rfl (by omega) (by omega) (by omega) (Nat.le_of_ble_eq_true rfl) ?_
      rintro _ s1 ⟨rfl, hs1⟩; obtain rfl := hs1.symm
      refine zp_iload dL_runs_207 (x := fl) (List.mem_of_getElem? (i := 6) rfl) ?_
      refine zp_if_le dL_runs_209 (tgt := 219) rfl (fun _ => ?_) (fun q => absurd hle q)
      refine zp_iconst dL_runs_219 (v := 0) (by decide) ?_
      refine zp_iadd dL_runs_220 ?_
      refine zp_iastore dL_runs_221 b0.Ta (j := (c)) (nI_clamp (by omega)) (vp_in_nI (by omega) (by decide)) ?_
      refine zp_gen (fun s => LB D W L (setA (c) ((inP D box (sa S)) + 0) S) s ∧ LF L σ s) ⟨b0.a (by omega), f0.wa hB.2.1⟩ (fun u1 hn1 => ?_)
      obtain ⟨b1, f1⟩ := hn1
      refine zp_iload dL_runs_222 (x := fl) (List.mem_of_getElem? (i := 6) rfl) ?_
      refine zp_iload dL_runs_224 (x := fl) (List.mem_of_getElem? (i := 6) rfl) ?_
      refine zp_if_le dL_runs_226 (tgt := 233) rfl (fun _ => ?_) (fun q => absurd hle q)
      refine zp_iconst dL_runs_233 (v := 0) (by decide) ?_
      refine zp_iload dL_runs_234 (x := (dln D c i)) (List.mem_of_getElem? (i := 1) rfl) ?_
      refine zp_iadd dL_runs_236 ?_
      refine zp_iadd dL_runs_237 ?_
      refine zp_topi (fun v238_2 hv238_2 => ?_)
      refine zp_istore dL_runs_238 (Nat.le_of_ble_eq_true rfl) (lv2 := [(11, .int v238_2), (17, .int (ascP D c)), (16, .int (dln D c i)), (15, .int (nI i)), (14, .int (nI c)), (13, .int dw), (12, .int up), (8, .int last), (0, .int (nI box)), (1, .int fi), (2, .ref (lwt L)), (3, .ref (lwl L)), (4, .ref (lwa L)), (5, .ref (lwe L)), (6, .ref (lwq L)), (7, .ref (lwn L))]) rfl ?_
      refine zp_iload dL_runs_240 (x := (ascP D c)) (List.mem_of_getElem? (i := 1) rfl) ?_
      refine zp_iload dL_runs_242 (x := up) (List.mem_of_getElem? (i := 6) rfl) ?_
      refine zp_icmp_le dL_runs_244 (tgt := 252) rfl (fun h244 => ?_) (fun h244 => ?_)
      · skip
        refine zp_iload dL_runs_252 (x := up) (List.mem_of_getElem? (i := 6) rfl) ?_
        refine zp_istore dL_runs_254 (Nat.le_of_ble_eq_true rfl) (lv2 := [(12, .int up), (11, .int v238_2), (17, .int (ascP D c)), (16, .int (dln D c i)), (15, .int (nI i)), (14, .int (nI c)), (13, .int dw), (8, .int last), (0, .int (nI box)), (1, .int fi), (2, .ref (lwt L)), (3, .ref (lwl L)), (4, .ref (lwa L)), (5, .ref (lwe L)), (6, .ref (lwq L)), (7, .ref (lwn L))]) rfl ?_
        refine zp_aload_n dL_runs_256 rfl (a := (lwt L)) (List.mem_of_getElem? (i := 10) rfl) ?_
        refine zp_bipush dL_runs_257 (v := 48) (by decide) ?_
        refine zp_iload dL_runs_259 (x := (nI c)) (List.mem_of_getElem? (i := 5) rfl) ?_
        refine zp_iadd dL_runs_261 ?_
        rw [show ((48 + (nI c)) : Int32) = (nI (48 + c)) from nI_add 48 c]
        refine zp_iald_v dL_runs_262 b1.Tt (Or.inl rfl) (j := (48 + c)) (nI_clamp (by omega)) (vp_in_nI (by omega) (by decide)) (v := (dsz D c)) ((b1.2.2.1.1 c (by omega)).2.2.2.1 hc0) ?_
        refine zp_iload dL_runs_263 (x := (ascP D c)) (List.mem_of_getElem? (i := 2) rfl) ?_
        refine zp_isub dL_runs_265 ?_
        refine zp_iload dL_runs_266 (x := dw) (List.mem_of_getElem? (i := 6) rfl) ?_
        refine zp_icmp_le dL_runs_268 (tgt := 284) rfl (fun h268 => ?_) (fun h268 => ?_)
        · skip
          refine zp_iload dL_runs_284 (x := dw) (List.mem_of_getElem? (i := 6) rfl) ?_
          refine zp_istore dL_runs_286 (Nat.le_of_ble_eq_true rfl) (lv2 := [(13, .int dw), (12, .int up), (11, .int v238_2), (17, .int (ascP D c)), (16, .int (dln D c i)), (15, .int (nI i)), (14, .int (nI c)), (8, .int last), (0, .int (nI box)), (1, .int fi), (2, .ref (lwt L)), (3, .ref (lwl L)), (4, .ref (lwa L)), (5, .ref (lwe L)), (6, .ref (lwq L)), (7, .ref (lwn L))]) rfl ?_
          refine zp_lv [5, 6, 0, 1, 2, 7, 8, 9, 10, 11, 12, 13, 14, 15] rfl ?_
          refine zp_lve (lv2 := [(15, .int (nI i)), (14, .int (nI c)), (13, .int (mx dw (dsz D c - ascP D c))), (12, .int (mx up (ascP D c))), (11, .int (offI fl (dln D c i))), (8, .int last), (0, .int (nI box)), (1, .int fi), (2, .ref (lwt L)), (3, .ref (lwl L)), (4, .ref (lwa L)), (5, .ref (lwe L)), (6, .ref (lwq L)), (7, .ref (lwn L))]) ?_ (kk _ (by rw [show (wdA D box c i fl S) = setA c (inP D box (sa S) + 0) S from by unfold wdA; rw [if_pos (nI_inj (k := 0) (by omega) (by decide) h192), if_pos hf]]; exact b1) f1)
          rw [hv238_2, off_0 hf]
          first
            | rw [mx_l h244, mx_l h268]; rfl
            | rw [mx_l h244, mx_r h268]; rfl
            | rw [mx_r h244, mx_l h268]; rfl
            | rw [mx_r h244, mx_r h268]; rfl
        · skip
          refine zp_aload_n dL_runs_271 rfl (a := (lwt L)) (List.mem_of_getElem? (i := 10) rfl) ?_
          refine zp_bipush dL_runs_272 (v := 48) (by decide) ?_
          refine zp_iload dL_runs_274 (x := (nI c)) (List.mem_of_getElem? (i := 5) rfl) ?_
          refine zp_iadd dL_runs_276 ?_
          rw [show ((48 + (nI c)) : Int32) = (nI (48 + c)) from nI_add 48 c]
          refine zp_iald_v dL_runs_277 b1.Tt (Or.inl rfl) (j := (48 + c)) (nI_clamp (by omega)) (vp_in_nI (by omega) (by decide)) (v := (dsz D c)) ((b1.2.2.1.1 c (by omega)).2.2.2.1 hc0) ?_
          refine zp_iload dL_runs_278 (x := (ascP D c)) (List.mem_of_getElem? (i := 2) rfl) ?_
          refine zp_isub dL_runs_280 ?_
          refine zp_goto dL_runs_281 (tgt := 286) rfl ?_
          refine zp_istore dL_runs_286 (Nat.le_of_ble_eq_true rfl) (lv2 := [(13, .int ((dsz D c) - (ascP D c))), (12, .int up), (11, .int v238_2), (17, .int (ascP D c)), (16, .int (dln D c i)), (15, .int (nI i)), (14, .int (nI c)), (8, .int last), (0, .int (nI box)), (1, .int fi), (2, .ref (lwt L)), (3, .ref (lwl L)), (4, .ref (lwa L)), (5, .ref (lwe L)), (6, .ref (lwq L)), (7, .ref (lwn L))]) rfl ?_
          refine zp_lv [5, 6, 0, 1, 2, 7, 8, 9, 10, 11, 12, 13, 14, 15] rfl ?_
          refine zp_lve (lv2 := [(15, .int (nI i)), (14, .int (nI c)), (13, .int (mx dw (dsz D c - ascP D c))), (12, .int (mx up (ascP D c))), (11, .int (offI fl (dln D c i))), (8, .int last), (0, .int (nI box)), (1, .int fi), (2, .ref (lwt L)), (3, .ref (lwl L)), (4, .ref (lwa L)), (5, .ref (lwe L)), (6, .ref (lwq L)), (7, .ref (lwn L))]) ?_ (kk _ (by rw [show (wdA D box c i fl S) = setA c (inP D box (sa S) + 0) S from by unfold wdA; rw [if_pos (nI_inj (k := 0) (by omega) (by decide) h192), if_pos hf]]; exact b1) f1)
          rw [hv238_2, off_0 hf]
          first
            | rw [mx_l h244, mx_l h268]; rfl
            | rw [mx_l h244, mx_r h268]; rfl
            | rw [mx_r h244, mx_l h268]; rfl
            | rw [mx_r h244, mx_r h268]; rfl
      · skip
        refine zp_iload dL_runs_247 (x := (ascP D c)) (List.mem_of_getElem? (i := 1) rfl) ?_
        refine zp_goto dL_runs_249 (tgt := 254) rfl ?_
        refine zp_istore dL_runs_254 (Nat.le_of_ble_eq_true rfl) (lv2 := [(12, .int (ascP D c)), (11, .int v238_2), (17, .int (ascP D c)), (16, .int (dln D c i)), (15, .int (nI i)), (14, .int (nI c)), (13, .int dw), (8, .int last), (0, .int (nI box)), (1, .int fi), (2, .ref (lwt L)), (3, .ref (lwl L)), (4, .ref (lwa L)), (5, .ref (lwe L)), (6, .ref (lwq L)), (7, .ref (lwn L))]) rfl ?_
        refine zp_aload_n dL_runs_256 rfl (a := (lwt L)) (List.mem_of_getElem? (i := 10) rfl) ?_
        refine zp_bipush dL_runs_257 (v := 48) (by decide) ?_
        refine zp_iload dL_runs_259 (x := (nI c)) (List.mem_of_getElem? (i := 5) rfl) ?_
        refine zp_iadd dL_runs_261 ?_
        rw [show ((48 + (nI c)) : Int32) = (nI (48 + c)) from nI_add 48 c]
        refine zp_iald_v dL_runs_262 b1.Tt (Or.inl rfl) (j := (48 + c)) (nI_clamp (by omega)) (vp_in_nI (by omega) (by decide)) (v := (dsz D c)) ((b1.2.2.1.1 c (by omega)).2.2.2.1 hc0) ?_
        refine zp_iload dL_runs_263 (x := (ascP D c)) (List.mem_of_getElem? (i := 2) rfl) ?_
        refine zp_isub dL_runs_265 ?_
        refine zp_iload dL_runs_266 (x := dw) (List.mem_of_getElem? (i := 6) rfl) ?_
        refine zp_icmp_le dL_runs_268 (tgt := 284) rfl (fun h268 => ?_) (fun h268 => ?_)
        · skip
          refine zp_iload dL_runs_284 (x := dw) (List.mem_of_getElem? (i := 6) rfl) ?_
          refine zp_istore dL_runs_286 (Nat.le_of_ble_eq_true rfl) (lv2 := [(13, .int dw), (12, .int (ascP D c)), (11, .int v238_2), (17, .int (ascP D c)), (16, .int (dln D c i)), (15, .int (nI i)), (14, .int (nI c)), (8, .int last), (0, .int (nI box)), (1, .int fi), (2, .ref (lwt L)), (3, .ref (lwl L)), (4, .ref (lwa L)), (5, .ref (lwe L)), (6, .ref (lwq L)), (7, .ref (lwn L))]) rfl ?_
          refine zp_lv [5, 6, 0, 1, 2, 7, 8, 9, 10, 11, 12, 13, 14, 15] rfl ?_
          refine zp_lve (lv2 := [(15, .int (nI i)), (14, .int (nI c)), (13, .int (mx dw (dsz D c - ascP D c))), (12, .int (mx up (ascP D c))), (11, .int (offI fl (dln D c i))), (8, .int last), (0, .int (nI box)), (1, .int fi), (2, .ref (lwt L)), (3, .ref (lwl L)), (4, .ref (lwa L)), (5, .ref (lwe L)), (6, .ref (lwq L)), (7, .ref (lwn L))]) ?_ (kk _ (by rw [show (wdA D box c i fl S) = setA c (inP D box (sa S) + 0) S from by unfold wdA; rw [if_pos (nI_inj (k := 0) (by omega) (by decide) h192), if_pos hf]]; exact b1) f1)
          rw [hv238_2, off_0 hf]
          first
            | rw [mx_l h244, mx_l h268]; rfl
            | rw [mx_l h244, mx_r h268]; rfl
            | rw [mx_r h244, mx_l h268]; rfl
            | rw [mx_r h244, mx_r h268]; rfl
        · skip
          refine zp_aload_n dL_runs_271 rfl (a := (lwt L)) (List.mem_of_getElem? (i := 10) rfl) ?_
          refine zp_bipush dL_runs_272 (v := 48) (by decide) ?_
          refine zp_iload dL_runs_274 (x := (nI c)) (List.mem_of_getElem? (i := 5) rfl) ?_
          refine zp_iadd dL_runs_276 ?_
          rw [show ((48 + (nI c)) : Int32) = (nI (48 + c)) from nI_add 48 c]
          refine zp_iald_v dL_runs_277 b1.Tt (Or.inl rfl) (j := (48 + c)) (nI_clamp (by omega)) (vp_in_nI (by omega) (by decide)) (v := (dsz D c)) ((b1.2.2.1.1 c (by omega)).2.2.2.1 hc0) ?_
          refine zp_iload dL_runs_278 (x := (ascP D c)) (List.mem_of_getElem? (i := 2) rfl) ?_
          refine zp_isub dL_runs_280 ?_
          refine zp_goto dL_runs_281 (tgt := 286) rfl ?_
          refine zp_istore dL_runs_286 (Nat.le_of_ble_eq_true rfl) (lv2 := [(13, .int ((dsz D c) - (ascP D c))), (12, .int (ascP D c)), (11, .int v238_2), (17, .int (ascP D c)), (16, .int (dln D c i)), (15, .int (nI i)), (14, .int (nI c)), (8, .int last), (0, .int (nI box)), (1, .int fi), (2, .ref (lwt L)), (3, .ref (lwl L)), (4, .ref (lwa L)), (5, .ref (lwe L)), (6, .ref (lwq L)), (7, .ref (lwn L))]) rfl ?_
          refine zp_lv [5, 6, 0, 1, 2, 7, 8, 9, 10, 11, 12, 13, 14, 15] rfl ?_
          refine zp_lve (lv2 := [(15, .int (nI i)), (14, .int (nI c)), (13, .int (mx dw (dsz D c - ascP D c))), (12, .int (mx up (ascP D c))), (11, .int (offI fl (dln D c i))), (8, .int last), (0, .int (nI box)), (1, .int fi), (2, .ref (lwt L)), (3, .ref (lwl L)), (4, .ref (lwa L)), (5, .ref (lwe L)), (6, .ref (lwq L)), (7, .ref (lwn L))]) ?_ (kk _ (by rw [show (wdA D box c i fl S) = setA c (inP D box (sa S) + 0) S from by unfold wdA; rw [if_pos (nI_inj (k := 0) (by omega) (by decide) h192), if_pos hf]]; exact b1) f1)
          rw [hv238_2, off_0 hf]
          first
            | rw [mx_l h244, mx_l h268]; rfl
            | rw [mx_l h244, mx_r h268]; rfl
            | rw [mx_r h244, mx_l h268]; rfl
            | rw [mx_r h244, mx_r h268]; rfl
  · have hnle : ¬ fl ≤ 0 := fun q => hf (Int32.toInt_inj.mp (by
      have q := Int32.le_iff_toInt_le.mp q
      rw [show (0 : Int32).toInt = 0 from rfl] at q ⊢
      omega))
    show Wp l G 2 0 0 (RL, cL_runs, 18, (some .int), false) 177 [(16, .int (dln D c i)), (15, .int (nI i)), (14, .int (nI c)), (13, .int dw), (12, .int up), (11, .int fl), (8, .int last), (0, .int (nI box)), (1, .int fi), (2, .ref (lwt L)), (3, .ref (lwl L)), (4, .ref (lwa L)), (5, .ref (lwe L)), (6, .ref (lwq L)), (7, .ref (lwn L))] [] s0 _
    refine zp_iconst dL_runs_177 (v := 3) (by decide) ?_
    refine zp_aload_n dL_runs_178 rfl (a := (lwt L)) (List.mem_of_getElem? (i := 9) rfl) ?_
    refine zp_bipush dL_runs_179 (v := 48) (by decide) ?_
    refine zp_iload dL_runs_181 (x := (nI c)) (List.mem_of_getElem? (i := 2) rfl) ?_
    refine zp_iadd dL_runs_183 ?_
    rw [show ((48 + (nI c)) : Int32) = (nI (48 + c)) from nI_add 48 c]
    refine zp_iald_v dL_runs_184 b0.Tt (Or.inl rfl) (j := (48 + c)) (nI_clamp (by omega)) (vp_in_nI (by omega) (by decide)) (v := (dsz D c)) ((b0.2.2.1.1 c (by omega)).2.2.2.1 hc0) ?_
    refine zp_imul dL_runs_185 ?_
    refine zp_iconst dL_runs_186 (v := 4) (by decide) ?_
    refine zp_idiv dL_runs_187 (by decide) ?_
    rw [show (((3 * (dsz D c)) / 4) : Int32) = (ascP D c) from (by rw [Int32.mul_comm]; rfl)]
    refine zp_istore dL_runs_188 (Nat.le_of_ble_eq_true rfl) (lv2 := [(17, .int (ascP D c)), (16, .int (dln D c i)), (15, .int (nI i)), (14, .int (nI c)), (13, .int dw), (12, .int up), (11, .int fl), (8, .int last), (0, .int (nI box)), (1, .int fi), (2, .ref (lwt L)), (3, .ref (lwl L)), (4, .ref (lwa L)), (5, .ref (lwe L)), (6, .ref (lwq L)), (7, .ref (lwn L))]) rfl ?_
    refine zp_iload dL_runs_190 (x := (nI i)) (List.mem_of_getElem? (i := 2) rfl) ?_
    refine zp_if_ne dL_runs_192 (tgt := 222) rfl (fun h192 => ?_) (fun h192 => ?_)
    · skip
      refine zp_iload dL_runs_222 (x := fl) (List.mem_of_getElem? (i := 6) rfl) ?_
      refine zp_iload dL_runs_224 (x := fl) (List.mem_of_getElem? (i := 6) rfl) ?_
      refine zp_if_le dL_runs_226 (tgt := 233) rfl (fun q => absurd q hnle) (fun _ => ?_)
      refine zp_iconst dL_runs_229 (v := 1) (by decide) ?_
      refine zp_goto dL_runs_230 (tgt := 234) rfl ?_
      refine zp_iload dL_runs_234 (x := (dln D c i)) (List.mem_of_getElem? (i := 1) rfl) ?_
      refine zp_iadd dL_runs_236 ?_
      refine zp_iadd dL_runs_237 ?_
      refine zp_topi (fun v238 hv238 => ?_)
      refine zp_istore dL_runs_238 (Nat.le_of_ble_eq_true rfl) (lv2 := [(11, .int v238), (17, .int (ascP D c)), (16, .int (dln D c i)), (15, .int (nI i)), (14, .int (nI c)), (13, .int dw), (12, .int up), (8, .int last), (0, .int (nI box)), (1, .int fi), (2, .ref (lwt L)), (3, .ref (lwl L)), (4, .ref (lwa L)), (5, .ref (lwe L)), (6, .ref (lwq L)), (7, .ref (lwn L))]) rfl ?_
      refine zp_iload dL_runs_240 (x := (ascP D c)) (List.mem_of_getElem? (i := 1) rfl) ?_
      refine zp_iload dL_runs_242 (x := up) (List.mem_of_getElem? (i := 6) rfl) ?_
      refine zp_icmp_le dL_runs_244 (tgt := 252) rfl (fun h244 => ?_) (fun h244 => ?_)
      · skip
        refine zp_iload dL_runs_252 (x := up) (List.mem_of_getElem? (i := 6) rfl) ?_
        refine zp_istore dL_runs_254 (Nat.le_of_ble_eq_true rfl) (lv2 := [(12, .int up), (11, .int v238), (17, .int (ascP D c)), (16, .int (dln D c i)), (15, .int (nI i)), (14, .int (nI c)), (13, .int dw), (8, .int last), (0, .int (nI box)), (1, .int fi), (2, .ref (lwt L)), (3, .ref (lwl L)), (4, .ref (lwa L)), (5, .ref (lwe L)), (6, .ref (lwq L)), (7, .ref (lwn L))]) rfl ?_
        refine zp_aload_n dL_runs_256 rfl (a := (lwt L)) (List.mem_of_getElem? (i := 10) rfl) ?_
        refine zp_bipush dL_runs_257 (v := 48) (by decide) ?_
        refine zp_iload dL_runs_259 (x := (nI c)) (List.mem_of_getElem? (i := 5) rfl) ?_
        refine zp_iadd dL_runs_261 ?_
        rw [show ((48 + (nI c)) : Int32) = (nI (48 + c)) from nI_add 48 c]
        refine zp_iald_v dL_runs_262 b0.Tt (Or.inl rfl) (j := (48 + c)) (nI_clamp (by omega)) (vp_in_nI (by omega) (by decide)) (v := (dsz D c)) ((b0.2.2.1.1 c (by omega)).2.2.2.1 hc0) ?_
        refine zp_iload dL_runs_263 (x := (ascP D c)) (List.mem_of_getElem? (i := 2) rfl) ?_
        refine zp_isub dL_runs_265 ?_
        refine zp_iload dL_runs_266 (x := dw) (List.mem_of_getElem? (i := 6) rfl) ?_
        refine zp_icmp_le dL_runs_268 (tgt := 284) rfl (fun h268 => ?_) (fun h268 => ?_)
        · skip
          refine zp_iload dL_runs_284 (x := dw) (List.mem_of_getElem? (i := 6) rfl) ?_
          refine zp_istore dL_runs_286 (Nat.le_of_ble_eq_true rfl) (lv2 := [(13, .int dw), (12, .int up), (11, .int v238), (17, .int (ascP D c)), (16, .int (dln D c i)), (15, .int (nI i)), (14, .int (nI c)), (8, .int last), (0, .int (nI box)), (1, .int fi), (2, .ref (lwt L)), (3, .ref (lwl L)), (4, .ref (lwa L)), (5, .ref (lwe L)), (6, .ref (lwq L)), (7, .ref (lwn L))]) rfl ?_
          refine zp_lv [5, 6, 0, 1, 2, 7, 8, 9, 10, 11, 12, 13, 14, 15] rfl ?_
          refine zp_lve (lv2 := [(15, .int (nI i)), (14, .int (nI c)), (13, .int (mx dw (dsz D c - ascP D c))), (12, .int (mx up (ascP D c))), (11, .int (offI fl (dln D c i))), (8, .int last), (0, .int (nI box)), (1, .int fi), (2, .ref (lwt L)), (3, .ref (lwl L)), (4, .ref (lwa L)), (5, .ref (lwe L)), (6, .ref (lwq L)), (7, .ref (lwn L))]) ?_ (kk _ (by rw [show (wdA D box c i fl S) = S from if_neg (fun q => h192 (by rw [q]; rfl))]; exact b0) f0)
          rw [hv238, off_1 hf]
          first
            | rw [mx_l h244, mx_l h268]; rfl
            | rw [mx_l h244, mx_r h268]; rfl
            | rw [mx_r h244, mx_l h268]; rfl
            | rw [mx_r h244, mx_r h268]; rfl
        · skip
          refine zp_aload_n dL_runs_271 rfl (a := (lwt L)) (List.mem_of_getElem? (i := 10) rfl) ?_
          refine zp_bipush dL_runs_272 (v := 48) (by decide) ?_
          refine zp_iload dL_runs_274 (x := (nI c)) (List.mem_of_getElem? (i := 5) rfl) ?_
          refine zp_iadd dL_runs_276 ?_
          rw [show ((48 + (nI c)) : Int32) = (nI (48 + c)) from nI_add 48 c]
          refine zp_iald_v dL_runs_277 b0.Tt (Or.inl rfl) (j := (48 + c)) (nI_clamp (by omega)) (vp_in_nI (by omega) (by decide)) (v := (dsz D c)) ((b0.2.2.1.1 c (by omega)).2.2.2.1 hc0) ?_
          refine zp_iload dL_runs_278 (x := (ascP D c)) (List.mem_of_getElem? (i := 2) rfl) ?_
          refine zp_isub dL_runs_280 ?_
          refine zp_goto dL_runs_281 (tgt := 286) rfl ?_
          refine zp_istore dL_runs_286 (Nat.le_of_ble_eq_true rfl) (lv2 := [(13, .int ((dsz D c) - (ascP D c))), (12, .int up), (11, .int v238), (17, .int (ascP D c)), (16, .int (dln D c i)), (15, .int (nI i)), (14, .int (nI c)), (8, .int last), (0, .int (nI box)), (1, .int fi), (2, .ref (lwt L)), (3, .ref (lwl L)), (4, .ref (lwa L)), (5, .ref (lwe L)), (6, .ref (lwq L)), (7, .ref (lwn L))]) rfl ?_
          refine zp_lv [5, 6, 0, 1, 2, 7, 8, 9, 10, 11, 12, 13, 14, 15] rfl ?_
          refine zp_lve (lv2 := [(15, .int (nI i)), (14, .int (nI c)), (13, .int (mx dw (dsz D c - ascP D c))), (12, .int (mx up (ascP D c))), (11, .int (offI fl (dln D c i))), (8, .int last), (0, .int (nI box)), (1, .int fi), (2, .ref (lwt L)), (3, .ref (lwl L)), (4, .ref (lwa L)), (5, .ref (lwe L)), (6, .ref (lwq L)), (7, .ref (lwn L))]) ?_ (kk _ (by rw [show (wdA D box c i fl S) = S from if_neg (fun q => h192 (by rw [q]; rfl))]; exact b0) f0)
          rw [hv238, off_1 hf]
          first
            | rw [mx_l h244, mx_l h268]; rfl
            | rw [mx_l h244, mx_r h268]; rfl
            | rw [mx_r h244, mx_l h268]; rfl
            | rw [mx_r h244, mx_r h268]; rfl
      · skip
        refine zp_iload dL_runs_247 (x := (ascP D c)) (List.mem_of_getElem? (i := 1) rfl) ?_
        refine zp_goto dL_runs_249 (tgt := 254) rfl ?_
        refine zp_istore dL_runs_254 (Nat.le_of_ble_eq_true rfl) (lv2 := [(12, .int (ascP D c)), (11, .int v238), (17, .int (ascP D c)), (16, .int (dln D c i)), (15, .int (nI i)), (14, .int (nI c)), (13, .int dw), (8, .int last), (0, .int (nI box)), (1, .int fi), (2, .ref (lwt L)), (3, .ref (lwl L)), (4, .ref (lwa L)), (5, .ref (lwe L)), (6, .ref (lwq L)), (7, .ref (lwn L))]) rfl ?_
        refine zp_aload_n dL_runs_256 rfl (a := (lwt L)) (List.mem_of_getElem? (i := 10) rfl) ?_
        refine zp_bipush dL_runs_257 (v := 48) (by decide) ?_
        refine zp_iload dL_runs_259 (x := (nI c)) (List.mem_of_getElem? (i := 5) rfl) ?_
        refine zp_iadd dL_runs_261 ?_
        rw [show ((48 + (nI c)) : Int32) = (nI (48 + c)) from nI_add 48 c]
        refine zp_iald_v dL_runs_262 b0.Tt (Or.inl rfl) (j := (48 + c)) (nI_clamp (by omega)) (vp_in_nI (by omega) (by decide)) (v := (dsz D c)) ((b0.2.2.1.1 c (by omega)).2.2.2.1 hc0) ?_
        refine zp_iload dL_runs_263 (x := (ascP D c)) (List.mem_of_getElem? (i := 2) rfl) ?_
        refine zp_isub dL_runs_265 ?_
        refine zp_iload dL_runs_266 (x := dw) (List.mem_of_getElem? (i := 6) rfl) ?_
        refine zp_icmp_le dL_runs_268 (tgt := 284) rfl (fun h268 => ?_) (fun h268 => ?_)
        · skip
          refine zp_iload dL_runs_284 (x := dw) (List.mem_of_getElem? (i := 6) rfl) ?_
          refine zp_istore dL_runs_286 (Nat.le_of_ble_eq_true rfl) (lv2 := [(13, .int dw), (12, .int (ascP D c)), (11, .int v238), (17, .int (ascP D c)), (16, .int (dln D c i)), (15, .int (nI i)), (14, .int (nI c)), (8, .int last), (0, .int (nI box)), (1, .int fi), (2, .ref (lwt L)), (3, .ref (lwl L)), (4, .ref (lwa L)), (5, .ref (lwe L)), (6, .ref (lwq L)), (7, .ref (lwn L))]) rfl ?_
          refine zp_lv [5, 6, 0, 1, 2, 7, 8, 9, 10, 11, 12, 13, 14, 15] rfl ?_
          refine zp_lve (lv2 := [(15, .int (nI i)), (14, .int (nI c)), (13, .int (mx dw (dsz D c - ascP D c))), (12, .int (mx up (ascP D c))), (11, .int (offI fl (dln D c i))), (8, .int last), (0, .int (nI box)), (1, .int fi), (2, .ref (lwt L)), (3, .ref (lwl L)), (4, .ref (lwa L)), (5, .ref (lwe L)), (6, .ref (lwq L)), (7, .ref (lwn L))]) ?_ (kk _ (by rw [show (wdA D box c i fl S) = S from if_neg (fun q => h192 (by rw [q]; rfl))]; exact b0) f0)
          rw [hv238, off_1 hf]
          first
            | rw [mx_l h244, mx_l h268]; rfl
            | rw [mx_l h244, mx_r h268]; rfl
            | rw [mx_r h244, mx_l h268]; rfl
            | rw [mx_r h244, mx_r h268]; rfl
        · skip
          refine zp_aload_n dL_runs_271 rfl (a := (lwt L)) (List.mem_of_getElem? (i := 10) rfl) ?_
          refine zp_bipush dL_runs_272 (v := 48) (by decide) ?_
          refine zp_iload dL_runs_274 (x := (nI c)) (List.mem_of_getElem? (i := 5) rfl) ?_
          refine zp_iadd dL_runs_276 ?_
          rw [show ((48 + (nI c)) : Int32) = (nI (48 + c)) from nI_add 48 c]
          refine zp_iald_v dL_runs_277 b0.Tt (Or.inl rfl) (j := (48 + c)) (nI_clamp (by omega)) (vp_in_nI (by omega) (by decide)) (v := (dsz D c)) ((b0.2.2.1.1 c (by omega)).2.2.2.1 hc0) ?_
          refine zp_iload dL_runs_278 (x := (ascP D c)) (List.mem_of_getElem? (i := 2) rfl) ?_
          refine zp_isub dL_runs_280 ?_
          refine zp_goto dL_runs_281 (tgt := 286) rfl ?_
          refine zp_istore dL_runs_286 (Nat.le_of_ble_eq_true rfl) (lv2 := [(13, .int ((dsz D c) - (ascP D c))), (12, .int (ascP D c)), (11, .int v238), (17, .int (ascP D c)), (16, .int (dln D c i)), (15, .int (nI i)), (14, .int (nI c)), (8, .int last), (0, .int (nI box)), (1, .int fi), (2, .ref (lwt L)), (3, .ref (lwl L)), (4, .ref (lwa L)), (5, .ref (lwe L)), (6, .ref (lwq L)), (7, .ref (lwn L))]) rfl ?_
          refine zp_lv [5, 6, 0, 1, 2, 7, 8, 9, 10, 11, 12, 13, 14, 15] rfl ?_
          refine zp_lve (lv2 := [(15, .int (nI i)), (14, .int (nI c)), (13, .int (mx dw (dsz D c - ascP D c))), (12, .int (mx up (ascP D c))), (11, .int (offI fl (dln D c i))), (8, .int last), (0, .int (nI box)), (1, .int fi), (2, .ref (lwt L)), (3, .ref (lwl L)), (4, .ref (lwa L)), (5, .ref (lwe L)), (6, .ref (lwq L)), (7, .ref (lwn L))]) ?_ (kk _ (by rw [show (wdA D box c i fl S) = S from if_neg (fun q => h192 (by rw [q]; rfl))]; exact b0) f0)
          rw [hv238, off_1 hf]
          first
            | rw [mx_l h244, mx_l h268]; rfl
            | rw [mx_l h244, mx_r h268]; rfl
            | rw [mx_r h244, mx_l h268]; rfl
            | rw [mx_r h244, mx_r h268]; rfl
    · skip
      refine zp_aload dL_runs_195 (a := (lwa L)) (List.mem_of_getElem? (i := 12) rfl) ?_
      refine zp_iload dL_runs_197 (x := (nI c)) (List.mem_of_getElem? (i := 3) rfl) ?_
      refine zp_iload_n dL_runs_199 rfl (x := (nI box)) (List.mem_of_getElem? (i := 8) rfl) ?_
      refine zp_aload dL_runs_200 (a := (lwa L)) (List.mem_of_getElem? (i := 12) rfl) ?_
      refine zp_aload dL_runs_202 (a := (lwe L)) (List.mem_of_getElem? (i := 13) rfl) ?_
      refine zp_callS (st := [.int (nI c), .ref (lwa L)]) (mc2 := 0) (ms2 := 0) dL_runs_204 (c_L_inside l G D W L S box _ hn b0 (by omega)) cl_L_24 st_L_inside rfl rfl (by omega) (by omega) (by omega) (Nat.le_of_ble_eq_true rfl) ?_
      rintro _ s1 ⟨rfl, hs1⟩; obtain rfl := hs1.symm
      refine zp_iload dL_runs_207 (x := fl) (List.mem_of_getElem? (i := 6) rfl) ?_
      refine zp_if_le dL_runs_209 (tgt := 219) rfl (fun q => absurd q hnle) (fun _ => ?_)
      refine zp_iload dL_runs_212 (x := fl) (List.mem_of_getElem? (i := 6) rfl) ?_
      refine zp_iconst dL_runs_214 (v := 1) (by decide) ?_
      refine zp_iadd dL_runs_215 ?_
      refine zp_goto dL_runs_216 (tgt := 220) rfl ?_
      refine zp_iadd dL_runs_220 ?_
      refine zp_iastore dL_runs_221 b0.Ta (j := (c)) (nI_clamp (by omega)) (vp_in_nI (by omega) (by decide)) ?_
      refine zp_gen (fun s => LB D W L (setA (c) ((inP D box (sa S)) + (fl + 1)) S) s ∧ LF L σ s) ⟨b0.a (by omega), f0.wa hB.2.1⟩ (fun u1 hn1 => ?_)
      obtain ⟨b1, f1⟩ := hn1
      refine zp_iload dL_runs_222 (x := fl) (List.mem_of_getElem? (i := 6) rfl) ?_
      refine zp_iload dL_runs_224 (x := fl) (List.mem_of_getElem? (i := 6) rfl) ?_
      refine zp_if_le dL_runs_226 (tgt := 233) rfl (fun q => absurd q hnle) (fun _ => ?_)
      refine zp_iconst dL_runs_229 (v := 1) (by decide) ?_
      refine zp_goto dL_runs_230 (tgt := 234) rfl ?_
      refine zp_iload dL_runs_234 (x := (dln D c i)) (List.mem_of_getElem? (i := 1) rfl) ?_
      refine zp_iadd dL_runs_236 ?_
      refine zp_iadd dL_runs_237 ?_
      refine zp_topi (fun v238_2 hv238_2 => ?_)
      refine zp_istore dL_runs_238 (Nat.le_of_ble_eq_true rfl) (lv2 := [(11, .int v238_2), (17, .int (ascP D c)), (16, .int (dln D c i)), (15, .int (nI i)), (14, .int (nI c)), (13, .int dw), (12, .int up), (8, .int last), (0, .int (nI box)), (1, .int fi), (2, .ref (lwt L)), (3, .ref (lwl L)), (4, .ref (lwa L)), (5, .ref (lwe L)), (6, .ref (lwq L)), (7, .ref (lwn L))]) rfl ?_
      refine zp_iload dL_runs_240 (x := (ascP D c)) (List.mem_of_getElem? (i := 1) rfl) ?_
      refine zp_iload dL_runs_242 (x := up) (List.mem_of_getElem? (i := 6) rfl) ?_
      refine zp_icmp_le dL_runs_244 (tgt := 252) rfl (fun h244 => ?_) (fun h244 => ?_)
      · skip
        refine zp_iload dL_runs_252 (x := up) (List.mem_of_getElem? (i := 6) rfl) ?_
        refine zp_istore dL_runs_254 (Nat.le_of_ble_eq_true rfl) (lv2 := [(12, .int up), (11, .int v238_2), (17, .int (ascP D c)), (16, .int (dln D c i)), (15, .int (nI i)), (14, .int (nI c)), (13, .int dw), (8, .int last), (0, .int (nI box)), (1, .int fi), (2, .ref (lwt L)), (3, .ref (lwl L)), (4, .ref (lwa L)), (5, .ref (lwe L)), (6, .ref (lwq L)), (7, .ref (lwn L))]) rfl ?_
        refine zp_aload_n dL_runs_256 rfl (a := (lwt L)) (List.mem_of_getElem? (i := 10) rfl) ?_
        refine zp_bipush dL_runs_257 (v := 48) (by decide) ?_
        refine zp_iload dL_runs_259 (x := (nI c)) (List.mem_of_getElem? (i := 5) rfl) ?_
        refine zp_iadd dL_runs_261 ?_
        rw [show ((48 + (nI c)) : Int32) = (nI (48 + c)) from nI_add 48 c]
        refine zp_iald_v dL_runs_262 b1.Tt (Or.inl rfl) (j := (48 + c)) (nI_clamp (by omega)) (vp_in_nI (by omega) (by decide)) (v := (dsz D c)) ((b1.2.2.1.1 c (by omega)).2.2.2.1 hc0) ?_
        refine zp_iload dL_runs_263 (x := (ascP D c)) (List.mem_of_getElem? (i := 2) rfl) ?_
        refine zp_isub dL_runs_265 ?_
        refine zp_iload dL_runs_266 (x := dw) (List.mem_of_getElem? (i := 6) rfl) ?_
        refine zp_icmp_le dL_runs_268 (tgt := 284) rfl (fun h268 => ?_) (fun h268 => ?_)
        · skip
          refine zp_iload dL_runs_284 (x := dw) (List.mem_of_getElem? (i := 6) rfl) ?_
          refine zp_istore dL_runs_286 (Nat.le_of_ble_eq_true rfl) (lv2 := [(13, .int dw), (12, .int up), (11, .int v238_2), (17, .int (ascP D c)), (16, .int (dln D c i)), (15, .int (nI i)), (14, .int (nI c)), (8, .int last), (0, .int (nI box)), (1, .int fi), (2, .ref (lwt L)), (3, .ref (lwl L)), (4, .ref (lwa L)), (5, .ref (lwe L)), (6, .ref (lwq L)), (7, .ref (lwn L))]) rfl ?_
          refine zp_lv [5, 6, 0, 1, 2, 7, 8, 9, 10, 11, 12, 13, 14, 15] rfl ?_
          refine zp_lve (lv2 := [(15, .int (nI i)), (14, .int (nI c)), (13, .int (mx dw (dsz D c - ascP D c))), (12, .int (mx up (ascP D c))), (11, .int (offI fl (dln D c i))), (8, .int last), (0, .int (nI box)), (1, .int fi), (2, .ref (lwt L)), (3, .ref (lwl L)), (4, .ref (lwa L)), (5, .ref (lwe L)), (6, .ref (lwq L)), (7, .ref (lwn L))]) ?_ (kk _ (by rw [show (wdA D box c i fl S) = setA c (inP D box (sa S) + (fl + 1)) S from by unfold wdA; rw [if_pos (nI_inj (k := 0) (by omega) (by decide) h192), if_neg hf]]; exact b1) f1)
          rw [hv238_2, off_1 hf]
          first
            | rw [mx_l h244, mx_l h268]; rfl
            | rw [mx_l h244, mx_r h268]; rfl
            | rw [mx_r h244, mx_l h268]; rfl
            | rw [mx_r h244, mx_r h268]; rfl
        · skip
          refine zp_aload_n dL_runs_271 rfl (a := (lwt L)) (List.mem_of_getElem? (i := 10) rfl) ?_
          refine zp_bipush dL_runs_272 (v := 48) (by decide) ?_
          refine zp_iload dL_runs_274 (x := (nI c)) (List.mem_of_getElem? (i := 5) rfl) ?_
          refine zp_iadd dL_runs_276 ?_
          rw [show ((48 + (nI c)) : Int32) = (nI (48 + c)) from nI_add 48 c]
          refine zp_iald_v dL_runs_277 b1.Tt (Or.inl rfl) (j := (48 + c)) (nI_clamp (by omega)) (vp_in_nI (by omega) (by decide)) (v := (dsz D c)) ((b1.2.2.1.1 c (by omega)).2.2.2.1 hc0) ?_
          refine zp_iload dL_runs_278 (x := (ascP D c)) (List.mem_of_getElem? (i := 2) rfl) ?_
          refine zp_isub dL_runs_280 ?_
          refine zp_goto dL_runs_281 (tgt := 286) rfl ?_
          refine zp_istore dL_runs_286 (Nat.le_of_ble_eq_true rfl) (lv2 := [(13, .int ((dsz D c) - (ascP D c))), (12, .int up), (11, .int v238_2), (17, .int (ascP D c)), (16, .int (dln D c i)), (15, .int (nI i)), (14, .int (nI c)), (8, .int last), (0, .int (nI box)), (1, .int fi), (2, .ref (lwt L)), (3, .ref (lwl L)), (4, .ref (lwa L)), (5, .ref (lwe L)), (6, .ref (lwq L)), (7, .ref (lwn L))]) rfl ?_
          refine zp_lv [5, 6, 0, 1, 2, 7, 8, 9, 10, 11, 12, 13, 14, 15] rfl ?_
          refine zp_lve (lv2 := [(15, .int (nI i)), (14, .int (nI c)), (13, .int (mx dw (dsz D c - ascP D c))), (12, .int (mx up (ascP D c))), (11, .int (offI fl (dln D c i))), (8, .int last), (0, .int (nI box)), (1, .int fi), (2, .ref (lwt L)), (3, .ref (lwl L)), (4, .ref (lwa L)), (5, .ref (lwe L)), (6, .ref (lwq L)), (7, .ref (lwn L))]) ?_ (kk _ (by rw [show (wdA D box c i fl S) = setA c (inP D box (sa S) + (fl + 1)) S from by unfold wdA; rw [if_pos (nI_inj (k := 0) (by omega) (by decide) h192), if_neg hf]]; exact b1) f1)
          rw [hv238_2, off_1 hf]
          first
            | rw [mx_l h244, mx_l h268]; rfl
            | rw [mx_l h244, mx_r h268]; rfl
            | rw [mx_r h244, mx_l h268]; rfl
            | rw [mx_r h244, mx_r h268]; rfl
      · skip
        refine zp_iload dL_runs_247 (x := (ascP D c)) (List.mem_of_getElem? (i := 1) rfl) ?_
        refine zp_goto dL_runs_249 (tgt := 254) rfl ?_
        refine zp_istore dL_runs_254 (Nat.le_of_ble_eq_true rfl) (lv2 := [(12, .int (ascP D c)), (11, .int v238_2), (17, .int (ascP D c)), (16, .int (dln D c i)), (15, .int (nI i)), (14, .int (nI c)), (13, .int dw), (8, .int last), (0, .int (nI box)), (1, .int fi), (2, .ref (lwt L)), (3, .ref (lwl L)), (4, .ref (lwa L)), (5, .ref (lwe L)), (6, .ref (lwq L)), (7, .ref (lwn L))]) rfl ?_
        refine zp_aload_n dL_runs_256 rfl (a := (lwt L)) (List.mem_of_getElem? (i := 10) rfl) ?_
        refine zp_bipush dL_runs_257 (v := 48) (by decide) ?_
        refine zp_iload dL_runs_259 (x := (nI c)) (List.mem_of_getElem? (i := 5) rfl) ?_
        refine zp_iadd dL_runs_261 ?_
        rw [show ((48 + (nI c)) : Int32) = (nI (48 + c)) from nI_add 48 c]
        refine zp_iald_v dL_runs_262 b1.Tt (Or.inl rfl) (j := (48 + c)) (nI_clamp (by omega)) (vp_in_nI (by omega) (by decide)) (v := (dsz D c)) ((b1.2.2.1.1 c (by omega)).2.2.2.1 hc0) ?_
        refine zp_iload dL_runs_263 (x := (ascP D c)) (List.mem_of_getElem? (i := 2) rfl) ?_
        refine zp_isub dL_runs_265 ?_
        refine zp_iload dL_runs_266 (x := dw) (List.mem_of_getElem? (i := 6) rfl) ?_
        refine zp_icmp_le dL_runs_268 (tgt := 284) rfl (fun h268 => ?_) (fun h268 => ?_)
        · skip
          refine zp_iload dL_runs_284 (x := dw) (List.mem_of_getElem? (i := 6) rfl) ?_
          refine zp_istore dL_runs_286 (Nat.le_of_ble_eq_true rfl) (lv2 := [(13, .int dw), (12, .int (ascP D c)), (11, .int v238_2), (17, .int (ascP D c)), (16, .int (dln D c i)), (15, .int (nI i)), (14, .int (nI c)), (8, .int last), (0, .int (nI box)), (1, .int fi), (2, .ref (lwt L)), (3, .ref (lwl L)), (4, .ref (lwa L)), (5, .ref (lwe L)), (6, .ref (lwq L)), (7, .ref (lwn L))]) rfl ?_
          refine zp_lv [5, 6, 0, 1, 2, 7, 8, 9, 10, 11, 12, 13, 14, 15] rfl ?_
          refine zp_lve (lv2 := [(15, .int (nI i)), (14, .int (nI c)), (13, .int (mx dw (dsz D c - ascP D c))), (12, .int (mx up (ascP D c))), (11, .int (offI fl (dln D c i))), (8, .int last), (0, .int (nI box)), (1, .int fi), (2, .ref (lwt L)), (3, .ref (lwl L)), (4, .ref (lwa L)), (5, .ref (lwe L)), (6, .ref (lwq L)), (7, .ref (lwn L))]) ?_ (kk _ (by rw [show (wdA D box c i fl S) = setA c (inP D box (sa S) + (fl + 1)) S from by unfold wdA; rw [if_pos (nI_inj (k := 0) (by omega) (by decide) h192), if_neg hf]]; exact b1) f1)
          rw [hv238_2, off_1 hf]
          first
            | rw [mx_l h244, mx_l h268]; rfl
            | rw [mx_l h244, mx_r h268]; rfl
            | rw [mx_r h244, mx_l h268]; rfl
            | rw [mx_r h244, mx_r h268]; rfl
        · skip
          refine zp_aload_n dL_runs_271 rfl (a := (lwt L)) (List.mem_of_getElem? (i := 10) rfl) ?_
          refine zp_bipush dL_runs_272 (v := 48) (by decide) ?_
          refine zp_iload dL_runs_274 (x := (nI c)) (List.mem_of_getElem? (i := 5) rfl) ?_
          refine zp_iadd dL_runs_276 ?_
          rw [show ((48 + (nI c)) : Int32) = (nI (48 + c)) from nI_add 48 c]
          refine zp_iald_v dL_runs_277 b1.Tt (Or.inl rfl) (j := (48 + c)) (nI_clamp (by omega)) (vp_in_nI (by omega) (by decide)) (v := (dsz D c)) ((b1.2.2.1.1 c (by omega)).2.2.2.1 hc0) ?_
          refine zp_iload dL_runs_278 (x := (ascP D c)) (List.mem_of_getElem? (i := 2) rfl) ?_
          refine zp_isub dL_runs_280 ?_
          refine zp_goto dL_runs_281 (tgt := 286) rfl ?_
          refine zp_istore dL_runs_286 (Nat.le_of_ble_eq_true rfl) (lv2 := [(13, .int ((dsz D c) - (ascP D c))), (12, .int (ascP D c)), (11, .int v238_2), (17, .int (ascP D c)), (16, .int (dln D c i)), (15, .int (nI i)), (14, .int (nI c)), (8, .int last), (0, .int (nI box)), (1, .int fi), (2, .ref (lwt L)), (3, .ref (lwl L)), (4, .ref (lwa L)), (5, .ref (lwe L)), (6, .ref (lwq L)), (7, .ref (lwn L))]) rfl ?_
          refine zp_lv [5, 6, 0, 1, 2, 7, 8, 9, 10, 11, 12, 13, 14, 15] rfl ?_
          refine zp_lve (lv2 := [(15, .int (nI i)), (14, .int (nI c)), (13, .int (mx dw (dsz D c - ascP D c))), (12, .int (mx up (ascP D c))), (11, .int (offI fl (dln D c i))), (8, .int last), (0, .int (nI box)), (1, .int fi), (2, .ref (lwt L)), (3, .ref (lwl L)), (4, .ref (lwa L)), (5, .ref (lwe L)), (6, .ref (lwq L)), (7, .ref (lwn L))]) ?_ (kk _ (by rw [show (wdA D box c i fl S) = setA c (inP D box (sa S) + (fl + 1)) S from by unfold wdA; rw [if_pos (nI_inj (k := 0) (by omega) (by decide) h192), if_neg hf]]; exact b1) f1)
          rw [hv238_2, off_1 hf]
          first
            | rw [mx_l h244, mx_l h268]; rfl
            | rw [mx_l h244, mx_r h268]; rfl
            | rw [mx_r h244, mx_l h268]; rfl
            | rw [mx_r h244, mx_r h268]; rfl
/-- what the words of a run keep -/
def WI (D : Dt) (box n : Nat) (Y : RS) : Prop := (0 ≤ Y.2.1.toInt ∧ Y.2.1.toInt ≤ 1000) ∧ (0 ≤ Y.2.2.1.toInt ∧ Y.2.2.1.toInt ≤ 20) ∧ (0 ≤ Y.2.2.2.toInt ∧ Y.2.2.2.toInt ≤ 20) ∧ (sls Y.1).length + (if Y.2.1 = 0 then 0 else 1) ≤ n ∧ (sa Y.1 (32 + box)).toInt ≤ 1000
theorem asc_hi {D : Dt} (hD : DW D) (c : Nat) : (ascP D c).toInt ≤ 20 ∧ (dsz D c - ascP D c).toInt ≤ 20 := by
  have h := hD.2.2.2.2.2.2.2.1 c
  have hb := asc_bound hD c
  have e1 : (dsz D c * 3).toInt = (dsz D c).toInt * 3 := by
    rw [Int32.toInt_mul, show (3 : Int32).toInt = 3 from rfl]
    exact Int.bmod_eq_of_le (by omega) (by omega)
  have e2 : (ascP D c).toInt = (dsz D c).toInt * 3 / 4 := by
    show (dsz D c * 3 / 4).toInt = _
    rw [Int32.toInt_div, e1, show (4 : Int32).toInt = 4 from rfl, Int.tdiv_eq_ediv_of_nonneg (by omega)]
    exact Int.bmod_eq_of_le (by omega) (by omega)
  have e3 : (dsz D c - ascP D c).toInt = (dsz D c).toInt - (ascP D c).toInt := by
    rw [Int32.toInt_sub]
    exact Int.bmod_eq_of_le (by omega) (by omega)
  omega
theorem mx_b {x y : Int32} (hx : 0 ≤ x.toInt ∧ x.toInt ≤ 20) (hy : 0 ≤ y.toInt ∧ y.toInt ≤ 20) : 0 ≤ (mx x y).toInt ∧ (mx x y).toInt ≤ 20 := by
  unfold mx; split
  · exact hy
  · exact hx
theorem WI.brk {D : Dt} {box n : Nat} {len : Int32} {Y : RS} (h : WI D box n Y) : WI D box n (brkP D box len Y) ∧ ((brkP D box len Y).2.1 = 0 ∨ ((brkP D box len Y) = Y ∧ (Y.2.1 + 1) + len ≤ sa Y.1 (32 + box))) := by
  obtain ⟨S, fl, up, dw⟩ := Y
  obtain ⟨h1, h2, h3, h4, h5⟩ := h
  have h4 : (sls S).length + (if fl = 0 then 0 else 1) ≤ n := h4
  show WI D box n (if fl ≠ 0 ∧ ¬ ((fl + 1) + len ≤ sa S (32 + box)) then (shutP box (S, fl, up, dw), 0, 0, 0) else (S, fl, up, dw)) ∧ ((if fl ≠ 0 ∧ ¬ ((fl + 1) + len ≤ sa S (32 + box)) then (shutP box (S, fl, up, dw), 0, 0, 0) else (S, fl, up, dw)).2.1 = 0 ∨ ((if fl ≠ 0 ∧ ¬ ((fl + 1) + len ≤ sa S (32 + box)) then (shutP box (S, fl, up, dw), 0, 0, 0) else (S, fl, up, dw)) = (S, fl, up, dw) ∧ (fl + 1) + len ≤ sa S (32 + box)))
  by_cases z : fl ≠ 0 ∧ ¬ ((fl + 1) + len ≤ sa S (32 + box))
  · rw [if_pos z]
    refine ⟨⟨⟨(by decide : 0 ≤ (0 : Int32).toInt), (by decide : (0 : Int32).toInt ≤ 1000)⟩, ⟨(by decide : 0 ≤ (0 : Int32).toInt), (by decide : (0 : Int32).toInt ≤ 20)⟩, ⟨(by decide : 0 ≤ (0 : Int32).toInt), (by decide : (0 : Int32).toInt ≤ 20)⟩, ?_, h5⟩, Or.inl rfl⟩
    show (sls S ++ [(box, sy S, fl)]).length + (if (0 : Int32) = 0 then 0 else 1) ≤ n
    rw [if_neg z.1] at h4
    rw [List.length_append, if_pos rfl]
    exact h4
  · rw [if_neg z]
    refine ⟨⟨h1, h2, h3, h4, h5⟩, ?_⟩
    by_cases z2 : fl = 0
    · exact Or.inl z2
    · exact Or.inr ⟨rfl, Decidable.byContradiction fun q => z ⟨z2, q⟩⟩
theorem WI.word {D : Dt} (hD : DW D) {box n c i : Nat} {Y : RS} (hc : c < 12) (h : WI D box n Y) : WI D box (n + 1) (wordP D box c i Y) := by
  obtain ⟨hb, hx⟩ := h.brk (len := dln D c i)
  rw [wordP_def]
  have hl := hD.2.2.2.2.2.2.1 c i
  have a1 := asc_bound hD c
  have a2 := asc_hi hD c
  generalize e : brkP D box (dln D c i) Y = B at hb hx
  obtain ⟨S, fl, up, dw⟩ := B
  obtain ⟨g1, g2, g3, g4, g5⟩ := hb
  have g1 : 0 ≤ fl.toInt ∧ fl.toInt ≤ 1000 := g1
  have g4 : (sls S).length + (if fl = 0 then 0 else 1) ≤ n := g4
  have g5 : (sa S (32 + box)).toInt ≤ 1000 := g5
  have ho : 1 ≤ (offI fl (dln D c i)).toInt ∧ (offI fl (dln D c i)).toInt ≤ 1000 := by
    unfold offI
    by_cases z : fl = 0
    · rw [if_pos z, Int32.zero_add]; omega
    · rw [if_neg z]
      have h9 : (fl + 1) + dln D c i ≤ sa S (32 + box) := by
        rcases hx with q | ⟨q, q2⟩
        · exact absurd q z
        · rw [← q] at q2; exact q2
      have e1 : (fl + 1).toInt = fl.toInt + 1 := by
        rw [Int32.toInt_add, show (1 : Int32).toInt = 1 from rfl]
        exact Int.bmod_eq_of_le (by omega) (by omega)
      have e2 : ((fl + 1) + dln D c i).toInt = fl.toInt + 1 + (dln D c i).toInt := by
        rw [Int32.toInt_add, e1]
        exact Int.bmod_eq_of_le (by omega) (by omega)
      have h9 := Int32.le_iff_toInt_le.mp h9
      omega
  refine ⟨⟨?_, ho.2⟩, mx_b g2 ⟨a1.1, a2.1⟩, mx_b g3 ⟨a1.2, a2.2⟩, ?_, ?_⟩
  · show 0 ≤ (offI fl (dln D c i)).toInt
    omega
  · have e1 : sls (wdA D box c i fl S) = sls S := by unfold wdA; split <;> rfl
    show (sls (wdA D box c i fl S)).length + (if offI fl (dln D c i) = 0 then 0 else 1) ≤ n + 1
    rw [e1]
    have : (if offI fl (dln D c i) = 0 then 0 else 1) ≤ 1 := by split <;> omega
    have : (sls S).length ≤ n := by omega
    omega
  · have e1 : sa (wdA D box c i fl S) (32 + box) = sa S (32 + box) := by
      unfold wdA
      split
      · exact if_neg (by omega)
      · rfl
    show (sa (wdA D box c i fl S) (32 + box)).toInt ≤ 1000
    rw [e1]; exact g5
theorem i_z {x : Int32} (h0 : 0 ≤ x.toInt) (h : x ≤ 0) : x = 0 := Int32.toInt_inj.mp (by
  have h := Int32.le_iff_toInt_le.mp h
  rw [show (0 : Int32).toInt = 0 from rfl] at h ⊢
  omega)
theorem sum_nn {x y : Int32} (hx : 0 ≤ x.toInt ∧ x.toInt ≤ 20) (hy : 0 ≤ y.toInt ∧ y.toInt ≤ 20) : 0 ≤ (x + y).toInt := by
  rw [Int32.toInt_add, Int.bmod_eq_of_le (by omega) (by omega)]
  omega
set_option maxHeartbeats 8000000 in
theorem l_w109 (l : Launch) {G : Gb} {D : Dt} {W : Int32} {L : Lw} {Y : RS} {σ : Sto} {box c n : Nat} {last fi : Int32} {Q : Option Value → Sto → Prop} (hD : DW D) (hn : dn D ≤ 12) (hbx : box < dn D) (hc : c < dn D) (hc0 : 0 < c) (hn20 : n + dwc D c ≤ 20)
    (kk : ∀ s, LB D W L (wordsP D box c (dwc D c) Y).1 s → LF L σ s → WI D box (n + dwc D c) (wordsP D box c (dwc D c) Y) → Wp l G 2 0 0 (RL, cL_runs, 18, (some .int), false) 294 [(14, .int (nI c)), (13, .int ((wordsP D box c (dwc D c) Y).2.2.2)), (12, .int ((wordsP D box c (dwc D c) Y).2.2.1)), (11, .int ((wordsP D box c (dwc D c) Y).2.1)), (8, .int last), (0, .int (nI box)), (1, .int fi), (2, .ref (lwt L)), (3, .ref (lwl L)), (4, .ref (lwa L)), (5, .ref (lwe L)), (6, .ref (lwq L)), (7, .ref (lwn L))] [] s Q) : ∀ (m i : Nat) (s : Sto), i + m = dwc D c → LB D W L (wordsP D box c i Y).1 s → LF L σ s → WI D box (n + i) (wordsP D box c i Y) →
    Wp l G 2 0 0 (RL, cL_runs, 18, (some .int), false) 109 [(15, .int (nI i)), (14, .int (nI c)), (13, .int ((wordsP D box c i Y).2.2.2)), (12, .int ((wordsP D box c i Y).2.2.1)), (11, .int ((wordsP D box c i Y).2.1)), (8, .int last), (0, .int (nI box)), (1, .int fi), (2, .ref (lwt L)), (3, .ref (lwl L)), (4, .ref (lwa L)), (5, .ref (lwe L)), (6, .ref (lwq L)), (7, .ref (lwn L))] [] s Q := by
  intro m
  have hw4 := hD.2.2.2.2.2.1 c
  induction m with
  | zero =>
    intro i s hi b f hw
    show Wp l G 2 0 0 (RL, cL_runs, 18, (some .int), false) 109 [(15, .int (nI i)), (14, .int (nI c)), (13, .int ((wordsP D box c i Y).2.2.2)), (12, .int ((wordsP D box c i Y).2.2.1)), (11, .int ((wordsP D box c i Y).2.1)), (8, .int last), (0, .int (nI box)), (1, .int fi), (2, .ref (lwt L)), (3, .ref (lwl L)), (4, .ref (lwa L)), (5, .ref (lwe L)), (6, .ref (lwq L)), (7, .ref (lwn L))] [] s _
    refine zp_iload dL_runs_109 (x := (nI i)) (List.mem_of_getElem? (i := 0) rfl) ?_
    refine zp_aload_n dL_runs_111 rfl (a := (lwt L)) (List.mem_of_getElem? (i := 8) rfl) ?_
    refine zp_bipush dL_runs_112 (v := 32) (by decide) ?_
    refine zp_iload dL_runs_114 (x := (nI c)) (List.mem_of_getElem? (i := 1) rfl) ?_
    refine zp_iadd dL_runs_116 ?_
    rw [show ((32 + (nI c)) : Int32) = (nI (32 + c)) from nI_add 32 c]
    refine zp_iald_v dL_runs_117 b.Tt (Or.inl rfl) (j := (32 + c)) (nI_clamp (by omega)) (vp_in_nI (by omega) (by decide)) (v := (nI (dwc D c))) (b.2.2.1.1 c (by omega)).2.2.1 ?_
    refine zp_icmp_ge dL_runs_118 (tgt := 294) rfl (fun _ => ?_) (fun q => absurd ((nI_le' (by omega) (by omega)).mpr (by omega)) q)
    obtain rfl : i = dwc D c := by omega
    refine zp_lv [1, 2, 3, 4, 5, 6, 7, 8, 9, 10, 11, 12, 13] rfl ?_
    exact kk s b f hw
  | succ m ih =>
    intro i s hi b f hw
    show Wp l G 2 0 0 (RL, cL_runs, 18, (some .int), false) 109 [(15, .int (nI i)), (14, .int (nI c)), (13, .int ((wordsP D box c i Y).2.2.2)), (12, .int ((wordsP D box c i Y).2.2.1)), (11, .int ((wordsP D box c i Y).2.1)), (8, .int last), (0, .int (nI box)), (1, .int fi), (2, .ref (lwt L)), (3, .ref (lwl L)), (4, .ref (lwa L)), (5, .ref (lwe L)), (6, .ref (lwq L)), (7, .ref (lwn L))] [] s _
    refine zp_iload dL_runs_109 (x := (nI i)) (List.mem_of_getElem? (i := 0) rfl) ?_
    refine zp_aload_n dL_runs_111 rfl (a := (lwt L)) (List.mem_of_getElem? (i := 8) rfl) ?_
    refine zp_bipush dL_runs_112 (v := 32) (by decide) ?_
    refine zp_iload dL_runs_114 (x := (nI c)) (List.mem_of_getElem? (i := 1) rfl) ?_
    refine zp_iadd dL_runs_116 ?_
    rw [show ((32 + (nI c)) : Int32) = (nI (32 + c)) from nI_add 32 c]
    refine zp_iald_v dL_runs_117 b.Tt (Or.inl rfl) (j := (32 + c)) (nI_clamp (by omega)) (vp_in_nI (by omega) (by decide)) (v := (nI (dwc D c))) (b.2.2.1.1 c (by omega)).2.2.1 ?_
    refine zp_icmp_ge dL_runs_118 (tgt := 294) rfl (fun q => absurd q (fun q => by have := (nI_le' (by omega) (by omega)).mp q; omega)) (fun _ => ?_)
    refine zp_aload_n dL_runs_121 rfl (a := (lwl L)) (List.mem_of_getElem? (i := 9) rfl) ?_
    refine zp_iconst dL_runs_122 (v := 4) (by decide) ?_
    refine zp_iload dL_runs_123 (x := (nI c)) (List.mem_of_getElem? (i := 1) rfl) ?_
    refine zp_imul dL_runs_125 ?_
    rw [show ((4 * (nI c)) : Int32) = (nI (4 * c)) from pk_mul 4 c]
    refine zp_iload dL_runs_126 (x := (nI i)) (List.mem_of_getElem? (i := 0) rfl) ?_
    refine zp_iadd dL_runs_128 ?_
    rw [show (((nI (4 * c)) + (nI i)) : Int32) = (nI (4 * c + i)) from nI_add (4 * c) i]
    refine zp_iald_v dL_runs_129 b.Tl (Or.inl rfl) (j := (4 * c + i)) (nI_clamp (by omega)) (vp_in_nI (by omega) (by decide)) (v := (dln D c i)) ((b.2.2.1.1 c hc).2.2.2.2.2.2.2 i (by omega)) ?_
    refine zp_istore dL_runs_130 (Nat.le_of_ble_eq_true rfl) (lv2 := [(16, .int (dln D c i)), (15, .int (nI i)), (14, .int (nI c)), (13, .int ((wordsP D box c i Y).2.2.2)), (12, .int ((wordsP D box c i Y).2.2.1)), (11, .int ((wordsP D box c i Y).2.1)), (8, .int last), (0, .int (nI box)), (1, .int fi), (2, .ref (lwt L)), (3, .ref (lwl L)), (4, .ref (lwa L)), (5, .ref (lwe L)), (6, .ref (lwq L)), (7, .ref (lwn L))]) rfl ?_
    refine zp_iload dL_runs_132 (x := (wordsP D box c i Y).2.1) (List.mem_of_getElem? (i := 5) rfl) ?_
    refine zp_if_le dL_runs_134 (tgt := 177) rfl (fun h134 => ?_) (fun h134 => ?_)
    · have e134 : (wordsP D box c i Y).2.1 = 0 := i_z hw.1.1 h134
      refine zp_lv [0, 1, 2, 3, 4, 5, 6, 7, 8, 9, 10, 11, 12, 13, 14] rfl ?_
      have eB : (brkP D box (dln D c i) (wordsP D box c i Y)) = (wordsP D box c i Y) := if_neg (fun q => q.1 e134)
      refine zp_lve (lv2 := [(16, .int (dln D c i)), (15, .int (nI i)), (14, .int (nI c)), (13, .int ((brkP D box (dln D c i) (wordsP D box c i Y)).2.2.2)), (12, .int ((brkP D box (dln D c i) (wordsP D box c i Y)).2.2.1)), (11, .int ((brkP D box (dln D c i) (wordsP D box c i Y)).2.1)), (8, .int last), (0, .int (nI box)), (1, .int fi), (2, .ref (lwt L)), (3, .ref (lwl L)), (4, .ref (lwa L)), (5, .ref (lwe L)), (6, .ref (lwq L)), (7, .ref (lwn L))]) (by rw [eB]; rfl) ?_
      refine l_w177 l (S := (brkP D box (dln D c i) (wordsP D box c i Y)).1) (fl := (brkP D box (dln D c i) (wordsP D box c i Y)).2.1) (up := (brkP D box (dln D c i) (wordsP D box c i Y)).2.2.1) (dw := (brkP D box (dln D c i) (wordsP D box c i Y)).2.2.2) hn (by rw [eB]; exact b) hbx hc hc0 (by omega) hw.brk.1.1.1 (by rw [eB]; exact b) f (fun s' b' f' => ?_)
      refine zp_iinc dL_runs_288 (k1 := 0) (x := (nI i)) rfl (v := (nI (i + 1))) (nI_1 i) (Nat.le_of_ble_eq_true rfl) (lv2 := [(15, .int (nI (i + 1))), (14, .int (nI c)), (13, .int (mx (brkP D box (dln D c i) (wordsP D box c i Y)).2.2.2 (dsz D c - ascP D c))), (12, .int (mx (brkP D box (dln D c i) (wordsP D box c i Y)).2.2.1 (ascP D c))), (11, .int (offI (brkP D box (dln D c i) (wordsP D box c i Y)).2.1 (dln D c i))), (8, .int last), (0, .int (nI box)), (1, .int fi), (2, .ref (lwt L)), (3, .ref (lwl L)), (4, .ref (lwa L)), (5, .ref (lwe L)), (6, .ref (lwq L)), (7, .ref (lwn L))]) rfl ?_
      refine zp_goto dL_runs_291 (tgt := 109) rfl ?_
      exact ih (i + 1) s' (by omega) b' f' (by rw [show n + (i + 1) = (n + i) + 1 by omega]; exact hw.word hD (by omega))
    · skip
      refine zp_iload dL_runs_137 (x := (wordsP D box c i Y).2.1) (List.mem_of_getElem? (i := 5) rfl) ?_
      refine zp_iconst dL_runs_139 (v := 1) (by decide) ?_
      refine zp_iadd dL_runs_140 ?_
      refine zp_iload dL_runs_141 (x := (dln D c i)) (List.mem_of_getElem? (i := 0) rfl) ?_
      refine zp_iadd dL_runs_143 ?_
      refine zp_aload dL_runs_144 (a := (lwa L)) (List.mem_of_getElem? (i := 11) rfl) ?_
      refine zp_bipush dL_runs_146 (v := 32) (by decide) ?_
      refine zp_iload_n dL_runs_148 rfl (x := (nI box)) (List.mem_of_getElem? (i := 7) rfl) ?_
      refine zp_iadd dL_runs_149 ?_
      rw [show ((32 + (nI box)) : Int32) = (nI (32 + box)) from nI_add 32 box]
      refine zp_iald_v dL_runs_150 b.Ta (Or.inl rfl) (j := (32 + box)) (nI_clamp (by omega)) (vp_in_nI (by omega) (by decide)) (v := (sa (wordsP D box c i Y).1 (32 + box))) (b.ra (by omega)) ?_
      refine zp_icmp_le dL_runs_151 (tgt := 177) rfl (fun h151 => ?_) (fun h151 => ?_)
      · skip
        refine zp_lv [0, 1, 2, 3, 4, 5, 6, 7, 8, 9, 10, 11, 12, 13, 14] rfl ?_
        have eB : (brkP D box (dln D c i) (wordsP D box c i Y)) = (wordsP D box c i Y) := if_neg (fun q => q.2 h151)
        refine zp_lve (lv2 := [(16, .int (dln D c i)), (15, .int (nI i)), (14, .int (nI c)), (13, .int ((brkP D box (dln D c i) (wordsP D box c i Y)).2.2.2)), (12, .int ((brkP D box (dln D c i) (wordsP D box c i Y)).2.2.1)), (11, .int ((brkP D box (dln D c i) (wordsP D box c i Y)).2.1)), (8, .int last), (0, .int (nI box)), (1, .int fi), (2, .ref (lwt L)), (3, .ref (lwl L)), (4, .ref (lwa L)), (5, .ref (lwe L)), (6, .ref (lwq L)), (7, .ref (lwn L))]) (by rw [eB]; rfl) ?_
        refine l_w177 l (S := (brkP D box (dln D c i) (wordsP D box c i Y)).1) (fl := (brkP D box (dln D c i) (wordsP D box c i Y)).2.1) (up := (brkP D box (dln D c i) (wordsP D box c i Y)).2.2.1) (dw := (brkP D box (dln D c i) (wordsP D box c i Y)).2.2.2) hn (by rw [eB]; exact b) hbx hc hc0 (by omega) hw.brk.1.1.1 (by rw [eB]; exact b) f (fun s' b' f' => ?_)
        refine zp_iinc dL_runs_288 (k1 := 0) (x := (nI i)) rfl (v := (nI (i + 1))) (nI_1 i) (Nat.le_of_ble_eq_true rfl) (lv2 := [(15, .int (nI (i + 1))), (14, .int (nI c)), (13, .int (mx (brkP D box (dln D c i) (wordsP D box c i Y)).2.2.2 (dsz D c - ascP D c))), (12, .int (mx (brkP D box (dln D c i) (wordsP D box c i Y)).2.2.1 (ascP D c))), (11, .int (offI (brkP D box (dln D c i) (wordsP D box c i Y)).2.1 (dln D c i))), (8, .int last), (0, .int (nI box)), (1, .int fi), (2, .ref (lwt L)), (3, .ref (lwl L)), (4, .ref (lwa L)), (5, .ref (lwe L)), (6, .ref (lwq L)), (7, .ref (lwn L))]) rfl ?_
        refine zp_goto dL_runs_291 (tgt := 109) rfl ?_
        exact ih (i + 1) s' (by omega) b' f' (by rw [show n + (i + 1) = (n + i) + 1 by omega]; exact hw.word hD (by omega))
      · skip
        refine zp_iload_n dL_runs_154 rfl (x := (nI box)) (List.mem_of_getElem? (i := 7) rfl) ?_
        refine zp_iload dL_runs_155 (x := (wordsP D box c i Y).2.1) (List.mem_of_getElem? (i := 5) rfl) ?_
        refine zp_iload dL_runs_157 (x := (wordsP D box c i Y).2.2.1) (List.mem_of_getElem? (i := 4) rfl) ?_
        refine zp_iload dL_runs_159 (x := (wordsP D box c i Y).2.2.2) (List.mem_of_getElem? (i := 3) rfl) ?_
        refine zp_aload dL_runs_161 (a := (lwq L)) (List.mem_of_getElem? (i := 13) rfl) ?_
        refine zp_aload dL_runs_163 (a := (lwn L)) (List.mem_of_getElem? (i := 14) rfl) ?_
        refine zp_callS (st := []) (mc2 := 0) (ms2 := 0) dL_runs_165 (c_L_shuts l G D W L (wordsP D box c i Y).1 box (sls (wordsP D box c i Y).1).length (wordsP D box c i Y).2.1 (wordsP D box c i Y).2.2.1 (wordsP D box c i Y).2.2.2 _ b rfl (by have := hw.2.2.2.1; omega) (sum_nn hw.2.1 hw.2.2.1)) cl_L_32 st_L_shuts rfl rfl (by omega) (by omega) (by omega) (Nat.le_of_ble_eq_true rfl) ?_
        rintro _ u1 ⟨rfl, b1, g1⟩
        have f1 : LF L σ u1 := f.trans g1
        refine zp_iconst dL_runs_168 (v := 0) (by decide) ?_
        refine zp_istore dL_runs_169 (Nat.le_of_ble_eq_true rfl) (lv2 := [(11, .int 0), (16, .int (dln D c i)), (15, .int (nI i)), (14, .int (nI c)), (13, .int ((wordsP D box c i Y).2.2.2)), (12, .int ((wordsP D box c i Y).2.2.1)), (8, .int last), (0, .int (nI box)), (1, .int fi), (2, .ref (lwt L)), (3, .ref (lwl L)), (4, .ref (lwa L)), (5, .ref (lwe L)), (6, .ref (lwq L)), (7, .ref (lwn L))]) rfl ?_
        refine zp_iconst dL_runs_171 (v := 0) (by decide) ?_
        refine zp_istore dL_runs_172 (Nat.le_of_ble_eq_true rfl) (lv2 := [(12, .int 0), (11, .int 0), (16, .int (dln D c i)), (15, .int (nI i)), (14, .int (nI c)), (13, .int ((wordsP D box c i Y).2.2.2)), (8, .int last), (0, .int (nI box)), (1, .int fi), (2, .ref (lwt L)), (3, .ref (lwl L)), (4, .ref (lwa L)), (5, .ref (lwe L)), (6, .ref (lwq L)), (7, .ref (lwn L))]) rfl ?_
        refine zp_iconst dL_runs_174 (v := 0) (by decide) ?_
        refine zp_istore dL_runs_175 (Nat.le_of_ble_eq_true rfl) (lv2 := [(13, .int 0), (12, .int 0), (11, .int 0), (16, .int (dln D c i)), (15, .int (nI i)), (14, .int (nI c)), (8, .int last), (0, .int (nI box)), (1, .int fi), (2, .ref (lwt L)), (3, .ref (lwl L)), (4, .ref (lwa L)), (5, .ref (lwe L)), (6, .ref (lwq L)), (7, .ref (lwn L))]) rfl ?_
        refine zp_lv [3, 4, 5, 0, 1, 2, 6, 7, 8, 9, 10, 11, 12, 13, 14] rfl ?_
        have eB : (brkP D box (dln D c i) (wordsP D box c i Y)) = (shutP box (wordsP D box c i Y), 0, 0, 0) := if_pos ⟨fun q => h134 (by rw [q]; decide), h151⟩
        refine zp_lve (lv2 := [(16, .int (dln D c i)), (15, .int (nI i)), (14, .int (nI c)), (13, .int ((brkP D box (dln D c i) (wordsP D box c i Y)).2.2.2)), (12, .int ((brkP D box (dln D c i) (wordsP D box c i Y)).2.2.1)), (11, .int ((brkP D box (dln D c i) (wordsP D box c i Y)).2.1)), (8, .int last), (0, .int (nI box)), (1, .int fi), (2, .ref (lwt L)), (3, .ref (lwl L)), (4, .ref (lwa L)), (5, .ref (lwe L)), (6, .ref (lwq L)), (7, .ref (lwn L))]) (by rw [eB]; rfl) ?_
        refine l_w177 l (S := (brkP D box (dln D c i) (wordsP D box c i Y)).1) (fl := (brkP D box (dln D c i) (wordsP D box c i Y)).2.1) (up := (brkP D box (dln D c i) (wordsP D box c i Y)).2.2.1) (dw := (brkP D box (dln D c i) (wordsP D box c i Y)).2.2.2) hn (by rw [eB]; exact b1) hbx hc hc0 (by omega) hw.brk.1.1.1 (by rw [eB]; exact b1) f1 (fun s' b' f' => ?_)
        refine zp_iinc dL_runs_288 (k1 := 0) (x := (nI i)) rfl (v := (nI (i + 1))) (nI_1 i) (Nat.le_of_ble_eq_true rfl) (lv2 := [(15, .int (nI (i + 1))), (14, .int (nI c)), (13, .int (mx (brkP D box (dln D c i) (wordsP D box c i Y)).2.2.2 (dsz D c - ascP D c))), (12, .int (mx (brkP D box (dln D c i) (wordsP D box c i Y)).2.2.1 (ascP D c))), (11, .int (offI (brkP D box (dln D c i) (wordsP D box c i Y)).2.1 (dln D c i))), (8, .int last), (0, .int (nI box)), (1, .int fi), (2, .ref (lwt L)), (3, .ref (lwl L)), (4, .ref (lwa L)), (5, .ref (lwe L)), (6, .ref (lwq L)), (7, .ref (lwn L))]) rfl ?_
        refine zp_goto dL_runs_291 (tgt := 109) rfl ?_
        exact ih (i + 1) s' (by omega) b' f' (by rw [show n + (i + 1) = (n + i) + 1 by omega]; exact hw.word hD (by omega))

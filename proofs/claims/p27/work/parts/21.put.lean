/-! A THING INTO A LINE, A LINE ENDED: what is written (by wip/p27/gen_put.py) -/
def ptS (F t lo : Nat) (off len asc dsc up dw th : Int32) (σ : Sto) : Sto := wI (wI (wI (wI (wI (wR σ 900 t (some lo)) 901 t off) 214 F (off + len)) 215 F (mx up asc)) 216 F (mx dw dsc)) 213 F (th + 1)
set_option maxRecDepth 100000 in
set_option maxHeartbeats 4000000 in
theorem c_X4_putThingA (l : Launch) (G : Gb) (Ly a F t nL na nF nt : Nat) (σ : Sto) (hL : zT σ Ly = (3, nL)) (hA : zT σ a = (5, na)) (hF : zT σ F = (2, nF)) (hT : zT σ t = (9, nt)) (lo : Nat) (h0 : ¬ zI σ 213 F = 0) (hlo : zR σ 212 F = some lo) : Ct l G 3 0 0 yX4_putThing mX4_putThing [.ref Ly, .ref a, .ref F, .ref t] σ (fun v s => v = none ∧ s = ptS F t lo (zI σ 214 F + 1) (zI σ 902 t) (zI σ 903 t) (zI σ 904 t) (zI σ 215 F) (zI σ 216 F) (zI σ 213 F) σ) := by
  refine Ct.of (by decide) rfl (Nat.le_of_ble_eq_true rfl) (fun h => absurd h (by decide)) ?_
  show Wp l G 3 0 0 (RX4, cX4_putThing, 4, none, false) 0 [(0, .ref Ly), (1, .ref a), (2, .ref F), (3, .ref t)] [] σ _
  refine zp_aload_n dX4_putThing_0 rfl (a := F) (List.mem_of_getElem? (i := 2) rfl) ?_
  refine zp_getIv dX4_putThing_1 fl_X4_458 hF (v := (zI σ 213 F)) rfl ?_
  refine zp_if_ne dX4_putThing_4 (tgt := 43) rfl (fun _ => ?_) (fun q => absurd q h0)
  refine zp_aload_n dX4_putThing_43 rfl (a := t) (List.mem_of_getElem? (i := 3) rfl) ?_
  refine zp_aload_n dX4_putThing_44 rfl (a := F) (List.mem_of_getElem? (i := 2) rfl) ?_
  refine zp_getRv dX4_putThing_45 fl_X4_483 hF (b := lo) hlo ?_
  refine zp_putR dX4_putThing_48 fl_X4_441 hT (r := some lo) rfl ?_
  refine zp_aload_n dX4_putThing_51 rfl (a := t) (List.mem_of_getElem? (i := 3) rfl) ?_
  refine zp_aload_n dX4_putThing_52 rfl (a := F) (List.mem_of_getElem? (i := 2) rfl) ?_
  refine zp_callV (c0 := 1) (st := [.ref t]) (mc2 := 0) (ms2 := 0) dX4_putThing_53 (c_X2_nextOffset l G F nF _ (tR hF)) cl_X4_487 im_X2_nextOffset se_X2_nextOffset rfl rfl (tR hF) rfl rfl (by omega) (by omega) (by omega) (Nat.le_of_ble_eq_true rfl) ?_
  rintro _ s1 ⟨rfl, hs1⟩; obtain rfl := hs1.symm
  rw [show zoff (wR σ 900 t (some lo)) F = zI σ 214 F + 1 from if_neg (by rw [zI_wR]; exact h0)]
  refine zp_putI dX4_putThing_56 fl_X4_452 (tR hT) ?_
  refine zp_aload_n dX4_putThing_59 rfl (a := F) (List.mem_of_getElem? (i := 2) rfl) ?_
  refine zp_aload_n dX4_putThing_60 rfl (a := t) (List.mem_of_getElem? (i := 3) rfl) ?_
  refine zp_getIv dX4_putThing_61 fl_X4_452 (tI (tR hT)) (v := (zI σ 214 F + 1)) rIe ?_
  refine zp_aload_n dX4_putThing_64 rfl (a := t) (List.mem_of_getElem? (i := 3) rfl) ?_
  refine zp_getIv dX4_putThing_65 fl_X4_432 (tI (tR hT)) (v := (zI σ 902 t)) ((rIn (by decide)).trans rIR) ?_
  refine zp_iadd dX4_putThing_68 ?_
  refine zp_putI dX4_putThing_69 fl_X4_490 (tI (tR hF)) ?_
  refine zp_aload_n dX4_putThing_72 rfl (a := F) (List.mem_of_getElem? (i := 2) rfl) ?_
  refine zp_aload_n dX4_putThing_73 rfl (a := F) (List.mem_of_getElem? (i := 2) rfl) ?_
  refine zp_getIv dX4_putThing_74 fl_X4_484 (tI (tI (tR hF))) (v := (zI σ 215 F)) ((rIn (by decide)).trans ((rIn (by decide)).trans rIR)) ?_
  refine zp_aload_n dX4_putThing_77 rfl (a := t) (List.mem_of_getElem? (i := 3) rfl) ?_
  refine zp_getIv dX4_putThing_78 fl_X4_435 (tI (tI (tR hT))) (v := (zI σ 903 t)) ((rIn (by decide)).trans ((rIn (by decide)).trans rIR)) ?_
  refine zp_max dX4_putThing_81 wd_517 wd_515 wd_14 wd_516 (by decide) (Nat.le_of_ble_eq_true rfl) (v := (mx (zI σ 215 F) (zI σ 903 t))) rfl ?_
  refine zp_putI dX4_putThing_84 fl_X4_484 (tI (tI (tR hF))) ?_
  refine zp_aload_n dX4_putThing_87 rfl (a := F) (List.mem_of_getElem? (i := 2) rfl) ?_
  refine zp_aload_n dX4_putThing_88 rfl (a := F) (List.mem_of_getElem? (i := 2) rfl) ?_
  refine zp_getIv dX4_putThing_89 fl_X4_485 (tI (tI (tI (tR hF)))) (v := (zI σ 216 F)) ((rIn (by decide)).trans ((rIn (by decide)).trans ((rIn (by decide)).trans rIR))) ?_
  refine zp_aload_n dX4_putThing_92 rfl (a := t) (List.mem_of_getElem? (i := 3) rfl) ?_
  refine zp_getIv dX4_putThing_93 fl_X4_438 (tI (tI (tI (tR hT)))) (v := (zI σ 904 t)) ((rIn (by decide)).trans ((rIn (by decide)).trans ((rIn (by decide)).trans rIR))) ?_
  refine zp_max dX4_putThing_96 wd_517 wd_515 wd_14 wd_516 (by decide) (Nat.le_of_ble_eq_true rfl) (v := (mx (zI σ 216 F) (zI σ 904 t))) rfl ?_
  refine zp_putI dX4_putThing_99 fl_X4_485 (tI (tI (tI (tR hF)))) ?_
  refine zp_aload_n dX4_putThing_102 rfl (a := F) (List.mem_of_getElem? (i := 2) rfl) ?_
  refine zp_dup dX4_putThing_103 rfl ?_
  refine zp_getIv dX4_putThing_104 fl_X4_458 (tI (tI (tI (tI (tR hF))))) (v := (zI σ 213 F)) ((rIn (by decide)).trans ((rIn (by decide)).trans ((rIn (by decide)).trans ((rIn (by decide)).trans rIR)))) ?_
  refine zp_iconst dX4_putThing_107 (v := 1) (by decide) ?_
  refine zp_iadd dX4_putThing_108 ?_
  refine zp_putI dX4_putThing_109 fl_X4_458 (tI (tI (tI (tI (tR hF))))) ?_
  refine zp_vret rfl dX4_putThing_112 ?_
  exact ⟨rfl, rfl⟩
set_option maxRecDepth 100000 in
set_option maxHeartbeats 4000000 in
theorem c_X4_putThingB (l : Launch) (G : Gb) (O : Nat → Prop) (D : Dt) (X : Cx) (b : Bool) (k t nt : Nat) (LL : Nat → List Nat) (fr : List Nat) (σ : Sto) (hN : NS G D X σ) (hO : Ow O D X b σ) (hLn : Ln O D X b σ LL fr) (hk : k < dn D) (hT : zT σ t = (9, nt)) (h0 : zI σ 213 (xF X b) = 0) : Ct l G 3 1 6 yX4_putThing mX4_putThing [.ref (xLy X b), .ref (xnd X k), .ref (xF X b), .ref t] σ (fun v s => ∃ x fr2 σ2, v = none ∧ Ln O D X b σ2 (setL LL k (LL k ++ [x])) fr2 ∧ Fm O σ σ2 ∧ Lf σ σ2 ∧ zT σ2 x = (4, 0) ∧ O x ∧ (∀ j, j < dn D → x ∉ LL j) ∧ s = ptS (xF X b) t x 0 (zI σ 902 t) (zI σ 903 t) (zI σ 904 t) (zI σ 903 t) (zI σ 904 t) 0 (wI (wI (wI (wR σ2 212 (xF X b) (some x)) 215 (xF X b) (zI σ 903 t)) 216 (xF X b) (zI σ 904 t)) 217 (xF X b) (-1000000))) := by
  refine Ct.of (by decide) rfl (Nat.le_of_ble_eq_true rfl) (fun h => absurd h (by decide)) ?_
  show Wp l G 3 1 6 (RX4, cX4_putThing, 4, none, false) 0 [(0, .ref (xLy X b)), (1, .ref (xnd X k)), (2, .ref (xF X b)), (3, .ref t)] [] σ _
  refine zp_aload_n dX4_putThing_0 rfl (a := (xF X b)) (List.mem_of_getElem? (i := 2) rfl) ?_
  refine zp_getIv dX4_putThing_1 fl_X4_458 (hN.l b).FT (v := 0) h0 ?_
  refine zp_if_ne dX4_putThing_4 (tgt := 43) rfl (fun q => absurd rfl q) (fun _ => ?_)
  refine zp_aload_n dX4_putThing_7 rfl (a := (xF X b)) (List.mem_of_getElem? (i := 2) rfl) ?_
  refine zp_aload_n dX4_putThing_8 rfl (a := (xLy X b)) (List.mem_of_getElem? (i := 0) rfl) ?_
  refine zp_aload_n dX4_putThing_9 rfl (a := (xLy X b)) (List.mem_of_getElem? (i := 0) rfl) ?_
  refine zp_aload_n dX4_putThing_10 rfl (a := (xnd X k)) (List.mem_of_getElem? (i := 1) rfl) ?_
  refine zp_callV (c0 := 2) (st := [.ref (xLy X b), .ref (xF X b)]) (mc2 := 1) (ms2 := 6) dX4_putThing_11 (c_X4_placeOf l G (xLy X b) 0 (xnd X k) 0 (xpl X b k) b _ (hN.l b).T (hN.k k hk).T (hN.l b).fr ((hN.k k hk).pl b)) cl_X4_35 im_X4_placeOf se_X4_placeOf rfl rfl (hN.l b).T rfl rfl (by omega) (by omega) (by omega) (Nat.le_of_ble_eq_true rfl) ?_
  rintro _ s1 ⟨rfl, hs1⟩; obtain rfl := hs1.symm
  refine zp_callV (c0 := 2) (st := [.ref (xF X b)]) (mc2 := 0) (ms2 := 0) dX4_putThing_14 (c_X4_addLine l G (xLy X b) (xpl X b k) 0 0 _ (hN.l b).T ((hN.k k hk).plT b) (fun la hla => hLn.T hk (List.mem_of_getLast? ((hLn.2.1 k hk).2.1 ▸ hla))) (fun x hx => hLn.fT (List.mem_of_head? ((Ch.hd hLn.1) ▸ hx)))) cl_X4_479 im_X4_addLine se_X4_addLine rfl rfl (hN.l b).T rfl rfl (by omega) (by omega) (by omega) (Nat.le_of_ble_eq_true rfl) ?_
  rintro _ s1 ⟨x, σ1, rfl, hxx, rfl⟩
  obtain ⟨fr2, q1, q2, q3, q4, q5, q6⟩ := alS_Ln hN hO hLn hk hxx
  clear hxx
  generalize alS (xpl X b k) x σ1 = σ2 at q1 q2 q3 q4 ⊢
  refine zp_putR dX4_putThing_17 fl_X4_483 (q2.T (hN.l b).FT) (r := some x) rfl ?_
  refine zp_aload_n dX4_putThing_20 rfl (a := (xF X b)) (List.mem_of_getElem? (i := 2) rfl) ?_
  refine zp_aload_n dX4_putThing_21 rfl (a := t) (List.mem_of_getElem? (i := 3) rfl) ?_
  refine zp_getIv dX4_putThing_22 fl_X4_435 (tR (q2.T hT)) (v := (zI σ 903 t)) (rIR.trans (congrFun (congrFun q3.1 903) t)) ?_
  refine zp_putI dX4_putThing_25 fl_X4_484 (tR (q2.T (hN.l b).FT)) ?_
  refine zp_aload_n dX4_putThing_28 rfl (a := (xF X b)) (List.mem_of_getElem? (i := 2) rfl) ?_
  refine zp_aload_n dX4_putThing_29 rfl (a := t) (List.mem_of_getElem? (i := 3) rfl) ?_
  refine zp_getIv dX4_putThing_30 fl_X4_438 (tI (tR (q2.T hT))) (v := (zI σ 904 t)) ((rIn (by decide)).trans (rIR.trans (congrFun (congrFun q3.1 904) t))) ?_
  refine zp_putI dX4_putThing_33 fl_X4_485 (tI (tR (q2.T (hN.l b).FT))) ?_
  refine zp_aload_n dX4_putThing_36 rfl (a := (xF X b)) (List.mem_of_getElem? (i := 2) rfl) ?_
  refine zp_ldcw dX4_putThing_37 wd_763 ?_
  refine zp_putI dX4_putThing_40 fl_X4_455 (tI (tI (tR (q2.T (hN.l b).FT)))) ?_
  refine zp_aload_n dX4_putThing_43 rfl (a := t) (List.mem_of_getElem? (i := 3) rfl) ?_
  refine zp_aload_n dX4_putThing_44 rfl (a := (xF X b)) (List.mem_of_getElem? (i := 2) rfl) ?_
  refine zp_getRv dX4_putThing_45 fl_X4_483 (tI (tI (tI (tR (q2.T (hN.l b).FT))))) (b := x) (rRI.trans (rRI.trans (rRI.trans rRe))) ?_
  refine zp_putR dX4_putThing_48 fl_X4_441 (tI (tI (tI (tR (q2.T hT))))) (r := some x) rfl ?_
  refine zp_aload_n dX4_putThing_51 rfl (a := t) (List.mem_of_getElem? (i := 3) rfl) ?_
  refine zp_aload_n dX4_putThing_52 rfl (a := (xF X b)) (List.mem_of_getElem? (i := 2) rfl) ?_
  refine zp_callV (c0 := 1) (st := [.ref t]) (mc2 := 0) (ms2 := 0) dX4_putThing_53 (c_X2_nextOffset l G (xF X b) 0 _ (tR (tI (tI (tI (tR (q2.T (hN.l b).FT))))))) cl_X4_487 im_X2_nextOffset se_X2_nextOffset rfl rfl (tR (tI (tI (tI (tR (q2.T (hN.l b).FT)))))) rfl rfl (by omega) (by omega) (by omega) (Nat.le_of_ble_eq_true rfl) ?_
  rintro _ s1 ⟨rfl, hs1⟩; obtain rfl := hs1.symm
  rw [show zoff _ (xF X b) = 0 from if_pos (rIR.trans ((rIn (by decide)).trans ((rIn (by decide)).trans ((rIn (by decide)).trans (rIR.trans ((congrFun (congrFun q3.1 213) _).trans h0))))))]
  refine zp_putI dX4_putThing_56 fl_X4_452 (tR (tI (tI (tI (tR (q2.T hT)))))) ?_
  refine zp_aload_n dX4_putThing_59 rfl (a := (xF X b)) (List.mem_of_getElem? (i := 2) rfl) ?_
  refine zp_aload_n dX4_putThing_60 rfl (a := t) (List.mem_of_getElem? (i := 3) rfl) ?_
  refine zp_getIv dX4_putThing_61 fl_X4_452 (tI (tR (tI (tI (tI (tR (q2.T hT))))))) (v := 0) rIe ?_
  refine zp_aload_n dX4_putThing_64 rfl (a := t) (List.mem_of_getElem? (i := 3) rfl) ?_
  refine zp_getIv dX4_putThing_65 fl_X4_432 (tI (tR (tI (tI (tI (tR (q2.T hT))))))) (v := (zI σ 902 t)) ((rIn (by decide)).trans (rIR.trans ((rIn (by decide)).trans ((rIn (by decide)).trans ((rIn (by decide)).trans (rIR.trans (congrFun (congrFun q3.1 902) t))))))) ?_
  refine zp_iadd dX4_putThing_68 ?_
  refine zp_putI dX4_putThing_69 fl_X4_490 (tI (tR (tI (tI (tI (tR (q2.T (hN.l b).FT))))))) ?_
  refine zp_aload_n dX4_putThing_72 rfl (a := (xF X b)) (List.mem_of_getElem? (i := 2) rfl) ?_
  refine zp_aload_n dX4_putThing_73 rfl (a := (xF X b)) (List.mem_of_getElem? (i := 2) rfl) ?_
  refine zp_getIv dX4_putThing_74 fl_X4_484 (tI (tI (tR (tI (tI (tI (tR (q2.T (hN.l b).FT)))))))) (v := (zI σ 903 t)) ((rIn (by decide)).trans ((rIn (by decide)).trans (rIR.trans ((rIn (by decide)).trans ((rIn (by decide)).trans rIe))))) ?_
  refine zp_aload_n dX4_putThing_77 rfl (a := t) (List.mem_of_getElem? (i := 3) rfl) ?_
  refine zp_getIv dX4_putThing_78 fl_X4_435 (tI (tI (tR (tI (tI (tI (tR (q2.T hT)))))))) (v := (zI σ 903 t)) ((rIn (by decide)).trans ((rIn (by decide)).trans (rIR.trans ((rIn (by decide)).trans ((rIn (by decide)).trans ((rIn (by decide)).trans (rIR.trans (congrFun (congrFun q3.1 903) t)))))))) ?_
  refine zp_max dX4_putThing_81 wd_517 wd_515 wd_14 wd_516 (by decide) (Nat.le_of_ble_eq_true rfl) (v := (mx (zI σ 903 t) (zI σ 903 t))) rfl ?_
  refine zp_putI dX4_putThing_84 fl_X4_484 (tI (tI (tR (tI (tI (tI (tR (q2.T (hN.l b).FT)))))))) ?_
  refine zp_aload_n dX4_putThing_87 rfl (a := (xF X b)) (List.mem_of_getElem? (i := 2) rfl) ?_
  refine zp_aload_n dX4_putThing_88 rfl (a := (xF X b)) (List.mem_of_getElem? (i := 2) rfl) ?_
  refine zp_getIv dX4_putThing_89 fl_X4_485 (tI (tI (tI (tR (tI (tI (tI (tR (q2.T (hN.l b).FT))))))))) (v := (zI σ 904 t)) ((rIn (by decide)).trans ((rIn (by decide)).trans ((rIn (by decide)).trans (rIR.trans ((rIn (by decide)).trans rIe))))) ?_
  refine zp_aload_n dX4_putThing_92 rfl (a := t) (List.mem_of_getElem? (i := 3) rfl) ?_
  refine zp_getIv dX4_putThing_93 fl_X4_438 (tI (tI (tI (tR (tI (tI (tI (tR (q2.T hT))))))))) (v := (zI σ 904 t)) ((rIn (by decide)).trans ((rIn (by decide)).trans ((rIn (by decide)).trans (rIR.trans ((rIn (by decide)).trans ((rIn (by decide)).trans ((rIn (by decide)).trans (rIR.trans (congrFun (congrFun q3.1 904) t))))))))) ?_
  refine zp_max dX4_putThing_96 wd_517 wd_515 wd_14 wd_516 (by decide) (Nat.le_of_ble_eq_true rfl) (v := (mx (zI σ 904 t) (zI σ 904 t))) rfl ?_
  refine zp_putI dX4_putThing_99 fl_X4_485 (tI (tI (tI (tR (tI (tI (tI (tR (q2.T (hN.l b).FT))))))))) ?_
  refine zp_aload_n dX4_putThing_102 rfl (a := (xF X b)) (List.mem_of_getElem? (i := 2) rfl) ?_
  refine zp_dup dX4_putThing_103 rfl ?_
  refine zp_getIv dX4_putThing_104 fl_X4_458 (tI (tI (tI (tI (tR (tI (tI (tI (tR (q2.T (hN.l b).FT)))))))))) (v := 0) ((rIn (by decide)).trans ((rIn (by decide)).trans ((rIn (by decide)).trans ((rIn (by decide)).trans (rIR.trans ((rIn (by decide)).trans ((rIn (by decide)).trans ((rIn (by decide)).trans (rIR.trans ((congrFun (congrFun q3.1 213) _).trans h0)))))))))) ?_
  refine zp_iconst dX4_putThing_107 (v := 1) (by decide) ?_
  refine zp_iadd dX4_putThing_108 ?_
  refine zp_putI dX4_putThing_109 fl_X4_458 (tI (tI (tI (tI (tR (tI (tI (tI (tR (q2.T (hN.l b).FT)))))))))) ?_
  refine zp_vret rfl dX4_putThing_112 ?_
  exact ⟨x, fr2, σ2, rfl, q1, q2, q3, q4, q5, q6, rfl⟩
set_option maxRecDepth 100000 in
set_option maxHeartbeats 4000000 in
theorem c_X2_reachToE (l : Launch) (G : Gb) (F n : Nat) (m : Int32) (σ : Sto) (hF : zT σ F = (2, n)) : Ct l G 1 0 0 yX2_reachTo mX2_reachTo [.ref F, .int m] σ (fun v s => v = none ∧ ∃ r, s = wI σ 206 F r) := by
  refine Ct.of (by decide) rfl (Nat.le_of_ble_eq_true rfl) (fun h => absurd h (by decide)) ?_
  show Wp l G 1 0 0 (RX2, cX2_reachTo, 2, none, false) 0 [(0, .ref F), (1, .int m)] [] σ _
  refine zp_aload_n dX2_reachTo_0 rfl (a := F) (List.mem_of_getElem? (i := 0) rfl) ?_
  refine zp_aload_n dX2_reachTo_1 rfl (a := F) (List.mem_of_getElem? (i := 0) rfl) ?_
  refine zp_getIv dX2_reachTo_2 fl_X2_33 hF (v := (zI σ 206 F)) rfl ?_
  refine zp_iload_n dX2_reachTo_5 rfl (x := m) (List.mem_of_getElem? (i := 1) rfl) ?_
  refine zp_max dX2_reachTo_6 wd_703 wd_515 wd_14 wd_516 (by decide) (Nat.le_of_ble_eq_true rfl) (v := (if (zI σ 206 F) < m then m else (zI σ 206 F))) rfl ?_
  refine zp_putI dX2_reachTo_9 fl_X2_33 hF ?_
  refine zp_vret rfl dX2_reachTo_12 ?_
  exact ⟨rfl, _, rfl⟩
def elS (F lo : Nat) (r1 r2 : Int32) (σ : Sto) : Sto := wR (wR (wI (wI (wI (wI (wI (wI (wI (wI (wI (wI σ 400 lo (zI σ 209 F)) 401 lo (zI σ 200 F)) 402 lo (zI σ 214 F)) 404 lo (zI σ 215 F)) 403 lo (mx 0 (zI σ 215 F + zI σ 216 F))) 206 F r1) 206 F r2) 200 F (zI σ 200 F + mx 0 (zI σ 215 F + zI σ 216 F))) 213 F 0) 214 F 0) 218 F none) 219 F none
set_option maxRecDepth 100000 in
set_option maxHeartbeats 4000000 in
theorem c_X4_endLineA (l : Launch) (G : Gb) (Ly F lo nF : Nat) (σ : Sto) (hF : zT σ F = (2, nF)) (hlo : zR σ 212 F = some lo) (hT : zT σ lo = (4, 0)) (h0 : ¬ zI σ 213 F = 0) (h8 : zR σ 218 F = none) : Ct l G 2 0 0 yX4_endLine mX4_endLine [.ref Ly, .ref F] σ (fun v s => v = none ∧ ∃ r1 r2, s = elS F lo r1 r2 σ) := by
  refine Ct.of (by decide) rfl (Nat.le_of_ble_eq_true rfl) (fun h => absurd h (by decide)) ?_
  show Wp l G 2 0 0 (RX4, cX4_endLine, 6, none, false) 0 [(0, .ref Ly), (1, .ref F)] [] σ _
  refine zp_aload_n dX4_endLine_0 rfl (a := F) (List.mem_of_getElem? (i := 1) rfl) ?_
  refine zp_getRv dX4_endLine_1 fl_X4_483 hF (b := lo) hlo ?_
  refine zp_astore_n dX4_endLine_4 rfl (Nat.le_of_ble_eq_true rfl) (lv2 := [(2, .ref lo), (0, .ref Ly), (1, .ref F)]) rfl ?_
  refine zp_aload_n dX4_endLine_5 rfl (a := F) (List.mem_of_getElem? (i := 2) rfl) ?_
  refine zp_getIv dX4_endLine_6 fl_X4_458 hF (v := (zI σ 213 F)) rfl ?_
  refine zp_if_eq dX4_endLine_9 (tgt := 16) rfl (fun q => absurd q h0) (fun _ => ?_)
  refine zp_aload_n dX4_endLine_12 rfl (a := lo) (List.mem_of_getElem? (i := 0) rfl) ?_
  refine zp_nonnullT dX4_endLine_13 (tgt := 17) rfl ?_
  refine zp_aload_n dX4_endLine_17 rfl (a := lo) (List.mem_of_getElem? (i := 0) rfl) ?_
  refine zp_aload_n dX4_endLine_18 rfl (a := F) (List.mem_of_getElem? (i := 2) rfl) ?_
  refine zp_getIv dX4_endLine_19 fl_X4_351 hF (v := (zI σ 209 F)) rfl ?_
  refine zp_i2l dX4_endLine_22 ?_
  refine zp_putJ dX4_endLine_23 fl_X4_493 hT (v := (zI σ 209 F)) (j_i2l (zI σ 209 F)) ?_
  refine zp_aload_n dX4_endLine_26 rfl (a := lo) (List.mem_of_getElem? (i := 0) rfl) ?_
  refine zp_aload_n dX4_endLine_27 rfl (a := F) (List.mem_of_getElem? (i := 2) rfl) ?_
  refine zp_getIv dX4_endLine_28 fl_X4_326 (tI hF) (v := (zI σ 200 F)) (rIn (by decide)) ?_
  refine zp_putI dX4_endLine_31 fl_X4_496 (tI hT) ?_
  refine zp_aload_n dX4_endLine_34 rfl (a := lo) (List.mem_of_getElem? (i := 0) rfl) ?_
  refine zp_aload_n dX4_endLine_35 rfl (a := F) (List.mem_of_getElem? (i := 2) rfl) ?_
  refine zp_getIv dX4_endLine_36 fl_X4_490 (tI (tI hF)) (v := (zI σ 214 F)) ((rIn (by decide)).trans (rIn (by decide))) ?_
  refine zp_putI dX4_endLine_39 fl_X4_497 (tI (tI hT)) ?_
  refine zp_aload_n dX4_endLine_42 rfl (a := lo) (List.mem_of_getElem? (i := 0) rfl) ?_
  refine zp_aload_n dX4_endLine_43 rfl (a := F) (List.mem_of_getElem? (i := 2) rfl) ?_
  refine zp_getIv dX4_endLine_44 fl_X4_484 (tI (tI (tI hF))) (v := (zI σ 215 F)) ((rIn (by decide)).trans ((rIn (by decide)).trans (rIn (by decide)))) ?_
  refine zp_putI dX4_endLine_47 fl_X4_498 (tI (tI (tI hT))) ?_
  refine zp_aload_n dX4_endLine_50 rfl (a := lo) (List.mem_of_getElem? (i := 0) rfl) ?_
  refine zp_iconst dX4_endLine_51 (v := 0) (by decide) ?_
  refine zp_aload_n dX4_endLine_52 rfl (a := F) (List.mem_of_getElem? (i := 2) rfl) ?_
  refine zp_getIv dX4_endLine_53 fl_X4_484 (tI (tI (tI (tI hF)))) (v := (zI σ 215 F)) ((rIn (by decide)).trans ((rIn (by decide)).trans ((rIn (by decide)).trans (rIn (by decide))))) ?_
  refine zp_aload_n dX4_endLine_56 rfl (a := F) (List.mem_of_getElem? (i := 2) rfl) ?_
  refine zp_getIv dX4_endLine_57 fl_X4_485 (tI (tI (tI (tI hF)))) (v := (zI σ 216 F)) ((rIn (by decide)).trans ((rIn (by decide)).trans ((rIn (by decide)).trans (rIn (by decide))))) ?_
  refine zp_iadd dX4_endLine_60 ?_
  refine zp_max dX4_endLine_61 wd_517 wd_515 wd_14 wd_516 (by decide) (Nat.le_of_ble_eq_true rfl) (v := (mx 0 (zI σ 215 F + zI σ 216 F))) rfl ?_
  refine zp_putI dX4_endLine_64 fl_X4_499 (tI (tI (tI (tI hT)))) ?_
  refine zp_aload_n dX4_endLine_67 rfl (a := F) (List.mem_of_getElem? (i := 2) rfl) ?_
  refine zp_aload_n dX4_endLine_68 rfl (a := F) (List.mem_of_getElem? (i := 2) rfl) ?_
  refine zp_getIv dX4_endLine_69 fl_X4_351 (tI (tI (tI (tI (tI hF))))) (v := (zI σ 209 F)) ((rIn (by decide)).trans ((rIn (by decide)).trans ((rIn (by decide)).trans ((rIn (by decide)).trans (rIn (by decide)))))) ?_
  refine zp_aload_n dX4_endLine_72 rfl (a := F) (List.mem_of_getElem? (i := 2) rfl) ?_
  refine zp_getIv dX4_endLine_73 fl_X4_490 (tI (tI (tI (tI (tI hF))))) (v := (zI σ 214 F)) ((rIn (by decide)).trans ((rIn (by decide)).trans ((rIn (by decide)).trans ((rIn (by decide)).trans (rIn (by decide)))))) ?_
  refine zp_iadd dX4_endLine_76 ?_
  refine zp_callV (c0 := 1) (st := []) (mc2 := 0) (ms2 := 0) dX4_endLine_77 (c_X2_reachToE l G F nF _ _ (tI (tI (tI (tI (tI hF)))))) cl_X4_332 im_X2_reachTo se_X2_reachTo rfl rfl (tI (tI (tI (tI (tI hF))))) rfl rfl (by omega) (by omega) (by omega) (Nat.le_of_ble_eq_true rfl) ?_
  rintro _ s1 ⟨rfl, r1, hs1⟩; obtain rfl := hs1.symm
  refine zp_aload_n dX4_endLine_80 rfl (a := F) (List.mem_of_getElem? (i := 2) rfl) ?_
  refine zp_aload_n dX4_endLine_81 rfl (a := F) (List.mem_of_getElem? (i := 2) rfl) ?_
  refine zp_getIv dX4_endLine_82 fl_X4_351 (tI (tI (tI (tI (tI (tI hF)))))) (v := (zI σ 209 F)) ((rIn (by decide)).trans ((rIn (by decide)).trans ((rIn (by decide)).trans ((rIn (by decide)).trans ((rIn (by decide)).trans (rIn (by decide))))))) ?_
  refine zp_aload_n dX4_endLine_85 rfl (a := F) (List.mem_of_getElem? (i := 2) rfl) ?_
  refine zp_getIv dX4_endLine_86 fl_X4_455 (tI (tI (tI (tI (tI (tI hF)))))) (v := (zI σ 217 F)) ((rIn (by decide)).trans ((rIn (by decide)).trans ((rIn (by decide)).trans ((rIn (by decide)).trans ((rIn (by decide)).trans (rIn (by decide))))))) ?_
  refine zp_iadd dX4_endLine_89 ?_
  refine zp_callV (c0 := 1) (st := []) (mc2 := 0) (ms2 := 0) dX4_endLine_90 (c_X2_reachToE l G F nF _ _ (tI (tI (tI (tI (tI (tI hF))))))) cl_X4_332 im_X2_reachTo se_X2_reachTo rfl rfl (tI (tI (tI (tI (tI (tI hF)))))) rfl rfl (by omega) (by omega) (by omega) (Nat.le_of_ble_eq_true rfl) ?_
  rintro _ s1 ⟨rfl, r2, hs1⟩; obtain rfl := hs1.symm
  refine zp_aload_n dX4_endLine_93 rfl (a := F) (List.mem_of_getElem? (i := 2) rfl) ?_
  refine zp_dup dX4_endLine_94 rfl ?_
  refine zp_getIv dX4_endLine_95 fl_X4_326 (tI (tI (tI (tI (tI (tI (tI hF))))))) (v := (zI σ 200 F)) ((rIn (by decide)).trans ((rIn (by decide)).trans ((rIn (by decide)).trans ((rIn (by decide)).trans ((rIn (by decide)).trans ((rIn (by decide)).trans (rIn (by decide)))))))) ?_
  refine zp_aload_n dX4_endLine_98 rfl (a := lo) (List.mem_of_getElem? (i := 0) rfl) ?_
  refine zp_getIv dX4_endLine_99 fl_X4_499 (tI (tI (tI (tI (tI (tI (tI hT))))))) (v := (mx 0 (zI σ 215 F + zI σ 216 F))) ((rIn (by decide)).trans ((rIn (by decide)).trans rIe)) ?_
  refine zp_iadd dX4_endLine_102 ?_
  refine zp_putI dX4_endLine_103 fl_X4_326 (tI (tI (tI (tI (tI (tI (tI hF))))))) ?_
  refine zp_aload_n dX4_endLine_106 rfl (a := F) (List.mem_of_getElem? (i := 2) rfl) ?_
  refine zp_iconst dX4_endLine_107 (v := 0) (by decide) ?_
  refine zp_putI dX4_endLine_108 fl_X4_458 (tI (tI (tI (tI (tI (tI (tI (tI hF)))))))) ?_
  refine zp_aload_n dX4_endLine_111 rfl (a := F) (List.mem_of_getElem? (i := 2) rfl) ?_
  refine zp_iconst dX4_endLine_112 (v := 0) (by decide) ?_
  refine zp_putI dX4_endLine_113 fl_X4_490 (tI (tI (tI (tI (tI (tI (tI (tI (tI hF))))))))) ?_
  refine zp_aload_n dX4_endLine_116 rfl (a := F) (List.mem_of_getElem? (i := 2) rfl) ?_
  refine zp_getRo dX4_endLine_117 fl_X4_500 (tI (tI (tI (tI (tI (tI (tI (tI (tI (tI hF)))))))))) (r := none) (rRI.trans (rRI.trans (rRI.trans (rRI.trans (rRI.trans (rRI.trans (rRI.trans (rRI.trans (rRI.trans (rRI.trans h8)))))))))) ?_
  refine zp_astoreo_n dX4_endLine_120 rfl (Nat.le_of_ble_eq_true rfl) (r := none) (v := .null) rfl (lv2 := [(3, .null), (2, .ref lo), (0, .ref Ly), (1, .ref F)]) rfl ?_
  refine zp_aload_n dX4_endLine_121 rfl (a := F) (List.mem_of_getElem? (i := 3) rfl) ?_
  refine zp_null dX4_endLine_122 ?_
  refine zp_putR dX4_endLine_123 fl_X4_500 (tI (tI (tI (tI (tI (tI (tI (tI (tI (tI hF)))))))))) (r := none) rfl ?_
  refine zp_aload_n dX4_endLine_126 rfl (a := F) (List.mem_of_getElem? (i := 3) rfl) ?_
  refine zp_null dX4_endLine_127 ?_
  refine zp_putR dX4_endLine_128 fl_X4_503 (tR (tI (tI (tI (tI (tI (tI (tI (tI (tI (tI hF))))))))))) (r := none) rfl ?_
  refine zp_aloado_n dX4_endLine_131 rfl (r := none) (v := .null) rfl (List.mem_of_getElem? (i := 0) rfl) ?_
  refine zp_nullT dX4_endLine_132 (tgt := 169) rfl ?_
  refine zp_vret rfl dX4_endLine_169 ?_
  exact ⟨rfl, r1, r2, rfl⟩
set_option maxRecDepth 100000 in
set_option maxHeartbeats 4000000 in
theorem c_X4_endLineB (l : Launch) (G : Gb) (Ly F nF : Nat) (σ : Sto) (hF : zT σ F = (2, nF)) (h0 : zI σ 213 F = 0) : Ct l G 1 0 0 yX4_endLine mX4_endLine [.ref Ly, .ref F] σ (fun v s => v = none ∧ s = σ) := by
  refine Ct.of (by decide) rfl (Nat.le_of_ble_eq_true rfl) (fun h => absurd h (by decide)) ?_
  show Wp l G 1 0 0 (RX4, cX4_endLine, 6, none, false) 0 [(0, .ref Ly), (1, .ref F)] [] σ _
  refine zp_aload_n dX4_endLine_0 rfl (a := F) (List.mem_of_getElem? (i := 1) rfl) ?_
  refine zp_getRn dX4_endLine_1 fl_X4_483 hF (fun x1 hx1 => ?_)
  refine zp_astoreo_n dX4_endLine_4 rfl (Nat.le_of_ble_eq_true rfl) (r := x1) (v := va_rf x1) rfl (lv2 := [(2, va_rf x1), (0, .ref Ly), (1, .ref F)]) rfl ?_
  refine zp_aload_n dX4_endLine_5 rfl (a := F) (List.mem_of_getElem? (i := 2) rfl) ?_
  refine zp_getIv dX4_endLine_6 fl_X4_458 hF (v := 0) h0 ?_
  refine zp_if_eq dX4_endLine_9 (tgt := 16) rfl (fun _ => ?_) (fun q => absurd rfl q)
  refine zp_vret rfl dX4_endLine_16 ?_
  exact ⟨rfl, rfl⟩

theorem dX11_init_0 : decode cX11_init 0 = .ok (.aload_n 0, 1) := by decide +kernel
theorem dX11_init_1 : decode cX11_init 1 = .ok (.invokespecial 1, 3) := by decide +kernel
theorem dX11_init_4 : decode cX11_init 4 = .ok (.aload_n 0, 1) := by decide +kernel
theorem dX11_init_5 : decode cX11_init 5 = .ok (.new 7, 3) := by decide +kernel
theorem dX11_init_8 : decode cX11_init 8 = .ok (.dup, 1) := by decide +kernel
theorem dX11_init_9 : decode cX11_init 9 = .ok (.invokespecial 9, 3) := by decide +kernel
theorem dX11_init_12 : decode cX11_init 12 = .ok (.putfield 10, 3) := by decide +kernel
theorem dX11_init_15 : decode cX11_init 15 = .ok (.aload_n 0, 1) := by decide +kernel
theorem dX11_init_16 : decode cX11_init 16 = .ok (.new 16, 3) := by decide +kernel
theorem dX11_init_19 : decode cX11_init 19 = .ok (.dup, 1) := by decide +kernel
theorem dX11_init_20 : decode cX11_init 20 = .ok (.invokespecial 18, 3) := by decide +kernel
theorem dX11_init_23 : decode cX11_init 23 = .ok (.putfield 19, 3) := by decide +kernel
theorem dX11_init_26 : decode cX11_init 26 = .ok (.aload_n 0, 1) := by decide +kernel
theorem dX11_init_27 : decode cX11_init 27 = .ok (.new 23, 3) := by decide +kernel
theorem dX11_init_30 : decode cX11_init 30 = .ok (.dup, 1) := by decide +kernel
theorem dX11_init_31 : decode cX11_init 31 = .ok (.invokespecial 25, 3) := by decide +kernel
theorem dX11_init_34 : decode cX11_init 34 = .ok (.putfield 26, 3) := by decide +kernel
theorem dX11_init_37 : decode cX11_init 37 = .ok (.aload_n 0, 1) := by decide +kernel
theorem dX11_init_38 : decode cX11_init 38 = .ok (.new 30, 3) := by decide +kernel
theorem dX11_init_41 : decode cX11_init 41 = .ok (.dup, 1) := by decide +kernel
theorem dX11_init_42 : decode cX11_init 42 = .ok (.invokespecial 32, 3) := by decide +kernel
theorem dX11_init_45 : decode cX11_init 45 = .ok (.putfield 33, 3) := by decide +kernel
theorem dX11_init_48 : decode cX11_init 48 = .ok (.aload_n 0, 1) := by decide +kernel
theorem dX11_init_49 : decode cX11_init 49 = .ok (.new 37, 3) := by decide +kernel
theorem dX11_init_52 : decode cX11_init 52 = .ok (.dup, 1) := by decide +kernel
theorem dX11_init_53 : decode cX11_init 53 = .ok (.invokespecial 39, 3) := by decide +kernel
theorem dX11_init_56 : decode cX11_init 56 = .ok (.putfield 40, 3) := by decide +kernel
theorem dX11_init_59 : decode cX11_init 59 = .ok (.aload_n 0, 1) := by decide +kernel
theorem dX11_init_60 : decode cX11_init 60 = .ok (.new 44, 3) := by decide +kernel
theorem dX11_init_63 : decode cX11_init 63 = .ok (.dup, 1) := by decide +kernel
theorem dX11_init_64 : decode cX11_init 64 = .ok (.invokespecial 46, 3) := by decide +kernel
theorem dX11_init_67 : decode cX11_init 67 = .ok (.putfield 47, 3) := by decide +kernel
theorem dX11_init_70 : decode cX11_init 70 = .ok (.aload_n 0, 1) := by decide +kernel
theorem dX11_init_71 : decode cX11_init 71 = .ok (.new 51, 3) := by decide +kernel
theorem dX11_init_74 : decode cX11_init 74 = .ok (.dup, 1) := by decide +kernel
theorem dX11_init_75 : decode cX11_init 75 = .ok (.invokespecial 53, 3) := by decide +kernel
theorem dX11_init_78 : decode cX11_init 78 = .ok (.putfield 54, 3) := by decide +kernel
theorem dX11_init_81 : decode cX11_init 81 = .ok (.aload_n 0, 1) := by decide +kernel
theorem dX11_init_82 : decode cX11_init 82 = .ok (.new 58, 3) := by decide +kernel
theorem dX11_init_85 : decode cX11_init 85 = .ok (.dup, 1) := by decide +kernel
theorem dX11_init_86 : decode cX11_init 86 = .ok (.invokespecial 60, 3) := by decide +kernel
theorem dX11_init_89 : decode cX11_init 89 = .ok (.putfield 61, 3) := by decide +kernel
theorem dX11_init_92 : decode cX11_init 92 = .ok (.aload_n 0, 1) := by decide +kernel
theorem dX11_init_93 : decode cX11_init 93 = .ok (.new 65, 3) := by decide +kernel
theorem dX11_init_96 : decode cX11_init 96 = .ok (.dup, 1) := by decide +kernel
theorem dX11_init_97 : decode cX11_init 97 = .ok (.invokespecial 67, 3) := by decide +kernel
theorem dX11_init_100 : decode cX11_init 100 = .ok (.putfield 68, 3) := by decide +kernel
theorem dX11_init_103 : decode cX11_init 103 = .ok (.aload_n 0, 1) := by decide +kernel
theorem dX11_init_104 : decode cX11_init 104 = .ok (.aconst_null, 1) := by decide +kernel
theorem dX11_init_105 : decode cX11_init 105 = .ok (.putfield 72, 3) := by decide +kernel
theorem dX11_init_108 : decode cX11_init 108 = .ok (.return_, 1) := by decide +kernel
set_option maxRecDepth 100000 in
def F_X11_init_b0 (v0 : Nat) (h : Hp) : Option (Unit × Hp × Nat × Nat) :=
  ob (some (zN h)) fun q1 => ac 1 7 <| ob4 (F_X6_init q1 (alloc h 6 0)) fun _ h7 n8 n9 => ac n8 n9 <| gd (decide (kd h7 v0 = 10)) <| ob (some (zN (setR h7 v0 0 (some q1)))) fun q13 => ac 1 20 <| ob4 (F_X2_init q13 (alloc (setR h7 v0 0 (some q1)) 2 0)) fun _ h19 n20 n21 => ac n20 n21 <| gd (decide (kd h19 v0 = 10)) <| ob (some (zN (setR h19 v0 1 (some q13)))) fun q25 => ac 1 5 <| ob4 (F_X3_init q25 (alloc (setR h19 v0 1 (some q13)) 3 0)) fun _ h31 n32 n33 => ac n32 n33 <| gd (decide (kd h31 v0 = 10)) <| ob (some (zN (setR h31 v0 2 (some q25)))) fun q37 => ac 1 4 <| ob4 (F_X10_init q37 (alloc (setR h31 v0 2 (some q25)) 9 0)) fun _ h43 n44 n45 => ac n44 n45 <| gd (decide (kd h43 v0 = 10)) <| ob (some (zN (setR h43 v0 3 (some q37)))) fun q49 => ac 1 4 <| ob4 (F_X0_init q49 (alloc (setR h43 v0 3 (some q37)) 0 0)) fun _ h55 n56 n57 => ac n56 n57 <| gd (decide (kd h55 v0 = 10)) <| ob (some (zN (setR h55 v0 4 (some q49)))) fun q61 => ac 1 10 <| ob4 (F_X9_init q61 (alloc (setR h55 v0 4 (some q49)) 8 0)) fun _ h67 n68 n69 => ac n68 n69 <| gd (decide (kd h67 v0 = 10)) <| ob (some (zN (setR h67 v0 5 (some q61)))) fun q73 => ac 1 4 <| ob4 (F_X5_init q73 (alloc (setR h67 v0 5 (some q61)) 5 0)) fun _ h79 n80 n81 => ac n80 n81 <| gd (decide (kd h79 v0 = 10)) <| ob (some (zN (setR h79 v0 6 (some q73)))) fun q85 => ac 1 3 <| ob4 (F_X4_init q85 (alloc (setR h79 v0 6 (some q73)) 4 0)) fun _ h91 n92 n93 => ac n92 n93 <| gd (decide (kd h91 v0 = 10)) <| ob (some (zN (setR h91 v0 7 (some q85)))) fun q97 => ac 1 4 <| ob4 (F_X1_init q97 (alloc (setR h91 v0 7 (some q85)) 1 0)) fun _ h103 n104 n105 => ac n104 n105 <| gd (decide (kd h103 v0 = 10)) <| some ((), setR (setR h103 v0 8 (some q97)) v0 9 none, 0, 0)
set_option maxHeartbeats 4000000 in
set_option maxRecDepth 100000 in
theorem r_X11_init_b0 (v0 : Nat) (h : Hp) {x : Cx} {r : Unit} {hz : Hp} {c9 s9 : Nat} (e : F_X11_init_b0 v0 h = some (r, hz, c9, s9)) (hF : Fin9 M_X11_init x none none hz) : V M_X11_init x 4 0 [(0, .ref v0)] [] h c9 s9 := by
  unfold F_X11_init_b0 at e
  refine V_aload_n (pc := 0) (i := 0) dX11_init_0 rfl rfl ?_
  refine V_objI (pc := 1) dX11_init_1 wo_X11_1 (by decide) (Nat.le_of_ble_eq_true rfl) ?_
  refine V_aload_n (pc := 4) (i := 0) dX11_init_4 rfl rfl ?_
  replace e := ob_some e
  obtain ⟨q1, g2, e⟩ := e
  replace e := ac_some e
  obtain ⟨n3, n4, e, hc9, hs9⟩ := e
  rw [hc9, hs9]
  clear hc9 hs9
  refine V_newQ (pc := 5) (ci := 6) dX11_init_5 nl_X11_7 (q := q1) (bc := n3) (bs := n4) (Option.some.inj g2) ?_
  refine V_dup (pc := 8) dX11_init_8 rfl ?_
  replace e := ob4_some e
  obtain ⟨r6, h7, n8, n9, g5, e⟩ := e
  replace e := ac_some e
  obtain ⟨n10, n11, e, hc9, hs9⟩ := e
  rw [hc9, hs9]
  clear hc9 hs9
  refine V_callI (pc := 9) (bc := n10) (bs := n11) (mc := n8) (ms := n9) (st := [.ref q1, .ref v0]) (As := []) (a := q1) (h' := h7) dX11_init_9 ml_X11_9 rfl rfl (Nat.le_of_ble_eq_true rfl) (d' := 1) (by decide) (c_X6_init (l := x.2.1) q1 (alloc h 6 0) g5) ?_
  replace e := gd_some e
  obtain ⟨g12, e⟩ := e
  refine V_putRF (pc := 12) (ci := 10) (k := 0) dX11_init_12 fp_X11_10 rfl (of_decide_eq_true g12) (fun _ => ⟨rfl, rfl⟩) rfl ?_
  refine V_aload_n (pc := 15) (i := 0) dX11_init_15 rfl rfl ?_
  replace e := ob_some e
  obtain ⟨q13, g14, e⟩ := e
  replace e := ac_some e
  obtain ⟨n15, n16, e, hc9, hs9⟩ := e
  rw [hc9, hs9]
  clear hc9 hs9
  refine V_newQ (pc := 16) (ci := 2) dX11_init_16 nl_X11_16 (q := q13) (bc := n15) (bs := n16) (Option.some.inj g14) ?_
  refine V_dup (pc := 19) dX11_init_19 rfl ?_
  replace e := ob4_some e
  obtain ⟨r18, h19, n20, n21, g17, e⟩ := e
  replace e := ac_some e
  obtain ⟨n22, n23, e, hc9, hs9⟩ := e
  rw [hc9, hs9]
  clear hc9 hs9
  refine V_callI (pc := 20) (bc := n22) (bs := n23) (mc := n20) (ms := n21) (st := [.ref q13, .ref v0]) (As := []) (a := q13) (h' := h19) dX11_init_20 ml_X11_18 rfl rfl (Nat.le_of_ble_eq_true rfl) (d' := 3) (by decide) (c_X2_init (l := x.2.1) q13 (alloc (setR h7 v0 0 (some q1)) 2 0) g17) ?_
  replace e := gd_some e
  obtain ⟨g24, e⟩ := e
  refine V_putRF (pc := 23) (ci := 10) (k := 1) dX11_init_23 fp_X11_19 rfl (of_decide_eq_true g24) (fun _ => ⟨rfl, rfl⟩) rfl ?_
  refine V_aload_n (pc := 26) (i := 0) dX11_init_26 rfl rfl ?_
  replace e := ob_some e
  obtain ⟨q25, g26, e⟩ := e
  replace e := ac_some e
  obtain ⟨n27, n28, e, hc9, hs9⟩ := e
  rw [hc9, hs9]
  clear hc9 hs9
  refine V_newQ (pc := 27) (ci := 3) dX11_init_27 nl_X11_23 (q := q25) (bc := n27) (bs := n28) (Option.some.inj g26) ?_
  refine V_dup (pc := 30) dX11_init_30 rfl ?_
  replace e := ob4_some e
  obtain ⟨r30, h31, n32, n33, g29, e⟩ := e
  replace e := ac_some e
  obtain ⟨n34, n35, e, hc9, hs9⟩ := e
  rw [hc9, hs9]
  clear hc9 hs9
  refine V_callI (pc := 31) (bc := n34) (bs := n35) (mc := n32) (ms := n33) (st := [.ref q25, .ref v0]) (As := []) (a := q25) (h' := h31) dX11_init_31 ml_X11_25 rfl rfl (Nat.le_of_ble_eq_true rfl) (d' := 2) (by decide) (c_X3_init (l := x.2.1) q25 (alloc (setR h19 v0 1 (some q13)) 3 0) g29) ?_
  replace e := gd_some e
  obtain ⟨g36, e⟩ := e
  refine V_putRF (pc := 34) (ci := 10) (k := 2) dX11_init_34 fp_X11_26 rfl (of_decide_eq_true g36) (fun _ => ⟨rfl, rfl⟩) rfl ?_
  refine V_aload_n (pc := 37) (i := 0) dX11_init_37 rfl rfl ?_
  replace e := ob_some e
  obtain ⟨q37, g38, e⟩ := e
  replace e := ac_some e
  obtain ⟨n39, n40, e, hc9, hs9⟩ := e
  rw [hc9, hs9]
  clear hc9 hs9
  refine V_newQ (pc := 38) (ci := 9) dX11_init_38 nl_X11_30 (q := q37) (bc := n39) (bs := n40) (Option.some.inj g38) ?_
  refine V_dup (pc := 41) dX11_init_41 rfl ?_
  replace e := ob4_some e
  obtain ⟨r42, h43, n44, n45, g41, e⟩ := e
  replace e := ac_some e
  obtain ⟨n46, n47, e, hc9, hs9⟩ := e
  rw [hc9, hs9]
  clear hc9 hs9
  refine V_callI (pc := 42) (bc := n46) (bs := n47) (mc := n44) (ms := n45) (st := [.ref q37, .ref v0]) (As := []) (a := q37) (h' := h43) dX11_init_42 ml_X11_32 rfl rfl (Nat.le_of_ble_eq_true rfl) (d' := 2) (by decide) (c_X10_init (l := x.2.1) q37 (alloc (setR h31 v0 2 (some q25)) 9 0) g41) ?_
  replace e := gd_some e
  obtain ⟨g48, e⟩ := e
  refine V_putRF (pc := 45) (ci := 10) (k := 3) dX11_init_45 fp_X11_33 rfl (of_decide_eq_true g48) (fun _ => ⟨rfl, rfl⟩) rfl ?_
  refine V_aload_n (pc := 48) (i := 0) dX11_init_48 rfl rfl ?_
  replace e := ob_some e
  obtain ⟨q49, g50, e⟩ := e
  replace e := ac_some e
  obtain ⟨n51, n52, e, hc9, hs9⟩ := e
  rw [hc9, hs9]
  clear hc9 hs9
  refine V_newQ (pc := 49) (ci := 0) dX11_init_49 nl_X11_37 (q := q49) (bc := n51) (bs := n52) (Option.some.inj g50) ?_
  refine V_dup (pc := 52) dX11_init_52 rfl ?_
  replace e := ob4_some e
  obtain ⟨r54, h55, n56, n57, g53, e⟩ := e
  replace e := ac_some e
  obtain ⟨n58, n59, e, hc9, hs9⟩ := e
  rw [hc9, hs9]
  clear hc9 hs9
  refine V_callI (pc := 53) (bc := n58) (bs := n59) (mc := n56) (ms := n57) (st := [.ref q49, .ref v0]) (As := []) (a := q49) (h' := h55) dX11_init_53 ml_X11_39 rfl rfl (Nat.le_of_ble_eq_true rfl) (d' := 2) (by decide) (c_X0_init (l := x.2.1) q49 (alloc (setR h43 v0 3 (some q37)) 0 0) g53) ?_
  replace e := gd_some e
  obtain ⟨g60, e⟩ := e
  refine V_putRF (pc := 56) (ci := 10) (k := 4) dX11_init_56 fp_X11_40 rfl (of_decide_eq_true g60) (fun _ => ⟨rfl, rfl⟩) rfl ?_
  refine V_aload_n (pc := 59) (i := 0) dX11_init_59 rfl rfl ?_
  replace e := ob_some e
  obtain ⟨q61, g62, e⟩ := e
  replace e := ac_some e
  obtain ⟨n63, n64, e, hc9, hs9⟩ := e
  rw [hc9, hs9]
  clear hc9 hs9
  refine V_newQ (pc := 60) (ci := 8) dX11_init_60 nl_X11_44 (q := q61) (bc := n63) (bs := n64) (Option.some.inj g62) ?_
  refine V_dup (pc := 63) dX11_init_63 rfl ?_
  replace e := ob4_some e
  obtain ⟨r66, h67, n68, n69, g65, e⟩ := e
  replace e := ac_some e
  obtain ⟨n70, n71, e, hc9, hs9⟩ := e
  rw [hc9, hs9]
  clear hc9 hs9
  refine V_callI (pc := 64) (bc := n70) (bs := n71) (mc := n68) (ms := n69) (st := [.ref q61, .ref v0]) (As := []) (a := q61) (h' := h67) dX11_init_64 ml_X11_46 rfl rfl (Nat.le_of_ble_eq_true rfl) (d' := 1) (by decide) (c_X9_init (l := x.2.1) q61 (alloc (setR h55 v0 4 (some q49)) 8 0) g65) ?_
  replace e := gd_some e
  obtain ⟨g72, e⟩ := e
  refine V_putRF (pc := 67) (ci := 10) (k := 5) dX11_init_67 fp_X11_47 rfl (of_decide_eq_true g72) (fun _ => ⟨rfl, rfl⟩) rfl ?_
  refine V_aload_n (pc := 70) (i := 0) dX11_init_70 rfl rfl ?_
  replace e := ob_some e
  obtain ⟨q73, g74, e⟩ := e
  replace e := ac_some e
  obtain ⟨n75, n76, e, hc9, hs9⟩ := e
  rw [hc9, hs9]
  clear hc9 hs9
  refine V_newQ (pc := 71) (ci := 5) dX11_init_71 nl_X11_51 (q := q73) (bc := n75) (bs := n76) (Option.some.inj g74) ?_
  refine V_dup (pc := 74) dX11_init_74 rfl ?_
  replace e := ob4_some e
  obtain ⟨r78, h79, n80, n81, g77, e⟩ := e
  replace e := ac_some e
  obtain ⟨n82, n83, e, hc9, hs9⟩ := e
  rw [hc9, hs9]
  clear hc9 hs9
  refine V_callI (pc := 75) (bc := n82) (bs := n83) (mc := n80) (ms := n81) (st := [.ref q73, .ref v0]) (As := []) (a := q73) (h' := h79) dX11_init_75 ml_X11_53 rfl rfl (Nat.le_of_ble_eq_true rfl) (d' := 1) (by decide) (c_X5_init (l := x.2.1) q73 (alloc (setR h67 v0 5 (some q61)) 5 0) g77) ?_
  replace e := gd_some e
  obtain ⟨g84, e⟩ := e
  refine V_putRF (pc := 78) (ci := 10) (k := 6) dX11_init_78 fp_X11_54 rfl (of_decide_eq_true g84) (fun _ => ⟨rfl, rfl⟩) rfl ?_
  refine V_aload_n (pc := 81) (i := 0) dX11_init_81 rfl rfl ?_
  replace e := ob_some e
  obtain ⟨q85, g86, e⟩ := e
  replace e := ac_some e
  obtain ⟨n87, n88, e, hc9, hs9⟩ := e
  rw [hc9, hs9]
  clear hc9 hs9
  refine V_newQ (pc := 82) (ci := 4) dX11_init_82 nl_X11_58 (q := q85) (bc := n87) (bs := n88) (Option.some.inj g86) ?_
  refine V_dup (pc := 85) dX11_init_85 rfl ?_
  replace e := ob4_some e
  obtain ⟨r90, h91, n92, n93, g89, e⟩ := e
  replace e := ac_some e
  obtain ⟨n94, n95, e, hc9, hs9⟩ := e
  rw [hc9, hs9]
  clear hc9 hs9
  refine V_callI (pc := 86) (bc := n94) (bs := n95) (mc := n92) (ms := n93) (st := [.ref q85, .ref v0]) (As := []) (a := q85) (h' := h91) dX11_init_86 ml_X11_60 rfl rfl (Nat.le_of_ble_eq_true rfl) (d' := 1) (by decide) (c_X4_init (l := x.2.1) q85 (alloc (setR h79 v0 6 (some q73)) 4 0) g89) ?_
  replace e := gd_some e
  obtain ⟨g96, e⟩ := e
  refine V_putRF (pc := 89) (ci := 10) (k := 7) dX11_init_89 fp_X11_61 rfl (of_decide_eq_true g96) (fun _ => ⟨rfl, rfl⟩) rfl ?_
  refine V_aload_n (pc := 92) (i := 0) dX11_init_92 rfl rfl ?_
  replace e := ob_some e
  obtain ⟨q97, g98, e⟩ := e
  replace e := ac_some e
  obtain ⟨n99, n100, e, hc9, hs9⟩ := e
  rw [hc9, hs9]
  clear hc9 hs9
  refine V_newQ (pc := 93) (ci := 1) dX11_init_93 nl_X11_65 (q := q97) (bc := n99) (bs := n100) (Option.some.inj g98) ?_
  refine V_dup (pc := 96) dX11_init_96 rfl ?_
  replace e := ob4_some e
  obtain ⟨r102, h103, n104, n105, g101, e⟩ := e
  replace e := ac_some e
  obtain ⟨n106, n107, e, hc9, hs9⟩ := e
  rw [hc9, hs9]
  clear hc9 hs9
  refine V_callI (pc := 97) (bc := n106) (bs := n107) (mc := n104) (ms := n105) (st := [.ref q97, .ref v0]) (As := []) (a := q97) (h' := h103) dX11_init_97 ml_X11_67 rfl rfl (Nat.le_of_ble_eq_true rfl) (d' := 2) (by decide) (c_X1_init (l := x.2.1) q97 (alloc (setR h91 v0 7 (some q85)) 1 0) g101) ?_
  replace e := gd_some e
  obtain ⟨g108, e⟩ := e
  refine V_putRF (pc := 100) (ci := 10) (k := 8) dX11_init_100 fp_X11_68 rfl (of_decide_eq_true g108) (fun _ => ⟨rfl, rfl⟩) rfl ?_
  refine V_aload_n (pc := 103) (i := 0) dX11_init_103 rfl rfl ?_
  refine V_null (pc := 104) dX11_init_104 ?_
  refine V_putRN (pc := 105) (ci := 10) (k := 9) dX11_init_105 fp_X11_72 rfl (kd_sR (of_decide_eq_true g108)) ⟨rfl, rfl⟩ ?_
  cases e
  exact V_vret (pc := 108) dX11_init_108 hF
def F_X11_init (v0 : Nat) (h : Hp) : Option (Unit × Hp × Nat × Nat) := F_X11_init_b0 v0 h
theorem c_X11_init {l : Launch} (v0 : Nat) (h : Hp) {r : Unit} {hz : Hp} {c9 s9 : Nat} (e : F_X11_init v0 h = some (r, hz, c9, s9)) : Ct l yX11_init M_X11_init none 4 [.ref v0] h c9 s9 none hz :=
  Ct_of rfl rfl (fun _ => rfl) (Nat.le_of_ble_eq_true rfl) (fun x _ hF => V_pick [0] rfl (r_X11_init_b0 v0 h e hF))
theorem dX11_met_0 : decode cX11_met 0 = .ok (.iload_n 1, 1) := by decide +kernel
theorem dX11_met_1 : decode cX11_met 1 = .ok (.iconst (-1), 1) := by decide +kernel
theorem dX11_met_2 : decode cX11_met 2 = .ok (.if_icmp .ne 18, 3) := by decide +kernel
theorem dX11_met_5 : decode cX11_met 5 = .ok (.aload_n 0, 1) := by decide +kernel
theorem dX11_met_6 : decode cX11_met 6 = .ok (.getfield 19, 3) := by decide +kernel
theorem dX11_met_9 : decode cX11_met 9 = .ok (.aload_n 0, 1) := by decide +kernel
theorem dX11_met_10 : decode cX11_met 10 = .ok (.getfield 19, 3) := by decide +kernel
theorem dX11_met_13 : decode cX11_met 13 = .ok (.getfield 166, 3) := by decide +kernel
theorem dX11_met_16 : decode cX11_met 16 = .ok (.invokevirtual 220, 3) := by decide +kernel
theorem dX11_met_19 : decode cX11_met 19 = .ok (.ireturn, 1) := by decide +kernel
theorem dX11_met_20 : decode cX11_met 20 = .ok (.aload_n 0, 1) := by decide +kernel
theorem dX11_met_21 : decode cX11_met 21 = .ok (.getfield 19, 3) := by decide +kernel
theorem dX11_met_24 : decode cX11_met 24 = .ok (.iload_n 1, 1) := by decide +kernel
theorem dX11_met_25 : decode cX11_met 25 = .ok (.invokevirtual 109, 3) := by decide +kernel
theorem dX11_met_28 : decode cX11_met 28 = .ok (.ifCond .ne 13, 3) := by decide +kernel
theorem dX11_met_31 : decode cX11_met 31 = .ok (.new 113, 3) := by decide +kernel
theorem dX11_met_34 : decode cX11_met 34 = .ok (.dup, 1) := by decide +kernel
theorem dX11_met_35 : decode cX11_met 35 = .ok (.ldc 115, 2) := by decide +kernel
theorem dX11_met_37 : decode cX11_met 37 = .ok (.invokespecial 117, 3) := by decide +kernel
theorem dX11_met_40 : decode cX11_met 40 = .ok (.athrow, 1) := by decide +kernel
theorem dX11_met_41 : decode cX11_met 41 = .ok (.aload_n 0, 1) := by decide +kernel
theorem dX11_met_42 : decode cX11_met 42 = .ok (.getfield 19, 3) := by decide +kernel
theorem dX11_met_45 : decode cX11_met 45 = .ok (.getfield 122, 3) := by decide +kernel
theorem dX11_met_48 : decode cX11_met 48 = .ok (.iload_n 1, 1) := by decide +kernel
theorem dX11_met_49 : decode cX11_met 49 = .ok (.aaload, 1) := by decide +kernel
theorem dX11_met_50 : decode cX11_met 50 = .ok (.aload_n 0, 1) := by decide +kernel
theorem dX11_met_51 : decode cX11_met 51 = .ok (.getfield 19, 3) := by decide +kernel
theorem dX11_met_54 : decode cX11_met 54 = .ok (.iload_n 1, 1) := by decide +kernel
theorem dX11_met_55 : decode cX11_met 55 = .ok (.aload_n 0, 1) := by decide +kernel
theorem dX11_met_56 : decode cX11_met 56 = .ok (.getfield 19, 3) := by decide +kernel
theorem dX11_met_59 : decode cX11_met 59 = .ok (.getfield 166, 3) := by decide +kernel
theorem dX11_met_62 : decode cX11_met 62 = .ok (.invokevirtual 223, 3) := by decide +kernel
theorem dX11_met_65 : decode cX11_met 65 = .ok (.ireturn, 1) := by decide +kernel
set_option maxRecDepth 100000 in
def F_X11_met_b0 (v0 : Nat) (v1 : Int32) (h : Hp) : Option ((Int32 ⊕ Nat) × Hp × Nat × Nat) :=
  (if v1 = (-1 : Int32) then gd (decide (kd h v0 = 10)) <| ob (zR h v0 1) fun q29 => ob (zR h v0 1) fun q31 => gd (decide (kd h q31 = 2)) <| ob (zR h q31 7) fun q34 => ob2 (F_X2_metByAll q29 q34 h) fun r37 h38 => gd (decide (kd h q29 = 2)) <| some (.inl r37, h38, 0, 0) else gd (decide (kd h v0 = 10)) <| ob (zR h v0 1) fun q2 => ob (F_X2_hasGuest q2 v1 h) fun r5 => gd (decide (kd h q2 = 2)) <| (if r5 = 0 then some (.inr 2, h, 1, 6) else ob (zR h v0 1) fun q7 => gd (decide (kd h q7 = 2)) <| ob (zR h q7 8) fun q10 => gd (decide (kd h q10 = 15)) <| gd (ix v1 (zl h q10)) <| ob (zR h q10 (v1).toNatClampNeg) fun q14 => ob (zR h v0 1) fun q16 => ob (zR h v0 1) fun q18 => gd (decide (kd h q18 = 2)) <| ob (zR h q18 7) fun q21 => ob2 (F_X10_holding q14 q16 v1 q21 h) fun r24 h25 => gd (decide (kd h q14 = 9)) <| some (.inl r24, h25, 0, 0)))
set_option maxHeartbeats 4000000 in
set_option maxRecDepth 100000 in
theorem r_X11_met_b0 (v0 : Nat) (v1 : Int32) (h : Hp) {x : Cx} {r : (Int32 ⊕ Nat)} {hz : Hp} {c9 s9 : Nat} (e : F_X11_met_b0 v0 v1 h = some (r, hz, c9, s9)) (hF : FinO M_X11_met x (some .int) r hz) : V M_X11_met x 8 0 [(0, .ref v0), (1, .int v1)] [] h c9 s9 := by
  unfold F_X11_met_b0 at e
  refine V_iload_n (pc := 0) (i := 1) dX11_met_0 rfl rfl ?_
  refine V_iconst (pc := 1) (v := (-1 : Int32)) dX11_met_1 (by decide) ?_
  refine V_icmp_ne (pc := 2) (tgt := 20) dX11_met_2 (by decide) (fun c40 => ?_) (fun c40 => ?_)
  · rw [if_neg c40] at e
    refine V_pick [0, 1] rfl ?_
    refine V_aload_n (pc := 20) (i := 0) dX11_met_20 rfl rfl ?_
    replace e := gd_some e
    obtain ⟨g1, e⟩ := e
    replace e := ob_some e
    obtain ⟨q2, g3, e⟩ := e
    refine V_getR (pc := 21) (ci := 10) (k := 1) (b := q2) dX11_met_21 fl_X11_19 rfl (of_decide_eq_true g1) g3 ?_
    refine V_iload_n (pc := 24) (i := 1) dX11_met_24 rfl rfl ?_
    replace e := ob_some e
    obtain ⟨r5, g4, e⟩ := e
    replace e := gd_some e
    obtain ⟨g6, e⟩ := e
    refine V_callV (pc := 25) (bc := c9) (bs := s9) (mc := 0) (ms := 0) (st := []) (As := [.int v1]) (a := q2) (h' := h) (r := some (.int r5)) dX11_met_25 ml_X11_109 (ci := 2) rfl (of_decide_eq_true g6) rfl rfl (Nat.le_of_ble_eq_true rfl) (d' := 0) (by decide) (c_X2_hasGuest (l := x.2.1) q2 v1 h g4) ?_
    refine V_if_ne (pc := 28) (tgt := 41) dX11_met_28 (by decide) (fun c27 => ?_) (fun c27 => ?_)
    · rw [if_neg c27] at e
      refine V_pick [0, 1] rfl ?_
      refine V_aload_n (pc := 41) (i := 0) dX11_met_41 rfl rfl ?_
      replace e := ob_some e
      obtain ⟨q7, g8, e⟩ := e
      refine V_getR (pc := 42) (ci := 10) (k := 1) (b := q7) dX11_met_42 fl_X11_19 rfl (of_decide_eq_true g1) g8 ?_
      replace e := gd_some e
      obtain ⟨g9, e⟩ := e
      replace e := ob_some e
      obtain ⟨q10, g11, e⟩ := e
      refine V_getR (pc := 45) (ci := 2) (k := 8) (b := q10) dX11_met_45 fl_X11_122 rfl (of_decide_eq_true g9) g11 ?_
      refine V_iload_n (pc := 48) (i := 1) dX11_met_48 rfl rfl ?_
      replace e := gd_some e
      obtain ⟨g12, e⟩ := e
      replace e := gd_some e
      obtain ⟨g13, e⟩ := e
      replace e := ob_some e
      obtain ⟨q14, g15, e⟩ := e
      refine V_aald (pc := 49) (b := q14) dX11_met_49 (of_decide_eq_true g12) (ix_in g13) g15 ?_
      refine V_aload_n (pc := 50) (i := 0) dX11_met_50 rfl rfl ?_
      replace e := ob_some e
      obtain ⟨q16, g17, e⟩ := e
      refine V_getR (pc := 51) (ci := 10) (k := 1) (b := q16) dX11_met_51 fl_X11_19 rfl (of_decide_eq_true g1) g17 ?_
      refine V_iload_n (pc := 54) (i := 1) dX11_met_54 rfl rfl ?_
      refine V_aload_n (pc := 55) (i := 0) dX11_met_55 rfl rfl ?_
      replace e := ob_some e
      obtain ⟨q18, g19, e⟩ := e
      refine V_getR (pc := 56) (ci := 10) (k := 1) (b := q18) dX11_met_56 fl_X11_19 rfl (of_decide_eq_true g1) g19 ?_
      replace e := gd_some e
      obtain ⟨g20, e⟩ := e
      replace e := ob_some e
      obtain ⟨q21, g22, e⟩ := e
      refine V_getR (pc := 59) (ci := 2) (k := 7) (b := q21) dX11_met_59 fl_X11_166 rfl (of_decide_eq_true g20) g22 ?_
      replace e := ob2_some e
      obtain ⟨r24, h25, g23, e⟩ := e
      replace e := gd_some e
      obtain ⟨g26, e⟩ := e
      refine V_callV (pc := 62) (bc := c9) (bs := s9) (mc := 0) (ms := 0) (st := []) (As := [.ref q16, .int v1, .ref q21]) (a := q14) (h' := h25) (r := some (.int r24)) dX11_met_62 ml_X11_223 (ci := 9) rfl (of_decide_eq_true g26) rfl rfl (Nat.le_of_ble_eq_true rfl) (d' := 3) (by decide) (c_X10_holding (l := x.2.1) q14 q16 v1 q21 h g23) ?_
      cases e
      exact V_iret (pc := 65) dX11_met_65 hF
    · rw [if_pos c27] at e
      refine V_pick [] rfl ?_
      cases e
      exact V_throw (pc := 31) (j := 28) hF th_X11_113_117 rfl (by decide) (Nat.le_of_ble_eq_true rfl) dX11_met_31 dX11_met_34 dX11_met_35 dX11_met_37 dX11_met_40
  · rw [if_pos c40] at e
    refine V_pick [0] rfl ?_
    refine V_aload_n (pc := 5) (i := 0) dX11_met_5 rfl rfl ?_
    replace e := gd_some e
    obtain ⟨g28, e⟩ := e
    replace e := ob_some e
    obtain ⟨q29, g30, e⟩ := e
    refine V_getR (pc := 6) (ci := 10) (k := 1) (b := q29) dX11_met_6 fl_X11_19 rfl (of_decide_eq_true g28) g30 ?_
    refine V_aload_n (pc := 9) (i := 0) dX11_met_9 rfl rfl ?_
    replace e := ob_some e
    obtain ⟨q31, g32, e⟩ := e
    refine V_getR (pc := 10) (ci := 10) (k := 1) (b := q31) dX11_met_10 fl_X11_19 rfl (of_decide_eq_true g28) g32 ?_
    replace e := gd_some e
    obtain ⟨g33, e⟩ := e
    replace e := ob_some e
    obtain ⟨q34, g35, e⟩ := e
    refine V_getR (pc := 13) (ci := 2) (k := 7) (b := q34) dX11_met_13 fl_X11_166 rfl (of_decide_eq_true g33) g35 ?_
    replace e := ob2_some e
    obtain ⟨r37, h38, g36, e⟩ := e
    replace e := gd_some e
    obtain ⟨g39, e⟩ := e
    refine V_callV (pc := 16) (bc := c9) (bs := s9) (mc := 0) (ms := 0) (st := []) (As := [.ref q34]) (a := q29) (h' := h38) (r := some (.int r37)) dX11_met_16 ml_X11_220 (ci := 2) rfl (of_decide_eq_true g39) rfl rfl (Nat.le_of_ble_eq_true rfl) (d' := 4) (by decide) (c_X2_metByAll (l := x.2.1) q29 q34 h g36) ?_
    cases e
    exact V_iret (pc := 19) dX11_met_19 hF
def F_X11_met (v0 : Nat) (v1 : Int32) (h : Hp) : Option ((Int32 ⊕ Nat) × Hp × Nat × Nat) := F_X11_met_b0 v0 v1 h
theorem c_X11_met {l : Launch} (v0 : Nat) (v1 : Int32) (h : Hp) {r : Int32} {hz : Hp} {c9 s9 : Nat} (e : F_X11_met v0 v1 h = some (.inl r, hz, c9, s9)) : Ct l yX11_met M_X11_met (some .int) 8 [.ref v0, .int v1] h c9 s9 (some (.int r)) hz :=
  Ct_of rfl rfl (fun q => by cases q) (Nat.le_of_ble_eq_true rfl) (fun x _ hF => V_pick [0, 1] rfl (r_X11_met_b0 v0 v1 h e hF))
theorem cX_X11_met {l : Launch} (hst : l.stackTraces = false) (v0 : Nat) (v1 : Int32) (h : Hp) {k : Nat} {hz : Hp} {c9 s9 : Nat} (e : F_X11_met v0 v1 h = some (.inr k, hz, c9, s9)) : CtX l yX11_met M_X11_met (some .int) 8 [.ref v0, .int v1] h c9 s9 (exN k) hz :=
  CtX_of hst rfl rfl (fun q => by cases q) (Nat.le_of_ble_eq_true rfl) (fun x _ hF => V_pick [0, 1] rfl (r_X11_met_b0 v0 v1 h e hF))
theorem dX11_image_0 : decode cX11_image 0 = .ok (.aload_n 0, 1) := by decide +kernel
theorem dX11_image_1 : decode cX11_image 1 = .ok (.getfield 72, 3) := by decide +kernel
theorem dX11_image_4 : decode cX11_image 4 = .ok (.ifnonnull 14, 3) := by decide +kernel
theorem dX11_image_7 : decode cX11_image 7 = .ok (.aload_n 0, 1) := by decide +kernel
theorem dX11_image_8 : decode cX11_image 8 = .ok (.new 16, 3) := by decide +kernel
theorem dX11_image_11 : decode cX11_image 11 = .ok (.dup, 1) := by decide +kernel
theorem dX11_image_12 : decode cX11_image 12 = .ok (.invokespecial 18, 3) := by decide +kernel
theorem dX11_image_15 : decode cX11_image 15 = .ok (.putfield 72, 3) := by decide +kernel
theorem dX11_image_18 : decode cX11_image 18 = .ok (.aload_n 0, 1) := by decide +kernel
theorem dX11_image_19 : decode cX11_image 19 = .ok (.getfield 72, 3) := by decide +kernel
theorem dX11_image_22 : decode cX11_image 22 = .ok (.aload_n 0, 1) := by decide +kernel
theorem dX11_image_23 : decode cX11_image 23 = .ok (.getfield 19, 3) := by decide +kernel
theorem dX11_image_26 : decode cX11_image 26 = .ok (.invokevirtual 372, 3) := by decide +kernel
theorem dX11_image_29 : decode cX11_image 29 = .ok (.return_, 1) := by decide +kernel
set_option maxRecDepth 100000 in
def F_X11_image_b18 (v0 : Nat) (h : Hp) : Option (Unit × Hp × Nat × Nat) :=
  gd (decide (kd h v0 = 10)) <| ob (zR h v0 9) fun q5 => ob (zR h v0 1) fun q7 => ob2 (F_X2_copyFrom q5 q7 h) fun _ h11 => gd (decide (kd h q5 = 2)) <| some ((), h11, 0, 0)
set_option maxHeartbeats 4000000 in
set_option maxRecDepth 100000 in
theorem r_X11_image_b18 (v0 : Nat) (h : Hp) {x : Cx} {r : Unit} {hz : Hp} {c9 s9 : Nat} (e : F_X11_image_b18 v0 h = some (r, hz, c9, s9)) (hF : Fin9 M_X11_image x none none hz) : V M_X11_image x 4 18 [(0, .ref v0)] [] h c9 s9 := by
  unfold F_X11_image_b18 at e
  refine V_aload_n (pc := 18) (i := 0) dX11_image_18 rfl rfl ?_
  replace e := gd_some e
  obtain ⟨g4, e⟩ := e
  replace e := ob_some e
  obtain ⟨q5, g6, e⟩ := e
  refine V_getR (pc := 19) (ci := 10) (k := 9) (b := q5) dX11_image_19 fl_X11_72 rfl (of_decide_eq_true g4) g6 ?_
  refine V_aload_n (pc := 22) (i := 0) dX11_image_22 rfl rfl ?_
  replace e := ob_some e
  obtain ⟨q7, g8, e⟩ := e
  refine V_getR (pc := 23) (ci := 10) (k := 1) (b := q7) dX11_image_23 fl_X11_19 rfl (of_decide_eq_true g4) g8 ?_
  replace e := ob2_some e
  obtain ⟨r10, h11, g9, e⟩ := e
  replace e := gd_some e
  obtain ⟨g12, e⟩ := e
  refine V_callV (pc := 26) (bc := c9) (bs := s9) (mc := 0) (ms := 0) (st := []) (As := [.ref q7]) (a := q5) (h' := h11) (r := none) dX11_image_26 ml_X11_372 (ci := 2) rfl (of_decide_eq_true g12) rfl rfl (Nat.le_of_ble_eq_true rfl) (d' := 2) (by decide) (c_X2_copyFrom (l := x.2.1) q5 q7 h g9) ?_
  cases e
  exact V_vret (pc := 29) dX11_image_29 hF
set_option maxRecDepth 100000 in
def F_X11_image_b0 (v0 : Nat) (h : Hp) : Option (Unit × Hp × Nat × Nat) :=
  gd (decide (kd h v0 = 10)) <| nz (zR h v0 9) (ob (some (zN h)) fun q13 => ac 1 20 <| ob4 (F_X2_init q13 (alloc h 2 0)) fun _ h19 n20 n21 => ac n20 n21 <| gd (decide (kd h19 v0 = 10)) <| F_X11_image_b18 v0 (setR h19 v0 9 (some q13))) (F_X11_image_b18 v0 h)
set_option maxHeartbeats 4000000 in
set_option maxRecDepth 100000 in
theorem r_X11_image_b0 (v0 : Nat) (h : Hp) {x : Cx} {r : Unit} {hz : Hp} {c9 s9 : Nat} (e : F_X11_image_b0 v0 h = some (r, hz, c9, s9)) (hF : Fin9 M_X11_image x none none hz) : V M_X11_image x 4 0 [(0, .ref v0)] [] h c9 s9 := by
  unfold F_X11_image_b0 at e
  refine V_aload_n (pc := 0) (i := 0) dX11_image_0 rfl rfl ?_
  replace e := gd_some e
  obtain ⟨g1, e⟩ := e
  cases g3 : zR h v0 9 with
  | none =>
    rw [nz_n g3] at e
    replace e : (ob (some (zN h)) fun q13 => ac 1 20 <| ob4 (F_X2_init q13 (alloc h 2 0)) fun _ h19 n20 n21 => ac n20 n21 <| gd (decide (kd h19 v0 = 10)) <| F_X11_image_b18 v0 (setR h19 v0 9 (some q13))) = some (r, hz, c9, s9) := e
    refine V_getRN (pc := 1) (ci := 10) (k := 9) dX11_image_1 fl_X11_72 rfl (of_decide_eq_true g1) g3 ?_
    refine V_ifnonnullN (pc := 4) dX11_image_4 ?_
    refine V_pick [0] rfl ?_
    refine V_aload_n (pc := 7) (i := 0) dX11_image_7 rfl rfl ?_
    replace e := ob_some e
    obtain ⟨q13, g14, e⟩ := e
    replace e := ac_some e
    obtain ⟨n15, n16, e, hc9, hs9⟩ := e
    rw [hc9, hs9]
    clear hc9 hs9
    refine V_newQ (pc := 8) (ci := 2) dX11_image_8 nl_X11_16 (q := q13) (bc := n15) (bs := n16) (Option.some.inj g14) ?_
    refine V_dup (pc := 11) dX11_image_11 rfl ?_
    replace e := ob4_some e
    obtain ⟨r18, h19, n20, n21, g17, e⟩ := e
    replace e := ac_some e
    obtain ⟨n22, n23, e, hc9, hs9⟩ := e
    rw [hc9, hs9]
    clear hc9 hs9
    refine V_callI (pc := 12) (bc := n22) (bs := n23) (mc := n20) (ms := n21) (st := [.ref q13, .ref v0]) (As := []) (a := q13) (h' := h19) dX11_image_12 ml_X11_18 rfl rfl (Nat.le_of_ble_eq_true rfl) (d' := 3) (by decide) (c_X2_init (l := x.2.1) q13 (alloc h 2 0) g17) ?_
    replace e := gd_some e
    obtain ⟨g24, e⟩ := e
    refine V_putR (pc := 15) (ci := 10) (k := 9) dX11_image_15 fp_X11_72 rfl (of_decide_eq_true g24) (fun _ => ⟨rfl, rfl⟩) ?_
    exact V_pick [0] rfl (r_X11_image_b18 v0 (setR h19 v0 9 (some q13)) e hF)
  | some q2 =>
    rw [nz_s g3] at e
    replace e : (F_X11_image_b18 v0 h) = some (r, hz, c9, s9) := e
    refine V_getR (pc := 1) (ci := 10) (k := 9) (b := q2) dX11_image_1 fl_X11_72 rfl (of_decide_eq_true g1) g3 ?_
    refine V_ifnonnull (pc := 4) (tgt := 18) dX11_image_4 (by decide) ?_
    exact V_pick [0] rfl (r_X11_image_b18 v0 h e hF)
def F_X11_image (v0 : Nat) (h : Hp) : Option (Unit × Hp × Nat × Nat) := F_X11_image_b0 v0 h
theorem c_X11_image {l : Launch} (v0 : Nat) (h : Hp) {r : Unit} {hz : Hp} {c9 s9 : Nat} (e : F_X11_image v0 h = some (r, hz, c9, s9)) : Ct l yX11_image M_X11_image none 4 [.ref v0] h c9 s9 none hz :=
  Ct_of rfl rfl (fun q => by cases q) (Nat.le_of_ble_eq_true rfl) (fun x _ hF => V_pick [0] rfl (r_X11_image_b0 v0 h e hF))
theorem dX1_pass_0 : decode cX1_pass 0 = .ok (.aload_n 1, 1) := by decide +kernel
theorem dX1_pass_1 : decode cX1_pass 1 = .ok (.getfield 29, 3) := by decide +kernel
theorem dX1_pass_4 : decode cX1_pass 4 = .ok (.iconst 0, 1) := by decide +kernel
theorem dX1_pass_5 : decode cX1_pass 5 = .ok (.aload_n 0, 1) := by decide +kernel
theorem dX1_pass_6 : decode cX1_pass 6 = .ok (.getfield 9, 3) := by decide +kernel
theorem dX1_pass_9 : decode cX1_pass 9 = .ok (.iconst 0, 1) := by decide +kernel
theorem dX1_pass_10 : decode cX1_pass 10 = .ok (.iconst 5, 1) := by decide +kernel
theorem dX1_pass_11 : decode cX1_pass 11 = .ok (.invokestatic 32, 3) := by decide +kernel
theorem dX1_pass_14 : decode cX1_pass 14 = .ok (.aload_n 0, 1) := by decide +kernel
theorem dX1_pass_15 : decode cX1_pass 15 = .ok (.getfield 18, 3) := by decide +kernel
theorem dX1_pass_18 : decode cX1_pass 18 = .ok (.aload_n 1, 1) := by decide +kernel
theorem dX1_pass_19 : decode cX1_pass 19 = .ok (.getfield 38, 3) := by decide +kernel
theorem dX1_pass_22 : decode cX1_pass 22 = .ok (.invokevirtual 39, 3) := by decide +kernel
theorem dX1_pass_25 : decode cX1_pass 25 = .ok (.aload_n 0, 1) := by decide +kernel
theorem dX1_pass_26 : decode cX1_pass 26 = .ok (.iconst (-1), 1) := by decide +kernel
theorem dX1_pass_27 : decode cX1_pass 27 = .ok (.putfield 22, 3) := by decide +kernel
theorem dX1_pass_30 : decode cX1_pass 30 = .ok (.aload_n 0, 1) := by decide +kernel
theorem dX1_pass_31 : decode cX1_pass 31 = .ok (.iconst 0, 1) := by decide +kernel
theorem dX1_pass_32 : decode cX1_pass 32 = .ok (.putfield 26, 3) := by decide +kernel
theorem dX1_pass_35 : decode cX1_pass 35 = .ok (.iconst 0, 1) := by decide +kernel
theorem dX1_pass_36 : decode cX1_pass 36 = .ok (.istore_n 2, 1) := by decide +kernel
theorem dX1_pass_37 : decode cX1_pass 37 = .ok (.iconst 1, 1) := by decide +kernel
theorem dX1_pass_38 : decode cX1_pass 38 = .ok (.istore_n 3, 1) := by decide +kernel
theorem dX1_pass_39 : decode cX1_pass 39 = .ok (.iconst 0, 1) := by decide +kernel
theorem dX1_pass_40 : decode cX1_pass 40 = .ok (.istore 4, 2) := by decide +kernel
theorem dX1_pass_42 : decode cX1_pass 42 = .ok (.iload 4, 2) := by decide +kernel
theorem dX1_pass_44 : decode cX1_pass 44 = .ok (.sipush 1000, 3) := by decide +kernel
theorem dX1_pass_47 : decode cX1_pass 47 = .ok (.if_icmp .ge 42, 3) := by decide +kernel
theorem dX1_pass_50 : decode cX1_pass 50 = .ok (.iload_n 2, 1) := by decide +kernel
theorem dX1_pass_51 : decode cX1_pass 51 = .ok (.istore 5, 2) := by decide +kernel
theorem dX1_pass_53 : decode cX1_pass 53 = .ok (.aload_n 0, 1) := by decide +kernel
theorem dX1_pass_54 : decode cX1_pass 54 = .ok (.aload_n 1, 1) := by decide +kernel
theorem dX1_pass_55 : decode cX1_pass 55 = .ok (.getfield 43, 3) := by decide +kernel
theorem dX1_pass_58 : decode cX1_pass 58 = .ok (.iload_n 2, 1) := by decide +kernel
theorem dX1_pass_59 : decode cX1_pass 59 = .ok (.iload 4, 2) := by decide +kernel
theorem dX1_pass_61 : decode cX1_pass 61 = .ok (.invokevirtual 47, 3) := by decide +kernel
theorem dX1_pass_64 : decode cX1_pass 64 = .ok (.istore_n 2, 1) := by decide +kernel
theorem dX1_pass_65 : decode cX1_pass 65 = .ok (.iload_n 3, 1) := by decide +kernel
theorem dX1_pass_66 : decode cX1_pass 66 = .ok (.ifCond .ne 9, 3) := by decide +kernel
theorem dX1_pass_69 : decode cX1_pass 69 = .ok (.iload_n 2, 1) := by decide +kernel
theorem dX1_pass_70 : decode cX1_pass 70 = .ok (.iload 5, 2) := by decide +kernel
theorem dX1_pass_72 : decode cX1_pass 72 = .ok (.if_icmp .le 11, 3) := by decide +kernel
theorem dX1_pass_75 : decode cX1_pass 75 = .ok (.aload_n 0, 1) := by decide +kernel
theorem dX1_pass_76 : decode cX1_pass 76 = .ok (.aload_n 1, 1) := by decide +kernel
theorem dX1_pass_77 : decode cX1_pass 77 = .ok (.iload 4, 2) := by decide +kernel
theorem dX1_pass_79 : decode cX1_pass 79 = .ok (.invokevirtual 51, 3) := by decide +kernel
theorem dX1_pass_82 : decode cX1_pass 82 = .ok (.istore_n 3, 1) := by decide +kernel
theorem dX1_pass_83 : decode cX1_pass 83 = .ok (.iinc 4 1, 3) := by decide +kernel
theorem dX1_pass_86 : decode cX1_pass 86 = .ok (.goto (-44), 3) := by decide +kernel
theorem dX1_pass_89 : decode cX1_pass 89 = .ok (.return_, 1) := by decide +kernel
set_option maxRecDepth 100000 in
def F_X1_pass_b83 (v0 : Nat) (v1 : Nat) (v2 : Int32) (v3 : Int32) (v4 : Int32) (h : Hp) : Option ((Int32 × Int32 × Int32 × Hp) ⊕ Hp) :=
  some (.inl (v2, v3, v4 + (1 : Int32), h))
set_option maxHeartbeats 4000000 in
set_option maxRecDepth 100000 in
theorem r_X1_pass_b83 (v0 : Nat) (v1 : Nat) (v2 : Int32) (v3 : Int32) (v4 : Int32) (h : Hp) {x : Cx} {o : ((Int32 × Int32 × Int32 × Hp) ⊕ Hp)} (e : F_X1_pass_b83 v0 v1 v2 v3 v4 h = some o) (kI : ∀ z, o = .inl z → V M_X1_pass x 3 42 [(0, .ref v0), (1, .ref v1), (2, .int z.1), (3, .int z.2.1), (4, .int z.2.2.1)] [] z.2.2.2 0 0) (kE89 : ∀ z : Hp, o = .inr z → V M_X1_pass x 3 89 [] [] z 0 0) : V M_X1_pass x 3 83 [(0, .ref v0), (1, .ref v1), (2, .int v2), (3, .int v3), (4, .int v4)] [] h 0 0 := by
  unfold F_X1_pass_b83 at e
  refine V_iinc (pc := 83) (i := 4) (u := v4 + (1 : Int32)) (lv' := [(4, .int (v4 + (1 : Int32))), (0, .ref v0), (1, .ref v1), (2, .int v2), (3, .int v3)]) dX1_pass_83 rfl rfl (by decide) rfl ?_
  refine V_goto (pc := 86) (tgt := 42) dX1_pass_86 (by decide) ?_
  cases e
  exact V_pick [1, 2, 3, 4, 0] rfl (kI (v2, v3, v4 + (1 : Int32), h) rfl)
set_option maxRecDepth 100000 in
def F_X1_pass_b75 (v0 : Nat) (v1 : Nat) (v2 : Int32) (v4 : Int32) (h : Hp) : Option ((Int32 × Int32 × Int32 × Hp) ⊕ Hp) :=
  ob2 (F_X1_endMinute v0 v1 v4 h) fun r27 h28 => gd (decide (kd h v0 = 1)) <| F_X1_pass_b83 v0 v1 v2 r27 v4 h28
set_option maxHeartbeats 4000000 in
set_option maxRecDepth 100000 in
theorem r_X1_pass_b75 (v0 : Nat) (v1 : Nat) (v2 : Int32) (v4 : Int32) (h : Hp) {x : Cx} {o : ((Int32 × Int32 × Int32 × Hp) ⊕ Hp)} (e : F_X1_pass_b75 v0 v1 v2 v4 h = some o) (kI : ∀ z, o = .inl z → V M_X1_pass x 3 42 [(0, .ref v0), (1, .ref v1), (2, .int z.1), (3, .int z.2.1), (4, .int z.2.2.1)] [] z.2.2.2 0 0) (kE89 : ∀ z : Hp, o = .inr z → V M_X1_pass x 3 89 [] [] z 0 0) : V M_X1_pass x 3 75 [(0, .ref v0), (1, .ref v1), (2, .int v2), (4, .int v4)] [] h 0 0 := by
  unfold F_X1_pass_b75 at e
  refine V_aload_n (pc := 75) (i := 0) dX1_pass_75 rfl rfl ?_
  refine V_aload_n (pc := 76) (i := 1) dX1_pass_76 rfl rfl ?_
  refine V_iload (pc := 77) (i := 4) dX1_pass_77 rfl ?_
  obtain ⟨r27, h28, g26, e⟩ := ob2_some e
  obtain ⟨g29, e⟩ := gd_some e
  refine V_callV (pc := 79) (bc := 0) (bs := 0) (mc := 0) (ms := 0) (st := []) (As := [.ref v1, .int v4]) (a := v0) (h' := h28) (r := some (.int r27)) dX1_pass_79 ml_X1_51 (ci := 1) rfl (of_decide_eq_true g29) rfl rfl (Nat.le_of_ble_eq_true rfl) (d' := 2) (by decide) (c_X1_endMinute (l := x.2.1) v0 v1 v4 h g26) ?_
  refine V_istore_n (pc := 82) (i := 3) (lv' := [(3, .int r27), (0, .ref v0), (1, .ref v1), (2, .int v2), (4, .int v4)]) dX1_pass_82 rfl (by decide) rfl ?_
  exact V_pick [1, 2, 3, 0, 4] rfl (r_X1_pass_b83 v0 v1 v2 r27 v4 h28 e kI kE89)
set_option maxRecDepth 100000 in
def F_X1_pass_l42 (v0 : Nat) (v1 : Nat) (v2 : Int32) (v3 : Int32) (v4 : Int32) (h : Hp) : Option ((Int32 × Int32 × Int32 × Hp) ⊕ Hp) :=
  (if (1000 : Int32) ≤ v4 then some (.inr h) else gd (decide (kd h v1 = 2)) <| ob (zR h v1 16) fun q20 => ob2 (F_X1_walkAll v0 q20 v2 v4 h) fun r23 h24 => gd (decide (kd h v0 = 1)) <| (if v3 = 0 then (if r23 ≤ v2 then F_X1_pass_b83 v0 v1 r23 v3 v4 h24 else F_X1_pass_b75 v0 v1 r23 v4 h24) else F_X1_pass_b75 v0 v1 r23 v4 h24))
set_option maxHeartbeats 4000000 in
set_option maxRecDepth 100000 in
theorem r_X1_pass_l42 (v0 : Nat) (v1 : Nat) (v2 : Int32) (v3 : Int32) (v4 : Int32) (h : Hp) {x : Cx} {o : ((Int32 × Int32 × Int32 × Hp) ⊕ Hp)} (e : F_X1_pass_l42 v0 v1 v2 v3 v4 h = some o) (kI : ∀ z, o = .inl z → V M_X1_pass x 3 42 [(0, .ref v0), (1, .ref v1), (2, .int z.1), (3, .int z.2.1), (4, .int z.2.2.1)] [] z.2.2.2 0 0) (kE89 : ∀ z : Hp, o = .inr z → V M_X1_pass x 3 89 [] [] z 0 0) : V M_X1_pass x 3 42 [(0, .ref v0), (1, .ref v1), (2, .int v2), (3, .int v3), (4, .int v4)] [] h 0 0 := by
  unfold F_X1_pass_l42 at e
  refine V_iload (pc := 42) (i := 4) dX1_pass_42 rfl ?_
  refine V_sipush (pc := 44) (v := (1000 : Int32)) dX1_pass_44 (by decide) ?_
  refine V_icmp_ge (pc := 47) (tgt := 89) dX1_pass_47 (by decide) (fun c32 => ?_) (fun c32 => ?_)
  · rw [if_pos c32] at e
    cases e
    exact V_pick [] rfl (kE89 h rfl)
  · rw [if_neg c32] at e
    refine V_pick [0, 1, 2, 3, 4] rfl ?_
    refine V_iload_n (pc := 50) (i := 2) dX1_pass_50 rfl rfl ?_
    refine V_istore (pc := 51) (i := 5) (lv' := [(5, .int v2), (0, .ref v0), (1, .ref v1), (2, .int v2), (3, .int v3), (4, .int v4)]) dX1_pass_51 (by decide) rfl ?_
    refine V_aload_n (pc := 53) (i := 0) dX1_pass_53 rfl rfl ?_
    refine V_aload_n (pc := 54) (i := 1) dX1_pass_54 rfl rfl ?_
    obtain ⟨g19, e⟩ := gd_some e
    obtain ⟨q20, g21, e⟩ := ob_some e
    refine V_getR (pc := 55) (ci := 2) (k := 16) (b := q20) dX1_pass_55 fl_X1_43 rfl (of_decide_eq_true g19) g21 ?_
    refine V_iload_n (pc := 58) (i := 2) dX1_pass_58 rfl rfl ?_
    refine V_iload (pc := 59) (i := 4) dX1_pass_59 rfl ?_
    obtain ⟨r23, h24, g22, e⟩ := ob2_some e
    obtain ⟨g25, e⟩ := gd_some e
    refine V_callV (pc := 61) (bc := 0) (bs := 0) (mc := 0) (ms := 0) (st := []) (As := [.ref q20, .int v2, .int v4]) (a := v0) (h' := h24) (r := some (.int r23)) dX1_pass_61 ml_X1_47 (ci := 1) rfl (of_decide_eq_true g25) rfl rfl (Nat.le_of_ble_eq_true rfl) (d' := 0) (by decide) (c_X1_walkAll (l := x.2.1) v0 q20 v2 v4 h g22) ?_
    refine V_istore_n (pc := 64) (i := 2) (lv' := [(2, .int r23), (5, .int v2), (0, .ref v0), (1, .ref v1), (3, .int v3), (4, .int v4)]) dX1_pass_64 rfl (by decide) rfl ?_
    refine V_iload_n (pc := 65) (i := 3) dX1_pass_65 rfl rfl ?_
    refine V_if_ne (pc := 66) (tgt := 75) dX1_pass_66 (by decide) (fun c31 => ?_) (fun c31 => ?_)
    · rw [if_neg c31] at e
      exact V_pick [2, 3, 0, 5] rfl (r_X1_pass_b75 v0 v1 r23 v4 h24 e kI kE89)
    · rw [if_pos c31] at e
      refine V_pick [2, 3, 0, 4, 5, 1] rfl ?_
      refine V_iload_n (pc := 69) (i := 2) dX1_pass_69 rfl rfl ?_
      refine V_iload (pc := 70) (i := 5) dX1_pass_70 rfl ?_
      refine V_icmp_le (pc := 72) (tgt := 83) dX1_pass_72 (by decide) (fun c30 => ?_) (fun c30 => ?_)
      · rw [if_pos c30] at e
        exact V_pick [0, 1, 2, 3, 4] rfl (r_X1_pass_b83 v0 v1 r23 v3 v4 h24 e kI kE89)
      · rw [if_neg c30] at e
        exact V_pick [0, 1, 2, 4] rfl (r_X1_pass_b75 v0 v1 r23 v4 h24 e kI kE89)
set_option maxRecDepth 100000 in
def F_X1_pass_b0 (v0 : Nat) (v1 : Nat) (h : Hp) : Option (Unit × Hp) :=
  gd (decide (kd h v1 = 2)) <| ob (zR h v1 7) fun q2 => gd (decide (kd h v0 = 1)) <| ob (zR h v0 0) fun q5 => gd (decide (kd h q2 = 13)) <| gd (decide (kd h q5 = 13)) <| gd (cpk (0 : Int32) (0 : Int32) (5 : Int32) (zl h q2) (zl h q5)) <| ob (zR (cpA h q2 (0 : Int32) q5 (0 : Int32) (5 : Int32)) v0 1) fun q10 => ob (zR (cpA h q2 (0 : Int32) q5 (0 : Int32) (5 : Int32)) v1 9) fun q12 => ob2 (F_X8_copyFrom q10 q12 (cpA h q2 (0 : Int32) q5 (0 : Int32) (5 : Int32))) fun _ h16 => gd (decide (kd (cpA h q2 (0 : Int32) q5 (0 : Int32) (5 : Int32)) q10 = 7)) <| gd (decide (kd h16 v0 = 1)) <| ob (iter (fun z : Int32 × Int32 × Int32 × Hp => F_X1_pass_l42 v0 v1 z.1 z.2.1 z.2.2.1 z.2.2.2) FU ((0 : Int32), (1 : Int32), (0 : Int32), setI (setI h16 v0 2 (-1 : Int32)) v0 3 (0 : Int32))) (fun h33 => some ((), h33))
set_option maxHeartbeats 4000000 in
set_option maxRecDepth 100000 in
theorem r_X1_pass_b0 (v0 : Nat) (v1 : Nat) (h : Hp) {x : Cx} {r : Unit} {hz : Hp} (e : F_X1_pass_b0 v0 v1 h = some (r, hz)) (hF : Fin9 M_X1_pass x none none hz) : V M_X1_pass x 3 0 [(0, .ref v0), (1, .ref v1)] [] h 0 0 := by
  unfold F_X1_pass_b0 at e
  refine V_aload_n (pc := 0) (i := 1) dX1_pass_0 rfl rfl ?_
  obtain ⟨g1, e⟩ := gd_some e
  obtain ⟨q2, g3, e⟩ := ob_some e
  refine V_getR (pc := 1) (ci := 2) (k := 7) (b := q2) dX1_pass_1 fl_X1_29 rfl (of_decide_eq_true g1) g3 ?_
  refine V_iconst (pc := 4) (v := (0 : Int32)) dX1_pass_4 (by decide) ?_
  refine V_aload_n (pc := 5) (i := 0) dX1_pass_5 rfl rfl ?_
  obtain ⟨g4, e⟩ := gd_some e
  obtain ⟨q5, g6, e⟩ := ob_some e
  refine V_getR (pc := 6) (ci := 1) (k := 0) (b := q5) dX1_pass_6 fl_X1_9 rfl (of_decide_eq_true g4) g6 ?_
  refine V_iconst (pc := 9) (v := (0 : Int32)) dX1_pass_9 (by decide) ?_
  refine V_iconst (pc := 10) (v := (5 : Int32)) dX1_pass_10 (by decide) ?_
  obtain ⟨g7, e⟩ := gd_some e
  obtain ⟨g8, e⟩ := gd_some e
  obtain ⟨g9, e⟩ := gd_some e
  refine V_copy (pc := 11) dX1_pass_11 wm_X1_32 (of_decide_eq_true g7) (of_decide_eq_true g8) g9 (by decide) (Nat.le_of_ble_eq_true rfl) ?_
  refine V_aload_n (pc := 14) (i := 0) dX1_pass_14 rfl rfl ?_
  obtain ⟨q10, g11, e⟩ := ob_some e
  refine V_getR (pc := 15) (ci := 1) (k := 1) (b := q10) dX1_pass_15 fl_X1_18 rfl (kd_sC (of_decide_eq_true g4)) g11 ?_
  refine V_aload_n (pc := 18) (i := 1) dX1_pass_18 rfl rfl ?_
  obtain ⟨q12, g13, e⟩ := ob_some e
  refine V_getR (pc := 19) (ci := 2) (k := 9) (b := q12) dX1_pass_19 fl_X1_38 rfl (kd_sC (of_decide_eq_true g1)) g13 ?_
  obtain ⟨r15, h16, g14, e⟩ := ob2_some e
  obtain ⟨g17, e⟩ := gd_some e
  refine V_callV (pc := 22) (bc := 0) (bs := 0) (mc := 0) (ms := 0) (st := []) (As := [.ref q12]) (a := q10) (h' := h16) (r := none) dX1_pass_22 ml_X1_39 (ci := 7) rfl (of_decide_eq_true g17) rfl rfl (Nat.le_of_ble_eq_true rfl) (d' := 1) (by decide) (c_X8_copyFrom (l := x.2.1) q10 q12 (cpA h q2 (0 : Int32) q5 (0 : Int32) (5 : Int32)) g14) ?_
  refine V_aload_n (pc := 25) (i := 0) dX1_pass_25 rfl rfl ?_
  refine V_iconst (pc := 26) (v := (-1 : Int32)) dX1_pass_26 (by decide) ?_
  obtain ⟨g18, e⟩ := gd_some e
  refine V_putI (pc := 27) (ci := 1) (k := 2) dX1_pass_27 fp_X1_22 rfl (of_decide_eq_true g18) ?_
  refine V_aload_n (pc := 30) (i := 0) dX1_pass_30 rfl rfl ?_
  refine V_iconst (pc := 31) (v := (0 : Int32)) dX1_pass_31 (by decide) ?_
  refine V_putI (pc := 32) (ci := 1) (k := 3) dX1_pass_32 fp_X1_26 rfl (kd_sI (of_decide_eq_true g18)) ?_
  refine V_iconst (pc := 35) (v := (0 : Int32)) dX1_pass_35 (by decide) ?_
  refine V_istore_n (pc := 36) (i := 2) (lv' := [(2, .int (0 : Int32)), (0, .ref v0), (1, .ref v1)]) dX1_pass_36 rfl (by decide) rfl ?_
  refine V_iconst (pc := 37) (v := (1 : Int32)) dX1_pass_37 (by decide) ?_
  refine V_istore_n (pc := 38) (i := 3) (lv' := [(3, .int (1 : Int32)), (2, .int (0 : Int32)), (0, .ref v0), (1, .ref v1)]) dX1_pass_38 rfl (by decide) rfl ?_
  refine V_iconst (pc := 39) (v := (0 : Int32)) dX1_pass_39 (by decide) ?_
  refine V_istore (pc := 40) (i := 4) (lv' := [(4, .int (0 : Int32)), (3, .int (1 : Int32)), (2, .int (0 : Int32)), (0, .ref v0), (1, .ref v1)]) dX1_pass_40 (by decide) rfl ?_
  refine V_pick [3, 4, 2, 1, 0] rfl ?_
  obtain ⟨y34, g35, e⟩ := ob_some e
  refine iter_V (P := fun z : Int32 × Int32 × Int32 × Hp => V M_X1_pass x 3 42 [(0, .ref v0), (1, .ref v1), (2, .int z.1), (3, .int z.2.1), (4, .int z.2.2.1)] [] z.2.2.2 0 0) (E := fun z : Hp => V M_X1_pass x 3 89 [] [] z 0 0) (fun z o e9 k1 k2 => r_X1_pass_l42 v0 v1 z.1 z.2.1 z.2.2.1 z.2.2.2 e9 (fun z hz9 => k1 z hz9) (fun z hz9 => k2 _ hz9)) _ _ _ g35 ?_
  clear g35
  obtain ⟨h33, rfl⟩ : ∃ q, q = y34 := ⟨_, rfl⟩
  replace e : (some ((), h33)) = some (r, hz) := e
  show V M_X1_pass x 3 89 [] [] h33 0 0
  cases e
  exact V_vret (pc := 89) dX1_pass_89 hF
def F_X1_pass (v0 : Nat) (v1 : Nat) (h : Hp) : Option (Unit × Hp) := F_X1_pass_b0 v0 v1 h
theorem c_X1_pass {l : Launch} (v0 : Nat) (v1 : Nat) (h : Hp) {r : Unit} {hz : Hp} (e : F_X1_pass v0 v1 h = some (r, hz)) : Ct l yX1_pass M_X1_pass none 3 [.ref v0, .ref v1] h 0 0 none hz :=
  Ct_of rfl rfl (fun q => by cases q) (Nat.le_of_ble_eq_true rfl) (fun x _ hF => V_pick [0, 1] rfl (r_X1_pass_b0 v0 v1 h e hF))
theorem dX3_readLine_0 : decode cX3_readLine 0 = .ok (.aload_n 1, 1) := by decide +kernel
theorem dX3_readLine_1 : decode cX3_readLine 1 = .ok (.ldc 37, 2) := by decide +kernel
theorem dX3_readLine_3 : decode cX3_readLine 3 = .ok (.invokevirtual 39, 3) := by decide +kernel
theorem dX3_readLine_6 : decode cX3_readLine 6 = .ok (.ifCond .eq 9, 3) := by decide +kernel
theorem dX3_readLine_9 : decode cX3_readLine 9 = .ok (.aload_n 0, 1) := by decide +kernel
theorem dX3_readLine_10 : decode cX3_readLine 10 = .ok (.aload_n 1, 1) := by decide +kernel
theorem dX3_readLine_11 : decode cX3_readLine 11 = .ok (.invokevirtual 45, 3) := by decide +kernel
theorem dX3_readLine_14 : decode cX3_readLine 14 = .ok (.ireturn, 1) := by decide +kernel
theorem dX3_readLine_15 : decode cX3_readLine 15 = .ok (.aload_n 1, 1) := by decide +kernel
theorem dX3_readLine_16 : decode cX3_readLine 16 = .ok (.ldc 49, 2) := by decide +kernel
theorem dX3_readLine_18 : decode cX3_readLine 18 = .ok (.invokevirtual 39, 3) := by decide +kernel
theorem dX3_readLine_21 : decode cX3_readLine 21 = .ok (.ifCond .eq 9, 3) := by decide +kernel
theorem dX3_readLine_24 : decode cX3_readLine 24 = .ok (.aload_n 0, 1) := by decide +kernel
theorem dX3_readLine_25 : decode cX3_readLine 25 = .ok (.aload_n 1, 1) := by decide +kernel
theorem dX3_readLine_26 : decode cX3_readLine 26 = .ok (.invokevirtual 51, 3) := by decide +kernel
theorem dX3_readLine_29 : decode cX3_readLine 29 = .ok (.ireturn, 1) := by decide +kernel
theorem dX3_readLine_30 : decode cX3_readLine 30 = .ok (.aload_n 1, 1) := by decide +kernel
theorem dX3_readLine_31 : decode cX3_readLine 31 = .ok (.ldc 54, 2) := by decide +kernel
theorem dX3_readLine_33 : decode cX3_readLine 33 = .ok (.invokevirtual 39, 3) := by decide +kernel
theorem dX3_readLine_36 : decode cX3_readLine 36 = .ok (.ifCond .eq 9, 3) := by decide +kernel
theorem dX3_readLine_39 : decode cX3_readLine 39 = .ok (.aload_n 0, 1) := by decide +kernel
theorem dX3_readLine_40 : decode cX3_readLine 40 = .ok (.aload_n 1, 1) := by decide +kernel
theorem dX3_readLine_41 : decode cX3_readLine 41 = .ok (.invokevirtual 56, 3) := by decide +kernel
theorem dX3_readLine_44 : decode cX3_readLine 44 = .ok (.ireturn, 1) := by decide +kernel
theorem dX3_readLine_45 : decode cX3_readLine 45 = .ok (.aload_n 1, 1) := by decide +kernel
theorem dX3_readLine_46 : decode cX3_readLine 46 = .ok (.ldc 59, 2) := by decide +kernel
theorem dX3_readLine_48 : decode cX3_readLine 48 = .ok (.invokevirtual 39, 3) := by decide +kernel
theorem dX3_readLine_51 : decode cX3_readLine 51 = .ok (.ifCond .eq 53, 3) := by decide +kernel
theorem dX3_readLine_54 : decode cX3_readLine 54 = .ok (.aload_n 0, 1) := by decide +kernel
theorem dX3_readLine_55 : decode cX3_readLine 55 = .ok (.iconst 3, 1) := by decide +kernel
theorem dX3_readLine_56 : decode cX3_readLine 56 = .ok (.aload_n 1, 1) := by decide +kernel
theorem dX3_readLine_57 : decode cX3_readLine 57 = .ok (.invokevirtual 61, 3) := by decide +kernel
theorem dX3_readLine_60 : decode cX3_readLine 60 = .ok (.aload_n 0, 1) := by decide +kernel
theorem dX3_readLine_61 : decode cX3_readLine 61 = .ok (.iconst 1, 1) := by decide +kernel
theorem dX3_readLine_62 : decode cX3_readLine 62 = .ok (.iconst 0, 1) := by decide +kernel
theorem dX3_readLine_63 : decode cX3_readLine 63 = .ok (.sipush 999, 3) := by decide +kernel
theorem dX3_readLine_66 : decode cX3_readLine 66 = .ok (.aload_n 1, 1) := by decide +kernel
theorem dX3_readLine_67 : decode cX3_readLine 67 = .ok (.invokevirtual 65, 3) := by decide +kernel
theorem dX3_readLine_70 : decode cX3_readLine 70 = .ok (.ifCond .eq 32, 3) := by decide +kernel
theorem dX3_readLine_73 : decode cX3_readLine 73 = .ok (.aload_n 1, 1) := by decide +kernel
theorem dX3_readLine_74 : decode cX3_readLine 74 = .ok (.ldc 69, 2) := by decide +kernel
theorem dX3_readLine_76 : decode cX3_readLine 76 = .ok (.invokevirtual 71, 3) := by decide +kernel
theorem dX3_readLine_79 : decode cX3_readLine 79 = .ok (.ifCond .eq 23, 3) := by decide +kernel
theorem dX3_readLine_82 : decode cX3_readLine 82 = .ok (.aload_n 0, 1) := by decide +kernel
theorem dX3_readLine_83 : decode cX3_readLine 83 = .ok (.iconst 2, 1) := by decide +kernel
theorem dX3_readLine_84 : decode cX3_readLine 84 = .ok (.iconst 0, 1) := by decide +kernel
theorem dX3_readLine_85 : decode cX3_readLine 85 = .ok (.aload_n 0, 1) := by decide +kernel
theorem dX3_readLine_86 : decode cX3_readLine 86 = .ok (.getfield 15, 3) := by decide +kernel
theorem dX3_readLine_89 : decode cX3_readLine 89 = .ok (.iconst 1, 1) := by decide +kernel
theorem dX3_readLine_90 : decode cX3_readLine 90 = .ok (.isub, 1) := by decide +kernel
theorem dX3_readLine_91 : decode cX3_readLine 91 = .ok (.aload_n 1, 1) := by decide +kernel
theorem dX3_readLine_92 : decode cX3_readLine 92 = .ok (.invokevirtual 65, 3) := by decide +kernel
theorem dX3_readLine_95 : decode cX3_readLine 95 = .ok (.ifCond .eq 7, 3) := by decide +kernel
theorem dX3_readLine_98 : decode cX3_readLine 98 = .ok (.iconst 1, 1) := by decide +kernel
theorem dX3_readLine_99 : decode cX3_readLine 99 = .ok (.goto 4, 3) := by decide +kernel
theorem dX3_readLine_102 : decode cX3_readLine 102 = .ok (.iconst 0, 1) := by decide +kernel
theorem dX3_readLine_103 : decode cX3_readLine 103 = .ok (.ireturn, 1) := by decide +kernel
theorem dX3_readLine_104 : decode cX3_readLine 104 = .ok (.aload_n 1, 1) := by decide +kernel
theorem dX3_readLine_105 : decode cX3_readLine 105 = .ok (.ldc 74, 2) := by decide +kernel
theorem dX3_readLine_107 : decode cX3_readLine 107 = .ok (.invokevirtual 39, 3) := by decide +kernel
theorem dX3_readLine_110 : decode cX3_readLine 110 = .ok (.ifCond .eq 44, 3) := by decide +kernel
theorem dX3_readLine_113 : decode cX3_readLine 113 = .ok (.aload_n 0, 1) := by decide +kernel
theorem dX3_readLine_114 : decode cX3_readLine 114 = .ok (.iconst 4, 1) := by decide +kernel
theorem dX3_readLine_115 : decode cX3_readLine 115 = .ok (.aload_n 1, 1) := by decide +kernel
theorem dX3_readLine_116 : decode cX3_readLine 116 = .ok (.invokevirtual 61, 3) := by decide +kernel
theorem dX3_readLine_119 : decode cX3_readLine 119 = .ok (.aload_n 0, 1) := by decide +kernel
theorem dX3_readLine_120 : decode cX3_readLine 120 = .ok (.iconst 1, 1) := by decide +kernel
theorem dX3_readLine_121 : decode cX3_readLine 121 = .ok (.iconst 0, 1) := by decide +kernel
theorem dX3_readLine_122 : decode cX3_readLine 122 = .ok (.aload_n 0, 1) := by decide +kernel
theorem dX3_readLine_123 : decode cX3_readLine 123 = .ok (.getfield 15, 3) := by decide +kernel
theorem dX3_readLine_126 : decode cX3_readLine 126 = .ok (.iconst 1, 1) := by decide +kernel
theorem dX3_readLine_127 : decode cX3_readLine 127 = .ok (.isub, 1) := by decide +kernel
theorem dX3_readLine_128 : decode cX3_readLine 128 = .ok (.aload_n 1, 1) := by decide +kernel
theorem dX3_readLine_129 : decode cX3_readLine 129 = .ok (.invokevirtual 65, 3) := by decide +kernel
theorem dX3_readLine_132 : decode cX3_readLine 132 = .ok (.ifCond .eq 20, 3) := by decide +kernel
theorem dX3_readLine_135 : decode cX3_readLine 135 = .ok (.aload_n 0, 1) := by decide +kernel
theorem dX3_readLine_136 : decode cX3_readLine 136 = .ok (.iconst 2, 1) := by decide +kernel
theorem dX3_readLine_137 : decode cX3_readLine 137 = .ok (.iconst 0, 1) := by decide +kernel
theorem dX3_readLine_138 : decode cX3_readLine 138 = .ok (.sipush 999, 3) := by decide +kernel
theorem dX3_readLine_141 : decode cX3_readLine 141 = .ok (.aload_n 1, 1) := by decide +kernel
theorem dX3_readLine_142 : decode cX3_readLine 142 = .ok (.invokevirtual 65, 3) := by decide +kernel
theorem dX3_readLine_145 : decode cX3_readLine 145 = .ok (.ifCond .eq 7, 3) := by decide +kernel
theorem dX3_readLine_148 : decode cX3_readLine 148 = .ok (.iconst 1, 1) := by decide +kernel
theorem dX3_readLine_149 : decode cX3_readLine 149 = .ok (.goto 4, 3) := by decide +kernel
theorem dX3_readLine_152 : decode cX3_readLine 152 = .ok (.iconst 0, 1) := by decide +kernel
theorem dX3_readLine_153 : decode cX3_readLine 153 = .ok (.ireturn, 1) := by decide +kernel
theorem dX3_readLine_154 : decode cX3_readLine 154 = .ok (.aload_n 1, 1) := by decide +kernel
theorem dX3_readLine_155 : decode cX3_readLine 155 = .ok (.ldc 76, 2) := by decide +kernel
theorem dX3_readLine_157 : decode cX3_readLine 157 = .ok (.invokevirtual 39, 3) := by decide +kernel
theorem dX3_readLine_160 : decode cX3_readLine 160 = .ok (.ifCond .eq 19, 3) := by decide +kernel
theorem dX3_readLine_163 : decode cX3_readLine 163 = .ok (.aload_n 0, 1) := by decide +kernel
theorem dX3_readLine_164 : decode cX3_readLine 164 = .ok (.iconst 5, 1) := by decide +kernel
theorem dX3_readLine_165 : decode cX3_readLine 165 = .ok (.aload_n 1, 1) := by decide +kernel
theorem dX3_readLine_166 : decode cX3_readLine 166 = .ok (.invokevirtual 61, 3) := by decide +kernel
theorem dX3_readLine_169 : decode cX3_readLine 169 = .ok (.aload_n 0, 1) := by decide +kernel
theorem dX3_readLine_170 : decode cX3_readLine 170 = .ok (.iconst 1, 1) := by decide +kernel
theorem dX3_readLine_171 : decode cX3_readLine 171 = .ok (.iconst 0, 1) := by decide +kernel
theorem dX3_readLine_172 : decode cX3_readLine 172 = .ok (.ldc 78, 2) := by decide +kernel
theorem dX3_readLine_174 : decode cX3_readLine 174 = .ok (.aload_n 1, 1) := by decide +kernel
theorem dX3_readLine_175 : decode cX3_readLine 175 = .ok (.invokevirtual 65, 3) := by decide +kernel
theorem dX3_readLine_178 : decode cX3_readLine 178 = .ok (.ireturn, 1) := by decide +kernel
theorem dX3_readLine_179 : decode cX3_readLine 179 = .ok (.aload_n 1, 1) := by decide +kernel
theorem dX3_readLine_180 : decode cX3_readLine 180 = .ok (.ldc 79, 2) := by decide +kernel
theorem dX3_readLine_182 : decode cX3_readLine 182 = .ok (.invokevirtual 39, 3) := by decide +kernel
theorem dX3_readLine_185 : decode cX3_readLine 185 = .ok (.ifCond .eq 20, 3) := by decide +kernel
theorem dX3_readLine_188 : decode cX3_readLine 188 = .ok (.aload_n 0, 1) := by decide +kernel
theorem dX3_readLine_189 : decode cX3_readLine 189 = .ok (.bipush 6, 2) := by decide +kernel
theorem dX3_readLine_191 : decode cX3_readLine 191 = .ok (.aload_n 1, 1) := by decide +kernel
theorem dX3_readLine_192 : decode cX3_readLine 192 = .ok (.invokevirtual 61, 3) := by decide +kernel
theorem dX3_readLine_195 : decode cX3_readLine 195 = .ok (.aload_n 0, 1) := by decide +kernel
theorem dX3_readLine_196 : decode cX3_readLine 196 = .ok (.iconst 1, 1) := by decide +kernel
theorem dX3_readLine_197 : decode cX3_readLine 197 = .ok (.iconst 0, 1) := by decide +kernel
theorem dX3_readLine_198 : decode cX3_readLine 198 = .ok (.ldc 78, 2) := by decide +kernel
theorem dX3_readLine_200 : decode cX3_readLine 200 = .ok (.aload_n 1, 1) := by decide +kernel
theorem dX3_readLine_201 : decode cX3_readLine 201 = .ok (.invokevirtual 65, 3) := by decide +kernel
theorem dX3_readLine_204 : decode cX3_readLine 204 = .ok (.ireturn, 1) := by decide +kernel
theorem dX3_readLine_205 : decode cX3_readLine 205 = .ok (.aload_n 1, 1) := by decide +kernel
theorem dX3_readLine_206 : decode cX3_readLine 206 = .ok (.ldc 81, 2) := by decide +kernel
theorem dX3_readLine_208 : decode cX3_readLine 208 = .ok (.invokevirtual 39, 3) := by decide +kernel
theorem dX3_readLine_211 : decode cX3_readLine 211 = .ok (.ifCond .eq 24, 3) := by decide +kernel
theorem dX3_readLine_214 : decode cX3_readLine 214 = .ok (.aload_n 0, 1) := by decide +kernel
theorem dX3_readLine_215 : decode cX3_readLine 215 = .ok (.bipush 7, 2) := by decide +kernel
theorem dX3_readLine_217 : decode cX3_readLine 217 = .ok (.aload_n 1, 1) := by decide +kernel
theorem dX3_readLine_218 : decode cX3_readLine 218 = .ok (.invokevirtual 61, 3) := by decide +kernel
theorem dX3_readLine_221 : decode cX3_readLine 221 = .ok (.aload_n 0, 1) := by decide +kernel
theorem dX3_readLine_222 : decode cX3_readLine 222 = .ok (.iconst 1, 1) := by decide +kernel
theorem dX3_readLine_223 : decode cX3_readLine 223 = .ok (.iconst 0, 1) := by decide +kernel
theorem dX3_readLine_224 : decode cX3_readLine 224 = .ok (.aload_n 0, 1) := by decide +kernel
theorem dX3_readLine_225 : decode cX3_readLine 225 = .ok (.getfield 15, 3) := by decide +kernel
theorem dX3_readLine_228 : decode cX3_readLine 228 = .ok (.iconst 1, 1) := by decide +kernel
theorem dX3_readLine_229 : decode cX3_readLine 229 = .ok (.isub, 1) := by decide +kernel
theorem dX3_readLine_230 : decode cX3_readLine 230 = .ok (.aload_n 1, 1) := by decide +kernel
theorem dX3_readLine_231 : decode cX3_readLine 231 = .ok (.invokevirtual 65, 3) := by decide +kernel
theorem dX3_readLine_234 : decode cX3_readLine 234 = .ok (.ireturn, 1) := by decide +kernel
theorem dX3_readLine_235 : decode cX3_readLine 235 = .ok (.aload_n 1, 1) := by decide +kernel
theorem dX3_readLine_236 : decode cX3_readLine 236 = .ok (.ldc 83, 2) := by decide +kernel
theorem dX3_readLine_238 : decode cX3_readLine 238 = .ok (.invokevirtual 39, 3) := by decide +kernel
theorem dX3_readLine_241 : decode cX3_readLine 241 = .ok (.ifCond .eq 24, 3) := by decide +kernel
theorem dX3_readLine_244 : decode cX3_readLine 244 = .ok (.aload_n 0, 1) := by decide +kernel
theorem dX3_readLine_245 : decode cX3_readLine 245 = .ok (.bipush 8, 2) := by decide +kernel
theorem dX3_readLine_247 : decode cX3_readLine 247 = .ok (.aload_n 1, 1) := by decide +kernel
theorem dX3_readLine_248 : decode cX3_readLine 248 = .ok (.invokevirtual 61, 3) := by decide +kernel
theorem dX3_readLine_251 : decode cX3_readLine 251 = .ok (.aload_n 0, 1) := by decide +kernel
theorem dX3_readLine_252 : decode cX3_readLine 252 = .ok (.iconst 1, 1) := by decide +kernel
theorem dX3_readLine_253 : decode cX3_readLine 253 = .ok (.iconst 0, 1) := by decide +kernel
theorem dX3_readLine_254 : decode cX3_readLine 254 = .ok (.aload_n 0, 1) := by decide +kernel
theorem dX3_readLine_255 : decode cX3_readLine 255 = .ok (.getfield 15, 3) := by decide +kernel
theorem dX3_readLine_258 : decode cX3_readLine 258 = .ok (.iconst 1, 1) := by decide +kernel
theorem dX3_readLine_259 : decode cX3_readLine 259 = .ok (.isub, 1) := by decide +kernel
theorem dX3_readLine_260 : decode cX3_readLine 260 = .ok (.aload_n 1, 1) := by decide +kernel
theorem dX3_readLine_261 : decode cX3_readLine 261 = .ok (.invokevirtual 65, 3) := by decide +kernel
theorem dX3_readLine_264 : decode cX3_readLine 264 = .ok (.ireturn, 1) := by decide +kernel
theorem dX3_readLine_265 : decode cX3_readLine 265 = .ok (.aload_n 1, 1) := by decide +kernel
theorem dX3_readLine_266 : decode cX3_readLine 266 = .ok (.invokevirtual 85, 3) := by decide +kernel
theorem dX3_readLine_269 : decode cX3_readLine 269 = .ok (.ireturn, 1) := by decide +kernel
set_option maxRecDepth 100000 in
def F_X3_readLine_b153 (t0 : Int32) (h : Hp) : Option (Int32 × Hp) :=
  gd (decide (t0 = 0 ∨ t0 = 1)) <| some (t0, h)
set_option maxHeartbeats 4000000 in
set_option maxRecDepth 100000 in
theorem r_X3_readLine_b153 (t0 : Int32) (h : Hp) {x : Cx} {r : Int32} {hz : Hp} (e : F_X3_readLine_b153 t0 h = some (r, hz)) (hF : Fin9 M_X3_readLine x (some .boolean) (some (.int r)) hz) : V M_X3_readLine x 7 153 [] [.int t0] h 0 0 := by
  unfold F_X3_readLine_b153 at e
  obtain ⟨g72, e⟩ := gd_some e
  cases e
  exact V_zret (pc := 153) dX3_readLine_153 (z01 (of_decide_eq_true g72)) hF
set_option maxRecDepth 100000 in
def F_X3_readLine_b152  (h : Hp) : Option (Int32 × Hp) :=
  F_X3_readLine_b153 (0 : Int32) h
set_option maxHeartbeats 4000000 in
set_option maxRecDepth 100000 in
theorem r_X3_readLine_b152  (h : Hp) {x : Cx} {r : Int32} {hz : Hp} (e : F_X3_readLine_b152  h = some (r, hz)) (hF : Fin9 M_X3_readLine x (some .boolean) (some (.int r)) hz) : V M_X3_readLine x 7 152 [] [] h 0 0 := by
  unfold F_X3_readLine_b152 at e
  refine V_iconst (pc := 152) (v := (0 : Int32)) dX3_readLine_152 (by decide) ?_
  exact V_pick [] rfl (r_X3_readLine_b153 (0 : Int32) h e hF)
set_option maxRecDepth 100000 in
def F_X3_readLine_b103 (t0 : Int32) (h : Hp) : Option (Int32 × Hp) :=
  gd (decide (t0 = 0 ∨ t0 = 1)) <| some (t0, h)
set_option maxHeartbeats 4000000 in
set_option maxRecDepth 100000 in
theorem r_X3_readLine_b103 (t0 : Int32) (h : Hp) {x : Cx} {r : Int32} {hz : Hp} (e : F_X3_readLine_b103 t0 h = some (r, hz)) (hF : Fin9 M_X3_readLine x (some .boolean) (some (.int r)) hz) : V M_X3_readLine x 7 103 [] [.int t0] h 0 0 := by
  unfold F_X3_readLine_b103 at e
  obtain ⟨g88, e⟩ := gd_some e
  cases e
  exact V_zret (pc := 103) dX3_readLine_103 (z01 (of_decide_eq_true g88)) hF
set_option maxRecDepth 100000 in
def F_X3_readLine_b102  (h : Hp) : Option (Int32 × Hp) :=
  F_X3_readLine_b103 (0 : Int32) h
set_option maxHeartbeats 4000000 in
set_option maxRecDepth 100000 in
theorem r_X3_readLine_b102  (h : Hp) {x : Cx} {r : Int32} {hz : Hp} (e : F_X3_readLine_b102  h = some (r, hz)) (hF : Fin9 M_X3_readLine x (some .boolean) (some (.int r)) hz) : V M_X3_readLine x 7 102 [] [] h 0 0 := by
  unfold F_X3_readLine_b102 at e
  refine V_iconst (pc := 102) (v := (0 : Int32)) dX3_readLine_102 (by decide) ?_
  exact V_pick [] rfl (r_X3_readLine_b103 (0 : Int32) h e hF)
set_option maxRecDepth 100000 in
def F_X3_readLine_b0 (v0 : Nat) (v1 : Nat) (h : Hp) : Option (Int32 × Hp) :=
  ob (F_X6_isWord v1 (2 : UInt32) h) fun r2 => gd (decide (kd h v1 = 6)) <| (if r2 = 0 then ob (F_X6_isWord v1 (3 : UInt32) h) fun r5 => (if r5 = 0 then ob (F_X6_isWord v1 (5 : UInt32) h) fun r7 => (if r7 = 0 then ob (F_X6_isWord v1 (7 : UInt32) h) fun r9 => (if r9 = 0 then ob (F_X6_isWord v1 (8 : UInt32) h) fun r11 => (if r11 = 0 then ob (F_X6_isWord v1 (9 : UInt32) h) fun r13 => (if r13 = 0 then ob (F_X6_isWord v1 (10 : UInt32) h) fun r15 => (if r15 = 0 then ob (F_X6_isWord v1 (11 : UInt32) h) fun r17 => (if r17 = 0 then ob (F_X6_isWord v1 (12 : UInt32) h) fun r19 => (if r19 = 0 then ob2 (F_X6_refuse v1 h) fun r21 h22 => gd (decide (r21 = 0 ∨ r21 = 1)) <| some (r21, h22) else ob2 (F_X3_begin v0 (8 : Int32) v1 h) fun _ h26 => gd (decide (kd h v0 = 3)) <| gd (decide (kd h26 v0 = 3)) <| ob2 (F_X3_keep v0 (1 : Int32) (0 : Int32) ((zI h26 v0 2) - (1 : Int32)) v1 h26) fun r30 h31 => gd (decide (r30 = 0 ∨ r30 = 1)) <| some (r30, h31)) else ob2 (F_X3_begin v0 (7 : Int32) v1 h) fun _ h36 => gd (decide (kd h v0 = 3)) <| gd (decide (kd h36 v0 = 3)) <| ob2 (F_X3_keep v0 (1 : Int32) (0 : Int32) ((zI h36 v0 2) - (1 : Int32)) v1 h36) fun r40 h41 => gd (decide (r40 = 0 ∨ r40 = 1)) <| some (r40, h41)) else ob2 (F_X3_begin v0 (6 : Int32) v1 h) fun _ h46 => gd (decide (kd h v0 = 3)) <| ob2 (F_X3_keep v0 (1 : Int32) (0 : Int32) (99999 : Int32) v1 h46) fun r49 h50 => gd (decide (kd h46 v0 = 3)) <| gd (decide (r49 = 0 ∨ r49 = 1)) <| some (r49, h50)) else ob2 (F_X3_begin v0 (5 : Int32) v1 h) fun _ h56 => gd (decide (kd h v0 = 3)) <| ob2 (F_X3_keep v0 (1 : Int32) (0 : Int32) (99999 : Int32) v1 h56) fun r59 h60 => gd (decide (kd h56 v0 = 3)) <| gd (decide (r59 = 0 ∨ r59 = 1)) <| some (r59, h60)) else ob2 (F_X3_begin v0 (4 : Int32) v1 h) fun _ h66 => gd (decide (kd h v0 = 3)) <| gd (decide (kd h66 v0 = 3)) <| ob2 (F_X3_keep v0 (1 : Int32) (0 : Int32) ((zI h66 v0 2) - (1 : Int32)) v1 h66) fun r70 h71 => (if r70 = 0 then F_X3_readLine_b152 h71 else ob2 (F_X3_keep v0 (2 : Int32) (0 : Int32) (999 : Int32) v1 h71) fun r74 h75 => gd (decide (kd h71 v0 = 3)) <| (if r74 = 0 then F_X3_readLine_b152 h75 else F_X3_readLine_b153 (1 : Int32) h75))) else ob2 (F_X3_begin v0 (3 : Int32) v1 h) fun _ h82 => gd (decide (kd h v0 = 3)) <| ob2 (F_X3_keep v0 (1 : Int32) (0 : Int32) (999 : Int32) v1 h82) fun r85 h86 => gd (decide (kd h82 v0 = 3)) <| (if r85 = 0 then F_X3_readLine_b102 h86 else ob2 (F_X6_takeWord v1 (4 : UInt32) h86) fun r90 h91 => gd (decide (kd h86 v1 = 6)) <| (if r90 = 0 then F_X3_readLine_b102 h91 else gd (decide (kd h91 v0 = 3)) <| ob2 (F_X3_keep v0 (2 : Int32) (0 : Int32) ((zI h91 v0 2) - (1 : Int32)) v1 h91) fun r95 h96 => (if r95 = 0 then F_X3_readLine_b102 h96 else F_X3_readLine_b103 (1 : Int32) h96)))) else ob2 (F_X3_readTrunk v0 v1 h) fun r102 h103 => gd (decide (kd h v0 = 3)) <| gd (decide (r102 = 0 ∨ r102 = 1)) <| some (r102, h103)) else ob2 (F_X3_readGuest v0 v1 h) fun r108 h109 => gd (decide (kd h v0 = 3)) <| gd (decide (r108 = 0 ∨ r108 = 1)) <| some (r108, h109)) else ob2 (F_X3_readRoom v0 v1 h) fun r114 h115 => gd (decide (kd h v0 = 3)) <| gd (decide (r114 = 0 ∨ r114 = 1)) <| some (r114, h115))
set_option maxHeartbeats 4000000 in
set_option maxRecDepth 100000 in
theorem r_X3_readLine_b0 (v0 : Nat) (v1 : Nat) (h : Hp) {x : Cx} {r : Int32} {hz : Hp} (e : F_X3_readLine_b0 v0 v1 h = some (r, hz)) (hF : Fin9 M_X3_readLine x (some .boolean) (some (.int r)) hz) : V M_X3_readLine x 7 0 [(0, .ref v0), (1, .ref v1)] [] h 0 0 := by
  unfold F_X3_readLine_b0 at e
  refine V_aload_n (pc := 0) (i := 1) dX3_readLine_0 rfl rfl ?_
  refine V_ldcS (pc := 1) (j := 2) (u := (2 : UInt32)) dX3_readLine_1 rfl (by decide) ?_
  obtain ⟨r2, g1, e⟩ := ob_some e
  obtain ⟨g3, e⟩ := gd_some e
  refine V_callV (pc := 3) (bc := 0) (bs := 0) (mc := 0) (ms := 0) (st := []) (As := [.float (2 : UInt32)]) (a := v1) (h' := h) (r := some (.int r2)) dX3_readLine_3 ml_X3_39 (ci := 6) rfl (of_decide_eq_true g3) rfl rfl (Nat.le_of_ble_eq_true rfl) (d' := 4) (by decide) (c_X6_isWord (l := x.2.1) v1 (2 : UInt32) h g1) ?_
  refine V_if_eq (pc := 6) (tgt := 15) dX3_readLine_6 (by decide) (fun c118 => ?_) (fun c118 => ?_)
  · rw [if_pos c118] at e
    refine V_pick [0, 1] rfl ?_
    refine V_aload_n (pc := 15) (i := 1) dX3_readLine_15 rfl rfl ?_
    refine V_ldcS (pc := 16) (j := 3) (u := (3 : UInt32)) dX3_readLine_16 rfl (by decide) ?_
    obtain ⟨r5, g4, e⟩ := ob_some e
    refine V_callV (pc := 18) (bc := 0) (bs := 0) (mc := 0) (ms := 0) (st := []) (As := [.float (3 : UInt32)]) (a := v1) (h' := h) (r := some (.int r5)) dX3_readLine_18 ml_X3_39 (ci := 6) rfl (of_decide_eq_true g3) rfl rfl (Nat.le_of_ble_eq_true rfl) (d' := 4) (by decide) (c_X6_isWord (l := x.2.1) v1 (3 : UInt32) h g4) ?_
    refine V_if_eq (pc := 21) (tgt := 30) dX3_readLine_21 (by decide) (fun c112 => ?_) (fun c112 => ?_)
    · rw [if_pos c112] at e
      refine V_pick [0, 1] rfl ?_
      refine V_aload_n (pc := 30) (i := 1) dX3_readLine_30 rfl rfl ?_
      refine V_ldcS (pc := 31) (j := 5) (u := (5 : UInt32)) dX3_readLine_31 rfl (by decide) ?_
      obtain ⟨r7, g6, e⟩ := ob_some e
      refine V_callV (pc := 33) (bc := 0) (bs := 0) (mc := 0) (ms := 0) (st := []) (As := [.float (5 : UInt32)]) (a := v1) (h' := h) (r := some (.int r7)) dX3_readLine_33 ml_X3_39 (ci := 6) rfl (of_decide_eq_true g3) rfl rfl (Nat.le_of_ble_eq_true rfl) (d' := 4) (by decide) (c_X6_isWord (l := x.2.1) v1 (5 : UInt32) h g6) ?_
      refine V_if_eq (pc := 36) (tgt := 45) dX3_readLine_36 (by decide) (fun c106 => ?_) (fun c106 => ?_)
      · rw [if_pos c106] at e
        refine V_pick [0, 1] rfl ?_
        refine V_aload_n (pc := 45) (i := 1) dX3_readLine_45 rfl rfl ?_
        refine V_ldcS (pc := 46) (j := 7) (u := (7 : UInt32)) dX3_readLine_46 rfl (by decide) ?_
        obtain ⟨r9, g8, e⟩ := ob_some e
        refine V_callV (pc := 48) (bc := 0) (bs := 0) (mc := 0) (ms := 0) (st := []) (As := [.float (7 : UInt32)]) (a := v1) (h' := h) (r := some (.int r9)) dX3_readLine_48 ml_X3_39 (ci := 6) rfl (of_decide_eq_true g3) rfl rfl (Nat.le_of_ble_eq_true rfl) (d' := 4) (by decide) (c_X6_isWord (l := x.2.1) v1 (7 : UInt32) h g8) ?_
        refine V_if_eq (pc := 51) (tgt := 104) dX3_readLine_51 (by decide) (fun c100 => ?_) (fun c100 => ?_)
        · rw [if_pos c100] at e
          refine V_pick [0, 1] rfl ?_
          refine V_aload_n (pc := 104) (i := 1) dX3_readLine_104 rfl rfl ?_
          refine V_ldcS (pc := 105) (j := 8) (u := (8 : UInt32)) dX3_readLine_105 rfl (by decide) ?_
          obtain ⟨r11, g10, e⟩ := ob_some e
          refine V_callV (pc := 107) (bc := 0) (bs := 0) (mc := 0) (ms := 0) (st := []) (As := [.float (8 : UInt32)]) (a := v1) (h' := h) (r := some (.int r11)) dX3_readLine_107 ml_X3_39 (ci := 6) rfl (of_decide_eq_true g3) rfl rfl (Nat.le_of_ble_eq_true rfl) (d' := 4) (by decide) (c_X6_isWord (l := x.2.1) v1 (8 : UInt32) h g10) ?_
          refine V_if_eq (pc := 110) (tgt := 154) dX3_readLine_110 (by decide) (fun c79 => ?_) (fun c79 => ?_)
          · rw [if_pos c79] at e
            refine V_pick [0, 1] rfl ?_
            refine V_aload_n (pc := 154) (i := 1) dX3_readLine_154 rfl rfl ?_
            refine V_ldcS (pc := 155) (j := 9) (u := (9 : UInt32)) dX3_readLine_155 rfl (by decide) ?_
            obtain ⟨r13, g12, e⟩ := ob_some e
            refine V_callV (pc := 157) (bc := 0) (bs := 0) (mc := 0) (ms := 0) (st := []) (As := [.float (9 : UInt32)]) (a := v1) (h' := h) (r := some (.int r13)) dX3_readLine_157 ml_X3_39 (ci := 6) rfl (of_decide_eq_true g3) rfl rfl (Nat.le_of_ble_eq_true rfl) (d' := 4) (by decide) (c_X6_isWord (l := x.2.1) v1 (9 : UInt32) h g12) ?_
            refine V_if_eq (pc := 160) (tgt := 179) dX3_readLine_160 (by decide) (fun c63 => ?_) (fun c63 => ?_)
            · rw [if_pos c63] at e
              refine V_pick [0, 1] rfl ?_
              refine V_aload_n (pc := 179) (i := 1) dX3_readLine_179 rfl rfl ?_
              refine V_ldcS (pc := 180) (j := 10) (u := (10 : UInt32)) dX3_readLine_180 rfl (by decide) ?_
              obtain ⟨r15, g14, e⟩ := ob_some e
              refine V_callV (pc := 182) (bc := 0) (bs := 0) (mc := 0) (ms := 0) (st := []) (As := [.float (10 : UInt32)]) (a := v1) (h' := h) (r := some (.int r15)) dX3_readLine_182 ml_X3_39 (ci := 6) rfl (of_decide_eq_true g3) rfl rfl (Nat.le_of_ble_eq_true rfl) (d' := 4) (by decide) (c_X6_isWord (l := x.2.1) v1 (10 : UInt32) h g14) ?_
              refine V_if_eq (pc := 185) (tgt := 205) dX3_readLine_185 (by decide) (fun c53 => ?_) (fun c53 => ?_)
              · rw [if_pos c53] at e
                refine V_pick [0, 1] rfl ?_
                refine V_aload_n (pc := 205) (i := 1) dX3_readLine_205 rfl rfl ?_
                refine V_ldcS (pc := 206) (j := 11) (u := (11 : UInt32)) dX3_readLine_206 rfl (by decide) ?_
                obtain ⟨r17, g16, e⟩ := ob_some e
                refine V_callV (pc := 208) (bc := 0) (bs := 0) (mc := 0) (ms := 0) (st := []) (As := [.float (11 : UInt32)]) (a := v1) (h' := h) (r := some (.int r17)) dX3_readLine_208 ml_X3_39 (ci := 6) rfl (of_decide_eq_true g3) rfl rfl (Nat.le_of_ble_eq_true rfl) (d' := 4) (by decide) (c_X6_isWord (l := x.2.1) v1 (11 : UInt32) h g16) ?_
                refine V_if_eq (pc := 211) (tgt := 235) dX3_readLine_211 (by decide) (fun c43 => ?_) (fun c43 => ?_)
                · rw [if_pos c43] at e
                  refine V_pick [0, 1] rfl ?_
                  refine V_aload_n (pc := 235) (i := 1) dX3_readLine_235 rfl rfl ?_
                  refine V_ldcS (pc := 236) (j := 12) (u := (12 : UInt32)) dX3_readLine_236 rfl (by decide) ?_
                  obtain ⟨r19, g18, e⟩ := ob_some e
                  refine V_callV (pc := 238) (bc := 0) (bs := 0) (mc := 0) (ms := 0) (st := []) (As := [.float (12 : UInt32)]) (a := v1) (h' := h) (r := some (.int r19)) dX3_readLine_238 ml_X3_39 (ci := 6) rfl (of_decide_eq_true g3) rfl rfl (Nat.le_of_ble_eq_true rfl) (d' := 4) (by decide) (c_X6_isWord (l := x.2.1) v1 (12 : UInt32) h g18) ?_
                  refine V_if_eq (pc := 241) (tgt := 265) dX3_readLine_241 (by decide) (fun c33 => ?_) (fun c33 => ?_)
                  · rw [if_pos c33] at e
                    refine V_pick [1] rfl ?_
                    refine V_aload_n (pc := 265) (i := 1) dX3_readLine_265 rfl rfl ?_
                    obtain ⟨r21, h22, g20, e⟩ := ob2_some e
                    refine V_callV (pc := 266) (bc := 0) (bs := 0) (mc := 0) (ms := 0) (st := []) (As := []) (a := v1) (h' := h22) (r := some (.int r21)) dX3_readLine_266 ml_X3_85 (ci := 6) rfl (of_decide_eq_true g3) rfl rfl (Nat.le_of_ble_eq_true rfl) (d' := 0) (by decide) (c_X6_refuse (l := x.2.1) v1 h g20) ?_
                    obtain ⟨g23, e⟩ := gd_some e
                    cases e
                    exact V_zret (pc := 269) dX3_readLine_269 (z01 (of_decide_eq_true g23)) hF
                  · rw [if_neg c33] at e
                    refine V_pick [0, 1] rfl ?_
                    refine V_aload_n (pc := 244) (i := 0) dX3_readLine_244 rfl rfl ?_
                    refine V_bipush (pc := 245) (v := (8 : Int32)) dX3_readLine_245 (by decide) ?_
                    refine V_aload_n (pc := 247) (i := 1) dX3_readLine_247 rfl rfl ?_
                    obtain ⟨r25, h26, g24, e⟩ := ob2_some e
                    obtain ⟨g27, e⟩ := gd_some e
                    refine V_callV (pc := 248) (bc := 0) (bs := 0) (mc := 0) (ms := 0) (st := []) (As := [.int (8 : Int32), .ref v1]) (a := v0) (h' := h26) (r := none) dX3_readLine_248 ml_X3_61 (ci := 3) rfl (of_decide_eq_true g27) rfl rfl (Nat.le_of_ble_eq_true rfl) (d' := 2) (by decide) (c_X3_begin (l := x.2.1) v0 (8 : Int32) v1 h g24) ?_
                    refine V_aload_n (pc := 251) (i := 0) dX3_readLine_251 rfl rfl ?_
                    refine V_iconst (pc := 252) (v := (1 : Int32)) dX3_readLine_252 (by decide) ?_
                    refine V_iconst (pc := 253) (v := (0 : Int32)) dX3_readLine_253 (by decide) ?_
                    refine V_aload_n (pc := 254) (i := 0) dX3_readLine_254 rfl rfl ?_
                    obtain ⟨g28, e⟩ := gd_some e
                    refine V_getI (pc := 255) (ci := 3) (k := 2) dX3_readLine_255 fl_X3_15 rfl (of_decide_eq_true g28) ?_
                    refine V_iconst (pc := 258) (v := (1 : Int32)) dX3_readLine_258 (by decide) ?_
                    refine V_isub (pc := 259) dX3_readLine_259 ?_
                    refine V_aload_n (pc := 260) (i := 1) dX3_readLine_260 rfl rfl ?_
                    obtain ⟨r30, h31, g29, e⟩ := ob2_some e
                    refine V_callV (pc := 261) (bc := 0) (bs := 0) (mc := 0) (ms := 0) (st := []) (As := [.int (1 : Int32), .int (0 : Int32), .int ((zI h26 v0 2) - (1 : Int32)), .ref v1]) (a := v0) (h' := h31) (r := some (.int r30)) dX3_readLine_261 ml_X3_65 (ci := 3) rfl (of_decide_eq_true g28) rfl rfl (Nat.le_of_ble_eq_true rfl) (d' := 3) (by decide) (c_X3_keep (l := x.2.1) v0 (1 : Int32) (0 : Int32) ((zI h26 v0 2) - (1 : Int32)) v1 h26 g29) ?_
                    obtain ⟨g32, e⟩ := gd_some e
                    cases e
                    exact V_zret (pc := 264) dX3_readLine_264 (z01 (of_decide_eq_true g32)) hF
                · rw [if_neg c43] at e
                  refine V_pick [0, 1] rfl ?_
                  refine V_aload_n (pc := 214) (i := 0) dX3_readLine_214 rfl rfl ?_
                  refine V_bipush (pc := 215) (v := (7 : Int32)) dX3_readLine_215 (by decide) ?_
                  refine V_aload_n (pc := 217) (i := 1) dX3_readLine_217 rfl rfl ?_
                  obtain ⟨r35, h36, g34, e⟩ := ob2_some e
                  obtain ⟨g37, e⟩ := gd_some e
                  refine V_callV (pc := 218) (bc := 0) (bs := 0) (mc := 0) (ms := 0) (st := []) (As := [.int (7 : Int32), .ref v1]) (a := v0) (h' := h36) (r := none) dX3_readLine_218 ml_X3_61 (ci := 3) rfl (of_decide_eq_true g37) rfl rfl (Nat.le_of_ble_eq_true rfl) (d' := 2) (by decide) (c_X3_begin (l := x.2.1) v0 (7 : Int32) v1 h g34) ?_
                  refine V_aload_n (pc := 221) (i := 0) dX3_readLine_221 rfl rfl ?_
                  refine V_iconst (pc := 222) (v := (1 : Int32)) dX3_readLine_222 (by decide) ?_
                  refine V_iconst (pc := 223) (v := (0 : Int32)) dX3_readLine_223 (by decide) ?_
                  refine V_aload_n (pc := 224) (i := 0) dX3_readLine_224 rfl rfl ?_
                  obtain ⟨g38, e⟩ := gd_some e
                  refine V_getI (pc := 225) (ci := 3) (k := 2) dX3_readLine_225 fl_X3_15 rfl (of_decide_eq_true g38) ?_
                  refine V_iconst (pc := 228) (v := (1 : Int32)) dX3_readLine_228 (by decide) ?_
                  refine V_isub (pc := 229) dX3_readLine_229 ?_
                  refine V_aload_n (pc := 230) (i := 1) dX3_readLine_230 rfl rfl ?_
                  obtain ⟨r40, h41, g39, e⟩ := ob2_some e
                  refine V_callV (pc := 231) (bc := 0) (bs := 0) (mc := 0) (ms := 0) (st := []) (As := [.int (1 : Int32), .int (0 : Int32), .int ((zI h36 v0 2) - (1 : Int32)), .ref v1]) (a := v0) (h' := h41) (r := some (.int r40)) dX3_readLine_231 ml_X3_65 (ci := 3) rfl (of_decide_eq_true g38) rfl rfl (Nat.le_of_ble_eq_true rfl) (d' := 3) (by decide) (c_X3_keep (l := x.2.1) v0 (1 : Int32) (0 : Int32) ((zI h36 v0 2) - (1 : Int32)) v1 h36 g39) ?_
                  obtain ⟨g42, e⟩ := gd_some e
                  cases e
                  exact V_zret (pc := 234) dX3_readLine_234 (z01 (of_decide_eq_true g42)) hF
              · rw [if_neg c53] at e
                refine V_pick [0, 1] rfl ?_
                refine V_aload_n (pc := 188) (i := 0) dX3_readLine_188 rfl rfl ?_
                refine V_bipush (pc := 189) (v := (6 : Int32)) dX3_readLine_189 (by decide) ?_
                refine V_aload_n (pc := 191) (i := 1) dX3_readLine_191 rfl rfl ?_
                obtain ⟨r45, h46, g44, e⟩ := ob2_some e
                obtain ⟨g47, e⟩ := gd_some e
                refine V_callV (pc := 192) (bc := 0) (bs := 0) (mc := 0) (ms := 0) (st := []) (As := [.int (6 : Int32), .ref v1]) (a := v0) (h' := h46) (r := none) dX3_readLine_192 ml_X3_61 (ci := 3) rfl (of_decide_eq_true g47) rfl rfl (Nat.le_of_ble_eq_true rfl) (d' := 2) (by decide) (c_X3_begin (l := x.2.1) v0 (6 : Int32) v1 h g44) ?_
                refine V_aload_n (pc := 195) (i := 0) dX3_readLine_195 rfl rfl ?_
                refine V_iconst (pc := 196) (v := (1 : Int32)) dX3_readLine_196 (by decide) ?_
                refine V_iconst (pc := 197) (v := (0 : Int32)) dX3_readLine_197 (by decide) ?_
                refine V_ldc (pc := 198) (v := (99999 : Int32)) dX3_readLine_198 (wk_X3_78) ?_
                refine V_aload_n (pc := 200) (i := 1) dX3_readLine_200 rfl rfl ?_
                obtain ⟨r49, h50, g48, e⟩ := ob2_some e
                obtain ⟨g51, e⟩ := gd_some e
                refine V_callV (pc := 201) (bc := 0) (bs := 0) (mc := 0) (ms := 0) (st := []) (As := [.int (1 : Int32), .int (0 : Int32), .int (99999 : Int32), .ref v1]) (a := v0) (h' := h50) (r := some (.int r49)) dX3_readLine_201 ml_X3_65 (ci := 3) rfl (of_decide_eq_true g51) rfl rfl (Nat.le_of_ble_eq_true rfl) (d' := 3) (by decide) (c_X3_keep (l := x.2.1) v0 (1 : Int32) (0 : Int32) (99999 : Int32) v1 h46 g48) ?_
                obtain ⟨g52, e⟩ := gd_some e
                cases e
                exact V_zret (pc := 204) dX3_readLine_204 (z01 (of_decide_eq_true g52)) hF
            · rw [if_neg c63] at e
              refine V_pick [0, 1] rfl ?_
              refine V_aload_n (pc := 163) (i := 0) dX3_readLine_163 rfl rfl ?_
              refine V_iconst (pc := 164) (v := (5 : Int32)) dX3_readLine_164 (by decide) ?_
              refine V_aload_n (pc := 165) (i := 1) dX3_readLine_165 rfl rfl ?_
              obtain ⟨r55, h56, g54, e⟩ := ob2_some e
              obtain ⟨g57, e⟩ := gd_some e
              refine V_callV (pc := 166) (bc := 0) (bs := 0) (mc := 0) (ms := 0) (st := []) (As := [.int (5 : Int32), .ref v1]) (a := v0) (h' := h56) (r := none) dX3_readLine_166 ml_X3_61 (ci := 3) rfl (of_decide_eq_true g57) rfl rfl (Nat.le_of_ble_eq_true rfl) (d' := 2) (by decide) (c_X3_begin (l := x.2.1) v0 (5 : Int32) v1 h g54) ?_
              refine V_aload_n (pc := 169) (i := 0) dX3_readLine_169 rfl rfl ?_
              refine V_iconst (pc := 170) (v := (1 : Int32)) dX3_readLine_170 (by decide) ?_
              refine V_iconst (pc := 171) (v := (0 : Int32)) dX3_readLine_171 (by decide) ?_
              refine V_ldc (pc := 172) (v := (99999 : Int32)) dX3_readLine_172 (wk_X3_78) ?_
              refine V_aload_n (pc := 174) (i := 1) dX3_readLine_174 rfl rfl ?_
              obtain ⟨r59, h60, g58, e⟩ := ob2_some e
              obtain ⟨g61, e⟩ := gd_some e
              refine V_callV (pc := 175) (bc := 0) (bs := 0) (mc := 0) (ms := 0) (st := []) (As := [.int (1 : Int32), .int (0 : Int32), .int (99999 : Int32), .ref v1]) (a := v0) (h' := h60) (r := some (.int r59)) dX3_readLine_175 ml_X3_65 (ci := 3) rfl (of_decide_eq_true g61) rfl rfl (Nat.le_of_ble_eq_true rfl) (d' := 3) (by decide) (c_X3_keep (l := x.2.1) v0 (1 : Int32) (0 : Int32) (99999 : Int32) v1 h56 g58) ?_
              obtain ⟨g62, e⟩ := gd_some e
              cases e
              exact V_zret (pc := 178) dX3_readLine_178 (z01 (of_decide_eq_true g62)) hF
          · rw [if_neg c79] at e
            refine V_pick [0, 1] rfl ?_
            refine V_aload_n (pc := 113) (i := 0) dX3_readLine_113 rfl rfl ?_
            refine V_iconst (pc := 114) (v := (4 : Int32)) dX3_readLine_114 (by decide) ?_
            refine V_aload_n (pc := 115) (i := 1) dX3_readLine_115 rfl rfl ?_
            obtain ⟨r65, h66, g64, e⟩ := ob2_some e
            obtain ⟨g67, e⟩ := gd_some e
            refine V_callV (pc := 116) (bc := 0) (bs := 0) (mc := 0) (ms := 0) (st := []) (As := [.int (4 : Int32), .ref v1]) (a := v0) (h' := h66) (r := none) dX3_readLine_116 ml_X3_61 (ci := 3) rfl (of_decide_eq_true g67) rfl rfl (Nat.le_of_ble_eq_true rfl) (d' := 2) (by decide) (c_X3_begin (l := x.2.1) v0 (4 : Int32) v1 h g64) ?_
            refine V_aload_n (pc := 119) (i := 0) dX3_readLine_119 rfl rfl ?_
            refine V_iconst (pc := 120) (v := (1 : Int32)) dX3_readLine_120 (by decide) ?_
            refine V_iconst (pc := 121) (v := (0 : Int32)) dX3_readLine_121 (by decide) ?_
            refine V_aload_n (pc := 122) (i := 0) dX3_readLine_122 rfl rfl ?_
            obtain ⟨g68, e⟩ := gd_some e
            refine V_getI (pc := 123) (ci := 3) (k := 2) dX3_readLine_123 fl_X3_15 rfl (of_decide_eq_true g68) ?_
            refine V_iconst (pc := 126) (v := (1 : Int32)) dX3_readLine_126 (by decide) ?_
            refine V_isub (pc := 127) dX3_readLine_127 ?_
            refine V_aload_n (pc := 128) (i := 1) dX3_readLine_128 rfl rfl ?_
            obtain ⟨r70, h71, g69, e⟩ := ob2_some e
            refine V_callV (pc := 129) (bc := 0) (bs := 0) (mc := 0) (ms := 0) (st := []) (As := [.int (1 : Int32), .int (0 : Int32), .int ((zI h66 v0 2) - (1 : Int32)), .ref v1]) (a := v0) (h' := h71) (r := some (.int r70)) dX3_readLine_129 ml_X3_65 (ci := 3) rfl (of_decide_eq_true g68) rfl rfl (Nat.le_of_ble_eq_true rfl) (d' := 3) (by decide) (c_X3_keep (l := x.2.1) v0 (1 : Int32) (0 : Int32) ((zI h66 v0 2) - (1 : Int32)) v1 h66 g69) ?_
            refine V_if_eq (pc := 132) (tgt := 152) dX3_readLine_132 (by decide) (fun c78 => ?_) (fun c78 => ?_)
            · rw [if_pos c78] at e
              exact V_pick [] rfl (r_X3_readLine_b152 h71 e hF)
            · rw [if_neg c78] at e
              refine V_pick [0, 1] rfl ?_
              refine V_aload_n (pc := 135) (i := 0) dX3_readLine_135 rfl rfl ?_
              refine V_iconst (pc := 136) (v := (2 : Int32)) dX3_readLine_136 (by decide) ?_
              refine V_iconst (pc := 137) (v := (0 : Int32)) dX3_readLine_137 (by decide) ?_
              refine V_sipush (pc := 138) (v := (999 : Int32)) dX3_readLine_138 (by decide) ?_
              refine V_aload_n (pc := 141) (i := 1) dX3_readLine_141 rfl rfl ?_
              obtain ⟨r74, h75, g73, e⟩ := ob2_some e
              obtain ⟨g76, e⟩ := gd_some e
              refine V_callV (pc := 142) (bc := 0) (bs := 0) (mc := 0) (ms := 0) (st := []) (As := [.int (2 : Int32), .int (0 : Int32), .int (999 : Int32), .ref v1]) (a := v0) (h' := h75) (r := some (.int r74)) dX3_readLine_142 ml_X3_65 (ci := 3) rfl (of_decide_eq_true g76) rfl rfl (Nat.le_of_ble_eq_true rfl) (d' := 3) (by decide) (c_X3_keep (l := x.2.1) v0 (2 : Int32) (0 : Int32) (999 : Int32) v1 h71 g73) ?_
              refine V_if_eq (pc := 145) (tgt := 152) dX3_readLine_145 (by decide) (fun c77 => ?_) (fun c77 => ?_)
              · rw [if_pos c77] at e
                exact V_pick [] rfl (r_X3_readLine_b152 h75 e hF)
              · rw [if_neg c77] at e
                refine V_pick [] rfl ?_
                refine V_iconst (pc := 148) (v := (1 : Int32)) dX3_readLine_148 (by decide) ?_
                refine V_goto (pc := 149) (tgt := 153) dX3_readLine_149 (by decide) ?_
                exact V_pick [] rfl (r_X3_readLine_b153 (1 : Int32) h75 e hF)
        · rw [if_neg c100] at e
          refine V_pick [0, 1] rfl ?_
          refine V_aload_n (pc := 54) (i := 0) dX3_readLine_54 rfl rfl ?_
          refine V_iconst (pc := 55) (v := (3 : Int32)) dX3_readLine_55 (by decide) ?_
          refine V_aload_n (pc := 56) (i := 1) dX3_readLine_56 rfl rfl ?_
          obtain ⟨r81, h82, g80, e⟩ := ob2_some e
          obtain ⟨g83, e⟩ := gd_some e
          refine V_callV (pc := 57) (bc := 0) (bs := 0) (mc := 0) (ms := 0) (st := []) (As := [.int (3 : Int32), .ref v1]) (a := v0) (h' := h82) (r := none) dX3_readLine_57 ml_X3_61 (ci := 3) rfl (of_decide_eq_true g83) rfl rfl (Nat.le_of_ble_eq_true rfl) (d' := 2) (by decide) (c_X3_begin (l := x.2.1) v0 (3 : Int32) v1 h g80) ?_
          refine V_aload_n (pc := 60) (i := 0) dX3_readLine_60 rfl rfl ?_
          refine V_iconst (pc := 61) (v := (1 : Int32)) dX3_readLine_61 (by decide) ?_
          refine V_iconst (pc := 62) (v := (0 : Int32)) dX3_readLine_62 (by decide) ?_
          refine V_sipush (pc := 63) (v := (999 : Int32)) dX3_readLine_63 (by decide) ?_
          refine V_aload_n (pc := 66) (i := 1) dX3_readLine_66 rfl rfl ?_
          obtain ⟨r85, h86, g84, e⟩ := ob2_some e
          obtain ⟨g87, e⟩ := gd_some e
          refine V_callV (pc := 67) (bc := 0) (bs := 0) (mc := 0) (ms := 0) (st := []) (As := [.int (1 : Int32), .int (0 : Int32), .int (999 : Int32), .ref v1]) (a := v0) (h' := h86) (r := some (.int r85)) dX3_readLine_67 ml_X3_65 (ci := 3) rfl (of_decide_eq_true g87) rfl rfl (Nat.le_of_ble_eq_true rfl) (d' := 3) (by decide) (c_X3_keep (l := x.2.1) v0 (1 : Int32) (0 : Int32) (999 : Int32) v1 h82 g84) ?_
          refine V_if_eq (pc := 70) (tgt := 102) dX3_readLine_70 (by decide) (fun c99 => ?_) (fun c99 => ?_)
          · rw [if_pos c99] at e
            exact V_pick [] rfl (r_X3_readLine_b102 h86 e hF)
          · rw [if_neg c99] at e
            refine V_pick [0, 1] rfl ?_
            refine V_aload_n (pc := 73) (i := 1) dX3_readLine_73 rfl rfl ?_
            refine V_ldcS (pc := 74) (j := 4) (u := (4 : UInt32)) dX3_readLine_74 rfl (by decide) ?_
            obtain ⟨r90, h91, g89, e⟩ := ob2_some e
            obtain ⟨g92, e⟩ := gd_some e
            refine V_callV (pc := 76) (bc := 0) (bs := 0) (mc := 0) (ms := 0) (st := []) (As := [.float (4 : UInt32)]) (a := v1) (h' := h91) (r := some (.int r90)) dX3_readLine_76 ml_X3_71 (ci := 6) rfl (of_decide_eq_true g92) rfl rfl (Nat.le_of_ble_eq_true rfl) (d' := 5) (by decide) (c_X6_takeWord (l := x.2.1) v1 (4 : UInt32) h86 g89) ?_
            refine V_if_eq (pc := 79) (tgt := 102) dX3_readLine_79 (by decide) (fun c98 => ?_) (fun c98 => ?_)
            · rw [if_pos c98] at e
              exact V_pick [] rfl (r_X3_readLine_b102 h91 e hF)
            · rw [if_neg c98] at e
              refine V_pick [0, 1] rfl ?_
              refine V_aload_n (pc := 82) (i := 0) dX3_readLine_82 rfl rfl ?_
              refine V_iconst (pc := 83) (v := (2 : Int32)) dX3_readLine_83 (by decide) ?_
              refine V_iconst (pc := 84) (v := (0 : Int32)) dX3_readLine_84 (by decide) ?_
              refine V_aload_n (pc := 85) (i := 0) dX3_readLine_85 rfl rfl ?_
              obtain ⟨g93, e⟩ := gd_some e
              refine V_getI (pc := 86) (ci := 3) (k := 2) dX3_readLine_86 fl_X3_15 rfl (of_decide_eq_true g93) ?_
              refine V_iconst (pc := 89) (v := (1 : Int32)) dX3_readLine_89 (by decide) ?_
              refine V_isub (pc := 90) dX3_readLine_90 ?_
              refine V_aload_n (pc := 91) (i := 1) dX3_readLine_91 rfl rfl ?_
              obtain ⟨r95, h96, g94, e⟩ := ob2_some e
              refine V_callV (pc := 92) (bc := 0) (bs := 0) (mc := 0) (ms := 0) (st := []) (As := [.int (2 : Int32), .int (0 : Int32), .int ((zI h91 v0 2) - (1 : Int32)), .ref v1]) (a := v0) (h' := h96) (r := some (.int r95)) dX3_readLine_92 ml_X3_65 (ci := 3) rfl (of_decide_eq_true g93) rfl rfl (Nat.le_of_ble_eq_true rfl) (d' := 3) (by decide) (c_X3_keep (l := x.2.1) v0 (2 : Int32) (0 : Int32) ((zI h91 v0 2) - (1 : Int32)) v1 h91 g94) ?_
              refine V_if_eq (pc := 95) (tgt := 102) dX3_readLine_95 (by decide) (fun c97 => ?_) (fun c97 => ?_)
              · rw [if_pos c97] at e
                exact V_pick [] rfl (r_X3_readLine_b102 h96 e hF)
              · rw [if_neg c97] at e
                refine V_pick [] rfl ?_
                refine V_iconst (pc := 98) (v := (1 : Int32)) dX3_readLine_98 (by decide) ?_
                refine V_goto (pc := 99) (tgt := 103) dX3_readLine_99 (by decide) ?_
                exact V_pick [] rfl (r_X3_readLine_b103 (1 : Int32) h96 e hF)
      · rw [if_neg c106] at e
        refine V_pick [0, 1] rfl ?_
        refine V_aload_n (pc := 39) (i := 0) dX3_readLine_39 rfl rfl ?_
        refine V_aload_n (pc := 40) (i := 1) dX3_readLine_40 rfl rfl ?_
        obtain ⟨r102, h103, g101, e⟩ := ob2_some e
        obtain ⟨g104, e⟩ := gd_some e
        refine V_callV (pc := 41) (bc := 0) (bs := 0) (mc := 0) (ms := 0) (st := []) (As := [.ref v1]) (a := v0) (h' := h103) (r := some (.int r102)) dX3_readLine_41 ml_X3_56 (ci := 3) rfl (of_decide_eq_true g104) rfl rfl (Nat.le_of_ble_eq_true rfl) (d' := 6) (by decide) (c_X3_readTrunk (l := x.2.1) v0 v1 h g101) ?_
        obtain ⟨g105, e⟩ := gd_some e
        cases e
        exact V_zret (pc := 44) dX3_readLine_44 (z01 (of_decide_eq_true g105)) hF
    · rw [if_neg c112] at e
      refine V_pick [0, 1] rfl ?_
      refine V_aload_n (pc := 24) (i := 0) dX3_readLine_24 rfl rfl ?_
      refine V_aload_n (pc := 25) (i := 1) dX3_readLine_25 rfl rfl ?_
      obtain ⟨r108, h109, g107, e⟩ := ob2_some e
      obtain ⟨g110, e⟩ := gd_some e
      refine V_callV (pc := 26) (bc := 0) (bs := 0) (mc := 0) (ms := 0) (st := []) (As := [.ref v1]) (a := v0) (h' := h109) (r := some (.int r108)) dX3_readLine_26 ml_X3_51 (ci := 3) rfl (of_decide_eq_true g110) rfl rfl (Nat.le_of_ble_eq_true rfl) (d' := 6) (by decide) (c_X3_readGuest (l := x.2.1) v0 v1 h g107) ?_
      obtain ⟨g111, e⟩ := gd_some e
      cases e
      exact V_zret (pc := 29) dX3_readLine_29 (z01 (of_decide_eq_true g111)) hF
  · rw [if_neg c118] at e
    refine V_pick [0, 1] rfl ?_
    refine V_aload_n (pc := 9) (i := 0) dX3_readLine_9 rfl rfl ?_
    refine V_aload_n (pc := 10) (i := 1) dX3_readLine_10 rfl rfl ?_
    obtain ⟨r114, h115, g113, e⟩ := ob2_some e
    obtain ⟨g116, e⟩ := gd_some e
    refine V_callV (pc := 11) (bc := 0) (bs := 0) (mc := 0) (ms := 0) (st := []) (As := [.ref v1]) (a := v0) (h' := h115) (r := some (.int r114)) dX3_readLine_11 ml_X3_45 (ci := 3) rfl (of_decide_eq_true g116) rfl rfl (Nat.le_of_ble_eq_true rfl) (d' := 4) (by decide) (c_X3_readRoom (l := x.2.1) v0 v1 h g113) ?_
    obtain ⟨g117, e⟩ := gd_some e
    cases e
    exact V_zret (pc := 14) dX3_readLine_14 (z01 (of_decide_eq_true g117)) hF
def F_X3_readLine (v0 : Nat) (v1 : Nat) (v2 : Nat) (h : Hp) : Option (Int32 × Hp) := F_X3_readLine_b0 v0 v1 h
theorem c_X3_readLine {l : Launch} (v0 : Nat) (v1 : Nat) (v2 : Nat) (h : Hp) {r : Int32} {hz : Hp} (e : F_X3_readLine v0 v1 v2 h = some (r, hz)) : Ct l yX3_readLine M_X3_readLine (some .boolean) 7 [.ref v0, .ref v1, .ref v2] h 0 0 (some (.int r)) hz :=
  Ct_of rfl rfl (fun q => by cases q) (Nat.le_of_ble_eq_true rfl) (fun x _ hF => V_pick [0, 1] rfl (r_X3_readLine_b0 v0 v1 h e hF))
theorem dX4_bellsTo_0 : decode cX4_bellsTo 0 = .ok (.aload_n 2, 1) := by decide +kernel
theorem dX4_bellsTo_1 : decode cX4_bellsTo 1 = .ok (.aload_n 2, 1) := by decide +kernel
theorem dX4_bellsTo_2 : decode cX4_bellsTo 2 = .ok (.getfield 22, 3) := by decide +kernel
theorem dX4_bellsTo_5 : decode cX4_bellsTo 5 = .ok (.invokevirtual 27, 3) := by decide +kernel
theorem dX4_bellsTo_8 : decode cX4_bellsTo 8 = .ok (.istore 4, 2) := by decide +kernel
theorem dX4_bellsTo_10 : decode cX4_bellsTo 10 = .ok (.iload 4, 2) := by decide +kernel
theorem dX4_bellsTo_12 : decode cX4_bellsTo 12 = .ok (.iload_n 1, 1) := by decide +kernel
theorem dX4_bellsTo_13 : decode cX4_bellsTo 13 = .ok (.if_icmp .ne 5, 3) := by decide +kernel
theorem dX4_bellsTo_16 : decode cX4_bellsTo 16 = .ok (.iconst 0, 1) := by decide +kernel
theorem dX4_bellsTo_17 : decode cX4_bellsTo 17 = .ok (.ireturn, 1) := by decide +kernel
theorem dX4_bellsTo_18 : decode cX4_bellsTo 18 = .ok (.aload_n 0, 1) := by decide +kernel
theorem dX4_bellsTo_19 : decode cX4_bellsTo 19 = .ok (.aload_n 2, 1) := by decide +kernel
theorem dX4_bellsTo_20 : decode cX4_bellsTo 20 = .ok (.getfield 31, 3) := by decide +kernel
theorem dX4_bellsTo_23 : decode cX4_bellsTo 23 = .ok (.invokevirtual 34, 3) := by decide +kernel
theorem dX4_bellsTo_26 : decode cX4_bellsTo 26 = .ok (.aload_n 3, 1) := by decide +kernel
theorem dX4_bellsTo_27 : decode cX4_bellsTo 27 = .ok (.aload_n 2, 1) := by decide +kernel
theorem dX4_bellsTo_28 : decode cX4_bellsTo 28 = .ok (.aload_n 2, 1) := by decide +kernel
theorem dX4_bellsTo_29 : decode cX4_bellsTo 29 = .ok (.getfield 38, 3) := by decide +kernel
theorem dX4_bellsTo_32 : decode cX4_bellsTo 32 = .ok (.invokevirtual 41, 3) := by decide +kernel
theorem dX4_bellsTo_35 : decode cX4_bellsTo 35 = .ok (.aload_n 0, 1) := by decide +kernel
theorem dX4_bellsTo_36 : decode cX4_bellsTo 36 = .ok (.iconst 0, 1) := by decide +kernel
theorem dX4_bellsTo_37 : decode cX4_bellsTo 37 = .ok (.aload_n 2, 1) := by decide +kernel
theorem dX4_bellsTo_38 : decode cX4_bellsTo 38 = .ok (.aload_n 3, 1) := by decide +kernel
theorem dX4_bellsTo_39 : decode cX4_bellsTo 39 = .ok (.invokevirtual 47, 3) := by decide +kernel
theorem dX4_bellsTo_42 : decode cX4_bellsTo 42 = .ok (.iload_n 1, 1) := by decide +kernel
theorem dX4_bellsTo_43 : decode cX4_bellsTo 43 = .ok (.ifCond .lt 32, 3) := by decide +kernel
theorem dX4_bellsTo_46 : decode cX4_bellsTo 46 = .ok (.iload_n 1, 1) := by decide +kernel
theorem dX4_bellsTo_47 : decode cX4_bellsTo 47 = .ok (.aload_n 0, 1) := by decide +kernel
theorem dX4_bellsTo_48 : decode cX4_bellsTo 48 = .ok (.getfield 9, 3) := by decide +kernel
theorem dX4_bellsTo_51 : decode cX4_bellsTo 51 = .ok (.arraylength, 1) := by decide +kernel
theorem dX4_bellsTo_52 : decode cX4_bellsTo 52 = .ok (.if_icmp .ge 23, 3) := by decide +kernel
theorem dX4_bellsTo_55 : decode cX4_bellsTo 55 = .ok (.iload 4, 2) := by decide +kernel
theorem dX4_bellsTo_57 : decode cX4_bellsTo 57 = .ok (.aload_n 0, 1) := by decide +kernel
theorem dX4_bellsTo_58 : decode cX4_bellsTo 58 = .ok (.getfield 9, 3) := by decide +kernel
theorem dX4_bellsTo_61 : decode cX4_bellsTo 61 = .ok (.arraylength, 1) := by decide +kernel
theorem dX4_bellsTo_62 : decode cX4_bellsTo 62 = .ok (.if_icmp .ge 13, 3) := by decide +kernel
theorem dX4_bellsTo_65 : decode cX4_bellsTo 65 = .ok (.aload_n 0, 1) := by decide +kernel
theorem dX4_bellsTo_66 : decode cX4_bellsTo 66 = .ok (.getfield 9, 3) := by decide +kernel
theorem dX4_bellsTo_69 : decode cX4_bellsTo 69 = .ok (.iload_n 1, 1) := by decide +kernel
theorem dX4_bellsTo_70 : decode cX4_bellsTo 70 = .ok (.iaload, 1) := by decide +kernel
theorem dX4_bellsTo_71 : decode cX4_bellsTo 71 = .ok (.iconst (-1), 1) := by decide +kernel
theorem dX4_bellsTo_72 : decode cX4_bellsTo 72 = .ok (.if_icmp .eq 5, 3) := by decide +kernel
theorem dX4_bellsTo_75 : decode cX4_bellsTo 75 = .ok (.iconst (-1), 1) := by decide +kernel
theorem dX4_bellsTo_76 : decode cX4_bellsTo 76 = .ok (.ireturn, 1) := by decide +kernel
theorem dX4_bellsTo_77 : decode cX4_bellsTo 77 = .ok (.aload_n 0, 1) := by decide +kernel
theorem dX4_bellsTo_78 : decode cX4_bellsTo 78 = .ok (.getfield 9, 3) := by decide +kernel
theorem dX4_bellsTo_81 : decode cX4_bellsTo 81 = .ok (.iload 4, 2) := by decide +kernel
theorem dX4_bellsTo_83 : decode cX4_bellsTo 83 = .ok (.iconst (-1), 1) := by decide +kernel
theorem dX4_bellsTo_84 : decode cX4_bellsTo 84 = .ok (.iastore, 1) := by decide +kernel
theorem dX4_bellsTo_85 : decode cX4_bellsTo 85 = .ok (.aload_n 0, 1) := by decide +kernel
theorem dX4_bellsTo_86 : decode cX4_bellsTo 86 = .ok (.iload_n 1, 1) := by decide +kernel
theorem dX4_bellsTo_87 : decode cX4_bellsTo 87 = .ok (.iconst 0, 1) := by decide +kernel
theorem dX4_bellsTo_88 : decode cX4_bellsTo 88 = .ok (.invokevirtual 51, 3) := by decide +kernel
theorem dX4_bellsTo_91 : decode cX4_bellsTo 91 = .ok (.iconst 0, 1) := by decide +kernel
theorem dX4_bellsTo_92 : decode cX4_bellsTo 92 = .ok (.istore 5, 2) := by decide +kernel
theorem dX4_bellsTo_94 : decode cX4_bellsTo 94 = .ok (.iload 5, 2) := by decide +kernel
theorem dX4_bellsTo_96 : decode cX4_bellsTo 96 = .ok (.aload_n 0, 1) := by decide +kernel
theorem dX4_bellsTo_97 : decode cX4_bellsTo 97 = .ok (.getfield 18, 3) := by decide +kernel
theorem dX4_bellsTo_100 : decode cX4_bellsTo 100 = .ok (.if_icmp .ge 42, 3) := by decide +kernel
theorem dX4_bellsTo_103 : decode cX4_bellsTo 103 = .ok (.iload 5, 2) := by decide +kernel
theorem dX4_bellsTo_105 : decode cX4_bellsTo 105 = .ok (.aload_n 0, 1) := by decide +kernel
theorem dX4_bellsTo_106 : decode cX4_bellsTo 106 = .ok (.getfield 15, 3) := by decide +kernel
theorem dX4_bellsTo_109 : decode cX4_bellsTo 109 = .ok (.arraylength, 1) := by decide +kernel
theorem dX4_bellsTo_110 : decode cX4_bellsTo 110 = .ok (.if_icmp .ge 32, 3) := by decide +kernel
theorem dX4_bellsTo_113 : decode cX4_bellsTo 113 = .ok (.aload_n 0, 1) := by decide +kernel
theorem dX4_bellsTo_114 : decode cX4_bellsTo 114 = .ok (.getfield 9, 3) := by decide +kernel
theorem dX4_bellsTo_117 : decode cX4_bellsTo 117 = .ok (.iload 4, 2) := by decide +kernel
theorem dX4_bellsTo_119 : decode cX4_bellsTo 119 = .ok (.iaload, 1) := by decide +kernel
theorem dX4_bellsTo_120 : decode cX4_bellsTo 120 = .ok (.iconst (-1), 1) := by decide +kernel
theorem dX4_bellsTo_121 : decode cX4_bellsTo 121 = .ok (.if_icmp .ne 21, 3) := by decide +kernel
theorem dX4_bellsTo_124 : decode cX4_bellsTo 124 = .ok (.aload_n 0, 1) := by decide +kernel
theorem dX4_bellsTo_125 : decode cX4_bellsTo 125 = .ok (.aload_n 0, 1) := by decide +kernel
theorem dX4_bellsTo_126 : decode cX4_bellsTo 126 = .ok (.getfield 15, 3) := by decide +kernel
theorem dX4_bellsTo_129 : decode cX4_bellsTo 129 = .ok (.iload 5, 2) := by decide +kernel
theorem dX4_bellsTo_131 : decode cX4_bellsTo 131 = .ok (.iaload, 1) := by decide +kernel
theorem dX4_bellsTo_132 : decode cX4_bellsTo 132 = .ok (.aload_n 2, 1) := by decide +kernel
theorem dX4_bellsTo_133 : decode cX4_bellsTo 133 = .ok (.invokevirtual 55, 3) := by decide +kernel
theorem dX4_bellsTo_136 : decode cX4_bellsTo 136 = .ok (.iinc 5 1, 3) := by decide +kernel
theorem dX4_bellsTo_139 : decode cX4_bellsTo 139 = .ok (.goto (-45), 3) := by decide +kernel
theorem dX4_bellsTo_142 : decode cX4_bellsTo 142 = .ok (.aload_n 0, 1) := by decide +kernel
theorem dX4_bellsTo_143 : decode cX4_bellsTo 143 = .ok (.getfield 9, 3) := by decide +kernel
theorem dX4_bellsTo_146 : decode cX4_bellsTo 146 = .ok (.iload 4, 2) := by decide +kernel
theorem dX4_bellsTo_148 : decode cX4_bellsTo 148 = .ok (.iaload, 1) := by decide +kernel
theorem dX4_bellsTo_149 : decode cX4_bellsTo 149 = .ok (.iconst (-1), 1) := by decide +kernel
theorem dX4_bellsTo_150 : decode cX4_bellsTo 150 = .ok (.if_icmp .ne 7, 3) := by decide +kernel
theorem dX4_bellsTo_153 : decode cX4_bellsTo 153 = .ok (.iconst (-1), 1) := by decide +kernel
theorem dX4_bellsTo_154 : decode cX4_bellsTo 154 = .ok (.goto 10, 3) := by decide +kernel
theorem dX4_bellsTo_157 : decode cX4_bellsTo 157 = .ok (.aload_n 0, 1) := by decide +kernel
theorem dX4_bellsTo_158 : decode cX4_bellsTo 158 = .ok (.getfield 9, 3) := by decide +kernel
theorem dX4_bellsTo_161 : decode cX4_bellsTo 161 = .ok (.iload 4, 2) := by decide +kernel
theorem dX4_bellsTo_163 : decode cX4_bellsTo 163 = .ok (.iaload, 1) := by decide +kernel
theorem dX4_bellsTo_164 : decode cX4_bellsTo 164 = .ok (.ireturn, 1) := by decide +kernel
set_option maxRecDepth 100000 in
def F_X4_bellsTo_b75  (h : Hp) : Option (Int32 × Hp × Nat × Nat) :=
  some ((-1 : Int32), h, 0, 0)
set_option maxHeartbeats 4000000 in
set_option maxRecDepth 100000 in
theorem r_X4_bellsTo_b75  (h : Hp) {x : Cx} {r : Int32} {hz : Hp} {c9 s9 : Nat} (e : F_X4_bellsTo_b75  h = some (r, hz, c9, s9)) (hF : Fin9 M_X4_bellsTo x (some .int) (some (.int r)) hz) : V M_X4_bellsTo x 3 75 [] [] h c9 s9 := by
  unfold F_X4_bellsTo_b75 at e
  refine V_iconst (pc := 75) (v := (-1 : Int32)) dX4_bellsTo_75 (by decide) ?_
  cases e
  exact V_iret (pc := 76) dX4_bellsTo_76 hF
set_option maxRecDepth 100000 in
def F_X4_bellsTo_l94 (v0 : Nat) (v2 : Nat) (v4 : Int32) (v5 : Int32) (h : Hp) : Option ((Int32 × Hp) ⊕ Hp) :=
  gd (decide (kd h v0 = 4)) <| (if (zI h v0 2) ≤ v5 then some (.inr h) else ob (zR h v0 1) fun q42 => gd (decide (kd h q42 = 13)) <| (if (Int32.ofNat (zl h q42)) ≤ v5 then some (.inr h) else ob (zR h v0 0) fun q45 => gd (decide (kd h q45 = 13)) <| gd (ix v4 (zl h q45)) <| (if (zI h q45 (v4).toNatClampNeg) = (-1 : Int32) then ob (zR h v0 1) fun q49 => gd (decide (kd h q49 = 13)) <| gd (ix v5 (zl h q49)) <| ob2 (F_X4_sendGuests v0 (zI h q49 (v5).toNatClampNeg) v2 h) fun _ h55 => some (.inl (v5 + (1 : Int32), h55)) else some (.inr h))))
set_option maxHeartbeats 4000000 in
set_option maxRecDepth 100000 in
theorem r_X4_bellsTo_l94 (v0 : Nat) (v2 : Nat) (v4 : Int32) (v5 : Int32) (h : Hp) {bc bs : Nat} {x : Cx} {o : ((Int32 × Hp) ⊕ Hp)} (e : F_X4_bellsTo_l94 v0 v2 v4 v5 h = some o) (kI : ∀ z, o = .inl z → V M_X4_bellsTo x 3 94 [(0, .ref v0), (2, .ref v2), (4, .int v4), (5, .int z.1)] [] z.2 bc bs) (kE142 : ∀ z : Hp, o = .inr z → V M_X4_bellsTo x 3 142 [(0, .ref v0), (4, .int v4)] [] z bc bs) : V M_X4_bellsTo x 3 94 [(0, .ref v0), (2, .ref v2), (4, .int v4), (5, .int v5)] [] h bc bs := by
  unfold F_X4_bellsTo_l94 at e
  refine V_iload (pc := 94) (i := 5) dX4_bellsTo_94 rfl ?_
  refine V_aload_n (pc := 96) (i := 0) dX4_bellsTo_96 rfl rfl ?_
  replace e := gd_some e
  obtain ⟨g41, e⟩ := e
  refine V_getI (pc := 97) (ci := 4) (k := 2) dX4_bellsTo_97 fl_X4_18 rfl (of_decide_eq_true g41) ?_
  refine V_icmp_ge (pc := 100) (tgt := 142) dX4_bellsTo_100 (by decide) (fun c58 => ?_) (fun c58 => ?_)
  · rw [if_pos c58] at e
    cases e
    exact V_pick [0, 2] rfl (kE142 h rfl)
  · rw [if_neg c58] at e
    refine V_pick [0, 1, 2, 3] rfl ?_
    refine V_iload (pc := 103) (i := 5) dX4_bellsTo_103 rfl ?_
    refine V_aload_n (pc := 105) (i := 0) dX4_bellsTo_105 rfl rfl ?_
    replace e := ob_some e
    obtain ⟨q42, g43, e⟩ := e
    refine V_getR (pc := 106) (ci := 4) (k := 1) (b := q42) dX4_bellsTo_106 fl_X4_15 rfl (of_decide_eq_true g41) g43 ?_
    replace e := gd_some e
    obtain ⟨g44, e⟩ := e
    refine V_alen (pc := 109) (k := 13) dX4_bellsTo_109 (of_decide_eq_true g44) (by decide) ?_
    refine V_icmp_ge (pc := 110) (tgt := 142) dX4_bellsTo_110 (by decide) (fun c57 => ?_) (fun c57 => ?_)
    · rw [if_pos c57] at e
      cases e
      exact V_pick [0, 2] rfl (kE142 h rfl)
    · rw [if_neg c57] at e
      refine V_pick [0, 1, 2, 3] rfl ?_
      refine V_aload_n (pc := 113) (i := 0) dX4_bellsTo_113 rfl rfl ?_
      replace e := ob_some e
      obtain ⟨q45, g46, e⟩ := e
      refine V_getR (pc := 114) (ci := 4) (k := 0) (b := q45) dX4_bellsTo_114 fl_X4_9 rfl (of_decide_eq_true g41) g46 ?_
      refine V_iload (pc := 117) (i := 4) dX4_bellsTo_117 rfl ?_
      replace e := gd_some e
      obtain ⟨g47, e⟩ := e
      replace e := gd_some e
      obtain ⟨g48, e⟩ := e
      refine V_iald (pc := 119) dX4_bellsTo_119 (of_decide_eq_true g47) (ix_in g48) ?_
      refine V_iconst (pc := 120) (v := (-1 : Int32)) dX4_bellsTo_120 (by decide) ?_
      refine V_icmp_ne (pc := 121) (tgt := 142) dX4_bellsTo_121 (by decide) (fun c56 => ?_) (fun c56 => ?_)
      · rw [if_neg c56] at e
        cases e
        exact V_pick [0, 2] rfl (kE142 h rfl)
      · rw [if_pos c56] at e
        refine V_pick [0, 1, 2, 3] rfl ?_
        refine V_aload_n (pc := 124) (i := 0) dX4_bellsTo_124 rfl rfl ?_
        refine V_aload_n (pc := 125) (i := 0) dX4_bellsTo_125 rfl rfl ?_
        replace e := ob_some e
        obtain ⟨q49, g50, e⟩ := e
        refine V_getR (pc := 126) (ci := 4) (k := 1) (b := q49) dX4_bellsTo_126 fl_X4_15 rfl (of_decide_eq_true g41) g50 ?_
        refine V_iload (pc := 129) (i := 5) dX4_bellsTo_129 rfl ?_
        replace e := gd_some e
        obtain ⟨g51, e⟩ := e
        replace e := gd_some e
        obtain ⟨g52, e⟩ := e
        refine V_iald (pc := 131) dX4_bellsTo_131 (of_decide_eq_true g51) (ix_in g52) ?_
        refine V_aload_n (pc := 132) (i := 2) dX4_bellsTo_132 rfl rfl ?_
        replace e := ob2_some e
        obtain ⟨r54, h55, g53, e⟩ := e
        refine V_callV (pc := 133) (bc := bc) (bs := bs) (mc := 0) (ms := 0) (st := []) (As := [.int (zI h q49 (v5).toNatClampNeg), .ref v2]) (a := v0) (h' := h55) (r := none) dX4_bellsTo_133 ml_X4_55 (ci := 4) rfl (of_decide_eq_true g41) rfl rfl (Nat.le_of_ble_eq_true rfl) (d' := 1) (by decide) (c_X4_sendGuests (l := x.2.1) v0 (zI h q49 (v5).toNatClampNeg) v2 h g53) ?_
        refine V_iinc (pc := 136) (i := 5) (u := v5 + (1 : Int32)) (lv' := [(5, .int (v5 + (1 : Int32))), (0, .ref v0), (2, .ref v2), (4, .int v4)]) dX4_bellsTo_136 rfl rfl (by decide) rfl ?_
        refine V_goto (pc := 139) (tgt := 94) dX4_bellsTo_139 (by decide) ?_
        cases e
        exact V_pick [1, 2, 3, 0] rfl (kI (v5 + (1 : Int32), h55) rfl)
set_option maxRecDepth 100000 in
def F_X4_bellsTo_b164 (t0 : Int32) (h : Hp) : Option (Int32 × Hp × Nat × Nat) :=
  some (t0, h, 0, 0)
set_option maxHeartbeats 4000000 in
set_option maxRecDepth 100000 in
theorem r_X4_bellsTo_b164 (t0 : Int32) (h : Hp) {x : Cx} {r : Int32} {hz : Hp} {c9 s9 : Nat} (e : F_X4_bellsTo_b164 t0 h = some (r, hz, c9, s9)) (hF : Fin9 M_X4_bellsTo x (some .int) (some (.int r)) hz) : V M_X4_bellsTo x 3 164 [] [.int t0] h c9 s9 := by
  unfold F_X4_bellsTo_b164 at e
  cases e
  exact V_iret (pc := 164) dX4_bellsTo_164 hF
set_option maxRecDepth 100000 in
def F_X4_bellsTo_b142 (v0 : Nat) (v4 : Int32) (h : Hp) : Option (Int32 × Hp × Nat × Nat) :=
  gd (decide (kd h v0 = 4)) <| ob (zR h v0 0) fun q61 => gd (decide (kd h q61 = 13)) <| gd (ix v4 (zl h q61)) <| (if (zI h q61 (v4).toNatClampNeg) = (-1 : Int32) then F_X4_bellsTo_b164 (-1 : Int32) h else ob (zR h v0 0) fun q65 => gd (decide (kd h q65 = 13)) <| gd (ix v4 (zl h q65)) <| F_X4_bellsTo_b164 (zI h q65 (v4).toNatClampNeg) h)
set_option maxHeartbeats 4000000 in
set_option maxRecDepth 100000 in
theorem r_X4_bellsTo_b142 (v0 : Nat) (v4 : Int32) (h : Hp) {x : Cx} {r : Int32} {hz : Hp} {c9 s9 : Nat} (e : F_X4_bellsTo_b142 v0 v4 h = some (r, hz, c9, s9)) (hF : Fin9 M_X4_bellsTo x (some .int) (some (.int r)) hz) : V M_X4_bellsTo x 3 142 [(0, .ref v0), (4, .int v4)] [] h c9 s9 := by
  unfold F_X4_bellsTo_b142 at e
  refine V_aload_n (pc := 142) (i := 0) dX4_bellsTo_142 rfl rfl ?_
  replace e := gd_some e
  obtain ⟨g60, e⟩ := e
  replace e := ob_some e
  obtain ⟨q61, g62, e⟩ := e
  refine V_getR (pc := 143) (ci := 4) (k := 0) (b := q61) dX4_bellsTo_143 fl_X4_9 rfl (of_decide_eq_true g60) g62 ?_
  refine V_iload (pc := 146) (i := 4) dX4_bellsTo_146 rfl ?_
  replace e := gd_some e
  obtain ⟨g63, e⟩ := e
  replace e := gd_some e
  obtain ⟨g64, e⟩ := e
  refine V_iald (pc := 148) dX4_bellsTo_148 (of_decide_eq_true g63) (ix_in g64) ?_
  refine V_iconst (pc := 149) (v := (-1 : Int32)) dX4_bellsTo_149 (by decide) ?_
  refine V_icmp_ne (pc := 150) (tgt := 157) dX4_bellsTo_150 (by decide) (fun c69 => ?_) (fun c69 => ?_)
  · rw [if_neg c69] at e
    refine V_pick [0, 1] rfl ?_
    refine V_aload_n (pc := 157) (i := 0) dX4_bellsTo_157 rfl rfl ?_
    replace e := ob_some e
    obtain ⟨q65, g66, e⟩ := e
    refine V_getR (pc := 158) (ci := 4) (k := 0) (b := q65) dX4_bellsTo_158 fl_X4_9 rfl (of_decide_eq_true g60) g66 ?_
    refine V_iload (pc := 161) (i := 4) dX4_bellsTo_161 rfl ?_
    replace e := gd_some e
    obtain ⟨g67, e⟩ := e
    replace e := gd_some e
    obtain ⟨g68, e⟩ := e
    refine V_iald (pc := 163) dX4_bellsTo_163 (of_decide_eq_true g67) (ix_in g68) ?_
    exact V_pick [] rfl (r_X4_bellsTo_b164 (zI h q65 (v4).toNatClampNeg) h e hF)
  · rw [if_pos c69] at e
    refine V_pick [] rfl ?_
    refine V_iconst (pc := 153) (v := (-1 : Int32)) dX4_bellsTo_153 (by decide) ?_
    refine V_goto (pc := 154) (tgt := 164) dX4_bellsTo_154 (by decide) ?_
    exact V_pick [] rfl (r_X4_bellsTo_b164 (-1 : Int32) h e hF)
set_option maxRecDepth 100000 in
def F_X4_bellsTo_b0 (v0 : Nat) (v1 : Int32) (v2 : Nat) (v3 : Nat) (h : Hp) : Option (Int32 × Hp × Nat × Nat) :=
  gd (decide (kd h v2 = 2)) <| ob (zR h v2 7) fun q2 => ob (F_X2_asNumber v2 q2 h) fun r5 => (if r5 = v1 then some ((0 : Int32), h, 0, 0) else ob4 (F_X4_shutAll v0 (zI h v2 5) h) fun _ h8 n9 n10 => ac n9 n10 <| gd (decide (kd h v0 = 4)) <| gd (decide (kd h8 v2 = 2)) <| ob2 (F_X9_start v3 v2 (zI h8 v2 11) h8) fun _ h17 => gd (decide (kd h8 v3 = 8)) <| ob2 (F_X4_openLevel v0 (0 : Int32) v2 v3 h17) fun _ h21 => gd (decide (kd h17 v0 = 4)) <| (if v1 < 0 then F_X4_bellsTo_b75 h21 else gd (decide (kd h21 v0 = 4)) <| ob (zR h21 v0 0) fun q24 => gd (decide (kd h21 q24 = 13)) <| (if (Int32.ofNat (zl h21 q24)) ≤ v1 then F_X4_bellsTo_b75 h21 else ob (zR h21 v0 0) fun q27 => gd (decide (kd h21 q27 = 13)) <| (if (Int32.ofNat (zl h21 q27)) ≤ r5 then F_X4_bellsTo_b75 h21 else ob (zR h21 v0 0) fun q30 => gd (decide (kd h21 q30 = 13)) <| gd (ix v1 (zl h21 q30)) <| (if (zI h21 q30 (v1).toNatClampNeg) = (-1 : Int32) then ob (zR h21 v0 0) fun q34 => gd (decide (kd h21 q34 = 13)) <| gd (ix r5 (zl h21 q34)) <| ob2 (F_X4_reach v0 v1 (0 : Int32) (setI h21 q34 (r5).toNatClampNeg (-1 : Int32))) fun _ h40 => ob (iter (fun z : Int32 × Hp => F_X4_bellsTo_l94 v0 v2 r5 z.1 z.2) FU ((0 : Int32), h40)) (fun h59 => F_X4_bellsTo_b142 v0 r5 h59) else F_X4_bellsTo_b75 h21)))))
set_option maxHeartbeats 4000000 in
set_option maxRecDepth 100000 in
theorem r_X4_bellsTo_b0 (v0 : Nat) (v1 : Int32) (v2 : Nat) (v3 : Nat) (h : Hp) {x : Cx} {r : Int32} {hz : Hp} {c9 s9 : Nat} (e : F_X4_bellsTo_b0 v0 v1 v2 v3 h = some (r, hz, c9, s9)) (hF : Fin9 M_X4_bellsTo x (some .int) (some (.int r)) hz) : V M_X4_bellsTo x 3 0 [(0, .ref v0), (1, .int v1), (2, .ref v2), (3, .ref v3)] [] h c9 s9 := by
  unfold F_X4_bellsTo_b0 at e
  refine V_aload_n (pc := 0) (i := 2) dX4_bellsTo_0 rfl rfl ?_
  refine V_aload_n (pc := 1) (i := 2) dX4_bellsTo_1 rfl rfl ?_
  replace e := gd_some e
  obtain ⟨g1, e⟩ := e
  replace e := ob_some e
  obtain ⟨q2, g3, e⟩ := e
  refine V_getR (pc := 2) (ci := 2) (k := 7) (b := q2) dX4_bellsTo_2 fl_X4_22 rfl (of_decide_eq_true g1) g3 ?_
  replace e := ob_some e
  obtain ⟨r5, g4, e⟩ := e
  refine V_callV (pc := 5) (bc := c9) (bs := s9) (mc := 0) (ms := 0) (st := []) (As := [.ref q2]) (a := v2) (h' := h) (r := some (.int r5)) dX4_bellsTo_5 ml_X4_27 (ci := 2) rfl (of_decide_eq_true g1) rfl rfl (Nat.le_of_ble_eq_true rfl) (d' := 0) (by decide) (c_X2_asNumber (l := x.2.1) v2 q2 h g4) ?_
  refine V_istore (pc := 8) (i := 4) (lv' := [(4, .int r5), (0, .ref v0), (1, .int v1), (2, .ref v2), (3, .ref v3)]) dX4_bellsTo_8 (by decide) rfl ?_
  refine V_iload (pc := 10) (i := 4) dX4_bellsTo_10 rfl ?_
  refine V_iload_n (pc := 12) (i := 1) dX4_bellsTo_12 rfl rfl ?_
  refine V_icmp_ne (pc := 13) (tgt := 18) dX4_bellsTo_13 (by decide) (fun c76 => ?_) (fun c76 => ?_)
  · rw [if_neg c76] at e
    refine V_pick [1, 2, 3, 4, 0] rfl ?_
    refine V_aload_n (pc := 18) (i := 0) dX4_bellsTo_18 rfl rfl ?_
    refine V_aload_n (pc := 19) (i := 2) dX4_bellsTo_19 rfl rfl ?_
    refine V_getI (pc := 20) (ci := 2) (k := 5) dX4_bellsTo_20 fl_X4_31 rfl (of_decide_eq_true g1) ?_
    replace e := ob4_some e
    obtain ⟨r7, h8, n9, n10, g6, e⟩ := e
    replace e := ac_some e
    obtain ⟨n11, n12, e, hc9, hs9⟩ := e
    rw [hc9, hs9]
    clear hc9 hs9
    replace e := gd_some e
    obtain ⟨g13, e⟩ := e
    refine V_callV (pc := 23) (bc := n11) (bs := n12) (mc := n9) (ms := n10) (st := []) (As := [.int (zI h v2 5)]) (a := v0) (h' := h8) (r := none) dX4_bellsTo_23 ml_X4_34 (ci := 4) rfl (of_decide_eq_true g13) rfl rfl (Nat.le_of_ble_eq_true rfl) (d' := 1) (by decide) (c_X4_shutAll (l := x.2.1) v0 (zI h v2 5) h g6) ?_
    refine V_aload_n (pc := 26) (i := 3) dX4_bellsTo_26 rfl rfl ?_
    refine V_aload_n (pc := 27) (i := 2) dX4_bellsTo_27 rfl rfl ?_
    refine V_aload_n (pc := 28) (i := 2) dX4_bellsTo_28 rfl rfl ?_
    replace e := gd_some e
    obtain ⟨g14, e⟩ := e
    refine V_getI (pc := 29) (ci := 2) (k := 11) dX4_bellsTo_29 fl_X4_38 rfl (of_decide_eq_true g14) ?_
    replace e := ob2_some e
    obtain ⟨r16, h17, g15, e⟩ := e
    replace e := gd_some e
    obtain ⟨g18, e⟩ := e
    refine V_callV (pc := 32) (bc := n11) (bs := n12) (mc := 0) (ms := 0) (st := []) (As := [.ref v2, .int (zI h8 v2 11)]) (a := v3) (h' := h17) (r := none) dX4_bellsTo_32 ml_X4_41 (ci := 8) rfl (of_decide_eq_true g18) rfl rfl (Nat.le_of_ble_eq_true rfl) (d' := 1) (by decide) (c_X9_start (l := x.2.1) v3 v2 (zI h8 v2 11) h8 g15) ?_
    refine V_aload_n (pc := 35) (i := 0) dX4_bellsTo_35 rfl rfl ?_
    refine V_iconst (pc := 36) (v := (0 : Int32)) dX4_bellsTo_36 (by decide) ?_
    refine V_aload_n (pc := 37) (i := 2) dX4_bellsTo_37 rfl rfl ?_
    refine V_aload_n (pc := 38) (i := 3) dX4_bellsTo_38 rfl rfl ?_
    replace e := ob2_some e
    obtain ⟨r20, h21, g19, e⟩ := e
    replace e := gd_some e
    obtain ⟨g22, e⟩ := e
    refine V_callV (pc := 39) (bc := n11) (bs := n12) (mc := 0) (ms := 0) (st := []) (As := [.int (0 : Int32), .ref v2, .ref v3]) (a := v0) (h' := h21) (r := none) dX4_bellsTo_39 ml_X4_47 (ci := 4) rfl (of_decide_eq_true g22) rfl rfl (Nat.le_of_ble_eq_true rfl) (d' := 2) (by decide) (c_X4_openLevel (l := x.2.1) v0 (0 : Int32) v2 v3 h17 g19) ?_
    refine V_iload_n (pc := 42) (i := 1) dX4_bellsTo_42 rfl rfl ?_
    refine V_if_lt (pc := 43) (tgt := 75) dX4_bellsTo_43 (by decide) (fun c75 => ?_) (fun c75 => ?_)
    · rw [if_pos c75] at e
      exact V_pick [] rfl (r_X4_bellsTo_b75 h21 e hF)
    · rw [if_neg c75] at e
      refine V_pick [0, 1, 2, 4] rfl ?_
      refine V_iload_n (pc := 46) (i := 1) dX4_bellsTo_46 rfl rfl ?_
      refine V_aload_n (pc := 47) (i := 0) dX4_bellsTo_47 rfl rfl ?_
      replace e := gd_some e
      obtain ⟨g23, e⟩ := e
      replace e := ob_some e
      obtain ⟨q24, g25, e⟩ := e
      refine V_getR (pc := 48) (ci := 4) (k := 0) (b := q24) dX4_bellsTo_48 fl_X4_9 rfl (of_decide_eq_true g23) g25 ?_
      replace e := gd_some e
      obtain ⟨g26, e⟩ := e
      refine V_alen (pc := 51) (k := 13) dX4_bellsTo_51 (of_decide_eq_true g26) (by decide) ?_
      refine V_icmp_ge (pc := 52) (tgt := 75) dX4_bellsTo_52 (by decide) (fun c74 => ?_) (fun c74 => ?_)
      · rw [if_pos c74] at e
        exact V_pick [] rfl (r_X4_bellsTo_b75 h21 e hF)
      · rw [if_neg c74] at e
        refine V_pick [0, 1, 2, 3] rfl ?_
        refine V_iload (pc := 55) (i := 4) dX4_bellsTo_55 rfl ?_
        refine V_aload_n (pc := 57) (i := 0) dX4_bellsTo_57 rfl rfl ?_
        replace e := ob_some e
        obtain ⟨q27, g28, e⟩ := e
        refine V_getR (pc := 58) (ci := 4) (k := 0) (b := q27) dX4_bellsTo_58 fl_X4_9 rfl (of_decide_eq_true g23) g28 ?_
        replace e := gd_some e
        obtain ⟨g29, e⟩ := e
        refine V_alen (pc := 61) (k := 13) dX4_bellsTo_61 (of_decide_eq_true g29) (by decide) ?_
        refine V_icmp_ge (pc := 62) (tgt := 75) dX4_bellsTo_62 (by decide) (fun c73 => ?_) (fun c73 => ?_)
        · rw [if_pos c73] at e
          exact V_pick [] rfl (r_X4_bellsTo_b75 h21 e hF)
        · rw [if_neg c73] at e
          refine V_pick [0, 1, 2, 3] rfl ?_
          refine V_aload_n (pc := 65) (i := 0) dX4_bellsTo_65 rfl rfl ?_
          replace e := ob_some e
          obtain ⟨q30, g31, e⟩ := e
          refine V_getR (pc := 66) (ci := 4) (k := 0) (b := q30) dX4_bellsTo_66 fl_X4_9 rfl (of_decide_eq_true g23) g31 ?_
          refine V_iload_n (pc := 69) (i := 1) dX4_bellsTo_69 rfl rfl ?_
          replace e := gd_some e
          obtain ⟨g32, e⟩ := e
          replace e := gd_some e
          obtain ⟨g33, e⟩ := e
          refine V_iald (pc := 70) dX4_bellsTo_70 (of_decide_eq_true g32) (ix_in g33) ?_
          refine V_iconst (pc := 71) (v := (-1 : Int32)) dX4_bellsTo_71 (by decide) ?_
          refine V_icmp_eq (pc := 72) (tgt := 77) dX4_bellsTo_72 (by decide) (fun c72 => ?_) (fun c72 => ?_)
          · rw [if_pos c72] at e
            refine V_pick [0, 1, 2, 3] rfl ?_
            refine V_aload_n (pc := 77) (i := 0) dX4_bellsTo_77 rfl rfl ?_
            replace e := ob_some e
            obtain ⟨q34, g35, e⟩ := e
            refine V_getR (pc := 78) (ci := 4) (k := 0) (b := q34) dX4_bellsTo_78 fl_X4_9 rfl (of_decide_eq_true g23) g35 ?_
            refine V_iload (pc := 81) (i := 4) dX4_bellsTo_81 rfl ?_
            refine V_iconst (pc := 83) (v := (-1 : Int32)) dX4_bellsTo_83 (by decide) ?_
            replace e := gd_some e
            obtain ⟨g36, e⟩ := e
            replace e := gd_some e
            obtain ⟨g37, e⟩ := e
            refine V_iast (pc := 84) dX4_bellsTo_84 (of_decide_eq_true g36) (ix_in g37) ?_
            refine V_aload_n (pc := 85) (i := 0) dX4_bellsTo_85 rfl rfl ?_
            refine V_iload_n (pc := 86) (i := 1) dX4_bellsTo_86 rfl rfl ?_
            refine V_iconst (pc := 87) (v := (0 : Int32)) dX4_bellsTo_87 (by decide) ?_
            replace e := ob2_some e
            obtain ⟨r39, h40, g38, e⟩ := e
            refine V_callV (pc := 88) (bc := n11) (bs := n12) (mc := 0) (ms := 0) (st := []) (As := [.int v1, .int (0 : Int32)]) (a := v0) (h' := h40) (r := none) dX4_bellsTo_88 ml_X4_51 (ci := 4) rfl (kd_sI (of_decide_eq_true g23)) rfl rfl (Nat.le_of_ble_eq_true rfl) (d' := 0) (by decide) (c_X4_reach (l := x.2.1) v0 v1 (0 : Int32) (setI h21 q34 (r5).toNatClampNeg (-1 : Int32)) g38) ?_
            refine V_iconst (pc := 91) (v := (0 : Int32)) dX4_bellsTo_91 (by decide) ?_
            refine V_istore (pc := 92) (i := 5) (lv' := [(5, .int (0 : Int32)), (0, .ref v0), (1, .int v1), (2, .ref v2), (4, .int r5)]) dX4_bellsTo_92 (by decide) rfl ?_
            refine V_pick [1, 3, 4, 0] rfl ?_
            replace e := ob_some e
            obtain ⟨y70, g71, e⟩ := e
            refine iter_V (P := fun z : Int32 × Hp => V M_X4_bellsTo x 3 94 [(0, .ref v0), (2, .ref v2), (4, .int r5), (5, .int z.1)] [] z.2 n11 n12) (E := fun z : Hp => V M_X4_bellsTo x 3 142 [(0, .ref v0), (4, .int r5)] [] z n11 n12) (fun z o e9 k1 k2 => r_X4_bellsTo_l94 v0 v2 r5 z.1 z.2 e9 (fun z hz9 => k1 z hz9) (fun z hz9 => k2 _ hz9)) _ _ _ g71 ?_
            clear g71
            obtain ⟨h59, rfl⟩ : ∃ q, q = y70 := ⟨_, rfl⟩
            replace e : (F_X4_bellsTo_b142 v0 r5 h59) = some (r, hz, n11, n12) := e
            show V M_X4_bellsTo x 3 142 [(0, .ref v0), (4, .int r5)] [] h59 n11 n12
            exact V_pick [0, 1] rfl (r_X4_bellsTo_b142 v0 r5 h59 e hF)
          · rw [if_neg c72] at e
            exact V_pick [] rfl (r_X4_bellsTo_b75 h21 e hF)
  · rw [if_pos c76] at e
    refine V_pick [] rfl ?_
    refine V_iconst (pc := 16) (v := (0 : Int32)) dX4_bellsTo_16 (by decide) ?_
    cases e
    exact V_iret (pc := 17) dX4_bellsTo_17 hF
def F_X4_bellsTo (v0 : Nat) (v1 : Int32) (v2 : Nat) (v3 : Nat) (h : Hp) : Option (Int32 × Hp × Nat × Nat) := F_X4_bellsTo_b0 v0 v1 v2 v3 h
theorem c_X4_bellsTo {l : Launch} (v0 : Nat) (v1 : Int32) (v2 : Nat) (v3 : Nat) (h : Hp) {r : Int32} {hz : Hp} {c9 s9 : Nat} (e : F_X4_bellsTo v0 v1 v2 v3 h = some (r, hz, c9, s9)) : Ct l yX4_bellsTo M_X4_bellsTo (some .int) 3 [.ref v0, .int v1, .ref v2, .ref v3] h c9 s9 (some (.int r)) hz :=
  Ct_of rfl rfl (fun q => by cases q) (Nat.le_of_ble_eq_true rfl) (fun x _ hF => V_pick [0, 1, 2, 3] rfl (r_X4_bellsTo_b0 v0 v1 v2 v3 h e hF))
theorem dX4_stoveTo_0 : decode cX4_stoveTo 0 = .ok (.aload_n 2, 1) := by decide +kernel
theorem dX4_stoveTo_1 : decode cX4_stoveTo 1 = .ok (.getfield 38, 3) := by decide +kernel
theorem dX4_stoveTo_4 : decode cX4_stoveTo 4 = .ok (.iload_n 1, 1) := by decide +kernel
theorem dX4_stoveTo_5 : decode cX4_stoveTo 5 = .ok (.if_icmp .ne 5, 3) := by decide +kernel
theorem dX4_stoveTo_8 : decode cX4_stoveTo 8 = .ok (.iconst 0, 1) := by decide +kernel
theorem dX4_stoveTo_9 : decode cX4_stoveTo 9 = .ok (.ireturn, 1) := by decide +kernel
theorem dX4_stoveTo_10 : decode cX4_stoveTo 10 = .ok (.iconst 3, 1) := by decide +kernel
theorem dX4_stoveTo_11 : decode cX4_stoveTo 11 = .ok (.aload_n 2, 1) := by decide +kernel
theorem dX4_stoveTo_12 : decode cX4_stoveTo 12 = .ok (.getfield 31, 3) := by decide +kernel
theorem dX4_stoveTo_15 : decode cX4_stoveTo 15 = .ok (.imul, 1) := by decide +kernel
theorem dX4_stoveTo_16 : decode cX4_stoveTo 16 = .ok (.istore 4, 2) := by decide +kernel
theorem dX4_stoveTo_18 : decode cX4_stoveTo 18 = .ok (.aload_n 0, 1) := by decide +kernel
theorem dX4_stoveTo_19 : decode cX4_stoveTo 19 = .ok (.aload_n 2, 1) := by decide +kernel
theorem dX4_stoveTo_20 : decode cX4_stoveTo 20 = .ok (.getfield 31, 3) := by decide +kernel
theorem dX4_stoveTo_23 : decode cX4_stoveTo 23 = .ok (.iconst 1, 1) := by decide +kernel
theorem dX4_stoveTo_24 : decode cX4_stoveTo 24 = .ok (.iadd, 1) := by decide +kernel
theorem dX4_stoveTo_25 : decode cX4_stoveTo 25 = .ok (.invokevirtual 34, 3) := by decide +kernel
theorem dX4_stoveTo_28 : decode cX4_stoveTo 28 = .ok (.iconst 0, 1) := by decide +kernel
theorem dX4_stoveTo_29 : decode cX4_stoveTo 29 = .ok (.istore 5, 2) := by decide +kernel
theorem dX4_stoveTo_31 : decode cX4_stoveTo 31 = .ok (.iload 5, 2) := by decide +kernel
theorem dX4_stoveTo_33 : decode cX4_stoveTo 33 = .ok (.aload_n 2, 1) := by decide +kernel
theorem dX4_stoveTo_34 : decode cX4_stoveTo 34 = .ok (.getfield 68, 3) := by decide +kernel
theorem dX4_stoveTo_37 : decode cX4_stoveTo 37 = .ok (.if_icmp .ge 27, 3) := by decide +kernel
theorem dX4_stoveTo_40 : decode cX4_stoveTo 40 = .ok (.aload_n 3, 1) := by decide +kernel
theorem dX4_stoveTo_41 : decode cX4_stoveTo 41 = .ok (.aload_n 2, 1) := by decide +kernel
theorem dX4_stoveTo_42 : decode cX4_stoveTo 42 = .ok (.iload 5, 2) := by decide +kernel
theorem dX4_stoveTo_44 : decode cX4_stoveTo 44 = .ok (.invokevirtual 41, 3) := by decide +kernel
theorem dX4_stoveTo_47 : decode cX4_stoveTo 47 = .ok (.aload_n 0, 1) := by decide +kernel
theorem dX4_stoveTo_48 : decode cX4_stoveTo 48 = .ok (.iload 5, 2) := by decide +kernel
theorem dX4_stoveTo_50 : decode cX4_stoveTo 50 = .ok (.iload 4, 2) := by decide +kernel
theorem dX4_stoveTo_52 : decode cX4_stoveTo 52 = .ok (.ishl, 1) := by decide +kernel
theorem dX4_stoveTo_53 : decode cX4_stoveTo 53 = .ok (.aload_n 2, 1) := by decide +kernel
theorem dX4_stoveTo_54 : decode cX4_stoveTo 54 = .ok (.aload_n 3, 1) := by decide +kernel
theorem dX4_stoveTo_55 : decode cX4_stoveTo 55 = .ok (.invokevirtual 47, 3) := by decide +kernel
theorem dX4_stoveTo_58 : decode cX4_stoveTo 58 = .ok (.iinc 5 1, 3) := by decide +kernel
theorem dX4_stoveTo_61 : decode cX4_stoveTo 61 = .ok (.goto (-30), 3) := by decide +kernel
theorem dX4_stoveTo_64 : decode cX4_stoveTo 64 = .ok (.aload_n 2, 1) := by decide +kernel
theorem dX4_stoveTo_65 : decode cX4_stoveTo 65 = .ok (.aload_n 2, 1) := by decide +kernel
theorem dX4_stoveTo_66 : decode cX4_stoveTo 66 = .ok (.getfield 22, 3) := by decide +kernel
theorem dX4_stoveTo_69 : decode cX4_stoveTo 69 = .ok (.invokevirtual 27, 3) := by decide +kernel
theorem dX4_stoveTo_72 : decode cX4_stoveTo 72 = .ok (.aload_n 2, 1) := by decide +kernel
theorem dX4_stoveTo_73 : decode cX4_stoveTo 73 = .ok (.getfield 38, 3) := by decide +kernel
theorem dX4_stoveTo_76 : decode cX4_stoveTo 76 = .ok (.iload 4, 2) := by decide +kernel
theorem dX4_stoveTo_78 : decode cX4_stoveTo 78 = .ok (.ishl, 1) := by decide +kernel
theorem dX4_stoveTo_79 : decode cX4_stoveTo 79 = .ok (.iadd, 1) := by decide +kernel
theorem dX4_stoveTo_80 : decode cX4_stoveTo 80 = .ok (.istore 5, 2) := by decide +kernel
theorem dX4_stoveTo_82 : decode cX4_stoveTo 82 = .ok (.iload 5, 2) := by decide +kernel
theorem dX4_stoveTo_84 : decode cX4_stoveTo 84 = .ok (.aload_n 0, 1) := by decide +kernel
theorem dX4_stoveTo_85 : decode cX4_stoveTo 85 = .ok (.getfield 9, 3) := by decide +kernel
theorem dX4_stoveTo_88 : decode cX4_stoveTo 88 = .ok (.arraylength, 1) := by decide +kernel
theorem dX4_stoveTo_89 : decode cX4_stoveTo 89 = .ok (.if_icmp .lt 5, 3) := by decide +kernel
theorem dX4_stoveTo_92 : decode cX4_stoveTo 92 = .ok (.iconst (-1), 1) := by decide +kernel
theorem dX4_stoveTo_93 : decode cX4_stoveTo 93 = .ok (.ireturn, 1) := by decide +kernel
theorem dX4_stoveTo_94 : decode cX4_stoveTo 94 = .ok (.aload_n 0, 1) := by decide +kernel
theorem dX4_stoveTo_95 : decode cX4_stoveTo 95 = .ok (.getfield 9, 3) := by decide +kernel
theorem dX4_stoveTo_98 : decode cX4_stoveTo 98 = .ok (.iload 5, 2) := by decide +kernel
theorem dX4_stoveTo_100 : decode cX4_stoveTo 100 = .ok (.iconst (-1), 1) := by decide +kernel
theorem dX4_stoveTo_101 : decode cX4_stoveTo 101 = .ok (.iastore, 1) := by decide +kernel
theorem dX4_stoveTo_102 : decode cX4_stoveTo 102 = .ok (.aload_n 0, 1) := by decide +kernel
theorem dX4_stoveTo_103 : decode cX4_stoveTo 103 = .ok (.iload 5, 2) := by decide +kernel
theorem dX4_stoveTo_105 : decode cX4_stoveTo 105 = .ok (.iconst 0, 1) := by decide +kernel
theorem dX4_stoveTo_106 : decode cX4_stoveTo 106 = .ok (.invokevirtual 51, 3) := by decide +kernel
theorem dX4_stoveTo_109 : decode cX4_stoveTo 109 = .ok (.iconst 0, 1) := by decide +kernel
theorem dX4_stoveTo_110 : decode cX4_stoveTo 110 = .ok (.istore 6, 2) := by decide +kernel
theorem dX4_stoveTo_112 : decode cX4_stoveTo 112 = .ok (.iload 6, 2) := by decide +kernel
theorem dX4_stoveTo_114 : decode cX4_stoveTo 114 = .ok (.aload_n 0, 1) := by decide +kernel
theorem dX4_stoveTo_115 : decode cX4_stoveTo 115 = .ok (.getfield 18, 3) := by decide +kernel
theorem dX4_stoveTo_118 : decode cX4_stoveTo 118 = .ok (.if_icmp .ge 61, 3) := by decide +kernel
theorem dX4_stoveTo_121 : decode cX4_stoveTo 121 = .ok (.iload 6, 2) := by decide +kernel
theorem dX4_stoveTo_123 : decode cX4_stoveTo 123 = .ok (.aload_n 0, 1) := by decide +kernel
theorem dX4_stoveTo_124 : decode cX4_stoveTo 124 = .ok (.getfield 15, 3) := by decide +kernel
theorem dX4_stoveTo_127 : decode cX4_stoveTo 127 = .ok (.arraylength, 1) := by decide +kernel
theorem dX4_stoveTo_128 : decode cX4_stoveTo 128 = .ok (.if_icmp .ge 51, 3) := by decide +kernel
theorem dX4_stoveTo_131 : decode cX4_stoveTo 131 = .ok (.aload_n 0, 1) := by decide +kernel
theorem dX4_stoveTo_132 : decode cX4_stoveTo 132 = .ok (.getfield 15, 3) := by decide +kernel
theorem dX4_stoveTo_135 : decode cX4_stoveTo 135 = .ok (.iload 6, 2) := by decide +kernel
theorem dX4_stoveTo_137 : decode cX4_stoveTo 137 = .ok (.iaload, 1) := by decide +kernel
theorem dX4_stoveTo_138 : decode cX4_stoveTo 138 = .ok (.istore 7, 2) := by decide +kernel
theorem dX4_stoveTo_140 : decode cX4_stoveTo 140 = .ok (.iload 7, 2) := by decide +kernel
theorem dX4_stoveTo_142 : decode cX4_stoveTo 142 = .ok (.iload 4, 2) := by decide +kernel
theorem dX4_stoveTo_144 : decode cX4_stoveTo 144 = .ok (.ishr, 1) := by decide +kernel
theorem dX4_stoveTo_145 : decode cX4_stoveTo 145 = .ok (.iload_n 1, 1) := by decide +kernel
theorem dX4_stoveTo_146 : decode cX4_stoveTo 146 = .ok (.if_icmp .ne 11, 3) := by decide +kernel
theorem dX4_stoveTo_149 : decode cX4_stoveTo 149 = .ok (.aload_n 0, 1) := by decide +kernel
theorem dX4_stoveTo_150 : decode cX4_stoveTo 150 = .ok (.getfield 9, 3) := by decide +kernel
theorem dX4_stoveTo_153 : decode cX4_stoveTo 153 = .ok (.iload 7, 2) := by decide +kernel
theorem dX4_stoveTo_155 : decode cX4_stoveTo 155 = .ok (.iaload, 1) := by decide +kernel
theorem dX4_stoveTo_156 : decode cX4_stoveTo 156 = .ok (.ireturn, 1) := by decide +kernel
theorem dX4_stoveTo_157 : decode cX4_stoveTo 157 = .ok (.aload_n 0, 1) := by decide +kernel
theorem dX4_stoveTo_158 : decode cX4_stoveTo 158 = .ok (.iload 7, 2) := by decide +kernel
theorem dX4_stoveTo_160 : decode cX4_stoveTo 160 = .ok (.aload_n 2, 1) := by decide +kernel
theorem dX4_stoveTo_161 : decode cX4_stoveTo 161 = .ok (.invokevirtual 55, 3) := by decide +kernel
theorem dX4_stoveTo_164 : decode cX4_stoveTo 164 = .ok (.aload_n 0, 1) := by decide +kernel
theorem dX4_stoveTo_165 : decode cX4_stoveTo 165 = .ok (.iload 7, 2) := by decide +kernel
theorem dX4_stoveTo_167 : decode cX4_stoveTo 167 = .ok (.iload 4, 2) := by decide +kernel
theorem dX4_stoveTo_169 : decode cX4_stoveTo 169 = .ok (.aload_n 2, 1) := by decide +kernel
theorem dX4_stoveTo_170 : decode cX4_stoveTo 170 = .ok (.invokevirtual 71, 3) := by decide +kernel
theorem dX4_stoveTo_173 : decode cX4_stoveTo 173 = .ok (.iinc 6 1, 3) := by decide +kernel
theorem dX4_stoveTo_176 : decode cX4_stoveTo 176 = .ok (.goto (-64), 3) := by decide +kernel
theorem dX4_stoveTo_179 : decode cX4_stoveTo 179 = .ok (.iconst (-1), 1) := by decide +kernel
theorem dX4_stoveTo_180 : decode cX4_stoveTo 180 = .ok (.ireturn, 1) := by decide +kernel
set_option maxRecDepth 100000 in
def F_X4_stoveTo_l31 (v0 : Nat) (v1 : Int32) (v2 : Nat) (v3 : Nat) (v4 : Int32) (v5 : Int32) (h : Hp) : Option ((Int32 × Hp) ⊕ Hp) :=
  gd (decide (kd h v2 = 2)) <| (if (zI h v2 0) ≤ v5 then some (.inr h) else ob2 (F_X9_start v3 v2 v5 h) fun _ h13 => gd (decide (kd h v3 = 8)) <| ob2 (F_X4_openLevel v0 (v5 <<< (v4 &&& 31)) v2 v3 h13) fun _ h17 => gd (decide (kd h13 v0 = 4)) <| some (.inl (v5 + (1 : Int32), h17)))
set_option maxHeartbeats 4000000 in
set_option maxRecDepth 100000 in
theorem r_X4_stoveTo_l31 (v0 : Nat) (v1 : Int32) (v2 : Nat) (v3 : Nat) (v4 : Int32) (v5 : Int32) (h : Hp) {bc bs : Nat} {x : Cx} {o : ((Int32 × Hp) ⊕ Hp)} (e : F_X4_stoveTo_l31 v0 v1 v2 v3 v4 v5 h = some o) (kI : ∀ z, o = .inl z → V M_X4_stoveTo x 3 31 [(0, .ref v0), (1, .int v1), (2, .ref v2), (3, .ref v3), (4, .int v4), (5, .int z.1)] [] z.2 bc bs) (kE64 : ∀ z : Hp, o = .inr z → V M_X4_stoveTo x 3 64 [(0, .ref v0), (1, .int v1), (2, .ref v2), (4, .int v4)] [] z bc bs) : V M_X4_stoveTo x 3 31 [(0, .ref v0), (1, .int v1), (2, .ref v2), (3, .ref v3), (4, .int v4), (5, .int v5)] [] h bc bs := by
  unfold F_X4_stoveTo_l31 at e
  refine V_iload (pc := 31) (i := 5) dX4_stoveTo_31 rfl ?_
  refine V_aload_n (pc := 33) (i := 2) dX4_stoveTo_33 rfl rfl ?_
  replace e := gd_some e
  obtain ⟨g10, e⟩ := e
  refine V_getI (pc := 34) (ci := 2) (k := 0) dX4_stoveTo_34 fl_X4_68 rfl (of_decide_eq_true g10) ?_
  refine V_icmp_ge (pc := 37) (tgt := 64) dX4_stoveTo_37 (by decide) (fun c19 => ?_) (fun c19 => ?_)
  · rw [if_pos c19] at e
    cases e
    exact V_pick [0, 1, 2, 4] rfl (kE64 h rfl)
  · rw [if_neg c19] at e
    refine V_pick [0, 1, 2, 3, 4, 5] rfl ?_
    refine V_aload_n (pc := 40) (i := 3) dX4_stoveTo_40 rfl rfl ?_
    refine V_aload_n (pc := 41) (i := 2) dX4_stoveTo_41 rfl rfl ?_
    refine V_iload (pc := 42) (i := 5) dX4_stoveTo_42 rfl ?_
    replace e := ob2_some e
    obtain ⟨r12, h13, g11, e⟩ := e
    replace e := gd_some e
    obtain ⟨g14, e⟩ := e
    refine V_callV (pc := 44) (bc := bc) (bs := bs) (mc := 0) (ms := 0) (st := []) (As := [.ref v2, .int v5]) (a := v3) (h' := h13) (r := none) dX4_stoveTo_44 ml_X4_41 (ci := 8) rfl (of_decide_eq_true g14) rfl rfl (Nat.le_of_ble_eq_true rfl) (d' := 1) (by decide) (c_X9_start (l := x.2.1) v3 v2 v5 h g11) ?_
    refine V_aload_n (pc := 47) (i := 0) dX4_stoveTo_47 rfl rfl ?_
    refine V_iload (pc := 48) (i := 5) dX4_stoveTo_48 rfl ?_
    refine V_iload (pc := 50) (i := 4) dX4_stoveTo_50 rfl ?_
    refine V_ishl (pc := 52) dX4_stoveTo_52 ?_
    refine V_aload_n (pc := 53) (i := 2) dX4_stoveTo_53 rfl rfl ?_
    refine V_aload_n (pc := 54) (i := 3) dX4_stoveTo_54 rfl rfl ?_
    replace e := ob2_some e
    obtain ⟨r16, h17, g15, e⟩ := e
    replace e := gd_some e
    obtain ⟨g18, e⟩ := e
    refine V_callV (pc := 55) (bc := bc) (bs := bs) (mc := 0) (ms := 0) (st := []) (As := [.int (v5 <<< (v4 &&& 31)), .ref v2, .ref v3]) (a := v0) (h' := h17) (r := none) dX4_stoveTo_55 ml_X4_47 (ci := 4) rfl (of_decide_eq_true g18) rfl rfl (Nat.le_of_ble_eq_true rfl) (d' := 2) (by decide) (c_X4_openLevel (l := x.2.1) v0 (v5 <<< (v4 &&& 31)) v2 v3 h13 g15) ?_
    refine V_iinc (pc := 58) (i := 5) (u := v5 + (1 : Int32)) (lv' := [(5, .int (v5 + (1 : Int32))), (0, .ref v0), (1, .int v1), (2, .ref v2), (3, .ref v3), (4, .int v4)]) dX4_stoveTo_58 rfl rfl (by decide) rfl ?_
    refine V_goto (pc := 61) (tgt := 31) dX4_stoveTo_61 (by decide) ?_
    cases e
    exact V_pick [1, 2, 3, 4, 5, 0] rfl (kI (v5 + (1 : Int32), h17) rfl)
set_option maxRecDepth 100000 in
def F_X4_stoveTo_l112 (v0 : Nat) (v1 : Int32) (v2 : Nat) (v4 : Int32) (v6 : Int32) (h : Hp) : Option ((Int32 × Hp) ⊕ (Hp ⊕ (Int32 × Hp))) :=
  gd (decide (kd h v0 = 4)) <| (if (zI h v0 2) ≤ v6 then some (.inr (.inl h)) else ob (zR h v0 1) fun q38 => gd (decide (kd h q38 = 13)) <| (if (Int32.ofNat (zl h q38)) ≤ v6 then some (.inr (.inl h)) else ob (zR h v0 1) fun q41 => gd (decide (kd h q41 = 13)) <| gd (ix v6 (zl h q41)) <| (if ((zI h q41 (v6).toNatClampNeg) >>> (v4 &&& 31)) = v1 then some (.inr (.inr (zI h q41 (v6).toNatClampNeg, h))) else ob2 (F_X4_sendGuests v0 (zI h q41 (v6).toNatClampNeg) v2 h) fun _ h47 => ob2 (F_X4_sendStove v0 (zI h q41 (v6).toNatClampNeg) v4 v2 h47) fun _ h50 => gd (decide (kd h47 v0 = 4)) <| some (.inl (v6 + (1 : Int32), h50)))))
set_option maxHeartbeats 4000000 in
set_option maxRecDepth 100000 in
theorem r_X4_stoveTo_l112 (v0 : Nat) (v1 : Int32) (v2 : Nat) (v4 : Int32) (v6 : Int32) (h : Hp) {bc bs : Nat} {x : Cx} {o : ((Int32 × Hp) ⊕ (Hp ⊕ (Int32 × Hp)))} (e : F_X4_stoveTo_l112 v0 v1 v2 v4 v6 h = some o) (kI : ∀ z, o = .inl z → V M_X4_stoveTo x 3 112 [(0, .ref v0), (1, .int v1), (2, .ref v2), (4, .int v4), (6, .int z.1)] [] z.2 bc bs) (kE179 : ∀ z : Hp, o = .inr (.inl z) → V M_X4_stoveTo x 3 179 [] [] z bc bs) (kE149 : ∀ z : Int32 × Hp, o = .inr (.inr z) → V M_X4_stoveTo x 3 149 [(0, .ref v0), (7, .int z.1)] [] z.2 bc bs) : V M_X4_stoveTo x 3 112 [(0, .ref v0), (1, .int v1), (2, .ref v2), (4, .int v4), (6, .int v6)] [] h bc bs := by
  unfold F_X4_stoveTo_l112 at e
  refine V_iload (pc := 112) (i := 6) dX4_stoveTo_112 rfl ?_
  refine V_aload_n (pc := 114) (i := 0) dX4_stoveTo_114 rfl rfl ?_
  replace e := gd_some e
  obtain ⟨g37, e⟩ := e
  refine V_getI (pc := 115) (ci := 4) (k := 2) dX4_stoveTo_115 fl_X4_18 rfl (of_decide_eq_true g37) ?_
  refine V_icmp_ge (pc := 118) (tgt := 179) dX4_stoveTo_118 (by decide) (fun c54 => ?_) (fun c54 => ?_)
  · rw [if_pos c54] at e
    cases e
    exact V_pick [] rfl (kE179 h rfl)
  · rw [if_neg c54] at e
    refine V_pick [0, 1, 2, 3, 4] rfl ?_
    refine V_iload (pc := 121) (i := 6) dX4_stoveTo_121 rfl ?_
    refine V_aload_n (pc := 123) (i := 0) dX4_stoveTo_123 rfl rfl ?_
    replace e := ob_some e
    obtain ⟨q38, g39, e⟩ := e
    refine V_getR (pc := 124) (ci := 4) (k := 1) (b := q38) dX4_stoveTo_124 fl_X4_15 rfl (of_decide_eq_true g37) g39 ?_
    replace e := gd_some e
    obtain ⟨g40, e⟩ := e
    refine V_alen (pc := 127) (k := 13) dX4_stoveTo_127 (of_decide_eq_true g40) (by decide) ?_
    refine V_icmp_ge (pc := 128) (tgt := 179) dX4_stoveTo_128 (by decide) (fun c53 => ?_) (fun c53 => ?_)
    · rw [if_pos c53] at e
      cases e
      exact V_pick [] rfl (kE179 h rfl)
    · rw [if_neg c53] at e
      refine V_pick [0, 1, 2, 3, 4] rfl ?_
      refine V_aload_n (pc := 131) (i := 0) dX4_stoveTo_131 rfl rfl ?_
      replace e := ob_some e
      obtain ⟨q41, g42, e⟩ := e
      refine V_getR (pc := 132) (ci := 4) (k := 1) (b := q41) dX4_stoveTo_132 fl_X4_15 rfl (of_decide_eq_true g37) g42 ?_
      refine V_iload (pc := 135) (i := 6) dX4_stoveTo_135 rfl ?_
      replace e := gd_some e
      obtain ⟨g43, e⟩ := e
      replace e := gd_some e
      obtain ⟨g44, e⟩ := e
      refine V_iald (pc := 137) dX4_stoveTo_137 (of_decide_eq_true g43) (ix_in g44) ?_
      refine V_istore (pc := 138) (i := 7) (lv' := [(7, .int (zI h q41 (v6).toNatClampNeg)), (0, .ref v0), (1, .int v1), (2, .ref v2), (4, .int v4), (6, .int v6)]) dX4_stoveTo_138 (by decide) rfl ?_
      refine V_iload (pc := 140) (i := 7) dX4_stoveTo_140 rfl ?_
      refine V_iload (pc := 142) (i := 4) dX4_stoveTo_142 rfl ?_
      refine V_ishr (pc := 144) dX4_stoveTo_144 ?_
      refine V_iload_n (pc := 145) (i := 1) dX4_stoveTo_145 rfl rfl ?_
      refine V_icmp_ne (pc := 146) (tgt := 157) dX4_stoveTo_146 (by decide) (fun c52 => ?_) (fun c52 => ?_)
      · rw [if_neg c52] at e
        refine V_pick [1, 2, 3, 4, 5, 0] rfl ?_
        refine V_aload_n (pc := 157) (i := 0) dX4_stoveTo_157 rfl rfl ?_
        refine V_iload (pc := 158) (i := 7) dX4_stoveTo_158 rfl ?_
        refine V_aload_n (pc := 160) (i := 2) dX4_stoveTo_160 rfl rfl ?_
        replace e := ob2_some e
        obtain ⟨r46, h47, g45, e⟩ := e
        refine V_callV (pc := 161) (bc := bc) (bs := bs) (mc := 0) (ms := 0) (st := []) (As := [.int (zI h q41 (v6).toNatClampNeg), .ref v2]) (a := v0) (h' := h47) (r := none) dX4_stoveTo_161 ml_X4_55 (ci := 4) rfl (of_decide_eq_true g37) rfl rfl (Nat.le_of_ble_eq_true rfl) (d' := 1) (by decide) (c_X4_sendGuests (l := x.2.1) v0 (zI h q41 (v6).toNatClampNeg) v2 h g45) ?_
        refine V_aload_n (pc := 164) (i := 0) dX4_stoveTo_164 rfl rfl ?_
        refine V_iload (pc := 165) (i := 7) dX4_stoveTo_165 rfl ?_
        refine V_iload (pc := 167) (i := 4) dX4_stoveTo_167 rfl ?_
        refine V_aload_n (pc := 169) (i := 2) dX4_stoveTo_169 rfl rfl ?_
        replace e := ob2_some e
        obtain ⟨r49, h50, g48, e⟩ := e
        replace e := gd_some e
        obtain ⟨g51, e⟩ := e
        refine V_callV (pc := 170) (bc := bc) (bs := bs) (mc := 0) (ms := 0) (st := []) (As := [.int (zI h q41 (v6).toNatClampNeg), .int v4, .ref v2]) (a := v0) (h' := h50) (r := none) dX4_stoveTo_170 ml_X4_71 (ci := 4) rfl (of_decide_eq_true g51) rfl rfl (Nat.le_of_ble_eq_true rfl) (d' := 2) (by decide) (c_X4_sendStove (l := x.2.1) v0 (zI h q41 (v6).toNatClampNeg) v4 v2 h47 g48) ?_
        refine V_iinc (pc := 173) (i := 6) (u := v6 + (1 : Int32)) (lv' := [(6, .int (v6 + (1 : Int32))), (0, .ref v0), (1, .int v1), (2, .ref v2), (4, .int v4), (7, .int (zI h q41 (v6).toNatClampNeg))]) dX4_stoveTo_173 rfl rfl (by decide) rfl ?_
        refine V_goto (pc := 176) (tgt := 112) dX4_stoveTo_176 (by decide) ?_
        cases e
        exact V_pick [1, 2, 3, 4, 0] rfl (kI (v6 + (1 : Int32), h50) rfl)
      · rw [if_pos c52] at e
        cases e
        exact V_pick [1, 0] rfl (kE149 (zI h q41 (v6).toNatClampNeg, h) rfl)
set_option maxRecDepth 100000 in
def F_X4_stoveTo_b179  (h : Hp) : Option (Int32 × Hp × Nat × Nat) :=
  some ((-1 : Int32), h, 0, 0)
set_option maxHeartbeats 4000000 in
set_option maxRecDepth 100000 in
theorem r_X4_stoveTo_b179  (h : Hp) {x : Cx} {r : Int32} {hz : Hp} {c9 s9 : Nat} (e : F_X4_stoveTo_b179  h = some (r, hz, c9, s9)) (hF : Fin9 M_X4_stoveTo x (some .int) (some (.int r)) hz) : V M_X4_stoveTo x 3 179 [] [] h c9 s9 := by
  unfold F_X4_stoveTo_b179 at e
  refine V_iconst (pc := 179) (v := (-1 : Int32)) dX4_stoveTo_179 (by decide) ?_
  cases e
  exact V_iret (pc := 180) dX4_stoveTo_180 hF
set_option maxRecDepth 100000 in
def F_X4_stoveTo_b0 (v0 : Nat) (v1 : Int32) (v2 : Nat) (v3 : Nat) (h : Hp) : Option (Int32 × Hp × Nat × Nat) :=
  gd (decide (kd h v2 = 2)) <| (if (zI h v2 11) = v1 then some ((0 : Int32), h, 0, 0) else ob4 (F_X4_shutAll v0 ((zI h v2 5) + (1 : Int32)) h) fun _ h4 n5 n6 => ac n5 n6 <| gd (decide (kd h v0 = 4)) <| ob (iter (fun z : Int32 × Hp => F_X4_stoveTo_l31 v0 v1 v2 v3 ((3 : Int32) * (zI h v2 5)) z.1 z.2) FU ((0 : Int32), h4)) (fun h20 => gd (decide (kd h20 v2 = 2)) <| ob (zR h20 v2 7) fun q22 => ob (F_X2_asNumber v2 q22 h20) fun r25 => gd (decide (kd h20 v0 = 4)) <| ob (zR h20 v0 0) fun q27 => gd (decide (kd h20 q27 = 13)) <| (if (r25 + ((zI h20 v2 11) <<< (((3 : Int32) * (zI h v2 5)) &&& 31))) < (Int32.ofNat (zl h20 q27)) then ob (zR h20 v0 0) fun q30 => gd (decide (kd h20 q30 = 13)) <| gd (ix (r25 + ((zI h20 v2 11) <<< (((3 : Int32) * (zI h v2 5)) &&& 31))) (zl h20 q30)) <| ob2 (F_X4_reach v0 (r25 + ((zI h20 v2 11) <<< (((3 : Int32) * (zI h v2 5)) &&& 31))) (0 : Int32) (setI h20 q30 (r25 + ((zI h20 v2 11) <<< (((3 : Int32) * (zI h v2 5)) &&& 31))).toNatClampNeg (-1 : Int32))) fun _ h36 => ob (iter (fun z : Int32 × Hp => F_X4_stoveTo_l112 v0 v1 v2 ((3 : Int32) * (zI h v2 5)) z.1 z.2) FU ((0 : Int32), h36)) (fun z => sm z (fun h55 => F_X4_stoveTo_b179 h55) (fun z => un2 z fun w56 h57 => gd (decide (kd h57 v0 = 4)) <| ob (zR h57 v0 0) fun q59 => gd (decide (kd h57 q59 = 13)) <| gd (ix w56 (zl h57 q59)) <| some (zI h57 q59 (w56).toNatClampNeg, h57, 0, 0))) else some ((-1 : Int32), h20, 0, 0))))
set_option maxHeartbeats 4000000 in
set_option maxRecDepth 100000 in
theorem r_X4_stoveTo_b0 (v0 : Nat) (v1 : Int32) (v2 : Nat) (v3 : Nat) (h : Hp) {x : Cx} {r : Int32} {hz : Hp} {c9 s9 : Nat} (e : F_X4_stoveTo_b0 v0 v1 v2 v3 h = some (r, hz, c9, s9)) (hF : Fin9 M_X4_stoveTo x (some .int) (some (.int r)) hz) : V M_X4_stoveTo x 3 0 [(0, .ref v0), (1, .int v1), (2, .ref v2), (3, .ref v3)] [] h c9 s9 := by
  unfold F_X4_stoveTo_b0 at e
  refine V_aload_n (pc := 0) (i := 2) dX4_stoveTo_0 rfl rfl ?_
  replace e := gd_some e
  obtain ⟨g1, e⟩ := e
  refine V_getI (pc := 1) (ci := 2) (k := 11) dX4_stoveTo_1 fl_X4_38 rfl (of_decide_eq_true g1) ?_
  refine V_iload_n (pc := 4) (i := 1) dX4_stoveTo_4 rfl rfl ?_
  refine V_icmp_ne (pc := 5) (tgt := 10) dX4_stoveTo_5 (by decide) (fun c70 => ?_) (fun c70 => ?_)
  · rw [if_neg c70] at e
    refine V_pick [0, 1, 2, 3] rfl ?_
    refine V_iconst (pc := 10) (v := (3 : Int32)) dX4_stoveTo_10 (by decide) ?_
    refine V_aload_n (pc := 11) (i := 2) dX4_stoveTo_11 rfl rfl ?_
    refine V_getI (pc := 12) (ci := 2) (k := 5) dX4_stoveTo_12 fl_X4_31 rfl (of_decide_eq_true g1) ?_
    refine V_imul (pc := 15) dX4_stoveTo_15 ?_
    refine V_istore (pc := 16) (i := 4) (lv' := [(4, .int ((3 : Int32) * (zI h v2 5))), (0, .ref v0), (1, .int v1), (2, .ref v2), (3, .ref v3)]) dX4_stoveTo_16 (by decide) rfl ?_
    refine V_aload_n (pc := 18) (i := 0) dX4_stoveTo_18 rfl rfl ?_
    refine V_aload_n (pc := 19) (i := 2) dX4_stoveTo_19 rfl rfl ?_
    refine V_getI (pc := 20) (ci := 2) (k := 5) dX4_stoveTo_20 fl_X4_31 rfl (of_decide_eq_true g1) ?_
    refine V_iconst (pc := 23) (v := (1 : Int32)) dX4_stoveTo_23 (by decide) ?_
    refine V_iadd (pc := 24) dX4_stoveTo_24 ?_
    replace e := ob4_some e
    obtain ⟨r3, h4, n5, n6, g2, e⟩ := e
    replace e := ac_some e
    obtain ⟨n7, n8, e, hc9, hs9⟩ := e
    rw [hc9, hs9]
    clear hc9 hs9
    replace e := gd_some e
    obtain ⟨g9, e⟩ := e
    refine V_callV (pc := 25) (bc := n7) (bs := n8) (mc := n5) (ms := n6) (st := []) (As := [.int ((zI h v2 5) + (1 : Int32))]) (a := v0) (h' := h4) (r := none) dX4_stoveTo_25 ml_X4_34 (ci := 4) rfl (of_decide_eq_true g9) rfl rfl (Nat.le_of_ble_eq_true rfl) (d' := 1) (by decide) (c_X4_shutAll (l := x.2.1) v0 ((zI h v2 5) + (1 : Int32)) h g2) ?_
    refine V_iconst (pc := 28) (v := (0 : Int32)) dX4_stoveTo_28 (by decide) ?_
    refine V_istore (pc := 29) (i := 5) (lv' := [(5, .int (0 : Int32)), (4, .int ((3 : Int32) * (zI h v2 5))), (0, .ref v0), (1, .int v1), (2, .ref v2), (3, .ref v3)]) dX4_stoveTo_29 (by decide) rfl ?_
    refine V_pick [2, 3, 4, 5, 1, 0] rfl ?_
    replace e := ob_some e
    obtain ⟨y68, g69, e⟩ := e
    refine iter_V (P := fun z : Int32 × Hp => V M_X4_stoveTo x 3 31 [(0, .ref v0), (1, .int v1), (2, .ref v2), (3, .ref v3), (4, .int ((3 : Int32) * (zI h v2 5))), (5, .int z.1)] [] z.2 n7 n8) (E := fun z : Hp => V M_X4_stoveTo x 3 64 [(0, .ref v0), (1, .int v1), (2, .ref v2), (4, .int ((3 : Int32) * (zI h v2 5)))] [] z n7 n8) (fun z o e9 k1 k2 => r_X4_stoveTo_l31 v0 v1 v2 v3 ((3 : Int32) * (zI h v2 5)) z.1 z.2 e9 (fun z hz9 => k1 z hz9) (fun z hz9 => k2 _ hz9)) _ _ _ g69 ?_
    clear g69
    obtain ⟨h20, rfl⟩ : ∃ q, q = y68 := ⟨_, rfl⟩
    replace e : (gd (decide (kd h20 v2 = 2)) <| ob (zR h20 v2 7) fun q22 => ob (F_X2_asNumber v2 q22 h20) fun r25 => gd (decide (kd h20 v0 = 4)) <| ob (zR h20 v0 0) fun q27 => gd (decide (kd h20 q27 = 13)) <| (if (r25 + ((zI h20 v2 11) <<< (((3 : Int32) * (zI h v2 5)) &&& 31))) < (Int32.ofNat (zl h20 q27)) then ob (zR h20 v0 0) fun q30 => gd (decide (kd h20 q30 = 13)) <| gd (ix (r25 + ((zI h20 v2 11) <<< (((3 : Int32) * (zI h v2 5)) &&& 31))) (zl h20 q30)) <| ob2 (F_X4_reach v0 (r25 + ((zI h20 v2 11) <<< (((3 : Int32) * (zI h v2 5)) &&& 31))) (0 : Int32) (setI h20 q30 (r25 + ((zI h20 v2 11) <<< (((3 : Int32) * (zI h v2 5)) &&& 31))).toNatClampNeg (-1 : Int32))) fun _ h36 => ob (iter (fun z : Int32 × Hp => F_X4_stoveTo_l112 v0 v1 v2 ((3 : Int32) * (zI h v2 5)) z.1 z.2) FU ((0 : Int32), h36)) (fun z => sm z (fun h55 => F_X4_stoveTo_b179 h55) (fun z => un2 z fun w56 h57 => gd (decide (kd h57 v0 = 4)) <| ob (zR h57 v0 0) fun q59 => gd (decide (kd h57 q59 = 13)) <| gd (ix w56 (zl h57 q59)) <| some (zI h57 q59 (w56).toNatClampNeg, h57, 0, 0))) else some ((-1 : Int32), h20, 0, 0))) = some (r, hz, n7, n8) := e
    show V M_X4_stoveTo x 3 64 [(0, .ref v0), (1, .int v1), (2, .ref v2), (4, .int ((3 : Int32) * (zI h v2 5)))] [] h20 n7 n8
    refine V_aload_n (pc := 64) (i := 2) dX4_stoveTo_64 rfl rfl ?_
    refine V_aload_n (pc := 65) (i := 2) dX4_stoveTo_65 rfl rfl ?_
    replace e := gd_some e
    obtain ⟨g21, e⟩ := e
    replace e := ob_some e
    obtain ⟨q22, g23, e⟩ := e
    refine V_getR (pc := 66) (ci := 2) (k := 7) (b := q22) dX4_stoveTo_66 fl_X4_22 rfl (of_decide_eq_true g21) g23 ?_
    replace e := ob_some e
    obtain ⟨r25, g24, e⟩ := e
    refine V_callV (pc := 69) (bc := n7) (bs := n8) (mc := 0) (ms := 0) (st := []) (As := [.ref q22]) (a := v2) (h' := h20) (r := some (.int r25)) dX4_stoveTo_69 ml_X4_27 (ci := 2) rfl (of_decide_eq_true g21) rfl rfl (Nat.le_of_ble_eq_true rfl) (d' := 0) (by decide) (c_X2_asNumber (l := x.2.1) v2 q22 h20 g24) ?_
    refine V_aload_n (pc := 72) (i := 2) dX4_stoveTo_72 rfl rfl ?_
    refine V_getI (pc := 73) (ci := 2) (k := 11) dX4_stoveTo_73 fl_X4_38 rfl (of_decide_eq_true g21) ?_
    refine V_iload (pc := 76) (i := 4) dX4_stoveTo_76 rfl ?_
    refine V_ishl (pc := 78) dX4_stoveTo_78 ?_
    refine V_iadd (pc := 79) dX4_stoveTo_79 ?_
    refine V_istore (pc := 80) (i := 5) (lv' := [(5, .int (r25 + ((zI h20 v2 11) <<< (((3 : Int32) * (zI h v2 5)) &&& 31)))), (0, .ref v0), (1, .int v1), (2, .ref v2), (4, .int ((3 : Int32) * (zI h v2 5)))]) dX4_stoveTo_80 (by decide) rfl ?_
    refine V_iload (pc := 82) (i := 5) dX4_stoveTo_82 rfl ?_
    refine V_aload_n (pc := 84) (i := 0) dX4_stoveTo_84 rfl rfl ?_
    replace e := gd_some e
    obtain ⟨g26, e⟩ := e
    replace e := ob_some e
    obtain ⟨q27, g28, e⟩ := e
    refine V_getR (pc := 85) (ci := 4) (k := 0) (b := q27) dX4_stoveTo_85 fl_X4_9 rfl (of_decide_eq_true g26) g28 ?_
    replace e := gd_some e
    obtain ⟨g29, e⟩ := e
    refine V_alen (pc := 88) (k := 13) dX4_stoveTo_88 (of_decide_eq_true g29) (by decide) ?_
    refine V_icmp_lt (pc := 89) (tgt := 94) dX4_stoveTo_89 (by decide) (fun c67 => ?_) (fun c67 => ?_)
    · rw [if_pos c67] at e
      refine V_pick [1, 2, 3, 4, 0] rfl ?_
      refine V_aload_n (pc := 94) (i := 0) dX4_stoveTo_94 rfl rfl ?_
      replace e := ob_some e
      obtain ⟨q30, g31, e⟩ := e
      refine V_getR (pc := 95) (ci := 4) (k := 0) (b := q30) dX4_stoveTo_95 fl_X4_9 rfl (of_decide_eq_true g26) g31 ?_
      refine V_iload (pc := 98) (i := 5) dX4_stoveTo_98 rfl ?_
      refine V_iconst (pc := 100) (v := (-1 : Int32)) dX4_stoveTo_100 (by decide) ?_
      replace e := gd_some e
      obtain ⟨g32, e⟩ := e
      replace e := gd_some e
      obtain ⟨g33, e⟩ := e
      refine V_iast (pc := 101) dX4_stoveTo_101 (of_decide_eq_true g32) (ix_in g33) ?_
      refine V_aload_n (pc := 102) (i := 0) dX4_stoveTo_102 rfl rfl ?_
      refine V_iload (pc := 103) (i := 5) dX4_stoveTo_103 rfl ?_
      refine V_iconst (pc := 105) (v := (0 : Int32)) dX4_stoveTo_105 (by decide) ?_
      replace e := ob2_some e
      obtain ⟨r35, h36, g34, e⟩ := e
      refine V_callV (pc := 106) (bc := n7) (bs := n8) (mc := 0) (ms := 0) (st := []) (As := [.int (r25 + ((zI h20 v2 11) <<< (((3 : Int32) * (zI h v2 5)) &&& 31))), .int (0 : Int32)]) (a := v0) (h' := h36) (r := none) dX4_stoveTo_106 ml_X4_51 (ci := 4) rfl (kd_sI (of_decide_eq_true g26)) rfl rfl (Nat.le_of_ble_eq_true rfl) (d' := 0) (by decide) (c_X4_reach (l := x.2.1) v0 (r25 + ((zI h20 v2 11) <<< (((3 : Int32) * (zI h v2 5)) &&& 31))) (0 : Int32) (setI h20 q30 (r25 + ((zI h20 v2 11) <<< (((3 : Int32) * (zI h v2 5)) &&& 31))).toNatClampNeg (-1 : Int32)) g34) ?_
      refine V_iconst (pc := 109) (v := (0 : Int32)) dX4_stoveTo_109 (by decide) ?_
      refine V_istore (pc := 110) (i := 6) (lv' := [(6, .int (0 : Int32)), (0, .ref v0), (1, .int v1), (2, .ref v2), (4, .int ((3 : Int32) * (zI h v2 5))), (5, .int (r25 + ((zI h20 v2 11) <<< (((3 : Int32) * (zI h v2 5)) &&& 31))))]) dX4_stoveTo_110 (by decide) rfl ?_
      refine V_pick [1, 2, 3, 4, 0] rfl ?_
      replace e := ob_some e
      obtain ⟨y63, g64, e⟩ := e
      refine iter_V (P := fun z : Int32 × Hp => V M_X4_stoveTo x 3 112 [(0, .ref v0), (1, .int v1), (2, .ref v2), (4, .int ((3 : Int32) * (zI h v2 5))), (6, .int z.1)] [] z.2 n7 n8) (E := fun z => Sum.elim (fun z : Hp => V M_X4_stoveTo x 3 179 [] [] z n7 n8) (fun z : Int32 × Hp => V M_X4_stoveTo x 3 149 [(0, .ref v0), (7, .int z.1)] [] z.2 n7 n8) z) (fun z o e9 k1 k2 => r_X4_stoveTo_l112 v0 v1 v2 ((3 : Int32) * (zI h v2 5)) z.1 z.2 e9 (fun z hz9 => k1 z hz9) (fun z hz9 => k2 _ hz9) (fun z hz9 => k2 _ hz9)) _ _ _ g64 ?_
      clear g64
      rcases y63 with y65 | y66
      · obtain ⟨h55, rfl⟩ : ∃ q, q = y65 := ⟨_, rfl⟩
        replace e : (F_X4_stoveTo_b179 h55) = some (r, hz, n7, n8) := e
        show V M_X4_stoveTo x 3 179 [] [] h55 n7 n8
        exact V_pick [] rfl (r_X4_stoveTo_b179 h55 e hF)
      · obtain ⟨w56, h57⟩ := y66
        replace e : (gd (decide (kd h57 v0 = 4)) <| ob (zR h57 v0 0) fun q59 => gd (decide (kd h57 q59 = 13)) <| gd (ix w56 (zl h57 q59)) <| some (zI h57 q59 (w56).toNatClampNeg, h57, 0, 0)) = some (r, hz, n7, n8) := e
        show V M_X4_stoveTo x 3 149 [(0, .ref v0), (7, .int w56)] [] h57 n7 n8
        refine V_aload_n (pc := 149) (i := 0) dX4_stoveTo_149 rfl rfl ?_
        replace e := gd_some e
        obtain ⟨g58, e⟩ := e
        replace e := ob_some e
        obtain ⟨q59, g60, e⟩ := e
        refine V_getR (pc := 150) (ci := 4) (k := 0) (b := q59) dX4_stoveTo_150 fl_X4_9 rfl (of_decide_eq_true g58) g60 ?_
        refine V_iload (pc := 153) (i := 7) dX4_stoveTo_153 rfl ?_
        replace e := gd_some e
        obtain ⟨g61, e⟩ := e
        replace e := gd_some e
        obtain ⟨g62, e⟩ := e
        refine V_iald (pc := 155) dX4_stoveTo_155 (of_decide_eq_true g61) (ix_in g62) ?_
        cases e
        exact V_iret (pc := 156) dX4_stoveTo_156 hF
    · rw [if_neg c67] at e
      refine V_pick [] rfl ?_
      refine V_iconst (pc := 92) (v := (-1 : Int32)) dX4_stoveTo_92 (by decide) ?_
      cases e
      exact V_iret (pc := 93) dX4_stoveTo_93 hF
  · rw [if_pos c70] at e
    refine V_pick [] rfl ?_
    refine V_iconst (pc := 8) (v := (0 : Int32)) dX4_stoveTo_8 (by decide) ?_
    cases e
    exact V_iret (pc := 9) dX4_stoveTo_9 hF
def F_X4_stoveTo (v0 : Nat) (v1 : Int32) (v2 : Nat) (v3 : Nat) (h : Hp) : Option (Int32 × Hp × Nat × Nat) := F_X4_stoveTo_b0 v0 v1 v2 v3 h
theorem c_X4_stoveTo {l : Launch} (v0 : Nat) (v1 : Int32) (v2 : Nat) (v3 : Nat) (h : Hp) {r : Int32} {hz : Hp} {c9 s9 : Nat} (e : F_X4_stoveTo v0 v1 v2 v3 h = some (r, hz, c9, s9)) : Ct l yX4_stoveTo M_X4_stoveTo (some .int) 3 [.ref v0, .int v1, .ref v2, .ref v3] h c9 s9 (some (.int r)) hz :=
  Ct_of rfl rfl (fun q => by cases q) (Nat.le_of_ble_eq_true rfl) (fun x _ hF => V_pick [0, 1, 2, 3] rfl (r_X4_stoveTo_b0 v0 v1 v2 v3 h e hF))

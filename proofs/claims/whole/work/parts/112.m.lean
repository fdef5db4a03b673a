theorem dX11_where_0 : decode cX11_where 0 = .ok (.aload_n 0, 1) := by decide +kernel
theorem dX11_where_1 : decode cX11_where 1 = .ok (.getfield 19, 3) := by decide +kernel
theorem dX11_where_4 : decode cX11_where 4 = .ok (.iload_n 1, 1) := by decide +kernel
theorem dX11_where_5 : decode cX11_where 5 = .ok (.invokevirtual 109, 3) := by decide +kernel
theorem dX11_where_8 : decode cX11_where 8 = .ok (.ifCond .ne 13, 3) := by decide +kernel
theorem dX11_where_11 : decode cX11_where 11 = .ok (.new 113, 3) := by decide +kernel
theorem dX11_where_14 : decode cX11_where 14 = .ok (.dup, 1) := by decide +kernel
theorem dX11_where_15 : decode cX11_where 15 = .ok (.ldc 115, 2) := by decide +kernel
theorem dX11_where_17 : decode cX11_where 17 = .ok (.invokespecial 117, 3) := by decide +kernel
theorem dX11_where_20 : decode cX11_where 20 = .ok (.athrow, 1) := by decide +kernel
theorem dX11_where_21 : decode cX11_where 21 = .ok (.aload_n 0, 1) := by decide +kernel
theorem dX11_where_22 : decode cX11_where 22 = .ok (.getfield 19, 3) := by decide +kernel
theorem dX11_where_25 : decode cX11_where 25 = .ok (.getfield 166, 3) := by decide +kernel
theorem dX11_where_28 : decode cX11_where 28 = .ok (.iload_n 1, 1) := by decide +kernel
theorem dX11_where_29 : decode cX11_where 29 = .ok (.iaload, 1) := by decide +kernel
theorem dX11_where_30 : decode cX11_where 30 = .ok (.ireturn, 1) := by decide +kernel
set_option maxRecDepth 100000 in
def F_X11_where_b0 (v0 : Nat) (v1 : Int32) (h : Hp) : Option ((Int32 ⊕ Nat) × Hp × Nat × Nat) :=
  gd (decide (kd h v0 = 10)) <| ob (zR h v0 1) fun q2 => ob (F_X2_hasGuest q2 v1 h) fun r5 => gd (decide (kd h q2 = 2)) <| (if r5 = 0 then some (.inr 2, h, 1, 6) else ob (zR h v0 1) fun q7 => gd (decide (kd h q7 = 2)) <| ob (zR h q7 7) fun q10 => gd (decide (kd h q10 = 13)) <| gd (ix v1 (zl h q10)) <| some (.inl (zI h q10 (v1).toNatClampNeg), h, 0, 0))
set_option maxHeartbeats 4000000 in
set_option maxRecDepth 100000 in
theorem r_X11_where_b0 (v0 : Nat) (v1 : Int32) (h : Hp) {x : Cx} {r : (Int32 ⊕ Nat)} {hz : Hp} {c9 s9 : Nat} (e : F_X11_where_b0 v0 v1 h = some (r, hz, c9, s9)) (hF : FinO M_X11_where x (some .int) r hz) : V M_X11_where x 8 0 [(0, .ref v0), (1, .int v1)] [] h c9 s9 := by
  unfold F_X11_where_b0 at e
  refine V_aload_n (pc := 0) (i := 0) dX11_where_0 rfl rfl ?_
  replace e := gd_some e
  obtain ⟨g1, e⟩ := e
  replace e := ob_some e
  obtain ⟨q2, g3, e⟩ := e
  refine V_getR (pc := 1) (ci := 10) (k := 1) (b := q2) dX11_where_1 fl_X11_19 rfl (of_decide_eq_true g1) g3 ?_
  refine V_iload_n (pc := 4) (i := 1) dX11_where_4 rfl rfl ?_
  replace e := ob_some e
  obtain ⟨r5, g4, e⟩ := e
  replace e := gd_some e
  obtain ⟨g6, e⟩ := e
  refine V_callV (pc := 5) (bc := c9) (bs := s9) (mc := 0) (ms := 0) (st := []) (As := [.int v1]) (a := q2) (h' := h) (r := some (.int r5)) dX11_where_5 ml_X11_109 (ci := 2) rfl (of_decide_eq_true g6) rfl rfl (Nat.le_of_ble_eq_true rfl) (d' := 0) (by decide) (c_X2_hasGuest (l := x.2.1) q2 v1 h g4) ?_
  refine V_if_ne (pc := 8) (tgt := 21) dX11_where_8 (by decide) (fun c14 => ?_) (fun c14 => ?_)
  · rw [if_neg c14] at e
    refine V_pick [0, 1] rfl ?_
    refine V_aload_n (pc := 21) (i := 0) dX11_where_21 rfl rfl ?_
    replace e := ob_some e
    obtain ⟨q7, g8, e⟩ := e
    refine V_getR (pc := 22) (ci := 10) (k := 1) (b := q7) dX11_where_22 fl_X11_19 rfl (of_decide_eq_true g1) g8 ?_
    replace e := gd_some e
    obtain ⟨g9, e⟩ := e
    replace e := ob_some e
    obtain ⟨q10, g11, e⟩ := e
    refine V_getR (pc := 25) (ci := 2) (k := 7) (b := q10) dX11_where_25 fl_X11_166 rfl (of_decide_eq_true g9) g11 ?_
    refine V_iload_n (pc := 28) (i := 1) dX11_where_28 rfl rfl ?_
    replace e := gd_some e
    obtain ⟨g12, e⟩ := e
    replace e := gd_some e
    obtain ⟨g13, e⟩ := e
    refine V_iald (pc := 29) dX11_where_29 (of_decide_eq_true g12) (ix_in g13) ?_
    cases e
    exact V_iret (pc := 30) dX11_where_30 hF
  · rw [if_pos c14] at e
    refine V_pick [] rfl ?_
    cases e
    exact V_throw (pc := 11) (j := 28) hF th_X11_113_117 rfl (by decide) (Nat.le_of_ble_eq_true rfl) dX11_where_11 dX11_where_14 dX11_where_15 dX11_where_17 dX11_where_20
def F_X11_where (v0 : Nat) (v1 : Int32) (h : Hp) : Option ((Int32 ⊕ Nat) × Hp × Nat × Nat) := F_X11_where_b0 v0 v1 h
theorem c_X11_where {l : Launch} (v0 : Nat) (v1 : Int32) (h : Hp) {r : Int32} {hz : Hp} {c9 s9 : Nat} (e : F_X11_where v0 v1 h = some (.inl r, hz, c9, s9)) : Ct l yX11_where M_X11_where (some .int) 8 [.ref v0, .int v1] h c9 s9 (some (.int r)) hz :=
  Ct_of rfl rfl (fun q => by cases q) (Nat.le_of_ble_eq_true rfl) (fun x _ hF => V_pick [0, 1] rfl (r_X11_where_b0 v0 v1 h e hF))
theorem cX_X11_where {l : Launch} (hst : l.stackTraces = false) (v0 : Nat) (v1 : Int32) (h : Hp) {k : Nat} {hz : Hp} {c9 s9 : Nat} (e : F_X11_where v0 v1 h = some (.inr k, hz, c9, s9)) : CtX l yX11_where M_X11_where (some .int) 8 [.ref v0, .int v1] h c9 s9 (exN k) hz :=
  CtX_of hst rfl rfl (fun q => by cases q) (Nat.le_of_ble_eq_true rfl) (fun x _ hF => V_pick [0, 1] rfl (r_X11_where_b0 v0 v1 h e hF))
theorem dX11_trunk_0 : decode cX11_trunk 0 = .ok (.aload_n 0, 1) := by decide +kernel
theorem dX11_trunk_1 : decode cX11_trunk 1 = .ok (.getfield 19, 3) := by decide +kernel
theorem dX11_trunk_4 : decode cX11_trunk 4 = .ok (.getfield 173, 3) := by decide +kernel
theorem dX11_trunk_7 : decode cX11_trunk 7 = .ok (.iload_n 1, 1) := by decide +kernel
theorem dX11_trunk_8 : decode cX11_trunk 8 = .ok (.invokevirtual 187, 3) := by decide +kernel
theorem dX11_trunk_11 : decode cX11_trunk 11 = .ok (.ifCond .ne 13, 3) := by decide +kernel
theorem dX11_trunk_14 : decode cX11_trunk 14 = .ok (.new 113, 3) := by decide +kernel
theorem dX11_trunk_17 : decode cX11_trunk 17 = .ok (.dup, 1) := by decide +kernel
theorem dX11_trunk_18 : decode cX11_trunk 18 = .ok (.ldc 190, 2) := by decide +kernel
theorem dX11_trunk_20 : decode cX11_trunk 20 = .ok (.invokespecial 117, 3) := by decide +kernel
theorem dX11_trunk_23 : decode cX11_trunk 23 = .ok (.athrow, 1) := by decide +kernel
theorem dX11_trunk_24 : decode cX11_trunk 24 = .ok (.iload_n 2, 1) := by decide +kernel
theorem dX11_trunk_25 : decode cX11_trunk 25 = .ok (.tableswitch 66 0 2 #[27, 40, 53], 27) := by decide +kernel
theorem dX11_trunk_52 : decode cX11_trunk 52 = .ok (.aload_n 0, 1) := by decide +kernel
theorem dX11_trunk_53 : decode cX11_trunk 53 = .ok (.getfield 19, 3) := by decide +kernel
theorem dX11_trunk_56 : decode cX11_trunk 56 = .ok (.getfield 173, 3) := by decide +kernel
theorem dX11_trunk_59 : decode cX11_trunk 59 = .ok (.getfield 192, 3) := by decide +kernel
theorem dX11_trunk_62 : decode cX11_trunk 62 = .ok (.iload_n 1, 1) := by decide +kernel
theorem dX11_trunk_63 : decode cX11_trunk 63 = .ok (.iaload, 1) := by decide +kernel
theorem dX11_trunk_64 : decode cX11_trunk 64 = .ok (.ireturn, 1) := by decide +kernel
theorem dX11_trunk_65 : decode cX11_trunk 65 = .ok (.aload_n 0, 1) := by decide +kernel
theorem dX11_trunk_66 : decode cX11_trunk 66 = .ok (.getfield 19, 3) := by decide +kernel
theorem dX11_trunk_69 : decode cX11_trunk 69 = .ok (.getfield 173, 3) := by decide +kernel
theorem dX11_trunk_72 : decode cX11_trunk 72 = .ok (.getfield 195, 3) := by decide +kernel
theorem dX11_trunk_75 : decode cX11_trunk 75 = .ok (.iload_n 1, 1) := by decide +kernel
theorem dX11_trunk_76 : decode cX11_trunk 76 = .ok (.iaload, 1) := by decide +kernel
theorem dX11_trunk_77 : decode cX11_trunk 77 = .ok (.ireturn, 1) := by decide +kernel
theorem dX11_trunk_78 : decode cX11_trunk 78 = .ok (.aload_n 0, 1) := by decide +kernel
theorem dX11_trunk_79 : decode cX11_trunk 79 = .ok (.getfield 19, 3) := by decide +kernel
theorem dX11_trunk_82 : decode cX11_trunk 82 = .ok (.getfield 173, 3) := by decide +kernel
theorem dX11_trunk_85 : decode cX11_trunk 85 = .ok (.getfield 198, 3) := by decide +kernel
theorem dX11_trunk_88 : decode cX11_trunk 88 = .ok (.iload_n 1, 1) := by decide +kernel
theorem dX11_trunk_89 : decode cX11_trunk 89 = .ok (.iaload, 1) := by decide +kernel
theorem dX11_trunk_90 : decode cX11_trunk 90 = .ok (.ireturn, 1) := by decide +kernel
theorem dX11_trunk_91 : decode cX11_trunk 91 = .ok (.new 182, 3) := by decide +kernel
theorem dX11_trunk_94 : decode cX11_trunk 94 = .ok (.dup, 1) := by decide +kernel
theorem dX11_trunk_95 : decode cX11_trunk 95 = .ok (.ldc 184, 2) := by decide +kernel
theorem dX11_trunk_97 : decode cX11_trunk 97 = .ok (.invokespecial 186, 3) := by decide +kernel
theorem dX11_trunk_100 : decode cX11_trunk 100 = .ok (.athrow, 1) := by decide +kernel
set_option maxRecDepth 100000 in
def F_X11_trunk_b0 (v0 : Nat) (v1 : Int32) (v2 : Int32) (h : Hp) : Option ((Int32 ⊕ Nat) × Hp × Nat × Nat) :=
  gd (decide (kd h v0 = 10)) <| ob (zR h v0 1) fun q2 => gd (decide (kd h q2 = 2)) <| ob (zR h q2 9) fun q5 => ob (F_X8_has q5 v1 h) fun r8 => gd (decide (kd h q5 = 7)) <| (if r8 = 0 then some (.inr 2, h, 1, 6) else (if v2 = (0 : Int32) then ob (zR h v0 1) fun q10 => gd (decide (kd h q10 = 2)) <| ob (zR h q10 9) fun q13 => gd (decide (kd h q13 = 7)) <| ob (zR h q13 1) fun q16 => gd (decide (kd h q16 = 13)) <| gd (ix v1 (zl h q16)) <| some (.inl (zI h q16 (v1).toNatClampNeg), h, 0, 0) else if v2 = (1 : Int32) then ob (zR h v0 1) fun q21 => gd (decide (kd h q21 = 2)) <| ob (zR h q21 9) fun q24 => gd (decide (kd h q24 = 7)) <| ob (zR h q24 2) fun q27 => gd (decide (kd h q27 = 13)) <| gd (ix v1 (zl h q27)) <| some (.inl (zI h q27 (v1).toNatClampNeg), h, 0, 0) else if v2 = (2 : Int32) then ob (zR h v0 1) fun q32 => gd (decide (kd h q32 = 2)) <| ob (zR h q32 9) fun q35 => gd (decide (kd h q35 = 7)) <| ob (zR h q35 3) fun q38 => gd (decide (kd h q38 = 13)) <| gd (ix v1 (zl h q38)) <| some (.inl (zI h q38 (v1).toNatClampNeg), h, 0, 0) else some (.inr 3, h, 1, 6)))
set_option maxHeartbeats 4000000 in
set_option maxRecDepth 100000 in
theorem r_X11_trunk_b0 (v0 : Nat) (v1 : Int32) (v2 : Int32) (h : Hp) {x : Cx} {r : (Int32 ⊕ Nat)} {hz : Hp} {c9 s9 : Nat} (e : F_X11_trunk_b0 v0 v1 v2 h = some (r, hz, c9, s9)) (hF : FinO M_X11_trunk x (some .int) r hz) : V M_X11_trunk x 8 0 [(0, .ref v0), (1, .int v1), (2, .int v2)] [] h c9 s9 := by
  unfold F_X11_trunk_b0 at e
  refine V_aload_n (pc := 0) (i := 0) dX11_trunk_0 rfl rfl ?_
  replace e := gd_some e
  obtain ⟨g1, e⟩ := e
  replace e := ob_some e
  obtain ⟨q2, g3, e⟩ := e
  refine V_getR (pc := 1) (ci := 10) (k := 1) (b := q2) dX11_trunk_1 fl_X11_19 rfl (of_decide_eq_true g1) g3 ?_
  replace e := gd_some e
  obtain ⟨g4, e⟩ := e
  replace e := ob_some e
  obtain ⟨q5, g6, e⟩ := e
  refine V_getR (pc := 4) (ci := 2) (k := 9) (b := q5) dX11_trunk_4 fl_X11_173 rfl (of_decide_eq_true g4) g6 ?_
  refine V_iload_n (pc := 7) (i := 1) dX11_trunk_7 rfl rfl ?_
  replace e := ob_some e
  obtain ⟨r8, g7, e⟩ := e
  replace e := gd_some e
  obtain ⟨g9, e⟩ := e
  refine V_callV (pc := 8) (bc := c9) (bs := s9) (mc := 0) (ms := 0) (st := []) (As := [.int v1]) (a := q5) (h' := h) (r := some (.int r8)) dX11_trunk_8 ml_X11_187 (ci := 7) rfl (of_decide_eq_true g9) rfl rfl (Nat.le_of_ble_eq_true rfl) (d' := 0) (by decide) (c_X8_has (l := x.2.1) q5 v1 h g7) ?_
  refine V_if_ne (pc := 11) (tgt := 24) dX11_trunk_11 (by decide) (fun c43 => ?_) (fun c43 => ?_)
  · rw [if_neg c43] at e
    refine V_pick [0, 1, 2] rfl ?_
    refine V_iload_n (pc := 24) (i := 2) dX11_trunk_24 rfl rfl ?_
    by_cases c20 : v2 = (0 : Int32)
    · rw [if_pos c20] at e
      refine V_tableIn (pc := 25) (tgt := 52) dX11_trunk_25 (by rw [c20]; decide) (by rw [c20]; decide) (by rw [c20]; rfl) (by decide) ?_
      refine V_pick [0, 1] rfl ?_
      refine V_aload_n (pc := 52) (i := 0) dX11_trunk_52 rfl rfl ?_
      replace e := ob_some e
      obtain ⟨q10, g11, e⟩ := e
      refine V_getR (pc := 53) (ci := 10) (k := 1) (b := q10) dX11_trunk_53 fl_X11_19 rfl (of_decide_eq_true g1) g11 ?_
      replace e := gd_some e
      obtain ⟨g12, e⟩ := e
      replace e := ob_some e
      obtain ⟨q13, g14, e⟩ := e
      refine V_getR (pc := 56) (ci := 2) (k := 9) (b := q13) dX11_trunk_56 fl_X11_173 rfl (of_decide_eq_true g12) g14 ?_
      replace e := gd_some e
      obtain ⟨g15, e⟩ := e
      replace e := ob_some e
      obtain ⟨q16, g17, e⟩ := e
      refine V_getR (pc := 59) (ci := 7) (k := 1) (b := q16) dX11_trunk_59 fl_X11_192 rfl (of_decide_eq_true g15) g17 ?_
      refine V_iload_n (pc := 62) (i := 1) dX11_trunk_62 rfl rfl ?_
      replace e := gd_some e
      obtain ⟨g18, e⟩ := e
      replace e := gd_some e
      obtain ⟨g19, e⟩ := e
      refine V_iald (pc := 63) dX11_trunk_63 (of_decide_eq_true g18) (ix_in g19) ?_
      cases e
      exact V_iret (pc := 64) dX11_trunk_64 hF
    · rw [if_neg c20] at e
      by_cases c31 : v2 = (1 : Int32)
      · rw [if_pos c31] at e
        refine V_tableIn (pc := 25) (tgt := 65) dX11_trunk_25 (by rw [c31]; decide) (by rw [c31]; decide) (by rw [c31]; rfl) (by decide) ?_
        refine V_pick [0, 1] rfl ?_
        refine V_aload_n (pc := 65) (i := 0) dX11_trunk_65 rfl rfl ?_
        replace e := ob_some e
        obtain ⟨q21, g22, e⟩ := e
        refine V_getR (pc := 66) (ci := 10) (k := 1) (b := q21) dX11_trunk_66 fl_X11_19 rfl (of_decide_eq_true g1) g22 ?_
        replace e := gd_some e
        obtain ⟨g23, e⟩ := e
        replace e := ob_some e
        obtain ⟨q24, g25, e⟩ := e
        refine V_getR (pc := 69) (ci := 2) (k := 9) (b := q24) dX11_trunk_69 fl_X11_173 rfl (of_decide_eq_true g23) g25 ?_
        replace e := gd_some e
        obtain ⟨g26, e⟩ := e
        replace e := ob_some e
        obtain ⟨q27, g28, e⟩ := e
        refine V_getR (pc := 72) (ci := 7) (k := 2) (b := q27) dX11_trunk_72 fl_X11_195 rfl (of_decide_eq_true g26) g28 ?_
        refine V_iload_n (pc := 75) (i := 1) dX11_trunk_75 rfl rfl ?_
        replace e := gd_some e
        obtain ⟨g29, e⟩ := e
        replace e := gd_some e
        obtain ⟨g30, e⟩ := e
        refine V_iald (pc := 76) dX11_trunk_76 (of_decide_eq_true g29) (ix_in g30) ?_
        cases e
        exact V_iret (pc := 77) dX11_trunk_77 hF
      · rw [if_neg c31] at e
        by_cases c42 : v2 = (2 : Int32)
        · rw [if_pos c42] at e
          refine V_tableIn (pc := 25) (tgt := 78) dX11_trunk_25 (by rw [c42]; decide) (by rw [c42]; decide) (by rw [c42]; rfl) (by decide) ?_
          refine V_pick [0, 1] rfl ?_
          refine V_aload_n (pc := 78) (i := 0) dX11_trunk_78 rfl rfl ?_
          replace e := ob_some e
          obtain ⟨q32, g33, e⟩ := e
          refine V_getR (pc := 79) (ci := 10) (k := 1) (b := q32) dX11_trunk_79 fl_X11_19 rfl (of_decide_eq_true g1) g33 ?_
          replace e := gd_some e
          obtain ⟨g34, e⟩ := e
          replace e := ob_some e
          obtain ⟨q35, g36, e⟩ := e
          refine V_getR (pc := 82) (ci := 2) (k := 9) (b := q35) dX11_trunk_82 fl_X11_173 rfl (of_decide_eq_true g34) g36 ?_
          replace e := gd_some e
          obtain ⟨g37, e⟩ := e
          replace e := ob_some e
          obtain ⟨q38, g39, e⟩ := e
          refine V_getR (pc := 85) (ci := 7) (k := 3) (b := q38) dX11_trunk_85 fl_X11_198 rfl (of_decide_eq_true g37) g39 ?_
          refine V_iload_n (pc := 88) (i := 1) dX11_trunk_88 rfl rfl ?_
          replace e := gd_some e
          obtain ⟨g40, e⟩ := e
          replace e := gd_some e
          obtain ⟨g41, e⟩ := e
          refine V_iald (pc := 89) dX11_trunk_89 (of_decide_eq_true g40) (ix_in g41) ?_
          cases e
          exact V_iret (pc := 90) dX11_trunk_90 hF
        · rw [if_neg c42] at e
          refine V_tableOut (pc := 25) (tgt := 91) dX11_trunk_25 (by have q0 := tI_ne c20 (z := 0) (by decide); have q1 := tI_ne c31 (z := 1) (by decide); have q2 := tI_ne c42 (z := 2) (by decide); omega) (by decide) ?_
          refine V_pick [] rfl ?_
          cases e
          exact V_throwN (pc := 91) (L := 97) (j := 30) hF th_X11_182_186 rfl (by decide) (Nat.le_of_ble_eq_true rfl) dX11_trunk_91 dX11_trunk_94 (Or.inl ⟨dX11_trunk_95, rfl⟩) dX11_trunk_97 dX11_trunk_100
  · rw [if_pos c43] at e
    refine V_pick [] rfl ?_
    cases e
    exact V_throw (pc := 14) (j := 31) hF th_X11_113_117 rfl (by decide) (Nat.le_of_ble_eq_true rfl) dX11_trunk_14 dX11_trunk_17 dX11_trunk_18 dX11_trunk_20 dX11_trunk_23
def F_X11_trunk (v0 : Nat) (v1 : Int32) (v2 : Int32) (h : Hp) : Option ((Int32 ⊕ Nat) × Hp × Nat × Nat) := F_X11_trunk_b0 v0 v1 v2 h
theorem c_X11_trunk {l : Launch} (v0 : Nat) (v1 : Int32) (v2 : Int32) (h : Hp) {r : Int32} {hz : Hp} {c9 s9 : Nat} (e : F_X11_trunk v0 v1 v2 h = some (.inl r, hz, c9, s9)) : Ct l yX11_trunk M_X11_trunk (some .int) 8 [.ref v0, .int v1, .int v2] h c9 s9 (some (.int r)) hz :=
  Ct_of rfl rfl (fun q => by cases q) (Nat.le_of_ble_eq_true rfl) (fun x _ hF => V_pick [0, 1, 2] rfl (r_X11_trunk_b0 v0 v1 v2 h e hF))
theorem cX_X11_trunk {l : Launch} (hst : l.stackTraces = false) (v0 : Nat) (v1 : Int32) (v2 : Int32) (h : Hp) {k : Nat} {hz : Hp} {c9 s9 : Nat} (e : F_X11_trunk v0 v1 v2 h = some (.inr k, hz, c9, s9)) : CtX l yX11_trunk M_X11_trunk (some .int) 8 [.ref v0, .int v1, .int v2] h c9 s9 (exN k) hz :=
  CtX_of hst rfl rfl (fun q => by cases q) (Nat.le_of_ble_eq_true rfl) (fun x _ hF => V_pick [0, 1, 2] rfl (r_X11_trunk_b0 v0 v1 v2 h e hF))
theorem dX11_go_0 : decode cX11_go 0 = .ok (.aload_n 0, 1) := by decide +kernel
theorem dX11_go_1 : decode cX11_go 1 = .ok (.getfield 19, 3) := by decide +kernel
theorem dX11_go_4 : decode cX11_go 4 = .ok (.iload_n 1, 1) := by decide +kernel
theorem dX11_go_5 : decode cX11_go 5 = .ok (.invokevirtual 109, 3) := by decide +kernel
theorem dX11_go_8 : decode cX11_go 8 = .ok (.ifCond .eq 14, 3) := by decide +kernel
theorem dX11_go_11 : decode cX11_go 11 = .ok (.aload_n 0, 1) := by decide +kernel
theorem dX11_go_12 : decode cX11_go 12 = .ok (.getfield 19, 3) := by decide +kernel
theorem dX11_go_15 : decode cX11_go 15 = .ok (.iload_n 2, 1) := by decide +kernel
theorem dX11_go_16 : decode cX11_go 16 = .ok (.invokevirtual 144, 3) := by decide +kernel
theorem dX11_go_19 : decode cX11_go 19 = .ok (.ifCond .ne 13, 3) := by decide +kernel
theorem dX11_go_22 : decode cX11_go 22 = .ok (.new 113, 3) := by decide +kernel
theorem dX11_go_25 : decode cX11_go 25 = .ok (.dup, 1) := by decide +kernel
theorem dX11_go_26 : decode cX11_go 26 = .ok (.ldc 201, 2) := by decide +kernel
theorem dX11_go_28 : decode cX11_go 28 = .ok (.invokespecial 117, 3) := by decide +kernel
theorem dX11_go_31 : decode cX11_go 31 = .ok (.athrow, 1) := by decide +kernel
theorem dX11_go_32 : decode cX11_go 32 = .ok (.aload_n 0, 1) := by decide +kernel
theorem dX11_go_33 : decode cX11_go 33 = .ok (.getfield 19, 3) := by decide +kernel
theorem dX11_go_36 : decode cX11_go 36 = .ok (.getfield 166, 3) := by decide +kernel
theorem dX11_go_39 : decode cX11_go 39 = .ok (.iload_n 1, 1) := by decide +kernel
theorem dX11_go_40 : decode cX11_go 40 = .ok (.iaload, 1) := by decide +kernel
theorem dX11_go_41 : decode cX11_go 41 = .ok (.istore_n 3, 1) := by decide +kernel
theorem dX11_go_42 : decode cX11_go 42 = .ok (.aload_n 0, 1) := by decide +kernel
theorem dX11_go_43 : decode cX11_go 43 = .ok (.getfield 19, 3) := by decide +kernel
theorem dX11_go_46 : decode cX11_go 46 = .ok (.getfield 166, 3) := by decide +kernel
theorem dX11_go_49 : decode cX11_go 49 = .ok (.iload_n 1, 1) := by decide +kernel
theorem dX11_go_50 : decode cX11_go 50 = .ok (.iload_n 2, 1) := by decide +kernel
theorem dX11_go_51 : decode cX11_go 51 = .ok (.iastore, 1) := by decide +kernel
theorem dX11_go_52 : decode cX11_go 52 = .ok (.iload_n 3, 1) := by decide +kernel
theorem dX11_go_53 : decode cX11_go 53 = .ok (.ireturn, 1) := by decide +kernel
set_option maxRecDepth 100000 in
def F_X11_go_b22  (h : Hp) : Option ((Int32 ⊕ Nat) × Hp × Nat × Nat) :=
  some (.inr 2, h, 1, 6)
set_option maxHeartbeats 4000000 in
set_option maxRecDepth 100000 in
theorem r_X11_go_b22  (h : Hp) {x : Cx} {r : (Int32 ⊕ Nat)} {hz : Hp} {c9 s9 : Nat} (e : F_X11_go_b22  h = some (r, hz, c9, s9)) (hF : FinO M_X11_go x (some .int) r hz) : V M_X11_go x 8 22 [] [] h c9 s9 := by
  unfold F_X11_go_b22 at e
  cases e
  exact V_throw (pc := 22) (j := 32) hF th_X11_113_117 rfl (by decide) (Nat.le_of_ble_eq_true rfl) dX11_go_22 dX11_go_25 dX11_go_26 dX11_go_28 dX11_go_31
set_option maxRecDepth 100000 in
def F_X11_go_b0 (v0 : Nat) (v1 : Int32) (v2 : Int32) (h : Hp) : Option ((Int32 ⊕ Nat) × Hp × Nat × Nat) :=
  gd (decide (kd h v0 = 10)) <| ob (zR h v0 1) fun q2 => ob (F_X2_hasGuest q2 v1 h) fun r5 => gd (decide (kd h q2 = 2)) <| (if r5 = 0 then F_X11_go_b22 h else ob (zR h v0 1) fun q7 => ob (F_X2_hasRoom q7 v2 h) fun r10 => gd (decide (kd h q7 = 2)) <| (if r10 = 0 then F_X11_go_b22 h else ob (zR h v0 1) fun q12 => gd (decide (kd h q12 = 2)) <| ob (zR h q12 7) fun q15 => gd (decide (kd h q15 = 13)) <| gd (ix v1 (zl h q15)) <| ob (zR h v0 1) fun q19 => gd (decide (kd h q19 = 2)) <| ob (zR h q19 7) fun q22 => gd (decide (kd h q22 = 13)) <| gd (ix v1 (zl h q22)) <| some (.inl (zI h q15 (v1).toNatClampNeg), setI h q22 (v1).toNatClampNeg v2, 0, 0)))
set_option maxHeartbeats 4000000 in
set_option maxRecDepth 100000 in
theorem r_X11_go_b0 (v0 : Nat) (v1 : Int32) (v2 : Int32) (h : Hp) {x : Cx} {r : (Int32 ⊕ Nat)} {hz : Hp} {c9 s9 : Nat} (e : F_X11_go_b0 v0 v1 v2 h = some (r, hz, c9, s9)) (hF : FinO M_X11_go x (some .int) r hz) : V M_X11_go x 8 0 [(0, .ref v0), (1, .int v1), (2, .int v2)] [] h c9 s9 := by
  unfold F_X11_go_b0 at e
  refine V_aload_n (pc := 0) (i := 0) dX11_go_0 rfl rfl ?_
  replace e := gd_some e
  obtain ⟨g1, e⟩ := e
  replace e := ob_some e
  obtain ⟨q2, g3, e⟩ := e
  refine V_getR (pc := 1) (ci := 10) (k := 1) (b := q2) dX11_go_1 fl_X11_19 rfl (of_decide_eq_true g1) g3 ?_
  refine V_iload_n (pc := 4) (i := 1) dX11_go_4 rfl rfl ?_
  replace e := ob_some e
  obtain ⟨r5, g4, e⟩ := e
  replace e := gd_some e
  obtain ⟨g6, e⟩ := e
  refine V_callV (pc := 5) (bc := c9) (bs := s9) (mc := 0) (ms := 0) (st := []) (As := [.int v1]) (a := q2) (h' := h) (r := some (.int r5)) dX11_go_5 ml_X11_109 (ci := 2) rfl (of_decide_eq_true g6) rfl rfl (Nat.le_of_ble_eq_true rfl) (d' := 0) (by decide) (c_X2_hasGuest (l := x.2.1) q2 v1 h g4) ?_
  refine V_if_eq (pc := 8) (tgt := 22) dX11_go_8 (by decide) (fun c27 => ?_) (fun c27 => ?_)
  · rw [if_pos c27] at e
    exact V_pick [] rfl (r_X11_go_b22 h e hF)
  · rw [if_neg c27] at e
    refine V_pick [0, 1, 2] rfl ?_
    refine V_aload_n (pc := 11) (i := 0) dX11_go_11 rfl rfl ?_
    replace e := ob_some e
    obtain ⟨q7, g8, e⟩ := e
    refine V_getR (pc := 12) (ci := 10) (k := 1) (b := q7) dX11_go_12 fl_X11_19 rfl (of_decide_eq_true g1) g8 ?_
    refine V_iload_n (pc := 15) (i := 2) dX11_go_15 rfl rfl ?_
    replace e := ob_some e
    obtain ⟨r10, g9, e⟩ := e
    replace e := gd_some e
    obtain ⟨g11, e⟩ := e
    refine V_callV (pc := 16) (bc := c9) (bs := s9) (mc := 0) (ms := 0) (st := []) (As := [.int v2]) (a := q7) (h' := h) (r := some (.int r10)) dX11_go_16 ml_X11_144 (ci := 2) rfl (of_decide_eq_true g11) rfl rfl (Nat.le_of_ble_eq_true rfl) (d' := 0) (by decide) (c_X2_hasRoom (l := x.2.1) q7 v2 h g9) ?_
    refine V_if_ne (pc := 19) (tgt := 32) dX11_go_19 (by decide) (fun c26 => ?_) (fun c26 => ?_)
    · rw [if_neg c26] at e
      refine V_pick [0, 1, 2] rfl ?_
      refine V_aload_n (pc := 32) (i := 0) dX11_go_32 rfl rfl ?_
      replace e := ob_some e
      obtain ⟨q12, g13, e⟩ := e
      refine V_getR (pc := 33) (ci := 10) (k := 1) (b := q12) dX11_go_33 fl_X11_19 rfl (of_decide_eq_true g1) g13 ?_
      replace e := gd_some e
      obtain ⟨g14, e⟩ := e
      replace e := ob_some e
      obtain ⟨q15, g16, e⟩ := e
      refine V_getR (pc := 36) (ci := 2) (k := 7) (b := q15) dX11_go_36 fl_X11_166 rfl (of_decide_eq_true g14) g16 ?_
      refine V_iload_n (pc := 39) (i := 1) dX11_go_39 rfl rfl ?_
      replace e := gd_some e
      obtain ⟨g17, e⟩ := e
      replace e := gd_some e
      obtain ⟨g18, e⟩ := e
      refine V_iald (pc := 40) dX11_go_40 (of_decide_eq_true g17) (ix_in g18) ?_
      refine V_istore_n (pc := 41) (i := 3) (lv' := [(3, .int (zI h q15 (v1).toNatClampNeg)), (0, .ref v0), (1, .int v1), (2, .int v2)]) dX11_go_41 rfl (by decide) rfl ?_
      refine V_aload_n (pc := 42) (i := 0) dX11_go_42 rfl rfl ?_
      replace e := ob_some e
      obtain ⟨q19, g20, e⟩ := e
      refine V_getR (pc := 43) (ci := 10) (k := 1) (b := q19) dX11_go_43 fl_X11_19 rfl (of_decide_eq_true g1) g20 ?_
      replace e := gd_some e
      obtain ⟨g21, e⟩ := e
      replace e := ob_some e
      obtain ⟨q22, g23, e⟩ := e
      refine V_getR (pc := 46) (ci := 2) (k := 7) (b := q22) dX11_go_46 fl_X11_166 rfl (of_decide_eq_true g21) g23 ?_
      refine V_iload_n (pc := 49) (i := 1) dX11_go_49 rfl rfl ?_
      refine V_iload_n (pc := 50) (i := 2) dX11_go_50 rfl rfl ?_
      replace e := gd_some e
      obtain ⟨g24, e⟩ := e
      replace e := gd_some e
      obtain ⟨g25, e⟩ := e
      refine V_iast (pc := 51) dX11_go_51 (of_decide_eq_true g24) (ix_in g25) ?_
      refine V_iload_n (pc := 52) (i := 3) dX11_go_52 rfl rfl ?_
      cases e
      exact V_iret (pc := 53) dX11_go_53 hF
    · rw [if_pos c26] at e
      exact V_pick [] rfl (r_X11_go_b22 h e hF)
def F_X11_go (v0 : Nat) (v1 : Int32) (v2 : Int32) (h : Hp) : Option ((Int32 ⊕ Nat) × Hp × Nat × Nat) := F_X11_go_b0 v0 v1 v2 h
theorem c_X11_go {l : Launch} (v0 : Nat) (v1 : Int32) (v2 : Int32) (h : Hp) {r : Int32} {hz : Hp} {c9 s9 : Nat} (e : F_X11_go v0 v1 v2 h = some (.inl r, hz, c9, s9)) : Ct l yX11_go M_X11_go (some .int) 8 [.ref v0, .int v1, .int v2] h c9 s9 (some (.int r)) hz :=
  Ct_of rfl rfl (fun q => by cases q) (Nat.le_of_ble_eq_true rfl) (fun x _ hF => V_pick [0, 1, 2] rfl (r_X11_go_b0 v0 v1 v2 h e hF))
theorem cX_X11_go {l : Launch} (hst : l.stackTraces = false) (v0 : Nat) (v1 : Int32) (v2 : Int32) (h : Hp) {k : Nat} {hz : Hp} {c9 s9 : Nat} (e : F_X11_go v0 v1 v2 h = some (.inr k, hz, c9, s9)) : CtX l yX11_go M_X11_go (some .int) 8 [.ref v0, .int v1, .int v2] h c9 s9 (exN k) hz :=
  CtX_of hst rfl rfl (fun q => by cases q) (Nat.le_of_ble_eq_true rfl) (fun x _ hF => V_pick [0, 1, 2] rfl (r_X11_go_b0 v0 v1 v2 h e hF))
theorem dX11_moment_0 : decode cX11_moment 0 = .ok (.iload_n 1, 1) := by decide +kernel
theorem dX11_moment_1 : decode cX11_moment 1 = .ok (.ifCond .eq 13, 3) := by decide +kernel
theorem dX11_moment_4 : decode cX11_moment 4 = .ok (.aload_n 0, 1) := by decide +kernel
theorem dX11_moment_5 : decode cX11_moment 5 = .ok (.getfield 19, 3) := by decide +kernel
theorem dX11_moment_8 : decode cX11_moment 8 = .ok (.getfield 153, 3) := by decide +kernel
theorem dX11_moment_11 : decode cX11_moment 11 = .ok (.goto 10, 3) := by decide +kernel
theorem dX11_moment_14 : decode cX11_moment 14 = .ok (.aload_n 0, 1) := by decide +kernel
theorem dX11_moment_15 : decode cX11_moment 15 = .ok (.getfield 19, 3) := by decide +kernel
theorem dX11_moment_18 : decode cX11_moment 18 = .ok (.getfield 149, 3) := by decide +kernel
theorem dX11_moment_21 : decode cX11_moment 21 = .ok (.astore_n 3, 1) := by decide +kernel
theorem dX11_moment_22 : decode cX11_moment 22 = .ok (.iload_n 2, 1) := by decide +kernel
theorem dX11_moment_23 : decode cX11_moment 23 = .ok (.tableswitch 76 0 2 #[25, 34, 55], 25) := by decide +kernel
theorem dX11_moment_48 : decode cX11_moment 48 = .ok (.aload_n 0, 1) := by decide +kernel
theorem dX11_moment_49 : decode cX11_moment 49 = .ok (.getfield 19, 3) := by decide +kernel
theorem dX11_moment_52 : decode cX11_moment 52 = .ok (.aload_n 3, 1) := by decide +kernel
theorem dX11_moment_53 : decode cX11_moment 53 = .ok (.invokevirtual 203, 3) := by decide +kernel
theorem dX11_moment_56 : decode cX11_moment 56 = .ok (.ireturn, 1) := by decide +kernel
theorem dX11_moment_57 : decode cX11_moment 57 = .ok (.aload_n 0, 1) := by decide +kernel
theorem dX11_moment_58 : decode cX11_moment 58 = .ok (.getfield 19, 3) := by decide +kernel
theorem dX11_moment_61 : decode cX11_moment 61 = .ok (.aload_n 3, 1) := by decide +kernel
theorem dX11_moment_62 : decode cX11_moment 62 = .ok (.invokevirtual 203, 3) := by decide +kernel
theorem dX11_moment_65 : decode cX11_moment 65 = .ok (.aload_n 0, 1) := by decide +kernel
theorem dX11_moment_66 : decode cX11_moment 66 = .ok (.getfield 19, 3) := by decide +kernel
theorem dX11_moment_69 : decode cX11_moment 69 = .ok (.getfield 173, 3) := by decide +kernel
theorem dX11_moment_72 : decode cX11_moment 72 = .ok (.aload_n 3, 1) := by decide +kernel
theorem dX11_moment_73 : decode cX11_moment 73 = .ok (.invokevirtual 207, 3) := by decide +kernel
theorem dX11_moment_76 : decode cX11_moment 76 = .ok (.iadd, 1) := by decide +kernel
theorem dX11_moment_77 : decode cX11_moment 77 = .ok (.ireturn, 1) := by decide +kernel
theorem dX11_moment_78 : decode cX11_moment 78 = .ok (.aload_n 0, 1) := by decide +kernel
theorem dX11_moment_79 : decode cX11_moment 79 = .ok (.getfield 19, 3) := by decide +kernel
theorem dX11_moment_82 : decode cX11_moment 82 = .ok (.aload_n 3, 1) := by decide +kernel
theorem dX11_moment_83 : decode cX11_moment 83 = .ok (.invokevirtual 203, 3) := by decide +kernel
theorem dX11_moment_86 : decode cX11_moment 86 = .ok (.aload_n 0, 1) := by decide +kernel
theorem dX11_moment_87 : decode cX11_moment 87 = .ok (.getfield 19, 3) := by decide +kernel
theorem dX11_moment_90 : decode cX11_moment 90 = .ok (.getfield 173, 3) := by decide +kernel
theorem dX11_moment_93 : decode cX11_moment 93 = .ok (.aload_n 3, 1) := by decide +kernel
theorem dX11_moment_94 : decode cX11_moment 94 = .ok (.invokevirtual 210, 3) := by decide +kernel
theorem dX11_moment_97 : decode cX11_moment 97 = .ok (.iadd, 1) := by decide +kernel
theorem dX11_moment_98 : decode cX11_moment 98 = .ok (.ireturn, 1) := by decide +kernel
theorem dX11_moment_99 : decode cX11_moment 99 = .ok (.new 182, 3) := by decide +kernel
theorem dX11_moment_102 : decode cX11_moment 102 = .ok (.dup, 1) := by decide +kernel
theorem dX11_moment_103 : decode cX11_moment 103 = .ok (.ldc 184, 2) := by decide +kernel
theorem dX11_moment_105 : decode cX11_moment 105 = .ok (.invokespecial 186, 3) := by decide +kernel
theorem dX11_moment_108 : decode cX11_moment 108 = .ok (.athrow, 1) := by decide +kernel
set_option maxRecDepth 100000 in
def F_X11_moment_b21 (v0 : Nat) (v2 : Int32) (t0 : Nat) (h : Hp) : Option ((Int32 ⊕ Nat) × Hp × Nat × Nat) :=
  (if v2 = (0 : Int32) then gd (decide (kd h v0 = 10)) <| ob (zR h v0 1) fun q8 => ob (F_X2_net q8 t0 h) fun r11 => gd (decide (kd h q8 = 2)) <| some (.inl r11, h, 0, 0) else if v2 = (1 : Int32) then gd (decide (kd h v0 = 10)) <| ob (zR h v0 1) fun q15 => ob (F_X2_net q15 t0 h) fun r18 => gd (decide (kd h q15 = 2)) <| ob (zR h v0 1) fun q20 => gd (decide (kd h q20 = 2)) <| ob (zR h q20 9) fun q23 => ob (F_X8_lowest q23 t0 h) fun r26 => gd (decide (kd h q23 = 7)) <| some (.inl (r18 + r26), h, 0, 0) else if v2 = (2 : Int32) then gd (decide (kd h v0 = 10)) <| ob (zR h v0 1) fun q30 => ob (F_X2_net q30 t0 h) fun r33 => gd (decide (kd h q30 = 2)) <| ob (zR h v0 1) fun q35 => gd (decide (kd h q35 = 2)) <| ob (zR h q35 9) fun q38 => ob (F_X8_highest q38 t0 h) fun r41 => gd (decide (kd h q38 = 7)) <| some (.inl (r33 + r41), h, 0, 0) else some (.inr 3, h, 1, 6))
set_option maxHeartbeats 4000000 in
set_option maxRecDepth 100000 in
theorem r_X11_moment_b21 (v0 : Nat) (v2 : Int32) (t0 : Nat) (h : Hp) {x : Cx} {r : (Int32 ⊕ Nat)} {hz : Hp} {c9 s9 : Nat} (e : F_X11_moment_b21 v0 v2 t0 h = some (r, hz, c9, s9)) (hF : FinO M_X11_moment x (some .int) r hz) : V M_X11_moment x 8 21 [(0, .ref v0), (2, .int v2)] [.ref t0] h c9 s9 := by
  unfold F_X11_moment_b21 at e
  refine V_astore_n (pc := 21) (i := 3) (lv' := [(3, .ref t0), (0, .ref v0), (2, .int v2)]) dX11_moment_21 rfl (by decide) rfl ?_
  refine V_iload_n (pc := 22) (i := 2) dX11_moment_22 rfl rfl ?_
  by_cases c13 : v2 = (0 : Int32)
  · rw [if_pos c13] at e
    refine V_tableIn (pc := 23) (tgt := 48) dX11_moment_23 (by rw [c13]; decide) (by rw [c13]; decide) (by rw [c13]; rfl) (by decide) ?_
    refine V_pick [1, 0] rfl ?_
    refine V_aload_n (pc := 48) (i := 0) dX11_moment_48 rfl rfl ?_
    replace e := gd_some e
    obtain ⟨g7, e⟩ := e
    replace e := ob_some e
    obtain ⟨q8, g9, e⟩ := e
    refine V_getR (pc := 49) (ci := 10) (k := 1) (b := q8) dX11_moment_49 fl_X11_19 rfl (of_decide_eq_true g7) g9 ?_
    refine V_aload_n (pc := 52) (i := 3) dX11_moment_52 rfl rfl ?_
    replace e := ob_some e
    obtain ⟨r11, g10, e⟩ := e
    replace e := gd_some e
    obtain ⟨g12, e⟩ := e
    refine V_callV (pc := 53) (bc := c9) (bs := s9) (mc := 0) (ms := 0) (st := []) (As := [.ref t0]) (a := q8) (h' := h) (r := some (.int r11)) dX11_moment_53 ml_X11_203 (ci := 2) rfl (of_decide_eq_true g12) rfl rfl (Nat.le_of_ble_eq_true rfl) (d' := 1) (by decide) (c_X2_net (l := x.2.1) q8 t0 h g10) ?_
    cases e
    exact V_iret (pc := 56) dX11_moment_56 hF
  · rw [if_neg c13] at e
    by_cases c28 : v2 = (1 : Int32)
    · rw [if_pos c28] at e
      refine V_tableIn (pc := 23) (tgt := 57) dX11_moment_23 (by rw [c28]; decide) (by rw [c28]; decide) (by rw [c28]; rfl) (by decide) ?_
      refine V_pick [1, 0] rfl ?_
      refine V_aload_n (pc := 57) (i := 0) dX11_moment_57 rfl rfl ?_
      replace e := gd_some e
      obtain ⟨g14, e⟩ := e
      replace e := ob_some e
      obtain ⟨q15, g16, e⟩ := e
      refine V_getR (pc := 58) (ci := 10) (k := 1) (b := q15) dX11_moment_58 fl_X11_19 rfl (of_decide_eq_true g14) g16 ?_
      refine V_aload_n (pc := 61) (i := 3) dX11_moment_61 rfl rfl ?_
      replace e := ob_some e
      obtain ⟨r18, g17, e⟩ := e
      replace e := gd_some e
      obtain ⟨g19, e⟩ := e
      refine V_callV (pc := 62) (bc := c9) (bs := s9) (mc := 0) (ms := 0) (st := []) (As := [.ref t0]) (a := q15) (h' := h) (r := some (.int r18)) dX11_moment_62 ml_X11_203 (ci := 2) rfl (of_decide_eq_true g19) rfl rfl (Nat.le_of_ble_eq_true rfl) (d' := 1) (by decide) (c_X2_net (l := x.2.1) q15 t0 h g17) ?_
      refine V_aload_n (pc := 65) (i := 0) dX11_moment_65 rfl rfl ?_
      replace e := ob_some e
      obtain ⟨q20, g21, e⟩ := e
      refine V_getR (pc := 66) (ci := 10) (k := 1) (b := q20) dX11_moment_66 fl_X11_19 rfl (of_decide_eq_true g14) g21 ?_
      replace e := gd_some e
      obtain ⟨g22, e⟩ := e
      replace e := ob_some e
      obtain ⟨q23, g24, e⟩ := e
      refine V_getR (pc := 69) (ci := 2) (k := 9) (b := q23) dX11_moment_69 fl_X11_173 rfl (of_decide_eq_true g22) g24 ?_
      refine V_aload_n (pc := 72) (i := 3) dX11_moment_72 rfl rfl ?_
      replace e := ob_some e
      obtain ⟨r26, g25, e⟩ := e
      replace e := gd_some e
      obtain ⟨g27, e⟩ := e
      refine V_callV (pc := 73) (bc := c9) (bs := s9) (mc := 0) (ms := 0) (st := [.int r18]) (As := [.ref t0]) (a := q23) (h' := h) (r := some (.int r26)) dX11_moment_73 ml_X11_207 (ci := 7) rfl (of_decide_eq_true g27) rfl rfl (Nat.le_of_ble_eq_true rfl) (d' := 0) (by decide) (c_X8_lowest (l := x.2.1) q23 t0 h g25) ?_
      refine V_iadd (pc := 76) dX11_moment_76 ?_
      cases e
      exact V_iret (pc := 77) dX11_moment_77 hF
    · rw [if_neg c28] at e
      by_cases c43 : v2 = (2 : Int32)
      · rw [if_pos c43] at e
        refine V_tableIn (pc := 23) (tgt := 78) dX11_moment_23 (by rw [c43]; decide) (by rw [c43]; decide) (by rw [c43]; rfl) (by decide) ?_
        refine V_pick [1, 0] rfl ?_
        refine V_aload_n (pc := 78) (i := 0) dX11_moment_78 rfl rfl ?_
        replace e := gd_some e
        obtain ⟨g29, e⟩ := e
        replace e := ob_some e
        obtain ⟨q30, g31, e⟩ := e
        refine V_getR (pc := 79) (ci := 10) (k := 1) (b := q30) dX11_moment_79 fl_X11_19 rfl (of_decide_eq_true g29) g31 ?_
        refine V_aload_n (pc := 82) (i := 3) dX11_moment_82 rfl rfl ?_
        replace e := ob_some e
        obtain ⟨r33, g32, e⟩ := e
        replace e := gd_some e
        obtain ⟨g34, e⟩ := e
        refine V_callV (pc := 83) (bc := c9) (bs := s9) (mc := 0) (ms := 0) (st := []) (As := [.ref t0]) (a := q30) (h' := h) (r := some (.int r33)) dX11_moment_83 ml_X11_203 (ci := 2) rfl (of_decide_eq_true g34) rfl rfl (Nat.le_of_ble_eq_true rfl) (d' := 1) (by decide) (c_X2_net (l := x.2.1) q30 t0 h g32) ?_
        refine V_aload_n (pc := 86) (i := 0) dX11_moment_86 rfl rfl ?_
        replace e := ob_some e
        obtain ⟨q35, g36, e⟩ := e
        refine V_getR (pc := 87) (ci := 10) (k := 1) (b := q35) dX11_moment_87 fl_X11_19 rfl (of_decide_eq_true g29) g36 ?_
        replace e := gd_some e
        obtain ⟨g37, e⟩ := e
        replace e := ob_some e
        obtain ⟨q38, g39, e⟩ := e
        refine V_getR (pc := 90) (ci := 2) (k := 9) (b := q38) dX11_moment_90 fl_X11_173 rfl (of_decide_eq_true g37) g39 ?_
        refine V_aload_n (pc := 93) (i := 3) dX11_moment_93 rfl rfl ?_
        replace e := ob_some e
        obtain ⟨r41, g40, e⟩ := e
        replace e := gd_some e
        obtain ⟨g42, e⟩ := e
        refine V_callV (pc := 94) (bc := c9) (bs := s9) (mc := 0) (ms := 0) (st := [.int r33]) (As := [.ref t0]) (a := q38) (h' := h) (r := some (.int r41)) dX11_moment_94 ml_X11_210 (ci := 7) rfl (of_decide_eq_true g42) rfl rfl (Nat.le_of_ble_eq_true rfl) (d' := 0) (by decide) (c_X8_highest (l := x.2.1) q38 t0 h g40) ?_
        refine V_iadd (pc := 97) dX11_moment_97 ?_
        cases e
        exact V_iret (pc := 98) dX11_moment_98 hF
      · rw [if_neg c43] at e
        refine V_tableOut (pc := 23) (tgt := 99) dX11_moment_23 (by have q0 := tI_ne c13 (z := 0) (by decide); have q1 := tI_ne c28 (z := 1) (by decide); have q2 := tI_ne c43 (z := 2) (by decide); omega) (by decide) ?_
        refine V_pick [] rfl ?_
        cases e
        exact V_throwN (pc := 99) (L := 105) (j := 30) hF th_X11_182_186 rfl (by decide) (Nat.le_of_ble_eq_true rfl) dX11_moment_99 dX11_moment_102 (Or.inl ⟨dX11_moment_103, rfl⟩) dX11_moment_105 dX11_moment_108
set_option maxRecDepth 100000 in
def F_X11_moment_b0 (v0 : Nat) (v1 : Int32) (v2 : Int32) (h : Hp) : Option ((Int32 ⊕ Nat) × Hp × Nat × Nat) :=
  (if v1 = 0 then gd (decide (kd h v0 = 10)) <| ob (zR h v0 1) fun q2 => gd (decide (kd h q2 = 2)) <| ob (zR h q2 1) fun q5 => F_X11_moment_b21 v0 v2 q5 h else gd (decide (kd h v0 = 10)) <| ob (zR h v0 1) fun q45 => gd (decide (kd h q45 = 2)) <| ob (zR h q45 2) fun q48 => F_X11_moment_b21 v0 v2 q48 h)
set_option maxHeartbeats 4000000 in
set_option maxRecDepth 100000 in
theorem r_X11_moment_b0 (v0 : Nat) (v1 : Int32) (v2 : Int32) (h : Hp) {x : Cx} {r : (Int32 ⊕ Nat)} {hz : Hp} {c9 s9 : Nat} (e : F_X11_moment_b0 v0 v1 v2 h = some (r, hz, c9, s9)) (hF : FinO M_X11_moment x (some .int) r hz) : V M_X11_moment x 8 0 [(0, .ref v0), (1, .int v1), (2, .int v2)] [] h c9 s9 := by
  unfold F_X11_moment_b0 at e
  refine V_iload_n (pc := 0) (i := 1) dX11_moment_0 rfl rfl ?_
  refine V_if_eq (pc := 1) (tgt := 14) dX11_moment_1 (by decide) (fun c50 => ?_) (fun c50 => ?_)
  · rw [if_pos c50] at e
    refine V_pick [0, 2] rfl ?_
    refine V_aload_n (pc := 14) (i := 0) dX11_moment_14 rfl rfl ?_
    replace e := gd_some e
    obtain ⟨g1, e⟩ := e
    replace e := ob_some e
    obtain ⟨q2, g3, e⟩ := e
    refine V_getR (pc := 15) (ci := 10) (k := 1) (b := q2) dX11_moment_15 fl_X11_19 rfl (of_decide_eq_true g1) g3 ?_
    replace e := gd_some e
    obtain ⟨g4, e⟩ := e
    replace e := ob_some e
    obtain ⟨q5, g6, e⟩ := e
    refine V_getR (pc := 18) (ci := 2) (k := 1) (b := q5) dX11_moment_18 fl_X11_149 rfl (of_decide_eq_true g4) g6 ?_
    exact V_pick [0, 1] rfl (r_X11_moment_b21 v0 v2 q5 h e hF)
  · rw [if_neg c50] at e
    refine V_pick [0, 2] rfl ?_
    refine V_aload_n (pc := 4) (i := 0) dX11_moment_4 rfl rfl ?_
    replace e := gd_some e
    obtain ⟨g44, e⟩ := e
    replace e := ob_some e
    obtain ⟨q45, g46, e⟩ := e
    refine V_getR (pc := 5) (ci := 10) (k := 1) (b := q45) dX11_moment_5 fl_X11_19 rfl (of_decide_eq_true g44) g46 ?_
    replace e := gd_some e
    obtain ⟨g47, e⟩ := e
    replace e := ob_some e
    obtain ⟨q48, g49, e⟩ := e
    refine V_getR (pc := 8) (ci := 2) (k := 2) (b := q48) dX11_moment_8 fl_X11_153 rfl (of_decide_eq_true g47) g49 ?_
    refine V_goto (pc := 11) (tgt := 21) dX11_moment_11 (by decide) ?_
    exact V_pick [0, 1] rfl (r_X11_moment_b21 v0 v2 q48 h e hF)
def F_X11_moment (v0 : Nat) (v1 : Int32) (v2 : Int32) (h : Hp) : Option ((Int32 ⊕ Nat) × Hp × Nat × Nat) := F_X11_moment_b0 v0 v1 v2 h
theorem c_X11_moment {l : Launch} (v0 : Nat) (v1 : Int32) (v2 : Int32) (h : Hp) {r : Int32} {hz : Hp} {c9 s9 : Nat} (e : F_X11_moment v0 v1 v2 h = some (.inl r, hz, c9, s9)) : Ct l yX11_moment M_X11_moment (some .int) 8 [.ref v0, .int v1, .int v2] h c9 s9 (some (.int r)) hz :=
  Ct_of rfl rfl (fun q => by cases q) (Nat.le_of_ble_eq_true rfl) (fun x _ hF => V_pick [0, 1, 2] rfl (r_X11_moment_b0 v0 v1 v2 h e hF))
theorem cX_X11_moment {l : Launch} (hst : l.stackTraces = false) (v0 : Nat) (v1 : Int32) (v2 : Int32) (h : Hp) {k : Nat} {hz : Hp} {c9 s9 : Nat} (e : F_X11_moment v0 v1 v2 h = some (.inr k, hz, c9, s9)) : CtX l yX11_moment M_X11_moment (some .int) 8 [.ref v0, .int v1, .int v2] h c9 s9 (exN k) hz :=
  CtX_of hst rfl rfl (fun q => by cases q) (Nat.le_of_ble_eq_true rfl) (fun x _ hF => V_pick [0, 1, 2] rfl (r_X11_moment_b0 v0 v1 v2 h e hF))
theorem dX11_seating_0 : decode cX11_seating 0 = .ok (.aload_n 0, 1) := by decide +kernel
theorem dX11_seating_1 : decode cX11_seating 1 = .ok (.getfield 19, 3) := by decide +kernel
theorem dX11_seating_4 : decode cX11_seating 4 = .ok (.aload_n 0, 1) := by decide +kernel
theorem dX11_seating_5 : decode cX11_seating 5 = .ok (.getfield 19, 3) := by decide +kernel
theorem dX11_seating_8 : decode cX11_seating 8 = .ok (.getfield 166, 3) := by decide +kernel
theorem dX11_seating_11 : decode cX11_seating 11 = .ok (.invokevirtual 217, 3) := by decide +kernel
theorem dX11_seating_14 : decode cX11_seating 14 = .ok (.ireturn, 1) := by decide +kernel
set_option maxRecDepth 100000 in
def F_X11_seating_b0 (v0 : Nat) (h : Hp) : Option Int32 :=
  gd (decide (kd h v0 = 10)) <| ob (zR h v0 1) fun q2 => ob (zR h v0 1) fun q4 => gd (decide (kd h q4 = 2)) <| ob (zR h q4 7) fun q7 => ob (F_X2_asNumber q2 q7 h) fun r10 => gd (decide (kd h q2 = 2)) <| some r10
set_option maxHeartbeats 4000000 in
set_option maxRecDepth 100000 in
theorem r_X11_seating_b0 (v0 : Nat) (h : Hp) {x : Cx} {r : Int32} (e : F_X11_seating_b0 v0 h = some r) (hF : Fin9 M_X11_seating x (some .int) (some (.int r)) h) : V M_X11_seating x 1 0 [(0, .ref v0)] [] h 0 0 := by
  unfold F_X11_seating_b0 at e
  refine V_aload_n (pc := 0) (i := 0) dX11_seating_0 rfl rfl ?_
  obtain ⟨g1, e⟩ := gd_some e
  obtain ⟨q2, g3, e⟩ := ob_some e
  refine V_getR (pc := 1) (ci := 10) (k := 1) (b := q2) dX11_seating_1 fl_X11_19 rfl (of_decide_eq_true g1) g3 ?_
  refine V_aload_n (pc := 4) (i := 0) dX11_seating_4 rfl rfl ?_
  obtain ⟨q4, g5, e⟩ := ob_some e
  refine V_getR (pc := 5) (ci := 10) (k := 1) (b := q4) dX11_seating_5 fl_X11_19 rfl (of_decide_eq_true g1) g5 ?_
  obtain ⟨g6, e⟩ := gd_some e
  obtain ⟨q7, g8, e⟩ := ob_some e
  refine V_getR (pc := 8) (ci := 2) (k := 7) (b := q7) dX11_seating_8 fl_X11_166 rfl (of_decide_eq_true g6) g8 ?_
  obtain ⟨r10, g9, e⟩ := ob_some e
  obtain ⟨g11, e⟩ := gd_some e
  refine V_callV (pc := 11) (bc := 0) (bs := 0) (mc := 0) (ms := 0) (st := []) (As := [.ref q7]) (a := q2) (h' := h) (r := some (.int r10)) dX11_seating_11 ml_X11_217 (ci := 2) rfl (of_decide_eq_true g11) rfl rfl (Nat.le_of_ble_eq_true rfl) (d' := 0) (by decide) (c_X2_asNumber (l := x.2.1) q2 q7 h g9) ?_
  cases e
  exact V_iret (pc := 14) dX11_seating_14 hF
def F_X11_seating (v0 : Nat) (h : Hp) : Option Int32 := F_X11_seating_b0 v0 h
theorem c_X11_seating {l : Launch} (v0 : Nat) (h : Hp) {r : Int32} (e : F_X11_seating v0 h = some r) : Ct l yX11_seating M_X11_seating (some .int) 1 [.ref v0] h 0 0 (some (.int r)) h :=
  Ct_of rfl rfl (fun q => by cases q) (Nat.le_of_ble_eq_true rfl) (fun x _ hF => V_pick [0] rfl (r_X11_seating_b0 v0 h e hF))
theorem dX11_wing_0 : decode cX11_wing 0 = .ok (.iload_n 1, 1) := by decide +kernel
theorem dX11_wing_1 : decode cX11_wing 1 = .ok (.iconst 1, 1) := by decide +kernel
theorem dX11_wing_2 : decode cX11_wing 2 = .ok (.if_icmp .lt 10, 3) := by decide +kernel
theorem dX11_wing_5 : decode cX11_wing 5 = .ok (.iload_n 1, 1) := by decide +kernel
theorem dX11_wing_6 : decode cX11_wing 6 = .ok (.sipush 999, 3) := by decide +kernel
theorem dX11_wing_9 : decode cX11_wing 9 = .ok (.if_icmp .le 14, 3) := by decide +kernel
theorem dX11_wing_12 : decode cX11_wing 12 = .ok (.new 91, 3) := by decide +kernel
theorem dX11_wing_15 : decode cX11_wing 15 = .ok (.dup, 1) := by decide +kernel
theorem dX11_wing_16 : decode cX11_wing 16 = .ok (.ldc_w 302, 3) := by decide +kernel
theorem dX11_wing_19 : decode cX11_wing 19 = .ok (.invokespecial 95, 3) := by decide +kernel
theorem dX11_wing_22 : decode cX11_wing 22 = .ok (.athrow, 1) := by decide +kernel
theorem dX11_wing_23 : decode cX11_wing 23 = .ok (.aload_n 0, 1) := by decide +kernel
theorem dX11_wing_24 : decode cX11_wing 24 = .ok (.getfield 19, 3) := by decide +kernel
theorem dX11_wing_27 : decode cX11_wing 27 = .ok (.aload_n 0, 1) := by decide +kernel
theorem dX11_wing_28 : decode cX11_wing 28 = .ok (.getfield 19, 3) := by decide +kernel
theorem dX11_wing_31 : decode cX11_wing 31 = .ok (.getfield 149, 3) := by decide +kernel
theorem dX11_wing_34 : decode cX11_wing 34 = .ok (.invokevirtual 203, 3) := by decide +kernel
theorem dX11_wing_37 : decode cX11_wing 37 = .ok (.iload_n 1, 1) := by decide +kernel
theorem dX11_wing_38 : decode cX11_wing 38 = .ok (.invokestatic 304, 3) := by decide +kernel
theorem dX11_wing_41 : decode cX11_wing 41 = .ok (.istore_n 2, 1) := by decide +kernel
theorem dX11_wing_42 : decode cX11_wing 42 = .ok (.aload_n 0, 1) := by decide +kernel
theorem dX11_wing_43 : decode cX11_wing 43 = .ok (.getfield 19, 3) := by decide +kernel
theorem dX11_wing_46 : decode cX11_wing 46 = .ok (.aload_n 0, 1) := by decide +kernel
theorem dX11_wing_47 : decode cX11_wing 47 = .ok (.getfield 19, 3) := by decide +kernel
theorem dX11_wing_50 : decode cX11_wing 50 = .ok (.getfield 153, 3) := by decide +kernel
theorem dX11_wing_53 : decode cX11_wing 53 = .ok (.invokevirtual 203, 3) := by decide +kernel
theorem dX11_wing_56 : decode cX11_wing 56 = .ok (.iload_n 1, 1) := by decide +kernel
theorem dX11_wing_57 : decode cX11_wing 57 = .ok (.invokestatic 304, 3) := by decide +kernel
theorem dX11_wing_60 : decode cX11_wing 60 = .ok (.istore_n 3, 1) := by decide +kernel
theorem dX11_wing_61 : decode cX11_wing 61 = .ok (.bipush 19, 2) := by decide +kernel
theorem dX11_wing_63 : decode cX11_wing 63 = .ok (.iload_n 3, 1) := by decide +kernel
theorem dX11_wing_64 : decode cX11_wing 64 = .ok (.bipush 9, 2) := by decide +kernel
theorem dX11_wing_66 : decode cX11_wing 66 = .ok (.iadd, 1) := by decide +kernel
theorem dX11_wing_67 : decode cX11_wing 67 = .ok (.imul, 1) := by decide +kernel
theorem dX11_wing_68 : decode cX11_wing 68 = .ok (.iload_n 2, 1) := by decide +kernel
theorem dX11_wing_69 : decode cX11_wing 69 = .ok (.iadd, 1) := by decide +kernel
theorem dX11_wing_70 : decode cX11_wing 70 = .ok (.bipush 9, 2) := by decide +kernel
theorem dX11_wing_72 : decode cX11_wing 72 = .ok (.iadd, 1) := by decide +kernel
theorem dX11_wing_73 : decode cX11_wing 73 = .ok (.ireturn, 1) := by decide +kernel
set_option maxRecDepth 100000 in
def F_X11_wing_b12  (h : Hp) : Option ((Int32 ⊕ Nat) × Hp × Nat × Nat) :=
  some (.inr 0, h, 1, 6)
set_option maxHeartbeats 4000000 in
set_option maxRecDepth 100000 in
theorem r_X11_wing_b12  (h : Hp) {x : Cx} {r : (Int32 ⊕ Nat)} {hz : Hp} {c9 s9 : Nat} (e : F_X11_wing_b12  h = some (r, hz, c9, s9)) (hF : FinO M_X11_wing x (some .int) r hz) : V M_X11_wing x 8 12 [] [] h c9 s9 := by
  unfold F_X11_wing_b12 at e
  cases e
  exact V_throwW (pc := 12) (j := 34) hF th_X11_91_95 rfl (by decide) (Nat.le_of_ble_eq_true rfl) dX11_wing_12 dX11_wing_15 dX11_wing_16 dX11_wing_19 dX11_wing_22
set_option maxRecDepth 100000 in
def F_X11_wing_b0 (v0 : Nat) (v1 : Int32) (h : Hp) : Option ((Int32 ⊕ Nat) × Hp × Nat × Nat) :=
  (if v1 < (1 : Int32) then F_X11_wing_b12 h else (if v1 ≤ (999 : Int32) then gd (decide (kd h v0 = 10)) <| ob (zR h v0 1) fun q2 => ob (zR h v0 1) fun q4 => gd (decide (kd h q4 = 2)) <| ob (zR h q4 1) fun q7 => ob (F_X2_net q2 q7 h) fun r10 => gd (decide (kd h q2 = 2)) <| ob (F_X11_bestPlace r10 v1 h) fun r13 => ob (zR h v0 1) fun q14 => ob (zR h v0 1) fun q16 => gd (decide (kd h q16 = 2)) <| ob (zR h q16 2) fun q19 => ob (F_X2_net q14 q19 h) fun r22 => gd (decide (kd h q14 = 2)) <| ob (F_X11_bestPlace r22 v1 h) fun r25 => some (.inl ((((19 : Int32) * (r25 + (9 : Int32))) + r13) + (9 : Int32)), h, 0, 0) else F_X11_wing_b12 h))
set_option maxHeartbeats 4000000 in
set_option maxRecDepth 100000 in
theorem r_X11_wing_b0 (v0 : Nat) (v1 : Int32) (h : Hp) {x : Cx} {r : (Int32 ⊕ Nat)} {hz : Hp} {c9 s9 : Nat} (e : F_X11_wing_b0 v0 v1 h = some (r, hz, c9, s9)) (hF : FinO M_X11_wing x (some .int) r hz) : V M_X11_wing x 8 0 [(0, .ref v0), (1, .int v1)] [] h c9 s9 := by
  unfold F_X11_wing_b0 at e
  refine V_iload_n (pc := 0) (i := 1) dX11_wing_0 rfl rfl ?_
  refine V_iconst (pc := 1) (v := (1 : Int32)) dX11_wing_1 (by decide) ?_
  refine V_icmp_lt (pc := 2) (tgt := 12) dX11_wing_2 (by decide) (fun c27 => ?_) (fun c27 => ?_)
  · rw [if_pos c27] at e
    exact V_pick [] rfl (r_X11_wing_b12 h e hF)
  · rw [if_neg c27] at e
    refine V_pick [0, 1] rfl ?_
    refine V_iload_n (pc := 5) (i := 1) dX11_wing_5 rfl rfl ?_
    refine V_sipush (pc := 6) (v := (999 : Int32)) dX11_wing_6 (by decide) ?_
    refine V_icmp_le (pc := 9) (tgt := 23) dX11_wing_9 (by decide) (fun c26 => ?_) (fun c26 => ?_)
    · rw [if_pos c26] at e
      refine V_pick [0, 1] rfl ?_
      refine V_aload_n (pc := 23) (i := 0) dX11_wing_23 rfl rfl ?_
      replace e := gd_some e
      obtain ⟨g1, e⟩ := e
      replace e := ob_some e
      obtain ⟨q2, g3, e⟩ := e
      refine V_getR (pc := 24) (ci := 10) (k := 1) (b := q2) dX11_wing_24 fl_X11_19 rfl (of_decide_eq_true g1) g3 ?_
      refine V_aload_n (pc := 27) (i := 0) dX11_wing_27 rfl rfl ?_
      replace e := ob_some e
      obtain ⟨q4, g5, e⟩ := e
      refine V_getR (pc := 28) (ci := 10) (k := 1) (b := q4) dX11_wing_28 fl_X11_19 rfl (of_decide_eq_true g1) g5 ?_
      replace e := gd_some e
      obtain ⟨g6, e⟩ := e
      replace e := ob_some e
      obtain ⟨q7, g8, e⟩ := e
      refine V_getR (pc := 31) (ci := 2) (k := 1) (b := q7) dX11_wing_31 fl_X11_149 rfl (of_decide_eq_true g6) g8 ?_
      replace e := ob_some e
      obtain ⟨r10, g9, e⟩ := e
      replace e := gd_some e
      obtain ⟨g11, e⟩ := e
      refine V_callV (pc := 34) (bc := c9) (bs := s9) (mc := 0) (ms := 0) (st := []) (As := [.ref q7]) (a := q2) (h' := h) (r := some (.int r10)) dX11_wing_34 ml_X11_203 (ci := 2) rfl (of_decide_eq_true g11) rfl rfl (Nat.le_of_ble_eq_true rfl) (d' := 1) (by decide) (c_X2_net (l := x.2.1) q2 q7 h g9) ?_
      refine V_iload_n (pc := 37) (i := 1) dX11_wing_37 rfl rfl ?_
      replace e := ob_some e
      obtain ⟨r13, g12, e⟩ := e
      refine V_callS (pc := 38) (bc := c9) (bs := s9) (mc := 0) (ms := 0) (st := []) (As := [.int r10, .int v1]) (h' := h) (r := some (.int r13)) dX11_wing_38 ml_X11_304 rfl rfl (Nat.le_of_ble_eq_true rfl) (d' := 1) (by decide) (c_X11_bestPlace (l := x.2.1) r10 v1 h g12) ?_
      refine V_istore_n (pc := 41) (i := 2) (lv' := [(2, .int r13), (0, .ref v0), (1, .int v1)]) dX11_wing_41 rfl (by decide) rfl ?_
      refine V_aload_n (pc := 42) (i := 0) dX11_wing_42 rfl rfl ?_
      replace e := ob_some e
      obtain ⟨q14, g15, e⟩ := e
      refine V_getR (pc := 43) (ci := 10) (k := 1) (b := q14) dX11_wing_43 fl_X11_19 rfl (of_decide_eq_true g1) g15 ?_
      refine V_aload_n (pc := 46) (i := 0) dX11_wing_46 rfl rfl ?_
      replace e := ob_some e
      obtain ⟨q16, g17, e⟩ := e
      refine V_getR (pc := 47) (ci := 10) (k := 1) (b := q16) dX11_wing_47 fl_X11_19 rfl (of_decide_eq_true g1) g17 ?_
      replace e := gd_some e
      obtain ⟨g18, e⟩ := e
      replace e := ob_some e
      obtain ⟨q19, g20, e⟩ := e
      refine V_getR (pc := 50) (ci := 2) (k := 2) (b := q19) dX11_wing_50 fl_X11_153 rfl (of_decide_eq_true g18) g20 ?_
      replace e := ob_some e
      obtain ⟨r22, g21, e⟩ := e
      replace e := gd_some e
      obtain ⟨g23, e⟩ := e
      refine V_callV (pc := 53) (bc := c9) (bs := s9) (mc := 0) (ms := 0) (st := []) (As := [.ref q19]) (a := q14) (h' := h) (r := some (.int r22)) dX11_wing_53 ml_X11_203 (ci := 2) rfl (of_decide_eq_true g23) rfl rfl (Nat.le_of_ble_eq_true rfl) (d' := 1) (by decide) (c_X2_net (l := x.2.1) q14 q19 h g21) ?_
      refine V_iload_n (pc := 56) (i := 1) dX11_wing_56 rfl rfl ?_
      replace e := ob_some e
      obtain ⟨r25, g24, e⟩ := e
      refine V_callS (pc := 57) (bc := c9) (bs := s9) (mc := 0) (ms := 0) (st := []) (As := [.int r22, .int v1]) (h' := h) (r := some (.int r25)) dX11_wing_57 ml_X11_304 rfl rfl (Nat.le_of_ble_eq_true rfl) (d' := 1) (by decide) (c_X11_bestPlace (l := x.2.1) r22 v1 h g24) ?_
      refine V_istore_n (pc := 60) (i := 3) (lv' := [(3, .int r25), (2, .int r13), (0, .ref v0), (1, .int v1)]) dX11_wing_60 rfl (by decide) rfl ?_
      refine V_bipush (pc := 61) (v := (19 : Int32)) dX11_wing_61 (by decide) ?_
      refine V_iload_n (pc := 63) (i := 3) dX11_wing_63 rfl rfl ?_
      refine V_bipush (pc := 64) (v := (9 : Int32)) dX11_wing_64 (by decide) ?_
      refine V_iadd (pc := 66) dX11_wing_66 ?_
      refine V_imul (pc := 67) dX11_wing_67 ?_
      refine V_iload_n (pc := 68) (i := 2) dX11_wing_68 rfl rfl ?_
      refine V_iadd (pc := 69) dX11_wing_69 ?_
      refine V_bipush (pc := 70) (v := (9 : Int32)) dX11_wing_70 (by decide) ?_
      refine V_iadd (pc := 72) dX11_wing_72 ?_
      cases e
      exact V_iret (pc := 73) dX11_wing_73 hF
    · rw [if_neg c26] at e
      exact V_pick [] rfl (r_X11_wing_b12 h e hF)
def F_X11_wing (v0 : Nat) (v1 : Int32) (h : Hp) : Option ((Int32 ⊕ Nat) × Hp × Nat × Nat) := F_X11_wing_b0 v0 v1 h
theorem c_X11_wing {l : Launch} (v0 : Nat) (v1 : Int32) (h : Hp) {r : Int32} {hz : Hp} {c9 s9 : Nat} (e : F_X11_wing v0 v1 h = some (.inl r, hz, c9, s9)) : Ct l yX11_wing M_X11_wing (some .int) 8 [.ref v0, .int v1] h c9 s9 (some (.int r)) hz :=
  Ct_of rfl rfl (fun q => by cases q) (Nat.le_of_ble_eq_true rfl) (fun x _ hF => V_pick [0, 1] rfl (r_X11_wing_b0 v0 v1 h e hF))
theorem cX_X11_wing {l : Launch} (hst : l.stackTraces = false) (v0 : Nat) (v1 : Int32) (h : Hp) {k : Nat} {hz : Hp} {c9 s9 : Nat} (e : F_X11_wing v0 v1 h = some (.inr k, hz, c9, s9)) : CtX l yX11_wing M_X11_wing (some .int) 8 [.ref v0, .int v1] h c9 s9 (exN k) hz :=
  CtX_of hst rfl rfl (fun q => by cases q) (Nat.le_of_ble_eq_true rfl) (fun x _ hF => V_pick [0, 1] rfl (r_X11_wing_b0 v0 v1 h e hF))
theorem dX11_isUnnoticed_0 : decode cX11_isUnnoticed 0 = .ok (.iload 4, 2) := by decide +kernel
theorem dX11_isUnnoticed_2 : decode cX11_isUnnoticed 2 = .ok (.aload_n 0, 1) := by decide +kernel
theorem dX11_isUnnoticed_3 : decode cX11_isUnnoticed 3 = .ok (.getfield 19, 3) := by decide +kernel
theorem dX11_isUnnoticed_6 : decode cX11_isUnnoticed 6 = .ok (.getfield 299, 3) := by decide +kernel
theorem dX11_isUnnoticed_9 : decode cX11_isUnnoticed 9 = .ok (.if_icmp .ge 30, 3) := by decide +kernel
theorem dX11_isUnnoticed_12 : decode cX11_isUnnoticed 12 = .ok (.iload_n 3, 1) := by decide +kernel
theorem dX11_isUnnoticed_13 : decode cX11_isUnnoticed 13 = .ok (.aload_n 0, 1) := by decide +kernel
theorem dX11_isUnnoticed_14 : decode cX11_isUnnoticed 14 = .ok (.getfield 19, 3) := by decide +kernel
theorem dX11_isUnnoticed_17 : decode cX11_isUnnoticed 17 = .ok (.getfield 166, 3) := by decide +kernel
theorem dX11_isUnnoticed_20 : decode cX11_isUnnoticed 20 = .ok (.iload_n 1, 1) := by decide +kernel
theorem dX11_isUnnoticed_21 : decode cX11_isUnnoticed 21 = .ok (.iaload, 1) := by decide +kernel
theorem dX11_isUnnoticed_22 : decode cX11_isUnnoticed 22 = .ok (.if_icmp .ne 19, 3) := by decide +kernel
theorem dX11_isUnnoticed_25 : decode cX11_isUnnoticed 25 = .ok (.iload 4, 2) := by decide +kernel
theorem dX11_isUnnoticed_27 : decode cX11_isUnnoticed 27 = .ok (.aload_n 0, 1) := by decide +kernel
theorem dX11_isUnnoticed_28 : decode cX11_isUnnoticed 28 = .ok (.getfield 19, 3) := by decide +kernel
theorem dX11_isUnnoticed_31 : decode cX11_isUnnoticed 31 = .ok (.getfield 166, 3) := by decide +kernel
theorem dX11_isUnnoticed_34 : decode cX11_isUnnoticed 34 = .ok (.iload_n 2, 1) := by decide +kernel
theorem dX11_isUnnoticed_35 : decode cX11_isUnnoticed 35 = .ok (.iaload, 1) := by decide +kernel
theorem dX11_isUnnoticed_36 : decode cX11_isUnnoticed 36 = .ok (.if_icmp .ne 5, 3) := by decide +kernel
theorem dX11_isUnnoticed_39 : decode cX11_isUnnoticed 39 = .ok (.iconst 0, 1) := by decide +kernel
theorem dX11_isUnnoticed_40 : decode cX11_isUnnoticed 40 = .ok (.ireturn, 1) := by decide +kernel
theorem dX11_isUnnoticed_41 : decode cX11_isUnnoticed 41 = .ok (.aload_n 0, 1) := by decide +kernel
theorem dX11_isUnnoticed_42 : decode cX11_isUnnoticed 42 = .ok (.getfield 19, 3) := by decide +kernel
theorem dX11_isUnnoticed_45 : decode cX11_isUnnoticed 45 = .ok (.iload_n 1, 1) := by decide +kernel
theorem dX11_isUnnoticed_46 : decode cX11_isUnnoticed 46 = .ok (.iload_n 3, 1) := by decide +kernel
theorem dX11_isUnnoticed_47 : decode cX11_isUnnoticed 47 = .ok (.aload_n 0, 1) := by decide +kernel
theorem dX11_isUnnoticed_48 : decode cX11_isUnnoticed 48 = .ok (.getfield 19, 3) := by decide +kernel
theorem dX11_isUnnoticed_51 : decode cX11_isUnnoticed 51 = .ok (.getfield 149, 3) := by decide +kernel
theorem dX11_isUnnoticed_54 : decode cX11_isUnnoticed 54 = .ok (.invokevirtual 317, 3) := by decide +kernel
theorem dX11_isUnnoticed_57 : decode cX11_isUnnoticed 57 = .ok (.aload_n 0, 1) := by decide +kernel
theorem dX11_isUnnoticed_58 : decode cX11_isUnnoticed 58 = .ok (.getfield 19, 3) := by decide +kernel
theorem dX11_isUnnoticed_61 : decode cX11_isUnnoticed 61 = .ok (.iload_n 2, 1) := by decide +kernel
theorem dX11_isUnnoticed_62 : decode cX11_isUnnoticed 62 = .ok (.iload 4, 2) := by decide +kernel
theorem dX11_isUnnoticed_64 : decode cX11_isUnnoticed 64 = .ok (.aload_n 0, 1) := by decide +kernel
theorem dX11_isUnnoticed_65 : decode cX11_isUnnoticed 65 = .ok (.getfield 19, 3) := by decide +kernel
theorem dX11_isUnnoticed_68 : decode cX11_isUnnoticed 68 = .ok (.getfield 149, 3) := by decide +kernel
theorem dX11_isUnnoticed_71 : decode cX11_isUnnoticed 71 = .ok (.invokevirtual 317, 3) := by decide +kernel
theorem dX11_isUnnoticed_74 : decode cX11_isUnnoticed 74 = .ok (.iadd, 1) := by decide +kernel
theorem dX11_isUnnoticed_75 : decode cX11_isUnnoticed 75 = .ok (.ifCond .ne 44, 3) := by decide +kernel
theorem dX11_isUnnoticed_78 : decode cX11_isUnnoticed 78 = .ok (.aload_n 0, 1) := by decide +kernel
theorem dX11_isUnnoticed_79 : decode cX11_isUnnoticed 79 = .ok (.getfield 19, 3) := by decide +kernel
theorem dX11_isUnnoticed_82 : decode cX11_isUnnoticed 82 = .ok (.iload_n 1, 1) := by decide +kernel
theorem dX11_isUnnoticed_83 : decode cX11_isUnnoticed 83 = .ok (.iload_n 3, 1) := by decide +kernel
theorem dX11_isUnnoticed_84 : decode cX11_isUnnoticed 84 = .ok (.aload_n 0, 1) := by decide +kernel
theorem dX11_isUnnoticed_85 : decode cX11_isUnnoticed 85 = .ok (.getfield 19, 3) := by decide +kernel
theorem dX11_isUnnoticed_88 : decode cX11_isUnnoticed 88 = .ok (.getfield 153, 3) := by decide +kernel
theorem dX11_isUnnoticed_91 : decode cX11_isUnnoticed 91 = .ok (.invokevirtual 317, 3) := by decide +kernel
theorem dX11_isUnnoticed_94 : decode cX11_isUnnoticed 94 = .ok (.aload_n 0, 1) := by decide +kernel
theorem dX11_isUnnoticed_95 : decode cX11_isUnnoticed 95 = .ok (.getfield 19, 3) := by decide +kernel
theorem dX11_isUnnoticed_98 : decode cX11_isUnnoticed 98 = .ok (.iload_n 2, 1) := by decide +kernel
theorem dX11_isUnnoticed_99 : decode cX11_isUnnoticed 99 = .ok (.iload 4, 2) := by decide +kernel
theorem dX11_isUnnoticed_101 : decode cX11_isUnnoticed 101 = .ok (.aload_n 0, 1) := by decide +kernel
theorem dX11_isUnnoticed_102 : decode cX11_isUnnoticed 102 = .ok (.getfield 19, 3) := by decide +kernel
theorem dX11_isUnnoticed_105 : decode cX11_isUnnoticed 105 = .ok (.getfield 153, 3) := by decide +kernel
theorem dX11_isUnnoticed_108 : decode cX11_isUnnoticed 108 = .ok (.invokevirtual 317, 3) := by decide +kernel
theorem dX11_isUnnoticed_111 : decode cX11_isUnnoticed 111 = .ok (.iadd, 1) := by decide +kernel
theorem dX11_isUnnoticed_112 : decode cX11_isUnnoticed 112 = .ok (.ifCond .ne 7, 3) := by decide +kernel
theorem dX11_isUnnoticed_115 : decode cX11_isUnnoticed 115 = .ok (.iconst 1, 1) := by decide +kernel
theorem dX11_isUnnoticed_116 : decode cX11_isUnnoticed 116 = .ok (.goto 4, 3) := by decide +kernel
theorem dX11_isUnnoticed_119 : decode cX11_isUnnoticed 119 = .ok (.iconst 0, 1) := by decide +kernel
theorem dX11_isUnnoticed_120 : decode cX11_isUnnoticed 120 = .ok (.ireturn, 1) := by decide +kernel
set_option maxRecDepth 100000 in
def F_X11_isUnnoticed_b39  (h : Hp) : Option Int32 :=
  some (0 : Int32)
set_option maxHeartbeats 4000000 in
set_option maxRecDepth 100000 in
theorem r_X11_isUnnoticed_b39  (h : Hp) {x : Cx} {r : Int32} (e : F_X11_isUnnoticed_b39  h = some r) (hF : Fin9 M_X11_isUnnoticed x (some .boolean) (some (.int r)) h) : V M_X11_isUnnoticed x 1 39 [] [] h 0 0 := by
  unfold F_X11_isUnnoticed_b39 at e
  refine V_iconst (pc := 39) (v := (0 : Int32)) dX11_isUnnoticed_39 (by decide) ?_
  cases e
  exact V_zret (pc := 40) dX11_isUnnoticed_40 rfl hF
set_option maxRecDepth 100000 in
def F_X11_isUnnoticed_b120 (t0 : Int32) (h : Hp) : Option Int32 :=
  gd (decide (t0 = 0 ∨ t0 = 1)) <| some t0
set_option maxHeartbeats 4000000 in
set_option maxRecDepth 100000 in
theorem r_X11_isUnnoticed_b120 (t0 : Int32) (h : Hp) {x : Cx} {r : Int32} (e : F_X11_isUnnoticed_b120 t0 h = some r) (hF : Fin9 M_X11_isUnnoticed x (some .boolean) (some (.int r)) h) : V M_X11_isUnnoticed x 1 120 [] [.int t0] h 0 0 := by
  unfold F_X11_isUnnoticed_b120 at e
  obtain ⟨g33, e⟩ := gd_some e
  cases e
  exact V_zret (pc := 120) dX11_isUnnoticed_120 (z01 (of_decide_eq_true g33)) hF
set_option maxRecDepth 100000 in
def F_X11_isUnnoticed_b119  (h : Hp) : Option Int32 :=
  F_X11_isUnnoticed_b120 (0 : Int32) h
set_option maxHeartbeats 4000000 in
set_option maxRecDepth 100000 in
theorem r_X11_isUnnoticed_b119  (h : Hp) {x : Cx} {r : Int32} (e : F_X11_isUnnoticed_b119  h = some r) (hF : Fin9 M_X11_isUnnoticed x (some .boolean) (some (.int r)) h) : V M_X11_isUnnoticed x 1 119 [] [] h 0 0 := by
  unfold F_X11_isUnnoticed_b119 at e
  refine V_iconst (pc := 119) (v := (0 : Int32)) dX11_isUnnoticed_119 (by decide) ?_
  exact V_pick [] rfl (r_X11_isUnnoticed_b120 (0 : Int32) h e hF)
set_option maxRecDepth 100000 in
def F_X11_isUnnoticed_b41 (v0 : Nat) (v1 : Int32) (v2 : Int32) (v3 : Int32) (v4 : Int32) (h : Hp) : Option Int32 :=
  gd (decide (kd h v0 = 10)) <| ob (zR h v0 1) fun q13 => ob (zR h v0 1) fun q15 => gd (decide (kd h q15 = 2)) <| ob (zR h q15 1) fun q18 => ob (F_X2_gain q13 v1 v3 q18 h) fun r21 => gd (decide (kd h q13 = 2)) <| ob (zR h v0 1) fun q23 => ob (zR h v0 1) fun q25 => gd (decide (kd h q25 = 2)) <| ob (zR h q25 1) fun q28 => ob (F_X2_gain q23 v2 v4 q28 h) fun r31 => gd (decide (kd h q23 = 2)) <| (if (r21 + r31) = 0 then ob (zR h v0 1) fun q34 => ob (zR h v0 1) fun q36 => gd (decide (kd h q36 = 2)) <| ob (zR h q36 2) fun q39 => ob (F_X2_gain q34 v1 v3 q39 h) fun r42 => gd (decide (kd h q34 = 2)) <| ob (zR h v0 1) fun q44 => ob (zR h v0 1) fun q46 => gd (decide (kd h q46 = 2)) <| ob (zR h q46 2) fun q49 => ob (F_X2_gain q44 v2 v4 q49 h) fun r52 => gd (decide (kd h q44 = 2)) <| (if (r42 + r52) = 0 then F_X11_isUnnoticed_b120 (1 : Int32) h else F_X11_isUnnoticed_b119 h) else F_X11_isUnnoticed_b119 h)
set_option maxHeartbeats 4000000 in
set_option maxRecDepth 100000 in
theorem r_X11_isUnnoticed_b41 (v0 : Nat) (v1 : Int32) (v2 : Int32) (v3 : Int32) (v4 : Int32) (h : Hp) {x : Cx} {r : Int32} (e : F_X11_isUnnoticed_b41 v0 v1 v2 v3 v4 h = some r) (hF : Fin9 M_X11_isUnnoticed x (some .boolean) (some (.int r)) h) : V M_X11_isUnnoticed x 1 41 [(0, .ref v0), (1, .int v1), (2, .int v2), (3, .int v3), (4, .int v4)] [] h 0 0 := by
  unfold F_X11_isUnnoticed_b41 at e
  refine V_aload_n (pc := 41) (i := 0) dX11_isUnnoticed_41 rfl rfl ?_
  obtain ⟨g12, e⟩ := gd_some e
  obtain ⟨q13, g14, e⟩ := ob_some e
  refine V_getR (pc := 42) (ci := 10) (k := 1) (b := q13) dX11_isUnnoticed_42 fl_X11_19 rfl (of_decide_eq_true g12) g14 ?_
  refine V_iload_n (pc := 45) (i := 1) dX11_isUnnoticed_45 rfl rfl ?_
  refine V_iload_n (pc := 46) (i := 3) dX11_isUnnoticed_46 rfl rfl ?_
  refine V_aload_n (pc := 47) (i := 0) dX11_isUnnoticed_47 rfl rfl ?_
  obtain ⟨q15, g16, e⟩ := ob_some e
  refine V_getR (pc := 48) (ci := 10) (k := 1) (b := q15) dX11_isUnnoticed_48 fl_X11_19 rfl (of_decide_eq_true g12) g16 ?_
  obtain ⟨g17, e⟩ := gd_some e
  obtain ⟨q18, g19, e⟩ := ob_some e
  refine V_getR (pc := 51) (ci := 2) (k := 1) (b := q18) dX11_isUnnoticed_51 fl_X11_149 rfl (of_decide_eq_true g17) g19 ?_
  obtain ⟨r21, g20, e⟩ := ob_some e
  obtain ⟨g22, e⟩ := gd_some e
  refine V_callV (pc := 54) (bc := 0) (bs := 0) (mc := 0) (ms := 0) (st := []) (As := [.int v1, .int v3, .ref q18]) (a := q13) (h' := h) (r := some (.int r21)) dX11_isUnnoticed_54 ml_X11_317 (ci := 2) rfl (of_decide_eq_true g22) rfl rfl (Nat.le_of_ble_eq_true rfl) (d' := 0) (by decide) (c_X2_gain (l := x.2.1) q13 v1 v3 q18 h g20) ?_
  refine V_aload_n (pc := 57) (i := 0) dX11_isUnnoticed_57 rfl rfl ?_
  obtain ⟨q23, g24, e⟩ := ob_some e
  refine V_getR (pc := 58) (ci := 10) (k := 1) (b := q23) dX11_isUnnoticed_58 fl_X11_19 rfl (of_decide_eq_true g12) g24 ?_
  refine V_iload_n (pc := 61) (i := 2) dX11_isUnnoticed_61 rfl rfl ?_
  refine V_iload (pc := 62) (i := 4) dX11_isUnnoticed_62 rfl ?_
  refine V_aload_n (pc := 64) (i := 0) dX11_isUnnoticed_64 rfl rfl ?_
  obtain ⟨q25, g26, e⟩ := ob_some e
  refine V_getR (pc := 65) (ci := 10) (k := 1) (b := q25) dX11_isUnnoticed_65 fl_X11_19 rfl (of_decide_eq_true g12) g26 ?_
  obtain ⟨g27, e⟩ := gd_some e
  obtain ⟨q28, g29, e⟩ := ob_some e
  refine V_getR (pc := 68) (ci := 2) (k := 1) (b := q28) dX11_isUnnoticed_68 fl_X11_149 rfl (of_decide_eq_true g27) g29 ?_
  obtain ⟨r31, g30, e⟩ := ob_some e
  obtain ⟨g32, e⟩ := gd_some e
  refine V_callV (pc := 71) (bc := 0) (bs := 0) (mc := 0) (ms := 0) (st := [.int r21]) (As := [.int v2, .int v4, .ref q28]) (a := q23) (h' := h) (r := some (.int r31)) dX11_isUnnoticed_71 ml_X11_317 (ci := 2) rfl (of_decide_eq_true g32) rfl rfl (Nat.le_of_ble_eq_true rfl) (d' := 0) (by decide) (c_X2_gain (l := x.2.1) q23 v2 v4 q28 h g30) ?_
  refine V_iadd (pc := 74) dX11_isUnnoticed_74 ?_
  refine V_if_ne (pc := 75) (tgt := 119) dX11_isUnnoticed_75 (by decide) (fun c55 => ?_) (fun c55 => ?_)
  · rw [if_neg c55] at e
    exact V_pick [] rfl (r_X11_isUnnoticed_b119 h e hF)
  · rw [if_pos c55] at e
    refine V_pick [0, 1, 2, 3, 4] rfl ?_
    refine V_aload_n (pc := 78) (i := 0) dX11_isUnnoticed_78 rfl rfl ?_
    obtain ⟨q34, g35, e⟩ := ob_some e
    refine V_getR (pc := 79) (ci := 10) (k := 1) (b := q34) dX11_isUnnoticed_79 fl_X11_19 rfl (of_decide_eq_true g12) g35 ?_
    refine V_iload_n (pc := 82) (i := 1) dX11_isUnnoticed_82 rfl rfl ?_
    refine V_iload_n (pc := 83) (i := 3) dX11_isUnnoticed_83 rfl rfl ?_
    refine V_aload_n (pc := 84) (i := 0) dX11_isUnnoticed_84 rfl rfl ?_
    obtain ⟨q36, g37, e⟩ := ob_some e
    refine V_getR (pc := 85) (ci := 10) (k := 1) (b := q36) dX11_isUnnoticed_85 fl_X11_19 rfl (of_decide_eq_true g12) g37 ?_
    obtain ⟨g38, e⟩ := gd_some e
    obtain ⟨q39, g40, e⟩ := ob_some e
    refine V_getR (pc := 88) (ci := 2) (k := 2) (b := q39) dX11_isUnnoticed_88 fl_X11_153 rfl (of_decide_eq_true g38) g40 ?_
    obtain ⟨r42, g41, e⟩ := ob_some e
    obtain ⟨g43, e⟩ := gd_some e
    refine V_callV (pc := 91) (bc := 0) (bs := 0) (mc := 0) (ms := 0) (st := []) (As := [.int v1, .int v3, .ref q39]) (a := q34) (h' := h) (r := some (.int r42)) dX11_isUnnoticed_91 ml_X11_317 (ci := 2) rfl (of_decide_eq_true g43) rfl rfl (Nat.le_of_ble_eq_true rfl) (d' := 0) (by decide) (c_X2_gain (l := x.2.1) q34 v1 v3 q39 h g41) ?_
    refine V_aload_n (pc := 94) (i := 0) dX11_isUnnoticed_94 rfl rfl ?_
    obtain ⟨q44, g45, e⟩ := ob_some e
    refine V_getR (pc := 95) (ci := 10) (k := 1) (b := q44) dX11_isUnnoticed_95 fl_X11_19 rfl (of_decide_eq_true g12) g45 ?_
    refine V_iload_n (pc := 98) (i := 2) dX11_isUnnoticed_98 rfl rfl ?_
    refine V_iload (pc := 99) (i := 4) dX11_isUnnoticed_99 rfl ?_
    refine V_aload_n (pc := 101) (i := 0) dX11_isUnnoticed_101 rfl rfl ?_
    obtain ⟨q46, g47, e⟩ := ob_some e
    refine V_getR (pc := 102) (ci := 10) (k := 1) (b := q46) dX11_isUnnoticed_102 fl_X11_19 rfl (of_decide_eq_true g12) g47 ?_
    obtain ⟨g48, e⟩ := gd_some e
    obtain ⟨q49, g50, e⟩ := ob_some e
    refine V_getR (pc := 105) (ci := 2) (k := 2) (b := q49) dX11_isUnnoticed_105 fl_X11_153 rfl (of_decide_eq_true g48) g50 ?_
    obtain ⟨r52, g51, e⟩ := ob_some e
    obtain ⟨g53, e⟩ := gd_some e
    refine V_callV (pc := 108) (bc := 0) (bs := 0) (mc := 0) (ms := 0) (st := [.int r42]) (As := [.int v2, .int v4, .ref q49]) (a := q44) (h' := h) (r := some (.int r52)) dX11_isUnnoticed_108 ml_X11_317 (ci := 2) rfl (of_decide_eq_true g53) rfl rfl (Nat.le_of_ble_eq_true rfl) (d' := 0) (by decide) (c_X2_gain (l := x.2.1) q44 v2 v4 q49 h g51) ?_
    refine V_iadd (pc := 111) dX11_isUnnoticed_111 ?_
    refine V_if_ne (pc := 112) (tgt := 119) dX11_isUnnoticed_112 (by decide) (fun c54 => ?_) (fun c54 => ?_)
    · rw [if_neg c54] at e
      exact V_pick [] rfl (r_X11_isUnnoticed_b119 h e hF)
    · rw [if_pos c54] at e
      refine V_pick [] rfl ?_
      refine V_iconst (pc := 115) (v := (1 : Int32)) dX11_isUnnoticed_115 (by decide) ?_
      refine V_goto (pc := 116) (tgt := 120) dX11_isUnnoticed_116 (by decide) ?_
      exact V_pick [] rfl (r_X11_isUnnoticed_b120 (1 : Int32) h e hF)
set_option maxRecDepth 100000 in
def F_X11_isUnnoticed_b0 (v0 : Nat) (v1 : Int32) (v2 : Int32) (v3 : Int32) (v4 : Int32) (h : Hp) : Option Int32 :=
  gd (decide (kd h v0 = 10)) <| ob (zR h v0 1) fun q2 => gd (decide (kd h q2 = 2)) <| (if (zI h q2 0) ≤ v4 then F_X11_isUnnoticed_b39 h else ob (zR h v0 1) fun q5 => gd (decide (kd h q5 = 2)) <| ob (zR h q5 7) fun q8 => gd (decide (kd h q8 = 13)) <| gd (ix v1 (zl h q8)) <| (if v3 = (zI h q8 (v1).toNatClampNeg) then ob (zR h v0 1) fun q56 => gd (decide (kd h q56 = 2)) <| ob (zR h q56 7) fun q59 => gd (decide (kd h q59 = 13)) <| gd (ix v2 (zl h q59)) <| (if v4 = (zI h q59 (v2).toNatClampNeg) then F_X11_isUnnoticed_b39 h else F_X11_isUnnoticed_b41 v0 v1 v2 v3 v4 h) else F_X11_isUnnoticed_b41 v0 v1 v2 v3 v4 h))
set_option maxHeartbeats 4000000 in
set_option maxRecDepth 100000 in
theorem r_X11_isUnnoticed_b0 (v0 : Nat) (v1 : Int32) (v2 : Int32) (v3 : Int32) (v4 : Int32) (h : Hp) {x : Cx} {r : Int32} (e : F_X11_isUnnoticed_b0 v0 v1 v2 v3 v4 h = some r) (hF : Fin9 M_X11_isUnnoticed x (some .boolean) (some (.int r)) h) : V M_X11_isUnnoticed x 1 0 [(0, .ref v0), (1, .int v1), (2, .int v2), (3, .int v3), (4, .int v4)] [] h 0 0 := by
  unfold F_X11_isUnnoticed_b0 at e
  refine V_iload (pc := 0) (i := 4) dX11_isUnnoticed_0 rfl ?_
  refine V_aload_n (pc := 2) (i := 0) dX11_isUnnoticed_2 rfl rfl ?_
  obtain ⟨g1, e⟩ := gd_some e
  obtain ⟨q2, g3, e⟩ := ob_some e
  refine V_getR (pc := 3) (ci := 10) (k := 1) (b := q2) dX11_isUnnoticed_3 fl_X11_19 rfl (of_decide_eq_true g1) g3 ?_
  obtain ⟨g4, e⟩ := gd_some e
  refine V_getI (pc := 6) (ci := 2) (k := 0) dX11_isUnnoticed_6 fl_X11_299 rfl (of_decide_eq_true g4) ?_
  refine V_icmp_ge (pc := 9) (tgt := 39) dX11_isUnnoticed_9 (by decide) (fun c65 => ?_) (fun c65 => ?_)
  · rw [if_pos c65] at e
    exact V_pick [] rfl (r_X11_isUnnoticed_b39 h e hF)
  · rw [if_neg c65] at e
    refine V_pick [0, 1, 2, 3, 4] rfl ?_
    refine V_iload_n (pc := 12) (i := 3) dX11_isUnnoticed_12 rfl rfl ?_
    refine V_aload_n (pc := 13) (i := 0) dX11_isUnnoticed_13 rfl rfl ?_
    obtain ⟨q5, g6, e⟩ := ob_some e
    refine V_getR (pc := 14) (ci := 10) (k := 1) (b := q5) dX11_isUnnoticed_14 fl_X11_19 rfl (of_decide_eq_true g1) g6 ?_
    obtain ⟨g7, e⟩ := gd_some e
    obtain ⟨q8, g9, e⟩ := ob_some e
    refine V_getR (pc := 17) (ci := 2) (k := 7) (b := q8) dX11_isUnnoticed_17 fl_X11_166 rfl (of_decide_eq_true g7) g9 ?_
    refine V_iload_n (pc := 20) (i := 1) dX11_isUnnoticed_20 rfl rfl ?_
    obtain ⟨g10, e⟩ := gd_some e
    obtain ⟨g11, e⟩ := gd_some e
    refine V_iald (pc := 21) dX11_isUnnoticed_21 (of_decide_eq_true g10) (ix_in g11) ?_
    refine V_icmp_ne (pc := 22) (tgt := 41) dX11_isUnnoticed_22 (by decide) (fun c64 => ?_) (fun c64 => ?_)
    · rw [if_neg c64] at e
      exact V_pick [0, 1, 2, 3, 4] rfl (r_X11_isUnnoticed_b41 v0 v1 v2 v3 v4 h e hF)
    · rw [if_pos c64] at e
      refine V_pick [0, 1, 2, 3, 4] rfl ?_
      refine V_iload (pc := 25) (i := 4) dX11_isUnnoticed_25 rfl ?_
      refine V_aload_n (pc := 27) (i := 0) dX11_isUnnoticed_27 rfl rfl ?_
      obtain ⟨q56, g57, e⟩ := ob_some e
      refine V_getR (pc := 28) (ci := 10) (k := 1) (b := q56) dX11_isUnnoticed_28 fl_X11_19 rfl (of_decide_eq_true g1) g57 ?_
      obtain ⟨g58, e⟩ := gd_some e
      obtain ⟨q59, g60, e⟩ := ob_some e
      refine V_getR (pc := 31) (ci := 2) (k := 7) (b := q59) dX11_isUnnoticed_31 fl_X11_166 rfl (of_decide_eq_true g58) g60 ?_
      refine V_iload_n (pc := 34) (i := 2) dX11_isUnnoticed_34 rfl rfl ?_
      obtain ⟨g61, e⟩ := gd_some e
      obtain ⟨g62, e⟩ := gd_some e
      refine V_iald (pc := 35) dX11_isUnnoticed_35 (of_decide_eq_true g61) (ix_in g62) ?_
      refine V_icmp_ne (pc := 36) (tgt := 41) dX11_isUnnoticed_36 (by decide) (fun c63 => ?_) (fun c63 => ?_)
      · rw [if_neg c63] at e
        exact V_pick [0, 1, 2, 3, 4] rfl (r_X11_isUnnoticed_b41 v0 v1 v2 v3 v4 h e hF)
      · rw [if_pos c63] at e
        exact V_pick [] rfl (r_X11_isUnnoticed_b39 h e hF)
def F_X11_isUnnoticed (v0 : Nat) (v1 : Int32) (v2 : Int32) (v3 : Int32) (v4 : Int32) (h : Hp) : Option Int32 := F_X11_isUnnoticed_b0 v0 v1 v2 v3 v4 h
theorem c_X11_isUnnoticed {l : Launch} (v0 : Nat) (v1 : Int32) (v2 : Int32) (v3 : Int32) (v4 : Int32) (h : Hp) {r : Int32} (e : F_X11_isUnnoticed v0 v1 v2 v3 v4 h = some r) : Ct l yX11_isUnnoticed M_X11_isUnnoticed (some .boolean) 1 [.ref v0, .int v1, .int v2, .int v3, .int v4] h 0 0 (some (.int r)) h :=
  Ct_of rfl rfl (fun q => by cases q) (Nat.le_of_ble_eq_true rfl) (fun x _ hF => V_pick [0, 1, 2, 3, 4] rfl (r_X11_isUnnoticed_b0 v0 v1 v2 v3 v4 h e hF))
theorem dX11_weighed_0 : decode cX11_weighed 0 = .ok (.aload_n 0, 1) := by decide +kernel
theorem dX11_weighed_1 : decode cX11_weighed 1 = .ok (.getfield 19, 3) := by decide +kernel
theorem dX11_weighed_4 : decode cX11_weighed 4 = .ok (.getfield 173, 3) := by decide +kernel
theorem dX11_weighed_7 : decode cX11_weighed 7 = .ok (.iload_n 1, 1) := by decide +kernel
theorem dX11_weighed_8 : decode cX11_weighed 8 = .ok (.invokevirtual 187, 3) := by decide +kernel
theorem dX11_weighed_11 : decode cX11_weighed 11 = .ok (.ifCond .ne 13, 3) := by decide +kernel
theorem dX11_weighed_14 : decode cX11_weighed 14 = .ok (.new 113, 3) := by decide +kernel
theorem dX11_weighed_17 : decode cX11_weighed 17 = .ok (.dup, 1) := by decide +kernel
theorem dX11_weighed_18 : decode cX11_weighed 18 = .ok (.ldc 190, 2) := by decide +kernel
theorem dX11_weighed_20 : decode cX11_weighed 20 = .ok (.invokespecial 117, 3) := by decide +kernel
theorem dX11_weighed_23 : decode cX11_weighed 23 = .ok (.athrow, 1) := by decide +kernel
theorem dX11_weighed_24 : decode cX11_weighed 24 = .ok (.aload_n 0, 1) := by decide +kernel
theorem dX11_weighed_25 : decode cX11_weighed 25 = .ok (.getfield 19, 3) := by decide +kernel
theorem dX11_weighed_28 : decode cX11_weighed 28 = .ok (.getfield 149, 3) := by decide +kernel
theorem dX11_weighed_31 : decode cX11_weighed 31 = .ok (.aload_n 0, 1) := by decide +kernel
theorem dX11_weighed_32 : decode cX11_weighed 32 = .ok (.getfield 19, 3) := by decide +kernel
theorem dX11_weighed_35 : decode cX11_weighed 35 = .ok (.getfield 173, 3) := by decide +kernel
theorem dX11_weighed_38 : decode cX11_weighed 38 = .ok (.getfield 198, 3) := by decide +kernel
theorem dX11_weighed_41 : decode cX11_weighed 41 = .ok (.iload_n 1, 1) := by decide +kernel
theorem dX11_weighed_42 : decode cX11_weighed 42 = .ok (.iaload, 1) := by decide +kernel
theorem dX11_weighed_43 : decode cX11_weighed 43 = .ok (.iaload, 1) := by decide +kernel
theorem dX11_weighed_44 : decode cX11_weighed 44 = .ok (.istore_n 3, 1) := by decide +kernel
theorem dX11_weighed_45 : decode cX11_weighed 45 = .ok (.iload_n 3, 1) := by decide +kernel
theorem dX11_weighed_46 : decode cX11_weighed 46 = .ok (.ifCond .ne 5, 3) := by decide +kernel
theorem dX11_weighed_49 : decode cX11_weighed 49 = .ok (.iconst (-1), 1) := by decide +kernel
theorem dX11_weighed_50 : decode cX11_weighed 50 = .ok (.ireturn, 1) := by decide +kernel
theorem dX11_weighed_51 : decode cX11_weighed 51 = .ok (.iload_n 2, 1) := by decide +kernel
theorem dX11_weighed_52 : decode cX11_weighed 52 = .ok (.i2l, 1) := by decide +kernel
theorem dX11_weighed_53 : decode cX11_weighed 53 = .ok (.aload_n 0, 1) := by decide +kernel
theorem dX11_weighed_54 : decode cX11_weighed 54 = .ok (.getfield 19, 3) := by decide +kernel
theorem dX11_weighed_57 : decode cX11_weighed 57 = .ok (.aload_n 0, 1) := by decide +kernel
theorem dX11_weighed_58 : decode cX11_weighed 58 = .ok (.getfield 19, 3) := by decide +kernel
theorem dX11_weighed_61 : decode cX11_weighed 61 = .ok (.getfield 149, 3) := by decide +kernel
theorem dX11_weighed_64 : decode cX11_weighed 64 = .ok (.invokevirtual 203, 3) := by decide +kernel
theorem dX11_weighed_67 : decode cX11_weighed 67 = .ok (.i2l, 1) := by decide +kernel
theorem dX11_weighed_68 : decode cX11_weighed 68 = .ok (.lsub, 1) := by decide +kernel
theorem dX11_weighed_69 : decode cX11_weighed 69 = .ok (.aload_n 0, 1) := by decide +kernel
theorem dX11_weighed_70 : decode cX11_weighed 70 = .ok (.getfield 19, 3) := by decide +kernel
theorem dX11_weighed_73 : decode cX11_weighed 73 = .ok (.getfield 173, 3) := by decide +kernel
theorem dX11_weighed_76 : decode cX11_weighed 76 = .ok (.iload_n 1, 1) := by decide +kernel
theorem dX11_weighed_77 : decode cX11_weighed 77 = .ok (.aload_n 0, 1) := by decide +kernel
theorem dX11_weighed_78 : decode cX11_weighed 78 = .ok (.getfield 19, 3) := by decide +kernel
theorem dX11_weighed_81 : decode cX11_weighed 81 = .ok (.getfield 149, 3) := by decide +kernel
theorem dX11_weighed_84 : decode cX11_weighed 84 = .ok (.invokevirtual 343, 3) := by decide +kernel
theorem dX11_weighed_87 : decode cX11_weighed 87 = .ok (.i2l, 1) := by decide +kernel
theorem dX11_weighed_88 : decode cX11_weighed 88 = .ok (.lsub, 1) := by decide +kernel
theorem dX11_weighed_89 : decode cX11_weighed 89 = .ok (.lstore 4, 2) := by decide +kernel
theorem dX11_weighed_91 : decode cX11_weighed 91 = .ok (.lload 4, 2) := by decide +kernel
theorem dX11_weighed_93 : decode cX11_weighed 93 = .ok (.iload_n 3, 1) := by decide +kernel
theorem dX11_weighed_94 : decode cX11_weighed 94 = .ok (.i2l, 1) := by decide +kernel
theorem dX11_weighed_95 : decode cX11_weighed 95 = .ok (.lrem, 1) := by decide +kernel
theorem dX11_weighed_96 : decode cX11_weighed 96 = .ok (.lconst 0, 1) := by decide +kernel
theorem dX11_weighed_97 : decode cX11_weighed 97 = .ok (.lcmp, 1) := by decide +kernel
theorem dX11_weighed_98 : decode cX11_weighed 98 = .ok (.ifCond .eq 5, 3) := by decide +kernel
theorem dX11_weighed_101 : decode cX11_weighed 101 = .ok (.iconst (-1), 1) := by decide +kernel
theorem dX11_weighed_102 : decode cX11_weighed 102 = .ok (.ireturn, 1) := by decide +kernel
theorem dX11_weighed_103 : decode cX11_weighed 103 = .ok (.lload 4, 2) := by decide +kernel
theorem dX11_weighed_105 : decode cX11_weighed 105 = .ok (.iload_n 3, 1) := by decide +kernel
theorem dX11_weighed_106 : decode cX11_weighed 106 = .ok (.i2l, 1) := by decide +kernel
theorem dX11_weighed_107 : decode cX11_weighed 107 = .ok (.ldiv, 1) := by decide +kernel
theorem dX11_weighed_108 : decode cX11_weighed 108 = .ok (.lstore 6, 2) := by decide +kernel
theorem dX11_weighed_110 : decode cX11_weighed 110 = .ok (.aload_n 0, 1) := by decide +kernel
theorem dX11_weighed_111 : decode cX11_weighed 111 = .ok (.getfield 19, 3) := by decide +kernel
theorem dX11_weighed_114 : decode cX11_weighed 114 = .ok (.getfield 173, 3) := by decide +kernel
theorem dX11_weighed_117 : decode cX11_weighed 117 = .ok (.iload_n 1, 1) := by decide +kernel
theorem dX11_weighed_118 : decode cX11_weighed 118 = .ok (.lload 6, 2) := by decide +kernel
theorem dX11_weighed_120 : decode cX11_weighed 120 = .ok (.invokevirtual 346, 3) := by decide +kernel
theorem dX11_weighed_123 : decode cX11_weighed 123 = .ok (.ifCond .eq 9, 3) := by decide +kernel
theorem dX11_weighed_126 : decode cX11_weighed 126 = .ok (.lload 6, 2) := by decide +kernel
theorem dX11_weighed_128 : decode cX11_weighed 128 = .ok (.l2i, 1) := by decide +kernel
theorem dX11_weighed_129 : decode cX11_weighed 129 = .ok (.goto 4, 3) := by decide +kernel
theorem dX11_weighed_132 : decode cX11_weighed 132 = .ok (.iconst (-1), 1) := by decide +kernel
theorem dX11_weighed_133 : decode cX11_weighed 133 = .ok (.ireturn, 1) := by decide +kernel
set_option maxRecDepth 100000 in
def F_X11_weighed_b133 (t0 : Int32) (h : Hp) : Option ((Int32 ⊕ Nat) × Hp × Nat × Nat) :=
  some (.inl t0, h, 0, 0)
set_option maxHeartbeats 4000000 in
set_option maxRecDepth 100000 in
theorem r_X11_weighed_b133 (t0 : Int32) (h : Hp) {x : Cx} {r : (Int32 ⊕ Nat)} {hz : Hp} {c9 s9 : Nat} (e : F_X11_weighed_b133 t0 h = some (r, hz, c9, s9)) (hF : FinO M_X11_weighed x (some .int) r hz) : V M_X11_weighed x 8 133 [] [.int t0] h c9 s9 := by
  unfold F_X11_weighed_b133 at e
  cases e
  exact V_iret (pc := 133) dX11_weighed_133 hF
set_option maxRecDepth 100000 in
def F_X11_weighed_b0 (v0 : Nat) (v1 : Int32) (v2 : Int32) (h : Hp) : Option ((Int32 ⊕ Nat) × Hp × Nat × Nat) :=
  gd (decide (kd h v0 = 10)) <| ob (zR h v0 1) fun q2 => gd (decide (kd h q2 = 2)) <| ob (zR h q2 9) fun q5 => ob (F_X8_has q5 v1 h) fun r8 => gd (decide (kd h q5 = 7)) <| (if r8 = 0 then some (.inr 2, h, 1, 6) else ob (zR h v0 1) fun q10 => gd (decide (kd h q10 = 2)) <| ob (zR h q10 1) fun q13 => ob (zR h v0 1) fun q15 => gd (decide (kd h q15 = 2)) <| ob (zR h q15 9) fun q18 => gd (decide (kd h q18 = 7)) <| ob (zR h q18 3) fun q21 => gd (decide (kd h q21 = 13)) <| gd (ix v1 (zl h q21)) <| gd (decide (kd h q13 = 13)) <| gd (ix (zI h q21 (v1).toNatClampNeg) (zl h q13)) <| (if (zI h q13 (zI h q21 (v1).toNatClampNeg).toNatClampNeg) = 0 then some (.inl (-1 : Int32), h, 0, 0) else ob (zR h v0 1) fun q27 => ob (zR h v0 1) fun q29 => gd (decide (kd h q29 = 2)) <| ob (zR h q29 1) fun q32 => ob (F_X2_net q27 q32 h) fun r35 => gd (decide (kd h q27 = 2)) <| ob (zR h v0 1) fun q37 => gd (decide (kd h q37 = 2)) <| ob (zR h q37 9) fun q40 => ob (zR h v0 1) fun q42 => gd (decide (kd h q42 = 2)) <| ob (zR h q42 1) fun q45 => ob (F_X8_leastBeside q40 v1 q45 h) fun r48 => gd (decide (kd h q40 = 7)) <| gd (decide (¬ ((zI h q13 (zI h q21 (v1).toNatClampNeg).toNatClampNeg).toInt64) = 0)) <| (if (lg_cmp (((v2.toInt64 - r35.toInt64) - r48.toInt64) - ((v2.toInt64 - r35.toInt64) - r48.toInt64) / ((zI h q13 (zI h q21 (v1).toNatClampNeg).toNatClampNeg).toInt64) * ((zI h q13 (zI h q21 (v1).toNatClampNeg).toNatClampNeg).toInt64)) (0 : Int64)) = 0 then gd (decide (¬ ((zI h q13 (zI h q21 (v1).toNatClampNeg).toNatClampNeg).toInt64) = 0)) <| ob (zR h v0 1) fun q52 => gd (decide (kd h q52 = 2)) <| ob (zR h q52 9) fun q55 => ob (F_X8_mayWeigh q55 v1 (((v2.toInt64 - r35.toInt64) - r48.toInt64) / ((zI h q13 (zI h q21 (v1).toNatClampNeg).toNatClampNeg).toInt64)) h) fun r58 => gd (decide (kd h q55 = 7)) <| (if r58 = 0 then F_X11_weighed_b133 (-1 : Int32) h else F_X11_weighed_b133 ((((v2.toInt64 - r35.toInt64) - r48.toInt64) / ((zI h q13 (zI h q21 (v1).toNatClampNeg).toNatClampNeg).toInt64)).toInt32) h) else some (.inl (-1 : Int32), h, 0, 0))))
set_option maxHeartbeats 4000000 in
set_option maxRecDepth 100000 in
theorem r_X11_weighed_b0 (v0 : Nat) (v1 : Int32) (v2 : Int32) (h : Hp) {x : Cx} {r : (Int32 ⊕ Nat)} {hz : Hp} {c9 s9 : Nat} (e : F_X11_weighed_b0 v0 v1 v2 h = some (r, hz, c9, s9)) (hF : FinO M_X11_weighed x (some .int) r hz) : V M_X11_weighed x 8 0 [(0, .ref v0), (1, .int v1), (2, .int v2)] [] h c9 s9 := by
  unfold F_X11_weighed_b0 at e
  refine V_aload_n (pc := 0) (i := 0) dX11_weighed_0 rfl rfl ?_
  replace e := gd_some e
  obtain ⟨g1, e⟩ := e
  replace e := ob_some e
  obtain ⟨q2, g3, e⟩ := e
  refine V_getR (pc := 1) (ci := 10) (k := 1) (b := q2) dX11_weighed_1 fl_X11_19 rfl (of_decide_eq_true g1) g3 ?_
  replace e := gd_some e
  obtain ⟨g4, e⟩ := e
  replace e := ob_some e
  obtain ⟨q5, g6, e⟩ := e
  refine V_getR (pc := 4) (ci := 2) (k := 9) (b := q5) dX11_weighed_4 fl_X11_173 rfl (of_decide_eq_true g4) g6 ?_
  refine V_iload_n (pc := 7) (i := 1) dX11_weighed_7 rfl rfl ?_
  replace e := ob_some e
  obtain ⟨r8, g7, e⟩ := e
  replace e := gd_some e
  obtain ⟨g9, e⟩ := e
  refine V_callV (pc := 8) (bc := c9) (bs := s9) (mc := 0) (ms := 0) (st := []) (As := [.int v1]) (a := q5) (h' := h) (r := some (.int r8)) dX11_weighed_8 ml_X11_187 (ci := 7) rfl (of_decide_eq_true g9) rfl rfl (Nat.le_of_ble_eq_true rfl) (d' := 0) (by decide) (c_X8_has (l := x.2.1) q5 v1 h g7) ?_
  refine V_if_ne (pc := 11) (tgt := 24) dX11_weighed_11 (by decide) (fun c63 => ?_) (fun c63 => ?_)
  · rw [if_neg c63] at e
    refine V_pick [0, 1, 2] rfl ?_
    refine V_aload_n (pc := 24) (i := 0) dX11_weighed_24 rfl rfl ?_
    replace e := ob_some e
    obtain ⟨q10, g11, e⟩ := e
    refine V_getR (pc := 25) (ci := 10) (k := 1) (b := q10) dX11_weighed_25 fl_X11_19 rfl (of_decide_eq_true g1) g11 ?_
    replace e := gd_some e
    obtain ⟨g12, e⟩ := e
    replace e := ob_some e
    obtain ⟨q13, g14, e⟩ := e
    refine V_getR (pc := 28) (ci := 2) (k := 1) (b := q13) dX11_weighed_28 fl_X11_149 rfl (of_decide_eq_true g12) g14 ?_
    refine V_aload_n (pc := 31) (i := 0) dX11_weighed_31 rfl rfl ?_
    replace e := ob_some e
    obtain ⟨q15, g16, e⟩ := e
    refine V_getR (pc := 32) (ci := 10) (k := 1) (b := q15) dX11_weighed_32 fl_X11_19 rfl (of_decide_eq_true g1) g16 ?_
    replace e := gd_some e
    obtain ⟨g17, e⟩ := e
    replace e := ob_some e
    obtain ⟨q18, g19, e⟩ := e
    refine V_getR (pc := 35) (ci := 2) (k := 9) (b := q18) dX11_weighed_35 fl_X11_173 rfl (of_decide_eq_true g17) g19 ?_
    replace e := gd_some e
    obtain ⟨g20, e⟩ := e
    replace e := ob_some e
    obtain ⟨q21, g22, e⟩ := e
    refine V_getR (pc := 38) (ci := 7) (k := 3) (b := q21) dX11_weighed_38 fl_X11_198 rfl (of_decide_eq_true g20) g22 ?_
    refine V_iload_n (pc := 41) (i := 1) dX11_weighed_41 rfl rfl ?_
    replace e := gd_some e
    obtain ⟨g23, e⟩ := e
    replace e := gd_some e
    obtain ⟨g24, e⟩ := e
    refine V_iald (pc := 42) dX11_weighed_42 (of_decide_eq_true g23) (ix_in g24) ?_
    replace e := gd_some e
    obtain ⟨g25, e⟩ := e
    replace e := gd_some e
    obtain ⟨g26, e⟩ := e
    refine V_iald (pc := 43) dX11_weighed_43 (of_decide_eq_true g25) (ix_in g26) ?_
    refine V_istore_n (pc := 44) (i := 3) (lv' := [(3, .int (zI h q13 (zI h q21 (v1).toNatClampNeg).toNatClampNeg)), (0, .ref v0), (1, .int v1), (2, .int v2)]) dX11_weighed_44 rfl (by decide) rfl ?_
    refine V_iload_n (pc := 45) (i := 3) dX11_weighed_45 rfl rfl ?_
    refine V_if_ne (pc := 46) (tgt := 51) dX11_weighed_46 (by decide) (fun c62 => ?_) (fun c62 => ?_)
    · rw [if_neg c62] at e
      refine V_pick [1, 2, 3, 0] rfl ?_
      refine V_iload_n (pc := 51) (i := 2) dX11_weighed_51 rfl rfl ?_
      refine V_i2l (pc := 52) dX11_weighed_52 ?_
      refine V_aload_n (pc := 53) (i := 0) dX11_weighed_53 rfl rfl ?_
      replace e := ob_some e
      obtain ⟨q27, g28, e⟩ := e
      refine V_getR (pc := 54) (ci := 10) (k := 1) (b := q27) dX11_weighed_54 fl_X11_19 rfl (of_decide_eq_true g1) g28 ?_
      refine V_aload_n (pc := 57) (i := 0) dX11_weighed_57 rfl rfl ?_
      replace e := ob_some e
      obtain ⟨q29, g30, e⟩ := e
      refine V_getR (pc := 58) (ci := 10) (k := 1) (b := q29) dX11_weighed_58 fl_X11_19 rfl (of_decide_eq_true g1) g30 ?_
      replace e := gd_some e
      obtain ⟨g31, e⟩ := e
      replace e := ob_some e
      obtain ⟨q32, g33, e⟩ := e
      refine V_getR (pc := 61) (ci := 2) (k := 1) (b := q32) dX11_weighed_61 fl_X11_149 rfl (of_decide_eq_true g31) g33 ?_
      replace e := ob_some e
      obtain ⟨r35, g34, e⟩ := e
      replace e := gd_some e
      obtain ⟨g36, e⟩ := e
      refine V_callV (pc := 64) (bc := c9) (bs := s9) (mc := 0) (ms := 0) (st := [.long v2.toInt64]) (As := [.ref q32]) (a := q27) (h' := h) (r := some (.int r35)) dX11_weighed_64 ml_X11_203 (ci := 2) rfl (of_decide_eq_true g36) rfl rfl (Nat.le_of_ble_eq_true rfl) (d' := 1) (by decide) (c_X2_net (l := x.2.1) q27 q32 h g34) ?_
      refine V_i2l (pc := 67) dX11_weighed_67 ?_
      refine V_lsub (pc := 68) dX11_weighed_68 ?_
      refine V_aload_n (pc := 69) (i := 0) dX11_weighed_69 rfl rfl ?_
      replace e := ob_some e
      obtain ⟨q37, g38, e⟩ := e
      refine V_getR (pc := 70) (ci := 10) (k := 1) (b := q37) dX11_weighed_70 fl_X11_19 rfl (of_decide_eq_true g1) g38 ?_
      replace e := gd_some e
      obtain ⟨g39, e⟩ := e
      replace e := ob_some e
      obtain ⟨q40, g41, e⟩ := e
      refine V_getR (pc := 73) (ci := 2) (k := 9) (b := q40) dX11_weighed_73 fl_X11_173 rfl (of_decide_eq_true g39) g41 ?_
      refine V_iload_n (pc := 76) (i := 1) dX11_weighed_76 rfl rfl ?_
      refine V_aload_n (pc := 77) (i := 0) dX11_weighed_77 rfl rfl ?_
      replace e := ob_some e
      obtain ⟨q42, g43, e⟩ := e
      refine V_getR (pc := 78) (ci := 10) (k := 1) (b := q42) dX11_weighed_78 fl_X11_19 rfl (of_decide_eq_true g1) g43 ?_
      replace e := gd_some e
      obtain ⟨g44, e⟩ := e
      replace e := ob_some e
      obtain ⟨q45, g46, e⟩ := e
      refine V_getR (pc := 81) (ci := 2) (k := 1) (b := q45) dX11_weighed_81 fl_X11_149 rfl (of_decide_eq_true g44) g46 ?_
      replace e := ob_some e
      obtain ⟨r48, g47, e⟩ := e
      replace e := gd_some e
      obtain ⟨g49, e⟩ := e
      refine V_callV (pc := 84) (bc := c9) (bs := s9) (mc := 0) (ms := 0) (st := [.long (v2.toInt64 - r35.toInt64)]) (As := [.int v1, .ref q45]) (a := q40) (h' := h) (r := some (.int r48)) dX11_weighed_84 ml_X11_343 (ci := 7) rfl (of_decide_eq_true g49) rfl rfl (Nat.le_of_ble_eq_true rfl) (d' := 0) (by decide) (c_X8_leastBeside (l := x.2.1) q40 v1 q45 h g47) ?_
      refine V_i2l (pc := 87) dX11_weighed_87 ?_
      refine V_lsub (pc := 88) dX11_weighed_88 ?_
      refine V_lstore (pc := 89) (i := 4) (lv' := [(4, .long ((v2.toInt64 - r35.toInt64) - r48.toInt64)), (0, .ref v0), (1, .int v1), (2, .int v2), (3, .int (zI h q13 (zI h q21 (v1).toNatClampNeg).toNatClampNeg))]) dX11_weighed_89 (by decide) rfl ?_
      refine V_lload (pc := 91) (i := 4) dX11_weighed_91 rfl ?_
      refine V_iload_n (pc := 93) (i := 3) dX11_weighed_93 rfl rfl ?_
      refine V_i2l (pc := 94) dX11_weighed_94 ?_
      replace e := gd_some e
      obtain ⟨g50, e⟩ := e
      refine V_lrem (pc := 95) dX11_weighed_95 (of_decide_eq_true g50) ?_
      refine V_lconst (pc := 96) (v := 0) dX11_weighed_96 (by decide) ?_
      refine V_lcmp (pc := 97) dX11_weighed_97 ?_
      refine V_if_eq (pc := 98) (tgt := 103) dX11_weighed_98 (by decide) (fun c61 => ?_) (fun c61 => ?_)
      · rw [if_pos c61] at e
        refine V_pick [1, 2, 4, 0] rfl ?_
        refine V_lload (pc := 103) (i := 4) dX11_weighed_103 rfl ?_
        refine V_iload_n (pc := 105) (i := 3) dX11_weighed_105 rfl rfl ?_
        refine V_i2l (pc := 106) dX11_weighed_106 ?_
        replace e := gd_some e
        obtain ⟨g51, e⟩ := e
        refine V_ldiv (pc := 107) dX11_weighed_107 (of_decide_eq_true g51) ?_
        refine V_lstore (pc := 108) (i := 6) (lv' := [(6, .long (((v2.toInt64 - r35.toInt64) - r48.toInt64) / ((zI h q13 (zI h q21 (v1).toNatClampNeg).toNatClampNeg).toInt64))), (0, .ref v0), (1, .int v1), (3, .int (zI h q13 (zI h q21 (v1).toNatClampNeg).toNatClampNeg)), (4, .long ((v2.toInt64 - r35.toInt64) - r48.toInt64))]) dX11_weighed_108 (by decide) rfl ?_
        refine V_aload_n (pc := 110) (i := 0) dX11_weighed_110 rfl rfl ?_
        replace e := ob_some e
        obtain ⟨q52, g53, e⟩ := e
        refine V_getR (pc := 111) (ci := 10) (k := 1) (b := q52) dX11_weighed_111 fl_X11_19 rfl (of_decide_eq_true g1) g53 ?_
        replace e := gd_some e
        obtain ⟨g54, e⟩ := e
        replace e := ob_some e
        obtain ⟨q55, g56, e⟩ := e
        refine V_getR (pc := 114) (ci := 2) (k := 9) (b := q55) dX11_weighed_114 fl_X11_173 rfl (of_decide_eq_true g54) g56 ?_
        refine V_iload_n (pc := 117) (i := 1) dX11_weighed_117 rfl rfl ?_
        refine V_lload (pc := 118) (i := 6) dX11_weighed_118 rfl ?_
        replace e := ob_some e
        obtain ⟨r58, g57, e⟩ := e
        replace e := gd_some e
        obtain ⟨g59, e⟩ := e
        refine V_callV (pc := 120) (bc := c9) (bs := s9) (mc := 0) (ms := 0) (st := []) (As := [.int v1, .long (((v2.toInt64 - r35.toInt64) - r48.toInt64) / ((zI h q13 (zI h q21 (v1).toNatClampNeg).toNatClampNeg).toInt64))]) (a := q55) (h' := h) (r := some (.int r58)) dX11_weighed_120 ml_X11_346 (ci := 7) rfl (of_decide_eq_true g59) rfl rfl (Nat.le_of_ble_eq_true rfl) (d' := 0) (by decide) (c_X8_mayWeigh (l := x.2.1) q55 v1 (((v2.toInt64 - r35.toInt64) - r48.toInt64) / ((zI h q13 (zI h q21 (v1).toNatClampNeg).toNatClampNeg).toInt64)) h g57) ?_
        refine V_if_eq (pc := 123) (tgt := 132) dX11_weighed_123 (by decide) (fun c60 => ?_) (fun c60 => ?_)
        · rw [if_pos c60] at e
          refine V_pick [] rfl ?_
          refine V_iconst (pc := 132) (v := (-1 : Int32)) dX11_weighed_132 (by decide) ?_
          exact V_pick [] rfl (r_X11_weighed_b133 (-1 : Int32) h e hF)
        · rw [if_neg c60] at e
          refine V_pick [0] rfl ?_
          refine V_lload (pc := 126) (i := 6) dX11_weighed_126 rfl ?_
          refine V_l2i (pc := 128) dX11_weighed_128 ?_
          refine V_goto (pc := 129) (tgt := 133) dX11_weighed_129 (by decide) ?_
          exact V_pick [] rfl (r_X11_weighed_b133 ((((v2.toInt64 - r35.toInt64) - r48.toInt64) / ((zI h q13 (zI h q21 (v1).toNatClampNeg).toNatClampNeg).toInt64)).toInt32) h e hF)
      · rw [if_neg c61] at e
        refine V_pick [] rfl ?_
        refine V_iconst (pc := 101) (v := (-1 : Int32)) dX11_weighed_101 (by decide) ?_
        cases e
        exact V_iret (pc := 102) dX11_weighed_102 hF
    · rw [if_pos c62] at e
      refine V_pick [] rfl ?_
      refine V_iconst (pc := 49) (v := (-1 : Int32)) dX11_weighed_49 (by decide) ?_
      cases e
      exact V_iret (pc := 50) dX11_weighed_50 hF
  · rw [if_pos c63] at e
    refine V_pick [] rfl ?_
    cases e
    exact V_throw (pc := 14) (j := 31) hF th_X11_113_117 rfl (by decide) (Nat.le_of_ble_eq_true rfl) dX11_weighed_14 dX11_weighed_17 dX11_weighed_18 dX11_weighed_20 dX11_weighed_23
def F_X11_weighed (v0 : Nat) (v1 : Int32) (v2 : Int32) (h : Hp) : Option ((Int32 ⊕ Nat) × Hp × Nat × Nat) := F_X11_weighed_b0 v0 v1 v2 h
theorem c_X11_weighed {l : Launch} (v0 : Nat) (v1 : Int32) (v2 : Int32) (h : Hp) {r : Int32} {hz : Hp} {c9 s9 : Nat} (e : F_X11_weighed v0 v1 v2 h = some (.inl r, hz, c9, s9)) : Ct l yX11_weighed M_X11_weighed (some .int) 8 [.ref v0, .int v1, .int v2] h c9 s9 (some (.int r)) hz :=
  Ct_of rfl rfl (fun q => by cases q) (Nat.le_of_ble_eq_true rfl) (fun x _ hF => V_pick [0, 1, 2] rfl (r_X11_weighed_b0 v0 v1 v2 h e hF))
theorem cX_X11_weighed {l : Launch} (hst : l.stackTraces = false) (v0 : Nat) (v1 : Int32) (v2 : Int32) (h : Hp) {k : Nat} {hz : Hp} {c9 s9 : Nat} (e : F_X11_weighed v0 v1 v2 h = some (.inr k, hz, c9, s9)) : CtX l yX11_weighed M_X11_weighed (some .int) 8 [.ref v0, .int v1, .int v2] h c9 s9 (exN k) hz :=
  CtX_of hst rfl rfl (fun q => by cases q) (Nat.le_of_ble_eq_true rfl) (fun x _ hF => V_pick [0, 1, 2] rfl (r_X11_weighed_b0 v0 v1 v2 h e hF))
theorem dX11_weigh_0 : decode cX11_weigh 0 = .ok (.aload_n 0, 1) := by decide +kernel
theorem dX11_weigh_1 : decode cX11_weigh 1 = .ok (.getfield 19, 3) := by decide +kernel
theorem dX11_weigh_4 : decode cX11_weigh 4 = .ok (.getfield 173, 3) := by decide +kernel
theorem dX11_weigh_7 : decode cX11_weigh 7 = .ok (.iload_n 1, 1) := by decide +kernel
theorem dX11_weigh_8 : decode cX11_weigh 8 = .ok (.invokevirtual 187, 3) := by decide +kernel
theorem dX11_weigh_11 : decode cX11_weigh 11 = .ok (.ifCond .ne 13, 3) := by decide +kernel
theorem dX11_weigh_14 : decode cX11_weigh 14 = .ok (.new 113, 3) := by decide +kernel
theorem dX11_weigh_17 : decode cX11_weigh 17 = .ok (.dup, 1) := by decide +kernel
theorem dX11_weigh_18 : decode cX11_weigh 18 = .ok (.ldc 190, 2) := by decide +kernel
theorem dX11_weigh_20 : decode cX11_weigh 20 = .ok (.invokespecial 117, 3) := by decide +kernel
theorem dX11_weigh_23 : decode cX11_weigh 23 = .ok (.athrow, 1) := by decide +kernel
theorem dX11_weigh_24 : decode cX11_weigh 24 = .ok (.aload_n 0, 1) := by decide +kernel
theorem dX11_weigh_25 : decode cX11_weigh 25 = .ok (.getfield 19, 3) := by decide +kernel
theorem dX11_weigh_28 : decode cX11_weigh 28 = .ok (.getfield 173, 3) := by decide +kernel
theorem dX11_weigh_31 : decode cX11_weigh 31 = .ok (.iload_n 1, 1) := by decide +kernel
theorem dX11_weigh_32 : decode cX11_weigh 32 = .ok (.iload_n 2, 1) := by decide +kernel
theorem dX11_weigh_33 : decode cX11_weigh 33 = .ok (.i2l, 1) := by decide +kernel
theorem dX11_weigh_34 : decode cX11_weigh 34 = .ok (.invokevirtual 346, 3) := by decide +kernel
theorem dX11_weigh_37 : decode cX11_weigh 37 = .ok (.ifCond .ne 14, 3) := by decide +kernel
theorem dX11_weigh_40 : decode cX11_weigh 40 = .ok (.new 91, 3) := by decide +kernel
theorem dX11_weigh_43 : decode cX11_weigh 43 = .ok (.dup, 1) := by decide +kernel
theorem dX11_weigh_44 : decode cX11_weigh 44 = .ok (.ldc_w 350, 3) := by decide +kernel
theorem dX11_weigh_47 : decode cX11_weigh 47 = .ok (.invokespecial 95, 3) := by decide +kernel
theorem dX11_weigh_50 : decode cX11_weigh 50 = .ok (.athrow, 1) := by decide +kernel
theorem dX11_weigh_51 : decode cX11_weigh 51 = .ok (.aload_n 0, 1) := by decide +kernel
theorem dX11_weigh_52 : decode cX11_weigh 52 = .ok (.getfield 19, 3) := by decide +kernel
theorem dX11_weigh_55 : decode cX11_weigh 55 = .ok (.getfield 173, 3) := by decide +kernel
theorem dX11_weigh_58 : decode cX11_weigh 58 = .ok (.getfield 192, 3) := by decide +kernel
theorem dX11_weigh_61 : decode cX11_weigh 61 = .ok (.iload_n 1, 1) := by decide +kernel
theorem dX11_weigh_62 : decode cX11_weigh 62 = .ok (.iload_n 2, 1) := by decide +kernel
theorem dX11_weigh_63 : decode cX11_weigh 63 = .ok (.iastore, 1) := by decide +kernel
theorem dX11_weigh_64 : decode cX11_weigh 64 = .ok (.aload_n 0, 1) := by decide +kernel
theorem dX11_weigh_65 : decode cX11_weigh 65 = .ok (.getfield 19, 3) := by decide +kernel
theorem dX11_weigh_68 : decode cX11_weigh 68 = .ok (.getfield 173, 3) := by decide +kernel
theorem dX11_weigh_71 : decode cX11_weigh 71 = .ok (.getfield 195, 3) := by decide +kernel
theorem dX11_weigh_74 : decode cX11_weigh 74 = .ok (.iload_n 1, 1) := by decide +kernel
theorem dX11_weigh_75 : decode cX11_weigh 75 = .ok (.iload_n 2, 1) := by decide +kernel
theorem dX11_weigh_76 : decode cX11_weigh 76 = .ok (.iastore, 1) := by decide +kernel
theorem dX11_weigh_77 : decode cX11_weigh 77 = .ok (.return_, 1) := by decide +kernel
set_option maxRecDepth 100000 in
def F_X11_weigh_b0 (v0 : Nat) (v1 : Int32) (v2 : Int32) (h : Hp) : Option ((Unit ⊕ Nat) × Hp × Nat × Nat) :=
  gd (decide (kd h v0 = 10)) <| ob (zR h v0 1) fun q2 => gd (decide (kd h q2 = 2)) <| ob (zR h q2 9) fun q5 => ob (F_X8_has q5 v1 h) fun r8 => gd (decide (kd h q5 = 7)) <| (if r8 = 0 then some (.inr 2, h, 1, 6) else ob (zR h v0 1) fun q10 => gd (decide (kd h q10 = 2)) <| ob (zR h q10 9) fun q13 => ob (F_X8_mayWeigh q13 v1 v2.toInt64 h) fun r16 => gd (decide (kd h q13 = 7)) <| (if r16 = 0 then some (.inr 0, h, 1, 6) else ob (zR h v0 1) fun q18 => gd (decide (kd h q18 = 2)) <| ob (zR h q18 9) fun q21 => gd (decide (kd h q21 = 7)) <| ob (zR h q21 1) fun q24 => gd (decide (kd h q24 = 13)) <| gd (ix v1 (zl h q24)) <| ob (zR (setI h q24 (v1).toNatClampNeg v2) v0 1) fun q28 => gd (decide (kd (setI h q24 (v1).toNatClampNeg v2) q28 = 2)) <| ob (zR (setI h q24 (v1).toNatClampNeg v2) q28 9) fun q31 => gd (decide (kd (setI h q24 (v1).toNatClampNeg v2) q31 = 7)) <| ob (zR (setI h q24 (v1).toNatClampNeg v2) q31 2) fun q34 => gd (decide (kd (setI h q24 (v1).toNatClampNeg v2) q34 = 13)) <| gd (ix v1 (zl (setI h q24 (v1).toNatClampNeg v2) q34)) <| some (.inl (), setI (setI h q24 (v1).toNatClampNeg v2) q34 (v1).toNatClampNeg v2, 0, 0)))
set_option maxHeartbeats 4000000 in
set_option maxRecDepth 100000 in
theorem r_X11_weigh_b0 (v0 : Nat) (v1 : Int32) (v2 : Int32) (h : Hp) {x : Cx} {r : (Unit ⊕ Nat)} {hz : Hp} {c9 s9 : Nat} (e : F_X11_weigh_b0 v0 v1 v2 h = some (r, hz, c9, s9)) (hF : FinU M_X11_weigh x r hz) : V M_X11_weigh x 8 0 [(0, .ref v0), (1, .int v1), (2, .int v2)] [] h c9 s9 := by
  unfold F_X11_weigh_b0 at e
  refine V_aload_n (pc := 0) (i := 0) dX11_weigh_0 rfl rfl ?_
  replace e := gd_some e
  obtain ⟨g1, e⟩ := e
  replace e := ob_some e
  obtain ⟨q2, g3, e⟩ := e
  refine V_getR (pc := 1) (ci := 10) (k := 1) (b := q2) dX11_weigh_1 fl_X11_19 rfl (of_decide_eq_true g1) g3 ?_
  replace e := gd_some e
  obtain ⟨g4, e⟩ := e
  replace e := ob_some e
  obtain ⟨q5, g6, e⟩ := e
  refine V_getR (pc := 4) (ci := 2) (k := 9) (b := q5) dX11_weigh_4 fl_X11_173 rfl (of_decide_eq_true g4) g6 ?_
  refine V_iload_n (pc := 7) (i := 1) dX11_weigh_7 rfl rfl ?_
  replace e := ob_some e
  obtain ⟨r8, g7, e⟩ := e
  replace e := gd_some e
  obtain ⟨g9, e⟩ := e
  refine V_callV (pc := 8) (bc := c9) (bs := s9) (mc := 0) (ms := 0) (st := []) (As := [.int v1]) (a := q5) (h' := h) (r := some (.int r8)) dX11_weigh_8 ml_X11_187 (ci := 7) rfl (of_decide_eq_true g9) rfl rfl (Nat.le_of_ble_eq_true rfl) (d' := 0) (by decide) (c_X8_has (l := x.2.1) q5 v1 h g7) ?_
  refine V_if_ne (pc := 11) (tgt := 24) dX11_weigh_11 (by decide) (fun c39 => ?_) (fun c39 => ?_)
  · rw [if_neg c39] at e
    refine V_pick [0, 1, 2] rfl ?_
    refine V_aload_n (pc := 24) (i := 0) dX11_weigh_24 rfl rfl ?_
    replace e := ob_some e
    obtain ⟨q10, g11, e⟩ := e
    refine V_getR (pc := 25) (ci := 10) (k := 1) (b := q10) dX11_weigh_25 fl_X11_19 rfl (of_decide_eq_true g1) g11 ?_
    replace e := gd_some e
    obtain ⟨g12, e⟩ := e
    replace e := ob_some e
    obtain ⟨q13, g14, e⟩ := e
    refine V_getR (pc := 28) (ci := 2) (k := 9) (b := q13) dX11_weigh_28 fl_X11_173 rfl (of_decide_eq_true g12) g14 ?_
    refine V_iload_n (pc := 31) (i := 1) dX11_weigh_31 rfl rfl ?_
    refine V_iload_n (pc := 32) (i := 2) dX11_weigh_32 rfl rfl ?_
    refine V_i2l (pc := 33) dX11_weigh_33 ?_
    replace e := ob_some e
    obtain ⟨r16, g15, e⟩ := e
    replace e := gd_some e
    obtain ⟨g17, e⟩ := e
    refine V_callV (pc := 34) (bc := c9) (bs := s9) (mc := 0) (ms := 0) (st := []) (As := [.int v1, .long v2.toInt64]) (a := q13) (h' := h) (r := some (.int r16)) dX11_weigh_34 ml_X11_346 (ci := 7) rfl (of_decide_eq_true g17) rfl rfl (Nat.le_of_ble_eq_true rfl) (d' := 0) (by decide) (c_X8_mayWeigh (l := x.2.1) q13 v1 v2.toInt64 h g15) ?_
    refine V_if_ne (pc := 37) (tgt := 51) dX11_weigh_37 (by decide) (fun c38 => ?_) (fun c38 => ?_)
    · rw [if_neg c38] at e
      refine V_pick [0, 1, 2] rfl ?_
      refine V_aload_n (pc := 51) (i := 0) dX11_weigh_51 rfl rfl ?_
      replace e := ob_some e
      obtain ⟨q18, g19, e⟩ := e
      refine V_getR (pc := 52) (ci := 10) (k := 1) (b := q18) dX11_weigh_52 fl_X11_19 rfl (of_decide_eq_true g1) g19 ?_
      replace e := gd_some e
      obtain ⟨g20, e⟩ := e
      replace e := ob_some e
      obtain ⟨q21, g22, e⟩ := e
      refine V_getR (pc := 55) (ci := 2) (k := 9) (b := q21) dX11_weigh_55 fl_X11_173 rfl (of_decide_eq_true g20) g22 ?_
      replace e := gd_some e
      obtain ⟨g23, e⟩ := e
      replace e := ob_some e
      obtain ⟨q24, g25, e⟩ := e
      refine V_getR (pc := 58) (ci := 7) (k := 1) (b := q24) dX11_weigh_58 fl_X11_192 rfl (of_decide_eq_true g23) g25 ?_
      refine V_iload_n (pc := 61) (i := 1) dX11_weigh_61 rfl rfl ?_
      refine V_iload_n (pc := 62) (i := 2) dX11_weigh_62 rfl rfl ?_
      replace e := gd_some e
      obtain ⟨g26, e⟩ := e
      replace e := gd_some e
      obtain ⟨g27, e⟩ := e
      refine V_iast (pc := 63) dX11_weigh_63 (of_decide_eq_true g26) (ix_in g27) ?_
      refine V_aload_n (pc := 64) (i := 0) dX11_weigh_64 rfl rfl ?_
      replace e := ob_some e
      obtain ⟨q28, g29, e⟩ := e
      refine V_getR (pc := 65) (ci := 10) (k := 1) (b := q28) dX11_weigh_65 fl_X11_19 rfl (kd_sI (of_decide_eq_true g1)) g29 ?_
      replace e := gd_some e
      obtain ⟨g30, e⟩ := e
      replace e := ob_some e
      obtain ⟨q31, g32, e⟩ := e
      refine V_getR (pc := 68) (ci := 2) (k := 9) (b := q31) dX11_weigh_68 fl_X11_173 rfl (of_decide_eq_true g30) g32 ?_
      replace e := gd_some e
      obtain ⟨g33, e⟩ := e
      replace e := ob_some e
      obtain ⟨q34, g35, e⟩ := e
      refine V_getR (pc := 71) (ci := 7) (k := 2) (b := q34) dX11_weigh_71 fl_X11_195 rfl (of_decide_eq_true g33) g35 ?_
      refine V_iload_n (pc := 74) (i := 1) dX11_weigh_74 rfl rfl ?_
      refine V_iload_n (pc := 75) (i := 2) dX11_weigh_75 rfl rfl ?_
      replace e := gd_some e
      obtain ⟨g36, e⟩ := e
      replace e := gd_some e
      obtain ⟨g37, e⟩ := e
      refine V_iast (pc := 76) dX11_weigh_76 (of_decide_eq_true g36) (ix_in g37) ?_
      cases e
      exact V_vret (pc := 77) dX11_weigh_77 hF
    · rw [if_pos c38] at e
      refine V_pick [] rfl ?_
      cases e
      exact V_throwW (pc := 40) (j := 38) hF th_X11_91_95 rfl (by decide) (Nat.le_of_ble_eq_true rfl) dX11_weigh_40 dX11_weigh_43 dX11_weigh_44 dX11_weigh_47 dX11_weigh_50
  · rw [if_pos c39] at e
    refine V_pick [] rfl ?_
    cases e
    exact V_throw (pc := 14) (j := 31) hF th_X11_113_117 rfl (by decide) (Nat.le_of_ble_eq_true rfl) dX11_weigh_14 dX11_weigh_17 dX11_weigh_18 dX11_weigh_20 dX11_weigh_23
def F_X11_weigh (v0 : Nat) (v1 : Int32) (v2 : Int32) (h : Hp) : Option ((Unit ⊕ Nat) × Hp × Nat × Nat) := F_X11_weigh_b0 v0 v1 v2 h
theorem c_X11_weigh {l : Launch} (v0 : Nat) (v1 : Int32) (v2 : Int32) (h : Hp) {r : Unit} {hz : Hp} {c9 s9 : Nat} (e : F_X11_weigh v0 v1 v2 h = some (.inl r, hz, c9, s9)) : Ct l yX11_weigh M_X11_weigh none 8 [.ref v0, .int v1, .int v2] h c9 s9 none hz :=
  Ct_of rfl rfl (fun q => by cases q) (Nat.le_of_ble_eq_true rfl) (fun x _ hF => V_pick [0, 1, 2] rfl (r_X11_weigh_b0 v0 v1 v2 h e hF))
theorem cX_X11_weigh {l : Launch} (hst : l.stackTraces = false) (v0 : Nat) (v1 : Int32) (v2 : Int32) (h : Hp) {k : Nat} {hz : Hp} {c9 s9 : Nat} (e : F_X11_weigh v0 v1 v2 h = some (.inr k, hz, c9, s9)) : CtX l yX11_weigh M_X11_weigh none 8 [.ref v0, .int v1, .int v2] h c9 s9 (exN k) hz :=
  CtX_of hst rfl rfl (fun q => by cases q) (Nat.le_of_ble_eq_true rfl) (fun x _ hF => V_pick [0, 1, 2] rfl (r_X11_weigh_b0 v0 v1 v2 h e hF))
theorem dX11_night_0 : decode cX11_night 0 = .ok (.iload_n 1, 1) := by decide +kernel
theorem dX11_night_1 : decode cX11_night 1 = .ok (.iconst 1, 1) := by decide +kernel
theorem dX11_night_2 : decode cX11_night 2 = .ok (.if_icmp .lt 10, 3) := by decide +kernel
theorem dX11_night_5 : decode cX11_night 5 = .ok (.iload_n 1, 1) := by decide +kernel
theorem dX11_night_6 : decode cX11_night 6 = .ok (.sipush 500, 3) := by decide +kernel
theorem dX11_night_9 : decode cX11_night 9 = .ok (.if_icmp .le 14, 3) := by decide +kernel
theorem dX11_night_12 : decode cX11_night 12 = .ok (.new 91, 3) := by decide +kernel
theorem dX11_night_15 : decode cX11_night 15 = .ok (.dup, 1) := by decide +kernel
theorem dX11_night_16 : decode cX11_night 16 = .ok (.ldc_w 352, 3) := by decide +kernel
theorem dX11_night_19 : decode cX11_night 19 = .ok (.invokespecial 95, 3) := by decide +kernel
theorem dX11_night_22 : decode cX11_night 22 = .ok (.athrow, 1) := by decide +kernel
theorem dX11_night_23 : decode cX11_night 23 = .ok (.aload_n 0, 1) := by decide +kernel
theorem dX11_night_24 : decode cX11_night 24 = .ok (.getfield 19, 3) := by decide +kernel
theorem dX11_night_27 : decode cX11_night 27 = .ok (.invokevirtual 354, 3) := by decide +kernel
theorem dX11_night_30 : decode cX11_night 30 = .ok (.istore_n 2, 1) := by decide +kernel
theorem dX11_night_31 : decode cX11_night 31 = .ok (.iconst 0, 1) := by decide +kernel
theorem dX11_night_32 : decode cX11_night 32 = .ok (.istore_n 3, 1) := by decide +kernel
theorem dX11_night_33 : decode cX11_night 33 = .ok (.iload_n 3, 1) := by decide +kernel
theorem dX11_night_34 : decode cX11_night 34 = .ok (.aload_n 0, 1) := by decide +kernel
theorem dX11_night_35 : decode cX11_night 35 = .ok (.getfield 19, 3) := by decide +kernel
theorem dX11_night_38 : decode cX11_night 38 = .ok (.getfield 299, 3) := by decide +kernel
theorem dX11_night_41 : decode cX11_night 41 = .ok (.if_icmp .ge 76, 3) := by decide +kernel
theorem dX11_night_44 : decode cX11_night 44 = .ok (.aload_n 0, 1) := by decide +kernel
theorem dX11_night_45 : decode cX11_night 45 = .ok (.getfield 19, 3) := by decide +kernel
theorem dX11_night_48 : decode cX11_night 48 = .ok (.ldc_w 358, 3) := by decide +kernel
theorem dX11_night_51 : decode cX11_night 51 = .ok (.aload_n 0, 1) := by decide +kernel
theorem dX11_night_52 : decode cX11_night 52 = .ok (.getfield 19, 3) := by decide +kernel
theorem dX11_night_55 : decode cX11_night 55 = .ok (.getfield 359, 3) := by decide +kernel
theorem dX11_night_58 : decode cX11_night 58 = .ok (.imul, 1) := by decide +kernel
theorem dX11_night_59 : decode cX11_night 59 = .ok (.sipush 12345, 3) := by decide +kernel
theorem dX11_night_62 : decode cX11_night 62 = .ok (.iadd, 1) := by decide +kernel
theorem dX11_night_63 : decode cX11_night 63 = .ok (.putfield 359, 3) := by decide +kernel
theorem dX11_night_66 : decode cX11_night 66 = .ok (.aload_n 0, 1) := by decide +kernel
theorem dX11_night_67 : decode cX11_night 67 = .ok (.getfield 19, 3) := by decide +kernel
theorem dX11_night_70 : decode cX11_night 70 = .ok (.getfield 359, 3) := by decide +kernel
theorem dX11_night_73 : decode cX11_night 73 = .ok (.bipush 16, 2) := by decide +kernel
theorem dX11_night_75 : decode cX11_night 75 = .ok (.iushr, 1) := by decide +kernel
theorem dX11_night_76 : decode cX11_night 76 = .ok (.sipush 32767, 3) := by decide +kernel
theorem dX11_night_79 : decode cX11_night 79 = .ok (.iand, 1) := by decide +kernel
theorem dX11_night_80 : decode cX11_night 80 = .ok (.istore 4, 2) := by decide +kernel
theorem dX11_night_82 : decode cX11_night 82 = .ok (.aload_n 0, 1) := by decide +kernel
theorem dX11_night_83 : decode cX11_night 83 = .ok (.getfield 19, 3) := by decide +kernel
theorem dX11_night_86 : decode cX11_night 86 = .ok (.getfield 159, 3) := by decide +kernel
theorem dX11_night_89 : decode cX11_night 89 = .ok (.iload_n 3, 1) := by decide +kernel
theorem dX11_night_90 : decode cX11_night 90 = .ok (.sipush 999, 3) := by decide +kernel
theorem dX11_night_93 : decode cX11_night 93 = .ok (.aload_n 0, 1) := by decide +kernel
theorem dX11_night_94 : decode cX11_night 94 = .ok (.getfield 19, 3) := by decide +kernel
theorem dX11_night_97 : decode cX11_night 97 = .ok (.getfield 159, 3) := by decide +kernel
theorem dX11_night_100 : decode cX11_night 100 = .ok (.iload_n 3, 1) := by decide +kernel
theorem dX11_night_101 : decode cX11_night 101 = .ok (.iaload, 1) := by decide +kernel
theorem dX11_night_102 : decode cX11_night 102 = .ok (.iload 4, 2) := by decide +kernel
theorem dX11_night_104 : decode cX11_night 104 = .ok (.iload_n 1, 1) := by decide +kernel
theorem dX11_night_105 : decode cX11_night 105 = .ok (.irem, 1) := by decide +kernel
theorem dX11_night_106 : decode cX11_night 106 = .ok (.iadd, 1) := by decide +kernel
theorem dX11_night_107 : decode cX11_night 107 = .ok (.invokestatic 362, 3) := by decide +kernel
theorem dX11_night_110 : decode cX11_night 110 = .ok (.iastore, 1) := by decide +kernel
theorem dX11_night_111 : decode cX11_night 111 = .ok (.iinc 3 1, 3) := by decide +kernel
theorem dX11_night_114 : decode cX11_night 114 = .ok (.goto (-81), 3) := by decide +kernel
theorem dX11_night_117 : decode cX11_night 117 = .ok (.aload_n 0, 1) := by decide +kernel
theorem dX11_night_118 : decode cX11_night 118 = .ok (.getfield 19, 3) := by decide +kernel
theorem dX11_night_121 : decode cX11_night 121 = .ok (.invokevirtual 354, 3) := by decide +kernel
theorem dX11_night_124 : decode cX11_night 124 = .ok (.iload_n 2, 1) := by decide +kernel
theorem dX11_night_125 : decode cX11_night 125 = .ok (.isub, 1) := by decide +kernel
theorem dX11_night_126 : decode cX11_night 126 = .ok (.ireturn, 1) := by decide +kernel
set_option maxRecDepth 100000 in
def F_X11_night_b12  (h : Hp) : Option ((Int32 ⊕ Nat) × Hp × Nat × Nat) :=
  some (.inr 0, h, 1, 6)
set_option maxHeartbeats 4000000 in
set_option maxRecDepth 100000 in
theorem r_X11_night_b12  (h : Hp) {x : Cx} {r : (Int32 ⊕ Nat)} {hz : Hp} {c9 s9 : Nat} (e : F_X11_night_b12  h = some (r, hz, c9, s9)) (hF : FinO M_X11_night x (some .int) r hz) : V M_X11_night x 8 12 [] [] h c9 s9 := by
  unfold F_X11_night_b12 at e
  cases e
  exact V_throwW (pc := 12) (j := 39) hF th_X11_91_95 rfl (by decide) (Nat.le_of_ble_eq_true rfl) dX11_night_12 dX11_night_15 dX11_night_16 dX11_night_19 dX11_night_22
set_option maxRecDepth 100000 in
def F_X11_night_l33 (v0 : Nat) (v1 : Int32) (v2 : Int32) (v3 : Int32) (h : Hp) : Option ((Int32 × Hp) ⊕ Hp) :=
  gd (decide (kd h v0 = 10)) <| ob (zR h v0 1) fun q8 => gd (decide (kd h q8 = 2)) <| (if (zI h q8 0) ≤ v3 then some (.inr h) else ob (zR h v0 1) fun q11 => ob (zR h v0 1) fun q13 => gd (decide (kd h q13 = 2)) <| gd (decide (kd h q11 = 2)) <| ob (zR (setI h q11 15 (((1103515245 : Int32) * (zI h q13 15)) + (12345 : Int32))) v0 1) fun q17 => gd (decide (kd (setI h q11 15 (((1103515245 : Int32) * (zI h q13 15)) + (12345 : Int32))) q17 = 2)) <| ob (zR (setI h q11 15 (((1103515245 : Int32) * (zI h q13 15)) + (12345 : Int32))) v0 1) fun q20 => gd (decide (kd (setI h q11 15 (((1103515245 : Int32) * (zI h q13 15)) + (12345 : Int32))) q20 = 2)) <| ob (zR (setI h q11 15 (((1103515245 : Int32) * (zI h q13 15)) + (12345 : Int32))) q20 4) fun q23 => ob (zR (setI h q11 15 (((1103515245 : Int32) * (zI h q13 15)) + (12345 : Int32))) v0 1) fun q25 => gd (decide (kd (setI h q11 15 (((1103515245 : Int32) * (zI h q13 15)) + (12345 : Int32))) q25 = 2)) <| ob (zR (setI h q11 15 (((1103515245 : Int32) * (zI h q13 15)) + (12345 : Int32))) q25 4) fun q28 => gd (decide (kd (setI h q11 15 (((1103515245 : Int32) * (zI h q13 15)) + (12345 : Int32))) q28 = 13)) <| gd (ix v3 (zl (setI h q11 15 (((1103515245 : Int32) * (zI h q13 15)) + (12345 : Int32))) q28)) <| gd (decide (¬ v1 = 0)) <| gd (decide (kd (setI h q11 15 (((1103515245 : Int32) * (zI h q13 15)) + (12345 : Int32))) q23 = 13)) <| gd (ix v3 (zl (setI h q11 15 (((1103515245 : Int32) * (zI h q13 15)) + (12345 : Int32))) q23)) <| ob (some (setI (setI h q11 15 (((1103515245 : Int32) * (zI h q13 15)) + (12345 : Int32))) q23 (v3).toNatClampNeg (jmin (999 : Int32) ((zI (setI h q11 15 (((1103515245 : Int32) * (zI h q13 15)) + (12345 : Int32))) q28 (v3).toNatClampNeg) + (((((zI (setI h q11 15 (((1103515245 : Int32) * (zI h q13 15)) + (12345 : Int32))) q17 15).toUInt32 >>> ((16 : Int32).toUInt32 &&& Int32.toUInt32 31)).toInt32) &&& (32767 : Int32)) - ((((zI (setI h q11 15 (((1103515245 : Int32) * (zI h q13 15)) + (12345 : Int32))) q17 15).toUInt32 >>> ((16 : Int32).toUInt32 &&& Int32.toUInt32 31)).toInt32) &&& (32767 : Int32)) / v1 * v1))))) fun h35 => some (.inl (v3 + (1 : Int32), h35)))
set_option maxHeartbeats 4000000 in
set_option maxRecDepth 100000 in
theorem r_X11_night_l33 (v0 : Nat) (v1 : Int32) (v2 : Int32) (v3 : Int32) (h : Hp) {bc bs : Nat} {x : Cx} {o : ((Int32 × Hp) ⊕ Hp)} (e : F_X11_night_l33 v0 v1 v2 v3 h = some o) (kI : ∀ z, o = .inl z → V M_X11_night x 8 33 [(0, .ref v0), (1, .int v1), (2, .int v2), (3, .int z.1)] [] z.2 bc bs) (kE117 : ∀ z : Hp, o = .inr z → V M_X11_night x 8 117 [(0, .ref v0), (2, .int v2)] [] z bc bs) : V M_X11_night x 8 33 [(0, .ref v0), (1, .int v1), (2, .int v2), (3, .int v3)] [] h bc bs := by
  unfold F_X11_night_l33 at e
  refine V_iload_n (pc := 33) (i := 3) dX11_night_33 rfl rfl ?_
  refine V_aload_n (pc := 34) (i := 0) dX11_night_34 rfl rfl ?_
  replace e := gd_some e
  obtain ⟨g7, e⟩ := e
  replace e := ob_some e
  obtain ⟨q8, g9, e⟩ := e
  refine V_getR (pc := 35) (ci := 10) (k := 1) (b := q8) dX11_night_35 fl_X11_19 rfl (of_decide_eq_true g7) g9 ?_
  replace e := gd_some e
  obtain ⟨g10, e⟩ := e
  refine V_getI (pc := 38) (ci := 2) (k := 0) dX11_night_38 fl_X11_299 rfl (of_decide_eq_true g10) ?_
  refine V_icmp_ge (pc := 41) (tgt := 117) dX11_night_41 (by decide) (fun c46 => ?_) (fun c46 => ?_)
  · rw [if_pos c46] at e
    cases e
    exact V_pick [0, 2] rfl (kE117 h rfl)
  · rw [if_neg c46] at e
    refine V_pick [0, 1, 2, 3] rfl ?_
    refine V_aload_n (pc := 44) (i := 0) dX11_night_44 rfl rfl ?_
    replace e := ob_some e
    obtain ⟨q11, g12, e⟩ := e
    refine V_getR (pc := 45) (ci := 10) (k := 1) (b := q11) dX11_night_45 fl_X11_19 rfl (of_decide_eq_true g7) g12 ?_
    refine V_ldcw (pc := 48) (v := (1103515245 : Int32)) dX11_night_48 (wk_X11_358) ?_
    refine V_aload_n (pc := 51) (i := 0) dX11_night_51 rfl rfl ?_
    replace e := ob_some e
    obtain ⟨q13, g14, e⟩ := e
    refine V_getR (pc := 52) (ci := 10) (k := 1) (b := q13) dX11_night_52 fl_X11_19 rfl (of_decide_eq_true g7) g14 ?_
    replace e := gd_some e
    obtain ⟨g15, e⟩ := e
    refine V_getI (pc := 55) (ci := 2) (k := 15) dX11_night_55 fl_X11_359 rfl (of_decide_eq_true g15) ?_
    refine V_imul (pc := 58) dX11_night_58 ?_
    refine V_sipush (pc := 59) (v := (12345 : Int32)) dX11_night_59 (by decide) ?_
    refine V_iadd (pc := 62) dX11_night_62 ?_
    replace e := gd_some e
    obtain ⟨g16, e⟩ := e
    refine V_putI (pc := 63) (ci := 2) (k := 15) dX11_night_63 fp_X11_359 rfl (of_decide_eq_true g16) ?_
    refine V_aload_n (pc := 66) (i := 0) dX11_night_66 rfl rfl ?_
    replace e := ob_some e
    obtain ⟨q17, g18, e⟩ := e
    refine V_getR (pc := 67) (ci := 10) (k := 1) (b := q17) dX11_night_67 fl_X11_19 rfl (kd_sI (of_decide_eq_true g7)) g18 ?_
    replace e := gd_some e
    obtain ⟨g19, e⟩ := e
    refine V_getI (pc := 70) (ci := 2) (k := 15) dX11_night_70 fl_X11_359 rfl (of_decide_eq_true g19) ?_
    refine V_bipush (pc := 73) (v := (16 : Int32)) dX11_night_73 (by decide) ?_
    refine V_iushr (pc := 75) dX11_night_75 ?_
    refine V_sipush (pc := 76) (v := (32767 : Int32)) dX11_night_76 (by decide) ?_
    refine V_iand (pc := 79) dX11_night_79 ?_
    refine V_istore (pc := 80) (i := 4) (lv' := [(4, .int ((((zI (setI h q11 15 (((1103515245 : Int32) * (zI h q13 15)) + (12345 : Int32))) q17 15).toUInt32 >>> ((16 : Int32).toUInt32 &&& Int32.toUInt32 31)).toInt32) &&& (32767 : Int32))), (0, .ref v0), (1, .int v1), (2, .int v2), (3, .int v3)]) dX11_night_80 (by decide) rfl ?_
    refine V_aload_n (pc := 82) (i := 0) dX11_night_82 rfl rfl ?_
    replace e := ob_some e
    obtain ⟨q20, g21, e⟩ := e
    refine V_getR (pc := 83) (ci := 10) (k := 1) (b := q20) dX11_night_83 fl_X11_19 rfl (kd_sI (of_decide_eq_true g7)) g21 ?_
    replace e := gd_some e
    obtain ⟨g22, e⟩ := e
    replace e := ob_some e
    obtain ⟨q23, g24, e⟩ := e
    refine V_getR (pc := 86) (ci := 2) (k := 4) (b := q23) dX11_night_86 fl_X11_159 rfl (of_decide_eq_true g22) g24 ?_
    refine V_iload_n (pc := 89) (i := 3) dX11_night_89 rfl rfl ?_
    refine V_sipush (pc := 90) (v := (999 : Int32)) dX11_night_90 (by decide) ?_
    refine V_aload_n (pc := 93) (i := 0) dX11_night_93 rfl rfl ?_
    replace e := ob_some e
    obtain ⟨q25, g26, e⟩ := e
    refine V_getR (pc := 94) (ci := 10) (k := 1) (b := q25) dX11_night_94 fl_X11_19 rfl (kd_sI (of_decide_eq_true g7)) g26 ?_
    replace e := gd_some e
    obtain ⟨g27, e⟩ := e
    replace e := ob_some e
    obtain ⟨q28, g29, e⟩ := e
    refine V_getR (pc := 97) (ci := 2) (k := 4) (b := q28) dX11_night_97 fl_X11_159 rfl (of_decide_eq_true g27) g29 ?_
    refine V_iload_n (pc := 100) (i := 3) dX11_night_100 rfl rfl ?_
    replace e := gd_some e
    obtain ⟨g30, e⟩ := e
    replace e := gd_some e
    obtain ⟨g31, e⟩ := e
    refine V_iald (pc := 101) dX11_night_101 (of_decide_eq_true g30) (ix_in g31) ?_
    refine V_iload (pc := 102) (i := 4) dX11_night_102 rfl ?_
    refine V_iload_n (pc := 104) (i := 1) dX11_night_104 rfl rfl ?_
    replace e := gd_some e
    obtain ⟨g32, e⟩ := e
    refine V_irem (pc := 105) dX11_night_105 (of_decide_eq_true g32) ?_
    refine V_iadd (pc := 106) dX11_night_106 ?_
    refine V_min (pc := 107) dX11_night_107 wm_X11_362 (by decide) (Nat.le_of_ble_eq_true rfl) ?_
    replace e := gd_some e
    obtain ⟨g33, e⟩ := e
    replace e := gd_some e
    obtain ⟨g34, e⟩ := e
    refine V_iast (pc := 110) dX11_night_110 (of_decide_eq_true g33) (ix_in g34) ?_
    replace e := ob_some e
    obtain ⟨h35, g36, e⟩ := e
    refine V_hp (Option.some.inj g36) ?_
    have k37 : kd h35 v0 = 10 := kd_eq (h := (setI (setI h q11 15 (((1103515245 : Int32) * (zI h q13 15)) + (12345 : Int32))) q23 (v3).toNatClampNeg (jmin (999 : Int32) ((zI (setI h q11 15 (((1103515245 : Int32) * (zI h q13 15)) + (12345 : Int32))) q28 (v3).toNatClampNeg) + (((((zI (setI h q11 15 (((1103515245 : Int32) * (zI h q13 15)) + (12345 : Int32))) q17 15).toUInt32 >>> ((16 : Int32).toUInt32 &&& Int32.toUInt32 31)).toInt32) &&& (32767 : Int32)) - ((((zI (setI h q11 15 (((1103515245 : Int32) * (zI h q13 15)) + (12345 : Int32))) q17 15).toUInt32 >>> ((16 : Int32).toUInt32 &&& Int32.toUInt32 31)).toInt32) &&& (32767 : Int32)) / v1 * v1))))) (Option.some.inj g36) (kd_sI (kd_sI (of_decide_eq_true g7)))
    have k38 : kd h35 q8 = 2 := kd_eq (h := (setI (setI h q11 15 (((1103515245 : Int32) * (zI h q13 15)) + (12345 : Int32))) q23 (v3).toNatClampNeg (jmin (999 : Int32) ((zI (setI h q11 15 (((1103515245 : Int32) * (zI h q13 15)) + (12345 : Int32))) q28 (v3).toNatClampNeg) + (((((zI (setI h q11 15 (((1103515245 : Int32) * (zI h q13 15)) + (12345 : Int32))) q17 15).toUInt32 >>> ((16 : Int32).toUInt32 &&& Int32.toUInt32 31)).toInt32) &&& (32767 : Int32)) - ((((zI (setI h q11 15 (((1103515245 : Int32) * (zI h q13 15)) + (12345 : Int32))) q17 15).toUInt32 >>> ((16 : Int32).toUInt32 &&& Int32.toUInt32 31)).toInt32) &&& (32767 : Int32)) / v1 * v1))))) (Option.some.inj g36) (kd_sI (kd_sI (of_decide_eq_true g10)))
    have k39 : kd h35 q13 = 2 := kd_eq (h := (setI (setI h q11 15 (((1103515245 : Int32) * (zI h q13 15)) + (12345 : Int32))) q23 (v3).toNatClampNeg (jmin (999 : Int32) ((zI (setI h q11 15 (((1103515245 : Int32) * (zI h q13 15)) + (12345 : Int32))) q28 (v3).toNatClampNeg) + (((((zI (setI h q11 15 (((1103515245 : Int32) * (zI h q13 15)) + (12345 : Int32))) q17 15).toUInt32 >>> ((16 : Int32).toUInt32 &&& Int32.toUInt32 31)).toInt32) &&& (32767 : Int32)) - ((((zI (setI h q11 15 (((1103515245 : Int32) * (zI h q13 15)) + (12345 : Int32))) q17 15).toUInt32 >>> ((16 : Int32).toUInt32 &&& Int32.toUInt32 31)).toInt32) &&& (32767 : Int32)) / v1 * v1))))) (Option.some.inj g36) (kd_sI (kd_sI (of_decide_eq_true g15)))
    have k40 : kd h35 q11 = 2 := kd_eq (h := (setI (setI h q11 15 (((1103515245 : Int32) * (zI h q13 15)) + (12345 : Int32))) q23 (v3).toNatClampNeg (jmin (999 : Int32) ((zI (setI h q11 15 (((1103515245 : Int32) * (zI h q13 15)) + (12345 : Int32))) q28 (v3).toNatClampNeg) + (((((zI (setI h q11 15 (((1103515245 : Int32) * (zI h q13 15)) + (12345 : Int32))) q17 15).toUInt32 >>> ((16 : Int32).toUInt32 &&& Int32.toUInt32 31)).toInt32) &&& (32767 : Int32)) - ((((zI (setI h q11 15 (((1103515245 : Int32) * (zI h q13 15)) + (12345 : Int32))) q17 15).toUInt32 >>> ((16 : Int32).toUInt32 &&& Int32.toUInt32 31)).toInt32) &&& (32767 : Int32)) / v1 * v1))))) (Option.some.inj g36) (kd_sI (kd_sI (of_decide_eq_true g16)))
    have k41 : kd h35 q17 = 2 := kd_eq (h := (setI (setI h q11 15 (((1103515245 : Int32) * (zI h q13 15)) + (12345 : Int32))) q23 (v3).toNatClampNeg (jmin (999 : Int32) ((zI (setI h q11 15 (((1103515245 : Int32) * (zI h q13 15)) + (12345 : Int32))) q28 (v3).toNatClampNeg) + (((((zI (setI h q11 15 (((1103515245 : Int32) * (zI h q13 15)) + (12345 : Int32))) q17 15).toUInt32 >>> ((16 : Int32).toUInt32 &&& Int32.toUInt32 31)).toInt32) &&& (32767 : Int32)) - ((((zI (setI h q11 15 (((1103515245 : Int32) * (zI h q13 15)) + (12345 : Int32))) q17 15).toUInt32 >>> ((16 : Int32).toUInt32 &&& Int32.toUInt32 31)).toInt32) &&& (32767 : Int32)) / v1 * v1))))) (Option.some.inj g36) (kd_sI (of_decide_eq_true g19))
    have k42 : kd h35 q20 = 2 := kd_eq (h := (setI (setI h q11 15 (((1103515245 : Int32) * (zI h q13 15)) + (12345 : Int32))) q23 (v3).toNatClampNeg (jmin (999 : Int32) ((zI (setI h q11 15 (((1103515245 : Int32) * (zI h q13 15)) + (12345 : Int32))) q28 (v3).toNatClampNeg) + (((((zI (setI h q11 15 (((1103515245 : Int32) * (zI h q13 15)) + (12345 : Int32))) q17 15).toUInt32 >>> ((16 : Int32).toUInt32 &&& Int32.toUInt32 31)).toInt32) &&& (32767 : Int32)) - ((((zI (setI h q11 15 (((1103515245 : Int32) * (zI h q13 15)) + (12345 : Int32))) q17 15).toUInt32 >>> ((16 : Int32).toUInt32 &&& Int32.toUInt32 31)).toInt32) &&& (32767 : Int32)) / v1 * v1))))) (Option.some.inj g36) (kd_sI (of_decide_eq_true g22))
    have k43 : kd h35 q25 = 2 := kd_eq (h := (setI (setI h q11 15 (((1103515245 : Int32) * (zI h q13 15)) + (12345 : Int32))) q23 (v3).toNatClampNeg (jmin (999 : Int32) ((zI (setI h q11 15 (((1103515245 : Int32) * (zI h q13 15)) + (12345 : Int32))) q28 (v3).toNatClampNeg) + (((((zI (setI h q11 15 (((1103515245 : Int32) * (zI h q13 15)) + (12345 : Int32))) q17 15).toUInt32 >>> ((16 : Int32).toUInt32 &&& Int32.toUInt32 31)).toInt32) &&& (32767 : Int32)) - ((((zI (setI h q11 15 (((1103515245 : Int32) * (zI h q13 15)) + (12345 : Int32))) q17 15).toUInt32 >>> ((16 : Int32).toUInt32 &&& Int32.toUInt32 31)).toInt32) &&& (32767 : Int32)) / v1 * v1))))) (Option.some.inj g36) (kd_sI (of_decide_eq_true g27))
    have k44 : kd h35 q28 = 13 := kd_eq (h := (setI (setI h q11 15 (((1103515245 : Int32) * (zI h q13 15)) + (12345 : Int32))) q23 (v3).toNatClampNeg (jmin (999 : Int32) ((zI (setI h q11 15 (((1103515245 : Int32) * (zI h q13 15)) + (12345 : Int32))) q28 (v3).toNatClampNeg) + (((((zI (setI h q11 15 (((1103515245 : Int32) * (zI h q13 15)) + (12345 : Int32))) q17 15).toUInt32 >>> ((16 : Int32).toUInt32 &&& Int32.toUInt32 31)).toInt32) &&& (32767 : Int32)) - ((((zI (setI h q11 15 (((1103515245 : Int32) * (zI h q13 15)) + (12345 : Int32))) q17 15).toUInt32 >>> ((16 : Int32).toUInt32 &&& Int32.toUInt32 31)).toInt32) &&& (32767 : Int32)) / v1 * v1))))) (Option.some.inj g36) (kd_sI (of_decide_eq_true g30))
    have k45 : kd h35 q23 = 13 := kd_eq (h := (setI (setI h q11 15 (((1103515245 : Int32) * (zI h q13 15)) + (12345 : Int32))) q23 (v3).toNatClampNeg (jmin (999 : Int32) ((zI (setI h q11 15 (((1103515245 : Int32) * (zI h q13 15)) + (12345 : Int32))) q28 (v3).toNatClampNeg) + (((((zI (setI h q11 15 (((1103515245 : Int32) * (zI h q13 15)) + (12345 : Int32))) q17 15).toUInt32 >>> ((16 : Int32).toUInt32 &&& Int32.toUInt32 31)).toInt32) &&& (32767 : Int32)) - ((((zI (setI h q11 15 (((1103515245 : Int32) * (zI h q13 15)) + (12345 : Int32))) q17 15).toUInt32 >>> ((16 : Int32).toUInt32 &&& Int32.toUInt32 31)).toInt32) &&& (32767 : Int32)) / v1 * v1))))) (Option.some.inj g36) (kd_sI (of_decide_eq_true g33))
    refine V_iinc (pc := 111) (i := 3) (u := v3 + (1 : Int32)) (lv' := [(3, .int (v3 + (1 : Int32))), (4, .int ((((zI (setI h q11 15 (((1103515245 : Int32) * (zI h q13 15)) + (12345 : Int32))) q17 15).toUInt32 >>> ((16 : Int32).toUInt32 &&& Int32.toUInt32 31)).toInt32) &&& (32767 : Int32))), (0, .ref v0), (1, .int v1), (2, .int v2)]) dX11_night_111 rfl rfl (by decide) rfl ?_
    refine V_goto (pc := 114) (tgt := 33) dX11_night_114 (by decide) ?_
    cases e
    exact V_pick [2, 3, 4, 0] rfl (kI (v3 + (1 : Int32), h35) rfl)
set_option maxRecDepth 100000 in
def F_X11_night_b0 (v0 : Nat) (v1 : Int32) (h : Hp) : Option ((Int32 ⊕ Nat) × Hp × Nat × Nat) :=
  (if v1 < (1 : Int32) then F_X11_night_b12 h else (if v1 ≤ (500 : Int32) then gd (decide (kd h v0 = 10)) <| ob (zR h v0 1) fun q2 => ob (F_X2_snowOfAll q2 h) fun r5 => gd (decide (kd h q2 = 2)) <| ob (iter (fun z : Int32 × Hp => F_X11_night_l33 v0 v1 r5 z.1 z.2) FU ((0 : Int32), h)) (fun h47 => gd (decide (kd h47 v0 = 10)) <| ob (zR h47 v0 1) fun q49 => ob (F_X2_snowOfAll q49 h47) fun r52 => gd (decide (kd h47 q49 = 2)) <| some (.inl (r52 - r5), h47, 0, 0)) else F_X11_night_b12 h))
set_option maxHeartbeats 4000000 in
set_option maxRecDepth 100000 in
theorem r_X11_night_b0 (v0 : Nat) (v1 : Int32) (h : Hp) {x : Cx} {r : (Int32 ⊕ Nat)} {hz : Hp} {c9 s9 : Nat} (e : F_X11_night_b0 v0 v1 h = some (r, hz, c9, s9)) (hF : FinO M_X11_night x (some .int) r hz) : V M_X11_night x 8 0 [(0, .ref v0), (1, .int v1)] [] h c9 s9 := by
  unfold F_X11_night_b0 at e
  refine V_iload_n (pc := 0) (i := 1) dX11_night_0 rfl rfl ?_
  refine V_iconst (pc := 1) (v := (1 : Int32)) dX11_night_1 (by decide) ?_
  refine V_icmp_lt (pc := 2) (tgt := 12) dX11_night_2 (by decide) (fun c57 => ?_) (fun c57 => ?_)
  · rw [if_pos c57] at e
    exact V_pick [] rfl (r_X11_night_b12 h e hF)
  · rw [if_neg c57] at e
    refine V_pick [0, 1] rfl ?_
    refine V_iload_n (pc := 5) (i := 1) dX11_night_5 rfl rfl ?_
    refine V_sipush (pc := 6) (v := (500 : Int32)) dX11_night_6 (by decide) ?_
    refine V_icmp_le (pc := 9) (tgt := 23) dX11_night_9 (by decide) (fun c56 => ?_) (fun c56 => ?_)
    · rw [if_pos c56] at e
      refine V_pick [0, 1] rfl ?_
      refine V_aload_n (pc := 23) (i := 0) dX11_night_23 rfl rfl ?_
      replace e := gd_some e
      obtain ⟨g1, e⟩ := e
      replace e := ob_some e
      obtain ⟨q2, g3, e⟩ := e
      refine V_getR (pc := 24) (ci := 10) (k := 1) (b := q2) dX11_night_24 fl_X11_19 rfl (of_decide_eq_true g1) g3 ?_
      replace e := ob_some e
      obtain ⟨r5, g4, e⟩ := e
      replace e := gd_some e
      obtain ⟨g6, e⟩ := e
      refine V_callV (pc := 27) (bc := c9) (bs := s9) (mc := 0) (ms := 0) (st := []) (As := []) (a := q2) (h' := h) (r := some (.int r5)) dX11_night_27 ml_X11_354 (ci := 2) rfl (of_decide_eq_true g6) rfl rfl (Nat.le_of_ble_eq_true rfl) (d' := 0) (by decide) (c_X2_snowOfAll (l := x.2.1) q2 h g4) ?_
      refine V_istore_n (pc := 30) (i := 2) (lv' := [(2, .int r5), (0, .ref v0), (1, .int v1)]) dX11_night_30 rfl (by decide) rfl ?_
      refine V_iconst (pc := 31) (v := (0 : Int32)) dX11_night_31 (by decide) ?_
      refine V_istore_n (pc := 32) (i := 3) (lv' := [(3, .int (0 : Int32)), (2, .int r5), (0, .ref v0), (1, .int v1)]) dX11_night_32 rfl (by decide) rfl ?_
      refine V_pick [2, 3, 1, 0] rfl ?_
      replace e := ob_some e
      obtain ⟨y54, g55, e⟩ := e
      refine iter_V (P := fun z : Int32 × Hp => V M_X11_night x 8 33 [(0, .ref v0), (1, .int v1), (2, .int r5), (3, .int z.1)] [] z.2 c9 s9) (E := fun z : Hp => V M_X11_night x 8 117 [(0, .ref v0), (2, .int r5)] [] z c9 s9) (fun z o e9 k1 k2 => r_X11_night_l33 v0 v1 r5 z.1 z.2 e9 (fun z hz9 => k1 z hz9) (fun z hz9 => k2 _ hz9)) _ _ _ g55 ?_
      clear g55
      obtain ⟨h47, rfl⟩ : ∃ q, q = y54 := ⟨_, rfl⟩
      replace e : (gd (decide (kd h47 v0 = 10)) <| ob (zR h47 v0 1) fun q49 => ob (F_X2_snowOfAll q49 h47) fun r52 => gd (decide (kd h47 q49 = 2)) <| some (.inl (r52 - r5), h47, 0, 0)) = some (r, hz, c9, s9) := e
      show V M_X11_night x 8 117 [(0, .ref v0), (2, .int r5)] [] h47 c9 s9
      refine V_aload_n (pc := 117) (i := 0) dX11_night_117 rfl rfl ?_
      replace e := gd_some e
      obtain ⟨g48, e⟩ := e
      replace e := ob_some e
      obtain ⟨q49, g50, e⟩ := e
      refine V_getR (pc := 118) (ci := 10) (k := 1) (b := q49) dX11_night_118 fl_X11_19 rfl (of_decide_eq_true g48) g50 ?_
      replace e := ob_some e
      obtain ⟨r52, g51, e⟩ := e
      replace e := gd_some e
      obtain ⟨g53, e⟩ := e
      refine V_callV (pc := 121) (bc := c9) (bs := s9) (mc := 0) (ms := 0) (st := []) (As := []) (a := q49) (h' := h47) (r := some (.int r52)) dX11_night_121 ml_X11_354 (ci := 2) rfl (of_decide_eq_true g53) rfl rfl (Nat.le_of_ble_eq_true rfl) (d' := 0) (by decide) (c_X2_snowOfAll (l := x.2.1) q49 h47 g51) ?_
      refine V_iload_n (pc := 124) (i := 2) dX11_night_124 rfl rfl ?_
      refine V_isub (pc := 125) dX11_night_125 ?_
      cases e
      exact V_iret (pc := 126) dX11_night_126 hF
    · rw [if_neg c56] at e
      exact V_pick [] rfl (r_X11_night_b12 h e hF)
def F_X11_night (v0 : Nat) (v1 : Int32) (h : Hp) : Option ((Int32 ⊕ Nat) × Hp × Nat × Nat) := F_X11_night_b0 v0 v1 h
theorem c_X11_night {l : Launch} (v0 : Nat) (v1 : Int32) (h : Hp) {r : Int32} {hz : Hp} {c9 s9 : Nat} (e : F_X11_night v0 v1 h = some (.inl r, hz, c9, s9)) : Ct l yX11_night M_X11_night (some .int) 8 [.ref v0, .int v1] h c9 s9 (some (.int r)) hz :=
  Ct_of rfl rfl (fun q => by cases q) (Nat.le_of_ble_eq_true rfl) (fun x _ hF => V_pick [0, 1] rfl (r_X11_night_b0 v0 v1 h e hF))
theorem cX_X11_night {l : Launch} (hst : l.stackTraces = false) (v0 : Nat) (v1 : Int32) (h : Hp) {k : Nat} {hz : Hp} {c9 s9 : Nat} (e : F_X11_night v0 v1 h = some (.inr k, hz, c9, s9)) : CtX l yX11_night M_X11_night (some .int) 8 [.ref v0, .int v1] h c9 s9 (exN k) hz :=
  CtX_of hst rfl rfl (fun q => by cases q) (Nat.le_of_ble_eq_true rfl) (fun x _ hF => V_pick [0, 1] rfl (r_X11_night_b0 v0 v1 h e hF))
theorem dX11_melt_0 : decode cX11_melt 0 = .ok (.iload_n 1, 1) := by decide +kernel
theorem dX11_melt_1 : decode cX11_melt 1 = .ok (.ifCond .ge 14, 3) := by decide +kernel
theorem dX11_melt_4 : decode cX11_melt 4 = .ok (.new 91, 3) := by decide +kernel
theorem dX11_melt_7 : decode cX11_melt 7 = .ok (.dup, 1) := by decide +kernel
theorem dX11_melt_8 : decode cX11_melt 8 = .ok (.ldc_w 365, 3) := by decide +kernel
theorem dX11_melt_11 : decode cX11_melt 11 = .ok (.invokespecial 95, 3) := by decide +kernel
theorem dX11_melt_14 : decode cX11_melt 14 = .ok (.athrow, 1) := by decide +kernel
theorem dX11_melt_15 : decode cX11_melt 15 = .ok (.aload_n 0, 1) := by decide +kernel
theorem dX11_melt_16 : decode cX11_melt 16 = .ok (.getfield 19, 3) := by decide +kernel
theorem dX11_melt_19 : decode cX11_melt 19 = .ok (.invokevirtual 354, 3) := by decide +kernel
theorem dX11_melt_22 : decode cX11_melt 22 = .ok (.istore_n 2, 1) := by decide +kernel
theorem dX11_melt_23 : decode cX11_melt 23 = .ok (.iconst 0, 1) := by decide +kernel
theorem dX11_melt_24 : decode cX11_melt 24 = .ok (.istore_n 3, 1) := by decide +kernel
theorem dX11_melt_25 : decode cX11_melt 25 = .ok (.iload_n 3, 1) := by decide +kernel
theorem dX11_melt_26 : decode cX11_melt 26 = .ok (.aload_n 0, 1) := by decide +kernel
theorem dX11_melt_27 : decode cX11_melt 27 = .ok (.getfield 19, 3) := by decide +kernel
theorem dX11_melt_30 : decode cX11_melt 30 = .ok (.getfield 299, 3) := by decide +kernel
theorem dX11_melt_33 : decode cX11_melt 33 = .ok (.if_icmp .ge 34, 3) := by decide +kernel
theorem dX11_melt_36 : decode cX11_melt 36 = .ok (.aload_n 0, 1) := by decide +kernel
theorem dX11_melt_37 : decode cX11_melt 37 = .ok (.getfield 19, 3) := by decide +kernel
theorem dX11_melt_40 : decode cX11_melt 40 = .ok (.getfield 159, 3) := by decide +kernel
theorem dX11_melt_43 : decode cX11_melt 43 = .ok (.iload_n 3, 1) := by decide +kernel
theorem dX11_melt_44 : decode cX11_melt 44 = .ok (.dup2, 1) := by decide +kernel
theorem dX11_melt_45 : decode cX11_melt 45 = .ok (.iaload, 1) := by decide +kernel
theorem dX11_melt_46 : decode cX11_melt 46 = .ok (.iload_n 1, 1) := by decide +kernel
theorem dX11_melt_47 : decode cX11_melt 47 = .ok (.aload_n 0, 1) := by decide +kernel
theorem dX11_melt_48 : decode cX11_melt 48 = .ok (.getfield 19, 3) := by decide +kernel
theorem dX11_melt_51 : decode cX11_melt 51 = .ok (.getfield 159, 3) := by decide +kernel
theorem dX11_melt_54 : decode cX11_melt 54 = .ok (.iload_n 3, 1) := by decide +kernel
theorem dX11_melt_55 : decode cX11_melt 55 = .ok (.iaload, 1) := by decide +kernel
theorem dX11_melt_56 : decode cX11_melt 56 = .ok (.invokestatic 362, 3) := by decide +kernel
theorem dX11_melt_59 : decode cX11_melt 59 = .ok (.isub, 1) := by decide +kernel
theorem dX11_melt_60 : decode cX11_melt 60 = .ok (.iastore, 1) := by decide +kernel
theorem dX11_melt_61 : decode cX11_melt 61 = .ok (.iinc 3 1, 3) := by decide +kernel
theorem dX11_melt_64 : decode cX11_melt 64 = .ok (.goto (-39), 3) := by decide +kernel
theorem dX11_melt_67 : decode cX11_melt 67 = .ok (.iload_n 2, 1) := by decide +kernel
theorem dX11_melt_68 : decode cX11_melt 68 = .ok (.aload_n 0, 1) := by decide +kernel
theorem dX11_melt_69 : decode cX11_melt 69 = .ok (.getfield 19, 3) := by decide +kernel
theorem dX11_melt_72 : decode cX11_melt 72 = .ok (.invokevirtual 354, 3) := by decide +kernel
theorem dX11_melt_75 : decode cX11_melt 75 = .ok (.isub, 1) := by decide +kernel
theorem dX11_melt_76 : decode cX11_melt 76 = .ok (.ireturn, 1) := by decide +kernel
set_option maxRecDepth 100000 in
def F_X11_melt_l25 (v0 : Nat) (v1 : Int32) (v2 : Int32) (v3 : Int32) (h : Hp) : Option ((Int32 × Hp) ⊕ Hp) :=
  gd (decide (kd h v0 = 10)) <| ob (zR h v0 1) fun q8 => gd (decide (kd h q8 = 2)) <| (if (zI h q8 0) ≤ v3 then some (.inr h) else ob (zR h v0 1) fun q11 => gd (decide (kd h q11 = 2)) <| ob (zR h q11 4) fun q14 => gd (decide (kd h q14 = 13)) <| gd (ix v3 (zl h q14)) <| ob (zR h v0 1) fun q18 => gd (decide (kd h q18 = 2)) <| ob (zR h q18 4) fun q21 => gd (decide (kd h q21 = 13)) <| gd (ix v3 (zl h q21)) <| gd (ix v3 (zl h q14)) <| some (.inl (v3 + (1 : Int32), setI h q14 (v3).toNatClampNeg ((zI h q14 (v3).toNatClampNeg) - (jmin v1 (zI h q21 (v3).toNatClampNeg))))))
set_option maxHeartbeats 4000000 in
set_option maxRecDepth 100000 in
theorem r_X11_melt_l25 (v0 : Nat) (v1 : Int32) (v2 : Int32) (v3 : Int32) (h : Hp) {bc bs : Nat} {x : Cx} {o : ((Int32 × Hp) ⊕ Hp)} (e : F_X11_melt_l25 v0 v1 v2 v3 h = some o) (kI : ∀ z, o = .inl z → V M_X11_melt x 8 25 [(0, .ref v0), (1, .int v1), (2, .int v2), (3, .int z.1)] [] z.2 bc bs) (kE67 : ∀ z : Hp, o = .inr z → V M_X11_melt x 8 67 [(0, .ref v0), (2, .int v2)] [] z bc bs) : V M_X11_melt x 8 25 [(0, .ref v0), (1, .int v1), (2, .int v2), (3, .int v3)] [] h bc bs := by
  unfold F_X11_melt_l25 at e
  refine V_iload_n (pc := 25) (i := 3) dX11_melt_25 rfl rfl ?_
  refine V_aload_n (pc := 26) (i := 0) dX11_melt_26 rfl rfl ?_
  replace e := gd_some e
  obtain ⟨g7, e⟩ := e
  replace e := ob_some e
  obtain ⟨q8, g9, e⟩ := e
  refine V_getR (pc := 27) (ci := 10) (k := 1) (b := q8) dX11_melt_27 fl_X11_19 rfl (of_decide_eq_true g7) g9 ?_
  replace e := gd_some e
  obtain ⟨g10, e⟩ := e
  refine V_getI (pc := 30) (ci := 2) (k := 0) dX11_melt_30 fl_X11_299 rfl (of_decide_eq_true g10) ?_
  refine V_icmp_ge (pc := 33) (tgt := 67) dX11_melt_33 (by decide) (fun c26 => ?_) (fun c26 => ?_)
  · rw [if_pos c26] at e
    cases e
    exact V_pick [0, 2] rfl (kE67 h rfl)
  · rw [if_neg c26] at e
    refine V_pick [0, 1, 2, 3] rfl ?_
    refine V_aload_n (pc := 36) (i := 0) dX11_melt_36 rfl rfl ?_
    replace e := ob_some e
    obtain ⟨q11, g12, e⟩ := e
    refine V_getR (pc := 37) (ci := 10) (k := 1) (b := q11) dX11_melt_37 fl_X11_19 rfl (of_decide_eq_true g7) g12 ?_
    replace e := gd_some e
    obtain ⟨g13, e⟩ := e
    replace e := ob_some e
    obtain ⟨q14, g15, e⟩ := e
    refine V_getR (pc := 40) (ci := 2) (k := 4) (b := q14) dX11_melt_40 fl_X11_159 rfl (of_decide_eq_true g13) g15 ?_
    refine V_iload_n (pc := 43) (i := 3) dX11_melt_43 rfl rfl ?_
    refine V_dup2 (pc := 44) dX11_melt_44 rfl rfl ?_
    replace e := gd_some e
    obtain ⟨g16, e⟩ := e
    replace e := gd_some e
    obtain ⟨g17, e⟩ := e
    refine V_iald (pc := 45) dX11_melt_45 (of_decide_eq_true g16) (ix_in g17) ?_
    refine V_iload_n (pc := 46) (i := 1) dX11_melt_46 rfl rfl ?_
    refine V_aload_n (pc := 47) (i := 0) dX11_melt_47 rfl rfl ?_
    replace e := ob_some e
    obtain ⟨q18, g19, e⟩ := e
    refine V_getR (pc := 48) (ci := 10) (k := 1) (b := q18) dX11_melt_48 fl_X11_19 rfl (of_decide_eq_true g7) g19 ?_
    replace e := gd_some e
    obtain ⟨g20, e⟩ := e
    replace e := ob_some e
    obtain ⟨q21, g22, e⟩ := e
    refine V_getR (pc := 51) (ci := 2) (k := 4) (b := q21) dX11_melt_51 fl_X11_159 rfl (of_decide_eq_true g20) g22 ?_
    refine V_iload_n (pc := 54) (i := 3) dX11_melt_54 rfl rfl ?_
    replace e := gd_some e
    obtain ⟨g23, e⟩ := e
    replace e := gd_some e
    obtain ⟨g24, e⟩ := e
    refine V_iald (pc := 55) dX11_melt_55 (of_decide_eq_true g23) (ix_in g24) ?_
    refine V_min (pc := 56) dX11_melt_56 wm_X11_362 (by decide) (Nat.le_of_ble_eq_true rfl) ?_
    refine V_isub (pc := 59) dX11_melt_59 ?_
    replace e := gd_some e
    obtain ⟨g25, e⟩ := e
    refine V_iast (pc := 60) dX11_melt_60 (of_decide_eq_true g16) (ix_in g25) ?_
    refine V_iinc (pc := 61) (i := 3) (u := v3 + (1 : Int32)) (lv' := [(3, .int (v3 + (1 : Int32))), (0, .ref v0), (1, .int v1), (2, .int v2)]) dX11_melt_61 rfl rfl (by decide) rfl ?_
    refine V_goto (pc := 64) (tgt := 25) dX11_melt_64 (by decide) ?_
    cases e
    exact V_pick [1, 2, 3, 0] rfl (kI (v3 + (1 : Int32), setI h q14 (v3).toNatClampNeg ((zI h q14 (v3).toNatClampNeg) - (jmin v1 (zI h q21 (v3).toNatClampNeg)))) rfl)
set_option maxRecDepth 100000 in
def F_X11_melt_b0 (v0 : Nat) (v1 : Int32) (h : Hp) : Option ((Int32 ⊕ Nat) × Hp × Nat × Nat) :=
  (if 0 ≤ v1 then gd (decide (kd h v0 = 10)) <| ob (zR h v0 1) fun q2 => ob (F_X2_snowOfAll q2 h) fun r5 => gd (decide (kd h q2 = 2)) <| ob (iter (fun z : Int32 × Hp => F_X11_melt_l25 v0 v1 r5 z.1 z.2) FU ((0 : Int32), h)) (fun h27 => gd (decide (kd h27 v0 = 10)) <| ob (zR h27 v0 1) fun q29 => ob (F_X2_snowOfAll q29 h27) fun r32 => gd (decide (kd h27 q29 = 2)) <| some (.inl (r5 - r32), h27, 0, 0)) else some (.inr 0, h, 1, 6))
set_option maxHeartbeats 4000000 in
set_option maxRecDepth 100000 in
theorem r_X11_melt_b0 (v0 : Nat) (v1 : Int32) (h : Hp) {x : Cx} {r : (Int32 ⊕ Nat)} {hz : Hp} {c9 s9 : Nat} (e : F_X11_melt_b0 v0 v1 h = some (r, hz, c9, s9)) (hF : FinO M_X11_melt x (some .int) r hz) : V M_X11_melt x 8 0 [(0, .ref v0), (1, .int v1)] [] h c9 s9 := by
  unfold F_X11_melt_b0 at e
  refine V_iload_n (pc := 0) (i := 1) dX11_melt_0 rfl rfl ?_
  refine V_if_ge (pc := 1) (tgt := 15) dX11_melt_1 (by decide) (fun c36 => ?_) (fun c36 => ?_)
  · rw [if_pos c36] at e
    refine V_pick [0, 1] rfl ?_
    refine V_aload_n (pc := 15) (i := 0) dX11_melt_15 rfl rfl ?_
    replace e := gd_some e
    obtain ⟨g1, e⟩ := e
    replace e := ob_some e
    obtain ⟨q2, g3, e⟩ := e
    refine V_getR (pc := 16) (ci := 10) (k := 1) (b := q2) dX11_melt_16 fl_X11_19 rfl (of_decide_eq_true g1) g3 ?_
    replace e := ob_some e
    obtain ⟨r5, g4, e⟩ := e
    replace e := gd_some e
    obtain ⟨g6, e⟩ := e
    refine V_callV (pc := 19) (bc := c9) (bs := s9) (mc := 0) (ms := 0) (st := []) (As := []) (a := q2) (h' := h) (r := some (.int r5)) dX11_melt_19 ml_X11_354 (ci := 2) rfl (of_decide_eq_true g6) rfl rfl (Nat.le_of_ble_eq_true rfl) (d' := 0) (by decide) (c_X2_snowOfAll (l := x.2.1) q2 h g4) ?_
    refine V_istore_n (pc := 22) (i := 2) (lv' := [(2, .int r5), (0, .ref v0), (1, .int v1)]) dX11_melt_22 rfl (by decide) rfl ?_
    refine V_iconst (pc := 23) (v := (0 : Int32)) dX11_melt_23 (by decide) ?_
    refine V_istore_n (pc := 24) (i := 3) (lv' := [(3, .int (0 : Int32)), (2, .int r5), (0, .ref v0), (1, .int v1)]) dX11_melt_24 rfl (by decide) rfl ?_
    refine V_pick [2, 3, 1, 0] rfl ?_
    replace e := ob_some e
    obtain ⟨y34, g35, e⟩ := e
    refine iter_V (P := fun z : Int32 × Hp => V M_X11_melt x 8 25 [(0, .ref v0), (1, .int v1), (2, .int r5), (3, .int z.1)] [] z.2 c9 s9) (E := fun z : Hp => V M_X11_melt x 8 67 [(0, .ref v0), (2, .int r5)] [] z c9 s9) (fun z o e9 k1 k2 => r_X11_melt_l25 v0 v1 r5 z.1 z.2 e9 (fun z hz9 => k1 z hz9) (fun z hz9 => k2 _ hz9)) _ _ _ g35 ?_
    clear g35
    obtain ⟨h27, rfl⟩ : ∃ q, q = y34 := ⟨_, rfl⟩
    replace e : (gd (decide (kd h27 v0 = 10)) <| ob (zR h27 v0 1) fun q29 => ob (F_X2_snowOfAll q29 h27) fun r32 => gd (decide (kd h27 q29 = 2)) <| some (.inl (r5 - r32), h27, 0, 0)) = some (r, hz, c9, s9) := e
    show V M_X11_melt x 8 67 [(0, .ref v0), (2, .int r5)] [] h27 c9 s9
    refine V_iload_n (pc := 67) (i := 2) dX11_melt_67 rfl rfl ?_
    refine V_aload_n (pc := 68) (i := 0) dX11_melt_68 rfl rfl ?_
    replace e := gd_some e
    obtain ⟨g28, e⟩ := e
    replace e := ob_some e
    obtain ⟨q29, g30, e⟩ := e
    refine V_getR (pc := 69) (ci := 10) (k := 1) (b := q29) dX11_melt_69 fl_X11_19 rfl (of_decide_eq_true g28) g30 ?_
    replace e := ob_some e
    obtain ⟨r32, g31, e⟩ := e
    replace e := gd_some e
    obtain ⟨g33, e⟩ := e
    refine V_callV (pc := 72) (bc := c9) (bs := s9) (mc := 0) (ms := 0) (st := [.int r5]) (As := []) (a := q29) (h' := h27) (r := some (.int r32)) dX11_melt_72 ml_X11_354 (ci := 2) rfl (of_decide_eq_true g33) rfl rfl (Nat.le_of_ble_eq_true rfl) (d' := 0) (by decide) (c_X2_snowOfAll (l := x.2.1) q29 h27 g31) ?_
    refine V_isub (pc := 75) dX11_melt_75 ?_
    cases e
    exact V_iret (pc := 76) dX11_melt_76 hF
  · rw [if_neg c36] at e
    refine V_pick [] rfl ?_
    cases e
    exact V_throwW (pc := 4) (j := 40) hF th_X11_91_95 rfl (by decide) (Nat.le_of_ble_eq_true rfl) dX11_melt_4 dX11_melt_7 dX11_melt_8 dX11_melt_11 dX11_melt_14
def F_X11_melt (v0 : Nat) (v1 : Int32) (h : Hp) : Option ((Int32 ⊕ Nat) × Hp × Nat × Nat) := F_X11_melt_b0 v0 v1 h
theorem c_X11_melt {l : Launch} (v0 : Nat) (v1 : Int32) (h : Hp) {r : Int32} {hz : Hp} {c9 s9 : Nat} (e : F_X11_melt v0 v1 h = some (.inl r, hz, c9, s9)) : Ct l yX11_melt M_X11_melt (some .int) 8 [.ref v0, .int v1] h c9 s9 (some (.int r)) hz :=
  Ct_of rfl rfl (fun q => by cases q) (Nat.le_of_ble_eq_true rfl) (fun x _ hF => V_pick [0, 1] rfl (r_X11_melt_b0 v0 v1 h e hF))
theorem cX_X11_melt {l : Launch} (hst : l.stackTraces = false) (v0 : Nat) (v1 : Int32) (h : Hp) {k : Nat} {hz : Hp} {c9 s9 : Nat} (e : F_X11_melt v0 v1 h = some (.inr k, hz, c9, s9)) : CtX l yX11_melt M_X11_melt (some .int) 8 [.ref v0, .int v1] h c9 s9 (exN k) hz :=
  CtX_of hst rfl rfl (fun q => by cases q) (Nat.le_of_ble_eq_true rfl) (fun x _ hF => V_pick [0, 1] rfl (r_X11_melt_b0 v0 v1 h e hF))

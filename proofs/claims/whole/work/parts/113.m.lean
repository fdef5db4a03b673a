theorem dX11_rent_0 : decode cX11_rent 0 = .ok (.aload_n 0, 1) := by decide +kernel
theorem dX11_rent_1 : decode cX11_rent 1 = .ok (.getfield 19, 3) := by decide +kernel
theorem dX11_rent_4 : decode cX11_rent 4 = .ok (.iload_n 1, 1) := by decide +kernel
theorem dX11_rent_5 : decode cX11_rent 5 = .ok (.invokevirtual 109, 3) := by decide +kernel
theorem dX11_rent_8 : decode cX11_rent 8 = .ok (.ifCond .ne 13, 3) := by decide +kernel
theorem dX11_rent_11 : decode cX11_rent 11 = .ok (.new 113, 3) := by decide +kernel
theorem dX11_rent_14 : decode cX11_rent 14 = .ok (.dup, 1) := by decide +kernel
theorem dX11_rent_15 : decode cX11_rent 15 = .ok (.ldc 115, 2) := by decide +kernel
theorem dX11_rent_17 : decode cX11_rent 17 = .ok (.invokespecial 117, 3) := by decide +kernel
theorem dX11_rent_20 : decode cX11_rent 20 = .ok (.athrow, 1) := by decide +kernel
theorem dX11_rent_21 : decode cX11_rent 21 = .ok (.iload_n 2, 1) := by decide +kernel
theorem dX11_rent_22 : decode cX11_rent 22 = .ok (.ifCond .lt 21, 3) := by decide +kernel
theorem dX11_rent_25 : decode cX11_rent 25 = .ok (.iload_n 2, 1) := by decide +kernel
theorem dX11_rent_26 : decode cX11_rent 26 = .ok (.sipush 9999, 3) := by decide +kernel
theorem dX11_rent_29 : decode cX11_rent 29 = .ok (.if_icmp .gt 14, 3) := by decide +kernel
theorem dX11_rent_32 : decode cX11_rent 32 = .ok (.iload_n 3, 1) := by decide +kernel
theorem dX11_rent_33 : decode cX11_rent 33 = .ok (.ifCond .lt 10, 3) := by decide +kernel
theorem dX11_rent_36 : decode cX11_rent 36 = .ok (.iload_n 3, 1) := by decide +kernel
theorem dX11_rent_37 : decode cX11_rent 37 = .ok (.sipush 999, 3) := by decide +kernel
theorem dX11_rent_40 : decode cX11_rent 40 = .ok (.if_icmp .le 14, 3) := by decide +kernel
theorem dX11_rent_43 : decode cX11_rent 43 = .ok (.new 91, 3) := by decide +kernel
theorem dX11_rent_46 : decode cX11_rent 46 = .ok (.dup, 1) := by decide +kernel
theorem dX11_rent_47 : decode cX11_rent 47 = .ok (.ldc_w 367, 3) := by decide +kernel
theorem dX11_rent_50 : decode cX11_rent 50 = .ok (.invokespecial 95, 3) := by decide +kernel
theorem dX11_rent_53 : decode cX11_rent 53 = .ok (.athrow, 1) := by decide +kernel
theorem dX11_rent_54 : decode cX11_rent 54 = .ok (.iconst 0, 1) := by decide +kernel
theorem dX11_rent_55 : decode cX11_rent 55 = .ok (.iload_n 2, 1) := by decide +kernel
theorem dX11_rent_56 : decode cX11_rent 56 = .ok (.aload_n 0, 1) := by decide +kernel
theorem dX11_rent_57 : decode cX11_rent 57 = .ok (.getfield 19, 3) := by decide +kernel
theorem dX11_rent_60 : decode cX11_rent 60 = .ok (.aload_n 0, 1) := by decide +kernel
theorem dX11_rent_61 : decode cX11_rent 61 = .ok (.getfield 19, 3) := by decide +kernel
theorem dX11_rent_64 : decode cX11_rent 64 = .ok (.getfield 166, 3) := by decide +kernel
theorem dX11_rent_67 : decode cX11_rent 67 = .ok (.iload_n 1, 1) := by decide +kernel
theorem dX11_rent_68 : decode cX11_rent 68 = .ok (.iaload, 1) := by decide +kernel
theorem dX11_rent_69 : decode cX11_rent 69 = .ok (.invokevirtual 162, 3) := by decide +kernel
theorem dX11_rent_72 : decode cX11_rent 72 = .ok (.iload_n 3, 1) := by decide +kernel
theorem dX11_rent_73 : decode cX11_rent 73 = .ok (.imul, 1) := by decide +kernel
theorem dX11_rent_74 : decode cX11_rent 74 = .ok (.isub, 1) := by decide +kernel
theorem dX11_rent_75 : decode cX11_rent 75 = .ok (.invokestatic 369, 3) := by decide +kernel
theorem dX11_rent_78 : decode cX11_rent 78 = .ok (.ireturn, 1) := by decide +kernel
set_option maxRecDepth 100000 in
def F_X11_rent_b43  (h : Hp) : Option ((Int32 ⊕ Nat) × Hp × Nat × Nat) :=
  some (.inr 0, h, 1, 6)
set_option maxHeartbeats 4000000 in
set_option maxRecDepth 100000 in
theorem r_X11_rent_b43  (h : Hp) {x : Cx} {r : (Int32 ⊕ Nat)} {hz : Hp} {c9 s9 : Nat} (e : F_X11_rent_b43  h = some (r, hz, c9, s9)) (hF : FinO M_X11_rent x (some .int) r hz) : V M_X11_rent x 8 43 [] [] h c9 s9 := by
  unfold F_X11_rent_b43 at e
  cases e
  exact V_throwW (pc := 43) (j := 41) hF th_X11_91_95 rfl (by decide) (Nat.le_of_ble_eq_true rfl) dX11_rent_43 dX11_rent_46 dX11_rent_47 dX11_rent_50 dX11_rent_53
set_option maxRecDepth 100000 in
def F_X11_rent_b0 (v0 : Nat) (v1 : Int32) (v2 : Int32) (v3 : Int32) (h : Hp) : Option ((Int32 ⊕ Nat) × Hp × Nat × Nat) :=
  gd (decide (kd h v0 = 10)) <| ob (zR h v0 1) fun q2 => ob (F_X2_hasGuest q2 v1 h) fun r5 => gd (decide (kd h q2 = 2)) <| (if r5 = 0 then some (.inr 2, h, 1, 6) else (if v2 < 0 then F_X11_rent_b43 h else (if (9999 : Int32) < v2 then F_X11_rent_b43 h else (if v3 < 0 then F_X11_rent_b43 h else (if v3 ≤ (999 : Int32) then ob (zR h v0 1) fun q7 => ob (zR h v0 1) fun q9 => gd (decide (kd h q9 = 2)) <| ob (zR h q9 7) fun q12 => gd (decide (kd h q12 = 13)) <| gd (ix v1 (zl h q12)) <| ob (F_X2_farOf q7 (zI h q12 (v1).toNatClampNeg) h) fun r17 => gd (decide (kd h q7 = 2)) <| some (.inl (jmax (0 : Int32) (v2 - (r17 * v3))), h, 0, 0) else F_X11_rent_b43 h)))))
set_option maxHeartbeats 4000000 in
set_option maxRecDepth 100000 in
theorem r_X11_rent_b0 (v0 : Nat) (v1 : Int32) (v2 : Int32) (v3 : Int32) (h : Hp) {x : Cx} {r : (Int32 ⊕ Nat)} {hz : Hp} {c9 s9 : Nat} (e : F_X11_rent_b0 v0 v1 v2 v3 h = some (r, hz, c9, s9)) (hF : FinO M_X11_rent x (some .int) r hz) : V M_X11_rent x 8 0 [(0, .ref v0), (1, .int v1), (2, .int v2), (3, .int v3)] [] h c9 s9 := by
  unfold F_X11_rent_b0 at e
  refine V_aload_n (pc := 0) (i := 0) dX11_rent_0 rfl rfl ?_
  replace e := gd_some e
  obtain ⟨g1, e⟩ := e
  replace e := ob_some e
  obtain ⟨q2, g3, e⟩ := e
  refine V_getR (pc := 1) (ci := 10) (k := 1) (b := q2) dX11_rent_1 fl_X11_19 rfl (of_decide_eq_true g1) g3 ?_
  refine V_iload_n (pc := 4) (i := 1) dX11_rent_4 rfl rfl ?_
  replace e := ob_some e
  obtain ⟨r5, g4, e⟩ := e
  replace e := gd_some e
  obtain ⟨g6, e⟩ := e
  refine V_callV (pc := 5) (bc := c9) (bs := s9) (mc := 0) (ms := 0) (st := []) (As := [.int v1]) (a := q2) (h' := h) (r := some (.int r5)) dX11_rent_5 ml_X11_109 (ci := 2) rfl (of_decide_eq_true g6) rfl rfl (Nat.le_of_ble_eq_true rfl) (d' := 0) (by decide) (c_X2_hasGuest (l := x.2.1) q2 v1 h g4) ?_
  refine V_if_ne (pc := 8) (tgt := 21) dX11_rent_8 (by decide) (fun c23 => ?_) (fun c23 => ?_)
  · rw [if_neg c23] at e
    refine V_pick [0, 1, 2, 3] rfl ?_
    refine V_iload_n (pc := 21) (i := 2) dX11_rent_21 rfl rfl ?_
    refine V_if_lt (pc := 22) (tgt := 43) dX11_rent_22 (by decide) (fun c22 => ?_) (fun c22 => ?_)
    · rw [if_pos c22] at e
      exact V_pick [] rfl (r_X11_rent_b43 h e hF)
    · rw [if_neg c22] at e
      refine V_pick [0, 1, 2, 3] rfl ?_
      refine V_iload_n (pc := 25) (i := 2) dX11_rent_25 rfl rfl ?_
      refine V_sipush (pc := 26) (v := (9999 : Int32)) dX11_rent_26 (by decide) ?_
      refine V_icmp_gt (pc := 29) (tgt := 43) dX11_rent_29 (by decide) (fun c21 => ?_) (fun c21 => ?_)
      · rw [if_pos c21] at e
        exact V_pick [] rfl (r_X11_rent_b43 h e hF)
      · rw [if_neg c21] at e
        refine V_pick [0, 1, 2, 3] rfl ?_
        refine V_iload_n (pc := 32) (i := 3) dX11_rent_32 rfl rfl ?_
        refine V_if_lt (pc := 33) (tgt := 43) dX11_rent_33 (by decide) (fun c20 => ?_) (fun c20 => ?_)
        · rw [if_pos c20] at e
          exact V_pick [] rfl (r_X11_rent_b43 h e hF)
        · rw [if_neg c20] at e
          refine V_pick [0, 1, 2, 3] rfl ?_
          refine V_iload_n (pc := 36) (i := 3) dX11_rent_36 rfl rfl ?_
          refine V_sipush (pc := 37) (v := (999 : Int32)) dX11_rent_37 (by decide) ?_
          refine V_icmp_le (pc := 40) (tgt := 54) dX11_rent_40 (by decide) (fun c19 => ?_) (fun c19 => ?_)
          · rw [if_pos c19] at e
            refine V_pick [0, 1, 2, 3] rfl ?_
            refine V_iconst (pc := 54) (v := (0 : Int32)) dX11_rent_54 (by decide) ?_
            refine V_iload_n (pc := 55) (i := 2) dX11_rent_55 rfl rfl ?_
            refine V_aload_n (pc := 56) (i := 0) dX11_rent_56 rfl rfl ?_
            replace e := ob_some e
            obtain ⟨q7, g8, e⟩ := e
            refine V_getR (pc := 57) (ci := 10) (k := 1) (b := q7) dX11_rent_57 fl_X11_19 rfl (of_decide_eq_true g1) g8 ?_
            refine V_aload_n (pc := 60) (i := 0) dX11_rent_60 rfl rfl ?_
            replace e := ob_some e
            obtain ⟨q9, g10, e⟩ := e
            refine V_getR (pc := 61) (ci := 10) (k := 1) (b := q9) dX11_rent_61 fl_X11_19 rfl (of_decide_eq_true g1) g10 ?_
            replace e := gd_some e
            obtain ⟨g11, e⟩ := e
            replace e := ob_some e
            obtain ⟨q12, g13, e⟩ := e
            refine V_getR (pc := 64) (ci := 2) (k := 7) (b := q12) dX11_rent_64 fl_X11_166 rfl (of_decide_eq_true g11) g13 ?_
            refine V_iload_n (pc := 67) (i := 1) dX11_rent_67 rfl rfl ?_
            replace e := gd_some e
            obtain ⟨g14, e⟩ := e
            replace e := gd_some e
            obtain ⟨g15, e⟩ := e
            refine V_iald (pc := 68) dX11_rent_68 (of_decide_eq_true g14) (ix_in g15) ?_
            replace e := ob_some e
            obtain ⟨r17, g16, e⟩ := e
            replace e := gd_some e
            obtain ⟨g18, e⟩ := e
            refine V_callV (pc := 69) (bc := c9) (bs := s9) (mc := 0) (ms := 0) (st := [.int v2, .int (0 : Int32)]) (As := [.int (zI h q12 (v1).toNatClampNeg)]) (a := q7) (h' := h) (r := some (.int r17)) dX11_rent_69 ml_X11_162 (ci := 2) rfl (of_decide_eq_true g18) rfl rfl (Nat.le_of_ble_eq_true rfl) (d' := 1) (by decide) (c_X2_farOf (l := x.2.1) q7 (zI h q12 (v1).toNatClampNeg) h g16) ?_
            refine V_iload_n (pc := 72) (i := 3) dX11_rent_72 rfl rfl ?_
            refine V_imul (pc := 73) dX11_rent_73 ?_
            refine V_isub (pc := 74) dX11_rent_74 ?_
            refine V_max (pc := 75) dX11_rent_75 wm_X11_369 (by decide) (Nat.le_of_ble_eq_true rfl) ?_
            cases e
            exact V_iret (pc := 78) dX11_rent_78 hF
          · rw [if_neg c19] at e
            exact V_pick [] rfl (r_X11_rent_b43 h e hF)
  · rw [if_pos c23] at e
    refine V_pick [] rfl ?_
    cases e
    exact V_throw (pc := 11) (j := 28) hF th_X11_113_117 rfl (by decide) (Nat.le_of_ble_eq_true rfl) dX11_rent_11 dX11_rent_14 dX11_rent_15 dX11_rent_17 dX11_rent_20
def F_X11_rent (v0 : Nat) (v1 : Int32) (v2 : Int32) (v3 : Int32) (h : Hp) : Option ((Int32 ⊕ Nat) × Hp × Nat × Nat) := F_X11_rent_b0 v0 v1 v2 v3 h
theorem c_X11_rent {l : Launch} (v0 : Nat) (v1 : Int32) (v2 : Int32) (v3 : Int32) (h : Hp) {r : Int32} {hz : Hp} {c9 s9 : Nat} (e : F_X11_rent v0 v1 v2 v3 h = some (.inl r, hz, c9, s9)) : Ct l yX11_rent M_X11_rent (some .int) 8 [.ref v0, .int v1, .int v2, .int v3] h c9 s9 (some (.int r)) hz :=
  Ct_of rfl rfl (fun q => by cases q) (Nat.le_of_ble_eq_true rfl) (fun x _ hF => V_pick [0, 1, 2, 3] rfl (r_X11_rent_b0 v0 v1 v2 v3 h e hF))
theorem cX_X11_rent {l : Launch} (hst : l.stackTraces = false) (v0 : Nat) (v1 : Int32) (v2 : Int32) (v3 : Int32) (h : Hp) {k : Nat} {hz : Hp} {c9 s9 : Nat} (e : F_X11_rent v0 v1 v2 v3 h = some (.inr k, hz, c9, s9)) : CtX l yX11_rent M_X11_rent (some .int) 8 [.ref v0, .int v1, .int v2, .int v3] h c9 s9 (exN k) hz :=
  CtX_of hst rfl rfl (fun q => by cases q) (Nat.le_of_ble_eq_true rfl) (fun x _ hF => V_pick [0, 1, 2, 3] rfl (r_X11_rent_b0 v0 v1 v2 v3 h e hF))
theorem dX11_count_0 : decode cX11_count 0 = .ok (.iload_n 1, 1) := by decide +kernel
theorem dX11_count_1 : decode cX11_count 1 = .ok (.tableswitch 165 0 11 #[63, 71, 79, 90, 98, 109, 117, 125, 133, 141, 149, 157], 63) := by decide +kernel
theorem dX11_count_64 : decode cX11_count 64 = .ok (.aload_n 0, 1) := by decide +kernel
theorem dX11_count_65 : decode cX11_count 65 = .ok (.getfield 19, 3) := by decide +kernel
theorem dX11_count_68 : decode cX11_count 68 = .ok (.getfield 299, 3) := by decide +kernel
theorem dX11_count_71 : decode cX11_count 71 = .ok (.ireturn, 1) := by decide +kernel
theorem dX11_count_72 : decode cX11_count 72 = .ok (.aload_n 0, 1) := by decide +kernel
theorem dX11_count_73 : decode cX11_count 73 = .ok (.getfield 19, 3) := by decide +kernel
theorem dX11_count_76 : decode cX11_count 76 = .ok (.getfield 273, 3) := by decide +kernel
theorem dX11_count_79 : decode cX11_count 79 = .ok (.ireturn, 1) := by decide +kernel
theorem dX11_count_80 : decode cX11_count 80 = .ok (.aload_n 0, 1) := by decide +kernel
theorem dX11_count_81 : decode cX11_count 81 = .ok (.getfield 19, 3) := by decide +kernel
theorem dX11_count_84 : decode cX11_count 84 = .ok (.getfield 173, 3) := by decide +kernel
theorem dX11_count_87 : decode cX11_count 87 = .ok (.getfield 374, 3) := by decide +kernel
theorem dX11_count_90 : decode cX11_count 90 = .ok (.ireturn, 1) := by decide +kernel
theorem dX11_count_91 : decode cX11_count 91 = .ok (.aload_n 0, 1) := by decide +kernel
theorem dX11_count_92 : decode cX11_count 92 = .ok (.getfield 19, 3) := by decide +kernel
theorem dX11_count_95 : decode cX11_count 95 = .ok (.getfield 98, 3) := by decide +kernel
theorem dX11_count_98 : decode cX11_count 98 = .ok (.ireturn, 1) := by decide +kernel
theorem dX11_count_99 : decode cX11_count 99 = .ok (.aload_n 0, 1) := by decide +kernel
theorem dX11_count_100 : decode cX11_count 100 = .ok (.getfield 19, 3) := by decide +kernel
theorem dX11_count_103 : decode cX11_count 103 = .ok (.getfield 134, 3) := by decide +kernel
theorem dX11_count_106 : decode cX11_count 106 = .ok (.getfield 140, 3) := by decide +kernel
theorem dX11_count_109 : decode cX11_count 109 = .ok (.ireturn, 1) := by decide +kernel
theorem dX11_count_110 : decode cX11_count 110 = .ok (.aload_n 0, 1) := by decide +kernel
theorem dX11_count_111 : decode cX11_count 111 = .ok (.getfield 19, 3) := by decide +kernel
theorem dX11_count_114 : decode cX11_count 114 = .ok (.getfield 321, 3) := by decide +kernel
theorem dX11_count_117 : decode cX11_count 117 = .ok (.ireturn, 1) := by decide +kernel
theorem dX11_count_118 : decode cX11_count 118 = .ok (.aload_n 0, 1) := by decide +kernel
theorem dX11_count_119 : decode cX11_count 119 = .ok (.getfield 19, 3) := by decide +kernel
theorem dX11_count_122 : decode cX11_count 122 = .ok (.getfield 279, 3) := by decide +kernel
theorem dX11_count_125 : decode cX11_count 125 = .ok (.ireturn, 1) := by decide +kernel
theorem dX11_count_126 : decode cX11_count 126 = .ok (.aload_n 0, 1) := by decide +kernel
theorem dX11_count_127 : decode cX11_count 127 = .ok (.getfield 19, 3) := by decide +kernel
theorem dX11_count_130 : decode cX11_count 130 = .ok (.getfield 375, 3) := by decide +kernel
theorem dX11_count_133 : decode cX11_count 133 = .ok (.ireturn, 1) := by decide +kernel
theorem dX11_count_134 : decode cX11_count 134 = .ok (.aload_n 0, 1) := by decide +kernel
theorem dX11_count_135 : decode cX11_count 135 = .ok (.getfield 19, 3) := by decide +kernel
theorem dX11_count_138 : decode cX11_count 138 = .ok (.getfield 378, 3) := by decide +kernel
theorem dX11_count_141 : decode cX11_count 141 = .ok (.ireturn, 1) := by decide +kernel
theorem dX11_count_142 : decode cX11_count 142 = .ok (.aload_n 0, 1) := by decide +kernel
theorem dX11_count_143 : decode cX11_count 143 = .ok (.getfield 19, 3) := by decide +kernel
theorem dX11_count_146 : decode cX11_count 146 = .ok (.getfield 381, 3) := by decide +kernel
theorem dX11_count_149 : decode cX11_count 149 = .ok (.ireturn, 1) := by decide +kernel
theorem dX11_count_150 : decode cX11_count 150 = .ok (.aload_n 0, 1) := by decide +kernel
theorem dX11_count_151 : decode cX11_count 151 = .ok (.getfield 19, 3) := by decide +kernel
theorem dX11_count_154 : decode cX11_count 154 = .ok (.invokevirtual 354, 3) := by decide +kernel
theorem dX11_count_157 : decode cX11_count 157 = .ok (.ireturn, 1) := by decide +kernel
theorem dX11_count_158 : decode cX11_count 158 = .ok (.aload_n 0, 1) := by decide +kernel
theorem dX11_count_159 : decode cX11_count 159 = .ok (.getfield 19, 3) := by decide +kernel
theorem dX11_count_162 : decode cX11_count 162 = .ok (.invokevirtual 384, 3) := by decide +kernel
theorem dX11_count_165 : decode cX11_count 165 = .ok (.ireturn, 1) := by decide +kernel
theorem dX11_count_166 : decode cX11_count 166 = .ok (.iconst (-1), 1) := by decide +kernel
theorem dX11_count_167 : decode cX11_count 167 = .ok (.ireturn, 1) := by decide +kernel
set_option maxRecDepth 100000 in
def F_X11_count_b0 (v0 : Nat) (v1 : Int32) (h : Hp) : Option Int32 :=
  (if v1 = (0 : Int32) then gd (decide (kd h v0 = 10)) <| ob (zR h v0 1) fun q2 => gd (decide (kd h q2 = 2)) <| some (zI h q2 0) else if v1 = (1 : Int32) then gd (decide (kd h v0 = 10)) <| ob (zR h v0 1) fun q7 => gd (decide (kd h q7 = 2)) <| some (zI h q7 5) else if v1 = (2 : Int32) then gd (decide (kd h v0 = 10)) <| ob (zR h v0 1) fun q12 => gd (decide (kd h q12 = 2)) <| ob (zR h q12 9) fun q15 => gd (decide (kd h q15 = 7)) <| some (zI h q15 0) else if v1 = (3 : Int32) then gd (decide (kd h v0 = 10)) <| ob (zR h v0 1) fun q20 => gd (decide (kd h q20 = 2)) <| some (zI h q20 14) else if v1 = (4 : Int32) then gd (decide (kd h v0 = 10)) <| ob (zR h v0 1) fun q25 => gd (decide (kd h q25 = 2)) <| ob (zR h q25 16) fun q28 => gd (decide (kd h q28 = 0)) <| some (zI h q28 0) else if v1 = (5 : Int32) then gd (decide (kd h v0 = 10)) <| ob (zR h v0 1) fun q33 => gd (decide (kd h q33 = 2)) <| some (zI h q33 17) else if v1 = (6 : Int32) then gd (decide (kd h v0 = 10)) <| ob (zR h v0 1) fun q38 => gd (decide (kd h q38 = 2)) <| some (zI h q38 11) else if v1 = (7 : Int32) then gd (decide (kd h v0 = 10)) <| ob (zR h v0 1) fun q43 => gd (decide (kd h q43 = 2)) <| some (zI h q43 10) else if v1 = (8 : Int32) then gd (decide (kd h v0 = 10)) <| ob (zR h v0 1) fun q48 => gd (decide (kd h q48 = 2)) <| some (zI h q48 12) else if v1 = (9 : Int32) then gd (decide (kd h v0 = 10)) <| ob (zR h v0 1) fun q53 => gd (decide (kd h q53 = 2)) <| some (zI h q53 13) else if v1 = (10 : Int32) then gd (decide (kd h v0 = 10)) <| ob (zR h v0 1) fun q58 => ob (F_X2_snowOfAll q58 h) fun r61 => gd (decide (kd h q58 = 2)) <| some r61 else if v1 = (11 : Int32) then gd (decide (kd h v0 = 10)) <| ob (zR h v0 1) fun q65 => ob (F_X2_wishesOfAll q65 h) fun r68 => gd (decide (kd h q65 = 2)) <| some r68 else some (-1 : Int32))
set_option maxHeartbeats 4000000 in
set_option maxRecDepth 100000 in
theorem r_X11_count_b0 (v0 : Nat) (v1 : Int32) (h : Hp) {x : Cx} {r : Int32} (e : F_X11_count_b0 v0 v1 h = some r) (hF : Fin9 M_X11_count x (some .int) (some (.int r)) h) : V M_X11_count x 1 0 [(0, .ref v0), (1, .int v1)] [] h 0 0 := by
  unfold F_X11_count_b0 at e
  refine V_iload_n (pc := 0) (i := 1) dX11_count_0 rfl rfl ?_
  by_cases c5 : v1 = (0 : Int32)
  · rw [if_pos c5] at e
    refine V_tableIn (pc := 1) (tgt := 64) dX11_count_1 (by rw [c5]; decide) (by rw [c5]; decide) (by rw [c5]; rfl) (by decide) ?_
    refine V_pick [0] rfl ?_
    refine V_aload_n (pc := 64) (i := 0) dX11_count_64 rfl rfl ?_
    obtain ⟨g1, e⟩ := gd_some e
    obtain ⟨q2, g3, e⟩ := ob_some e
    refine V_getR (pc := 65) (ci := 10) (k := 1) (b := q2) dX11_count_65 fl_X11_19 rfl (of_decide_eq_true g1) g3 ?_
    obtain ⟨g4, e⟩ := gd_some e
    refine V_getI (pc := 68) (ci := 2) (k := 0) dX11_count_68 fl_X11_299 rfl (of_decide_eq_true g4) ?_
    cases e
    exact V_iret (pc := 71) dX11_count_71 hF
  · rw [if_neg c5] at e
    by_cases c10 : v1 = (1 : Int32)
    · rw [if_pos c10] at e
      refine V_tableIn (pc := 1) (tgt := 72) dX11_count_1 (by rw [c10]; decide) (by rw [c10]; decide) (by rw [c10]; rfl) (by decide) ?_
      refine V_pick [0] rfl ?_
      refine V_aload_n (pc := 72) (i := 0) dX11_count_72 rfl rfl ?_
      obtain ⟨g6, e⟩ := gd_some e
      obtain ⟨q7, g8, e⟩ := ob_some e
      refine V_getR (pc := 73) (ci := 10) (k := 1) (b := q7) dX11_count_73 fl_X11_19 rfl (of_decide_eq_true g6) g8 ?_
      obtain ⟨g9, e⟩ := gd_some e
      refine V_getI (pc := 76) (ci := 2) (k := 5) dX11_count_76 fl_X11_273 rfl (of_decide_eq_true g9) ?_
      cases e
      exact V_iret (pc := 79) dX11_count_79 hF
    · rw [if_neg c10] at e
      by_cases c18 : v1 = (2 : Int32)
      · rw [if_pos c18] at e
        refine V_tableIn (pc := 1) (tgt := 80) dX11_count_1 (by rw [c18]; decide) (by rw [c18]; decide) (by rw [c18]; rfl) (by decide) ?_
        refine V_pick [0] rfl ?_
        refine V_aload_n (pc := 80) (i := 0) dX11_count_80 rfl rfl ?_
        obtain ⟨g11, e⟩ := gd_some e
        obtain ⟨q12, g13, e⟩ := ob_some e
        refine V_getR (pc := 81) (ci := 10) (k := 1) (b := q12) dX11_count_81 fl_X11_19 rfl (of_decide_eq_true g11) g13 ?_
        obtain ⟨g14, e⟩ := gd_some e
        obtain ⟨q15, g16, e⟩ := ob_some e
        refine V_getR (pc := 84) (ci := 2) (k := 9) (b := q15) dX11_count_84 fl_X11_173 rfl (of_decide_eq_true g14) g16 ?_
        obtain ⟨g17, e⟩ := gd_some e
        refine V_getI (pc := 87) (ci := 7) (k := 0) dX11_count_87 fl_X11_374 rfl (of_decide_eq_true g17) ?_
        cases e
        exact V_iret (pc := 90) dX11_count_90 hF
      · rw [if_neg c18] at e
        by_cases c23 : v1 = (3 : Int32)
        · rw [if_pos c23] at e
          refine V_tableIn (pc := 1) (tgt := 91) dX11_count_1 (by rw [c23]; decide) (by rw [c23]; decide) (by rw [c23]; rfl) (by decide) ?_
          refine V_pick [0] rfl ?_
          refine V_aload_n (pc := 91) (i := 0) dX11_count_91 rfl rfl ?_
          obtain ⟨g19, e⟩ := gd_some e
          obtain ⟨q20, g21, e⟩ := ob_some e
          refine V_getR (pc := 92) (ci := 10) (k := 1) (b := q20) dX11_count_92 fl_X11_19 rfl (of_decide_eq_true g19) g21 ?_
          obtain ⟨g22, e⟩ := gd_some e
          refine V_getI (pc := 95) (ci := 2) (k := 14) dX11_count_95 fl_X11_98 rfl (of_decide_eq_true g22) ?_
          cases e
          exact V_iret (pc := 98) dX11_count_98 hF
        · rw [if_neg c23] at e
          by_cases c31 : v1 = (4 : Int32)
          · rw [if_pos c31] at e
            refine V_tableIn (pc := 1) (tgt := 99) dX11_count_1 (by rw [c31]; decide) (by rw [c31]; decide) (by rw [c31]; rfl) (by decide) ?_
            refine V_pick [0] rfl ?_
            refine V_aload_n (pc := 99) (i := 0) dX11_count_99 rfl rfl ?_
            obtain ⟨g24, e⟩ := gd_some e
            obtain ⟨q25, g26, e⟩ := ob_some e
            refine V_getR (pc := 100) (ci := 10) (k := 1) (b := q25) dX11_count_100 fl_X11_19 rfl (of_decide_eq_true g24) g26 ?_
            obtain ⟨g27, e⟩ := gd_some e
            obtain ⟨q28, g29, e⟩ := ob_some e
            refine V_getR (pc := 103) (ci := 2) (k := 16) (b := q28) dX11_count_103 fl_X11_134 rfl (of_decide_eq_true g27) g29 ?_
            obtain ⟨g30, e⟩ := gd_some e
            refine V_getI (pc := 106) (ci := 0) (k := 0) dX11_count_106 fl_X11_140 rfl (of_decide_eq_true g30) ?_
            cases e
            exact V_iret (pc := 109) dX11_count_109 hF
          · rw [if_neg c31] at e
            by_cases c36 : v1 = (5 : Int32)
            · rw [if_pos c36] at e
              refine V_tableIn (pc := 1) (tgt := 110) dX11_count_1 (by rw [c36]; decide) (by rw [c36]; decide) (by rw [c36]; rfl) (by decide) ?_
              refine V_pick [0] rfl ?_
              refine V_aload_n (pc := 110) (i := 0) dX11_count_110 rfl rfl ?_
              obtain ⟨g32, e⟩ := gd_some e
              obtain ⟨q33, g34, e⟩ := ob_some e
              refine V_getR (pc := 111) (ci := 10) (k := 1) (b := q33) dX11_count_111 fl_X11_19 rfl (of_decide_eq_true g32) g34 ?_
              obtain ⟨g35, e⟩ := gd_some e
              refine V_getI (pc := 114) (ci := 2) (k := 17) dX11_count_114 fl_X11_321 rfl (of_decide_eq_true g35) ?_
              cases e
              exact V_iret (pc := 117) dX11_count_117 hF
            · rw [if_neg c36] at e
              by_cases c41 : v1 = (6 : Int32)
              · rw [if_pos c41] at e
                refine V_tableIn (pc := 1) (tgt := 118) dX11_count_1 (by rw [c41]; decide) (by rw [c41]; decide) (by rw [c41]; rfl) (by decide) ?_
                refine V_pick [0] rfl ?_
                refine V_aload_n (pc := 118) (i := 0) dX11_count_118 rfl rfl ?_
                obtain ⟨g37, e⟩ := gd_some e
                obtain ⟨q38, g39, e⟩ := ob_some e
                refine V_getR (pc := 119) (ci := 10) (k := 1) (b := q38) dX11_count_119 fl_X11_19 rfl (of_decide_eq_true g37) g39 ?_
                obtain ⟨g40, e⟩ := gd_some e
                refine V_getI (pc := 122) (ci := 2) (k := 11) dX11_count_122 fl_X11_279 rfl (of_decide_eq_true g40) ?_
                cases e
                exact V_iret (pc := 125) dX11_count_125 hF
              · rw [if_neg c41] at e
                by_cases c46 : v1 = (7 : Int32)
                · rw [if_pos c46] at e
                  refine V_tableIn (pc := 1) (tgt := 126) dX11_count_1 (by rw [c46]; decide) (by rw [c46]; decide) (by rw [c46]; rfl) (by decide) ?_
                  refine V_pick [0] rfl ?_
                  refine V_aload_n (pc := 126) (i := 0) dX11_count_126 rfl rfl ?_
                  obtain ⟨g42, e⟩ := gd_some e
                  obtain ⟨q43, g44, e⟩ := ob_some e
                  refine V_getR (pc := 127) (ci := 10) (k := 1) (b := q43) dX11_count_127 fl_X11_19 rfl (of_decide_eq_true g42) g44 ?_
                  obtain ⟨g45, e⟩ := gd_some e
                  refine V_getI (pc := 130) (ci := 2) (k := 10) dX11_count_130 fl_X11_375 rfl (of_decide_eq_true g45) ?_
                  cases e
                  exact V_iret (pc := 133) dX11_count_133 hF
                · rw [if_neg c46] at e
                  by_cases c51 : v1 = (8 : Int32)
                  · rw [if_pos c51] at e
                    refine V_tableIn (pc := 1) (tgt := 134) dX11_count_1 (by rw [c51]; decide) (by rw [c51]; decide) (by rw [c51]; rfl) (by decide) ?_
                    refine V_pick [0] rfl ?_
                    refine V_aload_n (pc := 134) (i := 0) dX11_count_134 rfl rfl ?_
                    obtain ⟨g47, e⟩ := gd_some e
                    obtain ⟨q48, g49, e⟩ := ob_some e
                    refine V_getR (pc := 135) (ci := 10) (k := 1) (b := q48) dX11_count_135 fl_X11_19 rfl (of_decide_eq_true g47) g49 ?_
                    obtain ⟨g50, e⟩ := gd_some e
                    refine V_getI (pc := 138) (ci := 2) (k := 12) dX11_count_138 fl_X11_378 rfl (of_decide_eq_true g50) ?_
                    cases e
                    exact V_iret (pc := 141) dX11_count_141 hF
                  · rw [if_neg c51] at e
                    by_cases c56 : v1 = (9 : Int32)
                    · rw [if_pos c56] at e
                      refine V_tableIn (pc := 1) (tgt := 142) dX11_count_1 (by rw [c56]; decide) (by rw [c56]; decide) (by rw [c56]; rfl) (by decide) ?_
                      refine V_pick [0] rfl ?_
                      refine V_aload_n (pc := 142) (i := 0) dX11_count_142 rfl rfl ?_
                      obtain ⟨g52, e⟩ := gd_some e
                      obtain ⟨q53, g54, e⟩ := ob_some e
                      refine V_getR (pc := 143) (ci := 10) (k := 1) (b := q53) dX11_count_143 fl_X11_19 rfl (of_decide_eq_true g52) g54 ?_
                      obtain ⟨g55, e⟩ := gd_some e
                      refine V_getI (pc := 146) (ci := 2) (k := 13) dX11_count_146 fl_X11_381 rfl (of_decide_eq_true g55) ?_
                      cases e
                      exact V_iret (pc := 149) dX11_count_149 hF
                    · rw [if_neg c56] at e
                      by_cases c63 : v1 = (10 : Int32)
                      · rw [if_pos c63] at e
                        refine V_tableIn (pc := 1) (tgt := 150) dX11_count_1 (by rw [c63]; decide) (by rw [c63]; decide) (by rw [c63]; rfl) (by decide) ?_
                        refine V_pick [0] rfl ?_
                        refine V_aload_n (pc := 150) (i := 0) dX11_count_150 rfl rfl ?_
                        obtain ⟨g57, e⟩ := gd_some e
                        obtain ⟨q58, g59, e⟩ := ob_some e
                        refine V_getR (pc := 151) (ci := 10) (k := 1) (b := q58) dX11_count_151 fl_X11_19 rfl (of_decide_eq_true g57) g59 ?_
                        obtain ⟨r61, g60, e⟩ := ob_some e
                        obtain ⟨g62, e⟩ := gd_some e
                        refine V_callV (pc := 154) (bc := 0) (bs := 0) (mc := 0) (ms := 0) (st := []) (As := []) (a := q58) (h' := h) (r := some (.int r61)) dX11_count_154 ml_X11_354 (ci := 2) rfl (of_decide_eq_true g62) rfl rfl (Nat.le_of_ble_eq_true rfl) (d' := 0) (by decide) (c_X2_snowOfAll (l := x.2.1) q58 h g60) ?_
                        cases e
                        exact V_iret (pc := 157) dX11_count_157 hF
                      · rw [if_neg c63] at e
                        by_cases c70 : v1 = (11 : Int32)
                        · rw [if_pos c70] at e
                          refine V_tableIn (pc := 1) (tgt := 158) dX11_count_1 (by rw [c70]; decide) (by rw [c70]; decide) (by rw [c70]; rfl) (by decide) ?_
                          refine V_pick [0] rfl ?_
                          refine V_aload_n (pc := 158) (i := 0) dX11_count_158 rfl rfl ?_
                          obtain ⟨g64, e⟩ := gd_some e
                          obtain ⟨q65, g66, e⟩ := ob_some e
                          refine V_getR (pc := 159) (ci := 10) (k := 1) (b := q65) dX11_count_159 fl_X11_19 rfl (of_decide_eq_true g64) g66 ?_
                          obtain ⟨r68, g67, e⟩ := ob_some e
                          obtain ⟨g69, e⟩ := gd_some e
                          refine V_callV (pc := 162) (bc := 0) (bs := 0) (mc := 0) (ms := 0) (st := []) (As := []) (a := q65) (h' := h) (r := some (.int r68)) dX11_count_162 ml_X11_384 (ci := 2) rfl (of_decide_eq_true g69) rfl rfl (Nat.le_of_ble_eq_true rfl) (d' := 0) (by decide) (c_X2_wishesOfAll (l := x.2.1) q65 h g67) ?_
                          cases e
                          exact V_iret (pc := 165) dX11_count_165 hF
                        · rw [if_neg c70] at e
                          refine V_tableOut (pc := 1) (tgt := 166) dX11_count_1 (by have q0 := tI_ne c5 (z := 0) (by decide); have q1 := tI_ne c10 (z := 1) (by decide); have q2 := tI_ne c18 (z := 2) (by decide); have q3 := tI_ne c23 (z := 3) (by decide); have q4 := tI_ne c31 (z := 4) (by decide); have q5 := tI_ne c36 (z := 5) (by decide); have q6 := tI_ne c41 (z := 6) (by decide); have q7 := tI_ne c46 (z := 7) (by decide); have q8 := tI_ne c51 (z := 8) (by decide); have q9 := tI_ne c56 (z := 9) (by decide); have q10 := tI_ne c63 (z := 10) (by decide); have q11 := tI_ne c70 (z := 11) (by decide); omega) (by decide) ?_
                          refine V_pick [] rfl ?_
                          refine V_iconst (pc := 166) (v := (-1 : Int32)) dX11_count_166 (by decide) ?_
                          cases e
                          exact V_iret (pc := 167) dX11_count_167 hF
def F_X11_count (v0 : Nat) (v1 : Int32) (h : Hp) : Option Int32 := F_X11_count_b0 v0 v1 h
theorem c_X11_count {l : Launch} (v0 : Nat) (v1 : Int32) (h : Hp) {r : Int32} (e : F_X11_count v0 v1 h = some r) : Ct l yX11_count M_X11_count (some .int) 1 [.ref v0, .int v1] h 0 0 (some (.int r)) h :=
  Ct_of rfl rfl (fun q => by cases q) (Nat.le_of_ble_eq_true rfl) (fun x _ hF => V_pick [0, 1] rfl (r_X11_count_b0 v0 v1 h e hF))
theorem dX12_opens_0 : decode cX12_opens 0 = .ok (.iload_n 1, 1) := by decide +kernel
theorem dX12_opens_1 : decode cX12_opens 1 = .ok (.istore_n 2, 1) := by decide +kernel
theorem dX12_opens_2 : decode cX12_opens 2 = .ok (.iconst 1, 1) := by decide +kernel
theorem dX12_opens_3 : decode cX12_opens 3 = .ok (.istore_n 3, 1) := by decide +kernel
theorem dX12_opens_4 : decode cX12_opens 4 = .ok (.aload_n 0, 1) := by decide +kernel
theorem dX12_opens_5 : decode cX12_opens 5 = .ok (.invokevirtual 68, 3) := by decide +kernel
theorem dX12_opens_8 : decode cX12_opens 8 = .ok (.iconst 1, 1) := by decide +kernel
theorem dX12_opens_9 : decode cX12_opens 9 = .ok (.isub, 1) := by decide +kernel
theorem dX12_opens_10 : decode cX12_opens 10 = .ok (.istore 4, 2) := by decide +kernel
theorem dX12_opens_12 : decode cX12_opens 12 = .ok (.iload 4, 2) := by decide +kernel
theorem dX12_opens_14 : decode cX12_opens 14 = .ok (.ifCond .lt 49, 3) := by decide +kernel
theorem dX12_opens_17 : decode cX12_opens 17 = .ok (.aload_n 0, 1) := by decide +kernel
theorem dX12_opens_18 : decode cX12_opens 18 = .ok (.getfield 36, 3) := by decide +kernel
theorem dX12_opens_21 : decode cX12_opens 21 = .ok (.iload 4, 2) := by decide +kernel
theorem dX12_opens_23 : decode cX12_opens 23 = .ok (.iload_n 2, 1) := by decide +kernel
theorem dX12_opens_24 : decode cX12_opens 24 = .ok (.bipush 8, 2) := by decide +kernel
theorem dX12_opens_26 : decode cX12_opens 26 = .ok (.irem, 1) := by decide +kernel
theorem dX12_opens_27 : decode cX12_opens 27 = .ok (.iastore, 1) := by decide +kernel
theorem dX12_opens_28 : decode cX12_opens 28 = .ok (.iload_n 2, 1) := by decide +kernel
theorem dX12_opens_29 : decode cX12_opens 29 = .ok (.bipush 8, 2) := by decide +kernel
theorem dX12_opens_31 : decode cX12_opens 31 = .ok (.idiv, 1) := by decide +kernel
theorem dX12_opens_32 : decode cX12_opens 32 = .ok (.istore_n 2, 1) := by decide +kernel
theorem dX12_opens_33 : decode cX12_opens 33 = .ok (.iload_n 3, 1) := by decide +kernel
theorem dX12_opens_34 : decode cX12_opens 34 = .ok (.ifCond .eq 21, 3) := by decide +kernel
theorem dX12_opens_37 : decode cX12_opens 37 = .ok (.aload_n 0, 1) := by decide +kernel
theorem dX12_opens_38 : decode cX12_opens 38 = .ok (.getfield 36, 3) := by decide +kernel
theorem dX12_opens_41 : decode cX12_opens 41 = .ok (.iload 4, 2) := by decide +kernel
theorem dX12_opens_43 : decode cX12_opens 43 = .ok (.iaload, 1) := by decide +kernel
theorem dX12_opens_44 : decode cX12_opens 44 = .ok (.aload_n 0, 1) := by decide +kernel
theorem dX12_opens_45 : decode cX12_opens 45 = .ok (.invokevirtual 60, 3) := by decide +kernel
theorem dX12_opens_48 : decode cX12_opens 48 = .ok (.if_icmp .ge 7, 3) := by decide +kernel
theorem dX12_opens_51 : decode cX12_opens 51 = .ok (.iconst 1, 1) := by decide +kernel
theorem dX12_opens_52 : decode cX12_opens 52 = .ok (.goto 4, 3) := by decide +kernel
theorem dX12_opens_55 : decode cX12_opens 55 = .ok (.iconst 0, 1) := by decide +kernel
theorem dX12_opens_56 : decode cX12_opens 56 = .ok (.istore_n 3, 1) := by decide +kernel
theorem dX12_opens_57 : decode cX12_opens 57 = .ok (.iinc 4 (-1), 3) := by decide +kernel
theorem dX12_opens_60 : decode cX12_opens 60 = .ok (.goto (-48), 3) := by decide +kernel
theorem dX12_opens_63 : decode cX12_opens 63 = .ok (.iload_n 3, 1) := by decide +kernel
theorem dX12_opens_64 : decode cX12_opens 64 = .ok (.ifCond .eq 14, 3) := by decide +kernel
theorem dX12_opens_67 : decode cX12_opens 67 = .ok (.aload_n 0, 1) := by decide +kernel
theorem dX12_opens_68 : decode cX12_opens 68 = .ok (.invokevirtual 331, 3) := by decide +kernel
theorem dX12_opens_71 : decode cX12_opens 71 = .ok (.ifCond .eq 7, 3) := by decide +kernel
theorem dX12_opens_74 : decode cX12_opens 74 = .ok (.iconst 1, 1) := by decide +kernel
theorem dX12_opens_75 : decode cX12_opens 75 = .ok (.goto 4, 3) := by decide +kernel
theorem dX12_opens_78 : decode cX12_opens 78 = .ok (.iconst 0, 1) := by decide +kernel
theorem dX12_opens_79 : decode cX12_opens 79 = .ok (.ireturn, 1) := by decide +kernel
set_option maxRecDepth 100000 in
def F_X12_opens_b56 (v0 : Nat) (v2 : Int32) (v4 : Int32) (t0 : Int32) (h : Hp) : Option ((Int32 × Int32 × Int32 × Hp) ⊕ (Int32 × Hp)) :=
  some (.inl (v2, t0, v4 + (-1 : Int32), h))
set_option maxHeartbeats 4000000 in
set_option maxRecDepth 100000 in
theorem r_X12_opens_b56 (v0 : Nat) (v2 : Int32) (v4 : Int32) (t0 : Int32) (h : Hp) {x : Cx} {o : ((Int32 × Int32 × Int32 × Hp) ⊕ (Int32 × Hp))} (e : F_X12_opens_b56 v0 v2 v4 t0 h = some o) (kI : ∀ z, o = .inl z → V M_X12_opens x 3 12 [(0, .ref v0), (2, .int z.1), (3, .int z.2.1), (4, .int z.2.2.1)] [] z.2.2.2 0 0) (kE63 : ∀ z : Int32 × Hp, o = .inr z → V M_X12_opens x 3 63 [(0, .ref v0), (3, .int z.1)] [] z.2 0 0) : V M_X12_opens x 3 56 [(0, .ref v0), (2, .int v2), (4, .int v4)] [.int t0] h 0 0 := by
  unfold F_X12_opens_b56 at e
  refine V_istore_n (pc := 56) (i := 3) (lv' := [(3, .int t0), (0, .ref v0), (2, .int v2), (4, .int v4)]) dX12_opens_56 rfl (by decide) rfl ?_
  refine V_iinc (pc := 57) (i := 4) (u := v4 + (-1 : Int32)) (lv' := [(4, .int (v4 + (-1 : Int32))), (3, .int t0), (0, .ref v0), (2, .int v2)]) dX12_opens_57 rfl rfl (by decide) rfl ?_
  refine V_goto (pc := 60) (tgt := 12) dX12_opens_60 (by decide) ?_
  cases e
  exact V_pick [2, 3, 1, 0] rfl (kI (v2, t0, v4 + (-1 : Int32), h) rfl)
set_option maxRecDepth 100000 in
def F_X12_opens_b55 (v0 : Nat) (v2 : Int32) (v4 : Int32) (h : Hp) : Option ((Int32 × Int32 × Int32 × Hp) ⊕ (Int32 × Hp)) :=
  F_X12_opens_b56 v0 v2 v4 (0 : Int32) h
set_option maxHeartbeats 4000000 in
set_option maxRecDepth 100000 in
theorem r_X12_opens_b55 (v0 : Nat) (v2 : Int32) (v4 : Int32) (h : Hp) {x : Cx} {o : ((Int32 × Int32 × Int32 × Hp) ⊕ (Int32 × Hp))} (e : F_X12_opens_b55 v0 v2 v4 h = some o) (kI : ∀ z, o = .inl z → V M_X12_opens x 3 12 [(0, .ref v0), (2, .int z.1), (3, .int z.2.1), (4, .int z.2.2.1)] [] z.2.2.2 0 0) (kE63 : ∀ z : Int32 × Hp, o = .inr z → V M_X12_opens x 3 63 [(0, .ref v0), (3, .int z.1)] [] z.2 0 0) : V M_X12_opens x 3 55 [(0, .ref v0), (2, .int v2), (4, .int v4)] [] h 0 0 := by
  unfold F_X12_opens_b55 at e
  refine V_iconst (pc := 55) (v := (0 : Int32)) dX12_opens_55 (by decide) ?_
  exact V_pick [0, 1, 2] rfl (r_X12_opens_b56 v0 v2 v4 (0 : Int32) h e kI kE63)
set_option maxRecDepth 100000 in
def F_X12_opens_l12 (v0 : Nat) (v2 : Int32) (v3 : Int32) (v4 : Int32) (h : Hp) : Option ((Int32 × Int32 × Int32 × Hp) ⊕ (Int32 × Hp)) :=
  (if v4 < 0 then some (.inr (v3, h)) else gd (decide (kd h v0 = 11)) <| ob (zR h v0 15) fun q5 => gd (decide (kd h q5 = 13)) <| gd (ix v4 (zl h q5)) <| (if v3 = 0 then F_X12_opens_b55 v0 (v2 / (8 : Int32)) v4 (setI h q5 (v4).toNatClampNeg (v2 - v2 / (8 : Int32) * (8 : Int32))) else ob (zR (setI h q5 (v4).toNatClampNeg (v2 - v2 / (8 : Int32) * (8 : Int32))) v0 15) fun q9 => gd (decide (kd (setI h q5 (v4).toNatClampNeg (v2 - v2 / (8 : Int32) * (8 : Int32))) q9 = 13)) <| gd (ix v4 (zl (setI h q5 (v4).toNatClampNeg (v2 - v2 / (8 : Int32) * (8 : Int32))) q9)) <| ob (F_X12_rooms v0 (setI h q5 (v4).toNatClampNeg (v2 - v2 / (8 : Int32) * (8 : Int32)))) fun r14 => (if r14 ≤ (zI (setI h q5 (v4).toNatClampNeg (v2 - v2 / (8 : Int32) * (8 : Int32))) q9 (v4).toNatClampNeg) then F_X12_opens_b55 v0 (v2 / (8 : Int32)) v4 (setI h q5 (v4).toNatClampNeg (v2 - v2 / (8 : Int32) * (8 : Int32))) else F_X12_opens_b56 v0 (v2 / (8 : Int32)) v4 (1 : Int32) (setI h q5 (v4).toNatClampNeg (v2 - v2 / (8 : Int32) * (8 : Int32))))))
set_option maxHeartbeats 4000000 in
set_option maxRecDepth 100000 in
theorem r_X12_opens_l12 (v0 : Nat) (v2 : Int32) (v3 : Int32) (v4 : Int32) (h : Hp) {x : Cx} {o : ((Int32 × Int32 × Int32 × Hp) ⊕ (Int32 × Hp))} (e : F_X12_opens_l12 v0 v2 v3 v4 h = some o) (kI : ∀ z, o = .inl z → V M_X12_opens x 3 12 [(0, .ref v0), (2, .int z.1), (3, .int z.2.1), (4, .int z.2.2.1)] [] z.2.2.2 0 0) (kE63 : ∀ z : Int32 × Hp, o = .inr z → V M_X12_opens x 3 63 [(0, .ref v0), (3, .int z.1)] [] z.2 0 0) : V M_X12_opens x 3 12 [(0, .ref v0), (2, .int v2), (3, .int v3), (4, .int v4)] [] h 0 0 := by
  unfold F_X12_opens_l12 at e
  refine V_iload (pc := 12) (i := 4) dX12_opens_12 rfl ?_
  refine V_if_lt (pc := 14) (tgt := 63) dX12_opens_14 (by decide) (fun c17 => ?_) (fun c17 => ?_)
  · rw [if_pos c17] at e
    cases e
    exact V_pick [0, 2] rfl (kE63 (v3, h) rfl)
  · rw [if_neg c17] at e
    refine V_pick [0, 1, 2, 3] rfl ?_
    refine V_aload_n (pc := 17) (i := 0) dX12_opens_17 rfl rfl ?_
    obtain ⟨g4, e⟩ := gd_some e
    obtain ⟨q5, g6, e⟩ := ob_some e
    refine V_getR (pc := 18) (ci := 11) (k := 15) (b := q5) dX12_opens_18 fl_X12_36 rfl (of_decide_eq_true g4) g6 ?_
    refine V_iload (pc := 21) (i := 4) dX12_opens_21 rfl ?_
    refine V_iload_n (pc := 23) (i := 2) dX12_opens_23 rfl rfl ?_
    refine V_bipush (pc := 24) (v := (8 : Int32)) dX12_opens_24 (by decide) ?_
    refine V_irem (pc := 26) dX12_opens_26 (by decide) ?_
    obtain ⟨g7, e⟩ := gd_some e
    obtain ⟨g8, e⟩ := gd_some e
    refine V_iast (pc := 27) dX12_opens_27 (of_decide_eq_true g7) (ix_in g8) ?_
    refine V_iload_n (pc := 28) (i := 2) dX12_opens_28 rfl rfl ?_
    refine V_bipush (pc := 29) (v := (8 : Int32)) dX12_opens_29 (by decide) ?_
    refine V_idiv (pc := 31) dX12_opens_31 (by decide) ?_
    refine V_istore_n (pc := 32) (i := 2) (lv' := [(2, .int (v2 / (8 : Int32))), (0, .ref v0), (3, .int v3), (4, .int v4)]) dX12_opens_32 rfl (by decide) rfl ?_
    refine V_iload_n (pc := 33) (i := 3) dX12_opens_33 rfl rfl ?_
    refine V_if_eq (pc := 34) (tgt := 55) dX12_opens_34 (by decide) (fun c16 => ?_) (fun c16 => ?_)
    · rw [if_pos c16] at e
      exact V_pick [1, 0, 3] rfl (r_X12_opens_b55 v0 (v2 / (8 : Int32)) v4 (setI h q5 (v4).toNatClampNeg (v2 - v2 / (8 : Int32) * (8 : Int32))) e kI kE63)
    · rw [if_neg c16] at e
      refine V_pick [1, 0, 3] rfl ?_
      refine V_aload_n (pc := 37) (i := 0) dX12_opens_37 rfl rfl ?_
      obtain ⟨q9, g10, e⟩ := ob_some e
      refine V_getR (pc := 38) (ci := 11) (k := 15) (b := q9) dX12_opens_38 fl_X12_36 rfl (kd_sI (of_decide_eq_true g4)) g10 ?_
      refine V_iload (pc := 41) (i := 4) dX12_opens_41 rfl ?_
      obtain ⟨g11, e⟩ := gd_some e
      obtain ⟨g12, e⟩ := gd_some e
      refine V_iald (pc := 43) dX12_opens_43 (of_decide_eq_true g11) (ix_in g12) ?_
      refine V_aload_n (pc := 44) (i := 0) dX12_opens_44 rfl rfl ?_
      obtain ⟨r14, g13, e⟩ := ob_some e
      refine V_callV (pc := 45) (bc := 0) (bs := 0) (mc := 0) (ms := 0) (st := [.int (zI (setI h q5 (v4).toNatClampNeg (v2 - v2 / (8 : Int32) * (8 : Int32))) q9 (v4).toNatClampNeg)]) (As := []) (a := v0) (h' := (setI h q5 (v4).toNatClampNeg (v2 - v2 / (8 : Int32) * (8 : Int32)))) (r := some (.int r14)) dX12_opens_45 ml_X12_60 (ci := 11) rfl (kd_sI (of_decide_eq_true g4)) rfl rfl (Nat.le_of_ble_eq_true rfl) (d' := 0) (by decide) (c_X12_rooms (l := x.2.1) v0 (setI h q5 (v4).toNatClampNeg (v2 - v2 / (8 : Int32) * (8 : Int32))) g13) ?_
      refine V_icmp_ge (pc := 48) (tgt := 55) dX12_opens_48 (by decide) (fun c15 => ?_) (fun c15 => ?_)
      · rw [if_pos c15] at e
        exact V_pick [0, 1, 2] rfl (r_X12_opens_b55 v0 (v2 / (8 : Int32)) v4 (setI h q5 (v4).toNatClampNeg (v2 - v2 / (8 : Int32) * (8 : Int32))) e kI kE63)
      · rw [if_neg c15] at e
        refine V_pick [0, 1, 2] rfl ?_
        refine V_iconst (pc := 51) (v := (1 : Int32)) dX12_opens_51 (by decide) ?_
        refine V_goto (pc := 52) (tgt := 56) dX12_opens_52 (by decide) ?_
        exact V_pick [0, 1, 2] rfl (r_X12_opens_b56 v0 (v2 / (8 : Int32)) v4 (1 : Int32) (setI h q5 (v4).toNatClampNeg (v2 - v2 / (8 : Int32) * (8 : Int32))) e kI kE63)
set_option maxRecDepth 100000 in
def F_X12_opens_b79 (t0 : Int32) (h : Hp) : Option (Int32 × Hp) :=
  gd (decide (t0 = 0 ∨ t0 = 1)) <| some (t0, h)
set_option maxHeartbeats 4000000 in
set_option maxRecDepth 100000 in
theorem r_X12_opens_b79 (t0 : Int32) (h : Hp) {x : Cx} {r : Int32} {hz : Hp} (e : F_X12_opens_b79 t0 h = some (r, hz)) (hF : Fin9 M_X12_opens x (some .boolean) (some (.int r)) hz) : V M_X12_opens x 3 79 [] [.int t0] h 0 0 := by
  unfold F_X12_opens_b79 at e
  obtain ⟨g20, e⟩ := gd_some e
  cases e
  exact V_zret (pc := 79) dX12_opens_79 (z01 (of_decide_eq_true g20)) hF
set_option maxRecDepth 100000 in
def F_X12_opens_b78  (h : Hp) : Option (Int32 × Hp) :=
  F_X12_opens_b79 (0 : Int32) h
set_option maxHeartbeats 4000000 in
set_option maxRecDepth 100000 in
theorem r_X12_opens_b78  (h : Hp) {x : Cx} {r : Int32} {hz : Hp} (e : F_X12_opens_b78  h = some (r, hz)) (hF : Fin9 M_X12_opens x (some .boolean) (some (.int r)) hz) : V M_X12_opens x 3 78 [] [] h 0 0 := by
  unfold F_X12_opens_b78 at e
  refine V_iconst (pc := 78) (v := (0 : Int32)) dX12_opens_78 (by decide) ?_
  exact V_pick [] rfl (r_X12_opens_b79 (0 : Int32) h e hF)
set_option maxRecDepth 100000 in
def F_X12_opens_b0 (v0 : Nat) (v1 : Int32) (h : Hp) : Option (Int32 × Hp) :=
  ob (F_X12_guests v0 h) fun r2 => gd (decide (kd h v0 = 11)) <| ob (iter (fun z : Int32 × Int32 × Int32 × Hp => F_X12_opens_l12 v0 z.1 z.2.1 z.2.2.1 z.2.2.2) FU (v1, (1 : Int32), r2 - (1 : Int32), h)) (fun z => un2 z fun w18 h19 => (if w18 = 0 then F_X12_opens_b78 h19 else ob (F_X12_areBeds v0 h19) fun r22 => gd (decide (kd h19 v0 = 11)) <| (if r22 = 0 then F_X12_opens_b78 h19 else F_X12_opens_b79 (1 : Int32) h19)))
set_option maxHeartbeats 4000000 in
set_option maxRecDepth 100000 in
theorem r_X12_opens_b0 (v0 : Nat) (v1 : Int32) (h : Hp) {x : Cx} {r : Int32} {hz : Hp} (e : F_X12_opens_b0 v0 v1 h = some (r, hz)) (hF : Fin9 M_X12_opens x (some .boolean) (some (.int r)) hz) : V M_X12_opens x 3 0 [(0, .ref v0), (1, .int v1)] [] h 0 0 := by
  unfold F_X12_opens_b0 at e
  refine V_iload_n (pc := 0) (i := 1) dX12_opens_0 rfl rfl ?_
  refine V_istore_n (pc := 1) (i := 2) (lv' := [(2, .int v1), (0, .ref v0), (1, .int v1)]) dX12_opens_1 rfl (by decide) rfl ?_
  refine V_iconst (pc := 2) (v := (1 : Int32)) dX12_opens_2 (by decide) ?_
  refine V_istore_n (pc := 3) (i := 3) (lv' := [(3, .int (1 : Int32)), (2, .int v1), (0, .ref v0), (1, .int v1)]) dX12_opens_3 rfl (by decide) rfl ?_
  refine V_aload_n (pc := 4) (i := 0) dX12_opens_4 rfl rfl ?_
  obtain ⟨r2, g1, e⟩ := ob_some e
  obtain ⟨g3, e⟩ := gd_some e
  refine V_callV (pc := 5) (bc := 0) (bs := 0) (mc := 0) (ms := 0) (st := []) (As := []) (a := v0) (h' := h) (r := some (.int r2)) dX12_opens_5 ml_X12_68 (ci := 11) rfl (of_decide_eq_true g3) rfl rfl (Nat.le_of_ble_eq_true rfl) (d' := 0) (by decide) (c_X12_guests (l := x.2.1) v0 h g1) ?_
  refine V_iconst (pc := 8) (v := (1 : Int32)) dX12_opens_8 (by decide) ?_
  refine V_isub (pc := 9) dX12_opens_9 ?_
  refine V_istore (pc := 10) (i := 4) (lv' := [(4, .int (r2 - (1 : Int32))), (3, .int (1 : Int32)), (2, .int v1), (0, .ref v0), (1, .int v1)]) dX12_opens_10 (by decide) rfl ?_
  refine V_pick [3, 2, 1, 0] rfl ?_
  obtain ⟨y26, g27, e⟩ := ob_some e
  refine iter_V (P := fun z : Int32 × Int32 × Int32 × Hp => V M_X12_opens x 3 12 [(0, .ref v0), (2, .int z.1), (3, .int z.2.1), (4, .int z.2.2.1)] [] z.2.2.2 0 0) (E := fun z : Int32 × Hp => V M_X12_opens x 3 63 [(0, .ref v0), (3, .int z.1)] [] z.2 0 0) (fun z o e9 k1 k2 => r_X12_opens_l12 v0 z.1 z.2.1 z.2.2.1 z.2.2.2 e9 (fun z hz9 => k1 z hz9) (fun z hz9 => k2 _ hz9)) _ _ _ g27 ?_
  clear g27
  obtain ⟨w18, h19⟩ := y26
  replace e : ((if w18 = 0 then F_X12_opens_b78 h19 else ob (F_X12_areBeds v0 h19) fun r22 => gd (decide (kd h19 v0 = 11)) <| (if r22 = 0 then F_X12_opens_b78 h19 else F_X12_opens_b79 (1 : Int32) h19))) = some (r, hz) := e
  show V M_X12_opens x 3 63 [(0, .ref v0), (3, .int w18)] [] h19 0 0
  refine V_iload_n (pc := 63) (i := 3) dX12_opens_63 rfl rfl ?_
  refine V_if_eq (pc := 64) (tgt := 78) dX12_opens_64 (by decide) (fun c25 => ?_) (fun c25 => ?_)
  · rw [if_pos c25] at e
    exact V_pick [] rfl (r_X12_opens_b78 h19 e hF)
  · rw [if_neg c25] at e
    refine V_pick [0] rfl ?_
    refine V_aload_n (pc := 67) (i := 0) dX12_opens_67 rfl rfl ?_
    obtain ⟨r22, g21, e⟩ := ob_some e
    obtain ⟨g23, e⟩ := gd_some e
    refine V_callV (pc := 68) (bc := 0) (bs := 0) (mc := 0) (ms := 0) (st := []) (As := []) (a := v0) (h' := h19) (r := some (.int r22)) dX12_opens_68 ml_X12_331 (ci := 11) rfl (of_decide_eq_true g23) rfl rfl (Nat.le_of_ble_eq_true rfl) (d' := 2) (by decide) (c_X12_areBeds (l := x.2.1) v0 h19 g21) ?_
    refine V_if_eq (pc := 71) (tgt := 78) dX12_opens_71 (by decide) (fun c24 => ?_) (fun c24 => ?_)
    · rw [if_pos c24] at e
      exact V_pick [] rfl (r_X12_opens_b78 h19 e hF)
    · rw [if_neg c24] at e
      refine V_pick [] rfl ?_
      refine V_iconst (pc := 74) (v := (1 : Int32)) dX12_opens_74 (by decide) ?_
      refine V_goto (pc := 75) (tgt := 79) dX12_opens_75 (by decide) ?_
      exact V_pick [] rfl (r_X12_opens_b79 (1 : Int32) h19 e hF)
def F_X12_opens (v0 : Nat) (v1 : Int32) (h : Hp) : Option (Int32 × Hp) := F_X12_opens_b0 v0 v1 h
theorem c_X12_opens {l : Launch} (v0 : Nat) (v1 : Int32) (h : Hp) {r : Int32} {hz : Hp} (e : F_X12_opens v0 v1 h = some (r, hz)) : Ct l yX12_opens M_X12_opens (some .boolean) 3 [.ref v0, .int v1] h 0 0 (some (.int r)) hz :=
  Ct_of rfl rfl (fun q => by cases q) (Nat.le_of_ble_eq_true rfl) (fun x _ hF => V_pick [0, 1] rfl (r_X12_opens_b0 v0 v1 h e hF))
theorem dX12_laysAll_0 : decode cX12_laysAll 0 = .ok (.iconst 0, 1) := by decide +kernel
theorem dX12_laysAll_1 : decode cX12_laysAll 1 = .ok (.istore_n 1, 1) := by decide +kernel
theorem dX12_laysAll_2 : decode cX12_laysAll 2 = .ok (.iload_n 1, 1) := by decide +kernel
theorem dX12_laysAll_3 : decode cX12_laysAll 3 = .ok (.aload_n 0, 1) := by decide +kernel
theorem dX12_laysAll_4 : decode cX12_laysAll 4 = .ok (.invokevirtual 337, 3) := by decide +kernel
theorem dX12_laysAll_7 : decode cX12_laysAll 7 = .ok (.if_icmp .ge 35, 3) := by decide +kernel
theorem dX12_laysAll_10 : decode cX12_laysAll 10 = .ok (.aload_n 0, 1) := by decide +kernel
theorem dX12_laysAll_11 : decode cX12_laysAll 11 = .ok (.getfield 46, 3) := by decide +kernel
theorem dX12_laysAll_14 : decode cX12_laysAll 14 = .ok (.iload_n 1, 1) := by decide +kernel
theorem dX12_laysAll_15 : decode cX12_laysAll 15 = .ok (.aload_n 0, 1) := by decide +kernel
theorem dX12_laysAll_16 : decode cX12_laysAll 16 = .ok (.iload_n 1, 1) := by decide +kernel
theorem dX12_laysAll_17 : decode cX12_laysAll 17 = .ok (.invokevirtual 340, 3) := by decide +kernel
theorem dX12_laysAll_20 : decode cX12_laysAll 20 = .ok (.ifCond .eq 14, 3) := by decide +kernel
theorem dX12_laysAll_23 : decode cX12_laysAll 23 = .ok (.aload_n 0, 1) := by decide +kernel
theorem dX12_laysAll_24 : decode cX12_laysAll 24 = .ok (.invokevirtual 293, 3) := by decide +kernel
theorem dX12_laysAll_27 : decode cX12_laysAll 27 = .ok (.ifCond .eq 7, 3) := by decide +kernel
theorem dX12_laysAll_30 : decode cX12_laysAll 30 = .ok (.iconst 1, 1) := by decide +kernel
theorem dX12_laysAll_31 : decode cX12_laysAll 31 = .ok (.goto 4, 3) := by decide +kernel
theorem dX12_laysAll_34 : decode cX12_laysAll 34 = .ok (.iconst 0, 1) := by decide +kernel
theorem dX12_laysAll_35 : decode cX12_laysAll 35 = .ok (.bastore, 1) := by decide +kernel
theorem dX12_laysAll_36 : decode cX12_laysAll 36 = .ok (.iinc 1 1, 3) := by decide +kernel
theorem dX12_laysAll_39 : decode cX12_laysAll 39 = .ok (.goto (-37), 3) := by decide +kernel
theorem dX12_laysAll_42 : decode cX12_laysAll 42 = .ok (.return_, 1) := by decide +kernel
set_option maxRecDepth 100000 in
def F_X12_laysAll_b35 (v0 : Nat) (v1 : Int32) (t0 : Nat) (t1 : Int32) (t2 : Int32) (h : Hp) : Option ((Int32 × Hp) ⊕ Hp) :=
  gd (decide (kd h t0 = 14)) <| gd (ix t1 (zl h t0)) <| some (.inl (v1 + (1 : Int32), setI h t0 (t1).toNatClampNeg (vp_nar .boolean t2)))
set_option maxHeartbeats 4000000 in
set_option maxRecDepth 100000 in
theorem r_X12_laysAll_b35 (v0 : Nat) (v1 : Int32) (t0 : Nat) (t1 : Int32) (t2 : Int32) (h : Hp) {x : Cx} {o : ((Int32 × Hp) ⊕ Hp)} (e : F_X12_laysAll_b35 v0 v1 t0 t1 t2 h = some o) (kI : ∀ z, o = .inl z → V M_X12_laysAll x 6 2 [(0, .ref v0), (1, .int z.1)] [] z.2 0 0) (kE42 : ∀ z : Hp, o = .inr z → V M_X12_laysAll x 6 42 [] [] z 0 0) : V M_X12_laysAll x 6 35 [(0, .ref v0), (1, .int v1)] [.int t2, .int t1, .ref t0] h 0 0 := by
  unfold F_X12_laysAll_b35 at e
  obtain ⟨g9, e⟩ := gd_some e
  obtain ⟨g10, e⟩ := gd_some e
  refine V_zast (pc := 35) dX12_laysAll_35 (of_decide_eq_true g9) (ix_in g10) ?_
  refine V_iinc (pc := 36) (i := 1) (u := v1 + (1 : Int32)) (lv' := [(1, .int (v1 + (1 : Int32))), (0, .ref v0)]) dX12_laysAll_36 rfl rfl (by decide) rfl ?_
  refine V_goto (pc := 39) (tgt := 2) dX12_laysAll_39 (by decide) ?_
  cases e
  exact V_pick [1, 0] rfl (kI (v1 + (1 : Int32), setI h t0 (t1).toNatClampNeg (vp_nar .boolean t2)) rfl)
set_option maxRecDepth 100000 in
def F_X12_laysAll_b34 (v0 : Nat) (v1 : Int32) (t0 : Nat) (t1 : Int32) (h : Hp) : Option ((Int32 × Hp) ⊕ Hp) :=
  F_X12_laysAll_b35 v0 v1 t0 t1 (0 : Int32) h
set_option maxHeartbeats 4000000 in
set_option maxRecDepth 100000 in
theorem r_X12_laysAll_b34 (v0 : Nat) (v1 : Int32) (t0 : Nat) (t1 : Int32) (h : Hp) {x : Cx} {o : ((Int32 × Hp) ⊕ Hp)} (e : F_X12_laysAll_b34 v0 v1 t0 t1 h = some o) (kI : ∀ z, o = .inl z → V M_X12_laysAll x 6 2 [(0, .ref v0), (1, .int z.1)] [] z.2 0 0) (kE42 : ∀ z : Hp, o = .inr z → V M_X12_laysAll x 6 42 [] [] z 0 0) : V M_X12_laysAll x 6 34 [(0, .ref v0), (1, .int v1)] [.int t1, .ref t0] h 0 0 := by
  unfold F_X12_laysAll_b34 at e
  refine V_iconst (pc := 34) (v := (0 : Int32)) dX12_laysAll_34 (by decide) ?_
  exact V_pick [0, 1] rfl (r_X12_laysAll_b35 v0 v1 t0 t1 (0 : Int32) h e kI kE42)
set_option maxRecDepth 100000 in
def F_X12_laysAll_l2 (v0 : Nat) (v1 : Int32) (h : Hp) : Option ((Int32 × Hp) ⊕ Hp) :=
  ob (F_X12_many v0 h) fun r2 => gd (decide (kd h v0 = 11)) <| (if r2 ≤ v1 then some (.inr h) else ob (zR h v0 20) fun q4 => ob2 (F_X12_opens v0 v1 h) fun r7 h8 => (if r7 = 0 then F_X12_laysAll_b34 v0 v1 q4 v1 h8 else ob (F_X12_isLevel v0 h8) fun r12 => gd (decide (kd h8 v0 = 11)) <| (if r12 = 0 then F_X12_laysAll_b34 v0 v1 q4 v1 h8 else F_X12_laysAll_b35 v0 v1 q4 v1 (1 : Int32) h8)))
set_option maxHeartbeats 4000000 in
set_option maxRecDepth 100000 in
theorem r_X12_laysAll_l2 (v0 : Nat) (v1 : Int32) (h : Hp) {x : Cx} {o : ((Int32 × Hp) ⊕ Hp)} (e : F_X12_laysAll_l2 v0 v1 h = some o) (kI : ∀ z, o = .inl z → V M_X12_laysAll x 6 2 [(0, .ref v0), (1, .int z.1)] [] z.2 0 0) (kE42 : ∀ z : Hp, o = .inr z → V M_X12_laysAll x 6 42 [] [] z 0 0) : V M_X12_laysAll x 6 2 [(0, .ref v0), (1, .int v1)] [] h 0 0 := by
  unfold F_X12_laysAll_l2 at e
  refine V_iload_n (pc := 2) (i := 1) dX12_laysAll_2 rfl rfl ?_
  refine V_aload_n (pc := 3) (i := 0) dX12_laysAll_3 rfl rfl ?_
  obtain ⟨r2, g1, e⟩ := ob_some e
  obtain ⟨g3, e⟩ := gd_some e
  refine V_callV (pc := 4) (bc := 0) (bs := 0) (mc := 0) (ms := 0) (st := [.int v1]) (As := []) (a := v0) (h' := h) (r := some (.int r2)) dX12_laysAll_4 ml_X12_337 (ci := 11) rfl (of_decide_eq_true g3) rfl rfl (Nat.le_of_ble_eq_true rfl) (d' := 1) (by decide) (c_X12_many (l := x.2.1) v0 h g1) ?_
  refine V_icmp_ge (pc := 7) (tgt := 42) dX12_laysAll_7 (by decide) (fun c16 => ?_) (fun c16 => ?_)
  · rw [if_pos c16] at e
    cases e
    exact V_pick [] rfl (kE42 h rfl)
  · rw [if_neg c16] at e
    refine V_pick [0, 1] rfl ?_
    refine V_aload_n (pc := 10) (i := 0) dX12_laysAll_10 rfl rfl ?_
    obtain ⟨q4, g5, e⟩ := ob_some e
    refine V_getR (pc := 11) (ci := 11) (k := 20) (b := q4) dX12_laysAll_11 fl_X12_46 rfl (of_decide_eq_true g3) g5 ?_
    refine V_iload_n (pc := 14) (i := 1) dX12_laysAll_14 rfl rfl ?_
    refine V_aload_n (pc := 15) (i := 0) dX12_laysAll_15 rfl rfl ?_
    refine V_iload_n (pc := 16) (i := 1) dX12_laysAll_16 rfl rfl ?_
    obtain ⟨r7, h8, g6, e⟩ := ob2_some e
    refine V_callV (pc := 17) (bc := 0) (bs := 0) (mc := 0) (ms := 0) (st := [.int v1, .ref q4]) (As := [.int v1]) (a := v0) (h' := h8) (r := some (.int r7)) dX12_laysAll_17 ml_X12_340 (ci := 11) rfl (of_decide_eq_true g3) rfl rfl (Nat.le_of_ble_eq_true rfl) (d' := 3) (by decide) (c_X12_opens (l := x.2.1) v0 v1 h g6) ?_
    refine V_if_eq (pc := 20) (tgt := 34) dX12_laysAll_20 (by decide) (fun c15 => ?_) (fun c15 => ?_)
    · rw [if_pos c15] at e
      exact V_pick [0, 1] rfl (r_X12_laysAll_b34 v0 v1 q4 v1 h8 e kI kE42)
    · rw [if_neg c15] at e
      refine V_pick [0, 1] rfl ?_
      refine V_aload_n (pc := 23) (i := 0) dX12_laysAll_23 rfl rfl ?_
      obtain ⟨r12, g11, e⟩ := ob_some e
      obtain ⟨g13, e⟩ := gd_some e
      refine V_callV (pc := 24) (bc := 0) (bs := 0) (mc := 0) (ms := 0) (st := [.int v1, .ref q4]) (As := []) (a := v0) (h' := h8) (r := some (.int r12)) dX12_laysAll_24 ml_X12_293 (ci := 11) rfl (of_decide_eq_true g13) rfl rfl (Nat.le_of_ble_eq_true rfl) (d' := 5) (by decide) (c_X12_isLevel (l := x.2.1) v0 h8 g11) ?_
      refine V_if_eq (pc := 27) (tgt := 34) dX12_laysAll_27 (by decide) (fun c14 => ?_) (fun c14 => ?_)
      · rw [if_pos c14] at e
        exact V_pick [0, 1] rfl (r_X12_laysAll_b34 v0 v1 q4 v1 h8 e kI kE42)
      · rw [if_neg c14] at e
        refine V_pick [0, 1] rfl ?_
        refine V_iconst (pc := 30) (v := (1 : Int32)) dX12_laysAll_30 (by decide) ?_
        refine V_goto (pc := 31) (tgt := 35) dX12_laysAll_31 (by decide) ?_
        exact V_pick [0, 1] rfl (r_X12_laysAll_b35 v0 v1 q4 v1 (1 : Int32) h8 e kI kE42)
set_option maxRecDepth 100000 in
def F_X12_laysAll_b0 (v0 : Nat) (h : Hp) : Option (Unit × Hp) :=
  ob (iter (fun z : Int32 × Hp => F_X12_laysAll_l2 v0 z.1 z.2) FU ((0 : Int32), h)) (fun h17 => some ((), h17))
set_option maxHeartbeats 4000000 in
set_option maxRecDepth 100000 in
theorem r_X12_laysAll_b0 (v0 : Nat) (h : Hp) {x : Cx} {r : Unit} {hz : Hp} (e : F_X12_laysAll_b0 v0 h = some (r, hz)) (hF : Fin9 M_X12_laysAll x none none hz) : V M_X12_laysAll x 6 0 [(0, .ref v0)] [] h 0 0 := by
  unfold F_X12_laysAll_b0 at e
  refine V_iconst (pc := 0) (v := (0 : Int32)) dX12_laysAll_0 (by decide) ?_
  refine V_istore_n (pc := 1) (i := 1) (lv' := [(1, .int (0 : Int32)), (0, .ref v0)]) dX12_laysAll_1 rfl (by decide) rfl ?_
  refine V_pick [1, 0] rfl ?_
  obtain ⟨y18, g19, e⟩ := ob_some e
  refine iter_V (P := fun z : Int32 × Hp => V M_X12_laysAll x 6 2 [(0, .ref v0), (1, .int z.1)] [] z.2 0 0) (E := fun z : Hp => V M_X12_laysAll x 6 42 [] [] z 0 0) (fun z o e9 k1 k2 => r_X12_laysAll_l2 v0 z.1 z.2 e9 (fun z hz9 => k1 z hz9) (fun z hz9 => k2 _ hz9)) _ _ _ g19 ?_
  clear g19
  obtain ⟨h17, rfl⟩ : ∃ q, q = y18 := ⟨_, rfl⟩
  replace e : (some ((), h17)) = some (r, hz) := e
  show V M_X12_laysAll x 6 42 [] [] h17 0 0
  cases e
  exact V_vret (pc := 42) dX12_laysAll_42 hF
def F_X12_laysAll (v0 : Nat) (h : Hp) : Option (Unit × Hp) := F_X12_laysAll_b0 v0 h
theorem c_X12_laysAll {l : Launch} (v0 : Nat) (h : Hp) {r : Unit} {hz : Hp} (e : F_X12_laysAll v0 h = some (r, hz)) : Ct l yX12_laysAll M_X12_laysAll none 6 [.ref v0] h 0 0 none hz :=
  Ct_of rfl rfl (fun q => by cases q) (Nat.le_of_ble_eq_true rfl) (fun x _ hF => V_pick [0] rfl (r_X12_laysAll_b0 v0 h e hF))
theorem dX12_findsSeats_0 : decode cX12_findsSeats 0 = .ok (.aload_n 0, 1) := by decide +kernel
theorem dX12_findsSeats_1 : decode cX12_findsSeats 1 = .ok (.iconst (-1), 1) := by decide +kernel
theorem dX12_findsSeats_2 : decode cX12_findsSeats 2 = .ok (.putfield 343, 3) := by decide +kernel
theorem dX12_findsSeats_5 : decode cX12_findsSeats 5 = .ok (.aload_n 0, 1) := by decide +kernel
theorem dX12_findsSeats_6 : decode cX12_findsSeats 6 = .ok (.iconst (-1), 1) := by decide +kernel
theorem dX12_findsSeats_7 : decode cX12_findsSeats 7 = .ok (.putfield 346, 3) := by decide +kernel
theorem dX12_findsSeats_10 : decode cX12_findsSeats 10 = .ok (.aload_n 0, 1) := by decide +kernel
theorem dX12_findsSeats_11 : decode cX12_findsSeats 11 = .ok (.iconst 0, 1) := by decide +kernel
theorem dX12_findsSeats_12 : decode cX12_findsSeats 12 = .ok (.putfield 349, 3) := by decide +kernel
theorem dX12_findsSeats_15 : decode cX12_findsSeats 15 = .ok (.iconst 0, 1) := by decide +kernel
theorem dX12_findsSeats_16 : decode cX12_findsSeats 16 = .ok (.istore_n 1, 1) := by decide +kernel
theorem dX12_findsSeats_17 : decode cX12_findsSeats 17 = .ok (.iload_n 1, 1) := by decide +kernel
theorem dX12_findsSeats_18 : decode cX12_findsSeats 18 = .ok (.aload_n 0, 1) := by decide +kernel
theorem dX12_findsSeats_19 : decode cX12_findsSeats 19 = .ok (.invokevirtual 337, 3) := by decide +kernel
theorem dX12_findsSeats_22 : decode cX12_findsSeats 22 = .ok (.if_icmp .ge 63, 3) := by decide +kernel
theorem dX12_findsSeats_25 : decode cX12_findsSeats 25 = .ok (.aload_n 0, 1) := by decide +kernel
theorem dX12_findsSeats_26 : decode cX12_findsSeats 26 = .ok (.getfield 46, 3) := by decide +kernel
theorem dX12_findsSeats_29 : decode cX12_findsSeats 29 = .ok (.iload_n 1, 1) := by decide +kernel
theorem dX12_findsSeats_30 : decode cX12_findsSeats 30 = .ok (.baload, 1) := by decide +kernel
theorem dX12_findsSeats_31 : decode cX12_findsSeats 31 = .ok (.ifCond .ne 6, 3) := by decide +kernel
theorem dX12_findsSeats_34 : decode cX12_findsSeats 34 = .ok (.goto 45, 3) := by decide +kernel
theorem dX12_findsSeats_37 : decode cX12_findsSeats 37 = .ok (.aload_n 0, 1) := by decide +kernel
theorem dX12_findsSeats_38 : decode cX12_findsSeats 38 = .ok (.dup, 1) := by decide +kernel
theorem dX12_findsSeats_39 : decode cX12_findsSeats 39 = .ok (.getfield 349, 3) := by decide +kernel
theorem dX12_findsSeats_42 : decode cX12_findsSeats 42 = .ok (.iconst 1, 1) := by decide +kernel
theorem dX12_findsSeats_43 : decode cX12_findsSeats 43 = .ok (.iadd, 1) := by decide +kernel
theorem dX12_findsSeats_44 : decode cX12_findsSeats 44 = .ok (.putfield 349, 3) := by decide +kernel
theorem dX12_findsSeats_47 : decode cX12_findsSeats 47 = .ok (.aload_n 0, 1) := by decide +kernel
theorem dX12_findsSeats_48 : decode cX12_findsSeats 48 = .ok (.iload_n 1, 1) := by decide +kernel
theorem dX12_findsSeats_49 : decode cX12_findsSeats 49 = .ok (.invokevirtual 340, 3) := by decide +kernel
theorem dX12_findsSeats_52 : decode cX12_findsSeats 52 = .ok (.pop, 1) := by decide +kernel
theorem dX12_findsSeats_53 : decode cX12_findsSeats 53 = .ok (.aload_n 0, 1) := by decide +kernel
theorem dX12_findsSeats_54 : decode cX12_findsSeats 54 = .ok (.invokevirtual 312, 3) := by decide +kernel
theorem dX12_findsSeats_57 : decode cX12_findsSeats 57 = .ok (.istore_n 2, 1) := by decide +kernel
theorem dX12_findsSeats_58 : decode cX12_findsSeats 58 = .ok (.iload_n 2, 1) := by decide +kernel
theorem dX12_findsSeats_59 : decode cX12_findsSeats 59 = .ok (.aload_n 0, 1) := by decide +kernel
theorem dX12_findsSeats_60 : decode cX12_findsSeats 60 = .ok (.getfield 346, 3) := by decide +kernel
theorem dX12_findsSeats_63 : decode cX12_findsSeats 63 = .ok (.if_icmp .gt 6, 3) := by decide +kernel
theorem dX12_findsSeats_66 : decode cX12_findsSeats 66 = .ok (.goto 13, 3) := by decide +kernel
theorem dX12_findsSeats_69 : decode cX12_findsSeats 69 = .ok (.aload_n 0, 1) := by decide +kernel
theorem dX12_findsSeats_70 : decode cX12_findsSeats 70 = .ok (.iload_n 1, 1) := by decide +kernel
theorem dX12_findsSeats_71 : decode cX12_findsSeats 71 = .ok (.putfield 343, 3) := by decide +kernel
theorem dX12_findsSeats_74 : decode cX12_findsSeats 74 = .ok (.aload_n 0, 1) := by decide +kernel
theorem dX12_findsSeats_75 : decode cX12_findsSeats 75 = .ok (.iload_n 2, 1) := by decide +kernel
theorem dX12_findsSeats_76 : decode cX12_findsSeats 76 = .ok (.putfield 346, 3) := by decide +kernel
theorem dX12_findsSeats_79 : decode cX12_findsSeats 79 = .ok (.iinc 1 1, 3) := by decide +kernel
theorem dX12_findsSeats_82 : decode cX12_findsSeats 82 = .ok (.goto (-65), 3) := by decide +kernel
theorem dX12_findsSeats_85 : decode cX12_findsSeats 85 = .ok (.return_, 1) := by decide +kernel
set_option maxRecDepth 100000 in
def F_X12_findsSeats_b79 (v0 : Nat) (v1 : Int32) (h : Hp) : Option ((Int32 × Hp) ⊕ Hp) :=
  some (.inl (v1 + (1 : Int32), h))
set_option maxHeartbeats 4000000 in
set_option maxRecDepth 100000 in
theorem r_X12_findsSeats_b79 (v0 : Nat) (v1 : Int32) (h : Hp) {x : Cx} {o : ((Int32 × Hp) ⊕ Hp)} (e : F_X12_findsSeats_b79 v0 v1 h = some o) (kI : ∀ z, o = .inl z → V M_X12_findsSeats x 6 17 [(0, .ref v0), (1, .int z.1)] [] z.2 0 0) (kE85 : ∀ z : Hp, o = .inr z → V M_X12_findsSeats x 6 85 [] [] z 0 0) : V M_X12_findsSeats x 6 79 [(0, .ref v0), (1, .int v1)] [] h 0 0 := by
  unfold F_X12_findsSeats_b79 at e
  refine V_iinc (pc := 79) (i := 1) (u := v1 + (1 : Int32)) (lv' := [(1, .int (v1 + (1 : Int32))), (0, .ref v0)]) dX12_findsSeats_79 rfl rfl (by decide) rfl ?_
  refine V_goto (pc := 82) (tgt := 17) dX12_findsSeats_82 (by decide) ?_
  cases e
  exact V_pick [1, 0] rfl (kI (v1 + (1 : Int32), h) rfl)
set_option maxRecDepth 100000 in
def F_X12_findsSeats_l17 (v0 : Nat) (v1 : Int32) (h : Hp) : Option ((Int32 × Hp) ⊕ Hp) :=
  ob (F_X12_many v0 h) fun r3 => gd (decide (kd h v0 = 11)) <| (if r3 ≤ v1 then some (.inr h) else ob (zR h v0 20) fun q5 => gd (decide (kd h q5 = 14)) <| gd (ix v1 (zl h q5)) <| (if (zI h q5 (v1).toNatClampNeg) = 0 then F_X12_findsSeats_b79 v0 v1 h else ob2 (F_X12_opens v0 v1 (setI h v0 25 ((zI h v0 25) + (1 : Int32)))) fun r10 h11 => ob2 (F_X12_metByAll v0 h11) fun r13 h14 => gd (decide (kd h11 v0 = 11)) <| gd (decide (kd h14 v0 = 11)) <| (if (zI h14 v0 24) < r13 then F_X12_findsSeats_b79 v0 v1 (setI (setI h14 v0 23 v1) v0 24 r13) else F_X12_findsSeats_b79 v0 v1 h14)))
set_option maxHeartbeats 4000000 in
set_option maxRecDepth 100000 in
theorem r_X12_findsSeats_l17 (v0 : Nat) (v1 : Int32) (h : Hp) {x : Cx} {o : ((Int32 × Hp) ⊕ Hp)} (e : F_X12_findsSeats_l17 v0 v1 h = some o) (kI : ∀ z, o = .inl z → V M_X12_findsSeats x 6 17 [(0, .ref v0), (1, .int z.1)] [] z.2 0 0) (kE85 : ∀ z : Hp, o = .inr z → V M_X12_findsSeats x 6 85 [] [] z 0 0) : V M_X12_findsSeats x 6 17 [(0, .ref v0), (1, .int v1)] [] h 0 0 := by
  unfold F_X12_findsSeats_l17 at e
  refine V_iload_n (pc := 17) (i := 1) dX12_findsSeats_17 rfl rfl ?_
  refine V_aload_n (pc := 18) (i := 0) dX12_findsSeats_18 rfl rfl ?_
  obtain ⟨r3, g2, e⟩ := ob_some e
  obtain ⟨g4, e⟩ := gd_some e
  refine V_callV (pc := 19) (bc := 0) (bs := 0) (mc := 0) (ms := 0) (st := [.int v1]) (As := []) (a := v0) (h' := h) (r := some (.int r3)) dX12_findsSeats_19 ml_X12_337 (ci := 11) rfl (of_decide_eq_true g4) rfl rfl (Nat.le_of_ble_eq_true rfl) (d' := 1) (by decide) (c_X12_many (l := x.2.1) v0 h g2) ?_
  refine V_icmp_ge (pc := 22) (tgt := 85) dX12_findsSeats_22 (by decide) (fun c19 => ?_) (fun c19 => ?_)
  · rw [if_pos c19] at e
    cases e
    exact V_pick [] rfl (kE85 h rfl)
  · rw [if_neg c19] at e
    refine V_pick [0, 1] rfl ?_
    refine V_aload_n (pc := 25) (i := 0) dX12_findsSeats_25 rfl rfl ?_
    obtain ⟨q5, g6, e⟩ := ob_some e
    refine V_getR (pc := 26) (ci := 11) (k := 20) (b := q5) dX12_findsSeats_26 fl_X12_46 rfl (of_decide_eq_true g4) g6 ?_
    refine V_iload_n (pc := 29) (i := 1) dX12_findsSeats_29 rfl rfl ?_
    obtain ⟨g7, e⟩ := gd_some e
    obtain ⟨g8, e⟩ := gd_some e
    refine V_zald (pc := 30) dX12_findsSeats_30 (of_decide_eq_true g7) (ix_in g8) ?_
    refine V_if_ne (pc := 31) (tgt := 37) dX12_findsSeats_31 (by decide) (fun c18 => ?_) (fun c18 => ?_)
    · rw [if_neg c18] at e
      refine V_pick [0, 1] rfl ?_
      refine V_aload_n (pc := 37) (i := 0) dX12_findsSeats_37 rfl rfl ?_
      refine V_dup (pc := 38) dX12_findsSeats_38 rfl ?_
      refine V_getI (pc := 39) (ci := 11) (k := 25) dX12_findsSeats_39 fl_X12_349 rfl (of_decide_eq_true g4) ?_
      refine V_iconst (pc := 42) (v := (1 : Int32)) dX12_findsSeats_42 (by decide) ?_
      refine V_iadd (pc := 43) dX12_findsSeats_43 ?_
      refine V_putI (pc := 44) (ci := 11) (k := 25) dX12_findsSeats_44 fp_X12_349 rfl (of_decide_eq_true g4) ?_
      refine V_aload_n (pc := 47) (i := 0) dX12_findsSeats_47 rfl rfl ?_
      refine V_iload_n (pc := 48) (i := 1) dX12_findsSeats_48 rfl rfl ?_
      obtain ⟨r10, h11, g9, e⟩ := ob2_some e
      refine V_callV (pc := 49) (bc := 0) (bs := 0) (mc := 0) (ms := 0) (st := []) (As := [.int v1]) (a := v0) (h' := h11) (r := some (.int r10)) dX12_findsSeats_49 ml_X12_340 (ci := 11) rfl (kd_sI (of_decide_eq_true g4)) rfl rfl (Nat.le_of_ble_eq_true rfl) (d' := 3) (by decide) (c_X12_opens (l := x.2.1) v0 v1 (setI h v0 25 ((zI h v0 25) + (1 : Int32))) g9) ?_
      refine V_pop (pc := 52) dX12_findsSeats_52 rfl ?_
      refine V_aload_n (pc := 53) (i := 0) dX12_findsSeats_53 rfl rfl ?_
      obtain ⟨r13, h14, g12, e⟩ := ob2_some e
      obtain ⟨g15, e⟩ := gd_some e
      refine V_callV (pc := 54) (bc := 0) (bs := 0) (mc := 0) (ms := 0) (st := []) (As := []) (a := v0) (h' := h14) (r := some (.int r13)) dX12_findsSeats_54 ml_X12_312 (ci := 11) rfl (of_decide_eq_true g15) rfl rfl (Nat.le_of_ble_eq_true rfl) (d' := 5) (by decide) (c_X12_metByAll (l := x.2.1) v0 h11 g12) ?_
      refine V_istore_n (pc := 57) (i := 2) (lv' := [(2, .int r13), (0, .ref v0), (1, .int v1)]) dX12_findsSeats_57 rfl (by decide) rfl ?_
      refine V_iload_n (pc := 58) (i := 2) dX12_findsSeats_58 rfl rfl ?_
      refine V_aload_n (pc := 59) (i := 0) dX12_findsSeats_59 rfl rfl ?_
      obtain ⟨g16, e⟩ := gd_some e
      refine V_getI (pc := 60) (ci := 11) (k := 24) dX12_findsSeats_60 fl_X12_346 rfl (of_decide_eq_true g16) ?_
      refine V_icmp_gt (pc := 63) (tgt := 69) dX12_findsSeats_63 (by decide) (fun c17 => ?_) (fun c17 => ?_)
      · rw [if_pos c17] at e
        refine V_pick [1, 2, 0] rfl ?_
        refine V_aload_n (pc := 69) (i := 0) dX12_findsSeats_69 rfl rfl ?_
        refine V_iload_n (pc := 70) (i := 1) dX12_findsSeats_70 rfl rfl ?_
        refine V_putI (pc := 71) (ci := 11) (k := 23) dX12_findsSeats_71 fp_X12_343 rfl (of_decide_eq_true g16) ?_
        refine V_aload_n (pc := 74) (i := 0) dX12_findsSeats_74 rfl rfl ?_
        refine V_iload_n (pc := 75) (i := 2) dX12_findsSeats_75 rfl rfl ?_
        refine V_putI (pc := 76) (ci := 11) (k := 24) dX12_findsSeats_76 fp_X12_346 rfl (kd_sI (of_decide_eq_true g16)) ?_
        exact V_pick [0, 1] rfl (r_X12_findsSeats_b79 v0 v1 (setI (setI h14 v0 23 v1) v0 24 r13) e kI kE85)
      · rw [if_neg c17] at e
        refine V_pick [1, 2] rfl ?_
        refine V_goto (pc := 66) (tgt := 79) dX12_findsSeats_66 (by decide) ?_
        exact V_pick [0, 1] rfl (r_X12_findsSeats_b79 v0 v1 h14 e kI kE85)
    · rw [if_pos c18] at e
      refine V_pick [0, 1] rfl ?_
      refine V_goto (pc := 34) (tgt := 79) dX12_findsSeats_34 (by decide) ?_
      exact V_pick [0, 1] rfl (r_X12_findsSeats_b79 v0 v1 h e kI kE85)
set_option maxRecDepth 100000 in
def F_X12_findsSeats_b0 (v0 : Nat) (h : Hp) : Option (Unit × Hp) :=
  gd (decide (kd h v0 = 11)) <| ob (iter (fun z : Int32 × Hp => F_X12_findsSeats_l17 v0 z.1 z.2) FU ((0 : Int32), setI (setI (setI h v0 23 (-1 : Int32)) v0 24 (-1 : Int32)) v0 25 (0 : Int32))) (fun h20 => some ((), h20))
set_option maxHeartbeats 4000000 in
set_option maxRecDepth 100000 in
theorem r_X12_findsSeats_b0 (v0 : Nat) (h : Hp) {x : Cx} {r : Unit} {hz : Hp} (e : F_X12_findsSeats_b0 v0 h = some (r, hz)) (hF : Fin9 M_X12_findsSeats x none none hz) : V M_X12_findsSeats x 6 0 [(0, .ref v0)] [] h 0 0 := by
  unfold F_X12_findsSeats_b0 at e
  refine V_aload_n (pc := 0) (i := 0) dX12_findsSeats_0 rfl rfl ?_
  refine V_iconst (pc := 1) (v := (-1 : Int32)) dX12_findsSeats_1 (by decide) ?_
  obtain ⟨g1, e⟩ := gd_some e
  refine V_putI (pc := 2) (ci := 11) (k := 23) dX12_findsSeats_2 fp_X12_343 rfl (of_decide_eq_true g1) ?_
  refine V_aload_n (pc := 5) (i := 0) dX12_findsSeats_5 rfl rfl ?_
  refine V_iconst (pc := 6) (v := (-1 : Int32)) dX12_findsSeats_6 (by decide) ?_
  refine V_putI (pc := 7) (ci := 11) (k := 24) dX12_findsSeats_7 fp_X12_346 rfl (kd_sI (of_decide_eq_true g1)) ?_
  refine V_aload_n (pc := 10) (i := 0) dX12_findsSeats_10 rfl rfl ?_
  refine V_iconst (pc := 11) (v := (0 : Int32)) dX12_findsSeats_11 (by decide) ?_
  refine V_putI (pc := 12) (ci := 11) (k := 25) dX12_findsSeats_12 fp_X12_349 rfl (kd_sI (kd_sI (of_decide_eq_true g1))) ?_
  refine V_iconst (pc := 15) (v := (0 : Int32)) dX12_findsSeats_15 (by decide) ?_
  refine V_istore_n (pc := 16) (i := 1) (lv' := [(1, .int (0 : Int32)), (0, .ref v0)]) dX12_findsSeats_16 rfl (by decide) rfl ?_
  refine V_pick [1, 0] rfl ?_
  obtain ⟨y21, g22, e⟩ := ob_some e
  refine iter_V (P := fun z : Int32 × Hp => V M_X12_findsSeats x 6 17 [(0, .ref v0), (1, .int z.1)] [] z.2 0 0) (E := fun z : Hp => V M_X12_findsSeats x 6 85 [] [] z 0 0) (fun z o e9 k1 k2 => r_X12_findsSeats_l17 v0 z.1 z.2 e9 (fun z hz9 => k1 z hz9) (fun z hz9 => k2 _ hz9)) _ _ _ g22 ?_
  clear g22
  obtain ⟨h20, rfl⟩ : ∃ q, q = y21 := ⟨_, rfl⟩
  replace e : (some ((), h20)) = some (r, hz) := e
  show V M_X12_findsSeats x 6 85 [] [] h20 0 0
  cases e
  exact V_vret (pc := 85) dX12_findsSeats_85 hF
def F_X12_findsSeats (v0 : Nat) (h : Hp) : Option (Unit × Hp) := F_X12_findsSeats_b0 v0 h
theorem c_X12_findsSeats {l : Launch} (v0 : Nat) (h : Hp) {r : Unit} {hz : Hp} (e : F_X12_findsSeats v0 h = some (r, hz)) : Ct l yX12_findsSeats M_X12_findsSeats none 6 [.ref v0] h 0 0 none hz :=
  Ct_of rfl rfl (fun q => by cases q) (Nat.le_of_ble_eq_true rfl) (fun x _ hF => V_pick [0] rfl (r_X12_findsSeats_b0 v0 h e hF))
theorem dX12_numberOf_0 : decode cX12_numberOf 0 = .ok (.aload_n 0, 1) := by decide +kernel
theorem dX12_numberOf_1 : decode cX12_numberOf 1 = .ok (.iload_n 1, 1) := by decide +kernel
theorem dX12_numberOf_2 : decode cX12_numberOf 2 = .ok (.invokevirtual 340, 3) := by decide +kernel
theorem dX12_numberOf_5 : decode cX12_numberOf 5 = .ok (.pop, 1) := by decide +kernel
theorem dX12_numberOf_6 : decode cX12_numberOf 6 = .ok (.aload_n 0, 1) := by decide +kernel
theorem dX12_numberOf_7 : decode cX12_numberOf 7 = .ok (.invokevirtual 296, 3) := by decide +kernel
theorem dX12_numberOf_10 : decode cX12_numberOf 10 = .ok (.ireturn, 1) := by decide +kernel
set_option maxRecDepth 100000 in
def F_X12_numberOf_b0 (v0 : Nat) (v1 : Int32) (h : Hp) : Option (Int32 × Hp) :=
  ob2 (F_X12_opens v0 v1 h) fun r2 h3 => gd (decide (kd h v0 = 11)) <| ob (F_X12_told v0 h3) fun r6 => gd (decide (kd h3 v0 = 11)) <| some (r6, h3)
set_option maxHeartbeats 4000000 in
set_option maxRecDepth 100000 in
theorem r_X12_numberOf_b0 (v0 : Nat) (v1 : Int32) (h : Hp) {x : Cx} {r : Int32} {hz : Hp} (e : F_X12_numberOf_b0 v0 v1 h = some (r, hz)) (hF : Fin9 M_X12_numberOf x (some .int) (some (.int r)) hz) : V M_X12_numberOf x 4 0 [(0, .ref v0), (1, .int v1)] [] h 0 0 := by
  unfold F_X12_numberOf_b0 at e
  refine V_aload_n (pc := 0) (i := 0) dX12_numberOf_0 rfl rfl ?_
  refine V_iload_n (pc := 1) (i := 1) dX12_numberOf_1 rfl rfl ?_
  obtain ⟨r2, h3, g1, e⟩ := ob2_some e
  obtain ⟨g4, e⟩ := gd_some e
  refine V_callV (pc := 2) (bc := 0) (bs := 0) (mc := 0) (ms := 0) (st := []) (As := [.int v1]) (a := v0) (h' := h3) (r := some (.int r2)) dX12_numberOf_2 ml_X12_340 (ci := 11) rfl (of_decide_eq_true g4) rfl rfl (Nat.le_of_ble_eq_true rfl) (d' := 3) (by decide) (c_X12_opens (l := x.2.1) v0 v1 h g1) ?_
  refine V_pop (pc := 5) dX12_numberOf_5 rfl ?_
  refine V_aload_n (pc := 6) (i := 0) dX12_numberOf_6 rfl rfl ?_
  obtain ⟨r6, g5, e⟩ := ob_some e
  obtain ⟨g7, e⟩ := gd_some e
  refine V_callV (pc := 7) (bc := 0) (bs := 0) (mc := 0) (ms := 0) (st := []) (As := []) (a := v0) (h' := h3) (r := some (.int r6)) dX12_numberOf_7 ml_X12_296 (ci := 11) rfl (of_decide_eq_true g7) rfl rfl (Nat.le_of_ble_eq_true rfl) (d' := 1) (by decide) (c_X12_told (l := x.2.1) v0 h3 g5) ?_
  cases e
  exact V_iret (pc := 10) dX12_numberOf_10 hF
def F_X12_numberOf (v0 : Nat) (v1 : Int32) (h : Hp) : Option (Int32 × Hp) := F_X12_numberOf_b0 v0 v1 h
theorem c_X12_numberOf {l : Launch} (v0 : Nat) (v1 : Int32) (h : Hp) {r : Int32} {hz : Hp} (e : F_X12_numberOf v0 v1 h = some (r, hz)) : Ct l yX12_numberOf M_X12_numberOf (some .int) 4 [.ref v0, .int v1] h 0 0 (some (.int r)) hz :=
  Ct_of rfl rfl (fun q => by cases q) (Nat.le_of_ble_eq_true rfl) (fun x _ hF => V_pick [0, 1] rfl (r_X12_numberOf_b0 v0 v1 h e hF))
theorem dX12_seats_0 : decode cX12_seats 0 = .ok (.aload_n 0, 1) := by decide +kernel
theorem dX12_seats_1 : decode cX12_seats 1 = .ok (.iconst 0, 1) := by decide +kernel
theorem dX12_seats_2 : decode cX12_seats 2 = .ok (.putfield 3, 3) := by decide +kernel
theorem dX12_seats_5 : decode cX12_seats 5 = .ok (.aload_n 0, 1) := by decide +kernel
theorem dX12_seats_6 : decode cX12_seats 6 = .ok (.iload_n 1, 1) := by decide +kernel
theorem dX12_seats_7 : decode cX12_seats 7 = .ok (.iconst 0, 1) := by decide +kernel
theorem dX12_seats_8 : decode cX12_seats 8 = .ok (.iconst 2, 1) := by decide +kernel
theorem dX12_seats_9 : decode cX12_seats 9 = .ok (.invokestatic 64, 3) := by decide +kernel
theorem dX12_seats_12 : decode cX12_seats 12 = .ok (.ifCond .ne 7, 3) := by decide +kernel
theorem dX12_seats_15 : decode cX12_seats 15 = .ok (.iconst 1, 1) := by decide +kernel
theorem dX12_seats_16 : decode cX12_seats 16 = .ok (.goto 4, 3) := by decide +kernel
theorem dX12_seats_19 : decode cX12_seats 19 = .ok (.iconst 0, 1) := by decide +kernel
theorem dX12_seats_20 : decode cX12_seats 20 = .ok (.iconst 1, 1) := by decide +kernel
theorem dX12_seats_21 : decode cX12_seats 21 = .ok (.invokevirtual 240, 3) := by decide +kernel
theorem dX12_seats_24 : decode cX12_seats 24 = .ok (.ifCond .eq 5, 3) := by decide +kernel
theorem dX12_seats_27 : decode cX12_seats 27 = .ok (.iconst 0, 1) := by decide +kernel
theorem dX12_seats_28 : decode cX12_seats 28 = .ok (.ireturn, 1) := by decide +kernel
theorem dX12_seats_29 : decode cX12_seats 29 = .ok (.aload_n 0, 1) := by decide +kernel
theorem dX12_seats_30 : decode cX12_seats 30 = .ok (.invokevirtual 352, 3) := by decide +kernel
theorem dX12_seats_33 : decode cX12_seats 33 = .ok (.aload_n 0, 1) := by decide +kernel
theorem dX12_seats_34 : decode cX12_seats 34 = .ok (.invokevirtual 355, 3) := by decide +kernel
theorem dX12_seats_37 : decode cX12_seats 37 = .ok (.iload_n 1, 1) := by decide +kernel
theorem dX12_seats_38 : decode cX12_seats 38 = .ok (.iconst 2, 1) := by decide +kernel
theorem dX12_seats_39 : decode cX12_seats 39 = .ok (.if_icmp .ne 10, 3) := by decide +kernel
theorem dX12_seats_42 : decode cX12_seats 42 = .ok (.aload_n 0, 1) := by decide +kernel
theorem dX12_seats_43 : decode cX12_seats 43 = .ok (.getfield 349, 3) := by decide +kernel
theorem dX12_seats_46 : decode cX12_seats 46 = .ok (.goto 34, 3) := by decide +kernel
theorem dX12_seats_49 : decode cX12_seats 49 = .ok (.iload_n 1, 1) := by decide +kernel
theorem dX12_seats_50 : decode cX12_seats 50 = .ok (.iconst 1, 1) := by decide +kernel
theorem dX12_seats_51 : decode cX12_seats 51 = .ok (.if_icmp .ne 10, 3) := by decide +kernel
theorem dX12_seats_54 : decode cX12_seats 54 = .ok (.aload_n 0, 1) := by decide +kernel
theorem dX12_seats_55 : decode cX12_seats 55 = .ok (.getfield 346, 3) := by decide +kernel
theorem dX12_seats_58 : decode cX12_seats 58 = .ok (.goto 22, 3) := by decide +kernel
theorem dX12_seats_61 : decode cX12_seats 61 = .ok (.aload_n 0, 1) := by decide +kernel
theorem dX12_seats_62 : decode cX12_seats 62 = .ok (.getfield 343, 3) := by decide +kernel
theorem dX12_seats_65 : decode cX12_seats 65 = .ok (.ifCond .ge 7, 3) := by decide +kernel
theorem dX12_seats_68 : decode cX12_seats 68 = .ok (.iconst (-1), 1) := by decide +kernel
theorem dX12_seats_69 : decode cX12_seats 69 = .ok (.goto 11, 3) := by decide +kernel
theorem dX12_seats_72 : decode cX12_seats 72 = .ok (.aload_n 0, 1) := by decide +kernel
theorem dX12_seats_73 : decode cX12_seats 73 = .ok (.aload_n 0, 1) := by decide +kernel
theorem dX12_seats_74 : decode cX12_seats 74 = .ok (.getfield 343, 3) := by decide +kernel
theorem dX12_seats_77 : decode cX12_seats 77 = .ok (.invokevirtual 358, 3) := by decide +kernel
theorem dX12_seats_80 : decode cX12_seats 80 = .ok (.ireturn, 1) := by decide +kernel
set_option maxRecDepth 100000 in
def F_X12_seats_b80 (t0 : Int32) (h : Hp) : Option (Int32 × Hp) :=
  some (t0, h)
set_option maxHeartbeats 4000000 in
set_option maxRecDepth 100000 in
theorem r_X12_seats_b80 (t0 : Int32) (h : Hp) {x : Cx} {r : Int32} {hz : Hp} (e : F_X12_seats_b80 t0 h = some (r, hz)) (hF : Fin9 M_X12_seats x (some .int) (some (.int r)) hz) : V M_X12_seats x 7 80 [] [.int t0] h 0 0 := by
  unfold F_X12_seats_b80 at e
  cases e
  exact V_iret (pc := 80) dX12_seats_80 hF
set_option maxRecDepth 100000 in
def F_X12_seats_b20 (v0 : Nat) (v1 : Int32) (t0 : Nat) (t1 : Int32) (h : Hp) : Option (Int32 × Hp) :=
  ob2 (F_X12_throwsIf t0 t1 (1 : Int32) h) fun r5 h6 => gd (decide (kd h t0 = 11)) <| (if r5 = 0 then ob2 (F_X12_laysAll v0 h6) fun _ h10 => gd (decide (kd h6 v0 = 11)) <| ob2 (F_X12_findsSeats v0 h10) fun _ h14 => gd (decide (kd h10 v0 = 11)) <| (if v1 = (2 : Int32) then gd (decide (kd h14 v0 = 11)) <| F_X12_seats_b80 (zI h14 v0 25) h14 else (if v1 = (1 : Int32) then gd (decide (kd h14 v0 = 11)) <| F_X12_seats_b80 (zI h14 v0 24) h14 else gd (decide (kd h14 v0 = 11)) <| (if 0 ≤ (zI h14 v0 23) then ob2 (F_X12_numberOf v0 (zI h14 v0 23) h14) fun r18 h19 => F_X12_seats_b80 r18 h19 else F_X12_seats_b80 (-1 : Int32) h14))) else some ((0 : Int32), h6))
set_option maxHeartbeats 4000000 in
set_option maxRecDepth 100000 in
theorem r_X12_seats_b20 (v0 : Nat) (v1 : Int32) (t0 : Nat) (t1 : Int32) (h : Hp) {x : Cx} {r : Int32} {hz : Hp} (e : F_X12_seats_b20 v0 v1 t0 t1 h = some (r, hz)) (hF : Fin9 M_X12_seats x (some .int) (some (.int r)) hz) : V M_X12_seats x 7 20 [(0, .ref v0), (1, .int v1)] [.int t1, .ref t0] h 0 0 := by
  unfold F_X12_seats_b20 at e
  refine V_iconst (pc := 20) (v := (1 : Int32)) dX12_seats_20 (by decide) ?_
  obtain ⟨r5, h6, g4, e⟩ := ob2_some e
  obtain ⟨g7, e⟩ := gd_some e
  refine V_callV (pc := 21) (bc := 0) (bs := 0) (mc := 0) (ms := 0) (st := []) (As := [.int t1, .int (1 : Int32)]) (a := t0) (h' := h6) (r := some (.int r5)) dX12_seats_21 ml_X12_240 (ci := 11) rfl (of_decide_eq_true g7) rfl rfl (Nat.le_of_ble_eq_true rfl) (d' := 0) (by decide) (c_X12_throwsIf (l := x.2.1) t0 t1 (1 : Int32) h g4) ?_
  refine V_if_eq (pc := 24) (tgt := 29) dX12_seats_24 (by decide) (fun c25 => ?_) (fun c25 => ?_)
  · rw [if_pos c25] at e
    refine V_pick [0, 1] rfl ?_
    refine V_aload_n (pc := 29) (i := 0) dX12_seats_29 rfl rfl ?_
    obtain ⟨r9, h10, g8, e⟩ := ob2_some e
    obtain ⟨g11, e⟩ := gd_some e
    refine V_callV (pc := 30) (bc := 0) (bs := 0) (mc := 0) (ms := 0) (st := []) (As := []) (a := v0) (h' := h10) (r := none) dX12_seats_30 ml_X12_352 (ci := 11) rfl (of_decide_eq_true g11) rfl rfl (Nat.le_of_ble_eq_true rfl) (d' := 6) (by decide) (c_X12_laysAll (l := x.2.1) v0 h6 g8) ?_
    refine V_aload_n (pc := 33) (i := 0) dX12_seats_33 rfl rfl ?_
    obtain ⟨r13, h14, g12, e⟩ := ob2_some e
    obtain ⟨g15, e⟩ := gd_some e
    refine V_callV (pc := 34) (bc := 0) (bs := 0) (mc := 0) (ms := 0) (st := []) (As := []) (a := v0) (h' := h14) (r := none) dX12_seats_34 ml_X12_355 (ci := 11) rfl (of_decide_eq_true g15) rfl rfl (Nat.le_of_ble_eq_true rfl) (d' := 6) (by decide) (c_X12_findsSeats (l := x.2.1) v0 h10 g12) ?_
    refine V_iload_n (pc := 37) (i := 1) dX12_seats_37 rfl rfl ?_
    refine V_iconst (pc := 38) (v := (2 : Int32)) dX12_seats_38 (by decide) ?_
    refine V_icmp_ne (pc := 39) (tgt := 49) dX12_seats_39 (by decide) (fun c24 => ?_) (fun c24 => ?_)
    · rw [if_neg c24] at e
      refine V_pick [0, 1] rfl ?_
      refine V_iload_n (pc := 49) (i := 1) dX12_seats_49 rfl rfl ?_
      refine V_iconst (pc := 50) (v := (1 : Int32)) dX12_seats_50 (by decide) ?_
      refine V_icmp_ne (pc := 51) (tgt := 61) dX12_seats_51 (by decide) (fun c22 => ?_) (fun c22 => ?_)
      · rw [if_neg c22] at e
        refine V_pick [0] rfl ?_
        refine V_aload_n (pc := 61) (i := 0) dX12_seats_61 rfl rfl ?_
        obtain ⟨g16, e⟩ := gd_some e
        refine V_getI (pc := 62) (ci := 11) (k := 23) dX12_seats_62 fl_X12_343 rfl (of_decide_eq_true g16) ?_
        refine V_if_ge (pc := 65) (tgt := 72) dX12_seats_65 (by decide) (fun c20 => ?_) (fun c20 => ?_)
        · rw [if_pos c20] at e
          refine V_pick [0] rfl ?_
          refine V_aload_n (pc := 72) (i := 0) dX12_seats_72 rfl rfl ?_
          refine V_aload_n (pc := 73) (i := 0) dX12_seats_73 rfl rfl ?_
          refine V_getI (pc := 74) (ci := 11) (k := 23) dX12_seats_74 fl_X12_343 rfl (of_decide_eq_true g16) ?_
          obtain ⟨r18, h19, g17, e⟩ := ob2_some e
          refine V_callV (pc := 77) (bc := 0) (bs := 0) (mc := 0) (ms := 0) (st := []) (As := [.int (zI h14 v0 23)]) (a := v0) (h' := h19) (r := some (.int r18)) dX12_seats_77 ml_X12_358 (ci := 11) rfl (of_decide_eq_true g16) rfl rfl (Nat.le_of_ble_eq_true rfl) (d' := 4) (by decide) (c_X12_numberOf (l := x.2.1) v0 (zI h14 v0 23) h14 g17) ?_
          exact V_pick [] rfl (r_X12_seats_b80 r18 h19 e hF)
        · rw [if_neg c20] at e
          refine V_pick [] rfl ?_
          refine V_iconst (pc := 68) (v := (-1 : Int32)) dX12_seats_68 (by decide) ?_
          refine V_goto (pc := 69) (tgt := 80) dX12_seats_69 (by decide) ?_
          exact V_pick [] rfl (r_X12_seats_b80 (-1 : Int32) h14 e hF)
      · rw [if_pos c22] at e
        refine V_pick [0] rfl ?_
        refine V_aload_n (pc := 54) (i := 0) dX12_seats_54 rfl rfl ?_
        obtain ⟨g21, e⟩ := gd_some e
        refine V_getI (pc := 55) (ci := 11) (k := 24) dX12_seats_55 fl_X12_346 rfl (of_decide_eq_true g21) ?_
        refine V_goto (pc := 58) (tgt := 80) dX12_seats_58 (by decide) ?_
        exact V_pick [] rfl (r_X12_seats_b80 (zI h14 v0 24) h14 e hF)
    · rw [if_pos c24] at e
      refine V_pick [0] rfl ?_
      refine V_aload_n (pc := 42) (i := 0) dX12_seats_42 rfl rfl ?_
      obtain ⟨g23, e⟩ := gd_some e
      refine V_getI (pc := 43) (ci := 11) (k := 25) dX12_seats_43 fl_X12_349 rfl (of_decide_eq_true g23) ?_
      refine V_goto (pc := 46) (tgt := 80) dX12_seats_46 (by decide) ?_
      exact V_pick [] rfl (r_X12_seats_b80 (zI h14 v0 25) h14 e hF)
  · rw [if_neg c25] at e
    refine V_pick [] rfl ?_
    refine V_iconst (pc := 27) (v := (0 : Int32)) dX12_seats_27 (by decide) ?_
    cases e
    exact V_iret (pc := 28) dX12_seats_28 hF
set_option maxRecDepth 100000 in
def F_X12_seats_b0 (v0 : Nat) (v1 : Int32) (h : Hp) : Option (Int32 × Hp) :=
  gd (decide (kd h v0 = 11)) <| ob (F_X12_in v1 (0 : Int32) (2 : Int32) (setI h v0 0 (0 : Int32))) fun r3 => (if r3 = 0 then F_X12_seats_b20 v0 v1 v0 (1 : Int32) (setI h v0 0 (0 : Int32)) else F_X12_seats_b20 v0 v1 v0 (0 : Int32) (setI h v0 0 (0 : Int32)))
set_option maxHeartbeats 4000000 in
set_option maxRecDepth 100000 in
theorem r_X12_seats_b0 (v0 : Nat) (v1 : Int32) (h : Hp) {x : Cx} {r : Int32} {hz : Hp} (e : F_X12_seats_b0 v0 v1 h = some (r, hz)) (hF : Fin9 M_X12_seats x (some .int) (some (.int r)) hz) : V M_X12_seats x 7 0 [(0, .ref v0), (1, .int v1)] [] h 0 0 := by
  unfold F_X12_seats_b0 at e
  refine V_aload_n (pc := 0) (i := 0) dX12_seats_0 rfl rfl ?_
  refine V_iconst (pc := 1) (v := (0 : Int32)) dX12_seats_1 (by decide) ?_
  obtain ⟨g1, e⟩ := gd_some e
  refine V_putI (pc := 2) (ci := 11) (k := 0) dX12_seats_2 fp_X12_3 rfl (of_decide_eq_true g1) ?_
  refine V_aload_n (pc := 5) (i := 0) dX12_seats_5 rfl rfl ?_
  refine V_iload_n (pc := 6) (i := 1) dX12_seats_6 rfl rfl ?_
  refine V_iconst (pc := 7) (v := (0 : Int32)) dX12_seats_7 (by decide) ?_
  refine V_iconst (pc := 8) (v := (2 : Int32)) dX12_seats_8 (by decide) ?_
  obtain ⟨r3, g2, e⟩ := ob_some e
  refine V_callS (pc := 9) (bc := 0) (bs := 0) (mc := 0) (ms := 0) (st := [.ref v0]) (As := [.int v1, .int (0 : Int32), .int (2 : Int32)]) (h' := (setI h v0 0 (0 : Int32))) (r := some (.int r3)) dX12_seats_9 ml_X12_64 rfl rfl (Nat.le_of_ble_eq_true rfl) (d' := 0) (by decide) (c_X12_in (l := x.2.1) v1 (0 : Int32) (2 : Int32) (setI h v0 0 (0 : Int32)) g2) ?_
  refine V_if_ne (pc := 12) (tgt := 19) dX12_seats_12 (by decide) (fun c26 => ?_) (fun c26 => ?_)
  · rw [if_neg c26] at e
    refine V_pick [0, 1] rfl ?_
    refine V_iconst (pc := 19) (v := (0 : Int32)) dX12_seats_19 (by decide) ?_
    exact V_pick [0, 1] rfl (r_X12_seats_b20 v0 v1 v0 (0 : Int32) (setI h v0 0 (0 : Int32)) e hF)
  · rw [if_pos c26] at e
    refine V_pick [0, 1] rfl ?_
    refine V_iconst (pc := 15) (v := (1 : Int32)) dX12_seats_15 (by decide) ?_
    refine V_goto (pc := 16) (tgt := 20) dX12_seats_16 (by decide) ?_
    exact V_pick [0, 1] rfl (r_X12_seats_b20 v0 v1 v0 (1 : Int32) (setI h v0 0 (0 : Int32)) e hF)
def F_X12_seats (v0 : Nat) (v1 : Int32) (h : Hp) : Option (Int32 × Hp) := F_X12_seats_b0 v0 v1 h
theorem c_X12_seats {l : Launch} (v0 : Nat) (v1 : Int32) (h : Hp) {r : Int32} {hz : Hp} (e : F_X12_seats v0 v1 h = some (r, hz)) : Ct l yX12_seats M_X12_seats (some .int) 7 [.ref v0, .int v1] h 0 0 (some (.int r)) hz :=
  Ct_of rfl rfl (fun q => by cases q) (Nat.le_of_ble_eq_true rfl) (fun x _ hF => V_pick [0, 1] rfl (r_X12_seats_b0 v0 v1 h e hF))
theorem dX12_bells_0 : decode cX12_bells 0 = .ok (.aload_n 0, 1) := by decide +kernel
theorem dX12_bells_1 : decode cX12_bells 1 = .ok (.iconst 0, 1) := by decide +kernel
theorem dX12_bells_2 : decode cX12_bells 2 = .ok (.putfield 3, 3) := by decide +kernel
theorem dX12_bells_5 : decode cX12_bells 5 = .ok (.iload_n 1, 1) := by decide +kernel
theorem dX12_bells_6 : decode cX12_bells 6 = .ok (.iconst (-1), 1) := by decide +kernel
theorem dX12_bells_7 : decode cX12_bells 7 = .ok (.if_icmp .ne 7, 3) := by decide +kernel
theorem dX12_bells_10 : decode cX12_bells 10 = .ok (.iconst (-1), 1) := by decide +kernel
theorem dX12_bells_11 : decode cX12_bells 11 = .ok (.goto 8, 3) := by decide +kernel
theorem dX12_bells_14 : decode cX12_bells 14 = .ok (.aload_n 0, 1) := by decide +kernel
theorem dX12_bells_15 : decode cX12_bells 15 = .ok (.iload_n 1, 1) := by decide +kernel
theorem dX12_bells_16 : decode cX12_bells 16 = .ok (.invokevirtual 364, 3) := by decide +kernel
theorem dX12_bells_19 : decode cX12_bells 19 = .ok (.istore_n 3, 1) := by decide +kernel
theorem dX12_bells_20 : decode cX12_bells 20 = .ok (.aload_n 0, 1) := by decide +kernel
theorem dX12_bells_21 : decode cX12_bells 21 = .ok (.iload_n 1, 1) := by decide +kernel
theorem dX12_bells_22 : decode cX12_bells 22 = .ok (.iconst (-1), 1) := by decide +kernel
theorem dX12_bells_23 : decode cX12_bells 23 = .ok (.if_icmp .eq 7, 3) := by decide +kernel
theorem dX12_bells_26 : decode cX12_bells 26 = .ok (.iload_n 3, 1) := by decide +kernel
theorem dX12_bells_27 : decode cX12_bells 27 = .ok (.ifCond .lt 8, 3) := by decide +kernel
theorem dX12_bells_30 : decode cX12_bells 30 = .ok (.iload_n 2, 1) := by decide +kernel
theorem dX12_bells_31 : decode cX12_bells 31 = .ok (.iconst (-1), 1) := by decide +kernel
theorem dX12_bells_32 : decode cX12_bells 32 = .ok (.if_icmp .ge 7, 3) := by decide +kernel
theorem dX12_bells_35 : decode cX12_bells 35 = .ok (.iconst 1, 1) := by decide +kernel
theorem dX12_bells_36 : decode cX12_bells 36 = .ok (.goto 4, 3) := by decide +kernel
theorem dX12_bells_39 : decode cX12_bells 39 = .ok (.iconst 0, 1) := by decide +kernel
theorem dX12_bells_40 : decode cX12_bells 40 = .ok (.iconst 1, 1) := by decide +kernel
theorem dX12_bells_41 : decode cX12_bells 41 = .ok (.invokevirtual 240, 3) := by decide +kernel
theorem dX12_bells_44 : decode cX12_bells 44 = .ok (.ifCond .eq 5, 3) := by decide +kernel
theorem dX12_bells_47 : decode cX12_bells 47 = .ok (.iconst 0, 1) := by decide +kernel
theorem dX12_bells_48 : decode cX12_bells 48 = .ok (.ireturn, 1) := by decide +kernel
theorem dX12_bells_49 : decode cX12_bells 49 = .ok (.aload_n 0, 1) := by decide +kernel
theorem dX12_bells_50 : decode cX12_bells 50 = .ok (.invokevirtual 352, 3) := by decide +kernel
theorem dX12_bells_53 : decode cX12_bells 53 = .ok (.iload_n 1, 1) := by decide +kernel
theorem dX12_bells_54 : decode cX12_bells 54 = .ok (.iconst (-1), 1) := by decide +kernel
theorem dX12_bells_55 : decode cX12_bells 55 = .ok (.if_icmp .ne 12, 3) := by decide +kernel
theorem dX12_bells_58 : decode cX12_bells 58 = .ok (.aload_n 0, 1) := by decide +kernel
theorem dX12_bells_59 : decode cX12_bells 59 = .ok (.invokevirtual 355, 3) := by decide +kernel
theorem dX12_bells_62 : decode cX12_bells 62 = .ok (.aload_n 0, 1) := by decide +kernel
theorem dX12_bells_63 : decode cX12_bells 63 = .ok (.getfield 343, 3) := by decide +kernel
theorem dX12_bells_66 : decode cX12_bells 66 = .ok (.istore_n 3, 1) := by decide +kernel
theorem dX12_bells_67 : decode cX12_bells 67 = .ok (.iload_n 3, 1) := by decide +kernel
theorem dX12_bells_68 : decode cX12_bells 68 = .ok (.ifCond .ge 5, 3) := by decide +kernel
theorem dX12_bells_71 : decode cX12_bells 71 = .ok (.iconst (-1), 1) := by decide +kernel
theorem dX12_bells_72 : decode cX12_bells 72 = .ok (.ireturn, 1) := by decide +kernel
theorem dX12_bells_73 : decode cX12_bells 73 = .ok (.aload_n 0, 1) := by decide +kernel
theorem dX12_bells_74 : decode cX12_bells 74 = .ok (.iload_n 3, 1) := by decide +kernel
theorem dX12_bells_75 : decode cX12_bells 75 = .ok (.invokevirtual 367, 3) := by decide +kernel
theorem dX12_bells_78 : decode cX12_bells 78 = .ok (.aload_n 0, 1) := by decide +kernel
theorem dX12_bells_79 : decode cX12_bells 79 = .ok (.invokevirtual 371, 3) := by decide +kernel
theorem dX12_bells_82 : decode cX12_bells 82 = .ok (.istore 4, 2) := by decide +kernel
theorem dX12_bells_84 : decode cX12_bells 84 = .ok (.aload_n 0, 1) := by decide +kernel
theorem dX12_bells_85 : decode cX12_bells 85 = .ok (.iload 4, 2) := by decide +kernel
theorem dX12_bells_87 : decode cX12_bells 87 = .ok (.iload_n 3, 1) := by decide +kernel
theorem dX12_bells_88 : decode cX12_bells 88 = .ok (.invokevirtual 374, 3) := by decide +kernel
theorem dX12_bells_91 : decode cX12_bells 91 = .ok (.istore 5, 2) := by decide +kernel
theorem dX12_bells_93 : decode cX12_bells 93 = .ok (.iload 5, 2) := by decide +kernel
theorem dX12_bells_95 : decode cX12_bells 95 = .ok (.ifCond .lt 14, 3) := by decide +kernel
theorem dX12_bells_98 : decode cX12_bells 98 = .ok (.iload_n 2, 1) := by decide +kernel
theorem dX12_bells_99 : decode cX12_bells 99 = .ok (.iconst (-1), 1) := by decide +kernel
theorem dX12_bells_100 : decode cX12_bells 100 = .ok (.if_icmp .eq 9, 3) := by decide +kernel
theorem dX12_bells_103 : decode cX12_bells 103 = .ok (.iload_n 2, 1) := by decide +kernel
theorem dX12_bells_104 : decode cX12_bells 104 = .ok (.iload 5, 2) := by decide +kernel
theorem dX12_bells_106 : decode cX12_bells 106 = .ok (.if_icmp .lt 15, 3) := by decide +kernel
theorem dX12_bells_109 : decode cX12_bells 109 = .ok (.iload_n 2, 1) := by decide +kernel
theorem dX12_bells_110 : decode cX12_bells 110 = .ok (.iconst (-1), 1) := by decide +kernel
theorem dX12_bells_111 : decode cX12_bells 111 = .ok (.if_icmp .ne 8, 3) := by decide +kernel
theorem dX12_bells_114 : decode cX12_bells 114 = .ok (.iload 5, 2) := by decide +kernel
theorem dX12_bells_116 : decode cX12_bells 116 = .ok (.goto 4, 3) := by decide +kernel
theorem dX12_bells_119 : decode cX12_bells 119 = .ok (.iconst (-1), 1) := by decide +kernel
theorem dX12_bells_120 : decode cX12_bells 120 = .ok (.ireturn, 1) := by decide +kernel
theorem dX12_bells_121 : decode cX12_bells 121 = .ok (.iconst (-1), 1) := by decide +kernel
theorem dX12_bells_122 : decode cX12_bells 122 = .ok (.istore 6, 2) := by decide +kernel
theorem dX12_bells_124 : decode cX12_bells 124 = .ok (.iconst 0, 1) := by decide +kernel
theorem dX12_bells_125 : decode cX12_bells 125 = .ok (.istore 7, 2) := by decide +kernel
theorem dX12_bells_127 : decode cX12_bells 127 = .ok (.iload 7, 2) := by decide +kernel
theorem dX12_bells_129 : decode cX12_bells 129 = .ok (.iload_n 2, 1) := by decide +kernel
theorem dX12_bells_130 : decode cX12_bells 130 = .ok (.if_icmp .gt 42, 3) := by decide +kernel
theorem dX12_bells_133 : decode cX12_bells 133 = .ok (.aload_n 0, 1) := by decide +kernel
theorem dX12_bells_134 : decode cX12_bells 134 = .ok (.iload 4, 2) := by decide +kernel
theorem dX12_bells_136 : decode cX12_bells 136 = .ok (.iload 5, 2) := by decide +kernel
theorem dX12_bells_138 : decode cX12_bells 138 = .ok (.iload 7, 2) := by decide +kernel
theorem dX12_bells_140 : decode cX12_bells 140 = .ok (.isub, 1) := by decide +kernel
theorem dX12_bells_141 : decode cX12_bells 141 = .ok (.iconst 1, 1) := by decide +kernel
theorem dX12_bells_142 : decode cX12_bells 142 = .ok (.isub, 1) := by decide +kernel
theorem dX12_bells_143 : decode cX12_bells 143 = .ok (.invokevirtual 377, 3) := by decide +kernel
theorem dX12_bells_146 : decode cX12_bells 146 = .ok (.istore 6, 2) := by decide +kernel
theorem dX12_bells_148 : decode cX12_bells 148 = .ok (.aload_n 0, 1) := by decide +kernel
theorem dX12_bells_149 : decode cX12_bells 149 = .ok (.iload 4, 2) := by decide +kernel
theorem dX12_bells_151 : decode cX12_bells 151 = .ok (.iload 6, 2) := by decide +kernel
theorem dX12_bells_153 : decode cX12_bells 153 = .ok (.bipush 8, 2) := by decide +kernel
theorem dX12_bells_155 : decode cX12_bells 155 = .ok (.idiv, 1) := by decide +kernel
theorem dX12_bells_156 : decode cX12_bells 156 = .ok (.iload 6, 2) := by decide +kernel
theorem dX12_bells_158 : decode cX12_bells 158 = .ok (.bipush 8, 2) := by decide +kernel
theorem dX12_bells_160 : decode cX12_bells 160 = .ok (.irem, 1) := by decide +kernel
theorem dX12_bells_161 : decode cX12_bells 161 = .ok (.invokevirtual 361, 3) := by decide +kernel
theorem dX12_bells_164 : decode cX12_bells 164 = .ok (.istore 4, 2) := by decide +kernel
theorem dX12_bells_166 : decode cX12_bells 166 = .ok (.iinc 7 1, 3) := by decide +kernel
theorem dX12_bells_169 : decode cX12_bells 169 = .ok (.goto (-42), 3) := by decide +kernel
theorem dX12_bells_172 : decode cX12_bells 172 = .ok (.iload 6, 2) := by decide +kernel
theorem dX12_bells_174 : decode cX12_bells 174 = .ok (.ireturn, 1) := by decide +kernel
set_option maxRecDepth 100000 in
def F_X12_bells_b120 (t0 : Int32) (h : Hp) : Option (Int32 × Hp) :=
  some (t0, h)
set_option maxHeartbeats 4000000 in
set_option maxRecDepth 100000 in
theorem r_X12_bells_b120 (t0 : Int32) (h : Hp) {x : Cx} {r : Int32} {hz : Hp} (e : F_X12_bells_b120 t0 h = some (r, hz)) (hF : Fin9 M_X12_bells x (some .int) (some (.int r)) hz) : V M_X12_bells x 7 120 [] [.int t0] h 0 0 := by
  unfold F_X12_bells_b120 at e
  cases e
  exact V_iret (pc := 120) dX12_bells_120 hF
set_option maxRecDepth 100000 in
def F_X12_bells_b109 (v2 : Int32) (v5 : Int32) (h : Hp) : Option (Int32 × Hp) :=
  (if v2 = (-1 : Int32) then F_X12_bells_b120 v5 h else F_X12_bells_b120 (-1 : Int32) h)
set_option maxHeartbeats 4000000 in
set_option maxRecDepth 100000 in
theorem r_X12_bells_b109 (v2 : Int32) (v5 : Int32) (h : Hp) {x : Cx} {r : Int32} {hz : Hp} (e : F_X12_bells_b109 v2 v5 h = some (r, hz)) (hF : Fin9 M_X12_bells x (some .int) (some (.int r)) hz) : V M_X12_bells x 7 109 [(2, .int v2), (5, .int v5)] [] h 0 0 := by
  unfold F_X12_bells_b109 at e
  refine V_iload_n (pc := 109) (i := 2) dX12_bells_109 rfl rfl ?_
  refine V_iconst (pc := 110) (v := (-1 : Int32)) dX12_bells_110 (by decide) ?_
  refine V_icmp_ne (pc := 111) (tgt := 119) dX12_bells_111 (by decide) (fun c24 => ?_) (fun c24 => ?_)
  · rw [if_neg c24] at e
    refine V_pick [] rfl ?_
    refine V_iconst (pc := 119) (v := (-1 : Int32)) dX12_bells_119 (by decide) ?_
    exact V_pick [] rfl (r_X12_bells_b120 (-1 : Int32) h e hF)
  · rw [if_pos c24] at e
    refine V_pick [1] rfl ?_
    refine V_iload (pc := 114) (i := 5) dX12_bells_114 rfl ?_
    refine V_goto (pc := 116) (tgt := 120) dX12_bells_116 (by decide) ?_
    exact V_pick [] rfl (r_X12_bells_b120 v5 h e hF)
set_option maxRecDepth 100000 in
def F_X12_bells_l127 (v0 : Nat) (v2 : Int32) (v4 : Int32) (v5 : Int32) (v6 : Int32) (v7 : Int32) (h : Hp) : Option ((Int32 × Int32 × Int32) ⊕ Int32) :=
  (if v2 < v7 then some (.inr v6) else ob (F_X12_firstBell v0 v4 ((v5 - v7) - (1 : Int32)) h) fun r26 => gd (decide (kd h v0 = 11)) <| ob (F_X12_sent v0 v4 (r26 / (8 : Int32)) (r26 - r26 / (8 : Int32) * (8 : Int32)) h) fun r29 => some (.inl (r29, r26, v7 + (1 : Int32))))
set_option maxHeartbeats 4000000 in
set_option maxRecDepth 100000 in
theorem r_X12_bells_l127 (v0 : Nat) (v2 : Int32) (v4 : Int32) (v5 : Int32) (v6 : Int32) (v7 : Int32) (h : Hp) {x : Cx} {o : ((Int32 × Int32 × Int32) ⊕ Int32)} (e : F_X12_bells_l127 v0 v2 v4 v5 v6 v7 h = some o) (kI : ∀ z, o = .inl z → V M_X12_bells x 7 127 [(0, .ref v0), (2, .int v2), (4, .int z.1), (5, .int v5), (6, .int z.2.1), (7, .int z.2.2)] [] h 0 0) (kE172 : ∀ z : Int32, o = .inr z → V M_X12_bells x 7 172 [(6, .int z)] [] h 0 0) : V M_X12_bells x 7 127 [(0, .ref v0), (2, .int v2), (4, .int v4), (5, .int v5), (6, .int v6), (7, .int v7)] [] h 0 0 := by
  unfold F_X12_bells_l127 at e
  refine V_iload (pc := 127) (i := 7) dX12_bells_127 rfl ?_
  refine V_iload_n (pc := 129) (i := 2) dX12_bells_129 rfl rfl ?_
  refine V_icmp_gt (pc := 130) (tgt := 172) dX12_bells_130 (by decide) (fun c30 => ?_) (fun c30 => ?_)
  · rw [if_pos c30] at e
    cases e
    exact V_pick [4] rfl (kE172 v6 rfl)
  · rw [if_neg c30] at e
    refine V_pick [0, 1, 2, 3, 5] rfl ?_
    refine V_aload_n (pc := 133) (i := 0) dX12_bells_133 rfl rfl ?_
    refine V_iload (pc := 134) (i := 4) dX12_bells_134 rfl ?_
    refine V_iload (pc := 136) (i := 5) dX12_bells_136 rfl ?_
    refine V_iload (pc := 138) (i := 7) dX12_bells_138 rfl ?_
    refine V_isub (pc := 140) dX12_bells_140 ?_
    refine V_iconst (pc := 141) (v := (1 : Int32)) dX12_bells_141 (by decide) ?_
    refine V_isub (pc := 142) dX12_bells_142 ?_
    obtain ⟨r26, g25, e⟩ := ob_some e
    obtain ⟨g27, e⟩ := gd_some e
    refine V_callV (pc := 143) (bc := 0) (bs := 0) (mc := 0) (ms := 0) (st := []) (As := [.int v4, .int ((v5 - v7) - (1 : Int32))]) (a := v0) (h' := h) (r := some (.int r26)) dX12_bells_143 ml_X12_377 (ci := 11) rfl (of_decide_eq_true g27) rfl rfl (Nat.le_of_ble_eq_true rfl) (d' := 2) (by decide) (c_X12_firstBell (l := x.2.1) v0 v4 ((v5 - v7) - (1 : Int32)) h g25) ?_
    refine V_istore (pc := 146) (i := 6) (lv' := [(6, .int r26), (0, .ref v0), (2, .int v2), (4, .int v4), (5, .int v5), (7, .int v7)]) dX12_bells_146 (by decide) rfl ?_
    refine V_aload_n (pc := 148) (i := 0) dX12_bells_148 rfl rfl ?_
    refine V_iload (pc := 149) (i := 4) dX12_bells_149 rfl ?_
    refine V_iload (pc := 151) (i := 6) dX12_bells_151 rfl ?_
    refine V_bipush (pc := 153) (v := (8 : Int32)) dX12_bells_153 (by decide) ?_
    refine V_idiv (pc := 155) dX12_bells_155 (by decide) ?_
    refine V_iload (pc := 156) (i := 6) dX12_bells_156 rfl ?_
    refine V_bipush (pc := 158) (v := (8 : Int32)) dX12_bells_158 (by decide) ?_
    refine V_irem (pc := 160) dX12_bells_160 (by decide) ?_
    obtain ⟨r29, g28, e⟩ := ob_some e
    refine V_callV (pc := 161) (bc := 0) (bs := 0) (mc := 0) (ms := 0) (st := []) (As := [.int v4, .int (r26 / (8 : Int32)), .int (r26 - r26 / (8 : Int32) * (8 : Int32))]) (a := v0) (h' := h) (r := some (.int r29)) dX12_bells_161 ml_X12_361 (ci := 11) rfl (of_decide_eq_true g27) rfl rfl (Nat.le_of_ble_eq_true rfl) (d' := 1) (by decide) (c_X12_sent (l := x.2.1) v0 v4 (r26 / (8 : Int32)) (r26 - r26 / (8 : Int32) * (8 : Int32)) h g28) ?_
    refine V_istore (pc := 164) (i := 4) (lv' := [(4, .int r29), (6, .int r26), (0, .ref v0), (2, .int v2), (5, .int v5), (7, .int v7)]) dX12_bells_164 (by decide) rfl ?_
    refine V_iinc (pc := 166) (i := 7) (u := v7 + (1 : Int32)) (lv' := [(7, .int (v7 + (1 : Int32))), (4, .int r29), (6, .int r26), (0, .ref v0), (2, .int v2), (5, .int v5)]) dX12_bells_166 rfl rfl (by decide) rfl ?_
    refine V_goto (pc := 169) (tgt := 127) dX12_bells_169 (by decide) ?_
    cases e
    exact V_pick [3, 4, 1, 5, 2, 0] rfl (kI (r29, r26, v7 + (1 : Int32)) rfl)
set_option maxRecDepth 100000 in
def F_X12_bells_b67 (v0 : Nat) (v2 : Int32) (v3 : Int32) (h : Hp) : Option (Int32 × Hp) :=
  (if 0 ≤ v3 then ob2 (F_X12_fars v0 v3 h) fun _ h15 => gd (decide (kd h v0 = 11)) <| ob2 (F_X12_now v0 h15) fun r18 h19 => gd (decide (kd h15 v0 = 11)) <| ob (F_X12_bellsFrom v0 r18 v3 h19) fun r22 => gd (decide (kd h19 v0 = 11)) <| (if r22 < 0 then F_X12_bells_b109 v2 r22 h19 else (if v2 = (-1 : Int32) then F_X12_bells_b109 v2 r22 h19 else (if v2 < r22 then ob (iter (fun z : Int32 × Int32 × Int32 => F_X12_bells_l127 v0 v2 z.1 r22 z.2.1 z.2.2 h19) FU (r18, (-1 : Int32), (0 : Int32))) (fun w31 => some (w31, h19)) else F_X12_bells_b109 v2 r22 h19))) else some ((-1 : Int32), h))
set_option maxHeartbeats 4000000 in
set_option maxRecDepth 100000 in
theorem r_X12_bells_b67 (v0 : Nat) (v2 : Int32) (v3 : Int32) (h : Hp) {x : Cx} {r : Int32} {hz : Hp} (e : F_X12_bells_b67 v0 v2 v3 h = some (r, hz)) (hF : Fin9 M_X12_bells x (some .int) (some (.int r)) hz) : V M_X12_bells x 7 67 [(0, .ref v0), (2, .int v2), (3, .int v3)] [] h 0 0 := by
  unfold F_X12_bells_b67 at e
  refine V_iload_n (pc := 67) (i := 3) dX12_bells_67 rfl rfl ?_
  refine V_if_ge (pc := 68) (tgt := 73) dX12_bells_68 (by decide) (fun c37 => ?_) (fun c37 => ?_)
  · rw [if_pos c37] at e
    refine V_pick [0, 1, 2] rfl ?_
    refine V_aload_n (pc := 73) (i := 0) dX12_bells_73 rfl rfl ?_
    refine V_iload_n (pc := 74) (i := 3) dX12_bells_74 rfl rfl ?_
    obtain ⟨r14, h15, g13, e⟩ := ob2_some e
    obtain ⟨g16, e⟩ := gd_some e
    refine V_callV (pc := 75) (bc := 0) (bs := 0) (mc := 0) (ms := 0) (st := []) (As := [.int v3]) (a := v0) (h' := h15) (r := none) dX12_bells_75 ml_X12_367 (ci := 11) rfl (of_decide_eq_true g16) rfl rfl (Nat.le_of_ble_eq_true rfl) (d' := 2) (by decide) (c_X12_fars (l := x.2.1) v0 v3 h g13) ?_
    refine V_aload_n (pc := 78) (i := 0) dX12_bells_78 rfl rfl ?_
    obtain ⟨r18, h19, g17, e⟩ := ob2_some e
    obtain ⟨g20, e⟩ := gd_some e
    refine V_callV (pc := 79) (bc := 0) (bs := 0) (mc := 0) (ms := 0) (st := []) (As := []) (a := v0) (h' := h19) (r := some (.int r18)) dX12_bells_79 ml_X12_371 (ci := 11) rfl (of_decide_eq_true g20) rfl rfl (Nat.le_of_ble_eq_true rfl) (d' := 2) (by decide) (c_X12_now (l := x.2.1) v0 h15 g17) ?_
    refine V_istore (pc := 82) (i := 4) (lv' := [(4, .int r18), (0, .ref v0), (2, .int v2), (3, .int v3)]) dX12_bells_82 (by decide) rfl ?_
    refine V_aload_n (pc := 84) (i := 0) dX12_bells_84 rfl rfl ?_
    refine V_iload (pc := 85) (i := 4) dX12_bells_85 rfl ?_
    refine V_iload_n (pc := 87) (i := 3) dX12_bells_87 rfl rfl ?_
    obtain ⟨r22, g21, e⟩ := ob_some e
    obtain ⟨g23, e⟩ := gd_some e
    refine V_callV (pc := 88) (bc := 0) (bs := 0) (mc := 0) (ms := 0) (st := []) (As := [.int r18, .int v3]) (a := v0) (h' := h19) (r := some (.int r22)) dX12_bells_88 ml_X12_374 (ci := 11) rfl (of_decide_eq_true g23) rfl rfl (Nat.le_of_ble_eq_true rfl) (d' := 2) (by decide) (c_X12_bellsFrom (l := x.2.1) v0 r18 v3 h19 g21) ?_
    refine V_istore (pc := 91) (i := 5) (lv' := [(5, .int r22), (4, .int r18), (0, .ref v0), (2, .int v2), (3, .int v3)]) dX12_bells_91 (by decide) rfl ?_
    refine V_iload (pc := 93) (i := 5) dX12_bells_93 rfl ?_
    refine V_if_lt (pc := 95) (tgt := 109) dX12_bells_95 (by decide) (fun c36 => ?_) (fun c36 => ?_)
    · rw [if_pos c36] at e
      exact V_pick [3, 0] rfl (r_X12_bells_b109 v2 r22 h19 e hF)
    · rw [if_neg c36] at e
      refine V_pick [2, 3, 1, 0] rfl ?_
      refine V_iload_n (pc := 98) (i := 2) dX12_bells_98 rfl rfl ?_
      refine V_iconst (pc := 99) (v := (-1 : Int32)) dX12_bells_99 (by decide) ?_
      refine V_icmp_eq (pc := 100) (tgt := 109) dX12_bells_100 (by decide) (fun c35 => ?_) (fun c35 => ?_)
      · rw [if_pos c35] at e
        exact V_pick [1, 3] rfl (r_X12_bells_b109 v2 r22 h19 e hF)
      · rw [if_neg c35] at e
        refine V_pick [0, 1, 2, 3] rfl ?_
        refine V_iload_n (pc := 103) (i := 2) dX12_bells_103 rfl rfl ?_
        refine V_iload (pc := 104) (i := 5) dX12_bells_104 rfl ?_
        refine V_icmp_lt (pc := 106) (tgt := 121) dX12_bells_106 (by decide) (fun c34 => ?_) (fun c34 => ?_)
        · rw [if_pos c34] at e
          refine V_pick [0, 1, 2, 3] rfl ?_
          refine V_iconst (pc := 121) (v := (-1 : Int32)) dX12_bells_121 (by decide) ?_
          refine V_istore (pc := 122) (i := 6) (lv' := [(6, .int (-1 : Int32)), (0, .ref v0), (2, .int v2), (4, .int r18), (5, .int r22)]) dX12_bells_122 (by decide) rfl ?_
          refine V_iconst (pc := 124) (v := (0 : Int32)) dX12_bells_124 (by decide) ?_
          refine V_istore (pc := 125) (i := 7) (lv' := [(7, .int (0 : Int32)), (6, .int (-1 : Int32)), (0, .ref v0), (2, .int v2), (4, .int r18), (5, .int r22)]) dX12_bells_125 (by decide) rfl ?_
          refine V_pick [2, 3, 4, 5, 1, 0] rfl ?_
          obtain ⟨y32, g33, e⟩ := ob_some e
          refine iter_V (P := fun z : Int32 × Int32 × Int32 => V M_X12_bells x 7 127 [(0, .ref v0), (2, .int v2), (4, .int z.1), (5, .int r22), (6, .int z.2.1), (7, .int z.2.2)] [] h19 0 0) (E := fun z : Int32 => V M_X12_bells x 7 172 [(6, .int z)] [] h19 0 0) (fun z o e9 k1 k2 => r_X12_bells_l127 v0 v2 z.1 r22 z.2.1 z.2.2 h19 e9 (fun z hz9 => k1 z hz9) (fun z hz9 => k2 _ hz9)) _ _ _ g33 ?_
          clear g33
          obtain ⟨w31, rfl⟩ : ∃ q, q = y32 := ⟨_, rfl⟩
          replace e : (some (w31, h19)) = some (r, hz) := e
          show V M_X12_bells x 7 172 [(6, .int w31)] [] h19 0 0
          refine V_iload (pc := 172) (i := 6) dX12_bells_172 rfl ?_
          cases e
          exact V_iret (pc := 174) dX12_bells_174 hF
        · rw [if_neg c34] at e
          exact V_pick [1, 3] rfl (r_X12_bells_b109 v2 r22 h19 e hF)
  · rw [if_neg c37] at e
    refine V_pick [] rfl ?_
    refine V_iconst (pc := 71) (v := (-1 : Int32)) dX12_bells_71 (by decide) ?_
    cases e
    exact V_iret (pc := 72) dX12_bells_72 hF
set_option maxRecDepth 100000 in
def F_X12_bells_b40 (v0 : Nat) (v1 : Int32) (v2 : Int32) (v3 : Int32) (t0 : Nat) (t1 : Int32) (h : Hp) : Option (Int32 × Hp) :=
  ob2 (F_X12_throwsIf t0 t1 (1 : Int32) h) fun r6 h7 => gd (decide (kd h t0 = 11)) <| (if r6 = 0 then ob2 (F_X12_laysAll v0 h7) fun _ h11 => gd (decide (kd h7 v0 = 11)) <| (if v1 = (-1 : Int32) then ob2 (F_X12_findsSeats v0 h11) fun _ h40 => gd (decide (kd h11 v0 = 11)) <| gd (decide (kd h40 v0 = 11)) <| F_X12_bells_b67 v0 v2 (zI h40 v0 23) h40 else F_X12_bells_b67 v0 v2 v3 h11) else some ((0 : Int32), h7))
set_option maxHeartbeats 4000000 in
set_option maxRecDepth 100000 in
theorem r_X12_bells_b40 (v0 : Nat) (v1 : Int32) (v2 : Int32) (v3 : Int32) (t0 : Nat) (t1 : Int32) (h : Hp) {x : Cx} {r : Int32} {hz : Hp} (e : F_X12_bells_b40 v0 v1 v2 v3 t0 t1 h = some (r, hz)) (hF : Fin9 M_X12_bells x (some .int) (some (.int r)) hz) : V M_X12_bells x 7 40 [(0, .ref v0), (1, .int v1), (2, .int v2), (3, .int v3)] [.int t1, .ref t0] h 0 0 := by
  unfold F_X12_bells_b40 at e
  refine V_iconst (pc := 40) (v := (1 : Int32)) dX12_bells_40 (by decide) ?_
  obtain ⟨r6, h7, g5, e⟩ := ob2_some e
  obtain ⟨g8, e⟩ := gd_some e
  refine V_callV (pc := 41) (bc := 0) (bs := 0) (mc := 0) (ms := 0) (st := []) (As := [.int t1, .int (1 : Int32)]) (a := t0) (h' := h7) (r := some (.int r6)) dX12_bells_41 ml_X12_240 (ci := 11) rfl (of_decide_eq_true g8) rfl rfl (Nat.le_of_ble_eq_true rfl) (d' := 0) (by decide) (c_X12_throwsIf (l := x.2.1) t0 t1 (1 : Int32) h g5) ?_
  refine V_if_eq (pc := 44) (tgt := 49) dX12_bells_44 (by decide) (fun c44 => ?_) (fun c44 => ?_)
  · rw [if_pos c44] at e
    refine V_pick [0, 1, 2, 3] rfl ?_
    refine V_aload_n (pc := 49) (i := 0) dX12_bells_49 rfl rfl ?_
    obtain ⟨r10, h11, g9, e⟩ := ob2_some e
    obtain ⟨g12, e⟩ := gd_some e
    refine V_callV (pc := 50) (bc := 0) (bs := 0) (mc := 0) (ms := 0) (st := []) (As := []) (a := v0) (h' := h11) (r := none) dX12_bells_50 ml_X12_352 (ci := 11) rfl (of_decide_eq_true g12) rfl rfl (Nat.le_of_ble_eq_true rfl) (d' := 6) (by decide) (c_X12_laysAll (l := x.2.1) v0 h7 g9) ?_
    refine V_iload_n (pc := 53) (i := 1) dX12_bells_53 rfl rfl ?_
    refine V_iconst (pc := 54) (v := (-1 : Int32)) dX12_bells_54 (by decide) ?_
    refine V_icmp_ne (pc := 55) (tgt := 67) dX12_bells_55 (by decide) (fun c43 => ?_) (fun c43 => ?_)
    · rw [if_neg c43] at e
      exact V_pick [0, 2, 3] rfl (r_X12_bells_b67 v0 v2 v3 h11 e hF)
    · rw [if_pos c43] at e
      refine V_pick [0, 2] rfl ?_
      refine V_aload_n (pc := 58) (i := 0) dX12_bells_58 rfl rfl ?_
      obtain ⟨r39, h40, g38, e⟩ := ob2_some e
      obtain ⟨g41, e⟩ := gd_some e
      refine V_callV (pc := 59) (bc := 0) (bs := 0) (mc := 0) (ms := 0) (st := []) (As := []) (a := v0) (h' := h40) (r := none) dX12_bells_59 ml_X12_355 (ci := 11) rfl (of_decide_eq_true g41) rfl rfl (Nat.le_of_ble_eq_true rfl) (d' := 6) (by decide) (c_X12_findsSeats (l := x.2.1) v0 h11 g38) ?_
      refine V_aload_n (pc := 62) (i := 0) dX12_bells_62 rfl rfl ?_
      obtain ⟨g42, e⟩ := gd_some e
      refine V_getI (pc := 63) (ci := 11) (k := 23) dX12_bells_63 fl_X12_343 rfl (of_decide_eq_true g42) ?_
      refine V_istore_n (pc := 66) (i := 3) (lv' := [(3, .int (zI h40 v0 23)), (0, .ref v0), (2, .int v2)]) dX12_bells_66 rfl (by decide) rfl ?_
      exact V_pick [1, 2, 0] rfl (r_X12_bells_b67 v0 v2 (zI h40 v0 23) h40 e hF)
  · rw [if_neg c44] at e
    refine V_pick [] rfl ?_
    refine V_iconst (pc := 47) (v := (0 : Int32)) dX12_bells_47 (by decide) ?_
    cases e
    exact V_iret (pc := 48) dX12_bells_48 hF
set_option maxRecDepth 100000 in
def F_X12_bells_b35 (v0 : Nat) (v1 : Int32) (v2 : Int32) (v3 : Int32) (t0 : Nat) (h : Hp) : Option (Int32 × Hp) :=
  F_X12_bells_b40 v0 v1 v2 v3 t0 (1 : Int32) h
set_option maxHeartbeats 4000000 in
set_option maxRecDepth 100000 in
theorem r_X12_bells_b35 (v0 : Nat) (v1 : Int32) (v2 : Int32) (v3 : Int32) (t0 : Nat) (h : Hp) {x : Cx} {r : Int32} {hz : Hp} (e : F_X12_bells_b35 v0 v1 v2 v3 t0 h = some (r, hz)) (hF : Fin9 M_X12_bells x (some .int) (some (.int r)) hz) : V M_X12_bells x 7 35 [(0, .ref v0), (1, .int v1), (2, .int v2), (3, .int v3)] [.ref t0] h 0 0 := by
  unfold F_X12_bells_b35 at e
  refine V_iconst (pc := 35) (v := (1 : Int32)) dX12_bells_35 (by decide) ?_
  refine V_goto (pc := 36) (tgt := 40) dX12_bells_36 (by decide) ?_
  exact V_pick [0, 1, 2, 3] rfl (r_X12_bells_b40 v0 v1 v2 v3 t0 (1 : Int32) h e hF)
set_option maxRecDepth 100000 in
def F_X12_bells_b30 (v0 : Nat) (v1 : Int32) (v2 : Int32) (v3 : Int32) (t0 : Nat) (h : Hp) : Option (Int32 × Hp) :=
  (if (-1 : Int32) ≤ v2 then F_X12_bells_b40 v0 v1 v2 v3 t0 (0 : Int32) h else F_X12_bells_b35 v0 v1 v2 v3 t0 h)
set_option maxHeartbeats 4000000 in
set_option maxRecDepth 100000 in
theorem r_X12_bells_b30 (v0 : Nat) (v1 : Int32) (v2 : Int32) (v3 : Int32) (t0 : Nat) (h : Hp) {x : Cx} {r : Int32} {hz : Hp} (e : F_X12_bells_b30 v0 v1 v2 v3 t0 h = some (r, hz)) (hF : Fin9 M_X12_bells x (some .int) (some (.int r)) hz) : V M_X12_bells x 7 30 [(0, .ref v0), (1, .int v1), (2, .int v2), (3, .int v3)] [.ref t0] h 0 0 := by
  unfold F_X12_bells_b30 at e
  refine V_iload_n (pc := 30) (i := 2) dX12_bells_30 rfl rfl ?_
  refine V_iconst (pc := 31) (v := (-1 : Int32)) dX12_bells_31 (by decide) ?_
  refine V_icmp_ge (pc := 32) (tgt := 39) dX12_bells_32 (by decide) (fun c45 => ?_) (fun c45 => ?_)
  · rw [if_pos c45] at e
    refine V_pick [0, 1, 2, 3] rfl ?_
    refine V_iconst (pc := 39) (v := (0 : Int32)) dX12_bells_39 (by decide) ?_
    exact V_pick [0, 1, 2, 3] rfl (r_X12_bells_b40 v0 v1 v2 v3 t0 (0 : Int32) h e hF)
  · rw [if_neg c45] at e
    exact V_pick [0, 1, 2, 3] rfl (r_X12_bells_b35 v0 v1 v2 v3 t0 h e hF)
set_option maxRecDepth 100000 in
def F_X12_bells_b19 (v0 : Nat) (v1 : Int32) (v2 : Int32) (t0 : Int32) (h : Hp) : Option (Int32 × Hp) :=
  (if v1 = (-1 : Int32) then F_X12_bells_b30 v0 v1 v2 t0 v0 h else (if t0 < 0 then F_X12_bells_b35 v0 v1 v2 t0 v0 h else F_X12_bells_b30 v0 v1 v2 t0 v0 h))
set_option maxHeartbeats 4000000 in
set_option maxRecDepth 100000 in
theorem r_X12_bells_b19 (v0 : Nat) (v1 : Int32) (v2 : Int32) (t0 : Int32) (h : Hp) {x : Cx} {r : Int32} {hz : Hp} (e : F_X12_bells_b19 v0 v1 v2 t0 h = some (r, hz)) (hF : Fin9 M_X12_bells x (some .int) (some (.int r)) hz) : V M_X12_bells x 7 19 [(0, .ref v0), (1, .int v1), (2, .int v2)] [.int t0] h 0 0 := by
  unfold F_X12_bells_b19 at e
  refine V_istore_n (pc := 19) (i := 3) (lv' := [(3, .int t0), (0, .ref v0), (1, .int v1), (2, .int v2)]) dX12_bells_19 rfl (by decide) rfl ?_
  refine V_aload_n (pc := 20) (i := 0) dX12_bells_20 rfl rfl ?_
  refine V_iload_n (pc := 21) (i := 1) dX12_bells_21 rfl rfl ?_
  refine V_iconst (pc := 22) (v := (-1 : Int32)) dX12_bells_22 (by decide) ?_
  refine V_icmp_eq (pc := 23) (tgt := 30) dX12_bells_23 (by decide) (fun c47 => ?_) (fun c47 => ?_)
  · rw [if_pos c47] at e
    exact V_pick [1, 2, 3, 0] rfl (r_X12_bells_b30 v0 v1 v2 t0 v0 h e hF)
  · rw [if_neg c47] at e
    refine V_pick [1, 2, 3, 0] rfl ?_
    refine V_iload_n (pc := 26) (i := 3) dX12_bells_26 rfl rfl ?_
    refine V_if_lt (pc := 27) (tgt := 35) dX12_bells_27 (by decide) (fun c46 => ?_) (fun c46 => ?_)
    · rw [if_pos c46] at e
      exact V_pick [0, 1, 2, 3] rfl (r_X12_bells_b35 v0 v1 v2 t0 v0 h e hF)
    · rw [if_neg c46] at e
      exact V_pick [0, 1, 2, 3] rfl (r_X12_bells_b30 v0 v1 v2 t0 v0 h e hF)
set_option maxRecDepth 100000 in
def F_X12_bells_b0 (v0 : Nat) (v1 : Int32) (v2 : Int32) (h : Hp) : Option (Int32 × Hp) :=
  gd (decide (kd h v0 = 11)) <| (if v1 = (-1 : Int32) then F_X12_bells_b19 v0 v1 v2 (-1 : Int32) (setI h v0 0 (0 : Int32)) else ob2 (F_X12_orderOf v0 v1 (setI h v0 0 (0 : Int32))) fun r3 h4 => F_X12_bells_b19 v0 v1 v2 r3 h4)
set_option maxHeartbeats 4000000 in
set_option maxRecDepth 100000 in
theorem r_X12_bells_b0 (v0 : Nat) (v1 : Int32) (v2 : Int32) (h : Hp) {x : Cx} {r : Int32} {hz : Hp} (e : F_X12_bells_b0 v0 v1 v2 h = some (r, hz)) (hF : Fin9 M_X12_bells x (some .int) (some (.int r)) hz) : V M_X12_bells x 7 0 [(0, .ref v0), (1, .int v1), (2, .int v2)] [] h 0 0 := by
  unfold F_X12_bells_b0 at e
  refine V_aload_n (pc := 0) (i := 0) dX12_bells_0 rfl rfl ?_
  refine V_iconst (pc := 1) (v := (0 : Int32)) dX12_bells_1 (by decide) ?_
  obtain ⟨g1, e⟩ := gd_some e
  refine V_putI (pc := 2) (ci := 11) (k := 0) dX12_bells_2 fp_X12_3 rfl (of_decide_eq_true g1) ?_
  refine V_iload_n (pc := 5) (i := 1) dX12_bells_5 rfl rfl ?_
  refine V_iconst (pc := 6) (v := (-1 : Int32)) dX12_bells_6 (by decide) ?_
  refine V_icmp_ne (pc := 7) (tgt := 14) dX12_bells_7 (by decide) (fun c48 => ?_) (fun c48 => ?_)
  · rw [if_neg c48] at e
    refine V_pick [0, 1, 2] rfl ?_
    refine V_aload_n (pc := 14) (i := 0) dX12_bells_14 rfl rfl ?_
    refine V_iload_n (pc := 15) (i := 1) dX12_bells_15 rfl rfl ?_
    obtain ⟨r3, h4, g2, e⟩ := ob2_some e
    refine V_callV (pc := 16) (bc := 0) (bs := 0) (mc := 0) (ms := 0) (st := []) (As := [.int v1]) (a := v0) (h' := h4) (r := some (.int r3)) dX12_bells_16 ml_X12_364 (ci := 11) rfl (kd_sI (of_decide_eq_true g1)) rfl rfl (Nat.le_of_ble_eq_true rfl) (d' := 3) (by decide) (c_X12_orderOf (l := x.2.1) v0 v1 (setI h v0 0 (0 : Int32)) g2) ?_
    exact V_pick [0, 1, 2] rfl (r_X12_bells_b19 v0 v1 v2 r3 h4 e hF)
  · rw [if_pos c48] at e
    refine V_pick [0, 1, 2] rfl ?_
    refine V_iconst (pc := 10) (v := (-1 : Int32)) dX12_bells_10 (by decide) ?_
    refine V_goto (pc := 11) (tgt := 19) dX12_bells_11 (by decide) ?_
    exact V_pick [0, 1, 2] rfl (r_X12_bells_b19 v0 v1 v2 (-1 : Int32) (setI h v0 0 (0 : Int32)) e hF)
def F_X12_bells (v0 : Nat) (v1 : Int32) (v2 : Int32) (h : Hp) : Option (Int32 × Hp) := F_X12_bells_b0 v0 v1 v2 h
theorem c_X12_bells {l : Launch} (v0 : Nat) (v1 : Int32) (v2 : Int32) (h : Hp) {r : Int32} {hz : Hp} (e : F_X12_bells v0 v1 v2 h = some (r, hz)) : Ct l yX12_bells M_X12_bells (some .int) 7 [.ref v0, .int v1, .int v2] h 0 0 (some (.int r)) hz :=
  Ct_of rfl rfl (fun q => by cases q) (Nat.le_of_ble_eq_true rfl) (fun x _ hF => V_pick [0, 1, 2] rfl (r_X12_bells_b0 v0 v1 v2 h e hF))
theorem dX12_comes_0 : decode cX12_comes 0 = .ok (.aload_n 0, 1) := by decide +kernel
theorem dX12_comes_1 : decode cX12_comes 1 = .ok (.getfield 50, 3) := by decide +kernel
theorem dX12_comes_4 : decode cX12_comes 4 = .ok (.iload_n 1, 1) := by decide +kernel
theorem dX12_comes_5 : decode cX12_comes 5 = .ok (.iaload, 1) := by decide +kernel
theorem dX12_comes_6 : decode cX12_comes 6 = .ok (.ifCond .ge 25, 3) := by decide +kernel
theorem dX12_comes_9 : decode cX12_comes 9 = .ok (.aload_n 0, 1) := by decide +kernel
theorem dX12_comes_10 : decode cX12_comes 10 = .ok (.iload_n 1, 1) := by decide +kernel
theorem dX12_comes_11 : decode cX12_comes 11 = .ok (.bipush 8, 2) := by decide +kernel
theorem dX12_comes_13 : decode cX12_comes 13 = .ok (.idiv, 1) := by decide +kernel
theorem dX12_comes_14 : decode cX12_comes 14 = .ok (.invokevirtual 340, 3) := by decide +kernel
theorem dX12_comes_17 : decode cX12_comes 17 = .ok (.ifCond .eq 14, 3) := by decide +kernel
theorem dX12_comes_20 : decode cX12_comes 20 = .ok (.aload_n 0, 1) := by decide +kernel
theorem dX12_comes_21 : decode cX12_comes 21 = .ok (.iload_n 1, 1) := by decide +kernel
theorem dX12_comes_22 : decode cX12_comes 22 = .ok (.bipush 8, 2) := by decide +kernel
theorem dX12_comes_24 : decode cX12_comes 24 = .ok (.irem, 1) := by decide +kernel
theorem dX12_comes_25 : decode cX12_comes 25 = .ok (.invokevirtual 380, 3) := by decide +kernel
theorem dX12_comes_28 : decode cX12_comes 28 = .ok (.ifCond .ne 4, 3) := by decide +kernel
theorem dX12_comes_31 : decode cX12_comes 31 = .ok (.return_, 1) := by decide +kernel
theorem dX12_comes_32 : decode cX12_comes 32 = .ok (.aload_n 0, 1) := by decide +kernel
theorem dX12_comes_33 : decode cX12_comes 33 = .ok (.getfield 50, 3) := by decide +kernel
theorem dX12_comes_36 : decode cX12_comes 36 = .ok (.iload_n 1, 1) := by decide +kernel
theorem dX12_comes_37 : decode cX12_comes 37 = .ok (.aload_n 0, 1) := by decide +kernel
theorem dX12_comes_38 : decode cX12_comes 38 = .ok (.getfield 50, 3) := by decide +kernel
theorem dX12_comes_41 : decode cX12_comes 41 = .ok (.iload_n 2, 1) := by decide +kernel
theorem dX12_comes_42 : decode cX12_comes 42 = .ok (.iaload, 1) := by decide +kernel
theorem dX12_comes_43 : decode cX12_comes 43 = .ok (.iconst 1, 1) := by decide +kernel
theorem dX12_comes_44 : decode cX12_comes 44 = .ok (.iadd, 1) := by decide +kernel
theorem dX12_comes_45 : decode cX12_comes 45 = .ok (.iastore, 1) := by decide +kernel
theorem dX12_comes_46 : decode cX12_comes 46 = .ok (.aload_n 0, 1) := by decide +kernel
theorem dX12_comes_47 : decode cX12_comes 47 = .ok (.getfield 53, 3) := by decide +kernel
theorem dX12_comes_50 : decode cX12_comes 50 = .ok (.aload_n 0, 1) := by decide +kernel
theorem dX12_comes_51 : decode cX12_comes 51 = .ok (.getfield 383, 3) := by decide +kernel
theorem dX12_comes_54 : decode cX12_comes 54 = .ok (.iload_n 1, 1) := by decide +kernel
theorem dX12_comes_55 : decode cX12_comes 55 = .ok (.iastore, 1) := by decide +kernel
theorem dX12_comes_56 : decode cX12_comes 56 = .ok (.aload_n 0, 1) := by decide +kernel
theorem dX12_comes_57 : decode cX12_comes 57 = .ok (.dup, 1) := by decide +kernel
theorem dX12_comes_58 : decode cX12_comes 58 = .ok (.getfield 383, 3) := by decide +kernel
theorem dX12_comes_61 : decode cX12_comes 61 = .ok (.iconst 1, 1) := by decide +kernel
theorem dX12_comes_62 : decode cX12_comes 62 = .ok (.iadd, 1) := by decide +kernel
theorem dX12_comes_63 : decode cX12_comes 63 = .ok (.putfield 383, 3) := by decide +kernel
theorem dX12_comes_66 : decode cX12_comes 66 = .ok (.return_, 1) := by decide +kernel
set_option maxRecDepth 100000 in
def F_X12_comes_b31  (h : Hp) : Option (Unit × Hp) :=
  some ((), h)
set_option maxHeartbeats 4000000 in
set_option maxRecDepth 100000 in
theorem r_X12_comes_b31  (h : Hp) {x : Cx} {r : Unit} {hz : Hp} (e : F_X12_comes_b31  h = some (r, hz)) (hF : Fin9 M_X12_comes x none none hz) : V M_X12_comes x 5 31 [] [] h 0 0 := by
  unfold F_X12_comes_b31 at e
  cases e
  exact V_vret (pc := 31) dX12_comes_31 hF
set_option maxRecDepth 100000 in
def F_X12_comes_b0 (v0 : Nat) (v1 : Int32) (v2 : Int32) (h : Hp) : Option (Unit × Hp) :=
  gd (decide (kd h v0 = 11)) <| ob (zR h v0 21) fun q2 => gd (decide (kd h q2 = 13)) <| gd (ix v1 (zl h q2)) <| (if 0 ≤ (zI h q2 (v1).toNatClampNeg) then F_X12_comes_b31 h else ob2 (F_X12_opens v0 (v1 / (8 : Int32)) h) fun r7 h8 => (if r7 = 0 then F_X12_comes_b31 h8 else ob (F_X12_isLevelWith v0 (v1 - v1 / (8 : Int32) * (8 : Int32)) h8) fun r10 => gd (decide (kd h8 v0 = 11)) <| (if r10 = 0 then F_X12_comes_b31 h8 else ob (zR h8 v0 21) fun q12 => ob (zR h8 v0 21) fun q14 => gd (decide (kd h8 q14 = 13)) <| gd (ix v2 (zl h8 q14)) <| gd (decide (kd h8 q12 = 13)) <| gd (ix v1 (zl h8 q12)) <| ob (zR (setI h8 q12 (v1).toNatClampNeg ((zI h8 q14 (v2).toNatClampNeg) + (1 : Int32))) v0 22) fun q20 => gd (decide (kd (setI h8 q12 (v1).toNatClampNeg ((zI h8 q14 (v2).toNatClampNeg) + (1 : Int32))) q20 = 13)) <| gd (ix (zI (setI h8 q12 (v1).toNatClampNeg ((zI h8 q14 (v2).toNatClampNeg) + (1 : Int32))) v0 26) (zl (setI h8 q12 (v1).toNatClampNeg ((zI h8 q14 (v2).toNatClampNeg) + (1 : Int32))) q20)) <| ob (some (setI (setI h8 q12 (v1).toNatClampNeg ((zI h8 q14 (v2).toNatClampNeg) + (1 : Int32))) q20 (zI (setI h8 q12 (v1).toNatClampNeg ((zI h8 q14 (v2).toNatClampNeg) + (1 : Int32))) v0 26).toNatClampNeg v1)) fun h24 => some ((), setI h24 v0 26 ((zI h24 v0 26) + (1 : Int32))))))
set_option maxHeartbeats 4000000 in
set_option maxRecDepth 100000 in
theorem r_X12_comes_b0 (v0 : Nat) (v1 : Int32) (v2 : Int32) (h : Hp) {x : Cx} {r : Unit} {hz : Hp} (e : F_X12_comes_b0 v0 v1 v2 h = some (r, hz)) (hF : Fin9 M_X12_comes x none none hz) : V M_X12_comes x 5 0 [(0, .ref v0), (1, .int v1), (2, .int v2)] [] h 0 0 := by
  unfold F_X12_comes_b0 at e
  refine V_aload_n (pc := 0) (i := 0) dX12_comes_0 rfl rfl ?_
  obtain ⟨g1, e⟩ := gd_some e
  obtain ⟨q2, g3, e⟩ := ob_some e
  refine V_getR (pc := 1) (ci := 11) (k := 21) (b := q2) dX12_comes_1 fl_X12_50 rfl (of_decide_eq_true g1) g3 ?_
  refine V_iload_n (pc := 4) (i := 1) dX12_comes_4 rfl rfl ?_
  obtain ⟨g4, e⟩ := gd_some e
  obtain ⟨g5, e⟩ := gd_some e
  refine V_iald (pc := 5) dX12_comes_5 (of_decide_eq_true g4) (ix_in g5) ?_
  refine V_if_ge (pc := 6) (tgt := 31) dX12_comes_6 (by decide) (fun c32 => ?_) (fun c32 => ?_)
  · rw [if_pos c32] at e
    exact V_pick [] rfl (r_X12_comes_b31 h e hF)
  · rw [if_neg c32] at e
    refine V_pick [0, 1, 2] rfl ?_
    refine V_aload_n (pc := 9) (i := 0) dX12_comes_9 rfl rfl ?_
    refine V_iload_n (pc := 10) (i := 1) dX12_comes_10 rfl rfl ?_
    refine V_bipush (pc := 11) (v := (8 : Int32)) dX12_comes_11 (by decide) ?_
    refine V_idiv (pc := 13) dX12_comes_13 (by decide) ?_
    obtain ⟨r7, h8, g6, e⟩ := ob2_some e
    refine V_callV (pc := 14) (bc := 0) (bs := 0) (mc := 0) (ms := 0) (st := []) (As := [.int (v1 / (8 : Int32))]) (a := v0) (h' := h8) (r := some (.int r7)) dX12_comes_14 ml_X12_340 (ci := 11) rfl (of_decide_eq_true g1) rfl rfl (Nat.le_of_ble_eq_true rfl) (d' := 3) (by decide) (c_X12_opens (l := x.2.1) v0 (v1 / (8 : Int32)) h g6) ?_
    refine V_if_eq (pc := 17) (tgt := 31) dX12_comes_17 (by decide) (fun c31 => ?_) (fun c31 => ?_)
    · rw [if_pos c31] at e
      exact V_pick [] rfl (r_X12_comes_b31 h8 e hF)
    · rw [if_neg c31] at e
      refine V_pick [0, 1, 2] rfl ?_
      refine V_aload_n (pc := 20) (i := 0) dX12_comes_20 rfl rfl ?_
      refine V_iload_n (pc := 21) (i := 1) dX12_comes_21 rfl rfl ?_
      refine V_bipush (pc := 22) (v := (8 : Int32)) dX12_comes_22 (by decide) ?_
      refine V_irem (pc := 24) dX12_comes_24 (by decide) ?_
      obtain ⟨r10, g9, e⟩ := ob_some e
      obtain ⟨g11, e⟩ := gd_some e
      refine V_callV (pc := 25) (bc := 0) (bs := 0) (mc := 0) (ms := 0) (st := []) (As := [.int (v1 - v1 / (8 : Int32) * (8 : Int32))]) (a := v0) (h' := h8) (r := some (.int r10)) dX12_comes_25 ml_X12_380 (ci := 11) rfl (of_decide_eq_true g11) rfl rfl (Nat.le_of_ble_eq_true rfl) (d' := 4) (by decide) (c_X12_isLevelWith (l := x.2.1) v0 (v1 - v1 / (8 : Int32) * (8 : Int32)) h8 g9) ?_
      refine V_if_ne (pc := 28) (tgt := 32) dX12_comes_28 (by decide) (fun c30 => ?_) (fun c30 => ?_)
      · rw [if_neg c30] at e
        refine V_pick [0, 1, 2] rfl ?_
        refine V_aload_n (pc := 32) (i := 0) dX12_comes_32 rfl rfl ?_
        obtain ⟨q12, g13, e⟩ := ob_some e
        refine V_getR (pc := 33) (ci := 11) (k := 21) (b := q12) dX12_comes_33 fl_X12_50 rfl (of_decide_eq_true g11) g13 ?_
        refine V_iload_n (pc := 36) (i := 1) dX12_comes_36 rfl rfl ?_
        refine V_aload_n (pc := 37) (i := 0) dX12_comes_37 rfl rfl ?_
        obtain ⟨q14, g15, e⟩ := ob_some e
        refine V_getR (pc := 38) (ci := 11) (k := 21) (b := q14) dX12_comes_38 fl_X12_50 rfl (of_decide_eq_true g11) g15 ?_
        refine V_iload_n (pc := 41) (i := 2) dX12_comes_41 rfl rfl ?_
        obtain ⟨g16, e⟩ := gd_some e
        obtain ⟨g17, e⟩ := gd_some e
        refine V_iald (pc := 42) dX12_comes_42 (of_decide_eq_true g16) (ix_in g17) ?_
        refine V_iconst (pc := 43) (v := (1 : Int32)) dX12_comes_43 (by decide) ?_
        refine V_iadd (pc := 44) dX12_comes_44 ?_
        obtain ⟨g18, e⟩ := gd_some e
        obtain ⟨g19, e⟩ := gd_some e
        refine V_iast (pc := 45) dX12_comes_45 (of_decide_eq_true g18) (ix_in g19) ?_
        refine V_aload_n (pc := 46) (i := 0) dX12_comes_46 rfl rfl ?_
        obtain ⟨q20, g21, e⟩ := ob_some e
        refine V_getR (pc := 47) (ci := 11) (k := 22) (b := q20) dX12_comes_47 fl_X12_53 rfl (kd_sI (of_decide_eq_true g11)) g21 ?_
        refine V_aload_n (pc := 50) (i := 0) dX12_comes_50 rfl rfl ?_
        refine V_getI (pc := 51) (ci := 11) (k := 26) dX12_comes_51 fl_X12_383 rfl (kd_sI (of_decide_eq_true g11)) ?_
        refine V_iload_n (pc := 54) (i := 1) dX12_comes_54 rfl rfl ?_
        obtain ⟨g22, e⟩ := gd_some e
        obtain ⟨g23, e⟩ := gd_some e
        refine V_iast (pc := 55) dX12_comes_55 (of_decide_eq_true g22) (ix_in g23) ?_
        obtain ⟨h24, g25, e⟩ := ob_some e
        refine V_hp (Option.some.inj g25) ?_
        have k26 : kd h24 v0 = 11 := kd_eq (h := (setI (setI h8 q12 (v1).toNatClampNeg ((zI h8 q14 (v2).toNatClampNeg) + (1 : Int32))) q20 (zI (setI h8 q12 (v1).toNatClampNeg ((zI h8 q14 (v2).toNatClampNeg) + (1 : Int32))) v0 26).toNatClampNeg v1)) (Option.some.inj g25) (kd_sI (kd_sI (of_decide_eq_true g11)))
        have k27 : kd h24 q14 = 13 := kd_eq (h := (setI (setI h8 q12 (v1).toNatClampNeg ((zI h8 q14 (v2).toNatClampNeg) + (1 : Int32))) q20 (zI (setI h8 q12 (v1).toNatClampNeg ((zI h8 q14 (v2).toNatClampNeg) + (1 : Int32))) v0 26).toNatClampNeg v1)) (Option.some.inj g25) (kd_sI (kd_sI (of_decide_eq_true g16)))
        have k28 : kd h24 q12 = 13 := kd_eq (h := (setI (setI h8 q12 (v1).toNatClampNeg ((zI h8 q14 (v2).toNatClampNeg) + (1 : Int32))) q20 (zI (setI h8 q12 (v1).toNatClampNeg ((zI h8 q14 (v2).toNatClampNeg) + (1 : Int32))) v0 26).toNatClampNeg v1)) (Option.some.inj g25) (kd_sI (kd_sI (of_decide_eq_true g18)))
        have k29 : kd h24 q20 = 13 := kd_eq (h := (setI (setI h8 q12 (v1).toNatClampNeg ((zI h8 q14 (v2).toNatClampNeg) + (1 : Int32))) q20 (zI (setI h8 q12 (v1).toNatClampNeg ((zI h8 q14 (v2).toNatClampNeg) + (1 : Int32))) v0 26).toNatClampNeg v1)) (Option.some.inj g25) (kd_sI (of_decide_eq_true g22))
        refine V_aload_n (pc := 56) (i := 0) dX12_comes_56 rfl rfl ?_
        refine V_dup (pc := 57) dX12_comes_57 rfl ?_
        refine V_getI (pc := 58) (ci := 11) (k := 26) dX12_comes_58 fl_X12_383 rfl k26 ?_
        refine V_iconst (pc := 61) (v := (1 : Int32)) dX12_comes_61 (by decide) ?_
        refine V_iadd (pc := 62) dX12_comes_62 ?_
        refine V_putI (pc := 63) (ci := 11) (k := 26) dX12_comes_63 fp_X12_383 rfl k26 ?_
        cases e
        exact V_vret (pc := 66) dX12_comes_66 hF
      · rw [if_pos c30] at e
        exact V_pick [] rfl (r_X12_comes_b31 h8 e hF)
def F_X12_comes (v0 : Nat) (v1 : Int32) (v2 : Int32) (h : Hp) : Option (Unit × Hp) := F_X12_comes_b0 v0 v1 v2 h
theorem c_X12_comes {l : Launch} (v0 : Nat) (v1 : Int32) (v2 : Int32) (h : Hp) {r : Unit} {hz : Hp} (e : F_X12_comes v0 v1 v2 h = some (r, hz)) : Ct l yX12_comes M_X12_comes none 5 [.ref v0, .int v1, .int v2] h 0 0 none hz :=
  Ct_of rfl rfl (fun q => by cases q) (Nat.le_of_ble_eq_true rfl) (fun x _ hF => V_pick [0, 1, 2] rfl (r_X12_comes_b0 v0 v1 v2 h e hF))
theorem dX12_stove_0 : decode cX12_stove 0 = .ok (.aload_n 0, 1) := by decide +kernel
theorem dX12_stove_1 : decode cX12_stove 1 = .ok (.iconst 0, 1) := by decide +kernel
theorem dX12_stove_2 : decode cX12_stove 2 = .ok (.putfield 3, 3) := by decide +kernel
theorem dX12_stove_5 : decode cX12_stove 5 = .ok (.aload_n 0, 1) := by decide +kernel
theorem dX12_stove_6 : decode cX12_stove 6 = .ok (.aload_n 0, 1) := by decide +kernel
theorem dX12_stove_7 : decode cX12_stove 7 = .ok (.iload_n 1, 1) := by decide +kernel
theorem dX12_stove_8 : decode cX12_stove 8 = .ok (.invokevirtual 250, 3) := by decide +kernel
theorem dX12_stove_11 : decode cX12_stove 11 = .ok (.iconst 1, 1) := by decide +kernel
theorem dX12_stove_12 : decode cX12_stove 12 = .ok (.invokevirtual 240, 3) := by decide +kernel
theorem dX12_stove_15 : decode cX12_stove 15 = .ok (.ifCond .eq 5, 3) := by decide +kernel
theorem dX12_stove_18 : decode cX12_stove 18 = .ok (.iconst 0, 1) := by decide +kernel
theorem dX12_stove_19 : decode cX12_stove 19 = .ok (.ireturn, 1) := by decide +kernel
theorem dX12_stove_20 : decode cX12_stove 20 = .ok (.aload_n 0, 1) := by decide +kernel
theorem dX12_stove_21 : decode cX12_stove 21 = .ok (.invokevirtual 68, 3) := by decide +kernel
theorem dX12_stove_24 : decode cX12_stove 24 = .ok (.iconst 5, 1) := by decide +kernel
theorem dX12_stove_25 : decode cX12_stove 25 = .ok (.if_icmp .ne 6, 3) := by decide +kernel
theorem dX12_stove_28 : decode cX12_stove 28 = .ok (.bipush (-3), 2) := by decide +kernel
theorem dX12_stove_30 : decode cX12_stove 30 = .ok (.ireturn, 1) := by decide +kernel
theorem dX12_stove_31 : decode cX12_stove 31 = .ok (.iconst 0, 1) := by decide +kernel
theorem dX12_stove_32 : decode cX12_stove 32 = .ok (.istore_n 2, 1) := by decide +kernel
theorem dX12_stove_33 : decode cX12_stove 33 = .ok (.iload_n 2, 1) := by decide +kernel
theorem dX12_stove_34 : decode cX12_stove 34 = .ok (.ldc 45, 2) := by decide +kernel
theorem dX12_stove_36 : decode cX12_stove 36 = .ok (.if_icmp .ge 16, 3) := by decide +kernel
theorem dX12_stove_39 : decode cX12_stove 39 = .ok (.aload_n 0, 1) := by decide +kernel
theorem dX12_stove_40 : decode cX12_stove 40 = .ok (.getfield 50, 3) := by decide +kernel
theorem dX12_stove_43 : decode cX12_stove 43 = .ok (.iload_n 2, 1) := by decide +kernel
theorem dX12_stove_44 : decode cX12_stove 44 = .ok (.iconst (-1), 1) := by decide +kernel
theorem dX12_stove_45 : decode cX12_stove 45 = .ok (.iastore, 1) := by decide +kernel
theorem dX12_stove_46 : decode cX12_stove 46 = .ok (.iinc 2 1, 3) := by decide +kernel
theorem dX12_stove_49 : decode cX12_stove 49 = .ok (.goto (-16), 3) := by decide +kernel
theorem dX12_stove_52 : decode cX12_stove 52 = .ok (.bipush 8, 2) := by decide +kernel
theorem dX12_stove_54 : decode cX12_stove 54 = .ok (.aload_n 0, 1) := by decide +kernel
theorem dX12_stove_55 : decode cX12_stove 55 = .ok (.invokevirtual 371, 3) := by decide +kernel
theorem dX12_stove_58 : decode cX12_stove 58 = .ok (.imul, 1) := by decide +kernel
theorem dX12_stove_59 : decode cX12_stove 59 = .ok (.aload_n 0, 1) := by decide +kernel
theorem dX12_stove_60 : decode cX12_stove 60 = .ok (.getfield 13, 3) := by decide +kernel
theorem dX12_stove_63 : decode cX12_stove 63 = .ok (.bipush 6, 2) := by decide +kernel
theorem dX12_stove_65 : decode cX12_stove 65 = .ok (.iaload, 1) := by decide +kernel
theorem dX12_stove_66 : decode cX12_stove 66 = .ok (.iadd, 1) := by decide +kernel
theorem dX12_stove_67 : decode cX12_stove 67 = .ok (.istore_n 2, 1) := by decide +kernel
theorem dX12_stove_68 : decode cX12_stove 68 = .ok (.aload_n 0, 1) := by decide +kernel
theorem dX12_stove_69 : decode cX12_stove 69 = .ok (.getfield 50, 3) := by decide +kernel
theorem dX12_stove_72 : decode cX12_stove 72 = .ok (.iload_n 2, 1) := by decide +kernel
theorem dX12_stove_73 : decode cX12_stove 73 = .ok (.iconst 0, 1) := by decide +kernel
theorem dX12_stove_74 : decode cX12_stove 74 = .ok (.iastore, 1) := by decide +kernel
theorem dX12_stove_75 : decode cX12_stove 75 = .ok (.aload_n 0, 1) := by decide +kernel
theorem dX12_stove_76 : decode cX12_stove 76 = .ok (.getfield 53, 3) := by decide +kernel
theorem dX12_stove_79 : decode cX12_stove 79 = .ok (.iconst 0, 1) := by decide +kernel
theorem dX12_stove_80 : decode cX12_stove 80 = .ok (.iload_n 2, 1) := by decide +kernel
theorem dX12_stove_81 : decode cX12_stove 81 = .ok (.iastore, 1) := by decide +kernel
theorem dX12_stove_82 : decode cX12_stove 82 = .ok (.aload_n 0, 1) := by decide +kernel
theorem dX12_stove_83 : decode cX12_stove 83 = .ok (.iconst 1, 1) := by decide +kernel
theorem dX12_stove_84 : decode cX12_stove 84 = .ok (.putfield 383, 3) := by decide +kernel
theorem dX12_stove_87 : decode cX12_stove 87 = .ok (.iconst 0, 1) := by decide +kernel
theorem dX12_stove_88 : decode cX12_stove 88 = .ok (.istore_n 3, 1) := by decide +kernel
theorem dX12_stove_89 : decode cX12_stove 89 = .ok (.iload_n 3, 1) := by decide +kernel
theorem dX12_stove_90 : decode cX12_stove 90 = .ok (.aload_n 0, 1) := by decide +kernel
theorem dX12_stove_91 : decode cX12_stove 91 = .ok (.getfield 383, 3) := by decide +kernel
theorem dX12_stove_94 : decode cX12_stove 94 = .ok (.if_icmp .ge 147, 3) := by decide +kernel
theorem dX12_stove_97 : decode cX12_stove 97 = .ok (.aload_n 0, 1) := by decide +kernel
theorem dX12_stove_98 : decode cX12_stove 98 = .ok (.getfield 53, 3) := by decide +kernel
theorem dX12_stove_101 : decode cX12_stove 101 = .ok (.iload_n 3, 1) := by decide +kernel
theorem dX12_stove_102 : decode cX12_stove 102 = .ok (.iaload, 1) := by decide +kernel
theorem dX12_stove_103 : decode cX12_stove 103 = .ok (.istore 4, 2) := by decide +kernel
theorem dX12_stove_105 : decode cX12_stove 105 = .ok (.iload 4, 2) := by decide +kernel
theorem dX12_stove_107 : decode cX12_stove 107 = .ok (.bipush 8, 2) := by decide +kernel
theorem dX12_stove_109 : decode cX12_stove 109 = .ok (.irem, 1) := by decide +kernel
theorem dX12_stove_110 : decode cX12_stove 110 = .ok (.iload_n 1, 1) := by decide +kernel
theorem dX12_stove_111 : decode cX12_stove 111 = .ok (.if_icmp .ne 11, 3) := by decide +kernel
theorem dX12_stove_114 : decode cX12_stove 114 = .ok (.aload_n 0, 1) := by decide +kernel
theorem dX12_stove_115 : decode cX12_stove 115 = .ok (.getfield 50, 3) := by decide +kernel
theorem dX12_stove_118 : decode cX12_stove 118 = .ok (.iload 4, 2) := by decide +kernel
theorem dX12_stove_120 : decode cX12_stove 120 = .ok (.iaload, 1) := by decide +kernel
theorem dX12_stove_121 : decode cX12_stove 121 = .ok (.ireturn, 1) := by decide +kernel
theorem dX12_stove_122 : decode cX12_stove 122 = .ok (.iconst 0, 1) := by decide +kernel
theorem dX12_stove_123 : decode cX12_stove 123 = .ok (.istore 5, 2) := by decide +kernel
theorem dX12_stove_125 : decode cX12_stove 125 = .ok (.iload 5, 2) := by decide +kernel
theorem dX12_stove_127 : decode cX12_stove 127 = .ok (.aload_n 0, 1) := by decide +kernel
theorem dX12_stove_128 : decode cX12_stove 128 = .ok (.invokevirtual 68, 3) := by decide +kernel
theorem dX12_stove_131 : decode cX12_stove 131 = .ok (.if_icmp .ge 55, 3) := by decide +kernel
theorem dX12_stove_134 : decode cX12_stove 134 = .ok (.iconst 0, 1) := by decide +kernel
theorem dX12_stove_135 : decode cX12_stove 135 = .ok (.istore 6, 2) := by decide +kernel
theorem dX12_stove_137 : decode cX12_stove 137 = .ok (.iload 6, 2) := by decide +kernel
theorem dX12_stove_139 : decode cX12_stove 139 = .ok (.aload_n 0, 1) := by decide +kernel
theorem dX12_stove_140 : decode cX12_stove 140 = .ok (.invokevirtual 60, 3) := by decide +kernel
theorem dX12_stove_143 : decode cX12_stove 143 = .ok (.if_icmp .ge 37, 3) := by decide +kernel
theorem dX12_stove_146 : decode cX12_stove 146 = .ok (.aload_n 0, 1) := by decide +kernel
theorem dX12_stove_147 : decode cX12_stove 147 = .ok (.bipush 8, 2) := by decide +kernel
theorem dX12_stove_149 : decode cX12_stove 149 = .ok (.aload_n 0, 1) := by decide +kernel
theorem dX12_stove_150 : decode cX12_stove 150 = .ok (.iload 4, 2) := by decide +kernel
theorem dX12_stove_152 : decode cX12_stove 152 = .ok (.bipush 8, 2) := by decide +kernel
theorem dX12_stove_154 : decode cX12_stove 154 = .ok (.idiv, 1) := by decide +kernel
theorem dX12_stove_155 : decode cX12_stove 155 = .ok (.iload 5, 2) := by decide +kernel
theorem dX12_stove_157 : decode cX12_stove 157 = .ok (.iload 6, 2) := by decide +kernel
theorem dX12_stove_159 : decode cX12_stove 159 = .ok (.invokevirtual 361, 3) := by decide +kernel
theorem dX12_stove_162 : decode cX12_stove 162 = .ok (.imul, 1) := by decide +kernel
theorem dX12_stove_163 : decode cX12_stove 163 = .ok (.iload 4, 2) := by decide +kernel
theorem dX12_stove_165 : decode cX12_stove 165 = .ok (.bipush 8, 2) := by decide +kernel
theorem dX12_stove_167 : decode cX12_stove 167 = .ok (.irem, 1) := by decide +kernel
theorem dX12_stove_168 : decode cX12_stove 168 = .ok (.iadd, 1) := by decide +kernel
theorem dX12_stove_169 : decode cX12_stove 169 = .ok (.iload 4, 2) := by decide +kernel
theorem dX12_stove_171 : decode cX12_stove 171 = .ok (.invokevirtual 386, 3) := by decide +kernel
theorem dX12_stove_174 : decode cX12_stove 174 = .ok (.iinc 6 1, 3) := by decide +kernel
theorem dX12_stove_177 : decode cX12_stove 177 = .ok (.goto (-40), 3) := by decide +kernel
theorem dX12_stove_180 : decode cX12_stove 180 = .ok (.iinc 5 1, 3) := by decide +kernel
theorem dX12_stove_183 : decode cX12_stove 183 = .ok (.goto (-58), 3) := by decide +kernel
theorem dX12_stove_186 : decode cX12_stove 186 = .ok (.iconst 0, 1) := by decide +kernel
theorem dX12_stove_187 : decode cX12_stove 187 = .ok (.istore 5, 2) := by decide +kernel
theorem dX12_stove_189 : decode cX12_stove 189 = .ok (.iload 5, 2) := by decide +kernel
theorem dX12_stove_191 : decode cX12_stove 191 = .ok (.aload_n 0, 1) := by decide +kernel
theorem dX12_stove_192 : decode cX12_stove 192 = .ok (.invokevirtual 60, 3) := by decide +kernel
theorem dX12_stove_195 : decode cX12_stove 195 = .ok (.if_icmp .ge 40, 3) := by decide +kernel
theorem dX12_stove_198 : decode cX12_stove 198 = .ok (.aload_n 0, 1) := by decide +kernel
theorem dX12_stove_199 : decode cX12_stove 199 = .ok (.iload 4, 2) := by decide +kernel
theorem dX12_stove_201 : decode cX12_stove 201 = .ok (.bipush 8, 2) := by decide +kernel
theorem dX12_stove_203 : decode cX12_stove 203 = .ok (.irem, 1) := by decide +kernel
theorem dX12_stove_204 : decode cX12_stove 204 = .ok (.iload 5, 2) := by decide +kernel
theorem dX12_stove_206 : decode cX12_stove 206 = .ok (.invokevirtual 389, 3) := by decide +kernel
theorem dX12_stove_209 : decode cX12_stove 209 = .ok (.ifCond .eq 20, 3) := by decide +kernel
theorem dX12_stove_212 : decode cX12_stove 212 = .ok (.aload_n 0, 1) := by decide +kernel
theorem dX12_stove_213 : decode cX12_stove 213 = .ok (.iload 4, 2) := by decide +kernel
theorem dX12_stove_215 : decode cX12_stove 215 = .ok (.bipush 8, 2) := by decide +kernel
theorem dX12_stove_217 : decode cX12_stove 217 = .ok (.idiv, 1) := by decide +kernel
theorem dX12_stove_218 : decode cX12_stove 218 = .ok (.bipush 8, 2) := by decide +kernel
theorem dX12_stove_220 : decode cX12_stove 220 = .ok (.imul, 1) := by decide +kernel
theorem dX12_stove_221 : decode cX12_stove 221 = .ok (.iload 5, 2) := by decide +kernel
theorem dX12_stove_223 : decode cX12_stove 223 = .ok (.iadd, 1) := by decide +kernel
theorem dX12_stove_224 : decode cX12_stove 224 = .ok (.iload 4, 2) := by decide +kernel
theorem dX12_stove_226 : decode cX12_stove 226 = .ok (.invokevirtual 386, 3) := by decide +kernel
theorem dX12_stove_229 : decode cX12_stove 229 = .ok (.iinc 5 1, 3) := by decide +kernel
theorem dX12_stove_232 : decode cX12_stove 232 = .ok (.goto (-43), 3) := by decide +kernel
theorem dX12_stove_235 : decode cX12_stove 235 = .ok (.iinc 3 1, 3) := by decide +kernel
theorem dX12_stove_238 : decode cX12_stove 238 = .ok (.goto (-149), 3) := by decide +kernel
theorem dX12_stove_241 : decode cX12_stove 241 = .ok (.iconst (-1), 1) := by decide +kernel
theorem dX12_stove_242 : decode cX12_stove 242 = .ok (.ireturn, 1) := by decide +kernel
set_option maxRecDepth 100000 in
def F_X12_stove_l33 (v0 : Nat) (v1 : Int32) (v2 : Int32) (h : Hp) : Option ((Int32 × Hp) ⊕ Hp) :=
  (if (32768 : Int32) ≤ v2 then some (.inr h) else gd (decide (kd h v0 = 11)) <| ob (zR h v0 21) fun q11 => gd (decide (kd h q11 = 13)) <| gd (ix v2 (zl h q11)) <| some (.inl (v2 + (1 : Int32), setI h q11 (v2).toNatClampNeg (-1 : Int32))))
set_option maxHeartbeats 4000000 in
set_option maxRecDepth 100000 in
theorem r_X12_stove_l33 (v0 : Nat) (v1 : Int32) (v2 : Int32) (h : Hp) {x : Cx} {o : ((Int32 × Hp) ⊕ Hp)} (e : F_X12_stove_l33 v0 v1 v2 h = some o) (kI : ∀ z, o = .inl z → V M_X12_stove x 6 33 [(0, .ref v0), (1, .int v1), (2, .int z.1)] [] z.2 0 0) (kE52 : ∀ z : Hp, o = .inr z → V M_X12_stove x 6 52 [(0, .ref v0), (1, .int v1)] [] z 0 0) : V M_X12_stove x 6 33 [(0, .ref v0), (1, .int v1), (2, .int v2)] [] h 0 0 := by
  unfold F_X12_stove_l33 at e
  refine V_iload_n (pc := 33) (i := 2) dX12_stove_33 rfl rfl ?_
  refine V_ldc (pc := 34) (v := (32768 : Int32)) dX12_stove_34 (wk_X12_45) ?_
  refine V_icmp_ge (pc := 36) (tgt := 52) dX12_stove_36 (by decide) (fun c15 => ?_) (fun c15 => ?_)
  · rw [if_pos c15] at e
    cases e
    exact V_pick [0, 1] rfl (kE52 h rfl)
  · rw [if_neg c15] at e
    refine V_pick [0, 1, 2] rfl ?_
    refine V_aload_n (pc := 39) (i := 0) dX12_stove_39 rfl rfl ?_
    obtain ⟨g10, e⟩ := gd_some e
    obtain ⟨q11, g12, e⟩ := ob_some e
    refine V_getR (pc := 40) (ci := 11) (k := 21) (b := q11) dX12_stove_40 fl_X12_50 rfl (of_decide_eq_true g10) g12 ?_
    refine V_iload_n (pc := 43) (i := 2) dX12_stove_43 rfl rfl ?_
    refine V_iconst (pc := 44) (v := (-1 : Int32)) dX12_stove_44 (by decide) ?_
    obtain ⟨g13, e⟩ := gd_some e
    obtain ⟨g14, e⟩ := gd_some e
    refine V_iast (pc := 45) dX12_stove_45 (of_decide_eq_true g13) (ix_in g14) ?_
    refine V_iinc (pc := 46) (i := 2) (u := v2 + (1 : Int32)) (lv' := [(2, .int (v2 + (1 : Int32))), (0, .ref v0), (1, .int v1)]) dX12_stove_46 rfl rfl (by decide) rfl ?_
    refine V_goto (pc := 49) (tgt := 33) dX12_stove_49 (by decide) ?_
    cases e
    exact V_pick [1, 2, 0] rfl (kI (v2 + (1 : Int32), setI h q11 (v2).toNatClampNeg (-1 : Int32)) rfl)
set_option maxRecDepth 100000 in
def F_X12_stove_l137 (v0 : Nat) (v1 : Int32) (v3 : Int32) (v4 : Int32) (v5 : Int32) (v6 : Int32) (h : Hp) : Option ((Int32 × Hp) ⊕ Hp) :=
  ob (F_X12_rooms v0 h) fun r49 => gd (decide (kd h v0 = 11)) <| (if r49 ≤ v6 then some (.inr h) else ob (F_X12_sent v0 (v4 / (8 : Int32)) v5 v6 h) fun r52 => ob2 (F_X12_comes v0 (((8 : Int32) * r52) + (v4 - v4 / (8 : Int32) * (8 : Int32))) v4 h) fun _ h55 => some (.inl (v6 + (1 : Int32), h55)))
set_option maxHeartbeats 4000000 in
set_option maxRecDepth 100000 in
theorem r_X12_stove_l137 (v0 : Nat) (v1 : Int32) (v3 : Int32) (v4 : Int32) (v5 : Int32) (v6 : Int32) (h : Hp) {x : Cx} {o : ((Int32 × Hp) ⊕ Hp)} (e : F_X12_stove_l137 v0 v1 v3 v4 v5 v6 h = some o) (kI : ∀ z, o = .inl z → V M_X12_stove x 6 137 [(0, .ref v0), (1, .int v1), (3, .int v3), (4, .int v4), (5, .int v5), (6, .int z.1)] [] z.2 0 0) (kE180 : ∀ z : Hp, o = .inr z → V M_X12_stove x 6 180 [(0, .ref v0), (1, .int v1), (3, .int v3), (4, .int v4), (5, .int v5)] [] z 0 0) : V M_X12_stove x 6 137 [(0, .ref v0), (1, .int v1), (3, .int v3), (4, .int v4), (5, .int v5), (6, .int v6)] [] h 0 0 := by
  unfold F_X12_stove_l137 at e
  refine V_iload (pc := 137) (i := 6) dX12_stove_137 rfl ?_
  refine V_aload_n (pc := 139) (i := 0) dX12_stove_139 rfl rfl ?_
  obtain ⟨r49, g48, e⟩ := ob_some e
  obtain ⟨g50, e⟩ := gd_some e
  refine V_callV (pc := 140) (bc := 0) (bs := 0) (mc := 0) (ms := 0) (st := [.int v6]) (As := []) (a := v0) (h' := h) (r := some (.int r49)) dX12_stove_140 ml_X12_60 (ci := 11) rfl (of_decide_eq_true g50) rfl rfl (Nat.le_of_ble_eq_true rfl) (d' := 0) (by decide) (c_X12_rooms (l := x.2.1) v0 h g48) ?_
  refine V_icmp_ge (pc := 143) (tgt := 180) dX12_stove_143 (by decide) (fun c56 => ?_) (fun c56 => ?_)
  · rw [if_pos c56] at e
    cases e
    exact V_pick [0, 1, 2, 3, 4] rfl (kE180 h rfl)
  · rw [if_neg c56] at e
    refine V_pick [0, 1, 2, 3, 4, 5] rfl ?_
    refine V_aload_n (pc := 146) (i := 0) dX12_stove_146 rfl rfl ?_
    refine V_bipush (pc := 147) (v := (8 : Int32)) dX12_stove_147 (by decide) ?_
    refine V_aload_n (pc := 149) (i := 0) dX12_stove_149 rfl rfl ?_
    refine V_iload (pc := 150) (i := 4) dX12_stove_150 rfl ?_
    refine V_bipush (pc := 152) (v := (8 : Int32)) dX12_stove_152 (by decide) ?_
    refine V_idiv (pc := 154) dX12_stove_154 (by decide) ?_
    refine V_iload (pc := 155) (i := 5) dX12_stove_155 rfl ?_
    refine V_iload (pc := 157) (i := 6) dX12_stove_157 rfl ?_
    obtain ⟨r52, g51, e⟩ := ob_some e
    refine V_callV (pc := 159) (bc := 0) (bs := 0) (mc := 0) (ms := 0) (st := [.int (8 : Int32), .ref v0]) (As := [.int (v4 / (8 : Int32)), .int v5, .int v6]) (a := v0) (h' := h) (r := some (.int r52)) dX12_stove_159 ml_X12_361 (ci := 11) rfl (of_decide_eq_true g50) rfl rfl (Nat.le_of_ble_eq_true rfl) (d' := 1) (by decide) (c_X12_sent (l := x.2.1) v0 (v4 / (8 : Int32)) v5 v6 h g51) ?_
    refine V_imul (pc := 162) dX12_stove_162 ?_
    refine V_iload (pc := 163) (i := 4) dX12_stove_163 rfl ?_
    refine V_bipush (pc := 165) (v := (8 : Int32)) dX12_stove_165 (by decide) ?_
    refine V_irem (pc := 167) dX12_stove_167 (by decide) ?_
    refine V_iadd (pc := 168) dX12_stove_168 ?_
    refine V_iload (pc := 169) (i := 4) dX12_stove_169 rfl ?_
    obtain ⟨r54, h55, g53, e⟩ := ob2_some e
    refine V_callV (pc := 171) (bc := 0) (bs := 0) (mc := 0) (ms := 0) (st := []) (As := [.int (((8 : Int32) * r52) + (v4 - v4 / (8 : Int32) * (8 : Int32))), .int v4]) (a := v0) (h' := h55) (r := none) dX12_stove_171 ml_X12_386 (ci := 11) rfl (of_decide_eq_true g50) rfl rfl (Nat.le_of_ble_eq_true rfl) (d' := 5) (by decide) (c_X12_comes (l := x.2.1) v0 (((8 : Int32) * r52) + (v4 - v4 / (8 : Int32) * (8 : Int32))) v4 h g53) ?_
    refine V_iinc (pc := 174) (i := 6) (u := v6 + (1 : Int32)) (lv' := [(6, .int (v6 + (1 : Int32))), (0, .ref v0), (1, .int v1), (3, .int v3), (4, .int v4), (5, .int v5)]) dX12_stove_174 rfl rfl (by decide) rfl ?_
    refine V_goto (pc := 177) (tgt := 137) dX12_stove_177 (by decide) ?_
    cases e
    exact V_pick [1, 2, 3, 4, 5, 0] rfl (kI (v6 + (1 : Int32), h55) rfl)
set_option maxRecDepth 100000 in
def F_X12_stove_l125 (v0 : Nat) (v1 : Int32) (v3 : Int32) (v4 : Int32) (v5 : Int32) (h : Hp) : Option ((Int32 × Hp) ⊕ Hp) :=
  ob (F_X12_guests v0 h) fun r46 => gd (decide (kd h v0 = 11)) <| (if r46 ≤ v5 then some (.inr h) else ob (iter (fun z : Int32 × Hp => F_X12_stove_l137 v0 v1 v3 v4 v5 z.1 z.2) FU ((0 : Int32), h)) (fun h57 => some (.inl (v5 + (1 : Int32), h57))))
set_option maxHeartbeats 4000000 in
set_option maxRecDepth 100000 in
theorem r_X12_stove_l125 (v0 : Nat) (v1 : Int32) (v3 : Int32) (v4 : Int32) (v5 : Int32) (h : Hp) {x : Cx} {o : ((Int32 × Hp) ⊕ Hp)} (e : F_X12_stove_l125 v0 v1 v3 v4 v5 h = some o) (kI : ∀ z, o = .inl z → V M_X12_stove x 6 125 [(0, .ref v0), (1, .int v1), (3, .int v3), (4, .int v4), (5, .int z.1)] [] z.2 0 0) (kE186 : ∀ z : Hp, o = .inr z → V M_X12_stove x 6 186 [(0, .ref v0), (1, .int v1), (3, .int v3), (4, .int v4)] [] z 0 0) : V M_X12_stove x 6 125 [(0, .ref v0), (1, .int v1), (3, .int v3), (4, .int v4), (5, .int v5)] [] h 0 0 := by
  unfold F_X12_stove_l125 at e
  refine V_iload (pc := 125) (i := 5) dX12_stove_125 rfl ?_
  refine V_aload_n (pc := 127) (i := 0) dX12_stove_127 rfl rfl ?_
  obtain ⟨r46, g45, e⟩ := ob_some e
  obtain ⟨g47, e⟩ := gd_some e
  refine V_callV (pc := 128) (bc := 0) (bs := 0) (mc := 0) (ms := 0) (st := [.int v5]) (As := []) (a := v0) (h' := h) (r := some (.int r46)) dX12_stove_128 ml_X12_68 (ci := 11) rfl (of_decide_eq_true g47) rfl rfl (Nat.le_of_ble_eq_true rfl) (d' := 0) (by decide) (c_X12_guests (l := x.2.1) v0 h g45) ?_
  refine V_icmp_ge (pc := 131) (tgt := 186) dX12_stove_131 (by decide) (fun c60 => ?_) (fun c60 => ?_)
  · rw [if_pos c60] at e
    cases e
    exact V_pick [0, 1, 2, 3] rfl (kE186 h rfl)
  · rw [if_neg c60] at e
    refine V_pick [0, 1, 2, 3, 4] rfl ?_
    refine V_iconst (pc := 134) (v := (0 : Int32)) dX12_stove_134 (by decide) ?_
    refine V_istore (pc := 135) (i := 6) (lv' := [(6, .int (0 : Int32)), (0, .ref v0), (1, .int v1), (3, .int v3), (4, .int v4), (5, .int v5)]) dX12_stove_135 (by decide) rfl ?_
    refine V_pick [1, 2, 3, 4, 5, 0] rfl ?_
    obtain ⟨y58, g59, e⟩ := ob_some e
    refine iter_V (P := fun z : Int32 × Hp => V M_X12_stove x 6 137 [(0, .ref v0), (1, .int v1), (3, .int v3), (4, .int v4), (5, .int v5), (6, .int z.1)] [] z.2 0 0) (E := fun z : Hp => V M_X12_stove x 6 180 [(0, .ref v0), (1, .int v1), (3, .int v3), (4, .int v4), (5, .int v5)] [] z 0 0) (fun z o e9 k1 k2 => r_X12_stove_l137 v0 v1 v3 v4 v5 z.1 z.2 e9 (fun z hz9 => k1 z hz9) (fun z hz9 => k2 _ hz9)) _ _ _ g59 ?_
    clear g59
    obtain ⟨h57, rfl⟩ : ∃ q, q = y58 := ⟨_, rfl⟩
    replace e : (some (.inl (v5 + (1 : Int32), h57))) = some o := e
    show V M_X12_stove x 6 180 [(0, .ref v0), (1, .int v1), (3, .int v3), (4, .int v4), (5, .int v5)] [] h57 0 0
    refine V_iinc (pc := 180) (i := 5) (u := v5 + (1 : Int32)) (lv' := [(5, .int (v5 + (1 : Int32))), (0, .ref v0), (1, .int v1), (3, .int v3), (4, .int v4)]) dX12_stove_180 rfl rfl (by decide) rfl ?_
    refine V_goto (pc := 183) (tgt := 125) dX12_stove_183 (by decide) ?_
    cases e
    exact V_pick [1, 2, 3, 4, 0] rfl (kI (v5 + (1 : Int32), h57) rfl)
set_option maxRecDepth 100000 in
def F_X12_stove_b229 (v0 : Nat) (v1 : Int32) (v3 : Int32) (v4 : Int32) (v5 : Int32) (h : Hp) : Option ((Int32 × Hp) ⊕ Hp) :=
  some (.inl (v5 + (1 : Int32), h))
set_option maxHeartbeats 4000000 in
set_option maxRecDepth 100000 in
theorem r_X12_stove_b229 (v0 : Nat) (v1 : Int32) (v3 : Int32) (v4 : Int32) (v5 : Int32) (h : Hp) {x : Cx} {o : ((Int32 × Hp) ⊕ Hp)} (e : F_X12_stove_b229 v0 v1 v3 v4 v5 h = some o) (kI : ∀ z, o = .inl z → V M_X12_stove x 6 189 [(0, .ref v0), (1, .int v1), (3, .int v3), (4, .int v4), (5, .int z.1)] [] z.2 0 0) (kE235 : ∀ z : Hp, o = .inr z → V M_X12_stove x 6 235 [(0, .ref v0), (1, .int v1), (3, .int v3)] [] z 0 0) : V M_X12_stove x 6 229 [(0, .ref v0), (1, .int v1), (3, .int v3), (4, .int v4), (5, .int v5)] [] h 0 0 := by
  unfold F_X12_stove_b229 at e
  refine V_iinc (pc := 229) (i := 5) (u := v5 + (1 : Int32)) (lv' := [(5, .int (v5 + (1 : Int32))), (0, .ref v0), (1, .int v1), (3, .int v3), (4, .int v4)]) dX12_stove_229 rfl rfl (by decide) rfl ?_
  refine V_goto (pc := 232) (tgt := 189) dX12_stove_232 (by decide) ?_
  cases e
  exact V_pick [1, 2, 3, 4, 0] rfl (kI (v5 + (1 : Int32), h) rfl)
set_option maxRecDepth 100000 in
def F_X12_stove_l189 (v0 : Nat) (v1 : Int32) (v3 : Int32) (v4 : Int32) (v5 : Int32) (h : Hp) : Option ((Int32 × Hp) ⊕ Hp) :=
  ob (F_X12_rooms v0 h) fun r63 => gd (decide (kd h v0 = 11)) <| (if r63 ≤ v5 then some (.inr h) else ob (F_X12_isStep v0 (v4 - v4 / (8 : Int32) * (8 : Int32)) v5 h) fun r66 => (if r66 = 0 then F_X12_stove_b229 v0 v1 v3 v4 v5 h else ob2 (F_X12_comes v0 (((v4 / (8 : Int32)) * (8 : Int32)) + v5) v4 h) fun _ h69 => F_X12_stove_b229 v0 v1 v3 v4 v5 h69))
set_option maxHeartbeats 4000000 in
set_option maxRecDepth 100000 in
theorem r_X12_stove_l189 (v0 : Nat) (v1 : Int32) (v3 : Int32) (v4 : Int32) (v5 : Int32) (h : Hp) {x : Cx} {o : ((Int32 × Hp) ⊕ Hp)} (e : F_X12_stove_l189 v0 v1 v3 v4 v5 h = some o) (kI : ∀ z, o = .inl z → V M_X12_stove x 6 189 [(0, .ref v0), (1, .int v1), (3, .int v3), (4, .int v4), (5, .int z.1)] [] z.2 0 0) (kE235 : ∀ z : Hp, o = .inr z → V M_X12_stove x 6 235 [(0, .ref v0), (1, .int v1), (3, .int v3)] [] z 0 0) : V M_X12_stove x 6 189 [(0, .ref v0), (1, .int v1), (3, .int v3), (4, .int v4), (5, .int v5)] [] h 0 0 := by
  unfold F_X12_stove_l189 at e
  refine V_iload (pc := 189) (i := 5) dX12_stove_189 rfl ?_
  refine V_aload_n (pc := 191) (i := 0) dX12_stove_191 rfl rfl ?_
  obtain ⟨r63, g62, e⟩ := ob_some e
  obtain ⟨g64, e⟩ := gd_some e
  refine V_callV (pc := 192) (bc := 0) (bs := 0) (mc := 0) (ms := 0) (st := [.int v5]) (As := []) (a := v0) (h' := h) (r := some (.int r63)) dX12_stove_192 ml_X12_60 (ci := 11) rfl (of_decide_eq_true g64) rfl rfl (Nat.le_of_ble_eq_true rfl) (d' := 0) (by decide) (c_X12_rooms (l := x.2.1) v0 h g62) ?_
  refine V_icmp_ge (pc := 195) (tgt := 235) dX12_stove_195 (by decide) (fun c71 => ?_) (fun c71 => ?_)
  · rw [if_pos c71] at e
    cases e
    exact V_pick [0, 1, 2] rfl (kE235 h rfl)
  · rw [if_neg c71] at e
    refine V_pick [0, 1, 2, 3, 4] rfl ?_
    refine V_aload_n (pc := 198) (i := 0) dX12_stove_198 rfl rfl ?_
    refine V_iload (pc := 199) (i := 4) dX12_stove_199 rfl ?_
    refine V_bipush (pc := 201) (v := (8 : Int32)) dX12_stove_201 (by decide) ?_
    refine V_irem (pc := 203) dX12_stove_203 (by decide) ?_
    refine V_iload (pc := 204) (i := 5) dX12_stove_204 rfl ?_
    obtain ⟨r66, g65, e⟩ := ob_some e
    refine V_callV (pc := 206) (bc := 0) (bs := 0) (mc := 0) (ms := 0) (st := []) (As := [.int (v4 - v4 / (8 : Int32) * (8 : Int32)), .int v5]) (a := v0) (h' := h) (r := some (.int r66)) dX12_stove_206 ml_X12_389 (ci := 11) rfl (of_decide_eq_true g64) rfl rfl (Nat.le_of_ble_eq_true rfl) (d' := 2) (by decide) (c_X12_isStep (l := x.2.1) v0 (v4 - v4 / (8 : Int32) * (8 : Int32)) v5 h g65) ?_
    refine V_if_eq (pc := 209) (tgt := 229) dX12_stove_209 (by decide) (fun c70 => ?_) (fun c70 => ?_)
    · rw [if_pos c70] at e
      exact V_pick [0, 1, 2, 3, 4] rfl (r_X12_stove_b229 v0 v1 v3 v4 v5 h e kI kE235)
    · rw [if_neg c70] at e
      refine V_pick [0, 1, 2, 3, 4] rfl ?_
      refine V_aload_n (pc := 212) (i := 0) dX12_stove_212 rfl rfl ?_
      refine V_iload (pc := 213) (i := 4) dX12_stove_213 rfl ?_
      refine V_bipush (pc := 215) (v := (8 : Int32)) dX12_stove_215 (by decide) ?_
      refine V_idiv (pc := 217) dX12_stove_217 (by decide) ?_
      refine V_bipush (pc := 218) (v := (8 : Int32)) dX12_stove_218 (by decide) ?_
      refine V_imul (pc := 220) dX12_stove_220 ?_
      refine V_iload (pc := 221) (i := 5) dX12_stove_221 rfl ?_
      refine V_iadd (pc := 223) dX12_stove_223 ?_
      refine V_iload (pc := 224) (i := 4) dX12_stove_224 rfl ?_
      obtain ⟨r68, h69, g67, e⟩ := ob2_some e
      refine V_callV (pc := 226) (bc := 0) (bs := 0) (mc := 0) (ms := 0) (st := []) (As := [.int (((v4 / (8 : Int32)) * (8 : Int32)) + v5), .int v4]) (a := v0) (h' := h69) (r := none) dX12_stove_226 ml_X12_386 (ci := 11) rfl (of_decide_eq_true g64) rfl rfl (Nat.le_of_ble_eq_true rfl) (d' := 5) (by decide) (c_X12_comes (l := x.2.1) v0 (((v4 / (8 : Int32)) * (8 : Int32)) + v5) v4 h g67) ?_
      exact V_pick [0, 1, 2, 3, 4] rfl (r_X12_stove_b229 v0 v1 v3 v4 v5 h69 e kI kE235)
set_option maxRecDepth 100000 in
def F_X12_stove_l89 (v0 : Nat) (v1 : Int32) (v3 : Int32) (h : Hp) : Option ((Int32 × Hp) ⊕ (Hp ⊕ (Int32 × Hp))) :=
  gd (decide (kd h v0 = 11)) <| (if (zI h v0 26) ≤ v3 then some (.inr (.inl h)) else ob (zR h v0 22) fun q41 => gd (decide (kd h q41 = 13)) <| gd (ix v3 (zl h q41)) <| (if ((zI h q41 (v3).toNatClampNeg) - (zI h q41 (v3).toNatClampNeg) / (8 : Int32) * (8 : Int32)) = v1 then some (.inr (.inr (zI h q41 (v3).toNatClampNeg, h))) else ob (iter (fun z : Int32 × Hp => F_X12_stove_l125 v0 v1 v3 (zI h q41 (v3).toNatClampNeg) z.1 z.2) FU ((0 : Int32), h)) (fun h61 => ob (iter (fun z : Int32 × Hp => F_X12_stove_l189 v0 v1 v3 (zI h q41 (v3).toNatClampNeg) z.1 z.2) FU ((0 : Int32), h61)) (fun h72 => some (.inl (v3 + (1 : Int32), h72))))))
set_option maxHeartbeats 4000000 in
set_option maxRecDepth 100000 in
theorem r_X12_stove_l89 (v0 : Nat) (v1 : Int32) (v3 : Int32) (h : Hp) {x : Cx} {o : ((Int32 × Hp) ⊕ (Hp ⊕ (Int32 × Hp)))} (e : F_X12_stove_l89 v0 v1 v3 h = some o) (kI : ∀ z, o = .inl z → V M_X12_stove x 6 89 [(0, .ref v0), (1, .int v1), (3, .int z.1)] [] z.2 0 0) (kE241 : ∀ z : Hp, o = .inr (.inl z) → V M_X12_stove x 6 241 [] [] z 0 0) (kE114 : ∀ z : Int32 × Hp, o = .inr (.inr z) → V M_X12_stove x 6 114 [(0, .ref v0), (4, .int z.1)] [] z.2 0 0) : V M_X12_stove x 6 89 [(0, .ref v0), (1, .int v1), (3, .int v3)] [] h 0 0 := by
  unfold F_X12_stove_l89 at e
  refine V_iload_n (pc := 89) (i := 3) dX12_stove_89 rfl rfl ?_
  refine V_aload_n (pc := 90) (i := 0) dX12_stove_90 rfl rfl ?_
  obtain ⟨g40, e⟩ := gd_some e
  refine V_getI (pc := 91) (ci := 11) (k := 26) dX12_stove_91 fl_X12_383 rfl (of_decide_eq_true g40) ?_
  refine V_icmp_ge (pc := 94) (tgt := 241) dX12_stove_94 (by decide) (fun c78 => ?_) (fun c78 => ?_)
  · rw [if_pos c78] at e
    cases e
    exact V_pick [] rfl (kE241 h rfl)
  · rw [if_neg c78] at e
    refine V_pick [0, 1, 2] rfl ?_
    refine V_aload_n (pc := 97) (i := 0) dX12_stove_97 rfl rfl ?_
    obtain ⟨q41, g42, e⟩ := ob_some e
    refine V_getR (pc := 98) (ci := 11) (k := 22) (b := q41) dX12_stove_98 fl_X12_53 rfl (of_decide_eq_true g40) g42 ?_
    refine V_iload_n (pc := 101) (i := 3) dX12_stove_101 rfl rfl ?_
    obtain ⟨g43, e⟩ := gd_some e
    obtain ⟨g44, e⟩ := gd_some e
    refine V_iald (pc := 102) dX12_stove_102 (of_decide_eq_true g43) (ix_in g44) ?_
    refine V_istore (pc := 103) (i := 4) (lv' := [(4, .int (zI h q41 (v3).toNatClampNeg)), (0, .ref v0), (1, .int v1), (3, .int v3)]) dX12_stove_103 (by decide) rfl ?_
    refine V_iload (pc := 105) (i := 4) dX12_stove_105 rfl ?_
    refine V_bipush (pc := 107) (v := (8 : Int32)) dX12_stove_107 (by decide) ?_
    refine V_irem (pc := 109) dX12_stove_109 (by decide) ?_
    refine V_iload_n (pc := 110) (i := 1) dX12_stove_110 rfl rfl ?_
    refine V_icmp_ne (pc := 111) (tgt := 122) dX12_stove_111 (by decide) (fun c77 => ?_) (fun c77 => ?_)
    · rw [if_neg c77] at e
      refine V_pick [1, 2, 3, 0] rfl ?_
      refine V_iconst (pc := 122) (v := (0 : Int32)) dX12_stove_122 (by decide) ?_
      refine V_istore (pc := 123) (i := 5) (lv' := [(5, .int (0 : Int32)), (0, .ref v0), (1, .int v1), (3, .int v3), (4, .int (zI h q41 (v3).toNatClampNeg))]) dX12_stove_123 (by decide) rfl ?_
      refine V_pick [1, 2, 3, 4, 0] rfl ?_
      obtain ⟨y75, g76, e⟩ := ob_some e
      refine iter_V (P := fun z : Int32 × Hp => V M_X12_stove x 6 125 [(0, .ref v0), (1, .int v1), (3, .int v3), (4, .int (zI h q41 (v3).toNatClampNeg)), (5, .int z.1)] [] z.2 0 0) (E := fun z : Hp => V M_X12_stove x 6 186 [(0, .ref v0), (1, .int v1), (3, .int v3), (4, .int (zI h q41 (v3).toNatClampNeg))] [] z 0 0) (fun z o e9 k1 k2 => r_X12_stove_l125 v0 v1 v3 (zI h q41 (v3).toNatClampNeg) z.1 z.2 e9 (fun z hz9 => k1 z hz9) (fun z hz9 => k2 _ hz9)) _ _ _ g76 ?_
      clear g76
      obtain ⟨h61, rfl⟩ : ∃ q, q = y75 := ⟨_, rfl⟩
      replace e : (ob (iter (fun z : Int32 × Hp => F_X12_stove_l189 v0 v1 v3 (zI h q41 (v3).toNatClampNeg) z.1 z.2) FU ((0 : Int32), h61)) (fun h72 => some (.inl (v3 + (1 : Int32), h72)))) = some o := e
      show V M_X12_stove x 6 186 [(0, .ref v0), (1, .int v1), (3, .int v3), (4, .int (zI h q41 (v3).toNatClampNeg))] [] h61 0 0
      refine V_iconst (pc := 186) (v := (0 : Int32)) dX12_stove_186 (by decide) ?_
      refine V_istore (pc := 187) (i := 5) (lv' := [(5, .int (0 : Int32)), (0, .ref v0), (1, .int v1), (3, .int v3), (4, .int (zI h q41 (v3).toNatClampNeg))]) dX12_stove_187 (by decide) rfl ?_
      refine V_pick [1, 2, 3, 4, 0] rfl ?_
      obtain ⟨y73, g74, e⟩ := ob_some e
      refine iter_V (P := fun z : Int32 × Hp => V M_X12_stove x 6 189 [(0, .ref v0), (1, .int v1), (3, .int v3), (4, .int (zI h q41 (v3).toNatClampNeg)), (5, .int z.1)] [] z.2 0 0) (E := fun z : Hp => V M_X12_stove x 6 235 [(0, .ref v0), (1, .int v1), (3, .int v3)] [] z 0 0) (fun z o e9 k1 k2 => r_X12_stove_l189 v0 v1 v3 (zI h q41 (v3).toNatClampNeg) z.1 z.2 e9 (fun z hz9 => k1 z hz9) (fun z hz9 => k2 _ hz9)) _ _ _ g74 ?_
      clear g74
      obtain ⟨h72, rfl⟩ : ∃ q, q = y73 := ⟨_, rfl⟩
      replace e : (some (.inl (v3 + (1 : Int32), h72))) = some o := e
      show V M_X12_stove x 6 235 [(0, .ref v0), (1, .int v1), (3, .int v3)] [] h72 0 0
      refine V_iinc (pc := 235) (i := 3) (u := v3 + (1 : Int32)) (lv' := [(3, .int (v3 + (1 : Int32))), (0, .ref v0), (1, .int v1)]) dX12_stove_235 rfl rfl (by decide) rfl ?_
      refine V_goto (pc := 238) (tgt := 89) dX12_stove_238 (by decide) ?_
      cases e
      exact V_pick [1, 2, 0] rfl (kI (v3 + (1 : Int32), h72) rfl)
    · rw [if_pos c77] at e
      cases e
      exact V_pick [1, 0] rfl (kE114 (zI h q41 (v3).toNatClampNeg, h) rfl)
set_option maxRecDepth 100000 in
def F_X12_stove_b0 (v0 : Nat) (v1 : Int32) (h : Hp) : Option (Int32 × Hp) :=
  gd (decide (kd h v0 = 11)) <| ob (F_X12_noRoom v0 v1 (setI h v0 0 (0 : Int32))) fun r3 => ob2 (F_X12_throwsIf v0 r3 (1 : Int32) (setI h v0 0 (0 : Int32))) fun r5 h6 => (if r5 = 0 then ob (F_X12_guests v0 h6) fun r8 => gd (decide (kd h6 v0 = 11)) <| (if r8 = (5 : Int32) then some ((-3 : Int32), h6) else ob (iter (fun z : Int32 × Hp => F_X12_stove_l33 v0 v1 z.1 z.2) FU ((0 : Int32), h6)) (fun h16 => ob2 (F_X12_now v0 h16) fun r18 h19 => gd (decide (kd h16 v0 = 11)) <| gd (decide (kd h19 v0 = 11)) <| ob (zR h19 v0 1) fun q22 => gd (decide (kd h19 q22 = 13)) <| gd (ix (6 : Int32) (zl h19 q22)) <| ob (zR h19 v0 21) fun q26 => gd (decide (kd h19 q26 = 13)) <| gd (ix (((8 : Int32) * r18) + (zI h19 q22 ((6 : Int32)).toNatClampNeg)) (zl h19 q26)) <| ob (zR (setI h19 q26 (((8 : Int32) * r18) + (zI h19 q22 ((6 : Int32)).toNatClampNeg)).toNatClampNeg (0 : Int32)) v0 22) fun q30 => gd (decide (kd (setI h19 q26 (((8 : Int32) * r18) + (zI h19 q22 ((6 : Int32)).toNatClampNeg)).toNatClampNeg (0 : Int32)) q30 = 13)) <| gd (ix (0 : Int32) (zl (setI h19 q26 (((8 : Int32) * r18) + (zI h19 q22 ((6 : Int32)).toNatClampNeg)).toNatClampNeg (0 : Int32)) q30)) <| ob (some (setI (setI h19 q26 (((8 : Int32) * r18) + (zI h19 q22 ((6 : Int32)).toNatClampNeg)).toNatClampNeg (0 : Int32)) q30 ((0 : Int32)).toNatClampNeg (((8 : Int32) * r18) + (zI h19 q22 ((6 : Int32)).toNatClampNeg)))) fun h34 => ob (iter (fun z : Int32 × Hp => F_X12_stove_l89 v0 v1 z.1 z.2) FU ((0 : Int32), setI h34 v0 26 (1 : Int32))) (fun z => sm z (fun h79 => some ((-1 : Int32), h79)) (fun z => un2 z fun w80 h81 => gd (decide (kd h81 v0 = 11)) <| ob (zR h81 v0 21) fun q83 => gd (decide (kd h81 q83 = 13)) <| gd (ix w80 (zl h81 q83)) <| some (zI h81 q83 (w80).toNatClampNeg, h81))))) else some ((0 : Int32), h6))
set_option maxHeartbeats 4000000 in
set_option maxRecDepth 100000 in
theorem r_X12_stove_b0 (v0 : Nat) (v1 : Int32) (h : Hp) {x : Cx} {r : Int32} {hz : Hp} (e : F_X12_stove_b0 v0 v1 h = some (r, hz)) (hF : Fin9 M_X12_stove x (some .int) (some (.int r)) hz) : V M_X12_stove x 6 0 [(0, .ref v0), (1, .int v1)] [] h 0 0 := by
  unfold F_X12_stove_b0 at e
  refine V_aload_n (pc := 0) (i := 0) dX12_stove_0 rfl rfl ?_
  refine V_iconst (pc := 1) (v := (0 : Int32)) dX12_stove_1 (by decide) ?_
  obtain ⟨g1, e⟩ := gd_some e
  refine V_putI (pc := 2) (ci := 11) (k := 0) dX12_stove_2 fp_X12_3 rfl (of_decide_eq_true g1) ?_
  refine V_aload_n (pc := 5) (i := 0) dX12_stove_5 rfl rfl ?_
  refine V_aload_n (pc := 6) (i := 0) dX12_stove_6 rfl rfl ?_
  refine V_iload_n (pc := 7) (i := 1) dX12_stove_7 rfl rfl ?_
  obtain ⟨r3, g2, e⟩ := ob_some e
  refine V_callV (pc := 8) (bc := 0) (bs := 0) (mc := 0) (ms := 0) (st := [.ref v0]) (As := [.int v1]) (a := v0) (h' := (setI h v0 0 (0 : Int32))) (r := some (.int r3)) dX12_stove_8 ml_X12_250 (ci := 11) rfl (kd_sI (of_decide_eq_true g1)) rfl rfl (Nat.le_of_ble_eq_true rfl) (d' := 1) (by decide) (c_X12_noRoom (l := x.2.1) v0 v1 (setI h v0 0 (0 : Int32)) g2) ?_
  refine V_iconst (pc := 11) (v := (1 : Int32)) dX12_stove_11 (by decide) ?_
  obtain ⟨r5, h6, g4, e⟩ := ob2_some e
  refine V_callV (pc := 12) (bc := 0) (bs := 0) (mc := 0) (ms := 0) (st := []) (As := [.int r3, .int (1 : Int32)]) (a := v0) (h' := h6) (r := some (.int r5)) dX12_stove_12 ml_X12_240 (ci := 11) rfl (kd_sI (of_decide_eq_true g1)) rfl rfl (Nat.le_of_ble_eq_true rfl) (d' := 0) (by decide) (c_X12_throwsIf (l := x.2.1) v0 r3 (1 : Int32) (setI h v0 0 (0 : Int32)) g4) ?_
  refine V_if_eq (pc := 15) (tgt := 20) dX12_stove_15 (by decide) (fun c94 => ?_) (fun c94 => ?_)
  · rw [if_pos c94] at e
    refine V_pick [0, 1] rfl ?_
    refine V_aload_n (pc := 20) (i := 0) dX12_stove_20 rfl rfl ?_
    obtain ⟨r8, g7, e⟩ := ob_some e
    obtain ⟨g9, e⟩ := gd_some e
    refine V_callV (pc := 21) (bc := 0) (bs := 0) (mc := 0) (ms := 0) (st := []) (As := []) (a := v0) (h' := h6) (r := some (.int r8)) dX12_stove_21 ml_X12_68 (ci := 11) rfl (of_decide_eq_true g9) rfl rfl (Nat.le_of_ble_eq_true rfl) (d' := 0) (by decide) (c_X12_guests (l := x.2.1) v0 h6 g7) ?_
    refine V_iconst (pc := 24) (v := (5 : Int32)) dX12_stove_24 (by decide) ?_
    refine V_icmp_ne (pc := 25) (tgt := 31) dX12_stove_25 (by decide) (fun c93 => ?_) (fun c93 => ?_)
    · rw [if_neg c93] at e
      refine V_pick [0, 1] rfl ?_
      refine V_iconst (pc := 31) (v := (0 : Int32)) dX12_stove_31 (by decide) ?_
      refine V_istore_n (pc := 32) (i := 2) (lv' := [(2, .int (0 : Int32)), (0, .ref v0), (1, .int v1)]) dX12_stove_32 rfl (by decide) rfl ?_
      refine V_pick [1, 2, 0] rfl ?_
      obtain ⟨y91, g92, e⟩ := ob_some e
      refine iter_V (P := fun z : Int32 × Hp => V M_X12_stove x 6 33 [(0, .ref v0), (1, .int v1), (2, .int z.1)] [] z.2 0 0) (E := fun z : Hp => V M_X12_stove x 6 52 [(0, .ref v0), (1, .int v1)] [] z 0 0) (fun z o e9 k1 k2 => r_X12_stove_l33 v0 v1 z.1 z.2 e9 (fun z hz9 => k1 z hz9) (fun z hz9 => k2 _ hz9)) _ _ _ g92 ?_
      clear g92
      obtain ⟨h16, rfl⟩ : ∃ q, q = y91 := ⟨_, rfl⟩
      replace e : (ob2 (F_X12_now v0 h16) fun r18 h19 => gd (decide (kd h16 v0 = 11)) <| gd (decide (kd h19 v0 = 11)) <| ob (zR h19 v0 1) fun q22 => gd (decide (kd h19 q22 = 13)) <| gd (ix (6 : Int32) (zl h19 q22)) <| ob (zR h19 v0 21) fun q26 => gd (decide (kd h19 q26 = 13)) <| gd (ix (((8 : Int32) * r18) + (zI h19 q22 ((6 : Int32)).toNatClampNeg)) (zl h19 q26)) <| ob (zR (setI h19 q26 (((8 : Int32) * r18) + (zI h19 q22 ((6 : Int32)).toNatClampNeg)).toNatClampNeg (0 : Int32)) v0 22) fun q30 => gd (decide (kd (setI h19 q26 (((8 : Int32) * r18) + (zI h19 q22 ((6 : Int32)).toNatClampNeg)).toNatClampNeg (0 : Int32)) q30 = 13)) <| gd (ix (0 : Int32) (zl (setI h19 q26 (((8 : Int32) * r18) + (zI h19 q22 ((6 : Int32)).toNatClampNeg)).toNatClampNeg (0 : Int32)) q30)) <| ob (some (setI (setI h19 q26 (((8 : Int32) * r18) + (zI h19 q22 ((6 : Int32)).toNatClampNeg)).toNatClampNeg (0 : Int32)) q30 ((0 : Int32)).toNatClampNeg (((8 : Int32) * r18) + (zI h19 q22 ((6 : Int32)).toNatClampNeg)))) fun h34 => ob (iter (fun z : Int32 × Hp => F_X12_stove_l89 v0 v1 z.1 z.2) FU ((0 : Int32), setI h34 v0 26 (1 : Int32))) (fun z => sm z (fun h79 => some ((-1 : Int32), h79)) (fun z => un2 z fun w80 h81 => gd (decide (kd h81 v0 = 11)) <| ob (zR h81 v0 21) fun q83 => gd (decide (kd h81 q83 = 13)) <| gd (ix w80 (zl h81 q83)) <| some (zI h81 q83 (w80).toNatClampNeg, h81)))) = some (r, hz) := e
      show V M_X12_stove x 6 52 [(0, .ref v0), (1, .int v1)] [] h16 0 0
      refine V_bipush (pc := 52) (v := (8 : Int32)) dX12_stove_52 (by decide) ?_
      refine V_aload_n (pc := 54) (i := 0) dX12_stove_54 rfl rfl ?_
      obtain ⟨r18, h19, g17, e⟩ := ob2_some e
      obtain ⟨g20, e⟩ := gd_some e
      refine V_callV (pc := 55) (bc := 0) (bs := 0) (mc := 0) (ms := 0) (st := [.int (8 : Int32)]) (As := []) (a := v0) (h' := h19) (r := some (.int r18)) dX12_stove_55 ml_X12_371 (ci := 11) rfl (of_decide_eq_true g20) rfl rfl (Nat.le_of_ble_eq_true rfl) (d' := 2) (by decide) (c_X12_now (l := x.2.1) v0 h16 g17) ?_
      refine V_imul (pc := 58) dX12_stove_58 ?_
      refine V_aload_n (pc := 59) (i := 0) dX12_stove_59 rfl rfl ?_
      obtain ⟨g21, e⟩ := gd_some e
      obtain ⟨q22, g23, e⟩ := ob_some e
      refine V_getR (pc := 60) (ci := 11) (k := 1) (b := q22) dX12_stove_60 fl_X12_13 rfl (of_decide_eq_true g21) g23 ?_
      refine V_bipush (pc := 63) (v := (6 : Int32)) dX12_stove_63 (by decide) ?_
      obtain ⟨g24, e⟩ := gd_some e
      obtain ⟨g25, e⟩ := gd_some e
      refine V_iald (pc := 65) dX12_stove_65 (of_decide_eq_true g24) (ix_in g25) ?_
      refine V_iadd (pc := 66) dX12_stove_66 ?_
      refine V_istore_n (pc := 67) (i := 2) (lv' := [(2, .int (((8 : Int32) * r18) + (zI h19 q22 ((6 : Int32)).toNatClampNeg))), (0, .ref v0), (1, .int v1)]) dX12_stove_67 rfl (by decide) rfl ?_
      refine V_aload_n (pc := 68) (i := 0) dX12_stove_68 rfl rfl ?_
      obtain ⟨q26, g27, e⟩ := ob_some e
      refine V_getR (pc := 69) (ci := 11) (k := 21) (b := q26) dX12_stove_69 fl_X12_50 rfl (of_decide_eq_true g21) g27 ?_
      refine V_iload_n (pc := 72) (i := 2) dX12_stove_72 rfl rfl ?_
      refine V_iconst (pc := 73) (v := (0 : Int32)) dX12_stove_73 (by decide) ?_
      obtain ⟨g28, e⟩ := gd_some e
      obtain ⟨g29, e⟩ := gd_some e
      refine V_iast (pc := 74) dX12_stove_74 (of_decide_eq_true g28) (ix_in g29) ?_
      refine V_aload_n (pc := 75) (i := 0) dX12_stove_75 rfl rfl ?_
      obtain ⟨q30, g31, e⟩ := ob_some e
      refine V_getR (pc := 76) (ci := 11) (k := 22) (b := q30) dX12_stove_76 fl_X12_53 rfl (kd_sI (of_decide_eq_true g21)) g31 ?_
      refine V_iconst (pc := 79) (v := (0 : Int32)) dX12_stove_79 (by decide) ?_
      refine V_iload_n (pc := 80) (i := 2) dX12_stove_80 rfl rfl ?_
      obtain ⟨g32, e⟩ := gd_some e
      obtain ⟨g33, e⟩ := gd_some e
      refine V_iast (pc := 81) dX12_stove_81 (of_decide_eq_true g32) (ix_in g33) ?_
      obtain ⟨h34, g35, e⟩ := ob_some e
      refine V_hp (Option.some.inj g35) ?_
      have k36 : kd h34 v0 = 11 := kd_eq (h := (setI (setI h19 q26 (((8 : Int32) * r18) + (zI h19 q22 ((6 : Int32)).toNatClampNeg)).toNatClampNeg (0 : Int32)) q30 ((0 : Int32)).toNatClampNeg (((8 : Int32) * r18) + (zI h19 q22 ((6 : Int32)).toNatClampNeg)))) (Option.some.inj g35) (kd_sI (kd_sI (of_decide_eq_true g21)))
      have k37 : kd h34 q22 = 13 := kd_eq (h := (setI (setI h19 q26 (((8 : Int32) * r18) + (zI h19 q22 ((6 : Int32)).toNatClampNeg)).toNatClampNeg (0 : Int32)) q30 ((0 : Int32)).toNatClampNeg (((8 : Int32) * r18) + (zI h19 q22 ((6 : Int32)).toNatClampNeg)))) (Option.some.inj g35) (kd_sI (kd_sI (of_decide_eq_true g24)))
      have k38 : kd h34 q26 = 13 := kd_eq (h := (setI (setI h19 q26 (((8 : Int32) * r18) + (zI h19 q22 ((6 : Int32)).toNatClampNeg)).toNatClampNeg (0 : Int32)) q30 ((0 : Int32)).toNatClampNeg (((8 : Int32) * r18) + (zI h19 q22 ((6 : Int32)).toNatClampNeg)))) (Option.some.inj g35) (kd_sI (kd_sI (of_decide_eq_true g28)))
      have k39 : kd h34 q30 = 13 := kd_eq (h := (setI (setI h19 q26 (((8 : Int32) * r18) + (zI h19 q22 ((6 : Int32)).toNatClampNeg)).toNatClampNeg (0 : Int32)) q30 ((0 : Int32)).toNatClampNeg (((8 : Int32) * r18) + (zI h19 q22 ((6 : Int32)).toNatClampNeg)))) (Option.some.inj g35) (kd_sI (of_decide_eq_true g32))
      refine V_aload_n (pc := 82) (i := 0) dX12_stove_82 rfl rfl ?_
      refine V_iconst (pc := 83) (v := (1 : Int32)) dX12_stove_83 (by decide) ?_
      refine V_putI (pc := 84) (ci := 11) (k := 26) dX12_stove_84 fp_X12_383 rfl k36 ?_
      refine V_iconst (pc := 87) (v := (0 : Int32)) dX12_stove_87 (by decide) ?_
      refine V_istore_n (pc := 88) (i := 3) (lv' := [(3, .int (0 : Int32)), (2, .int (((8 : Int32) * r18) + (zI h19 q22 ((6 : Int32)).toNatClampNeg))), (0, .ref v0), (1, .int v1)]) dX12_stove_88 rfl (by decide) rfl ?_
      refine V_pick [2, 3, 0] rfl ?_
      obtain ⟨y87, g88, e⟩ := ob_some e
      refine iter_V (P := fun z : Int32 × Hp => V M_X12_stove x 6 89 [(0, .ref v0), (1, .int v1), (3, .int z.1)] [] z.2 0 0) (E := fun z => Sum.elim (fun z : Hp => V M_X12_stove x 6 241 [] [] z 0 0) (fun z : Int32 × Hp => V M_X12_stove x 6 114 [(0, .ref v0), (4, .int z.1)] [] z.2 0 0) z) (fun z o e9 k1 k2 => r_X12_stove_l89 v0 v1 z.1 z.2 e9 (fun z hz9 => k1 z hz9) (fun z hz9 => k2 _ hz9) (fun z hz9 => k2 _ hz9)) _ _ _ g88 ?_
      clear g88
      rcases y87 with y89 | y90
      · obtain ⟨h79, rfl⟩ : ∃ q, q = y89 := ⟨_, rfl⟩
        replace e : (some ((-1 : Int32), h79)) = some (r, hz) := e
        show V M_X12_stove x 6 241 [] [] h79 0 0
        refine V_iconst (pc := 241) (v := (-1 : Int32)) dX12_stove_241 (by decide) ?_
        cases e
        exact V_iret (pc := 242) dX12_stove_242 hF
      · obtain ⟨w80, h81⟩ := y90
        replace e : (gd (decide (kd h81 v0 = 11)) <| ob (zR h81 v0 21) fun q83 => gd (decide (kd h81 q83 = 13)) <| gd (ix w80 (zl h81 q83)) <| some (zI h81 q83 (w80).toNatClampNeg, h81)) = some (r, hz) := e
        show V M_X12_stove x 6 114 [(0, .ref v0), (4, .int w80)] [] h81 0 0
        refine V_aload_n (pc := 114) (i := 0) dX12_stove_114 rfl rfl ?_
        obtain ⟨g82, e⟩ := gd_some e
        obtain ⟨q83, g84, e⟩ := ob_some e
        refine V_getR (pc := 115) (ci := 11) (k := 21) (b := q83) dX12_stove_115 fl_X12_50 rfl (of_decide_eq_true g82) g84 ?_
        refine V_iload (pc := 118) (i := 4) dX12_stove_118 rfl ?_
        obtain ⟨g85, e⟩ := gd_some e
        obtain ⟨g86, e⟩ := gd_some e
        refine V_iald (pc := 120) dX12_stove_120 (of_decide_eq_true g85) (ix_in g86) ?_
        cases e
        exact V_iret (pc := 121) dX12_stove_121 hF
    · rw [if_pos c93] at e
      refine V_pick [] rfl ?_
      refine V_bipush (pc := 28) (v := (-3 : Int32)) dX12_stove_28 (by decide) ?_
      cases e
      exact V_iret (pc := 30) dX12_stove_30 hF
  · rw [if_neg c94] at e
    refine V_pick [] rfl ?_
    refine V_iconst (pc := 18) (v := (0 : Int32)) dX12_stove_18 (by decide) ?_
    cases e
    exact V_iret (pc := 19) dX12_stove_19 hF
def F_X12_stove (v0 : Nat) (v1 : Int32) (h : Hp) : Option (Int32 × Hp) := F_X12_stove_b0 v0 v1 h
theorem c_X12_stove {l : Launch} (v0 : Nat) (v1 : Int32) (h : Hp) {r : Int32} {hz : Hp} (e : F_X12_stove v0 v1 h = some (r, hz)) : Ct l yX12_stove M_X12_stove (some .int) 6 [.ref v0, .int v1] h 0 0 (some (.int r)) hz :=
  Ct_of rfl rfl (fun q => by cases q) (Nat.le_of_ble_eq_true rfl) (fun x _ hF => V_pick [0, 1] rfl (r_X12_stove_b0 v0 v1 h e hF))

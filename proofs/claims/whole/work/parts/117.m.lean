theorem dX11_back_0 : decode cX11_back 0 = .ok (.aload_n 0, 1) := by decide +kernel
theorem dX11_back_1 : decode cX11_back 1 = .ok (.getfield 72, 3) := by decide +kernel
theorem dX11_back_4 : decode cX11_back 4 = .ok (.ifnonnull 5, 3) := by decide +kernel
theorem dX11_back_7 : decode cX11_back 7 = .ok (.iconst 0, 1) := by decide +kernel
theorem dX11_back_8 : decode cX11_back 8 = .ok (.ireturn, 1) := by decide +kernel
theorem dX11_back_9 : decode cX11_back 9 = .ok (.aload_n 0, 1) := by decide +kernel
theorem dX11_back_10 : decode cX11_back 10 = .ok (.getfield 19, 3) := by decide +kernel
theorem dX11_back_13 : decode cX11_back 13 = .ok (.aload_n 0, 1) := by decide +kernel
theorem dX11_back_14 : decode cX11_back 14 = .ok (.getfield 72, 3) := by decide +kernel
theorem dX11_back_17 : decode cX11_back 17 = .ok (.invokevirtual 372, 3) := by decide +kernel
theorem dX11_back_20 : decode cX11_back 20 = .ok (.iconst 1, 1) := by decide +kernel
theorem dX11_back_21 : decode cX11_back 21 = .ok (.ireturn, 1) := by decide +kernel
set_option maxRecDepth 100000 in
def F_X11_back_b0 (v0 : Nat) (h : Hp) : Option (Int32 × Hp) :=
  gd (decide (kd h v0 = 10)) <| nz (zR h v0 9) (some ((0 : Int32), h)) (ob (zR h v0 1) fun q4 => ob (zR h v0 9) fun q6 => ob2 (F_X2_copyFrom q4 q6 h) fun _ h10 => gd (decide (kd h q4 = 2)) <| some ((1 : Int32), h10))
set_option maxHeartbeats 4000000 in
set_option maxRecDepth 100000 in
theorem r_X11_back_b0 (v0 : Nat) (h : Hp) {x : Cx} {r : Int32} {hz : Hp} (e : F_X11_back_b0 v0 h = some (r, hz)) (hF : Fin9 M_X11_back x (some .boolean) (some (.int r)) hz) : V M_X11_back x 3 0 [(0, .ref v0)] [] h 0 0 := by
  unfold F_X11_back_b0 at e
  refine V_aload_n (pc := 0) (i := 0) dX11_back_0 rfl rfl ?_
  obtain ⟨g1, e⟩ := gd_some e
  cases g3 : zR h v0 9 with
  | none =>
    rw [g3] at e
    replace e : (some ((0 : Int32), h)) = some (r, hz) := e
    refine V_getRN (pc := 1) (ci := 10) (k := 9) dX11_back_1 fl_X11_72 rfl (of_decide_eq_true g1) g3 ?_
    refine V_ifnonnullN (pc := 4) dX11_back_4 ?_
    refine V_pick [] rfl ?_
    refine V_iconst (pc := 7) (v := (0 : Int32)) dX11_back_7 (by decide) ?_
    cases e
    exact V_zret (pc := 8) dX11_back_8 rfl hF
  | some q2 =>
    rw [g3] at e
    replace e : (ob (zR h v0 1) fun q4 => ob (zR h v0 9) fun q6 => ob2 (F_X2_copyFrom q4 q6 h) fun _ h10 => gd (decide (kd h q4 = 2)) <| some ((1 : Int32), h10)) = some (r, hz) := e
    refine V_getR (pc := 1) (ci := 10) (k := 9) (b := q2) dX11_back_1 fl_X11_72 rfl (of_decide_eq_true g1) g3 ?_
    refine V_ifnonnull (pc := 4) (tgt := 9) dX11_back_4 (by decide) ?_
    refine V_pick [0] rfl ?_
    refine V_aload_n (pc := 9) (i := 0) dX11_back_9 rfl rfl ?_
    obtain ⟨q4, g5, e⟩ := ob_some e
    refine V_getR (pc := 10) (ci := 10) (k := 1) (b := q4) dX11_back_10 fl_X11_19 rfl (of_decide_eq_true g1) g5 ?_
    refine V_aload_n (pc := 13) (i := 0) dX11_back_13 rfl rfl ?_
    obtain ⟨q6, g7, e⟩ := ob_some e
    refine V_getR (pc := 14) (ci := 10) (k := 9) (b := q6) dX11_back_14 fl_X11_72 rfl (of_decide_eq_true g1) g7 ?_
    obtain ⟨r9, h10, g8, e⟩ := ob2_some e
    obtain ⟨g11, e⟩ := gd_some e
    refine V_callV (pc := 17) (bc := 0) (bs := 0) (mc := 0) (ms := 0) (st := []) (As := [.ref q6]) (a := q4) (h' := h10) (r := none) dX11_back_17 ml_X11_372 (ci := 2) rfl (of_decide_eq_true g11) rfl rfl (Nat.le_of_ble_eq_true rfl) (d' := 2) (by decide) (c_X2_copyFrom (l := x.2.1) q4 q6 h g8) ?_
    refine V_iconst (pc := 20) (v := (1 : Int32)) dX11_back_20 (by decide) ?_
    cases e
    exact V_zret (pc := 21) dX11_back_21 rfl hF
def F_X11_back (v0 : Nat) (h : Hp) : Option (Int32 × Hp) := F_X11_back_b0 v0 h
theorem c_X11_back {l : Launch} (v0 : Nat) (h : Hp) {r : Int32} {hz : Hp} (e : F_X11_back v0 h = some (r, hz)) : Ct l yX11_back M_X11_back (some .boolean) 3 [.ref v0] h 0 0 (some (.int r)) hz :=
  Ct_of rfl rfl (fun q => by cases q) (Nat.le_of_ble_eq_true rfl) (fun x _ hF => V_pick [0] rfl (r_X11_back_b0 v0 h e hF))
theorem dX1_endMinute_0 : decode cX1_endMinute 0 = .ok (.aload_n 1, 1) := by decide +kernel
theorem dX1_endMinute_1 : decode cX1_endMinute 1 = .ok (.aload_n 1, 1) := by decide +kernel
theorem dX1_endMinute_2 : decode cX1_endMinute 2 = .ok (.getfield 69, 3) := by decide +kernel
theorem dX1_endMinute_5 : decode cX1_endMinute 5 = .ok (.aload_n 1, 1) := by decide +kernel
theorem dX1_endMinute_6 : decode cX1_endMinute 6 = .ok (.getfield 72, 3) := by decide +kernel
theorem dX1_endMinute_9 : decode cX1_endMinute 9 = .ok (.invokevirtual 75, 3) := by decide +kernel
theorem dX1_endMinute_12 : decode cX1_endMinute 12 = .ok (.aload_n 1, 1) := by decide +kernel
theorem dX1_endMinute_13 : decode cX1_endMinute 13 = .ok (.aload_n 1, 1) := by decide +kernel
theorem dX1_endMinute_14 : decode cX1_endMinute 14 = .ok (.getfield 69, 3) := by decide +kernel
theorem dX1_endMinute_17 : decode cX1_endMinute 17 = .ok (.aload_n 0, 1) := by decide +kernel
theorem dX1_endMinute_18 : decode cX1_endMinute 18 = .ok (.getfield 9, 3) := by decide +kernel
theorem dX1_endMinute_21 : decode cX1_endMinute 21 = .ok (.invokevirtual 79, 3) := by decide +kernel
theorem dX1_endMinute_24 : decode cX1_endMinute 24 = .ok (.iadd, 1) := by decide +kernel
theorem dX1_endMinute_25 : decode cX1_endMinute 25 = .ok (.istore_n 3, 1) := by decide +kernel
theorem dX1_endMinute_26 : decode cX1_endMinute 26 = .ok (.aload_n 1, 1) := by decide +kernel
theorem dX1_endMinute_27 : decode cX1_endMinute 27 = .ok (.aload_n 1, 1) := by decide +kernel
theorem dX1_endMinute_28 : decode cX1_endMinute 28 = .ok (.getfield 83, 3) := by decide +kernel
theorem dX1_endMinute_31 : decode cX1_endMinute 31 = .ok (.aload_n 1, 1) := by decide +kernel
theorem dX1_endMinute_32 : decode cX1_endMinute 32 = .ok (.getfield 72, 3) := by decide +kernel
theorem dX1_endMinute_35 : decode cX1_endMinute 35 = .ok (.invokevirtual 75, 3) := by decide +kernel
theorem dX1_endMinute_38 : decode cX1_endMinute 38 = .ok (.aload_n 1, 1) := by decide +kernel
theorem dX1_endMinute_39 : decode cX1_endMinute 39 = .ok (.aload_n 1, 1) := by decide +kernel
theorem dX1_endMinute_40 : decode cX1_endMinute 40 = .ok (.getfield 83, 3) := by decide +kernel
theorem dX1_endMinute_43 : decode cX1_endMinute 43 = .ok (.aload_n 0, 1) := by decide +kernel
theorem dX1_endMinute_44 : decode cX1_endMinute 44 = .ok (.getfield 9, 3) := by decide +kernel
theorem dX1_endMinute_47 : decode cX1_endMinute 47 = .ok (.invokevirtual 79, 3) := by decide +kernel
theorem dX1_endMinute_50 : decode cX1_endMinute 50 = .ok (.iadd, 1) := by decide +kernel
theorem dX1_endMinute_51 : decode cX1_endMinute 51 = .ok (.istore 4, 2) := by decide +kernel
theorem dX1_endMinute_53 : decode cX1_endMinute 53 = .ok (.aload_n 0, 1) := by decide +kernel
theorem dX1_endMinute_54 : decode cX1_endMinute 54 = .ok (.getfield 18, 3) := by decide +kernel
theorem dX1_endMinute_57 : decode cX1_endMinute 57 = .ok (.aload_n 1, 1) := by decide +kernel
theorem dX1_endMinute_58 : decode cX1_endMinute 58 = .ok (.getfield 69, 3) := by decide +kernel
theorem dX1_endMinute_61 : decode cX1_endMinute 61 = .ok (.aload_n 1, 1) := by decide +kernel
theorem dX1_endMinute_62 : decode cX1_endMinute 62 = .ok (.getfield 83, 3) := by decide +kernel
theorem dX1_endMinute_65 : decode cX1_endMinute 65 = .ok (.iload_n 3, 1) := by decide +kernel
theorem dX1_endMinute_66 : decode cX1_endMinute 66 = .ok (.aload_n 1, 1) := by decide +kernel
theorem dX1_endMinute_67 : decode cX1_endMinute 67 = .ok (.getfield 86, 3) := by decide +kernel
theorem dX1_endMinute_70 : decode cX1_endMinute 70 = .ok (.invokestatic 89, 3) := by decide +kernel
theorem dX1_endMinute_73 : decode cX1_endMinute 73 = .ok (.aload_n 1, 1) := by decide +kernel
theorem dX1_endMinute_74 : decode cX1_endMinute 74 = .ok (.getfield 93, 3) := by decide +kernel
theorem dX1_endMinute_77 : decode cX1_endMinute 77 = .ok (.invokevirtual 96, 3) := by decide +kernel
theorem dX1_endMinute_80 : decode cX1_endMinute 80 = .ok (.istore 5, 2) := by decide +kernel
theorem dX1_endMinute_82 : decode cX1_endMinute 82 = .ok (.iload 5, 2) := by decide +kernel
theorem dX1_endMinute_84 : decode cX1_endMinute 84 = .ok (.aload_n 0, 1) := by decide +kernel
theorem dX1_endMinute_85 : decode cX1_endMinute 85 = .ok (.getfield 18, 3) := by decide +kernel
theorem dX1_endMinute_88 : decode cX1_endMinute 88 = .ok (.aload_n 1, 1) := by decide +kernel
theorem dX1_endMinute_89 : decode cX1_endMinute 89 = .ok (.getfield 83, 3) := by decide +kernel
theorem dX1_endMinute_92 : decode cX1_endMinute 92 = .ok (.aload_n 1, 1) := by decide +kernel
theorem dX1_endMinute_93 : decode cX1_endMinute 93 = .ok (.getfield 69, 3) := by decide +kernel
theorem dX1_endMinute_96 : decode cX1_endMinute 96 = .ok (.iload 4, 2) := by decide +kernel
theorem dX1_endMinute_98 : decode cX1_endMinute 98 = .ok (.aload_n 1, 1) := by decide +kernel
theorem dX1_endMinute_99 : decode cX1_endMinute 99 = .ok (.getfield 86, 3) := by decide +kernel
theorem dX1_endMinute_102 : decode cX1_endMinute 102 = .ok (.invokestatic 89, 3) := by decide +kernel
theorem dX1_endMinute_105 : decode cX1_endMinute 105 = .ok (.aload_n 1, 1) := by decide +kernel
theorem dX1_endMinute_106 : decode cX1_endMinute 106 = .ok (.getfield 93, 3) := by decide +kernel
theorem dX1_endMinute_109 : decode cX1_endMinute 109 = .ok (.invokevirtual 96, 3) := by decide +kernel
theorem dX1_endMinute_112 : decode cX1_endMinute 112 = .ok (.iadd, 1) := by decide +kernel
theorem dX1_endMinute_113 : decode cX1_endMinute 113 = .ok (.istore 5, 2) := by decide +kernel
theorem dX1_endMinute_115 : decode cX1_endMinute 115 = .ok (.aload_n 0, 1) := by decide +kernel
theorem dX1_endMinute_116 : decode cX1_endMinute 116 = .ok (.dup, 1) := by decide +kernel
theorem dX1_endMinute_117 : decode cX1_endMinute 117 = .ok (.getfield 26, 3) := by decide +kernel
theorem dX1_endMinute_120 : decode cX1_endMinute 120 = .ok (.iload 5, 2) := by decide +kernel
theorem dX1_endMinute_122 : decode cX1_endMinute 122 = .ok (.iadd, 1) := by decide +kernel
theorem dX1_endMinute_123 : decode cX1_endMinute 123 = .ok (.putfield 26, 3) := by decide +kernel
theorem dX1_endMinute_126 : decode cX1_endMinute 126 = .ok (.aload_n 0, 1) := by decide +kernel
theorem dX1_endMinute_127 : decode cX1_endMinute 127 = .ok (.getfield 22, 3) := by decide +kernel
theorem dX1_endMinute_130 : decode cX1_endMinute 130 = .ok (.iconst (-1), 1) := by decide +kernel
theorem dX1_endMinute_131 : decode cX1_endMinute 131 = .ok (.if_icmp .ne 22, 3) := by decide +kernel
theorem dX1_endMinute_134 : decode cX1_endMinute 134 = .ok (.aload_n 1, 1) := by decide +kernel
theorem dX1_endMinute_135 : decode cX1_endMinute 135 = .ok (.iload_n 3, 1) := by decide +kernel
theorem dX1_endMinute_136 : decode cX1_endMinute 136 = .ok (.iload 4, 2) := by decide +kernel
theorem dX1_endMinute_138 : decode cX1_endMinute 138 = .ok (.aload_n 0, 1) := by decide +kernel
theorem dX1_endMinute_139 : decode cX1_endMinute 139 = .ok (.getfield 18, 3) := by decide +kernel
theorem dX1_endMinute_142 : decode cX1_endMinute 142 = .ok (.invokevirtual 100, 3) := by decide +kernel
theorem dX1_endMinute_145 : decode cX1_endMinute 145 = .ok (.ifCond .ne 8, 3) := by decide +kernel
theorem dX1_endMinute_148 : decode cX1_endMinute 148 = .ok (.aload_n 0, 1) := by decide +kernel
theorem dX1_endMinute_149 : decode cX1_endMinute 149 = .ok (.iload_n 2, 1) := by decide +kernel
theorem dX1_endMinute_150 : decode cX1_endMinute 150 = .ok (.putfield 22, 3) := by decide +kernel
theorem dX1_endMinute_153 : decode cX1_endMinute 153 = .ok (.iload 5, 2) := by decide +kernel
theorem dX1_endMinute_155 : decode cX1_endMinute 155 = .ok (.ifCond .le 7, 3) := by decide +kernel
theorem dX1_endMinute_158 : decode cX1_endMinute 158 = .ok (.iconst 1, 1) := by decide +kernel
theorem dX1_endMinute_159 : decode cX1_endMinute 159 = .ok (.goto 4, 3) := by decide +kernel
theorem dX1_endMinute_162 : decode cX1_endMinute 162 = .ok (.iconst 0, 1) := by decide +kernel
theorem dX1_endMinute_163 : decode cX1_endMinute 163 = .ok (.ireturn, 1) := by decide +kernel
set_option maxRecDepth 100000 in
def F_X1_endMinute_b163 (t0 : Int32) (h : Hp) : Option (Int32 × Hp) :=
  gd (decide (t0 = 0 ∨ t0 = 1)) <| some (t0, h)
set_option maxHeartbeats 4000000 in
set_option maxRecDepth 100000 in
theorem r_X1_endMinute_b163 (t0 : Int32) (h : Hp) {x : Cx} {r : Int32} {hz : Hp} (e : F_X1_endMinute_b163 t0 h = some (r, hz)) (hF : Fin9 M_X1_endMinute x (some .boolean) (some (.int r)) hz) : V M_X1_endMinute x 2 163 [] [.int t0] h 0 0 := by
  unfold F_X1_endMinute_b163 at e
  obtain ⟨g50, e⟩ := gd_some e
  cases e
  exact V_zret (pc := 163) dX1_endMinute_163 (z01 (of_decide_eq_true g50)) hF
set_option maxRecDepth 100000 in
def F_X1_endMinute_b153 (v5 : Int32) (h : Hp) : Option (Int32 × Hp) :=
  (if v5 ≤ 0 then F_X1_endMinute_b163 (0 : Int32) h else F_X1_endMinute_b163 (1 : Int32) h)
set_option maxHeartbeats 4000000 in
set_option maxRecDepth 100000 in
theorem r_X1_endMinute_b153 (v5 : Int32) (h : Hp) {x : Cx} {r : Int32} {hz : Hp} (e : F_X1_endMinute_b153 v5 h = some (r, hz)) (hF : Fin9 M_X1_endMinute x (some .boolean) (some (.int r)) hz) : V M_X1_endMinute x 2 153 [(5, .int v5)] [] h 0 0 := by
  unfold F_X1_endMinute_b153 at e
  refine V_iload (pc := 153) (i := 5) dX1_endMinute_153 rfl ?_
  refine V_if_le (pc := 155) (tgt := 162) dX1_endMinute_155 (by decide) (fun c51 => ?_) (fun c51 => ?_)
  · rw [if_pos c51] at e
    refine V_pick [] rfl ?_
    refine V_iconst (pc := 162) (v := (0 : Int32)) dX1_endMinute_162 (by decide) ?_
    exact V_pick [] rfl (r_X1_endMinute_b163 (0 : Int32) h e hF)
  · rw [if_neg c51] at e
    refine V_pick [] rfl ?_
    refine V_iconst (pc := 158) (v := (1 : Int32)) dX1_endMinute_158 (by decide) ?_
    refine V_goto (pc := 159) (tgt := 163) dX1_endMinute_159 (by decide) ?_
    exact V_pick [] rfl (r_X1_endMinute_b163 (1 : Int32) h e hF)
set_option maxRecDepth 100000 in
def F_X1_endMinute_b0 (v0 : Nat) (v1 : Nat) (v2 : Int32) (h : Hp) : Option (Int32 × Hp) :=
  gd (decide (kd h v1 = 2)) <| ob (zR h v1 1) fun q2 => ob (F_X2_netOfThings v1 q2 (zI h v1 11) h) fun r5 => ob (zR h v1 1) fun q6 => gd (decide (kd h v0 = 1)) <| ob (zR h v0 0) fun q9 => ob (F_X2_netOfGuests v1 q6 q9 h) fun r12 => ob (zR h v1 2) fun q13 => ob (F_X2_netOfThings v1 q13 (zI h v1 11) h) fun r16 => ob (zR h v1 2) fun q17 => ob (zR h v0 0) fun q19 => ob (F_X2_netOfGuests v1 q17 q19 h) fun r22 => ob (zR h v0 1) fun q23 => ob (zR h v1 1) fun q25 => ob (zR h v1 2) fun q27 => ob (F_X1_direction (r5 + r12) (zI h v1 13) h) fun r30 => ob2 (F_X8_slideAll q23 q25 q27 r30 (zI h v1 0) h) fun r32 h33 => gd (decide (kd h q23 = 7)) <| gd (decide (kd h33 v0 = 1)) <| ob (zR h33 v0 1) fun q36 => gd (decide (kd h33 v1 = 2)) <| ob (zR h33 v1 2) fun q39 => ob (zR h33 v1 1) fun q41 => ob (F_X1_direction (r16 + r22) (zI h33 v1 13) h33) fun r44 => ob2 (F_X8_slideAll q36 q39 q41 r44 (zI h33 v1 0) h33) fun r46 h47 => gd (decide (kd h33 q36 = 7)) <| gd (decide (kd h47 v0 = 1)) <| (if (zI (setI h47 v0 3 ((zI h47 v0 3) + (r32 + r46))) v0 2) = (-1 : Int32) then ob (zR (setI h47 v0 3 ((zI h47 v0 3) + (r32 + r46))) v0 1) fun q52 => ob (F_X2_isLevelAt v1 (r5 + r12) (r16 + r22) q52 (setI h47 v0 3 ((zI h47 v0 3) + (r32 + r46)))) fun r55 => gd (decide (kd (setI h47 v0 3 ((zI h47 v0 3) + (r32 + r46))) v1 = 2)) <| (if r55 = 0 then F_X1_endMinute_b153 (r32 + r46) (setI (setI h47 v0 3 ((zI h47 v0 3) + (r32 + r46))) v0 2 v2) else F_X1_endMinute_b153 (r32 + r46) (setI h47 v0 3 ((zI h47 v0 3) + (r32 + r46)))) else F_X1_endMinute_b153 (r32 + r46) (setI h47 v0 3 ((zI h47 v0 3) + (r32 + r46))))
set_option maxHeartbeats 4000000 in
set_option maxRecDepth 100000 in
theorem r_X1_endMinute_b0 (v0 : Nat) (v1 : Nat) (v2 : Int32) (h : Hp) {x : Cx} {r : Int32} {hz : Hp} (e : F_X1_endMinute_b0 v0 v1 v2 h = some (r, hz)) (hF : Fin9 M_X1_endMinute x (some .boolean) (some (.int r)) hz) : V M_X1_endMinute x 2 0 [(0, .ref v0), (1, .ref v1), (2, .int v2)] [] h 0 0 := by
  unfold F_X1_endMinute_b0 at e
  refine V_aload_n (pc := 0) (i := 1) dX1_endMinute_0 rfl rfl ?_
  refine V_aload_n (pc := 1) (i := 1) dX1_endMinute_1 rfl rfl ?_
  obtain ⟨g1, e⟩ := gd_some e
  obtain ⟨q2, g3, e⟩ := ob_some e
  refine V_getR (pc := 2) (ci := 2) (k := 1) (b := q2) dX1_endMinute_2 fl_X1_69 rfl (of_decide_eq_true g1) g3 ?_
  refine V_aload_n (pc := 5) (i := 1) dX1_endMinute_5 rfl rfl ?_
  refine V_getI (pc := 6) (ci := 2) (k := 11) dX1_endMinute_6 fl_X1_72 rfl (of_decide_eq_true g1) ?_
  obtain ⟨r5, g4, e⟩ := ob_some e
  refine V_callV (pc := 9) (bc := 0) (bs := 0) (mc := 0) (ms := 0) (st := []) (As := [.ref q2, .int (zI h v1 11)]) (a := v1) (h' := h) (r := some (.int r5)) dX1_endMinute_9 ml_X1_75 (ci := 2) rfl (of_decide_eq_true g1) rfl rfl (Nat.le_of_ble_eq_true rfl) (d' := 0) (by decide) (c_X2_netOfThings (l := x.2.1) v1 q2 (zI h v1 11) h g4) ?_
  refine V_aload_n (pc := 12) (i := 1) dX1_endMinute_12 rfl rfl ?_
  refine V_aload_n (pc := 13) (i := 1) dX1_endMinute_13 rfl rfl ?_
  obtain ⟨q6, g7, e⟩ := ob_some e
  refine V_getR (pc := 14) (ci := 2) (k := 1) (b := q6) dX1_endMinute_14 fl_X1_69 rfl (of_decide_eq_true g1) g7 ?_
  refine V_aload_n (pc := 17) (i := 0) dX1_endMinute_17 rfl rfl ?_
  obtain ⟨g8, e⟩ := gd_some e
  obtain ⟨q9, g10, e⟩ := ob_some e
  refine V_getR (pc := 18) (ci := 1) (k := 0) (b := q9) dX1_endMinute_18 fl_X1_9 rfl (of_decide_eq_true g8) g10 ?_
  obtain ⟨r12, g11, e⟩ := ob_some e
  refine V_callV (pc := 21) (bc := 0) (bs := 0) (mc := 0) (ms := 0) (st := [.int r5]) (As := [.ref q6, .ref q9]) (a := v1) (h' := h) (r := some (.int r12)) dX1_endMinute_21 ml_X1_79 (ci := 2) rfl (of_decide_eq_true g1) rfl rfl (Nat.le_of_ble_eq_true rfl) (d' := 0) (by decide) (c_X2_netOfGuests (l := x.2.1) v1 q6 q9 h g11) ?_
  refine V_iadd (pc := 24) dX1_endMinute_24 ?_
  refine V_istore_n (pc := 25) (i := 3) (lv' := [(3, .int (r5 + r12)), (0, .ref v0), (1, .ref v1), (2, .int v2)]) dX1_endMinute_25 rfl (by decide) rfl ?_
  refine V_aload_n (pc := 26) (i := 1) dX1_endMinute_26 rfl rfl ?_
  refine V_aload_n (pc := 27) (i := 1) dX1_endMinute_27 rfl rfl ?_
  obtain ⟨q13, g14, e⟩ := ob_some e
  refine V_getR (pc := 28) (ci := 2) (k := 2) (b := q13) dX1_endMinute_28 fl_X1_83 rfl (of_decide_eq_true g1) g14 ?_
  refine V_aload_n (pc := 31) (i := 1) dX1_endMinute_31 rfl rfl ?_
  refine V_getI (pc := 32) (ci := 2) (k := 11) dX1_endMinute_32 fl_X1_72 rfl (of_decide_eq_true g1) ?_
  obtain ⟨r16, g15, e⟩ := ob_some e
  refine V_callV (pc := 35) (bc := 0) (bs := 0) (mc := 0) (ms := 0) (st := []) (As := [.ref q13, .int (zI h v1 11)]) (a := v1) (h' := h) (r := some (.int r16)) dX1_endMinute_35 ml_X1_75 (ci := 2) rfl (of_decide_eq_true g1) rfl rfl (Nat.le_of_ble_eq_true rfl) (d' := 0) (by decide) (c_X2_netOfThings (l := x.2.1) v1 q13 (zI h v1 11) h g15) ?_
  refine V_aload_n (pc := 38) (i := 1) dX1_endMinute_38 rfl rfl ?_
  refine V_aload_n (pc := 39) (i := 1) dX1_endMinute_39 rfl rfl ?_
  obtain ⟨q17, g18, e⟩ := ob_some e
  refine V_getR (pc := 40) (ci := 2) (k := 2) (b := q17) dX1_endMinute_40 fl_X1_83 rfl (of_decide_eq_true g1) g18 ?_
  refine V_aload_n (pc := 43) (i := 0) dX1_endMinute_43 rfl rfl ?_
  obtain ⟨q19, g20, e⟩ := ob_some e
  refine V_getR (pc := 44) (ci := 1) (k := 0) (b := q19) dX1_endMinute_44 fl_X1_9 rfl (of_decide_eq_true g8) g20 ?_
  obtain ⟨r22, g21, e⟩ := ob_some e
  refine V_callV (pc := 47) (bc := 0) (bs := 0) (mc := 0) (ms := 0) (st := [.int r16]) (As := [.ref q17, .ref q19]) (a := v1) (h' := h) (r := some (.int r22)) dX1_endMinute_47 ml_X1_79 (ci := 2) rfl (of_decide_eq_true g1) rfl rfl (Nat.le_of_ble_eq_true rfl) (d' := 0) (by decide) (c_X2_netOfGuests (l := x.2.1) v1 q17 q19 h g21) ?_
  refine V_iadd (pc := 50) dX1_endMinute_50 ?_
  refine V_istore (pc := 51) (i := 4) (lv' := [(4, .int (r16 + r22)), (3, .int (r5 + r12)), (0, .ref v0), (1, .ref v1), (2, .int v2)]) dX1_endMinute_51 (by decide) rfl ?_
  refine V_aload_n (pc := 53) (i := 0) dX1_endMinute_53 rfl rfl ?_
  obtain ⟨q23, g24, e⟩ := ob_some e
  refine V_getR (pc := 54) (ci := 1) (k := 1) (b := q23) dX1_endMinute_54 fl_X1_18 rfl (of_decide_eq_true g8) g24 ?_
  refine V_aload_n (pc := 57) (i := 1) dX1_endMinute_57 rfl rfl ?_
  obtain ⟨q25, g26, e⟩ := ob_some e
  refine V_getR (pc := 58) (ci := 2) (k := 1) (b := q25) dX1_endMinute_58 fl_X1_69 rfl (of_decide_eq_true g1) g26 ?_
  refine V_aload_n (pc := 61) (i := 1) dX1_endMinute_61 rfl rfl ?_
  obtain ⟨q27, g28, e⟩ := ob_some e
  refine V_getR (pc := 62) (ci := 2) (k := 2) (b := q27) dX1_endMinute_62 fl_X1_83 rfl (of_decide_eq_true g1) g28 ?_
  refine V_iload_n (pc := 65) (i := 3) dX1_endMinute_65 rfl rfl ?_
  refine V_aload_n (pc := 66) (i := 1) dX1_endMinute_66 rfl rfl ?_
  refine V_getI (pc := 67) (ci := 2) (k := 13) dX1_endMinute_67 fl_X1_86 rfl (of_decide_eq_true g1) ?_
  obtain ⟨r30, g29, e⟩ := ob_some e
  refine V_callS (pc := 70) (bc := 0) (bs := 0) (mc := 0) (ms := 0) (st := [.ref q27, .ref q25, .ref q23]) (As := [.int (r5 + r12), .int (zI h v1 13)]) (h' := h) (r := some (.int r30)) dX1_endMinute_70 ml_X1_89 rfl rfl (Nat.le_of_ble_eq_true rfl) (d' := 0) (by decide) (c_X1_direction (l := x.2.1) (r5 + r12) (zI h v1 13) h g29) ?_
  refine V_aload_n (pc := 73) (i := 1) dX1_endMinute_73 rfl rfl ?_
  refine V_getI (pc := 74) (ci := 2) (k := 0) dX1_endMinute_74 fl_X1_93 rfl (of_decide_eq_true g1) ?_
  obtain ⟨r32, h33, g31, e⟩ := ob2_some e
  obtain ⟨g34, e⟩ := gd_some e
  refine V_callV (pc := 77) (bc := 0) (bs := 0) (mc := 0) (ms := 0) (st := []) (As := [.ref q25, .ref q27, .int r30, .int (zI h v1 0)]) (a := q23) (h' := h33) (r := some (.int r32)) dX1_endMinute_77 ml_X1_96 (ci := 7) rfl (of_decide_eq_true g34) rfl rfl (Nat.le_of_ble_eq_true rfl) (d' := 1) (by decide) (c_X8_slideAll (l := x.2.1) q23 q25 q27 r30 (zI h v1 0) h g31) ?_
  refine V_istore (pc := 80) (i := 5) (lv' := [(5, .int r32), (4, .int (r16 + r22)), (3, .int (r5 + r12)), (0, .ref v0), (1, .ref v1), (2, .int v2)]) dX1_endMinute_80 (by decide) rfl ?_
  refine V_iload (pc := 82) (i := 5) dX1_endMinute_82 rfl ?_
  refine V_aload_n (pc := 84) (i := 0) dX1_endMinute_84 rfl rfl ?_
  obtain ⟨g35, e⟩ := gd_some e
  obtain ⟨q36, g37, e⟩ := ob_some e
  refine V_getR (pc := 85) (ci := 1) (k := 1) (b := q36) dX1_endMinute_85 fl_X1_18 rfl (of_decide_eq_true g35) g37 ?_
  refine V_aload_n (pc := 88) (i := 1) dX1_endMinute_88 rfl rfl ?_
  obtain ⟨g38, e⟩ := gd_some e
  obtain ⟨q39, g40, e⟩ := ob_some e
  refine V_getR (pc := 89) (ci := 2) (k := 2) (b := q39) dX1_endMinute_89 fl_X1_83 rfl (of_decide_eq_true g38) g40 ?_
  refine V_aload_n (pc := 92) (i := 1) dX1_endMinute_92 rfl rfl ?_
  obtain ⟨q41, g42, e⟩ := ob_some e
  refine V_getR (pc := 93) (ci := 2) (k := 1) (b := q41) dX1_endMinute_93 fl_X1_69 rfl (of_decide_eq_true g38) g42 ?_
  refine V_iload (pc := 96) (i := 4) dX1_endMinute_96 rfl ?_
  refine V_aload_n (pc := 98) (i := 1) dX1_endMinute_98 rfl rfl ?_
  refine V_getI (pc := 99) (ci := 2) (k := 13) dX1_endMinute_99 fl_X1_86 rfl (of_decide_eq_true g38) ?_
  obtain ⟨r44, g43, e⟩ := ob_some e
  refine V_callS (pc := 102) (bc := 0) (bs := 0) (mc := 0) (ms := 0) (st := [.ref q41, .ref q39, .ref q36, .int r32]) (As := [.int (r16 + r22), .int (zI h33 v1 13)]) (h' := h33) (r := some (.int r44)) dX1_endMinute_102 ml_X1_89 rfl rfl (Nat.le_of_ble_eq_true rfl) (d' := 0) (by decide) (c_X1_direction (l := x.2.1) (r16 + r22) (zI h33 v1 13) h33 g43) ?_
  refine V_aload_n (pc := 105) (i := 1) dX1_endMinute_105 rfl rfl ?_
  refine V_getI (pc := 106) (ci := 2) (k := 0) dX1_endMinute_106 fl_X1_93 rfl (of_decide_eq_true g38) ?_
  obtain ⟨r46, h47, g45, e⟩ := ob2_some e
  obtain ⟨g48, e⟩ := gd_some e
  refine V_callV (pc := 109) (bc := 0) (bs := 0) (mc := 0) (ms := 0) (st := [.int r32]) (As := [.ref q39, .ref q41, .int r44, .int (zI h33 v1 0)]) (a := q36) (h' := h47) (r := some (.int r46)) dX1_endMinute_109 ml_X1_96 (ci := 7) rfl (of_decide_eq_true g48) rfl rfl (Nat.le_of_ble_eq_true rfl) (d' := 1) (by decide) (c_X8_slideAll (l := x.2.1) q36 q39 q41 r44 (zI h33 v1 0) h33 g45) ?_
  refine V_iadd (pc := 112) dX1_endMinute_112 ?_
  refine V_istore (pc := 113) (i := 5) (lv' := [(5, .int (r32 + r46)), (4, .int (r16 + r22)), (3, .int (r5 + r12)), (0, .ref v0), (1, .ref v1), (2, .int v2)]) dX1_endMinute_113 (by decide) rfl ?_
  refine V_aload_n (pc := 115) (i := 0) dX1_endMinute_115 rfl rfl ?_
  refine V_dup (pc := 116) dX1_endMinute_116 rfl ?_
  obtain ⟨g49, e⟩ := gd_some e
  refine V_getI (pc := 117) (ci := 1) (k := 3) dX1_endMinute_117 fl_X1_26 rfl (of_decide_eq_true g49) ?_
  refine V_iload (pc := 120) (i := 5) dX1_endMinute_120 rfl ?_
  refine V_iadd (pc := 122) dX1_endMinute_122 ?_
  refine V_putI (pc := 123) (ci := 1) (k := 3) dX1_endMinute_123 fp_X1_26 rfl (of_decide_eq_true g49) ?_
  refine V_aload_n (pc := 126) (i := 0) dX1_endMinute_126 rfl rfl ?_
  refine V_getI (pc := 127) (ci := 1) (k := 2) dX1_endMinute_127 fl_X1_22 rfl (of_decide_eq_true g49) ?_
  refine V_iconst (pc := 130) (v := (-1 : Int32)) dX1_endMinute_130 (by decide) ?_
  refine V_icmp_ne (pc := 131) (tgt := 153) dX1_endMinute_131 (by decide) (fun c58 => ?_) (fun c58 => ?_)
  · rw [if_neg c58] at e
    exact V_pick [0] rfl (r_X1_endMinute_b153 (r32 + r46) (setI h47 v0 3 ((zI h47 v0 3) + (r32 + r46))) e hF)
  · rw [if_pos c58] at e
    refine V_pick [3, 4, 5, 2, 1, 0] rfl ?_
    refine V_aload_n (pc := 134) (i := 1) dX1_endMinute_134 rfl rfl ?_
    refine V_iload_n (pc := 135) (i := 3) dX1_endMinute_135 rfl rfl ?_
    refine V_iload (pc := 136) (i := 4) dX1_endMinute_136 rfl ?_
    refine V_aload_n (pc := 138) (i := 0) dX1_endMinute_138 rfl rfl ?_
    obtain ⟨q52, g53, e⟩ := ob_some e
    refine V_getR (pc := 139) (ci := 1) (k := 1) (b := q52) dX1_endMinute_139 fl_X1_18 rfl (of_decide_eq_true g49) g53 ?_
    obtain ⟨r55, g54, e⟩ := ob_some e
    obtain ⟨g56, e⟩ := gd_some e
    refine V_callV (pc := 142) (bc := 0) (bs := 0) (mc := 0) (ms := 0) (st := []) (As := [.int (r5 + r12), .int (r16 + r22), .ref q52]) (a := v1) (h' := (setI h47 v0 3 ((zI h47 v0 3) + (r32 + r46)))) (r := some (.int r55)) dX1_endMinute_142 ml_X1_100 (ci := 2) rfl (of_decide_eq_true g56) rfl rfl (Nat.le_of_ble_eq_true rfl) (d' := 1) (by decide) (c_X2_isLevelAt (l := x.2.1) v1 (r5 + r12) (r16 + r22) q52 (setI h47 v0 3 ((zI h47 v0 3) + (r32 + r46))) g54) ?_
    refine V_if_ne (pc := 145) (tgt := 153) dX1_endMinute_145 (by decide) (fun c57 => ?_) (fun c57 => ?_)
    · rw [if_neg c57] at e
      exact V_pick [5] rfl (r_X1_endMinute_b153 (r32 + r46) (setI h47 v0 3 ((zI h47 v0 3) + (r32 + r46))) e hF)
    · rw [if_pos c57] at e
      refine V_pick [0, 2, 5] rfl ?_
      refine V_aload_n (pc := 148) (i := 0) dX1_endMinute_148 rfl rfl ?_
      refine V_iload_n (pc := 149) (i := 2) dX1_endMinute_149 rfl rfl ?_
      refine V_putI (pc := 150) (ci := 1) (k := 2) dX1_endMinute_150 fp_X1_22 rfl (of_decide_eq_true g49) ?_
      exact V_pick [2] rfl (r_X1_endMinute_b153 (r32 + r46) (setI (setI h47 v0 3 ((zI h47 v0 3) + (r32 + r46))) v0 2 v2) e hF)
def F_X1_endMinute (v0 : Nat) (v1 : Nat) (v2 : Int32) (h : Hp) : Option (Int32 × Hp) := F_X1_endMinute_b0 v0 v1 v2 h
theorem c_X1_endMinute {l : Launch} (v0 : Nat) (v1 : Nat) (v2 : Int32) (h : Hp) {r : Int32} {hz : Hp} (e : F_X1_endMinute v0 v1 v2 h = some (r, hz)) : Ct l yX1_endMinute M_X1_endMinute (some .boolean) 2 [.ref v0, .ref v1, .int v2] h 0 0 (some (.int r)) hz :=
  Ct_of rfl rfl (fun q => by cases q) (Nat.le_of_ble_eq_true rfl) (fun x _ hF => V_pick [0, 1, 2] rfl (r_X1_endMinute_b0 v0 v1 v2 h e hF))
theorem dX2_init_0 : decode cX2_init 0 = .ok (.aload_n 0, 1) := by decide +kernel
theorem dX2_init_1 : decode cX2_init 1 = .ok (.invokespecial 3, 3) := by decide +kernel
theorem dX2_init_4 : decode cX2_init 4 = .ok (.aload_n 0, 1) := by decide +kernel
theorem dX2_init_5 : decode cX2_init 5 = .ok (.iconst 0, 1) := by decide +kernel
theorem dX2_init_6 : decode cX2_init 6 = .ok (.putfield 9, 3) := by decide +kernel
theorem dX2_init_9 : decode cX2_init 9 = .ok (.aload_n 0, 1) := by decide +kernel
theorem dX2_init_10 : decode cX2_init 10 = .ok (.bipush 8, 2) := by decide +kernel
theorem dX2_init_12 : decode cX2_init 12 = .ok (.newarray .int, 2) := by decide +kernel
theorem dX2_init_14 : decode cX2_init 14 = .ok (.putfield 15, 3) := by decide +kernel
theorem dX2_init_17 : decode cX2_init 17 = .ok (.aload_n 0, 1) := by decide +kernel
theorem dX2_init_18 : decode cX2_init 18 = .ok (.bipush 8, 2) := by decide +kernel
theorem dX2_init_20 : decode cX2_init 20 = .ok (.newarray .int, 2) := by decide +kernel
theorem dX2_init_22 : decode cX2_init 22 = .ok (.putfield 19, 3) := by decide +kernel
theorem dX2_init_25 : decode cX2_init 25 = .ok (.aload_n 0, 1) := by decide +kernel
theorem dX2_init_26 : decode cX2_init 26 = .ok (.bipush 8, 2) := by decide +kernel
theorem dX2_init_28 : decode cX2_init 28 = .ok (.newarray .int, 2) := by decide +kernel
theorem dX2_init_30 : decode cX2_init 30 = .ok (.putfield 22, 3) := by decide +kernel
theorem dX2_init_33 : decode cX2_init 33 = .ok (.aload_n 0, 1) := by decide +kernel
theorem dX2_init_34 : decode cX2_init 34 = .ok (.bipush 8, 2) := by decide +kernel
theorem dX2_init_36 : decode cX2_init 36 = .ok (.newarray .int, 2) := by decide +kernel
theorem dX2_init_38 : decode cX2_init 38 = .ok (.putfield 25, 3) := by decide +kernel
theorem dX2_init_41 : decode cX2_init 41 = .ok (.aload_n 0, 1) := by decide +kernel
theorem dX2_init_42 : decode cX2_init 42 = .ok (.iconst 0, 1) := by decide +kernel
theorem dX2_init_43 : decode cX2_init 43 = .ok (.putfield 28, 3) := by decide +kernel
theorem dX2_init_46 : decode cX2_init 46 = .ok (.aload_n 0, 1) := by decide +kernel
theorem dX2_init_47 : decode cX2_init 47 = .ok (.iconst 5, 1) := by decide +kernel
theorem dX2_init_48 : decode cX2_init 48 = .ok (.newarray .int, 2) := by decide +kernel
theorem dX2_init_50 : decode cX2_init 50 = .ok (.putfield 31, 3) := by decide +kernel
theorem dX2_init_53 : decode cX2_init 53 = .ok (.aload_n 0, 1) := by decide +kernel
theorem dX2_init_54 : decode cX2_init 54 = .ok (.iconst 5, 1) := by decide +kernel
theorem dX2_init_55 : decode cX2_init 55 = .ok (.newarray .int, 2) := by decide +kernel
theorem dX2_init_57 : decode cX2_init 57 = .ok (.putfield 34, 3) := by decide +kernel
theorem dX2_init_60 : decode cX2_init 60 = .ok (.aload_n 0, 1) := by decide +kernel
theorem dX2_init_61 : decode cX2_init 61 = .ok (.iconst 5, 1) := by decide +kernel
theorem dX2_init_62 : decode cX2_init 62 = .ok (.anewarray 37, 3) := by decide +kernel
theorem dX2_init_65 : decode cX2_init 65 = .ok (.putfield 39, 3) := by decide +kernel
theorem dX2_init_68 : decode cX2_init 68 = .ok (.aload_n 0, 1) := by decide +kernel
theorem dX2_init_69 : decode cX2_init 69 = .ok (.new 43, 3) := by decide +kernel
theorem dX2_init_72 : decode cX2_init 72 = .ok (.dup, 1) := by decide +kernel
theorem dX2_init_73 : decode cX2_init 73 = .ok (.invokespecial 45, 3) := by decide +kernel
theorem dX2_init_76 : decode cX2_init 76 = .ok (.putfield 46, 3) := by decide +kernel
theorem dX2_init_79 : decode cX2_init 79 = .ok (.aload_n 0, 1) := by decide +kernel
theorem dX2_init_80 : decode cX2_init 80 = .ok (.iconst 0, 1) := by decide +kernel
theorem dX2_init_81 : decode cX2_init 81 = .ok (.putfield 50, 3) := by decide +kernel
theorem dX2_init_84 : decode cX2_init 84 = .ok (.aload_n 0, 1) := by decide +kernel
theorem dX2_init_85 : decode cX2_init 85 = .ok (.iconst 0, 1) := by decide +kernel
theorem dX2_init_86 : decode cX2_init 86 = .ok (.putfield 53, 3) := by decide +kernel
theorem dX2_init_89 : decode cX2_init 89 = .ok (.aload_n 0, 1) := by decide +kernel
theorem dX2_init_90 : decode cX2_init 90 = .ok (.sipush 1000, 3) := by decide +kernel
theorem dX2_init_93 : decode cX2_init 93 = .ok (.putfield 56, 3) := by decide +kernel
theorem dX2_init_96 : decode cX2_init 96 = .ok (.aload_n 0, 1) := by decide +kernel
theorem dX2_init_97 : decode cX2_init 97 = .ok (.sipush 2000, 3) := by decide +kernel
theorem dX2_init_100 : decode cX2_init 100 = .ok (.putfield 59, 3) := by decide +kernel
theorem dX2_init_103 : decode cX2_init 103 = .ok (.aload_n 0, 1) := by decide +kernel
theorem dX2_init_104 : decode cX2_init 104 = .ok (.iconst 0, 1) := by decide +kernel
theorem dX2_init_105 : decode cX2_init 105 = .ok (.putfield 62, 3) := by decide +kernel
theorem dX2_init_108 : decode cX2_init 108 = .ok (.aload_n 0, 1) := by decide +kernel
theorem dX2_init_109 : decode cX2_init 109 = .ok (.iconst 1, 1) := by decide +kernel
theorem dX2_init_110 : decode cX2_init 110 = .ok (.putfield 65, 3) := by decide +kernel
theorem dX2_init_113 : decode cX2_init 113 = .ok (.aload_n 0, 1) := by decide +kernel
theorem dX2_init_114 : decode cX2_init 114 = .ok (.new 68, 3) := by decide +kernel
theorem dX2_init_117 : decode cX2_init 117 = .ok (.dup, 1) := by decide +kernel
theorem dX2_init_118 : decode cX2_init 118 = .ok (.invokespecial 70, 3) := by decide +kernel
theorem dX2_init_121 : decode cX2_init 121 = .ok (.putfield 71, 3) := by decide +kernel
theorem dX2_init_124 : decode cX2_init 124 = .ok (.aload_n 0, 1) := by decide +kernel
theorem dX2_init_125 : decode cX2_init 125 = .ok (.iconst 0, 1) := by decide +kernel
theorem dX2_init_126 : decode cX2_init 126 = .ok (.putfield 75, 3) := by decide +kernel
theorem dX2_init_129 : decode cX2_init 129 = .ok (.aload_n 0, 1) := by decide +kernel
theorem dX2_init_130 : decode cX2_init 130 = .ok (.bipush 8, 2) := by decide +kernel
theorem dX2_init_132 : decode cX2_init 132 = .ok (.newarray .int, 2) := by decide +kernel
theorem dX2_init_134 : decode cX2_init 134 = .ok (.putfield 78, 3) := by decide +kernel
theorem dX2_init_137 : decode cX2_init 137 = .ok (.aload_n 0, 1) := by decide +kernel
theorem dX2_init_138 : decode cX2_init 138 = .ok (.bipush 8, 2) := by decide +kernel
theorem dX2_init_140 : decode cX2_init 140 = .ok (.newarray .int, 2) := by decide +kernel
theorem dX2_init_142 : decode cX2_init 142 = .ok (.putfield 81, 3) := by decide +kernel
theorem dX2_init_145 : decode cX2_init 145 = .ok (.iconst 0, 1) := by decide +kernel
theorem dX2_init_146 : decode cX2_init 146 = .ok (.istore_n 1, 1) := by decide +kernel
theorem dX2_init_147 : decode cX2_init 147 = .ok (.iload_n 1, 1) := by decide +kernel
theorem dX2_init_148 : decode cX2_init 148 = .ok (.iconst 5, 1) := by decide +kernel
theorem dX2_init_149 : decode cX2_init 149 = .ok (.if_icmp .ge 22, 3) := by decide +kernel
theorem dX2_init_152 : decode cX2_init 152 = .ok (.aload_n 0, 1) := by decide +kernel
theorem dX2_init_153 : decode cX2_init 153 = .ok (.getfield 39, 3) := by decide +kernel
theorem dX2_init_156 : decode cX2_init 156 = .ok (.iload_n 1, 1) := by decide +kernel
theorem dX2_init_157 : decode cX2_init 157 = .ok (.new 37, 3) := by decide +kernel
theorem dX2_init_160 : decode cX2_init 160 = .ok (.dup, 1) := by decide +kernel
theorem dX2_init_161 : decode cX2_init 161 = .ok (.invokespecial 84, 3) := by decide +kernel
theorem dX2_init_164 : decode cX2_init 164 = .ok (.aastore, 1) := by decide +kernel
theorem dX2_init_165 : decode cX2_init 165 = .ok (.iinc 1 1, 3) := by decide +kernel
theorem dX2_init_168 : decode cX2_init 168 = .ok (.goto (-21), 3) := by decide +kernel
theorem dX2_init_171 : decode cX2_init 171 = .ok (.return_, 1) := by decide +kernel
set_option maxRecDepth 100000 in
def F_X2_init_b0 (v0 : Nat) (h : Hp) : Option (Unit × Hp × Nat × Nat) :=
  gd (decide (kd h v0 = 2)) <| ob (some (zN (setI h v0 0 (0 : Int32)))) fun q2 => ac 1 ((8 : Int32)).toNatClampNeg <| ob (some (zN (setR (alloc (setI h v0 0 (0 : Int32)) 13 ((8 : Int32)).toNatClampNeg) v0 1 (some q2)))) fun q6 => ac 1 ((8 : Int32)).toNatClampNeg <| ob (some (alloc (setR (alloc (setI h v0 0 (0 : Int32)) 13 ((8 : Int32)).toNatClampNeg) v0 1 (some q2)) 13 ((8 : Int32)).toNatClampNeg)) fun h10 => ob (some (zN (setR h10 v0 2 (some q6)))) fun q12 => ac 1 ((8 : Int32)).toNatClampNeg <| ob (some (zN (setR (alloc (setR h10 v0 2 (some q6)) 13 ((8 : Int32)).toNatClampNeg) v0 3 (some q12)))) fun q16 => ac 1 ((8 : Int32)).toNatClampNeg <| ob (some (alloc (setR (alloc (setR h10 v0 2 (some q6)) 13 ((8 : Int32)).toNatClampNeg) v0 3 (some q12)) 13 ((8 : Int32)).toNatClampNeg)) fun h20 => ob (some (zN (setI (setR h20 v0 4 (some q16)) v0 5 (0 : Int32)))) fun q22 => ac 1 ((5 : Int32)).toNatClampNeg <| ob (some (zN (setR (alloc (setI (setR h20 v0 4 (some q16)) v0 5 (0 : Int32)) 13 ((5 : Int32)).toNatClampNeg) v0 6 (some q22)))) fun q26 => ac 1 ((5 : Int32)).toNatClampNeg <| ob (some (alloc (setR (alloc (setI (setR h20 v0 4 (some q16)) v0 5 (0 : Int32)) 13 ((5 : Int32)).toNatClampNeg) v0 6 (some q22)) 13 ((5 : Int32)).toNatClampNeg)) fun h30 => ob (some (zN (setR h30 v0 7 (some q26)))) fun q32 => ac 1 ((5 : Int32)).toNatClampNeg <| ob (some (zN (setR (alloc (setR h30 v0 7 (some q26)) 15 ((5 : Int32)).toNatClampNeg) v0 8 (some q32)))) fun q36 => ac 1 4 <| ob4 (F_X8_init q36 (alloc (setR (alloc (setR h30 v0 7 (some q26)) 15 ((5 : Int32)).toNatClampNeg) v0 8 (some q32)) 7 0)) fun _ h42 n43 n44 => ac n43 n44 <| gd (decide (kd h42 v0 = 2)) <| ob (some (setI (setI (setI (setI (setR h42 v0 9 (some q36)) v0 10 (0 : Int32)) v0 11 (0 : Int32)) v0 12 (1000 : Int32)) v0 13 (2000 : Int32))) fun h48 => ob (some (zN (setI (setI h48 v0 14 (0 : Int32)) v0 15 (1 : Int32)))) fun q50 => ac 1 4 <| ob4 (F_X0_init q50 (alloc (setI (setI h48 v0 14 (0 : Int32)) v0 15 (1 : Int32)) 0 0)) fun _ h56 n57 n58 => ac n57 n58 <| gd (decide (kd h56 v0 = 2)) <| ob (some (zN (setI (setR h56 v0 16 (some q50)) v0 17 (0 : Int32)))) fun q62 => ac 1 ((8 : Int32)).toNatClampNeg <| ob (some (zN (setR (alloc (setI (setR h56 v0 16 (some q50)) v0 17 (0 : Int32)) 13 ((8 : Int32)).toNatClampNeg) v0 18 (some q62)))) fun q66 => ac 1 ((8 : Int32)).toNatClampNeg <| ob (some (alloc (setR (alloc (setI (setR h56 v0 16 (some q50)) v0 17 (0 : Int32)) 13 ((8 : Int32)).toNatClampNeg) v0 18 (some q62)) 13 ((8 : Int32)).toNatClampNeg)) fun h70 => ob (zR (setR h70 v0 19 (some q66)) v0 8) fun q72 => ob (some (zN (setR h70 v0 19 (some q66)))) fun q74 => ac 1 4 <| ob4 (F_X10_init q74 (alloc (setR h70 v0 19 (some q66)) 9 0)) fun _ h80 n81 n82 => ac n81 n82 <| gd (decide (kd h80 q72 = 15)) <| gd (decide (kd h80 q74 = 9)) <| gd (ix (0 : Int32) (zl h80 q72)) <| gd (decide (kd (setR h80 q72 ((0 : Int32)).toNatClampNeg (some q74)) v0 = 2)) <| ob (zR (setR h80 q72 ((0 : Int32)).toNatClampNeg (some q74)) v0 8) fun q89 => ob (some (zN (setR h80 q72 ((0 : Int32)).toNatClampNeg (some q74)))) fun q91 => ac 1 4 <| ob4 (F_X10_init q91 (alloc (setR h80 q72 ((0 : Int32)).toNatClampNeg (some q74)) 9 0)) fun _ h97 n98 n99 => ac n98 n99 <| gd (decide (kd h97 q89 = 15)) <| gd (decide (kd h97 q91 = 9)) <| gd (ix (1 : Int32) (zl h97 q89)) <| gd (decide (kd (setR h97 q89 ((1 : Int32)).toNatClampNeg (some q91)) v0 = 2)) <| ob (zR (setR h97 q89 ((1 : Int32)).toNatClampNeg (some q91)) v0 8) fun q106 => ob (some (zN (setR h97 q89 ((1 : Int32)).toNatClampNeg (some q91)))) fun q108 => ac 1 4 <| ob4 (F_X10_init q108 (alloc (setR h97 q89 ((1 : Int32)).toNatClampNeg (some q91)) 9 0)) fun _ h114 n115 n116 => ac n115 n116 <| gd (decide (kd h114 q106 = 15)) <| gd (decide (kd h114 q108 = 9)) <| gd (ix (2 : Int32) (zl h114 q106)) <| gd (decide (kd (setR h114 q106 ((2 : Int32)).toNatClampNeg (some q108)) v0 = 2)) <| ob (zR (setR h114 q106 ((2 : Int32)).toNatClampNeg (some q108)) v0 8) fun q123 => ob (some (zN (setR h114 q106 ((2 : Int32)).toNatClampNeg (some q108)))) fun q125 => ac 1 4 <| ob4 (F_X10_init q125 (alloc (setR h114 q106 ((2 : Int32)).toNatClampNeg (some q108)) 9 0)) fun _ h131 n132 n133 => ac n132 n133 <| gd (decide (kd h131 q123 = 15)) <| gd (decide (kd h131 q125 = 9)) <| gd (ix (3 : Int32) (zl h131 q123)) <| gd (decide (kd (setR h131 q123 ((3 : Int32)).toNatClampNeg (some q125)) v0 = 2)) <| ob (zR (setR h131 q123 ((3 : Int32)).toNatClampNeg (some q125)) v0 8) fun q140 => ob (some (zN (setR h131 q123 ((3 : Int32)).toNatClampNeg (some q125)))) fun q142 => ac 1 4 <| ob4 (F_X10_init q142 (alloc (setR h131 q123 ((3 : Int32)).toNatClampNeg (some q125)) 9 0)) fun _ h148 n149 n150 => ac n149 n150 <| gd (decide (kd h148 q140 = 15)) <| gd (decide (kd h148 q142 = 9)) <| gd (ix (4 : Int32) (zl h148 q140)) <| some ((), setR h148 q140 ((4 : Int32)).toNatClampNeg (some q142), 0, 0)
set_option maxHeartbeats 4000000 in
set_option maxRecDepth 100000 in
theorem r_X2_init_b0 (v0 : Nat) (h : Hp) {x : Cx} {r : Unit} {hz : Hp} {c9 s9 : Nat} (e : F_X2_init_b0 v0 h = some (r, hz, c9, s9)) (hF : Fin9 M_X2_init x none none hz) : V M_X2_init x 3 0 [(0, .ref v0)] [] h c9 s9 := by
  unfold F_X2_init_b0 at e
  refine V_aload_n (pc := 0) (i := 0) dX2_init_0 rfl rfl ?_
  refine V_objI (pc := 1) dX2_init_1 wo_X2_3 (by decide) (Nat.le_of_ble_eq_true rfl) ?_
  refine V_aload_n (pc := 4) (i := 0) dX2_init_4 rfl rfl ?_
  refine V_iconst (pc := 5) (v := (0 : Int32)) dX2_init_5 (by decide) ?_
  replace e := gd_some e
  obtain ⟨g1, e⟩ := e
  refine V_putI (pc := 6) (ci := 2) (k := 0) dX2_init_6 fp_X2_9 rfl (of_decide_eq_true g1) ?_
  refine V_aload_n (pc := 9) (i := 0) dX2_init_9 rfl rfl ?_
  refine V_bipush (pc := 10) (v := (8 : Int32)) dX2_init_10 (by decide) ?_
  replace e := ob_some e
  obtain ⟨q2, g3, e⟩ := e
  replace e := ac_some e
  obtain ⟨n4, n5, e, hc9, hs9⟩ := e
  rw [hc9, hs9]
  clear hc9 hs9
  refine V_newIQ (pc := 12) (n := (8 : Int32)) dX2_init_12 wa_int (by decide) (by decide) (q := q2) (bc := n4) (bs := n5) (Option.some.inj g3) ?_
  refine V_putRF (pc := 14) (ci := 2) (k := 1) dX2_init_14 fp_X2_15 rfl (kd_old (of_decide_eq_true g1) (by decide)) (fun _ => ⟨rfl, rfl⟩) rfl ?_
  refine V_aload_n (pc := 17) (i := 0) dX2_init_17 rfl rfl ?_
  refine V_bipush (pc := 18) (v := (8 : Int32)) dX2_init_18 (by decide) ?_
  replace e := ob_some e
  obtain ⟨q6, g7, e⟩ := e
  replace e := ac_some e
  obtain ⟨n8, n9, e, hc9, hs9⟩ := e
  rw [hc9, hs9]
  clear hc9 hs9
  refine V_newIQ (pc := 20) (n := (8 : Int32)) dX2_init_20 wa_int (by decide) (by decide) (q := q6) (bc := n8) (bs := n9) (Option.some.inj g7) ?_
  replace e := ob_some e
  obtain ⟨h10, g11, e⟩ := e
  refine V_hp (Option.some.inj g11) ?_
  refine V_putRF (pc := 22) (ci := 2) (k := 2) dX2_init_22 fp_X2_19 rfl (kd_eq (Option.some.inj g11) (kd_old (kd_old (of_decide_eq_true g1) (by decide)) (by decide))) (fun _ => ⟨rfl, rfl⟩) rfl ?_
  refine V_aload_n (pc := 25) (i := 0) dX2_init_25 rfl rfl ?_
  refine V_bipush (pc := 26) (v := (8 : Int32)) dX2_init_26 (by decide) ?_
  replace e := ob_some e
  obtain ⟨q12, g13, e⟩ := e
  replace e := ac_some e
  obtain ⟨n14, n15, e, hc9, hs9⟩ := e
  rw [hc9, hs9]
  clear hc9 hs9
  refine V_newIQ (pc := 28) (n := (8 : Int32)) dX2_init_28 wa_int (by decide) (by decide) (q := q12) (bc := n14) (bs := n15) (Option.some.inj g13) ?_
  refine V_putRF (pc := 30) (ci := 2) (k := 3) dX2_init_30 fp_X2_22 rfl (kd_old (kd_eq (Option.some.inj g11) (kd_old (kd_old (of_decide_eq_true g1) (by decide)) (by decide))) (by decide)) (fun _ => ⟨rfl, rfl⟩) rfl ?_
  refine V_aload_n (pc := 33) (i := 0) dX2_init_33 rfl rfl ?_
  refine V_bipush (pc := 34) (v := (8 : Int32)) dX2_init_34 (by decide) ?_
  replace e := ob_some e
  obtain ⟨q16, g17, e⟩ := e
  replace e := ac_some e
  obtain ⟨n18, n19, e, hc9, hs9⟩ := e
  rw [hc9, hs9]
  clear hc9 hs9
  refine V_newIQ (pc := 36) (n := (8 : Int32)) dX2_init_36 wa_int (by decide) (by decide) (q := q16) (bc := n18) (bs := n19) (Option.some.inj g17) ?_
  replace e := ob_some e
  obtain ⟨h20, g21, e⟩ := e
  refine V_hp (Option.some.inj g21) ?_
  refine V_putRF (pc := 38) (ci := 2) (k := 4) dX2_init_38 fp_X2_25 rfl (kd_eq (Option.some.inj g21) (kd_old (kd_old (kd_eq (Option.some.inj g11) (kd_old (kd_old (of_decide_eq_true g1) (by decide)) (by decide))) (by decide)) (by decide))) (fun _ => ⟨rfl, rfl⟩) rfl ?_
  refine V_aload_n (pc := 41) (i := 0) dX2_init_41 rfl rfl ?_
  refine V_iconst (pc := 42) (v := (0 : Int32)) dX2_init_42 (by decide) ?_
  refine V_putI (pc := 43) (ci := 2) (k := 5) dX2_init_43 fp_X2_28 rfl (kd_eq (Option.some.inj g21) (kd_old (kd_old (kd_eq (Option.some.inj g11) (kd_old (kd_old (of_decide_eq_true g1) (by decide)) (by decide))) (by decide)) (by decide))) ?_
  refine V_aload_n (pc := 46) (i := 0) dX2_init_46 rfl rfl ?_
  refine V_iconst (pc := 47) (v := (5 : Int32)) dX2_init_47 (by decide) ?_
  replace e := ob_some e
  obtain ⟨q22, g23, e⟩ := e
  replace e := ac_some e
  obtain ⟨n24, n25, e, hc9, hs9⟩ := e
  rw [hc9, hs9]
  clear hc9 hs9
  refine V_newIQ (pc := 48) (n := (5 : Int32)) dX2_init_48 wa_int (by decide) (by decide) (q := q22) (bc := n24) (bs := n25) (Option.some.inj g23) ?_
  refine V_putRF (pc := 50) (ci := 2) (k := 6) dX2_init_50 fp_X2_31 rfl (kd_old (kd_eq (Option.some.inj g21) (kd_old (kd_old (kd_eq (Option.some.inj g11) (kd_old (kd_old (of_decide_eq_true g1) (by decide)) (by decide))) (by decide)) (by decide))) (by decide)) (fun _ => ⟨rfl, rfl⟩) rfl ?_
  refine V_aload_n (pc := 53) (i := 0) dX2_init_53 rfl rfl ?_
  refine V_iconst (pc := 54) (v := (5 : Int32)) dX2_init_54 (by decide) ?_
  replace e := ob_some e
  obtain ⟨q26, g27, e⟩ := e
  replace e := ac_some e
  obtain ⟨n28, n29, e, hc9, hs9⟩ := e
  rw [hc9, hs9]
  clear hc9 hs9
  refine V_newIQ (pc := 55) (n := (5 : Int32)) dX2_init_55 wa_int (by decide) (by decide) (q := q26) (bc := n28) (bs := n29) (Option.some.inj g27) ?_
  replace e := ob_some e
  obtain ⟨h30, g31, e⟩ := e
  refine V_hp (Option.some.inj g31) ?_
  refine V_putRF (pc := 57) (ci := 2) (k := 7) dX2_init_57 fp_X2_34 rfl (kd_eq (Option.some.inj g31) (kd_old (kd_old (kd_eq (Option.some.inj g21) (kd_old (kd_old (kd_eq (Option.some.inj g11) (kd_old (kd_old (of_decide_eq_true g1) (by decide)) (by decide))) (by decide)) (by decide))) (by decide)) (by decide))) (fun _ => ⟨rfl, rfl⟩) rfl ?_
  refine V_aload_n (pc := 60) (i := 0) dX2_init_60 rfl rfl ?_
  refine V_iconst (pc := 61) (v := (5 : Int32)) dX2_init_61 (by decide) ?_
  replace e := ob_some e
  obtain ⟨q32, g33, e⟩ := e
  replace e := ac_some e
  obtain ⟨n34, n35, e, hc9, hs9⟩ := e
  rw [hc9, hs9]
  clear hc9 hs9
  refine V_newW (pc := 62) (n := (5 : Int32)) dX2_init_62 wc_X2_37 (by decide) (by decide) (q := q32) (bc := n34) (bs := n35) (Option.some.inj g33) ?_
  refine V_putRF (pc := 65) (ci := 2) (k := 8) dX2_init_65 fp_X2_39 rfl (kd_old (kd_eq (Option.some.inj g31) (kd_old (kd_old (kd_eq (Option.some.inj g21) (kd_old (kd_old (kd_eq (Option.some.inj g11) (kd_old (kd_old (of_decide_eq_true g1) (by decide)) (by decide))) (by decide)) (by decide))) (by decide)) (by decide))) (by decide)) (fun _ => ⟨rfl, rfl⟩) rfl ?_
  refine V_aload_n (pc := 68) (i := 0) dX2_init_68 rfl rfl ?_
  replace e := ob_some e
  obtain ⟨q36, g37, e⟩ := e
  replace e := ac_some e
  obtain ⟨n38, n39, e, hc9, hs9⟩ := e
  rw [hc9, hs9]
  clear hc9 hs9
  refine V_newQ (pc := 69) (ci := 7) dX2_init_69 nl_X2_43 (q := q36) (bc := n38) (bs := n39) (Option.some.inj g37) ?_
  refine V_dup (pc := 72) dX2_init_72 rfl ?_
  replace e := ob4_some e
  obtain ⟨r41, h42, n43, n44, g40, e⟩ := e
  replace e := ac_some e
  obtain ⟨n45, n46, e, hc9, hs9⟩ := e
  rw [hc9, hs9]
  clear hc9 hs9
  refine V_callI (pc := 73) (bc := n45) (bs := n46) (mc := n43) (ms := n44) (st := [.ref q36, .ref v0]) (As := []) (a := q36) (h' := h42) dX2_init_73 ml_X2_45 rfl rfl (Nat.le_of_ble_eq_true rfl) (d' := 1) (by decide) (c_X8_init (l := x.2.1) q36 (alloc (setR (alloc (setR h30 v0 7 (some q26)) 15 ((5 : Int32)).toNatClampNeg) v0 8 (some q32)) 7 0) g40) ?_
  replace e := gd_some e
  obtain ⟨g47, e⟩ := e
  refine V_putRF (pc := 76) (ci := 2) (k := 9) dX2_init_76 fp_X2_46 rfl (of_decide_eq_true g47) (fun _ => ⟨rfl, rfl⟩) rfl ?_
  refine V_aload_n (pc := 79) (i := 0) dX2_init_79 rfl rfl ?_
  refine V_iconst (pc := 80) (v := (0 : Int32)) dX2_init_80 (by decide) ?_
  refine V_putI (pc := 81) (ci := 2) (k := 10) dX2_init_81 fp_X2_50 rfl (of_decide_eq_true g47) ?_
  refine V_aload_n (pc := 84) (i := 0) dX2_init_84 rfl rfl ?_
  refine V_iconst (pc := 85) (v := (0 : Int32)) dX2_init_85 (by decide) ?_
  refine V_putI (pc := 86) (ci := 2) (k := 11) dX2_init_86 fp_X2_53 rfl (of_decide_eq_true g47) ?_
  refine V_aload_n (pc := 89) (i := 0) dX2_init_89 rfl rfl ?_
  refine V_sipush (pc := 90) (v := (1000 : Int32)) dX2_init_90 (by decide) ?_
  refine V_putI (pc := 93) (ci := 2) (k := 12) dX2_init_93 fp_X2_56 rfl (of_decide_eq_true g47) ?_
  refine V_aload_n (pc := 96) (i := 0) dX2_init_96 rfl rfl ?_
  refine V_sipush (pc := 97) (v := (2000 : Int32)) dX2_init_97 (by decide) ?_
  refine V_putI (pc := 100) (ci := 2) (k := 13) dX2_init_100 fp_X2_59 rfl (of_decide_eq_true g47) ?_
  replace e := ob_some e
  obtain ⟨h48, g49, e⟩ := e
  refine V_hp (Option.some.inj g49) ?_
  refine V_aload_n (pc := 103) (i := 0) dX2_init_103 rfl rfl ?_
  refine V_iconst (pc := 104) (v := (0 : Int32)) dX2_init_104 (by decide) ?_
  refine V_putI (pc := 105) (ci := 2) (k := 14) dX2_init_105 fp_X2_62 rfl (kd_eq (Option.some.inj g49) (of_decide_eq_true g47)) ?_
  refine V_aload_n (pc := 108) (i := 0) dX2_init_108 rfl rfl ?_
  refine V_iconst (pc := 109) (v := (1 : Int32)) dX2_init_109 (by decide) ?_
  refine V_putI (pc := 110) (ci := 2) (k := 15) dX2_init_110 fp_X2_65 rfl (kd_eq (Option.some.inj g49) (of_decide_eq_true g47)) ?_
  refine V_aload_n (pc := 113) (i := 0) dX2_init_113 rfl rfl ?_
  replace e := ob_some e
  obtain ⟨q50, g51, e⟩ := e
  replace e := ac_some e
  obtain ⟨n52, n53, e, hc9, hs9⟩ := e
  rw [hc9, hs9]
  clear hc9 hs9
  refine V_newQ (pc := 114) (ci := 0) dX2_init_114 nl_X2_68 (q := q50) (bc := n52) (bs := n53) (Option.some.inj g51) ?_
  refine V_dup (pc := 117) dX2_init_117 rfl ?_
  replace e := ob4_some e
  obtain ⟨r55, h56, n57, n58, g54, e⟩ := e
  replace e := ac_some e
  obtain ⟨n59, n60, e, hc9, hs9⟩ := e
  rw [hc9, hs9]
  clear hc9 hs9
  refine V_callI (pc := 118) (bc := n59) (bs := n60) (mc := n57) (ms := n58) (st := [.ref q50, .ref v0]) (As := []) (a := q50) (h' := h56) dX2_init_118 ml_X2_70 rfl rfl (Nat.le_of_ble_eq_true rfl) (d' := 2) (by decide) (c_X0_init (l := x.2.1) q50 (alloc (setI (setI h48 v0 14 (0 : Int32)) v0 15 (1 : Int32)) 0 0) g54) ?_
  replace e := gd_some e
  obtain ⟨g61, e⟩ := e
  refine V_putRF (pc := 121) (ci := 2) (k := 16) dX2_init_121 fp_X2_71 rfl (of_decide_eq_true g61) (fun _ => ⟨rfl, rfl⟩) rfl ?_
  refine V_aload_n (pc := 124) (i := 0) dX2_init_124 rfl rfl ?_
  refine V_iconst (pc := 125) (v := (0 : Int32)) dX2_init_125 (by decide) ?_
  refine V_putI (pc := 126) (ci := 2) (k := 17) dX2_init_126 fp_X2_75 rfl (of_decide_eq_true g61) ?_
  refine V_aload_n (pc := 129) (i := 0) dX2_init_129 rfl rfl ?_
  refine V_bipush (pc := 130) (v := (8 : Int32)) dX2_init_130 (by decide) ?_
  replace e := ob_some e
  obtain ⟨q62, g63, e⟩ := e
  replace e := ac_some e
  obtain ⟨n64, n65, e, hc9, hs9⟩ := e
  rw [hc9, hs9]
  clear hc9 hs9
  refine V_newIQ (pc := 132) (n := (8 : Int32)) dX2_init_132 wa_int (by decide) (by decide) (q := q62) (bc := n64) (bs := n65) (Option.some.inj g63) ?_
  refine V_putRF (pc := 134) (ci := 2) (k := 18) dX2_init_134 fp_X2_78 rfl (kd_old (of_decide_eq_true g61) (by decide)) (fun _ => ⟨rfl, rfl⟩) rfl ?_
  refine V_aload_n (pc := 137) (i := 0) dX2_init_137 rfl rfl ?_
  refine V_bipush (pc := 138) (v := (8 : Int32)) dX2_init_138 (by decide) ?_
  replace e := ob_some e
  obtain ⟨q66, g67, e⟩ := e
  replace e := ac_some e
  obtain ⟨n68, n69, e, hc9, hs9⟩ := e
  rw [hc9, hs9]
  clear hc9 hs9
  refine V_newIQ (pc := 140) (n := (8 : Int32)) dX2_init_140 wa_int (by decide) (by decide) (q := q66) (bc := n68) (bs := n69) (Option.some.inj g67) ?_
  replace e := ob_some e
  obtain ⟨h70, g71, e⟩ := e
  refine V_hp (Option.some.inj g71) ?_
  refine V_putRF (pc := 142) (ci := 2) (k := 19) dX2_init_142 fp_X2_81 rfl (kd_eq (Option.some.inj g71) (kd_old (kd_old (of_decide_eq_true g61) (by decide)) (by decide))) (fun _ => ⟨rfl, rfl⟩) rfl ?_
  refine V_iconst (pc := 145) (v := (0 : Int32)) dX2_init_145 (by decide) ?_
  refine V_istore_n (pc := 146) (i := 1) (lv' := [(1, .int (0 : Int32)), (0, .ref v0)]) dX2_init_146 rfl (by decide) rfl ?_
  refine V_pick [1, 0] rfl ?_
  refine V_iload_n (pc := 147) (i := 1) dX2_init_147 rfl rfl ?_
  refine V_iconst (pc := 148) (v := (5 : Int32)) dX2_init_148 (by decide) ?_
  refine V_icmp_ge (pc := 149) (tgt := 171) dX2_init_149 (by decide) (fun q9 => absurd q9 (by decide)) (fun q9 => ?_)
  refine V_pick [0, 1] rfl ?_
  refine V_aload_n (pc := 152) (i := 0) dX2_init_152 rfl rfl ?_
  replace e := ob_some e
  obtain ⟨q72, g73, e⟩ := e
  refine V_getR (pc := 153) (ci := 2) (k := 8) (b := q72) dX2_init_153 fl_X2_39 rfl (kd_eq (Option.some.inj g71) (kd_old (kd_old (of_decide_eq_true g61) (by decide)) (by decide))) g73 ?_
  refine V_iload_n (pc := 156) (i := 1) dX2_init_156 rfl rfl ?_
  replace e := ob_some e
  obtain ⟨q74, g75, e⟩ := e
  replace e := ac_some e
  obtain ⟨n76, n77, e, hc9, hs9⟩ := e
  rw [hc9, hs9]
  clear hc9 hs9
  refine V_newQ (pc := 157) (ci := 9) dX2_init_157 nl_X2_37 (q := q74) (bc := n76) (bs := n77) (Option.some.inj g75) ?_
  refine V_dup (pc := 160) dX2_init_160 rfl ?_
  replace e := ob4_some e
  obtain ⟨r79, h80, n81, n82, g78, e⟩ := e
  replace e := ac_some e
  obtain ⟨n83, n84, e, hc9, hs9⟩ := e
  rw [hc9, hs9]
  clear hc9 hs9
  refine V_callI (pc := 161) (bc := n83) (bs := n84) (mc := n81) (ms := n82) (st := [.ref q74, .int (0 : Int32), .ref q72]) (As := []) (a := q74) (h' := h80) dX2_init_161 ml_X2_84 rfl rfl (Nat.le_of_ble_eq_true rfl) (d' := 2) (by decide) (c_X10_init (l := x.2.1) q74 (alloc (setR h70 v0 19 (some q66)) 9 0) g78) ?_
  replace e := gd_some e
  obtain ⟨g85, e⟩ := e
  replace e := gd_some e
  obtain ⟨g86, e⟩ := e
  replace e := gd_some e
  obtain ⟨g87, e⟩ := e
  refine V_aast (pc := 164) dX2_init_164 (of_decide_eq_true g85) (of_decide_eq_true g86) (ix_in g87) ?_
  refine V_iinc (pc := 165) (i := 1) (u := (1 : Int32)) (lv' := [(1, .int (1 : Int32)), (0, .ref v0)]) dX2_init_165 rfl rfl (by decide) rfl ?_
  refine V_goto (pc := 168) (tgt := 147) dX2_init_168 (by decide) ?_
  refine V_pick [1, 0] rfl ?_
  refine V_iload_n (pc := 147) (i := 1) dX2_init_147 rfl rfl ?_
  refine V_iconst (pc := 148) (v := (5 : Int32)) dX2_init_148 (by decide) ?_
  refine V_icmp_ge (pc := 149) (tgt := 171) dX2_init_149 (by decide) (fun q9 => absurd q9 (by decide)) (fun q9 => ?_)
  refine V_pick [0, 1] rfl ?_
  refine V_aload_n (pc := 152) (i := 0) dX2_init_152 rfl rfl ?_
  replace e := gd_some e
  obtain ⟨g88, e⟩ := e
  replace e := ob_some e
  obtain ⟨q89, g90, e⟩ := e
  refine V_getR (pc := 153) (ci := 2) (k := 8) (b := q89) dX2_init_153 fl_X2_39 rfl (of_decide_eq_true g88) g90 ?_
  refine V_iload_n (pc := 156) (i := 1) dX2_init_156 rfl rfl ?_
  replace e := ob_some e
  obtain ⟨q91, g92, e⟩ := e
  replace e := ac_some e
  obtain ⟨n93, n94, e, hc9, hs9⟩ := e
  rw [hc9, hs9]
  clear hc9 hs9
  refine V_newQ (pc := 157) (ci := 9) dX2_init_157 nl_X2_37 (q := q91) (bc := n93) (bs := n94) (Option.some.inj g92) ?_
  refine V_dup (pc := 160) dX2_init_160 rfl ?_
  replace e := ob4_some e
  obtain ⟨r96, h97, n98, n99, g95, e⟩ := e
  replace e := ac_some e
  obtain ⟨n100, n101, e, hc9, hs9⟩ := e
  rw [hc9, hs9]
  clear hc9 hs9
  refine V_callI (pc := 161) (bc := n100) (bs := n101) (mc := n98) (ms := n99) (st := [.ref q91, .int (1 : Int32), .ref q89]) (As := []) (a := q91) (h' := h97) dX2_init_161 ml_X2_84 rfl rfl (Nat.le_of_ble_eq_true rfl) (d' := 2) (by decide) (c_X10_init (l := x.2.1) q91 (alloc (setR h80 q72 ((0 : Int32)).toNatClampNeg (some q74)) 9 0) g95) ?_
  replace e := gd_some e
  obtain ⟨g102, e⟩ := e
  replace e := gd_some e
  obtain ⟨g103, e⟩ := e
  replace e := gd_some e
  obtain ⟨g104, e⟩ := e
  refine V_aast (pc := 164) dX2_init_164 (of_decide_eq_true g102) (of_decide_eq_true g103) (ix_in g104) ?_
  refine V_iinc (pc := 165) (i := 1) (u := (2 : Int32)) (lv' := [(1, .int (2 : Int32)), (0, .ref v0)]) dX2_init_165 rfl rfl (by decide) rfl ?_
  refine V_goto (pc := 168) (tgt := 147) dX2_init_168 (by decide) ?_
  refine V_pick [1, 0] rfl ?_
  refine V_iload_n (pc := 147) (i := 1) dX2_init_147 rfl rfl ?_
  refine V_iconst (pc := 148) (v := (5 : Int32)) dX2_init_148 (by decide) ?_
  refine V_icmp_ge (pc := 149) (tgt := 171) dX2_init_149 (by decide) (fun q9 => absurd q9 (by decide)) (fun q9 => ?_)
  refine V_pick [0, 1] rfl ?_
  refine V_aload_n (pc := 152) (i := 0) dX2_init_152 rfl rfl ?_
  replace e := gd_some e
  obtain ⟨g105, e⟩ := e
  replace e := ob_some e
  obtain ⟨q106, g107, e⟩ := e
  refine V_getR (pc := 153) (ci := 2) (k := 8) (b := q106) dX2_init_153 fl_X2_39 rfl (of_decide_eq_true g105) g107 ?_
  refine V_iload_n (pc := 156) (i := 1) dX2_init_156 rfl rfl ?_
  replace e := ob_some e
  obtain ⟨q108, g109, e⟩ := e
  replace e := ac_some e
  obtain ⟨n110, n111, e, hc9, hs9⟩ := e
  rw [hc9, hs9]
  clear hc9 hs9
  refine V_newQ (pc := 157) (ci := 9) dX2_init_157 nl_X2_37 (q := q108) (bc := n110) (bs := n111) (Option.some.inj g109) ?_
  refine V_dup (pc := 160) dX2_init_160 rfl ?_
  replace e := ob4_some e
  obtain ⟨r113, h114, n115, n116, g112, e⟩ := e
  replace e := ac_some e
  obtain ⟨n117, n118, e, hc9, hs9⟩ := e
  rw [hc9, hs9]
  clear hc9 hs9
  refine V_callI (pc := 161) (bc := n117) (bs := n118) (mc := n115) (ms := n116) (st := [.ref q108, .int (2 : Int32), .ref q106]) (As := []) (a := q108) (h' := h114) dX2_init_161 ml_X2_84 rfl rfl (Nat.le_of_ble_eq_true rfl) (d' := 2) (by decide) (c_X10_init (l := x.2.1) q108 (alloc (setR h97 q89 ((1 : Int32)).toNatClampNeg (some q91)) 9 0) g112) ?_
  replace e := gd_some e
  obtain ⟨g119, e⟩ := e
  replace e := gd_some e
  obtain ⟨g120, e⟩ := e
  replace e := gd_some e
  obtain ⟨g121, e⟩ := e
  refine V_aast (pc := 164) dX2_init_164 (of_decide_eq_true g119) (of_decide_eq_true g120) (ix_in g121) ?_
  refine V_iinc (pc := 165) (i := 1) (u := (3 : Int32)) (lv' := [(1, .int (3 : Int32)), (0, .ref v0)]) dX2_init_165 rfl rfl (by decide) rfl ?_
  refine V_goto (pc := 168) (tgt := 147) dX2_init_168 (by decide) ?_
  refine V_pick [1, 0] rfl ?_
  refine V_iload_n (pc := 147) (i := 1) dX2_init_147 rfl rfl ?_
  refine V_iconst (pc := 148) (v := (5 : Int32)) dX2_init_148 (by decide) ?_
  refine V_icmp_ge (pc := 149) (tgt := 171) dX2_init_149 (by decide) (fun q9 => absurd q9 (by decide)) (fun q9 => ?_)
  refine V_pick [0, 1] rfl ?_
  refine V_aload_n (pc := 152) (i := 0) dX2_init_152 rfl rfl ?_
  replace e := gd_some e
  obtain ⟨g122, e⟩ := e
  replace e := ob_some e
  obtain ⟨q123, g124, e⟩ := e
  refine V_getR (pc := 153) (ci := 2) (k := 8) (b := q123) dX2_init_153 fl_X2_39 rfl (of_decide_eq_true g122) g124 ?_
  refine V_iload_n (pc := 156) (i := 1) dX2_init_156 rfl rfl ?_
  replace e := ob_some e
  obtain ⟨q125, g126, e⟩ := e
  replace e := ac_some e
  obtain ⟨n127, n128, e, hc9, hs9⟩ := e
  rw [hc9, hs9]
  clear hc9 hs9
  refine V_newQ (pc := 157) (ci := 9) dX2_init_157 nl_X2_37 (q := q125) (bc := n127) (bs := n128) (Option.some.inj g126) ?_
  refine V_dup (pc := 160) dX2_init_160 rfl ?_
  replace e := ob4_some e
  obtain ⟨r130, h131, n132, n133, g129, e⟩ := e
  replace e := ac_some e
  obtain ⟨n134, n135, e, hc9, hs9⟩ := e
  rw [hc9, hs9]
  clear hc9 hs9
  refine V_callI (pc := 161) (bc := n134) (bs := n135) (mc := n132) (ms := n133) (st := [.ref q125, .int (3 : Int32), .ref q123]) (As := []) (a := q125) (h' := h131) dX2_init_161 ml_X2_84 rfl rfl (Nat.le_of_ble_eq_true rfl) (d' := 2) (by decide) (c_X10_init (l := x.2.1) q125 (alloc (setR h114 q106 ((2 : Int32)).toNatClampNeg (some q108)) 9 0) g129) ?_
  replace e := gd_some e
  obtain ⟨g136, e⟩ := e
  replace e := gd_some e
  obtain ⟨g137, e⟩ := e
  replace e := gd_some e
  obtain ⟨g138, e⟩ := e
  refine V_aast (pc := 164) dX2_init_164 (of_decide_eq_true g136) (of_decide_eq_true g137) (ix_in g138) ?_
  refine V_iinc (pc := 165) (i := 1) (u := (4 : Int32)) (lv' := [(1, .int (4 : Int32)), (0, .ref v0)]) dX2_init_165 rfl rfl (by decide) rfl ?_
  refine V_goto (pc := 168) (tgt := 147) dX2_init_168 (by decide) ?_
  refine V_pick [1, 0] rfl ?_
  refine V_iload_n (pc := 147) (i := 1) dX2_init_147 rfl rfl ?_
  refine V_iconst (pc := 148) (v := (5 : Int32)) dX2_init_148 (by decide) ?_
  refine V_icmp_ge (pc := 149) (tgt := 171) dX2_init_149 (by decide) (fun q9 => absurd q9 (by decide)) (fun q9 => ?_)
  refine V_pick [0, 1] rfl ?_
  refine V_aload_n (pc := 152) (i := 0) dX2_init_152 rfl rfl ?_
  replace e := gd_some e
  obtain ⟨g139, e⟩ := e
  replace e := ob_some e
  obtain ⟨q140, g141, e⟩ := e
  refine V_getR (pc := 153) (ci := 2) (k := 8) (b := q140) dX2_init_153 fl_X2_39 rfl (of_decide_eq_true g139) g141 ?_
  refine V_iload_n (pc := 156) (i := 1) dX2_init_156 rfl rfl ?_
  replace e := ob_some e
  obtain ⟨q142, g143, e⟩ := e
  replace e := ac_some e
  obtain ⟨n144, n145, e, hc9, hs9⟩ := e
  rw [hc9, hs9]
  clear hc9 hs9
  refine V_newQ (pc := 157) (ci := 9) dX2_init_157 nl_X2_37 (q := q142) (bc := n144) (bs := n145) (Option.some.inj g143) ?_
  refine V_dup (pc := 160) dX2_init_160 rfl ?_
  replace e := ob4_some e
  obtain ⟨r147, h148, n149, n150, g146, e⟩ := e
  replace e := ac_some e
  obtain ⟨n151, n152, e, hc9, hs9⟩ := e
  rw [hc9, hs9]
  clear hc9 hs9
  refine V_callI (pc := 161) (bc := n151) (bs := n152) (mc := n149) (ms := n150) (st := [.ref q142, .int (4 : Int32), .ref q140]) (As := []) (a := q142) (h' := h148) dX2_init_161 ml_X2_84 rfl rfl (Nat.le_of_ble_eq_true rfl) (d' := 2) (by decide) (c_X10_init (l := x.2.1) q142 (alloc (setR h131 q123 ((3 : Int32)).toNatClampNeg (some q125)) 9 0) g146) ?_
  replace e := gd_some e
  obtain ⟨g153, e⟩ := e
  replace e := gd_some e
  obtain ⟨g154, e⟩ := e
  replace e := gd_some e
  obtain ⟨g155, e⟩ := e
  refine V_aast (pc := 164) dX2_init_164 (of_decide_eq_true g153) (of_decide_eq_true g154) (ix_in g155) ?_
  refine V_iinc (pc := 165) (i := 1) (u := (5 : Int32)) (lv' := [(1, .int (5 : Int32)), (0, .ref v0)]) dX2_init_165 rfl rfl (by decide) rfl ?_
  refine V_goto (pc := 168) (tgt := 147) dX2_init_168 (by decide) ?_
  refine V_pick [1, 0] rfl ?_
  refine V_iload_n (pc := 147) (i := 1) dX2_init_147 rfl rfl ?_
  refine V_iconst (pc := 148) (v := (5 : Int32)) dX2_init_148 (by decide) ?_
  refine V_icmp_ge (pc := 149) (tgt := 171) dX2_init_149 (by decide) (fun q9 => ?_) (fun q9 => absurd q9 (by decide))
  refine V_pick [] rfl ?_
  cases e
  exact V_vret (pc := 171) dX2_init_171 hF
def F_X2_init (v0 : Nat) (h : Hp) : Option (Unit × Hp × Nat × Nat) := F_X2_init_b0 v0 h
theorem c_X2_init {l : Launch} (v0 : Nat) (h : Hp) {r : Unit} {hz : Hp} {c9 s9 : Nat} (e : F_X2_init v0 h = some (r, hz, c9, s9)) : Ct l yX2_init M_X2_init none 3 [.ref v0] h c9 s9 none hz :=
  Ct_of rfl rfl (fun _ => rfl) (Nat.le_of_ble_eq_true rfl) (fun x _ hF => V_pick [0] rfl (r_X2_init_b0 v0 h e hF))
theorem dX2_metByAll_0 : decode cX2_metByAll 0 = .ok (.iconst 0, 1) := by decide +kernel
theorem dX2_metByAll_1 : decode cX2_metByAll 1 = .ok (.istore_n 2, 1) := by decide +kernel
theorem dX2_metByAll_2 : decode cX2_metByAll 2 = .ok (.iconst 0, 1) := by decide +kernel
theorem dX2_metByAll_3 : decode cX2_metByAll 3 = .ok (.istore_n 3, 1) := by decide +kernel
theorem dX2_metByAll_4 : decode cX2_metByAll 4 = .ok (.iload_n 3, 1) := by decide +kernel
theorem dX2_metByAll_5 : decode cX2_metByAll 5 = .ok (.aload_n 0, 1) := by decide +kernel
theorem dX2_metByAll_6 : decode cX2_metByAll 6 = .ok (.getfield 28, 3) := by decide +kernel
theorem dX2_metByAll_9 : decode cX2_metByAll 9 = .ok (.if_icmp .ge 24, 3) := by decide +kernel
theorem dX2_metByAll_12 : decode cX2_metByAll 12 = .ok (.iload_n 2, 1) := by decide +kernel
theorem dX2_metByAll_13 : decode cX2_metByAll 13 = .ok (.aload_n 0, 1) := by decide +kernel
theorem dX2_metByAll_14 : decode cX2_metByAll 14 = .ok (.getfield 39, 3) := by decide +kernel
theorem dX2_metByAll_17 : decode cX2_metByAll 17 = .ok (.iload_n 3, 1) := by decide +kernel
theorem dX2_metByAll_18 : decode cX2_metByAll 18 = .ok (.aaload, 1) := by decide +kernel
theorem dX2_metByAll_19 : decode cX2_metByAll 19 = .ok (.aload_n 0, 1) := by decide +kernel
theorem dX2_metByAll_20 : decode cX2_metByAll 20 = .ok (.iload_n 3, 1) := by decide +kernel
theorem dX2_metByAll_21 : decode cX2_metByAll 21 = .ok (.aload_n 1, 1) := by decide +kernel
theorem dX2_metByAll_22 : decode cX2_metByAll 22 = .ok (.invokevirtual 113, 3) := by decide +kernel
theorem dX2_metByAll_25 : decode cX2_metByAll 25 = .ok (.iadd, 1) := by decide +kernel
theorem dX2_metByAll_26 : decode cX2_metByAll 26 = .ok (.istore_n 2, 1) := by decide +kernel
theorem dX2_metByAll_27 : decode cX2_metByAll 27 = .ok (.iinc 3 1, 3) := by decide +kernel
theorem dX2_metByAll_30 : decode cX2_metByAll 30 = .ok (.goto (-26), 3) := by decide +kernel
theorem dX2_metByAll_33 : decode cX2_metByAll 33 = .ok (.iload_n 2, 1) := by decide +kernel
theorem dX2_metByAll_34 : decode cX2_metByAll 34 = .ok (.ireturn, 1) := by decide +kernel
set_option maxRecDepth 100000 in
def F_X2_metByAll_l4 (v0 : Nat) (v1 : Nat) (v2 : Int32) (v3 : Int32) (h : Hp) : Option ((Int32 × Int32 × Hp) ⊕ (Int32 × Hp)) :=
  gd (decide (kd h v0 = 2)) <| (if (zI h v0 5) ≤ v3 then some (.inr (v2, h)) else ob (zR h v0 8) fun q2 => gd (decide (kd h q2 = 15)) <| gd (ix v3 (zl h q2)) <| ob (zR h q2 (v3).toNatClampNeg) fun q6 => ob2 (F_X10_holding q6 v0 v3 v1 h) fun r9 h10 => gd (decide (kd h q6 = 9)) <| some (.inl (v2 + r9, v3 + (1 : Int32), h10)))
set_option maxHeartbeats 4000000 in
set_option maxRecDepth 100000 in
theorem r_X2_metByAll_l4 (v0 : Nat) (v1 : Nat) (v2 : Int32) (v3 : Int32) (h : Hp) {x : Cx} {o : ((Int32 × Int32 × Hp) ⊕ (Int32 × Hp))} (e : F_X2_metByAll_l4 v0 v1 v2 v3 h = some o) (kI : ∀ z, o = .inl z → V M_X2_metByAll x 4 4 [(0, .ref v0), (1, .ref v1), (2, .int z.1), (3, .int z.2.1)] [] z.2.2 0 0) (kE33 : ∀ z : Int32 × Hp, o = .inr z → V M_X2_metByAll x 4 33 [(2, .int z.1)] [] z.2 0 0) : V M_X2_metByAll x 4 4 [(0, .ref v0), (1, .ref v1), (2, .int v2), (3, .int v3)] [] h 0 0 := by
  unfold F_X2_metByAll_l4 at e
  refine V_iload_n (pc := 4) (i := 3) dX2_metByAll_4 rfl rfl ?_
  refine V_aload_n (pc := 5) (i := 0) dX2_metByAll_5 rfl rfl ?_
  obtain ⟨g1, e⟩ := gd_some e
  refine V_getI (pc := 6) (ci := 2) (k := 5) dX2_metByAll_6 fl_X2_28 rfl (of_decide_eq_true g1) ?_
  refine V_icmp_ge (pc := 9) (tgt := 33) dX2_metByAll_9 (by decide) (fun c12 => ?_) (fun c12 => ?_)
  · rw [if_pos c12] at e
    cases e
    exact V_pick [2] rfl (kE33 (v2, h) rfl)
  · rw [if_neg c12] at e
    refine V_pick [0, 1, 2, 3] rfl ?_
    refine V_iload_n (pc := 12) (i := 2) dX2_metByAll_12 rfl rfl ?_
    refine V_aload_n (pc := 13) (i := 0) dX2_metByAll_13 rfl rfl ?_
    obtain ⟨q2, g3, e⟩ := ob_some e
    refine V_getR (pc := 14) (ci := 2) (k := 8) (b := q2) dX2_metByAll_14 fl_X2_39 rfl (of_decide_eq_true g1) g3 ?_
    refine V_iload_n (pc := 17) (i := 3) dX2_metByAll_17 rfl rfl ?_
    obtain ⟨g4, e⟩ := gd_some e
    obtain ⟨g5, e⟩ := gd_some e
    obtain ⟨q6, g7, e⟩ := ob_some e
    refine V_aald (pc := 18) (b := q6) dX2_metByAll_18 (of_decide_eq_true g4) (ix_in g5) g7 ?_
    refine V_aload_n (pc := 19) (i := 0) dX2_metByAll_19 rfl rfl ?_
    refine V_iload_n (pc := 20) (i := 3) dX2_metByAll_20 rfl rfl ?_
    refine V_aload_n (pc := 21) (i := 1) dX2_metByAll_21 rfl rfl ?_
    obtain ⟨r9, h10, g8, e⟩ := ob2_some e
    obtain ⟨g11, e⟩ := gd_some e
    refine V_callV (pc := 22) (bc := 0) (bs := 0) (mc := 0) (ms := 0) (st := [.int v2]) (As := [.ref v0, .int v3, .ref v1]) (a := q6) (h' := h10) (r := some (.int r9)) dX2_metByAll_22 ml_X2_113 (ci := 9) rfl (of_decide_eq_true g11) rfl rfl (Nat.le_of_ble_eq_true rfl) (d' := 3) (by decide) (c_X10_holding (l := x.2.1) q6 v0 v3 v1 h g8) ?_
    refine V_iadd (pc := 25) dX2_metByAll_25 ?_
    refine V_istore_n (pc := 26) (i := 2) (lv' := [(2, .int (v2 + r9)), (0, .ref v0), (1, .ref v1), (3, .int v3)]) dX2_metByAll_26 rfl (by decide) rfl ?_
    refine V_iinc (pc := 27) (i := 3) (u := v3 + (1 : Int32)) (lv' := [(3, .int (v3 + (1 : Int32))), (2, .int (v2 + r9)), (0, .ref v0), (1, .ref v1)]) dX2_metByAll_27 rfl rfl (by decide) rfl ?_
    refine V_goto (pc := 30) (tgt := 4) dX2_metByAll_30 (by decide) ?_
    cases e
    exact V_pick [2, 3, 1, 0] rfl (kI (v2 + r9, v3 + (1 : Int32), h10) rfl)
set_option maxRecDepth 100000 in
def F_X2_metByAll_b0 (v0 : Nat) (v1 : Nat) (h : Hp) : Option (Int32 × Hp) :=
  ob (iter (fun z : Int32 × Int32 × Hp => F_X2_metByAll_l4 v0 v1 z.1 z.2.1 z.2.2) FU ((0 : Int32), (0 : Int32), h)) (fun z => un2 z fun w13 h14 => some (w13, h14))
set_option maxHeartbeats 4000000 in
set_option maxRecDepth 100000 in
theorem r_X2_metByAll_b0 (v0 : Nat) (v1 : Nat) (h : Hp) {x : Cx} {r : Int32} {hz : Hp} (e : F_X2_metByAll_b0 v0 v1 h = some (r, hz)) (hF : Fin9 M_X2_metByAll x (some .int) (some (.int r)) hz) : V M_X2_metByAll x 4 0 [(0, .ref v0), (1, .ref v1)] [] h 0 0 := by
  unfold F_X2_metByAll_b0 at e
  refine V_iconst (pc := 0) (v := (0 : Int32)) dX2_metByAll_0 (by decide) ?_
  refine V_istore_n (pc := 1) (i := 2) (lv' := [(2, .int (0 : Int32)), (0, .ref v0), (1, .ref v1)]) dX2_metByAll_1 rfl (by decide) rfl ?_
  refine V_iconst (pc := 2) (v := (0 : Int32)) dX2_metByAll_2 (by decide) ?_
  refine V_istore_n (pc := 3) (i := 3) (lv' := [(3, .int (0 : Int32)), (2, .int (0 : Int32)), (0, .ref v0), (1, .ref v1)]) dX2_metByAll_3 rfl (by decide) rfl ?_
  refine V_pick [2, 3, 1, 0] rfl ?_
  obtain ⟨y15, g16, e⟩ := ob_some e
  refine iter_V (P := fun z : Int32 × Int32 × Hp => V M_X2_metByAll x 4 4 [(0, .ref v0), (1, .ref v1), (2, .int z.1), (3, .int z.2.1)] [] z.2.2 0 0) (E := fun z : Int32 × Hp => V M_X2_metByAll x 4 33 [(2, .int z.1)] [] z.2 0 0) (fun z o e9 k1 k2 => r_X2_metByAll_l4 v0 v1 z.1 z.2.1 z.2.2 e9 (fun z hz9 => k1 z hz9) (fun z hz9 => k2 _ hz9)) _ _ _ g16 ?_
  clear g16
  obtain ⟨w13, h14⟩ := y15
  replace e : (some (w13, h14)) = some (r, hz) := e
  show V M_X2_metByAll x 4 33 [(2, .int w13)] [] h14 0 0
  refine V_iload_n (pc := 33) (i := 2) dX2_metByAll_33 rfl rfl ?_
  cases e
  exact V_iret (pc := 34) dX2_metByAll_34 hF
def F_X2_metByAll (v0 : Nat) (v1 : Nat) (h : Hp) : Option (Int32 × Hp) := F_X2_metByAll_b0 v0 v1 h
theorem c_X2_metByAll {l : Launch} (v0 : Nat) (v1 : Nat) (h : Hp) {r : Int32} {hz : Hp} (e : F_X2_metByAll v0 v1 h = some (r, hz)) : Ct l yX2_metByAll M_X2_metByAll (some .int) 4 [.ref v0, .ref v1] h 0 0 (some (.int r)) hz :=
  Ct_of rfl rfl (fun q => by cases q) (Nat.le_of_ble_eq_true rfl) (fun x _ hF => V_pick [0, 1] rfl (r_X2_metByAll_b0 v0 v1 h e hF))
theorem dX3_readRoom_0 : decode cX3_readRoom 0 = .ok (.aload_n 0, 1) := by decide +kernel
theorem dX3_readRoom_1 : decode cX3_readRoom 1 = .ok (.getfield 15, 3) := by decide +kernel
theorem dX3_readRoom_4 : decode cX3_readRoom 4 = .ok (.bipush 8, 2) := by decide +kernel
theorem dX3_readRoom_6 : decode cX3_readRoom 6 = .ok (.if_icmp .lt 8, 3) := by decide +kernel
theorem dX3_readRoom_9 : decode cX3_readRoom 9 = .ok (.aload_n 1, 1) := by decide +kernel
theorem dX3_readRoom_10 : decode cX3_readRoom 10 = .ok (.invokevirtual 85, 3) := by decide +kernel
theorem dX3_readRoom_13 : decode cX3_readRoom 13 = .ok (.ireturn, 1) := by decide +kernel
theorem dX3_readRoom_14 : decode cX3_readRoom 14 = .ok (.aload_n 0, 1) := by decide +kernel
theorem dX3_readRoom_15 : decode cX3_readRoom 15 = .ok (.iconst 0, 1) := by decide +kernel
theorem dX3_readRoom_16 : decode cX3_readRoom 16 = .ok (.aload_n 1, 1) := by decide +kernel
theorem dX3_readRoom_17 : decode cX3_readRoom 17 = .ok (.invokevirtual 61, 3) := by decide +kernel
theorem dX3_readRoom_20 : decode cX3_readRoom 20 = .ok (.aload_n 0, 1) := by decide +kernel
theorem dX3_readRoom_21 : decode cX3_readRoom 21 = .ok (.dup, 1) := by decide +kernel
theorem dX3_readRoom_22 : decode cX3_readRoom 22 = .ok (.getfield 15, 3) := by decide +kernel
theorem dX3_readRoom_25 : decode cX3_readRoom 25 = .ok (.iconst 1, 1) := by decide +kernel
theorem dX3_readRoom_26 : decode cX3_readRoom 26 = .ok (.iadd, 1) := by decide +kernel
theorem dX3_readRoom_27 : decode cX3_readRoom 27 = .ok (.putfield 15, 3) := by decide +kernel
theorem dX3_readRoom_30 : decode cX3_readRoom 30 = .ok (.aload_n 0, 1) := by decide +kernel
theorem dX3_readRoom_31 : decode cX3_readRoom 31 = .ok (.iconst 1, 1) := by decide +kernel
theorem dX3_readRoom_32 : decode cX3_readRoom 32 = .ok (.iconst 0, 1) := by decide +kernel
theorem dX3_readRoom_33 : decode cX3_readRoom 33 = .ok (.bipush 9, 2) := by decide +kernel
theorem dX3_readRoom_35 : decode cX3_readRoom 35 = .ok (.aload_n 1, 1) := by decide +kernel
theorem dX3_readRoom_36 : decode cX3_readRoom 36 = .ok (.invokevirtual 65, 3) := by decide +kernel
theorem dX3_readRoom_39 : decode cX3_readRoom 39 = .ok (.ifCond .eq 30, 3) := by decide +kernel
theorem dX3_readRoom_42 : decode cX3_readRoom 42 = .ok (.aload_n 0, 1) := by decide +kernel
theorem dX3_readRoom_43 : decode cX3_readRoom 43 = .ok (.iconst 2, 1) := by decide +kernel
theorem dX3_readRoom_44 : decode cX3_readRoom 44 = .ok (.iconst 0, 1) := by decide +kernel
theorem dX3_readRoom_45 : decode cX3_readRoom 45 = .ok (.bipush 9, 2) := by decide +kernel
theorem dX3_readRoom_47 : decode cX3_readRoom 47 = .ok (.aload_n 1, 1) := by decide +kernel
theorem dX3_readRoom_48 : decode cX3_readRoom 48 = .ok (.invokevirtual 65, 3) := by decide +kernel
theorem dX3_readRoom_51 : decode cX3_readRoom 51 = .ok (.ifCond .eq 18, 3) := by decide +kernel
theorem dX3_readRoom_54 : decode cX3_readRoom 54 = .ok (.aload_n 0, 1) := by decide +kernel
theorem dX3_readRoom_55 : decode cX3_readRoom 55 = .ok (.iconst 3, 1) := by decide +kernel
theorem dX3_readRoom_56 : decode cX3_readRoom 56 = .ok (.iconst 1, 1) := by decide +kernel
theorem dX3_readRoom_57 : decode cX3_readRoom 57 = .ok (.iconst 4, 1) := by decide +kernel
theorem dX3_readRoom_58 : decode cX3_readRoom 58 = .ok (.aload_n 1, 1) := by decide +kernel
theorem dX3_readRoom_59 : decode cX3_readRoom 59 = .ok (.invokevirtual 65, 3) := by decide +kernel
theorem dX3_readRoom_62 : decode cX3_readRoom 62 = .ok (.ifCond .eq 7, 3) := by decide +kernel
theorem dX3_readRoom_65 : decode cX3_readRoom 65 = .ok (.iconst 1, 1) := by decide +kernel
theorem dX3_readRoom_66 : decode cX3_readRoom 66 = .ok (.goto 4, 3) := by decide +kernel
theorem dX3_readRoom_69 : decode cX3_readRoom 69 = .ok (.iconst 0, 1) := by decide +kernel
theorem dX3_readRoom_70 : decode cX3_readRoom 70 = .ok (.ireturn, 1) := by decide +kernel
set_option maxRecDepth 100000 in
def F_X3_readRoom_b70 (t0 : Int32) (h : Hp) : Option (Int32 × Hp) :=
  gd (decide (t0 = 0 ∨ t0 = 1)) <| some (t0, h)
set_option maxHeartbeats 4000000 in
set_option maxRecDepth 100000 in
theorem r_X3_readRoom_b70 (t0 : Int32) (h : Hp) {x : Cx} {r : Int32} {hz : Hp} (e : F_X3_readRoom_b70 t0 h = some (r, hz)) (hF : Fin9 M_X3_readRoom x (some .boolean) (some (.int r)) hz) : V M_X3_readRoom x 4 70 [] [.int t0] h 0 0 := by
  unfold F_X3_readRoom_b70 at e
  obtain ⟨g9, e⟩ := gd_some e
  cases e
  exact V_zret (pc := 70) dX3_readRoom_70 (z01 (of_decide_eq_true g9)) hF
set_option maxRecDepth 100000 in
def F_X3_readRoom_b69  (h : Hp) : Option (Int32 × Hp) :=
  F_X3_readRoom_b70 (0 : Int32) h
set_option maxHeartbeats 4000000 in
set_option maxRecDepth 100000 in
theorem r_X3_readRoom_b69  (h : Hp) {x : Cx} {r : Int32} {hz : Hp} (e : F_X3_readRoom_b69  h = some (r, hz)) (hF : Fin9 M_X3_readRoom x (some .boolean) (some (.int r)) hz) : V M_X3_readRoom x 4 69 [] [] h 0 0 := by
  unfold F_X3_readRoom_b69 at e
  refine V_iconst (pc := 69) (v := (0 : Int32)) dX3_readRoom_69 (by decide) ?_
  exact V_pick [] rfl (r_X3_readRoom_b70 (0 : Int32) h e hF)
set_option maxRecDepth 100000 in
def F_X3_readRoom_b0 (v0 : Nat) (v1 : Nat) (h : Hp) : Option (Int32 × Hp) :=
  gd (decide (kd h v0 = 3)) <| (if (zI h v0 2) < (8 : Int32) then ob2 (F_X3_begin v0 (0 : Int32) v1 h) fun _ h4 => gd (decide (kd h4 v0 = 3)) <| ob2 (F_X3_keep v0 (1 : Int32) (0 : Int32) (9 : Int32) v1 (setI h4 v0 2 ((zI h4 v0 2) + (1 : Int32)))) fun r7 h8 => (if r7 = 0 then F_X3_readRoom_b69 h8 else ob2 (F_X3_keep v0 (2 : Int32) (0 : Int32) (9 : Int32) v1 h8) fun r11 h12 => gd (decide (kd h8 v0 = 3)) <| (if r11 = 0 then F_X3_readRoom_b69 h12 else ob2 (F_X3_keep v0 (3 : Int32) (1 : Int32) (4 : Int32) v1 h12) fun r15 h16 => gd (decide (kd h12 v0 = 3)) <| (if r15 = 0 then F_X3_readRoom_b69 h16 else F_X3_readRoom_b70 (1 : Int32) h16))) else ob2 (F_X6_refuse v1 h) fun r22 h23 => gd (decide (kd h v1 = 6)) <| gd (decide (r22 = 0 ∨ r22 = 1)) <| some (r22, h23))
set_option maxHeartbeats 4000000 in
set_option maxRecDepth 100000 in
theorem r_X3_readRoom_b0 (v0 : Nat) (v1 : Nat) (h : Hp) {x : Cx} {r : Int32} {hz : Hp} (e : F_X3_readRoom_b0 v0 v1 h = some (r, hz)) (hF : Fin9 M_X3_readRoom x (some .boolean) (some (.int r)) hz) : V M_X3_readRoom x 4 0 [(0, .ref v0), (1, .ref v1)] [] h 0 0 := by
  unfold F_X3_readRoom_b0 at e
  refine V_aload_n (pc := 0) (i := 0) dX3_readRoom_0 rfl rfl ?_
  obtain ⟨g1, e⟩ := gd_some e
  refine V_getI (pc := 1) (ci := 3) (k := 2) dX3_readRoom_1 fl_X3_15 rfl (of_decide_eq_true g1) ?_
  refine V_bipush (pc := 4) (v := (8 : Int32)) dX3_readRoom_4 (by decide) ?_
  refine V_icmp_lt (pc := 6) (tgt := 14) dX3_readRoom_6 (by decide) (fun c26 => ?_) (fun c26 => ?_)
  · rw [if_pos c26] at e
    refine V_pick [0, 1] rfl ?_
    refine V_aload_n (pc := 14) (i := 0) dX3_readRoom_14 rfl rfl ?_
    refine V_iconst (pc := 15) (v := (0 : Int32)) dX3_readRoom_15 (by decide) ?_
    refine V_aload_n (pc := 16) (i := 1) dX3_readRoom_16 rfl rfl ?_
    obtain ⟨r3, h4, g2, e⟩ := ob2_some e
    refine V_callV (pc := 17) (bc := 0) (bs := 0) (mc := 0) (ms := 0) (st := []) (As := [.int (0 : Int32), .ref v1]) (a := v0) (h' := h4) (r := none) dX3_readRoom_17 ml_X3_61 (ci := 3) rfl (of_decide_eq_true g1) rfl rfl (Nat.le_of_ble_eq_true rfl) (d' := 2) (by decide) (c_X3_begin (l := x.2.1) v0 (0 : Int32) v1 h g2) ?_
    refine V_aload_n (pc := 20) (i := 0) dX3_readRoom_20 rfl rfl ?_
    refine V_dup (pc := 21) dX3_readRoom_21 rfl ?_
    obtain ⟨g5, e⟩ := gd_some e
    refine V_getI (pc := 22) (ci := 3) (k := 2) dX3_readRoom_22 fl_X3_15 rfl (of_decide_eq_true g5) ?_
    refine V_iconst (pc := 25) (v := (1 : Int32)) dX3_readRoom_25 (by decide) ?_
    refine V_iadd (pc := 26) dX3_readRoom_26 ?_
    refine V_putI (pc := 27) (ci := 3) (k := 2) dX3_readRoom_27 fp_X3_15 rfl (of_decide_eq_true g5) ?_
    refine V_aload_n (pc := 30) (i := 0) dX3_readRoom_30 rfl rfl ?_
    refine V_iconst (pc := 31) (v := (1 : Int32)) dX3_readRoom_31 (by decide) ?_
    refine V_iconst (pc := 32) (v := (0 : Int32)) dX3_readRoom_32 (by decide) ?_
    refine V_bipush (pc := 33) (v := (9 : Int32)) dX3_readRoom_33 (by decide) ?_
    refine V_aload_n (pc := 35) (i := 1) dX3_readRoom_35 rfl rfl ?_
    obtain ⟨r7, h8, g6, e⟩ := ob2_some e
    refine V_callV (pc := 36) (bc := 0) (bs := 0) (mc := 0) (ms := 0) (st := []) (As := [.int (1 : Int32), .int (0 : Int32), .int (9 : Int32), .ref v1]) (a := v0) (h' := h8) (r := some (.int r7)) dX3_readRoom_36 ml_X3_65 (ci := 3) rfl (of_decide_eq_true g5) rfl rfl (Nat.le_of_ble_eq_true rfl) (d' := 3) (by decide) (c_X3_keep (l := x.2.1) v0 (1 : Int32) (0 : Int32) (9 : Int32) v1 (setI h4 v0 2 ((zI h4 v0 2) + (1 : Int32))) g6) ?_
    refine V_if_eq (pc := 39) (tgt := 69) dX3_readRoom_39 (by decide) (fun c20 => ?_) (fun c20 => ?_)
    · rw [if_pos c20] at e
      exact V_pick [] rfl (r_X3_readRoom_b69 h8 e hF)
    · rw [if_neg c20] at e
      refine V_pick [0, 1] rfl ?_
      refine V_aload_n (pc := 42) (i := 0) dX3_readRoom_42 rfl rfl ?_
      refine V_iconst (pc := 43) (v := (2 : Int32)) dX3_readRoom_43 (by decide) ?_
      refine V_iconst (pc := 44) (v := (0 : Int32)) dX3_readRoom_44 (by decide) ?_
      refine V_bipush (pc := 45) (v := (9 : Int32)) dX3_readRoom_45 (by decide) ?_
      refine V_aload_n (pc := 47) (i := 1) dX3_readRoom_47 rfl rfl ?_
      obtain ⟨r11, h12, g10, e⟩ := ob2_some e
      obtain ⟨g13, e⟩ := gd_some e
      refine V_callV (pc := 48) (bc := 0) (bs := 0) (mc := 0) (ms := 0) (st := []) (As := [.int (2 : Int32), .int (0 : Int32), .int (9 : Int32), .ref v1]) (a := v0) (h' := h12) (r := some (.int r11)) dX3_readRoom_48 ml_X3_65 (ci := 3) rfl (of_decide_eq_true g13) rfl rfl (Nat.le_of_ble_eq_true rfl) (d' := 3) (by decide) (c_X3_keep (l := x.2.1) v0 (2 : Int32) (0 : Int32) (9 : Int32) v1 h8 g10) ?_
      refine V_if_eq (pc := 51) (tgt := 69) dX3_readRoom_51 (by decide) (fun c19 => ?_) (fun c19 => ?_)
      · rw [if_pos c19] at e
        exact V_pick [] rfl (r_X3_readRoom_b69 h12 e hF)
      · rw [if_neg c19] at e
        refine V_pick [0, 1] rfl ?_
        refine V_aload_n (pc := 54) (i := 0) dX3_readRoom_54 rfl rfl ?_
        refine V_iconst (pc := 55) (v := (3 : Int32)) dX3_readRoom_55 (by decide) ?_
        refine V_iconst (pc := 56) (v := (1 : Int32)) dX3_readRoom_56 (by decide) ?_
        refine V_iconst (pc := 57) (v := (4 : Int32)) dX3_readRoom_57 (by decide) ?_
        refine V_aload_n (pc := 58) (i := 1) dX3_readRoom_58 rfl rfl ?_
        obtain ⟨r15, h16, g14, e⟩ := ob2_some e
        obtain ⟨g17, e⟩ := gd_some e
        refine V_callV (pc := 59) (bc := 0) (bs := 0) (mc := 0) (ms := 0) (st := []) (As := [.int (3 : Int32), .int (1 : Int32), .int (4 : Int32), .ref v1]) (a := v0) (h' := h16) (r := some (.int r15)) dX3_readRoom_59 ml_X3_65 (ci := 3) rfl (of_decide_eq_true g17) rfl rfl (Nat.le_of_ble_eq_true rfl) (d' := 3) (by decide) (c_X3_keep (l := x.2.1) v0 (3 : Int32) (1 : Int32) (4 : Int32) v1 h12 g14) ?_
        refine V_if_eq (pc := 62) (tgt := 69) dX3_readRoom_62 (by decide) (fun c18 => ?_) (fun c18 => ?_)
        · rw [if_pos c18] at e
          exact V_pick [] rfl (r_X3_readRoom_b69 h16 e hF)
        · rw [if_neg c18] at e
          refine V_pick [] rfl ?_
          refine V_iconst (pc := 65) (v := (1 : Int32)) dX3_readRoom_65 (by decide) ?_
          refine V_goto (pc := 66) (tgt := 70) dX3_readRoom_66 (by decide) ?_
          exact V_pick [] rfl (r_X3_readRoom_b70 (1 : Int32) h16 e hF)
  · rw [if_neg c26] at e
    refine V_pick [1] rfl ?_
    refine V_aload_n (pc := 9) (i := 1) dX3_readRoom_9 rfl rfl ?_
    obtain ⟨r22, h23, g21, e⟩ := ob2_some e
    obtain ⟨g24, e⟩ := gd_some e
    refine V_callV (pc := 10) (bc := 0) (bs := 0) (mc := 0) (ms := 0) (st := []) (As := []) (a := v1) (h' := h23) (r := some (.int r22)) dX3_readRoom_10 ml_X3_85 (ci := 6) rfl (of_decide_eq_true g24) rfl rfl (Nat.le_of_ble_eq_true rfl) (d' := 0) (by decide) (c_X6_refuse (l := x.2.1) v1 h g21) ?_
    obtain ⟨g25, e⟩ := gd_some e
    cases e
    exact V_zret (pc := 13) dX3_readRoom_13 (z01 (of_decide_eq_true g25)) hF
def F_X3_readRoom (v0 : Nat) (v1 : Nat) (h : Hp) : Option (Int32 × Hp) := F_X3_readRoom_b0 v0 v1 h
theorem c_X3_readRoom {l : Launch} (v0 : Nat) (v1 : Nat) (h : Hp) {r : Int32} {hz : Hp} (e : F_X3_readRoom v0 v1 h = some (r, hz)) : Ct l yX3_readRoom M_X3_readRoom (some .boolean) 4 [.ref v0, .ref v1] h 0 0 (some (.int r)) hz :=
  Ct_of rfl rfl (fun q => by cases q) (Nat.le_of_ble_eq_true rfl) (fun x _ hF => V_pick [0, 1] rfl (r_X3_readRoom_b0 v0 v1 h e hF))
theorem dX3_readGuest_0 : decode cX3_readGuest 0 = .ok (.aload_n 0, 1) := by decide +kernel
theorem dX3_readGuest_1 : decode cX3_readGuest 1 = .ok (.getfield 19, 3) := by decide +kernel
theorem dX3_readGuest_4 : decode cX3_readGuest 4 = .ok (.iconst 5, 1) := by decide +kernel
theorem dX3_readGuest_5 : decode cX3_readGuest 5 = .ok (.if_icmp .lt 8, 3) := by decide +kernel
theorem dX3_readGuest_8 : decode cX3_readGuest 8 = .ok (.aload_n 1, 1) := by decide +kernel
theorem dX3_readGuest_9 : decode cX3_readGuest 9 = .ok (.invokevirtual 85, 3) := by decide +kernel
theorem dX3_readGuest_12 : decode cX3_readGuest 12 = .ok (.ireturn, 1) := by decide +kernel
theorem dX3_readGuest_13 : decode cX3_readGuest 13 = .ok (.aload_n 0, 1) := by decide +kernel
theorem dX3_readGuest_14 : decode cX3_readGuest 14 = .ok (.iconst 1, 1) := by decide +kernel
theorem dX3_readGuest_15 : decode cX3_readGuest 15 = .ok (.aload_n 1, 1) := by decide +kernel
theorem dX3_readGuest_16 : decode cX3_readGuest 16 = .ok (.invokevirtual 61, 3) := by decide +kernel
theorem dX3_readGuest_19 : decode cX3_readGuest 19 = .ok (.aload_n 0, 1) := by decide +kernel
theorem dX3_readGuest_20 : decode cX3_readGuest 20 = .ok (.dup, 1) := by decide +kernel
theorem dX3_readGuest_21 : decode cX3_readGuest 21 = .ok (.getfield 19, 3) := by decide +kernel
theorem dX3_readGuest_24 : decode cX3_readGuest 24 = .ok (.iconst 1, 1) := by decide +kernel
theorem dX3_readGuest_25 : decode cX3_readGuest 25 = .ok (.iadd, 1) := by decide +kernel
theorem dX3_readGuest_26 : decode cX3_readGuest 26 = .ok (.putfield 19, 3) := by decide +kernel
theorem dX3_readGuest_29 : decode cX3_readGuest 29 = .ok (.aload_n 0, 1) := by decide +kernel
theorem dX3_readGuest_30 : decode cX3_readGuest 30 = .ok (.iconst 1, 1) := by decide +kernel
theorem dX3_readGuest_31 : decode cX3_readGuest 31 = .ok (.iconst 1, 1) := by decide +kernel
theorem dX3_readGuest_32 : decode cX3_readGuest 32 = .ok (.sipush 200, 3) := by decide +kernel
theorem dX3_readGuest_35 : decode cX3_readGuest 35 = .ok (.aload_n 1, 1) := by decide +kernel
theorem dX3_readGuest_36 : decode cX3_readGuest 36 = .ok (.invokevirtual 65, 3) := by decide +kernel
theorem dX3_readGuest_39 : decode cX3_readGuest 39 = .ok (.ifCond .eq 32, 3) := by decide +kernel
theorem dX3_readGuest_42 : decode cX3_readGuest 42 = .ok (.aload_n 1, 1) := by decide +kernel
theorem dX3_readGuest_43 : decode cX3_readGuest 43 = .ok (.ldc 69, 2) := by decide +kernel
theorem dX3_readGuest_45 : decode cX3_readGuest 45 = .ok (.invokevirtual 71, 3) := by decide +kernel
theorem dX3_readGuest_48 : decode cX3_readGuest 48 = .ok (.ifCond .eq 23, 3) := by decide +kernel
theorem dX3_readGuest_51 : decode cX3_readGuest 51 = .ok (.aload_n 0, 1) := by decide +kernel
theorem dX3_readGuest_52 : decode cX3_readGuest 52 = .ok (.iconst 2, 1) := by decide +kernel
theorem dX3_readGuest_53 : decode cX3_readGuest 53 = .ok (.iconst 0, 1) := by decide +kernel
theorem dX3_readGuest_54 : decode cX3_readGuest 54 = .ok (.aload_n 0, 1) := by decide +kernel
theorem dX3_readGuest_55 : decode cX3_readGuest 55 = .ok (.getfield 15, 3) := by decide +kernel
theorem dX3_readGuest_58 : decode cX3_readGuest 58 = .ok (.iconst 1, 1) := by decide +kernel
theorem dX3_readGuest_59 : decode cX3_readGuest 59 = .ok (.isub, 1) := by decide +kernel
theorem dX3_readGuest_60 : decode cX3_readGuest 60 = .ok (.aload_n 1, 1) := by decide +kernel
theorem dX3_readGuest_61 : decode cX3_readGuest 61 = .ok (.invokevirtual 65, 3) := by decide +kernel
theorem dX3_readGuest_64 : decode cX3_readGuest 64 = .ok (.ifCond .eq 7, 3) := by decide +kernel
theorem dX3_readGuest_67 : decode cX3_readGuest 67 = .ok (.iconst 1, 1) := by decide +kernel
theorem dX3_readGuest_68 : decode cX3_readGuest 68 = .ok (.goto 4, 3) := by decide +kernel
theorem dX3_readGuest_71 : decode cX3_readGuest 71 = .ok (.iconst 0, 1) := by decide +kernel
theorem dX3_readGuest_72 : decode cX3_readGuest 72 = .ok (.ireturn, 1) := by decide +kernel
set_option maxRecDepth 100000 in
def F_X3_readGuest_b72 (t0 : Int32) (h : Hp) : Option (Int32 × Hp) :=
  gd (decide (t0 = 0 ∨ t0 = 1)) <| some (t0, h)
set_option maxHeartbeats 4000000 in
set_option maxRecDepth 100000 in
theorem r_X3_readGuest_b72 (t0 : Int32) (h : Hp) {x : Cx} {r : Int32} {hz : Hp} (e : F_X3_readGuest_b72 t0 h = some (r, hz)) (hF : Fin9 M_X3_readGuest x (some .boolean) (some (.int r)) hz) : V M_X3_readGuest x 6 72 [] [.int t0] h 0 0 := by
  unfold F_X3_readGuest_b72 at e
  obtain ⟨g9, e⟩ := gd_some e
  cases e
  exact V_zret (pc := 72) dX3_readGuest_72 (z01 (of_decide_eq_true g9)) hF
set_option maxRecDepth 100000 in
def F_X3_readGuest_b71  (h : Hp) : Option (Int32 × Hp) :=
  F_X3_readGuest_b72 (0 : Int32) h
set_option maxHeartbeats 4000000 in
set_option maxRecDepth 100000 in
theorem r_X3_readGuest_b71  (h : Hp) {x : Cx} {r : Int32} {hz : Hp} (e : F_X3_readGuest_b71  h = some (r, hz)) (hF : Fin9 M_X3_readGuest x (some .boolean) (some (.int r)) hz) : V M_X3_readGuest x 6 71 [] [] h 0 0 := by
  unfold F_X3_readGuest_b71 at e
  refine V_iconst (pc := 71) (v := (0 : Int32)) dX3_readGuest_71 (by decide) ?_
  exact V_pick [] rfl (r_X3_readGuest_b72 (0 : Int32) h e hF)
set_option maxRecDepth 100000 in
def F_X3_readGuest_b0 (v0 : Nat) (v1 : Nat) (h : Hp) : Option (Int32 × Hp) :=
  gd (decide (kd h v0 = 3)) <| (if (zI h v0 3) < (5 : Int32) then ob2 (F_X3_begin v0 (1 : Int32) v1 h) fun _ h4 => gd (decide (kd h4 v0 = 3)) <| ob2 (F_X3_keep v0 (1 : Int32) (1 : Int32) (200 : Int32) v1 (setI h4 v0 3 ((zI h4 v0 3) + (1 : Int32)))) fun r7 h8 => (if r7 = 0 then F_X3_readGuest_b71 h8 else ob2 (F_X6_takeWord v1 (4 : UInt32) h8) fun r11 h12 => gd (decide (kd h8 v1 = 6)) <| (if r11 = 0 then F_X3_readGuest_b71 h12 else gd (decide (kd h12 v0 = 3)) <| ob2 (F_X3_keep v0 (2 : Int32) (0 : Int32) ((zI h12 v0 2) - (1 : Int32)) v1 h12) fun r16 h17 => (if r16 = 0 then F_X3_readGuest_b71 h17 else F_X3_readGuest_b72 (1 : Int32) h17))) else ob2 (F_X6_refuse v1 h) fun r22 h23 => gd (decide (kd h v1 = 6)) <| gd (decide (r22 = 0 ∨ r22 = 1)) <| some (r22, h23))
set_option maxHeartbeats 4000000 in
set_option maxRecDepth 100000 in
theorem r_X3_readGuest_b0 (v0 : Nat) (v1 : Nat) (h : Hp) {x : Cx} {r : Int32} {hz : Hp} (e : F_X3_readGuest_b0 v0 v1 h = some (r, hz)) (hF : Fin9 M_X3_readGuest x (some .boolean) (some (.int r)) hz) : V M_X3_readGuest x 6 0 [(0, .ref v0), (1, .ref v1)] [] h 0 0 := by
  unfold F_X3_readGuest_b0 at e
  refine V_aload_n (pc := 0) (i := 0) dX3_readGuest_0 rfl rfl ?_
  obtain ⟨g1, e⟩ := gd_some e
  refine V_getI (pc := 1) (ci := 3) (k := 3) dX3_readGuest_1 fl_X3_19 rfl (of_decide_eq_true g1) ?_
  refine V_iconst (pc := 4) (v := (5 : Int32)) dX3_readGuest_4 (by decide) ?_
  refine V_icmp_lt (pc := 5) (tgt := 13) dX3_readGuest_5 (by decide) (fun c26 => ?_) (fun c26 => ?_)
  · rw [if_pos c26] at e
    refine V_pick [0, 1] rfl ?_
    refine V_aload_n (pc := 13) (i := 0) dX3_readGuest_13 rfl rfl ?_
    refine V_iconst (pc := 14) (v := (1 : Int32)) dX3_readGuest_14 (by decide) ?_
    refine V_aload_n (pc := 15) (i := 1) dX3_readGuest_15 rfl rfl ?_
    obtain ⟨r3, h4, g2, e⟩ := ob2_some e
    refine V_callV (pc := 16) (bc := 0) (bs := 0) (mc := 0) (ms := 0) (st := []) (As := [.int (1 : Int32), .ref v1]) (a := v0) (h' := h4) (r := none) dX3_readGuest_16 ml_X3_61 (ci := 3) rfl (of_decide_eq_true g1) rfl rfl (Nat.le_of_ble_eq_true rfl) (d' := 2) (by decide) (c_X3_begin (l := x.2.1) v0 (1 : Int32) v1 h g2) ?_
    refine V_aload_n (pc := 19) (i := 0) dX3_readGuest_19 rfl rfl ?_
    refine V_dup (pc := 20) dX3_readGuest_20 rfl ?_
    obtain ⟨g5, e⟩ := gd_some e
    refine V_getI (pc := 21) (ci := 3) (k := 3) dX3_readGuest_21 fl_X3_19 rfl (of_decide_eq_true g5) ?_
    refine V_iconst (pc := 24) (v := (1 : Int32)) dX3_readGuest_24 (by decide) ?_
    refine V_iadd (pc := 25) dX3_readGuest_25 ?_
    refine V_putI (pc := 26) (ci := 3) (k := 3) dX3_readGuest_26 fp_X3_19 rfl (of_decide_eq_true g5) ?_
    refine V_aload_n (pc := 29) (i := 0) dX3_readGuest_29 rfl rfl ?_
    refine V_iconst (pc := 30) (v := (1 : Int32)) dX3_readGuest_30 (by decide) ?_
    refine V_iconst (pc := 31) (v := (1 : Int32)) dX3_readGuest_31 (by decide) ?_
    refine V_sipush (pc := 32) (v := (200 : Int32)) dX3_readGuest_32 (by decide) ?_
    refine V_aload_n (pc := 35) (i := 1) dX3_readGuest_35 rfl rfl ?_
    obtain ⟨r7, h8, g6, e⟩ := ob2_some e
    refine V_callV (pc := 36) (bc := 0) (bs := 0) (mc := 0) (ms := 0) (st := []) (As := [.int (1 : Int32), .int (1 : Int32), .int (200 : Int32), .ref v1]) (a := v0) (h' := h8) (r := some (.int r7)) dX3_readGuest_36 ml_X3_65 (ci := 3) rfl (of_decide_eq_true g5) rfl rfl (Nat.le_of_ble_eq_true rfl) (d' := 3) (by decide) (c_X3_keep (l := x.2.1) v0 (1 : Int32) (1 : Int32) (200 : Int32) v1 (setI h4 v0 3 ((zI h4 v0 3) + (1 : Int32))) g6) ?_
    refine V_if_eq (pc := 39) (tgt := 71) dX3_readGuest_39 (by decide) (fun c20 => ?_) (fun c20 => ?_)
    · rw [if_pos c20] at e
      exact V_pick [] rfl (r_X3_readGuest_b71 h8 e hF)
    · rw [if_neg c20] at e
      refine V_pick [0, 1] rfl ?_
      refine V_aload_n (pc := 42) (i := 1) dX3_readGuest_42 rfl rfl ?_
      refine V_ldcS (pc := 43) (j := 4) (u := (4 : UInt32)) dX3_readGuest_43 rfl (by decide) ?_
      obtain ⟨r11, h12, g10, e⟩ := ob2_some e
      obtain ⟨g13, e⟩ := gd_some e
      refine V_callV (pc := 45) (bc := 0) (bs := 0) (mc := 0) (ms := 0) (st := []) (As := [.float (4 : UInt32)]) (a := v1) (h' := h12) (r := some (.int r11)) dX3_readGuest_45 ml_X3_71 (ci := 6) rfl (of_decide_eq_true g13) rfl rfl (Nat.le_of_ble_eq_true rfl) (d' := 5) (by decide) (c_X6_takeWord (l := x.2.1) v1 (4 : UInt32) h8 g10) ?_
      refine V_if_eq (pc := 48) (tgt := 71) dX3_readGuest_48 (by decide) (fun c19 => ?_) (fun c19 => ?_)
      · rw [if_pos c19] at e
        exact V_pick [] rfl (r_X3_readGuest_b71 h12 e hF)
      · rw [if_neg c19] at e
        refine V_pick [0, 1] rfl ?_
        refine V_aload_n (pc := 51) (i := 0) dX3_readGuest_51 rfl rfl ?_
        refine V_iconst (pc := 52) (v := (2 : Int32)) dX3_readGuest_52 (by decide) ?_
        refine V_iconst (pc := 53) (v := (0 : Int32)) dX3_readGuest_53 (by decide) ?_
        refine V_aload_n (pc := 54) (i := 0) dX3_readGuest_54 rfl rfl ?_
        obtain ⟨g14, e⟩ := gd_some e
        refine V_getI (pc := 55) (ci := 3) (k := 2) dX3_readGuest_55 fl_X3_15 rfl (of_decide_eq_true g14) ?_
        refine V_iconst (pc := 58) (v := (1 : Int32)) dX3_readGuest_58 (by decide) ?_
        refine V_isub (pc := 59) dX3_readGuest_59 ?_
        refine V_aload_n (pc := 60) (i := 1) dX3_readGuest_60 rfl rfl ?_
        obtain ⟨r16, h17, g15, e⟩ := ob2_some e
        refine V_callV (pc := 61) (bc := 0) (bs := 0) (mc := 0) (ms := 0) (st := []) (As := [.int (2 : Int32), .int (0 : Int32), .int ((zI h12 v0 2) - (1 : Int32)), .ref v1]) (a := v0) (h' := h17) (r := some (.int r16)) dX3_readGuest_61 ml_X3_65 (ci := 3) rfl (of_decide_eq_true g14) rfl rfl (Nat.le_of_ble_eq_true rfl) (d' := 3) (by decide) (c_X3_keep (l := x.2.1) v0 (2 : Int32) (0 : Int32) ((zI h12 v0 2) - (1 : Int32)) v1 h12 g15) ?_
        refine V_if_eq (pc := 64) (tgt := 71) dX3_readGuest_64 (by decide) (fun c18 => ?_) (fun c18 => ?_)
        · rw [if_pos c18] at e
          exact V_pick [] rfl (r_X3_readGuest_b71 h17 e hF)
        · rw [if_neg c18] at e
          refine V_pick [] rfl ?_
          refine V_iconst (pc := 67) (v := (1 : Int32)) dX3_readGuest_67 (by decide) ?_
          refine V_goto (pc := 68) (tgt := 72) dX3_readGuest_68 (by decide) ?_
          exact V_pick [] rfl (r_X3_readGuest_b72 (1 : Int32) h17 e hF)
  · rw [if_neg c26] at e
    refine V_pick [1] rfl ?_
    refine V_aload_n (pc := 8) (i := 1) dX3_readGuest_8 rfl rfl ?_
    obtain ⟨r22, h23, g21, e⟩ := ob2_some e
    obtain ⟨g24, e⟩ := gd_some e
    refine V_callV (pc := 9) (bc := 0) (bs := 0) (mc := 0) (ms := 0) (st := []) (As := []) (a := v1) (h' := h23) (r := some (.int r22)) dX3_readGuest_9 ml_X3_85 (ci := 6) rfl (of_decide_eq_true g24) rfl rfl (Nat.le_of_ble_eq_true rfl) (d' := 0) (by decide) (c_X6_refuse (l := x.2.1) v1 h g21) ?_
    obtain ⟨g25, e⟩ := gd_some e
    cases e
    exact V_zret (pc := 12) dX3_readGuest_12 (z01 (of_decide_eq_true g25)) hF
def F_X3_readGuest (v0 : Nat) (v1 : Nat) (h : Hp) : Option (Int32 × Hp) := F_X3_readGuest_b0 v0 v1 h
theorem c_X3_readGuest {l : Launch} (v0 : Nat) (v1 : Nat) (h : Hp) {r : Int32} {hz : Hp} (e : F_X3_readGuest v0 v1 h = some (r, hz)) : Ct l yX3_readGuest M_X3_readGuest (some .boolean) 6 [.ref v0, .ref v1] h 0 0 (some (.int r)) hz :=
  Ct_of rfl rfl (fun q => by cases q) (Nat.le_of_ble_eq_true rfl) (fun x _ hF => V_pick [0, 1] rfl (r_X3_readGuest_b0 v0 v1 h e hF))
theorem dX3_readTrunk_0 : decode cX3_readTrunk 0 = .ok (.aload_n 0, 1) := by decide +kernel
theorem dX3_readTrunk_1 : decode cX3_readTrunk 1 = .ok (.getfield 22, 3) := by decide +kernel
theorem dX3_readTrunk_4 : decode cX3_readTrunk 4 = .ok (.bipush 6, 2) := by decide +kernel
theorem dX3_readTrunk_6 : decode cX3_readTrunk 6 = .ok (.if_icmp .lt 8, 3) := by decide +kernel
theorem dX3_readTrunk_9 : decode cX3_readTrunk 9 = .ok (.aload_n 1, 1) := by decide +kernel
theorem dX3_readTrunk_10 : decode cX3_readTrunk 10 = .ok (.invokevirtual 85, 3) := by decide +kernel
theorem dX3_readTrunk_13 : decode cX3_readTrunk 13 = .ok (.ireturn, 1) := by decide +kernel
theorem dX3_readTrunk_14 : decode cX3_readTrunk 14 = .ok (.aload_n 0, 1) := by decide +kernel
theorem dX3_readTrunk_15 : decode cX3_readTrunk 15 = .ok (.iconst 2, 1) := by decide +kernel
theorem dX3_readTrunk_16 : decode cX3_readTrunk 16 = .ok (.aload_n 1, 1) := by decide +kernel
theorem dX3_readTrunk_17 : decode cX3_readTrunk 17 = .ok (.invokevirtual 61, 3) := by decide +kernel
theorem dX3_readTrunk_20 : decode cX3_readTrunk 20 = .ok (.aload_n 0, 1) := by decide +kernel
theorem dX3_readTrunk_21 : decode cX3_readTrunk 21 = .ok (.dup, 1) := by decide +kernel
theorem dX3_readTrunk_22 : decode cX3_readTrunk 22 = .ok (.getfield 22, 3) := by decide +kernel
theorem dX3_readTrunk_25 : decode cX3_readTrunk 25 = .ok (.iconst 1, 1) := by decide +kernel
theorem dX3_readTrunk_26 : decode cX3_readTrunk 26 = .ok (.iadd, 1) := by decide +kernel
theorem dX3_readTrunk_27 : decode cX3_readTrunk 27 = .ok (.putfield 22, 3) := by decide +kernel
theorem dX3_readTrunk_30 : decode cX3_readTrunk 30 = .ok (.aload_n 0, 1) := by decide +kernel
theorem dX3_readTrunk_31 : decode cX3_readTrunk 31 = .ok (.iconst 1, 1) := by decide +kernel
theorem dX3_readTrunk_32 : decode cX3_readTrunk 32 = .ok (.iconst 0, 1) := by decide +kernel
theorem dX3_readTrunk_33 : decode cX3_readTrunk 33 = .ok (.sipush 300, 3) := by decide +kernel
theorem dX3_readTrunk_36 : decode cX3_readTrunk 36 = .ok (.aload_n 1, 1) := by decide +kernel
theorem dX3_readTrunk_37 : decode cX3_readTrunk 37 = .ok (.invokevirtual 65, 3) := by decide +kernel
theorem dX3_readTrunk_40 : decode cX3_readTrunk 40 = .ok (.ifCond .eq 57, 3) := by decide +kernel
theorem dX3_readTrunk_43 : decode cX3_readTrunk 43 = .ok (.aload_n 1, 1) := by decide +kernel
theorem dX3_readTrunk_44 : decode cX3_readTrunk 44 = .ok (.ldc 89, 2) := by decide +kernel
theorem dX3_readTrunk_46 : decode cX3_readTrunk 46 = .ok (.invokevirtual 71, 3) := by decide +kernel
theorem dX3_readTrunk_49 : decode cX3_readTrunk 49 = .ok (.ifCond .eq 48, 3) := by decide +kernel
theorem dX3_readTrunk_52 : decode cX3_readTrunk 52 = .ok (.aload_n 0, 1) := by decide +kernel
theorem dX3_readTrunk_53 : decode cX3_readTrunk 53 = .ok (.iconst 2, 1) := by decide +kernel
theorem dX3_readTrunk_54 : decode cX3_readTrunk 54 = .ok (.aload_n 1, 1) := by decide +kernel
theorem dX3_readTrunk_55 : decode cX3_readTrunk 55 = .ok (.getfield 91, 3) := by decide +kernel
theorem dX3_readTrunk_58 : decode cX3_readTrunk 58 = .ok (.sipush 300, 3) := by decide +kernel
theorem dX3_readTrunk_61 : decode cX3_readTrunk 61 = .ok (.aload_n 1, 1) := by decide +kernel
theorem dX3_readTrunk_62 : decode cX3_readTrunk 62 = .ok (.invokevirtual 65, 3) := by decide +kernel
theorem dX3_readTrunk_65 : decode cX3_readTrunk 65 = .ok (.ifCond .eq 32, 3) := by decide +kernel
theorem dX3_readTrunk_68 : decode cX3_readTrunk 68 = .ok (.aload_n 1, 1) := by decide +kernel
theorem dX3_readTrunk_69 : decode cX3_readTrunk 69 = .ok (.ldc 69, 2) := by decide +kernel
theorem dX3_readTrunk_71 : decode cX3_readTrunk 71 = .ok (.invokevirtual 71, 3) := by decide +kernel
theorem dX3_readTrunk_74 : decode cX3_readTrunk 74 = .ok (.ifCond .eq 23, 3) := by decide +kernel
theorem dX3_readTrunk_77 : decode cX3_readTrunk 77 = .ok (.aload_n 0, 1) := by decide +kernel
theorem dX3_readTrunk_78 : decode cX3_readTrunk 78 = .ok (.iconst 3, 1) := by decide +kernel
theorem dX3_readTrunk_79 : decode cX3_readTrunk 79 = .ok (.iconst 0, 1) := by decide +kernel
theorem dX3_readTrunk_80 : decode cX3_readTrunk 80 = .ok (.aload_n 0, 1) := by decide +kernel
theorem dX3_readTrunk_81 : decode cX3_readTrunk 81 = .ok (.getfield 15, 3) := by decide +kernel
theorem dX3_readTrunk_84 : decode cX3_readTrunk 84 = .ok (.iconst 1, 1) := by decide +kernel
theorem dX3_readTrunk_85 : decode cX3_readTrunk 85 = .ok (.isub, 1) := by decide +kernel
theorem dX3_readTrunk_86 : decode cX3_readTrunk 86 = .ok (.aload_n 1, 1) := by decide +kernel
theorem dX3_readTrunk_87 : decode cX3_readTrunk 87 = .ok (.invokevirtual 65, 3) := by decide +kernel
theorem dX3_readTrunk_90 : decode cX3_readTrunk 90 = .ok (.ifCond .eq 7, 3) := by decide +kernel
theorem dX3_readTrunk_93 : decode cX3_readTrunk 93 = .ok (.iconst 1, 1) := by decide +kernel
theorem dX3_readTrunk_94 : decode cX3_readTrunk 94 = .ok (.goto 4, 3) := by decide +kernel
theorem dX3_readTrunk_97 : decode cX3_readTrunk 97 = .ok (.iconst 0, 1) := by decide +kernel
theorem dX3_readTrunk_98 : decode cX3_readTrunk 98 = .ok (.ireturn, 1) := by decide +kernel
set_option maxRecDepth 100000 in
def F_X3_readTrunk_b98 (t0 : Int32) (h : Hp) : Option (Int32 × Hp) :=
  gd (decide (t0 = 0 ∨ t0 = 1)) <| some (t0, h)
set_option maxHeartbeats 4000000 in
set_option maxRecDepth 100000 in
theorem r_X3_readTrunk_b98 (t0 : Int32) (h : Hp) {x : Cx} {r : Int32} {hz : Hp} (e : F_X3_readTrunk_b98 t0 h = some (r, hz)) (hF : Fin9 M_X3_readTrunk x (some .boolean) (some (.int r)) hz) : V M_X3_readTrunk x 6 98 [] [.int t0] h 0 0 := by
  unfold F_X3_readTrunk_b98 at e
  obtain ⟨g9, e⟩ := gd_some e
  cases e
  exact V_zret (pc := 98) dX3_readTrunk_98 (z01 (of_decide_eq_true g9)) hF
set_option maxRecDepth 100000 in
def F_X3_readTrunk_b97  (h : Hp) : Option (Int32 × Hp) :=
  F_X3_readTrunk_b98 (0 : Int32) h
set_option maxHeartbeats 4000000 in
set_option maxRecDepth 100000 in
theorem r_X3_readTrunk_b97  (h : Hp) {x : Cx} {r : Int32} {hz : Hp} (e : F_X3_readTrunk_b97  h = some (r, hz)) (hF : Fin9 M_X3_readTrunk x (some .boolean) (some (.int r)) hz) : V M_X3_readTrunk x 6 97 [] [] h 0 0 := by
  unfold F_X3_readTrunk_b97 at e
  refine V_iconst (pc := 97) (v := (0 : Int32)) dX3_readTrunk_97 (by decide) ?_
  exact V_pick [] rfl (r_X3_readTrunk_b98 (0 : Int32) h e hF)
set_option maxRecDepth 100000 in
def F_X3_readTrunk_b0 (v0 : Nat) (v1 : Nat) (h : Hp) : Option (Int32 × Hp) :=
  gd (decide (kd h v0 = 3)) <| (if (zI h v0 4) < (6 : Int32) then ob2 (F_X3_begin v0 (2 : Int32) v1 h) fun _ h4 => gd (decide (kd h4 v0 = 3)) <| ob2 (F_X3_keep v0 (1 : Int32) (0 : Int32) (300 : Int32) v1 (setI h4 v0 4 ((zI h4 v0 4) + (1 : Int32)))) fun r7 h8 => (if r7 = 0 then F_X3_readTrunk_b97 h8 else ob2 (F_X6_takeWord v1 (6 : UInt32) h8) fun r11 h12 => gd (decide (kd h8 v1 = 6)) <| (if r11 = 0 then F_X3_readTrunk_b97 h12 else gd (decide (kd h12 v1 = 6)) <| ob2 (F_X3_keep v0 (2 : Int32) (zI h12 v1 5) (300 : Int32) v1 h12) fun r16 h17 => gd (decide (kd h12 v0 = 3)) <| (if r16 = 0 then F_X3_readTrunk_b97 h17 else ob2 (F_X6_takeWord v1 (4 : UInt32) h17) fun r20 h21 => gd (decide (kd h17 v1 = 6)) <| (if r20 = 0 then F_X3_readTrunk_b97 h21 else gd (decide (kd h21 v0 = 3)) <| ob2 (F_X3_keep v0 (3 : Int32) (0 : Int32) ((zI h21 v0 2) - (1 : Int32)) v1 h21) fun r25 h26 => (if r25 = 0 then F_X3_readTrunk_b97 h26 else F_X3_readTrunk_b98 (1 : Int32) h26))))) else ob2 (F_X6_refuse v1 h) fun r33 h34 => gd (decide (kd h v1 = 6)) <| gd (decide (r33 = 0 ∨ r33 = 1)) <| some (r33, h34))
set_option maxHeartbeats 4000000 in
set_option maxRecDepth 100000 in
theorem r_X3_readTrunk_b0 (v0 : Nat) (v1 : Nat) (h : Hp) {x : Cx} {r : Int32} {hz : Hp} (e : F_X3_readTrunk_b0 v0 v1 h = some (r, hz)) (hF : Fin9 M_X3_readTrunk x (some .boolean) (some (.int r)) hz) : V M_X3_readTrunk x 6 0 [(0, .ref v0), (1, .ref v1)] [] h 0 0 := by
  unfold F_X3_readTrunk_b0 at e
  refine V_aload_n (pc := 0) (i := 0) dX3_readTrunk_0 rfl rfl ?_
  obtain ⟨g1, e⟩ := gd_some e
  refine V_getI (pc := 1) (ci := 3) (k := 4) dX3_readTrunk_1 fl_X3_22 rfl (of_decide_eq_true g1) ?_
  refine V_bipush (pc := 4) (v := (6 : Int32)) dX3_readTrunk_4 (by decide) ?_
  refine V_icmp_lt (pc := 6) (tgt := 14) dX3_readTrunk_6 (by decide) (fun c37 => ?_) (fun c37 => ?_)
  · rw [if_pos c37] at e
    refine V_pick [0, 1] rfl ?_
    refine V_aload_n (pc := 14) (i := 0) dX3_readTrunk_14 rfl rfl ?_
    refine V_iconst (pc := 15) (v := (2 : Int32)) dX3_readTrunk_15 (by decide) ?_
    refine V_aload_n (pc := 16) (i := 1) dX3_readTrunk_16 rfl rfl ?_
    obtain ⟨r3, h4, g2, e⟩ := ob2_some e
    refine V_callV (pc := 17) (bc := 0) (bs := 0) (mc := 0) (ms := 0) (st := []) (As := [.int (2 : Int32), .ref v1]) (a := v0) (h' := h4) (r := none) dX3_readTrunk_17 ml_X3_61 (ci := 3) rfl (of_decide_eq_true g1) rfl rfl (Nat.le_of_ble_eq_true rfl) (d' := 2) (by decide) (c_X3_begin (l := x.2.1) v0 (2 : Int32) v1 h g2) ?_
    refine V_aload_n (pc := 20) (i := 0) dX3_readTrunk_20 rfl rfl ?_
    refine V_dup (pc := 21) dX3_readTrunk_21 rfl ?_
    obtain ⟨g5, e⟩ := gd_some e
    refine V_getI (pc := 22) (ci := 3) (k := 4) dX3_readTrunk_22 fl_X3_22 rfl (of_decide_eq_true g5) ?_
    refine V_iconst (pc := 25) (v := (1 : Int32)) dX3_readTrunk_25 (by decide) ?_
    refine V_iadd (pc := 26) dX3_readTrunk_26 ?_
    refine V_putI (pc := 27) (ci := 3) (k := 4) dX3_readTrunk_27 fp_X3_22 rfl (of_decide_eq_true g5) ?_
    refine V_aload_n (pc := 30) (i := 0) dX3_readTrunk_30 rfl rfl ?_
    refine V_iconst (pc := 31) (v := (1 : Int32)) dX3_readTrunk_31 (by decide) ?_
    refine V_iconst (pc := 32) (v := (0 : Int32)) dX3_readTrunk_32 (by decide) ?_
    refine V_sipush (pc := 33) (v := (300 : Int32)) dX3_readTrunk_33 (by decide) ?_
    refine V_aload_n (pc := 36) (i := 1) dX3_readTrunk_36 rfl rfl ?_
    obtain ⟨r7, h8, g6, e⟩ := ob2_some e
    refine V_callV (pc := 37) (bc := 0) (bs := 0) (mc := 0) (ms := 0) (st := []) (As := [.int (1 : Int32), .int (0 : Int32), .int (300 : Int32), .ref v1]) (a := v0) (h' := h8) (r := some (.int r7)) dX3_readTrunk_37 ml_X3_65 (ci := 3) rfl (of_decide_eq_true g5) rfl rfl (Nat.le_of_ble_eq_true rfl) (d' := 3) (by decide) (c_X3_keep (l := x.2.1) v0 (1 : Int32) (0 : Int32) (300 : Int32) v1 (setI h4 v0 4 ((zI h4 v0 4) + (1 : Int32))) g6) ?_
    refine V_if_eq (pc := 40) (tgt := 97) dX3_readTrunk_40 (by decide) (fun c31 => ?_) (fun c31 => ?_)
    · rw [if_pos c31] at e
      exact V_pick [] rfl (r_X3_readTrunk_b97 h8 e hF)
    · rw [if_neg c31] at e
      refine V_pick [0, 1] rfl ?_
      refine V_aload_n (pc := 43) (i := 1) dX3_readTrunk_43 rfl rfl ?_
      refine V_ldcS (pc := 44) (j := 6) (u := (6 : UInt32)) dX3_readTrunk_44 rfl (by decide) ?_
      obtain ⟨r11, h12, g10, e⟩ := ob2_some e
      obtain ⟨g13, e⟩ := gd_some e
      refine V_callV (pc := 46) (bc := 0) (bs := 0) (mc := 0) (ms := 0) (st := []) (As := [.float (6 : UInt32)]) (a := v1) (h' := h12) (r := some (.int r11)) dX3_readTrunk_46 ml_X3_71 (ci := 6) rfl (of_decide_eq_true g13) rfl rfl (Nat.le_of_ble_eq_true rfl) (d' := 5) (by decide) (c_X6_takeWord (l := x.2.1) v1 (6 : UInt32) h8 g10) ?_
      refine V_if_eq (pc := 49) (tgt := 97) dX3_readTrunk_49 (by decide) (fun c30 => ?_) (fun c30 => ?_)
      · rw [if_pos c30] at e
        exact V_pick [] rfl (r_X3_readTrunk_b97 h12 e hF)
      · rw [if_neg c30] at e
        refine V_pick [0, 1] rfl ?_
        refine V_aload_n (pc := 52) (i := 0) dX3_readTrunk_52 rfl rfl ?_
        refine V_iconst (pc := 53) (v := (2 : Int32)) dX3_readTrunk_53 (by decide) ?_
        refine V_aload_n (pc := 54) (i := 1) dX3_readTrunk_54 rfl rfl ?_
        obtain ⟨g14, e⟩ := gd_some e
        refine V_getI (pc := 55) (ci := 6) (k := 5) dX3_readTrunk_55 fl_X3_91 rfl (of_decide_eq_true g14) ?_
        refine V_sipush (pc := 58) (v := (300 : Int32)) dX3_readTrunk_58 (by decide) ?_
        refine V_aload_n (pc := 61) (i := 1) dX3_readTrunk_61 rfl rfl ?_
        obtain ⟨r16, h17, g15, e⟩ := ob2_some e
        obtain ⟨g18, e⟩ := gd_some e
        refine V_callV (pc := 62) (bc := 0) (bs := 0) (mc := 0) (ms := 0) (st := []) (As := [.int (2 : Int32), .int (zI h12 v1 5), .int (300 : Int32), .ref v1]) (a := v0) (h' := h17) (r := some (.int r16)) dX3_readTrunk_62 ml_X3_65 (ci := 3) rfl (of_decide_eq_true g18) rfl rfl (Nat.le_of_ble_eq_true rfl) (d' := 3) (by decide) (c_X3_keep (l := x.2.1) v0 (2 : Int32) (zI h12 v1 5) (300 : Int32) v1 h12 g15) ?_
        refine V_if_eq (pc := 65) (tgt := 97) dX3_readTrunk_65 (by decide) (fun c29 => ?_) (fun c29 => ?_)
        · rw [if_pos c29] at e
          exact V_pick [] rfl (r_X3_readTrunk_b97 h17 e hF)
        · rw [if_neg c29] at e
          refine V_pick [0, 1] rfl ?_
          refine V_aload_n (pc := 68) (i := 1) dX3_readTrunk_68 rfl rfl ?_
          refine V_ldcS (pc := 69) (j := 4) (u := (4 : UInt32)) dX3_readTrunk_69 rfl (by decide) ?_
          obtain ⟨r20, h21, g19, e⟩ := ob2_some e
          obtain ⟨g22, e⟩ := gd_some e
          refine V_callV (pc := 71) (bc := 0) (bs := 0) (mc := 0) (ms := 0) (st := []) (As := [.float (4 : UInt32)]) (a := v1) (h' := h21) (r := some (.int r20)) dX3_readTrunk_71 ml_X3_71 (ci := 6) rfl (of_decide_eq_true g22) rfl rfl (Nat.le_of_ble_eq_true rfl) (d' := 5) (by decide) (c_X6_takeWord (l := x.2.1) v1 (4 : UInt32) h17 g19) ?_
          refine V_if_eq (pc := 74) (tgt := 97) dX3_readTrunk_74 (by decide) (fun c28 => ?_) (fun c28 => ?_)
          · rw [if_pos c28] at e
            exact V_pick [] rfl (r_X3_readTrunk_b97 h21 e hF)
          · rw [if_neg c28] at e
            refine V_pick [0, 1] rfl ?_
            refine V_aload_n (pc := 77) (i := 0) dX3_readTrunk_77 rfl rfl ?_
            refine V_iconst (pc := 78) (v := (3 : Int32)) dX3_readTrunk_78 (by decide) ?_
            refine V_iconst (pc := 79) (v := (0 : Int32)) dX3_readTrunk_79 (by decide) ?_
            refine V_aload_n (pc := 80) (i := 0) dX3_readTrunk_80 rfl rfl ?_
            obtain ⟨g23, e⟩ := gd_some e
            refine V_getI (pc := 81) (ci := 3) (k := 2) dX3_readTrunk_81 fl_X3_15 rfl (of_decide_eq_true g23) ?_
            refine V_iconst (pc := 84) (v := (1 : Int32)) dX3_readTrunk_84 (by decide) ?_
            refine V_isub (pc := 85) dX3_readTrunk_85 ?_
            refine V_aload_n (pc := 86) (i := 1) dX3_readTrunk_86 rfl rfl ?_
            obtain ⟨r25, h26, g24, e⟩ := ob2_some e
            refine V_callV (pc := 87) (bc := 0) (bs := 0) (mc := 0) (ms := 0) (st := []) (As := [.int (3 : Int32), .int (0 : Int32), .int ((zI h21 v0 2) - (1 : Int32)), .ref v1]) (a := v0) (h' := h26) (r := some (.int r25)) dX3_readTrunk_87 ml_X3_65 (ci := 3) rfl (of_decide_eq_true g23) rfl rfl (Nat.le_of_ble_eq_true rfl) (d' := 3) (by decide) (c_X3_keep (l := x.2.1) v0 (3 : Int32) (0 : Int32) ((zI h21 v0 2) - (1 : Int32)) v1 h21 g24) ?_
            refine V_if_eq (pc := 90) (tgt := 97) dX3_readTrunk_90 (by decide) (fun c27 => ?_) (fun c27 => ?_)
            · rw [if_pos c27] at e
              exact V_pick [] rfl (r_X3_readTrunk_b97 h26 e hF)
            · rw [if_neg c27] at e
              refine V_pick [] rfl ?_
              refine V_iconst (pc := 93) (v := (1 : Int32)) dX3_readTrunk_93 (by decide) ?_
              refine V_goto (pc := 94) (tgt := 98) dX3_readTrunk_94 (by decide) ?_
              exact V_pick [] rfl (r_X3_readTrunk_b98 (1 : Int32) h26 e hF)
  · rw [if_neg c37] at e
    refine V_pick [1] rfl ?_
    refine V_aload_n (pc := 9) (i := 1) dX3_readTrunk_9 rfl rfl ?_
    obtain ⟨r33, h34, g32, e⟩ := ob2_some e
    obtain ⟨g35, e⟩ := gd_some e
    refine V_callV (pc := 10) (bc := 0) (bs := 0) (mc := 0) (ms := 0) (st := []) (As := []) (a := v1) (h' := h34) (r := some (.int r33)) dX3_readTrunk_10 ml_X3_85 (ci := 6) rfl (of_decide_eq_true g35) rfl rfl (Nat.le_of_ble_eq_true rfl) (d' := 0) (by decide) (c_X6_refuse (l := x.2.1) v1 h g32) ?_
    obtain ⟨g36, e⟩ := gd_some e
    cases e
    exact V_zret (pc := 13) dX3_readTrunk_13 (z01 (of_decide_eq_true g36)) hF
def F_X3_readTrunk (v0 : Nat) (v1 : Nat) (h : Hp) : Option (Int32 × Hp) := F_X3_readTrunk_b0 v0 v1 h
theorem c_X3_readTrunk {l : Launch} (v0 : Nat) (v1 : Nat) (h : Hp) {r : Int32} {hz : Hp} (e : F_X3_readTrunk v0 v1 h = some (r, hz)) : Ct l yX3_readTrunk M_X3_readTrunk (some .boolean) 6 [.ref v0, .ref v1] h 0 0 (some (.int r)) hz :=
  Ct_of rfl rfl (fun q => by cases q) (Nat.le_of_ble_eq_true rfl) (fun x _ hF => V_pick [0, 1] rfl (r_X3_readTrunk_b0 v0 v1 h e hF))
theorem dX3_tellTo_0 : decode cX3_tellTo 0 = .ok (.iconst 0, 1) := by decide +kernel
theorem dX3_tellTo_1 : decode cX3_tellTo 1 = .ok (.istore_n 2, 1) := by decide +kernel
theorem dX3_tellTo_2 : decode cX3_tellTo 2 = .ok (.iload_n 2, 1) := by decide +kernel
theorem dX3_tellTo_3 : decode cX3_tellTo 3 = .ok (.aload_n 0, 1) := by decide +kernel
theorem dX3_tellTo_4 : decode cX3_tellTo 4 = .ok (.getfield 105, 3) := by decide +kernel
theorem dX3_tellTo_7 : decode cX3_tellTo 7 = .ok (.if_icmp .ge 53, 3) := by decide +kernel
theorem dX3_tellTo_10 : decode cX3_tellTo 10 = .ok (.iload_n 2, 1) := by decide +kernel
theorem dX3_tellTo_11 : decode cX3_tellTo 11 = .ok (.bipush 14, 2) := by decide +kernel
theorem dX3_tellTo_13 : decode cX3_tellTo 13 = .ok (.if_icmp .ge 47, 3) := by decide +kernel
theorem dX3_tellTo_16 : decode cX3_tellTo 16 = .ok (.iload_n 2, 1) := by decide +kernel
theorem dX3_tellTo_17 : decode cX3_tellTo 17 = .ok (.iconst 4, 1) := by decide +kernel
theorem dX3_tellTo_18 : decode cX3_tellTo 18 = .ok (.imul, 1) := by decide +kernel
theorem dX3_tellTo_19 : decode cX3_tellTo 19 = .ok (.istore_n 3, 1) := by decide +kernel
theorem dX3_tellTo_20 : decode cX3_tellTo 20 = .ok (.aload_n 1, 1) := by decide +kernel
theorem dX3_tellTo_21 : decode cX3_tellTo 21 = .ok (.aload_n 0, 1) := by decide +kernel
theorem dX3_tellTo_22 : decode cX3_tellTo 22 = .ok (.getfield 11, 3) := by decide +kernel
theorem dX3_tellTo_25 : decode cX3_tellTo 25 = .ok (.iload_n 3, 1) := by decide +kernel
theorem dX3_tellTo_26 : decode cX3_tellTo 26 = .ok (.iaload, 1) := by decide +kernel
theorem dX3_tellTo_27 : decode cX3_tellTo 27 = .ok (.aload_n 0, 1) := by decide +kernel
theorem dX3_tellTo_28 : decode cX3_tellTo 28 = .ok (.getfield 11, 3) := by decide +kernel
theorem dX3_tellTo_31 : decode cX3_tellTo 31 = .ok (.iload_n 3, 1) := by decide +kernel
theorem dX3_tellTo_32 : decode cX3_tellTo 32 = .ok (.iconst 1, 1) := by decide +kernel
theorem dX3_tellTo_33 : decode cX3_tellTo 33 = .ok (.iadd, 1) := by decide +kernel
theorem dX3_tellTo_34 : decode cX3_tellTo 34 = .ok (.iaload, 1) := by decide +kernel
theorem dX3_tellTo_35 : decode cX3_tellTo 35 = .ok (.aload_n 0, 1) := by decide +kernel
theorem dX3_tellTo_36 : decode cX3_tellTo 36 = .ok (.getfield 11, 3) := by decide +kernel
theorem dX3_tellTo_39 : decode cX3_tellTo 39 = .ok (.iload_n 3, 1) := by decide +kernel
theorem dX3_tellTo_40 : decode cX3_tellTo 40 = .ok (.iconst 2, 1) := by decide +kernel
theorem dX3_tellTo_41 : decode cX3_tellTo 41 = .ok (.iadd, 1) := by decide +kernel
theorem dX3_tellTo_42 : decode cX3_tellTo 42 = .ok (.iaload, 1) := by decide +kernel
theorem dX3_tellTo_43 : decode cX3_tellTo 43 = .ok (.aload_n 0, 1) := by decide +kernel
theorem dX3_tellTo_44 : decode cX3_tellTo 44 = .ok (.getfield 11, 3) := by decide +kernel
theorem dX3_tellTo_47 : decode cX3_tellTo 47 = .ok (.iload_n 3, 1) := by decide +kernel
theorem dX3_tellTo_48 : decode cX3_tellTo 48 = .ok (.iconst 3, 1) := by decide +kernel
theorem dX3_tellTo_49 : decode cX3_tellTo 49 = .ok (.iadd, 1) := by decide +kernel
theorem dX3_tellTo_50 : decode cX3_tellTo 50 = .ok (.iaload, 1) := by decide +kernel
theorem dX3_tellTo_51 : decode cX3_tellTo 51 = .ok (.invokestatic 108, 3) := by decide +kernel
theorem dX3_tellTo_54 : decode cX3_tellTo 54 = .ok (.iinc 2 1, 3) := by decide +kernel
theorem dX3_tellTo_57 : decode cX3_tellTo 57 = .ok (.goto (-55), 3) := by decide +kernel
theorem dX3_tellTo_60 : decode cX3_tellTo 60 = .ok (.return_, 1) := by decide +kernel
set_option maxRecDepth 100000 in
def F_X3_tellTo_l2 (v0 : Nat) (v1 : Nat) (v2 : Int32) (h : Hp) : Option ((Int32 × Hp) ⊕ Hp) :=
  gd (decide (kd h v0 = 3)) <| (if (zI h v0 0) ≤ v2 then some (.inr h) else (if (14 : Int32) ≤ v2 then some (.inr h) else ob (zR h v0 1) fun q2 => gd (decide (kd h q2 = 13)) <| gd (ix (v2 * (4 : Int32)) (zl h q2)) <| ob (zR h v0 1) fun q6 => gd (decide (kd h q6 = 13)) <| gd (ix ((v2 * (4 : Int32)) + (1 : Int32)) (zl h q6)) <| ob (zR h v0 1) fun q10 => gd (decide (kd h q10 = 13)) <| gd (ix ((v2 * (4 : Int32)) + (2 : Int32)) (zl h q10)) <| ob (zR h v0 1) fun q14 => gd (decide (kd h q14 = 13)) <| gd (ix ((v2 * (4 : Int32)) + (3 : Int32)) (zl h q14)) <| ob2 (F_X3_tellLine v1 (zI h q2 (v2 * (4 : Int32)).toNatClampNeg) (zI h q6 ((v2 * (4 : Int32)) + (1 : Int32)).toNatClampNeg) (zI h q10 ((v2 * (4 : Int32)) + (2 : Int32)).toNatClampNeg) (zI h q14 ((v2 * (4 : Int32)) + (3 : Int32)).toNatClampNeg) h) fun _ h20 => some (.inl (v2 + (1 : Int32), h20))))
set_option maxHeartbeats 4000000 in
set_option maxRecDepth 100000 in
theorem r_X3_tellTo_l2 (v0 : Nat) (v1 : Nat) (v2 : Int32) (h : Hp) {x : Cx} {o : ((Int32 × Hp) ⊕ Hp)} (e : F_X3_tellTo_l2 v0 v1 v2 h = some o) (kI : ∀ z, o = .inl z → V M_X3_tellTo x 2 2 [(0, .ref v0), (1, .ref v1), (2, .int z.1)] [] z.2 0 0) (kE60 : ∀ z : Hp, o = .inr z → V M_X3_tellTo x 2 60 [] [] z 0 0) : V M_X3_tellTo x 2 2 [(0, .ref v0), (1, .ref v1), (2, .int v2)] [] h 0 0 := by
  unfold F_X3_tellTo_l2 at e
  refine V_iload_n (pc := 2) (i := 2) dX3_tellTo_2 rfl rfl ?_
  refine V_aload_n (pc := 3) (i := 0) dX3_tellTo_3 rfl rfl ?_
  obtain ⟨g1, e⟩ := gd_some e
  refine V_getI (pc := 4) (ci := 3) (k := 0) dX3_tellTo_4 fl_X3_105 rfl (of_decide_eq_true g1) ?_
  refine V_icmp_ge (pc := 7) (tgt := 60) dX3_tellTo_7 (by decide) (fun c22 => ?_) (fun c22 => ?_)
  · rw [if_pos c22] at e
    cases e
    exact V_pick [] rfl (kE60 h rfl)
  · rw [if_neg c22] at e
    refine V_pick [0, 1, 2] rfl ?_
    refine V_iload_n (pc := 10) (i := 2) dX3_tellTo_10 rfl rfl ?_
    refine V_bipush (pc := 11) (v := (14 : Int32)) dX3_tellTo_11 (by decide) ?_
    refine V_icmp_ge (pc := 13) (tgt := 60) dX3_tellTo_13 (by decide) (fun c21 => ?_) (fun c21 => ?_)
    · rw [if_pos c21] at e
      cases e
      exact V_pick [] rfl (kE60 h rfl)
    · rw [if_neg c21] at e
      refine V_pick [0, 1, 2] rfl ?_
      refine V_iload_n (pc := 16) (i := 2) dX3_tellTo_16 rfl rfl ?_
      refine V_iconst (pc := 17) (v := (4 : Int32)) dX3_tellTo_17 (by decide) ?_
      refine V_imul (pc := 18) dX3_tellTo_18 ?_
      refine V_istore_n (pc := 19) (i := 3) (lv' := [(3, .int (v2 * (4 : Int32))), (0, .ref v0), (1, .ref v1), (2, .int v2)]) dX3_tellTo_19 rfl (by decide) rfl ?_
      refine V_aload_n (pc := 20) (i := 1) dX3_tellTo_20 rfl rfl ?_
      refine V_aload_n (pc := 21) (i := 0) dX3_tellTo_21 rfl rfl ?_
      obtain ⟨q2, g3, e⟩ := ob_some e
      refine V_getR (pc := 22) (ci := 3) (k := 1) (b := q2) dX3_tellTo_22 fl_X3_11 rfl (of_decide_eq_true g1) g3 ?_
      refine V_iload_n (pc := 25) (i := 3) dX3_tellTo_25 rfl rfl ?_
      obtain ⟨g4, e⟩ := gd_some e
      obtain ⟨g5, e⟩ := gd_some e
      refine V_iald (pc := 26) dX3_tellTo_26 (of_decide_eq_true g4) (ix_in g5) ?_
      refine V_aload_n (pc := 27) (i := 0) dX3_tellTo_27 rfl rfl ?_
      obtain ⟨q6, g7, e⟩ := ob_some e
      refine V_getR (pc := 28) (ci := 3) (k := 1) (b := q6) dX3_tellTo_28 fl_X3_11 rfl (of_decide_eq_true g1) g7 ?_
      refine V_iload_n (pc := 31) (i := 3) dX3_tellTo_31 rfl rfl ?_
      refine V_iconst (pc := 32) (v := (1 : Int32)) dX3_tellTo_32 (by decide) ?_
      refine V_iadd (pc := 33) dX3_tellTo_33 ?_
      obtain ⟨g8, e⟩ := gd_some e
      obtain ⟨g9, e⟩ := gd_some e
      refine V_iald (pc := 34) dX3_tellTo_34 (of_decide_eq_true g8) (ix_in g9) ?_
      refine V_aload_n (pc := 35) (i := 0) dX3_tellTo_35 rfl rfl ?_
      obtain ⟨q10, g11, e⟩ := ob_some e
      refine V_getR (pc := 36) (ci := 3) (k := 1) (b := q10) dX3_tellTo_36 fl_X3_11 rfl (of_decide_eq_true g1) g11 ?_
      refine V_iload_n (pc := 39) (i := 3) dX3_tellTo_39 rfl rfl ?_
      refine V_iconst (pc := 40) (v := (2 : Int32)) dX3_tellTo_40 (by decide) ?_
      refine V_iadd (pc := 41) dX3_tellTo_41 ?_
      obtain ⟨g12, e⟩ := gd_some e
      obtain ⟨g13, e⟩ := gd_some e
      refine V_iald (pc := 42) dX3_tellTo_42 (of_decide_eq_true g12) (ix_in g13) ?_
      refine V_aload_n (pc := 43) (i := 0) dX3_tellTo_43 rfl rfl ?_
      obtain ⟨q14, g15, e⟩ := ob_some e
      refine V_getR (pc := 44) (ci := 3) (k := 1) (b := q14) dX3_tellTo_44 fl_X3_11 rfl (of_decide_eq_true g1) g15 ?_
      refine V_iload_n (pc := 47) (i := 3) dX3_tellTo_47 rfl rfl ?_
      refine V_iconst (pc := 48) (v := (3 : Int32)) dX3_tellTo_48 (by decide) ?_
      refine V_iadd (pc := 49) dX3_tellTo_49 ?_
      obtain ⟨g16, e⟩ := gd_some e
      obtain ⟨g17, e⟩ := gd_some e
      refine V_iald (pc := 50) dX3_tellTo_50 (of_decide_eq_true g16) (ix_in g17) ?_
      obtain ⟨r19, h20, g18, e⟩ := ob2_some e
      refine V_callS (pc := 51) (bc := 0) (bs := 0) (mc := 0) (ms := 0) (st := []) (As := [.ref v1, .int (zI h q2 (v2 * (4 : Int32)).toNatClampNeg), .int (zI h q6 ((v2 * (4 : Int32)) + (1 : Int32)).toNatClampNeg), .int (zI h q10 ((v2 * (4 : Int32)) + (2 : Int32)).toNatClampNeg), .int (zI h q14 ((v2 * (4 : Int32)) + (3 : Int32)).toNatClampNeg)]) (h' := h20) (r := none) dX3_tellTo_51 ml_X3_108 rfl rfl (Nat.le_of_ble_eq_true rfl) (d' := 1) (by decide) (c_X3_tellLine (l := x.2.1) v1 (zI h q2 (v2 * (4 : Int32)).toNatClampNeg) (zI h q6 ((v2 * (4 : Int32)) + (1 : Int32)).toNatClampNeg) (zI h q10 ((v2 * (4 : Int32)) + (2 : Int32)).toNatClampNeg) (zI h q14 ((v2 * (4 : Int32)) + (3 : Int32)).toNatClampNeg) h g18) ?_
      refine V_iinc (pc := 54) (i := 2) (u := v2 + (1 : Int32)) (lv' := [(2, .int (v2 + (1 : Int32))), (3, .int (v2 * (4 : Int32))), (0, .ref v0), (1, .ref v1)]) dX3_tellTo_54 rfl rfl (by decide) rfl ?_
      refine V_goto (pc := 57) (tgt := 2) dX3_tellTo_57 (by decide) ?_
      cases e
      exact V_pick [2, 3, 0] rfl (kI (v2 + (1 : Int32), h20) rfl)
set_option maxRecDepth 100000 in
def F_X3_tellTo_b60  (h : Hp) : Option (Unit × Hp) :=
  some ((), h)
set_option maxHeartbeats 4000000 in
set_option maxRecDepth 100000 in
theorem r_X3_tellTo_b60  (h : Hp) {x : Cx} {r : Unit} {hz : Hp} (e : F_X3_tellTo_b60  h = some (r, hz)) (hF : Fin9 M_X3_tellTo x none none hz) : V M_X3_tellTo x 2 60 [] [] h 0 0 := by
  unfold F_X3_tellTo_b60 at e
  cases e
  exact V_vret (pc := 60) dX3_tellTo_60 hF
set_option maxRecDepth 100000 in
def F_X3_tellTo_b0 (v0 : Nat) (v1 : Nat) (h : Hp) : Option (Unit × Hp) :=
  ob (iter (fun z : Int32 × Hp => F_X3_tellTo_l2 v0 v1 z.1 z.2) FU ((0 : Int32), h)) (fun h23 => F_X3_tellTo_b60 h23)
set_option maxHeartbeats 4000000 in
set_option maxRecDepth 100000 in
theorem r_X3_tellTo_b0 (v0 : Nat) (v1 : Nat) (h : Hp) {x : Cx} {r : Unit} {hz : Hp} (e : F_X3_tellTo_b0 v0 v1 h = some (r, hz)) (hF : Fin9 M_X3_tellTo x none none hz) : V M_X3_tellTo x 2 0 [(0, .ref v0), (1, .ref v1)] [] h 0 0 := by
  unfold F_X3_tellTo_b0 at e
  refine V_iconst (pc := 0) (v := (0 : Int32)) dX3_tellTo_0 (by decide) ?_
  refine V_istore_n (pc := 1) (i := 2) (lv' := [(2, .int (0 : Int32)), (0, .ref v0), (1, .ref v1)]) dX3_tellTo_1 rfl (by decide) rfl ?_
  refine V_pick [1, 2, 0] rfl ?_
  obtain ⟨y24, g25, e⟩ := ob_some e
  refine iter_V (P := fun z : Int32 × Hp => V M_X3_tellTo x 2 2 [(0, .ref v0), (1, .ref v1), (2, .int z.1)] [] z.2 0 0) (E := fun z : Hp => V M_X3_tellTo x 2 60 [] [] z 0 0) (fun z o e9 k1 k2 => r_X3_tellTo_l2 v0 v1 z.1 z.2 e9 (fun z hz9 => k1 z hz9) (fun z hz9 => k2 _ hz9)) _ _ _ g25 ?_
  clear g25
  obtain ⟨h23, rfl⟩ : ∃ q, q = y24 := ⟨_, rfl⟩
  replace e : (F_X3_tellTo_b60 h23) = some (r, hz) := e
  show V M_X3_tellTo x 2 60 [] [] h23 0 0
  exact V_pick [] rfl (r_X3_tellTo_b60 h23 e hF)
def F_X3_tellTo (v0 : Nat) (v1 : Nat) (h : Hp) : Option (Unit × Hp) := F_X3_tellTo_b0 v0 v1 h
theorem c_X3_tellTo {l : Launch} (v0 : Nat) (v1 : Nat) (h : Hp) {r : Unit} {hz : Hp} (e : F_X3_tellTo v0 v1 h = some (r, hz)) : Ct l yX3_tellTo M_X3_tellTo none 2 [.ref v0, .ref v1] h 0 0 none hz :=
  Ct_of rfl rfl (fun q => by cases q) (Nat.le_of_ble_eq_true rfl) (fun x _ hF => V_pick [0, 1] rfl (r_X3_tellTo_b0 v0 v1 h e hF))
theorem dX4_bellAt_0 : decode cX4_bellAt 0 = .ok (.aload_n 2, 1) := by decide +kernel
theorem dX4_bellAt_1 : decode cX4_bellAt 1 = .ok (.aload_n 2, 1) := by decide +kernel
theorem dX4_bellAt_2 : decode cX4_bellAt 2 = .ok (.getfield 22, 3) := by decide +kernel
theorem dX4_bellAt_5 : decode cX4_bellAt 5 = .ok (.invokevirtual 27, 3) := by decide +kernel
theorem dX4_bellAt_8 : decode cX4_bellAt 8 = .ok (.istore_n 3, 1) := by decide +kernel
theorem dX4_bellAt_9 : decode cX4_bellAt 9 = .ok (.iconst (-1), 1) := by decide +kernel
theorem dX4_bellAt_10 : decode cX4_bellAt 10 = .ok (.istore 4, 2) := by decide +kernel
theorem dX4_bellAt_12 : decode cX4_bellAt 12 = .ok (.iconst 0, 1) := by decide +kernel
theorem dX4_bellAt_13 : decode cX4_bellAt 13 = .ok (.istore 5, 2) := by decide +kernel
theorem dX4_bellAt_15 : decode cX4_bellAt 15 = .ok (.iload 5, 2) := by decide +kernel
theorem dX4_bellAt_17 : decode cX4_bellAt 17 = .ok (.iload_n 1, 1) := by decide +kernel
theorem dX4_bellAt_18 : decode cX4_bellAt 18 = .ok (.if_icmp .gt 47, 3) := by decide +kernel
theorem dX4_bellAt_21 : decode cX4_bellAt 21 = .ok (.iload 5, 2) := by decide +kernel
theorem dX4_bellAt_23 : decode cX4_bellAt 23 = .ok (.ldc 59, 2) := by decide +kernel
theorem dX4_bellAt_25 : decode cX4_bellAt 25 = .ok (.if_icmp .ge 40, 3) := by decide +kernel
theorem dX4_bellAt_28 : decode cX4_bellAt 28 = .ok (.aload_n 0, 1) := by decide +kernel
theorem dX4_bellAt_29 : decode cX4_bellAt 29 = .ok (.iload_n 3, 1) := by decide +kernel
theorem dX4_bellAt_30 : decode cX4_bellAt 30 = .ok (.aload_n 2, 1) := by decide +kernel
theorem dX4_bellAt_31 : decode cX4_bellAt 31 = .ok (.invokevirtual 60, 3) := by decide +kernel
theorem dX4_bellAt_34 : decode cX4_bellAt 34 = .ok (.istore 4, 2) := by decide +kernel
theorem dX4_bellAt_36 : decode cX4_bellAt 36 = .ok (.iload 4, 2) := by decide +kernel
theorem dX4_bellAt_38 : decode cX4_bellAt 38 = .ok (.iconst (-1), 1) := by decide +kernel
theorem dX4_bellAt_39 : decode cX4_bellAt 39 = .ok (.if_icmp .ne 5, 3) := by decide +kernel
theorem dX4_bellAt_42 : decode cX4_bellAt 42 = .ok (.iconst (-1), 1) := by decide +kernel
theorem dX4_bellAt_43 : decode cX4_bellAt 43 = .ok (.ireturn, 1) := by decide +kernel
theorem dX4_bellAt_44 : decode cX4_bellAt 44 = .ok (.iload_n 3, 1) := by decide +kernel
theorem dX4_bellAt_45 : decode cX4_bellAt 45 = .ok (.iload 4, 2) := by decide +kernel
theorem dX4_bellAt_47 : decode cX4_bellAt 47 = .ok (.bipush 8, 2) := by decide +kernel
theorem dX4_bellAt_49 : decode cX4_bellAt 49 = .ok (.idiv, 1) := by decide +kernel
theorem dX4_bellAt_50 : decode cX4_bellAt 50 = .ok (.iload 4, 2) := by decide +kernel
theorem dX4_bellAt_52 : decode cX4_bellAt 52 = .ok (.bipush 8, 2) := by decide +kernel
theorem dX4_bellAt_54 : decode cX4_bellAt 54 = .ok (.irem, 1) := by decide +kernel
theorem dX4_bellAt_55 : decode cX4_bellAt 55 = .ok (.invokestatic 64, 3) := by decide +kernel
theorem dX4_bellAt_58 : decode cX4_bellAt 58 = .ok (.istore_n 3, 1) := by decide +kernel
theorem dX4_bellAt_59 : decode cX4_bellAt 59 = .ok (.iinc 5 1, 3) := by decide +kernel
theorem dX4_bellAt_62 : decode cX4_bellAt 62 = .ok (.goto (-47), 3) := by decide +kernel
theorem dX4_bellAt_65 : decode cX4_bellAt 65 = .ok (.iload 4, 2) := by decide +kernel
theorem dX4_bellAt_67 : decode cX4_bellAt 67 = .ok (.ireturn, 1) := by decide +kernel
set_option maxRecDepth 100000 in
def F_X4_bellAt_l15 (v0 : Nat) (v1 : Int32) (v2 : Nat) (v3 : Int32) (v4 : Int32) (v5 : Int32) (h : Hp) : Option ((Int32 × Int32 × Int32) ⊕ (Int32 ⊕ Unit)) :=
  (if v1 < v5 then some (.inr (.inl v4)) else (if (32768 : Int32) ≤ v5 then some (.inr (.inl v4)) else ob (F_X4_firstBell v0 v3 v2 h) fun r7 => gd (decide (kd h v0 = 4)) <| (if r7 = (-1 : Int32) then some (.inr (.inr ())) else ob (F_X4_sent v3 (r7 / (8 : Int32)) (r7 - r7 / (8 : Int32) * (8 : Int32)) h) fun r10 => some (.inl (r10, r7, v5 + (1 : Int32))))))
set_option maxHeartbeats 4000000 in
set_option maxRecDepth 100000 in
theorem r_X4_bellAt_l15 (v0 : Nat) (v1 : Int32) (v2 : Nat) (v3 : Int32) (v4 : Int32) (v5 : Int32) (h : Hp) {x : Cx} {o : ((Int32 × Int32 × Int32) ⊕ (Int32 ⊕ Unit))} (e : F_X4_bellAt_l15 v0 v1 v2 v3 v4 v5 h = some o) (kI : ∀ z, o = .inl z → V M_X4_bellAt x 2 15 [(0, .ref v0), (1, .int v1), (2, .ref v2), (3, .int z.1), (4, .int z.2.1), (5, .int z.2.2)] [] h 0 0) (kE65 : ∀ z : Int32, o = .inr (.inl z) → V M_X4_bellAt x 2 65 [(4, .int z)] [] h 0 0) (kE42 : ∀ z : Unit, o = .inr (.inr z) → V M_X4_bellAt x 2 42 [] [] h 0 0) : V M_X4_bellAt x 2 15 [(0, .ref v0), (1, .int v1), (2, .ref v2), (3, .int v3), (4, .int v4), (5, .int v5)] [] h 0 0 := by
  unfold F_X4_bellAt_l15 at e
  refine V_iload (pc := 15) (i := 5) dX4_bellAt_15 rfl ?_
  refine V_iload_n (pc := 17) (i := 1) dX4_bellAt_17 rfl rfl ?_
  refine V_icmp_gt (pc := 18) (tgt := 65) dX4_bellAt_18 (by decide) (fun c13 => ?_) (fun c13 => ?_)
  · rw [if_pos c13] at e
    cases e
    exact V_pick [4] rfl (kE65 v4 rfl)
  · rw [if_neg c13] at e
    refine V_pick [0, 1, 2, 3, 4, 5] rfl ?_
    refine V_iload (pc := 21) (i := 5) dX4_bellAt_21 rfl ?_
    refine V_ldc (pc := 23) (v := (32768 : Int32)) dX4_bellAt_23 (wk_X4_59) ?_
    refine V_icmp_ge (pc := 25) (tgt := 65) dX4_bellAt_25 (by decide) (fun c12 => ?_) (fun c12 => ?_)
    · rw [if_pos c12] at e
      cases e
      exact V_pick [4] rfl (kE65 v4 rfl)
    · rw [if_neg c12] at e
      refine V_pick [0, 1, 2, 3, 5] rfl ?_
      refine V_aload_n (pc := 28) (i := 0) dX4_bellAt_28 rfl rfl ?_
      refine V_iload_n (pc := 29) (i := 3) dX4_bellAt_29 rfl rfl ?_
      refine V_aload_n (pc := 30) (i := 2) dX4_bellAt_30 rfl rfl ?_
      obtain ⟨r7, g6, e⟩ := ob_some e
      obtain ⟨g8, e⟩ := gd_some e
      refine V_callV (pc := 31) (bc := 0) (bs := 0) (mc := 0) (ms := 0) (st := []) (As := [.int v3, .ref v2]) (a := v0) (h' := h) (r := some (.int r7)) dX4_bellAt_31 ml_X4_60 (ci := 4) rfl (of_decide_eq_true g8) rfl rfl (Nat.le_of_ble_eq_true rfl) (d' := 1) (by decide) (c_X4_firstBell (l := x.2.1) v0 v3 v2 h g6) ?_
      refine V_istore (pc := 34) (i := 4) (lv' := [(4, .int r7), (0, .ref v0), (1, .int v1), (2, .ref v2), (3, .int v3), (5, .int v5)]) dX4_bellAt_34 (by decide) rfl ?_
      refine V_iload (pc := 36) (i := 4) dX4_bellAt_36 rfl ?_
      refine V_iconst (pc := 38) (v := (-1 : Int32)) dX4_bellAt_38 (by decide) ?_
      refine V_icmp_ne (pc := 39) (tgt := 44) dX4_bellAt_39 (by decide) (fun c11 => ?_) (fun c11 => ?_)
      · rw [if_neg c11] at e
        refine V_pick [1, 2, 3, 4, 0, 5] rfl ?_
        refine V_iload_n (pc := 44) (i := 3) dX4_bellAt_44 rfl rfl ?_
        refine V_iload (pc := 45) (i := 4) dX4_bellAt_45 rfl ?_
        refine V_bipush (pc := 47) (v := (8 : Int32)) dX4_bellAt_47 (by decide) ?_
        refine V_idiv (pc := 49) dX4_bellAt_49 (by decide) ?_
        refine V_iload (pc := 50) (i := 4) dX4_bellAt_50 rfl ?_
        refine V_bipush (pc := 52) (v := (8 : Int32)) dX4_bellAt_52 (by decide) ?_
        refine V_irem (pc := 54) dX4_bellAt_54 (by decide) ?_
        obtain ⟨r10, g9, e⟩ := ob_some e
        refine V_callS (pc := 55) (bc := 0) (bs := 0) (mc := 0) (ms := 0) (st := []) (As := [.int v3, .int (r7 / (8 : Int32)), .int (r7 - r7 / (8 : Int32) * (8 : Int32))]) (h' := h) (r := some (.int r10)) dX4_bellAt_55 ml_X4_64 rfl rfl (Nat.le_of_ble_eq_true rfl) (d' := 0) (by decide) (c_X4_sent (l := x.2.1) v3 (r7 / (8 : Int32)) (r7 - r7 / (8 : Int32) * (8 : Int32)) h g9) ?_
        refine V_istore_n (pc := 58) (i := 3) (lv' := [(3, .int r10), (0, .ref v0), (1, .int v1), (2, .ref v2), (4, .int r7), (5, .int v5)]) dX4_bellAt_58 rfl (by decide) rfl ?_
        refine V_iinc (pc := 59) (i := 5) (u := v5 + (1 : Int32)) (lv' := [(5, .int (v5 + (1 : Int32))), (3, .int r10), (0, .ref v0), (1, .int v1), (2, .ref v2), (4, .int r7)]) dX4_bellAt_59 rfl rfl (by decide) rfl ?_
        refine V_goto (pc := 62) (tgt := 15) dX4_bellAt_62 (by decide) ?_
        cases e
        exact V_pick [2, 3, 4, 1, 5, 0] rfl (kI (r10, r7, v5 + (1 : Int32)) rfl)
      · rw [if_pos c11] at e
        cases e
        exact V_pick [] rfl (kE42 () rfl)
set_option maxRecDepth 100000 in
def F_X4_bellAt_b65 (v4 : Int32) (h : Hp) : Option Int32 :=
  some v4
set_option maxHeartbeats 4000000 in
set_option maxRecDepth 100000 in
theorem r_X4_bellAt_b65 (v4 : Int32) (h : Hp) {x : Cx} {r : Int32} (e : F_X4_bellAt_b65 v4 h = some r) (hF : Fin9 M_X4_bellAt x (some .int) (some (.int r)) h) : V M_X4_bellAt x 2 65 [(4, .int v4)] [] h 0 0 := by
  unfold F_X4_bellAt_b65 at e
  refine V_iload (pc := 65) (i := 4) dX4_bellAt_65 rfl ?_
  cases e
  exact V_iret (pc := 67) dX4_bellAt_67 hF
set_option maxRecDepth 100000 in
def F_X4_bellAt_b0 (v0 : Nat) (v1 : Int32) (v2 : Nat) (h : Hp) : Option Int32 :=
  gd (decide (kd h v2 = 2)) <| ob (zR h v2 7) fun q2 => ob (F_X2_asNumber v2 q2 h) fun r5 => ob (iter (fun z : Int32 × Int32 × Int32 => F_X4_bellAt_l15 v0 v1 v2 z.1 z.2.1 z.2.2 h) FU (r5, (-1 : Int32), (0 : Int32))) (fun z => sm z (fun w14 => F_X4_bellAt_b65 w14 h) (fun _ => some (-1 : Int32)))
set_option maxHeartbeats 4000000 in
set_option maxRecDepth 100000 in
theorem r_X4_bellAt_b0 (v0 : Nat) (v1 : Int32) (v2 : Nat) (h : Hp) {x : Cx} {r : Int32} (e : F_X4_bellAt_b0 v0 v1 v2 h = some r) (hF : Fin9 M_X4_bellAt x (some .int) (some (.int r)) h) : V M_X4_bellAt x 2 0 [(0, .ref v0), (1, .int v1), (2, .ref v2)] [] h 0 0 := by
  unfold F_X4_bellAt_b0 at e
  refine V_aload_n (pc := 0) (i := 2) dX4_bellAt_0 rfl rfl ?_
  refine V_aload_n (pc := 1) (i := 2) dX4_bellAt_1 rfl rfl ?_
  obtain ⟨g1, e⟩ := gd_some e
  obtain ⟨q2, g3, e⟩ := ob_some e
  refine V_getR (pc := 2) (ci := 2) (k := 7) (b := q2) dX4_bellAt_2 fl_X4_22 rfl (of_decide_eq_true g1) g3 ?_
  obtain ⟨r5, g4, e⟩ := ob_some e
  refine V_callV (pc := 5) (bc := 0) (bs := 0) (mc := 0) (ms := 0) (st := []) (As := [.ref q2]) (a := v2) (h' := h) (r := some (.int r5)) dX4_bellAt_5 ml_X4_27 (ci := 2) rfl (of_decide_eq_true g1) rfl rfl (Nat.le_of_ble_eq_true rfl) (d' := 0) (by decide) (c_X2_asNumber (l := x.2.1) v2 q2 h g4) ?_
  refine V_istore_n (pc := 8) (i := 3) (lv' := [(3, .int r5), (0, .ref v0), (1, .int v1), (2, .ref v2)]) dX4_bellAt_8 rfl (by decide) rfl ?_
  refine V_iconst (pc := 9) (v := (-1 : Int32)) dX4_bellAt_9 (by decide) ?_
  refine V_istore (pc := 10) (i := 4) (lv' := [(4, .int (-1 : Int32)), (3, .int r5), (0, .ref v0), (1, .int v1), (2, .ref v2)]) dX4_bellAt_10 (by decide) rfl ?_
  refine V_iconst (pc := 12) (v := (0 : Int32)) dX4_bellAt_12 (by decide) ?_
  refine V_istore (pc := 13) (i := 5) (lv' := [(5, .int (0 : Int32)), (4, .int (-1 : Int32)), (3, .int r5), (0, .ref v0), (1, .int v1), (2, .ref v2)]) dX4_bellAt_13 (by decide) rfl ?_
  refine V_pick [3, 4, 5, 2, 1, 0] rfl ?_
  obtain ⟨y15, g16, e⟩ := ob_some e
  refine iter_V (P := fun z : Int32 × Int32 × Int32 => V M_X4_bellAt x 2 15 [(0, .ref v0), (1, .int v1), (2, .ref v2), (3, .int z.1), (4, .int z.2.1), (5, .int z.2.2)] [] h 0 0) (E := fun z => Sum.elim (fun z : Int32 => V M_X4_bellAt x 2 65 [(4, .int z)] [] h 0 0) (fun z : Unit => V M_X4_bellAt x 2 42 [] [] h 0 0) z) (fun z o e9 k1 k2 => r_X4_bellAt_l15 v0 v1 v2 z.1 z.2.1 z.2.2 h e9 (fun z hz9 => k1 z hz9) (fun z hz9 => k2 _ hz9) (fun z hz9 => k2 _ hz9)) _ _ _ g16 ?_
  clear g16
  rcases y15 with y17 | y18
  · obtain ⟨w14, rfl⟩ : ∃ q, q = y17 := ⟨_, rfl⟩
    replace e : (F_X4_bellAt_b65 w14 h) = some r := e
    show V M_X4_bellAt x 2 65 [(4, .int w14)] [] h 0 0
    exact V_pick [0] rfl (r_X4_bellAt_b65 w14 h e hF)
  · replace e : (some (-1 : Int32)) = some r := e
    show V M_X4_bellAt x 2 42 [] [] h 0 0
    refine V_iconst (pc := 42) (v := (-1 : Int32)) dX4_bellAt_42 (by decide) ?_
    cases e
    exact V_iret (pc := 43) dX4_bellAt_43 hF
def F_X4_bellAt (v0 : Nat) (v1 : Int32) (v2 : Nat) (h : Hp) : Option Int32 := F_X4_bellAt_b0 v0 v1 v2 h
theorem c_X4_bellAt {l : Launch} (v0 : Nat) (v1 : Int32) (v2 : Nat) (h : Hp) {r : Int32} (e : F_X4_bellAt v0 v1 v2 h = some r) : Ct l yX4_bellAt M_X4_bellAt (some .int) 2 [.ref v0, .int v1, .ref v2] h 0 0 (some (.int r)) h :=
  Ct_of rfl rfl (fun q => by cases q) (Nat.le_of_ble_eq_true rfl) (fun x _ hF => V_pick [0, 1, 2] rfl (r_X4_bellAt_b0 v0 v1 v2 h e hF))
theorem dX4_openLevel_0 : decode cX4_openLevel 0 = .ok (.iconst 0, 1) := by decide +kernel
theorem dX4_openLevel_1 : decode cX4_openLevel 1 = .ok (.istore 4, 2) := by decide +kernel
theorem dX4_openLevel_3 : decode cX4_openLevel 3 = .ok (.iload 4, 2) := by decide +kernel
theorem dX4_openLevel_5 : decode cX4_openLevel 5 = .ok (.ldc 59, 2) := by decide +kernel
theorem dX4_openLevel_7 : decode cX4_openLevel 7 = .ok (.if_icmp .ge 54, 3) := by decide +kernel
theorem dX4_openLevel_10 : decode cX4_openLevel 10 = .ok (.aload_n 3, 1) := by decide +kernel
theorem dX4_openLevel_11 : decode cX4_openLevel 11 = .ok (.aload_n 2, 1) := by decide +kernel
theorem dX4_openLevel_12 : decode cX4_openLevel 12 = .ok (.invokevirtual 81, 3) := by decide +kernel
theorem dX4_openLevel_15 : decode cX4_openLevel 15 = .ok (.ifCond .eq 46, 3) := by decide +kernel
theorem dX4_openLevel_18 : decode cX4_openLevel 18 = .ok (.iload_n 1, 1) := by decide +kernel
theorem dX4_openLevel_19 : decode cX4_openLevel 19 = .ok (.aload_n 2, 1) := by decide +kernel
theorem dX4_openLevel_20 : decode cX4_openLevel 20 = .ok (.aload_n 3, 1) := by decide +kernel
theorem dX4_openLevel_21 : decode cX4_openLevel 21 = .ok (.getfield 85, 3) := by decide +kernel
theorem dX4_openLevel_24 : decode cX4_openLevel 24 = .ok (.invokevirtual 27, 3) := by decide +kernel
theorem dX4_openLevel_27 : decode cX4_openLevel 27 = .ok (.iadd, 1) := by decide +kernel
theorem dX4_openLevel_28 : decode cX4_openLevel 28 = .ok (.istore 5, 2) := by decide +kernel
theorem dX4_openLevel_30 : decode cX4_openLevel 30 = .ok (.aload_n 3, 1) := by decide +kernel
theorem dX4_openLevel_31 : decode cX4_openLevel 31 = .ok (.invokevirtual 86, 3) := by decide +kernel
theorem dX4_openLevel_34 : decode cX4_openLevel 34 = .ok (.ifCond .eq 21, 3) := by decide +kernel
theorem dX4_openLevel_37 : decode cX4_openLevel 37 = .ok (.iload 5, 2) := by decide +kernel
theorem dX4_openLevel_39 : decode cX4_openLevel 39 = .ok (.aload_n 0, 1) := by decide +kernel
theorem dX4_openLevel_40 : decode cX4_openLevel 40 = .ok (.getfield 9, 3) := by decide +kernel
theorem dX4_openLevel_43 : decode cX4_openLevel 43 = .ok (.arraylength, 1) := by decide +kernel
theorem dX4_openLevel_44 : decode cX4_openLevel 44 = .ok (.if_icmp .ge 11, 3) := by decide +kernel
theorem dX4_openLevel_47 : decode cX4_openLevel 47 = .ok (.aload_n 0, 1) := by decide +kernel
theorem dX4_openLevel_48 : decode cX4_openLevel 48 = .ok (.getfield 9, 3) := by decide +kernel
theorem dX4_openLevel_51 : decode cX4_openLevel 51 = .ok (.iload 5, 2) := by decide +kernel
theorem dX4_openLevel_53 : decode cX4_openLevel 53 = .ok (.iconst (-1), 1) := by decide +kernel
theorem dX4_openLevel_54 : decode cX4_openLevel 54 = .ok (.iastore, 1) := by decide +kernel
theorem dX4_openLevel_55 : decode cX4_openLevel 55 = .ok (.iinc 4 1, 3) := by decide +kernel
theorem dX4_openLevel_58 : decode cX4_openLevel 58 = .ok (.goto (-55), 3) := by decide +kernel
theorem dX4_openLevel_61 : decode cX4_openLevel 61 = .ok (.return_, 1) := by decide +kernel
set_option maxRecDepth 100000 in
def F_X4_openLevel_b55 (v0 : Nat) (v1 : Int32) (v2 : Nat) (v3 : Nat) (v4 : Int32) (h : Hp) : Option ((Int32 × Hp) ⊕ Hp) :=
  some (.inl (v4 + (1 : Int32), h))
set_option maxHeartbeats 4000000 in
set_option maxRecDepth 100000 in
theorem r_X4_openLevel_b55 (v0 : Nat) (v1 : Int32) (v2 : Nat) (v3 : Nat) (v4 : Int32) (h : Hp) {x : Cx} {o : ((Int32 × Hp) ⊕ Hp)} (e : F_X4_openLevel_b55 v0 v1 v2 v3 v4 h = some o) (kI : ∀ z, o = .inl z → V M_X4_openLevel x 2 3 [(0, .ref v0), (1, .int v1), (2, .ref v2), (3, .ref v3), (4, .int z.1)] [] z.2 0 0) (kE61 : ∀ z : Hp, o = .inr z → V M_X4_openLevel x 2 61 [] [] z 0 0) : V M_X4_openLevel x 2 55 [(0, .ref v0), (1, .int v1), (2, .ref v2), (3, .ref v3), (4, .int v4)] [] h 0 0 := by
  unfold F_X4_openLevel_b55 at e
  refine V_iinc (pc := 55) (i := 4) (u := v4 + (1 : Int32)) (lv' := [(4, .int (v4 + (1 : Int32))), (0, .ref v0), (1, .int v1), (2, .ref v2), (3, .ref v3)]) dX4_openLevel_55 rfl rfl (by decide) rfl ?_
  refine V_goto (pc := 58) (tgt := 3) dX4_openLevel_58 (by decide) ?_
  cases e
  exact V_pick [1, 2, 3, 4, 0] rfl (kI (v4 + (1 : Int32), h) rfl)
set_option maxRecDepth 100000 in
def F_X4_openLevel_l3 (v0 : Nat) (v1 : Int32) (v2 : Nat) (v3 : Nat) (v4 : Int32) (h : Hp) : Option ((Int32 × Hp) ⊕ Hp) :=
  (if (32768 : Int32) ≤ v4 then some (.inr h) else ob2 (F_X9_advance v3 v2 h) fun r2 h3 => gd (decide (kd h v3 = 8)) <| (if r2 = 0 then some (.inr h3) else gd (decide (kd h3 v3 = 8)) <| ob (zR h3 v3 0) fun q6 => ob (F_X2_asNumber v2 q6 h3) fun r9 => gd (decide (kd h3 v2 = 2)) <| ob (F_X9_isLevelNow v3 h3) fun r12 => (if r12 = 0 then F_X4_openLevel_b55 v0 v1 v2 v3 v4 h3 else gd (decide (kd h3 v0 = 4)) <| ob (zR h3 v0 0) fun q14 => gd (decide (kd h3 q14 = 13)) <| (if (Int32.ofNat (zl h3 q14)) ≤ (v1 + r9) then F_X4_openLevel_b55 v0 v1 v2 v3 v4 h3 else ob (zR h3 v0 0) fun q17 => gd (decide (kd h3 q17 = 13)) <| gd (ix (v1 + r9) (zl h3 q17)) <| F_X4_openLevel_b55 v0 v1 v2 v3 v4 (setI h3 q17 (v1 + r9).toNatClampNeg (-1 : Int32))))))
set_option maxHeartbeats 4000000 in
set_option maxRecDepth 100000 in
theorem r_X4_openLevel_l3 (v0 : Nat) (v1 : Int32) (v2 : Nat) (v3 : Nat) (v4 : Int32) (h : Hp) {x : Cx} {o : ((Int32 × Hp) ⊕ Hp)} (e : F_X4_openLevel_l3 v0 v1 v2 v3 v4 h = some o) (kI : ∀ z, o = .inl z → V M_X4_openLevel x 2 3 [(0, .ref v0), (1, .int v1), (2, .ref v2), (3, .ref v3), (4, .int z.1)] [] z.2 0 0) (kE61 : ∀ z : Hp, o = .inr z → V M_X4_openLevel x 2 61 [] [] z 0 0) : V M_X4_openLevel x 2 3 [(0, .ref v0), (1, .int v1), (2, .ref v2), (3, .ref v3), (4, .int v4)] [] h 0 0 := by
  unfold F_X4_openLevel_l3 at e
  refine V_iload (pc := 3) (i := 4) dX4_openLevel_3 rfl ?_
  refine V_ldc (pc := 5) (v := (32768 : Int32)) dX4_openLevel_5 (wk_X4_59) ?_
  refine V_icmp_ge (pc := 7) (tgt := 61) dX4_openLevel_7 (by decide) (fun c24 => ?_) (fun c24 => ?_)
  · rw [if_pos c24] at e
    cases e
    exact V_pick [] rfl (kE61 h rfl)
  · rw [if_neg c24] at e
    refine V_pick [0, 1, 2, 3, 4] rfl ?_
    refine V_aload_n (pc := 10) (i := 3) dX4_openLevel_10 rfl rfl ?_
    refine V_aload_n (pc := 11) (i := 2) dX4_openLevel_11 rfl rfl ?_
    obtain ⟨r2, h3, g1, e⟩ := ob2_some e
    obtain ⟨g4, e⟩ := gd_some e
    refine V_callV (pc := 12) (bc := 0) (bs := 0) (mc := 0) (ms := 0) (st := []) (As := [.ref v2]) (a := v3) (h' := h3) (r := some (.int r2)) dX4_openLevel_12 ml_X4_81 (ci := 8) rfl (of_decide_eq_true g4) rfl rfl (Nat.le_of_ble_eq_true rfl) (d' := 1) (by decide) (c_X9_advance (l := x.2.1) v3 v2 h g1) ?_
    refine V_if_eq (pc := 15) (tgt := 61) dX4_openLevel_15 (by decide) (fun c23 => ?_) (fun c23 => ?_)
    · rw [if_pos c23] at e
      cases e
      exact V_pick [] rfl (kE61 h3 rfl)
    · rw [if_neg c23] at e
      refine V_pick [0, 1, 2, 3, 4] rfl ?_
      refine V_iload_n (pc := 18) (i := 1) dX4_openLevel_18 rfl rfl ?_
      refine V_aload_n (pc := 19) (i := 2) dX4_openLevel_19 rfl rfl ?_
      refine V_aload_n (pc := 20) (i := 3) dX4_openLevel_20 rfl rfl ?_
      obtain ⟨g5, e⟩ := gd_some e
      obtain ⟨q6, g7, e⟩ := ob_some e
      refine V_getR (pc := 21) (ci := 8) (k := 0) (b := q6) dX4_openLevel_21 fl_X4_85 rfl (of_decide_eq_true g5) g7 ?_
      obtain ⟨r9, g8, e⟩ := ob_some e
      obtain ⟨g10, e⟩ := gd_some e
      refine V_callV (pc := 24) (bc := 0) (bs := 0) (mc := 0) (ms := 0) (st := [.int v1]) (As := [.ref q6]) (a := v2) (h' := h3) (r := some (.int r9)) dX4_openLevel_24 ml_X4_27 (ci := 2) rfl (of_decide_eq_true g10) rfl rfl (Nat.le_of_ble_eq_true rfl) (d' := 0) (by decide) (c_X2_asNumber (l := x.2.1) v2 q6 h3 g8) ?_
      refine V_iadd (pc := 27) dX4_openLevel_27 ?_
      refine V_istore (pc := 28) (i := 5) (lv' := [(5, .int (v1 + r9)), (0, .ref v0), (1, .int v1), (2, .ref v2), (3, .ref v3), (4, .int v4)]) dX4_openLevel_28 (by decide) rfl ?_
      refine V_aload_n (pc := 30) (i := 3) dX4_openLevel_30 rfl rfl ?_
      obtain ⟨r12, g11, e⟩ := ob_some e
      refine V_callV (pc := 31) (bc := 0) (bs := 0) (mc := 0) (ms := 0) (st := []) (As := []) (a := v3) (h' := h3) (r := some (.int r12)) dX4_openLevel_31 ml_X4_86 (ci := 8) rfl (of_decide_eq_true g5) rfl rfl (Nat.le_of_ble_eq_true rfl) (d' := 0) (by decide) (c_X9_isLevelNow (l := x.2.1) v3 h3 g11) ?_
      refine V_if_eq (pc := 34) (tgt := 55) dX4_openLevel_34 (by decide) (fun c22 => ?_) (fun c22 => ?_)
      · rw [if_pos c22] at e
        exact V_pick [1, 2, 3, 4, 5] rfl (r_X4_openLevel_b55 v0 v1 v2 v3 v4 h3 e kI kE61)
      · rw [if_neg c22] at e
        refine V_pick [1, 2, 3, 4, 5, 0] rfl ?_
        refine V_iload (pc := 37) (i := 5) dX4_openLevel_37 rfl ?_
        refine V_aload_n (pc := 39) (i := 0) dX4_openLevel_39 rfl rfl ?_
        obtain ⟨g13, e⟩ := gd_some e
        obtain ⟨q14, g15, e⟩ := ob_some e
        refine V_getR (pc := 40) (ci := 4) (k := 0) (b := q14) dX4_openLevel_40 fl_X4_9 rfl (of_decide_eq_true g13) g15 ?_
        obtain ⟨g16, e⟩ := gd_some e
        refine V_alen (pc := 43) (k := 13) dX4_openLevel_43 (of_decide_eq_true g16) (by decide) ?_
        refine V_icmp_ge (pc := 44) (tgt := 55) dX4_openLevel_44 (by decide) (fun c21 => ?_) (fun c21 => ?_)
        · rw [if_pos c21] at e
          exact V_pick [0, 1, 2, 3, 4] rfl (r_X4_openLevel_b55 v0 v1 v2 v3 v4 h3 e kI kE61)
        · rw [if_neg c21] at e
          refine V_pick [0, 1, 2, 3, 4, 5] rfl ?_
          refine V_aload_n (pc := 47) (i := 0) dX4_openLevel_47 rfl rfl ?_
          obtain ⟨q17, g18, e⟩ := ob_some e
          refine V_getR (pc := 48) (ci := 4) (k := 0) (b := q17) dX4_openLevel_48 fl_X4_9 rfl (of_decide_eq_true g13) g18 ?_
          refine V_iload (pc := 51) (i := 5) dX4_openLevel_51 rfl ?_
          refine V_iconst (pc := 53) (v := (-1 : Int32)) dX4_openLevel_53 (by decide) ?_
          obtain ⟨g19, e⟩ := gd_some e
          obtain ⟨g20, e⟩ := gd_some e
          refine V_iast (pc := 54) dX4_openLevel_54 (of_decide_eq_true g19) (ix_in g20) ?_
          exact V_pick [0, 1, 2, 3, 4] rfl (r_X4_openLevel_b55 v0 v1 v2 v3 v4 (setI h3 q17 (v1 + r9).toNatClampNeg (-1 : Int32)) e kI kE61)
set_option maxRecDepth 100000 in
def F_X4_openLevel_b61  (h : Hp) : Option (Unit × Hp) :=
  some ((), h)
set_option maxHeartbeats 4000000 in
set_option maxRecDepth 100000 in
theorem r_X4_openLevel_b61  (h : Hp) {x : Cx} {r : Unit} {hz : Hp} (e : F_X4_openLevel_b61  h = some (r, hz)) (hF : Fin9 M_X4_openLevel x none none hz) : V M_X4_openLevel x 2 61 [] [] h 0 0 := by
  unfold F_X4_openLevel_b61 at e
  cases e
  exact V_vret (pc := 61) dX4_openLevel_61 hF
set_option maxRecDepth 100000 in
def F_X4_openLevel_b0 (v0 : Nat) (v1 : Int32) (v2 : Nat) (v3 : Nat) (h : Hp) : Option (Unit × Hp) :=
  ob (iter (fun z : Int32 × Hp => F_X4_openLevel_l3 v0 v1 v2 v3 z.1 z.2) FU ((0 : Int32), h)) (fun h25 => F_X4_openLevel_b61 h25)
set_option maxHeartbeats 4000000 in
set_option maxRecDepth 100000 in
theorem r_X4_openLevel_b0 (v0 : Nat) (v1 : Int32) (v2 : Nat) (v3 : Nat) (h : Hp) {x : Cx} {r : Unit} {hz : Hp} (e : F_X4_openLevel_b0 v0 v1 v2 v3 h = some (r, hz)) (hF : Fin9 M_X4_openLevel x none none hz) : V M_X4_openLevel x 2 0 [(0, .ref v0), (1, .int v1), (2, .ref v2), (3, .ref v3)] [] h 0 0 := by
  unfold F_X4_openLevel_b0 at e
  refine V_iconst (pc := 0) (v := (0 : Int32)) dX4_openLevel_0 (by decide) ?_
  refine V_istore (pc := 1) (i := 4) (lv' := [(4, .int (0 : Int32)), (0, .ref v0), (1, .int v1), (2, .ref v2), (3, .ref v3)]) dX4_openLevel_1 (by decide) rfl ?_
  refine V_pick [1, 2, 3, 4, 0] rfl ?_
  obtain ⟨y26, g27, e⟩ := ob_some e
  refine iter_V (P := fun z : Int32 × Hp => V M_X4_openLevel x 2 3 [(0, .ref v0), (1, .int v1), (2, .ref v2), (3, .ref v3), (4, .int z.1)] [] z.2 0 0) (E := fun z : Hp => V M_X4_openLevel x 2 61 [] [] z 0 0) (fun z o e9 k1 k2 => r_X4_openLevel_l3 v0 v1 v2 v3 z.1 z.2 e9 (fun z hz9 => k1 z hz9) (fun z hz9 => k2 _ hz9)) _ _ _ g27 ?_
  clear g27
  obtain ⟨h25, rfl⟩ : ∃ q, q = y26 := ⟨_, rfl⟩
  replace e : (F_X4_openLevel_b61 h25) = some (r, hz) := e
  show V M_X4_openLevel x 2 61 [] [] h25 0 0
  exact V_pick [] rfl (r_X4_openLevel_b61 h25 e hF)
def F_X4_openLevel (v0 : Nat) (v1 : Int32) (v2 : Nat) (v3 : Nat) (h : Hp) : Option (Unit × Hp) := F_X4_openLevel_b0 v0 v1 v2 v3 h
theorem c_X4_openLevel {l : Launch} (v0 : Nat) (v1 : Int32) (v2 : Nat) (v3 : Nat) (h : Hp) {r : Unit} {hz : Hp} (e : F_X4_openLevel v0 v1 v2 v3 h = some (r, hz)) : Ct l yX4_openLevel M_X4_openLevel none 2 [.ref v0, .int v1, .ref v2, .ref v3] h 0 0 none hz :=
  Ct_of rfl rfl (fun q => by cases q) (Nat.le_of_ble_eq_true rfl) (fun x _ hF => V_pick [0, 1, 2, 3] rfl (r_X4_openLevel_b0 v0 v1 v2 v3 h e hF))

theorem dX12_emits_0 : decode cX12_emits 0 = .ok (.aload_n 0, 1) := by decide +kernel
theorem dX12_emits_1 : decode cX12_emits 1 = .ok (.getfield 13, 3) := by decide +kernel
theorem dX12_emits_4 : decode cX12_emits 4 = .ok (.sipush 4249, 3) := by decide +kernel
theorem dX12_emits_7 : decode cX12_emits 7 = .ok (.iconst 2, 1) := by decide +kernel
theorem dX12_emits_8 : decode cX12_emits 8 = .ok (.aload_n 0, 1) := by decide +kernel
theorem dX12_emits_9 : decode cX12_emits 9 = .ok (.getfield 173, 3) := by decide +kernel
theorem dX12_emits_12 : decode cX12_emits 12 = .ok (.imul, 1) := by decide +kernel
theorem dX12_emits_13 : decode cX12_emits 13 = .ok (.iadd, 1) := by decide +kernel
theorem dX12_emits_14 : decode cX12_emits 14 = .ok (.iload_n 1, 1) := by decide +kernel
theorem dX12_emits_15 : decode cX12_emits 15 = .ok (.iastore, 1) := by decide +kernel
theorem dX12_emits_16 : decode cX12_emits 16 = .ok (.aload_n 0, 1) := by decide +kernel
theorem dX12_emits_17 : decode cX12_emits 17 = .ok (.getfield 13, 3) := by decide +kernel
theorem dX12_emits_20 : decode cX12_emits 20 = .ok (.sipush 4249, 3) := by decide +kernel
theorem dX12_emits_23 : decode cX12_emits 23 = .ok (.iconst 2, 1) := by decide +kernel
theorem dX12_emits_24 : decode cX12_emits 24 = .ok (.aload_n 0, 1) := by decide +kernel
theorem dX12_emits_25 : decode cX12_emits 25 = .ok (.getfield 173, 3) := by decide +kernel
theorem dX12_emits_28 : decode cX12_emits 28 = .ok (.imul, 1) := by decide +kernel
theorem dX12_emits_29 : decode cX12_emits 29 = .ok (.iadd, 1) := by decide +kernel
theorem dX12_emits_30 : decode cX12_emits 30 = .ok (.iconst 1, 1) := by decide +kernel
theorem dX12_emits_31 : decode cX12_emits 31 = .ok (.iadd, 1) := by decide +kernel
theorem dX12_emits_32 : decode cX12_emits 32 = .ok (.iload_n 2, 1) := by decide +kernel
theorem dX12_emits_33 : decode cX12_emits 33 = .ok (.iastore, 1) := by decide +kernel
theorem dX12_emits_34 : decode cX12_emits 34 = .ok (.aload_n 0, 1) := by decide +kernel
theorem dX12_emits_35 : decode cX12_emits 35 = .ok (.dup, 1) := by decide +kernel
theorem dX12_emits_36 : decode cX12_emits 36 = .ok (.getfield 173, 3) := by decide +kernel
theorem dX12_emits_39 : decode cX12_emits 39 = .ok (.iconst 1, 1) := by decide +kernel
theorem dX12_emits_40 : decode cX12_emits 40 = .ok (.iadd, 1) := by decide +kernel
theorem dX12_emits_41 : decode cX12_emits 41 = .ok (.putfield 173, 3) := by decide +kernel
theorem dX12_emits_44 : decode cX12_emits 44 = .ok (.return_, 1) := by decide +kernel
set_option maxRecDepth 100000 in
def F_X12_emits_b0 (v0 : Nat) (v1 : Int32) (v2 : Int32) (h : Hp) : Option (Unit × Hp) :=
  gd (decide (kd h v0 = 11)) <| ob (zR h v0 1) fun q2 => gd (decide (kd h q2 = 13)) <| gd (ix ((4249 : Int32) + ((2 : Int32) * (zI h v0 13))) (zl h q2)) <| ob (zR (setI h q2 ((4249 : Int32) + ((2 : Int32) * (zI h v0 13))).toNatClampNeg v1) v0 1) fun q6 => gd (decide (kd (setI h q2 ((4249 : Int32) + ((2 : Int32) * (zI h v0 13))).toNatClampNeg v1) q6 = 13)) <| gd (ix (((4249 : Int32) + ((2 : Int32) * (zI (setI h q2 ((4249 : Int32) + ((2 : Int32) * (zI h v0 13))).toNatClampNeg v1) v0 13))) + (1 : Int32)) (zl (setI h q2 ((4249 : Int32) + ((2 : Int32) * (zI h v0 13))).toNatClampNeg v1) q6)) <| ob (some (setI (setI h q2 ((4249 : Int32) + ((2 : Int32) * (zI h v0 13))).toNatClampNeg v1) q6 (((4249 : Int32) + ((2 : Int32) * (zI (setI h q2 ((4249 : Int32) + ((2 : Int32) * (zI h v0 13))).toNatClampNeg v1) v0 13))) + (1 : Int32)).toNatClampNeg v2)) fun h10 => some ((), setI h10 v0 13 ((zI h10 v0 13) + (1 : Int32)))
set_option maxHeartbeats 4000000 in
set_option maxRecDepth 100000 in
theorem r_X12_emits_b0 (v0 : Nat) (v1 : Int32) (v2 : Int32) (h : Hp) {x : Cx} {r : Unit} {hz : Hp} (e : F_X12_emits_b0 v0 v1 v2 h = some (r, hz)) (hF : Fin9 M_X12_emits x none none hz) : V M_X12_emits x 0 0 [(0, .ref v0), (1, .int v1), (2, .int v2)] [] h 0 0 := by
  unfold F_X12_emits_b0 at e
  refine V_aload_n (pc := 0) (i := 0) dX12_emits_0 rfl rfl ?_
  obtain ⟨g1, e⟩ := gd_some e
  obtain ⟨q2, g3, e⟩ := ob_some e
  refine V_getR (pc := 1) (ci := 11) (k := 1) (b := q2) dX12_emits_1 fl_X12_13 rfl (of_decide_eq_true g1) g3 ?_
  refine V_sipush (pc := 4) (v := (4249 : Int32)) dX12_emits_4 (by decide) ?_
  refine V_iconst (pc := 7) (v := (2 : Int32)) dX12_emits_7 (by decide) ?_
  refine V_aload_n (pc := 8) (i := 0) dX12_emits_8 rfl rfl ?_
  refine V_getI (pc := 9) (ci := 11) (k := 13) dX12_emits_9 fl_X12_173 rfl (of_decide_eq_true g1) ?_
  refine V_imul (pc := 12) dX12_emits_12 ?_
  refine V_iadd (pc := 13) dX12_emits_13 ?_
  refine V_iload_n (pc := 14) (i := 1) dX12_emits_14 rfl rfl ?_
  obtain ⟨g4, e⟩ := gd_some e
  obtain ⟨g5, e⟩ := gd_some e
  refine V_iast (pc := 15) dX12_emits_15 (of_decide_eq_true g4) (ix_in g5) ?_
  refine V_aload_n (pc := 16) (i := 0) dX12_emits_16 rfl rfl ?_
  obtain ⟨q6, g7, e⟩ := ob_some e
  refine V_getR (pc := 17) (ci := 11) (k := 1) (b := q6) dX12_emits_17 fl_X12_13 rfl (kd_sI (of_decide_eq_true g1)) g7 ?_
  refine V_sipush (pc := 20) (v := (4249 : Int32)) dX12_emits_20 (by decide) ?_
  refine V_iconst (pc := 23) (v := (2 : Int32)) dX12_emits_23 (by decide) ?_
  refine V_aload_n (pc := 24) (i := 0) dX12_emits_24 rfl rfl ?_
  refine V_getI (pc := 25) (ci := 11) (k := 13) dX12_emits_25 fl_X12_173 rfl (kd_sI (of_decide_eq_true g1)) ?_
  refine V_imul (pc := 28) dX12_emits_28 ?_
  refine V_iadd (pc := 29) dX12_emits_29 ?_
  refine V_iconst (pc := 30) (v := (1 : Int32)) dX12_emits_30 (by decide) ?_
  refine V_iadd (pc := 31) dX12_emits_31 ?_
  refine V_iload_n (pc := 32) (i := 2) dX12_emits_32 rfl rfl ?_
  obtain ⟨g8, e⟩ := gd_some e
  obtain ⟨g9, e⟩ := gd_some e
  refine V_iast (pc := 33) dX12_emits_33 (of_decide_eq_true g8) (ix_in g9) ?_
  obtain ⟨h10, g11, e⟩ := ob_some e
  refine V_hp (Option.some.inj g11) ?_
  have k12 : kd h10 v0 = 11 := kd_eq (h := (setI (setI h q2 ((4249 : Int32) + ((2 : Int32) * (zI h v0 13))).toNatClampNeg v1) q6 (((4249 : Int32) + ((2 : Int32) * (zI (setI h q2 ((4249 : Int32) + ((2 : Int32) * (zI h v0 13))).toNatClampNeg v1) v0 13))) + (1 : Int32)).toNatClampNeg v2)) (Option.some.inj g11) (kd_sI (kd_sI (of_decide_eq_true g1)))
  have k13 : kd h10 q2 = 13 := kd_eq (h := (setI (setI h q2 ((4249 : Int32) + ((2 : Int32) * (zI h v0 13))).toNatClampNeg v1) q6 (((4249 : Int32) + ((2 : Int32) * (zI (setI h q2 ((4249 : Int32) + ((2 : Int32) * (zI h v0 13))).toNatClampNeg v1) v0 13))) + (1 : Int32)).toNatClampNeg v2)) (Option.some.inj g11) (kd_sI (kd_sI (of_decide_eq_true g4)))
  have k14 : kd h10 q6 = 13 := kd_eq (h := (setI (setI h q2 ((4249 : Int32) + ((2 : Int32) * (zI h v0 13))).toNatClampNeg v1) q6 (((4249 : Int32) + ((2 : Int32) * (zI (setI h q2 ((4249 : Int32) + ((2 : Int32) * (zI h v0 13))).toNatClampNeg v1) v0 13))) + (1 : Int32)).toNatClampNeg v2)) (Option.some.inj g11) (kd_sI (of_decide_eq_true g8))
  refine V_aload_n (pc := 34) (i := 0) dX12_emits_34 rfl rfl ?_
  refine V_dup (pc := 35) dX12_emits_35 rfl ?_
  refine V_getI (pc := 36) (ci := 11) (k := 13) dX12_emits_36 fl_X12_173 rfl k12 ?_
  refine V_iconst (pc := 39) (v := (1 : Int32)) dX12_emits_39 (by decide) ?_
  refine V_iadd (pc := 40) dX12_emits_40 ?_
  refine V_putI (pc := 41) (ci := 11) (k := 13) dX12_emits_41 fp_X12_173 rfl k12 ?_
  cases e
  exact V_vret (pc := 44) dX12_emits_44 hF
def F_X12_emits (v0 : Nat) (v1 : Int32) (v2 : Int32) (h : Hp) : Option (Unit × Hp) := F_X12_emits_b0 v0 v1 v2 h
theorem c_X12_emits {l : Launch} (v0 : Nat) (v1 : Int32) (v2 : Int32) (h : Hp) {r : Unit} {hz : Hp} (e : F_X12_emits v0 v1 v2 h = some (r, hz)) : Ct l yX12_emits M_X12_emits none 0 [.ref v0, .int v1, .int v2] h 0 0 none hz :=
  Ct_of rfl rfl (fun q => by cases q) (Nat.le_of_ble_eq_true rfl) (fun x _ hF => V_pick [0, 1, 2] rfl (r_X12_emits_b0 v0 v1 v2 h e hF))
theorem dX12_readPart_0 : decode cX12_readPart 0 = .ok (.aload_n 0, 1) := by decide +kernel
theorem dX12_readPart_1 : decode cX12_readPart 1 = .ok (.invokevirtual 108, 3) := by decide +kernel
theorem dX12_readPart_4 : decode cX12_readPart 4 = .ok (.aload_n 0, 1) := by decide +kernel
theorem dX12_readPart_5 : decode cX12_readPart 5 = .ok (.getfield 83, 3) := by decide +kernel
theorem dX12_readPart_8 : decode cX12_readPart 8 = .ok (.aload_n 0, 1) := by decide +kernel
theorem dX12_readPart_9 : decode cX12_readPart 9 = .ok (.getfield 93, 3) := by decide +kernel
theorem dX12_readPart_12 : decode cX12_readPart 12 = .ok (.if_icmp .ne 21, 3) := by decide +kernel
theorem dX12_readPart_15 : decode cX12_readPart 15 = .ok (.aload_n 0, 1) := by decide +kernel
theorem dX12_readPart_16 : decode cX12_readPart 16 = .ok (.iconst 0, 1) := by decide +kernel
theorem dX12_readPart_17 : decode cX12_readPart 17 = .ok (.ldc 162, 2) := by decide +kernel
theorem dX12_readPart_19 : decode cX12_readPart 19 = .ok (.invokevirtual 115, 3) := by decide +kernel
theorem dX12_readPart_22 : decode cX12_readPart 22 = .ok (.istore_n 1, 1) := by decide +kernel
theorem dX12_readPart_23 : decode cX12_readPart 23 = .ok (.aload_n 0, 1) := by decide +kernel
theorem dX12_readPart_24 : decode cX12_readPart 24 = .ok (.bipush 9, 2) := by decide +kernel
theorem dX12_readPart_26 : decode cX12_readPart 26 = .ok (.iload_n 1, 1) := by decide +kernel
theorem dX12_readPart_27 : decode cX12_readPart 27 = .ok (.invokevirtual 176, 3) := by decide +kernel
theorem dX12_readPart_30 : decode cX12_readPart 30 = .ok (.goto 89, 3) := by decide +kernel
theorem dX12_readPart_33 : decode cX12_readPart 33 = .ok (.aload_n 0, 1) := by decide +kernel
theorem dX12_readPart_34 : decode cX12_readPart 34 = .ok (.ldc 180, 2) := by decide +kernel
theorem dX12_readPart_36 : decode cX12_readPart 36 = .ok (.invokevirtual 111, 3) := by decide +kernel
theorem dX12_readPart_39 : decode cX12_readPart 39 = .ok (.ifCond .eq 7, 3) := by decide +kernel
theorem dX12_readPart_42 : decode cX12_readPart 42 = .ok (.iconst 0, 1) := by decide +kernel
theorem dX12_readPart_43 : decode cX12_readPart 43 = .ok (.goto 69, 3) := by decide +kernel
theorem dX12_readPart_46 : decode cX12_readPart 46 = .ok (.aload_n 0, 1) := by decide +kernel
theorem dX12_readPart_47 : decode cX12_readPart 47 = .ok (.ldc 182, 2) := by decide +kernel
theorem dX12_readPart_49 : decode cX12_readPart 49 = .ok (.invokevirtual 111, 3) := by decide +kernel
theorem dX12_readPart_52 : decode cX12_readPart 52 = .ok (.ifCond .eq 7, 3) := by decide +kernel
theorem dX12_readPart_55 : decode cX12_readPart 55 = .ok (.iconst 1, 1) := by decide +kernel
theorem dX12_readPart_56 : decode cX12_readPart 56 = .ok (.goto 56, 3) := by decide +kernel
theorem dX12_readPart_59 : decode cX12_readPart 59 = .ok (.aload_n 0, 1) := by decide +kernel
theorem dX12_readPart_60 : decode cX12_readPart 60 = .ok (.ldc 184, 2) := by decide +kernel
theorem dX12_readPart_62 : decode cX12_readPart 62 = .ok (.invokevirtual 111, 3) := by decide +kernel
theorem dX12_readPart_65 : decode cX12_readPart 65 = .ok (.ifCond .eq 7, 3) := by decide +kernel
theorem dX12_readPart_68 : decode cX12_readPart 68 = .ok (.iconst 2, 1) := by decide +kernel
theorem dX12_readPart_69 : decode cX12_readPart 69 = .ok (.goto 43, 3) := by decide +kernel
theorem dX12_readPart_72 : decode cX12_readPart 72 = .ok (.aload_n 0, 1) := by decide +kernel
theorem dX12_readPart_73 : decode cX12_readPart 73 = .ok (.ldc 185, 2) := by decide +kernel
theorem dX12_readPart_75 : decode cX12_readPart 75 = .ok (.invokevirtual 111, 3) := by decide +kernel
theorem dX12_readPart_78 : decode cX12_readPart 78 = .ok (.ifCond .eq 7, 3) := by decide +kernel
theorem dX12_readPart_81 : decode cX12_readPart 81 = .ok (.iconst 3, 1) := by decide +kernel
theorem dX12_readPart_82 : decode cX12_readPart 82 = .ok (.goto 30, 3) := by decide +kernel
theorem dX12_readPart_85 : decode cX12_readPart 85 = .ok (.aload_n 0, 1) := by decide +kernel
theorem dX12_readPart_86 : decode cX12_readPart 86 = .ok (.ldc 155, 2) := by decide +kernel
theorem dX12_readPart_88 : decode cX12_readPart 88 = .ok (.invokevirtual 111, 3) := by decide +kernel
theorem dX12_readPart_91 : decode cX12_readPart 91 = .ok (.ifCond .eq 7, 3) := by decide +kernel
theorem dX12_readPart_94 : decode cX12_readPart 94 = .ok (.iconst 4, 1) := by decide +kernel
theorem dX12_readPart_95 : decode cX12_readPart 95 = .ok (.goto 17, 3) := by decide +kernel
theorem dX12_readPart_98 : decode cX12_readPart 98 = .ok (.aload_n 0, 1) := by decide +kernel
theorem dX12_readPart_99 : decode cX12_readPart 99 = .ok (.ldc 134, 2) := by decide +kernel
theorem dX12_readPart_101 : decode cX12_readPart 101 = .ok (.invokevirtual 111, 3) := by decide +kernel
theorem dX12_readPart_104 : decode cX12_readPart 104 = .ok (.ifCond .eq 7, 3) := by decide +kernel
theorem dX12_readPart_107 : decode cX12_readPart 107 = .ok (.iconst 5, 1) := by decide +kernel
theorem dX12_readPart_108 : decode cX12_readPart 108 = .ok (.goto 4, 3) := by decide +kernel
theorem dX12_readPart_111 : decode cX12_readPart 111 = .ok (.iconst (-1), 1) := by decide +kernel
theorem dX12_readPart_112 : decode cX12_readPart 112 = .ok (.istore_n 1, 1) := by decide +kernel
theorem dX12_readPart_113 : decode cX12_readPart 113 = .ok (.aload_n 0, 1) := by decide +kernel
theorem dX12_readPart_114 : decode cX12_readPart 114 = .ok (.iload_n 1, 1) := by decide +kernel
theorem dX12_readPart_115 : decode cX12_readPart 115 = .ok (.iconst 0, 1) := by decide +kernel
theorem dX12_readPart_116 : decode cX12_readPart 116 = .ok (.invokevirtual 176, 3) := by decide +kernel
theorem dX12_readPart_119 : decode cX12_readPart 119 = .ok (.iload_n 1, 1) := by decide +kernel
theorem dX12_readPart_120 : decode cX12_readPart 120 = .ok (.ifCond .lt 7, 3) := by decide +kernel
theorem dX12_readPart_123 : decode cX12_readPart 123 = .ok (.iconst 1, 1) := by decide +kernel
theorem dX12_readPart_124 : decode cX12_readPart 124 = .ok (.goto 4, 3) := by decide +kernel
theorem dX12_readPart_127 : decode cX12_readPart 127 = .ok (.iconst 0, 1) := by decide +kernel
theorem dX12_readPart_128 : decode cX12_readPart 128 = .ok (.ireturn, 1) := by decide +kernel
set_option maxRecDepth 100000 in
def F_X12_readPart_b128 (t0 : Int32) (h : Hp) : Option (Int32 × Hp) :=
  gd (decide (t0 = 0 ∨ t0 = 1)) <| some (t0, h)
set_option maxHeartbeats 4000000 in
set_option maxRecDepth 100000 in
theorem r_X12_readPart_b128 (t0 : Int32) (h : Hp) {x : Cx} {r : Int32} {hz : Hp} (e : F_X12_readPart_b128 t0 h = some (r, hz)) (hF : Fin9 M_X12_readPart x (some .boolean) (some (.int r)) hz) : V M_X12_readPart x 5 128 [] [.int t0] h 0 0 := by
  unfold F_X12_readPart_b128 at e
  obtain ⟨g22, e⟩ := gd_some e
  cases e
  exact V_zret (pc := 128) dX12_readPart_128 (z01 (of_decide_eq_true g22)) hF
set_option maxRecDepth 100000 in
def F_X12_readPart_b119 (v1 : Int32) (h : Hp) : Option (Int32 × Hp) :=
  (if v1 < 0 then F_X12_readPart_b128 (0 : Int32) h else F_X12_readPart_b128 (1 : Int32) h)
set_option maxHeartbeats 4000000 in
set_option maxRecDepth 100000 in
theorem r_X12_readPart_b119 (v1 : Int32) (h : Hp) {x : Cx} {r : Int32} {hz : Hp} (e : F_X12_readPart_b119 v1 h = some (r, hz)) (hF : Fin9 M_X12_readPart x (some .boolean) (some (.int r)) hz) : V M_X12_readPart x 5 119 [(1, .int v1)] [] h 0 0 := by
  unfold F_X12_readPart_b119 at e
  refine V_iload_n (pc := 119) (i := 1) dX12_readPart_119 rfl rfl ?_
  refine V_if_lt (pc := 120) (tgt := 127) dX12_readPart_120 (by decide) (fun c23 => ?_) (fun c23 => ?_)
  · rw [if_pos c23] at e
    refine V_pick [] rfl ?_
    refine V_iconst (pc := 127) (v := (0 : Int32)) dX12_readPart_127 (by decide) ?_
    exact V_pick [] rfl (r_X12_readPart_b128 (0 : Int32) h e hF)
  · rw [if_neg c23] at e
    refine V_pick [] rfl ?_
    refine V_iconst (pc := 123) (v := (1 : Int32)) dX12_readPart_123 (by decide) ?_
    refine V_goto (pc := 124) (tgt := 128) dX12_readPart_124 (by decide) ?_
    exact V_pick [] rfl (r_X12_readPart_b128 (1 : Int32) h e hF)
set_option maxRecDepth 100000 in
def F_X12_readPart_b112 (v0 : Nat) (t0 : Int32) (h : Hp) : Option (Int32 × Hp) :=
  ob2 (F_X12_emits v0 t0 (0 : Int32) h) fun _ h20 => gd (decide (kd h v0 = 11)) <| F_X12_readPart_b119 t0 h20
set_option maxHeartbeats 4000000 in
set_option maxRecDepth 100000 in
theorem r_X12_readPart_b112 (v0 : Nat) (t0 : Int32) (h : Hp) {x : Cx} {r : Int32} {hz : Hp} (e : F_X12_readPart_b112 v0 t0 h = some (r, hz)) (hF : Fin9 M_X12_readPart x (some .boolean) (some (.int r)) hz) : V M_X12_readPart x 5 112 [(0, .ref v0)] [.int t0] h 0 0 := by
  unfold F_X12_readPart_b112 at e
  refine V_istore_n (pc := 112) (i := 1) (lv' := [(1, .int t0), (0, .ref v0)]) dX12_readPart_112 rfl (by decide) rfl ?_
  refine V_aload_n (pc := 113) (i := 0) dX12_readPart_113 rfl rfl ?_
  refine V_iload_n (pc := 114) (i := 1) dX12_readPart_114 rfl rfl ?_
  refine V_iconst (pc := 115) (v := (0 : Int32)) dX12_readPart_115 (by decide) ?_
  obtain ⟨r19, h20, g18, e⟩ := ob2_some e
  obtain ⟨g21, e⟩ := gd_some e
  refine V_callV (pc := 116) (bc := 0) (bs := 0) (mc := 0) (ms := 0) (st := []) (As := [.int t0, .int (0 : Int32)]) (a := v0) (h' := h20) (r := none) dX12_readPart_116 ml_X12_176 (ci := 11) rfl (of_decide_eq_true g21) rfl rfl (Nat.le_of_ble_eq_true rfl) (d' := 0) (by decide) (c_X12_emits (l := x.2.1) v0 t0 (0 : Int32) h g18) ?_
  exact V_pick [0] rfl (r_X12_readPart_b119 t0 h20 e hF)
set_option maxRecDepth 100000 in
def F_X12_readPart_b0 (v0 : Nat) (h : Hp) : Option (Int32 × Hp) :=
  ob2 (F_X12_letters v0 h) fun _ h3 => gd (decide (kd h v0 = 11)) <| gd (decide (kd h3 v0 = 11)) <| (if (zI h3 v0 7) = (zI h3 v0 9) then ob2 (F_X12_number v0 (0 : Int32) (99999 : Int32) h3) fun r31 h32 => ob2 (F_X12_emits v0 (9 : Int32) r31 h32) fun _ h35 => gd (decide (kd h32 v0 = 11)) <| F_X12_readPart_b119 r31 h35 else ob (F_X12_isWord v0 (57 : UInt32) h3) fun r7 => (if r7 = 0 then ob (F_X12_isWord v0 (58 : UInt32) h3) fun r9 => (if r9 = 0 then ob (F_X12_isWord v0 (59 : UInt32) h3) fun r11 => (if r11 = 0 then ob (F_X12_isWord v0 (60 : UInt32) h3) fun r13 => (if r13 = 0 then ob (F_X12_isWord v0 (48 : UInt32) h3) fun r15 => (if r15 = 0 then ob (F_X12_isWord v0 (42 : UInt32) h3) fun r17 => (if r17 = 0 then F_X12_readPart_b112 v0 (-1 : Int32) h3 else F_X12_readPart_b112 v0 (5 : Int32) h3) else F_X12_readPart_b112 v0 (4 : Int32) h3) else F_X12_readPart_b112 v0 (3 : Int32) h3) else F_X12_readPart_b112 v0 (2 : Int32) h3) else F_X12_readPart_b112 v0 (1 : Int32) h3) else F_X12_readPart_b112 v0 (0 : Int32) h3))
set_option maxHeartbeats 4000000 in
set_option maxRecDepth 100000 in
theorem r_X12_readPart_b0 (v0 : Nat) (h : Hp) {x : Cx} {r : Int32} {hz : Hp} (e : F_X12_readPart_b0 v0 h = some (r, hz)) (hF : Fin9 M_X12_readPart x (some .boolean) (some (.int r)) hz) : V M_X12_readPart x 5 0 [(0, .ref v0)] [] h 0 0 := by
  unfold F_X12_readPart_b0 at e
  refine V_aload_n (pc := 0) (i := 0) dX12_readPart_0 rfl rfl ?_
  obtain ⟨r2, h3, g1, e⟩ := ob2_some e
  obtain ⟨g4, e⟩ := gd_some e
  refine V_callV (pc := 1) (bc := 0) (bs := 0) (mc := 0) (ms := 0) (st := []) (As := []) (a := v0) (h' := h3) (r := none) dX12_readPart_1 ml_X12_108 (ci := 11) rfl (of_decide_eq_true g4) rfl rfl (Nat.le_of_ble_eq_true rfl) (d' := 2) (by decide) (c_X12_letters (l := x.2.1) v0 h g1) ?_
  refine V_aload_n (pc := 4) (i := 0) dX12_readPart_4 rfl rfl ?_
  obtain ⟨g5, e⟩ := gd_some e
  refine V_getI (pc := 5) (ci := 11) (k := 7) dX12_readPart_5 fl_X12_83 rfl (of_decide_eq_true g5) ?_
  refine V_aload_n (pc := 8) (i := 0) dX12_readPart_8 rfl rfl ?_
  refine V_getI (pc := 9) (ci := 11) (k := 9) dX12_readPart_9 fl_X12_93 rfl (of_decide_eq_true g5) ?_
  refine V_icmp_ne (pc := 12) (tgt := 33) dX12_readPart_12 (by decide) (fun c37 => ?_) (fun c37 => ?_)
  · rw [if_neg c37] at e
    refine V_pick [0] rfl ?_
    refine V_aload_n (pc := 33) (i := 0) dX12_readPart_33 rfl rfl ?_
    refine V_ldcS (pc := 34) (j := 57) (u := (57 : UInt32)) dX12_readPart_34 rfl (by decide) ?_
    obtain ⟨r7, g6, e⟩ := ob_some e
    refine V_callV (pc := 36) (bc := 0) (bs := 0) (mc := 0) (ms := 0) (st := []) (As := [.float (57 : UInt32)]) (a := v0) (h' := h3) (r := some (.int r7)) dX12_readPart_36 ml_X12_111 (ci := 11) rfl (of_decide_eq_true g5) rfl rfl (Nat.le_of_ble_eq_true rfl) (d' := 4) (by decide) (c_X12_isWord (l := x.2.1) v0 (57 : UInt32) h3 g6) ?_
    refine V_if_eq (pc := 39) (tgt := 46) dX12_readPart_39 (by decide) (fun c29 => ?_) (fun c29 => ?_)
    · rw [if_pos c29] at e
      refine V_pick [0] rfl ?_
      refine V_aload_n (pc := 46) (i := 0) dX12_readPart_46 rfl rfl ?_
      refine V_ldcS (pc := 47) (j := 58) (u := (58 : UInt32)) dX12_readPart_47 rfl (by decide) ?_
      obtain ⟨r9, g8, e⟩ := ob_some e
      refine V_callV (pc := 49) (bc := 0) (bs := 0) (mc := 0) (ms := 0) (st := []) (As := [.float (58 : UInt32)]) (a := v0) (h' := h3) (r := some (.int r9)) dX12_readPart_49 ml_X12_111 (ci := 11) rfl (of_decide_eq_true g5) rfl rfl (Nat.le_of_ble_eq_true rfl) (d' := 4) (by decide) (c_X12_isWord (l := x.2.1) v0 (58 : UInt32) h3 g8) ?_
      refine V_if_eq (pc := 52) (tgt := 59) dX12_readPart_52 (by decide) (fun c28 => ?_) (fun c28 => ?_)
      · rw [if_pos c28] at e
        refine V_pick [0] rfl ?_
        refine V_aload_n (pc := 59) (i := 0) dX12_readPart_59 rfl rfl ?_
        refine V_ldcS (pc := 60) (j := 59) (u := (59 : UInt32)) dX12_readPart_60 rfl (by decide) ?_
        obtain ⟨r11, g10, e⟩ := ob_some e
        refine V_callV (pc := 62) (bc := 0) (bs := 0) (mc := 0) (ms := 0) (st := []) (As := [.float (59 : UInt32)]) (a := v0) (h' := h3) (r := some (.int r11)) dX12_readPart_62 ml_X12_111 (ci := 11) rfl (of_decide_eq_true g5) rfl rfl (Nat.le_of_ble_eq_true rfl) (d' := 4) (by decide) (c_X12_isWord (l := x.2.1) v0 (59 : UInt32) h3 g10) ?_
        refine V_if_eq (pc := 65) (tgt := 72) dX12_readPart_65 (by decide) (fun c27 => ?_) (fun c27 => ?_)
        · rw [if_pos c27] at e
          refine V_pick [0] rfl ?_
          refine V_aload_n (pc := 72) (i := 0) dX12_readPart_72 rfl rfl ?_
          refine V_ldcS (pc := 73) (j := 60) (u := (60 : UInt32)) dX12_readPart_73 rfl (by decide) ?_
          obtain ⟨r13, g12, e⟩ := ob_some e
          refine V_callV (pc := 75) (bc := 0) (bs := 0) (mc := 0) (ms := 0) (st := []) (As := [.float (60 : UInt32)]) (a := v0) (h' := h3) (r := some (.int r13)) dX12_readPart_75 ml_X12_111 (ci := 11) rfl (of_decide_eq_true g5) rfl rfl (Nat.le_of_ble_eq_true rfl) (d' := 4) (by decide) (c_X12_isWord (l := x.2.1) v0 (60 : UInt32) h3 g12) ?_
          refine V_if_eq (pc := 78) (tgt := 85) dX12_readPart_78 (by decide) (fun c26 => ?_) (fun c26 => ?_)
          · rw [if_pos c26] at e
            refine V_pick [0] rfl ?_
            refine V_aload_n (pc := 85) (i := 0) dX12_readPart_85 rfl rfl ?_
            refine V_ldcS (pc := 86) (j := 48) (u := (48 : UInt32)) dX12_readPart_86 rfl (by decide) ?_
            obtain ⟨r15, g14, e⟩ := ob_some e
            refine V_callV (pc := 88) (bc := 0) (bs := 0) (mc := 0) (ms := 0) (st := []) (As := [.float (48 : UInt32)]) (a := v0) (h' := h3) (r := some (.int r15)) dX12_readPart_88 ml_X12_111 (ci := 11) rfl (of_decide_eq_true g5) rfl rfl (Nat.le_of_ble_eq_true rfl) (d' := 4) (by decide) (c_X12_isWord (l := x.2.1) v0 (48 : UInt32) h3 g14) ?_
            refine V_if_eq (pc := 91) (tgt := 98) dX12_readPart_91 (by decide) (fun c25 => ?_) (fun c25 => ?_)
            · rw [if_pos c25] at e
              refine V_pick [0] rfl ?_
              refine V_aload_n (pc := 98) (i := 0) dX12_readPart_98 rfl rfl ?_
              refine V_ldcS (pc := 99) (j := 42) (u := (42 : UInt32)) dX12_readPart_99 rfl (by decide) ?_
              obtain ⟨r17, g16, e⟩ := ob_some e
              refine V_callV (pc := 101) (bc := 0) (bs := 0) (mc := 0) (ms := 0) (st := []) (As := [.float (42 : UInt32)]) (a := v0) (h' := h3) (r := some (.int r17)) dX12_readPart_101 ml_X12_111 (ci := 11) rfl (of_decide_eq_true g5) rfl rfl (Nat.le_of_ble_eq_true rfl) (d' := 4) (by decide) (c_X12_isWord (l := x.2.1) v0 (42 : UInt32) h3 g16) ?_
              refine V_if_eq (pc := 104) (tgt := 111) dX12_readPart_104 (by decide) (fun c24 => ?_) (fun c24 => ?_)
              · rw [if_pos c24] at e
                refine V_pick [0] rfl ?_
                refine V_iconst (pc := 111) (v := (-1 : Int32)) dX12_readPart_111 (by decide) ?_
                exact V_pick [0] rfl (r_X12_readPart_b112 v0 (-1 : Int32) h3 e hF)
              · rw [if_neg c24] at e
                refine V_pick [0] rfl ?_
                refine V_iconst (pc := 107) (v := (5 : Int32)) dX12_readPart_107 (by decide) ?_
                refine V_goto (pc := 108) (tgt := 112) dX12_readPart_108 (by decide) ?_
                exact V_pick [0] rfl (r_X12_readPart_b112 v0 (5 : Int32) h3 e hF)
            · rw [if_neg c25] at e
              refine V_pick [0] rfl ?_
              refine V_iconst (pc := 94) (v := (4 : Int32)) dX12_readPart_94 (by decide) ?_
              refine V_goto (pc := 95) (tgt := 112) dX12_readPart_95 (by decide) ?_
              exact V_pick [0] rfl (r_X12_readPart_b112 v0 (4 : Int32) h3 e hF)
          · rw [if_neg c26] at e
            refine V_pick [0] rfl ?_
            refine V_iconst (pc := 81) (v := (3 : Int32)) dX12_readPart_81 (by decide) ?_
            refine V_goto (pc := 82) (tgt := 112) dX12_readPart_82 (by decide) ?_
            exact V_pick [0] rfl (r_X12_readPart_b112 v0 (3 : Int32) h3 e hF)
        · rw [if_neg c27] at e
          refine V_pick [0] rfl ?_
          refine V_iconst (pc := 68) (v := (2 : Int32)) dX12_readPart_68 (by decide) ?_
          refine V_goto (pc := 69) (tgt := 112) dX12_readPart_69 (by decide) ?_
          exact V_pick [0] rfl (r_X12_readPart_b112 v0 (2 : Int32) h3 e hF)
      · rw [if_neg c28] at e
        refine V_pick [0] rfl ?_
        refine V_iconst (pc := 55) (v := (1 : Int32)) dX12_readPart_55 (by decide) ?_
        refine V_goto (pc := 56) (tgt := 112) dX12_readPart_56 (by decide) ?_
        exact V_pick [0] rfl (r_X12_readPart_b112 v0 (1 : Int32) h3 e hF)
    · rw [if_neg c29] at e
      refine V_pick [0] rfl ?_
      refine V_iconst (pc := 42) (v := (0 : Int32)) dX12_readPart_42 (by decide) ?_
      refine V_goto (pc := 43) (tgt := 112) dX12_readPart_43 (by decide) ?_
      exact V_pick [0] rfl (r_X12_readPart_b112 v0 (0 : Int32) h3 e hF)
  · rw [if_pos c37] at e
    refine V_pick [0] rfl ?_
    refine V_aload_n (pc := 15) (i := 0) dX12_readPart_15 rfl rfl ?_
    refine V_iconst (pc := 16) (v := (0 : Int32)) dX12_readPart_16 (by decide) ?_
    refine V_ldc (pc := 17) (v := (99999 : Int32)) dX12_readPart_17 (wk_X12_162) ?_
    obtain ⟨r31, h32, g30, e⟩ := ob2_some e
    refine V_callV (pc := 19) (bc := 0) (bs := 0) (mc := 0) (ms := 0) (st := []) (As := [.int (0 : Int32), .int (99999 : Int32)]) (a := v0) (h' := h32) (r := some (.int r31)) dX12_readPart_19 ml_X12_115 (ci := 11) rfl (of_decide_eq_true g5) rfl rfl (Nat.le_of_ble_eq_true rfl) (d' := 2) (by decide) (c_X12_number (l := x.2.1) v0 (0 : Int32) (99999 : Int32) h3 g30) ?_
    refine V_istore_n (pc := 22) (i := 1) (lv' := [(1, .int r31), (0, .ref v0)]) dX12_readPart_22 rfl (by decide) rfl ?_
    refine V_aload_n (pc := 23) (i := 0) dX12_readPart_23 rfl rfl ?_
    refine V_bipush (pc := 24) (v := (9 : Int32)) dX12_readPart_24 (by decide) ?_
    refine V_iload_n (pc := 26) (i := 1) dX12_readPart_26 rfl rfl ?_
    obtain ⟨r34, h35, g33, e⟩ := ob2_some e
    obtain ⟨g36, e⟩ := gd_some e
    refine V_callV (pc := 27) (bc := 0) (bs := 0) (mc := 0) (ms := 0) (st := []) (As := [.int (9 : Int32), .int r31]) (a := v0) (h' := h35) (r := none) dX12_readPart_27 ml_X12_176 (ci := 11) rfl (of_decide_eq_true g36) rfl rfl (Nat.le_of_ble_eq_true rfl) (d' := 0) (by decide) (c_X12_emits (l := x.2.1) v0 (9 : Int32) r31 h32 g33) ?_
    refine V_goto (pc := 30) (tgt := 119) dX12_readPart_30 (by decide) ?_
    exact V_pick [0] rfl (r_X12_readPart_b119 r31 h35 e hF)
def F_X12_readPart (v0 : Nat) (h : Hp) : Option (Int32 × Hp) := F_X12_readPart_b0 v0 h
theorem c_X12_readPart {l : Launch} (v0 : Nat) (h : Hp) {r : Int32} {hz : Hp} (e : F_X12_readPart v0 h = some (r, hz)) : Ct l yX12_readPart M_X12_readPart (some .boolean) 5 [.ref v0] h 0 0 (some (.int r)) hz :=
  Ct_of rfl rfl (fun q => by cases q) (Nat.le_of_ble_eq_true rfl) (fun x _ hF => V_pick [0] rfl (r_X12_readPart_b0 v0 h e hF))
theorem dX12_readSum_0 : decode cX12_readSum 0 = .ok (.aload_n 0, 1) := by decide +kernel
theorem dX12_readSum_1 : decode cX12_readSum 1 = .ok (.invokevirtual 187, 3) := by decide +kernel
theorem dX12_readSum_4 : decode cX12_readSum 4 = .ok (.ifCond .ne 5, 3) := by decide +kernel
theorem dX12_readSum_7 : decode cX12_readSum 7 = .ok (.iconst 0, 1) := by decide +kernel
theorem dX12_readSum_8 : decode cX12_readSum 8 = .ok (.ireturn, 1) := by decide +kernel
theorem dX12_readSum_9 : decode cX12_readSum 9 = .ok (.aload_n 0, 1) := by decide +kernel
theorem dX12_readSum_10 : decode cX12_readSum 10 = .ok (.bipush 43, 2) := by decide +kernel
theorem dX12_readSum_12 : decode cX12_readSum 12 = .ok (.invokevirtual 190, 3) := by decide +kernel
theorem dX12_readSum_15 : decode cX12_readSum 15 = .ok (.ifCond .eq 22, 3) := by decide +kernel
theorem dX12_readSum_18 : decode cX12_readSum 18 = .ok (.aload_n 0, 1) := by decide +kernel
theorem dX12_readSum_19 : decode cX12_readSum 19 = .ok (.invokevirtual 187, 3) := by decide +kernel
theorem dX12_readSum_22 : decode cX12_readSum 22 = .ok (.ifCond .ne 5, 3) := by decide +kernel
theorem dX12_readSum_25 : decode cX12_readSum 25 = .ok (.iconst 0, 1) := by decide +kernel
theorem dX12_readSum_26 : decode cX12_readSum 26 = .ok (.ireturn, 1) := by decide +kernel
theorem dX12_readSum_27 : decode cX12_readSum 27 = .ok (.aload_n 0, 1) := by decide +kernel
theorem dX12_readSum_28 : decode cX12_readSum 28 = .ok (.bipush 10, 2) := by decide +kernel
theorem dX12_readSum_30 : decode cX12_readSum 30 = .ok (.iconst 0, 1) := by decide +kernel
theorem dX12_readSum_31 : decode cX12_readSum 31 = .ok (.invokevirtual 176, 3) := by decide +kernel
theorem dX12_readSum_34 : decode cX12_readSum 34 = .ok (.goto (-25), 3) := by decide +kernel
theorem dX12_readSum_37 : decode cX12_readSum 37 = .ok (.iconst 1, 1) := by decide +kernel
theorem dX12_readSum_38 : decode cX12_readSum 38 = .ok (.ireturn, 1) := by decide +kernel
set_option maxRecDepth 100000 in
def F_X12_readSum_l9 (v0 : Nat) (h : Hp) : Option (Hp ⊕ (Hp ⊕ Hp)) :=
  ob2 (F_X12_sign v0 (43 : Int32) h) fun r6 h7 => gd (decide (kd h v0 = 11)) <| (if r6 = 0 then some (.inr (.inl h7)) else ob2 (F_X12_readPart v0 h7) fun r10 h11 => gd (decide (kd h7 v0 = 11)) <| (if r10 = 0 then some (.inr (.inr h11)) else ob2 (F_X12_emits v0 (10 : Int32) (0 : Int32) h11) fun _ h15 => gd (decide (kd h11 v0 = 11)) <| some (.inl h15)))
set_option maxHeartbeats 4000000 in
set_option maxRecDepth 100000 in
theorem r_X12_readSum_l9 (v0 : Nat) (h : Hp) {x : Cx} {o : (Hp ⊕ (Hp ⊕ Hp))} (e : F_X12_readSum_l9 v0 h = some o) (kI : ∀ z, o = .inl z → V M_X12_readSum x 6 9 [(0, .ref v0)] [] z 0 0) (kE37 : ∀ z : Hp, o = .inr (.inl z) → V M_X12_readSum x 6 37 [] [] z 0 0) (kE25 : ∀ z : Hp, o = .inr (.inr z) → V M_X12_readSum x 6 25 [] [] z 0 0) : V M_X12_readSum x 6 9 [(0, .ref v0)] [] h 0 0 := by
  unfold F_X12_readSum_l9 at e
  refine V_aload_n (pc := 9) (i := 0) dX12_readSum_9 rfl rfl ?_
  refine V_bipush (pc := 10) (v := (43 : Int32)) dX12_readSum_10 (by decide) ?_
  obtain ⟨r6, h7, g5, e⟩ := ob2_some e
  obtain ⟨g8, e⟩ := gd_some e
  refine V_callV (pc := 12) (bc := 0) (bs := 0) (mc := 0) (ms := 0) (st := []) (As := [.int (43 : Int32)]) (a := v0) (h' := h7) (r := some (.int r6)) dX12_readSum_12 ml_X12_190 (ci := 11) rfl (of_decide_eq_true g8) rfl rfl (Nat.le_of_ble_eq_true rfl) (d' := 2) (by decide) (c_X12_sign (l := x.2.1) v0 (43 : Int32) h g5) ?_
  refine V_if_eq (pc := 15) (tgt := 37) dX12_readSum_15 (by decide) (fun c18 => ?_) (fun c18 => ?_)
  · rw [if_pos c18] at e
    cases e
    exact V_pick [] rfl (kE37 h7 rfl)
  · rw [if_neg c18] at e
    refine V_pick [0] rfl ?_
    refine V_aload_n (pc := 18) (i := 0) dX12_readSum_18 rfl rfl ?_
    obtain ⟨r10, h11, g9, e⟩ := ob2_some e
    obtain ⟨g12, e⟩ := gd_some e
    refine V_callV (pc := 19) (bc := 0) (bs := 0) (mc := 0) (ms := 0) (st := []) (As := []) (a := v0) (h' := h11) (r := some (.int r10)) dX12_readSum_19 ml_X12_187 (ci := 11) rfl (of_decide_eq_true g12) rfl rfl (Nat.le_of_ble_eq_true rfl) (d' := 5) (by decide) (c_X12_readPart (l := x.2.1) v0 h7 g9) ?_
    refine V_if_ne (pc := 22) (tgt := 27) dX12_readSum_22 (by decide) (fun c17 => ?_) (fun c17 => ?_)
    · rw [if_neg c17] at e
      refine V_pick [0] rfl ?_
      refine V_aload_n (pc := 27) (i := 0) dX12_readSum_27 rfl rfl ?_
      refine V_bipush (pc := 28) (v := (10 : Int32)) dX12_readSum_28 (by decide) ?_
      refine V_iconst (pc := 30) (v := (0 : Int32)) dX12_readSum_30 (by decide) ?_
      obtain ⟨r14, h15, g13, e⟩ := ob2_some e
      obtain ⟨g16, e⟩ := gd_some e
      refine V_callV (pc := 31) (bc := 0) (bs := 0) (mc := 0) (ms := 0) (st := []) (As := [.int (10 : Int32), .int (0 : Int32)]) (a := v0) (h' := h15) (r := none) dX12_readSum_31 ml_X12_176 (ci := 11) rfl (of_decide_eq_true g16) rfl rfl (Nat.le_of_ble_eq_true rfl) (d' := 0) (by decide) (c_X12_emits (l := x.2.1) v0 (10 : Int32) (0 : Int32) h11 g13) ?_
      refine V_goto (pc := 34) (tgt := 9) dX12_readSum_34 (by decide) ?_
      cases e
      exact V_pick [0] rfl (kI h15 rfl)
    · rw [if_pos c17] at e
      cases e
      exact V_pick [] rfl (kE25 h11 rfl)
set_option maxRecDepth 100000 in
def F_X12_readSum_b0 (v0 : Nat) (h : Hp) : Option (Int32 × Hp) :=
  ob2 (F_X12_readPart v0 h) fun r2 h3 => gd (decide (kd h v0 = 11)) <| (if r2 = 0 then some ((0 : Int32), h3) else ob (iter (fun z : Hp => F_X12_readSum_l9 v0 z) FU h3) (fun z => sm z (fun h19 => some ((1 : Int32), h19)) (fun h20 => some ((0 : Int32), h20))))
set_option maxHeartbeats 4000000 in
set_option maxRecDepth 100000 in
theorem r_X12_readSum_b0 (v0 : Nat) (h : Hp) {x : Cx} {r : Int32} {hz : Hp} (e : F_X12_readSum_b0 v0 h = some (r, hz)) (hF : Fin9 M_X12_readSum x (some .boolean) (some (.int r)) hz) : V M_X12_readSum x 6 0 [(0, .ref v0)] [] h 0 0 := by
  unfold F_X12_readSum_b0 at e
  refine V_aload_n (pc := 0) (i := 0) dX12_readSum_0 rfl rfl ?_
  obtain ⟨r2, h3, g1, e⟩ := ob2_some e
  obtain ⟨g4, e⟩ := gd_some e
  refine V_callV (pc := 1) (bc := 0) (bs := 0) (mc := 0) (ms := 0) (st := []) (As := []) (a := v0) (h' := h3) (r := some (.int r2)) dX12_readSum_1 ml_X12_187 (ci := 11) rfl (of_decide_eq_true g4) rfl rfl (Nat.le_of_ble_eq_true rfl) (d' := 5) (by decide) (c_X12_readPart (l := x.2.1) v0 h g1) ?_
  refine V_if_ne (pc := 4) (tgt := 9) dX12_readSum_4 (by decide) (fun c25 => ?_) (fun c25 => ?_)
  · rw [if_neg c25] at e
    refine V_pick [0] rfl ?_
    obtain ⟨y21, g22, e⟩ := ob_some e
    refine iter_V (P := fun z : Hp => V M_X12_readSum x 6 9 [(0, .ref v0)] [] z 0 0) (E := fun z => Sum.elim (fun z : Hp => V M_X12_readSum x 6 37 [] [] z 0 0) (fun z : Hp => V M_X12_readSum x 6 25 [] [] z 0 0) z) (fun z o e9 k1 k2 => r_X12_readSum_l9 v0 z e9 (fun z hz9 => k1 z hz9) (fun z hz9 => k2 _ hz9) (fun z hz9 => k2 _ hz9)) _ _ _ g22 ?_
    clear g22
    rcases y21 with y23 | y24
    · obtain ⟨h19, rfl⟩ : ∃ q, q = y23 := ⟨_, rfl⟩
      replace e : (some ((1 : Int32), h19)) = some (r, hz) := e
      show V M_X12_readSum x 6 37 [] [] h19 0 0
      refine V_iconst (pc := 37) (v := (1 : Int32)) dX12_readSum_37 (by decide) ?_
      cases e
      exact V_zret (pc := 38) dX12_readSum_38 rfl hF
    · obtain ⟨h20, rfl⟩ : ∃ q, q = y24 := ⟨_, rfl⟩
      replace e : (some ((0 : Int32), h20)) = some (r, hz) := e
      show V M_X12_readSum x 6 25 [] [] h20 0 0
      refine V_iconst (pc := 25) (v := (0 : Int32)) dX12_readSum_25 (by decide) ?_
      cases e
      exact V_zret (pc := 26) dX12_readSum_26 rfl hF
  · rw [if_pos c25] at e
    refine V_pick [] rfl ?_
    refine V_iconst (pc := 7) (v := (0 : Int32)) dX12_readSum_7 (by decide) ?_
    cases e
    exact V_zret (pc := 8) dX12_readSum_8 rfl hF
def F_X12_readSum (v0 : Nat) (h : Hp) : Option (Int32 × Hp) := F_X12_readSum_b0 v0 h
theorem c_X12_readSum {l : Launch} (v0 : Nat) (h : Hp) {r : Int32} {hz : Hp} (e : F_X12_readSum v0 h = some (r, hz)) : Ct l yX12_readSum M_X12_readSum (some .boolean) 6 [.ref v0] h 0 0 (some (.int r)) hz :=
  Ct_of rfl rfl (fun q => by cases q) (Nat.le_of_ble_eq_true rfl) (fun x _ hF => V_pick [0] rfl (r_X12_readSum_b0 v0 h e hF))
theorem dX12_readAtom_0 : decode cX12_readAtom 0 = .ok (.aload_n 0, 1) := by decide +kernel
theorem dX12_readAtom_1 : decode cX12_readAtom 1 = .ok (.bipush 40, 2) := by decide +kernel
theorem dX12_readAtom_3 : decode cX12_readAtom 3 = .ok (.invokevirtual 190, 3) := by decide +kernel
theorem dX12_readAtom_6 : decode cX12_readAtom 6 = .ok (.ifCond .eq 50, 3) := by decide +kernel
theorem dX12_readAtom_9 : decode cX12_readAtom 9 = .ok (.aload_n 0, 1) := by decide +kernel
theorem dX12_readAtom_10 : decode cX12_readAtom 10 = .ok (.getfield 193, 3) := by decide +kernel
theorem dX12_readAtom_13 : decode cX12_readAtom 13 = .ok (.bipush 6, 2) := by decide +kernel
theorem dX12_readAtom_15 : decode cX12_readAtom 15 = .ok (.if_icmp .ne 5, 3) := by decide +kernel
theorem dX12_readAtom_18 : decode cX12_readAtom 18 = .ok (.iconst 0, 1) := by decide +kernel
theorem dX12_readAtom_19 : decode cX12_readAtom 19 = .ok (.ireturn, 1) := by decide +kernel
theorem dX12_readAtom_20 : decode cX12_readAtom 20 = .ok (.aload_n 0, 1) := by decide +kernel
theorem dX12_readAtom_21 : decode cX12_readAtom 21 = .ok (.dup, 1) := by decide +kernel
theorem dX12_readAtom_22 : decode cX12_readAtom 22 = .ok (.getfield 193, 3) := by decide +kernel
theorem dX12_readAtom_25 : decode cX12_readAtom 25 = .ok (.iconst 1, 1) := by decide +kernel
theorem dX12_readAtom_26 : decode cX12_readAtom 26 = .ok (.iadd, 1) := by decide +kernel
theorem dX12_readAtom_27 : decode cX12_readAtom 27 = .ok (.putfield 193, 3) := by decide +kernel
theorem dX12_readAtom_30 : decode cX12_readAtom 30 = .ok (.aload_n 0, 1) := by decide +kernel
theorem dX12_readAtom_31 : decode cX12_readAtom 31 = .ok (.invokevirtual 196, 3) := by decide +kernel
theorem dX12_readAtom_34 : decode cX12_readAtom 34 = .ok (.ifCond .ne 5, 3) := by decide +kernel
theorem dX12_readAtom_37 : decode cX12_readAtom 37 = .ok (.iconst 0, 1) := by decide +kernel
theorem dX12_readAtom_38 : decode cX12_readAtom 38 = .ok (.ireturn, 1) := by decide +kernel
theorem dX12_readAtom_39 : decode cX12_readAtom 39 = .ok (.aload_n 0, 1) := by decide +kernel
theorem dX12_readAtom_40 : decode cX12_readAtom 40 = .ok (.dup, 1) := by decide +kernel
theorem dX12_readAtom_41 : decode cX12_readAtom 41 = .ok (.getfield 193, 3) := by decide +kernel
theorem dX12_readAtom_44 : decode cX12_readAtom 44 = .ok (.iconst 1, 1) := by decide +kernel
theorem dX12_readAtom_45 : decode cX12_readAtom 45 = .ok (.isub, 1) := by decide +kernel
theorem dX12_readAtom_46 : decode cX12_readAtom 46 = .ok (.putfield 193, 3) := by decide +kernel
theorem dX12_readAtom_49 : decode cX12_readAtom 49 = .ok (.aload_n 0, 1) := by decide +kernel
theorem dX12_readAtom_50 : decode cX12_readAtom 50 = .ok (.bipush 41, 2) := by decide +kernel
theorem dX12_readAtom_52 : decode cX12_readAtom 52 = .ok (.invokevirtual 190, 3) := by decide +kernel
theorem dX12_readAtom_55 : decode cX12_readAtom 55 = .ok (.ireturn, 1) := by decide +kernel
theorem dX12_readAtom_56 : decode cX12_readAtom 56 = .ok (.aload_n 0, 1) := by decide +kernel
theorem dX12_readAtom_57 : decode cX12_readAtom 57 = .ok (.ldc 199, 2) := by decide +kernel
theorem dX12_readAtom_59 : decode cX12_readAtom 59 = .ok (.invokevirtual 201, 3) := by decide +kernel
theorem dX12_readAtom_62 : decode cX12_readAtom 62 = .ok (.ifCond .eq 52, 3) := by decide +kernel
theorem dX12_readAtom_65 : decode cX12_readAtom 65 = .ok (.aload_n 0, 1) := by decide +kernel
theorem dX12_readAtom_66 : decode cX12_readAtom 66 = .ok (.getfield 193, 3) := by decide +kernel
theorem dX12_readAtom_69 : decode cX12_readAtom 69 = .ok (.bipush 6, 2) := by decide +kernel
theorem dX12_readAtom_71 : decode cX12_readAtom 71 = .ok (.if_icmp .ne 5, 3) := by decide +kernel
theorem dX12_readAtom_74 : decode cX12_readAtom 74 = .ok (.iconst 0, 1) := by decide +kernel
theorem dX12_readAtom_75 : decode cX12_readAtom 75 = .ok (.ireturn, 1) := by decide +kernel
theorem dX12_readAtom_76 : decode cX12_readAtom 76 = .ok (.aload_n 0, 1) := by decide +kernel
theorem dX12_readAtom_77 : decode cX12_readAtom 77 = .ok (.dup, 1) := by decide +kernel
theorem dX12_readAtom_78 : decode cX12_readAtom 78 = .ok (.getfield 193, 3) := by decide +kernel
theorem dX12_readAtom_81 : decode cX12_readAtom 81 = .ok (.iconst 1, 1) := by decide +kernel
theorem dX12_readAtom_82 : decode cX12_readAtom 82 = .ok (.iadd, 1) := by decide +kernel
theorem dX12_readAtom_83 : decode cX12_readAtom 83 = .ok (.putfield 193, 3) := by decide +kernel
theorem dX12_readAtom_86 : decode cX12_readAtom 86 = .ok (.aload_n 0, 1) := by decide +kernel
theorem dX12_readAtom_87 : decode cX12_readAtom 87 = .ok (.invokevirtual 204, 3) := by decide +kernel
theorem dX12_readAtom_90 : decode cX12_readAtom 90 = .ok (.ifCond .ne 5, 3) := by decide +kernel
theorem dX12_readAtom_93 : decode cX12_readAtom 93 = .ok (.iconst 0, 1) := by decide +kernel
theorem dX12_readAtom_94 : decode cX12_readAtom 94 = .ok (.ireturn, 1) := by decide +kernel
theorem dX12_readAtom_95 : decode cX12_readAtom 95 = .ok (.aload_n 0, 1) := by decide +kernel
theorem dX12_readAtom_96 : decode cX12_readAtom 96 = .ok (.dup, 1) := by decide +kernel
theorem dX12_readAtom_97 : decode cX12_readAtom 97 = .ok (.getfield 193, 3) := by decide +kernel
theorem dX12_readAtom_100 : decode cX12_readAtom 100 = .ok (.iconst 1, 1) := by decide +kernel
theorem dX12_readAtom_101 : decode cX12_readAtom 101 = .ok (.isub, 1) := by decide +kernel
theorem dX12_readAtom_102 : decode cX12_readAtom 102 = .ok (.putfield 193, 3) := by decide +kernel
theorem dX12_readAtom_105 : decode cX12_readAtom 105 = .ok (.aload_n 0, 1) := by decide +kernel
theorem dX12_readAtom_106 : decode cX12_readAtom 106 = .ok (.bipush 13, 2) := by decide +kernel
theorem dX12_readAtom_108 : decode cX12_readAtom 108 = .ok (.iconst 0, 1) := by decide +kernel
theorem dX12_readAtom_109 : decode cX12_readAtom 109 = .ok (.invokevirtual 176, 3) := by decide +kernel
theorem dX12_readAtom_112 : decode cX12_readAtom 112 = .ok (.iconst 1, 1) := by decide +kernel
theorem dX12_readAtom_113 : decode cX12_readAtom 113 = .ok (.ireturn, 1) := by decide +kernel
theorem dX12_readAtom_114 : decode cX12_readAtom 114 = .ok (.aload_n 0, 1) := by decide +kernel
theorem dX12_readAtom_115 : decode cX12_readAtom 115 = .ok (.ldc 207, 2) := by decide +kernel
theorem dX12_readAtom_117 : decode cX12_readAtom 117 = .ok (.invokevirtual 201, 3) := by decide +kernel
theorem dX12_readAtom_120 : decode cX12_readAtom 120 = .ok (.istore_n 1, 1) := by decide +kernel
theorem dX12_readAtom_121 : decode cX12_readAtom 121 = .ok (.iload_n 1, 1) := by decide +kernel
theorem dX12_readAtom_122 : decode cX12_readAtom 122 = .ok (.ifCond .ne 12, 3) := by decide +kernel
theorem dX12_readAtom_125 : decode cX12_readAtom 125 = .ok (.aload_n 0, 1) := by decide +kernel
theorem dX12_readAtom_126 : decode cX12_readAtom 126 = .ok (.ldc 150, 2) := by decide +kernel
theorem dX12_readAtom_128 : decode cX12_readAtom 128 = .ok (.invokevirtual 201, 3) := by decide +kernel
theorem dX12_readAtom_131 : decode cX12_readAtom 131 = .ok (.ifCond .eq 21, 3) := by decide +kernel
theorem dX12_readAtom_134 : decode cX12_readAtom 134 = .ok (.aload_n 0, 1) := by decide +kernel
theorem dX12_readAtom_135 : decode cX12_readAtom 135 = .ok (.iload_n 1, 1) := by decide +kernel
theorem dX12_readAtom_136 : decode cX12_readAtom 136 = .ok (.ifCond .eq 8, 3) := by decide +kernel
theorem dX12_readAtom_139 : decode cX12_readAtom 139 = .ok (.bipush 6, 2) := by decide +kernel
theorem dX12_readAtom_141 : decode cX12_readAtom 141 = .ok (.goto 5, 3) := by decide +kernel
theorem dX12_readAtom_144 : decode cX12_readAtom 144 = .ok (.bipush 7, 2) := by decide +kernel
theorem dX12_readAtom_146 : decode cX12_readAtom 146 = .ok (.iconst 0, 1) := by decide +kernel
theorem dX12_readAtom_147 : decode cX12_readAtom 147 = .ok (.invokevirtual 176, 3) := by decide +kernel
theorem dX12_readAtom_150 : decode cX12_readAtom 150 = .ok (.iconst 1, 1) := by decide +kernel
theorem dX12_readAtom_151 : decode cX12_readAtom 151 = .ok (.ireturn, 1) := by decide +kernel
theorem dX12_readAtom_152 : decode cX12_readAtom 152 = .ok (.aload_n 0, 1) := by decide +kernel
theorem dX12_readAtom_153 : decode cX12_readAtom 153 = .ok (.ldc 209, 2) := by decide +kernel
theorem dX12_readAtom_155 : decode cX12_readAtom 155 = .ok (.invokevirtual 201, 3) := by decide +kernel
theorem dX12_readAtom_158 : decode cX12_readAtom 158 = .ok (.ifCond .eq 27, 3) := by decide +kernel
theorem dX12_readAtom_161 : decode cX12_readAtom 161 = .ok (.aload_n 0, 1) := by decide +kernel
theorem dX12_readAtom_162 : decode cX12_readAtom 162 = .ok (.iconst 0, 1) := by decide +kernel
theorem dX12_readAtom_163 : decode cX12_readAtom 163 = .ok (.iconst 4, 1) := by decide +kernel
theorem dX12_readAtom_164 : decode cX12_readAtom 164 = .ok (.invokevirtual 115, 3) := by decide +kernel
theorem dX12_readAtom_167 : decode cX12_readAtom 167 = .ok (.istore_n 2, 1) := by decide +kernel
theorem dX12_readAtom_168 : decode cX12_readAtom 168 = .ok (.aload_n 0, 1) := by decide +kernel
theorem dX12_readAtom_169 : decode cX12_readAtom 169 = .ok (.bipush 8, 2) := by decide +kernel
theorem dX12_readAtom_171 : decode cX12_readAtom 171 = .ok (.iload_n 2, 1) := by decide +kernel
theorem dX12_readAtom_172 : decode cX12_readAtom 172 = .ok (.invokevirtual 176, 3) := by decide +kernel
theorem dX12_readAtom_175 : decode cX12_readAtom 175 = .ok (.iload_n 2, 1) := by decide +kernel
theorem dX12_readAtom_176 : decode cX12_readAtom 176 = .ok (.ifCond .lt 7, 3) := by decide +kernel
theorem dX12_readAtom_179 : decode cX12_readAtom 179 = .ok (.iconst 1, 1) := by decide +kernel
theorem dX12_readAtom_180 : decode cX12_readAtom 180 = .ok (.goto 4, 3) := by decide +kernel
theorem dX12_readAtom_183 : decode cX12_readAtom 183 = .ok (.iconst 0, 1) := by decide +kernel
theorem dX12_readAtom_184 : decode cX12_readAtom 184 = .ok (.ireturn, 1) := by decide +kernel
theorem dX12_readAtom_185 : decode cX12_readAtom 185 = .ok (.aload_n 0, 1) := by decide +kernel
theorem dX12_readAtom_186 : decode cX12_readAtom 186 = .ok (.invokevirtual 211, 3) := by decide +kernel
theorem dX12_readAtom_189 : decode cX12_readAtom 189 = .ok (.ifCond .ne 5, 3) := by decide +kernel
theorem dX12_readAtom_192 : decode cX12_readAtom 192 = .ok (.iconst 0, 1) := by decide +kernel
theorem dX12_readAtom_193 : decode cX12_readAtom 193 = .ok (.ireturn, 1) := by decide +kernel
theorem dX12_readAtom_194 : decode cX12_readAtom 194 = .ok (.aload_n 0, 1) := by decide +kernel
theorem dX12_readAtom_195 : decode cX12_readAtom 195 = .ok (.bipush 60, 2) := by decide +kernel
theorem dX12_readAtom_197 : decode cX12_readAtom 197 = .ok (.invokevirtual 190, 3) := by decide +kernel
theorem dX12_readAtom_200 : decode cX12_readAtom 200 = .ok (.istore_n 2, 1) := by decide +kernel
theorem dX12_readAtom_201 : decode cX12_readAtom 201 = .ok (.iload_n 2, 1) := by decide +kernel
theorem dX12_readAtom_202 : decode cX12_readAtom 202 = .ok (.ifCond .ne 12, 3) := by decide +kernel
theorem dX12_readAtom_205 : decode cX12_readAtom 205 = .ok (.aload_n 0, 1) := by decide +kernel
theorem dX12_readAtom_206 : decode cX12_readAtom 206 = .ok (.bipush 62, 2) := by decide +kernel
theorem dX12_readAtom_208 : decode cX12_readAtom 208 = .ok (.invokevirtual 190, 3) := by decide +kernel
theorem dX12_readAtom_211 : decode cX12_readAtom 211 = .ok (.ifCond .eq 10, 3) := by decide +kernel
theorem dX12_readAtom_214 : decode cX12_readAtom 214 = .ok (.aload_n 0, 1) := by decide +kernel
theorem dX12_readAtom_215 : decode cX12_readAtom 215 = .ok (.invokevirtual 211, 3) := by decide +kernel
theorem dX12_readAtom_218 : decode cX12_readAtom 218 = .ok (.ifCond .ne 5, 3) := by decide +kernel
theorem dX12_readAtom_221 : decode cX12_readAtom 221 = .ok (.iconst 0, 1) := by decide +kernel
theorem dX12_readAtom_222 : decode cX12_readAtom 222 = .ok (.ireturn, 1) := by decide +kernel
theorem dX12_readAtom_223 : decode cX12_readAtom 223 = .ok (.aload_n 0, 1) := by decide +kernel
theorem dX12_readAtom_224 : decode cX12_readAtom 224 = .ok (.iload_n 2, 1) := by decide +kernel
theorem dX12_readAtom_225 : decode cX12_readAtom 225 = .ok (.ifCond .eq 8, 3) := by decide +kernel
theorem dX12_readAtom_228 : decode cX12_readAtom 228 = .ok (.bipush 11, 2) := by decide +kernel
theorem dX12_readAtom_230 : decode cX12_readAtom 230 = .ok (.goto 5, 3) := by decide +kernel
theorem dX12_readAtom_233 : decode cX12_readAtom 233 = .ok (.bipush 12, 2) := by decide +kernel
theorem dX12_readAtom_235 : decode cX12_readAtom 235 = .ok (.iconst 0, 1) := by decide +kernel
theorem dX12_readAtom_236 : decode cX12_readAtom 236 = .ok (.invokevirtual 176, 3) := by decide +kernel
theorem dX12_readAtom_239 : decode cX12_readAtom 239 = .ok (.iconst 1, 1) := by decide +kernel
theorem dX12_readAtom_240 : decode cX12_readAtom 240 = .ok (.ireturn, 1) := by decide +kernel
set_option maxRecDepth 100000 in
def F_X12_readAtom_b146 (rc : Nat → Nat → Hp → Option (Int32 × Hp)) (t0 : Nat) (t1 : Int32) (h : Hp) : Option (Int32 × Hp) :=
  ob2 (F_X12_emits t0 t1 (0 : Int32) h) fun _ h15 => gd (decide (kd h t0 = 11)) <| some ((1 : Int32), h15)
set_option maxHeartbeats 4000000 in
set_option maxRecDepth 100000 in
theorem r_X12_readAtom_b146 (rc : Nat → Nat → Hp → Option (Int32 × Hp)) (t0 : Nat) (t1 : Int32) (h : Hp) {x : Cx} {r : Int32} {hz : Hp} (e : F_X12_readAtom_b146 rc t0 t1 h = some (r, hz)) {D9 : Nat} (hD9 : 20 ≤ D9) (hrc0 : ∀ (a0 : Nat) (h9 : Hp) (r9 : Int32) (z9 : Hp), rc 0 a0 h9 = some (r9, z9) → Ct x.2.1 yX12_readAtom M_X12_readAtom (some .boolean) D9 [.ref a0] h9 0 0 (some (.int r9)) z9) (hrc1 : ∀ (a0 : Nat) (h9 : Hp) (r9 : Int32) (z9 : Hp), rc 1 a0 h9 = some (r9, z9) → Ct x.2.1 yX12_readAllOf M_X12_readAllOf (some .boolean) D9 [.ref a0] h9 0 0 (some (.int r9)) z9) (hrc2 : ∀ (a0 : Nat) (h9 : Hp) (r9 : Int32) (z9 : Hp), rc 2 a0 h9 = some (r9, z9) → Ct x.2.1 yX12_readCond M_X12_readCond (some .boolean) D9 [.ref a0] h9 0 0 (some (.int r9)) z9) (hF : Fin9 M_X12_readAtom x (some .boolean) (some (.int r)) hz) : V M_X12_readAtom x (D9 + 1) 146 [] [.int t1, .ref t0] h 0 0 := by
  unfold F_X12_readAtom_b146 at e
  refine V_iconst (pc := 146) (v := (0 : Int32)) dX12_readAtom_146 (by decide) ?_
  obtain ⟨r14, h15, g13, e⟩ := ob2_some e
  obtain ⟨g16, e⟩ := gd_some e
  refine V_callV (pc := 147) (bc := 0) (bs := 0) (mc := 0) (ms := 0) (st := []) (As := [.int t1, .int (0 : Int32)]) (a := t0) (h' := h15) (r := none) dX12_readAtom_147 ml_X12_176 (ci := 11) rfl (of_decide_eq_true g16) rfl rfl (Nat.le_of_ble_eq_true rfl) (d' := 0) (by omega) (c_X12_emits (l := x.2.1) t0 t1 (0 : Int32) h g13) ?_
  refine V_iconst (pc := 150) (v := (1 : Int32)) dX12_readAtom_150 (by decide) ?_
  cases e
  exact V_zret (pc := 151) dX12_readAtom_151 rfl hF
set_option maxRecDepth 100000 in
def F_X12_readAtom_b134 (rc : Nat → Nat → Hp → Option (Int32 × Hp)) (v0 : Nat) (v1 : Int32) (h : Hp) : Option (Int32 × Hp) :=
  (if v1 = 0 then F_X12_readAtom_b146 rc v0 (7 : Int32) h else F_X12_readAtom_b146 rc v0 (6 : Int32) h)
set_option maxHeartbeats 4000000 in
set_option maxRecDepth 100000 in
theorem r_X12_readAtom_b134 (rc : Nat → Nat → Hp → Option (Int32 × Hp)) (v0 : Nat) (v1 : Int32) (h : Hp) {x : Cx} {r : Int32} {hz : Hp} (e : F_X12_readAtom_b134 rc v0 v1 h = some (r, hz)) {D9 : Nat} (hD9 : 20 ≤ D9) (hrc0 : ∀ (a0 : Nat) (h9 : Hp) (r9 : Int32) (z9 : Hp), rc 0 a0 h9 = some (r9, z9) → Ct x.2.1 yX12_readAtom M_X12_readAtom (some .boolean) D9 [.ref a0] h9 0 0 (some (.int r9)) z9) (hrc1 : ∀ (a0 : Nat) (h9 : Hp) (r9 : Int32) (z9 : Hp), rc 1 a0 h9 = some (r9, z9) → Ct x.2.1 yX12_readAllOf M_X12_readAllOf (some .boolean) D9 [.ref a0] h9 0 0 (some (.int r9)) z9) (hrc2 : ∀ (a0 : Nat) (h9 : Hp) (r9 : Int32) (z9 : Hp), rc 2 a0 h9 = some (r9, z9) → Ct x.2.1 yX12_readCond M_X12_readCond (some .boolean) D9 [.ref a0] h9 0 0 (some (.int r9)) z9) (hF : Fin9 M_X12_readAtom x (some .boolean) (some (.int r)) hz) : V M_X12_readAtom x (D9 + 1) 134 [(0, .ref v0), (1, .int v1)] [] h 0 0 := by
  unfold F_X12_readAtom_b134 at e
  refine V_aload_n (pc := 134) (i := 0) dX12_readAtom_134 rfl rfl ?_
  refine V_iload_n (pc := 135) (i := 1) dX12_readAtom_135 rfl rfl ?_
  refine V_if_eq (pc := 136) (tgt := 144) dX12_readAtom_136 (by decide) (fun c17 => ?_) (fun c17 => ?_)
  · rw [if_pos c17] at e
    refine V_pick [] rfl ?_
    refine V_bipush (pc := 144) (v := (7 : Int32)) dX12_readAtom_144 (by decide) ?_
    exact V_pick [] rfl (r_X12_readAtom_b146 rc v0 (7 : Int32) h e hD9 hrc0 hrc1 hrc2 hF)
  · rw [if_neg c17] at e
    refine V_pick [] rfl ?_
    refine V_bipush (pc := 139) (v := (6 : Int32)) dX12_readAtom_139 (by decide) ?_
    refine V_goto (pc := 141) (tgt := 146) dX12_readAtom_141 (by decide) ?_
    exact V_pick [] rfl (r_X12_readAtom_b146 rc v0 (6 : Int32) h e hD9 hrc0 hrc1 hrc2 hF)
set_option maxRecDepth 100000 in
def F_X12_readAtom_b235 (rc : Nat → Nat → Hp → Option (Int32 × Hp)) (t0 : Nat) (t1 : Int32) (h : Hp) : Option (Int32 × Hp) :=
  ob2 (F_X12_emits t0 t1 (0 : Int32) h) fun _ h40 => gd (decide (kd h t0 = 11)) <| some ((1 : Int32), h40)
set_option maxHeartbeats 4000000 in
set_option maxRecDepth 100000 in
theorem r_X12_readAtom_b235 (rc : Nat → Nat → Hp → Option (Int32 × Hp)) (t0 : Nat) (t1 : Int32) (h : Hp) {x : Cx} {r : Int32} {hz : Hp} (e : F_X12_readAtom_b235 rc t0 t1 h = some (r, hz)) {D9 : Nat} (hD9 : 20 ≤ D9) (hrc0 : ∀ (a0 : Nat) (h9 : Hp) (r9 : Int32) (z9 : Hp), rc 0 a0 h9 = some (r9, z9) → Ct x.2.1 yX12_readAtom M_X12_readAtom (some .boolean) D9 [.ref a0] h9 0 0 (some (.int r9)) z9) (hrc1 : ∀ (a0 : Nat) (h9 : Hp) (r9 : Int32) (z9 : Hp), rc 1 a0 h9 = some (r9, z9) → Ct x.2.1 yX12_readAllOf M_X12_readAllOf (some .boolean) D9 [.ref a0] h9 0 0 (some (.int r9)) z9) (hrc2 : ∀ (a0 : Nat) (h9 : Hp) (r9 : Int32) (z9 : Hp), rc 2 a0 h9 = some (r9, z9) → Ct x.2.1 yX12_readCond M_X12_readCond (some .boolean) D9 [.ref a0] h9 0 0 (some (.int r9)) z9) (hF : Fin9 M_X12_readAtom x (some .boolean) (some (.int r)) hz) : V M_X12_readAtom x (D9 + 1) 235 [] [.int t1, .ref t0] h 0 0 := by
  unfold F_X12_readAtom_b235 at e
  refine V_iconst (pc := 235) (v := (0 : Int32)) dX12_readAtom_235 (by decide) ?_
  obtain ⟨r39, h40, g38, e⟩ := ob2_some e
  obtain ⟨g41, e⟩ := gd_some e
  refine V_callV (pc := 236) (bc := 0) (bs := 0) (mc := 0) (ms := 0) (st := []) (As := [.int t1, .int (0 : Int32)]) (a := t0) (h' := h40) (r := none) dX12_readAtom_236 ml_X12_176 (ci := 11) rfl (of_decide_eq_true g41) rfl rfl (Nat.le_of_ble_eq_true rfl) (d' := 0) (by omega) (c_X12_emits (l := x.2.1) t0 t1 (0 : Int32) h g38) ?_
  refine V_iconst (pc := 239) (v := (1 : Int32)) dX12_readAtom_239 (by decide) ?_
  cases e
  exact V_zret (pc := 240) dX12_readAtom_240 rfl hF
set_option maxRecDepth 100000 in
def F_X12_readAtom_b221 (rc : Nat → Nat → Hp → Option (Int32 × Hp))  (h : Hp) : Option (Int32 × Hp) :=
  some ((0 : Int32), h)
set_option maxHeartbeats 4000000 in
set_option maxRecDepth 100000 in
theorem r_X12_readAtom_b221 (rc : Nat → Nat → Hp → Option (Int32 × Hp))  (h : Hp) {x : Cx} {r : Int32} {hz : Hp} (e : F_X12_readAtom_b221 rc  h = some (r, hz)) {D9 : Nat} (hD9 : 20 ≤ D9) (hrc0 : ∀ (a0 : Nat) (h9 : Hp) (r9 : Int32) (z9 : Hp), rc 0 a0 h9 = some (r9, z9) → Ct x.2.1 yX12_readAtom M_X12_readAtom (some .boolean) D9 [.ref a0] h9 0 0 (some (.int r9)) z9) (hrc1 : ∀ (a0 : Nat) (h9 : Hp) (r9 : Int32) (z9 : Hp), rc 1 a0 h9 = some (r9, z9) → Ct x.2.1 yX12_readAllOf M_X12_readAllOf (some .boolean) D9 [.ref a0] h9 0 0 (some (.int r9)) z9) (hrc2 : ∀ (a0 : Nat) (h9 : Hp) (r9 : Int32) (z9 : Hp), rc 2 a0 h9 = some (r9, z9) → Ct x.2.1 yX12_readCond M_X12_readCond (some .boolean) D9 [.ref a0] h9 0 0 (some (.int r9)) z9) (hF : Fin9 M_X12_readAtom x (some .boolean) (some (.int r)) hz) : V M_X12_readAtom x (D9 + 1) 221 [] [] h 0 0 := by
  unfold F_X12_readAtom_b221 at e
  refine V_iconst (pc := 221) (v := (0 : Int32)) dX12_readAtom_221 (by decide) ?_
  cases e
  exact V_zret (pc := 222) dX12_readAtom_222 rfl hF
set_option maxRecDepth 100000 in
def F_X12_readAtom_b214 (rc : Nat → Nat → Hp → Option (Int32 × Hp)) (v0 : Nat) (v2 : Int32) (h : Hp) : Option (Int32 × Hp) :=
  ob2 (F_X12_readSum v0 h) fun r35 h36 => gd (decide (kd h v0 = 11)) <| (if r35 = 0 then F_X12_readAtom_b221 rc h36 else (if v2 = 0 then F_X12_readAtom_b235 rc v0 (12 : Int32) h36 else F_X12_readAtom_b235 rc v0 (11 : Int32) h36))
set_option maxHeartbeats 4000000 in
set_option maxRecDepth 100000 in
theorem r_X12_readAtom_b214 (rc : Nat → Nat → Hp → Option (Int32 × Hp)) (v0 : Nat) (v2 : Int32) (h : Hp) {x : Cx} {r : Int32} {hz : Hp} (e : F_X12_readAtom_b214 rc v0 v2 h = some (r, hz)) {D9 : Nat} (hD9 : 20 ≤ D9) (hrc0 : ∀ (a0 : Nat) (h9 : Hp) (r9 : Int32) (z9 : Hp), rc 0 a0 h9 = some (r9, z9) → Ct x.2.1 yX12_readAtom M_X12_readAtom (some .boolean) D9 [.ref a0] h9 0 0 (some (.int r9)) z9) (hrc1 : ∀ (a0 : Nat) (h9 : Hp) (r9 : Int32) (z9 : Hp), rc 1 a0 h9 = some (r9, z9) → Ct x.2.1 yX12_readAllOf M_X12_readAllOf (some .boolean) D9 [.ref a0] h9 0 0 (some (.int r9)) z9) (hrc2 : ∀ (a0 : Nat) (h9 : Hp) (r9 : Int32) (z9 : Hp), rc 2 a0 h9 = some (r9, z9) → Ct x.2.1 yX12_readCond M_X12_readCond (some .boolean) D9 [.ref a0] h9 0 0 (some (.int r9)) z9) (hF : Fin9 M_X12_readAtom x (some .boolean) (some (.int r)) hz) : V M_X12_readAtom x (D9 + 1) 214 [(0, .ref v0), (2, .int v2)] [] h 0 0 := by
  unfold F_X12_readAtom_b214 at e
  refine V_aload_n (pc := 214) (i := 0) dX12_readAtom_214 rfl rfl ?_
  obtain ⟨r35, h36, g34, e⟩ := ob2_some e
  obtain ⟨g37, e⟩ := gd_some e
  refine V_callV (pc := 215) (bc := 0) (bs := 0) (mc := 0) (ms := 0) (st := []) (As := []) (a := v0) (h' := h36) (r := some (.int r35)) dX12_readAtom_215 ml_X12_211 (ci := 11) rfl (of_decide_eq_true g37) rfl rfl (Nat.le_of_ble_eq_true rfl) (d' := 6) (by omega) (c_X12_readSum (l := x.2.1) v0 h g34) ?_
  refine V_if_ne (pc := 218) (tgt := 223) dX12_readAtom_218 (by decide) (fun c43 => ?_) (fun c43 => ?_)
  · rw [if_neg c43] at e
    refine V_pick [0, 1] rfl ?_
    refine V_aload_n (pc := 223) (i := 0) dX12_readAtom_223 rfl rfl ?_
    refine V_iload_n (pc := 224) (i := 2) dX12_readAtom_224 rfl rfl ?_
    refine V_if_eq (pc := 225) (tgt := 233) dX12_readAtom_225 (by decide) (fun c42 => ?_) (fun c42 => ?_)
    · rw [if_pos c42] at e
      refine V_pick [] rfl ?_
      refine V_bipush (pc := 233) (v := (12 : Int32)) dX12_readAtom_233 (by decide) ?_
      exact V_pick [] rfl (r_X12_readAtom_b235 rc v0 (12 : Int32) h36 e hD9 hrc0 hrc1 hrc2 hF)
    · rw [if_neg c42] at e
      refine V_pick [] rfl ?_
      refine V_bipush (pc := 228) (v := (11 : Int32)) dX12_readAtom_228 (by decide) ?_
      refine V_goto (pc := 230) (tgt := 235) dX12_readAtom_230 (by decide) ?_
      exact V_pick [] rfl (r_X12_readAtom_b235 rc v0 (11 : Int32) h36 e hD9 hrc0 hrc1 hrc2 hF)
  · rw [if_pos c43] at e
    exact V_pick [] rfl (r_X12_readAtom_b221 rc h36 e hD9 hrc0 hrc1 hrc2 hF)
set_option maxRecDepth 100000 in
def F_X12_readAtom_b184 (rc : Nat → Nat → Hp → Option (Int32 × Hp)) (t0 : Int32) (h : Hp) : Option (Int32 × Hp) :=
  gd (decide (t0 = 0 ∨ t0 = 1)) <| some (t0, h)
set_option maxHeartbeats 4000000 in
set_option maxRecDepth 100000 in
theorem r_X12_readAtom_b184 (rc : Nat → Nat → Hp → Option (Int32 × Hp)) (t0 : Int32) (h : Hp) {x : Cx} {r : Int32} {hz : Hp} (e : F_X12_readAtom_b184 rc t0 h = some (r, hz)) {D9 : Nat} (hD9 : 20 ≤ D9) (hrc0 : ∀ (a0 : Nat) (h9 : Hp) (r9 : Int32) (z9 : Hp), rc 0 a0 h9 = some (r9, z9) → Ct x.2.1 yX12_readAtom M_X12_readAtom (some .boolean) D9 [.ref a0] h9 0 0 (some (.int r9)) z9) (hrc1 : ∀ (a0 : Nat) (h9 : Hp) (r9 : Int32) (z9 : Hp), rc 1 a0 h9 = some (r9, z9) → Ct x.2.1 yX12_readAllOf M_X12_readAllOf (some .boolean) D9 [.ref a0] h9 0 0 (some (.int r9)) z9) (hrc2 : ∀ (a0 : Nat) (h9 : Hp) (r9 : Int32) (z9 : Hp), rc 2 a0 h9 = some (r9, z9) → Ct x.2.1 yX12_readCond M_X12_readCond (some .boolean) D9 [.ref a0] h9 0 0 (some (.int r9)) z9) (hF : Fin9 M_X12_readAtom x (some .boolean) (some (.int r)) hz) : V M_X12_readAtom x (D9 + 1) 184 [] [.int t0] h 0 0 := by
  unfold F_X12_readAtom_b184 at e
  obtain ⟨g59, e⟩ := gd_some e
  cases e
  exact V_zret (pc := 184) dX12_readAtom_184 (z01 (of_decide_eq_true g59)) hF
set_option maxRecDepth 100000 in
def F_X12_readAtom_b0 (rc : Nat → Nat → Hp → Option (Int32 × Hp)) (v0 : Nat) (h : Hp) : Option (Int32 × Hp) :=
  ob2 (F_X12_sign v0 (40 : Int32) h) fun r2 h3 => gd (decide (kd h v0 = 11)) <| (if r2 = 0 then ob2 (F_X12_passes v0 (54 : UInt32) h3) fun r6 h7 => gd (decide (kd h3 v0 = 11)) <| (if r6 = 0 then ob2 (F_X12_passes v0 (55 : UInt32) h7) fun r10 h11 => gd (decide (kd h7 v0 = 11)) <| (if r10 = 0 then ob2 (F_X12_passes v0 (47 : UInt32) h11) fun r19 h20 => gd (decide (kd h11 v0 = 11)) <| (if r19 = 0 then ob2 (F_X12_passes v0 (56 : UInt32) h20) fun r23 h24 => gd (decide (kd h20 v0 = 11)) <| (if r23 = 0 then ob2 (F_X12_readSum v0 h24) fun r27 h28 => gd (decide (kd h24 v0 = 11)) <| (if r27 = 0 then some ((0 : Int32), h28) else ob2 (F_X12_sign v0 (60 : Int32) h28) fun r31 h32 => gd (decide (kd h28 v0 = 11)) <| (if r31 = 0 then ob2 (F_X12_sign v0 (62 : Int32) h32) fun r45 h46 => gd (decide (kd h32 v0 = 11)) <| (if r45 = 0 then F_X12_readAtom_b221 rc h46 else F_X12_readAtom_b214 rc v0 r31 h46) else F_X12_readAtom_b214 rc v0 r31 h32)) else ob2 (F_X12_number v0 (0 : Int32) (4 : Int32) h24) fun r52 h53 => gd (decide (kd h24 v0 = 11)) <| ob2 (F_X12_emits v0 (8 : Int32) r52 h53) fun _ h57 => gd (decide (kd h53 v0 = 11)) <| (if r52 < 0 then F_X12_readAtom_b184 rc (0 : Int32) h57 else F_X12_readAtom_b184 rc (1 : Int32) h57)) else F_X12_readAtom_b134 rc v0 r10 h20) else F_X12_readAtom_b134 rc v0 r10 h11) else gd (decide (kd h7 v0 = 11)) <| (if (zI h7 v0 10) = (6 : Int32) then some ((0 : Int32), h7) else ob2 (rc 0 v0 (setI h7 v0 10 ((zI h7 v0 10) + (1 : Int32)))) fun r66 h67 => (if r66 = 0 then some ((0 : Int32), h67) else gd (decide (kd h67 v0 = 11)) <| ob2 (F_X12_emits v0 (13 : Int32) (0 : Int32) (setI h67 v0 10 ((zI h67 v0 10) - (1 : Int32)))) fun _ h71 => some ((1 : Int32), h71)))) else gd (decide (kd h3 v0 = 11)) <| (if (zI h3 v0 10) = (6 : Int32) then some ((0 : Int32), h3) else ob2 (rc 2 v0 (setI h3 v0 10 ((zI h3 v0 10) + (1 : Int32)))) fun r77 h78 => (if r77 = 0 then some ((0 : Int32), h78) else gd (decide (kd h78 v0 = 11)) <| ob2 (F_X12_sign v0 (41 : Int32) (setI h78 v0 10 ((zI h78 v0 10) - (1 : Int32)))) fun r81 h82 => gd (decide (r81 = 0 ∨ r81 = 1)) <| some (r81, h82))))
set_option maxHeartbeats 4000000 in
set_option maxRecDepth 100000 in
theorem r_X12_readAtom_b0 (rc : Nat → Nat → Hp → Option (Int32 × Hp)) (v0 : Nat) (h : Hp) {x : Cx} {r : Int32} {hz : Hp} (e : F_X12_readAtom_b0 rc v0 h = some (r, hz)) {D9 : Nat} (hD9 : 20 ≤ D9) (hrc0 : ∀ (a0 : Nat) (h9 : Hp) (r9 : Int32) (z9 : Hp), rc 0 a0 h9 = some (r9, z9) → Ct x.2.1 yX12_readAtom M_X12_readAtom (some .boolean) D9 [.ref a0] h9 0 0 (some (.int r9)) z9) (hrc1 : ∀ (a0 : Nat) (h9 : Hp) (r9 : Int32) (z9 : Hp), rc 1 a0 h9 = some (r9, z9) → Ct x.2.1 yX12_readAllOf M_X12_readAllOf (some .boolean) D9 [.ref a0] h9 0 0 (some (.int r9)) z9) (hrc2 : ∀ (a0 : Nat) (h9 : Hp) (r9 : Int32) (z9 : Hp), rc 2 a0 h9 = some (r9, z9) → Ct x.2.1 yX12_readCond M_X12_readCond (some .boolean) D9 [.ref a0] h9 0 0 (some (.int r9)) z9) (hF : Fin9 M_X12_readAtom x (some .boolean) (some (.int r)) hz) : V M_X12_readAtom x (D9 + 1) 0 [(0, .ref v0)] [] h 0 0 := by
  unfold F_X12_readAtom_b0 at e
  refine V_aload_n (pc := 0) (i := 0) dX12_readAtom_0 rfl rfl ?_
  refine V_bipush (pc := 1) (v := (40 : Int32)) dX12_readAtom_1 (by decide) ?_
  obtain ⟨r2, h3, g1, e⟩ := ob2_some e
  obtain ⟨g4, e⟩ := gd_some e
  refine V_callV (pc := 3) (bc := 0) (bs := 0) (mc := 0) (ms := 0) (st := []) (As := [.int (40 : Int32)]) (a := v0) (h' := h3) (r := some (.int r2)) dX12_readAtom_3 ml_X12_190 (ci := 11) rfl (of_decide_eq_true g4) rfl rfl (Nat.le_of_ble_eq_true rfl) (d' := 2) (by omega) (c_X12_sign (l := x.2.1) v0 (40 : Int32) h g1) ?_
  refine V_if_eq (pc := 6) (tgt := 56) dX12_readAtom_6 (by decide) (fun c86 => ?_) (fun c86 => ?_)
  · rw [if_pos c86] at e
    refine V_pick [0] rfl ?_
    refine V_aload_n (pc := 56) (i := 0) dX12_readAtom_56 rfl rfl ?_
    refine V_ldcS (pc := 57) (j := 54) (u := (54 : UInt32)) dX12_readAtom_57 rfl (by decide) ?_
    obtain ⟨r6, h7, g5, e⟩ := ob2_some e
    obtain ⟨g8, e⟩ := gd_some e
    refine V_callV (pc := 59) (bc := 0) (bs := 0) (mc := 0) (ms := 0) (st := []) (As := [.float (54 : UInt32)]) (a := v0) (h' := h7) (r := some (.int r6)) dX12_readAtom_59 ml_X12_201 (ci := 11) rfl (of_decide_eq_true g8) rfl rfl (Nat.le_of_ble_eq_true rfl) (d' := 5) (by omega) (c_X12_passes (l := x.2.1) v0 (54 : UInt32) h3 g5) ?_
    refine V_if_eq (pc := 62) (tgt := 114) dX12_readAtom_62 (by decide) (fun c74 => ?_) (fun c74 => ?_)
    · rw [if_pos c74] at e
      refine V_pick [0] rfl ?_
      refine V_aload_n (pc := 114) (i := 0) dX12_readAtom_114 rfl rfl ?_
      refine V_ldcS (pc := 115) (j := 55) (u := (55 : UInt32)) dX12_readAtom_115 rfl (by decide) ?_
      obtain ⟨r10, h11, g9, e⟩ := ob2_some e
      obtain ⟨g12, e⟩ := gd_some e
      refine V_callV (pc := 117) (bc := 0) (bs := 0) (mc := 0) (ms := 0) (st := []) (As := [.float (55 : UInt32)]) (a := v0) (h' := h11) (r := some (.int r10)) dX12_readAtom_117 ml_X12_201 (ci := 11) rfl (of_decide_eq_true g12) rfl rfl (Nat.le_of_ble_eq_true rfl) (d' := 5) (by omega) (c_X12_passes (l := x.2.1) v0 (55 : UInt32) h7 g9) ?_
      refine V_istore_n (pc := 120) (i := 1) (lv' := [(1, .int r10), (0, .ref v0)]) dX12_readAtom_120 rfl (by decide) rfl ?_
      refine V_iload_n (pc := 121) (i := 1) dX12_readAtom_121 rfl rfl ?_
      refine V_if_ne (pc := 122) (tgt := 134) dX12_readAtom_122 (by decide) (fun c63 => ?_) (fun c63 => ?_)
      · rw [if_neg c63] at e
        exact V_pick [1, 0] rfl (r_X12_readAtom_b134 rc v0 r10 h11 e hD9 hrc0 hrc1 hrc2 hF)
      · rw [if_pos c63] at e
        refine V_pick [1, 0] rfl ?_
        refine V_aload_n (pc := 125) (i := 0) dX12_readAtom_125 rfl rfl ?_
        refine V_ldcS (pc := 126) (j := 47) (u := (47 : UInt32)) dX12_readAtom_126 rfl (by decide) ?_
        obtain ⟨r19, h20, g18, e⟩ := ob2_some e
        obtain ⟨g21, e⟩ := gd_some e
        refine V_callV (pc := 128) (bc := 0) (bs := 0) (mc := 0) (ms := 0) (st := []) (As := [.float (47 : UInt32)]) (a := v0) (h' := h20) (r := some (.int r19)) dX12_readAtom_128 ml_X12_201 (ci := 11) rfl (of_decide_eq_true g21) rfl rfl (Nat.le_of_ble_eq_true rfl) (d' := 5) (by omega) (c_X12_passes (l := x.2.1) v0 (47 : UInt32) h11 g18) ?_
        refine V_if_eq (pc := 131) (tgt := 152) dX12_readAtom_131 (by decide) (fun c62 => ?_) (fun c62 => ?_)
        · rw [if_pos c62] at e
          refine V_pick [0] rfl ?_
          refine V_aload_n (pc := 152) (i := 0) dX12_readAtom_152 rfl rfl ?_
          refine V_ldcS (pc := 153) (j := 56) (u := (56 : UInt32)) dX12_readAtom_153 rfl (by decide) ?_
          obtain ⟨r23, h24, g22, e⟩ := ob2_some e
          obtain ⟨g25, e⟩ := gd_some e
          refine V_callV (pc := 155) (bc := 0) (bs := 0) (mc := 0) (ms := 0) (st := []) (As := [.float (56 : UInt32)]) (a := v0) (h' := h24) (r := some (.int r23)) dX12_readAtom_155 ml_X12_201 (ci := 11) rfl (of_decide_eq_true g25) rfl rfl (Nat.le_of_ble_eq_true rfl) (d' := 5) (by omega) (c_X12_passes (l := x.2.1) v0 (56 : UInt32) h20 g22) ?_
          refine V_if_eq (pc := 158) (tgt := 185) dX12_readAtom_158 (by decide) (fun c61 => ?_) (fun c61 => ?_)
          · rw [if_pos c61] at e
            refine V_pick [0] rfl ?_
            refine V_aload_n (pc := 185) (i := 0) dX12_readAtom_185 rfl rfl ?_
            obtain ⟨r27, h28, g26, e⟩ := ob2_some e
            obtain ⟨g29, e⟩ := gd_some e
            refine V_callV (pc := 186) (bc := 0) (bs := 0) (mc := 0) (ms := 0) (st := []) (As := []) (a := v0) (h' := h28) (r := some (.int r27)) dX12_readAtom_186 ml_X12_211 (ci := 11) rfl (of_decide_eq_true g29) rfl rfl (Nat.le_of_ble_eq_true rfl) (d' := 6) (by omega) (c_X12_readSum (l := x.2.1) v0 h24 g26) ?_
            refine V_if_ne (pc := 189) (tgt := 194) dX12_readAtom_189 (by decide) (fun c50 => ?_) (fun c50 => ?_)
            · rw [if_neg c50] at e
              refine V_pick [0] rfl ?_
              refine V_aload_n (pc := 194) (i := 0) dX12_readAtom_194 rfl rfl ?_
              refine V_bipush (pc := 195) (v := (60 : Int32)) dX12_readAtom_195 (by decide) ?_
              obtain ⟨r31, h32, g30, e⟩ := ob2_some e
              obtain ⟨g33, e⟩ := gd_some e
              refine V_callV (pc := 197) (bc := 0) (bs := 0) (mc := 0) (ms := 0) (st := []) (As := [.int (60 : Int32)]) (a := v0) (h' := h32) (r := some (.int r31)) dX12_readAtom_197 ml_X12_190 (ci := 11) rfl (of_decide_eq_true g33) rfl rfl (Nat.le_of_ble_eq_true rfl) (d' := 2) (by omega) (c_X12_sign (l := x.2.1) v0 (60 : Int32) h28 g30) ?_
              refine V_istore_n (pc := 200) (i := 2) (lv' := [(2, .int r31), (0, .ref v0)]) dX12_readAtom_200 rfl (by decide) rfl ?_
              refine V_iload_n (pc := 201) (i := 2) dX12_readAtom_201 rfl rfl ?_
              refine V_if_ne (pc := 202) (tgt := 214) dX12_readAtom_202 (by decide) (fun c49 => ?_) (fun c49 => ?_)
              · rw [if_neg c49] at e
                exact V_pick [1, 0] rfl (r_X12_readAtom_b214 rc v0 r31 h32 e hD9 hrc0 hrc1 hrc2 hF)
              · rw [if_pos c49] at e
                refine V_pick [1, 0] rfl ?_
                refine V_aload_n (pc := 205) (i := 0) dX12_readAtom_205 rfl rfl ?_
                refine V_bipush (pc := 206) (v := (62 : Int32)) dX12_readAtom_206 (by decide) ?_
                obtain ⟨r45, h46, g44, e⟩ := ob2_some e
                obtain ⟨g47, e⟩ := gd_some e
                refine V_callV (pc := 208) (bc := 0) (bs := 0) (mc := 0) (ms := 0) (st := []) (As := [.int (62 : Int32)]) (a := v0) (h' := h46) (r := some (.int r45)) dX12_readAtom_208 ml_X12_190 (ci := 11) rfl (of_decide_eq_true g47) rfl rfl (Nat.le_of_ble_eq_true rfl) (d' := 2) (by omega) (c_X12_sign (l := x.2.1) v0 (62 : Int32) h32 g44) ?_
                refine V_if_eq (pc := 211) (tgt := 221) dX12_readAtom_211 (by decide) (fun c48 => ?_) (fun c48 => ?_)
                · rw [if_pos c48] at e
                  exact V_pick [] rfl (r_X12_readAtom_b221 rc h46 e hD9 hrc0 hrc1 hrc2 hF)
                · rw [if_neg c48] at e
                  exact V_pick [0, 1] rfl (r_X12_readAtom_b214 rc v0 r31 h46 e hD9 hrc0 hrc1 hrc2 hF)
            · rw [if_pos c50] at e
              refine V_pick [] rfl ?_
              refine V_iconst (pc := 192) (v := (0 : Int32)) dX12_readAtom_192 (by decide) ?_
              cases e
              exact V_zret (pc := 193) dX12_readAtom_193 rfl hF
          · rw [if_neg c61] at e
            refine V_pick [0] rfl ?_
            refine V_aload_n (pc := 161) (i := 0) dX12_readAtom_161 rfl rfl ?_
            refine V_iconst (pc := 162) (v := (0 : Int32)) dX12_readAtom_162 (by decide) ?_
            refine V_iconst (pc := 163) (v := (4 : Int32)) dX12_readAtom_163 (by decide) ?_
            obtain ⟨r52, h53, g51, e⟩ := ob2_some e
            obtain ⟨g54, e⟩ := gd_some e
            refine V_callV (pc := 164) (bc := 0) (bs := 0) (mc := 0) (ms := 0) (st := []) (As := [.int (0 : Int32), .int (4 : Int32)]) (a := v0) (h' := h53) (r := some (.int r52)) dX12_readAtom_164 ml_X12_115 (ci := 11) rfl (of_decide_eq_true g54) rfl rfl (Nat.le_of_ble_eq_true rfl) (d' := 2) (by omega) (c_X12_number (l := x.2.1) v0 (0 : Int32) (4 : Int32) h24 g51) ?_
            refine V_istore_n (pc := 167) (i := 2) (lv' := [(2, .int r52), (0, .ref v0)]) dX12_readAtom_167 rfl (by decide) rfl ?_
            refine V_aload_n (pc := 168) (i := 0) dX12_readAtom_168 rfl rfl ?_
            refine V_bipush (pc := 169) (v := (8 : Int32)) dX12_readAtom_169 (by decide) ?_
            refine V_iload_n (pc := 171) (i := 2) dX12_readAtom_171 rfl rfl ?_
            obtain ⟨r56, h57, g55, e⟩ := ob2_some e
            obtain ⟨g58, e⟩ := gd_some e
            refine V_callV (pc := 172) (bc := 0) (bs := 0) (mc := 0) (ms := 0) (st := []) (As := [.int (8 : Int32), .int r52]) (a := v0) (h' := h57) (r := none) dX12_readAtom_172 ml_X12_176 (ci := 11) rfl (of_decide_eq_true g58) rfl rfl (Nat.le_of_ble_eq_true rfl) (d' := 0) (by omega) (c_X12_emits (l := x.2.1) v0 (8 : Int32) r52 h53 g55) ?_
            refine V_iload_n (pc := 175) (i := 2) dX12_readAtom_175 rfl rfl ?_
            refine V_if_lt (pc := 176) (tgt := 183) dX12_readAtom_176 (by decide) (fun c60 => ?_) (fun c60 => ?_)
            · rw [if_pos c60] at e
              refine V_pick [] rfl ?_
              refine V_iconst (pc := 183) (v := (0 : Int32)) dX12_readAtom_183 (by decide) ?_
              exact V_pick [] rfl (r_X12_readAtom_b184 rc (0 : Int32) h57 e hD9 hrc0 hrc1 hrc2 hF)
            · rw [if_neg c60] at e
              refine V_pick [] rfl ?_
              refine V_iconst (pc := 179) (v := (1 : Int32)) dX12_readAtom_179 (by decide) ?_
              refine V_goto (pc := 180) (tgt := 184) dX12_readAtom_180 (by decide) ?_
              exact V_pick [] rfl (r_X12_readAtom_b184 rc (1 : Int32) h57 e hD9 hrc0 hrc1 hrc2 hF)
        · rw [if_neg c62] at e
          exact V_pick [0, 1] rfl (r_X12_readAtom_b134 rc v0 r10 h20 e hD9 hrc0 hrc1 hrc2 hF)
    · rw [if_neg c74] at e
      refine V_pick [0] rfl ?_
      refine V_aload_n (pc := 65) (i := 0) dX12_readAtom_65 rfl rfl ?_
      obtain ⟨g64, e⟩ := gd_some e
      refine V_getI (pc := 66) (ci := 11) (k := 10) dX12_readAtom_66 fl_X12_193 rfl (of_decide_eq_true g64) ?_
      refine V_bipush (pc := 69) (v := (6 : Int32)) dX12_readAtom_69 (by decide) ?_
      refine V_icmp_ne (pc := 71) (tgt := 76) dX12_readAtom_71 (by decide) (fun c73 => ?_) (fun c73 => ?_)
      · rw [if_neg c73] at e
        refine V_pick [0] rfl ?_
        refine V_aload_n (pc := 76) (i := 0) dX12_readAtom_76 rfl rfl ?_
        refine V_dup (pc := 77) dX12_readAtom_77 rfl ?_
        refine V_getI (pc := 78) (ci := 11) (k := 10) dX12_readAtom_78 fl_X12_193 rfl (of_decide_eq_true g64) ?_
        refine V_iconst (pc := 81) (v := (1 : Int32)) dX12_readAtom_81 (by decide) ?_
        refine V_iadd (pc := 82) dX12_readAtom_82 ?_
        refine V_putI (pc := 83) (ci := 11) (k := 10) dX12_readAtom_83 fp_X12_193 rfl (of_decide_eq_true g64) ?_
        refine V_aload_n (pc := 86) (i := 0) dX12_readAtom_86 rfl rfl ?_
        obtain ⟨r66, h67, g65, e⟩ := ob2_some e
        refine V_callV (pc := 87) (bc := 0) (bs := 0) (mc := 0) (ms := 0) (st := []) (As := []) (a := v0) (h' := h67) (r := some (.int r66)) dX12_readAtom_87 ml_X12_204 (ci := 11) rfl (kd_sI (of_decide_eq_true g64)) rfl rfl (Nat.le_of_ble_eq_true rfl) (d' := D9) (by omega) (hrc0 v0 (setI h7 v0 10 ((zI h7 v0 10) + (1 : Int32))) _ _ g65) ?_
        refine V_if_ne (pc := 90) (tgt := 95) dX12_readAtom_90 (by decide) (fun c72 => ?_) (fun c72 => ?_)
        · rw [if_neg c72] at e
          refine V_pick [0] rfl ?_
          refine V_aload_n (pc := 95) (i := 0) dX12_readAtom_95 rfl rfl ?_
          refine V_dup (pc := 96) dX12_readAtom_96 rfl ?_
          obtain ⟨g68, e⟩ := gd_some e
          refine V_getI (pc := 97) (ci := 11) (k := 10) dX12_readAtom_97 fl_X12_193 rfl (of_decide_eq_true g68) ?_
          refine V_iconst (pc := 100) (v := (1 : Int32)) dX12_readAtom_100 (by decide) ?_
          refine V_isub (pc := 101) dX12_readAtom_101 ?_
          refine V_putI (pc := 102) (ci := 11) (k := 10) dX12_readAtom_102 fp_X12_193 rfl (of_decide_eq_true g68) ?_
          refine V_aload_n (pc := 105) (i := 0) dX12_readAtom_105 rfl rfl ?_
          refine V_bipush (pc := 106) (v := (13 : Int32)) dX12_readAtom_106 (by decide) ?_
          refine V_iconst (pc := 108) (v := (0 : Int32)) dX12_readAtom_108 (by decide) ?_
          obtain ⟨r70, h71, g69, e⟩ := ob2_some e
          refine V_callV (pc := 109) (bc := 0) (bs := 0) (mc := 0) (ms := 0) (st := []) (As := [.int (13 : Int32), .int (0 : Int32)]) (a := v0) (h' := h71) (r := none) dX12_readAtom_109 ml_X12_176 (ci := 11) rfl (kd_sI (of_decide_eq_true g68)) rfl rfl (Nat.le_of_ble_eq_true rfl) (d' := 0) (by omega) (c_X12_emits (l := x.2.1) v0 (13 : Int32) (0 : Int32) (setI h67 v0 10 ((zI h67 v0 10) - (1 : Int32))) g69) ?_
          refine V_iconst (pc := 112) (v := (1 : Int32)) dX12_readAtom_112 (by decide) ?_
          cases e
          exact V_zret (pc := 113) dX12_readAtom_113 rfl hF
        · rw [if_pos c72] at e
          refine V_pick [] rfl ?_
          refine V_iconst (pc := 93) (v := (0 : Int32)) dX12_readAtom_93 (by decide) ?_
          cases e
          exact V_zret (pc := 94) dX12_readAtom_94 rfl hF
      · rw [if_pos c73] at e
        refine V_pick [] rfl ?_
        refine V_iconst (pc := 74) (v := (0 : Int32)) dX12_readAtom_74 (by decide) ?_
        cases e
        exact V_zret (pc := 75) dX12_readAtom_75 rfl hF
  · rw [if_neg c86] at e
    refine V_pick [0] rfl ?_
    refine V_aload_n (pc := 9) (i := 0) dX12_readAtom_9 rfl rfl ?_
    obtain ⟨g75, e⟩ := gd_some e
    refine V_getI (pc := 10) (ci := 11) (k := 10) dX12_readAtom_10 fl_X12_193 rfl (of_decide_eq_true g75) ?_
    refine V_bipush (pc := 13) (v := (6 : Int32)) dX12_readAtom_13 (by decide) ?_
    refine V_icmp_ne (pc := 15) (tgt := 20) dX12_readAtom_15 (by decide) (fun c85 => ?_) (fun c85 => ?_)
    · rw [if_neg c85] at e
      refine V_pick [0] rfl ?_
      refine V_aload_n (pc := 20) (i := 0) dX12_readAtom_20 rfl rfl ?_
      refine V_dup (pc := 21) dX12_readAtom_21 rfl ?_
      refine V_getI (pc := 22) (ci := 11) (k := 10) dX12_readAtom_22 fl_X12_193 rfl (of_decide_eq_true g75) ?_
      refine V_iconst (pc := 25) (v := (1 : Int32)) dX12_readAtom_25 (by decide) ?_
      refine V_iadd (pc := 26) dX12_readAtom_26 ?_
      refine V_putI (pc := 27) (ci := 11) (k := 10) dX12_readAtom_27 fp_X12_193 rfl (of_decide_eq_true g75) ?_
      refine V_aload_n (pc := 30) (i := 0) dX12_readAtom_30 rfl rfl ?_
      obtain ⟨r77, h78, g76, e⟩ := ob2_some e
      refine V_callV (pc := 31) (bc := 0) (bs := 0) (mc := 0) (ms := 0) (st := []) (As := []) (a := v0) (h' := h78) (r := some (.int r77)) dX12_readAtom_31 ml_X12_196 (ci := 11) rfl (kd_sI (of_decide_eq_true g75)) rfl rfl (Nat.le_of_ble_eq_true rfl) (d' := D9) (by omega) (hrc2 v0 (setI h3 v0 10 ((zI h3 v0 10) + (1 : Int32))) _ _ g76) ?_
      refine V_if_ne (pc := 34) (tgt := 39) dX12_readAtom_34 (by decide) (fun c84 => ?_) (fun c84 => ?_)
      · rw [if_neg c84] at e
        refine V_pick [0] rfl ?_
        refine V_aload_n (pc := 39) (i := 0) dX12_readAtom_39 rfl rfl ?_
        refine V_dup (pc := 40) dX12_readAtom_40 rfl ?_
        obtain ⟨g79, e⟩ := gd_some e
        refine V_getI (pc := 41) (ci := 11) (k := 10) dX12_readAtom_41 fl_X12_193 rfl (of_decide_eq_true g79) ?_
        refine V_iconst (pc := 44) (v := (1 : Int32)) dX12_readAtom_44 (by decide) ?_
        refine V_isub (pc := 45) dX12_readAtom_45 ?_
        refine V_putI (pc := 46) (ci := 11) (k := 10) dX12_readAtom_46 fp_X12_193 rfl (of_decide_eq_true g79) ?_
        refine V_aload_n (pc := 49) (i := 0) dX12_readAtom_49 rfl rfl ?_
        refine V_bipush (pc := 50) (v := (41 : Int32)) dX12_readAtom_50 (by decide) ?_
        obtain ⟨r81, h82, g80, e⟩ := ob2_some e
        refine V_callV (pc := 52) (bc := 0) (bs := 0) (mc := 0) (ms := 0) (st := []) (As := [.int (41 : Int32)]) (a := v0) (h' := h82) (r := some (.int r81)) dX12_readAtom_52 ml_X12_190 (ci := 11) rfl (kd_sI (of_decide_eq_true g79)) rfl rfl (Nat.le_of_ble_eq_true rfl) (d' := 2) (by omega) (c_X12_sign (l := x.2.1) v0 (41 : Int32) (setI h78 v0 10 ((zI h78 v0 10) - (1 : Int32))) g80) ?_
        obtain ⟨g83, e⟩ := gd_some e
        cases e
        exact V_zret (pc := 55) dX12_readAtom_55 (z01 (of_decide_eq_true g83)) hF
      · rw [if_pos c84] at e
        refine V_pick [] rfl ?_
        refine V_iconst (pc := 37) (v := (0 : Int32)) dX12_readAtom_37 (by decide) ?_
        cases e
        exact V_zret (pc := 38) dX12_readAtom_38 rfl hF
    · rw [if_pos c85] at e
      refine V_pick [] rfl ?_
      refine V_iconst (pc := 18) (v := (0 : Int32)) dX12_readAtom_18 (by decide) ?_
      cases e
      exact V_zret (pc := 19) dX12_readAtom_19 rfl hF
theorem dX12_readAllOf_0 : decode cX12_readAllOf 0 = .ok (.aload_n 0, 1) := by decide +kernel
theorem dX12_readAllOf_1 : decode cX12_readAllOf 1 = .ok (.invokevirtual 204, 3) := by decide +kernel
theorem dX12_readAllOf_4 : decode cX12_readAllOf 4 = .ok (.ifCond .ne 5, 3) := by decide +kernel
theorem dX12_readAllOf_7 : decode cX12_readAllOf 7 = .ok (.iconst 0, 1) := by decide +kernel
theorem dX12_readAllOf_8 : decode cX12_readAllOf 8 = .ok (.ireturn, 1) := by decide +kernel
theorem dX12_readAllOf_9 : decode cX12_readAllOf 9 = .ok (.aload_n 0, 1) := by decide +kernel
theorem dX12_readAllOf_10 : decode cX12_readAllOf 10 = .ok (.ldc 214, 2) := by decide +kernel
theorem dX12_readAllOf_12 : decode cX12_readAllOf 12 = .ok (.invokevirtual 201, 3) := by decide +kernel
theorem dX12_readAllOf_15 : decode cX12_readAllOf 15 = .ok (.ifCond .eq 22, 3) := by decide +kernel
theorem dX12_readAllOf_18 : decode cX12_readAllOf 18 = .ok (.aload_n 0, 1) := by decide +kernel
theorem dX12_readAllOf_19 : decode cX12_readAllOf 19 = .ok (.invokevirtual 204, 3) := by decide +kernel
theorem dX12_readAllOf_22 : decode cX12_readAllOf 22 = .ok (.ifCond .ne 5, 3) := by decide +kernel
theorem dX12_readAllOf_25 : decode cX12_readAllOf 25 = .ok (.iconst 0, 1) := by decide +kernel
theorem dX12_readAllOf_26 : decode cX12_readAllOf 26 = .ok (.ireturn, 1) := by decide +kernel
theorem dX12_readAllOf_27 : decode cX12_readAllOf 27 = .ok (.aload_n 0, 1) := by decide +kernel
theorem dX12_readAllOf_28 : decode cX12_readAllOf 28 = .ok (.bipush 14, 2) := by decide +kernel
theorem dX12_readAllOf_30 : decode cX12_readAllOf 30 = .ok (.iconst 0, 1) := by decide +kernel
theorem dX12_readAllOf_31 : decode cX12_readAllOf 31 = .ok (.invokevirtual 176, 3) := by decide +kernel
theorem dX12_readAllOf_34 : decode cX12_readAllOf 34 = .ok (.goto (-25), 3) := by decide +kernel
theorem dX12_readAllOf_37 : decode cX12_readAllOf 37 = .ok (.iconst 1, 1) := by decide +kernel
theorem dX12_readAllOf_38 : decode cX12_readAllOf 38 = .ok (.ireturn, 1) := by decide +kernel
set_option maxRecDepth 100000 in
def F_X12_readAllOf_l9 (rc : Nat → Nat → Hp → Option (Int32 × Hp)) (v0 : Nat) (h : Hp) : Option (Hp ⊕ (Hp ⊕ Hp)) :=
  ob2 (F_X12_passes v0 (61 : UInt32) h) fun r6 h7 => gd (decide (kd h v0 = 11)) <| (if r6 = 0 then some (.inr (.inl h7)) else ob2 (rc 0 v0 h7) fun r10 h11 => gd (decide (kd h7 v0 = 11)) <| (if r10 = 0 then some (.inr (.inr h11)) else ob2 (F_X12_emits v0 (14 : Int32) (0 : Int32) h11) fun _ h15 => gd (decide (kd h11 v0 = 11)) <| some (.inl h15)))
set_option maxHeartbeats 4000000 in
set_option maxRecDepth 100000 in
theorem r_X12_readAllOf_l9 (rc : Nat → Nat → Hp → Option (Int32 × Hp)) (v0 : Nat) (h : Hp) {x : Cx} {o : (Hp ⊕ (Hp ⊕ Hp))} (e : F_X12_readAllOf_l9 rc v0 h = some o) {D9 : Nat} (hD9 : 20 ≤ D9) (hrc0 : ∀ (a0 : Nat) (h9 : Hp) (r9 : Int32) (z9 : Hp), rc 0 a0 h9 = some (r9, z9) → Ct x.2.1 yX12_readAtom M_X12_readAtom (some .boolean) D9 [.ref a0] h9 0 0 (some (.int r9)) z9) (hrc1 : ∀ (a0 : Nat) (h9 : Hp) (r9 : Int32) (z9 : Hp), rc 1 a0 h9 = some (r9, z9) → Ct x.2.1 yX12_readAllOf M_X12_readAllOf (some .boolean) D9 [.ref a0] h9 0 0 (some (.int r9)) z9) (hrc2 : ∀ (a0 : Nat) (h9 : Hp) (r9 : Int32) (z9 : Hp), rc 2 a0 h9 = some (r9, z9) → Ct x.2.1 yX12_readCond M_X12_readCond (some .boolean) D9 [.ref a0] h9 0 0 (some (.int r9)) z9) (kI : ∀ z, o = .inl z → V M_X12_readAllOf x (D9 + 1) 9 [(0, .ref v0)] [] z 0 0) (kE37 : ∀ z : Hp, o = .inr (.inl z) → V M_X12_readAllOf x (D9 + 1) 37 [] [] z 0 0) (kE25 : ∀ z : Hp, o = .inr (.inr z) → V M_X12_readAllOf x (D9 + 1) 25 [] [] z 0 0) : V M_X12_readAllOf x (D9 + 1) 9 [(0, .ref v0)] [] h 0 0 := by
  unfold F_X12_readAllOf_l9 at e
  refine V_aload_n (pc := 9) (i := 0) dX12_readAllOf_9 rfl rfl ?_
  refine V_ldcS (pc := 10) (j := 61) (u := (61 : UInt32)) dX12_readAllOf_10 rfl (by decide) ?_
  obtain ⟨r6, h7, g5, e⟩ := ob2_some e
  obtain ⟨g8, e⟩ := gd_some e
  refine V_callV (pc := 12) (bc := 0) (bs := 0) (mc := 0) (ms := 0) (st := []) (As := [.float (61 : UInt32)]) (a := v0) (h' := h7) (r := some (.int r6)) dX12_readAllOf_12 ml_X12_201 (ci := 11) rfl (of_decide_eq_true g8) rfl rfl (Nat.le_of_ble_eq_true rfl) (d' := 5) (by omega) (c_X12_passes (l := x.2.1) v0 (61 : UInt32) h g5) ?_
  refine V_if_eq (pc := 15) (tgt := 37) dX12_readAllOf_15 (by decide) (fun c18 => ?_) (fun c18 => ?_)
  · rw [if_pos c18] at e
    cases e
    exact V_pick [] rfl (kE37 h7 rfl)
  · rw [if_neg c18] at e
    refine V_pick [0] rfl ?_
    refine V_aload_n (pc := 18) (i := 0) dX12_readAllOf_18 rfl rfl ?_
    obtain ⟨r10, h11, g9, e⟩ := ob2_some e
    obtain ⟨g12, e⟩ := gd_some e
    refine V_callV (pc := 19) (bc := 0) (bs := 0) (mc := 0) (ms := 0) (st := []) (As := []) (a := v0) (h' := h11) (r := some (.int r10)) dX12_readAllOf_19 ml_X12_204 (ci := 11) rfl (of_decide_eq_true g12) rfl rfl (Nat.le_of_ble_eq_true rfl) (d' := D9) (by omega) (hrc0 v0 h7 _ _ g9) ?_
    refine V_if_ne (pc := 22) (tgt := 27) dX12_readAllOf_22 (by decide) (fun c17 => ?_) (fun c17 => ?_)
    · rw [if_neg c17] at e
      refine V_pick [0] rfl ?_
      refine V_aload_n (pc := 27) (i := 0) dX12_readAllOf_27 rfl rfl ?_
      refine V_bipush (pc := 28) (v := (14 : Int32)) dX12_readAllOf_28 (by decide) ?_
      refine V_iconst (pc := 30) (v := (0 : Int32)) dX12_readAllOf_30 (by decide) ?_
      obtain ⟨r14, h15, g13, e⟩ := ob2_some e
      obtain ⟨g16, e⟩ := gd_some e
      refine V_callV (pc := 31) (bc := 0) (bs := 0) (mc := 0) (ms := 0) (st := []) (As := [.int (14 : Int32), .int (0 : Int32)]) (a := v0) (h' := h15) (r := none) dX12_readAllOf_31 ml_X12_176 (ci := 11) rfl (of_decide_eq_true g16) rfl rfl (Nat.le_of_ble_eq_true rfl) (d' := 0) (by omega) (c_X12_emits (l := x.2.1) v0 (14 : Int32) (0 : Int32) h11 g13) ?_
      refine V_goto (pc := 34) (tgt := 9) dX12_readAllOf_34 (by decide) ?_
      cases e
      exact V_pick [0] rfl (kI h15 rfl)
    · rw [if_pos c17] at e
      cases e
      exact V_pick [] rfl (kE25 h11 rfl)
set_option maxRecDepth 100000 in
def F_X12_readAllOf_b0 (rc : Nat → Nat → Hp → Option (Int32 × Hp)) (v0 : Nat) (h : Hp) : Option (Int32 × Hp) :=
  ob2 (rc 0 v0 h) fun r2 h3 => gd (decide (kd h v0 = 11)) <| (if r2 = 0 then some ((0 : Int32), h3) else ob (iter (fun z : Hp => F_X12_readAllOf_l9 rc v0 z) FU h3) (fun z => sm z (fun h19 => some ((1 : Int32), h19)) (fun h20 => some ((0 : Int32), h20))))
set_option maxHeartbeats 4000000 in
set_option maxRecDepth 100000 in
theorem r_X12_readAllOf_b0 (rc : Nat → Nat → Hp → Option (Int32 × Hp)) (v0 : Nat) (h : Hp) {x : Cx} {r : Int32} {hz : Hp} (e : F_X12_readAllOf_b0 rc v0 h = some (r, hz)) {D9 : Nat} (hD9 : 20 ≤ D9) (hrc0 : ∀ (a0 : Nat) (h9 : Hp) (r9 : Int32) (z9 : Hp), rc 0 a0 h9 = some (r9, z9) → Ct x.2.1 yX12_readAtom M_X12_readAtom (some .boolean) D9 [.ref a0] h9 0 0 (some (.int r9)) z9) (hrc1 : ∀ (a0 : Nat) (h9 : Hp) (r9 : Int32) (z9 : Hp), rc 1 a0 h9 = some (r9, z9) → Ct x.2.1 yX12_readAllOf M_X12_readAllOf (some .boolean) D9 [.ref a0] h9 0 0 (some (.int r9)) z9) (hrc2 : ∀ (a0 : Nat) (h9 : Hp) (r9 : Int32) (z9 : Hp), rc 2 a0 h9 = some (r9, z9) → Ct x.2.1 yX12_readCond M_X12_readCond (some .boolean) D9 [.ref a0] h9 0 0 (some (.int r9)) z9) (hF : Fin9 M_X12_readAllOf x (some .boolean) (some (.int r)) hz) : V M_X12_readAllOf x (D9 + 1) 0 [(0, .ref v0)] [] h 0 0 := by
  unfold F_X12_readAllOf_b0 at e
  refine V_aload_n (pc := 0) (i := 0) dX12_readAllOf_0 rfl rfl ?_
  obtain ⟨r2, h3, g1, e⟩ := ob2_some e
  obtain ⟨g4, e⟩ := gd_some e
  refine V_callV (pc := 1) (bc := 0) (bs := 0) (mc := 0) (ms := 0) (st := []) (As := []) (a := v0) (h' := h3) (r := some (.int r2)) dX12_readAllOf_1 ml_X12_204 (ci := 11) rfl (of_decide_eq_true g4) rfl rfl (Nat.le_of_ble_eq_true rfl) (d' := D9) (by omega) (hrc0 v0 h _ _ g1) ?_
  refine V_if_ne (pc := 4) (tgt := 9) dX12_readAllOf_4 (by decide) (fun c25 => ?_) (fun c25 => ?_)
  · rw [if_neg c25] at e
    refine V_pick [0] rfl ?_
    obtain ⟨y21, g22, e⟩ := ob_some e
    refine iter_V (P := fun z : Hp => V M_X12_readAllOf x (D9 + 1) 9 [(0, .ref v0)] [] z 0 0) (E := fun z => Sum.elim (fun z : Hp => V M_X12_readAllOf x (D9 + 1) 37 [] [] z 0 0) (fun z : Hp => V M_X12_readAllOf x (D9 + 1) 25 [] [] z 0 0) z) (fun z o e9 k1 k2 => r_X12_readAllOf_l9 rc v0 z e9 hD9 hrc0 hrc1 hrc2 (fun z hz9 => k1 z hz9) (fun z hz9 => k2 _ hz9) (fun z hz9 => k2 _ hz9)) _ _ _ g22 ?_
    clear g22
    rcases y21 with y23 | y24
    · obtain ⟨h19, rfl⟩ : ∃ q, q = y23 := ⟨_, rfl⟩
      replace e : (some ((1 : Int32), h19)) = some (r, hz) := e
      show V M_X12_readAllOf x (D9 + 1) 37 [] [] h19 0 0
      refine V_iconst (pc := 37) (v := (1 : Int32)) dX12_readAllOf_37 (by decide) ?_
      cases e
      exact V_zret (pc := 38) dX12_readAllOf_38 rfl hF
    · obtain ⟨h20, rfl⟩ : ∃ q, q = y24 := ⟨_, rfl⟩
      replace e : (some ((0 : Int32), h20)) = some (r, hz) := e
      show V M_X12_readAllOf x (D9 + 1) 25 [] [] h20 0 0
      refine V_iconst (pc := 25) (v := (0 : Int32)) dX12_readAllOf_25 (by decide) ?_
      cases e
      exact V_zret (pc := 26) dX12_readAllOf_26 rfl hF
  · rw [if_pos c25] at e
    refine V_pick [] rfl ?_
    refine V_iconst (pc := 7) (v := (0 : Int32)) dX12_readAllOf_7 (by decide) ?_
    cases e
    exact V_zret (pc := 8) dX12_readAllOf_8 rfl hF
theorem dX12_readCond_0 : decode cX12_readCond 0 = .ok (.aload_n 0, 1) := by decide +kernel
theorem dX12_readCond_1 : decode cX12_readCond 1 = .ok (.invokevirtual 216, 3) := by decide +kernel
theorem dX12_readCond_4 : decode cX12_readCond 4 = .ok (.ifCond .ne 5, 3) := by decide +kernel
theorem dX12_readCond_7 : decode cX12_readCond 7 = .ok (.iconst 0, 1) := by decide +kernel
theorem dX12_readCond_8 : decode cX12_readCond 8 = .ok (.ireturn, 1) := by decide +kernel
theorem dX12_readCond_9 : decode cX12_readCond 9 = .ok (.aload_n 0, 1) := by decide +kernel
theorem dX12_readCond_10 : decode cX12_readCond 10 = .ok (.ldc 219, 2) := by decide +kernel
theorem dX12_readCond_12 : decode cX12_readCond 12 = .ok (.invokevirtual 201, 3) := by decide +kernel
theorem dX12_readCond_15 : decode cX12_readCond 15 = .ok (.ifCond .eq 22, 3) := by decide +kernel
theorem dX12_readCond_18 : decode cX12_readCond 18 = .ok (.aload_n 0, 1) := by decide +kernel
theorem dX12_readCond_19 : decode cX12_readCond 19 = .ok (.invokevirtual 216, 3) := by decide +kernel
theorem dX12_readCond_22 : decode cX12_readCond 22 = .ok (.ifCond .ne 5, 3) := by decide +kernel
theorem dX12_readCond_25 : decode cX12_readCond 25 = .ok (.iconst 0, 1) := by decide +kernel
theorem dX12_readCond_26 : decode cX12_readCond 26 = .ok (.ireturn, 1) := by decide +kernel
theorem dX12_readCond_27 : decode cX12_readCond 27 = .ok (.aload_n 0, 1) := by decide +kernel
theorem dX12_readCond_28 : decode cX12_readCond 28 = .ok (.bipush 15, 2) := by decide +kernel
theorem dX12_readCond_30 : decode cX12_readCond 30 = .ok (.iconst 0, 1) := by decide +kernel
theorem dX12_readCond_31 : decode cX12_readCond 31 = .ok (.invokevirtual 176, 3) := by decide +kernel
theorem dX12_readCond_34 : decode cX12_readCond 34 = .ok (.goto (-25), 3) := by decide +kernel
theorem dX12_readCond_37 : decode cX12_readCond 37 = .ok (.iconst 1, 1) := by decide +kernel
theorem dX12_readCond_38 : decode cX12_readCond 38 = .ok (.ireturn, 1) := by decide +kernel
set_option maxRecDepth 100000 in
def F_X12_readCond_l9 (rc : Nat → Nat → Hp → Option (Int32 × Hp)) (v0 : Nat) (h : Hp) : Option (Hp ⊕ (Hp ⊕ Hp)) :=
  ob2 (F_X12_passes v0 (62 : UInt32) h) fun r6 h7 => gd (decide (kd h v0 = 11)) <| (if r6 = 0 then some (.inr (.inl h7)) else ob2 (rc 1 v0 h7) fun r10 h11 => gd (decide (kd h7 v0 = 11)) <| (if r10 = 0 then some (.inr (.inr h11)) else ob2 (F_X12_emits v0 (15 : Int32) (0 : Int32) h11) fun _ h15 => gd (decide (kd h11 v0 = 11)) <| some (.inl h15)))
set_option maxHeartbeats 4000000 in
set_option maxRecDepth 100000 in
theorem r_X12_readCond_l9 (rc : Nat → Nat → Hp → Option (Int32 × Hp)) (v0 : Nat) (h : Hp) {x : Cx} {o : (Hp ⊕ (Hp ⊕ Hp))} (e : F_X12_readCond_l9 rc v0 h = some o) {D9 : Nat} (hD9 : 20 ≤ D9) (hrc0 : ∀ (a0 : Nat) (h9 : Hp) (r9 : Int32) (z9 : Hp), rc 0 a0 h9 = some (r9, z9) → Ct x.2.1 yX12_readAtom M_X12_readAtom (some .boolean) D9 [.ref a0] h9 0 0 (some (.int r9)) z9) (hrc1 : ∀ (a0 : Nat) (h9 : Hp) (r9 : Int32) (z9 : Hp), rc 1 a0 h9 = some (r9, z9) → Ct x.2.1 yX12_readAllOf M_X12_readAllOf (some .boolean) D9 [.ref a0] h9 0 0 (some (.int r9)) z9) (hrc2 : ∀ (a0 : Nat) (h9 : Hp) (r9 : Int32) (z9 : Hp), rc 2 a0 h9 = some (r9, z9) → Ct x.2.1 yX12_readCond M_X12_readCond (some .boolean) D9 [.ref a0] h9 0 0 (some (.int r9)) z9) (kI : ∀ z, o = .inl z → V M_X12_readCond x (D9 + 1) 9 [(0, .ref v0)] [] z 0 0) (kE37 : ∀ z : Hp, o = .inr (.inl z) → V M_X12_readCond x (D9 + 1) 37 [] [] z 0 0) (kE25 : ∀ z : Hp, o = .inr (.inr z) → V M_X12_readCond x (D9 + 1) 25 [] [] z 0 0) : V M_X12_readCond x (D9 + 1) 9 [(0, .ref v0)] [] h 0 0 := by
  unfold F_X12_readCond_l9 at e
  refine V_aload_n (pc := 9) (i := 0) dX12_readCond_9 rfl rfl ?_
  refine V_ldcS (pc := 10) (j := 62) (u := (62 : UInt32)) dX12_readCond_10 rfl (by decide) ?_
  obtain ⟨r6, h7, g5, e⟩ := ob2_some e
  obtain ⟨g8, e⟩ := gd_some e
  refine V_callV (pc := 12) (bc := 0) (bs := 0) (mc := 0) (ms := 0) (st := []) (As := [.float (62 : UInt32)]) (a := v0) (h' := h7) (r := some (.int r6)) dX12_readCond_12 ml_X12_201 (ci := 11) rfl (of_decide_eq_true g8) rfl rfl (Nat.le_of_ble_eq_true rfl) (d' := 5) (by omega) (c_X12_passes (l := x.2.1) v0 (62 : UInt32) h g5) ?_
  refine V_if_eq (pc := 15) (tgt := 37) dX12_readCond_15 (by decide) (fun c18 => ?_) (fun c18 => ?_)
  · rw [if_pos c18] at e
    cases e
    exact V_pick [] rfl (kE37 h7 rfl)
  · rw [if_neg c18] at e
    refine V_pick [0] rfl ?_
    refine V_aload_n (pc := 18) (i := 0) dX12_readCond_18 rfl rfl ?_
    obtain ⟨r10, h11, g9, e⟩ := ob2_some e
    obtain ⟨g12, e⟩ := gd_some e
    refine V_callV (pc := 19) (bc := 0) (bs := 0) (mc := 0) (ms := 0) (st := []) (As := []) (a := v0) (h' := h11) (r := some (.int r10)) dX12_readCond_19 ml_X12_216 (ci := 11) rfl (of_decide_eq_true g12) rfl rfl (Nat.le_of_ble_eq_true rfl) (d' := D9) (by omega) (hrc1 v0 h7 _ _ g9) ?_
    refine V_if_ne (pc := 22) (tgt := 27) dX12_readCond_22 (by decide) (fun c17 => ?_) (fun c17 => ?_)
    · rw [if_neg c17] at e
      refine V_pick [0] rfl ?_
      refine V_aload_n (pc := 27) (i := 0) dX12_readCond_27 rfl rfl ?_
      refine V_bipush (pc := 28) (v := (15 : Int32)) dX12_readCond_28 (by decide) ?_
      refine V_iconst (pc := 30) (v := (0 : Int32)) dX12_readCond_30 (by decide) ?_
      obtain ⟨r14, h15, g13, e⟩ := ob2_some e
      obtain ⟨g16, e⟩ := gd_some e
      refine V_callV (pc := 31) (bc := 0) (bs := 0) (mc := 0) (ms := 0) (st := []) (As := [.int (15 : Int32), .int (0 : Int32)]) (a := v0) (h' := h15) (r := none) dX12_readCond_31 ml_X12_176 (ci := 11) rfl (of_decide_eq_true g16) rfl rfl (Nat.le_of_ble_eq_true rfl) (d' := 0) (by omega) (c_X12_emits (l := x.2.1) v0 (15 : Int32) (0 : Int32) h11 g13) ?_
      refine V_goto (pc := 34) (tgt := 9) dX12_readCond_34 (by decide) ?_
      cases e
      exact V_pick [0] rfl (kI h15 rfl)
    · rw [if_pos c17] at e
      cases e
      exact V_pick [] rfl (kE25 h11 rfl)
set_option maxRecDepth 100000 in
def F_X12_readCond_b0 (rc : Nat → Nat → Hp → Option (Int32 × Hp)) (v0 : Nat) (h : Hp) : Option (Int32 × Hp) :=
  ob2 (rc 1 v0 h) fun r2 h3 => gd (decide (kd h v0 = 11)) <| (if r2 = 0 then some ((0 : Int32), h3) else ob (iter (fun z : Hp => F_X12_readCond_l9 rc v0 z) FU h3) (fun z => sm z (fun h19 => some ((1 : Int32), h19)) (fun h20 => some ((0 : Int32), h20))))
set_option maxHeartbeats 4000000 in
set_option maxRecDepth 100000 in
theorem r_X12_readCond_b0 (rc : Nat → Nat → Hp → Option (Int32 × Hp)) (v0 : Nat) (h : Hp) {x : Cx} {r : Int32} {hz : Hp} (e : F_X12_readCond_b0 rc v0 h = some (r, hz)) {D9 : Nat} (hD9 : 20 ≤ D9) (hrc0 : ∀ (a0 : Nat) (h9 : Hp) (r9 : Int32) (z9 : Hp), rc 0 a0 h9 = some (r9, z9) → Ct x.2.1 yX12_readAtom M_X12_readAtom (some .boolean) D9 [.ref a0] h9 0 0 (some (.int r9)) z9) (hrc1 : ∀ (a0 : Nat) (h9 : Hp) (r9 : Int32) (z9 : Hp), rc 1 a0 h9 = some (r9, z9) → Ct x.2.1 yX12_readAllOf M_X12_readAllOf (some .boolean) D9 [.ref a0] h9 0 0 (some (.int r9)) z9) (hrc2 : ∀ (a0 : Nat) (h9 : Hp) (r9 : Int32) (z9 : Hp), rc 2 a0 h9 = some (r9, z9) → Ct x.2.1 yX12_readCond M_X12_readCond (some .boolean) D9 [.ref a0] h9 0 0 (some (.int r9)) z9) (hF : Fin9 M_X12_readCond x (some .boolean) (some (.int r)) hz) : V M_X12_readCond x (D9 + 1) 0 [(0, .ref v0)] [] h 0 0 := by
  unfold F_X12_readCond_b0 at e
  refine V_aload_n (pc := 0) (i := 0) dX12_readCond_0 rfl rfl ?_
  obtain ⟨r2, h3, g1, e⟩ := ob2_some e
  obtain ⟨g4, e⟩ := gd_some e
  refine V_callV (pc := 1) (bc := 0) (bs := 0) (mc := 0) (ms := 0) (st := []) (As := []) (a := v0) (h' := h3) (r := some (.int r2)) dX12_readCond_1 ml_X12_216 (ci := 11) rfl (of_decide_eq_true g4) rfl rfl (Nat.le_of_ble_eq_true rfl) (d' := D9) (by omega) (hrc1 v0 h _ _ g1) ?_
  refine V_if_ne (pc := 4) (tgt := 9) dX12_readCond_4 (by decide) (fun c25 => ?_) (fun c25 => ?_)
  · rw [if_neg c25] at e
    refine V_pick [0] rfl ?_
    obtain ⟨y21, g22, e⟩ := ob_some e
    refine iter_V (P := fun z : Hp => V M_X12_readCond x (D9 + 1) 9 [(0, .ref v0)] [] z 0 0) (E := fun z => Sum.elim (fun z : Hp => V M_X12_readCond x (D9 + 1) 37 [] [] z 0 0) (fun z : Hp => V M_X12_readCond x (D9 + 1) 25 [] [] z 0 0) z) (fun z o e9 k1 k2 => r_X12_readCond_l9 rc v0 z e9 hD9 hrc0 hrc1 hrc2 (fun z hz9 => k1 z hz9) (fun z hz9 => k2 _ hz9) (fun z hz9 => k2 _ hz9)) _ _ _ g22 ?_
    clear g22
    rcases y21 with y23 | y24
    · obtain ⟨h19, rfl⟩ : ∃ q, q = y23 := ⟨_, rfl⟩
      replace e : (some ((1 : Int32), h19)) = some (r, hz) := e
      show V M_X12_readCond x (D9 + 1) 37 [] [] h19 0 0
      refine V_iconst (pc := 37) (v := (1 : Int32)) dX12_readCond_37 (by decide) ?_
      cases e
      exact V_zret (pc := 38) dX12_readCond_38 rfl hF
    · obtain ⟨h20, rfl⟩ : ∃ q, q = y24 := ⟨_, rfl⟩
      replace e : (some ((0 : Int32), h20)) = some (r, hz) := e
      show V M_X12_readCond x (D9 + 1) 25 [] [] h20 0 0
      refine V_iconst (pc := 25) (v := (0 : Int32)) dX12_readCond_25 (by decide) ?_
      cases e
      exact V_zret (pc := 26) dX12_readCond_26 rfl hF
  · rw [if_pos c25] at e
    refine V_pick [] rfl ?_
    refine V_iconst (pc := 7) (v := (0 : Int32)) dX12_readCond_7 (by decide) ?_
    cases e
    exact V_zret (pc := 8) dX12_readCond_8 rfl hF
def FR_X12 : Nat → Nat → Nat → Hp → Option (Int32 × Hp)
  | 0 => fun _ _ _ => none
  | n + 1 => fun j a0 h => if j = 0 then F_X12_readAtom_b0 (FR_X12 n) a0 h else if j = 1 then F_X12_readAllOf_b0 (FR_X12 n) a0 h else F_X12_readCond_b0 (FR_X12 n) a0 h
set_option maxHeartbeats 4000000 in
set_option maxRecDepth 100000 in
theorem cR_X12 (l : Launch) : ∀ n : Nat, (∀ (a0 : Nat) (h : Hp) (r : Int32) (hz : Hp), FR_X12 n 0 a0 h = some (r, hz) → Ct l yX12_readAtom M_X12_readAtom (some .boolean) (20 + n) [.ref a0] h 0 0 (some (.int r)) hz) ∧ (∀ (a0 : Nat) (h : Hp) (r : Int32) (hz : Hp), FR_X12 n 1 a0 h = some (r, hz) → Ct l yX12_readAllOf M_X12_readAllOf (some .boolean) (20 + n) [.ref a0] h 0 0 (some (.int r)) hz) ∧ (∀ (a0 : Nat) (h : Hp) (r : Int32) (hz : Hp), FR_X12 n 2 a0 h = some (r, hz) → Ct l yX12_readCond M_X12_readCond (some .boolean) (20 + n) [.ref a0] h 0 0 (some (.int r)) hz)
  | 0 => ⟨(fun _ _ _ _ e => by cases e), (fun _ _ _ _ e => by cases e), (fun _ _ _ _ e => by cases e)⟩
  | n + 1 => by
    obtain ⟨k0, k1, k2⟩ := cR_X12 l n
    refine ⟨?_, ?_, ?_⟩
    · intro a0 h r hz e
      have e : F_X12_readAtom_b0 (FR_X12 n) a0 h = some (r, hz) := e
      refine Ct_of rfl rfl (fun q => by cases q) (Nat.le_of_ble_eq_true rfl) (fun x hx hF => ?_)
      subst hx
      rw [show 20 + (n + 1) = (20 + n) + 1 by omega]
      exact V_pick [0] rfl (r_X12_readAtom_b0 (FR_X12 n) a0 h e (by omega) k0 k1 k2 hF)
    · intro a0 h r hz e
      have e : F_X12_readAllOf_b0 (FR_X12 n) a0 h = some (r, hz) := e
      refine Ct_of rfl rfl (fun q => by cases q) (Nat.le_of_ble_eq_true rfl) (fun x hx hF => ?_)
      subst hx
      rw [show 20 + (n + 1) = (20 + n) + 1 by omega]
      exact V_pick [0] rfl (r_X12_readAllOf_b0 (FR_X12 n) a0 h e (by omega) k0 k1 k2 hF)
    · intro a0 h r hz e
      have e : F_X12_readCond_b0 (FR_X12 n) a0 h = some (r, hz) := e
      refine Ct_of rfl rfl (fun q => by cases q) (Nat.le_of_ble_eq_true rfl) (fun x hx hF => ?_)
      subst hx
      rw [show 20 + (n + 1) = (20 + n) + 1 by omega]
      exact V_pick [0] rfl (r_X12_readCond_b0 (FR_X12 n) a0 h e (by omega) k0 k1 k2 hF)
def F_X12_readAtom (a0 : Nat) (h : Hp) : Option (Int32 × Hp) := FR_X12 40 0 a0 h
theorem c_X12_readAtom {l : Launch} (a0 : Nat) (h : Hp) {r : Int32} {hz : Hp} (e : F_X12_readAtom a0 h = some (r, hz)) : Ct l yX12_readAtom M_X12_readAtom (some .boolean) 60 [.ref a0] h 0 0 (some (.int r)) hz := (cR_X12 l 40).1 a0 h r hz e
def F_X12_readAllOf (a0 : Nat) (h : Hp) : Option (Int32 × Hp) := FR_X12 40 1 a0 h
theorem c_X12_readAllOf {l : Launch} (a0 : Nat) (h : Hp) {r : Int32} {hz : Hp} (e : F_X12_readAllOf a0 h = some (r, hz)) : Ct l yX12_readAllOf M_X12_readAllOf (some .boolean) 60 [.ref a0] h 0 0 (some (.int r)) hz := (cR_X12 l 40).2.1 a0 h r hz e
def F_X12_readCond (a0 : Nat) (h : Hp) : Option (Int32 × Hp) := FR_X12 40 2 a0 h
theorem c_X12_readCond {l : Launch} (a0 : Nat) (h : Hp) {r : Int32} {hz : Hp} (e : F_X12_readCond a0 h = some (r, hz)) : Ct l yX12_readCond M_X12_readCond (some .boolean) 60 [.ref a0] h 0 0 (some (.int r)) hz := (cR_X12 l 40).2.2 a0 h r hz e
theorem dX12_readWish_0 : decode cX12_readWish 0 = .ok (.aload_n 0, 1) := by decide +kernel
theorem dX12_readWish_1 : decode cX12_readWish 1 = .ok (.ldc 221, 2) := by decide +kernel
theorem dX12_readWish_3 : decode cX12_readWish 3 = .ok (.invokevirtual 111, 3) := by decide +kernel
theorem dX12_readWish_6 : decode cX12_readWish 6 = .ok (.ifCond .ne 5, 3) := by decide +kernel
theorem dX12_readWish_9 : decode cX12_readWish 9 = .ok (.iconst 0, 1) := by decide +kernel
theorem dX12_readWish_10 : decode cX12_readWish 10 = .ok (.ireturn, 1) := by decide +kernel
theorem dX12_readWish_11 : decode cX12_readWish 11 = .ok (.aload_n 0, 1) := by decide +kernel
theorem dX12_readWish_12 : decode cX12_readWish 12 = .ok (.getfield 13, 3) := by decide +kernel
theorem dX12_readWish_15 : decode cX12_readWish 15 = .ok (.sipush 4233, 3) := by decide +kernel
theorem dX12_readWish_18 : decode cX12_readWish 18 = .ok (.iconst 2, 1) := by decide +kernel
theorem dX12_readWish_19 : decode cX12_readWish 19 = .ok (.iload_n 1, 1) := by decide +kernel
theorem dX12_readWish_20 : decode cX12_readWish 20 = .ok (.imul, 1) := by decide +kernel
theorem dX12_readWish_21 : decode cX12_readWish 21 = .ok (.iadd, 1) := by decide +kernel
theorem dX12_readWish_22 : decode cX12_readWish 22 = .ok (.aload_n 0, 1) := by decide +kernel
theorem dX12_readWish_23 : decode cX12_readWish 23 = .ok (.getfield 173, 3) := by decide +kernel
theorem dX12_readWish_26 : decode cX12_readWish 26 = .ok (.iastore, 1) := by decide +kernel
theorem dX12_readWish_27 : decode cX12_readWish 27 = .ok (.aload_n 0, 1) := by decide +kernel
theorem dX12_readWish_28 : decode cX12_readWish 28 = .ok (.iconst 0, 1) := by decide +kernel
theorem dX12_readWish_29 : decode cX12_readWish 29 = .ok (.putfield 193, 3) := by decide +kernel
theorem dX12_readWish_32 : decode cX12_readWish 32 = .ok (.aload_n 0, 1) := by decide +kernel
theorem dX12_readWish_33 : decode cX12_readWish 33 = .ok (.invokevirtual 196, 3) := by decide +kernel
theorem dX12_readWish_36 : decode cX12_readWish 36 = .ok (.ifCond .ne 5, 3) := by decide +kernel
theorem dX12_readWish_39 : decode cX12_readWish 39 = .ok (.iconst 0, 1) := by decide +kernel
theorem dX12_readWish_40 : decode cX12_readWish 40 = .ok (.ireturn, 1) := by decide +kernel
theorem dX12_readWish_41 : decode cX12_readWish 41 = .ok (.aload_n 0, 1) := by decide +kernel
theorem dX12_readWish_42 : decode cX12_readWish 42 = .ok (.getfield 13, 3) := by decide +kernel
theorem dX12_readWish_45 : decode cX12_readWish 45 = .ok (.sipush 4234, 3) := by decide +kernel
theorem dX12_readWish_48 : decode cX12_readWish 48 = .ok (.iconst 2, 1) := by decide +kernel
theorem dX12_readWish_49 : decode cX12_readWish 49 = .ok (.iload_n 1, 1) := by decide +kernel
theorem dX12_readWish_50 : decode cX12_readWish 50 = .ok (.imul, 1) := by decide +kernel
theorem dX12_readWish_51 : decode cX12_readWish 51 = .ok (.iadd, 1) := by decide +kernel
theorem dX12_readWish_52 : decode cX12_readWish 52 = .ok (.aload_n 0, 1) := by decide +kernel
theorem dX12_readWish_53 : decode cX12_readWish 53 = .ok (.getfield 173, 3) := by decide +kernel
theorem dX12_readWish_56 : decode cX12_readWish 56 = .ok (.iastore, 1) := by decide +kernel
theorem dX12_readWish_57 : decode cX12_readWish 57 = .ok (.iconst 1, 1) := by decide +kernel
theorem dX12_readWish_58 : decode cX12_readWish 58 = .ok (.ireturn, 1) := by decide +kernel
set_option maxRecDepth 100000 in
def F_X12_readWish_b0 (v0 : Nat) (v1 : Int32) (h : Hp) : Option (Int32 × Hp) :=
  ob (F_X12_isWord v0 (53 : UInt32) h) fun r2 => gd (decide (kd h v0 = 11)) <| (if r2 = 0 then some ((0 : Int32), h) else ob (zR h v0 1) fun q4 => gd (decide (kd h q4 = 13)) <| gd (ix ((4233 : Int32) + ((2 : Int32) * v1)) (zl h q4)) <| ob2 (F_X12_readCond v0 (setI (setI h q4 ((4233 : Int32) + ((2 : Int32) * v1)).toNatClampNeg (zI h v0 13)) v0 10 (0 : Int32))) fun r9 h10 => (if r9 = 0 then some ((0 : Int32), h10) else gd (decide (kd h10 v0 = 11)) <| ob (zR h10 v0 1) fun q12 => gd (decide (kd h10 q12 = 13)) <| gd (ix ((4234 : Int32) + ((2 : Int32) * v1)) (zl h10 q12)) <| some ((1 : Int32), setI h10 q12 ((4234 : Int32) + ((2 : Int32) * v1)).toNatClampNeg (zI h10 v0 13))))
set_option maxHeartbeats 4000000 in
set_option maxRecDepth 100000 in
theorem r_X12_readWish_b0 (v0 : Nat) (v1 : Int32) (h : Hp) {x : Cx} {r : Int32} {hz : Hp} (e : F_X12_readWish_b0 v0 v1 h = some (r, hz)) (hF : Fin9 M_X12_readWish x (some .boolean) (some (.int r)) hz) : V M_X12_readWish x 61 0 [(0, .ref v0), (1, .int v1)] [] h 0 0 := by
  unfold F_X12_readWish_b0 at e
  refine V_aload_n (pc := 0) (i := 0) dX12_readWish_0 rfl rfl ?_
  refine V_ldcS (pc := 1) (j := 53) (u := (53 : UInt32)) dX12_readWish_1 rfl (by decide) ?_
  obtain ⟨r2, g1, e⟩ := ob_some e
  obtain ⟨g3, e⟩ := gd_some e
  refine V_callV (pc := 3) (bc := 0) (bs := 0) (mc := 0) (ms := 0) (st := []) (As := [.float (53 : UInt32)]) (a := v0) (h' := h) (r := some (.int r2)) dX12_readWish_3 ml_X12_111 (ci := 11) rfl (of_decide_eq_true g3) rfl rfl (Nat.le_of_ble_eq_true rfl) (d' := 4) (by decide) (c_X12_isWord (l := x.2.1) v0 (53 : UInt32) h g1) ?_
  refine V_if_ne (pc := 6) (tgt := 11) dX12_readWish_6 (by decide) (fun c17 => ?_) (fun c17 => ?_)
  · rw [if_neg c17] at e
    refine V_pick [0, 1] rfl ?_
    refine V_aload_n (pc := 11) (i := 0) dX12_readWish_11 rfl rfl ?_
    obtain ⟨q4, g5, e⟩ := ob_some e
    refine V_getR (pc := 12) (ci := 11) (k := 1) (b := q4) dX12_readWish_12 fl_X12_13 rfl (of_decide_eq_true g3) g5 ?_
    refine V_sipush (pc := 15) (v := (4233 : Int32)) dX12_readWish_15 (by decide) ?_
    refine V_iconst (pc := 18) (v := (2 : Int32)) dX12_readWish_18 (by decide) ?_
    refine V_iload_n (pc := 19) (i := 1) dX12_readWish_19 rfl rfl ?_
    refine V_imul (pc := 20) dX12_readWish_20 ?_
    refine V_iadd (pc := 21) dX12_readWish_21 ?_
    refine V_aload_n (pc := 22) (i := 0) dX12_readWish_22 rfl rfl ?_
    refine V_getI (pc := 23) (ci := 11) (k := 13) dX12_readWish_23 fl_X12_173 rfl (of_decide_eq_true g3) ?_
    obtain ⟨g6, e⟩ := gd_some e
    obtain ⟨g7, e⟩ := gd_some e
    refine V_iast (pc := 26) dX12_readWish_26 (of_decide_eq_true g6) (ix_in g7) ?_
    refine V_aload_n (pc := 27) (i := 0) dX12_readWish_27 rfl rfl ?_
    refine V_iconst (pc := 28) (v := (0 : Int32)) dX12_readWish_28 (by decide) ?_
    refine V_putI (pc := 29) (ci := 11) (k := 10) dX12_readWish_29 fp_X12_193 rfl (kd_sI (of_decide_eq_true g3)) ?_
    refine V_aload_n (pc := 32) (i := 0) dX12_readWish_32 rfl rfl ?_
    obtain ⟨r9, h10, g8, e⟩ := ob2_some e
    refine V_callV (pc := 33) (bc := 0) (bs := 0) (mc := 0) (ms := 0) (st := []) (As := []) (a := v0) (h' := h10) (r := some (.int r9)) dX12_readWish_33 ml_X12_196 (ci := 11) rfl (kd_sI (kd_sI (of_decide_eq_true g3))) rfl rfl (Nat.le_of_ble_eq_true rfl) (d' := 60) (by decide) (c_X12_readCond (l := x.2.1) v0 (setI (setI h q4 ((4233 : Int32) + ((2 : Int32) * v1)).toNatClampNeg (zI h v0 13)) v0 10 (0 : Int32)) g8) ?_
    refine V_if_ne (pc := 36) (tgt := 41) dX12_readWish_36 (by decide) (fun c16 => ?_) (fun c16 => ?_)
    · rw [if_neg c16] at e
      refine V_pick [0, 1] rfl ?_
      refine V_aload_n (pc := 41) (i := 0) dX12_readWish_41 rfl rfl ?_
      obtain ⟨g11, e⟩ := gd_some e
      obtain ⟨q12, g13, e⟩ := ob_some e
      refine V_getR (pc := 42) (ci := 11) (k := 1) (b := q12) dX12_readWish_42 fl_X12_13 rfl (of_decide_eq_true g11) g13 ?_
      refine V_sipush (pc := 45) (v := (4234 : Int32)) dX12_readWish_45 (by decide) ?_
      refine V_iconst (pc := 48) (v := (2 : Int32)) dX12_readWish_48 (by decide) ?_
      refine V_iload_n (pc := 49) (i := 1) dX12_readWish_49 rfl rfl ?_
      refine V_imul (pc := 50) dX12_readWish_50 ?_
      refine V_iadd (pc := 51) dX12_readWish_51 ?_
      refine V_aload_n (pc := 52) (i := 0) dX12_readWish_52 rfl rfl ?_
      refine V_getI (pc := 53) (ci := 11) (k := 13) dX12_readWish_53 fl_X12_173 rfl (of_decide_eq_true g11) ?_
      obtain ⟨g14, e⟩ := gd_some e
      obtain ⟨g15, e⟩ := gd_some e
      refine V_iast (pc := 56) dX12_readWish_56 (of_decide_eq_true g14) (ix_in g15) ?_
      refine V_iconst (pc := 57) (v := (1 : Int32)) dX12_readWish_57 (by decide) ?_
      cases e
      exact V_zret (pc := 58) dX12_readWish_58 rfl hF
    · rw [if_pos c16] at e
      refine V_pick [] rfl ?_
      refine V_iconst (pc := 39) (v := (0 : Int32)) dX12_readWish_39 (by decide) ?_
      cases e
      exact V_zret (pc := 40) dX12_readWish_40 rfl hF
  · rw [if_pos c17] at e
    refine V_pick [] rfl ?_
    refine V_iconst (pc := 9) (v := (0 : Int32)) dX12_readWish_9 (by decide) ?_
    cases e
    exact V_zret (pc := 10) dX12_readWish_10 rfl hF
def F_X12_readWish (v0 : Nat) (v1 : Int32) (h : Hp) : Option (Int32 × Hp) := F_X12_readWish_b0 v0 v1 h
theorem c_X12_readWish {l : Launch} (v0 : Nat) (v1 : Int32) (h : Hp) {r : Int32} {hz : Hp} (e : F_X12_readWish v0 v1 h = some (r, hz)) : Ct l yX12_readWish M_X12_readWish (some .boolean) 61 [.ref v0, .int v1] h 0 0 (some (.int r)) hz :=
  Ct_of rfl rfl (fun q => by cases q) (Nat.le_of_ble_eq_true rfl) (fun x _ hF => V_pick [0, 1] rfl (r_X12_readWish_b0 v0 v1 h e hF))
theorem dX12_readPage_0 : decode cX12_readPage 0 = .ok (.aload_n 0, 1) := by decide +kernel
theorem dX12_readPage_1 : decode cX12_readPage 1 = .ok (.ldc 223, 2) := by decide +kernel
theorem dX12_readPage_3 : decode cX12_readPage 3 = .ok (.invokevirtual 111, 3) := by decide +kernel
theorem dX12_readPage_6 : decode cX12_readPage 6 = .ok (.ifCond .ne 5, 3) := by decide +kernel
theorem dX12_readPage_9 : decode cX12_readPage 9 = .ok (.iconst 0, 1) := by decide +kernel
theorem dX12_readPage_10 : decode cX12_readPage 10 = .ok (.ireturn, 1) := by decide +kernel
theorem dX12_readPage_11 : decode cX12_readPage 11 = .ok (.aload_n 0, 1) := by decide +kernel
theorem dX12_readPage_12 : decode cX12_readPage 12 = .ok (.getfield 33, 3) := by decide +kernel
theorem dX12_readPage_15 : decode cX12_readPage 15 = .ok (.iconst 3, 1) := by decide +kernel
theorem dX12_readPage_16 : decode cX12_readPage 16 = .ok (.iload_n 1, 1) := by decide +kernel
theorem dX12_readPage_17 : decode cX12_readPage 17 = .ok (.imul, 1) := by decide +kernel
theorem dX12_readPage_18 : decode cX12_readPage 18 = .ok (.aload_n 0, 1) := by decide +kernel
theorem dX12_readPage_19 : decode cX12_readPage 19 = .ok (.iload_n 1, 1) := by decide +kernel
theorem dX12_readPage_20 : decode cX12_readPage 20 = .ok (.ifCond .ne 7, 3) := by decide +kernel
theorem dX12_readPage_23 : decode cX12_readPage 23 = .ok (.iconst 0, 1) := by decide +kernel
theorem dX12_readPage_24 : decode cX12_readPage 24 = .ok (.goto 13, 3) := by decide +kernel
theorem dX12_readPage_27 : decode cX12_readPage 27 = .ok (.aload_n 0, 1) := by decide +kernel
theorem dX12_readPage_28 : decode cX12_readPage 28 = .ok (.getfield 33, 3) := by decide +kernel
theorem dX12_readPage_31 : decode cX12_readPage 31 = .ok (.iconst 3, 1) := by decide +kernel
theorem dX12_readPage_32 : decode cX12_readPage 32 = .ok (.iload_n 1, 1) := by decide +kernel
theorem dX12_readPage_33 : decode cX12_readPage 33 = .ok (.imul, 1) := by decide +kernel
theorem dX12_readPage_34 : decode cX12_readPage 34 = .ok (.iconst 3, 1) := by decide +kernel
theorem dX12_readPage_35 : decode cX12_readPage 35 = .ok (.isub, 1) := by decide +kernel
theorem dX12_readPage_36 : decode cX12_readPage 36 = .ok (.iaload, 1) := by decide +kernel
theorem dX12_readPage_37 : decode cX12_readPage 37 = .ok (.sipush 999, 3) := by decide +kernel
theorem dX12_readPage_40 : decode cX12_readPage 40 = .ok (.invokevirtual 115, 3) := by decide +kernel
theorem dX12_readPage_43 : decode cX12_readPage 43 = .ok (.iastore, 1) := by decide +kernel
theorem dX12_readPage_44 : decode cX12_readPage 44 = .ok (.aload_n 0, 1) := by decide +kernel
theorem dX12_readPage_45 : decode cX12_readPage 45 = .ok (.getfield 33, 3) := by decide +kernel
theorem dX12_readPage_48 : decode cX12_readPage 48 = .ok (.iconst 3, 1) := by decide +kernel
theorem dX12_readPage_49 : decode cX12_readPage 49 = .ok (.iload_n 1, 1) := by decide +kernel
theorem dX12_readPage_50 : decode cX12_readPage 50 = .ok (.imul, 1) := by decide +kernel
theorem dX12_readPage_51 : decode cX12_readPage 51 = .ok (.iconst 1, 1) := by decide +kernel
theorem dX12_readPage_52 : decode cX12_readPage 52 = .ok (.iadd, 1) := by decide +kernel
theorem dX12_readPage_53 : decode cX12_readPage 53 = .ok (.aload_n 0, 1) := by decide +kernel
theorem dX12_readPage_54 : decode cX12_readPage 54 = .ok (.getfield 33, 3) := by decide +kernel
theorem dX12_readPage_57 : decode cX12_readPage 57 = .ok (.iconst 3, 1) := by decide +kernel
theorem dX12_readPage_58 : decode cX12_readPage 58 = .ok (.iload_n 1, 1) := by decide +kernel
theorem dX12_readPage_59 : decode cX12_readPage 59 = .ok (.imul, 1) := by decide +kernel
theorem dX12_readPage_60 : decode cX12_readPage 60 = .ok (.iaload, 1) := by decide +kernel
theorem dX12_readPage_61 : decode cX12_readPage 61 = .ok (.ifCond .ge 7, 3) := by decide +kernel
theorem dX12_readPage_64 : decode cX12_readPage 64 = .ok (.iconst (-1), 1) := by decide +kernel
theorem dX12_readPage_65 : decode cX12_readPage 65 = .ok (.goto 14, 3) := by decide +kernel
theorem dX12_readPage_68 : decode cX12_readPage 68 = .ok (.aload_n 0, 1) := by decide +kernel
theorem dX12_readPage_69 : decode cX12_readPage 69 = .ok (.iconst 0, 1) := by decide +kernel
theorem dX12_readPage_70 : decode cX12_readPage 70 = .ok (.aload_n 0, 1) := by decide +kernel
theorem dX12_readPage_71 : decode cX12_readPage 71 = .ok (.invokevirtual 68, 3) := by decide +kernel
theorem dX12_readPage_74 : decode cX12_readPage 74 = .ok (.iconst 1, 1) := by decide +kernel
theorem dX12_readPage_75 : decode cX12_readPage 75 = .ok (.isub, 1) := by decide +kernel
theorem dX12_readPage_76 : decode cX12_readPage 76 = .ok (.invokevirtual 115, 3) := by decide +kernel
theorem dX12_readPage_79 : decode cX12_readPage 79 = .ok (.iastore, 1) := by decide +kernel
theorem dX12_readPage_80 : decode cX12_readPage 80 = .ok (.aload_n 0, 1) := by decide +kernel
theorem dX12_readPage_81 : decode cX12_readPage 81 = .ok (.getfield 33, 3) := by decide +kernel
theorem dX12_readPage_84 : decode cX12_readPage 84 = .ok (.iconst 3, 1) := by decide +kernel
theorem dX12_readPage_85 : decode cX12_readPage 85 = .ok (.iload_n 1, 1) := by decide +kernel
theorem dX12_readPage_86 : decode cX12_readPage 86 = .ok (.imul, 1) := by decide +kernel
theorem dX12_readPage_87 : decode cX12_readPage 87 = .ok (.iconst 1, 1) := by decide +kernel
theorem dX12_readPage_88 : decode cX12_readPage 88 = .ok (.iadd, 1) := by decide +kernel
theorem dX12_readPage_89 : decode cX12_readPage 89 = .ok (.iaload, 1) := by decide +kernel
theorem dX12_readPage_90 : decode cX12_readPage 90 = .ok (.ifCond .lt 12, 3) := by decide +kernel
theorem dX12_readPage_93 : decode cX12_readPage 93 = .ok (.aload_n 0, 1) := by decide +kernel
theorem dX12_readPage_94 : decode cX12_readPage 94 = .ok (.ldc 129, 2) := by decide +kernel
theorem dX12_readPage_96 : decode cX12_readPage 96 = .ok (.invokevirtual 123, 3) := by decide +kernel
theorem dX12_readPage_99 : decode cX12_readPage 99 = .ok (.ifCond .ne 5, 3) := by decide +kernel
theorem dX12_readPage_102 : decode cX12_readPage 102 = .ok (.iconst 0, 1) := by decide +kernel
theorem dX12_readPage_103 : decode cX12_readPage 103 = .ok (.ireturn, 1) := by decide +kernel
theorem dX12_readPage_104 : decode cX12_readPage 104 = .ok (.aload_n 0, 1) := by decide +kernel
theorem dX12_readPage_105 : decode cX12_readPage 105 = .ok (.getfield 33, 3) := by decide +kernel
theorem dX12_readPage_108 : decode cX12_readPage 108 = .ok (.iconst 3, 1) := by decide +kernel
theorem dX12_readPage_109 : decode cX12_readPage 109 = .ok (.iload_n 1, 1) := by decide +kernel
theorem dX12_readPage_110 : decode cX12_readPage 110 = .ok (.imul, 1) := by decide +kernel
theorem dX12_readPage_111 : decode cX12_readPage 111 = .ok (.iconst 2, 1) := by decide +kernel
theorem dX12_readPage_112 : decode cX12_readPage 112 = .ok (.iadd, 1) := by decide +kernel
theorem dX12_readPage_113 : decode cX12_readPage 113 = .ok (.aload_n 0, 1) := by decide +kernel
theorem dX12_readPage_114 : decode cX12_readPage 114 = .ok (.invokevirtual 126, 3) := by decide +kernel
theorem dX12_readPage_117 : decode cX12_readPage 117 = .ok (.iastore, 1) := by decide +kernel
theorem dX12_readPage_118 : decode cX12_readPage 118 = .ok (.aload_n 0, 1) := by decide +kernel
theorem dX12_readPage_119 : decode cX12_readPage 119 = .ok (.getfield 33, 3) := by decide +kernel
theorem dX12_readPage_122 : decode cX12_readPage 122 = .ok (.iconst 3, 1) := by decide +kernel
theorem dX12_readPage_123 : decode cX12_readPage 123 = .ok (.iload_n 1, 1) := by decide +kernel
theorem dX12_readPage_124 : decode cX12_readPage 124 = .ok (.imul, 1) := by decide +kernel
theorem dX12_readPage_125 : decode cX12_readPage 125 = .ok (.iconst 2, 1) := by decide +kernel
theorem dX12_readPage_126 : decode cX12_readPage 126 = .ok (.iadd, 1) := by decide +kernel
theorem dX12_readPage_127 : decode cX12_readPage 127 = .ok (.iaload, 1) := by decide +kernel
theorem dX12_readPage_128 : decode cX12_readPage 128 = .ok (.ifCond .lt 7, 3) := by decide +kernel
theorem dX12_readPage_131 : decode cX12_readPage 131 = .ok (.iconst 1, 1) := by decide +kernel
theorem dX12_readPage_132 : decode cX12_readPage 132 = .ok (.goto 4, 3) := by decide +kernel
theorem dX12_readPage_135 : decode cX12_readPage 135 = .ok (.iconst 0, 1) := by decide +kernel
theorem dX12_readPage_136 : decode cX12_readPage 136 = .ok (.ireturn, 1) := by decide +kernel
set_option maxRecDepth 100000 in
def F_X12_readPage_b102  (h : Hp) : Option (Int32 × Hp) :=
  some ((0 : Int32), h)
set_option maxHeartbeats 4000000 in
set_option maxRecDepth 100000 in
theorem r_X12_readPage_b102  (h : Hp) {x : Cx} {r : Int32} {hz : Hp} (e : F_X12_readPage_b102  h = some (r, hz)) (hF : Fin9 M_X12_readPage x (some .boolean) (some (.int r)) hz) : V M_X12_readPage x 6 102 [] [] h 0 0 := by
  unfold F_X12_readPage_b102 at e
  refine V_iconst (pc := 102) (v := (0 : Int32)) dX12_readPage_102 (by decide) ?_
  cases e
  exact V_zret (pc := 103) dX12_readPage_103 rfl hF
set_option maxRecDepth 100000 in
def F_X12_readPage_b136 (t0 : Int32) (h : Hp) : Option (Int32 × Hp) :=
  gd (decide (t0 = 0 ∨ t0 = 1)) <| some (t0, h)
set_option maxHeartbeats 4000000 in
set_option maxRecDepth 100000 in
theorem r_X12_readPage_b136 (t0 : Int32) (h : Hp) {x : Cx} {r : Int32} {hz : Hp} (e : F_X12_readPage_b136 t0 h = some (r, hz)) (hF : Fin9 M_X12_readPage x (some .boolean) (some (.int r)) hz) : V M_X12_readPage x 6 136 [] [.int t0] h 0 0 := by
  unfold F_X12_readPage_b136 at e
  obtain ⟨g51, e⟩ := gd_some e
  cases e
  exact V_zret (pc := 136) dX12_readPage_136 (z01 (of_decide_eq_true g51)) hF
set_option maxRecDepth 100000 in
def F_X12_readPage_b79 (v0 : Nat) (v1 : Int32) (t0 : Nat) (t1 : Int32) (t2 : Int32) (h : Hp) : Option (Int32 × Hp) :=
  gd (decide (kd h t0 = 13)) <| gd (ix t1 (zl h t0)) <| gd (decide (kd (setI h t0 (t1).toNatClampNeg t2) v0 = 11)) <| ob (zR (setI h t0 (t1).toNatClampNeg t2) v0 14) fun q31 => gd (decide (kd (setI h t0 (t1).toNatClampNeg t2) q31 = 13)) <| gd (ix (((3 : Int32) * v1) + (1 : Int32)) (zl (setI h t0 (t1).toNatClampNeg t2) q31)) <| (if (zI (setI h t0 (t1).toNatClampNeg t2) q31 (((3 : Int32) * v1) + (1 : Int32)).toNatClampNeg) < 0 then F_X12_readPage_b102 (setI h t0 (t1).toNatClampNeg t2) else ob2 (F_X12_needs v0 (46 : UInt32) (setI h t0 (t1).toNatClampNeg t2)) fun r36 h37 => (if r36 = 0 then F_X12_readPage_b102 h37 else gd (decide (kd h37 v0 = 11)) <| ob (zR h37 v0 14) fun q39 => ob2 (F_X12_roomTold v0 h37) fun r42 h43 => gd (decide (kd h43 q39 = 13)) <| gd (ix (((3 : Int32) * v1) + (2 : Int32)) (zl h43 q39)) <| gd (decide (kd (setI h43 q39 (((3 : Int32) * v1) + (2 : Int32)).toNatClampNeg r42) v0 = 11)) <| ob (zR (setI h43 q39 (((3 : Int32) * v1) + (2 : Int32)).toNatClampNeg r42) v0 14) fun q47 => gd (decide (kd (setI h43 q39 (((3 : Int32) * v1) + (2 : Int32)).toNatClampNeg r42) q47 = 13)) <| gd (ix (((3 : Int32) * v1) + (2 : Int32)) (zl (setI h43 q39 (((3 : Int32) * v1) + (2 : Int32)).toNatClampNeg r42) q47)) <| (if (zI (setI h43 q39 (((3 : Int32) * v1) + (2 : Int32)).toNatClampNeg r42) q47 (((3 : Int32) * v1) + (2 : Int32)).toNatClampNeg) < 0 then F_X12_readPage_b136 (0 : Int32) (setI h43 q39 (((3 : Int32) * v1) + (2 : Int32)).toNatClampNeg r42) else F_X12_readPage_b136 (1 : Int32) (setI h43 q39 (((3 : Int32) * v1) + (2 : Int32)).toNatClampNeg r42))))
set_option maxHeartbeats 4000000 in
set_option maxRecDepth 100000 in
theorem r_X12_readPage_b79 (v0 : Nat) (v1 : Int32) (t0 : Nat) (t1 : Int32) (t2 : Int32) (h : Hp) {x : Cx} {r : Int32} {hz : Hp} (e : F_X12_readPage_b79 v0 v1 t0 t1 t2 h = some (r, hz)) (hF : Fin9 M_X12_readPage x (some .boolean) (some (.int r)) hz) : V M_X12_readPage x 6 79 [(0, .ref v0), (1, .int v1)] [.int t2, .int t1, .ref t0] h 0 0 := by
  unfold F_X12_readPage_b79 at e
  obtain ⟨g28, e⟩ := gd_some e
  obtain ⟨g29, e⟩ := gd_some e
  refine V_iast (pc := 79) dX12_readPage_79 (of_decide_eq_true g28) (ix_in g29) ?_
  refine V_aload_n (pc := 80) (i := 0) dX12_readPage_80 rfl rfl ?_
  obtain ⟨g30, e⟩ := gd_some e
  obtain ⟨q31, g32, e⟩ := ob_some e
  refine V_getR (pc := 81) (ci := 11) (k := 14) (b := q31) dX12_readPage_81 fl_X12_33 rfl (of_decide_eq_true g30) g32 ?_
  refine V_iconst (pc := 84) (v := (3 : Int32)) dX12_readPage_84 (by decide) ?_
  refine V_iload_n (pc := 85) (i := 1) dX12_readPage_85 rfl rfl ?_
  refine V_imul (pc := 86) dX12_readPage_86 ?_
  refine V_iconst (pc := 87) (v := (1 : Int32)) dX12_readPage_87 (by decide) ?_
  refine V_iadd (pc := 88) dX12_readPage_88 ?_
  obtain ⟨g33, e⟩ := gd_some e
  obtain ⟨g34, e⟩ := gd_some e
  refine V_iald (pc := 89) dX12_readPage_89 (of_decide_eq_true g33) (ix_in g34) ?_
  refine V_if_lt (pc := 90) (tgt := 102) dX12_readPage_90 (by decide) (fun c54 => ?_) (fun c54 => ?_)
  · rw [if_pos c54] at e
    exact V_pick [] rfl (r_X12_readPage_b102 (setI h t0 (t1).toNatClampNeg t2) e hF)
  · rw [if_neg c54] at e
    refine V_pick [0, 1] rfl ?_
    refine V_aload_n (pc := 93) (i := 0) dX12_readPage_93 rfl rfl ?_
    refine V_ldcS (pc := 94) (j := 46) (u := (46 : UInt32)) dX12_readPage_94 rfl (by decide) ?_
    obtain ⟨r36, h37, g35, e⟩ := ob2_some e
    refine V_callV (pc := 96) (bc := 0) (bs := 0) (mc := 0) (ms := 0) (st := []) (As := [.float (46 : UInt32)]) (a := v0) (h' := h37) (r := some (.int r36)) dX12_readPage_96 ml_X12_123 (ci := 11) rfl (of_decide_eq_true g30) rfl rfl (Nat.le_of_ble_eq_true rfl) (d' := 5) (by decide) (c_X12_needs (l := x.2.1) v0 (46 : UInt32) (setI h t0 (t1).toNatClampNeg t2) g35) ?_
    refine V_if_ne (pc := 99) (tgt := 104) dX12_readPage_99 (by decide) (fun c53 => ?_) (fun c53 => ?_)
    · rw [if_neg c53] at e
      refine V_pick [0, 1] rfl ?_
      refine V_aload_n (pc := 104) (i := 0) dX12_readPage_104 rfl rfl ?_
      obtain ⟨g38, e⟩ := gd_some e
      obtain ⟨q39, g40, e⟩ := ob_some e
      refine V_getR (pc := 105) (ci := 11) (k := 14) (b := q39) dX12_readPage_105 fl_X12_33 rfl (of_decide_eq_true g38) g40 ?_
      refine V_iconst (pc := 108) (v := (3 : Int32)) dX12_readPage_108 (by decide) ?_
      refine V_iload_n (pc := 109) (i := 1) dX12_readPage_109 rfl rfl ?_
      refine V_imul (pc := 110) dX12_readPage_110 ?_
      refine V_iconst (pc := 111) (v := (2 : Int32)) dX12_readPage_111 (by decide) ?_
      refine V_iadd (pc := 112) dX12_readPage_112 ?_
      refine V_aload_n (pc := 113) (i := 0) dX12_readPage_113 rfl rfl ?_
      obtain ⟨r42, h43, g41, e⟩ := ob2_some e
      refine V_callV (pc := 114) (bc := 0) (bs := 0) (mc := 0) (ms := 0) (st := [.int (((3 : Int32) * v1) + (2 : Int32)), .ref q39]) (As := []) (a := v0) (h' := h43) (r := some (.int r42)) dX12_readPage_114 ml_X12_126 (ci := 11) rfl (of_decide_eq_true g38) rfl rfl (Nat.le_of_ble_eq_true rfl) (d' := 3) (by decide) (c_X12_roomTold (l := x.2.1) v0 h37 g41) ?_
      obtain ⟨g44, e⟩ := gd_some e
      obtain ⟨g45, e⟩ := gd_some e
      refine V_iast (pc := 117) dX12_readPage_117 (of_decide_eq_true g44) (ix_in g45) ?_
      refine V_aload_n (pc := 118) (i := 0) dX12_readPage_118 rfl rfl ?_
      obtain ⟨g46, e⟩ := gd_some e
      obtain ⟨q47, g48, e⟩ := ob_some e
      refine V_getR (pc := 119) (ci := 11) (k := 14) (b := q47) dX12_readPage_119 fl_X12_33 rfl (of_decide_eq_true g46) g48 ?_
      refine V_iconst (pc := 122) (v := (3 : Int32)) dX12_readPage_122 (by decide) ?_
      refine V_iload_n (pc := 123) (i := 1) dX12_readPage_123 rfl rfl ?_
      refine V_imul (pc := 124) dX12_readPage_124 ?_
      refine V_iconst (pc := 125) (v := (2 : Int32)) dX12_readPage_125 (by decide) ?_
      refine V_iadd (pc := 126) dX12_readPage_126 ?_
      obtain ⟨g49, e⟩ := gd_some e
      obtain ⟨g50, e⟩ := gd_some e
      refine V_iald (pc := 127) dX12_readPage_127 (of_decide_eq_true g49) (ix_in g50) ?_
      refine V_if_lt (pc := 128) (tgt := 135) dX12_readPage_128 (by decide) (fun c52 => ?_) (fun c52 => ?_)
      · rw [if_pos c52] at e
        refine V_pick [] rfl ?_
        refine V_iconst (pc := 135) (v := (0 : Int32)) dX12_readPage_135 (by decide) ?_
        exact V_pick [] rfl (r_X12_readPage_b136 (0 : Int32) (setI h43 q39 (((3 : Int32) * v1) + (2 : Int32)).toNatClampNeg r42) e hF)
      · rw [if_neg c52] at e
        refine V_pick [] rfl ?_
        refine V_iconst (pc := 131) (v := (1 : Int32)) dX12_readPage_131 (by decide) ?_
        refine V_goto (pc := 132) (tgt := 136) dX12_readPage_132 (by decide) ?_
        exact V_pick [] rfl (r_X12_readPage_b136 (1 : Int32) (setI h43 q39 (((3 : Int32) * v1) + (2 : Int32)).toNatClampNeg r42) e hF)
    · rw [if_pos c53] at e
      exact V_pick [] rfl (r_X12_readPage_b102 h37 e hF)
set_option maxRecDepth 100000 in
def F_X12_readPage_b37 (v0 : Nat) (v1 : Int32) (t0 : Nat) (t1 : Int32) (t2 : Nat) (t3 : Int32) (h : Hp) : Option (Int32 × Hp) :=
  ob2 (F_X12_number t2 t3 (999 : Int32) h) fun r11 h12 => gd (decide (kd h t2 = 11)) <| gd (decide (kd h12 t0 = 13)) <| gd (ix t1 (zl h12 t0)) <| gd (decide (kd (setI h12 t0 (t1).toNatClampNeg r11) v0 = 11)) <| ob (zR (setI h12 t0 (t1).toNatClampNeg r11) v0 14) fun q17 => ob (zR (setI h12 t0 (t1).toNatClampNeg r11) v0 14) fun q19 => gd (decide (kd (setI h12 t0 (t1).toNatClampNeg r11) q19 = 13)) <| gd (ix ((3 : Int32) * v1) (zl (setI h12 t0 (t1).toNatClampNeg r11) q19)) <| (if 0 ≤ (zI (setI h12 t0 (t1).toNatClampNeg r11) q19 ((3 : Int32) * v1).toNatClampNeg) then ob (F_X12_guests v0 (setI h12 t0 (t1).toNatClampNeg r11)) fun r24 => ob2 (F_X12_number v0 (0 : Int32) (r24 - (1 : Int32)) (setI h12 t0 (t1).toNatClampNeg r11)) fun r26 h27 => F_X12_readPage_b79 v0 v1 q17 (((3 : Int32) * v1) + (1 : Int32)) r26 h27 else F_X12_readPage_b79 v0 v1 q17 (((3 : Int32) * v1) + (1 : Int32)) (-1 : Int32) (setI h12 t0 (t1).toNatClampNeg r11))
set_option maxHeartbeats 4000000 in
set_option maxRecDepth 100000 in
theorem r_X12_readPage_b37 (v0 : Nat) (v1 : Int32) (t0 : Nat) (t1 : Int32) (t2 : Nat) (t3 : Int32) (h : Hp) {x : Cx} {r : Int32} {hz : Hp} (e : F_X12_readPage_b37 v0 v1 t0 t1 t2 t3 h = some (r, hz)) (hF : Fin9 M_X12_readPage x (some .boolean) (some (.int r)) hz) : V M_X12_readPage x 6 37 [(0, .ref v0), (1, .int v1)] [.int t3, .ref t2, .int t1, .ref t0] h 0 0 := by
  unfold F_X12_readPage_b37 at e
  refine V_sipush (pc := 37) (v := (999 : Int32)) dX12_readPage_37 (by decide) ?_
  obtain ⟨r11, h12, g10, e⟩ := ob2_some e
  obtain ⟨g13, e⟩ := gd_some e
  refine V_callV (pc := 40) (bc := 0) (bs := 0) (mc := 0) (ms := 0) (st := [.int t1, .ref t0]) (As := [.int t3, .int (999 : Int32)]) (a := t2) (h' := h12) (r := some (.int r11)) dX12_readPage_40 ml_X12_115 (ci := 11) rfl (of_decide_eq_true g13) rfl rfl (Nat.le_of_ble_eq_true rfl) (d' := 2) (by decide) (c_X12_number (l := x.2.1) t2 t3 (999 : Int32) h g10) ?_
  obtain ⟨g14, e⟩ := gd_some e
  obtain ⟨g15, e⟩ := gd_some e
  refine V_iast (pc := 43) dX12_readPage_43 (of_decide_eq_true g14) (ix_in g15) ?_
  refine V_aload_n (pc := 44) (i := 0) dX12_readPage_44 rfl rfl ?_
  obtain ⟨g16, e⟩ := gd_some e
  obtain ⟨q17, g18, e⟩ := ob_some e
  refine V_getR (pc := 45) (ci := 11) (k := 14) (b := q17) dX12_readPage_45 fl_X12_33 rfl (of_decide_eq_true g16) g18 ?_
  refine V_iconst (pc := 48) (v := (3 : Int32)) dX12_readPage_48 (by decide) ?_
  refine V_iload_n (pc := 49) (i := 1) dX12_readPage_49 rfl rfl ?_
  refine V_imul (pc := 50) dX12_readPage_50 ?_
  refine V_iconst (pc := 51) (v := (1 : Int32)) dX12_readPage_51 (by decide) ?_
  refine V_iadd (pc := 52) dX12_readPage_52 ?_
  refine V_aload_n (pc := 53) (i := 0) dX12_readPage_53 rfl rfl ?_
  obtain ⟨q19, g20, e⟩ := ob_some e
  refine V_getR (pc := 54) (ci := 11) (k := 14) (b := q19) dX12_readPage_54 fl_X12_33 rfl (of_decide_eq_true g16) g20 ?_
  refine V_iconst (pc := 57) (v := (3 : Int32)) dX12_readPage_57 (by decide) ?_
  refine V_iload_n (pc := 58) (i := 1) dX12_readPage_58 rfl rfl ?_
  refine V_imul (pc := 59) dX12_readPage_59 ?_
  obtain ⟨g21, e⟩ := gd_some e
  obtain ⟨g22, e⟩ := gd_some e
  refine V_iald (pc := 60) dX12_readPage_60 (of_decide_eq_true g21) (ix_in g22) ?_
  refine V_if_ge (pc := 61) (tgt := 68) dX12_readPage_61 (by decide) (fun c55 => ?_) (fun c55 => ?_)
  · rw [if_pos c55] at e
    refine V_pick [0, 1] rfl ?_
    refine V_aload_n (pc := 68) (i := 0) dX12_readPage_68 rfl rfl ?_
    refine V_iconst (pc := 69) (v := (0 : Int32)) dX12_readPage_69 (by decide) ?_
    refine V_aload_n (pc := 70) (i := 0) dX12_readPage_70 rfl rfl ?_
    obtain ⟨r24, g23, e⟩ := ob_some e
    refine V_callV (pc := 71) (bc := 0) (bs := 0) (mc := 0) (ms := 0) (st := [.int (0 : Int32), .ref v0, .int (((3 : Int32) * v1) + (1 : Int32)), .ref q17]) (As := []) (a := v0) (h' := (setI h12 t0 (t1).toNatClampNeg r11)) (r := some (.int r24)) dX12_readPage_71 ml_X12_68 (ci := 11) rfl (of_decide_eq_true g16) rfl rfl (Nat.le_of_ble_eq_true rfl) (d' := 0) (by decide) (c_X12_guests (l := x.2.1) v0 (setI h12 t0 (t1).toNatClampNeg r11) g23) ?_
    refine V_iconst (pc := 74) (v := (1 : Int32)) dX12_readPage_74 (by decide) ?_
    refine V_isub (pc := 75) dX12_readPage_75 ?_
    obtain ⟨r26, h27, g25, e⟩ := ob2_some e
    refine V_callV (pc := 76) (bc := 0) (bs := 0) (mc := 0) (ms := 0) (st := [.int (((3 : Int32) * v1) + (1 : Int32)), .ref q17]) (As := [.int (0 : Int32), .int (r24 - (1 : Int32))]) (a := v0) (h' := h27) (r := some (.int r26)) dX12_readPage_76 ml_X12_115 (ci := 11) rfl (of_decide_eq_true g16) rfl rfl (Nat.le_of_ble_eq_true rfl) (d' := 2) (by decide) (c_X12_number (l := x.2.1) v0 (0 : Int32) (r24 - (1 : Int32)) (setI h12 t0 (t1).toNatClampNeg r11) g25) ?_
    exact V_pick [0, 1] rfl (r_X12_readPage_b79 v0 v1 q17 (((3 : Int32) * v1) + (1 : Int32)) r26 h27 e hF)
  · rw [if_neg c55] at e
    refine V_pick [0, 1] rfl ?_
    refine V_iconst (pc := 64) (v := (-1 : Int32)) dX12_readPage_64 (by decide) ?_
    refine V_goto (pc := 65) (tgt := 79) dX12_readPage_65 (by decide) ?_
    exact V_pick [0, 1] rfl (r_X12_readPage_b79 v0 v1 q17 (((3 : Int32) * v1) + (1 : Int32)) (-1 : Int32) (setI h12 t0 (t1).toNatClampNeg r11) e hF)
set_option maxRecDepth 100000 in
def F_X12_readPage_b0 (v0 : Nat) (v1 : Int32) (h : Hp) : Option (Int32 × Hp) :=
  ob (F_X12_isWord v0 (63 : UInt32) h) fun r2 => gd (decide (kd h v0 = 11)) <| (if r2 = 0 then some ((0 : Int32), h) else ob (zR h v0 14) fun q4 => (if v1 = 0 then F_X12_readPage_b37 v0 v1 q4 ((3 : Int32) * v1) v0 (0 : Int32) h else ob (zR h v0 14) fun q6 => gd (decide (kd h q6 = 13)) <| gd (ix (((3 : Int32) * v1) - (3 : Int32)) (zl h q6)) <| F_X12_readPage_b37 v0 v1 q4 ((3 : Int32) * v1) v0 (zI h q6 (((3 : Int32) * v1) - (3 : Int32)).toNatClampNeg) h))
set_option maxHeartbeats 4000000 in
set_option maxRecDepth 100000 in
theorem r_X12_readPage_b0 (v0 : Nat) (v1 : Int32) (h : Hp) {x : Cx} {r : Int32} {hz : Hp} (e : F_X12_readPage_b0 v0 v1 h = some (r, hz)) (hF : Fin9 M_X12_readPage x (some .boolean) (some (.int r)) hz) : V M_X12_readPage x 6 0 [(0, .ref v0), (1, .int v1)] [] h 0 0 := by
  unfold F_X12_readPage_b0 at e
  refine V_aload_n (pc := 0) (i := 0) dX12_readPage_0 rfl rfl ?_
  refine V_ldcS (pc := 1) (j := 63) (u := (63 : UInt32)) dX12_readPage_1 rfl (by decide) ?_
  obtain ⟨r2, g1, e⟩ := ob_some e
  obtain ⟨g3, e⟩ := gd_some e
  refine V_callV (pc := 3) (bc := 0) (bs := 0) (mc := 0) (ms := 0) (st := []) (As := [.float (63 : UInt32)]) (a := v0) (h' := h) (r := some (.int r2)) dX12_readPage_3 ml_X12_111 (ci := 11) rfl (of_decide_eq_true g3) rfl rfl (Nat.le_of_ble_eq_true rfl) (d' := 4) (by decide) (c_X12_isWord (l := x.2.1) v0 (63 : UInt32) h g1) ?_
  refine V_if_ne (pc := 6) (tgt := 11) dX12_readPage_6 (by decide) (fun c57 => ?_) (fun c57 => ?_)
  · rw [if_neg c57] at e
    refine V_pick [0, 1] rfl ?_
    refine V_aload_n (pc := 11) (i := 0) dX12_readPage_11 rfl rfl ?_
    obtain ⟨q4, g5, e⟩ := ob_some e
    refine V_getR (pc := 12) (ci := 11) (k := 14) (b := q4) dX12_readPage_12 fl_X12_33 rfl (of_decide_eq_true g3) g5 ?_
    refine V_iconst (pc := 15) (v := (3 : Int32)) dX12_readPage_15 (by decide) ?_
    refine V_iload_n (pc := 16) (i := 1) dX12_readPage_16 rfl rfl ?_
    refine V_imul (pc := 17) dX12_readPage_17 ?_
    refine V_aload_n (pc := 18) (i := 0) dX12_readPage_18 rfl rfl ?_
    refine V_iload_n (pc := 19) (i := 1) dX12_readPage_19 rfl rfl ?_
    refine V_if_ne (pc := 20) (tgt := 27) dX12_readPage_20 (by decide) (fun c56 => ?_) (fun c56 => ?_)
    · rw [if_neg c56] at e
      refine V_pick [0, 1] rfl ?_
      refine V_aload_n (pc := 27) (i := 0) dX12_readPage_27 rfl rfl ?_
      obtain ⟨q6, g7, e⟩ := ob_some e
      refine V_getR (pc := 28) (ci := 11) (k := 14) (b := q6) dX12_readPage_28 fl_X12_33 rfl (of_decide_eq_true g3) g7 ?_
      refine V_iconst (pc := 31) (v := (3 : Int32)) dX12_readPage_31 (by decide) ?_
      refine V_iload_n (pc := 32) (i := 1) dX12_readPage_32 rfl rfl ?_
      refine V_imul (pc := 33) dX12_readPage_33 ?_
      refine V_iconst (pc := 34) (v := (3 : Int32)) dX12_readPage_34 (by decide) ?_
      refine V_isub (pc := 35) dX12_readPage_35 ?_
      obtain ⟨g8, e⟩ := gd_some e
      obtain ⟨g9, e⟩ := gd_some e
      refine V_iald (pc := 36) dX12_readPage_36 (of_decide_eq_true g8) (ix_in g9) ?_
      exact V_pick [0, 1] rfl (r_X12_readPage_b37 v0 v1 q4 ((3 : Int32) * v1) v0 (zI h q6 (((3 : Int32) * v1) - (3 : Int32)).toNatClampNeg) h e hF)
    · rw [if_pos c56] at e
      refine V_pick [0, 1] rfl ?_
      refine V_iconst (pc := 23) (v := (0 : Int32)) dX12_readPage_23 (by decide) ?_
      refine V_goto (pc := 24) (tgt := 37) dX12_readPage_24 (by decide) ?_
      exact V_pick [0, 1] rfl (r_X12_readPage_b37 v0 v1 q4 ((3 : Int32) * v1) v0 (0 : Int32) h e hF)
  · rw [if_pos c57] at e
    refine V_pick [] rfl ?_
    refine V_iconst (pc := 9) (v := (0 : Int32)) dX12_readPage_9 (by decide) ?_
    cases e
    exact V_zret (pc := 10) dX12_readPage_10 rfl hF
def F_X12_readPage (v0 : Nat) (v1 : Int32) (h : Hp) : Option (Int32 × Hp) := F_X12_readPage_b0 v0 v1 h
theorem c_X12_readPage {l : Launch} (v0 : Nat) (v1 : Int32) (h : Hp) {r : Int32} {hz : Hp} (e : F_X12_readPage v0 v1 h = some (r, hz)) : Ct l yX12_readPage M_X12_readPage (some .boolean) 6 [.ref v0, .int v1] h 0 0 (some (.int r)) hz :=
  Ct_of rfl rfl (fun q => by cases q) (Nat.le_of_ble_eq_true rfl) (fun x _ hF => V_pick [0, 1] rfl (r_X12_readPage_b0 v0 v1 h e hF))
theorem dX12_readLine_0 : decode cX12_readLine 0 = .ok (.aload_n 0, 1) := by decide +kernel
theorem dX12_readLine_1 : decode cX12_readLine 1 = .ok (.invokevirtual 108, 3) := by decide +kernel
theorem dX12_readLine_4 : decode cX12_readLine 4 = .ok (.iload_n 2, 1) := by decide +kernel
theorem dX12_readLine_5 : decode cX12_readLine 5 = .ok (.iload_n 1, 1) := by decide +kernel
theorem dX12_readLine_6 : decode cX12_readLine 6 = .ok (.ifCond .ne 8, 3) := by decide +kernel
theorem dX12_readLine_9 : decode cX12_readLine 9 = .ok (.bipush 14, 2) := by decide +kernel
theorem dX12_readLine_11 : decode cX12_readLine 11 = .ok (.goto 15, 3) := by decide +kernel
theorem dX12_readLine_14 : decode cX12_readLine 14 = .ok (.iload_n 1, 1) := by decide +kernel
theorem dX12_readLine_15 : decode cX12_readLine 15 = .ok (.iconst 1, 1) := by decide +kernel
theorem dX12_readLine_16 : decode cX12_readLine 16 = .ok (.if_icmp .ne 8, 3) := by decide +kernel
theorem dX12_readLine_19 : decode cX12_readLine 19 = .ok (.bipush 8, 2) := by decide +kernel
theorem dX12_readLine_21 : decode cX12_readLine 21 = .ok (.goto 5, 3) := by decide +kernel
theorem dX12_readLine_24 : decode cX12_readLine 24 = .ok (.bipush 20, 2) := by decide +kernel
theorem dX12_readLine_26 : decode cX12_readLine 26 = .ok (.if_icmp .ne 5, 3) := by decide +kernel
theorem dX12_readLine_29 : decode cX12_readLine 29 = .ok (.iconst 0, 1) := by decide +kernel
theorem dX12_readLine_30 : decode cX12_readLine 30 = .ok (.ireturn, 1) := by decide +kernel
theorem dX12_readLine_31 : decode cX12_readLine 31 = .ok (.iload_n 1, 1) := by decide +kernel
theorem dX12_readLine_32 : decode cX12_readLine 32 = .ok (.ifCond .ne 10, 3) := by decide +kernel
theorem dX12_readLine_35 : decode cX12_readLine 35 = .ok (.aload_n 0, 1) := by decide +kernel
theorem dX12_readLine_36 : decode cX12_readLine 36 = .ok (.invokevirtual 225, 3) := by decide +kernel
theorem dX12_readLine_39 : decode cX12_readLine 39 = .ok (.goto 21, 3) := by decide +kernel
theorem dX12_readLine_42 : decode cX12_readLine 42 = .ok (.iload_n 1, 1) := by decide +kernel
theorem dX12_readLine_43 : decode cX12_readLine 43 = .ok (.iconst 1, 1) := by decide +kernel
theorem dX12_readLine_44 : decode cX12_readLine 44 = .ok (.if_icmp .ne 11, 3) := by decide +kernel
theorem dX12_readLine_47 : decode cX12_readLine 47 = .ok (.aload_n 0, 1) := by decide +kernel
theorem dX12_readLine_48 : decode cX12_readLine 48 = .ok (.iload_n 2, 1) := by decide +kernel
theorem dX12_readLine_49 : decode cX12_readLine 49 = .ok (.invokevirtual 228, 3) := by decide +kernel
theorem dX12_readLine_52 : decode cX12_readLine 52 = .ok (.goto 8, 3) := by decide +kernel
theorem dX12_readLine_55 : decode cX12_readLine 55 = .ok (.aload_n 0, 1) := by decide +kernel
theorem dX12_readLine_56 : decode cX12_readLine 56 = .ok (.iload_n 2, 1) := by decide +kernel
theorem dX12_readLine_57 : decode cX12_readLine 57 = .ok (.invokevirtual 231, 3) := by decide +kernel
theorem dX12_readLine_60 : decode cX12_readLine 60 = .ok (.ireturn, 1) := by decide +kernel
set_option maxRecDepth 100000 in
def F_X12_readLine_b60 (t0 : Int32) (h : Hp) : Option (Int32 × Hp) :=
  gd (decide (t0 = 0 ∨ t0 = 1)) <| some (t0, h)
set_option maxHeartbeats 4000000 in
set_option maxRecDepth 100000 in
theorem r_X12_readLine_b60 (t0 : Int32) (h : Hp) {x : Cx} {r : Int32} {hz : Hp} (e : F_X12_readLine_b60 t0 h = some (r, hz)) (hF : Fin9 M_X12_readLine x (some .boolean) (some (.int r)) hz) : V M_X12_readLine x 62 60 [] [.int t0] h 0 0 := by
  unfold F_X12_readLine_b60 at e
  obtain ⟨g9, e⟩ := gd_some e
  cases e
  exact V_zret (pc := 60) dX12_readLine_60 (z01 (of_decide_eq_true g9)) hF
set_option maxRecDepth 100000 in
def F_X12_readLine_b26 (v0 : Nat) (v1 : Int32) (v2 : Int32) (t0 : Int32) (t1 : Int32) (h : Hp) : Option (Int32 × Hp) :=
  (if t0 = t1 then some ((0 : Int32), h) else (if v1 = 0 then ob2 (F_X12_readHouseLine v0 h) fun r16 h17 => gd (decide (kd h v0 = 11)) <| F_X12_readLine_b60 r16 h17 else (if v1 = (1 : Int32) then ob2 (F_X12_readWish v0 v2 h) fun r11 h12 => gd (decide (kd h v0 = 11)) <| F_X12_readLine_b60 r11 h12 else ob2 (F_X12_readPage v0 v2 h) fun r6 h7 => gd (decide (kd h v0 = 11)) <| F_X12_readLine_b60 r6 h7)))
set_option maxHeartbeats 4000000 in
set_option maxRecDepth 100000 in
theorem r_X12_readLine_b26 (v0 : Nat) (v1 : Int32) (v2 : Int32) (t0 : Int32) (t1 : Int32) (h : Hp) {x : Cx} {r : Int32} {hz : Hp} (e : F_X12_readLine_b26 v0 v1 v2 t0 t1 h = some (r, hz)) (hF : Fin9 M_X12_readLine x (some .boolean) (some (.int r)) hz) : V M_X12_readLine x 62 26 [(0, .ref v0), (1, .int v1), (2, .int v2)] [.int t1, .int t0] h 0 0 := by
  unfold F_X12_readLine_b26 at e
  refine V_icmp_ne (pc := 26) (tgt := 31) dX12_readLine_26 (by decide) (fun c20 => ?_) (fun c20 => ?_)
  · rw [if_neg c20] at e
    refine V_pick [0, 1, 2] rfl ?_
    refine V_iload_n (pc := 31) (i := 1) dX12_readLine_31 rfl rfl ?_
    refine V_if_ne (pc := 32) (tgt := 42) dX12_readLine_32 (by decide) (fun c19 => ?_) (fun c19 => ?_)
    · rw [if_neg c19] at e
      refine V_pick [0, 1, 2] rfl ?_
      refine V_iload_n (pc := 42) (i := 1) dX12_readLine_42 rfl rfl ?_
      refine V_iconst (pc := 43) (v := (1 : Int32)) dX12_readLine_43 (by decide) ?_
      refine V_icmp_ne (pc := 44) (tgt := 55) dX12_readLine_44 (by decide) (fun c14 => ?_) (fun c14 => ?_)
      · rw [if_neg c14] at e
        refine V_pick [0, 2] rfl ?_
        refine V_aload_n (pc := 55) (i := 0) dX12_readLine_55 rfl rfl ?_
        refine V_iload_n (pc := 56) (i := 2) dX12_readLine_56 rfl rfl ?_
        obtain ⟨r6, h7, g5, e⟩ := ob2_some e
        obtain ⟨g8, e⟩ := gd_some e
        refine V_callV (pc := 57) (bc := 0) (bs := 0) (mc := 0) (ms := 0) (st := []) (As := [.int v2]) (a := v0) (h' := h7) (r := some (.int r6)) dX12_readLine_57 ml_X12_231 (ci := 11) rfl (of_decide_eq_true g8) rfl rfl (Nat.le_of_ble_eq_true rfl) (d' := 6) (by decide) (c_X12_readPage (l := x.2.1) v0 v2 h g5) ?_
        exact V_pick [] rfl (r_X12_readLine_b60 r6 h7 e hF)
      · rw [if_pos c14] at e
        refine V_pick [0, 2] rfl ?_
        refine V_aload_n (pc := 47) (i := 0) dX12_readLine_47 rfl rfl ?_
        refine V_iload_n (pc := 48) (i := 2) dX12_readLine_48 rfl rfl ?_
        obtain ⟨r11, h12, g10, e⟩ := ob2_some e
        obtain ⟨g13, e⟩ := gd_some e
        refine V_callV (pc := 49) (bc := 0) (bs := 0) (mc := 0) (ms := 0) (st := []) (As := [.int v2]) (a := v0) (h' := h12) (r := some (.int r11)) dX12_readLine_49 ml_X12_228 (ci := 11) rfl (of_decide_eq_true g13) rfl rfl (Nat.le_of_ble_eq_true rfl) (d' := 61) (by decide) (c_X12_readWish (l := x.2.1) v0 v2 h g10) ?_
        refine V_goto (pc := 52) (tgt := 60) dX12_readLine_52 (by decide) ?_
        exact V_pick [] rfl (r_X12_readLine_b60 r11 h12 e hF)
    · rw [if_pos c19] at e
      refine V_pick [0] rfl ?_
      refine V_aload_n (pc := 35) (i := 0) dX12_readLine_35 rfl rfl ?_
      obtain ⟨r16, h17, g15, e⟩ := ob2_some e
      obtain ⟨g18, e⟩ := gd_some e
      refine V_callV (pc := 36) (bc := 0) (bs := 0) (mc := 0) (ms := 0) (st := []) (As := []) (a := v0) (h' := h17) (r := some (.int r16)) dX12_readLine_36 ml_X12_225 (ci := 11) rfl (of_decide_eq_true g18) rfl rfl (Nat.le_of_ble_eq_true rfl) (d' := 7) (by decide) (c_X12_readHouseLine (l := x.2.1) v0 h g15) ?_
      refine V_goto (pc := 39) (tgt := 60) dX12_readLine_39 (by decide) ?_
      exact V_pick [] rfl (r_X12_readLine_b60 r16 h17 e hF)
  · rw [if_pos c20] at e
    refine V_pick [] rfl ?_
    refine V_iconst (pc := 29) (v := (0 : Int32)) dX12_readLine_29 (by decide) ?_
    cases e
    exact V_zret (pc := 30) dX12_readLine_30 rfl hF
set_option maxRecDepth 100000 in
def F_X12_readLine_b0 (v0 : Nat) (v1 : Int32) (v2 : Int32) (h : Hp) : Option (Int32 × Hp) :=
  ob2 (F_X12_letters v0 h) fun _ h3 => gd (decide (kd h v0 = 11)) <| (if v1 = 0 then F_X12_readLine_b26 v0 v1 v2 v2 (14 : Int32) h3 else (if v1 = (1 : Int32) then F_X12_readLine_b26 v0 v1 v2 v2 (8 : Int32) h3 else F_X12_readLine_b26 v0 v1 v2 v2 (20 : Int32) h3))
set_option maxHeartbeats 4000000 in
set_option maxRecDepth 100000 in
theorem r_X12_readLine_b0 (v0 : Nat) (v1 : Int32) (v2 : Int32) (h : Hp) {x : Cx} {r : Int32} {hz : Hp} (e : F_X12_readLine_b0 v0 v1 v2 h = some (r, hz)) (hF : Fin9 M_X12_readLine x (some .boolean) (some (.int r)) hz) : V M_X12_readLine x 62 0 [(0, .ref v0), (1, .int v1), (2, .int v2)] [] h 0 0 := by
  unfold F_X12_readLine_b0 at e
  refine V_aload_n (pc := 0) (i := 0) dX12_readLine_0 rfl rfl ?_
  obtain ⟨r2, h3, g1, e⟩ := ob2_some e
  obtain ⟨g4, e⟩ := gd_some e
  refine V_callV (pc := 1) (bc := 0) (bs := 0) (mc := 0) (ms := 0) (st := []) (As := []) (a := v0) (h' := h3) (r := none) dX12_readLine_1 ml_X12_108 (ci := 11) rfl (of_decide_eq_true g4) rfl rfl (Nat.le_of_ble_eq_true rfl) (d' := 2) (by decide) (c_X12_letters (l := x.2.1) v0 h g1) ?_
  refine V_iload_n (pc := 4) (i := 2) dX12_readLine_4 rfl rfl ?_
  refine V_iload_n (pc := 5) (i := 1) dX12_readLine_5 rfl rfl ?_
  refine V_if_ne (pc := 6) (tgt := 14) dX12_readLine_6 (by decide) (fun c22 => ?_) (fun c22 => ?_)
  · rw [if_neg c22] at e
    refine V_pick [0, 1, 2] rfl ?_
    refine V_iload_n (pc := 14) (i := 1) dX12_readLine_14 rfl rfl ?_
    refine V_iconst (pc := 15) (v := (1 : Int32)) dX12_readLine_15 (by decide) ?_
    refine V_icmp_ne (pc := 16) (tgt := 24) dX12_readLine_16 (by decide) (fun c21 => ?_) (fun c21 => ?_)
    · rw [if_neg c21] at e
      refine V_pick [0, 1, 2] rfl ?_
      refine V_bipush (pc := 24) (v := (20 : Int32)) dX12_readLine_24 (by decide) ?_
      exact V_pick [0, 1, 2] rfl (r_X12_readLine_b26 v0 v1 v2 v2 (20 : Int32) h3 e hF)
    · rw [if_pos c21] at e
      refine V_pick [0, 1, 2] rfl ?_
      refine V_bipush (pc := 19) (v := (8 : Int32)) dX12_readLine_19 (by decide) ?_
      refine V_goto (pc := 21) (tgt := 26) dX12_readLine_21 (by decide) ?_
      exact V_pick [0, 1, 2] rfl (r_X12_readLine_b26 v0 v1 v2 v2 (8 : Int32) h3 e hF)
  · rw [if_pos c22] at e
    refine V_pick [0, 1, 2] rfl ?_
    refine V_bipush (pc := 9) (v := (14 : Int32)) dX12_readLine_9 (by decide) ?_
    refine V_goto (pc := 11) (tgt := 26) dX12_readLine_11 (by decide) ?_
    exact V_pick [0, 1, 2] rfl (r_X12_readLine_b26 v0 v1 v2 v2 (14 : Int32) h3 e hF)
def F_X12_readLine (v0 : Nat) (v1 : Int32) (v2 : Int32) (h : Hp) : Option (Int32 × Hp) := F_X12_readLine_b0 v0 v1 v2 h
theorem c_X12_readLine {l : Launch} (v0 : Nat) (v1 : Int32) (v2 : Int32) (h : Hp) {r : Int32} {hz : Hp} (e : F_X12_readLine v0 v1 v2 h = some (r, hz)) : Ct l yX12_readLine M_X12_readLine (some .boolean) 62 [.ref v0, .int v1, .int v2] h 0 0 (some (.int r)) hz :=
  Ct_of rfl rfl (fun q => by cases q) (Nat.le_of_ble_eq_true rfl) (fun x _ hF => V_pick [0, 1, 2] rfl (r_X12_readLine_b0 v0 v1 v2 h e hF))
theorem dX12_readAll_0 : decode cX12_readAll 0 = .ok (.aload_n 0, 1) := by decide +kernel
theorem dX12_readAll_1 : decode cX12_readAll 1 = .ok (.aload_n 0, 1) := by decide +kernel
theorem dX12_readAll_2 : decode cX12_readAll 2 = .ok (.getfield 80, 3) := by decide +kernel
theorem dX12_readAll_5 : decode cX12_readAll 5 = .ok (.putfield 86, 3) := by decide +kernel
theorem dX12_readAll_8 : decode cX12_readAll 8 = .ok (.aload_n 0, 1) := by decide +kernel
theorem dX12_readAll_9 : decode cX12_readAll 9 = .ok (.iconst 0, 1) := by decide +kernel
theorem dX12_readAll_10 : decode cX12_readAll 10 = .ok (.putfield 80, 3) := by decide +kernel
theorem dX12_readAll_13 : decode cX12_readAll 13 = .ok (.aload_n 0, 1) := by decide +kernel
theorem dX12_readAll_14 : decode cX12_readAll 14 = .ok (.iconst 0, 1) := by decide +kernel
theorem dX12_readAll_15 : decode cX12_readAll 15 = .ok (.putfield 83, 3) := by decide +kernel
theorem dX12_readAll_18 : decode cX12_readAll 18 = .ok (.aload_n 0, 1) := by decide +kernel
theorem dX12_readAll_19 : decode cX12_readAll 19 = .ok (.iconst 0, 1) := by decide +kernel
theorem dX12_readAll_20 : decode cX12_readAll 20 = .ok (.putfield 173, 3) := by decide +kernel
theorem dX12_readAll_23 : decode cX12_readAll 23 = .ok (.aload_n 0, 1) := by decide +kernel
theorem dX12_readAll_24 : decode cX12_readAll 24 = .ok (.invokevirtual 96, 3) := by decide +kernel
theorem dX12_readAll_27 : decode cX12_readAll 27 = .ok (.aload_n 0, 1) := by decide +kernel
theorem dX12_readAll_28 : decode cX12_readAll 28 = .ok (.getfield 83, 3) := by decide +kernel
theorem dX12_readAll_31 : decode cX12_readAll 31 = .ok (.aload_n 0, 1) := by decide +kernel
theorem dX12_readAll_32 : decode cX12_readAll 32 = .ok (.getfield 86, 3) := by decide +kernel
theorem dX12_readAll_35 : decode cX12_readAll 35 = .ok (.if_icmp .ne 5, 3) := by decide +kernel
theorem dX12_readAll_38 : decode cX12_readAll 38 = .ok (.iconst 0, 1) := by decide +kernel
theorem dX12_readAll_39 : decode cX12_readAll 39 = .ok (.ireturn, 1) := by decide +kernel
theorem dX12_readAll_40 : decode cX12_readAll 40 = .ok (.iconst 0, 1) := by decide +kernel
theorem dX12_readAll_41 : decode cX12_readAll 41 = .ok (.istore_n 2, 1) := by decide +kernel
theorem dX12_readAll_42 : decode cX12_readAll 42 = .ok (.aload_n 0, 1) := by decide +kernel
theorem dX12_readAll_43 : decode cX12_readAll 43 = .ok (.iload_n 1, 1) := by decide +kernel
theorem dX12_readAll_44 : decode cX12_readAll 44 = .ok (.iload_n 2, 1) := by decide +kernel
theorem dX12_readAll_45 : decode cX12_readAll 45 = .ok (.invokevirtual 234, 3) := by decide +kernel
theorem dX12_readAll_48 : decode cX12_readAll 48 = .ok (.ifCond .ne 5, 3) := by decide +kernel
theorem dX12_readAll_51 : decode cX12_readAll 51 = .ok (.iconst (-1), 1) := by decide +kernel
theorem dX12_readAll_52 : decode cX12_readAll 52 = .ok (.ireturn, 1) := by decide +kernel
theorem dX12_readAll_53 : decode cX12_readAll 53 = .ok (.aload_n 0, 1) := by decide +kernel
theorem dX12_readAll_54 : decode cX12_readAll 54 = .ok (.invokevirtual 96, 3) := by decide +kernel
theorem dX12_readAll_57 : decode cX12_readAll 57 = .ok (.aload_n 0, 1) := by decide +kernel
theorem dX12_readAll_58 : decode cX12_readAll 58 = .ok (.getfield 83, 3) := by decide +kernel
theorem dX12_readAll_61 : decode cX12_readAll 61 = .ok (.aload_n 0, 1) := by decide +kernel
theorem dX12_readAll_62 : decode cX12_readAll 62 = .ok (.getfield 86, 3) := by decide +kernel
theorem dX12_readAll_65 : decode cX12_readAll 65 = .ok (.if_icmp .ne 7, 3) := by decide +kernel
theorem dX12_readAll_68 : decode cX12_readAll 68 = .ok (.iload_n 2, 1) := by decide +kernel
theorem dX12_readAll_69 : decode cX12_readAll 69 = .ok (.iconst 1, 1) := by decide +kernel
theorem dX12_readAll_70 : decode cX12_readAll 70 = .ok (.iadd, 1) := by decide +kernel
theorem dX12_readAll_71 : decode cX12_readAll 71 = .ok (.ireturn, 1) := by decide +kernel
theorem dX12_readAll_72 : decode cX12_readAll 72 = .ok (.aload_n 0, 1) := by decide +kernel
theorem dX12_readAll_73 : decode cX12_readAll 73 = .ok (.bipush 59, 2) := by decide +kernel
theorem dX12_readAll_75 : decode cX12_readAll 75 = .ok (.bipush 59, 2) := by decide +kernel
theorem dX12_readAll_77 : decode cX12_readAll 77 = .ok (.invokevirtual 89, 3) := by decide +kernel
theorem dX12_readAll_80 : decode cX12_readAll 80 = .ok (.ifCond .ne 5, 3) := by decide +kernel
theorem dX12_readAll_83 : decode cX12_readAll 83 = .ok (.iconst (-1), 1) := by decide +kernel
theorem dX12_readAll_84 : decode cX12_readAll 84 = .ok (.ireturn, 1) := by decide +kernel
theorem dX12_readAll_85 : decode cX12_readAll 85 = .ok (.aload_n 0, 1) := by decide +kernel
theorem dX12_readAll_86 : decode cX12_readAll 86 = .ok (.dup, 1) := by decide +kernel
theorem dX12_readAll_87 : decode cX12_readAll 87 = .ok (.getfield 83, 3) := by decide +kernel
theorem dX12_readAll_90 : decode cX12_readAll 90 = .ok (.iconst 1, 1) := by decide +kernel
theorem dX12_readAll_91 : decode cX12_readAll 91 = .ok (.iadd, 1) := by decide +kernel
theorem dX12_readAll_92 : decode cX12_readAll 92 = .ok (.putfield 83, 3) := by decide +kernel
theorem dX12_readAll_95 : decode cX12_readAll 95 = .ok (.iinc 2 1, 3) := by decide +kernel
theorem dX12_readAll_98 : decode cX12_readAll 98 = .ok (.goto (-56), 3) := by decide +kernel
set_option maxRecDepth 100000 in
def F_X12_readAll_l42 (v0 : Nat) (v1 : Int32) (v2 : Int32) (h : Hp) : Option ((Int32 × Hp) ⊕ (Hp ⊕ ((Int32 × Hp) ⊕ Hp))) :=
  ob2 (F_X12_readLine v0 v1 v2 h) fun r7 h8 => gd (decide (kd h v0 = 11)) <| (if r7 = 0 then some (.inr (.inl h8)) else ob2 (F_X12_blanks v0 h8) fun _ h12 => gd (decide (kd h8 v0 = 11)) <| gd (decide (kd h12 v0 = 11)) <| (if (zI h12 v0 7) = (zI h12 v0 8) then some (.inr (.inr (.inl (v2, h12)))) else ob (F_X12_isAt v0 (59 : Int32) (59 : Int32) h12) fun r16 => (if r16 = 0 then some (.inr (.inr (.inr h12))) else some (.inl (v2 + (1 : Int32), setI h12 v0 7 ((zI h12 v0 7) + (1 : Int32)))))))
set_option maxHeartbeats 4000000 in
set_option maxRecDepth 100000 in
theorem r_X12_readAll_l42 (v0 : Nat) (v1 : Int32) (v2 : Int32) (h : Hp) {x : Cx} {o : ((Int32 × Hp) ⊕ (Hp ⊕ ((Int32 × Hp) ⊕ Hp)))} (e : F_X12_readAll_l42 v0 v1 v2 h = some o) (kI : ∀ z, o = .inl z → V M_X12_readAll x 63 42 [(0, .ref v0), (1, .int v1), (2, .int z.1)] [] z.2 0 0) (kE51 : ∀ z : Hp, o = .inr (.inl z) → V M_X12_readAll x 63 51 [] [] z 0 0) (kE68 : ∀ z : Int32 × Hp, o = .inr (.inr (.inl z)) → V M_X12_readAll x 63 68 [(2, .int z.1)] [] z.2 0 0) (kE83 : ∀ z : Hp, o = .inr (.inr (.inr z)) → V M_X12_readAll x 63 83 [] [] z 0 0) : V M_X12_readAll x 63 42 [(0, .ref v0), (1, .int v1), (2, .int v2)] [] h 0 0 := by
  unfold F_X12_readAll_l42 at e
  refine V_aload_n (pc := 42) (i := 0) dX12_readAll_42 rfl rfl ?_
  refine V_iload_n (pc := 43) (i := 1) dX12_readAll_43 rfl rfl ?_
  refine V_iload_n (pc := 44) (i := 2) dX12_readAll_44 rfl rfl ?_
  obtain ⟨r7, h8, g6, e⟩ := ob2_some e
  obtain ⟨g9, e⟩ := gd_some e
  refine V_callV (pc := 45) (bc := 0) (bs := 0) (mc := 0) (ms := 0) (st := []) (As := [.int v1, .int v2]) (a := v0) (h' := h8) (r := some (.int r7)) dX12_readAll_45 ml_X12_234 (ci := 11) rfl (of_decide_eq_true g9) rfl rfl (Nat.le_of_ble_eq_true rfl) (d' := 62) (by decide) (c_X12_readLine (l := x.2.1) v0 v1 v2 h g6) ?_
  refine V_if_ne (pc := 48) (tgt := 53) dX12_readAll_48 (by decide) (fun c19 => ?_) (fun c19 => ?_)
  · rw [if_neg c19] at e
    refine V_pick [0, 1, 2] rfl ?_
    refine V_aload_n (pc := 53) (i := 0) dX12_readAll_53 rfl rfl ?_
    obtain ⟨r11, h12, g10, e⟩ := ob2_some e
    obtain ⟨g13, e⟩ := gd_some e
    refine V_callV (pc := 54) (bc := 0) (bs := 0) (mc := 0) (ms := 0) (st := []) (As := []) (a := v0) (h' := h12) (r := none) dX12_readAll_54 ml_X12_96 (ci := 11) rfl (of_decide_eq_true g13) rfl rfl (Nat.le_of_ble_eq_true rfl) (d' := 1) (by decide) (c_X12_blanks (l := x.2.1) v0 h8 g10) ?_
    refine V_aload_n (pc := 57) (i := 0) dX12_readAll_57 rfl rfl ?_
    obtain ⟨g14, e⟩ := gd_some e
    refine V_getI (pc := 58) (ci := 11) (k := 7) dX12_readAll_58 fl_X12_83 rfl (of_decide_eq_true g14) ?_
    refine V_aload_n (pc := 61) (i := 0) dX12_readAll_61 rfl rfl ?_
    refine V_getI (pc := 62) (ci := 11) (k := 8) dX12_readAll_62 fl_X12_86 rfl (of_decide_eq_true g14) ?_
    refine V_icmp_ne (pc := 65) (tgt := 72) dX12_readAll_65 (by decide) (fun c18 => ?_) (fun c18 => ?_)
    · rw [if_neg c18] at e
      refine V_pick [0, 1, 2] rfl ?_
      refine V_aload_n (pc := 72) (i := 0) dX12_readAll_72 rfl rfl ?_
      refine V_bipush (pc := 73) (v := (59 : Int32)) dX12_readAll_73 (by decide) ?_
      refine V_bipush (pc := 75) (v := (59 : Int32)) dX12_readAll_75 (by decide) ?_
      obtain ⟨r16, g15, e⟩ := ob_some e
      refine V_callV (pc := 77) (bc := 0) (bs := 0) (mc := 0) (ms := 0) (st := []) (As := [.int (59 : Int32), .int (59 : Int32)]) (a := v0) (h' := h12) (r := some (.int r16)) dX12_readAll_77 ml_X12_89 (ci := 11) rfl (of_decide_eq_true g14) rfl rfl (Nat.le_of_ble_eq_true rfl) (d' := 0) (by decide) (c_X12_isAt (l := x.2.1) v0 (59 : Int32) (59 : Int32) h12 g15) ?_
      refine V_if_ne (pc := 80) (tgt := 85) dX12_readAll_80 (by decide) (fun c17 => ?_) (fun c17 => ?_)
      · rw [if_neg c17] at e
        refine V_pick [0, 1, 2] rfl ?_
        refine V_aload_n (pc := 85) (i := 0) dX12_readAll_85 rfl rfl ?_
        refine V_dup (pc := 86) dX12_readAll_86 rfl ?_
        refine V_getI (pc := 87) (ci := 11) (k := 7) dX12_readAll_87 fl_X12_83 rfl (of_decide_eq_true g14) ?_
        refine V_iconst (pc := 90) (v := (1 : Int32)) dX12_readAll_90 (by decide) ?_
        refine V_iadd (pc := 91) dX12_readAll_91 ?_
        refine V_putI (pc := 92) (ci := 11) (k := 7) dX12_readAll_92 fp_X12_83 rfl (of_decide_eq_true g14) ?_
        refine V_iinc (pc := 95) (i := 2) (u := v2 + (1 : Int32)) (lv' := [(2, .int (v2 + (1 : Int32))), (0, .ref v0), (1, .int v1)]) dX12_readAll_95 rfl rfl (by decide) rfl ?_
        refine V_goto (pc := 98) (tgt := 42) dX12_readAll_98 (by decide) ?_
        cases e
        exact V_pick [1, 2, 0] rfl (kI (v2 + (1 : Int32), setI h12 v0 7 ((zI h12 v0 7) + (1 : Int32))) rfl)
      · rw [if_pos c17] at e
        cases e
        exact V_pick [] rfl (kE83 h12 rfl)
    · rw [if_pos c18] at e
      cases e
      exact V_pick [2] rfl (kE68 (v2, h12) rfl)
  · rw [if_pos c19] at e
    cases e
    exact V_pick [] rfl (kE51 h8 rfl)
set_option maxRecDepth 100000 in
def F_X12_readAll_b0 (v0 : Nat) (v1 : Int32) (h : Hp) : Option (Int32 × Hp) :=
  gd (decide (kd h v0 = 11)) <| ob2 (F_X12_blanks v0 (setI (setI (setI (setI h v0 8 (zI h v0 6)) v0 6 (0 : Int32)) v0 7 (0 : Int32)) v0 13 (0 : Int32))) fun _ h4 => gd (decide (kd h4 v0 = 11)) <| (if (zI h4 v0 7) = (zI h4 v0 8) then some ((0 : Int32), h4) else ob (iter (fun z : Int32 × Hp => F_X12_readAll_l42 v0 v1 z.1 z.2) FU ((0 : Int32), h4)) (fun z => sm z (fun h20 => some ((-1 : Int32), h20)) (fun z => sm z (fun z => un2 z fun w21 h22 => some (w21 + (1 : Int32), h22)) (fun h23 => some ((-1 : Int32), h23)))))
set_option maxHeartbeats 4000000 in
set_option maxRecDepth 100000 in
theorem r_X12_readAll_b0 (v0 : Nat) (v1 : Int32) (h : Hp) {x : Cx} {r : Int32} {hz : Hp} (e : F_X12_readAll_b0 v0 v1 h = some (r, hz)) (hF : Fin9 M_X12_readAll x (some .int) (some (.int r)) hz) : V M_X12_readAll x 63 0 [(0, .ref v0), (1, .int v1)] [] h 0 0 := by
  unfold F_X12_readAll_b0 at e
  refine V_aload_n (pc := 0) (i := 0) dX12_readAll_0 rfl rfl ?_
  refine V_aload_n (pc := 1) (i := 0) dX12_readAll_1 rfl rfl ?_
  obtain ⟨g1, e⟩ := gd_some e
  refine V_getI (pc := 2) (ci := 11) (k := 6) dX12_readAll_2 fl_X12_80 rfl (of_decide_eq_true g1) ?_
  refine V_putI (pc := 5) (ci := 11) (k := 8) dX12_readAll_5 fp_X12_86 rfl (of_decide_eq_true g1) ?_
  refine V_aload_n (pc := 8) (i := 0) dX12_readAll_8 rfl rfl ?_
  refine V_iconst (pc := 9) (v := (0 : Int32)) dX12_readAll_9 (by decide) ?_
  refine V_putI (pc := 10) (ci := 11) (k := 6) dX12_readAll_10 fp_X12_80 rfl (kd_sI (of_decide_eq_true g1)) ?_
  refine V_aload_n (pc := 13) (i := 0) dX12_readAll_13 rfl rfl ?_
  refine V_iconst (pc := 14) (v := (0 : Int32)) dX12_readAll_14 (by decide) ?_
  refine V_putI (pc := 15) (ci := 11) (k := 7) dX12_readAll_15 fp_X12_83 rfl (kd_sI (kd_sI (of_decide_eq_true g1))) ?_
  refine V_aload_n (pc := 18) (i := 0) dX12_readAll_18 rfl rfl ?_
  refine V_iconst (pc := 19) (v := (0 : Int32)) dX12_readAll_19 (by decide) ?_
  refine V_putI (pc := 20) (ci := 11) (k := 13) dX12_readAll_20 fp_X12_173 rfl (kd_sI (kd_sI (kd_sI (of_decide_eq_true g1)))) ?_
  refine V_aload_n (pc := 23) (i := 0) dX12_readAll_23 rfl rfl ?_
  obtain ⟨r3, h4, g2, e⟩ := ob2_some e
  refine V_callV (pc := 24) (bc := 0) (bs := 0) (mc := 0) (ms := 0) (st := []) (As := []) (a := v0) (h' := h4) (r := none) dX12_readAll_24 ml_X12_96 (ci := 11) rfl (kd_sI (kd_sI (kd_sI (kd_sI (of_decide_eq_true g1))))) rfl rfl (Nat.le_of_ble_eq_true rfl) (d' := 1) (by decide) (c_X12_blanks (l := x.2.1) v0 (setI (setI (setI (setI h v0 8 (zI h v0 6)) v0 6 (0 : Int32)) v0 7 (0 : Int32)) v0 13 (0 : Int32)) g2) ?_
  refine V_aload_n (pc := 27) (i := 0) dX12_readAll_27 rfl rfl ?_
  obtain ⟨g5, e⟩ := gd_some e
  refine V_getI (pc := 28) (ci := 11) (k := 7) dX12_readAll_28 fl_X12_83 rfl (of_decide_eq_true g5) ?_
  refine V_aload_n (pc := 31) (i := 0) dX12_readAll_31 rfl rfl ?_
  refine V_getI (pc := 32) (ci := 11) (k := 8) dX12_readAll_32 fl_X12_86 rfl (of_decide_eq_true g5) ?_
  refine V_icmp_ne (pc := 35) (tgt := 40) dX12_readAll_35 (by decide) (fun c30 => ?_) (fun c30 => ?_)
  · rw [if_neg c30] at e
    refine V_pick [0, 1] rfl ?_
    refine V_iconst (pc := 40) (v := (0 : Int32)) dX12_readAll_40 (by decide) ?_
    refine V_istore_n (pc := 41) (i := 2) (lv' := [(2, .int (0 : Int32)), (0, .ref v0), (1, .int v1)]) dX12_readAll_41 rfl (by decide) rfl ?_
    refine V_pick [1, 2, 0] rfl ?_
    obtain ⟨y24, g25, e⟩ := ob_some e
    refine iter_V (P := fun z : Int32 × Hp => V M_X12_readAll x 63 42 [(0, .ref v0), (1, .int v1), (2, .int z.1)] [] z.2 0 0) (E := fun z => Sum.elim (fun z : Hp => V M_X12_readAll x 63 51 [] [] z 0 0) (fun z => Sum.elim (fun z : Int32 × Hp => V M_X12_readAll x 63 68 [(2, .int z.1)] [] z.2 0 0) (fun z : Hp => V M_X12_readAll x 63 83 [] [] z 0 0) z) z) (fun z o e9 k1 k2 => r_X12_readAll_l42 v0 v1 z.1 z.2 e9 (fun z hz9 => k1 z hz9) (fun z hz9 => k2 _ hz9) (fun z hz9 => k2 _ hz9) (fun z hz9 => k2 _ hz9)) _ _ _ g25 ?_
    clear g25
    rcases y24 with y26 | y27
    · obtain ⟨h20, rfl⟩ : ∃ q, q = y26 := ⟨_, rfl⟩
      replace e : (some ((-1 : Int32), h20)) = some (r, hz) := e
      show V M_X12_readAll x 63 51 [] [] h20 0 0
      refine V_iconst (pc := 51) (v := (-1 : Int32)) dX12_readAll_51 (by decide) ?_
      cases e
      exact V_iret (pc := 52) dX12_readAll_52 hF
    · rcases y27 with y28 | y29
      · obtain ⟨w21, h22⟩ := y28
        replace e : (some (w21 + (1 : Int32), h22)) = some (r, hz) := e
        show V M_X12_readAll x 63 68 [(2, .int w21)] [] h22 0 0
        refine V_iload_n (pc := 68) (i := 2) dX12_readAll_68 rfl rfl ?_
        refine V_iconst (pc := 69) (v := (1 : Int32)) dX12_readAll_69 (by decide) ?_
        refine V_iadd (pc := 70) dX12_readAll_70 ?_
        cases e
        exact V_iret (pc := 71) dX12_readAll_71 hF
      · obtain ⟨h23, rfl⟩ : ∃ q, q = y29 := ⟨_, rfl⟩
        replace e : (some ((-1 : Int32), h23)) = some (r, hz) := e
        show V M_X12_readAll x 63 83 [] [] h23 0 0
        refine V_iconst (pc := 83) (v := (-1 : Int32)) dX12_readAll_83 (by decide) ?_
        cases e
        exact V_iret (pc := 84) dX12_readAll_84 hF
  · rw [if_pos c30] at e
    refine V_pick [] rfl ?_
    refine V_iconst (pc := 38) (v := (0 : Int32)) dX12_readAll_38 (by decide) ?_
    cases e
    exact V_iret (pc := 39) dX12_readAll_39 hF
def F_X12_readAll (v0 : Nat) (v1 : Int32) (h : Hp) : Option (Int32 × Hp) := F_X12_readAll_b0 v0 v1 h
theorem c_X12_readAll {l : Launch} (v0 : Nat) (v1 : Int32) (h : Hp) {r : Int32} {hz : Hp} (e : F_X12_readAll v0 v1 h = some (r, hz)) : Ct l yX12_readAll M_X12_readAll (some .int) 63 [.ref v0, .int v1] h 0 0 (some (.int r)) hz :=
  Ct_of rfl rfl (fun q => by cases q) (Nat.le_of_ble_eq_true rfl) (fun x _ hF => V_pick [0, 1] rfl (r_X12_readAll_b0 v0 v1 h e hF))

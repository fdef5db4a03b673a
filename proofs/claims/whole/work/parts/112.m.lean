theorem dX12_comes_0 : decode cX12_comes 0 = .ok (.aload_n 0, 1) := by decide +kernel
theorem dX12_comes_1 : decode cX12_comes 1 = .ok (.getfield 50, 3) := by decide +kernel
theorem dX12_comes_4 : decode cX12_comes 4 = .ok (.iload_n 1, 1) := by decide +kernel
theorem dX12_comes_5 : decode cX12_comes 5 = .ok (.iaload, 1) := by decide +kernel
theorem dX12_comes_6 : decode cX12_comes 6 = .ok (.ifCond .ge 25, 3) := by decide +kernel
theorem dX12_comes_9 : decode cX12_comes 9 = .ok (.aload_n 0, 1) := by decide +kernel
theorem dX12_comes_10 : decode cX12_comes 10 = .ok (.iload_n 1, 1) := by decide +kernel
theorem dX12_comes_11 : decode cX12_comes 11 = .ok (.bipush 8, 2) := by decide +kernel
theorem dX12_comes_13 : decode cX12_comes 13 = .ok (.idiv, 1) := by decide +kernel
theorem dX12_comes_14 : decode cX12_comes 14 = .ok (.invokevirtual 340, 3) := by decide +kernel
theorem dX12_comes_17 : decode cX12_comes 17 = .ok (.ifCond .eq 14, 3) := by decide +kernel
theorem dX12_comes_20 : decode cX12_comes 20 = .ok (.aload_n 0, 1) := by decide +kernel
theorem dX12_comes_21 : decode cX12_comes 21 = .ok (.iload_n 1, 1) := by decide +kernel
theorem dX12_comes_22 : decode cX12_comes 22 = .ok (.bipush 8, 2) := by decide +kernel
theorem dX12_comes_24 : decode cX12_comes 24 = .ok (.irem, 1) := by decide +kernel
theorem dX12_comes_25 : decode cX12_comes 25 = .ok (.invokevirtual 380, 3) := by decide +kernel
theorem dX12_comes_28 : decode cX12_comes 28 = .ok (.ifCond .ne 4, 3) := by decide +kernel
theorem dX12_comes_31 : decode cX12_comes 31 = .ok (.return_, 1) := by decide +kernel
theorem dX12_comes_32 : decode cX12_comes 32 = .ok (.aload_n 0, 1) := by decide +kernel
theorem dX12_comes_33 : decode cX12_comes 33 = .ok (.getfield 50, 3) := by decide +kernel
theorem dX12_comes_36 : decode cX12_comes 36 = .ok (.iload_n 1, 1) := by decide +kernel
theorem dX12_comes_37 : decode cX12_comes 37 = .ok (.aload_n 0, 1) := by decide +kernel
theorem dX12_comes_38 : decode cX12_comes 38 = .ok (.getfield 50, 3) := by decide +kernel
theorem dX12_comes_41 : decode cX12_comes 41 = .ok (.iload_n 2, 1) := by decide +kernel
theorem dX12_comes_42 : decode cX12_comes 42 = .ok (.iaload, 1) := by decide +kernel
theorem dX12_comes_43 : decode cX12_comes 43 = .ok (.iconst 1, 1) := by decide +kernel
theorem dX12_comes_44 : decode cX12_comes 44 = .ok (.iadd, 1) := by decide +kernel
theorem dX12_comes_45 : decode cX12_comes 45 = .ok (.iastore, 1) := by decide +kernel
theorem dX12_comes_46 : decode cX12_comes 46 = .ok (.aload_n 0, 1) := by decide +kernel
theorem dX12_comes_47 : decode cX12_comes 47 = .ok (.getfield 53, 3) := by decide +kernel
theorem dX12_comes_50 : decode cX12_comes 50 = .ok (.aload_n 0, 1) := by decide +kernel
theorem dX12_comes_51 : decode cX12_comes 51 = .ok (.getfield 383, 3) := by decide +kernel
theorem dX12_comes_54 : decode cX12_comes 54 = .ok (.iload_n 1, 1) := by decide +kernel
theorem dX12_comes_55 : decode cX12_comes 55 = .ok (.iastore, 1) := by decide +kernel
theorem dX12_comes_56 : decode cX12_comes 56 = .ok (.aload_n 0, 1) := by decide +kernel
theorem dX12_comes_57 : decode cX12_comes 57 = .ok (.dup, 1) := by decide +kernel
theorem dX12_comes_58 : decode cX12_comes 58 = .ok (.getfield 383, 3) := by decide +kernel
theorem dX12_comes_61 : decode cX12_comes 61 = .ok (.iconst 1, 1) := by decide +kernel
theorem dX12_comes_62 : decode cX12_comes 62 = .ok (.iadd, 1) := by decide +kernel
theorem dX12_comes_63 : decode cX12_comes 63 = .ok (.putfield 383, 3) := by decide +kernel
theorem dX12_comes_66 : decode cX12_comes 66 = .ok (.return_, 1) := by decide +kernel
set_option maxRecDepth 100000 in
def F_X12_comes_b31  (h : Hp) : Option (Unit × Hp) :=
  some ((), h)
set_option maxHeartbeats 4000000 in
set_option maxRecDepth 100000 in
theorem r_X12_comes_b31  (h : Hp) {x : Cx} {r : Unit} {hz : Hp} (e : F_X12_comes_b31  h = some (r, hz)) (hF : Fin9 M_X12_comes x none none hz) : V M_X12_comes x 5 31 [] [] h 0 0 := by
  unfold F_X12_comes_b31 at e
  cases e
  exact V_vret (pc := 31) dX12_comes_31 hF
set_option maxRecDepth 100000 in
def F_X12_comes_b0 (v0 : Nat) (v1 : Int32) (v2 : Int32) (h : Hp) : Option (Unit × Hp) :=
  gd (decide (kd h v0 = 11)) <| ob (zR h v0 21) fun q2 => gd (decide (kd h q2 = 13)) <| gd (ix v1 (zl h q2)) <| (if 0 ≤ (zI h q2 (v1).toNatClampNeg) then F_X12_comes_b31 h else ob2 (F_X12_opens v0 (v1 / (8 : Int32)) h) fun r7 h8 => (if r7 = 0 then F_X12_comes_b31 h8 else ob (F_X12_isLevelWith v0 (v1 - v1 / (8 : Int32) * (8 : Int32)) h8) fun r10 => gd (decide (kd h8 v0 = 11)) <| (if r10 = 0 then F_X12_comes_b31 h8 else ob (zR h8 v0 21) fun q12 => ob (zR h8 v0 21) fun q14 => gd (decide (kd h8 q14 = 13)) <| gd (ix v2 (zl h8 q14)) <| gd (decide (kd h8 q12 = 13)) <| gd (ix v1 (zl h8 q12)) <| ob (zR (setI h8 q12 (v1).toNatClampNeg ((zI h8 q14 (v2).toNatClampNeg) + (1 : Int32))) v0 22) fun q20 => gd (decide (kd (setI h8 q12 (v1).toNatClampNeg ((zI h8 q14 (v2).toNatClampNeg) + (1 : Int32))) q20 = 13)) <| gd (ix (zI (setI h8 q12 (v1).toNatClampNeg ((zI h8 q14 (v2).toNatClampNeg) + (1 : Int32))) v0 26) (zl (setI h8 q12 (v1).toNatClampNeg ((zI h8 q14 (v2).toNatClampNeg) + (1 : Int32))) q20)) <| some ((), setI (setI (setI h8 q12 (v1).toNatClampNeg ((zI h8 q14 (v2).toNatClampNeg) + (1 : Int32))) q20 (zI (setI h8 q12 (v1).toNatClampNeg ((zI h8 q14 (v2).toNatClampNeg) + (1 : Int32))) v0 26).toNatClampNeg v1) v0 26 ((zI (setI (setI h8 q12 (v1).toNatClampNeg ((zI h8 q14 (v2).toNatClampNeg) + (1 : Int32))) q20 (zI (setI h8 q12 (v1).toNatClampNeg ((zI h8 q14 (v2).toNatClampNeg) + (1 : Int32))) v0 26).toNatClampNeg v1) v0 26) + (1 : Int32))))))
set_option maxHeartbeats 4000000 in
set_option maxRecDepth 100000 in
theorem r_X12_comes_b0 (v0 : Nat) (v1 : Int32) (v2 : Int32) (h : Hp) {x : Cx} {r : Unit} {hz : Hp} (e : F_X12_comes_b0 v0 v1 v2 h = some (r, hz)) (hF : Fin9 M_X12_comes x none none hz) : V M_X12_comes x 5 0 [(0, .ref v0), (1, .int v1), (2, .int v2)] [] h 0 0 := by
  unfold F_X12_comes_b0 at e
  refine V_aload_n (pc := 0) (i := 0) dX12_comes_0 rfl rfl ?_
  obtain ⟨g1, e⟩ := gd_some e
  obtain ⟨q2, g3, e⟩ := ob_some e
  refine V_getR (pc := 1) (ci := 11) (k := 21) (b := q2) dX12_comes_1 fl_X12_50 rfl (of_decide_eq_true g1) g3 ?_
  refine V_iload_n (pc := 4) (i := 1) dX12_comes_4 rfl rfl ?_
  obtain ⟨g4, e⟩ := gd_some e
  obtain ⟨g5, e⟩ := gd_some e
  refine V_iald (pc := 5) dX12_comes_5 (of_decide_eq_true g4) (ix_in g5) ?_
  refine V_if_ge (pc := 6) (tgt := 31) dX12_comes_6 (by decide) (fun c26 => ?_) (fun c26 => ?_)
  · rw [if_pos c26] at e
    exact V_pick [] rfl (r_X12_comes_b31 h e hF)
  · rw [if_neg c26] at e
    refine V_pick [0, 1, 2] rfl ?_
    refine V_aload_n (pc := 9) (i := 0) dX12_comes_9 rfl rfl ?_
    refine V_iload_n (pc := 10) (i := 1) dX12_comes_10 rfl rfl ?_
    refine V_bipush (pc := 11) (v := (8 : Int32)) dX12_comes_11 (by decide) ?_
    refine V_idiv (pc := 13) dX12_comes_13 (by decide) ?_
    obtain ⟨r7, h8, g6, e⟩ := ob2_some e
    refine V_callV (pc := 14) (bc := 0) (bs := 0) (mc := 0) (ms := 0) (st := []) (As := [.int (v1 / (8 : Int32))]) (a := v0) (h' := h8) (r := some (.int r7)) dX12_comes_14 ml_X12_340 (ci := 11) rfl (of_decide_eq_true g1) rfl rfl (Nat.le_of_ble_eq_true rfl) (d' := 3) (by decide) (c_X12_opens (l := x.2.1) v0 (v1 / (8 : Int32)) h g6) ?_
    refine V_if_eq (pc := 17) (tgt := 31) dX12_comes_17 (by decide) (fun c25 => ?_) (fun c25 => ?_)
    · rw [if_pos c25] at e
      exact V_pick [] rfl (r_X12_comes_b31 h8 e hF)
    · rw [if_neg c25] at e
      refine V_pick [0, 1, 2] rfl ?_
      refine V_aload_n (pc := 20) (i := 0) dX12_comes_20 rfl rfl ?_
      refine V_iload_n (pc := 21) (i := 1) dX12_comes_21 rfl rfl ?_
      refine V_bipush (pc := 22) (v := (8 : Int32)) dX12_comes_22 (by decide) ?_
      refine V_irem (pc := 24) dX12_comes_24 (by decide) ?_
      obtain ⟨r10, g9, e⟩ := ob_some e
      obtain ⟨g11, e⟩ := gd_some e
      refine V_callV (pc := 25) (bc := 0) (bs := 0) (mc := 0) (ms := 0) (st := []) (As := [.int (v1 - v1 / (8 : Int32) * (8 : Int32))]) (a := v0) (h' := h8) (r := some (.int r10)) dX12_comes_25 ml_X12_380 (ci := 11) rfl (of_decide_eq_true g11) rfl rfl (Nat.le_of_ble_eq_true rfl) (d' := 4) (by decide) (c_X12_isLevelWith (l := x.2.1) v0 (v1 - v1 / (8 : Int32) * (8 : Int32)) h8 g9) ?_
      refine V_if_ne (pc := 28) (tgt := 32) dX12_comes_28 (by decide) (fun c24 => ?_) (fun c24 => ?_)
      · rw [if_neg c24] at e
        refine V_pick [0, 1, 2] rfl ?_
        refine V_aload_n (pc := 32) (i := 0) dX12_comes_32 rfl rfl ?_
        obtain ⟨q12, g13, e⟩ := ob_some e
        refine V_getR (pc := 33) (ci := 11) (k := 21) (b := q12) dX12_comes_33 fl_X12_50 rfl (of_decide_eq_true g11) g13 ?_
        refine V_iload_n (pc := 36) (i := 1) dX12_comes_36 rfl rfl ?_
        refine V_aload_n (pc := 37) (i := 0) dX12_comes_37 rfl rfl ?_
        obtain ⟨q14, g15, e⟩ := ob_some e
        refine V_getR (pc := 38) (ci := 11) (k := 21) (b := q14) dX12_comes_38 fl_X12_50 rfl (of_decide_eq_true g11) g15 ?_
        refine V_iload_n (pc := 41) (i := 2) dX12_comes_41 rfl rfl ?_
        obtain ⟨g16, e⟩ := gd_some e
        obtain ⟨g17, e⟩ := gd_some e
        refine V_iald (pc := 42) dX12_comes_42 (of_decide_eq_true g16) (ix_in g17) ?_
        refine V_iconst (pc := 43) (v := (1 : Int32)) dX12_comes_43 (by decide) ?_
        refine V_iadd (pc := 44) dX12_comes_44 ?_
        obtain ⟨g18, e⟩ := gd_some e
        obtain ⟨g19, e⟩ := gd_some e
        refine V_iast (pc := 45) dX12_comes_45 (of_decide_eq_true g18) (ix_in g19) ?_
        refine V_aload_n (pc := 46) (i := 0) dX12_comes_46 rfl rfl ?_
        obtain ⟨q20, g21, e⟩ := ob_some e
        refine V_getR (pc := 47) (ci := 11) (k := 22) (b := q20) dX12_comes_47 fl_X12_53 rfl (of_decide_eq_true g11) g21 ?_
        refine V_aload_n (pc := 50) (i := 0) dX12_comes_50 rfl rfl ?_
        refine V_getI (pc := 51) (ci := 11) (k := 26) dX12_comes_51 fl_X12_383 rfl (of_decide_eq_true g11) ?_
        refine V_iload_n (pc := 54) (i := 1) dX12_comes_54 rfl rfl ?_
        obtain ⟨g22, e⟩ := gd_some e
        obtain ⟨g23, e⟩ := gd_some e
        refine V_iast (pc := 55) dX12_comes_55 (of_decide_eq_true g22) (ix_in g23) ?_
        refine V_aload_n (pc := 56) (i := 0) dX12_comes_56 rfl rfl ?_
        refine V_dup (pc := 57) dX12_comes_57 rfl ?_
        refine V_getI (pc := 58) (ci := 11) (k := 26) dX12_comes_58 fl_X12_383 rfl (of_decide_eq_true g11) ?_
        refine V_iconst (pc := 61) (v := (1 : Int32)) dX12_comes_61 (by decide) ?_
        refine V_iadd (pc := 62) dX12_comes_62 ?_
        refine V_putI (pc := 63) (ci := 11) (k := 26) dX12_comes_63 fp_X12_383 rfl (of_decide_eq_true g11) ?_
        cases e
        exact V_vret (pc := 66) dX12_comes_66 hF
      · rw [if_pos c24] at e
        exact V_pick [] rfl (r_X12_comes_b31 h8 e hF)
def F_X12_comes (v0 : Nat) (v1 : Int32) (v2 : Int32) (h : Hp) : Option (Unit × Hp) := F_X12_comes_b0 v0 v1 v2 h
theorem c_X12_comes {l : Launch} (v0 : Nat) (v1 : Int32) (v2 : Int32) (h : Hp) {r : Unit} {hz : Hp} (e : F_X12_comes v0 v1 v2 h = some (r, hz)) : Ct l yX12_comes M_X12_comes none 5 [.ref v0, .int v1, .int v2] h 0 0 none hz :=
  Ct_of rfl rfl (fun q => by cases q) (Nat.le_of_ble_eq_true rfl) (fun x _ hF => V_pick [0, 1, 2] rfl (r_X12_comes_b0 v0 v1 v2 h e hF))
theorem dX12_stove_0 : decode cX12_stove 0 = .ok (.aload_n 0, 1) := by decide +kernel
theorem dX12_stove_1 : decode cX12_stove 1 = .ok (.iconst 0, 1) := by decide +kernel
theorem dX12_stove_2 : decode cX12_stove 2 = .ok (.putfield 3, 3) := by decide +kernel
theorem dX12_stove_5 : decode cX12_stove 5 = .ok (.aload_n 0, 1) := by decide +kernel
theorem dX12_stove_6 : decode cX12_stove 6 = .ok (.aload_n 0, 1) := by decide +kernel
theorem dX12_stove_7 : decode cX12_stove 7 = .ok (.iload_n 1, 1) := by decide +kernel
theorem dX12_stove_8 : decode cX12_stove 8 = .ok (.invokevirtual 250, 3) := by decide +kernel
theorem dX12_stove_11 : decode cX12_stove 11 = .ok (.iconst 1, 1) := by decide +kernel
theorem dX12_stove_12 : decode cX12_stove 12 = .ok (.invokevirtual 240, 3) := by decide +kernel
theorem dX12_stove_15 : decode cX12_stove 15 = .ok (.ifCond .eq 5, 3) := by decide +kernel
theorem dX12_stove_18 : decode cX12_stove 18 = .ok (.iconst 0, 1) := by decide +kernel
theorem dX12_stove_19 : decode cX12_stove 19 = .ok (.ireturn, 1) := by decide +kernel
theorem dX12_stove_20 : decode cX12_stove 20 = .ok (.aload_n 0, 1) := by decide +kernel
theorem dX12_stove_21 : decode cX12_stove 21 = .ok (.invokevirtual 68, 3) := by decide +kernel
theorem dX12_stove_24 : decode cX12_stove 24 = .ok (.iconst 5, 1) := by decide +kernel
theorem dX12_stove_25 : decode cX12_stove 25 = .ok (.if_icmp .ne 6, 3) := by decide +kernel
theorem dX12_stove_28 : decode cX12_stove 28 = .ok (.bipush (-3), 2) := by decide +kernel
theorem dX12_stove_30 : decode cX12_stove 30 = .ok (.ireturn, 1) := by decide +kernel
theorem dX12_stove_31 : decode cX12_stove 31 = .ok (.iconst 0, 1) := by decide +kernel
theorem dX12_stove_32 : decode cX12_stove 32 = .ok (.istore_n 2, 1) := by decide +kernel
theorem dX12_stove_33 : decode cX12_stove 33 = .ok (.iload_n 2, 1) := by decide +kernel
theorem dX12_stove_34 : decode cX12_stove 34 = .ok (.ldc 45, 2) := by decide +kernel
theorem dX12_stove_36 : decode cX12_stove 36 = .ok (.if_icmp .ge 16, 3) := by decide +kernel
theorem dX12_stove_39 : decode cX12_stove 39 = .ok (.aload_n 0, 1) := by decide +kernel
theorem dX12_stove_40 : decode cX12_stove 40 = .ok (.getfield 50, 3) := by decide +kernel
theorem dX12_stove_43 : decode cX12_stove 43 = .ok (.iload_n 2, 1) := by decide +kernel
theorem dX12_stove_44 : decode cX12_stove 44 = .ok (.iconst (-1), 1) := by decide +kernel
theorem dX12_stove_45 : decode cX12_stove 45 = .ok (.iastore, 1) := by decide +kernel
theorem dX12_stove_46 : decode cX12_stove 46 = .ok (.iinc 2 1, 3) := by decide +kernel
theorem dX12_stove_49 : decode cX12_stove 49 = .ok (.goto (-16), 3) := by decide +kernel
theorem dX12_stove_52 : decode cX12_stove 52 = .ok (.bipush 8, 2) := by decide +kernel
theorem dX12_stove_54 : decode cX12_stove 54 = .ok (.aload_n 0, 1) := by decide +kernel
theorem dX12_stove_55 : decode cX12_stove 55 = .ok (.invokevirtual 371, 3) := by decide +kernel
theorem dX12_stove_58 : decode cX12_stove 58 = .ok (.imul, 1) := by decide +kernel
theorem dX12_stove_59 : decode cX12_stove 59 = .ok (.aload_n 0, 1) := by decide +kernel
theorem dX12_stove_60 : decode cX12_stove 60 = .ok (.getfield 13, 3) := by decide +kernel
theorem dX12_stove_63 : decode cX12_stove 63 = .ok (.bipush 6, 2) := by decide +kernel
theorem dX12_stove_65 : decode cX12_stove 65 = .ok (.iaload, 1) := by decide +kernel
theorem dX12_stove_66 : decode cX12_stove 66 = .ok (.iadd, 1) := by decide +kernel
theorem dX12_stove_67 : decode cX12_stove 67 = .ok (.istore_n 2, 1) := by decide +kernel
theorem dX12_stove_68 : decode cX12_stove 68 = .ok (.aload_n 0, 1) := by decide +kernel
theorem dX12_stove_69 : decode cX12_stove 69 = .ok (.getfield 50, 3) := by decide +kernel
theorem dX12_stove_72 : decode cX12_stove 72 = .ok (.iload_n 2, 1) := by decide +kernel
theorem dX12_stove_73 : decode cX12_stove 73 = .ok (.iconst 0, 1) := by decide +kernel
theorem dX12_stove_74 : decode cX12_stove 74 = .ok (.iastore, 1) := by decide +kernel
theorem dX12_stove_75 : decode cX12_stove 75 = .ok (.aload_n 0, 1) := by decide +kernel
theorem dX12_stove_76 : decode cX12_stove 76 = .ok (.getfield 53, 3) := by decide +kernel
theorem dX12_stove_79 : decode cX12_stove 79 = .ok (.iconst 0, 1) := by decide +kernel
theorem dX12_stove_80 : decode cX12_stove 80 = .ok (.iload_n 2, 1) := by decide +kernel
theorem dX12_stove_81 : decode cX12_stove 81 = .ok (.iastore, 1) := by decide +kernel
theorem dX12_stove_82 : decode cX12_stove 82 = .ok (.aload_n 0, 1) := by decide +kernel
theorem dX12_stove_83 : decode cX12_stove 83 = .ok (.iconst 1, 1) := by decide +kernel
theorem dX12_stove_84 : decode cX12_stove 84 = .ok (.putfield 383, 3) := by decide +kernel
theorem dX12_stove_87 : decode cX12_stove 87 = .ok (.iconst 0, 1) := by decide +kernel
theorem dX12_stove_88 : decode cX12_stove 88 = .ok (.istore_n 3, 1) := by decide +kernel
theorem dX12_stove_89 : decode cX12_stove 89 = .ok (.iload_n 3, 1) := by decide +kernel
theorem dX12_stove_90 : decode cX12_stove 90 = .ok (.aload_n 0, 1) := by decide +kernel
theorem dX12_stove_91 : decode cX12_stove 91 = .ok (.getfield 383, 3) := by decide +kernel
theorem dX12_stove_94 : decode cX12_stove 94 = .ok (.if_icmp .ge 147, 3) := by decide +kernel
theorem dX12_stove_97 : decode cX12_stove 97 = .ok (.aload_n 0, 1) := by decide +kernel
theorem dX12_stove_98 : decode cX12_stove 98 = .ok (.getfield 53, 3) := by decide +kernel
theorem dX12_stove_101 : decode cX12_stove 101 = .ok (.iload_n 3, 1) := by decide +kernel
theorem dX12_stove_102 : decode cX12_stove 102 = .ok (.iaload, 1) := by decide +kernel
theorem dX12_stove_103 : decode cX12_stove 103 = .ok (.istore 4, 2) := by decide +kernel
theorem dX12_stove_105 : decode cX12_stove 105 = .ok (.iload 4, 2) := by decide +kernel
theorem dX12_stove_107 : decode cX12_stove 107 = .ok (.bipush 8, 2) := by decide +kernel
theorem dX12_stove_109 : decode cX12_stove 109 = .ok (.irem, 1) := by decide +kernel
theorem dX12_stove_110 : decode cX12_stove 110 = .ok (.iload_n 1, 1) := by decide +kernel
theorem dX12_stove_111 : decode cX12_stove 111 = .ok (.if_icmp .ne 11, 3) := by decide +kernel
theorem dX12_stove_114 : decode cX12_stove 114 = .ok (.aload_n 0, 1) := by decide +kernel
theorem dX12_stove_115 : decode cX12_stove 115 = .ok (.getfield 50, 3) := by decide +kernel
theorem dX12_stove_118 : decode cX12_stove 118 = .ok (.iload 4, 2) := by decide +kernel
theorem dX12_stove_120 : decode cX12_stove 120 = .ok (.iaload, 1) := by decide +kernel
theorem dX12_stove_121 : decode cX12_stove 121 = .ok (.ireturn, 1) := by decide +kernel
theorem dX12_stove_122 : decode cX12_stove 122 = .ok (.iconst 0, 1) := by decide +kernel
theorem dX12_stove_123 : decode cX12_stove 123 = .ok (.istore 5, 2) := by decide +kernel
theorem dX12_stove_125 : decode cX12_stove 125 = .ok (.iload 5, 2) := by decide +kernel
theorem dX12_stove_127 : decode cX12_stove 127 = .ok (.aload_n 0, 1) := by decide +kernel
theorem dX12_stove_128 : decode cX12_stove 128 = .ok (.invokevirtual 68, 3) := by decide +kernel
theorem dX12_stove_131 : decode cX12_stove 131 = .ok (.if_icmp .ge 55, 3) := by decide +kernel
theorem dX12_stove_134 : decode cX12_stove 134 = .ok (.iconst 0, 1) := by decide +kernel
theorem dX12_stove_135 : decode cX12_stove 135 = .ok (.istore 6, 2) := by decide +kernel
theorem dX12_stove_137 : decode cX12_stove 137 = .ok (.iload 6, 2) := by decide +kernel
theorem dX12_stove_139 : decode cX12_stove 139 = .ok (.aload_n 0, 1) := by decide +kernel
theorem dX12_stove_140 : decode cX12_stove 140 = .ok (.invokevirtual 60, 3) := by decide +kernel
theorem dX12_stove_143 : decode cX12_stove 143 = .ok (.if_icmp .ge 37, 3) := by decide +kernel
theorem dX12_stove_146 : decode cX12_stove 146 = .ok (.aload_n 0, 1) := by decide +kernel
theorem dX12_stove_147 : decode cX12_stove 147 = .ok (.bipush 8, 2) := by decide +kernel
theorem dX12_stove_149 : decode cX12_stove 149 = .ok (.aload_n 0, 1) := by decide +kernel
theorem dX12_stove_150 : decode cX12_stove 150 = .ok (.iload 4, 2) := by decide +kernel
theorem dX12_stove_152 : decode cX12_stove 152 = .ok (.bipush 8, 2) := by decide +kernel
theorem dX12_stove_154 : decode cX12_stove 154 = .ok (.idiv, 1) := by decide +kernel
theorem dX12_stove_155 : decode cX12_stove 155 = .ok (.iload 5, 2) := by decide +kernel
theorem dX12_stove_157 : decode cX12_stove 157 = .ok (.iload 6, 2) := by decide +kernel
theorem dX12_stove_159 : decode cX12_stove 159 = .ok (.invokevirtual 361, 3) := by decide +kernel
theorem dX12_stove_162 : decode cX12_stove 162 = .ok (.imul, 1) := by decide +kernel
theorem dX12_stove_163 : decode cX12_stove 163 = .ok (.iload 4, 2) := by decide +kernel
theorem dX12_stove_165 : decode cX12_stove 165 = .ok (.bipush 8, 2) := by decide +kernel
theorem dX12_stove_167 : decode cX12_stove 167 = .ok (.irem, 1) := by decide +kernel
theorem dX12_stove_168 : decode cX12_stove 168 = .ok (.iadd, 1) := by decide +kernel
theorem dX12_stove_169 : decode cX12_stove 169 = .ok (.iload 4, 2) := by decide +kernel
theorem dX12_stove_171 : decode cX12_stove 171 = .ok (.invokevirtual 386, 3) := by decide +kernel
theorem dX12_stove_174 : decode cX12_stove 174 = .ok (.iinc 6 1, 3) := by decide +kernel
theorem dX12_stove_177 : decode cX12_stove 177 = .ok (.goto (-40), 3) := by decide +kernel
theorem dX12_stove_180 : decode cX12_stove 180 = .ok (.iinc 5 1, 3) := by decide +kernel
theorem dX12_stove_183 : decode cX12_stove 183 = .ok (.goto (-58), 3) := by decide +kernel
theorem dX12_stove_186 : decode cX12_stove 186 = .ok (.iconst 0, 1) := by decide +kernel
theorem dX12_stove_187 : decode cX12_stove 187 = .ok (.istore 5, 2) := by decide +kernel
theorem dX12_stove_189 : decode cX12_stove 189 = .ok (.iload 5, 2) := by decide +kernel
theorem dX12_stove_191 : decode cX12_stove 191 = .ok (.aload_n 0, 1) := by decide +kernel
theorem dX12_stove_192 : decode cX12_stove 192 = .ok (.invokevirtual 60, 3) := by decide +kernel
theorem dX12_stove_195 : decode cX12_stove 195 = .ok (.if_icmp .ge 40, 3) := by decide +kernel
theorem dX12_stove_198 : decode cX12_stove 198 = .ok (.aload_n 0, 1) := by decide +kernel
theorem dX12_stove_199 : decode cX12_stove 199 = .ok (.iload 4, 2) := by decide +kernel
theorem dX12_stove_201 : decode cX12_stove 201 = .ok (.bipush 8, 2) := by decide +kernel
theorem dX12_stove_203 : decode cX12_stove 203 = .ok (.irem, 1) := by decide +kernel
theorem dX12_stove_204 : decode cX12_stove 204 = .ok (.iload 5, 2) := by decide +kernel
theorem dX12_stove_206 : decode cX12_stove 206 = .ok (.invokevirtual 389, 3) := by decide +kernel
theorem dX12_stove_209 : decode cX12_stove 209 = .ok (.ifCond .eq 20, 3) := by decide +kernel
theorem dX12_stove_212 : decode cX12_stove 212 = .ok (.aload_n 0, 1) := by decide +kernel
theorem dX12_stove_213 : decode cX12_stove 213 = .ok (.iload 4, 2) := by decide +kernel
theorem dX12_stove_215 : decode cX12_stove 215 = .ok (.bipush 8, 2) := by decide +kernel
theorem dX12_stove_217 : decode cX12_stove 217 = .ok (.idiv, 1) := by decide +kernel
theorem dX12_stove_218 : decode cX12_stove 218 = .ok (.bipush 8, 2) := by decide +kernel
theorem dX12_stove_220 : decode cX12_stove 220 = .ok (.imul, 1) := by decide +kernel
theorem dX12_stove_221 : decode cX12_stove 221 = .ok (.iload 5, 2) := by decide +kernel
theorem dX12_stove_223 : decode cX12_stove 223 = .ok (.iadd, 1) := by decide +kernel
theorem dX12_stove_224 : decode cX12_stove 224 = .ok (.iload 4, 2) := by decide +kernel
theorem dX12_stove_226 : decode cX12_stove 226 = .ok (.invokevirtual 386, 3) := by decide +kernel
theorem dX12_stove_229 : decode cX12_stove 229 = .ok (.iinc 5 1, 3) := by decide +kernel
theorem dX12_stove_232 : decode cX12_stove 232 = .ok (.goto (-43), 3) := by decide +kernel
theorem dX12_stove_235 : decode cX12_stove 235 = .ok (.iinc 3 1, 3) := by decide +kernel
theorem dX12_stove_238 : decode cX12_stove 238 = .ok (.goto (-149), 3) := by decide +kernel
theorem dX12_stove_241 : decode cX12_stove 241 = .ok (.iconst (-1), 1) := by decide +kernel
theorem dX12_stove_242 : decode cX12_stove 242 = .ok (.ireturn, 1) := by decide +kernel
set_option maxRecDepth 100000 in
def F_X12_stove_l33 (v0 : Nat) (v1 : Int32) (v2 : Int32) (h : Hp) : Option ((Int32 × Hp) ⊕ Hp) :=
  (if (32768 : Int32) ≤ v2 then some (.inr h) else gd (decide (kd h v0 = 11)) <| ob (zR h v0 21) fun q11 => gd (decide (kd h q11 = 13)) <| gd (ix v2 (zl h q11)) <| some (.inl (v2 + (1 : Int32), setI h q11 (v2).toNatClampNeg (-1 : Int32))))
set_option maxHeartbeats 4000000 in
set_option maxRecDepth 100000 in
theorem r_X12_stove_l33 (v0 : Nat) (v1 : Int32) (v2 : Int32) (h : Hp) {x : Cx} {o : ((Int32 × Hp) ⊕ Hp)} (e : F_X12_stove_l33 v0 v1 v2 h = some o) (kI : ∀ z, o = .inl z → V M_X12_stove x 6 33 [(0, .ref v0), (1, .int v1), (2, .int z.1)] [] z.2 0 0) (kE52 : ∀ z : Hp, o = .inr z → V M_X12_stove x 6 52 [(0, .ref v0), (1, .int v1)] [] z 0 0) : V M_X12_stove x 6 33 [(0, .ref v0), (1, .int v1), (2, .int v2)] [] h 0 0 := by
  unfold F_X12_stove_l33 at e
  refine V_iload_n (pc := 33) (i := 2) dX12_stove_33 rfl rfl ?_
  refine V_ldc (pc := 34) (v := (32768 : Int32)) dX12_stove_34 (wk_X12_45) ?_
  refine V_icmp_ge (pc := 36) (tgt := 52) dX12_stove_36 (by decide) (fun c15 => ?_) (fun c15 => ?_)
  · rw [if_pos c15] at e
    cases e
    exact V_pick [0, 1] rfl (kE52 _ rfl)
  · rw [if_neg c15] at e
    refine V_pick [0, 1, 2] rfl ?_
    refine V_aload_n (pc := 39) (i := 0) dX12_stove_39 rfl rfl ?_
    obtain ⟨g10, e⟩ := gd_some e
    obtain ⟨q11, g12, e⟩ := ob_some e
    refine V_getR (pc := 40) (ci := 11) (k := 21) (b := q11) dX12_stove_40 fl_X12_50 rfl (of_decide_eq_true g10) g12 ?_
    refine V_iload_n (pc := 43) (i := 2) dX12_stove_43 rfl rfl ?_
    refine V_iconst (pc := 44) (v := (-1 : Int32)) dX12_stove_44 (by decide) ?_
    obtain ⟨g13, e⟩ := gd_some e
    obtain ⟨g14, e⟩ := gd_some e
    refine V_iast (pc := 45) dX12_stove_45 (of_decide_eq_true g13) (ix_in g14) ?_
    refine V_iinc (pc := 46) (i := 2) (u := v2 + (1 : Int32)) (lv' := [(2, .int (v2 + (1 : Int32))), (0, .ref v0), (1, .int v1)]) dX12_stove_46 rfl rfl (by decide) rfl ?_
    refine V_goto (pc := 49) (tgt := 33) dX12_stove_49 (by decide) ?_
    cases e
    exact V_pick [1, 2, 0] rfl (kI _ rfl)
set_option maxRecDepth 100000 in
def F_X12_stove_l137 (v0 : Nat) (v1 : Int32) (v3 : Int32) (v4 : Int32) (v5 : Int32) (v6 : Int32) (h : Hp) : Option ((Int32 × Hp) ⊕ Hp) :=
  ob (F_X12_rooms v0 h) fun r43 => gd (decide (kd h v0 = 11)) <| (if r43 ≤ v6 then some (.inr h) else ob (F_X12_sent v0 (v4 / (8 : Int32)) v5 v6 h) fun r46 => ob2 (F_X12_comes v0 (((8 : Int32) * r46) + (v4 - v4 / (8 : Int32) * (8 : Int32))) v4 h) fun _ h49 => some (.inl (v6 + (1 : Int32), h49)))
set_option maxHeartbeats 4000000 in
set_option maxRecDepth 100000 in
theorem r_X12_stove_l137 (v0 : Nat) (v1 : Int32) (v3 : Int32) (v4 : Int32) (v5 : Int32) (v6 : Int32) (h : Hp) {x : Cx} {o : ((Int32 × Hp) ⊕ Hp)} (e : F_X12_stove_l137 v0 v1 v3 v4 v5 v6 h = some o) (kI : ∀ z, o = .inl z → V M_X12_stove x 6 137 [(0, .ref v0), (1, .int v1), (3, .int v3), (4, .int v4), (5, .int v5), (6, .int z.1)] [] z.2 0 0) (kE180 : ∀ z : Hp, o = .inr z → V M_X12_stove x 6 180 [(0, .ref v0), (1, .int v1), (3, .int v3), (4, .int v4), (5, .int v5)] [] z 0 0) : V M_X12_stove x 6 137 [(0, .ref v0), (1, .int v1), (3, .int v3), (4, .int v4), (5, .int v5), (6, .int v6)] [] h 0 0 := by
  unfold F_X12_stove_l137 at e
  refine V_iload (pc := 137) (i := 6) dX12_stove_137 rfl ?_
  refine V_aload_n (pc := 139) (i := 0) dX12_stove_139 rfl rfl ?_
  obtain ⟨r43, g42, e⟩ := ob_some e
  obtain ⟨g44, e⟩ := gd_some e
  refine V_callV (pc := 140) (bc := 0) (bs := 0) (mc := 0) (ms := 0) (st := [.int v6]) (As := []) (a := v0) (h' := h) (r := some (.int r43)) dX12_stove_140 ml_X12_60 (ci := 11) rfl (of_decide_eq_true g44) rfl rfl (Nat.le_of_ble_eq_true rfl) (d' := 0) (by decide) (c_X12_rooms (l := x.2.1) v0 h g42) ?_
  refine V_icmp_ge (pc := 143) (tgt := 180) dX12_stove_143 (by decide) (fun c50 => ?_) (fun c50 => ?_)
  · rw [if_pos c50] at e
    cases e
    exact V_pick [0, 1, 2, 3, 4] rfl (kE180 _ rfl)
  · rw [if_neg c50] at e
    refine V_pick [0, 1, 2, 3, 4, 5] rfl ?_
    refine V_aload_n (pc := 146) (i := 0) dX12_stove_146 rfl rfl ?_
    refine V_bipush (pc := 147) (v := (8 : Int32)) dX12_stove_147 (by decide) ?_
    refine V_aload_n (pc := 149) (i := 0) dX12_stove_149 rfl rfl ?_
    refine V_iload (pc := 150) (i := 4) dX12_stove_150 rfl ?_
    refine V_bipush (pc := 152) (v := (8 : Int32)) dX12_stove_152 (by decide) ?_
    refine V_idiv (pc := 154) dX12_stove_154 (by decide) ?_
    refine V_iload (pc := 155) (i := 5) dX12_stove_155 rfl ?_
    refine V_iload (pc := 157) (i := 6) dX12_stove_157 rfl ?_
    obtain ⟨r46, g45, e⟩ := ob_some e
    refine V_callV (pc := 159) (bc := 0) (bs := 0) (mc := 0) (ms := 0) (st := [.int (8 : Int32), .ref v0]) (As := [.int (v4 / (8 : Int32)), .int v5, .int v6]) (a := v0) (h' := h) (r := some (.int r46)) dX12_stove_159 ml_X12_361 (ci := 11) rfl (of_decide_eq_true g44) rfl rfl (Nat.le_of_ble_eq_true rfl) (d' := 1) (by decide) (c_X12_sent (l := x.2.1) v0 (v4 / (8 : Int32)) v5 v6 h g45) ?_
    refine V_imul (pc := 162) dX12_stove_162 ?_
    refine V_iload (pc := 163) (i := 4) dX12_stove_163 rfl ?_
    refine V_bipush (pc := 165) (v := (8 : Int32)) dX12_stove_165 (by decide) ?_
    refine V_irem (pc := 167) dX12_stove_167 (by decide) ?_
    refine V_iadd (pc := 168) dX12_stove_168 ?_
    refine V_iload (pc := 169) (i := 4) dX12_stove_169 rfl ?_
    obtain ⟨r48, h49, g47, e⟩ := ob2_some e
    refine V_callV (pc := 171) (bc := 0) (bs := 0) (mc := 0) (ms := 0) (st := []) (As := [.int (((8 : Int32) * r46) + (v4 - v4 / (8 : Int32) * (8 : Int32))), .int v4]) (a := v0) (h' := h49) (r := none) dX12_stove_171 ml_X12_386 (ci := 11) rfl (of_decide_eq_true g44) rfl rfl (Nat.le_of_ble_eq_true rfl) (d' := 5) (by decide) (c_X12_comes (l := x.2.1) v0 (((8 : Int32) * r46) + (v4 - v4 / (8 : Int32) * (8 : Int32))) v4 h g47) ?_
    refine V_iinc (pc := 174) (i := 6) (u := v6 + (1 : Int32)) (lv' := [(6, .int (v6 + (1 : Int32))), (0, .ref v0), (1, .int v1), (3, .int v3), (4, .int v4), (5, .int v5)]) dX12_stove_174 rfl rfl (by decide) rfl ?_
    refine V_goto (pc := 177) (tgt := 137) dX12_stove_177 (by decide) ?_
    cases e
    exact V_pick [1, 2, 3, 4, 5, 0] rfl (kI _ rfl)
set_option maxRecDepth 100000 in
def F_X12_stove_l125 (v0 : Nat) (v1 : Int32) (v3 : Int32) (v4 : Int32) (v5 : Int32) (h : Hp) : Option ((Int32 × Hp) ⊕ Hp) :=
  ob (F_X12_guests v0 h) fun r40 => gd (decide (kd h v0 = 11)) <| (if r40 ≤ v5 then some (.inr h) else ob (iter (fun z : Int32 × Hp => F_X12_stove_l137 v0 v1 v3 v4 v5 z.1 z.2) FU ((0 : Int32), h)) (fun h51 => some (.inl (v5 + (1 : Int32), h51))))
set_option maxHeartbeats 4000000 in
set_option maxRecDepth 100000 in
theorem r_X12_stove_l125 (v0 : Nat) (v1 : Int32) (v3 : Int32) (v4 : Int32) (v5 : Int32) (h : Hp) {x : Cx} {o : ((Int32 × Hp) ⊕ Hp)} (e : F_X12_stove_l125 v0 v1 v3 v4 v5 h = some o) (kI : ∀ z, o = .inl z → V M_X12_stove x 6 125 [(0, .ref v0), (1, .int v1), (3, .int v3), (4, .int v4), (5, .int z.1)] [] z.2 0 0) (kE186 : ∀ z : Hp, o = .inr z → V M_X12_stove x 6 186 [(0, .ref v0), (1, .int v1), (3, .int v3), (4, .int v4)] [] z 0 0) : V M_X12_stove x 6 125 [(0, .ref v0), (1, .int v1), (3, .int v3), (4, .int v4), (5, .int v5)] [] h 0 0 := by
  unfold F_X12_stove_l125 at e
  refine V_iload (pc := 125) (i := 5) dX12_stove_125 rfl ?_
  refine V_aload_n (pc := 127) (i := 0) dX12_stove_127 rfl rfl ?_
  obtain ⟨r40, g39, e⟩ := ob_some e
  obtain ⟨g41, e⟩ := gd_some e
  refine V_callV (pc := 128) (bc := 0) (bs := 0) (mc := 0) (ms := 0) (st := [.int v5]) (As := []) (a := v0) (h' := h) (r := some (.int r40)) dX12_stove_128 ml_X12_68 (ci := 11) rfl (of_decide_eq_true g41) rfl rfl (Nat.le_of_ble_eq_true rfl) (d' := 0) (by decide) (c_X12_guests (l := x.2.1) v0 h g39) ?_
  refine V_icmp_ge (pc := 131) (tgt := 186) dX12_stove_131 (by decide) (fun c54 => ?_) (fun c54 => ?_)
  · rw [if_pos c54] at e
    cases e
    exact V_pick [0, 1, 2, 3] rfl (kE186 _ rfl)
  · rw [if_neg c54] at e
    refine V_pick [0, 1, 2, 3, 4] rfl ?_
    refine V_iconst (pc := 134) (v := (0 : Int32)) dX12_stove_134 (by decide) ?_
    refine V_istore (pc := 135) (i := 6) (lv' := [(6, .int (0 : Int32)), (0, .ref v0), (1, .int v1), (3, .int v3), (4, .int v4), (5, .int v5)]) dX12_stove_135 (by decide) rfl ?_
    refine V_pick [1, 2, 3, 4, 5, 0] rfl ?_
    obtain ⟨y52, g53, e⟩ := ob_some e
    refine iter_V (P := fun z : Int32 × Hp => V M_X12_stove x 6 137 [(0, .ref v0), (1, .int v1), (3, .int v3), (4, .int v4), (5, .int v5), (6, .int z.1)] [] z.2 0 0) (E := fun z : Hp => V M_X12_stove x 6 180 [(0, .ref v0), (1, .int v1), (3, .int v3), (4, .int v4), (5, .int v5)] [] z 0 0) (fun z o e9 k1 k2 => r_X12_stove_l137 v0 v1 v3 v4 v5 z.1 z.2 e9 (fun z hz9 => k1 z hz9) (fun z hz9 => k2 _ hz9)) _ _ _ g53 ?_
    clear g53
    obtain ⟨h51, rfl⟩ : ∃ q, q = y52 := ⟨_, rfl⟩
    replace e : (some (.inl (v5 + (1 : Int32), h51))) = some o := e
    show V M_X12_stove x 6 180 [(0, .ref v0), (1, .int v1), (3, .int v3), (4, .int v4), (5, .int v5)] [] h51 0 0
    refine V_iinc (pc := 180) (i := 5) (u := v5 + (1 : Int32)) (lv' := [(5, .int (v5 + (1 : Int32))), (0, .ref v0), (1, .int v1), (3, .int v3), (4, .int v4)]) dX12_stove_180 rfl rfl (by decide) rfl ?_
    refine V_goto (pc := 183) (tgt := 125) dX12_stove_183 (by decide) ?_
    cases e
    exact V_pick [1, 2, 3, 4, 0] rfl (kI _ rfl)
set_option maxRecDepth 100000 in
def F_X12_stove_b229 (v0 : Nat) (v1 : Int32) (v3 : Int32) (v4 : Int32) (v5 : Int32) (h : Hp) : Option ((Int32 × Hp) ⊕ Hp) :=
  some (.inl (v5 + (1 : Int32), h))
set_option maxHeartbeats 4000000 in
set_option maxRecDepth 100000 in
theorem r_X12_stove_b229 (v0 : Nat) (v1 : Int32) (v3 : Int32) (v4 : Int32) (v5 : Int32) (h : Hp) {x : Cx} {o : ((Int32 × Hp) ⊕ Hp)} (e : F_X12_stove_b229 v0 v1 v3 v4 v5 h = some o) (kI : ∀ z, o = .inl z → V M_X12_stove x 6 189 [(0, .ref v0), (1, .int v1), (3, .int v3), (4, .int v4), (5, .int z.1)] [] z.2 0 0) (kE235 : ∀ z : Hp, o = .inr z → V M_X12_stove x 6 235 [(0, .ref v0), (1, .int v1), (3, .int v3)] [] z 0 0) : V M_X12_stove x 6 229 [(0, .ref v0), (1, .int v1), (3, .int v3), (4, .int v4), (5, .int v5)] [] h 0 0 := by
  unfold F_X12_stove_b229 at e
  refine V_iinc (pc := 229) (i := 5) (u := v5 + (1 : Int32)) (lv' := [(5, .int (v5 + (1 : Int32))), (0, .ref v0), (1, .int v1), (3, .int v3), (4, .int v4)]) dX12_stove_229 rfl rfl (by decide) rfl ?_
  refine V_goto (pc := 232) (tgt := 189) dX12_stove_232 (by decide) ?_
  cases e
  exact V_pick [1, 2, 3, 4, 0] rfl (kI _ rfl)
set_option maxRecDepth 100000 in
def F_X12_stove_l189 (v0 : Nat) (v1 : Int32) (v3 : Int32) (v4 : Int32) (v5 : Int32) (h : Hp) : Option ((Int32 × Hp) ⊕ Hp) :=
  ob (F_X12_rooms v0 h) fun r57 => gd (decide (kd h v0 = 11)) <| (if r57 ≤ v5 then some (.inr h) else ob (F_X12_isStep v0 (v4 - v4 / (8 : Int32) * (8 : Int32)) v5 h) fun r60 => (if r60 = 0 then F_X12_stove_b229 v0 v1 v3 v4 v5 h else ob2 (F_X12_comes v0 (((v4 / (8 : Int32)) * (8 : Int32)) + v5) v4 h) fun _ h63 => F_X12_stove_b229 v0 v1 v3 v4 v5 h63))
set_option maxHeartbeats 4000000 in
set_option maxRecDepth 100000 in
theorem r_X12_stove_l189 (v0 : Nat) (v1 : Int32) (v3 : Int32) (v4 : Int32) (v5 : Int32) (h : Hp) {x : Cx} {o : ((Int32 × Hp) ⊕ Hp)} (e : F_X12_stove_l189 v0 v1 v3 v4 v5 h = some o) (kI : ∀ z, o = .inl z → V M_X12_stove x 6 189 [(0, .ref v0), (1, .int v1), (3, .int v3), (4, .int v4), (5, .int z.1)] [] z.2 0 0) (kE235 : ∀ z : Hp, o = .inr z → V M_X12_stove x 6 235 [(0, .ref v0), (1, .int v1), (3, .int v3)] [] z 0 0) : V M_X12_stove x 6 189 [(0, .ref v0), (1, .int v1), (3, .int v3), (4, .int v4), (5, .int v5)] [] h 0 0 := by
  unfold F_X12_stove_l189 at e
  refine V_iload (pc := 189) (i := 5) dX12_stove_189 rfl ?_
  refine V_aload_n (pc := 191) (i := 0) dX12_stove_191 rfl rfl ?_
  obtain ⟨r57, g56, e⟩ := ob_some e
  obtain ⟨g58, e⟩ := gd_some e
  refine V_callV (pc := 192) (bc := 0) (bs := 0) (mc := 0) (ms := 0) (st := [.int v5]) (As := []) (a := v0) (h' := h) (r := some (.int r57)) dX12_stove_192 ml_X12_60 (ci := 11) rfl (of_decide_eq_true g58) rfl rfl (Nat.le_of_ble_eq_true rfl) (d' := 0) (by decide) (c_X12_rooms (l := x.2.1) v0 h g56) ?_
  refine V_icmp_ge (pc := 195) (tgt := 235) dX12_stove_195 (by decide) (fun c65 => ?_) (fun c65 => ?_)
  · rw [if_pos c65] at e
    cases e
    exact V_pick [0, 1, 2] rfl (kE235 _ rfl)
  · rw [if_neg c65] at e
    refine V_pick [0, 1, 2, 3, 4] rfl ?_
    refine V_aload_n (pc := 198) (i := 0) dX12_stove_198 rfl rfl ?_
    refine V_iload (pc := 199) (i := 4) dX12_stove_199 rfl ?_
    refine V_bipush (pc := 201) (v := (8 : Int32)) dX12_stove_201 (by decide) ?_
    refine V_irem (pc := 203) dX12_stove_203 (by decide) ?_
    refine V_iload (pc := 204) (i := 5) dX12_stove_204 rfl ?_
    obtain ⟨r60, g59, e⟩ := ob_some e
    refine V_callV (pc := 206) (bc := 0) (bs := 0) (mc := 0) (ms := 0) (st := []) (As := [.int (v4 - v4 / (8 : Int32) * (8 : Int32)), .int v5]) (a := v0) (h' := h) (r := some (.int r60)) dX12_stove_206 ml_X12_389 (ci := 11) rfl (of_decide_eq_true g58) rfl rfl (Nat.le_of_ble_eq_true rfl) (d' := 2) (by decide) (c_X12_isStep (l := x.2.1) v0 (v4 - v4 / (8 : Int32) * (8 : Int32)) v5 h g59) ?_
    refine V_if_eq (pc := 209) (tgt := 229) dX12_stove_209 (by decide) (fun c64 => ?_) (fun c64 => ?_)
    · rw [if_pos c64] at e
      exact V_pick [0, 1, 2, 3, 4] rfl (r_X12_stove_b229 v0 v1 v3 v4 v5 h e kI kE235)
    · rw [if_neg c64] at e
      refine V_pick [0, 1, 2, 3, 4] rfl ?_
      refine V_aload_n (pc := 212) (i := 0) dX12_stove_212 rfl rfl ?_
      refine V_iload (pc := 213) (i := 4) dX12_stove_213 rfl ?_
      refine V_bipush (pc := 215) (v := (8 : Int32)) dX12_stove_215 (by decide) ?_
      refine V_idiv (pc := 217) dX12_stove_217 (by decide) ?_
      refine V_bipush (pc := 218) (v := (8 : Int32)) dX12_stove_218 (by decide) ?_
      refine V_imul (pc := 220) dX12_stove_220 ?_
      refine V_iload (pc := 221) (i := 5) dX12_stove_221 rfl ?_
      refine V_iadd (pc := 223) dX12_stove_223 ?_
      refine V_iload (pc := 224) (i := 4) dX12_stove_224 rfl ?_
      obtain ⟨r62, h63, g61, e⟩ := ob2_some e
      refine V_callV (pc := 226) (bc := 0) (bs := 0) (mc := 0) (ms := 0) (st := []) (As := [.int (((v4 / (8 : Int32)) * (8 : Int32)) + v5), .int v4]) (a := v0) (h' := h63) (r := none) dX12_stove_226 ml_X12_386 (ci := 11) rfl (of_decide_eq_true g58) rfl rfl (Nat.le_of_ble_eq_true rfl) (d' := 5) (by decide) (c_X12_comes (l := x.2.1) v0 (((v4 / (8 : Int32)) * (8 : Int32)) + v5) v4 h g61) ?_
      exact V_pick [0, 1, 2, 3, 4] rfl (r_X12_stove_b229 v0 v1 v3 v4 v5 h63 e kI kE235)
set_option maxRecDepth 100000 in
def F_X12_stove_l89 (v0 : Nat) (v1 : Int32) (v3 : Int32) (h : Hp) : Option ((Int32 × Hp) ⊕ (Hp ⊕ (Int32 × Hp))) :=
  gd (decide (kd h v0 = 11)) <| (if (zI h v0 26) ≤ v3 then some (.inr (.inl h)) else ob (zR h v0 22) fun q35 => gd (decide (kd h q35 = 13)) <| gd (ix v3 (zl h q35)) <| (if ((zI h q35 (v3).toNatClampNeg) - (zI h q35 (v3).toNatClampNeg) / (8 : Int32) * (8 : Int32)) = v1 then some (.inr (.inr (zI h q35 (v3).toNatClampNeg, h))) else ob (iter (fun z : Int32 × Hp => F_X12_stove_l125 v0 v1 v3 (zI h q35 (v3).toNatClampNeg) z.1 z.2) FU ((0 : Int32), h)) (fun h55 => ob (iter (fun z : Int32 × Hp => F_X12_stove_l189 v0 v1 v3 (zI h q35 (v3).toNatClampNeg) z.1 z.2) FU ((0 : Int32), h55)) (fun h66 => some (.inl (v3 + (1 : Int32), h66))))))
set_option maxHeartbeats 4000000 in
set_option maxRecDepth 100000 in
theorem r_X12_stove_l89 (v0 : Nat) (v1 : Int32) (v3 : Int32) (h : Hp) {x : Cx} {o : ((Int32 × Hp) ⊕ (Hp ⊕ (Int32 × Hp)))} (e : F_X12_stove_l89 v0 v1 v3 h = some o) (kI : ∀ z, o = .inl z → V M_X12_stove x 6 89 [(0, .ref v0), (1, .int v1), (3, .int z.1)] [] z.2 0 0) (kE241 : ∀ z : Hp, o = .inr (.inl z) → V M_X12_stove x 6 241 [] [] z 0 0) (kE114 : ∀ z : Int32 × Hp, o = .inr (.inr z) → V M_X12_stove x 6 114 [(0, .ref v0), (4, .int z.1)] [] z.2 0 0) : V M_X12_stove x 6 89 [(0, .ref v0), (1, .int v1), (3, .int v3)] [] h 0 0 := by
  unfold F_X12_stove_l89 at e
  refine V_iload_n (pc := 89) (i := 3) dX12_stove_89 rfl rfl ?_
  refine V_aload_n (pc := 90) (i := 0) dX12_stove_90 rfl rfl ?_
  obtain ⟨g34, e⟩ := gd_some e
  refine V_getI (pc := 91) (ci := 11) (k := 26) dX12_stove_91 fl_X12_383 rfl (of_decide_eq_true g34) ?_
  refine V_icmp_ge (pc := 94) (tgt := 241) dX12_stove_94 (by decide) (fun c72 => ?_) (fun c72 => ?_)
  · rw [if_pos c72] at e
    cases e
    exact V_pick [] rfl (kE241 _ rfl)
  · rw [if_neg c72] at e
    refine V_pick [0, 1, 2] rfl ?_
    refine V_aload_n (pc := 97) (i := 0) dX12_stove_97 rfl rfl ?_
    obtain ⟨q35, g36, e⟩ := ob_some e
    refine V_getR (pc := 98) (ci := 11) (k := 22) (b := q35) dX12_stove_98 fl_X12_53 rfl (of_decide_eq_true g34) g36 ?_
    refine V_iload_n (pc := 101) (i := 3) dX12_stove_101 rfl rfl ?_
    obtain ⟨g37, e⟩ := gd_some e
    obtain ⟨g38, e⟩ := gd_some e
    refine V_iald (pc := 102) dX12_stove_102 (of_decide_eq_true g37) (ix_in g38) ?_
    refine V_istore (pc := 103) (i := 4) (lv' := [(4, .int (zI h q35 (v3).toNatClampNeg)), (0, .ref v0), (1, .int v1), (3, .int v3)]) dX12_stove_103 (by decide) rfl ?_
    refine V_iload (pc := 105) (i := 4) dX12_stove_105 rfl ?_
    refine V_bipush (pc := 107) (v := (8 : Int32)) dX12_stove_107 (by decide) ?_
    refine V_irem (pc := 109) dX12_stove_109 (by decide) ?_
    refine V_iload_n (pc := 110) (i := 1) dX12_stove_110 rfl rfl ?_
    refine V_icmp_ne (pc := 111) (tgt := 122) dX12_stove_111 (by decide) (fun c71 => ?_) (fun c71 => ?_)
    · rw [if_neg c71] at e
      refine V_pick [1, 2, 3, 0] rfl ?_
      refine V_iconst (pc := 122) (v := (0 : Int32)) dX12_stove_122 (by decide) ?_
      refine V_istore (pc := 123) (i := 5) (lv' := [(5, .int (0 : Int32)), (0, .ref v0), (1, .int v1), (3, .int v3), (4, .int (zI h q35 (v3).toNatClampNeg))]) dX12_stove_123 (by decide) rfl ?_
      refine V_pick [1, 2, 3, 4, 0] rfl ?_
      obtain ⟨y69, g70, e⟩ := ob_some e
      refine iter_V (P := fun z : Int32 × Hp => V M_X12_stove x 6 125 [(0, .ref v0), (1, .int v1), (3, .int v3), (4, .int (zI h q35 (v3).toNatClampNeg)), (5, .int z.1)] [] z.2 0 0) (E := fun z : Hp => V M_X12_stove x 6 186 [(0, .ref v0), (1, .int v1), (3, .int v3), (4, .int (zI h q35 (v3).toNatClampNeg))] [] z 0 0) (fun z o e9 k1 k2 => r_X12_stove_l125 v0 v1 v3 (zI h q35 (v3).toNatClampNeg) z.1 z.2 e9 (fun z hz9 => k1 z hz9) (fun z hz9 => k2 _ hz9)) _ _ _ g70 ?_
      clear g70
      obtain ⟨h55, rfl⟩ : ∃ q, q = y69 := ⟨_, rfl⟩
      replace e : (ob (iter (fun z : Int32 × Hp => F_X12_stove_l189 v0 v1 v3 (zI h q35 (v3).toNatClampNeg) z.1 z.2) FU ((0 : Int32), h55)) (fun h66 => some (.inl (v3 + (1 : Int32), h66)))) = some o := e
      show V M_X12_stove x 6 186 [(0, .ref v0), (1, .int v1), (3, .int v3), (4, .int (zI h q35 (v3).toNatClampNeg))] [] h55 0 0
      refine V_iconst (pc := 186) (v := (0 : Int32)) dX12_stove_186 (by decide) ?_
      refine V_istore (pc := 187) (i := 5) (lv' := [(5, .int (0 : Int32)), (0, .ref v0), (1, .int v1), (3, .int v3), (4, .int (zI h q35 (v3).toNatClampNeg))]) dX12_stove_187 (by decide) rfl ?_
      refine V_pick [1, 2, 3, 4, 0] rfl ?_
      obtain ⟨y67, g68, e⟩ := ob_some e
      refine iter_V (P := fun z : Int32 × Hp => V M_X12_stove x 6 189 [(0, .ref v0), (1, .int v1), (3, .int v3), (4, .int (zI h q35 (v3).toNatClampNeg)), (5, .int z.1)] [] z.2 0 0) (E := fun z : Hp => V M_X12_stove x 6 235 [(0, .ref v0), (1, .int v1), (3, .int v3)] [] z 0 0) (fun z o e9 k1 k2 => r_X12_stove_l189 v0 v1 v3 (zI h q35 (v3).toNatClampNeg) z.1 z.2 e9 (fun z hz9 => k1 z hz9) (fun z hz9 => k2 _ hz9)) _ _ _ g68 ?_
      clear g68
      obtain ⟨h66, rfl⟩ : ∃ q, q = y67 := ⟨_, rfl⟩
      replace e : (some (.inl (v3 + (1 : Int32), h66))) = some o := e
      show V M_X12_stove x 6 235 [(0, .ref v0), (1, .int v1), (3, .int v3)] [] h66 0 0
      refine V_iinc (pc := 235) (i := 3) (u := v3 + (1 : Int32)) (lv' := [(3, .int (v3 + (1 : Int32))), (0, .ref v0), (1, .int v1)]) dX12_stove_235 rfl rfl (by decide) rfl ?_
      refine V_goto (pc := 238) (tgt := 89) dX12_stove_238 (by decide) ?_
      cases e
      exact V_pick [1, 2, 0] rfl (kI _ rfl)
    · rw [if_pos c71] at e
      cases e
      exact V_pick [1, 0] rfl (kE114 _ rfl)
set_option maxRecDepth 100000 in
def F_X12_stove_b0 (v0 : Nat) (v1 : Int32) (h : Hp) : Option (Int32 × Hp) :=
  gd (decide (kd h v0 = 11)) <| ob (F_X12_noRoom v0 v1 (setI h v0 0 (0 : Int32))) fun r3 => ob2 (F_X12_throwsIf v0 r3 (1 : Int32) (setI h v0 0 (0 : Int32))) fun r5 h6 => (if r5 = 0 then ob (F_X12_guests v0 h6) fun r8 => gd (decide (kd h6 v0 = 11)) <| (if r8 = (5 : Int32) then some ((-3 : Int32), h6) else ob (iter (fun z : Int32 × Hp => F_X12_stove_l33 v0 v1 z.1 z.2) FU ((0 : Int32), h6)) (fun h16 => ob2 (F_X12_now v0 h16) fun r18 h19 => gd (decide (kd h16 v0 = 11)) <| gd (decide (kd h19 v0 = 11)) <| ob (zR h19 v0 1) fun q22 => gd (decide (kd h19 q22 = 13)) <| gd (ix (6 : Int32) (zl h19 q22)) <| ob (zR h19 v0 21) fun q26 => gd (decide (kd h19 q26 = 13)) <| gd (ix (((8 : Int32) * r18) + (zI h19 q22 ((6 : Int32)).toNatClampNeg)) (zl h19 q26)) <| ob (zR (setI h19 q26 (((8 : Int32) * r18) + (zI h19 q22 ((6 : Int32)).toNatClampNeg)).toNatClampNeg (0 : Int32)) v0 22) fun q30 => gd (decide (kd (setI h19 q26 (((8 : Int32) * r18) + (zI h19 q22 ((6 : Int32)).toNatClampNeg)).toNatClampNeg (0 : Int32)) q30 = 13)) <| gd (ix (0 : Int32) (zl (setI h19 q26 (((8 : Int32) * r18) + (zI h19 q22 ((6 : Int32)).toNatClampNeg)).toNatClampNeg (0 : Int32)) q30)) <| ob (iter (fun z : Int32 × Hp => F_X12_stove_l89 v0 v1 z.1 z.2) FU ((0 : Int32), setI (setI (setI h19 q26 (((8 : Int32) * r18) + (zI h19 q22 ((6 : Int32)).toNatClampNeg)).toNatClampNeg (0 : Int32)) q30 ((0 : Int32)).toNatClampNeg (((8 : Int32) * r18) + (zI h19 q22 ((6 : Int32)).toNatClampNeg))) v0 26 (1 : Int32))) (fun z => sm z (fun h73 => some ((-1 : Int32), h73)) (fun z => un2 z fun w74 h75 => gd (decide (kd h75 v0 = 11)) <| ob (zR h75 v0 21) fun q77 => gd (decide (kd h75 q77 = 13)) <| gd (ix w74 (zl h75 q77)) <| some (zI h75 q77 (w74).toNatClampNeg, h75))))) else some ((0 : Int32), h6))
set_option maxHeartbeats 4000000 in
set_option maxRecDepth 100000 in
theorem r_X12_stove_b0 (v0 : Nat) (v1 : Int32) (h : Hp) {x : Cx} {r : Int32} {hz : Hp} (e : F_X12_stove_b0 v0 v1 h = some (r, hz)) (hF : Fin9 M_X12_stove x (some .int) (some (.int r)) hz) : V M_X12_stove x 6 0 [(0, .ref v0), (1, .int v1)] [] h 0 0 := by
  unfold F_X12_stove_b0 at e
  refine V_aload_n (pc := 0) (i := 0) dX12_stove_0 rfl rfl ?_
  refine V_iconst (pc := 1) (v := (0 : Int32)) dX12_stove_1 (by decide) ?_
  obtain ⟨g1, e⟩ := gd_some e
  refine V_putI (pc := 2) (ci := 11) (k := 0) dX12_stove_2 fp_X12_3 rfl (of_decide_eq_true g1) ?_
  refine V_aload_n (pc := 5) (i := 0) dX12_stove_5 rfl rfl ?_
  refine V_aload_n (pc := 6) (i := 0) dX12_stove_6 rfl rfl ?_
  refine V_iload_n (pc := 7) (i := 1) dX12_stove_7 rfl rfl ?_
  obtain ⟨r3, g2, e⟩ := ob_some e
  refine V_callV (pc := 8) (bc := 0) (bs := 0) (mc := 0) (ms := 0) (st := [.ref v0]) (As := [.int v1]) (a := v0) (h' := (setI h v0 0 (0 : Int32))) (r := some (.int r3)) dX12_stove_8 ml_X12_250 (ci := 11) rfl (of_decide_eq_true g1) rfl rfl (Nat.le_of_ble_eq_true rfl) (d' := 1) (by decide) (c_X12_noRoom (l := x.2.1) v0 v1 (setI h v0 0 (0 : Int32)) g2) ?_
  refine V_iconst (pc := 11) (v := (1 : Int32)) dX12_stove_11 (by decide) ?_
  obtain ⟨r5, h6, g4, e⟩ := ob2_some e
  refine V_callV (pc := 12) (bc := 0) (bs := 0) (mc := 0) (ms := 0) (st := []) (As := [.int r3, .int (1 : Int32)]) (a := v0) (h' := h6) (r := some (.int r5)) dX12_stove_12 ml_X12_240 (ci := 11) rfl (of_decide_eq_true g1) rfl rfl (Nat.le_of_ble_eq_true rfl) (d' := 0) (by decide) (c_X12_throwsIf (l := x.2.1) v0 r3 (1 : Int32) (setI h v0 0 (0 : Int32)) g4) ?_
  refine V_if_eq (pc := 15) (tgt := 20) dX12_stove_15 (by decide) (fun c88 => ?_) (fun c88 => ?_)
  · rw [if_pos c88] at e
    refine V_pick [0, 1] rfl ?_
    refine V_aload_n (pc := 20) (i := 0) dX12_stove_20 rfl rfl ?_
    obtain ⟨r8, g7, e⟩ := ob_some e
    obtain ⟨g9, e⟩ := gd_some e
    refine V_callV (pc := 21) (bc := 0) (bs := 0) (mc := 0) (ms := 0) (st := []) (As := []) (a := v0) (h' := h6) (r := some (.int r8)) dX12_stove_21 ml_X12_68 (ci := 11) rfl (of_decide_eq_true g9) rfl rfl (Nat.le_of_ble_eq_true rfl) (d' := 0) (by decide) (c_X12_guests (l := x.2.1) v0 h6 g7) ?_
    refine V_iconst (pc := 24) (v := (5 : Int32)) dX12_stove_24 (by decide) ?_
    refine V_icmp_ne (pc := 25) (tgt := 31) dX12_stove_25 (by decide) (fun c87 => ?_) (fun c87 => ?_)
    · rw [if_neg c87] at e
      refine V_pick [0, 1] rfl ?_
      refine V_iconst (pc := 31) (v := (0 : Int32)) dX12_stove_31 (by decide) ?_
      refine V_istore_n (pc := 32) (i := 2) (lv' := [(2, .int (0 : Int32)), (0, .ref v0), (1, .int v1)]) dX12_stove_32 rfl (by decide) rfl ?_
      refine V_pick [1, 2, 0] rfl ?_
      obtain ⟨y85, g86, e⟩ := ob_some e
      refine iter_V (P := fun z : Int32 × Hp => V M_X12_stove x 6 33 [(0, .ref v0), (1, .int v1), (2, .int z.1)] [] z.2 0 0) (E := fun z : Hp => V M_X12_stove x 6 52 [(0, .ref v0), (1, .int v1)] [] z 0 0) (fun z o e9 k1 k2 => r_X12_stove_l33 v0 v1 z.1 z.2 e9 (fun z hz9 => k1 z hz9) (fun z hz9 => k2 _ hz9)) _ _ _ g86 ?_
      clear g86
      obtain ⟨h16, rfl⟩ : ∃ q, q = y85 := ⟨_, rfl⟩
      replace e : (ob2 (F_X12_now v0 h16) fun r18 h19 => gd (decide (kd h16 v0 = 11)) <| gd (decide (kd h19 v0 = 11)) <| ob (zR h19 v0 1) fun q22 => gd (decide (kd h19 q22 = 13)) <| gd (ix (6 : Int32) (zl h19 q22)) <| ob (zR h19 v0 21) fun q26 => gd (decide (kd h19 q26 = 13)) <| gd (ix (((8 : Int32) * r18) + (zI h19 q22 ((6 : Int32)).toNatClampNeg)) (zl h19 q26)) <| ob (zR (setI h19 q26 (((8 : Int32) * r18) + (zI h19 q22 ((6 : Int32)).toNatClampNeg)).toNatClampNeg (0 : Int32)) v0 22) fun q30 => gd (decide (kd (setI h19 q26 (((8 : Int32) * r18) + (zI h19 q22 ((6 : Int32)).toNatClampNeg)).toNatClampNeg (0 : Int32)) q30 = 13)) <| gd (ix (0 : Int32) (zl (setI h19 q26 (((8 : Int32) * r18) + (zI h19 q22 ((6 : Int32)).toNatClampNeg)).toNatClampNeg (0 : Int32)) q30)) <| ob (iter (fun z : Int32 × Hp => F_X12_stove_l89 v0 v1 z.1 z.2) FU ((0 : Int32), setI (setI (setI h19 q26 (((8 : Int32) * r18) + (zI h19 q22 ((6 : Int32)).toNatClampNeg)).toNatClampNeg (0 : Int32)) q30 ((0 : Int32)).toNatClampNeg (((8 : Int32) * r18) + (zI h19 q22 ((6 : Int32)).toNatClampNeg))) v0 26 (1 : Int32))) (fun z => sm z (fun h73 => some ((-1 : Int32), h73)) (fun z => un2 z fun w74 h75 => gd (decide (kd h75 v0 = 11)) <| ob (zR h75 v0 21) fun q77 => gd (decide (kd h75 q77 = 13)) <| gd (ix w74 (zl h75 q77)) <| some (zI h75 q77 (w74).toNatClampNeg, h75)))) = some (r, hz) := e
      show V M_X12_stove x 6 52 [(0, .ref v0), (1, .int v1)] [] h16 0 0
      refine V_bipush (pc := 52) (v := (8 : Int32)) dX12_stove_52 (by decide) ?_
      refine V_aload_n (pc := 54) (i := 0) dX12_stove_54 rfl rfl ?_
      obtain ⟨r18, h19, g17, e⟩ := ob2_some e
      obtain ⟨g20, e⟩ := gd_some e
      refine V_callV (pc := 55) (bc := 0) (bs := 0) (mc := 0) (ms := 0) (st := [.int (8 : Int32)]) (As := []) (a := v0) (h' := h19) (r := some (.int r18)) dX12_stove_55 ml_X12_371 (ci := 11) rfl (of_decide_eq_true g20) rfl rfl (Nat.le_of_ble_eq_true rfl) (d' := 2) (by decide) (c_X12_now (l := x.2.1) v0 h16 g17) ?_
      refine V_imul (pc := 58) dX12_stove_58 ?_
      refine V_aload_n (pc := 59) (i := 0) dX12_stove_59 rfl rfl ?_
      obtain ⟨g21, e⟩ := gd_some e
      obtain ⟨q22, g23, e⟩ := ob_some e
      refine V_getR (pc := 60) (ci := 11) (k := 1) (b := q22) dX12_stove_60 fl_X12_13 rfl (of_decide_eq_true g21) g23 ?_
      refine V_bipush (pc := 63) (v := (6 : Int32)) dX12_stove_63 (by decide) ?_
      obtain ⟨g24, e⟩ := gd_some e
      obtain ⟨g25, e⟩ := gd_some e
      refine V_iald (pc := 65) dX12_stove_65 (of_decide_eq_true g24) (ix_in g25) ?_
      refine V_iadd (pc := 66) dX12_stove_66 ?_
      refine V_istore_n (pc := 67) (i := 2) (lv' := [(2, .int (((8 : Int32) * r18) + (zI h19 q22 ((6 : Int32)).toNatClampNeg))), (0, .ref v0), (1, .int v1)]) dX12_stove_67 rfl (by decide) rfl ?_
      refine V_aload_n (pc := 68) (i := 0) dX12_stove_68 rfl rfl ?_
      obtain ⟨q26, g27, e⟩ := ob_some e
      refine V_getR (pc := 69) (ci := 11) (k := 21) (b := q26) dX12_stove_69 fl_X12_50 rfl (of_decide_eq_true g21) g27 ?_
      refine V_iload_n (pc := 72) (i := 2) dX12_stove_72 rfl rfl ?_
      refine V_iconst (pc := 73) (v := (0 : Int32)) dX12_stove_73 (by decide) ?_
      obtain ⟨g28, e⟩ := gd_some e
      obtain ⟨g29, e⟩ := gd_some e
      refine V_iast (pc := 74) dX12_stove_74 (of_decide_eq_true g28) (ix_in g29) ?_
      refine V_aload_n (pc := 75) (i := 0) dX12_stove_75 rfl rfl ?_
      obtain ⟨q30, g31, e⟩ := ob_some e
      refine V_getR (pc := 76) (ci := 11) (k := 22) (b := q30) dX12_stove_76 fl_X12_53 rfl (of_decide_eq_true g21) g31 ?_
      refine V_iconst (pc := 79) (v := (0 : Int32)) dX12_stove_79 (by decide) ?_
      refine V_iload_n (pc := 80) (i := 2) dX12_stove_80 rfl rfl ?_
      obtain ⟨g32, e⟩ := gd_some e
      obtain ⟨g33, e⟩ := gd_some e
      refine V_iast (pc := 81) dX12_stove_81 (of_decide_eq_true g32) (ix_in g33) ?_
      refine V_aload_n (pc := 82) (i := 0) dX12_stove_82 rfl rfl ?_
      refine V_iconst (pc := 83) (v := (1 : Int32)) dX12_stove_83 (by decide) ?_
      refine V_putI (pc := 84) (ci := 11) (k := 26) dX12_stove_84 fp_X12_383 rfl (of_decide_eq_true g21) ?_
      refine V_iconst (pc := 87) (v := (0 : Int32)) dX12_stove_87 (by decide) ?_
      refine V_istore_n (pc := 88) (i := 3) (lv' := [(3, .int (0 : Int32)), (2, .int (((8 : Int32) * r18) + (zI h19 q22 ((6 : Int32)).toNatClampNeg))), (0, .ref v0), (1, .int v1)]) dX12_stove_88 rfl (by decide) rfl ?_
      refine V_pick [2, 3, 0] rfl ?_
      obtain ⟨y81, g82, e⟩ := ob_some e
      refine iter_V (P := fun z : Int32 × Hp => V M_X12_stove x 6 89 [(0, .ref v0), (1, .int v1), (3, .int z.1)] [] z.2 0 0) (E := fun z => Sum.elim (fun z : Hp => V M_X12_stove x 6 241 [] [] z 0 0) (fun z : Int32 × Hp => V M_X12_stove x 6 114 [(0, .ref v0), (4, .int z.1)] [] z.2 0 0) z) (fun z o e9 k1 k2 => r_X12_stove_l89 v0 v1 z.1 z.2 e9 (fun z hz9 => k1 z hz9) (fun z hz9 => k2 _ hz9) (fun z hz9 => k2 _ hz9)) _ _ _ g82 ?_
      clear g82
      rcases y81 with y83 | y84
      · obtain ⟨h73, rfl⟩ : ∃ q, q = y83 := ⟨_, rfl⟩
        replace e : (some ((-1 : Int32), h73)) = some (r, hz) := e
        show V M_X12_stove x 6 241 [] [] h73 0 0
        refine V_iconst (pc := 241) (v := (-1 : Int32)) dX12_stove_241 (by decide) ?_
        cases e
        exact V_iret (pc := 242) dX12_stove_242 hF
      · obtain ⟨w74, h75⟩ := y84
        replace e : (gd (decide (kd h75 v0 = 11)) <| ob (zR h75 v0 21) fun q77 => gd (decide (kd h75 q77 = 13)) <| gd (ix w74 (zl h75 q77)) <| some (zI h75 q77 (w74).toNatClampNeg, h75)) = some (r, hz) := e
        show V M_X12_stove x 6 114 [(0, .ref v0), (4, .int w74)] [] h75 0 0
        refine V_aload_n (pc := 114) (i := 0) dX12_stove_114 rfl rfl ?_
        obtain ⟨g76, e⟩ := gd_some e
        obtain ⟨q77, g78, e⟩ := ob_some e
        refine V_getR (pc := 115) (ci := 11) (k := 21) (b := q77) dX12_stove_115 fl_X12_50 rfl (of_decide_eq_true g76) g78 ?_
        refine V_iload (pc := 118) (i := 4) dX12_stove_118 rfl ?_
        obtain ⟨g79, e⟩ := gd_some e
        obtain ⟨g80, e⟩ := gd_some e
        refine V_iald (pc := 120) dX12_stove_120 (of_decide_eq_true g79) (ix_in g80) ?_
        cases e
        exact V_iret (pc := 121) dX12_stove_121 hF
    · rw [if_pos c87] at e
      refine V_pick [] rfl ?_
      refine V_bipush (pc := 28) (v := (-3 : Int32)) dX12_stove_28 (by decide) ?_
      cases e
      exact V_iret (pc := 30) dX12_stove_30 hF
  · rw [if_neg c88] at e
    refine V_pick [] rfl ?_
    refine V_iconst (pc := 18) (v := (0 : Int32)) dX12_stove_18 (by decide) ?_
    cases e
    exact V_iret (pc := 19) dX12_stove_19 hF
def F_X12_stove (v0 : Nat) (v1 : Int32) (h : Hp) : Option (Int32 × Hp) := F_X12_stove_b0 v0 v1 h
theorem c_X12_stove {l : Launch} (v0 : Nat) (v1 : Int32) (h : Hp) {r : Int32} {hz : Hp} (e : F_X12_stove v0 v1 h = some (r, hz)) : Ct l yX12_stove M_X12_stove (some .int) 6 [.ref v0, .int v1] h 0 0 (some (.int r)) hz :=
  Ct_of rfl rfl (fun q => by cases q) (Nat.le_of_ble_eq_true rfl) (fun x _ hF => V_pick [0, 1] rfl (r_X12_stove_b0 v0 v1 h e hF))
theorem dX12_wake_0 : decode cX12_wake 0 = .ok (.aload_n 0, 1) := by decide +kernel
theorem dX12_wake_1 : decode cX12_wake 1 = .ok (.iconst 0, 1) := by decide +kernel
theorem dX12_wake_2 : decode cX12_wake 2 = .ok (.putfield 3, 3) := by decide +kernel
theorem dX12_wake_5 : decode cX12_wake 5 = .ok (.aload_n 0, 1) := by decide +kernel
theorem dX12_wake_6 : decode cX12_wake 6 = .ok (.invokevirtual 352, 3) := by decide +kernel
theorem dX12_wake_9 : decode cX12_wake 9 = .ok (.aload_n 0, 1) := by decide +kernel
theorem dX12_wake_10 : decode cX12_wake 10 = .ok (.invokevirtual 371, 3) := by decide +kernel
theorem dX12_wake_13 : decode cX12_wake 13 = .ok (.istore_n 2, 1) := by decide +kernel
theorem dX12_wake_14 : decode cX12_wake 14 = .ok (.iconst (-1), 1) := by decide +kernel
theorem dX12_wake_15 : decode cX12_wake 15 = .ok (.istore_n 3, 1) := by decide +kernel
theorem dX12_wake_16 : decode cX12_wake 16 = .ok (.bipush 6, 2) := by decide +kernel
theorem dX12_wake_18 : decode cX12_wake 18 = .ok (.istore 4, 2) := by decide +kernel
theorem dX12_wake_20 : decode cX12_wake 20 = .ok (.iconst 0, 1) := by decide +kernel
theorem dX12_wake_21 : decode cX12_wake 21 = .ok (.istore 5, 2) := by decide +kernel
theorem dX12_wake_23 : decode cX12_wake 23 = .ok (.iload 5, 2) := by decide +kernel
theorem dX12_wake_25 : decode cX12_wake 25 = .ok (.aload_n 0, 1) := by decide +kernel
theorem dX12_wake_26 : decode cX12_wake 26 = .ok (.invokevirtual 337, 3) := by decide +kernel
theorem dX12_wake_29 : decode cX12_wake 29 = .ok (.if_icmp .ge 93, 3) := by decide +kernel
theorem dX12_wake_32 : decode cX12_wake 32 = .ok (.aload_n 0, 1) := by decide +kernel
theorem dX12_wake_33 : decode cX12_wake 33 = .ok (.getfield 46, 3) := by decide +kernel
theorem dX12_wake_36 : decode cX12_wake 36 = .ok (.iload 5, 2) := by decide +kernel
theorem dX12_wake_38 : decode cX12_wake 38 = .ok (.baload, 1) := by decide +kernel
theorem dX12_wake_39 : decode cX12_wake 39 = .ok (.ifCond .ne 6, 3) := by decide +kernel
theorem dX12_wake_42 : decode cX12_wake 42 = .ok (.goto 74, 3) := by decide +kernel
theorem dX12_wake_45 : decode cX12_wake 45 = .ok (.aload_n 0, 1) := by decide +kernel
theorem dX12_wake_46 : decode cX12_wake 46 = .ok (.iload 5, 2) := by decide +kernel
theorem dX12_wake_48 : decode cX12_wake 48 = .ok (.invokevirtual 340, 3) := by decide +kernel
theorem dX12_wake_51 : decode cX12_wake 51 = .ok (.pop, 1) := by decide +kernel
theorem dX12_wake_52 : decode cX12_wake 52 = .ok (.iconst 0, 1) := by decide +kernel
theorem dX12_wake_53 : decode cX12_wake 53 = .ok (.istore 6, 2) := by decide +kernel
theorem dX12_wake_55 : decode cX12_wake 55 = .ok (.iconst 0, 1) := by decide +kernel
theorem dX12_wake_56 : decode cX12_wake 56 = .ok (.istore 7, 2) := by decide +kernel
theorem dX12_wake_58 : decode cX12_wake 58 = .ok (.iload 7, 2) := by decide +kernel
theorem dX12_wake_60 : decode cX12_wake 60 = .ok (.aload_n 0, 1) := by decide +kernel
theorem dX12_wake_61 : decode cX12_wake 61 = .ok (.invokevirtual 68, 3) := by decide +kernel
theorem dX12_wake_64 : decode cX12_wake 64 = .ok (.if_icmp .ge 35, 3) := by decide +kernel
theorem dX12_wake_67 : decode cX12_wake 67 = .ok (.iload 6, 2) := by decide +kernel
theorem dX12_wake_69 : decode cX12_wake 69 = .ok (.aload_n 0, 1) := by decide +kernel
theorem dX12_wake_70 : decode cX12_wake 70 = .ok (.getfield 36, 3) := by decide +kernel
theorem dX12_wake_73 : decode cX12_wake 73 = .ok (.iload 7, 2) := by decide +kernel
theorem dX12_wake_75 : decode cX12_wake 75 = .ok (.iaload, 1) := by decide +kernel
theorem dX12_wake_76 : decode cX12_wake 76 = .ok (.aload_n 0, 1) := by decide +kernel
theorem dX12_wake_77 : decode cX12_wake 77 = .ok (.iload 7, 2) := by decide +kernel
theorem dX12_wake_79 : decode cX12_wake 79 = .ok (.invokevirtual 247, 3) := by decide +kernel
theorem dX12_wake_82 : decode cX12_wake 82 = .ok (.if_icmp .eq 7, 3) := by decide +kernel
theorem dX12_wake_85 : decode cX12_wake 85 = .ok (.iconst 1, 1) := by decide +kernel
theorem dX12_wake_86 : decode cX12_wake 86 = .ok (.goto 4, 3) := by decide +kernel
theorem dX12_wake_89 : decode cX12_wake 89 = .ok (.iconst 0, 1) := by decide +kernel
theorem dX12_wake_90 : decode cX12_wake 90 = .ok (.iadd, 1) := by decide +kernel
theorem dX12_wake_91 : decode cX12_wake 91 = .ok (.istore 6, 2) := by decide +kernel
theorem dX12_wake_93 : decode cX12_wake 93 = .ok (.iinc 7 1, 3) := by decide +kernel
theorem dX12_wake_96 : decode cX12_wake 96 = .ok (.goto (-38), 3) := by decide +kernel
theorem dX12_wake_99 : decode cX12_wake 99 = .ok (.iload 6, 2) := by decide +kernel
theorem dX12_wake_101 : decode cX12_wake 101 = .ok (.iload 4, 2) := by decide +kernel
theorem dX12_wake_103 : decode cX12_wake 103 = .ok (.if_icmp .lt 6, 3) := by decide +kernel
theorem dX12_wake_106 : decode cX12_wake 106 = .ok (.goto 10, 3) := by decide +kernel
theorem dX12_wake_109 : decode cX12_wake 109 = .ok (.iload 6, 2) := by decide +kernel
theorem dX12_wake_111 : decode cX12_wake 111 = .ok (.istore 4, 2) := by decide +kernel
theorem dX12_wake_113 : decode cX12_wake 113 = .ok (.iload 5, 2) := by decide +kernel
theorem dX12_wake_115 : decode cX12_wake 115 = .ok (.istore_n 3, 1) := by decide +kernel
theorem dX12_wake_116 : decode cX12_wake 116 = .ok (.iinc 5 1, 3) := by decide +kernel
theorem dX12_wake_119 : decode cX12_wake 119 = .ok (.goto (-96), 3) := by decide +kernel
theorem dX12_wake_122 : decode cX12_wake 122 = .ok (.iload_n 3, 1) := by decide +kernel
theorem dX12_wake_123 : decode cX12_wake 123 = .ok (.ifCond .ge 7, 3) := by decide +kernel
theorem dX12_wake_126 : decode cX12_wake 126 = .ok (.iconst (-1), 1) := by decide +kernel
theorem dX12_wake_127 : decode cX12_wake 127 = .ok (.goto 17, 3) := by decide +kernel
theorem dX12_wake_130 : decode cX12_wake 130 = .ok (.iload_n 1, 1) := by decide +kernel
theorem dX12_wake_131 : decode cX12_wake 131 = .ok (.ifCond .eq 11, 3) := by decide +kernel
theorem dX12_wake_134 : decode cX12_wake 134 = .ok (.aload_n 0, 1) := by decide +kernel
theorem dX12_wake_135 : decode cX12_wake 135 = .ok (.iload_n 3, 1) := by decide +kernel
theorem dX12_wake_136 : decode cX12_wake 136 = .ok (.invokevirtual 358, 3) := by decide +kernel
theorem dX12_wake_139 : decode cX12_wake 139 = .ok (.goto 5, 3) := by decide +kernel
theorem dX12_wake_142 : decode cX12_wake 142 = .ok (.iload 4, 2) := by decide +kernel
theorem dX12_wake_144 : decode cX12_wake 144 = .ok (.ireturn, 1) := by decide +kernel
set_option maxRecDepth 100000 in
def F_X12_wake_b90 (v0 : Nat) (v1 : Int32) (v3 : Int32) (v4 : Int32) (v5 : Int32) (v7 : Int32) (t0 : Int32) (t1 : Int32) (h : Hp) : Option ((Int32 × Int32) ⊕ Int32) :=
  some (.inl (t0 + t1, v7 + (1 : Int32)))
set_option maxHeartbeats 4000000 in
set_option maxRecDepth 100000 in
theorem r_X12_wake_b90 (v0 : Nat) (v1 : Int32) (v3 : Int32) (v4 : Int32) (v5 : Int32) (v7 : Int32) (t0 : Int32) (t1 : Int32) (h : Hp) {x : Cx} {o : ((Int32 × Int32) ⊕ Int32)} (e : F_X12_wake_b90 v0 v1 v3 v4 v5 v7 t0 t1 h = some o) (kI : ∀ z, o = .inl z → V M_X12_wake x 7 58 [(0, .ref v0), (1, .int v1), (3, .int v3), (4, .int v4), (5, .int v5), (6, .int z.1), (7, .int z.2)] [] h 0 0) (kE99 : ∀ z : Int32, o = .inr z → V M_X12_wake x 7 99 [(0, .ref v0), (1, .int v1), (3, .int v3), (4, .int v4), (5, .int v5), (6, .int z)] [] h 0 0) : V M_X12_wake x 7 90 [(0, .ref v0), (1, .int v1), (3, .int v3), (4, .int v4), (5, .int v5), (7, .int v7)] [.int t1, .int t0] h 0 0 := by
  unfold F_X12_wake_b90 at e
  refine V_iadd (pc := 90) dX12_wake_90 ?_
  refine V_istore (pc := 91) (i := 6) (lv' := [(6, .int (t0 + t1)), (0, .ref v0), (1, .int v1), (3, .int v3), (4, .int v4), (5, .int v5), (7, .int v7)]) dX12_wake_91 (by decide) rfl ?_
  refine V_iinc (pc := 93) (i := 7) (u := v7 + (1 : Int32)) (lv' := [(7, .int (v7 + (1 : Int32))), (6, .int (t0 + t1)), (0, .ref v0), (1, .int v1), (3, .int v3), (4, .int v4), (5, .int v5)]) dX12_wake_93 rfl rfl (by decide) rfl ?_
  refine V_goto (pc := 96) (tgt := 58) dX12_wake_96 (by decide) ?_
  cases e
  exact V_pick [2, 3, 4, 5, 6, 1, 0] rfl (kI _ rfl)
set_option maxRecDepth 100000 in
def F_X12_wake_l58 (v0 : Nat) (v1 : Int32) (v3 : Int32) (v4 : Int32) (v5 : Int32) (v6 : Int32) (v7 : Int32) (h : Hp) : Option ((Int32 × Int32) ⊕ Int32) :=
  ob (F_X12_guests v0 h) fun r20 => gd (decide (kd h v0 = 11)) <| (if r20 ≤ v7 then some (.inr v6) else ob (zR h v0 15) fun q22 => gd (decide (kd h q22 = 13)) <| gd (ix v7 (zl h q22)) <| ob (F_X12_roomOf v0 v7 h) fun r27 => (if (zI h q22 (v7).toNatClampNeg) = r27 then F_X12_wake_b90 v0 v1 v3 v4 v5 v7 v6 (0 : Int32) h else F_X12_wake_b90 v0 v1 v3 v4 v5 v7 v6 (1 : Int32) h))
set_option maxHeartbeats 4000000 in
set_option maxRecDepth 100000 in
theorem r_X12_wake_l58 (v0 : Nat) (v1 : Int32) (v3 : Int32) (v4 : Int32) (v5 : Int32) (v6 : Int32) (v7 : Int32) (h : Hp) {x : Cx} {o : ((Int32 × Int32) ⊕ Int32)} (e : F_X12_wake_l58 v0 v1 v3 v4 v5 v6 v7 h = some o) (kI : ∀ z, o = .inl z → V M_X12_wake x 7 58 [(0, .ref v0), (1, .int v1), (3, .int v3), (4, .int v4), (5, .int v5), (6, .int z.1), (7, .int z.2)] [] h 0 0) (kE99 : ∀ z : Int32, o = .inr z → V M_X12_wake x 7 99 [(0, .ref v0), (1, .int v1), (3, .int v3), (4, .int v4), (5, .int v5), (6, .int z)] [] h 0 0) : V M_X12_wake x 7 58 [(0, .ref v0), (1, .int v1), (3, .int v3), (4, .int v4), (5, .int v5), (6, .int v6), (7, .int v7)] [] h 0 0 := by
  unfold F_X12_wake_l58 at e
  refine V_iload (pc := 58) (i := 7) dX12_wake_58 rfl ?_
  refine V_aload_n (pc := 60) (i := 0) dX12_wake_60 rfl rfl ?_
  obtain ⟨r20, g19, e⟩ := ob_some e
  obtain ⟨g21, e⟩ := gd_some e
  refine V_callV (pc := 61) (bc := 0) (bs := 0) (mc := 0) (ms := 0) (st := [.int v7]) (As := []) (a := v0) (h' := h) (r := some (.int r20)) dX12_wake_61 ml_X12_68 (ci := 11) rfl (of_decide_eq_true g21) rfl rfl (Nat.le_of_ble_eq_true rfl) (d' := 0) (by decide) (c_X12_guests (l := x.2.1) v0 h g19) ?_
  refine V_icmp_ge (pc := 64) (tgt := 99) dX12_wake_64 (by decide) (fun c29 => ?_) (fun c29 => ?_)
  · rw [if_pos c29] at e
    cases e
    exact V_pick [0, 1, 2, 3, 4, 5] rfl (kE99 _ rfl)
  · rw [if_neg c29] at e
    refine V_pick [0, 1, 2, 3, 4, 5, 6] rfl ?_
    refine V_iload (pc := 67) (i := 6) dX12_wake_67 rfl ?_
    refine V_aload_n (pc := 69) (i := 0) dX12_wake_69 rfl rfl ?_
    obtain ⟨q22, g23, e⟩ := ob_some e
    refine V_getR (pc := 70) (ci := 11) (k := 15) (b := q22) dX12_wake_70 fl_X12_36 rfl (of_decide_eq_true g21) g23 ?_
    refine V_iload (pc := 73) (i := 7) dX12_wake_73 rfl ?_
    obtain ⟨g24, e⟩ := gd_some e
    obtain ⟨g25, e⟩ := gd_some e
    refine V_iald (pc := 75) dX12_wake_75 (of_decide_eq_true g24) (ix_in g25) ?_
    refine V_aload_n (pc := 76) (i := 0) dX12_wake_76 rfl rfl ?_
    refine V_iload (pc := 77) (i := 7) dX12_wake_77 rfl ?_
    obtain ⟨r27, g26, e⟩ := ob_some e
    refine V_callV (pc := 79) (bc := 0) (bs := 0) (mc := 0) (ms := 0) (st := [.int (zI h q22 (v7).toNatClampNeg), .int v6]) (As := [.int v7]) (a := v0) (h' := h) (r := some (.int r27)) dX12_wake_79 ml_X12_247 (ci := 11) rfl (of_decide_eq_true g21) rfl rfl (Nat.le_of_ble_eq_true rfl) (d' := 0) (by decide) (c_X12_roomOf (l := x.2.1) v0 v7 h g26) ?_
    refine V_icmp_eq (pc := 82) (tgt := 89) dX12_wake_82 (by decide) (fun c28 => ?_) (fun c28 => ?_)
    · rw [if_pos c28] at e
      refine V_pick [0, 1, 2, 3, 4, 6] rfl ?_
      refine V_iconst (pc := 89) (v := (0 : Int32)) dX12_wake_89 (by decide) ?_
      exact V_pick [0, 1, 2, 3, 4, 5] rfl (r_X12_wake_b90 v0 v1 v3 v4 v5 v7 v6 (0 : Int32) h e kI kE99)
    · rw [if_neg c28] at e
      refine V_pick [0, 1, 2, 3, 4, 6] rfl ?_
      refine V_iconst (pc := 85) (v := (1 : Int32)) dX12_wake_85 (by decide) ?_
      refine V_goto (pc := 86) (tgt := 90) dX12_wake_86 (by decide) ?_
      exact V_pick [0, 1, 2, 3, 4, 5] rfl (r_X12_wake_b90 v0 v1 v3 v4 v5 v7 v6 (1 : Int32) h e kI kE99)
set_option maxRecDepth 100000 in
def F_X12_wake_b116 (v0 : Nat) (v1 : Int32) (v3 : Int32) (v4 : Int32) (v5 : Int32) (h : Hp) : Option ((Int32 × Int32 × Int32 × Hp) ⊕ (Int32 × Int32 × Hp)) :=
  some (.inl (v3, v4, v5 + (1 : Int32), h))
set_option maxHeartbeats 4000000 in
set_option maxRecDepth 100000 in
theorem r_X12_wake_b116 (v0 : Nat) (v1 : Int32) (v3 : Int32) (v4 : Int32) (v5 : Int32) (h : Hp) {x : Cx} {o : ((Int32 × Int32 × Int32 × Hp) ⊕ (Int32 × Int32 × Hp))} (e : F_X12_wake_b116 v0 v1 v3 v4 v5 h = some o) (kI : ∀ z, o = .inl z → V M_X12_wake x 7 23 [(0, .ref v0), (1, .int v1), (3, .int z.1), (4, .int z.2.1), (5, .int z.2.2.1)] [] z.2.2.2 0 0) (kE122 : ∀ z : Int32 × Int32 × Hp, o = .inr z → V M_X12_wake x 7 122 [(0, .ref v0), (1, .int v1), (3, .int z.1), (4, .int z.2.1)] [] z.2.2 0 0) : V M_X12_wake x 7 116 [(0, .ref v0), (1, .int v1), (3, .int v3), (4, .int v4), (5, .int v5)] [] h 0 0 := by
  unfold F_X12_wake_b116 at e
  refine V_iinc (pc := 116) (i := 5) (u := v5 + (1 : Int32)) (lv' := [(5, .int (v5 + (1 : Int32))), (0, .ref v0), (1, .int v1), (3, .int v3), (4, .int v4)]) dX12_wake_116 rfl rfl (by decide) rfl ?_
  refine V_goto (pc := 119) (tgt := 23) dX12_wake_119 (by decide) ?_
  cases e
  exact V_pick [1, 2, 3, 4, 0] rfl (kI _ rfl)
set_option maxRecDepth 100000 in
def F_X12_wake_l23 (v0 : Nat) (v1 : Int32) (v3 : Int32) (v4 : Int32) (v5 : Int32) (h : Hp) : Option ((Int32 × Int32 × Int32 × Hp) ⊕ (Int32 × Int32 × Hp)) :=
  ob (F_X12_many v0 h) fun r10 => gd (decide (kd h v0 = 11)) <| (if r10 ≤ v5 then some (.inr (v3, v4, h)) else ob (zR h v0 20) fun q12 => gd (decide (kd h q12 = 14)) <| gd (ix v5 (zl h q12)) <| (if (zI h q12 (v5).toNatClampNeg) = 0 then F_X12_wake_b116 v0 v1 v3 v4 v5 h else ob2 (F_X12_opens v0 v5 h) fun r17 h18 => ob (iter (fun z : Int32 × Int32 => F_X12_wake_l58 v0 v1 v3 v4 v5 z.1 z.2 h18) FU ((0 : Int32), (0 : Int32))) (fun w30 => (if w30 < v4 then F_X12_wake_b116 v0 v1 v5 w30 v5 h18 else F_X12_wake_b116 v0 v1 v3 v4 v5 h18))))
set_option maxHeartbeats 4000000 in
set_option maxRecDepth 100000 in
theorem r_X12_wake_l23 (v0 : Nat) (v1 : Int32) (v3 : Int32) (v4 : Int32) (v5 : Int32) (h : Hp) {x : Cx} {o : ((Int32 × Int32 × Int32 × Hp) ⊕ (Int32 × Int32 × Hp))} (e : F_X12_wake_l23 v0 v1 v3 v4 v5 h = some o) (kI : ∀ z, o = .inl z → V M_X12_wake x 7 23 [(0, .ref v0), (1, .int v1), (3, .int z.1), (4, .int z.2.1), (5, .int z.2.2.1)] [] z.2.2.2 0 0) (kE122 : ∀ z : Int32 × Int32 × Hp, o = .inr z → V M_X12_wake x 7 122 [(0, .ref v0), (1, .int v1), (3, .int z.1), (4, .int z.2.1)] [] z.2.2 0 0) : V M_X12_wake x 7 23 [(0, .ref v0), (1, .int v1), (3, .int v3), (4, .int v4), (5, .int v5)] [] h 0 0 := by
  unfold F_X12_wake_l23 at e
  refine V_iload (pc := 23) (i := 5) dX12_wake_23 rfl ?_
  refine V_aload_n (pc := 25) (i := 0) dX12_wake_25 rfl rfl ?_
  obtain ⟨r10, g9, e⟩ := ob_some e
  obtain ⟨g11, e⟩ := gd_some e
  refine V_callV (pc := 26) (bc := 0) (bs := 0) (mc := 0) (ms := 0) (st := [.int v5]) (As := []) (a := v0) (h' := h) (r := some (.int r10)) dX12_wake_26 ml_X12_337 (ci := 11) rfl (of_decide_eq_true g11) rfl rfl (Nat.le_of_ble_eq_true rfl) (d' := 1) (by decide) (c_X12_many (l := x.2.1) v0 h g9) ?_
  refine V_icmp_ge (pc := 29) (tgt := 122) dX12_wake_29 (by decide) (fun c35 => ?_) (fun c35 => ?_)
  · rw [if_pos c35] at e
    cases e
    exact V_pick [0, 1, 2, 3] rfl (kE122 _ rfl)
  · rw [if_neg c35] at e
    refine V_pick [0, 1, 2, 3, 4] rfl ?_
    refine V_aload_n (pc := 32) (i := 0) dX12_wake_32 rfl rfl ?_
    obtain ⟨q12, g13, e⟩ := ob_some e
    refine V_getR (pc := 33) (ci := 11) (k := 20) (b := q12) dX12_wake_33 fl_X12_46 rfl (of_decide_eq_true g11) g13 ?_
    refine V_iload (pc := 36) (i := 5) dX12_wake_36 rfl ?_
    obtain ⟨g14, e⟩ := gd_some e
    obtain ⟨g15, e⟩ := gd_some e
    refine V_zald (pc := 38) dX12_wake_38 (of_decide_eq_true g14) (ix_in g15) ?_
    refine V_if_ne (pc := 39) (tgt := 45) dX12_wake_39 (by decide) (fun c34 => ?_) (fun c34 => ?_)
    · rw [if_neg c34] at e
      refine V_pick [0, 1, 2, 3, 4] rfl ?_
      refine V_aload_n (pc := 45) (i := 0) dX12_wake_45 rfl rfl ?_
      refine V_iload (pc := 46) (i := 5) dX12_wake_46 rfl ?_
      obtain ⟨r17, h18, g16, e⟩ := ob2_some e
      refine V_callV (pc := 48) (bc := 0) (bs := 0) (mc := 0) (ms := 0) (st := []) (As := [.int v5]) (a := v0) (h' := h18) (r := some (.int r17)) dX12_wake_48 ml_X12_340 (ci := 11) rfl (of_decide_eq_true g11) rfl rfl (Nat.le_of_ble_eq_true rfl) (d' := 3) (by decide) (c_X12_opens (l := x.2.1) v0 v5 h g16) ?_
      refine V_pop (pc := 51) dX12_wake_51 rfl ?_
      refine V_iconst (pc := 52) (v := (0 : Int32)) dX12_wake_52 (by decide) ?_
      refine V_istore (pc := 53) (i := 6) (lv' := [(6, .int (0 : Int32)), (0, .ref v0), (1, .int v1), (3, .int v3), (4, .int v4), (5, .int v5)]) dX12_wake_53 (by decide) rfl ?_
      refine V_iconst (pc := 55) (v := (0 : Int32)) dX12_wake_55 (by decide) ?_
      refine V_istore (pc := 56) (i := 7) (lv' := [(7, .int (0 : Int32)), (6, .int (0 : Int32)), (0, .ref v0), (1, .int v1), (3, .int v3), (4, .int v4), (5, .int v5)]) dX12_wake_56 (by decide) rfl ?_
      refine V_pick [2, 3, 4, 5, 6, 1, 0] rfl ?_
      obtain ⟨y32, g33, e⟩ := ob_some e
      refine iter_V (P := fun z : Int32 × Int32 => V M_X12_wake x 7 58 [(0, .ref v0), (1, .int v1), (3, .int v3), (4, .int v4), (5, .int v5), (6, .int z.1), (7, .int z.2)] [] h18 0 0) (E := fun z : Int32 => V M_X12_wake x 7 99 [(0, .ref v0), (1, .int v1), (3, .int v3), (4, .int v4), (5, .int v5), (6, .int z)] [] h18 0 0) (fun z o e9 k1 k2 => r_X12_wake_l58 v0 v1 v3 v4 v5 z.1 z.2 h18 e9 (fun z hz9 => k1 z hz9) (fun z hz9 => k2 _ hz9)) _ _ _ g33 ?_
      clear g33
      obtain ⟨w30, rfl⟩ : ∃ q, q = y32 := ⟨_, rfl⟩
      replace e : ((if w30 < v4 then F_X12_wake_b116 v0 v1 v5 w30 v5 h18 else F_X12_wake_b116 v0 v1 v3 v4 v5 h18)) = some o := e
      show V M_X12_wake x 7 99 [(0, .ref v0), (1, .int v1), (3, .int v3), (4, .int v4), (5, .int v5), (6, .int w30)] [] h18 0 0
      refine V_iload (pc := 99) (i := 6) dX12_wake_99 rfl ?_
      refine V_iload (pc := 101) (i := 4) dX12_wake_101 rfl ?_
      refine V_icmp_lt (pc := 103) (tgt := 109) dX12_wake_103 (by decide) (fun c31 => ?_) (fun c31 => ?_)
      · rw [if_pos c31] at e
        refine V_pick [0, 1, 4, 5] rfl ?_
        refine V_iload (pc := 109) (i := 6) dX12_wake_109 rfl ?_
        refine V_istore (pc := 111) (i := 4) (lv' := [(4, .int w30), (0, .ref v0), (1, .int v1), (5, .int v5), (6, .int w30)]) dX12_wake_111 (by decide) rfl ?_
        refine V_iload (pc := 113) (i := 5) dX12_wake_113 rfl ?_
        refine V_istore_n (pc := 115) (i := 3) (lv' := [(3, .int v5), (4, .int w30), (0, .ref v0), (1, .int v1), (5, .int v5), (6, .int w30)]) dX12_wake_115 rfl (by decide) rfl ?_
        exact V_pick [2, 3, 0, 1, 4] rfl (r_X12_wake_b116 v0 v1 v5 w30 v5 h18 e kI kE122)
      · rw [if_neg c31] at e
        refine V_pick [0, 1, 2, 3, 4] rfl ?_
        refine V_goto (pc := 106) (tgt := 116) dX12_wake_106 (by decide) ?_
        exact V_pick [0, 1, 2, 3, 4] rfl (r_X12_wake_b116 v0 v1 v3 v4 v5 h18 e kI kE122)
    · rw [if_pos c34] at e
      refine V_pick [0, 1, 2, 3, 4] rfl ?_
      refine V_goto (pc := 42) (tgt := 116) dX12_wake_42 (by decide) ?_
      exact V_pick [0, 1, 2, 3, 4] rfl (r_X12_wake_b116 v0 v1 v3 v4 v5 h e kI kE122)
set_option maxRecDepth 100000 in
def F_X12_wake_b144 (t0 : Int32) (h : Hp) : Option (Int32 × Hp) :=
  some (t0, h)
set_option maxHeartbeats 4000000 in
set_option maxRecDepth 100000 in
theorem r_X12_wake_b144 (t0 : Int32) (h : Hp) {x : Cx} {r : Int32} {hz : Hp} (e : F_X12_wake_b144 t0 h = some (r, hz)) (hF : Fin9 M_X12_wake x (some .int) (some (.int r)) hz) : V M_X12_wake x 7 144 [] [.int t0] h 0 0 := by
  unfold F_X12_wake_b144 at e
  cases e
  exact V_iret (pc := 144) dX12_wake_144 hF
set_option maxRecDepth 100000 in
def F_X12_wake_b0 (v0 : Nat) (v1 : Int32) (h : Hp) : Option (Int32 × Hp) :=
  gd (decide (kd h v0 = 11)) <| ob2 (F_X12_laysAll v0 (setI h v0 0 (0 : Int32))) fun _ h4 => ob2 (F_X12_now v0 h4) fun r6 h7 => gd (decide (kd h4 v0 = 11)) <| ob (iter (fun z : Int32 × Int32 × Int32 × Hp => F_X12_wake_l23 v0 v1 z.1 z.2.1 z.2.2.1 z.2.2.2) FU ((-1 : Int32), (6 : Int32), (0 : Int32), h7)) (fun z => un3 z fun w36 w37 h38 => (if 0 ≤ w36 then (if v1 = 0 then F_X12_wake_b144 w37 h38 else ob2 (F_X12_numberOf v0 w36 h38) fun r40 h41 => gd (decide (kd h38 v0 = 11)) <| F_X12_wake_b144 r40 h41) else F_X12_wake_b144 (-1 : Int32) h38))
set_option maxHeartbeats 4000000 in
set_option maxRecDepth 100000 in
theorem r_X12_wake_b0 (v0 : Nat) (v1 : Int32) (h : Hp) {x : Cx} {r : Int32} {hz : Hp} (e : F_X12_wake_b0 v0 v1 h = some (r, hz)) (hF : Fin9 M_X12_wake x (some .int) (some (.int r)) hz) : V M_X12_wake x 7 0 [(0, .ref v0), (1, .int v1)] [] h 0 0 := by
  unfold F_X12_wake_b0 at e
  refine V_aload_n (pc := 0) (i := 0) dX12_wake_0 rfl rfl ?_
  refine V_iconst (pc := 1) (v := (0 : Int32)) dX12_wake_1 (by decide) ?_
  obtain ⟨g1, e⟩ := gd_some e
  refine V_putI (pc := 2) (ci := 11) (k := 0) dX12_wake_2 fp_X12_3 rfl (of_decide_eq_true g1) ?_
  refine V_aload_n (pc := 5) (i := 0) dX12_wake_5 rfl rfl ?_
  obtain ⟨r3, h4, g2, e⟩ := ob2_some e
  refine V_callV (pc := 6) (bc := 0) (bs := 0) (mc := 0) (ms := 0) (st := []) (As := []) (a := v0) (h' := h4) (r := none) dX12_wake_6 ml_X12_352 (ci := 11) rfl (of_decide_eq_true g1) rfl rfl (Nat.le_of_ble_eq_true rfl) (d' := 6) (by decide) (c_X12_laysAll (l := x.2.1) v0 (setI h v0 0 (0 : Int32)) g2) ?_
  refine V_aload_n (pc := 9) (i := 0) dX12_wake_9 rfl rfl ?_
  obtain ⟨r6, h7, g5, e⟩ := ob2_some e
  obtain ⟨g8, e⟩ := gd_some e
  refine V_callV (pc := 10) (bc := 0) (bs := 0) (mc := 0) (ms := 0) (st := []) (As := []) (a := v0) (h' := h7) (r := some (.int r6)) dX12_wake_10 ml_X12_371 (ci := 11) rfl (of_decide_eq_true g8) rfl rfl (Nat.le_of_ble_eq_true rfl) (d' := 2) (by decide) (c_X12_now (l := x.2.1) v0 h4 g5) ?_
  refine V_istore_n (pc := 13) (i := 2) (lv' := [(2, .int r6), (0, .ref v0), (1, .int v1)]) dX12_wake_13 rfl (by decide) rfl ?_
  refine V_iconst (pc := 14) (v := (-1 : Int32)) dX12_wake_14 (by decide) ?_
  refine V_istore_n (pc := 15) (i := 3) (lv' := [(3, .int (-1 : Int32)), (2, .int r6), (0, .ref v0), (1, .int v1)]) dX12_wake_15 rfl (by decide) rfl ?_
  refine V_bipush (pc := 16) (v := (6 : Int32)) dX12_wake_16 (by decide) ?_
  refine V_istore (pc := 18) (i := 4) (lv' := [(4, .int (6 : Int32)), (3, .int (-1 : Int32)), (2, .int r6), (0, .ref v0), (1, .int v1)]) dX12_wake_18 (by decide) rfl ?_
  refine V_iconst (pc := 20) (v := (0 : Int32)) dX12_wake_20 (by decide) ?_
  refine V_istore (pc := 21) (i := 5) (lv' := [(5, .int (0 : Int32)), (4, .int (6 : Int32)), (3, .int (-1 : Int32)), (2, .int r6), (0, .ref v0), (1, .int v1)]) dX12_wake_21 (by decide) rfl ?_
  refine V_pick [4, 5, 2, 1, 0] rfl ?_
  obtain ⟨y45, g46, e⟩ := ob_some e
  refine iter_V (P := fun z : Int32 × Int32 × Int32 × Hp => V M_X12_wake x 7 23 [(0, .ref v0), (1, .int v1), (3, .int z.1), (4, .int z.2.1), (5, .int z.2.2.1)] [] z.2.2.2 0 0) (E := fun z : Int32 × Int32 × Hp => V M_X12_wake x 7 122 [(0, .ref v0), (1, .int v1), (3, .int z.1), (4, .int z.2.1)] [] z.2.2 0 0) (fun z o e9 k1 k2 => r_X12_wake_l23 v0 v1 z.1 z.2.1 z.2.2.1 z.2.2.2 e9 (fun z hz9 => k1 z hz9) (fun z hz9 => k2 _ hz9)) _ _ _ g46 ?_
  clear g46
  obtain ⟨w36, w37, h38⟩ := y45
  replace e : ((if 0 ≤ w36 then (if v1 = 0 then F_X12_wake_b144 w37 h38 else ob2 (F_X12_numberOf v0 w36 h38) fun r40 h41 => gd (decide (kd h38 v0 = 11)) <| F_X12_wake_b144 r40 h41) else F_X12_wake_b144 (-1 : Int32) h38)) = some (r, hz) := e
  show V M_X12_wake x 7 122 [(0, .ref v0), (1, .int v1), (3, .int w36), (4, .int w37)] [] h38 0 0
  refine V_iload_n (pc := 122) (i := 3) dX12_wake_122 rfl rfl ?_
  refine V_if_ge (pc := 123) (tgt := 130) dX12_wake_123 (by decide) (fun c44 => ?_) (fun c44 => ?_)
  · rw [if_pos c44] at e
    refine V_pick [0, 1, 2, 3] rfl ?_
    refine V_iload_n (pc := 130) (i := 1) dX12_wake_130 rfl rfl ?_
    refine V_if_eq (pc := 131) (tgt := 142) dX12_wake_131 (by decide) (fun c43 => ?_) (fun c43 => ?_)
    · rw [if_pos c43] at e
      refine V_pick [3] rfl ?_
      refine V_iload (pc := 142) (i := 4) dX12_wake_142 rfl ?_
      exact V_pick [] rfl (r_X12_wake_b144 w37 h38 e hF)
    · rw [if_neg c43] at e
      refine V_pick [0, 2] rfl ?_
      refine V_aload_n (pc := 134) (i := 0) dX12_wake_134 rfl rfl ?_
      refine V_iload_n (pc := 135) (i := 3) dX12_wake_135 rfl rfl ?_
      obtain ⟨r40, h41, g39, e⟩ := ob2_some e
      obtain ⟨g42, e⟩ := gd_some e
      refine V_callV (pc := 136) (bc := 0) (bs := 0) (mc := 0) (ms := 0) (st := []) (As := [.int w36]) (a := v0) (h' := h41) (r := some (.int r40)) dX12_wake_136 ml_X12_358 (ci := 11) rfl (of_decide_eq_true g42) rfl rfl (Nat.le_of_ble_eq_true rfl) (d' := 4) (by decide) (c_X12_numberOf (l := x.2.1) v0 w36 h38 g39) ?_
      refine V_goto (pc := 139) (tgt := 144) dX12_wake_139 (by decide) ?_
      exact V_pick [] rfl (r_X12_wake_b144 r40 h41 e hF)
  · rw [if_neg c44] at e
    refine V_pick [] rfl ?_
    refine V_iconst (pc := 126) (v := (-1 : Int32)) dX12_wake_126 (by decide) ?_
    refine V_goto (pc := 127) (tgt := 144) dX12_wake_127 (by decide) ?_
    exact V_pick [] rfl (r_X12_wake_b144 (-1 : Int32) h38 e hF)
def F_X12_wake (v0 : Nat) (v1 : Int32) (h : Hp) : Option (Int32 × Hp) := F_X12_wake_b0 v0 v1 h
theorem c_X12_wake {l : Launch} (v0 : Nat) (v1 : Int32) (h : Hp) {r : Int32} {hz : Hp} (e : F_X12_wake v0 v1 h = some (r, hz)) : Ct l yX12_wake M_X12_wake (some .int) 7 [.ref v0, .int v1] h 0 0 (some (.int r)) hz :=
  Ct_of rfl rfl (fun q => by cases q) (Nat.le_of_ble_eq_true rfl) (fun x _ hF => V_pick [0, 1] rfl (r_X12_wake_b0 v0 v1 h e hF))
theorem dX12_isRead_0 : decode cX12_isRead 0 = .ok (.aload_n 0, 1) := by decide +kernel
theorem dX12_isRead_1 : decode cX12_isRead 1 = .ok (.iload_n 1, 1) := by decide +kernel
theorem dX12_isRead_2 : decode cX12_isRead 2 = .ok (.invokevirtual 340, 3) := by decide +kernel
theorem dX12_isRead_5 : decode cX12_isRead 5 = .ok (.ifCond .eq 49, 3) := by decide +kernel
theorem dX12_isRead_8 : decode cX12_isRead 8 = .ok (.aload_n 0, 1) := by decide +kernel
theorem dX12_isRead_9 : decode cX12_isRead 9 = .ok (.iconst 0, 1) := by decide +kernel
theorem dX12_isRead_10 : decode cX12_isRead 10 = .ok (.invokevirtual 278, 3) := by decide +kernel
theorem dX12_isRead_13 : decode cX12_isRead 13 = .ok (.aload_n 0, 1) := by decide +kernel
theorem dX12_isRead_14 : decode cX12_isRead 14 = .ok (.getfield 13, 3) := by decide +kernel
theorem dX12_isRead_17 : decode cX12_isRead 17 = .ok (.sipush 131, 3) := by decide +kernel
theorem dX12_isRead_20 : decode cX12_isRead 20 = .ok (.iconst 2, 1) := by decide +kernel
theorem dX12_isRead_21 : decode cX12_isRead 21 = .ok (.iload_n 2, 1) := by decide +kernel
theorem dX12_isRead_22 : decode cX12_isRead 22 = .ok (.imul, 1) := by decide +kernel
theorem dX12_isRead_23 : decode cX12_isRead 23 = .ok (.iadd, 1) := by decide +kernel
theorem dX12_isRead_24 : decode cX12_isRead 24 = .ok (.iaload, 1) := by decide +kernel
theorem dX12_isRead_25 : decode cX12_isRead 25 = .ok (.if_icmp .ne 29, 3) := by decide +kernel
theorem dX12_isRead_28 : decode cX12_isRead 28 = .ok (.aload_n 0, 1) := by decide +kernel
theorem dX12_isRead_29 : decode cX12_isRead 29 = .ok (.iconst 1, 1) := by decide +kernel
theorem dX12_isRead_30 : decode cX12_isRead 30 = .ok (.invokevirtual 278, 3) := by decide +kernel
theorem dX12_isRead_33 : decode cX12_isRead 33 = .ok (.aload_n 0, 1) := by decide +kernel
theorem dX12_isRead_34 : decode cX12_isRead 34 = .ok (.getfield 13, 3) := by decide +kernel
theorem dX12_isRead_37 : decode cX12_isRead 37 = .ok (.sipush 131, 3) := by decide +kernel
theorem dX12_isRead_40 : decode cX12_isRead 40 = .ok (.iconst 2, 1) := by decide +kernel
theorem dX12_isRead_41 : decode cX12_isRead 41 = .ok (.iload_n 2, 1) := by decide +kernel
theorem dX12_isRead_42 : decode cX12_isRead 42 = .ok (.imul, 1) := by decide +kernel
theorem dX12_isRead_43 : decode cX12_isRead 43 = .ok (.iadd, 1) := by decide +kernel
theorem dX12_isRead_44 : decode cX12_isRead 44 = .ok (.iconst 1, 1) := by decide +kernel
theorem dX12_isRead_45 : decode cX12_isRead 45 = .ok (.iadd, 1) := by decide +kernel
theorem dX12_isRead_46 : decode cX12_isRead 46 = .ok (.iaload, 1) := by decide +kernel
theorem dX12_isRead_47 : decode cX12_isRead 47 = .ok (.if_icmp .ne 7, 3) := by decide +kernel
theorem dX12_isRead_50 : decode cX12_isRead 50 = .ok (.iconst 1, 1) := by decide +kernel
theorem dX12_isRead_51 : decode cX12_isRead 51 = .ok (.goto 4, 3) := by decide +kernel
theorem dX12_isRead_54 : decode cX12_isRead 54 = .ok (.iconst 0, 1) := by decide +kernel
theorem dX12_isRead_55 : decode cX12_isRead 55 = .ok (.ireturn, 1) := by decide +kernel
set_option maxRecDepth 100000 in
def F_X12_isRead_b55 (t0 : Int32) (h : Hp) : Option (Int32 × Hp) :=
  gd (decide (t0 = 0 ∨ t0 = 1)) <| some (t0, h)
set_option maxHeartbeats 4000000 in
set_option maxRecDepth 100000 in
theorem r_X12_isRead_b55 (t0 : Int32) (h : Hp) {x : Cx} {r : Int32} {hz : Hp} (e : F_X12_isRead_b55 t0 h = some (r, hz)) (hF : Fin9 M_X12_isRead x (some .boolean) (some (.int r)) hz) : V M_X12_isRead x 5 55 [] [.int t0] h 0 0 := by
  unfold F_X12_isRead_b55 at e
  obtain ⟨g5, e⟩ := gd_some e
  cases e
  exact V_zret (pc := 55) dX12_isRead_55 (z01 (of_decide_eq_true g5)) hF
set_option maxRecDepth 100000 in
def F_X12_isRead_b54  (h : Hp) : Option (Int32 × Hp) :=
  F_X12_isRead_b55 (0 : Int32) h
set_option maxHeartbeats 4000000 in
set_option maxRecDepth 100000 in
theorem r_X12_isRead_b54  (h : Hp) {x : Cx} {r : Int32} {hz : Hp} (e : F_X12_isRead_b54  h = some (r, hz)) (hF : Fin9 M_X12_isRead x (some .boolean) (some (.int r)) hz) : V M_X12_isRead x 5 54 [] [] h 0 0 := by
  unfold F_X12_isRead_b54 at e
  refine V_iconst (pc := 54) (v := (0 : Int32)) dX12_isRead_54 (by decide) ?_
  exact V_pick [] rfl (r_X12_isRead_b55 (0 : Int32) h e hF)
set_option maxRecDepth 100000 in
def F_X12_isRead_b0 (v0 : Nat) (v1 : Int32) (v2 : Int32) (h : Hp) : Option (Int32 × Hp) :=
  ob2 (F_X12_opens v0 v1 h) fun r2 h3 => gd (decide (kd h v0 = 11)) <| (if r2 = 0 then F_X12_isRead_b54 h3 else ob (F_X12_net v0 (0 : Int32) h3) fun r7 => gd (decide (kd h3 v0 = 11)) <| ob (zR h3 v0 1) fun q9 => gd (decide (kd h3 q9 = 13)) <| gd (ix ((131 : Int32) + ((2 : Int32) * v2)) (zl h3 q9)) <| (if r7 = (zI h3 q9 ((131 : Int32) + ((2 : Int32) * v2)).toNatClampNeg) then ob (F_X12_net v0 (1 : Int32) h3) fun r14 => ob (zR h3 v0 1) fun q15 => gd (decide (kd h3 q15 = 13)) <| gd (ix (((131 : Int32) + ((2 : Int32) * v2)) + (1 : Int32)) (zl h3 q15)) <| (if r14 = (zI h3 q15 (((131 : Int32) + ((2 : Int32) * v2)) + (1 : Int32)).toNatClampNeg) then F_X12_isRead_b55 (1 : Int32) h3 else F_X12_isRead_b54 h3) else F_X12_isRead_b54 h3))
set_option maxHeartbeats 4000000 in
set_option maxRecDepth 100000 in
theorem r_X12_isRead_b0 (v0 : Nat) (v1 : Int32) (v2 : Int32) (h : Hp) {x : Cx} {r : Int32} {hz : Hp} (e : F_X12_isRead_b0 v0 v1 v2 h = some (r, hz)) (hF : Fin9 M_X12_isRead x (some .boolean) (some (.int r)) hz) : V M_X12_isRead x 5 0 [(0, .ref v0), (1, .int v1), (2, .int v2)] [] h 0 0 := by
  unfold F_X12_isRead_b0 at e
  refine V_aload_n (pc := 0) (i := 0) dX12_isRead_0 rfl rfl ?_
  refine V_iload_n (pc := 1) (i := 1) dX12_isRead_1 rfl rfl ?_
  obtain ⟨r2, h3, g1, e⟩ := ob2_some e
  obtain ⟨g4, e⟩ := gd_some e
  refine V_callV (pc := 2) (bc := 0) (bs := 0) (mc := 0) (ms := 0) (st := []) (As := [.int v1]) (a := v0) (h' := h3) (r := some (.int r2)) dX12_isRead_2 ml_X12_340 (ci := 11) rfl (of_decide_eq_true g4) rfl rfl (Nat.le_of_ble_eq_true rfl) (d' := 3) (by decide) (c_X12_opens (l := x.2.1) v0 v1 h g1) ?_
  refine V_if_eq (pc := 5) (tgt := 54) dX12_isRead_5 (by decide) (fun c21 => ?_) (fun c21 => ?_)
  · rw [if_pos c21] at e
    exact V_pick [] rfl (r_X12_isRead_b54 h3 e hF)
  · rw [if_neg c21] at e
    refine V_pick [0, 2] rfl ?_
    refine V_aload_n (pc := 8) (i := 0) dX12_isRead_8 rfl rfl ?_
    refine V_iconst (pc := 9) (v := (0 : Int32)) dX12_isRead_9 (by decide) ?_
    obtain ⟨r7, g6, e⟩ := ob_some e
    obtain ⟨g8, e⟩ := gd_some e
    refine V_callV (pc := 10) (bc := 0) (bs := 0) (mc := 0) (ms := 0) (st := []) (As := [.int (0 : Int32)]) (a := v0) (h' := h3) (r := some (.int r7)) dX12_isRead_10 ml_X12_278 (ci := 11) rfl (of_decide_eq_true g8) rfl rfl (Nat.le_of_ble_eq_true rfl) (d' := 4) (by decide) (c_X12_net (l := x.2.1) v0 (0 : Int32) h3 g6) ?_
    refine V_aload_n (pc := 13) (i := 0) dX12_isRead_13 rfl rfl ?_
    obtain ⟨q9, g10, e⟩ := ob_some e
    refine V_getR (pc := 14) (ci := 11) (k := 1) (b := q9) dX12_isRead_14 fl_X12_13 rfl (of_decide_eq_true g8) g10 ?_
    refine V_sipush (pc := 17) (v := (131 : Int32)) dX12_isRead_17 (by decide) ?_
    refine V_iconst (pc := 20) (v := (2 : Int32)) dX12_isRead_20 (by decide) ?_
    refine V_iload_n (pc := 21) (i := 2) dX12_isRead_21 rfl rfl ?_
    refine V_imul (pc := 22) dX12_isRead_22 ?_
    refine V_iadd (pc := 23) dX12_isRead_23 ?_
    obtain ⟨g11, e⟩ := gd_some e
    obtain ⟨g12, e⟩ := gd_some e
    refine V_iald (pc := 24) dX12_isRead_24 (of_decide_eq_true g11) (ix_in g12) ?_
    refine V_icmp_ne (pc := 25) (tgt := 54) dX12_isRead_25 (by decide) (fun c20 => ?_) (fun c20 => ?_)
    · rw [if_neg c20] at e
      exact V_pick [] rfl (r_X12_isRead_b54 h3 e hF)
    · rw [if_pos c20] at e
      refine V_pick [0, 1] rfl ?_
      refine V_aload_n (pc := 28) (i := 0) dX12_isRead_28 rfl rfl ?_
      refine V_iconst (pc := 29) (v := (1 : Int32)) dX12_isRead_29 (by decide) ?_
      obtain ⟨r14, g13, e⟩ := ob_some e
      refine V_callV (pc := 30) (bc := 0) (bs := 0) (mc := 0) (ms := 0) (st := []) (As := [.int (1 : Int32)]) (a := v0) (h' := h3) (r := some (.int r14)) dX12_isRead_30 ml_X12_278 (ci := 11) rfl (of_decide_eq_true g8) rfl rfl (Nat.le_of_ble_eq_true rfl) (d' := 4) (by decide) (c_X12_net (l := x.2.1) v0 (1 : Int32) h3 g13) ?_
      refine V_aload_n (pc := 33) (i := 0) dX12_isRead_33 rfl rfl ?_
      obtain ⟨q15, g16, e⟩ := ob_some e
      refine V_getR (pc := 34) (ci := 11) (k := 1) (b := q15) dX12_isRead_34 fl_X12_13 rfl (of_decide_eq_true g8) g16 ?_
      refine V_sipush (pc := 37) (v := (131 : Int32)) dX12_isRead_37 (by decide) ?_
      refine V_iconst (pc := 40) (v := (2 : Int32)) dX12_isRead_40 (by decide) ?_
      refine V_iload_n (pc := 41) (i := 2) dX12_isRead_41 rfl rfl ?_
      refine V_imul (pc := 42) dX12_isRead_42 ?_
      refine V_iadd (pc := 43) dX12_isRead_43 ?_
      refine V_iconst (pc := 44) (v := (1 : Int32)) dX12_isRead_44 (by decide) ?_
      refine V_iadd (pc := 45) dX12_isRead_45 ?_
      obtain ⟨g17, e⟩ := gd_some e
      obtain ⟨g18, e⟩ := gd_some e
      refine V_iald (pc := 46) dX12_isRead_46 (of_decide_eq_true g17) (ix_in g18) ?_
      refine V_icmp_ne (pc := 47) (tgt := 54) dX12_isRead_47 (by decide) (fun c19 => ?_) (fun c19 => ?_)
      · rw [if_neg c19] at e
        exact V_pick [] rfl (r_X12_isRead_b54 h3 e hF)
      · rw [if_pos c19] at e
        refine V_pick [] rfl ?_
        refine V_iconst (pc := 50) (v := (1 : Int32)) dX12_isRead_50 (by decide) ?_
        refine V_goto (pc := 51) (tgt := 55) dX12_isRead_51 (by decide) ?_
        exact V_pick [] rfl (r_X12_isRead_b55 (1 : Int32) h3 e hF)
def F_X12_isRead (v0 : Nat) (v1 : Int32) (v2 : Int32) (h : Hp) : Option (Int32 × Hp) := F_X12_isRead_b0 v0 v1 v2 h
theorem c_X12_isRead {l : Launch} (v0 : Nat) (v1 : Int32) (v2 : Int32) (h : Hp) {r : Int32} {hz : Hp} (e : F_X12_isRead v0 v1 v2 h = some (r, hz)) : Ct l yX12_isRead M_X12_isRead (some .boolean) 5 [.ref v0, .int v1, .int v2] h 0 0 (some (.int r)) hz :=
  Ct_of rfl rfl (fun q => by cases q) (Nat.le_of_ble_eq_true rfl) (fun x _ hF => V_pick [0, 1, 2] rfl (r_X12_isRead_b0 v0 v1 v2 h e hF))
theorem dX12_fits_0 : decode cX12_fits 0 = .ok (.aload_n 0, 1) := by decide +kernel
theorem dX12_fits_1 : decode cX12_fits 1 = .ok (.iconst 0, 1) := by decide +kernel
theorem dX12_fits_2 : decode cX12_fits 2 = .ok (.putfield 3, 3) := by decide +kernel
theorem dX12_fits_5 : decode cX12_fits 5 = .ok (.aload_n 0, 1) := by decide +kernel
theorem dX12_fits_6 : decode cX12_fits 6 = .ok (.aload_n 0, 1) := by decide +kernel
theorem dX12_fits_7 : decode cX12_fits 7 = .ok (.iload_n 1, 1) := by decide +kernel
theorem dX12_fits_8 : decode cX12_fits 8 = .ok (.invokevirtual 408, 3) := by decide +kernel
theorem dX12_fits_11 : decode cX12_fits 11 = .ok (.iconst 1, 1) := by decide +kernel
theorem dX12_fits_12 : decode cX12_fits 12 = .ok (.invokevirtual 240, 3) := by decide +kernel
theorem dX12_fits_15 : decode cX12_fits 15 = .ok (.ifCond .eq 5, 3) := by decide +kernel
theorem dX12_fits_18 : decode cX12_fits 18 = .ok (.iconst 0, 1) := by decide +kernel
theorem dX12_fits_19 : decode cX12_fits 19 = .ok (.ireturn, 1) := by decide +kernel
theorem dX12_fits_20 : decode cX12_fits 20 = .ok (.iconst 0, 1) := by decide +kernel
theorem dX12_fits_21 : decode cX12_fits 21 = .ok (.istore_n 2, 1) := by decide +kernel
theorem dX12_fits_22 : decode cX12_fits 22 = .ok (.iconst 0, 1) := by decide +kernel
theorem dX12_fits_23 : decode cX12_fits 23 = .ok (.istore_n 3, 1) := by decide +kernel
theorem dX12_fits_24 : decode cX12_fits 24 = .ok (.iload_n 3, 1) := by decide +kernel
theorem dX12_fits_25 : decode cX12_fits 25 = .ok (.aload_n 0, 1) := by decide +kernel
theorem dX12_fits_26 : decode cX12_fits 26 = .ok (.invokevirtual 337, 3) := by decide +kernel
theorem dX12_fits_29 : decode cX12_fits 29 = .ok (.if_icmp .ge 26, 3) := by decide +kernel
theorem dX12_fits_32 : decode cX12_fits 32 = .ok (.iload_n 2, 1) := by decide +kernel
theorem dX12_fits_33 : decode cX12_fits 33 = .ok (.aload_n 0, 1) := by decide +kernel
theorem dX12_fits_34 : decode cX12_fits 34 = .ok (.iload_n 3, 1) := by decide +kernel
theorem dX12_fits_35 : decode cX12_fits 35 = .ok (.iload_n 1, 1) := by decide +kernel
theorem dX12_fits_36 : decode cX12_fits 36 = .ok (.invokevirtual 411, 3) := by decide +kernel
theorem dX12_fits_39 : decode cX12_fits 39 = .ok (.ifCond .eq 7, 3) := by decide +kernel
theorem dX12_fits_42 : decode cX12_fits 42 = .ok (.iconst 1, 1) := by decide +kernel
theorem dX12_fits_43 : decode cX12_fits 43 = .ok (.goto 4, 3) := by decide +kernel
theorem dX12_fits_46 : decode cX12_fits 46 = .ok (.iconst 0, 1) := by decide +kernel
theorem dX12_fits_47 : decode cX12_fits 47 = .ok (.iadd, 1) := by decide +kernel
theorem dX12_fits_48 : decode cX12_fits 48 = .ok (.istore_n 2, 1) := by decide +kernel
theorem dX12_fits_49 : decode cX12_fits 49 = .ok (.iinc 3 1, 3) := by decide +kernel
theorem dX12_fits_52 : decode cX12_fits 52 = .ok (.goto (-28), 3) := by decide +kernel
theorem dX12_fits_55 : decode cX12_fits 55 = .ok (.iload_n 2, 1) := by decide +kernel
theorem dX12_fits_56 : decode cX12_fits 56 = .ok (.ireturn, 1) := by decide +kernel
set_option maxRecDepth 100000 in
def F_X12_fits_b47 (v0 : Nat) (v1 : Int32) (v3 : Int32) (t0 : Int32) (t1 : Int32) (h : Hp) : Option ((Int32 × Int32 × Hp) ⊕ (Int32 × Hp)) :=
  some (.inl (t0 + t1, v3 + (1 : Int32), h))
set_option maxHeartbeats 4000000 in
set_option maxRecDepth 100000 in
theorem r_X12_fits_b47 (v0 : Nat) (v1 : Int32) (v3 : Int32) (t0 : Int32) (t1 : Int32) (h : Hp) {x : Cx} {o : ((Int32 × Int32 × Hp) ⊕ (Int32 × Hp))} (e : F_X12_fits_b47 v0 v1 v3 t0 t1 h = some o) (kI : ∀ z, o = .inl z → V M_X12_fits x 6 24 [(0, .ref v0), (1, .int v1), (2, .int z.1), (3, .int z.2.1)] [] z.2.2 0 0) (kE55 : ∀ z : Int32 × Hp, o = .inr z → V M_X12_fits x 6 55 [(2, .int z.1)] [] z.2 0 0) : V M_X12_fits x 6 47 [(0, .ref v0), (1, .int v1), (3, .int v3)] [.int t1, .int t0] h 0 0 := by
  unfold F_X12_fits_b47 at e
  refine V_iadd (pc := 47) dX12_fits_47 ?_
  refine V_istore_n (pc := 48) (i := 2) (lv' := [(2, .int (t0 + t1)), (0, .ref v0), (1, .int v1), (3, .int v3)]) dX12_fits_48 rfl (by decide) rfl ?_
  refine V_iinc (pc := 49) (i := 3) (u := v3 + (1 : Int32)) (lv' := [(3, .int (v3 + (1 : Int32))), (2, .int (t0 + t1)), (0, .ref v0), (1, .int v1)]) dX12_fits_49 rfl rfl (by decide) rfl ?_
  refine V_goto (pc := 52) (tgt := 24) dX12_fits_52 (by decide) ?_
  cases e
  exact V_pick [2, 3, 1, 0] rfl (kI _ rfl)
set_option maxRecDepth 100000 in
def F_X12_fits_l24 (v0 : Nat) (v1 : Int32) (v2 : Int32) (v3 : Int32) (h : Hp) : Option ((Int32 × Int32 × Hp) ⊕ (Int32 × Hp)) :=
  ob (F_X12_many v0 h) fun r8 => gd (decide (kd h v0 = 11)) <| (if r8 ≤ v3 then some (.inr (v2, h)) else ob2 (F_X12_isRead v0 v3 v1 h) fun r11 h12 => (if r11 = 0 then F_X12_fits_b47 v0 v1 v3 v2 (0 : Int32) h12 else F_X12_fits_b47 v0 v1 v3 v2 (1 : Int32) h12))
set_option maxHeartbeats 4000000 in
set_option maxRecDepth 100000 in
theorem r_X12_fits_l24 (v0 : Nat) (v1 : Int32) (v2 : Int32) (v3 : Int32) (h : Hp) {x : Cx} {o : ((Int32 × Int32 × Hp) ⊕ (Int32 × Hp))} (e : F_X12_fits_l24 v0 v1 v2 v3 h = some o) (kI : ∀ z, o = .inl z → V M_X12_fits x 6 24 [(0, .ref v0), (1, .int v1), (2, .int z.1), (3, .int z.2.1)] [] z.2.2 0 0) (kE55 : ∀ z : Int32 × Hp, o = .inr z → V M_X12_fits x 6 55 [(2, .int z.1)] [] z.2 0 0) : V M_X12_fits x 6 24 [(0, .ref v0), (1, .int v1), (2, .int v2), (3, .int v3)] [] h 0 0 := by
  unfold F_X12_fits_l24 at e
  refine V_iload_n (pc := 24) (i := 3) dX12_fits_24 rfl rfl ?_
  refine V_aload_n (pc := 25) (i := 0) dX12_fits_25 rfl rfl ?_
  obtain ⟨r8, g7, e⟩ := ob_some e
  obtain ⟨g9, e⟩ := gd_some e
  refine V_callV (pc := 26) (bc := 0) (bs := 0) (mc := 0) (ms := 0) (st := [.int v3]) (As := []) (a := v0) (h' := h) (r := some (.int r8)) dX12_fits_26 ml_X12_337 (ci := 11) rfl (of_decide_eq_true g9) rfl rfl (Nat.le_of_ble_eq_true rfl) (d' := 1) (by decide) (c_X12_many (l := x.2.1) v0 h g7) ?_
  refine V_icmp_ge (pc := 29) (tgt := 55) dX12_fits_29 (by decide) (fun c14 => ?_) (fun c14 => ?_)
  · rw [if_pos c14] at e
    cases e
    exact V_pick [2] rfl (kE55 _ rfl)
  · rw [if_neg c14] at e
    refine V_pick [0, 1, 2, 3] rfl ?_
    refine V_iload_n (pc := 32) (i := 2) dX12_fits_32 rfl rfl ?_
    refine V_aload_n (pc := 33) (i := 0) dX12_fits_33 rfl rfl ?_
    refine V_iload_n (pc := 34) (i := 3) dX12_fits_34 rfl rfl ?_
    refine V_iload_n (pc := 35) (i := 1) dX12_fits_35 rfl rfl ?_
    obtain ⟨r11, h12, g10, e⟩ := ob2_some e
    refine V_callV (pc := 36) (bc := 0) (bs := 0) (mc := 0) (ms := 0) (st := [.int v2]) (As := [.int v3, .int v1]) (a := v0) (h' := h12) (r := some (.int r11)) dX12_fits_36 ml_X12_411 (ci := 11) rfl (of_decide_eq_true g9) rfl rfl (Nat.le_of_ble_eq_true rfl) (d' := 5) (by decide) (c_X12_isRead (l := x.2.1) v0 v3 v1 h g10) ?_
    refine V_if_eq (pc := 39) (tgt := 46) dX12_fits_39 (by decide) (fun c13 => ?_) (fun c13 => ?_)
    · rw [if_pos c13] at e
      refine V_pick [0, 1, 3] rfl ?_
      refine V_iconst (pc := 46) (v := (0 : Int32)) dX12_fits_46 (by decide) ?_
      exact V_pick [0, 1, 2] rfl (r_X12_fits_b47 v0 v1 v3 v2 (0 : Int32) h12 e kI kE55)
    · rw [if_neg c13] at e
      refine V_pick [0, 1, 3] rfl ?_
      refine V_iconst (pc := 42) (v := (1 : Int32)) dX12_fits_42 (by decide) ?_
      refine V_goto (pc := 43) (tgt := 47) dX12_fits_43 (by decide) ?_
      exact V_pick [0, 1, 2] rfl (r_X12_fits_b47 v0 v1 v3 v2 (1 : Int32) h12 e kI kE55)
set_option maxRecDepth 100000 in
def F_X12_fits_b0 (v0 : Nat) (v1 : Int32) (h : Hp) : Option (Int32 × Hp) :=
  gd (decide (kd h v0 = 11)) <| ob (F_X12_noReading v0 v1 (setI h v0 0 (0 : Int32))) fun r3 => ob2 (F_X12_throwsIf v0 r3 (1 : Int32) (setI h v0 0 (0 : Int32))) fun r5 h6 => (if r5 = 0 then ob (iter (fun z : Int32 × Int32 × Hp => F_X12_fits_l24 v0 v1 z.1 z.2.1 z.2.2) FU ((0 : Int32), (0 : Int32), h6)) (fun z => un2 z fun w15 h16 => some (w15, h16)) else some ((0 : Int32), h6))
set_option maxHeartbeats 4000000 in
set_option maxRecDepth 100000 in
theorem r_X12_fits_b0 (v0 : Nat) (v1 : Int32) (h : Hp) {x : Cx} {r : Int32} {hz : Hp} (e : F_X12_fits_b0 v0 v1 h = some (r, hz)) (hF : Fin9 M_X12_fits x (some .int) (some (.int r)) hz) : V M_X12_fits x 6 0 [(0, .ref v0), (1, .int v1)] [] h 0 0 := by
  unfold F_X12_fits_b0 at e
  refine V_aload_n (pc := 0) (i := 0) dX12_fits_0 rfl rfl ?_
  refine V_iconst (pc := 1) (v := (0 : Int32)) dX12_fits_1 (by decide) ?_
  obtain ⟨g1, e⟩ := gd_some e
  refine V_putI (pc := 2) (ci := 11) (k := 0) dX12_fits_2 fp_X12_3 rfl (of_decide_eq_true g1) ?_
  refine V_aload_n (pc := 5) (i := 0) dX12_fits_5 rfl rfl ?_
  refine V_aload_n (pc := 6) (i := 0) dX12_fits_6 rfl rfl ?_
  refine V_iload_n (pc := 7) (i := 1) dX12_fits_7 rfl rfl ?_
  obtain ⟨r3, g2, e⟩ := ob_some e
  refine V_callV (pc := 8) (bc := 0) (bs := 0) (mc := 0) (ms := 0) (st := [.ref v0]) (As := [.int v1]) (a := v0) (h' := (setI h v0 0 (0 : Int32))) (r := some (.int r3)) dX12_fits_8 ml_X12_408 (ci := 11) rfl (of_decide_eq_true g1) rfl rfl (Nat.le_of_ble_eq_true rfl) (d' := 1) (by decide) (c_X12_noReading (l := x.2.1) v0 v1 (setI h v0 0 (0 : Int32)) g2) ?_
  refine V_iconst (pc := 11) (v := (1 : Int32)) dX12_fits_11 (by decide) ?_
  obtain ⟨r5, h6, g4, e⟩ := ob2_some e
  refine V_callV (pc := 12) (bc := 0) (bs := 0) (mc := 0) (ms := 0) (st := []) (As := [.int r3, .int (1 : Int32)]) (a := v0) (h' := h6) (r := some (.int r5)) dX12_fits_12 ml_X12_240 (ci := 11) rfl (of_decide_eq_true g1) rfl rfl (Nat.le_of_ble_eq_true rfl) (d' := 0) (by decide) (c_X12_throwsIf (l := x.2.1) v0 r3 (1 : Int32) (setI h v0 0 (0 : Int32)) g4) ?_
  refine V_if_eq (pc := 15) (tgt := 20) dX12_fits_15 (by decide) (fun c19 => ?_) (fun c19 => ?_)
  · rw [if_pos c19] at e
    refine V_pick [0, 1] rfl ?_
    refine V_iconst (pc := 20) (v := (0 : Int32)) dX12_fits_20 (by decide) ?_
    refine V_istore_n (pc := 21) (i := 2) (lv' := [(2, .int (0 : Int32)), (0, .ref v0), (1, .int v1)]) dX12_fits_21 rfl (by decide) rfl ?_
    refine V_iconst (pc := 22) (v := (0 : Int32)) dX12_fits_22 (by decide) ?_
    refine V_istore_n (pc := 23) (i := 3) (lv' := [(3, .int (0 : Int32)), (2, .int (0 : Int32)), (0, .ref v0), (1, .int v1)]) dX12_fits_23 rfl (by decide) rfl ?_
    refine V_pick [2, 3, 1, 0] rfl ?_
    obtain ⟨y17, g18, e⟩ := ob_some e
    refine iter_V (P := fun z : Int32 × Int32 × Hp => V M_X12_fits x 6 24 [(0, .ref v0), (1, .int v1), (2, .int z.1), (3, .int z.2.1)] [] z.2.2 0 0) (E := fun z : Int32 × Hp => V M_X12_fits x 6 55 [(2, .int z.1)] [] z.2 0 0) (fun z o e9 k1 k2 => r_X12_fits_l24 v0 v1 z.1 z.2.1 z.2.2 e9 (fun z hz9 => k1 z hz9) (fun z hz9 => k2 _ hz9)) _ _ _ g18 ?_
    clear g18
    obtain ⟨w15, h16⟩ := y17
    replace e : (some (w15, h16)) = some (r, hz) := e
    show V M_X12_fits x 6 55 [(2, .int w15)] [] h16 0 0
    refine V_iload_n (pc := 55) (i := 2) dX12_fits_55 rfl rfl ?_
    cases e
    exact V_iret (pc := 56) dX12_fits_56 hF
  · rw [if_neg c19] at e
    refine V_pick [] rfl ?_
    refine V_iconst (pc := 18) (v := (0 : Int32)) dX12_fits_18 (by decide) ?_
    cases e
    exact V_iret (pc := 19) dX12_fits_19 hF
def F_X12_fits (v0 : Nat) (v1 : Int32) (h : Hp) : Option (Int32 × Hp) := F_X12_fits_b0 v0 v1 h
theorem c_X12_fits {l : Launch} (v0 : Nat) (v1 : Int32) (h : Hp) {r : Int32} {hz : Hp} (e : F_X12_fits v0 v1 h = some (r, hz)) : Ct l yX12_fits M_X12_fits (some .int) 6 [.ref v0, .int v1] h 0 0 (some (.int r)) hz :=
  Ct_of rfl rfl (fun q => by cases q) (Nat.le_of_ble_eq_true rfl) (fun x _ hF => V_pick [0, 1] rfl (r_X12_fits_b0 v0 v1 h e hF))
theorem dX12_meeting_0 : decode cX12_meeting 0 = .ok (.aload_n 0, 1) := by decide +kernel
theorem dX12_meeting_1 : decode cX12_meeting 1 = .ok (.iconst 0, 1) := by decide +kernel
theorem dX12_meeting_2 : decode cX12_meeting 2 = .ok (.putfield 3, 3) := by decide +kernel
theorem dX12_meeting_5 : decode cX12_meeting 5 = .ok (.aload_n 0, 1) := by decide +kernel
theorem dX12_meeting_6 : decode cX12_meeting 6 = .ok (.aload_n 0, 1) := by decide +kernel
theorem dX12_meeting_7 : decode cX12_meeting 7 = .ok (.iload_n 1, 1) := by decide +kernel
theorem dX12_meeting_8 : decode cX12_meeting 8 = .ok (.invokevirtual 408, 3) := by decide +kernel
theorem dX12_meeting_11 : decode cX12_meeting 11 = .ok (.ifCond .ne 19, 3) := by decide +kernel
theorem dX12_meeting_14 : decode cX12_meeting 14 = .ok (.aload_n 0, 1) := by decide +kernel
theorem dX12_meeting_15 : decode cX12_meeting 15 = .ok (.iload_n 2, 1) := by decide +kernel
theorem dX12_meeting_16 : decode cX12_meeting 16 = .ok (.invokevirtual 244, 3) := by decide +kernel
theorem dX12_meeting_19 : decode cX12_meeting 19 = .ok (.ifCond .ne 11, 3) := by decide +kernel
theorem dX12_meeting_22 : decode cX12_meeting 22 = .ok (.aload_n 0, 1) := by decide +kernel
theorem dX12_meeting_23 : decode cX12_meeting 23 = .ok (.iload_n 3, 1) := by decide +kernel
theorem dX12_meeting_24 : decode cX12_meeting 24 = .ok (.invokevirtual 244, 3) := by decide +kernel
theorem dX12_meeting_27 : decode cX12_meeting 27 = .ok (.ifCond .eq 7, 3) := by decide +kernel
theorem dX12_meeting_30 : decode cX12_meeting 30 = .ok (.iconst 1, 1) := by decide +kernel
theorem dX12_meeting_31 : decode cX12_meeting 31 = .ok (.goto 4, 3) := by decide +kernel
theorem dX12_meeting_34 : decode cX12_meeting 34 = .ok (.iconst 0, 1) := by decide +kernel
theorem dX12_meeting_35 : decode cX12_meeting 35 = .ok (.iconst 1, 1) := by decide +kernel
theorem dX12_meeting_36 : decode cX12_meeting 36 = .ok (.invokevirtual 240, 3) := by decide +kernel
theorem dX12_meeting_39 : decode cX12_meeting 39 = .ok (.ifCond .eq 5, 3) := by decide +kernel
theorem dX12_meeting_42 : decode cX12_meeting 42 = .ok (.iconst 0, 1) := by decide +kernel
theorem dX12_meeting_43 : decode cX12_meeting 43 = .ok (.ireturn, 1) := by decide +kernel
theorem dX12_meeting_44 : decode cX12_meeting 44 = .ok (.iconst 0, 1) := by decide +kernel
theorem dX12_meeting_45 : decode cX12_meeting 45 = .ok (.istore 4, 2) := by decide +kernel
theorem dX12_meeting_47 : decode cX12_meeting 47 = .ok (.iconst 0, 1) := by decide +kernel
theorem dX12_meeting_48 : decode cX12_meeting 48 = .ok (.istore 5, 2) := by decide +kernel
theorem dX12_meeting_50 : decode cX12_meeting 50 = .ok (.iconst 0, 1) := by decide +kernel
theorem dX12_meeting_51 : decode cX12_meeting 51 = .ok (.istore 6, 2) := by decide +kernel
theorem dX12_meeting_53 : decode cX12_meeting 53 = .ok (.iload 6, 2) := by decide +kernel
theorem dX12_meeting_55 : decode cX12_meeting 55 = .ok (.aload_n 0, 1) := by decide +kernel
theorem dX12_meeting_56 : decode cX12_meeting 56 = .ok (.invokevirtual 337, 3) := by decide +kernel
theorem dX12_meeting_59 : decode cX12_meeting 59 = .ok (.if_icmp .ge 50, 3) := by decide +kernel
theorem dX12_meeting_62 : decode cX12_meeting 62 = .ok (.aload_n 0, 1) := by decide +kernel
theorem dX12_meeting_63 : decode cX12_meeting 63 = .ok (.iload 6, 2) := by decide +kernel
theorem dX12_meeting_65 : decode cX12_meeting 65 = .ok (.iload_n 1, 1) := by decide +kernel
theorem dX12_meeting_66 : decode cX12_meeting 66 = .ok (.invokevirtual 411, 3) := by decide +kernel
theorem dX12_meeting_69 : decode cX12_meeting 69 = .ok (.ifCond .ne 6, 3) := by decide +kernel
theorem dX12_meeting_72 : decode cX12_meeting 72 = .ok (.goto 31, 3) := by decide +kernel
theorem dX12_meeting_75 : decode cX12_meeting 75 = .ok (.iinc 4 1, 3) := by decide +kernel
theorem dX12_meeting_78 : decode cX12_meeting 78 = .ok (.iload 5, 2) := by decide +kernel
theorem dX12_meeting_80 : decode cX12_meeting 80 = .ok (.aload_n 0, 1) := by decide +kernel
theorem dX12_meeting_81 : decode cX12_meeting 81 = .ok (.getfield 36, 3) := by decide +kernel
theorem dX12_meeting_84 : decode cX12_meeting 84 = .ok (.iload_n 2, 1) := by decide +kernel
theorem dX12_meeting_85 : decode cX12_meeting 85 = .ok (.iaload, 1) := by decide +kernel
theorem dX12_meeting_86 : decode cX12_meeting 86 = .ok (.aload_n 0, 1) := by decide +kernel
theorem dX12_meeting_87 : decode cX12_meeting 87 = .ok (.getfield 36, 3) := by decide +kernel
theorem dX12_meeting_90 : decode cX12_meeting 90 = .ok (.iload_n 3, 1) := by decide +kernel
theorem dX12_meeting_91 : decode cX12_meeting 91 = .ok (.iaload, 1) := by decide +kernel
theorem dX12_meeting_92 : decode cX12_meeting 92 = .ok (.if_icmp .ne 7, 3) := by decide +kernel
theorem dX12_meeting_95 : decode cX12_meeting 95 = .ok (.iconst 1, 1) := by decide +kernel
theorem dX12_meeting_96 : decode cX12_meeting 96 = .ok (.goto 4, 3) := by decide +kernel
theorem dX12_meeting_99 : decode cX12_meeting 99 = .ok (.iconst 0, 1) := by decide +kernel
theorem dX12_meeting_100 : decode cX12_meeting 100 = .ok (.iadd, 1) := by decide +kernel
theorem dX12_meeting_101 : decode cX12_meeting 101 = .ok (.istore 5, 2) := by decide +kernel
theorem dX12_meeting_103 : decode cX12_meeting 103 = .ok (.iinc 6 1, 3) := by decide +kernel
theorem dX12_meeting_106 : decode cX12_meeting 106 = .ok (.goto (-53), 3) := by decide +kernel
theorem dX12_meeting_109 : decode cX12_meeting 109 = .ok (.iload 4, 2) := by decide +kernel
theorem dX12_meeting_111 : decode cX12_meeting 111 = .ok (.ifCond .ne 7, 3) := by decide +kernel
theorem dX12_meeting_114 : decode cX12_meeting 114 = .ok (.iconst (-1), 1) := by decide +kernel
theorem dX12_meeting_115 : decode cX12_meeting 115 = .ok (.goto 24, 3) := by decide +kernel
theorem dX12_meeting_118 : decode cX12_meeting 118 = .ok (.iload 5, 2) := by decide +kernel
theorem dX12_meeting_120 : decode cX12_meeting 120 = .ok (.iload 4, 2) := by decide +kernel
theorem dX12_meeting_122 : decode cX12_meeting 122 = .ok (.if_icmp .ne 7, 3) := by decide +kernel
theorem dX12_meeting_125 : decode cX12_meeting 125 = .ok (.iconst 2, 1) := by decide +kernel
theorem dX12_meeting_126 : decode cX12_meeting 126 = .ok (.goto 13, 3) := by decide +kernel
theorem dX12_meeting_129 : decode cX12_meeting 129 = .ok (.iload 5, 2) := by decide +kernel
theorem dX12_meeting_131 : decode cX12_meeting 131 = .ok (.ifCond .le 7, 3) := by decide +kernel
theorem dX12_meeting_134 : decode cX12_meeting 134 = .ok (.iconst 1, 1) := by decide +kernel
theorem dX12_meeting_135 : decode cX12_meeting 135 = .ok (.goto 4, 3) := by decide +kernel
theorem dX12_meeting_138 : decode cX12_meeting 138 = .ok (.iconst 0, 1) := by decide +kernel
theorem dX12_meeting_139 : decode cX12_meeting 139 = .ok (.ireturn, 1) := by decide +kernel
set_option maxRecDepth 100000 in
def F_X12_meeting_b103 (v0 : Nat) (v1 : Int32) (v2 : Int32) (v3 : Int32) (v4 : Int32) (v5 : Int32) (v6 : Int32) (h : Hp) : Option ((Int32 × Int32 × Int32 × Hp) ⊕ (Int32 × Int32 × Hp)) :=
  some (.inl (v4, v5, v6 + (1 : Int32), h))
set_option maxHeartbeats 4000000 in
set_option maxRecDepth 100000 in
theorem r_X12_meeting_b103 (v0 : Nat) (v1 : Int32) (v2 : Int32) (v3 : Int32) (v4 : Int32) (v5 : Int32) (v6 : Int32) (h : Hp) {x : Cx} {o : ((Int32 × Int32 × Int32 × Hp) ⊕ (Int32 × Int32 × Hp))} (e : F_X12_meeting_b103 v0 v1 v2 v3 v4 v5 v6 h = some o) (kI : ∀ z, o = .inl z → V M_X12_meeting x 6 53 [(0, .ref v0), (1, .int v1), (2, .int v2), (3, .int v3), (4, .int z.1), (5, .int z.2.1), (6, .int z.2.2.1)] [] z.2.2.2 0 0) (kE109 : ∀ z : Int32 × Int32 × Hp, o = .inr z → V M_X12_meeting x 6 109 [(4, .int z.1), (5, .int z.2.1)] [] z.2.2 0 0) : V M_X12_meeting x 6 103 [(0, .ref v0), (1, .int v1), (2, .int v2), (3, .int v3), (4, .int v4), (5, .int v5), (6, .int v6)] [] h 0 0 := by
  unfold F_X12_meeting_b103 at e
  refine V_iinc (pc := 103) (i := 6) (u := v6 + (1 : Int32)) (lv' := [(6, .int (v6 + (1 : Int32))), (0, .ref v0), (1, .int v1), (2, .int v2), (3, .int v3), (4, .int v4), (5, .int v5)]) dX12_meeting_103 rfl rfl (by decide) rfl ?_
  refine V_goto (pc := 106) (tgt := 53) dX12_meeting_106 (by decide) ?_
  cases e
  exact V_pick [1, 2, 3, 4, 5, 6, 0] rfl (kI _ rfl)
set_option maxRecDepth 100000 in
def F_X12_meeting_b100 (v0 : Nat) (v1 : Int32) (v2 : Int32) (v3 : Int32) (v4 : Int32) (v6 : Int32) (t0 : Int32) (t1 : Int32) (h : Hp) : Option ((Int32 × Int32 × Int32 × Hp) ⊕ (Int32 × Int32 × Hp)) :=
  F_X12_meeting_b103 v0 v1 v2 v3 v4 (t0 + t1) v6 h
set_option maxHeartbeats 4000000 in
set_option maxRecDepth 100000 in
theorem r_X12_meeting_b100 (v0 : Nat) (v1 : Int32) (v2 : Int32) (v3 : Int32) (v4 : Int32) (v6 : Int32) (t0 : Int32) (t1 : Int32) (h : Hp) {x : Cx} {o : ((Int32 × Int32 × Int32 × Hp) ⊕ (Int32 × Int32 × Hp))} (e : F_X12_meeting_b100 v0 v1 v2 v3 v4 v6 t0 t1 h = some o) (kI : ∀ z, o = .inl z → V M_X12_meeting x 6 53 [(0, .ref v0), (1, .int v1), (2, .int v2), (3, .int v3), (4, .int z.1), (5, .int z.2.1), (6, .int z.2.2.1)] [] z.2.2.2 0 0) (kE109 : ∀ z : Int32 × Int32 × Hp, o = .inr z → V M_X12_meeting x 6 109 [(4, .int z.1), (5, .int z.2.1)] [] z.2.2 0 0) : V M_X12_meeting x 6 100 [(0, .ref v0), (1, .int v1), (2, .int v2), (3, .int v3), (4, .int v4), (6, .int v6)] [.int t1, .int t0] h 0 0 := by
  unfold F_X12_meeting_b100 at e
  refine V_iadd (pc := 100) dX12_meeting_100 ?_
  refine V_istore (pc := 101) (i := 5) (lv' := [(5, .int (t0 + t1)), (0, .ref v0), (1, .int v1), (2, .int v2), (3, .int v3), (4, .int v4), (6, .int v6)]) dX12_meeting_101 (by decide) rfl ?_
  exact V_pick [1, 2, 3, 4, 5, 0, 6] rfl (r_X12_meeting_b103 v0 v1 v2 v3 v4 (t0 + t1) v6 h e kI kE109)
set_option maxRecDepth 100000 in
def F_X12_meeting_l53 (v0 : Nat) (v1 : Int32) (v2 : Int32) (v3 : Int32) (v4 : Int32) (v5 : Int32) (v6 : Int32) (h : Hp) : Option ((Int32 × Int32 × Int32 × Hp) ⊕ (Int32 × Int32 × Hp)) :=
  ob (F_X12_many v0 h) fun r9 => gd (decide (kd h v0 = 11)) <| (if r9 ≤ v6 then some (.inr (v4, v5, h)) else ob2 (F_X12_isRead v0 v6 v1 h) fun r12 h13 => (if r12 = 0 then F_X12_meeting_b103 v0 v1 v2 v3 v4 v5 v6 h13 else gd (decide (kd h13 v0 = 11)) <| ob (zR h13 v0 15) fun q15 => gd (decide (kd h13 q15 = 13)) <| gd (ix v2 (zl h13 q15)) <| ob (zR h13 v0 15) fun q19 => gd (decide (kd h13 q19 = 13)) <| gd (ix v3 (zl h13 q19)) <| (if (zI h13 q15 (v2).toNatClampNeg) = (zI h13 q19 (v3).toNatClampNeg) then F_X12_meeting_b100 v0 v1 v2 v3 (v4 + (1 : Int32)) v6 v5 (1 : Int32) h13 else F_X12_meeting_b100 v0 v1 v2 v3 (v4 + (1 : Int32)) v6 v5 (0 : Int32) h13)))
set_option maxHeartbeats 4000000 in
set_option maxRecDepth 100000 in
theorem r_X12_meeting_l53 (v0 : Nat) (v1 : Int32) (v2 : Int32) (v3 : Int32) (v4 : Int32) (v5 : Int32) (v6 : Int32) (h : Hp) {x : Cx} {o : ((Int32 × Int32 × Int32 × Hp) ⊕ (Int32 × Int32 × Hp))} (e : F_X12_meeting_l53 v0 v1 v2 v3 v4 v5 v6 h = some o) (kI : ∀ z, o = .inl z → V M_X12_meeting x 6 53 [(0, .ref v0), (1, .int v1), (2, .int v2), (3, .int v3), (4, .int z.1), (5, .int z.2.1), (6, .int z.2.2.1)] [] z.2.2.2 0 0) (kE109 : ∀ z : Int32 × Int32 × Hp, o = .inr z → V M_X12_meeting x 6 109 [(4, .int z.1), (5, .int z.2.1)] [] z.2.2 0 0) : V M_X12_meeting x 6 53 [(0, .ref v0), (1, .int v1), (2, .int v2), (3, .int v3), (4, .int v4), (5, .int v5), (6, .int v6)] [] h 0 0 := by
  unfold F_X12_meeting_l53 at e
  refine V_iload (pc := 53) (i := 6) dX12_meeting_53 rfl ?_
  refine V_aload_n (pc := 55) (i := 0) dX12_meeting_55 rfl rfl ?_
  obtain ⟨r9, g8, e⟩ := ob_some e
  obtain ⟨g10, e⟩ := gd_some e
  refine V_callV (pc := 56) (bc := 0) (bs := 0) (mc := 0) (ms := 0) (st := [.int v6]) (As := []) (a := v0) (h' := h) (r := some (.int r9)) dX12_meeting_56 ml_X12_337 (ci := 11) rfl (of_decide_eq_true g10) rfl rfl (Nat.le_of_ble_eq_true rfl) (d' := 1) (by decide) (c_X12_many (l := x.2.1) v0 h g8) ?_
  refine V_icmp_ge (pc := 59) (tgt := 109) dX12_meeting_59 (by decide) (fun c25 => ?_) (fun c25 => ?_)
  · rw [if_pos c25] at e
    cases e
    exact V_pick [4, 5] rfl (kE109 _ rfl)
  · rw [if_neg c25] at e
    refine V_pick [0, 1, 2, 3, 4, 5, 6] rfl ?_
    refine V_aload_n (pc := 62) (i := 0) dX12_meeting_62 rfl rfl ?_
    refine V_iload (pc := 63) (i := 6) dX12_meeting_63 rfl ?_
    refine V_iload_n (pc := 65) (i := 1) dX12_meeting_65 rfl rfl ?_
    obtain ⟨r12, h13, g11, e⟩ := ob2_some e
    refine V_callV (pc := 66) (bc := 0) (bs := 0) (mc := 0) (ms := 0) (st := []) (As := [.int v6, .int v1]) (a := v0) (h' := h13) (r := some (.int r12)) dX12_meeting_66 ml_X12_411 (ci := 11) rfl (of_decide_eq_true g10) rfl rfl (Nat.le_of_ble_eq_true rfl) (d' := 5) (by decide) (c_X12_isRead (l := x.2.1) v0 v6 v1 h g11) ?_
    refine V_if_ne (pc := 69) (tgt := 75) dX12_meeting_69 (by decide) (fun c24 => ?_) (fun c24 => ?_)
    · rw [if_neg c24] at e
      refine V_pick [0, 1, 2, 3, 4, 5, 6] rfl ?_
      refine V_iinc (pc := 75) (i := 4) (u := v4 + (1 : Int32)) (lv' := [(4, .int (v4 + (1 : Int32))), (0, .ref v0), (1, .int v1), (2, .int v2), (3, .int v3), (5, .int v5), (6, .int v6)]) dX12_meeting_75 rfl rfl (by decide) rfl ?_
      refine V_iload (pc := 78) (i := 5) dX12_meeting_78 rfl ?_
      refine V_aload_n (pc := 80) (i := 0) dX12_meeting_80 rfl rfl ?_
      obtain ⟨g14, e⟩ := gd_some e
      obtain ⟨q15, g16, e⟩ := ob_some e
      refine V_getR (pc := 81) (ci := 11) (k := 15) (b := q15) dX12_meeting_81 fl_X12_36 rfl (of_decide_eq_true g14) g16 ?_
      refine V_iload_n (pc := 84) (i := 2) dX12_meeting_84 rfl rfl ?_
      obtain ⟨g17, e⟩ := gd_some e
      obtain ⟨g18, e⟩ := gd_some e
      refine V_iald (pc := 85) dX12_meeting_85 (of_decide_eq_true g17) (ix_in g18) ?_
      refine V_aload_n (pc := 86) (i := 0) dX12_meeting_86 rfl rfl ?_
      obtain ⟨q19, g20, e⟩ := ob_some e
      refine V_getR (pc := 87) (ci := 11) (k := 15) (b := q19) dX12_meeting_87 fl_X12_36 rfl (of_decide_eq_true g14) g20 ?_
      refine V_iload_n (pc := 90) (i := 3) dX12_meeting_90 rfl rfl ?_
      obtain ⟨g21, e⟩ := gd_some e
      obtain ⟨g22, e⟩ := gd_some e
      refine V_iald (pc := 91) dX12_meeting_91 (of_decide_eq_true g21) (ix_in g22) ?_
      refine V_icmp_ne (pc := 92) (tgt := 99) dX12_meeting_92 (by decide) (fun c23 => ?_) (fun c23 => ?_)
      · rw [if_neg c23] at e
        refine V_pick [1, 2, 3, 4, 0, 6] rfl ?_
        refine V_iconst (pc := 99) (v := (0 : Int32)) dX12_meeting_99 (by decide) ?_
        exact V_pick [0, 1, 2, 3, 4, 5] rfl (r_X12_meeting_b100 v0 v1 v2 v3 (v4 + (1 : Int32)) v6 v5 (0 : Int32) h13 e kI kE109)
      · rw [if_pos c23] at e
        refine V_pick [1, 2, 3, 4, 0, 6] rfl ?_
        refine V_iconst (pc := 95) (v := (1 : Int32)) dX12_meeting_95 (by decide) ?_
        refine V_goto (pc := 96) (tgt := 100) dX12_meeting_96 (by decide) ?_
        exact V_pick [0, 1, 2, 3, 4, 5] rfl (r_X12_meeting_b100 v0 v1 v2 v3 (v4 + (1 : Int32)) v6 v5 (1 : Int32) h13 e kI kE109)
    · rw [if_pos c24] at e
      refine V_pick [0, 1, 2, 3, 4, 5, 6] rfl ?_
      refine V_goto (pc := 72) (tgt := 103) dX12_meeting_72 (by decide) ?_
      exact V_pick [0, 1, 2, 3, 4, 5, 6] rfl (r_X12_meeting_b103 v0 v1 v2 v3 v4 v5 v6 h13 e kI kE109)
set_option maxRecDepth 100000 in
def F_X12_meeting_b139 (t0 : Int32) (h : Hp) : Option (Int32 × Hp) :=
  some (t0, h)
set_option maxHeartbeats 4000000 in
set_option maxRecDepth 100000 in
theorem r_X12_meeting_b139 (t0 : Int32) (h : Hp) {x : Cx} {r : Int32} {hz : Hp} (e : F_X12_meeting_b139 t0 h = some (r, hz)) (hF : Fin9 M_X12_meeting x (some .int) (some (.int r)) hz) : V M_X12_meeting x 6 139 [] [.int t0] h 0 0 := by
  unfold F_X12_meeting_b139 at e
  cases e
  exact V_iret (pc := 139) dX12_meeting_139 hF
set_option maxRecDepth 100000 in
def F_X12_meeting_b35 (v0 : Nat) (v1 : Int32) (v2 : Int32) (v3 : Int32) (t0 : Nat) (t1 : Int32) (h : Hp) : Option (Int32 × Hp) :=
  ob2 (F_X12_throwsIf t0 t1 (1 : Int32) h) fun r5 h6 => gd (decide (kd h t0 = 11)) <| (if r5 = 0 then ob (iter (fun z : Int32 × Int32 × Int32 × Hp => F_X12_meeting_l53 v0 v1 v2 v3 z.1 z.2.1 z.2.2.1 z.2.2.2) FU ((0 : Int32), (0 : Int32), (0 : Int32), h6)) (fun z => un3 z fun w26 w27 h28 => (if w26 = 0 then F_X12_meeting_b139 (-1 : Int32) h28 else (if w27 = w26 then F_X12_meeting_b139 (2 : Int32) h28 else (if w27 ≤ 0 then F_X12_meeting_b139 (0 : Int32) h28 else F_X12_meeting_b139 (1 : Int32) h28)))) else some ((0 : Int32), h6))
set_option maxHeartbeats 4000000 in
set_option maxRecDepth 100000 in
theorem r_X12_meeting_b35 (v0 : Nat) (v1 : Int32) (v2 : Int32) (v3 : Int32) (t0 : Nat) (t1 : Int32) (h : Hp) {x : Cx} {r : Int32} {hz : Hp} (e : F_X12_meeting_b35 v0 v1 v2 v3 t0 t1 h = some (r, hz)) (hF : Fin9 M_X12_meeting x (some .int) (some (.int r)) hz) : V M_X12_meeting x 6 35 [(0, .ref v0), (1, .int v1), (2, .int v2), (3, .int v3)] [.int t1, .ref t0] h 0 0 := by
  unfold F_X12_meeting_b35 at e
  refine V_iconst (pc := 35) (v := (1 : Int32)) dX12_meeting_35 (by decide) ?_
  obtain ⟨r5, h6, g4, e⟩ := ob2_some e
  obtain ⟨g7, e⟩ := gd_some e
  refine V_callV (pc := 36) (bc := 0) (bs := 0) (mc := 0) (ms := 0) (st := []) (As := [.int t1, .int (1 : Int32)]) (a := t0) (h' := h6) (r := some (.int r5)) dX12_meeting_36 ml_X12_240 (ci := 11) rfl (of_decide_eq_true g7) rfl rfl (Nat.le_of_ble_eq_true rfl) (d' := 0) (by decide) (c_X12_throwsIf (l := x.2.1) t0 t1 (1 : Int32) h g4) ?_
  refine V_if_eq (pc := 39) (tgt := 44) dX12_meeting_39 (by decide) (fun c34 => ?_) (fun c34 => ?_)
  · rw [if_pos c34] at e
    refine V_pick [0, 1, 2, 3] rfl ?_
    refine V_iconst (pc := 44) (v := (0 : Int32)) dX12_meeting_44 (by decide) ?_
    refine V_istore (pc := 45) (i := 4) (lv' := [(4, .int (0 : Int32)), (0, .ref v0), (1, .int v1), (2, .int v2), (3, .int v3)]) dX12_meeting_45 (by decide) rfl ?_
    refine V_iconst (pc := 47) (v := (0 : Int32)) dX12_meeting_47 (by decide) ?_
    refine V_istore (pc := 48) (i := 5) (lv' := [(5, .int (0 : Int32)), (4, .int (0 : Int32)), (0, .ref v0), (1, .int v1), (2, .int v2), (3, .int v3)]) dX12_meeting_48 (by decide) rfl ?_
    refine V_iconst (pc := 50) (v := (0 : Int32)) dX12_meeting_50 (by decide) ?_
    refine V_istore (pc := 51) (i := 6) (lv' := [(6, .int (0 : Int32)), (5, .int (0 : Int32)), (4, .int (0 : Int32)), (0, .ref v0), (1, .int v1), (2, .int v2), (3, .int v3)]) dX12_meeting_51 (by decide) rfl ?_
    refine V_pick [3, 4, 5, 6, 2, 1, 0] rfl ?_
    obtain ⟨y32, g33, e⟩ := ob_some e
    refine iter_V (P := fun z : Int32 × Int32 × Int32 × Hp => V M_X12_meeting x 6 53 [(0, .ref v0), (1, .int v1), (2, .int v2), (3, .int v3), (4, .int z.1), (5, .int z.2.1), (6, .int z.2.2.1)] [] z.2.2.2 0 0) (E := fun z : Int32 × Int32 × Hp => V M_X12_meeting x 6 109 [(4, .int z.1), (5, .int z.2.1)] [] z.2.2 0 0) (fun z o e9 k1 k2 => r_X12_meeting_l53 v0 v1 v2 v3 z.1 z.2.1 z.2.2.1 z.2.2.2 e9 (fun z hz9 => k1 z hz9) (fun z hz9 => k2 _ hz9)) _ _ _ g33 ?_
    clear g33
    obtain ⟨w26, w27, h28⟩ := y32
    replace e : ((if w26 = 0 then F_X12_meeting_b139 (-1 : Int32) h28 else (if w27 = w26 then F_X12_meeting_b139 (2 : Int32) h28 else (if w27 ≤ 0 then F_X12_meeting_b139 (0 : Int32) h28 else F_X12_meeting_b139 (1 : Int32) h28)))) = some (r, hz) := e
    show V M_X12_meeting x 6 109 [(4, .int w26), (5, .int w27)] [] h28 0 0
    refine V_iload (pc := 109) (i := 4) dX12_meeting_109 rfl ?_
    refine V_if_ne (pc := 111) (tgt := 118) dX12_meeting_111 (by decide) (fun c31 => ?_) (fun c31 => ?_)
    · rw [if_neg c31] at e
      refine V_pick [0, 1] rfl ?_
      refine V_iload (pc := 118) (i := 5) dX12_meeting_118 rfl ?_
      refine V_iload (pc := 120) (i := 4) dX12_meeting_120 rfl ?_
      refine V_icmp_ne (pc := 122) (tgt := 129) dX12_meeting_122 (by decide) (fun c30 => ?_) (fun c30 => ?_)
      · rw [if_neg c30] at e
        refine V_pick [1] rfl ?_
        refine V_iload (pc := 129) (i := 5) dX12_meeting_129 rfl ?_
        refine V_if_le (pc := 131) (tgt := 138) dX12_meeting_131 (by decide) (fun c29 => ?_) (fun c29 => ?_)
        · rw [if_pos c29] at e
          refine V_pick [] rfl ?_
          refine V_iconst (pc := 138) (v := (0 : Int32)) dX12_meeting_138 (by decide) ?_
          exact V_pick [] rfl (r_X12_meeting_b139 (0 : Int32) h28 e hF)
        · rw [if_neg c29] at e
          refine V_pick [] rfl ?_
          refine V_iconst (pc := 134) (v := (1 : Int32)) dX12_meeting_134 (by decide) ?_
          refine V_goto (pc := 135) (tgt := 139) dX12_meeting_135 (by decide) ?_
          exact V_pick [] rfl (r_X12_meeting_b139 (1 : Int32) h28 e hF)
      · rw [if_pos c30] at e
        refine V_pick [] rfl ?_
        refine V_iconst (pc := 125) (v := (2 : Int32)) dX12_meeting_125 (by decide) ?_
        refine V_goto (pc := 126) (tgt := 139) dX12_meeting_126 (by decide) ?_
        exact V_pick [] rfl (r_X12_meeting_b139 (2 : Int32) h28 e hF)
    · rw [if_pos c31] at e
      refine V_pick [] rfl ?_
      refine V_iconst (pc := 114) (v := (-1 : Int32)) dX12_meeting_114 (by decide) ?_
      refine V_goto (pc := 115) (tgt := 139) dX12_meeting_115 (by decide) ?_
      exact V_pick [] rfl (r_X12_meeting_b139 (-1 : Int32) h28 e hF)
  · rw [if_neg c34] at e
    refine V_pick [] rfl ?_
    refine V_iconst (pc := 42) (v := (0 : Int32)) dX12_meeting_42 (by decide) ?_
    cases e
    exact V_iret (pc := 43) dX12_meeting_43 hF
set_option maxRecDepth 100000 in
def F_X12_meeting_b30 (v0 : Nat) (v1 : Int32) (v2 : Int32) (v3 : Int32) (t0 : Nat) (h : Hp) : Option (Int32 × Hp) :=
  F_X12_meeting_b35 v0 v1 v2 v3 t0 (1 : Int32) h
set_option maxHeartbeats 4000000 in
set_option maxRecDepth 100000 in
theorem r_X12_meeting_b30 (v0 : Nat) (v1 : Int32) (v2 : Int32) (v3 : Int32) (t0 : Nat) (h : Hp) {x : Cx} {r : Int32} {hz : Hp} (e : F_X12_meeting_b30 v0 v1 v2 v3 t0 h = some (r, hz)) (hF : Fin9 M_X12_meeting x (some .int) (some (.int r)) hz) : V M_X12_meeting x 6 30 [(0, .ref v0), (1, .int v1), (2, .int v2), (3, .int v3)] [.ref t0] h 0 0 := by
  unfold F_X12_meeting_b30 at e
  refine V_iconst (pc := 30) (v := (1 : Int32)) dX12_meeting_30 (by decide) ?_
  refine V_goto (pc := 31) (tgt := 35) dX12_meeting_31 (by decide) ?_
  exact V_pick [0, 1, 2, 3] rfl (r_X12_meeting_b35 v0 v1 v2 v3 t0 (1 : Int32) h e hF)
set_option maxRecDepth 100000 in
def F_X12_meeting_b0 (v0 : Nat) (v1 : Int32) (v2 : Int32) (v3 : Int32) (h : Hp) : Option (Int32 × Hp) :=
  gd (decide (kd h v0 = 11)) <| ob (F_X12_noReading v0 v1 (setI h v0 0 (0 : Int32))) fun r3 => (if r3 = 0 then ob (F_X12_noGuest v0 v2 (setI h v0 0 (0 : Int32))) fun r36 => (if r36 = 0 then ob (F_X12_noGuest v0 v3 (setI h v0 0 (0 : Int32))) fun r38 => (if r38 = 0 then F_X12_meeting_b35 v0 v1 v2 v3 v0 (0 : Int32) (setI h v0 0 (0 : Int32)) else F_X12_meeting_b30 v0 v1 v2 v3 v0 (setI h v0 0 (0 : Int32))) else F_X12_meeting_b30 v0 v1 v2 v3 v0 (setI h v0 0 (0 : Int32))) else F_X12_meeting_b30 v0 v1 v2 v3 v0 (setI h v0 0 (0 : Int32)))
set_option maxHeartbeats 4000000 in
set_option maxRecDepth 100000 in
theorem r_X12_meeting_b0 (v0 : Nat) (v1 : Int32) (v2 : Int32) (v3 : Int32) (h : Hp) {x : Cx} {r : Int32} {hz : Hp} (e : F_X12_meeting_b0 v0 v1 v2 v3 h = some (r, hz)) (hF : Fin9 M_X12_meeting x (some .int) (some (.int r)) hz) : V M_X12_meeting x 6 0 [(0, .ref v0), (1, .int v1), (2, .int v2), (3, .int v3)] [] h 0 0 := by
  unfold F_X12_meeting_b0 at e
  refine V_aload_n (pc := 0) (i := 0) dX12_meeting_0 rfl rfl ?_
  refine V_iconst (pc := 1) (v := (0 : Int32)) dX12_meeting_1 (by decide) ?_
  obtain ⟨g1, e⟩ := gd_some e
  refine V_putI (pc := 2) (ci := 11) (k := 0) dX12_meeting_2 fp_X12_3 rfl (of_decide_eq_true g1) ?_
  refine V_aload_n (pc := 5) (i := 0) dX12_meeting_5 rfl rfl ?_
  refine V_aload_n (pc := 6) (i := 0) dX12_meeting_6 rfl rfl ?_
  refine V_iload_n (pc := 7) (i := 1) dX12_meeting_7 rfl rfl ?_
  obtain ⟨r3, g2, e⟩ := ob_some e
  refine V_callV (pc := 8) (bc := 0) (bs := 0) (mc := 0) (ms := 0) (st := [.ref v0]) (As := [.int v1]) (a := v0) (h' := (setI h v0 0 (0 : Int32))) (r := some (.int r3)) dX12_meeting_8 ml_X12_408 (ci := 11) rfl (of_decide_eq_true g1) rfl rfl (Nat.le_of_ble_eq_true rfl) (d' := 1) (by decide) (c_X12_noReading (l := x.2.1) v0 v1 (setI h v0 0 (0 : Int32)) g2) ?_
  refine V_if_ne (pc := 11) (tgt := 30) dX12_meeting_11 (by decide) (fun c41 => ?_) (fun c41 => ?_)
  · rw [if_neg c41] at e
    exact V_pick [0, 1, 2, 3] rfl (r_X12_meeting_b30 v0 v1 v2 v3 v0 (setI h v0 0 (0 : Int32)) e hF)
  · rw [if_pos c41] at e
    refine V_pick [0, 1, 2, 3] rfl ?_
    refine V_aload_n (pc := 14) (i := 0) dX12_meeting_14 rfl rfl ?_
    refine V_iload_n (pc := 15) (i := 2) dX12_meeting_15 rfl rfl ?_
    obtain ⟨r36, g35, e⟩ := ob_some e
    refine V_callV (pc := 16) (bc := 0) (bs := 0) (mc := 0) (ms := 0) (st := [.ref v0]) (As := [.int v2]) (a := v0) (h' := (setI h v0 0 (0 : Int32))) (r := some (.int r36)) dX12_meeting_16 ml_X12_244 (ci := 11) rfl (of_decide_eq_true g1) rfl rfl (Nat.le_of_ble_eq_true rfl) (d' := 1) (by decide) (c_X12_noGuest (l := x.2.1) v0 v2 (setI h v0 0 (0 : Int32)) g35) ?_
    refine V_if_ne (pc := 19) (tgt := 30) dX12_meeting_19 (by decide) (fun c40 => ?_) (fun c40 => ?_)
    · rw [if_neg c40] at e
      exact V_pick [0, 1, 2, 3] rfl (r_X12_meeting_b30 v0 v1 v2 v3 v0 (setI h v0 0 (0 : Int32)) e hF)
    · rw [if_pos c40] at e
      refine V_pick [0, 1, 2, 3] rfl ?_
      refine V_aload_n (pc := 22) (i := 0) dX12_meeting_22 rfl rfl ?_
      refine V_iload_n (pc := 23) (i := 3) dX12_meeting_23 rfl rfl ?_
      obtain ⟨r38, g37, e⟩ := ob_some e
      refine V_callV (pc := 24) (bc := 0) (bs := 0) (mc := 0) (ms := 0) (st := [.ref v0]) (As := [.int v3]) (a := v0) (h' := (setI h v0 0 (0 : Int32))) (r := some (.int r38)) dX12_meeting_24 ml_X12_244 (ci := 11) rfl (of_decide_eq_true g1) rfl rfl (Nat.le_of_ble_eq_true rfl) (d' := 1) (by decide) (c_X12_noGuest (l := x.2.1) v0 v3 (setI h v0 0 (0 : Int32)) g37) ?_
      refine V_if_eq (pc := 27) (tgt := 34) dX12_meeting_27 (by decide) (fun c39 => ?_) (fun c39 => ?_)
      · rw [if_pos c39] at e
        refine V_pick [0, 1, 2, 3] rfl ?_
        refine V_iconst (pc := 34) (v := (0 : Int32)) dX12_meeting_34 (by decide) ?_
        exact V_pick [0, 1, 2, 3] rfl (r_X12_meeting_b35 v0 v1 v2 v3 v0 (0 : Int32) (setI h v0 0 (0 : Int32)) e hF)
      · rw [if_neg c39] at e
        exact V_pick [0, 1, 2, 3] rfl (r_X12_meeting_b30 v0 v1 v2 v3 v0 (setI h v0 0 (0 : Int32)) e hF)
def F_X12_meeting (v0 : Nat) (v1 : Int32) (v2 : Int32) (v3 : Int32) (h : Hp) : Option (Int32 × Hp) := F_X12_meeting_b0 v0 v1 v2 v3 h
theorem c_X12_meeting {l : Launch} (v0 : Nat) (v1 : Int32) (v2 : Int32) (v3 : Int32) (h : Hp) {r : Int32} {hz : Hp} (e : F_X12_meeting v0 v1 v2 v3 h = some (r, hz)) : Ct l yX12_meeting M_X12_meeting (some .int) 6 [.ref v0, .int v1, .int v2, .int v3] h 0 0 (some (.int r)) hz :=
  Ct_of rfl rfl (fun q => by cases q) (Nat.le_of_ble_eq_true rfl) (fun x _ hF => V_pick [0, 1, 2, 3] rfl (r_X12_meeting_b0 v0 v1 v2 v3 h e hF))
theorem dX0_readLine_0 : decode cX0_readLine 0 = .ok (.aload_n 0, 1) := by decide +kernel
theorem dX0_readLine_1 : decode cX0_readLine 1 = .ok (.getfield 21, 3) := by decide +kernel
theorem dX0_readLine_4 : decode cX0_readLine 4 = .ok (.istore_n 3, 1) := by decide +kernel
theorem dX0_readLine_5 : decode cX0_readLine 5 = .ok (.iload_n 3, 1) := by decide +kernel
theorem dX0_readLine_6 : decode cX0_readLine 6 = .ok (.ifCond .lt 9, 3) := by decide +kernel
theorem dX0_readLine_9 : decode cX0_readLine 9 = .ok (.iload_n 3, 1) := by decide +kernel
theorem dX0_readLine_10 : decode cX0_readLine 10 = .ok (.bipush 20, 2) := by decide +kernel
theorem dX0_readLine_12 : decode cX0_readLine 12 = .ok (.if_icmp .lt 8, 3) := by decide +kernel
theorem dX0_readLine_15 : decode cX0_readLine 15 = .ok (.aload_n 1, 1) := by decide +kernel
theorem dX0_readLine_16 : decode cX0_readLine 16 = .ok (.invokevirtual 31, 3) := by decide +kernel
theorem dX0_readLine_19 : decode cX0_readLine 19 = .ok (.ireturn, 1) := by decide +kernel
theorem dX0_readLine_20 : decode cX0_readLine 20 = .ok (.iload_n 3, 1) := by decide +kernel
theorem dX0_readLine_21 : decode cX0_readLine 21 = .ok (.ifCond .ne 7, 3) := by decide +kernel
theorem dX0_readLine_24 : decode cX0_readLine 24 = .ok (.iconst 0, 1) := by decide +kernel
theorem dX0_readLine_25 : decode cX0_readLine 25 = .ok (.goto 11, 3) := by decide +kernel
theorem dX0_readLine_28 : decode cX0_readLine 28 = .ok (.aload_n 0, 1) := by decide +kernel
theorem dX0_readLine_29 : decode cX0_readLine 29 = .ok (.getfield 9, 3) := by decide +kernel
theorem dX0_readLine_32 : decode cX0_readLine 32 = .ok (.iload_n 3, 1) := by decide +kernel
theorem dX0_readLine_33 : decode cX0_readLine 33 = .ok (.iconst 1, 1) := by decide +kernel
theorem dX0_readLine_34 : decode cX0_readLine 34 = .ok (.isub, 1) := by decide +kernel
theorem dX0_readLine_35 : decode cX0_readLine 35 = .ok (.iaload, 1) := by decide +kernel
theorem dX0_readLine_36 : decode cX0_readLine 36 = .ok (.istore 4, 2) := by decide +kernel
theorem dX0_readLine_38 : decode cX0_readLine 38 = .ok (.aload_n 1, 1) := by decide +kernel
theorem dX0_readLine_39 : decode cX0_readLine 39 = .ok (.ldc 37, 2) := by decide +kernel
theorem dX0_readLine_41 : decode cX0_readLine 41 = .ok (.invokevirtual 39, 3) := by decide +kernel
theorem dX0_readLine_44 : decode cX0_readLine 44 = .ok (.ifCond .eq 15, 3) := by decide +kernel
theorem dX0_readLine_47 : decode cX0_readLine 47 = .ok (.aload_n 1, 1) := by decide +kernel
theorem dX0_readLine_48 : decode cX0_readLine 48 = .ok (.iload 4, 2) := by decide +kernel
theorem dX0_readLine_50 : decode cX0_readLine 50 = .ok (.sipush 999, 3) := by decide +kernel
theorem dX0_readLine_53 : decode cX0_readLine 53 = .ok (.invokevirtual 43, 3) := by decide +kernel
theorem dX0_readLine_56 : decode cX0_readLine 56 = .ok (.ifCond .ne 5, 3) := by decide +kernel
theorem dX0_readLine_59 : decode cX0_readLine 59 = .ok (.iconst 0, 1) := by decide +kernel
theorem dX0_readLine_60 : decode cX0_readLine 60 = .ok (.ireturn, 1) := by decide +kernel
theorem dX0_readLine_61 : decode cX0_readLine 61 = .ok (.aload_n 0, 1) := by decide +kernel
theorem dX0_readLine_62 : decode cX0_readLine 62 = .ok (.getfield 9, 3) := by decide +kernel
theorem dX0_readLine_65 : decode cX0_readLine 65 = .ok (.iload_n 3, 1) := by decide +kernel
theorem dX0_readLine_66 : decode cX0_readLine 66 = .ok (.aload_n 1, 1) := by decide +kernel
theorem dX0_readLine_67 : decode cX0_readLine 67 = .ok (.getfield 47, 3) := by decide +kernel
theorem dX0_readLine_70 : decode cX0_readLine 70 = .ok (.iastore, 1) := by decide +kernel
theorem dX0_readLine_71 : decode cX0_readLine 71 = .ok (.aload_n 1, 1) := by decide +kernel
theorem dX0_readLine_72 : decode cX0_readLine 72 = .ok (.iconst 0, 1) := by decide +kernel
theorem dX0_readLine_73 : decode cX0_readLine 73 = .ok (.aload_n 2, 1) := by decide +kernel
theorem dX0_readLine_74 : decode cX0_readLine 74 = .ok (.getfield 50, 3) := by decide +kernel
theorem dX0_readLine_77 : decode cX0_readLine 77 = .ok (.iconst 1, 1) := by decide +kernel
theorem dX0_readLine_78 : decode cX0_readLine 78 = .ok (.isub, 1) := by decide +kernel
theorem dX0_readLine_79 : decode cX0_readLine 79 = .ok (.invokevirtual 43, 3) := by decide +kernel
theorem dX0_readLine_82 : decode cX0_readLine 82 = .ok (.ifCond .ne 5, 3) := by decide +kernel
theorem dX0_readLine_85 : decode cX0_readLine 85 = .ok (.iconst 0, 1) := by decide +kernel
theorem dX0_readLine_86 : decode cX0_readLine 86 = .ok (.ireturn, 1) := by decide +kernel
theorem dX0_readLine_87 : decode cX0_readLine 87 = .ok (.aload_n 0, 1) := by decide +kernel
theorem dX0_readLine_88 : decode cX0_readLine 88 = .ok (.getfield 15, 3) := by decide +kernel
theorem dX0_readLine_91 : decode cX0_readLine 91 = .ok (.iload_n 3, 1) := by decide +kernel
theorem dX0_readLine_92 : decode cX0_readLine 92 = .ok (.aload_n 1, 1) := by decide +kernel
theorem dX0_readLine_93 : decode cX0_readLine 93 = .ok (.getfield 47, 3) := by decide +kernel
theorem dX0_readLine_96 : decode cX0_readLine 96 = .ok (.iastore, 1) := by decide +kernel
theorem dX0_readLine_97 : decode cX0_readLine 97 = .ok (.aload_n 1, 1) := by decide +kernel
theorem dX0_readLine_98 : decode cX0_readLine 98 = .ok (.ldc 55, 2) := by decide +kernel
theorem dX0_readLine_100 : decode cX0_readLine 100 = .ok (.invokevirtual 39, 3) := by decide +kernel
theorem dX0_readLine_103 : decode cX0_readLine 103 = .ok (.ifCond .eq 17, 3) := by decide +kernel
theorem dX0_readLine_106 : decode cX0_readLine 106 = .ok (.aload_n 1, 1) := by decide +kernel
theorem dX0_readLine_107 : decode cX0_readLine 107 = .ok (.iconst 0, 1) := by decide +kernel
theorem dX0_readLine_108 : decode cX0_readLine 108 = .ok (.aload_n 2, 1) := by decide +kernel
theorem dX0_readLine_109 : decode cX0_readLine 109 = .ok (.getfield 57, 3) := by decide +kernel
theorem dX0_readLine_112 : decode cX0_readLine 112 = .ok (.iconst 1, 1) := by decide +kernel
theorem dX0_readLine_113 : decode cX0_readLine 113 = .ok (.isub, 1) := by decide +kernel
theorem dX0_readLine_114 : decode cX0_readLine 114 = .ok (.invokevirtual 43, 3) := by decide +kernel
theorem dX0_readLine_117 : decode cX0_readLine 117 = .ok (.ifCond .ne 5, 3) := by decide +kernel
theorem dX0_readLine_120 : decode cX0_readLine 120 = .ok (.iconst 0, 1) := by decide +kernel
theorem dX0_readLine_121 : decode cX0_readLine 121 = .ok (.ireturn, 1) := by decide +kernel
theorem dX0_readLine_122 : decode cX0_readLine 122 = .ok (.aload_n 0, 1) := by decide +kernel
theorem dX0_readLine_123 : decode cX0_readLine 123 = .ok (.getfield 18, 3) := by decide +kernel
theorem dX0_readLine_126 : decode cX0_readLine 126 = .ok (.iload_n 3, 1) := by decide +kernel
theorem dX0_readLine_127 : decode cX0_readLine 127 = .ok (.aload_n 1, 1) := by decide +kernel
theorem dX0_readLine_128 : decode cX0_readLine 128 = .ok (.getfield 47, 3) := by decide +kernel
theorem dX0_readLine_131 : decode cX0_readLine 131 = .ok (.iastore, 1) := by decide +kernel
theorem dX0_readLine_132 : decode cX0_readLine 132 = .ok (.iconst 1, 1) := by decide +kernel
theorem dX0_readLine_133 : decode cX0_readLine 133 = .ok (.ireturn, 1) := by decide +kernel
set_option maxRecDepth 100000 in
def F_X0_readLine_b15 (v1 : Nat) (h : Hp) : Option (Int32 × Hp) :=
  ob2 (F_X6_refuse v1 h) fun r3 h4 => gd (decide (kd h v1 = 6)) <| gd (decide (r3 = 0 ∨ r3 = 1)) <| some (r3, h4)
set_option maxHeartbeats 4000000 in
set_option maxRecDepth 100000 in
theorem r_X0_readLine_b15 (v1 : Nat) (h : Hp) {x : Cx} {r : Int32} {hz : Hp} (e : F_X0_readLine_b15 v1 h = some (r, hz)) (hF : Fin9 M_X0_readLine x (some .boolean) (some (.int r)) hz) : V M_X0_readLine x 6 15 [(1, .ref v1)] [] h 0 0 := by
  unfold F_X0_readLine_b15 at e
  refine V_aload_n (pc := 15) (i := 1) dX0_readLine_15 rfl rfl ?_
  obtain ⟨r3, h4, g2, e⟩ := ob2_some e
  obtain ⟨g5, e⟩ := gd_some e
  refine V_callV (pc := 16) (bc := 0) (bs := 0) (mc := 0) (ms := 0) (st := []) (As := []) (a := v1) (h' := h4) (r := some (.int r3)) dX0_readLine_16 ml_X0_31 (ci := 6) rfl (of_decide_eq_true g5) rfl rfl (Nat.le_of_ble_eq_true rfl) (d' := 0) (by decide) (c_X6_refuse (l := x.2.1) v1 h g2) ?_
  obtain ⟨g6, e⟩ := gd_some e
  cases e
  exact V_zret (pc := 19) dX0_readLine_19 (z01 (of_decide_eq_true g6)) hF
set_option maxRecDepth 100000 in
def F_X0_readLine_b59  (h : Hp) : Option (Int32 × Hp) :=
  some ((0 : Int32), h)
set_option maxHeartbeats 4000000 in
set_option maxRecDepth 100000 in
theorem r_X0_readLine_b59  (h : Hp) {x : Cx} {r : Int32} {hz : Hp} (e : F_X0_readLine_b59  h = some (r, hz)) (hF : Fin9 M_X0_readLine x (some .boolean) (some (.int r)) hz) : V M_X0_readLine x 6 59 [] [] h 0 0 := by
  unfold F_X0_readLine_b59 at e
  refine V_iconst (pc := 59) (v := (0 : Int32)) dX0_readLine_59 (by decide) ?_
  cases e
  exact V_zret (pc := 60) dX0_readLine_60 rfl hF
set_option maxRecDepth 100000 in
def F_X0_readLine_b120  (h : Hp) : Option (Int32 × Hp) :=
  some ((0 : Int32), h)
set_option maxHeartbeats 4000000 in
set_option maxRecDepth 100000 in
theorem r_X0_readLine_b120  (h : Hp) {x : Cx} {r : Int32} {hz : Hp} (e : F_X0_readLine_b120  h = some (r, hz)) (hF : Fin9 M_X0_readLine x (some .boolean) (some (.int r)) hz) : V M_X0_readLine x 6 120 [] [] h 0 0 := by
  unfold F_X0_readLine_b120 at e
  refine V_iconst (pc := 120) (v := (0 : Int32)) dX0_readLine_120 (by decide) ?_
  cases e
  exact V_zret (pc := 121) dX0_readLine_121 rfl hF
set_option maxRecDepth 100000 in
def F_X0_readLine_b36 (v0 : Nat) (v1 : Nat) (v2 : Nat) (v3 : Int32) (t0 : Int32) (h : Hp) : Option (Int32 × Hp) :=
  ob2 (F_X6_takeWord v1 (0 : UInt32) h) fun r12 h13 => gd (decide (kd h v1 = 6)) <| (if r12 = 0 then F_X0_readLine_b59 h13 else ob2 (F_X6_takeNumber v1 t0 (999 : Int32) h13) fun r16 h17 => gd (decide (kd h13 v1 = 6)) <| (if r16 = 0 then F_X0_readLine_b59 h17 else gd (decide (kd h17 v0 = 0)) <| ob (zR h17 v0 1) fun q20 => gd (decide (kd h17 v1 = 6)) <| gd (decide (kd h17 q20 = 13)) <| gd (ix v3 (zl h17 q20)) <| gd (decide (kd (setI h17 q20 (v3).toNatClampNeg (zI h17 v1 5)) v2 = 2)) <| ob2 (F_X6_takeNumber v1 (0 : Int32) ((zI (setI h17 q20 (v3).toNatClampNeg (zI h17 v1 5)) v2 5) - (1 : Int32)) (setI h17 q20 (v3).toNatClampNeg (zI h17 v1 5))) fun r27 h28 => (if r27 = 0 then some ((0 : Int32), h28) else gd (decide (kd h28 v0 = 0)) <| ob (zR h28 v0 2) fun q30 => gd (decide (kd h28 v1 = 6)) <| gd (decide (kd h28 q30 = 13)) <| gd (ix v3 (zl h28 q30)) <| ob2 (F_X6_takeWord v1 (1 : UInt32) (setI h28 q30 (v3).toNatClampNeg (zI h28 v1 5))) fun r36 h37 => (if r36 = 0 then F_X0_readLine_b120 h37 else gd (decide (kd h37 v2 = 2)) <| ob2 (F_X6_takeNumber v1 (0 : Int32) ((zI h37 v2 0) - (1 : Int32)) h37) fun r40 h41 => gd (decide (kd h37 v1 = 6)) <| (if r40 = 0 then F_X0_readLine_b120 h41 else gd (decide (kd h41 v0 = 0)) <| ob (zR h41 v0 3) fun q44 => gd (decide (kd h41 v1 = 6)) <| gd (decide (kd h41 q44 = 13)) <| gd (ix v3 (zl h41 q44)) <| some ((1 : Int32), setI h41 q44 (v3).toNatClampNeg (zI h41 v1 5)))))))
set_option maxHeartbeats 4000000 in
set_option maxRecDepth 100000 in
theorem r_X0_readLine_b36 (v0 : Nat) (v1 : Nat) (v2 : Nat) (v3 : Int32) (t0 : Int32) (h : Hp) {x : Cx} {r : Int32} {hz : Hp} (e : F_X0_readLine_b36 v0 v1 v2 v3 t0 h = some (r, hz)) (hF : Fin9 M_X0_readLine x (some .boolean) (some (.int r)) hz) : V M_X0_readLine x 6 36 [(0, .ref v0), (1, .ref v1), (2, .ref v2), (3, .int v3)] [.int t0] h 0 0 := by
  unfold F_X0_readLine_b36 at e
  refine V_istore (pc := 36) (i := 4) (lv' := [(4, .int t0), (0, .ref v0), (1, .ref v1), (2, .ref v2), (3, .int v3)]) dX0_readLine_36 (by decide) rfl ?_
  refine V_aload_n (pc := 38) (i := 1) dX0_readLine_38 rfl rfl ?_
  refine V_ldcS (pc := 39) (j := 0) (u := (0 : UInt32)) dX0_readLine_39 rfl (by decide) ?_
  obtain ⟨r12, h13, g11, e⟩ := ob2_some e
  obtain ⟨g14, e⟩ := gd_some e
  refine V_callV (pc := 41) (bc := 0) (bs := 0) (mc := 0) (ms := 0) (st := []) (As := [.float (0 : UInt32)]) (a := v1) (h' := h13) (r := some (.int r12)) dX0_readLine_41 ml_X0_39 (ci := 6) rfl (of_decide_eq_true g14) rfl rfl (Nat.le_of_ble_eq_true rfl) (d' := 5) (by decide) (c_X6_takeWord (l := x.2.1) v1 (0 : UInt32) h g11) ?_
  refine V_if_eq (pc := 44) (tgt := 59) dX0_readLine_44 (by decide) (fun c53 => ?_) (fun c53 => ?_)
  · rw [if_pos c53] at e
    exact V_pick [] rfl (r_X0_readLine_b59 h13 e hF)
  · rw [if_neg c53] at e
    refine V_pick [1, 2, 3, 4, 0] rfl ?_
    refine V_aload_n (pc := 47) (i := 1) dX0_readLine_47 rfl rfl ?_
    refine V_iload (pc := 48) (i := 4) dX0_readLine_48 rfl ?_
    refine V_sipush (pc := 50) (v := (999 : Int32)) dX0_readLine_50 (by decide) ?_
    obtain ⟨r16, h17, g15, e⟩ := ob2_some e
    obtain ⟨g18, e⟩ := gd_some e
    refine V_callV (pc := 53) (bc := 0) (bs := 0) (mc := 0) (ms := 0) (st := []) (As := [.int t0, .int (999 : Int32)]) (a := v1) (h' := h17) (r := some (.int r16)) dX0_readLine_53 ml_X0_43 (ci := 6) rfl (of_decide_eq_true g18) rfl rfl (Nat.le_of_ble_eq_true rfl) (d' := 2) (by decide) (c_X6_takeNumber (l := x.2.1) v1 t0 (999 : Int32) h13 g15) ?_
    refine V_if_ne (pc := 56) (tgt := 61) dX0_readLine_56 (by decide) (fun c52 => ?_) (fun c52 => ?_)
    · rw [if_neg c52] at e
      refine V_pick [0, 1, 2, 3] rfl ?_
      refine V_aload_n (pc := 61) (i := 0) dX0_readLine_61 rfl rfl ?_
      obtain ⟨g19, e⟩ := gd_some e
      obtain ⟨q20, g21, e⟩ := ob_some e
      refine V_getR (pc := 62) (ci := 0) (k := 1) (b := q20) dX0_readLine_62 fl_X0_9 rfl (of_decide_eq_true g19) g21 ?_
      refine V_iload_n (pc := 65) (i := 3) dX0_readLine_65 rfl rfl ?_
      refine V_aload_n (pc := 66) (i := 1) dX0_readLine_66 rfl rfl ?_
      obtain ⟨g22, e⟩ := gd_some e
      refine V_getI (pc := 67) (ci := 6) (k := 5) dX0_readLine_67 fl_X0_47 rfl (of_decide_eq_true g22) ?_
      obtain ⟨g23, e⟩ := gd_some e
      obtain ⟨g24, e⟩ := gd_some e
      refine V_iast (pc := 70) dX0_readLine_70 (of_decide_eq_true g23) (ix_in g24) ?_
      refine V_aload_n (pc := 71) (i := 1) dX0_readLine_71 rfl rfl ?_
      refine V_iconst (pc := 72) (v := (0 : Int32)) dX0_readLine_72 (by decide) ?_
      refine V_aload_n (pc := 73) (i := 2) dX0_readLine_73 rfl rfl ?_
      obtain ⟨g25, e⟩ := gd_some e
      refine V_getI (pc := 74) (ci := 2) (k := 5) dX0_readLine_74 fl_X0_50 rfl (of_decide_eq_true g25) ?_
      refine V_iconst (pc := 77) (v := (1 : Int32)) dX0_readLine_77 (by decide) ?_
      refine V_isub (pc := 78) dX0_readLine_78 ?_
      obtain ⟨r27, h28, g26, e⟩ := ob2_some e
      refine V_callV (pc := 79) (bc := 0) (bs := 0) (mc := 0) (ms := 0) (st := []) (As := [.int (0 : Int32), .int ((zI (setI h17 q20 (v3).toNatClampNeg (zI h17 v1 5)) v2 5) - (1 : Int32))]) (a := v1) (h' := h28) (r := some (.int r27)) dX0_readLine_79 ml_X0_43 (ci := 6) rfl (of_decide_eq_true g22) rfl rfl (Nat.le_of_ble_eq_true rfl) (d' := 2) (by decide) (c_X6_takeNumber (l := x.2.1) v1 (0 : Int32) ((zI (setI h17 q20 (v3).toNatClampNeg (zI h17 v1 5)) v2 5) - (1 : Int32)) (setI h17 q20 (v3).toNatClampNeg (zI h17 v1 5)) g26) ?_
      refine V_if_ne (pc := 82) (tgt := 87) dX0_readLine_82 (by decide) (fun c51 => ?_) (fun c51 => ?_)
      · rw [if_neg c51] at e
        refine V_pick [0, 1, 2, 3] rfl ?_
        refine V_aload_n (pc := 87) (i := 0) dX0_readLine_87 rfl rfl ?_
        obtain ⟨g29, e⟩ := gd_some e
        obtain ⟨q30, g31, e⟩ := ob_some e
        refine V_getR (pc := 88) (ci := 0) (k := 2) (b := q30) dX0_readLine_88 fl_X0_15 rfl (of_decide_eq_true g29) g31 ?_
        refine V_iload_n (pc := 91) (i := 3) dX0_readLine_91 rfl rfl ?_
        refine V_aload_n (pc := 92) (i := 1) dX0_readLine_92 rfl rfl ?_
        obtain ⟨g32, e⟩ := gd_some e
        refine V_getI (pc := 93) (ci := 6) (k := 5) dX0_readLine_93 fl_X0_47 rfl (of_decide_eq_true g32) ?_
        obtain ⟨g33, e⟩ := gd_some e
        obtain ⟨g34, e⟩ := gd_some e
        refine V_iast (pc := 96) dX0_readLine_96 (of_decide_eq_true g33) (ix_in g34) ?_
        refine V_aload_n (pc := 97) (i := 1) dX0_readLine_97 rfl rfl ?_
        refine V_ldcS (pc := 98) (j := 1) (u := (1 : UInt32)) dX0_readLine_98 rfl (by decide) ?_
        obtain ⟨r36, h37, g35, e⟩ := ob2_some e
        refine V_callV (pc := 100) (bc := 0) (bs := 0) (mc := 0) (ms := 0) (st := []) (As := [.float (1 : UInt32)]) (a := v1) (h' := h37) (r := some (.int r36)) dX0_readLine_100 ml_X0_39 (ci := 6) rfl (of_decide_eq_true g32) rfl rfl (Nat.le_of_ble_eq_true rfl) (d' := 5) (by decide) (c_X6_takeWord (l := x.2.1) v1 (1 : UInt32) (setI h28 q30 (v3).toNatClampNeg (zI h28 v1 5)) g35) ?_
        refine V_if_eq (pc := 103) (tgt := 120) dX0_readLine_103 (by decide) (fun c50 => ?_) (fun c50 => ?_)
        · rw [if_pos c50] at e
          exact V_pick [] rfl (r_X0_readLine_b120 h37 e hF)
        · rw [if_neg c50] at e
          refine V_pick [0, 1, 2, 3] rfl ?_
          refine V_aload_n (pc := 106) (i := 1) dX0_readLine_106 rfl rfl ?_
          refine V_iconst (pc := 107) (v := (0 : Int32)) dX0_readLine_107 (by decide) ?_
          refine V_aload_n (pc := 108) (i := 2) dX0_readLine_108 rfl rfl ?_
          obtain ⟨g38, e⟩ := gd_some e
          refine V_getI (pc := 109) (ci := 2) (k := 0) dX0_readLine_109 fl_X0_57 rfl (of_decide_eq_true g38) ?_
          refine V_iconst (pc := 112) (v := (1 : Int32)) dX0_readLine_112 (by decide) ?_
          refine V_isub (pc := 113) dX0_readLine_113 ?_
          obtain ⟨r40, h41, g39, e⟩ := ob2_some e
          obtain ⟨g42, e⟩ := gd_some e
          refine V_callV (pc := 114) (bc := 0) (bs := 0) (mc := 0) (ms := 0) (st := []) (As := [.int (0 : Int32), .int ((zI h37 v2 0) - (1 : Int32))]) (a := v1) (h' := h41) (r := some (.int r40)) dX0_readLine_114 ml_X0_43 (ci := 6) rfl (of_decide_eq_true g42) rfl rfl (Nat.le_of_ble_eq_true rfl) (d' := 2) (by decide) (c_X6_takeNumber (l := x.2.1) v1 (0 : Int32) ((zI h37 v2 0) - (1 : Int32)) h37 g39) ?_
          refine V_if_ne (pc := 117) (tgt := 122) dX0_readLine_117 (by decide) (fun c49 => ?_) (fun c49 => ?_)
          · rw [if_neg c49] at e
            refine V_pick [0, 1, 3] rfl ?_
            refine V_aload_n (pc := 122) (i := 0) dX0_readLine_122 rfl rfl ?_
            obtain ⟨g43, e⟩ := gd_some e
            obtain ⟨q44, g45, e⟩ := ob_some e
            refine V_getR (pc := 123) (ci := 0) (k := 3) (b := q44) dX0_readLine_123 fl_X0_18 rfl (of_decide_eq_true g43) g45 ?_
            refine V_iload_n (pc := 126) (i := 3) dX0_readLine_126 rfl rfl ?_
            refine V_aload_n (pc := 127) (i := 1) dX0_readLine_127 rfl rfl ?_
            obtain ⟨g46, e⟩ := gd_some e
            refine V_getI (pc := 128) (ci := 6) (k := 5) dX0_readLine_128 fl_X0_47 rfl (of_decide_eq_true g46) ?_
            obtain ⟨g47, e⟩ := gd_some e
            obtain ⟨g48, e⟩ := gd_some e
            refine V_iast (pc := 131) dX0_readLine_131 (of_decide_eq_true g47) (ix_in g48) ?_
            refine V_iconst (pc := 132) (v := (1 : Int32)) dX0_readLine_132 (by decide) ?_
            cases e
            exact V_zret (pc := 133) dX0_readLine_133 rfl hF
          · rw [if_pos c49] at e
            exact V_pick [] rfl (r_X0_readLine_b120 h41 e hF)
      · rw [if_pos c51] at e
        refine V_pick [] rfl ?_
        refine V_iconst (pc := 85) (v := (0 : Int32)) dX0_readLine_85 (by decide) ?_
        cases e
        exact V_zret (pc := 86) dX0_readLine_86 rfl hF
    · rw [if_pos c52] at e
      exact V_pick [] rfl (r_X0_readLine_b59 h17 e hF)
set_option maxRecDepth 100000 in
def F_X0_readLine_b0 (v0 : Nat) (v1 : Nat) (v2 : Nat) (h : Hp) : Option (Int32 × Hp) :=
  gd (decide (kd h v0 = 0)) <| (if (zI h v0 0) < 0 then F_X0_readLine_b15 v1 h else (if (zI h v0 0) < (20 : Int32) then (if (zI h v0 0) = 0 then F_X0_readLine_b36 v0 v1 v2 (zI h v0 0) (0 : Int32) h else ob (zR h v0 1) fun q7 => gd (decide (kd h q7 = 13)) <| gd (ix ((zI h v0 0) - (1 : Int32)) (zl h q7)) <| F_X0_readLine_b36 v0 v1 v2 (zI h v0 0) (zI h q7 ((zI h v0 0) - (1 : Int32)).toNatClampNeg) h) else F_X0_readLine_b15 v1 h))
set_option maxHeartbeats 4000000 in
set_option maxRecDepth 100000 in
theorem r_X0_readLine_b0 (v0 : Nat) (v1 : Nat) (v2 : Nat) (h : Hp) {x : Cx} {r : Int32} {hz : Hp} (e : F_X0_readLine_b0 v0 v1 v2 h = some (r, hz)) (hF : Fin9 M_X0_readLine x (some .boolean) (some (.int r)) hz) : V M_X0_readLine x 6 0 [(0, .ref v0), (1, .ref v1), (2, .ref v2)] [] h 0 0 := by
  unfold F_X0_readLine_b0 at e
  refine V_aload_n (pc := 0) (i := 0) dX0_readLine_0 rfl rfl ?_
  obtain ⟨g1, e⟩ := gd_some e
  refine V_getI (pc := 1) (ci := 0) (k := 0) dX0_readLine_1 fl_X0_21 rfl (of_decide_eq_true g1) ?_
  refine V_istore_n (pc := 4) (i := 3) (lv' := [(3, .int (zI h v0 0)), (0, .ref v0), (1, .ref v1), (2, .ref v2)]) dX0_readLine_4 rfl (by decide) rfl ?_
  refine V_iload_n (pc := 5) (i := 3) dX0_readLine_5 rfl rfl ?_
  refine V_if_lt (pc := 6) (tgt := 15) dX0_readLine_6 (by decide) (fun c56 => ?_) (fun c56 => ?_)
  · rw [if_pos c56] at e
    exact V_pick [2] rfl (r_X0_readLine_b15 v1 h e hF)
  · rw [if_neg c56] at e
    refine V_pick [1, 2, 3, 0] rfl ?_
    refine V_iload_n (pc := 9) (i := 3) dX0_readLine_9 rfl rfl ?_
    refine V_bipush (pc := 10) (v := (20 : Int32)) dX0_readLine_10 (by decide) ?_
    refine V_icmp_lt (pc := 12) (tgt := 20) dX0_readLine_12 (by decide) (fun c55 => ?_) (fun c55 => ?_)
    · rw [if_pos c55] at e
      refine V_pick [0, 1, 2, 3] rfl ?_
      refine V_iload_n (pc := 20) (i := 3) dX0_readLine_20 rfl rfl ?_
      refine V_if_ne (pc := 21) (tgt := 28) dX0_readLine_21 (by decide) (fun c54 => ?_) (fun c54 => ?_)
      · rw [if_neg c54] at e
        refine V_pick [0, 1, 2, 3] rfl ?_
        refine V_aload_n (pc := 28) (i := 0) dX0_readLine_28 rfl rfl ?_
        obtain ⟨q7, g8, e⟩ := ob_some e
        refine V_getR (pc := 29) (ci := 0) (k := 1) (b := q7) dX0_readLine_29 fl_X0_9 rfl (of_decide_eq_true g1) g8 ?_
        refine V_iload_n (pc := 32) (i := 3) dX0_readLine_32 rfl rfl ?_
        refine V_iconst (pc := 33) (v := (1 : Int32)) dX0_readLine_33 (by decide) ?_
        refine V_isub (pc := 34) dX0_readLine_34 ?_
        obtain ⟨g9, e⟩ := gd_some e
        obtain ⟨g10, e⟩ := gd_some e
        refine V_iald (pc := 35) dX0_readLine_35 (of_decide_eq_true g9) (ix_in g10) ?_
        exact V_pick [0, 1, 2, 3] rfl (r_X0_readLine_b36 v0 v1 v2 (zI h v0 0) (zI h q7 ((zI h v0 0) - (1 : Int32)).toNatClampNeg) h e hF)
      · rw [if_pos c54] at e
        refine V_pick [0, 1, 2, 3] rfl ?_
        refine V_iconst (pc := 24) (v := (0 : Int32)) dX0_readLine_24 (by decide) ?_
        refine V_goto (pc := 25) (tgt := 36) dX0_readLine_25 (by decide) ?_
        exact V_pick [0, 1, 2, 3] rfl (r_X0_readLine_b36 v0 v1 v2 (zI h v0 0) (0 : Int32) h e hF)
    · rw [if_neg c55] at e
      exact V_pick [1] rfl (r_X0_readLine_b15 v1 h e hF)
def F_X0_readLine (v0 : Nat) (v1 : Nat) (v2 : Nat) (h : Hp) : Option (Int32 × Hp) := F_X0_readLine_b0 v0 v1 v2 h
theorem c_X0_readLine {l : Launch} (v0 : Nat) (v1 : Nat) (v2 : Nat) (h : Hp) {r : Int32} {hz : Hp} (e : F_X0_readLine v0 v1 v2 h = some (r, hz)) : Ct l yX0_readLine M_X0_readLine (some .boolean) 6 [.ref v0, .ref v1, .ref v2] h 0 0 (some (.int r)) hz :=
  Ct_of rfl rfl (fun q => by cases q) (Nat.le_of_ble_eq_true rfl) (fun x _ hF => V_pick [0, 1, 2] rfl (r_X0_readLine_b0 v0 v1 v2 h e hF))

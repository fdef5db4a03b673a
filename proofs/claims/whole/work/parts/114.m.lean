theorem dX12_wake_0 : decode cX12_wake 0 = .ok (.aload_n 0, 1) := by decide +kernel
theorem dX12_wake_1 : decode cX12_wake 1 = .ok (.iconst 0, 1) := by decide +kernel
theorem dX12_wake_2 : decode cX12_wake 2 = .ok (.putfield 3, 3) := by decide +kernel
theorem dX12_wake_5 : decode cX12_wake 5 = .ok (.aload_n 0, 1) := by decide +kernel
theorem dX12_wake_6 : decode cX12_wake 6 = .ok (.invokevirtual 352, 3) := by decide +kernel
theorem dX12_wake_9 : decode cX12_wake 9 = .ok (.aload_n 0, 1) := by decide +kernel
theorem dX12_wake_10 : decode cX12_wake 10 = .ok (.invokevirtual 371, 3) := by decide +kernel
theorem dX12_wake_13 : decode cX12_wake 13 = .ok (.istore_n 2, 1) := by decide +kernel
theorem dX12_wake_14 : decode cX12_wake 14 = .ok (.iconst (-1), 1) := by decide +kernel
theorem dX12_wake_15 : decode cX12_wake 15 = .ok (.istore_n 3, 1) := by decide +kernel
theorem dX12_wake_16 : decode cX12_wake 16 = .ok (.bipush 6, 2) := by decide +kernel
theorem dX12_wake_18 : decode cX12_wake 18 = .ok (.istore 4, 2) := by decide +kernel
theorem dX12_wake_20 : decode cX12_wake 20 = .ok (.iconst 0, 1) := by decide +kernel
theorem dX12_wake_21 : decode cX12_wake 21 = .ok (.istore 5, 2) := by decide +kernel
theorem dX12_wake_23 : decode cX12_wake 23 = .ok (.iload 5, 2) := by decide +kernel
theorem dX12_wake_25 : decode cX12_wake 25 = .ok (.aload_n 0, 1) := by decide +kernel
theorem dX12_wake_26 : decode cX12_wake 26 = .ok (.invokevirtual 337, 3) := by decide +kernel
theorem dX12_wake_29 : decode cX12_wake 29 = .ok (.if_icmp .ge 93, 3) := by decide +kernel
theorem dX12_wake_32 : decode cX12_wake 32 = .ok (.aload_n 0, 1) := by decide +kernel
theorem dX12_wake_33 : decode cX12_wake 33 = .ok (.getfield 46, 3) := by decide +kernel
theorem dX12_wake_36 : decode cX12_wake 36 = .ok (.iload 5, 2) := by decide +kernel
theorem dX12_wake_38 : decode cX12_wake 38 = .ok (.baload, 1) := by decide +kernel
theorem dX12_wake_39 : decode cX12_wake 39 = .ok (.ifCond .ne 6, 3) := by decide +kernel
theorem dX12_wake_42 : decode cX12_wake 42 = .ok (.goto 74, 3) := by decide +kernel
theorem dX12_wake_45 : decode cX12_wake 45 = .ok (.aload_n 0, 1) := by decide +kernel
theorem dX12_wake_46 : decode cX12_wake 46 = .ok (.iload 5, 2) := by decide +kernel
theorem dX12_wake_48 : decode cX12_wake 48 = .ok (.invokevirtual 340, 3) := by decide +kernel
theorem dX12_wake_51 : decode cX12_wake 51 = .ok (.pop, 1) := by decide +kernel
theorem dX12_wake_52 : decode cX12_wake 52 = .ok (.iconst 0, 1) := by decide +kernel
theorem dX12_wake_53 : decode cX12_wake 53 = .ok (.istore 6, 2) := by decide +kernel
theorem dX12_wake_55 : decode cX12_wake 55 = .ok (.iconst 0, 1) := by decide +kernel
theorem dX12_wake_56 : decode cX12_wake 56 = .ok (.istore 7, 2) := by decide +kernel
theorem dX12_wake_58 : decode cX12_wake 58 = .ok (.iload 7, 2) := by decide +kernel
theorem dX12_wake_60 : decode cX12_wake 60 = .ok (.aload_n 0, 1) := by decide +kernel
theorem dX12_wake_61 : decode cX12_wake 61 = .ok (.invokevirtual 68, 3) := by decide +kernel
theorem dX12_wake_64 : decode cX12_wake 64 = .ok (.if_icmp .ge 35, 3) := by decide +kernel
theorem dX12_wake_67 : decode cX12_wake 67 = .ok (.iload 6, 2) := by decide +kernel
theorem dX12_wake_69 : decode cX12_wake 69 = .ok (.aload_n 0, 1) := by decide +kernel
theorem dX12_wake_70 : decode cX12_wake 70 = .ok (.getfield 36, 3) := by decide +kernel
theorem dX12_wake_73 : decode cX12_wake 73 = .ok (.iload 7, 2) := by decide +kernel
theorem dX12_wake_75 : decode cX12_wake 75 = .ok (.iaload, 1) := by decide +kernel
theorem dX12_wake_76 : decode cX12_wake 76 = .ok (.aload_n 0, 1) := by decide +kernel
theorem dX12_wake_77 : decode cX12_wake 77 = .ok (.iload 7, 2) := by decide +kernel
theorem dX12_wake_79 : decode cX12_wake 79 = .ok (.invokevirtual 247, 3) := by decide +kernel
theorem dX12_wake_82 : decode cX12_wake 82 = .ok (.if_icmp .eq 7, 3) := by decide +kernel
theorem dX12_wake_85 : decode cX12_wake 85 = .ok (.iconst 1, 1) := by decide +kernel
theorem dX12_wake_86 : decode cX12_wake 86 = .ok (.goto 4, 3) := by decide +kernel
theorem dX12_wake_89 : decode cX12_wake 89 = .ok (.iconst 0, 1) := by decide +kernel
theorem dX12_wake_90 : decode cX12_wake 90 = .ok (.iadd, 1) := by decide +kernel
theorem dX12_wake_91 : decode cX12_wake 91 = .ok (.istore 6, 2) := by decide +kernel
theorem dX12_wake_93 : decode cX12_wake 93 = .ok (.iinc 7 1, 3) := by decide +kernel
theorem dX12_wake_96 : decode cX12_wake 96 = .ok (.goto (-38), 3) := by decide +kernel
theorem dX12_wake_99 : decode cX12_wake 99 = .ok (.iload 6, 2) := by decide +kernel
theorem dX12_wake_101 : decode cX12_wake 101 = .ok (.iload 4, 2) := by decide +kernel
theorem dX12_wake_103 : decode cX12_wake 103 = .ok (.if_icmp .lt 6, 3) := by decide +kernel
theorem dX12_wake_106 : decode cX12_wake 106 = .ok (.goto 10, 3) := by decide +kernel
theorem dX12_wake_109 : decode cX12_wake 109 = .ok (.iload 6, 2) := by decide +kernel
theorem dX12_wake_111 : decode cX12_wake 111 = .ok (.istore 4, 2) := by decide +kernel
theorem dX12_wake_113 : decode cX12_wake 113 = .ok (.iload 5, 2) := by decide +kernel
theorem dX12_wake_115 : decode cX12_wake 115 = .ok (.istore_n 3, 1) := by decide +kernel
theorem dX12_wake_116 : decode cX12_wake 116 = .ok (.iinc 5 1, 3) := by decide +kernel
theorem dX12_wake_119 : decode cX12_wake 119 = .ok (.goto (-96), 3) := by decide +kernel
theorem dX12_wake_122 : decode cX12_wake 122 = .ok (.iload_n 3, 1) := by decide +kernel
theorem dX12_wake_123 : decode cX12_wake 123 = .ok (.ifCond .ge 7, 3) := by decide +kernel
theorem dX12_wake_126 : decode cX12_wake 126 = .ok (.iconst (-1), 1) := by decide +kernel
theorem dX12_wake_127 : decode cX12_wake 127 = .ok (.goto 17, 3) := by decide +kernel
theorem dX12_wake_130 : decode cX12_wake 130 = .ok (.iload_n 1, 1) := by decide +kernel
theorem dX12_wake_131 : decode cX12_wake 131 = .ok (.ifCond .eq 11, 3) := by decide +kernel
theorem dX12_wake_134 : decode cX12_wake 134 = .ok (.aload_n 0, 1) := by decide +kernel
theorem dX12_wake_135 : decode cX12_wake 135 = .ok (.iload_n 3, 1) := by decide +kernel
theorem dX12_wake_136 : decode cX12_wake 136 = .ok (.invokevirtual 358, 3) := by decide +kernel
theorem dX12_wake_139 : decode cX12_wake 139 = .ok (.goto 5, 3) := by decide +kernel
theorem dX12_wake_142 : decode cX12_wake 142 = .ok (.iload 4, 2) := by decide +kernel
theorem dX12_wake_144 : decode cX12_wake 144 = .ok (.ireturn, 1) := by decide +kernel
set_option maxRecDepth 100000 in
def F_X12_wake_b90 (v0 : Nat) (v1 : Int32) (v3 : Int32) (v4 : Int32) (v5 : Int32) (v7 : Int32) (t0 : Int32) (t1 : Int32) (h : Hp) : Option ((Int32 × Int32) ⊕ Int32) :=
  some (.inl (t0 + t1, v7 + (1 : Int32)))
set_option maxHeartbeats 4000000 in
set_option maxRecDepth 100000 in
theorem r_X12_wake_b90 (v0 : Nat) (v1 : Int32) (v3 : Int32) (v4 : Int32) (v5 : Int32) (v7 : Int32) (t0 : Int32) (t1 : Int32) (h : Hp) {x : Cx} {o : ((Int32 × Int32) ⊕ Int32)} (e : F_X12_wake_b90 v0 v1 v3 v4 v5 v7 t0 t1 h = some o) (kI : ∀ z, o = .inl z → V M_X12_wake x 7 58 [(0, .ref v0), (1, .int v1), (3, .int v3), (4, .int v4), (5, .int v5), (6, .int z.1), (7, .int z.2)] [] h 0 0) (kE99 : ∀ z : Int32, o = .inr z → V M_X12_wake x 7 99 [(0, .ref v0), (1, .int v1), (3, .int v3), (4, .int v4), (5, .int v5), (6, .int z)] [] h 0 0) : V M_X12_wake x 7 90 [(0, .ref v0), (1, .int v1), (3, .int v3), (4, .int v4), (5, .int v5), (7, .int v7)] [.int t1, .int t0] h 0 0 := by
  unfold F_X12_wake_b90 at e
  refine V_iadd (pc := 90) dX12_wake_90 ?_
  refine V_istore (pc := 91) (i := 6) (lv' := [(6, .int (t0 + t1)), (0, .ref v0), (1, .int v1), (3, .int v3), (4, .int v4), (5, .int v5), (7, .int v7)]) dX12_wake_91 (by decide) rfl ?_
  refine V_iinc (pc := 93) (i := 7) (u := v7 + (1 : Int32)) (lv' := [(7, .int (v7 + (1 : Int32))), (6, .int (t0 + t1)), (0, .ref v0), (1, .int v1), (3, .int v3), (4, .int v4), (5, .int v5)]) dX12_wake_93 rfl rfl (by decide) rfl ?_
  refine V_goto (pc := 96) (tgt := 58) dX12_wake_96 (by decide) ?_
  cases e
  exact V_pick [2, 3, 4, 5, 6, 1, 0] rfl (kI (t0 + t1, v7 + (1 : Int32)) rfl)
set_option maxRecDepth 100000 in
def F_X12_wake_l58 (v0 : Nat) (v1 : Int32) (v3 : Int32) (v4 : Int32) (v5 : Int32) (v6 : Int32) (v7 : Int32) (h : Hp) : Option ((Int32 × Int32) ⊕ Int32) :=
  ob (F_X12_guests v0 h) fun r20 => gd (decide (kd h v0 = 11)) <| (if r20 ≤ v7 then some (.inr v6) else ob (zR h v0 15) fun q22 => gd (decide (kd h q22 = 13)) <| gd (ix v7 (zl h q22)) <| ob (F_X12_roomOf v0 v7 h) fun r27 => (if (zI h q22 (v7).toNatClampNeg) = r27 then F_X12_wake_b90 v0 v1 v3 v4 v5 v7 v6 (0 : Int32) h else F_X12_wake_b90 v0 v1 v3 v4 v5 v7 v6 (1 : Int32) h))
set_option maxHeartbeats 4000000 in
set_option maxRecDepth 100000 in
theorem r_X12_wake_l58 (v0 : Nat) (v1 : Int32) (v3 : Int32) (v4 : Int32) (v5 : Int32) (v6 : Int32) (v7 : Int32) (h : Hp) {x : Cx} {o : ((Int32 × Int32) ⊕ Int32)} (e : F_X12_wake_l58 v0 v1 v3 v4 v5 v6 v7 h = some o) (kI : ∀ z, o = .inl z → V M_X12_wake x 7 58 [(0, .ref v0), (1, .int v1), (3, .int v3), (4, .int v4), (5, .int v5), (6, .int z.1), (7, .int z.2)] [] h 0 0) (kE99 : ∀ z : Int32, o = .inr z → V M_X12_wake x 7 99 [(0, .ref v0), (1, .int v1), (3, .int v3), (4, .int v4), (5, .int v5), (6, .int z)] [] h 0 0) : V M_X12_wake x 7 58 [(0, .ref v0), (1, .int v1), (3, .int v3), (4, .int v4), (5, .int v5), (6, .int v6), (7, .int v7)] [] h 0 0 := by
  unfold F_X12_wake_l58 at e
  refine V_iload (pc := 58) (i := 7) dX12_wake_58 rfl ?_
  refine V_aload_n (pc := 60) (i := 0) dX12_wake_60 rfl rfl ?_
  obtain ⟨r20, g19, e⟩ := ob_some e
  obtain ⟨g21, e⟩ := gd_some e
  refine V_callV (pc := 61) (bc := 0) (bs := 0) (mc := 0) (ms := 0) (st := [.int v7]) (As := []) (a := v0) (h' := h) (r := some (.int r20)) dX12_wake_61 ml_X12_68 (ci := 11) rfl (of_decide_eq_true g21) rfl rfl (Nat.le_of_ble_eq_true rfl) (d' := 0) (by decide) (c_X12_guests (l := x.2.1) v0 h g19) ?_
  refine V_icmp_ge (pc := 64) (tgt := 99) dX12_wake_64 (by decide) (fun c29 => ?_) (fun c29 => ?_)
  · rw [if_pos c29] at e
    cases e
    exact V_pick [0, 1, 2, 3, 4, 5] rfl (kE99 v6 rfl)
  · rw [if_neg c29] at e
    refine V_pick [0, 1, 2, 3, 4, 5, 6] rfl ?_
    refine V_iload (pc := 67) (i := 6) dX12_wake_67 rfl ?_
    refine V_aload_n (pc := 69) (i := 0) dX12_wake_69 rfl rfl ?_
    obtain ⟨q22, g23, e⟩ := ob_some e
    refine V_getR (pc := 70) (ci := 11) (k := 15) (b := q22) dX12_wake_70 fl_X12_36 rfl (of_decide_eq_true g21) g23 ?_
    refine V_iload (pc := 73) (i := 7) dX12_wake_73 rfl ?_
    obtain ⟨g24, e⟩ := gd_some e
    obtain ⟨g25, e⟩ := gd_some e
    refine V_iald (pc := 75) dX12_wake_75 (of_decide_eq_true g24) (ix_in g25) ?_
    refine V_aload_n (pc := 76) (i := 0) dX12_wake_76 rfl rfl ?_
    refine V_iload (pc := 77) (i := 7) dX12_wake_77 rfl ?_
    obtain ⟨r27, g26, e⟩ := ob_some e
    refine V_callV (pc := 79) (bc := 0) (bs := 0) (mc := 0) (ms := 0) (st := [.int (zI h q22 (v7).toNatClampNeg), .int v6]) (As := [.int v7]) (a := v0) (h' := h) (r := some (.int r27)) dX12_wake_79 ml_X12_247 (ci := 11) rfl (of_decide_eq_true g21) rfl rfl (Nat.le_of_ble_eq_true rfl) (d' := 0) (by decide) (c_X12_roomOf (l := x.2.1) v0 v7 h g26) ?_
    refine V_icmp_eq (pc := 82) (tgt := 89) dX12_wake_82 (by decide) (fun c28 => ?_) (fun c28 => ?_)
    · rw [if_pos c28] at e
      refine V_pick [0, 1, 2, 3, 4, 6] rfl ?_
      refine V_iconst (pc := 89) (v := (0 : Int32)) dX12_wake_89 (by decide) ?_
      exact V_pick [0, 1, 2, 3, 4, 5] rfl (r_X12_wake_b90 v0 v1 v3 v4 v5 v7 v6 (0 : Int32) h e kI kE99)
    · rw [if_neg c28] at e
      refine V_pick [0, 1, 2, 3, 4, 6] rfl ?_
      refine V_iconst (pc := 85) (v := (1 : Int32)) dX12_wake_85 (by decide) ?_
      refine V_goto (pc := 86) (tgt := 90) dX12_wake_86 (by decide) ?_
      exact V_pick [0, 1, 2, 3, 4, 5] rfl (r_X12_wake_b90 v0 v1 v3 v4 v5 v7 v6 (1 : Int32) h e kI kE99)
set_option maxRecDepth 100000 in
def F_X12_wake_b116 (v0 : Nat) (v1 : Int32) (v3 : Int32) (v4 : Int32) (v5 : Int32) (h : Hp) : Option ((Int32 × Int32 × Int32 × Hp) ⊕ (Int32 × Int32 × Hp)) :=
  some (.inl (v3, v4, v5 + (1 : Int32), h))
set_option maxHeartbeats 4000000 in
set_option maxRecDepth 100000 in
theorem r_X12_wake_b116 (v0 : Nat) (v1 : Int32) (v3 : Int32) (v4 : Int32) (v5 : Int32) (h : Hp) {x : Cx} {o : ((Int32 × Int32 × Int32 × Hp) ⊕ (Int32 × Int32 × Hp))} (e : F_X12_wake_b116 v0 v1 v3 v4 v5 h = some o) (kI : ∀ z, o = .inl z → V M_X12_wake x 7 23 [(0, .ref v0), (1, .int v1), (3, .int z.1), (4, .int z.2.1), (5, .int z.2.2.1)] [] z.2.2.2 0 0) (kE122 : ∀ z : Int32 × Int32 × Hp, o = .inr z → V M_X12_wake x 7 122 [(0, .ref v0), (1, .int v1), (3, .int z.1), (4, .int z.2.1)] [] z.2.2 0 0) : V M_X12_wake x 7 116 [(0, .ref v0), (1, .int v1), (3, .int v3), (4, .int v4), (5, .int v5)] [] h 0 0 := by
  unfold F_X12_wake_b116 at e
  refine V_iinc (pc := 116) (i := 5) (u := v5 + (1 : Int32)) (lv' := [(5, .int (v5 + (1 : Int32))), (0, .ref v0), (1, .int v1), (3, .int v3), (4, .int v4)]) dX12_wake_116 rfl rfl (by decide) rfl ?_
  refine V_goto (pc := 119) (tgt := 23) dX12_wake_119 (by decide) ?_
  cases e
  exact V_pick [1, 2, 3, 4, 0] rfl (kI (v3, v4, v5 + (1 : Int32), h) rfl)
set_option maxRecDepth 100000 in
def F_X12_wake_l23 (v0 : Nat) (v1 : Int32) (v3 : Int32) (v4 : Int32) (v5 : Int32) (h : Hp) : Option ((Int32 × Int32 × Int32 × Hp) ⊕ (Int32 × Int32 × Hp)) :=
  ob (F_X12_many v0 h) fun r10 => gd (decide (kd h v0 = 11)) <| (if r10 ≤ v5 then some (.inr (v3, v4, h)) else ob (zR h v0 20) fun q12 => gd (decide (kd h q12 = 14)) <| gd (ix v5 (zl h q12)) <| (if (zI h q12 (v5).toNatClampNeg) = 0 then F_X12_wake_b116 v0 v1 v3 v4 v5 h else ob2 (F_X12_opens v0 v5 h) fun r17 h18 => ob (iter (fun z : Int32 × Int32 => F_X12_wake_l58 v0 v1 v3 v4 v5 z.1 z.2 h18) FU ((0 : Int32), (0 : Int32))) (fun w30 => (if w30 < v4 then F_X12_wake_b116 v0 v1 v5 w30 v5 h18 else F_X12_wake_b116 v0 v1 v3 v4 v5 h18))))
set_option maxHeartbeats 4000000 in
set_option maxRecDepth 100000 in
theorem r_X12_wake_l23 (v0 : Nat) (v1 : Int32) (v3 : Int32) (v4 : Int32) (v5 : Int32) (h : Hp) {x : Cx} {o : ((Int32 × Int32 × Int32 × Hp) ⊕ (Int32 × Int32 × Hp))} (e : F_X12_wake_l23 v0 v1 v3 v4 v5 h = some o) (kI : ∀ z, o = .inl z → V M_X12_wake x 7 23 [(0, .ref v0), (1, .int v1), (3, .int z.1), (4, .int z.2.1), (5, .int z.2.2.1)] [] z.2.2.2 0 0) (kE122 : ∀ z : Int32 × Int32 × Hp, o = .inr z → V M_X12_wake x 7 122 [(0, .ref v0), (1, .int v1), (3, .int z.1), (4, .int z.2.1)] [] z.2.2 0 0) : V M_X12_wake x 7 23 [(0, .ref v0), (1, .int v1), (3, .int v3), (4, .int v4), (5, .int v5)] [] h 0 0 := by
  unfold F_X12_wake_l23 at e
  refine V_iload (pc := 23) (i := 5) dX12_wake_23 rfl ?_
  refine V_aload_n (pc := 25) (i := 0) dX12_wake_25 rfl rfl ?_
  obtain ⟨r10, g9, e⟩ := ob_some e
  obtain ⟨g11, e⟩ := gd_some e
  refine V_callV (pc := 26) (bc := 0) (bs := 0) (mc := 0) (ms := 0) (st := [.int v5]) (As := []) (a := v0) (h' := h) (r := some (.int r10)) dX12_wake_26 ml_X12_337 (ci := 11) rfl (of_decide_eq_true g11) rfl rfl (Nat.le_of_ble_eq_true rfl) (d' := 1) (by decide) (c_X12_many (l := x.2.1) v0 h g9) ?_
  refine V_icmp_ge (pc := 29) (tgt := 122) dX12_wake_29 (by decide) (fun c35 => ?_) (fun c35 => ?_)
  · rw [if_pos c35] at e
    cases e
    exact V_pick [0, 1, 2, 3] rfl (kE122 (v3, v4, h) rfl)
  · rw [if_neg c35] at e
    refine V_pick [0, 1, 2, 3, 4] rfl ?_
    refine V_aload_n (pc := 32) (i := 0) dX12_wake_32 rfl rfl ?_
    obtain ⟨q12, g13, e⟩ := ob_some e
    refine V_getR (pc := 33) (ci := 11) (k := 20) (b := q12) dX12_wake_33 fl_X12_46 rfl (of_decide_eq_true g11) g13 ?_
    refine V_iload (pc := 36) (i := 5) dX12_wake_36 rfl ?_
    obtain ⟨g14, e⟩ := gd_some e
    obtain ⟨g15, e⟩ := gd_some e
    refine V_zald (pc := 38) dX12_wake_38 (of_decide_eq_true g14) (ix_in g15) ?_
    refine V_if_ne (pc := 39) (tgt := 45) dX12_wake_39 (by decide) (fun c34 => ?_) (fun c34 => ?_)
    · rw [if_neg c34] at e
      refine V_pick [0, 1, 2, 3, 4] rfl ?_
      refine V_aload_n (pc := 45) (i := 0) dX12_wake_45 rfl rfl ?_
      refine V_iload (pc := 46) (i := 5) dX12_wake_46 rfl ?_
      obtain ⟨r17, h18, g16, e⟩ := ob2_some e
      refine V_callV (pc := 48) (bc := 0) (bs := 0) (mc := 0) (ms := 0) (st := []) (As := [.int v5]) (a := v0) (h' := h18) (r := some (.int r17)) dX12_wake_48 ml_X12_340 (ci := 11) rfl (of_decide_eq_true g11) rfl rfl (Nat.le_of_ble_eq_true rfl) (d' := 3) (by decide) (c_X12_opens (l := x.2.1) v0 v5 h g16) ?_
      refine V_pop (pc := 51) dX12_wake_51 rfl ?_
      refine V_iconst (pc := 52) (v := (0 : Int32)) dX12_wake_52 (by decide) ?_
      refine V_istore (pc := 53) (i := 6) (lv' := [(6, .int (0 : Int32)), (0, .ref v0), (1, .int v1), (3, .int v3), (4, .int v4), (5, .int v5)]) dX12_wake_53 (by decide) rfl ?_
      refine V_iconst (pc := 55) (v := (0 : Int32)) dX12_wake_55 (by decide) ?_
      refine V_istore (pc := 56) (i := 7) (lv' := [(7, .int (0 : Int32)), (6, .int (0 : Int32)), (0, .ref v0), (1, .int v1), (3, .int v3), (4, .int v4), (5, .int v5)]) dX12_wake_56 (by decide) rfl ?_
      refine V_pick [2, 3, 4, 5, 6, 1, 0] rfl ?_
      obtain ⟨y32, g33, e⟩ := ob_some e
      refine iter_V (P := fun z : Int32 × Int32 => V M_X12_wake x 7 58 [(0, .ref v0), (1, .int v1), (3, .int v3), (4, .int v4), (5, .int v5), (6, .int z.1), (7, .int z.2)] [] h18 0 0) (E := fun z : Int32 => V M_X12_wake x 7 99 [(0, .ref v0), (1, .int v1), (3, .int v3), (4, .int v4), (5, .int v5), (6, .int z)] [] h18 0 0) (fun z o e9 k1 k2 => r_X12_wake_l58 v0 v1 v3 v4 v5 z.1 z.2 h18 e9 (fun z hz9 => k1 z hz9) (fun z hz9 => k2 _ hz9)) _ _ _ g33 ?_
      clear g33
      obtain ⟨w30, rfl⟩ : ∃ q, q = y32 := ⟨_, rfl⟩
      replace e : ((if w30 < v4 then F_X12_wake_b116 v0 v1 v5 w30 v5 h18 else F_X12_wake_b116 v0 v1 v3 v4 v5 h18)) = some o := e
      show V M_X12_wake x 7 99 [(0, .ref v0), (1, .int v1), (3, .int v3), (4, .int v4), (5, .int v5), (6, .int w30)] [] h18 0 0
      refine V_iload (pc := 99) (i := 6) dX12_wake_99 rfl ?_
      refine V_iload (pc := 101) (i := 4) dX12_wake_101 rfl ?_
      refine V_icmp_lt (pc := 103) (tgt := 109) dX12_wake_103 (by decide) (fun c31 => ?_) (fun c31 => ?_)
      · rw [if_pos c31] at e
        refine V_pick [0, 1, 4, 5] rfl ?_
        refine V_iload (pc := 109) (i := 6) dX12_wake_109 rfl ?_
        refine V_istore (pc := 111) (i := 4) (lv' := [(4, .int w30), (0, .ref v0), (1, .int v1), (5, .int v5), (6, .int w30)]) dX12_wake_111 (by decide) rfl ?_
        refine V_iload (pc := 113) (i := 5) dX12_wake_113 rfl ?_
        refine V_istore_n (pc := 115) (i := 3) (lv' := [(3, .int v5), (4, .int w30), (0, .ref v0), (1, .int v1), (5, .int v5), (6, .int w30)]) dX12_wake_115 rfl (by decide) rfl ?_
        exact V_pick [2, 3, 0, 1, 4] rfl (r_X12_wake_b116 v0 v1 v5 w30 v5 h18 e kI kE122)
      · rw [if_neg c31] at e
        refine V_pick [0, 1, 2, 3, 4] rfl ?_
        refine V_goto (pc := 106) (tgt := 116) dX12_wake_106 (by decide) ?_
        exact V_pick [0, 1, 2, 3, 4] rfl (r_X12_wake_b116 v0 v1 v3 v4 v5 h18 e kI kE122)
    · rw [if_pos c34] at e
      refine V_pick [0, 1, 2, 3, 4] rfl ?_
      refine V_goto (pc := 42) (tgt := 116) dX12_wake_42 (by decide) ?_
      exact V_pick [0, 1, 2, 3, 4] rfl (r_X12_wake_b116 v0 v1 v3 v4 v5 h e kI kE122)
set_option maxRecDepth 100000 in
def F_X12_wake_b144 (t0 : Int32) (h : Hp) : Option (Int32 × Hp) :=
  some (t0, h)
set_option maxHeartbeats 4000000 in
set_option maxRecDepth 100000 in
theorem r_X12_wake_b144 (t0 : Int32) (h : Hp) {x : Cx} {r : Int32} {hz : Hp} (e : F_X12_wake_b144 t0 h = some (r, hz)) (hF : Fin9 M_X12_wake x (some .int) (some (.int r)) hz) : V M_X12_wake x 7 144 [] [.int t0] h 0 0 := by
  unfold F_X12_wake_b144 at e
  cases e
  exact V_iret (pc := 144) dX12_wake_144 hF
set_option maxRecDepth 100000 in
def F_X12_wake_b0 (v0 : Nat) (v1 : Int32) (h : Hp) : Option (Int32 × Hp) :=
  gd (decide (kd h v0 = 11)) <| ob2 (F_X12_laysAll v0 (setI h v0 0 (0 : Int32))) fun _ h4 => ob2 (F_X12_now v0 h4) fun r6 h7 => gd (decide (kd h4 v0 = 11)) <| ob (iter (fun z : Int32 × Int32 × Int32 × Hp => F_X12_wake_l23 v0 v1 z.1 z.2.1 z.2.2.1 z.2.2.2) FU ((-1 : Int32), (6 : Int32), (0 : Int32), h7)) (fun z => un3 z fun w36 w37 h38 => (if 0 ≤ w36 then (if v1 = 0 then F_X12_wake_b144 w37 h38 else ob2 (F_X12_numberOf v0 w36 h38) fun r40 h41 => gd (decide (kd h38 v0 = 11)) <| F_X12_wake_b144 r40 h41) else F_X12_wake_b144 (-1 : Int32) h38))
set_option maxHeartbeats 4000000 in
set_option maxRecDepth 100000 in
theorem r_X12_wake_b0 (v0 : Nat) (v1 : Int32) (h : Hp) {x : Cx} {r : Int32} {hz : Hp} (e : F_X12_wake_b0 v0 v1 h = some (r, hz)) (hF : Fin9 M_X12_wake x (some .int) (some (.int r)) hz) : V M_X12_wake x 7 0 [(0, .ref v0), (1, .int v1)] [] h 0 0 := by
  unfold F_X12_wake_b0 at e
  refine V_aload_n (pc := 0) (i := 0) dX12_wake_0 rfl rfl ?_
  refine V_iconst (pc := 1) (v := (0 : Int32)) dX12_wake_1 (by decide) ?_
  obtain ⟨g1, e⟩ := gd_some e
  refine V_putI (pc := 2) (ci := 11) (k := 0) dX12_wake_2 fp_X12_3 rfl (of_decide_eq_true g1) ?_
  refine V_aload_n (pc := 5) (i := 0) dX12_wake_5 rfl rfl ?_
  obtain ⟨r3, h4, g2, e⟩ := ob2_some e
  refine V_callV (pc := 6) (bc := 0) (bs := 0) (mc := 0) (ms := 0) (st := []) (As := []) (a := v0) (h' := h4) (r := none) dX12_wake_6 ml_X12_352 (ci := 11) rfl (kd_sI (of_decide_eq_true g1)) rfl rfl (Nat.le_of_ble_eq_true rfl) (d' := 6) (by decide) (c_X12_laysAll (l := x.2.1) v0 (setI h v0 0 (0 : Int32)) g2) ?_
  refine V_aload_n (pc := 9) (i := 0) dX12_wake_9 rfl rfl ?_
  obtain ⟨r6, h7, g5, e⟩ := ob2_some e
  obtain ⟨g8, e⟩ := gd_some e
  refine V_callV (pc := 10) (bc := 0) (bs := 0) (mc := 0) (ms := 0) (st := []) (As := []) (a := v0) (h' := h7) (r := some (.int r6)) dX12_wake_10 ml_X12_371 (ci := 11) rfl (of_decide_eq_true g8) rfl rfl (Nat.le_of_ble_eq_true rfl) (d' := 2) (by decide) (c_X12_now (l := x.2.1) v0 h4 g5) ?_
  refine V_istore_n (pc := 13) (i := 2) (lv' := [(2, .int r6), (0, .ref v0), (1, .int v1)]) dX12_wake_13 rfl (by decide) rfl ?_
  refine V_iconst (pc := 14) (v := (-1 : Int32)) dX12_wake_14 (by decide) ?_
  refine V_istore_n (pc := 15) (i := 3) (lv' := [(3, .int (-1 : Int32)), (2, .int r6), (0, .ref v0), (1, .int v1)]) dX12_wake_15 rfl (by decide) rfl ?_
  refine V_bipush (pc := 16) (v := (6 : Int32)) dX12_wake_16 (by decide) ?_
  refine V_istore (pc := 18) (i := 4) (lv' := [(4, .int (6 : Int32)), (3, .int (-1 : Int32)), (2, .int r6), (0, .ref v0), (1, .int v1)]) dX12_wake_18 (by decide) rfl ?_
  refine V_iconst (pc := 20) (v := (0 : Int32)) dX12_wake_20 (by decide) ?_
  refine V_istore (pc := 21) (i := 5) (lv' := [(5, .int (0 : Int32)), (4, .int (6 : Int32)), (3, .int (-1 : Int32)), (2, .int r6), (0, .ref v0), (1, .int v1)]) dX12_wake_21 (by decide) rfl ?_
  refine V_pick [4, 5, 2, 1, 0] rfl ?_
  obtain ⟨y45, g46, e⟩ := ob_some e
  refine iter_V (P := fun z : Int32 × Int32 × Int32 × Hp => V M_X12_wake x 7 23 [(0, .ref v0), (1, .int v1), (3, .int z.1), (4, .int z.2.1), (5, .int z.2.2.1)] [] z.2.2.2 0 0) (E := fun z : Int32 × Int32 × Hp => V M_X12_wake x 7 122 [(0, .ref v0), (1, .int v1), (3, .int z.1), (4, .int z.2.1)] [] z.2.2 0 0) (fun z o e9 k1 k2 => r_X12_wake_l23 v0 v1 z.1 z.2.1 z.2.2.1 z.2.2.2 e9 (fun z hz9 => k1 z hz9) (fun z hz9 => k2 _ hz9)) _ _ _ g46 ?_
  clear g46
  obtain ⟨w36, w37, h38⟩ := y45
  replace e : ((if 0 ≤ w36 then (if v1 = 0 then F_X12_wake_b144 w37 h38 else ob2 (F_X12_numberOf v0 w36 h38) fun r40 h41 => gd (decide (kd h38 v0 = 11)) <| F_X12_wake_b144 r40 h41) else F_X12_wake_b144 (-1 : Int32) h38)) = some (r, hz) := e
  show V M_X12_wake x 7 122 [(0, .ref v0), (1, .int v1), (3, .int w36), (4, .int w37)] [] h38 0 0
  refine V_iload_n (pc := 122) (i := 3) dX12_wake_122 rfl rfl ?_
  refine V_if_ge (pc := 123) (tgt := 130) dX12_wake_123 (by decide) (fun c44 => ?_) (fun c44 => ?_)
  · rw [if_pos c44] at e
    refine V_pick [0, 1, 2, 3] rfl ?_
    refine V_iload_n (pc := 130) (i := 1) dX12_wake_130 rfl rfl ?_
    refine V_if_eq (pc := 131) (tgt := 142) dX12_wake_131 (by decide) (fun c43 => ?_) (fun c43 => ?_)
    · rw [if_pos c43] at e
      refine V_pick [3] rfl ?_
      refine V_iload (pc := 142) (i := 4) dX12_wake_142 rfl ?_
      exact V_pick [] rfl (r_X12_wake_b144 w37 h38 e hF)
    · rw [if_neg c43] at e
      refine V_pick [0, 2] rfl ?_
      refine V_aload_n (pc := 134) (i := 0) dX12_wake_134 rfl rfl ?_
      refine V_iload_n (pc := 135) (i := 3) dX12_wake_135 rfl rfl ?_
      obtain ⟨r40, h41, g39, e⟩ := ob2_some e
      obtain ⟨g42, e⟩ := gd_some e
      refine V_callV (pc := 136) (bc := 0) (bs := 0) (mc := 0) (ms := 0) (st := []) (As := [.int w36]) (a := v0) (h' := h41) (r := some (.int r40)) dX12_wake_136 ml_X12_358 (ci := 11) rfl (of_decide_eq_true g42) rfl rfl (Nat.le_of_ble_eq_true rfl) (d' := 4) (by decide) (c_X12_numberOf (l := x.2.1) v0 w36 h38 g39) ?_
      refine V_goto (pc := 139) (tgt := 144) dX12_wake_139 (by decide) ?_
      exact V_pick [] rfl (r_X12_wake_b144 r40 h41 e hF)
  · rw [if_neg c44] at e
    refine V_pick [] rfl ?_
    refine V_iconst (pc := 126) (v := (-1 : Int32)) dX12_wake_126 (by decide) ?_
    refine V_goto (pc := 127) (tgt := 144) dX12_wake_127 (by decide) ?_
    exact V_pick [] rfl (r_X12_wake_b144 (-1 : Int32) h38 e hF)
def F_X12_wake (v0 : Nat) (v1 : Int32) (h : Hp) : Option (Int32 × Hp) := F_X12_wake_b0 v0 v1 h
theorem c_X12_wake {l : Launch} (v0 : Nat) (v1 : Int32) (h : Hp) {r : Int32} {hz : Hp} (e : F_X12_wake v0 v1 h = some (r, hz)) : Ct l yX12_wake M_X12_wake (some .int) 7 [.ref v0, .int v1] h 0 0 (some (.int r)) hz :=
  Ct_of rfl rfl (fun q => by cases q) (Nat.le_of_ble_eq_true rfl) (fun x _ hF => V_pick [0, 1] rfl (r_X12_wake_b0 v0 v1 h e hF))
theorem dX12_isRead_0 : decode cX12_isRead 0 = .ok (.aload_n 0, 1) := by decide +kernel
theorem dX12_isRead_1 : decode cX12_isRead 1 = .ok (.iload_n 1, 1) := by decide +kernel
theorem dX12_isRead_2 : decode cX12_isRead 2 = .ok (.invokevirtual 340, 3) := by decide +kernel
theorem dX12_isRead_5 : decode cX12_isRead 5 = .ok (.ifCond .eq 49, 3) := by decide +kernel
theorem dX12_isRead_8 : decode cX12_isRead 8 = .ok (.aload_n 0, 1) := by decide +kernel
theorem dX12_isRead_9 : decode cX12_isRead 9 = .ok (.iconst 0, 1) := by decide +kernel
theorem dX12_isRead_10 : decode cX12_isRead 10 = .ok (.invokevirtual 278, 3) := by decide +kernel
theorem dX12_isRead_13 : decode cX12_isRead 13 = .ok (.aload_n 0, 1) := by decide +kernel
theorem dX12_isRead_14 : decode cX12_isRead 14 = .ok (.getfield 13, 3) := by decide +kernel
theorem dX12_isRead_17 : decode cX12_isRead 17 = .ok (.sipush 131, 3) := by decide +kernel
theorem dX12_isRead_20 : decode cX12_isRead 20 = .ok (.iconst 2, 1) := by decide +kernel
theorem dX12_isRead_21 : decode cX12_isRead 21 = .ok (.iload_n 2, 1) := by decide +kernel
theorem dX12_isRead_22 : decode cX12_isRead 22 = .ok (.imul, 1) := by decide +kernel
theorem dX12_isRead_23 : decode cX12_isRead 23 = .ok (.iadd, 1) := by decide +kernel
theorem dX12_isRead_24 : decode cX12_isRead 24 = .ok (.iaload, 1) := by decide +kernel
theorem dX12_isRead_25 : decode cX12_isRead 25 = .ok (.if_icmp .ne 29, 3) := by decide +kernel
theorem dX12_isRead_28 : decode cX12_isRead 28 = .ok (.aload_n 0, 1) := by decide +kernel
theorem dX12_isRead_29 : decode cX12_isRead 29 = .ok (.iconst 1, 1) := by decide +kernel
theorem dX12_isRead_30 : decode cX12_isRead 30 = .ok (.invokevirtual 278, 3) := by decide +kernel
theorem dX12_isRead_33 : decode cX12_isRead 33 = .ok (.aload_n 0, 1) := by decide +kernel
theorem dX12_isRead_34 : decode cX12_isRead 34 = .ok (.getfield 13, 3) := by decide +kernel
theorem dX12_isRead_37 : decode cX12_isRead 37 = .ok (.sipush 131, 3) := by decide +kernel
theorem dX12_isRead_40 : decode cX12_isRead 40 = .ok (.iconst 2, 1) := by decide +kernel
theorem dX12_isRead_41 : decode cX12_isRead 41 = .ok (.iload_n 2, 1) := by decide +kernel
theorem dX12_isRead_42 : decode cX12_isRead 42 = .ok (.imul, 1) := by decide +kernel
theorem dX12_isRead_43 : decode cX12_isRead 43 = .ok (.iadd, 1) := by decide +kernel
theorem dX12_isRead_44 : decode cX12_isRead 44 = .ok (.iconst 1, 1) := by decide +kernel
theorem dX12_isRead_45 : decode cX12_isRead 45 = .ok (.iadd, 1) := by decide +kernel
theorem dX12_isRead_46 : decode cX12_isRead 46 = .ok (.iaload, 1) := by decide +kernel
theorem dX12_isRead_47 : decode cX12_isRead 47 = .ok (.if_icmp .ne 7, 3) := by decide +kernel
theorem dX12_isRead_50 : decode cX12_isRead 50 = .ok (.iconst 1, 1) := by decide +kernel
theorem dX12_isRead_51 : decode cX12_isRead 51 = .ok (.goto 4, 3) := by decide +kernel
theorem dX12_isRead_54 : decode cX12_isRead 54 = .ok (.iconst 0, 1) := by decide +kernel
theorem dX12_isRead_55 : decode cX12_isRead 55 = .ok (.ireturn, 1) := by decide +kernel
set_option maxRecDepth 100000 in
def F_X12_isRead_b55 (t0 : Int32) (h : Hp) : Option (Int32 × Hp) :=
  gd (decide (t0 = 0 ∨ t0 = 1)) <| some (t0, h)
set_option maxHeartbeats 4000000 in
set_option maxRecDepth 100000 in
theorem r_X12_isRead_b55 (t0 : Int32) (h : Hp) {x : Cx} {r : Int32} {hz : Hp} (e : F_X12_isRead_b55 t0 h = some (r, hz)) (hF : Fin9 M_X12_isRead x (some .boolean) (some (.int r)) hz) : V M_X12_isRead x 5 55 [] [.int t0] h 0 0 := by
  unfold F_X12_isRead_b55 at e
  obtain ⟨g5, e⟩ := gd_some e
  cases e
  exact V_zret (pc := 55) dX12_isRead_55 (z01 (of_decide_eq_true g5)) hF
set_option maxRecDepth 100000 in
def F_X12_isRead_b54  (h : Hp) : Option (Int32 × Hp) :=
  F_X12_isRead_b55 (0 : Int32) h
set_option maxHeartbeats 4000000 in
set_option maxRecDepth 100000 in
theorem r_X12_isRead_b54  (h : Hp) {x : Cx} {r : Int32} {hz : Hp} (e : F_X12_isRead_b54  h = some (r, hz)) (hF : Fin9 M_X12_isRead x (some .boolean) (some (.int r)) hz) : V M_X12_isRead x 5 54 [] [] h 0 0 := by
  unfold F_X12_isRead_b54 at e
  refine V_iconst (pc := 54) (v := (0 : Int32)) dX12_isRead_54 (by decide) ?_
  exact V_pick [] rfl (r_X12_isRead_b55 (0 : Int32) h e hF)
set_option maxRecDepth 100000 in
def F_X12_isRead_b0 (v0 : Nat) (v1 : Int32) (v2 : Int32) (h : Hp) : Option (Int32 × Hp) :=
  ob2 (F_X12_opens v0 v1 h) fun r2 h3 => gd (decide (kd h v0 = 11)) <| (if r2 = 0 then F_X12_isRead_b54 h3 else ob (F_X12_net v0 (0 : Int32) h3) fun r7 => gd (decide (kd h3 v0 = 11)) <| ob (zR h3 v0 1) fun q9 => gd (decide (kd h3 q9 = 13)) <| gd (ix ((131 : Int32) + ((2 : Int32) * v2)) (zl h3 q9)) <| (if r7 = (zI h3 q9 ((131 : Int32) + ((2 : Int32) * v2)).toNatClampNeg) then ob (F_X12_net v0 (1 : Int32) h3) fun r14 => ob (zR h3 v0 1) fun q15 => gd (decide (kd h3 q15 = 13)) <| gd (ix (((131 : Int32) + ((2 : Int32) * v2)) + (1 : Int32)) (zl h3 q15)) <| (if r14 = (zI h3 q15 (((131 : Int32) + ((2 : Int32) * v2)) + (1 : Int32)).toNatClampNeg) then F_X12_isRead_b55 (1 : Int32) h3 else F_X12_isRead_b54 h3) else F_X12_isRead_b54 h3))
set_option maxHeartbeats 4000000 in
set_option maxRecDepth 100000 in
theorem r_X12_isRead_b0 (v0 : Nat) (v1 : Int32) (v2 : Int32) (h : Hp) {x : Cx} {r : Int32} {hz : Hp} (e : F_X12_isRead_b0 v0 v1 v2 h = some (r, hz)) (hF : Fin9 M_X12_isRead x (some .boolean) (some (.int r)) hz) : V M_X12_isRead x 5 0 [(0, .ref v0), (1, .int v1), (2, .int v2)] [] h 0 0 := by
  unfold F_X12_isRead_b0 at e
  refine V_aload_n (pc := 0) (i := 0) dX12_isRead_0 rfl rfl ?_
  refine V_iload_n (pc := 1) (i := 1) dX12_isRead_1 rfl rfl ?_
  obtain ⟨r2, h3, g1, e⟩ := ob2_some e
  obtain ⟨g4, e⟩ := gd_some e
  refine V_callV (pc := 2) (bc := 0) (bs := 0) (mc := 0) (ms := 0) (st := []) (As := [.int v1]) (a := v0) (h' := h3) (r := some (.int r2)) dX12_isRead_2 ml_X12_340 (ci := 11) rfl (of_decide_eq_true g4) rfl rfl (Nat.le_of_ble_eq_true rfl) (d' := 3) (by decide) (c_X12_opens (l := x.2.1) v0 v1 h g1) ?_
  refine V_if_eq (pc := 5) (tgt := 54) dX12_isRead_5 (by decide) (fun c21 => ?_) (fun c21 => ?_)
  · rw [if_pos c21] at e
    exact V_pick [] rfl (r_X12_isRead_b54 h3 e hF)
  · rw [if_neg c21] at e
    refine V_pick [0, 2] rfl ?_
    refine V_aload_n (pc := 8) (i := 0) dX12_isRead_8 rfl rfl ?_
    refine V_iconst (pc := 9) (v := (0 : Int32)) dX12_isRead_9 (by decide) ?_
    obtain ⟨r7, g6, e⟩ := ob_some e
    obtain ⟨g8, e⟩ := gd_some e
    refine V_callV (pc := 10) (bc := 0) (bs := 0) (mc := 0) (ms := 0) (st := []) (As := [.int (0 : Int32)]) (a := v0) (h' := h3) (r := some (.int r7)) dX12_isRead_10 ml_X12_278 (ci := 11) rfl (of_decide_eq_true g8) rfl rfl (Nat.le_of_ble_eq_true rfl) (d' := 4) (by decide) (c_X12_net (l := x.2.1) v0 (0 : Int32) h3 g6) ?_
    refine V_aload_n (pc := 13) (i := 0) dX12_isRead_13 rfl rfl ?_
    obtain ⟨q9, g10, e⟩ := ob_some e
    refine V_getR (pc := 14) (ci := 11) (k := 1) (b := q9) dX12_isRead_14 fl_X12_13 rfl (of_decide_eq_true g8) g10 ?_
    refine V_sipush (pc := 17) (v := (131 : Int32)) dX12_isRead_17 (by decide) ?_
    refine V_iconst (pc := 20) (v := (2 : Int32)) dX12_isRead_20 (by decide) ?_
    refine V_iload_n (pc := 21) (i := 2) dX12_isRead_21 rfl rfl ?_
    refine V_imul (pc := 22) dX12_isRead_22 ?_
    refine V_iadd (pc := 23) dX12_isRead_23 ?_
    obtain ⟨g11, e⟩ := gd_some e
    obtain ⟨g12, e⟩ := gd_some e
    refine V_iald (pc := 24) dX12_isRead_24 (of_decide_eq_true g11) (ix_in g12) ?_
    refine V_icmp_ne (pc := 25) (tgt := 54) dX12_isRead_25 (by decide) (fun c20 => ?_) (fun c20 => ?_)
    · rw [if_neg c20] at e
      exact V_pick [] rfl (r_X12_isRead_b54 h3 e hF)
    · rw [if_pos c20] at e
      refine V_pick [0, 1] rfl ?_
      refine V_aload_n (pc := 28) (i := 0) dX12_isRead_28 rfl rfl ?_
      refine V_iconst (pc := 29) (v := (1 : Int32)) dX12_isRead_29 (by decide) ?_
      obtain ⟨r14, g13, e⟩ := ob_some e
      refine V_callV (pc := 30) (bc := 0) (bs := 0) (mc := 0) (ms := 0) (st := []) (As := [.int (1 : Int32)]) (a := v0) (h' := h3) (r := some (.int r14)) dX12_isRead_30 ml_X12_278 (ci := 11) rfl (of_decide_eq_true g8) rfl rfl (Nat.le_of_ble_eq_true rfl) (d' := 4) (by decide) (c_X12_net (l := x.2.1) v0 (1 : Int32) h3 g13) ?_
      refine V_aload_n (pc := 33) (i := 0) dX12_isRead_33 rfl rfl ?_
      obtain ⟨q15, g16, e⟩ := ob_some e
      refine V_getR (pc := 34) (ci := 11) (k := 1) (b := q15) dX12_isRead_34 fl_X12_13 rfl (of_decide_eq_true g8) g16 ?_
      refine V_sipush (pc := 37) (v := (131 : Int32)) dX12_isRead_37 (by decide) ?_
      refine V_iconst (pc := 40) (v := (2 : Int32)) dX12_isRead_40 (by decide) ?_
      refine V_iload_n (pc := 41) (i := 2) dX12_isRead_41 rfl rfl ?_
      refine V_imul (pc := 42) dX12_isRead_42 ?_
      refine V_iadd (pc := 43) dX12_isRead_43 ?_
      refine V_iconst (pc := 44) (v := (1 : Int32)) dX12_isRead_44 (by decide) ?_
      refine V_iadd (pc := 45) dX12_isRead_45 ?_
      obtain ⟨g17, e⟩ := gd_some e
      obtain ⟨g18, e⟩ := gd_some e
      refine V_iald (pc := 46) dX12_isRead_46 (of_decide_eq_true g17) (ix_in g18) ?_
      refine V_icmp_ne (pc := 47) (tgt := 54) dX12_isRead_47 (by decide) (fun c19 => ?_) (fun c19 => ?_)
      · rw [if_neg c19] at e
        exact V_pick [] rfl (r_X12_isRead_b54 h3 e hF)
      · rw [if_pos c19] at e
        refine V_pick [] rfl ?_
        refine V_iconst (pc := 50) (v := (1 : Int32)) dX12_isRead_50 (by decide) ?_
        refine V_goto (pc := 51) (tgt := 55) dX12_isRead_51 (by decide) ?_
        exact V_pick [] rfl (r_X12_isRead_b55 (1 : Int32) h3 e hF)
def F_X12_isRead (v0 : Nat) (v1 : Int32) (v2 : Int32) (h : Hp) : Option (Int32 × Hp) := F_X12_isRead_b0 v0 v1 v2 h
theorem c_X12_isRead {l : Launch} (v0 : Nat) (v1 : Int32) (v2 : Int32) (h : Hp) {r : Int32} {hz : Hp} (e : F_X12_isRead v0 v1 v2 h = some (r, hz)) : Ct l yX12_isRead M_X12_isRead (some .boolean) 5 [.ref v0, .int v1, .int v2] h 0 0 (some (.int r)) hz :=
  Ct_of rfl rfl (fun q => by cases q) (Nat.le_of_ble_eq_true rfl) (fun x _ hF => V_pick [0, 1, 2] rfl (r_X12_isRead_b0 v0 v1 v2 h e hF))
theorem dX12_fits_0 : decode cX12_fits 0 = .ok (.aload_n 0, 1) := by decide +kernel
theorem dX12_fits_1 : decode cX12_fits 1 = .ok (.iconst 0, 1) := by decide +kernel
theorem dX12_fits_2 : decode cX12_fits 2 = .ok (.putfield 3, 3) := by decide +kernel
theorem dX12_fits_5 : decode cX12_fits 5 = .ok (.aload_n 0, 1) := by decide +kernel
theorem dX12_fits_6 : decode cX12_fits 6 = .ok (.aload_n 0, 1) := by decide +kernel
theorem dX12_fits_7 : decode cX12_fits 7 = .ok (.iload_n 1, 1) := by decide +kernel
theorem dX12_fits_8 : decode cX12_fits 8 = .ok (.invokevirtual 408, 3) := by decide +kernel
theorem dX12_fits_11 : decode cX12_fits 11 = .ok (.iconst 1, 1) := by decide +kernel
theorem dX12_fits_12 : decode cX12_fits 12 = .ok (.invokevirtual 240, 3) := by decide +kernel
theorem dX12_fits_15 : decode cX12_fits 15 = .ok (.ifCond .eq 5, 3) := by decide +kernel
theorem dX12_fits_18 : decode cX12_fits 18 = .ok (.iconst 0, 1) := by decide +kernel
theorem dX12_fits_19 : decode cX12_fits 19 = .ok (.ireturn, 1) := by decide +kernel
theorem dX12_fits_20 : decode cX12_fits 20 = .ok (.iconst 0, 1) := by decide +kernel
theorem dX12_fits_21 : decode cX12_fits 21 = .ok (.istore_n 2, 1) := by decide +kernel
theorem dX12_fits_22 : decode cX12_fits 22 = .ok (.iconst 0, 1) := by decide +kernel
theorem dX12_fits_23 : decode cX12_fits 23 = .ok (.istore_n 3, 1) := by decide +kernel
theorem dX12_fits_24 : decode cX12_fits 24 = .ok (.iload_n 3, 1) := by decide +kernel
theorem dX12_fits_25 : decode cX12_fits 25 = .ok (.aload_n 0, 1) := by decide +kernel
theorem dX12_fits_26 : decode cX12_fits 26 = .ok (.invokevirtual 337, 3) := by decide +kernel
theorem dX12_fits_29 : decode cX12_fits 29 = .ok (.if_icmp .ge 26, 3) := by decide +kernel
theorem dX12_fits_32 : decode cX12_fits 32 = .ok (.iload_n 2, 1) := by decide +kernel
theorem dX12_fits_33 : decode cX12_fits 33 = .ok (.aload_n 0, 1) := by decide +kernel
theorem dX12_fits_34 : decode cX12_fits 34 = .ok (.iload_n 3, 1) := by decide +kernel
theorem dX12_fits_35 : decode cX12_fits 35 = .ok (.iload_n 1, 1) := by decide +kernel
theorem dX12_fits_36 : decode cX12_fits 36 = .ok (.invokevirtual 411, 3) := by decide +kernel
theorem dX12_fits_39 : decode cX12_fits 39 = .ok (.ifCond .eq 7, 3) := by decide +kernel
theorem dX12_fits_42 : decode cX12_fits 42 = .ok (.iconst 1, 1) := by decide +kernel
theorem dX12_fits_43 : decode cX12_fits 43 = .ok (.goto 4, 3) := by decide +kernel
theorem dX12_fits_46 : decode cX12_fits 46 = .ok (.iconst 0, 1) := by decide +kernel
theorem dX12_fits_47 : decode cX12_fits 47 = .ok (.iadd, 1) := by decide +kernel
theorem dX12_fits_48 : decode cX12_fits 48 = .ok (.istore_n 2, 1) := by decide +kernel
theorem dX12_fits_49 : decode cX12_fits 49 = .ok (.iinc 3 1, 3) := by decide +kernel
theorem dX12_fits_52 : decode cX12_fits 52 = .ok (.goto (-28), 3) := by decide +kernel
theorem dX12_fits_55 : decode cX12_fits 55 = .ok (.iload_n 2, 1) := by decide +kernel
theorem dX12_fits_56 : decode cX12_fits 56 = .ok (.ireturn, 1) := by decide +kernel
set_option maxRecDepth 100000 in
def F_X12_fits_b47 (v0 : Nat) (v1 : Int32) (v3 : Int32) (t0 : Int32) (t1 : Int32) (h : Hp) : Option ((Int32 × Int32 × Hp) ⊕ (Int32 × Hp)) :=
  some (.inl (t0 + t1, v3 + (1 : Int32), h))
set_option maxHeartbeats 4000000 in
set_option maxRecDepth 100000 in
theorem r_X12_fits_b47 (v0 : Nat) (v1 : Int32) (v3 : Int32) (t0 : Int32) (t1 : Int32) (h : Hp) {x : Cx} {o : ((Int32 × Int32 × Hp) ⊕ (Int32 × Hp))} (e : F_X12_fits_b47 v0 v1 v3 t0 t1 h = some o) (kI : ∀ z, o = .inl z → V M_X12_fits x 6 24 [(0, .ref v0), (1, .int v1), (2, .int z.1), (3, .int z.2.1)] [] z.2.2 0 0) (kE55 : ∀ z : Int32 × Hp, o = .inr z → V M_X12_fits x 6 55 [(2, .int z.1)] [] z.2 0 0) : V M_X12_fits x 6 47 [(0, .ref v0), (1, .int v1), (3, .int v3)] [.int t1, .int t0] h 0 0 := by
  unfold F_X12_fits_b47 at e
  refine V_iadd (pc := 47) dX12_fits_47 ?_
  refine V_istore_n (pc := 48) (i := 2) (lv' := [(2, .int (t0 + t1)), (0, .ref v0), (1, .int v1), (3, .int v3)]) dX12_fits_48 rfl (by decide) rfl ?_
  refine V_iinc (pc := 49) (i := 3) (u := v3 + (1 : Int32)) (lv' := [(3, .int (v3 + (1 : Int32))), (2, .int (t0 + t1)), (0, .ref v0), (1, .int v1)]) dX12_fits_49 rfl rfl (by decide) rfl ?_
  refine V_goto (pc := 52) (tgt := 24) dX12_fits_52 (by decide) ?_
  cases e
  exact V_pick [2, 3, 1, 0] rfl (kI (t0 + t1, v3 + (1 : Int32), h) rfl)
set_option maxRecDepth 100000 in
def F_X12_fits_l24 (v0 : Nat) (v1 : Int32) (v2 : Int32) (v3 : Int32) (h : Hp) : Option ((Int32 × Int32 × Hp) ⊕ (Int32 × Hp)) :=
  ob (F_X12_many v0 h) fun r8 => gd (decide (kd h v0 = 11)) <| (if r8 ≤ v3 then some (.inr (v2, h)) else ob2 (F_X12_isRead v0 v3 v1 h) fun r11 h12 => (if r11 = 0 then F_X12_fits_b47 v0 v1 v3 v2 (0 : Int32) h12 else F_X12_fits_b47 v0 v1 v3 v2 (1 : Int32) h12))
set_option maxHeartbeats 4000000 in
set_option maxRecDepth 100000 in
theorem r_X12_fits_l24 (v0 : Nat) (v1 : Int32) (v2 : Int32) (v3 : Int32) (h : Hp) {x : Cx} {o : ((Int32 × Int32 × Hp) ⊕ (Int32 × Hp))} (e : F_X12_fits_l24 v0 v1 v2 v3 h = some o) (kI : ∀ z, o = .inl z → V M_X12_fits x 6 24 [(0, .ref v0), (1, .int v1), (2, .int z.1), (3, .int z.2.1)] [] z.2.2 0 0) (kE55 : ∀ z : Int32 × Hp, o = .inr z → V M_X12_fits x 6 55 [(2, .int z.1)] [] z.2 0 0) : V M_X12_fits x 6 24 [(0, .ref v0), (1, .int v1), (2, .int v2), (3, .int v3)] [] h 0 0 := by
  unfold F_X12_fits_l24 at e
  refine V_iload_n (pc := 24) (i := 3) dX12_fits_24 rfl rfl ?_
  refine V_aload_n (pc := 25) (i := 0) dX12_fits_25 rfl rfl ?_
  obtain ⟨r8, g7, e⟩ := ob_some e
  obtain ⟨g9, e⟩ := gd_some e
  refine V_callV (pc := 26) (bc := 0) (bs := 0) (mc := 0) (ms := 0) (st := [.int v3]) (As := []) (a := v0) (h' := h) (r := some (.int r8)) dX12_fits_26 ml_X12_337 (ci := 11) rfl (of_decide_eq_true g9) rfl rfl (Nat.le_of_ble_eq_true rfl) (d' := 1) (by decide) (c_X12_many (l := x.2.1) v0 h g7) ?_
  refine V_icmp_ge (pc := 29) (tgt := 55) dX12_fits_29 (by decide) (fun c14 => ?_) (fun c14 => ?_)
  · rw [if_pos c14] at e
    cases e
    exact V_pick [2] rfl (kE55 (v2, h) rfl)
  · rw [if_neg c14] at e
    refine V_pick [0, 1, 2, 3] rfl ?_
    refine V_iload_n (pc := 32) (i := 2) dX12_fits_32 rfl rfl ?_
    refine V_aload_n (pc := 33) (i := 0) dX12_fits_33 rfl rfl ?_
    refine V_iload_n (pc := 34) (i := 3) dX12_fits_34 rfl rfl ?_
    refine V_iload_n (pc := 35) (i := 1) dX12_fits_35 rfl rfl ?_
    obtain ⟨r11, h12, g10, e⟩ := ob2_some e
    refine V_callV (pc := 36) (bc := 0) (bs := 0) (mc := 0) (ms := 0) (st := [.int v2]) (As := [.int v3, .int v1]) (a := v0) (h' := h12) (r := some (.int r11)) dX12_fits_36 ml_X12_411 (ci := 11) rfl (of_decide_eq_true g9) rfl rfl (Nat.le_of_ble_eq_true rfl) (d' := 5) (by decide) (c_X12_isRead (l := x.2.1) v0 v3 v1 h g10) ?_
    refine V_if_eq (pc := 39) (tgt := 46) dX12_fits_39 (by decide) (fun c13 => ?_) (fun c13 => ?_)
    · rw [if_pos c13] at e
      refine V_pick [0, 1, 3] rfl ?_
      refine V_iconst (pc := 46) (v := (0 : Int32)) dX12_fits_46 (by decide) ?_
      exact V_pick [0, 1, 2] rfl (r_X12_fits_b47 v0 v1 v3 v2 (0 : Int32) h12 e kI kE55)
    · rw [if_neg c13] at e
      refine V_pick [0, 1, 3] rfl ?_
      refine V_iconst (pc := 42) (v := (1 : Int32)) dX12_fits_42 (by decide) ?_
      refine V_goto (pc := 43) (tgt := 47) dX12_fits_43 (by decide) ?_
      exact V_pick [0, 1, 2] rfl (r_X12_fits_b47 v0 v1 v3 v2 (1 : Int32) h12 e kI kE55)
set_option maxRecDepth 100000 in
def F_X12_fits_b0 (v0 : Nat) (v1 : Int32) (h : Hp) : Option (Int32 × Hp) :=
  gd (decide (kd h v0 = 11)) <| ob (F_X12_noReading v0 v1 (setI h v0 0 (0 : Int32))) fun r3 => ob2 (F_X12_throwsIf v0 r3 (1 : Int32) (setI h v0 0 (0 : Int32))) fun r5 h6 => (if r5 = 0 then ob (iter (fun z : Int32 × Int32 × Hp => F_X12_fits_l24 v0 v1 z.1 z.2.1 z.2.2) FU ((0 : Int32), (0 : Int32), h6)) (fun z => un2 z fun w15 h16 => some (w15, h16)) else some ((0 : Int32), h6))
set_option maxHeartbeats 4000000 in
set_option maxRecDepth 100000 in
theorem r_X12_fits_b0 (v0 : Nat) (v1 : Int32) (h : Hp) {x : Cx} {r : Int32} {hz : Hp} (e : F_X12_fits_b0 v0 v1 h = some (r, hz)) (hF : Fin9 M_X12_fits x (some .int) (some (.int r)) hz) : V M_X12_fits x 6 0 [(0, .ref v0), (1, .int v1)] [] h 0 0 := by
  unfold F_X12_fits_b0 at e
  refine V_aload_n (pc := 0) (i := 0) dX12_fits_0 rfl rfl ?_
  refine V_iconst (pc := 1) (v := (0 : Int32)) dX12_fits_1 (by decide) ?_
  obtain ⟨g1, e⟩ := gd_some e
  refine V_putI (pc := 2) (ci := 11) (k := 0) dX12_fits_2 fp_X12_3 rfl (of_decide_eq_true g1) ?_
  refine V_aload_n (pc := 5) (i := 0) dX12_fits_5 rfl rfl ?_
  refine V_aload_n (pc := 6) (i := 0) dX12_fits_6 rfl rfl ?_
  refine V_iload_n (pc := 7) (i := 1) dX12_fits_7 rfl rfl ?_
  obtain ⟨r3, g2, e⟩ := ob_some e
  refine V_callV (pc := 8) (bc := 0) (bs := 0) (mc := 0) (ms := 0) (st := [.ref v0]) (As := [.int v1]) (a := v0) (h' := (setI h v0 0 (0 : Int32))) (r := some (.int r3)) dX12_fits_8 ml_X12_408 (ci := 11) rfl (kd_sI (of_decide_eq_true g1)) rfl rfl (Nat.le_of_ble_eq_true rfl) (d' := 1) (by decide) (c_X12_noReading (l := x.2.1) v0 v1 (setI h v0 0 (0 : Int32)) g2) ?_
  refine V_iconst (pc := 11) (v := (1 : Int32)) dX12_fits_11 (by decide) ?_
  obtain ⟨r5, h6, g4, e⟩ := ob2_some e
  refine V_callV (pc := 12) (bc := 0) (bs := 0) (mc := 0) (ms := 0) (st := []) (As := [.int r3, .int (1 : Int32)]) (a := v0) (h' := h6) (r := some (.int r5)) dX12_fits_12 ml_X12_240 (ci := 11) rfl (kd_sI (of_decide_eq_true g1)) rfl rfl (Nat.le_of_ble_eq_true rfl) (d' := 0) (by decide) (c_X12_throwsIf (l := x.2.1) v0 r3 (1 : Int32) (setI h v0 0 (0 : Int32)) g4) ?_
  refine V_if_eq (pc := 15) (tgt := 20) dX12_fits_15 (by decide) (fun c19 => ?_) (fun c19 => ?_)
  · rw [if_pos c19] at e
    refine V_pick [0, 1] rfl ?_
    refine V_iconst (pc := 20) (v := (0 : Int32)) dX12_fits_20 (by decide) ?_
    refine V_istore_n (pc := 21) (i := 2) (lv' := [(2, .int (0 : Int32)), (0, .ref v0), (1, .int v1)]) dX12_fits_21 rfl (by decide) rfl ?_
    refine V_iconst (pc := 22) (v := (0 : Int32)) dX12_fits_22 (by decide) ?_
    refine V_istore_n (pc := 23) (i := 3) (lv' := [(3, .int (0 : Int32)), (2, .int (0 : Int32)), (0, .ref v0), (1, .int v1)]) dX12_fits_23 rfl (by decide) rfl ?_
    refine V_pick [2, 3, 1, 0] rfl ?_
    obtain ⟨y17, g18, e⟩ := ob_some e
    refine iter_V (P := fun z : Int32 × Int32 × Hp => V M_X12_fits x 6 24 [(0, .ref v0), (1, .int v1), (2, .int z.1), (3, .int z.2.1)] [] z.2.2 0 0) (E := fun z : Int32 × Hp => V M_X12_fits x 6 55 [(2, .int z.1)] [] z.2 0 0) (fun z o e9 k1 k2 => r_X12_fits_l24 v0 v1 z.1 z.2.1 z.2.2 e9 (fun z hz9 => k1 z hz9) (fun z hz9 => k2 _ hz9)) _ _ _ g18 ?_
    clear g18
    obtain ⟨w15, h16⟩ := y17
    replace e : (some (w15, h16)) = some (r, hz) := e
    show V M_X12_fits x 6 55 [(2, .int w15)] [] h16 0 0
    refine V_iload_n (pc := 55) (i := 2) dX12_fits_55 rfl rfl ?_
    cases e
    exact V_iret (pc := 56) dX12_fits_56 hF
  · rw [if_neg c19] at e
    refine V_pick [] rfl ?_
    refine V_iconst (pc := 18) (v := (0 : Int32)) dX12_fits_18 (by decide) ?_
    cases e
    exact V_iret (pc := 19) dX12_fits_19 hF
def F_X12_fits (v0 : Nat) (v1 : Int32) (h : Hp) : Option (Int32 × Hp) := F_X12_fits_b0 v0 v1 h
theorem c_X12_fits {l : Launch} (v0 : Nat) (v1 : Int32) (h : Hp) {r : Int32} {hz : Hp} (e : F_X12_fits v0 v1 h = some (r, hz)) : Ct l yX12_fits M_X12_fits (some .int) 6 [.ref v0, .int v1] h 0 0 (some (.int r)) hz :=
  Ct_of rfl rfl (fun q => by cases q) (Nat.le_of_ble_eq_true rfl) (fun x _ hF => V_pick [0, 1] rfl (r_X12_fits_b0 v0 v1 h e hF))
theorem dX12_meeting_0 : decode cX12_meeting 0 = .ok (.aload_n 0, 1) := by decide +kernel
theorem dX12_meeting_1 : decode cX12_meeting 1 = .ok (.iconst 0, 1) := by decide +kernel
theorem dX12_meeting_2 : decode cX12_meeting 2 = .ok (.putfield 3, 3) := by decide +kernel
theorem dX12_meeting_5 : decode cX12_meeting 5 = .ok (.aload_n 0, 1) := by decide +kernel
theorem dX12_meeting_6 : decode cX12_meeting 6 = .ok (.aload_n 0, 1) := by decide +kernel
theorem dX12_meeting_7 : decode cX12_meeting 7 = .ok (.iload_n 1, 1) := by decide +kernel
theorem dX12_meeting_8 : decode cX12_meeting 8 = .ok (.invokevirtual 408, 3) := by decide +kernel
theorem dX12_meeting_11 : decode cX12_meeting 11 = .ok (.ifCond .ne 19, 3) := by decide +kernel
theorem dX12_meeting_14 : decode cX12_meeting 14 = .ok (.aload_n 0, 1) := by decide +kernel
theorem dX12_meeting_15 : decode cX12_meeting 15 = .ok (.iload_n 2, 1) := by decide +kernel
theorem dX12_meeting_16 : decode cX12_meeting 16 = .ok (.invokevirtual 244, 3) := by decide +kernel
theorem dX12_meeting_19 : decode cX12_meeting 19 = .ok (.ifCond .ne 11, 3) := by decide +kernel
theorem dX12_meeting_22 : decode cX12_meeting 22 = .ok (.aload_n 0, 1) := by decide +kernel
theorem dX12_meeting_23 : decode cX12_meeting 23 = .ok (.iload_n 3, 1) := by decide +kernel
theorem dX12_meeting_24 : decode cX12_meeting 24 = .ok (.invokevirtual 244, 3) := by decide +kernel
theorem dX12_meeting_27 : decode cX12_meeting 27 = .ok (.ifCond .eq 7, 3) := by decide +kernel
theorem dX12_meeting_30 : decode cX12_meeting 30 = .ok (.iconst 1, 1) := by decide +kernel
theorem dX12_meeting_31 : decode cX12_meeting 31 = .ok (.goto 4, 3) := by decide +kernel
theorem dX12_meeting_34 : decode cX12_meeting 34 = .ok (.iconst 0, 1) := by decide +kernel
theorem dX12_meeting_35 : decode cX12_meeting 35 = .ok (.iconst 1, 1) := by decide +kernel
theorem dX12_meeting_36 : decode cX12_meeting 36 = .ok (.invokevirtual 240, 3) := by decide +kernel
theorem dX12_meeting_39 : decode cX12_meeting 39 = .ok (.ifCond .eq 5, 3) := by decide +kernel
theorem dX12_meeting_42 : decode cX12_meeting 42 = .ok (.iconst 0, 1) := by decide +kernel
theorem dX12_meeting_43 : decode cX12_meeting 43 = .ok (.ireturn, 1) := by decide +kernel
theorem dX12_meeting_44 : decode cX12_meeting 44 = .ok (.iconst 0, 1) := by decide +kernel
theorem dX12_meeting_45 : decode cX12_meeting 45 = .ok (.istore 4, 2) := by decide +kernel
theorem dX12_meeting_47 : decode cX12_meeting 47 = .ok (.iconst 0, 1) := by decide +kernel
theorem dX12_meeting_48 : decode cX12_meeting 48 = .ok (.istore 5, 2) := by decide +kernel
theorem dX12_meeting_50 : decode cX12_meeting 50 = .ok (.iconst 0, 1) := by decide +kernel
theorem dX12_meeting_51 : decode cX12_meeting 51 = .ok (.istore 6, 2) := by decide +kernel
theorem dX12_meeting_53 : decode cX12_meeting 53 = .ok (.iload 6, 2) := by decide +kernel
theorem dX12_meeting_55 : decode cX12_meeting 55 = .ok (.aload_n 0, 1) := by decide +kernel
theorem dX12_meeting_56 : decode cX12_meeting 56 = .ok (.invokevirtual 337, 3) := by decide +kernel
theorem dX12_meeting_59 : decode cX12_meeting 59 = .ok (.if_icmp .ge 50, 3) := by decide +kernel
theorem dX12_meeting_62 : decode cX12_meeting 62 = .ok (.aload_n 0, 1) := by decide +kernel
theorem dX12_meeting_63 : decode cX12_meeting 63 = .ok (.iload 6, 2) := by decide +kernel
theorem dX12_meeting_65 : decode cX12_meeting 65 = .ok (.iload_n 1, 1) := by decide +kernel
theorem dX12_meeting_66 : decode cX12_meeting 66 = .ok (.invokevirtual 411, 3) := by decide +kernel
theorem dX12_meeting_69 : decode cX12_meeting 69 = .ok (.ifCond .ne 6, 3) := by decide +kernel
theorem dX12_meeting_72 : decode cX12_meeting 72 = .ok (.goto 31, 3) := by decide +kernel
theorem dX12_meeting_75 : decode cX12_meeting 75 = .ok (.iinc 4 1, 3) := by decide +kernel
theorem dX12_meeting_78 : decode cX12_meeting 78 = .ok (.iload 5, 2) := by decide +kernel
theorem dX12_meeting_80 : decode cX12_meeting 80 = .ok (.aload_n 0, 1) := by decide +kernel
theorem dX12_meeting_81 : decode cX12_meeting 81 = .ok (.getfield 36, 3) := by decide +kernel
theorem dX12_meeting_84 : decode cX12_meeting 84 = .ok (.iload_n 2, 1) := by decide +kernel
theorem dX12_meeting_85 : decode cX12_meeting 85 = .ok (.iaload, 1) := by decide +kernel
theorem dX12_meeting_86 : decode cX12_meeting 86 = .ok (.aload_n 0, 1) := by decide +kernel
theorem dX12_meeting_87 : decode cX12_meeting 87 = .ok (.getfield 36, 3) := by decide +kernel
theorem dX12_meeting_90 : decode cX12_meeting 90 = .ok (.iload_n 3, 1) := by decide +kernel
theorem dX12_meeting_91 : decode cX12_meeting 91 = .ok (.iaload, 1) := by decide +kernel
theorem dX12_meeting_92 : decode cX12_meeting 92 = .ok (.if_icmp .ne 7, 3) := by decide +kernel
theorem dX12_meeting_95 : decode cX12_meeting 95 = .ok (.iconst 1, 1) := by decide +kernel
theorem dX12_meeting_96 : decode cX12_meeting 96 = .ok (.goto 4, 3) := by decide +kernel
theorem dX12_meeting_99 : decode cX12_meeting 99 = .ok (.iconst 0, 1) := by decide +kernel
theorem dX12_meeting_100 : decode cX12_meeting 100 = .ok (.iadd, 1) := by decide +kernel
theorem dX12_meeting_101 : decode cX12_meeting 101 = .ok (.istore 5, 2) := by decide +kernel
theorem dX12_meeting_103 : decode cX12_meeting 103 = .ok (.iinc 6 1, 3) := by decide +kernel
theorem dX12_meeting_106 : decode cX12_meeting 106 = .ok (.goto (-53), 3) := by decide +kernel
theorem dX12_meeting_109 : decode cX12_meeting 109 = .ok (.iload 4, 2) := by decide +kernel
theorem dX12_meeting_111 : decode cX12_meeting 111 = .ok (.ifCond .ne 7, 3) := by decide +kernel
theorem dX12_meeting_114 : decode cX12_meeting 114 = .ok (.iconst (-1), 1) := by decide +kernel
theorem dX12_meeting_115 : decode cX12_meeting 115 = .ok (.goto 24, 3) := by decide +kernel
theorem dX12_meeting_118 : decode cX12_meeting 118 = .ok (.iload 5, 2) := by decide +kernel
theorem dX12_meeting_120 : decode cX12_meeting 120 = .ok (.iload 4, 2) := by decide +kernel
theorem dX12_meeting_122 : decode cX12_meeting 122 = .ok (.if_icmp .ne 7, 3) := by decide +kernel
theorem dX12_meeting_125 : decode cX12_meeting 125 = .ok (.iconst 2, 1) := by decide +kernel
theorem dX12_meeting_126 : decode cX12_meeting 126 = .ok (.goto 13, 3) := by decide +kernel
theorem dX12_meeting_129 : decode cX12_meeting 129 = .ok (.iload 5, 2) := by decide +kernel
theorem dX12_meeting_131 : decode cX12_meeting 131 = .ok (.ifCond .le 7, 3) := by decide +kernel
theorem dX12_meeting_134 : decode cX12_meeting 134 = .ok (.iconst 1, 1) := by decide +kernel
theorem dX12_meeting_135 : decode cX12_meeting 135 = .ok (.goto 4, 3) := by decide +kernel
theorem dX12_meeting_138 : decode cX12_meeting 138 = .ok (.iconst 0, 1) := by decide +kernel
theorem dX12_meeting_139 : decode cX12_meeting 139 = .ok (.ireturn, 1) := by decide +kernel
set_option maxRecDepth 100000 in
def F_X12_meeting_b103 (v0 : Nat) (v1 : Int32) (v2 : Int32) (v3 : Int32) (v4 : Int32) (v5 : Int32) (v6 : Int32) (h : Hp) : Option ((Int32 × Int32 × Int32 × Hp) ⊕ (Int32 × Int32 × Hp)) :=
  some (.inl (v4, v5, v6 + (1 : Int32), h))
set_option maxHeartbeats 4000000 in
set_option maxRecDepth 100000 in
theorem r_X12_meeting_b103 (v0 : Nat) (v1 : Int32) (v2 : Int32) (v3 : Int32) (v4 : Int32) (v5 : Int32) (v6 : Int32) (h : Hp) {x : Cx} {o : ((Int32 × Int32 × Int32 × Hp) ⊕ (Int32 × Int32 × Hp))} (e : F_X12_meeting_b103 v0 v1 v2 v3 v4 v5 v6 h = some o) (kI : ∀ z, o = .inl z → V M_X12_meeting x 6 53 [(0, .ref v0), (1, .int v1), (2, .int v2), (3, .int v3), (4, .int z.1), (5, .int z.2.1), (6, .int z.2.2.1)] [] z.2.2.2 0 0) (kE109 : ∀ z : Int32 × Int32 × Hp, o = .inr z → V M_X12_meeting x 6 109 [(4, .int z.1), (5, .int z.2.1)] [] z.2.2 0 0) : V M_X12_meeting x 6 103 [(0, .ref v0), (1, .int v1), (2, .int v2), (3, .int v3), (4, .int v4), (5, .int v5), (6, .int v6)] [] h 0 0 := by
  unfold F_X12_meeting_b103 at e
  refine V_iinc (pc := 103) (i := 6) (u := v6 + (1 : Int32)) (lv' := [(6, .int (v6 + (1 : Int32))), (0, .ref v0), (1, .int v1), (2, .int v2), (3, .int v3), (4, .int v4), (5, .int v5)]) dX12_meeting_103 rfl rfl (by decide) rfl ?_
  refine V_goto (pc := 106) (tgt := 53) dX12_meeting_106 (by decide) ?_
  cases e
  exact V_pick [1, 2, 3, 4, 5, 6, 0] rfl (kI (v4, v5, v6 + (1 : Int32), h) rfl)
set_option maxRecDepth 100000 in
def F_X12_meeting_b100 (v0 : Nat) (v1 : Int32) (v2 : Int32) (v3 : Int32) (v4 : Int32) (v6 : Int32) (t0 : Int32) (t1 : Int32) (h : Hp) : Option ((Int32 × Int32 × Int32 × Hp) ⊕ (Int32 × Int32 × Hp)) :=
  F_X12_meeting_b103 v0 v1 v2 v3 v4 (t0 + t1) v6 h
set_option maxHeartbeats 4000000 in
set_option maxRecDepth 100000 in
theorem r_X12_meeting_b100 (v0 : Nat) (v1 : Int32) (v2 : Int32) (v3 : Int32) (v4 : Int32) (v6 : Int32) (t0 : Int32) (t1 : Int32) (h : Hp) {x : Cx} {o : ((Int32 × Int32 × Int32 × Hp) ⊕ (Int32 × Int32 × Hp))} (e : F_X12_meeting_b100 v0 v1 v2 v3 v4 v6 t0 t1 h = some o) (kI : ∀ z, o = .inl z → V M_X12_meeting x 6 53 [(0, .ref v0), (1, .int v1), (2, .int v2), (3, .int v3), (4, .int z.1), (5, .int z.2.1), (6, .int z.2.2.1)] [] z.2.2.2 0 0) (kE109 : ∀ z : Int32 × Int32 × Hp, o = .inr z → V M_X12_meeting x 6 109 [(4, .int z.1), (5, .int z.2.1)] [] z.2.2 0 0) : V M_X12_meeting x 6 100 [(0, .ref v0), (1, .int v1), (2, .int v2), (3, .int v3), (4, .int v4), (6, .int v6)] [.int t1, .int t0] h 0 0 := by
  unfold F_X12_meeting_b100 at e
  refine V_iadd (pc := 100) dX12_meeting_100 ?_
  refine V_istore (pc := 101) (i := 5) (lv' := [(5, .int (t0 + t1)), (0, .ref v0), (1, .int v1), (2, .int v2), (3, .int v3), (4, .int v4), (6, .int v6)]) dX12_meeting_101 (by decide) rfl ?_
  exact V_pick [1, 2, 3, 4, 5, 0, 6] rfl (r_X12_meeting_b103 v0 v1 v2 v3 v4 (t0 + t1) v6 h e kI kE109)
set_option maxRecDepth 100000 in
def F_X12_meeting_l53 (v0 : Nat) (v1 : Int32) (v2 : Int32) (v3 : Int32) (v4 : Int32) (v5 : Int32) (v6 : Int32) (h : Hp) : Option ((Int32 × Int32 × Int32 × Hp) ⊕ (Int32 × Int32 × Hp)) :=
  ob (F_X12_many v0 h) fun r9 => gd (decide (kd h v0 = 11)) <| (if r9 ≤ v6 then some (.inr (v4, v5, h)) else ob2 (F_X12_isRead v0 v6 v1 h) fun r12 h13 => (if r12 = 0 then F_X12_meeting_b103 v0 v1 v2 v3 v4 v5 v6 h13 else gd (decide (kd h13 v0 = 11)) <| ob (zR h13 v0 15) fun q15 => gd (decide (kd h13 q15 = 13)) <| gd (ix v2 (zl h13 q15)) <| ob (zR h13 v0 15) fun q19 => gd (decide (kd h13 q19 = 13)) <| gd (ix v3 (zl h13 q19)) <| (if (zI h13 q15 (v2).toNatClampNeg) = (zI h13 q19 (v3).toNatClampNeg) then F_X12_meeting_b100 v0 v1 v2 v3 (v4 + (1 : Int32)) v6 v5 (1 : Int32) h13 else F_X12_meeting_b100 v0 v1 v2 v3 (v4 + (1 : Int32)) v6 v5 (0 : Int32) h13)))
set_option maxHeartbeats 4000000 in
set_option maxRecDepth 100000 in
theorem r_X12_meeting_l53 (v0 : Nat) (v1 : Int32) (v2 : Int32) (v3 : Int32) (v4 : Int32) (v5 : Int32) (v6 : Int32) (h : Hp) {x : Cx} {o : ((Int32 × Int32 × Int32 × Hp) ⊕ (Int32 × Int32 × Hp))} (e : F_X12_meeting_l53 v0 v1 v2 v3 v4 v5 v6 h = some o) (kI : ∀ z, o = .inl z → V M_X12_meeting x 6 53 [(0, .ref v0), (1, .int v1), (2, .int v2), (3, .int v3), (4, .int z.1), (5, .int z.2.1), (6, .int z.2.2.1)] [] z.2.2.2 0 0) (kE109 : ∀ z : Int32 × Int32 × Hp, o = .inr z → V M_X12_meeting x 6 109 [(4, .int z.1), (5, .int z.2.1)] [] z.2.2 0 0) : V M_X12_meeting x 6 53 [(0, .ref v0), (1, .int v1), (2, .int v2), (3, .int v3), (4, .int v4), (5, .int v5), (6, .int v6)] [] h 0 0 := by
  unfold F_X12_meeting_l53 at e
  refine V_iload (pc := 53) (i := 6) dX12_meeting_53 rfl ?_
  refine V_aload_n (pc := 55) (i := 0) dX12_meeting_55 rfl rfl ?_
  obtain ⟨r9, g8, e⟩ := ob_some e
  obtain ⟨g10, e⟩ := gd_some e
  refine V_callV (pc := 56) (bc := 0) (bs := 0) (mc := 0) (ms := 0) (st := [.int v6]) (As := []) (a := v0) (h' := h) (r := some (.int r9)) dX12_meeting_56 ml_X12_337 (ci := 11) rfl (of_decide_eq_true g10) rfl rfl (Nat.le_of_ble_eq_true rfl) (d' := 1) (by decide) (c_X12_many (l := x.2.1) v0 h g8) ?_
  refine V_icmp_ge (pc := 59) (tgt := 109) dX12_meeting_59 (by decide) (fun c25 => ?_) (fun c25 => ?_)
  · rw [if_pos c25] at e
    cases e
    exact V_pick [4, 5] rfl (kE109 (v4, v5, h) rfl)
  · rw [if_neg c25] at e
    refine V_pick [0, 1, 2, 3, 4, 5, 6] rfl ?_
    refine V_aload_n (pc := 62) (i := 0) dX12_meeting_62 rfl rfl ?_
    refine V_iload (pc := 63) (i := 6) dX12_meeting_63 rfl ?_
    refine V_iload_n (pc := 65) (i := 1) dX12_meeting_65 rfl rfl ?_
    obtain ⟨r12, h13, g11, e⟩ := ob2_some e
    refine V_callV (pc := 66) (bc := 0) (bs := 0) (mc := 0) (ms := 0) (st := []) (As := [.int v6, .int v1]) (a := v0) (h' := h13) (r := some (.int r12)) dX12_meeting_66 ml_X12_411 (ci := 11) rfl (of_decide_eq_true g10) rfl rfl (Nat.le_of_ble_eq_true rfl) (d' := 5) (by decide) (c_X12_isRead (l := x.2.1) v0 v6 v1 h g11) ?_
    refine V_if_ne (pc := 69) (tgt := 75) dX12_meeting_69 (by decide) (fun c24 => ?_) (fun c24 => ?_)
    · rw [if_neg c24] at e
      refine V_pick [0, 1, 2, 3, 4, 5, 6] rfl ?_
      refine V_iinc (pc := 75) (i := 4) (u := v4 + (1 : Int32)) (lv' := [(4, .int (v4 + (1 : Int32))), (0, .ref v0), (1, .int v1), (2, .int v2), (3, .int v3), (5, .int v5), (6, .int v6)]) dX12_meeting_75 rfl rfl (by decide) rfl ?_
      refine V_iload (pc := 78) (i := 5) dX12_meeting_78 rfl ?_
      refine V_aload_n (pc := 80) (i := 0) dX12_meeting_80 rfl rfl ?_
      obtain ⟨g14, e⟩ := gd_some e
      obtain ⟨q15, g16, e⟩ := ob_some e
      refine V_getR (pc := 81) (ci := 11) (k := 15) (b := q15) dX12_meeting_81 fl_X12_36 rfl (of_decide_eq_true g14) g16 ?_
      refine V_iload_n (pc := 84) (i := 2) dX12_meeting_84 rfl rfl ?_
      obtain ⟨g17, e⟩ := gd_some e
      obtain ⟨g18, e⟩ := gd_some e
      refine V_iald (pc := 85) dX12_meeting_85 (of_decide_eq_true g17) (ix_in g18) ?_
      refine V_aload_n (pc := 86) (i := 0) dX12_meeting_86 rfl rfl ?_
      obtain ⟨q19, g20, e⟩ := ob_some e
      refine V_getR (pc := 87) (ci := 11) (k := 15) (b := q19) dX12_meeting_87 fl_X12_36 rfl (of_decide_eq_true g14) g20 ?_
      refine V_iload_n (pc := 90) (i := 3) dX12_meeting_90 rfl rfl ?_
      obtain ⟨g21, e⟩ := gd_some e
      obtain ⟨g22, e⟩ := gd_some e
      refine V_iald (pc := 91) dX12_meeting_91 (of_decide_eq_true g21) (ix_in g22) ?_
      refine V_icmp_ne (pc := 92) (tgt := 99) dX12_meeting_92 (by decide) (fun c23 => ?_) (fun c23 => ?_)
      · rw [if_neg c23] at e
        refine V_pick [1, 2, 3, 4, 0, 6] rfl ?_
        refine V_iconst (pc := 99) (v := (0 : Int32)) dX12_meeting_99 (by decide) ?_
        exact V_pick [0, 1, 2, 3, 4, 5] rfl (r_X12_meeting_b100 v0 v1 v2 v3 (v4 + (1 : Int32)) v6 v5 (0 : Int32) h13 e kI kE109)
      · rw [if_pos c23] at e
        refine V_pick [1, 2, 3, 4, 0, 6] rfl ?_
        refine V_iconst (pc := 95) (v := (1 : Int32)) dX12_meeting_95 (by decide) ?_
        refine V_goto (pc := 96) (tgt := 100) dX12_meeting_96 (by decide) ?_
        exact V_pick [0, 1, 2, 3, 4, 5] rfl (r_X12_meeting_b100 v0 v1 v2 v3 (v4 + (1 : Int32)) v6 v5 (1 : Int32) h13 e kI kE109)
    · rw [if_pos c24] at e
      refine V_pick [0, 1, 2, 3, 4, 5, 6] rfl ?_
      refine V_goto (pc := 72) (tgt := 103) dX12_meeting_72 (by decide) ?_
      exact V_pick [0, 1, 2, 3, 4, 5, 6] rfl (r_X12_meeting_b103 v0 v1 v2 v3 v4 v5 v6 h13 e kI kE109)
set_option maxRecDepth 100000 in
def F_X12_meeting_b139 (t0 : Int32) (h : Hp) : Option (Int32 × Hp) :=
  some (t0, h)
set_option maxHeartbeats 4000000 in
set_option maxRecDepth 100000 in
theorem r_X12_meeting_b139 (t0 : Int32) (h : Hp) {x : Cx} {r : Int32} {hz : Hp} (e : F_X12_meeting_b139 t0 h = some (r, hz)) (hF : Fin9 M_X12_meeting x (some .int) (some (.int r)) hz) : V M_X12_meeting x 6 139 [] [.int t0] h 0 0 := by
  unfold F_X12_meeting_b139 at e
  cases e
  exact V_iret (pc := 139) dX12_meeting_139 hF
set_option maxRecDepth 100000 in
def F_X12_meeting_b35 (v0 : Nat) (v1 : Int32) (v2 : Int32) (v3 : Int32) (t0 : Nat) (t1 : Int32) (h : Hp) : Option (Int32 × Hp) :=
  ob2 (F_X12_throwsIf t0 t1 (1 : Int32) h) fun r5 h6 => gd (decide (kd h t0 = 11)) <| (if r5 = 0 then ob (iter (fun z : Int32 × Int32 × Int32 × Hp => F_X12_meeting_l53 v0 v1 v2 v3 z.1 z.2.1 z.2.2.1 z.2.2.2) FU ((0 : Int32), (0 : Int32), (0 : Int32), h6)) (fun z => un3 z fun w26 w27 h28 => (if w26 = 0 then F_X12_meeting_b139 (-1 : Int32) h28 else (if w27 = w26 then F_X12_meeting_b139 (2 : Int32) h28 else (if w27 ≤ 0 then F_X12_meeting_b139 (0 : Int32) h28 else F_X12_meeting_b139 (1 : Int32) h28)))) else some ((0 : Int32), h6))
set_option maxHeartbeats 4000000 in
set_option maxRecDepth 100000 in
theorem r_X12_meeting_b35 (v0 : Nat) (v1 : Int32) (v2 : Int32) (v3 : Int32) (t0 : Nat) (t1 : Int32) (h : Hp) {x : Cx} {r : Int32} {hz : Hp} (e : F_X12_meeting_b35 v0 v1 v2 v3 t0 t1 h = some (r, hz)) (hF : Fin9 M_X12_meeting x (some .int) (some (.int r)) hz) : V M_X12_meeting x 6 35 [(0, .ref v0), (1, .int v1), (2, .int v2), (3, .int v3)] [.int t1, .ref t0] h 0 0 := by
  unfold F_X12_meeting_b35 at e
  refine V_iconst (pc := 35) (v := (1 : Int32)) dX12_meeting_35 (by decide) ?_
  obtain ⟨r5, h6, g4, e⟩ := ob2_some e
  obtain ⟨g7, e⟩ := gd_some e
  refine V_callV (pc := 36) (bc := 0) (bs := 0) (mc := 0) (ms := 0) (st := []) (As := [.int t1, .int (1 : Int32)]) (a := t0) (h' := h6) (r := some (.int r5)) dX12_meeting_36 ml_X12_240 (ci := 11) rfl (of_decide_eq_true g7) rfl rfl (Nat.le_of_ble_eq_true rfl) (d' := 0) (by decide) (c_X12_throwsIf (l := x.2.1) t0 t1 (1 : Int32) h g4) ?_
  refine V_if_eq (pc := 39) (tgt := 44) dX12_meeting_39 (by decide) (fun c34 => ?_) (fun c34 => ?_)
  · rw [if_pos c34] at e
    refine V_pick [0, 1, 2, 3] rfl ?_
    refine V_iconst (pc := 44) (v := (0 : Int32)) dX12_meeting_44 (by decide) ?_
    refine V_istore (pc := 45) (i := 4) (lv' := [(4, .int (0 : Int32)), (0, .ref v0), (1, .int v1), (2, .int v2), (3, .int v3)]) dX12_meeting_45 (by decide) rfl ?_
    refine V_iconst (pc := 47) (v := (0 : Int32)) dX12_meeting_47 (by decide) ?_
    refine V_istore (pc := 48) (i := 5) (lv' := [(5, .int (0 : Int32)), (4, .int (0 : Int32)), (0, .ref v0), (1, .int v1), (2, .int v2), (3, .int v3)]) dX12_meeting_48 (by decide) rfl ?_
    refine V_iconst (pc := 50) (v := (0 : Int32)) dX12_meeting_50 (by decide) ?_
    refine V_istore (pc := 51) (i := 6) (lv' := [(6, .int (0 : Int32)), (5, .int (0 : Int32)), (4, .int (0 : Int32)), (0, .ref v0), (1, .int v1), (2, .int v2), (3, .int v3)]) dX12_meeting_51 (by decide) rfl ?_
    refine V_pick [3, 4, 5, 6, 2, 1, 0] rfl ?_
    obtain ⟨y32, g33, e⟩ := ob_some e
    refine iter_V (P := fun z : Int32 × Int32 × Int32 × Hp => V M_X12_meeting x 6 53 [(0, .ref v0), (1, .int v1), (2, .int v2), (3, .int v3), (4, .int z.1), (5, .int z.2.1), (6, .int z.2.2.1)] [] z.2.2.2 0 0) (E := fun z : Int32 × Int32 × Hp => V M_X12_meeting x 6 109 [(4, .int z.1), (5, .int z.2.1)] [] z.2.2 0 0) (fun z o e9 k1 k2 => r_X12_meeting_l53 v0 v1 v2 v3 z.1 z.2.1 z.2.2.1 z.2.2.2 e9 (fun z hz9 => k1 z hz9) (fun z hz9 => k2 _ hz9)) _ _ _ g33 ?_
    clear g33
    obtain ⟨w26, w27, h28⟩ := y32
    replace e : ((if w26 = 0 then F_X12_meeting_b139 (-1 : Int32) h28 else (if w27 = w26 then F_X12_meeting_b139 (2 : Int32) h28 else (if w27 ≤ 0 then F_X12_meeting_b139 (0 : Int32) h28 else F_X12_meeting_b139 (1 : Int32) h28)))) = some (r, hz) := e
    show V M_X12_meeting x 6 109 [(4, .int w26), (5, .int w27)] [] h28 0 0
    refine V_iload (pc := 109) (i := 4) dX12_meeting_109 rfl ?_
    refine V_if_ne (pc := 111) (tgt := 118) dX12_meeting_111 (by decide) (fun c31 => ?_) (fun c31 => ?_)
    · rw [if_neg c31] at e
      refine V_pick [0, 1] rfl ?_
      refine V_iload (pc := 118) (i := 5) dX12_meeting_118 rfl ?_
      refine V_iload (pc := 120) (i := 4) dX12_meeting_120 rfl ?_
      refine V_icmp_ne (pc := 122) (tgt := 129) dX12_meeting_122 (by decide) (fun c30 => ?_) (fun c30 => ?_)
      · rw [if_neg c30] at e
        refine V_pick [1] rfl ?_
        refine V_iload (pc := 129) (i := 5) dX12_meeting_129 rfl ?_
        refine V_if_le (pc := 131) (tgt := 138) dX12_meeting_131 (by decide) (fun c29 => ?_) (fun c29 => ?_)
        · rw [if_pos c29] at e
          refine V_pick [] rfl ?_
          refine V_iconst (pc := 138) (v := (0 : Int32)) dX12_meeting_138 (by decide) ?_
          exact V_pick [] rfl (r_X12_meeting_b139 (0 : Int32) h28 e hF)
        · rw [if_neg c29] at e
          refine V_pick [] rfl ?_
          refine V_iconst (pc := 134) (v := (1 : Int32)) dX12_meeting_134 (by decide) ?_
          refine V_goto (pc := 135) (tgt := 139) dX12_meeting_135 (by decide) ?_
          exact V_pick [] rfl (r_X12_meeting_b139 (1 : Int32) h28 e hF)
      · rw [if_pos c30] at e
        refine V_pick [] rfl ?_
        refine V_iconst (pc := 125) (v := (2 : Int32)) dX12_meeting_125 (by decide) ?_
        refine V_goto (pc := 126) (tgt := 139) dX12_meeting_126 (by decide) ?_
        exact V_pick [] rfl (r_X12_meeting_b139 (2 : Int32) h28 e hF)
    · rw [if_pos c31] at e
      refine V_pick [] rfl ?_
      refine V_iconst (pc := 114) (v := (-1 : Int32)) dX12_meeting_114 (by decide) ?_
      refine V_goto (pc := 115) (tgt := 139) dX12_meeting_115 (by decide) ?_
      exact V_pick [] rfl (r_X12_meeting_b139 (-1 : Int32) h28 e hF)
  · rw [if_neg c34] at e
    refine V_pick [] rfl ?_
    refine V_iconst (pc := 42) (v := (0 : Int32)) dX12_meeting_42 (by decide) ?_
    cases e
    exact V_iret (pc := 43) dX12_meeting_43 hF
set_option maxRecDepth 100000 in
def F_X12_meeting_b30 (v0 : Nat) (v1 : Int32) (v2 : Int32) (v3 : Int32) (t0 : Nat) (h : Hp) : Option (Int32 × Hp) :=
  F_X12_meeting_b35 v0 v1 v2 v3 t0 (1 : Int32) h
set_option maxHeartbeats 4000000 in
set_option maxRecDepth 100000 in
theorem r_X12_meeting_b30 (v0 : Nat) (v1 : Int32) (v2 : Int32) (v3 : Int32) (t0 : Nat) (h : Hp) {x : Cx} {r : Int32} {hz : Hp} (e : F_X12_meeting_b30 v0 v1 v2 v3 t0 h = some (r, hz)) (hF : Fin9 M_X12_meeting x (some .int) (some (.int r)) hz) : V M_X12_meeting x 6 30 [(0, .ref v0), (1, .int v1), (2, .int v2), (3, .int v3)] [.ref t0] h 0 0 := by
  unfold F_X12_meeting_b30 at e
  refine V_iconst (pc := 30) (v := (1 : Int32)) dX12_meeting_30 (by decide) ?_
  refine V_goto (pc := 31) (tgt := 35) dX12_meeting_31 (by decide) ?_
  exact V_pick [0, 1, 2, 3] rfl (r_X12_meeting_b35 v0 v1 v2 v3 t0 (1 : Int32) h e hF)
set_option maxRecDepth 100000 in
def F_X12_meeting_b0 (v0 : Nat) (v1 : Int32) (v2 : Int32) (v3 : Int32) (h : Hp) : Option (Int32 × Hp) :=
  gd (decide (kd h v0 = 11)) <| ob (F_X12_noReading v0 v1 (setI h v0 0 (0 : Int32))) fun r3 => (if r3 = 0 then ob (F_X12_noGuest v0 v2 (setI h v0 0 (0 : Int32))) fun r36 => (if r36 = 0 then ob (F_X12_noGuest v0 v3 (setI h v0 0 (0 : Int32))) fun r38 => (if r38 = 0 then F_X12_meeting_b35 v0 v1 v2 v3 v0 (0 : Int32) (setI h v0 0 (0 : Int32)) else F_X12_meeting_b30 v0 v1 v2 v3 v0 (setI h v0 0 (0 : Int32))) else F_X12_meeting_b30 v0 v1 v2 v3 v0 (setI h v0 0 (0 : Int32))) else F_X12_meeting_b30 v0 v1 v2 v3 v0 (setI h v0 0 (0 : Int32)))
set_option maxHeartbeats 4000000 in
set_option maxRecDepth 100000 in
theorem r_X12_meeting_b0 (v0 : Nat) (v1 : Int32) (v2 : Int32) (v3 : Int32) (h : Hp) {x : Cx} {r : Int32} {hz : Hp} (e : F_X12_meeting_b0 v0 v1 v2 v3 h = some (r, hz)) (hF : Fin9 M_X12_meeting x (some .int) (some (.int r)) hz) : V M_X12_meeting x 6 0 [(0, .ref v0), (1, .int v1), (2, .int v2), (3, .int v3)] [] h 0 0 := by
  unfold F_X12_meeting_b0 at e
  refine V_aload_n (pc := 0) (i := 0) dX12_meeting_0 rfl rfl ?_
  refine V_iconst (pc := 1) (v := (0 : Int32)) dX12_meeting_1 (by decide) ?_
  obtain ⟨g1, e⟩ := gd_some e
  refine V_putI (pc := 2) (ci := 11) (k := 0) dX12_meeting_2 fp_X12_3 rfl (of_decide_eq_true g1) ?_
  refine V_aload_n (pc := 5) (i := 0) dX12_meeting_5 rfl rfl ?_
  refine V_aload_n (pc := 6) (i := 0) dX12_meeting_6 rfl rfl ?_
  refine V_iload_n (pc := 7) (i := 1) dX12_meeting_7 rfl rfl ?_
  obtain ⟨r3, g2, e⟩ := ob_some e
  refine V_callV (pc := 8) (bc := 0) (bs := 0) (mc := 0) (ms := 0) (st := [.ref v0]) (As := [.int v1]) (a := v0) (h' := (setI h v0 0 (0 : Int32))) (r := some (.int r3)) dX12_meeting_8 ml_X12_408 (ci := 11) rfl (kd_sI (of_decide_eq_true g1)) rfl rfl (Nat.le_of_ble_eq_true rfl) (d' := 1) (by decide) (c_X12_noReading (l := x.2.1) v0 v1 (setI h v0 0 (0 : Int32)) g2) ?_
  refine V_if_ne (pc := 11) (tgt := 30) dX12_meeting_11 (by decide) (fun c41 => ?_) (fun c41 => ?_)
  · rw [if_neg c41] at e
    exact V_pick [0, 1, 2, 3] rfl (r_X12_meeting_b30 v0 v1 v2 v3 v0 (setI h v0 0 (0 : Int32)) e hF)
  · rw [if_pos c41] at e
    refine V_pick [0, 1, 2, 3] rfl ?_
    refine V_aload_n (pc := 14) (i := 0) dX12_meeting_14 rfl rfl ?_
    refine V_iload_n (pc := 15) (i := 2) dX12_meeting_15 rfl rfl ?_
    obtain ⟨r36, g35, e⟩ := ob_some e
    refine V_callV (pc := 16) (bc := 0) (bs := 0) (mc := 0) (ms := 0) (st := [.ref v0]) (As := [.int v2]) (a := v0) (h' := (setI h v0 0 (0 : Int32))) (r := some (.int r36)) dX12_meeting_16 ml_X12_244 (ci := 11) rfl (kd_sI (of_decide_eq_true g1)) rfl rfl (Nat.le_of_ble_eq_true rfl) (d' := 1) (by decide) (c_X12_noGuest (l := x.2.1) v0 v2 (setI h v0 0 (0 : Int32)) g35) ?_
    refine V_if_ne (pc := 19) (tgt := 30) dX12_meeting_19 (by decide) (fun c40 => ?_) (fun c40 => ?_)
    · rw [if_neg c40] at e
      exact V_pick [0, 1, 2, 3] rfl (r_X12_meeting_b30 v0 v1 v2 v3 v0 (setI h v0 0 (0 : Int32)) e hF)
    · rw [if_pos c40] at e
      refine V_pick [0, 1, 2, 3] rfl ?_
      refine V_aload_n (pc := 22) (i := 0) dX12_meeting_22 rfl rfl ?_
      refine V_iload_n (pc := 23) (i := 3) dX12_meeting_23 rfl rfl ?_
      obtain ⟨r38, g37, e⟩ := ob_some e
      refine V_callV (pc := 24) (bc := 0) (bs := 0) (mc := 0) (ms := 0) (st := [.ref v0]) (As := [.int v3]) (a := v0) (h' := (setI h v0 0 (0 : Int32))) (r := some (.int r38)) dX12_meeting_24 ml_X12_244 (ci := 11) rfl (kd_sI (of_decide_eq_true g1)) rfl rfl (Nat.le_of_ble_eq_true rfl) (d' := 1) (by decide) (c_X12_noGuest (l := x.2.1) v0 v3 (setI h v0 0 (0 : Int32)) g37) ?_
      refine V_if_eq (pc := 27) (tgt := 34) dX12_meeting_27 (by decide) (fun c39 => ?_) (fun c39 => ?_)
      · rw [if_pos c39] at e
        refine V_pick [0, 1, 2, 3] rfl ?_
        refine V_iconst (pc := 34) (v := (0 : Int32)) dX12_meeting_34 (by decide) ?_
        exact V_pick [0, 1, 2, 3] rfl (r_X12_meeting_b35 v0 v1 v2 v3 v0 (0 : Int32) (setI h v0 0 (0 : Int32)) e hF)
      · rw [if_neg c39] at e
        exact V_pick [0, 1, 2, 3] rfl (r_X12_meeting_b30 v0 v1 v2 v3 v0 (setI h v0 0 (0 : Int32)) e hF)
def F_X12_meeting (v0 : Nat) (v1 : Int32) (v2 : Int32) (v3 : Int32) (h : Hp) : Option (Int32 × Hp) := F_X12_meeting_b0 v0 v1 v2 v3 h
theorem c_X12_meeting {l : Launch} (v0 : Nat) (v1 : Int32) (v2 : Int32) (v3 : Int32) (h : Hp) {r : Int32} {hz : Hp} (e : F_X12_meeting v0 v1 v2 v3 h = some (r, hz)) : Ct l yX12_meeting M_X12_meeting (some .int) 6 [.ref v0, .int v1, .int v2, .int v3] h 0 0 (some (.int r)) hz :=
  Ct_of rfl rfl (fun q => by cases q) (Nat.le_of_ble_eq_true rfl) (fun x _ hF => V_pick [0, 1, 2, 3] rfl (r_X12_meeting_b0 v0 v1 v2 v3 h e hF))
theorem dX0_init_0 : decode cX0_init 0 = .ok (.aload_n 0, 1) := by decide +kernel
theorem dX0_init_1 : decode cX0_init 1 = .ok (.invokespecial 3, 3) := by decide +kernel
theorem dX0_init_4 : decode cX0_init 4 = .ok (.aload_n 0, 1) := by decide +kernel
theorem dX0_init_5 : decode cX0_init 5 = .ok (.bipush 20, 2) := by decide +kernel
theorem dX0_init_7 : decode cX0_init 7 = .ok (.newarray .int, 2) := by decide +kernel
theorem dX0_init_9 : decode cX0_init 9 = .ok (.putfield 9, 3) := by decide +kernel
theorem dX0_init_12 : decode cX0_init 12 = .ok (.aload_n 0, 1) := by decide +kernel
theorem dX0_init_13 : decode cX0_init 13 = .ok (.bipush 20, 2) := by decide +kernel
theorem dX0_init_15 : decode cX0_init 15 = .ok (.newarray .int, 2) := by decide +kernel
theorem dX0_init_17 : decode cX0_init 17 = .ok (.putfield 15, 3) := by decide +kernel
theorem dX0_init_20 : decode cX0_init 20 = .ok (.aload_n 0, 1) := by decide +kernel
theorem dX0_init_21 : decode cX0_init 21 = .ok (.bipush 20, 2) := by decide +kernel
theorem dX0_init_23 : decode cX0_init 23 = .ok (.newarray .int, 2) := by decide +kernel
theorem dX0_init_25 : decode cX0_init 25 = .ok (.putfield 18, 3) := by decide +kernel
theorem dX0_init_28 : decode cX0_init 28 = .ok (.return_, 1) := by decide +kernel
set_option maxRecDepth 100000 in
def F_X0_init_b0 (v0 : Nat) (h : Hp) : Option (Unit × Hp × Nat × Nat) :=
  ob2 (F_X7_init_k0 v0 h) fun _ h3 => ob (some (zN h3)) fun q4 => ac 1 ((20 : Int32)).toNatClampNeg <| gd (decide (kd (alloc h3 13 ((20 : Int32)).toNatClampNeg) v0 = 0)) <| ob (some (zN (setR (alloc h3 13 ((20 : Int32)).toNatClampNeg) v0 1 (some q4)))) fun q9 => ac 1 ((20 : Int32)).toNatClampNeg <| ob (some (setR (alloc (setR (alloc h3 13 ((20 : Int32)).toNatClampNeg) v0 1 (some q4)) 13 ((20 : Int32)).toNatClampNeg) v0 2 (some q9))) fun h13 => ob (some (zN h13)) fun q18 => ac 1 ((20 : Int32)).toNatClampNeg <| some ((), setR (alloc h13 13 ((20 : Int32)).toNatClampNeg) v0 3 (some q18), 0, 0)
set_option maxHeartbeats 4000000 in
set_option maxRecDepth 100000 in
theorem r_X0_init_b0 (v0 : Nat) (h : Hp) {x : Cx} {r : Unit} {hz : Hp} {c9 s9 : Nat} (e : F_X0_init_b0 v0 h = some (r, hz, c9, s9)) (hF : Fin9 M_X0_init x none none hz) : V M_X0_init x 2 0 [(0, .ref v0)] [] h c9 s9 := by
  unfold F_X0_init_b0 at e
  refine V_aload_n (pc := 0) (i := 0) dX0_init_0 rfl rfl ?_
  replace e := ob2_some e
  obtain ⟨r2, h3, g1, e⟩ := e
  refine V_callI (pc := 1) (bc := c9) (bs := s9) (mc := 0) (ms := 0) (st := []) (As := []) (a := v0) (h' := h3) dX0_init_1 ml_X0_3 rfl rfl (Nat.le_of_ble_eq_true rfl) (d' := 1) (by decide) (c_X7_init_k0 (l := x.2.1) v0 h g1) ?_
  refine V_aload_n (pc := 4) (i := 0) dX0_init_4 rfl rfl ?_
  refine V_bipush (pc := 5) (v := (20 : Int32)) dX0_init_5 (by decide) ?_
  replace e := ob_some e
  obtain ⟨q4, g5, e⟩ := e
  replace e := ac_some e
  obtain ⟨n6, n7, e, hc9, hs9⟩ := e
  rw [hc9, hs9]
  clear hc9 hs9
  refine V_newIQ (pc := 7) (n := (20 : Int32)) dX0_init_7 wa_int (by decide) (by decide) (q := q4) (bc := n6) (bs := n7) (Option.some.inj g5) ?_
  replace e := gd_some e
  obtain ⟨g8, e⟩ := e
  refine V_putRF (pc := 9) (ci := 0) (k := 1) dX0_init_9 fp_X0_9 rfl (of_decide_eq_true g8) (fun _ => ⟨rfl, rfl⟩) rfl ?_
  refine V_aload_n (pc := 12) (i := 0) dX0_init_12 rfl rfl ?_
  refine V_bipush (pc := 13) (v := (20 : Int32)) dX0_init_13 (by decide) ?_
  replace e := ob_some e
  obtain ⟨q9, g10, e⟩ := e
  replace e := ac_some e
  obtain ⟨n11, n12, e, hc9, hs9⟩ := e
  rw [hc9, hs9]
  clear hc9 hs9
  refine V_newIQ (pc := 15) (n := (20 : Int32)) dX0_init_15 wa_int (by decide) (by decide) (q := q9) (bc := n11) (bs := n12) (Option.some.inj g10) ?_
  refine V_putRF (pc := 17) (ci := 0) (k := 2) dX0_init_17 fp_X0_15 rfl (kd_old (kd_sR (of_decide_eq_true g8)) (by decide)) (fun _ => ⟨rfl, rfl⟩) rfl ?_
  replace e := ob_some e
  obtain ⟨h13, g14, e⟩ := e
  refine V_hp (Option.some.inj g14) ?_
  have k15 : kd h13 q4 = 13 := kd_eq (h := (setR (alloc (setR (alloc h3 13 ((20 : Int32)).toNatClampNeg) v0 1 (some q4)) 13 ((20 : Int32)).toNatClampNeg) v0 2 (some q9))) (Option.some.inj g14) (kd_sR (kd_old (kd_sR (kd_newq (Option.some.inj g5))) (by decide)))
  have k16 : kd h13 v0 = 0 := kd_eq (h := (setR (alloc (setR (alloc h3 13 ((20 : Int32)).toNatClampNeg) v0 1 (some q4)) 13 ((20 : Int32)).toNatClampNeg) v0 2 (some q9))) (Option.some.inj g14) (kd_sR (kd_old (kd_sR (of_decide_eq_true g8)) (by decide)))
  have k17 : kd h13 q9 = 13 := kd_eq (h := (setR (alloc (setR (alloc h3 13 ((20 : Int32)).toNatClampNeg) v0 1 (some q4)) 13 ((20 : Int32)).toNatClampNeg) v0 2 (some q9))) (Option.some.inj g14) (kd_sR (kd_newq (Option.some.inj g10)))
  refine V_aload_n (pc := 20) (i := 0) dX0_init_20 rfl rfl ?_
  refine V_bipush (pc := 21) (v := (20 : Int32)) dX0_init_21 (by decide) ?_
  replace e := ob_some e
  obtain ⟨q18, g19, e⟩ := e
  replace e := ac_some e
  obtain ⟨n20, n21, e, hc9, hs9⟩ := e
  rw [hc9, hs9]
  clear hc9 hs9
  refine V_newIQ (pc := 23) (n := (20 : Int32)) dX0_init_23 wa_int (by decide) (by decide) (q := q18) (bc := n20) (bs := n21) (Option.some.inj g19) ?_
  refine V_putRF (pc := 25) (ci := 0) (k := 3) dX0_init_25 fp_X0_18 rfl (kd_old k16 (by decide)) (fun _ => ⟨rfl, rfl⟩) rfl ?_
  cases e
  exact V_vret (pc := 28) dX0_init_28 hF
def F_X0_init (v0 : Nat) (h : Hp) : Option (Unit × Hp × Nat × Nat) := F_X0_init_b0 v0 h
theorem c_X0_init {l : Launch} (v0 : Nat) (h : Hp) {r : Unit} {hz : Hp} {c9 s9 : Nat} (e : F_X0_init v0 h = some (r, hz, c9, s9)) : Ct l yX0_init M_X0_init none 2 [.ref v0] h c9 s9 none hz :=
  Ct_of rfl rfl (fun _ => rfl) (Nat.le_of_ble_eq_true rfl) (fun x _ hF => V_pick [0] rfl (r_X0_init_b0 v0 h e hF))
theorem dX0_readLine_0 : decode cX0_readLine 0 = .ok (.aload_n 0, 1) := by decide +kernel
theorem dX0_readLine_1 : decode cX0_readLine 1 = .ok (.getfield 21, 3) := by decide +kernel
theorem dX0_readLine_4 : decode cX0_readLine 4 = .ok (.istore_n 3, 1) := by decide +kernel
theorem dX0_readLine_5 : decode cX0_readLine 5 = .ok (.iload_n 3, 1) := by decide +kernel
theorem dX0_readLine_6 : decode cX0_readLine 6 = .ok (.ifCond .lt 9, 3) := by decide +kernel
theorem dX0_readLine_9 : decode cX0_readLine 9 = .ok (.iload_n 3, 1) := by decide +kernel
theorem dX0_readLine_10 : decode cX0_readLine 10 = .ok (.bipush 20, 2) := by decide +kernel
theorem dX0_readLine_12 : decode cX0_readLine 12 = .ok (.if_icmp .lt 8, 3) := by decide +kernel
theorem dX0_readLine_15 : decode cX0_readLine 15 = .ok (.aload_n 1, 1) := by decide +kernel
theorem dX0_readLine_16 : decode cX0_readLine 16 = .ok (.invokevirtual 31, 3) := by decide +kernel
theorem dX0_readLine_19 : decode cX0_readLine 19 = .ok (.ireturn, 1) := by decide +kernel
theorem dX0_readLine_20 : decode cX0_readLine 20 = .ok (.iload_n 3, 1) := by decide +kernel
theorem dX0_readLine_21 : decode cX0_readLine 21 = .ok (.ifCond .ne 7, 3) := by decide +kernel
theorem dX0_readLine_24 : decode cX0_readLine 24 = .ok (.iconst 0, 1) := by decide +kernel
theorem dX0_readLine_25 : decode cX0_readLine 25 = .ok (.goto 11, 3) := by decide +kernel
theorem dX0_readLine_28 : decode cX0_readLine 28 = .ok (.aload_n 0, 1) := by decide +kernel
theorem dX0_readLine_29 : decode cX0_readLine 29 = .ok (.getfield 9, 3) := by decide +kernel
theorem dX0_readLine_32 : decode cX0_readLine 32 = .ok (.iload_n 3, 1) := by decide +kernel
theorem dX0_readLine_33 : decode cX0_readLine 33 = .ok (.iconst 1, 1) := by decide +kernel
theorem dX0_readLine_34 : decode cX0_readLine 34 = .ok (.isub, 1) := by decide +kernel
theorem dX0_readLine_35 : decode cX0_readLine 35 = .ok (.iaload, 1) := by decide +kernel
theorem dX0_readLine_36 : decode cX0_readLine 36 = .ok (.istore 4, 2) := by decide +kernel
theorem dX0_readLine_38 : decode cX0_readLine 38 = .ok (.aload_n 1, 1) := by decide +kernel
theorem dX0_readLine_39 : decode cX0_readLine 39 = .ok (.ldc 37, 2) := by decide +kernel
theorem dX0_readLine_41 : decode cX0_readLine 41 = .ok (.invokevirtual 39, 3) := by decide +kernel
theorem dX0_readLine_44 : decode cX0_readLine 44 = .ok (.ifCond .eq 15, 3) := by decide +kernel
theorem dX0_readLine_47 : decode cX0_readLine 47 = .ok (.aload_n 1, 1) := by decide +kernel
theorem dX0_readLine_48 : decode cX0_readLine 48 = .ok (.iload 4, 2) := by decide +kernel
theorem dX0_readLine_50 : decode cX0_readLine 50 = .ok (.sipush 999, 3) := by decide +kernel
theorem dX0_readLine_53 : decode cX0_readLine 53 = .ok (.invokevirtual 43, 3) := by decide +kernel
theorem dX0_readLine_56 : decode cX0_readLine 56 = .ok (.ifCond .ne 5, 3) := by decide +kernel
theorem dX0_readLine_59 : decode cX0_readLine 59 = .ok (.iconst 0, 1) := by decide +kernel
theorem dX0_readLine_60 : decode cX0_readLine 60 = .ok (.ireturn, 1) := by decide +kernel
theorem dX0_readLine_61 : decode cX0_readLine 61 = .ok (.aload_n 0, 1) := by decide +kernel
theorem dX0_readLine_62 : decode cX0_readLine 62 = .ok (.getfield 9, 3) := by decide +kernel
theorem dX0_readLine_65 : decode cX0_readLine 65 = .ok (.iload_n 3, 1) := by decide +kernel
theorem dX0_readLine_66 : decode cX0_readLine 66 = .ok (.aload_n 1, 1) := by decide +kernel
theorem dX0_readLine_67 : decode cX0_readLine 67 = .ok (.getfield 47, 3) := by decide +kernel
theorem dX0_readLine_70 : decode cX0_readLine 70 = .ok (.iastore, 1) := by decide +kernel
theorem dX0_readLine_71 : decode cX0_readLine 71 = .ok (.aload_n 1, 1) := by decide +kernel
theorem dX0_readLine_72 : decode cX0_readLine 72 = .ok (.iconst 0, 1) := by decide +kernel
theorem dX0_readLine_73 : decode cX0_readLine 73 = .ok (.aload_n 2, 1) := by decide +kernel
theorem dX0_readLine_74 : decode cX0_readLine 74 = .ok (.getfield 50, 3) := by decide +kernel
theorem dX0_readLine_77 : decode cX0_readLine 77 = .ok (.iconst 1, 1) := by decide +kernel
theorem dX0_readLine_78 : decode cX0_readLine 78 = .ok (.isub, 1) := by decide +kernel
theorem dX0_readLine_79 : decode cX0_readLine 79 = .ok (.invokevirtual 43, 3) := by decide +kernel
theorem dX0_readLine_82 : decode cX0_readLine 82 = .ok (.ifCond .ne 5, 3) := by decide +kernel
theorem dX0_readLine_85 : decode cX0_readLine 85 = .ok (.iconst 0, 1) := by decide +kernel
theorem dX0_readLine_86 : decode cX0_readLine 86 = .ok (.ireturn, 1) := by decide +kernel
theorem dX0_readLine_87 : decode cX0_readLine 87 = .ok (.aload_n 0, 1) := by decide +kernel
theorem dX0_readLine_88 : decode cX0_readLine 88 = .ok (.getfield 15, 3) := by decide +kernel
theorem dX0_readLine_91 : decode cX0_readLine 91 = .ok (.iload_n 3, 1) := by decide +kernel
theorem dX0_readLine_92 : decode cX0_readLine 92 = .ok (.aload_n 1, 1) := by decide +kernel
theorem dX0_readLine_93 : decode cX0_readLine 93 = .ok (.getfield 47, 3) := by decide +kernel
theorem dX0_readLine_96 : decode cX0_readLine 96 = .ok (.iastore, 1) := by decide +kernel
theorem dX0_readLine_97 : decode cX0_readLine 97 = .ok (.aload_n 1, 1) := by decide +kernel
theorem dX0_readLine_98 : decode cX0_readLine 98 = .ok (.ldc 55, 2) := by decide +kernel
theorem dX0_readLine_100 : decode cX0_readLine 100 = .ok (.invokevirtual 39, 3) := by decide +kernel
theorem dX0_readLine_103 : decode cX0_readLine 103 = .ok (.ifCond .eq 17, 3) := by decide +kernel
theorem dX0_readLine_106 : decode cX0_readLine 106 = .ok (.aload_n 1, 1) := by decide +kernel
theorem dX0_readLine_107 : decode cX0_readLine 107 = .ok (.iconst 0, 1) := by decide +kernel
theorem dX0_readLine_108 : decode cX0_readLine 108 = .ok (.aload_n 2, 1) := by decide +kernel
theorem dX0_readLine_109 : decode cX0_readLine 109 = .ok (.getfield 57, 3) := by decide +kernel
theorem dX0_readLine_112 : decode cX0_readLine 112 = .ok (.iconst 1, 1) := by decide +kernel
theorem dX0_readLine_113 : decode cX0_readLine 113 = .ok (.isub, 1) := by decide +kernel
theorem dX0_readLine_114 : decode cX0_readLine 114 = .ok (.invokevirtual 43, 3) := by decide +kernel
theorem dX0_readLine_117 : decode cX0_readLine 117 = .ok (.ifCond .ne 5, 3) := by decide +kernel
theorem dX0_readLine_120 : decode cX0_readLine 120 = .ok (.iconst 0, 1) := by decide +kernel
theorem dX0_readLine_121 : decode cX0_readLine 121 = .ok (.ireturn, 1) := by decide +kernel
theorem dX0_readLine_122 : decode cX0_readLine 122 = .ok (.aload_n 0, 1) := by decide +kernel
theorem dX0_readLine_123 : decode cX0_readLine 123 = .ok (.getfield 18, 3) := by decide +kernel
theorem dX0_readLine_126 : decode cX0_readLine 126 = .ok (.iload_n 3, 1) := by decide +kernel
theorem dX0_readLine_127 : decode cX0_readLine 127 = .ok (.aload_n 1, 1) := by decide +kernel
theorem dX0_readLine_128 : decode cX0_readLine 128 = .ok (.getfield 47, 3) := by decide +kernel
theorem dX0_readLine_131 : decode cX0_readLine 131 = .ok (.iastore, 1) := by decide +kernel
theorem dX0_readLine_132 : decode cX0_readLine 132 = .ok (.iconst 1, 1) := by decide +kernel
theorem dX0_readLine_133 : decode cX0_readLine 133 = .ok (.ireturn, 1) := by decide +kernel
set_option maxRecDepth 100000 in
def F_X0_readLine_b15 (v1 : Nat) (h : Hp) : Option (Int32 × Hp) :=
  ob2 (F_X6_refuse v1 h) fun r3 h4 => gd (decide (kd h v1 = 6)) <| gd (decide (r3 = 0 ∨ r3 = 1)) <| some (r3, h4)
set_option maxHeartbeats 4000000 in
set_option maxRecDepth 100000 in
theorem r_X0_readLine_b15 (v1 : Nat) (h : Hp) {x : Cx} {r : Int32} {hz : Hp} (e : F_X0_readLine_b15 v1 h = some (r, hz)) (hF : Fin9 M_X0_readLine x (some .boolean) (some (.int r)) hz) : V M_X0_readLine x 6 15 [(1, .ref v1)] [] h 0 0 := by
  unfold F_X0_readLine_b15 at e
  refine V_aload_n (pc := 15) (i := 1) dX0_readLine_15 rfl rfl ?_
  obtain ⟨r3, h4, g2, e⟩ := ob2_some e
  obtain ⟨g5, e⟩ := gd_some e
  refine V_callV (pc := 16) (bc := 0) (bs := 0) (mc := 0) (ms := 0) (st := []) (As := []) (a := v1) (h' := h4) (r := some (.int r3)) dX0_readLine_16 ml_X0_31 (ci := 6) rfl (of_decide_eq_true g5) rfl rfl (Nat.le_of_ble_eq_true rfl) (d' := 0) (by decide) (c_X6_refuse (l := x.2.1) v1 h g2) ?_
  obtain ⟨g6, e⟩ := gd_some e
  cases e
  exact V_zret (pc := 19) dX0_readLine_19 (z01 (of_decide_eq_true g6)) hF
set_option maxRecDepth 100000 in
def F_X0_readLine_b59  (h : Hp) : Option (Int32 × Hp) :=
  some ((0 : Int32), h)
set_option maxHeartbeats 4000000 in
set_option maxRecDepth 100000 in
theorem r_X0_readLine_b59  (h : Hp) {x : Cx} {r : Int32} {hz : Hp} (e : F_X0_readLine_b59  h = some (r, hz)) (hF : Fin9 M_X0_readLine x (some .boolean) (some (.int r)) hz) : V M_X0_readLine x 6 59 [] [] h 0 0 := by
  unfold F_X0_readLine_b59 at e
  refine V_iconst (pc := 59) (v := (0 : Int32)) dX0_readLine_59 (by decide) ?_
  cases e
  exact V_zret (pc := 60) dX0_readLine_60 rfl hF
set_option maxRecDepth 100000 in
def F_X0_readLine_b120  (h : Hp) : Option (Int32 × Hp) :=
  some ((0 : Int32), h)
set_option maxHeartbeats 4000000 in
set_option maxRecDepth 100000 in
theorem r_X0_readLine_b120  (h : Hp) {x : Cx} {r : Int32} {hz : Hp} (e : F_X0_readLine_b120  h = some (r, hz)) (hF : Fin9 M_X0_readLine x (some .boolean) (some (.int r)) hz) : V M_X0_readLine x 6 120 [] [] h 0 0 := by
  unfold F_X0_readLine_b120 at e
  refine V_iconst (pc := 120) (v := (0 : Int32)) dX0_readLine_120 (by decide) ?_
  cases e
  exact V_zret (pc := 121) dX0_readLine_121 rfl hF
set_option maxRecDepth 100000 in
def F_X0_readLine_b36 (v0 : Nat) (v1 : Nat) (v2 : Nat) (v3 : Int32) (t0 : Int32) (h : Hp) : Option (Int32 × Hp) :=
  ob2 (F_X6_takeWord v1 (0 : UInt32) h) fun r12 h13 => gd (decide (kd h v1 = 6)) <| (if r12 = 0 then F_X0_readLine_b59 h13 else ob2 (F_X6_takeNumber v1 t0 (999 : Int32) h13) fun r16 h17 => gd (decide (kd h13 v1 = 6)) <| (if r16 = 0 then F_X0_readLine_b59 h17 else gd (decide (kd h17 v0 = 0)) <| ob (zR h17 v0 1) fun q20 => gd (decide (kd h17 v1 = 6)) <| gd (decide (kd h17 q20 = 13)) <| gd (ix v3 (zl h17 q20)) <| gd (decide (kd (setI h17 q20 (v3).toNatClampNeg (zI h17 v1 5)) v2 = 2)) <| ob2 (F_X6_takeNumber v1 (0 : Int32) ((zI (setI h17 q20 (v3).toNatClampNeg (zI h17 v1 5)) v2 5) - (1 : Int32)) (setI h17 q20 (v3).toNatClampNeg (zI h17 v1 5))) fun r27 h28 => (if r27 = 0 then some ((0 : Int32), h28) else gd (decide (kd h28 v0 = 0)) <| ob (zR h28 v0 2) fun q30 => gd (decide (kd h28 v1 = 6)) <| gd (decide (kd h28 q30 = 13)) <| gd (ix v3 (zl h28 q30)) <| ob2 (F_X6_takeWord v1 (1 : UInt32) (setI h28 q30 (v3).toNatClampNeg (zI h28 v1 5))) fun r36 h37 => (if r36 = 0 then F_X0_readLine_b120 h37 else gd (decide (kd h37 v2 = 2)) <| ob2 (F_X6_takeNumber v1 (0 : Int32) ((zI h37 v2 0) - (1 : Int32)) h37) fun r40 h41 => gd (decide (kd h37 v1 = 6)) <| (if r40 = 0 then F_X0_readLine_b120 h41 else gd (decide (kd h41 v0 = 0)) <| ob (zR h41 v0 3) fun q44 => gd (decide (kd h41 v1 = 6)) <| gd (decide (kd h41 q44 = 13)) <| gd (ix v3 (zl h41 q44)) <| some ((1 : Int32), setI h41 q44 (v3).toNatClampNeg (zI h41 v1 5)))))))
set_option maxHeartbeats 4000000 in
set_option maxRecDepth 100000 in
theorem r_X0_readLine_b36 (v0 : Nat) (v1 : Nat) (v2 : Nat) (v3 : Int32) (t0 : Int32) (h : Hp) {x : Cx} {r : Int32} {hz : Hp} (e : F_X0_readLine_b36 v0 v1 v2 v3 t0 h = some (r, hz)) (hF : Fin9 M_X0_readLine x (some .boolean) (some (.int r)) hz) : V M_X0_readLine x 6 36 [(0, .ref v0), (1, .ref v1), (2, .ref v2), (3, .int v3)] [.int t0] h 0 0 := by
  unfold F_X0_readLine_b36 at e
  refine V_istore (pc := 36) (i := 4) (lv' := [(4, .int t0), (0, .ref v0), (1, .ref v1), (2, .ref v2), (3, .int v3)]) dX0_readLine_36 (by decide) rfl ?_
  refine V_aload_n (pc := 38) (i := 1) dX0_readLine_38 rfl rfl ?_
  refine V_ldcS (pc := 39) (j := 0) (u := (0 : UInt32)) dX0_readLine_39 rfl (by decide) ?_
  obtain ⟨r12, h13, g11, e⟩ := ob2_some e
  obtain ⟨g14, e⟩ := gd_some e
  refine V_callV (pc := 41) (bc := 0) (bs := 0) (mc := 0) (ms := 0) (st := []) (As := [.float (0 : UInt32)]) (a := v1) (h' := h13) (r := some (.int r12)) dX0_readLine_41 ml_X0_39 (ci := 6) rfl (of_decide_eq_true g14) rfl rfl (Nat.le_of_ble_eq_true rfl) (d' := 5) (by decide) (c_X6_takeWord (l := x.2.1) v1 (0 : UInt32) h g11) ?_
  refine V_if_eq (pc := 44) (tgt := 59) dX0_readLine_44 (by decide) (fun c53 => ?_) (fun c53 => ?_)
  · rw [if_pos c53] at e
    exact V_pick [] rfl (r_X0_readLine_b59 h13 e hF)
  · rw [if_neg c53] at e
    refine V_pick [1, 2, 3, 4, 0] rfl ?_
    refine V_aload_n (pc := 47) (i := 1) dX0_readLine_47 rfl rfl ?_
    refine V_iload (pc := 48) (i := 4) dX0_readLine_48 rfl ?_
    refine V_sipush (pc := 50) (v := (999 : Int32)) dX0_readLine_50 (by decide) ?_
    obtain ⟨r16, h17, g15, e⟩ := ob2_some e
    obtain ⟨g18, e⟩ := gd_some e
    refine V_callV (pc := 53) (bc := 0) (bs := 0) (mc := 0) (ms := 0) (st := []) (As := [.int t0, .int (999 : Int32)]) (a := v1) (h' := h17) (r := some (.int r16)) dX0_readLine_53 ml_X0_43 (ci := 6) rfl (of_decide_eq_true g18) rfl rfl (Nat.le_of_ble_eq_true rfl) (d' := 2) (by decide) (c_X6_takeNumber (l := x.2.1) v1 t0 (999 : Int32) h13 g15) ?_
    refine V_if_ne (pc := 56) (tgt := 61) dX0_readLine_56 (by decide) (fun c52 => ?_) (fun c52 => ?_)
    · rw [if_neg c52] at e
      refine V_pick [0, 1, 2, 3] rfl ?_
      refine V_aload_n (pc := 61) (i := 0) dX0_readLine_61 rfl rfl ?_
      obtain ⟨g19, e⟩ := gd_some e
      obtain ⟨q20, g21, e⟩ := ob_some e
      refine V_getR (pc := 62) (ci := 0) (k := 1) (b := q20) dX0_readLine_62 fl_X0_9 rfl (of_decide_eq_true g19) g21 ?_
      refine V_iload_n (pc := 65) (i := 3) dX0_readLine_65 rfl rfl ?_
      refine V_aload_n (pc := 66) (i := 1) dX0_readLine_66 rfl rfl ?_
      obtain ⟨g22, e⟩ := gd_some e
      refine V_getI (pc := 67) (ci := 6) (k := 5) dX0_readLine_67 fl_X0_47 rfl (of_decide_eq_true g22) ?_
      obtain ⟨g23, e⟩ := gd_some e
      obtain ⟨g24, e⟩ := gd_some e
      refine V_iast (pc := 70) dX0_readLine_70 (of_decide_eq_true g23) (ix_in g24) ?_
      refine V_aload_n (pc := 71) (i := 1) dX0_readLine_71 rfl rfl ?_
      refine V_iconst (pc := 72) (v := (0 : Int32)) dX0_readLine_72 (by decide) ?_
      refine V_aload_n (pc := 73) (i := 2) dX0_readLine_73 rfl rfl ?_
      obtain ⟨g25, e⟩ := gd_some e
      refine V_getI (pc := 74) (ci := 2) (k := 5) dX0_readLine_74 fl_X0_50 rfl (of_decide_eq_true g25) ?_
      refine V_iconst (pc := 77) (v := (1 : Int32)) dX0_readLine_77 (by decide) ?_
      refine V_isub (pc := 78) dX0_readLine_78 ?_
      obtain ⟨r27, h28, g26, e⟩ := ob2_some e
      refine V_callV (pc := 79) (bc := 0) (bs := 0) (mc := 0) (ms := 0) (st := []) (As := [.int (0 : Int32), .int ((zI (setI h17 q20 (v3).toNatClampNeg (zI h17 v1 5)) v2 5) - (1 : Int32))]) (a := v1) (h' := h28) (r := some (.int r27)) dX0_readLine_79 ml_X0_43 (ci := 6) rfl (kd_sI (of_decide_eq_true g22)) rfl rfl (Nat.le_of_ble_eq_true rfl) (d' := 2) (by decide) (c_X6_takeNumber (l := x.2.1) v1 (0 : Int32) ((zI (setI h17 q20 (v3).toNatClampNeg (zI h17 v1 5)) v2 5) - (1 : Int32)) (setI h17 q20 (v3).toNatClampNeg (zI h17 v1 5)) g26) ?_
      refine V_if_ne (pc := 82) (tgt := 87) dX0_readLine_82 (by decide) (fun c51 => ?_) (fun c51 => ?_)
      · rw [if_neg c51] at e
        refine V_pick [0, 1, 2, 3] rfl ?_
        refine V_aload_n (pc := 87) (i := 0) dX0_readLine_87 rfl rfl ?_
        obtain ⟨g29, e⟩ := gd_some e
        obtain ⟨q30, g31, e⟩ := ob_some e
        refine V_getR (pc := 88) (ci := 0) (k := 2) (b := q30) dX0_readLine_88 fl_X0_15 rfl (of_decide_eq_true g29) g31 ?_
        refine V_iload_n (pc := 91) (i := 3) dX0_readLine_91 rfl rfl ?_
        refine V_aload_n (pc := 92) (i := 1) dX0_readLine_92 rfl rfl ?_
        obtain ⟨g32, e⟩ := gd_some e
        refine V_getI (pc := 93) (ci := 6) (k := 5) dX0_readLine_93 fl_X0_47 rfl (of_decide_eq_true g32) ?_
        obtain ⟨g33, e⟩ := gd_some e
        obtain ⟨g34, e⟩ := gd_some e
        refine V_iast (pc := 96) dX0_readLine_96 (of_decide_eq_true g33) (ix_in g34) ?_
        refine V_aload_n (pc := 97) (i := 1) dX0_readLine_97 rfl rfl ?_
        refine V_ldcS (pc := 98) (j := 1) (u := (1 : UInt32)) dX0_readLine_98 rfl (by decide) ?_
        obtain ⟨r36, h37, g35, e⟩ := ob2_some e
        refine V_callV (pc := 100) (bc := 0) (bs := 0) (mc := 0) (ms := 0) (st := []) (As := [.float (1 : UInt32)]) (a := v1) (h' := h37) (r := some (.int r36)) dX0_readLine_100 ml_X0_39 (ci := 6) rfl (kd_sI (of_decide_eq_true g32)) rfl rfl (Nat.le_of_ble_eq_true rfl) (d' := 5) (by decide) (c_X6_takeWord (l := x.2.1) v1 (1 : UInt32) (setI h28 q30 (v3).toNatClampNeg (zI h28 v1 5)) g35) ?_
        refine V_if_eq (pc := 103) (tgt := 120) dX0_readLine_103 (by decide) (fun c50 => ?_) (fun c50 => ?_)
        · rw [if_pos c50] at e
          exact V_pick [] rfl (r_X0_readLine_b120 h37 e hF)
        · rw [if_neg c50] at e
          refine V_pick [0, 1, 2, 3] rfl ?_
          refine V_aload_n (pc := 106) (i := 1) dX0_readLine_106 rfl rfl ?_
          refine V_iconst (pc := 107) (v := (0 : Int32)) dX0_readLine_107 (by decide) ?_
          refine V_aload_n (pc := 108) (i := 2) dX0_readLine_108 rfl rfl ?_
          obtain ⟨g38, e⟩ := gd_some e
          refine V_getI (pc := 109) (ci := 2) (k := 0) dX0_readLine_109 fl_X0_57 rfl (of_decide_eq_true g38) ?_
          refine V_iconst (pc := 112) (v := (1 : Int32)) dX0_readLine_112 (by decide) ?_
          refine V_isub (pc := 113) dX0_readLine_113 ?_
          obtain ⟨r40, h41, g39, e⟩ := ob2_some e
          obtain ⟨g42, e⟩ := gd_some e
          refine V_callV (pc := 114) (bc := 0) (bs := 0) (mc := 0) (ms := 0) (st := []) (As := [.int (0 : Int32), .int ((zI h37 v2 0) - (1 : Int32))]) (a := v1) (h' := h41) (r := some (.int r40)) dX0_readLine_114 ml_X0_43 (ci := 6) rfl (of_decide_eq_true g42) rfl rfl (Nat.le_of_ble_eq_true rfl) (d' := 2) (by decide) (c_X6_takeNumber (l := x.2.1) v1 (0 : Int32) ((zI h37 v2 0) - (1 : Int32)) h37 g39) ?_
          refine V_if_ne (pc := 117) (tgt := 122) dX0_readLine_117 (by decide) (fun c49 => ?_) (fun c49 => ?_)
          · rw [if_neg c49] at e
            refine V_pick [0, 1, 3] rfl ?_
            refine V_aload_n (pc := 122) (i := 0) dX0_readLine_122 rfl rfl ?_
            obtain ⟨g43, e⟩ := gd_some e
            obtain ⟨q44, g45, e⟩ := ob_some e
            refine V_getR (pc := 123) (ci := 0) (k := 3) (b := q44) dX0_readLine_123 fl_X0_18 rfl (of_decide_eq_true g43) g45 ?_
            refine V_iload_n (pc := 126) (i := 3) dX0_readLine_126 rfl rfl ?_
            refine V_aload_n (pc := 127) (i := 1) dX0_readLine_127 rfl rfl ?_
            obtain ⟨g46, e⟩ := gd_some e
            refine V_getI (pc := 128) (ci := 6) (k := 5) dX0_readLine_128 fl_X0_47 rfl (of_decide_eq_true g46) ?_
            obtain ⟨g47, e⟩ := gd_some e
            obtain ⟨g48, e⟩ := gd_some e
            refine V_iast (pc := 131) dX0_readLine_131 (of_decide_eq_true g47) (ix_in g48) ?_
            refine V_iconst (pc := 132) (v := (1 : Int32)) dX0_readLine_132 (by decide) ?_
            cases e
            exact V_zret (pc := 133) dX0_readLine_133 rfl hF
          · rw [if_pos c49] at e
            exact V_pick [] rfl (r_X0_readLine_b120 h41 e hF)
      · rw [if_pos c51] at e
        refine V_pick [] rfl ?_
        refine V_iconst (pc := 85) (v := (0 : Int32)) dX0_readLine_85 (by decide) ?_
        cases e
        exact V_zret (pc := 86) dX0_readLine_86 rfl hF
    · rw [if_pos c52] at e
      exact V_pick [] rfl (r_X0_readLine_b59 h17 e hF)
set_option maxRecDepth 100000 in
def F_X0_readLine_b0 (v0 : Nat) (v1 : Nat) (v2 : Nat) (h : Hp) : Option (Int32 × Hp) :=
  gd (decide (kd h v0 = 0)) <| (if (zI h v0 0) < 0 then F_X0_readLine_b15 v1 h else (if (zI h v0 0) < (20 : Int32) then (if (zI h v0 0) = 0 then F_X0_readLine_b36 v0 v1 v2 (zI h v0 0) (0 : Int32) h else ob (zR h v0 1) fun q7 => gd (decide (kd h q7 = 13)) <| gd (ix ((zI h v0 0) - (1 : Int32)) (zl h q7)) <| F_X0_readLine_b36 v0 v1 v2 (zI h v0 0) (zI h q7 ((zI h v0 0) - (1 : Int32)).toNatClampNeg) h) else F_X0_readLine_b15 v1 h))
set_option maxHeartbeats 4000000 in
set_option maxRecDepth 100000 in
theorem r_X0_readLine_b0 (v0 : Nat) (v1 : Nat) (v2 : Nat) (h : Hp) {x : Cx} {r : Int32} {hz : Hp} (e : F_X0_readLine_b0 v0 v1 v2 h = some (r, hz)) (hF : Fin9 M_X0_readLine x (some .boolean) (some (.int r)) hz) : V M_X0_readLine x 6 0 [(0, .ref v0), (1, .ref v1), (2, .ref v2)] [] h 0 0 := by
  unfold F_X0_readLine_b0 at e
  refine V_aload_n (pc := 0) (i := 0) dX0_readLine_0 rfl rfl ?_
  obtain ⟨g1, e⟩ := gd_some e
  refine V_getI (pc := 1) (ci := 0) (k := 0) dX0_readLine_1 fl_X0_21 rfl (of_decide_eq_true g1) ?_
  refine V_istore_n (pc := 4) (i := 3) (lv' := [(3, .int (zI h v0 0)), (0, .ref v0), (1, .ref v1), (2, .ref v2)]) dX0_readLine_4 rfl (by decide) rfl ?_
  refine V_iload_n (pc := 5) (i := 3) dX0_readLine_5 rfl rfl ?_
  refine V_if_lt (pc := 6) (tgt := 15) dX0_readLine_6 (by decide) (fun c56 => ?_) (fun c56 => ?_)
  · rw [if_pos c56] at e
    exact V_pick [2] rfl (r_X0_readLine_b15 v1 h e hF)
  · rw [if_neg c56] at e
    refine V_pick [1, 2, 3, 0] rfl ?_
    refine V_iload_n (pc := 9) (i := 3) dX0_readLine_9 rfl rfl ?_
    refine V_bipush (pc := 10) (v := (20 : Int32)) dX0_readLine_10 (by decide) ?_
    refine V_icmp_lt (pc := 12) (tgt := 20) dX0_readLine_12 (by decide) (fun c55 => ?_) (fun c55 => ?_)
    · rw [if_pos c55] at e
      refine V_pick [0, 1, 2, 3] rfl ?_
      refine V_iload_n (pc := 20) (i := 3) dX0_readLine_20 rfl rfl ?_
      refine V_if_ne (pc := 21) (tgt := 28) dX0_readLine_21 (by decide) (fun c54 => ?_) (fun c54 => ?_)
      · rw [if_neg c54] at e
        refine V_pick [0, 1, 2, 3] rfl ?_
        refine V_aload_n (pc := 28) (i := 0) dX0_readLine_28 rfl rfl ?_
        obtain ⟨q7, g8, e⟩ := ob_some e
        refine V_getR (pc := 29) (ci := 0) (k := 1) (b := q7) dX0_readLine_29 fl_X0_9 rfl (of_decide_eq_true g1) g8 ?_
        refine V_iload_n (pc := 32) (i := 3) dX0_readLine_32 rfl rfl ?_
        refine V_iconst (pc := 33) (v := (1 : Int32)) dX0_readLine_33 (by decide) ?_
        refine V_isub (pc := 34) dX0_readLine_34 ?_
        obtain ⟨g9, e⟩ := gd_some e
        obtain ⟨g10, e⟩ := gd_some e
        refine V_iald (pc := 35) dX0_readLine_35 (of_decide_eq_true g9) (ix_in g10) ?_
        exact V_pick [0, 1, 2, 3] rfl (r_X0_readLine_b36 v0 v1 v2 (zI h v0 0) (zI h q7 ((zI h v0 0) - (1 : Int32)).toNatClampNeg) h e hF)
      · rw [if_pos c54] at e
        refine V_pick [0, 1, 2, 3] rfl ?_
        refine V_iconst (pc := 24) (v := (0 : Int32)) dX0_readLine_24 (by decide) ?_
        refine V_goto (pc := 25) (tgt := 36) dX0_readLine_25 (by decide) ?_
        exact V_pick [0, 1, 2, 3] rfl (r_X0_readLine_b36 v0 v1 v2 (zI h v0 0) (0 : Int32) h e hF)
    · rw [if_neg c55] at e
      exact V_pick [1] rfl (r_X0_readLine_b15 v1 h e hF)
def F_X0_readLine (v0 : Nat) (v1 : Nat) (v2 : Nat) (h : Hp) : Option (Int32 × Hp) := F_X0_readLine_b0 v0 v1 v2 h
theorem c_X0_readLine {l : Launch} (v0 : Nat) (v1 : Nat) (v2 : Nat) (h : Hp) {r : Int32} {hz : Hp} (e : F_X0_readLine v0 v1 v2 h = some (r, hz)) : Ct l yX0_readLine M_X0_readLine (some .boolean) 6 [.ref v0, .ref v1, .ref v2] h 0 0 (some (.int r)) hz :=
  Ct_of rfl rfl (fun q => by cases q) (Nat.le_of_ble_eq_true rfl) (fun x _ hF => V_pick [0, 1, 2] rfl (r_X0_readLine_b0 v0 v1 v2 h e hF))
theorem dX1_init_0 : decode cX1_init 0 = .ok (.aload_n 0, 1) := by decide +kernel
theorem dX1_init_1 : decode cX1_init 1 = .ok (.invokespecial 3, 3) := by decide +kernel
theorem dX1_init_4 : decode cX1_init 4 = .ok (.aload_n 0, 1) := by decide +kernel
theorem dX1_init_5 : decode cX1_init 5 = .ok (.iconst 5, 1) := by decide +kernel
theorem dX1_init_6 : decode cX1_init 6 = .ok (.newarray .int, 2) := by decide +kernel
theorem dX1_init_8 : decode cX1_init 8 = .ok (.putfield 9, 3) := by decide +kernel
theorem dX1_init_11 : decode cX1_init 11 = .ok (.aload_n 0, 1) := by decide +kernel
theorem dX1_init_12 : decode cX1_init 12 = .ok (.new 15, 3) := by decide +kernel
theorem dX1_init_15 : decode cX1_init 15 = .ok (.dup, 1) := by decide +kernel
theorem dX1_init_16 : decode cX1_init 16 = .ok (.invokespecial 17, 3) := by decide +kernel
theorem dX1_init_19 : decode cX1_init 19 = .ok (.putfield 18, 3) := by decide +kernel
theorem dX1_init_22 : decode cX1_init 22 = .ok (.aload_n 0, 1) := by decide +kernel
theorem dX1_init_23 : decode cX1_init 23 = .ok (.iconst (-1), 1) := by decide +kernel
theorem dX1_init_24 : decode cX1_init 24 = .ok (.putfield 22, 3) := by decide +kernel
theorem dX1_init_27 : decode cX1_init 27 = .ok (.aload_n 0, 1) := by decide +kernel
theorem dX1_init_28 : decode cX1_init 28 = .ok (.iconst 0, 1) := by decide +kernel
theorem dX1_init_29 : decode cX1_init 29 = .ok (.putfield 26, 3) := by decide +kernel
theorem dX1_init_32 : decode cX1_init 32 = .ok (.return_, 1) := by decide +kernel
set_option maxRecDepth 100000 in
def F_X1_init_b0 (v0 : Nat) (h : Hp) : Option (Unit × Hp × Nat × Nat) :=
  ob (some (zN h)) fun q1 => ac 1 ((5 : Int32)).toNatClampNeg <| gd (decide (kd (alloc h 13 ((5 : Int32)).toNatClampNeg) v0 = 1)) <| ob (some (zN (setR (alloc h 13 ((5 : Int32)).toNatClampNeg) v0 0 (some q1)))) fun q6 => ac 1 4 <| ob4 (F_X8_init q6 (alloc (setR (alloc h 13 ((5 : Int32)).toNatClampNeg) v0 0 (some q1)) 7 0)) fun _ h12 n13 n14 => ac n13 n14 <| gd (decide (kd h12 v0 = 1)) <| some ((), setI (setI (setR h12 v0 1 (some q6)) v0 2 (-1 : Int32)) v0 3 (0 : Int32), 0, 0)
set_option maxHeartbeats 4000000 in
set_option maxRecDepth 100000 in
theorem r_X1_init_b0 (v0 : Nat) (h : Hp) {x : Cx} {r : Unit} {hz : Hp} {c9 s9 : Nat} (e : F_X1_init_b0 v0 h = some (r, hz, c9, s9)) (hF : Fin9 M_X1_init x none none hz) : V M_X1_init x 2 0 [(0, .ref v0)] [] h c9 s9 := by
  unfold F_X1_init_b0 at e
  refine V_aload_n (pc := 0) (i := 0) dX1_init_0 rfl rfl ?_
  refine V_objI (pc := 1) dX1_init_1 wo_X1_3 (by decide) (Nat.le_of_ble_eq_true rfl) ?_
  refine V_aload_n (pc := 4) (i := 0) dX1_init_4 rfl rfl ?_
  refine V_iconst (pc := 5) (v := (5 : Int32)) dX1_init_5 (by decide) ?_
  replace e := ob_some e
  obtain ⟨q1, g2, e⟩ := e
  replace e := ac_some e
  obtain ⟨n3, n4, e, hc9, hs9⟩ := e
  rw [hc9, hs9]
  clear hc9 hs9
  refine V_newIQ (pc := 6) (n := (5 : Int32)) dX1_init_6 wa_int (by decide) (by decide) (q := q1) (bc := n3) (bs := n4) (Option.some.inj g2) ?_
  replace e := gd_some e
  obtain ⟨g5, e⟩ := e
  refine V_putRF (pc := 8) (ci := 1) (k := 0) dX1_init_8 fp_X1_9 rfl (of_decide_eq_true g5) (fun _ => ⟨rfl, rfl⟩) rfl ?_
  refine V_aload_n (pc := 11) (i := 0) dX1_init_11 rfl rfl ?_
  replace e := ob_some e
  obtain ⟨q6, g7, e⟩ := e
  replace e := ac_some e
  obtain ⟨n8, n9, e, hc9, hs9⟩ := e
  rw [hc9, hs9]
  clear hc9 hs9
  refine V_newQ (pc := 12) (ci := 7) dX1_init_12 nl_X1_15 (q := q6) (bc := n8) (bs := n9) (Option.some.inj g7) ?_
  refine V_dup (pc := 15) dX1_init_15 rfl ?_
  replace e := ob4_some e
  obtain ⟨r11, h12, n13, n14, g10, e⟩ := e
  replace e := ac_some e
  obtain ⟨n15, n16, e, hc9, hs9⟩ := e
  rw [hc9, hs9]
  clear hc9 hs9
  refine V_callI (pc := 16) (bc := n15) (bs := n16) (mc := n13) (ms := n14) (st := [.ref q6, .ref v0]) (As := []) (a := q6) (h' := h12) dX1_init_16 ml_X1_17 rfl rfl (Nat.le_of_ble_eq_true rfl) (d' := 1) (by decide) (c_X8_init (l := x.2.1) q6 (alloc (setR (alloc h 13 ((5 : Int32)).toNatClampNeg) v0 0 (some q1)) 7 0) g10) ?_
  replace e := gd_some e
  obtain ⟨g17, e⟩ := e
  refine V_putRF (pc := 19) (ci := 1) (k := 1) dX1_init_19 fp_X1_18 rfl (of_decide_eq_true g17) (fun _ => ⟨rfl, rfl⟩) rfl ?_
  refine V_aload_n (pc := 22) (i := 0) dX1_init_22 rfl rfl ?_
  refine V_iconst (pc := 23) (v := (-1 : Int32)) dX1_init_23 (by decide) ?_
  refine V_putI (pc := 24) (ci := 1) (k := 2) dX1_init_24 fp_X1_22 rfl (kd_sR (of_decide_eq_true g17)) ?_
  refine V_aload_n (pc := 27) (i := 0) dX1_init_27 rfl rfl ?_
  refine V_iconst (pc := 28) (v := (0 : Int32)) dX1_init_28 (by decide) ?_
  refine V_putI (pc := 29) (ci := 1) (k := 3) dX1_init_29 fp_X1_26 rfl (kd_sI (kd_sR (of_decide_eq_true g17))) ?_
  cases e
  exact V_vret (pc := 32) dX1_init_32 hF
def F_X1_init (v0 : Nat) (h : Hp) : Option (Unit × Hp × Nat × Nat) := F_X1_init_b0 v0 h
theorem c_X1_init {l : Launch} (v0 : Nat) (h : Hp) {r : Unit} {hz : Hp} {c9 s9 : Nat} (e : F_X1_init v0 h = some (r, hz, c9, s9)) : Ct l yX1_init M_X1_init none 2 [.ref v0] h c9 s9 none hz :=
  Ct_of rfl rfl (fun _ => rfl) (Nat.le_of_ble_eq_true rfl) (fun x _ hF => V_pick [0] rfl (r_X1_init_b0 v0 h e hF))
theorem dX2_copyFrom_0 : decode cX2_copyFrom 0 = .ok (.aload_n 0, 1) := by decide +kernel
theorem dX2_copyFrom_1 : decode cX2_copyFrom 1 = .ok (.aload_n 1, 1) := by decide +kernel
theorem dX2_copyFrom_2 : decode cX2_copyFrom 2 = .ok (.getfield 9, 3) := by decide +kernel
theorem dX2_copyFrom_5 : decode cX2_copyFrom 5 = .ok (.putfield 9, 3) := by decide +kernel
theorem dX2_copyFrom_8 : decode cX2_copyFrom 8 = .ok (.aload_n 1, 1) := by decide +kernel
theorem dX2_copyFrom_9 : decode cX2_copyFrom 9 = .ok (.getfield 15, 3) := by decide +kernel
theorem dX2_copyFrom_12 : decode cX2_copyFrom 12 = .ok (.iconst 0, 1) := by decide +kernel
theorem dX2_copyFrom_13 : decode cX2_copyFrom 13 = .ok (.aload_n 0, 1) := by decide +kernel
theorem dX2_copyFrom_14 : decode cX2_copyFrom 14 = .ok (.getfield 15, 3) := by decide +kernel
theorem dX2_copyFrom_17 : decode cX2_copyFrom 17 = .ok (.iconst 0, 1) := by decide +kernel
theorem dX2_copyFrom_18 : decode cX2_copyFrom 18 = .ok (.bipush 8, 2) := by decide +kernel
theorem dX2_copyFrom_20 : decode cX2_copyFrom 20 = .ok (.invokestatic 85, 3) := by decide +kernel
theorem dX2_copyFrom_23 : decode cX2_copyFrom 23 = .ok (.aload_n 1, 1) := by decide +kernel
theorem dX2_copyFrom_24 : decode cX2_copyFrom 24 = .ok (.getfield 19, 3) := by decide +kernel
theorem dX2_copyFrom_27 : decode cX2_copyFrom 27 = .ok (.iconst 0, 1) := by decide +kernel
theorem dX2_copyFrom_28 : decode cX2_copyFrom 28 = .ok (.aload_n 0, 1) := by decide +kernel
theorem dX2_copyFrom_29 : decode cX2_copyFrom 29 = .ok (.getfield 19, 3) := by decide +kernel
theorem dX2_copyFrom_32 : decode cX2_copyFrom 32 = .ok (.iconst 0, 1) := by decide +kernel
theorem dX2_copyFrom_33 : decode cX2_copyFrom 33 = .ok (.bipush 8, 2) := by decide +kernel
theorem dX2_copyFrom_35 : decode cX2_copyFrom 35 = .ok (.invokestatic 85, 3) := by decide +kernel
theorem dX2_copyFrom_38 : decode cX2_copyFrom 38 = .ok (.aload_n 1, 1) := by decide +kernel
theorem dX2_copyFrom_39 : decode cX2_copyFrom 39 = .ok (.getfield 22, 3) := by decide +kernel
theorem dX2_copyFrom_42 : decode cX2_copyFrom 42 = .ok (.iconst 0, 1) := by decide +kernel
theorem dX2_copyFrom_43 : decode cX2_copyFrom 43 = .ok (.aload_n 0, 1) := by decide +kernel
theorem dX2_copyFrom_44 : decode cX2_copyFrom 44 = .ok (.getfield 22, 3) := by decide +kernel
theorem dX2_copyFrom_47 : decode cX2_copyFrom 47 = .ok (.iconst 0, 1) := by decide +kernel
theorem dX2_copyFrom_48 : decode cX2_copyFrom 48 = .ok (.bipush 8, 2) := by decide +kernel
theorem dX2_copyFrom_50 : decode cX2_copyFrom 50 = .ok (.invokestatic 85, 3) := by decide +kernel
theorem dX2_copyFrom_53 : decode cX2_copyFrom 53 = .ok (.aload_n 1, 1) := by decide +kernel
theorem dX2_copyFrom_54 : decode cX2_copyFrom 54 = .ok (.getfield 25, 3) := by decide +kernel
theorem dX2_copyFrom_57 : decode cX2_copyFrom 57 = .ok (.iconst 0, 1) := by decide +kernel
theorem dX2_copyFrom_58 : decode cX2_copyFrom 58 = .ok (.aload_n 0, 1) := by decide +kernel
theorem dX2_copyFrom_59 : decode cX2_copyFrom 59 = .ok (.getfield 25, 3) := by decide +kernel
theorem dX2_copyFrom_62 : decode cX2_copyFrom 62 = .ok (.iconst 0, 1) := by decide +kernel
theorem dX2_copyFrom_63 : decode cX2_copyFrom 63 = .ok (.bipush 8, 2) := by decide +kernel
theorem dX2_copyFrom_65 : decode cX2_copyFrom 65 = .ok (.invokestatic 85, 3) := by decide +kernel
theorem dX2_copyFrom_68 : decode cX2_copyFrom 68 = .ok (.aload_n 0, 1) := by decide +kernel
theorem dX2_copyFrom_69 : decode cX2_copyFrom 69 = .ok (.aload_n 1, 1) := by decide +kernel
theorem dX2_copyFrom_70 : decode cX2_copyFrom 70 = .ok (.getfield 28, 3) := by decide +kernel
theorem dX2_copyFrom_73 : decode cX2_copyFrom 73 = .ok (.putfield 28, 3) := by decide +kernel
theorem dX2_copyFrom_76 : decode cX2_copyFrom 76 = .ok (.aload_n 1, 1) := by decide +kernel
theorem dX2_copyFrom_77 : decode cX2_copyFrom 77 = .ok (.getfield 31, 3) := by decide +kernel
theorem dX2_copyFrom_80 : decode cX2_copyFrom 80 = .ok (.iconst 0, 1) := by decide +kernel
theorem dX2_copyFrom_81 : decode cX2_copyFrom 81 = .ok (.aload_n 0, 1) := by decide +kernel
theorem dX2_copyFrom_82 : decode cX2_copyFrom 82 = .ok (.getfield 31, 3) := by decide +kernel
theorem dX2_copyFrom_85 : decode cX2_copyFrom 85 = .ok (.iconst 0, 1) := by decide +kernel
theorem dX2_copyFrom_86 : decode cX2_copyFrom 86 = .ok (.iconst 5, 1) := by decide +kernel
theorem dX2_copyFrom_87 : decode cX2_copyFrom 87 = .ok (.invokestatic 85, 3) := by decide +kernel
theorem dX2_copyFrom_90 : decode cX2_copyFrom 90 = .ok (.aload_n 1, 1) := by decide +kernel
theorem dX2_copyFrom_91 : decode cX2_copyFrom 91 = .ok (.getfield 34, 3) := by decide +kernel
theorem dX2_copyFrom_94 : decode cX2_copyFrom 94 = .ok (.iconst 0, 1) := by decide +kernel
theorem dX2_copyFrom_95 : decode cX2_copyFrom 95 = .ok (.aload_n 0, 1) := by decide +kernel
theorem dX2_copyFrom_96 : decode cX2_copyFrom 96 = .ok (.getfield 34, 3) := by decide +kernel
theorem dX2_copyFrom_99 : decode cX2_copyFrom 99 = .ok (.iconst 0, 1) := by decide +kernel
theorem dX2_copyFrom_100 : decode cX2_copyFrom 100 = .ok (.iconst 5, 1) := by decide +kernel
theorem dX2_copyFrom_101 : decode cX2_copyFrom 101 = .ok (.invokestatic 85, 3) := by decide +kernel
theorem dX2_copyFrom_104 : decode cX2_copyFrom 104 = .ok (.iconst 0, 1) := by decide +kernel
theorem dX2_copyFrom_105 : decode cX2_copyFrom 105 = .ok (.istore_n 2, 1) := by decide +kernel
theorem dX2_copyFrom_106 : decode cX2_copyFrom 106 = .ok (.iload_n 2, 1) := by decide +kernel
theorem dX2_copyFrom_107 : decode cX2_copyFrom 107 = .ok (.iconst 5, 1) := by decide +kernel
theorem dX2_copyFrom_108 : decode cX2_copyFrom 108 = .ok (.if_icmp .ge 24, 3) := by decide +kernel
theorem dX2_copyFrom_111 : decode cX2_copyFrom 111 = .ok (.aload_n 0, 1) := by decide +kernel
theorem dX2_copyFrom_112 : decode cX2_copyFrom 112 = .ok (.getfield 39, 3) := by decide +kernel
theorem dX2_copyFrom_115 : decode cX2_copyFrom 115 = .ok (.iload_n 2, 1) := by decide +kernel
theorem dX2_copyFrom_116 : decode cX2_copyFrom 116 = .ok (.aaload, 1) := by decide +kernel
theorem dX2_copyFrom_117 : decode cX2_copyFrom 117 = .ok (.aload_n 1, 1) := by decide +kernel
theorem dX2_copyFrom_118 : decode cX2_copyFrom 118 = .ok (.getfield 39, 3) := by decide +kernel
theorem dX2_copyFrom_121 : decode cX2_copyFrom 121 = .ok (.iload_n 2, 1) := by decide +kernel
theorem dX2_copyFrom_122 : decode cX2_copyFrom 122 = .ok (.aaload, 1) := by decide +kernel
theorem dX2_copyFrom_123 : decode cX2_copyFrom 123 = .ok (.invokevirtual 91, 3) := by decide +kernel
theorem dX2_copyFrom_126 : decode cX2_copyFrom 126 = .ok (.iinc 2 1, 3) := by decide +kernel
theorem dX2_copyFrom_129 : decode cX2_copyFrom 129 = .ok (.goto (-23), 3) := by decide +kernel
theorem dX2_copyFrom_132 : decode cX2_copyFrom 132 = .ok (.aload_n 0, 1) := by decide +kernel
theorem dX2_copyFrom_133 : decode cX2_copyFrom 133 = .ok (.getfield 46, 3) := by decide +kernel
theorem dX2_copyFrom_136 : decode cX2_copyFrom 136 = .ok (.aload_n 1, 1) := by decide +kernel
theorem dX2_copyFrom_137 : decode cX2_copyFrom 137 = .ok (.getfield 46, 3) := by decide +kernel
theorem dX2_copyFrom_140 : decode cX2_copyFrom 140 = .ok (.invokevirtual 95, 3) := by decide +kernel
theorem dX2_copyFrom_143 : decode cX2_copyFrom 143 = .ok (.aload_n 0, 1) := by decide +kernel
theorem dX2_copyFrom_144 : decode cX2_copyFrom 144 = .ok (.aload_n 1, 1) := by decide +kernel
theorem dX2_copyFrom_145 : decode cX2_copyFrom 145 = .ok (.getfield 50, 3) := by decide +kernel
theorem dX2_copyFrom_148 : decode cX2_copyFrom 148 = .ok (.putfield 50, 3) := by decide +kernel
theorem dX2_copyFrom_151 : decode cX2_copyFrom 151 = .ok (.aload_n 0, 1) := by decide +kernel
theorem dX2_copyFrom_152 : decode cX2_copyFrom 152 = .ok (.aload_n 1, 1) := by decide +kernel
theorem dX2_copyFrom_153 : decode cX2_copyFrom 153 = .ok (.getfield 53, 3) := by decide +kernel
theorem dX2_copyFrom_156 : decode cX2_copyFrom 156 = .ok (.putfield 53, 3) := by decide +kernel
theorem dX2_copyFrom_159 : decode cX2_copyFrom 159 = .ok (.aload_n 0, 1) := by decide +kernel
theorem dX2_copyFrom_160 : decode cX2_copyFrom 160 = .ok (.aload_n 1, 1) := by decide +kernel
theorem dX2_copyFrom_161 : decode cX2_copyFrom 161 = .ok (.getfield 56, 3) := by decide +kernel
theorem dX2_copyFrom_164 : decode cX2_copyFrom 164 = .ok (.putfield 56, 3) := by decide +kernel
theorem dX2_copyFrom_167 : decode cX2_copyFrom 167 = .ok (.aload_n 0, 1) := by decide +kernel
theorem dX2_copyFrom_168 : decode cX2_copyFrom 168 = .ok (.aload_n 1, 1) := by decide +kernel
theorem dX2_copyFrom_169 : decode cX2_copyFrom 169 = .ok (.getfield 59, 3) := by decide +kernel
theorem dX2_copyFrom_172 : decode cX2_copyFrom 172 = .ok (.putfield 59, 3) := by decide +kernel
theorem dX2_copyFrom_175 : decode cX2_copyFrom 175 = .ok (.aload_n 0, 1) := by decide +kernel
theorem dX2_copyFrom_176 : decode cX2_copyFrom 176 = .ok (.aload_n 1, 1) := by decide +kernel
theorem dX2_copyFrom_177 : decode cX2_copyFrom 177 = .ok (.getfield 62, 3) := by decide +kernel
theorem dX2_copyFrom_180 : decode cX2_copyFrom 180 = .ok (.putfield 62, 3) := by decide +kernel
theorem dX2_copyFrom_183 : decode cX2_copyFrom 183 = .ok (.aload_n 0, 1) := by decide +kernel
theorem dX2_copyFrom_184 : decode cX2_copyFrom 184 = .ok (.aload_n 1, 1) := by decide +kernel
theorem dX2_copyFrom_185 : decode cX2_copyFrom 185 = .ok (.getfield 65, 3) := by decide +kernel
theorem dX2_copyFrom_188 : decode cX2_copyFrom 188 = .ok (.putfield 65, 3) := by decide +kernel
theorem dX2_copyFrom_191 : decode cX2_copyFrom 191 = .ok (.aload_n 0, 1) := by decide +kernel
theorem dX2_copyFrom_192 : decode cX2_copyFrom 192 = .ok (.getfield 71, 3) := by decide +kernel
theorem dX2_copyFrom_195 : decode cX2_copyFrom 195 = .ok (.aload_n 1, 1) := by decide +kernel
theorem dX2_copyFrom_196 : decode cX2_copyFrom 196 = .ok (.getfield 71, 3) := by decide +kernel
theorem dX2_copyFrom_199 : decode cX2_copyFrom 199 = .ok (.invokevirtual 98, 3) := by decide +kernel
theorem dX2_copyFrom_202 : decode cX2_copyFrom 202 = .ok (.aload_n 0, 1) := by decide +kernel
theorem dX2_copyFrom_203 : decode cX2_copyFrom 203 = .ok (.aload_n 1, 1) := by decide +kernel
theorem dX2_copyFrom_204 : decode cX2_copyFrom 204 = .ok (.getfield 75, 3) := by decide +kernel
theorem dX2_copyFrom_207 : decode cX2_copyFrom 207 = .ok (.putfield 75, 3) := by decide +kernel
theorem dX2_copyFrom_210 : decode cX2_copyFrom 210 = .ok (.aload_n 1, 1) := by decide +kernel
theorem dX2_copyFrom_211 : decode cX2_copyFrom 211 = .ok (.getfield 78, 3) := by decide +kernel
theorem dX2_copyFrom_214 : decode cX2_copyFrom 214 = .ok (.iconst 0, 1) := by decide +kernel
theorem dX2_copyFrom_215 : decode cX2_copyFrom 215 = .ok (.aload_n 0, 1) := by decide +kernel
theorem dX2_copyFrom_216 : decode cX2_copyFrom 216 = .ok (.getfield 78, 3) := by decide +kernel
theorem dX2_copyFrom_219 : decode cX2_copyFrom 219 = .ok (.iconst 0, 1) := by decide +kernel
theorem dX2_copyFrom_220 : decode cX2_copyFrom 220 = .ok (.bipush 8, 2) := by decide +kernel
theorem dX2_copyFrom_222 : decode cX2_copyFrom 222 = .ok (.invokestatic 85, 3) := by decide +kernel
theorem dX2_copyFrom_225 : decode cX2_copyFrom 225 = .ok (.aload_n 1, 1) := by decide +kernel
theorem dX2_copyFrom_226 : decode cX2_copyFrom 226 = .ok (.getfield 81, 3) := by decide +kernel
theorem dX2_copyFrom_229 : decode cX2_copyFrom 229 = .ok (.iconst 0, 1) := by decide +kernel
theorem dX2_copyFrom_230 : decode cX2_copyFrom 230 = .ok (.aload_n 0, 1) := by decide +kernel
theorem dX2_copyFrom_231 : decode cX2_copyFrom 231 = .ok (.getfield 81, 3) := by decide +kernel
theorem dX2_copyFrom_234 : decode cX2_copyFrom 234 = .ok (.iconst 0, 1) := by decide +kernel
theorem dX2_copyFrom_235 : decode cX2_copyFrom 235 = .ok (.bipush 8, 2) := by decide +kernel
theorem dX2_copyFrom_237 : decode cX2_copyFrom 237 = .ok (.invokestatic 85, 3) := by decide +kernel
theorem dX2_copyFrom_240 : decode cX2_copyFrom 240 = .ok (.return_, 1) := by decide +kernel
set_option maxRecDepth 100000 in
def F_X2_copyFrom_l106 (v0 : Nat) (v1 : Nat) (v2 : Int32) (h : Hp) : Option ((Int32 × Hp) ⊕ Hp) :=
  (if (5 : Int32) ≤ v2 then some (.inr h) else gd (decide (kd h v0 = 2)) <| ob (zR h v0 8) fun q66 => gd (decide (kd h q66 = 15)) <| gd (ix v2 (zl h q66)) <| ob (zR h q66 (v2).toNatClampNeg) fun q70 => gd (decide (kd h v1 = 2)) <| ob (zR h v1 8) fun q73 => gd (decide (kd h q73 = 15)) <| gd (ix v2 (zl h q73)) <| ob (zR h q73 (v2).toNatClampNeg) fun q77 => ob2 (F_X10_copyFrom q70 q77 h) fun _ h81 => gd (decide (kd h q70 = 9)) <| some (.inl (v2 + (1 : Int32), h81)))
set_option maxHeartbeats 4000000 in
set_option maxRecDepth 100000 in
theorem r_X2_copyFrom_l106 (v0 : Nat) (v1 : Nat) (v2 : Int32) (h : Hp) {x : Cx} {o : ((Int32 × Hp) ⊕ Hp)} (e : F_X2_copyFrom_l106 v0 v1 v2 h = some o) (kI : ∀ z, o = .inl z → V M_X2_copyFrom x 2 106 [(0, .ref v0), (1, .ref v1), (2, .int z.1)] [] z.2 0 0) (kE132 : ∀ z : Hp, o = .inr z → V M_X2_copyFrom x 2 132 [(0, .ref v0), (1, .ref v1)] [] z 0 0) : V M_X2_copyFrom x 2 106 [(0, .ref v0), (1, .ref v1), (2, .int v2)] [] h 0 0 := by
  unfold F_X2_copyFrom_l106 at e
  refine V_iload_n (pc := 106) (i := 2) dX2_copyFrom_106 rfl rfl ?_
  refine V_iconst (pc := 107) (v := (5 : Int32)) dX2_copyFrom_107 (by decide) ?_
  refine V_icmp_ge (pc := 108) (tgt := 132) dX2_copyFrom_108 (by decide) (fun c83 => ?_) (fun c83 => ?_)
  · rw [if_pos c83] at e
    cases e
    exact V_pick [0, 1] rfl (kE132 h rfl)
  · rw [if_neg c83] at e
    refine V_pick [0, 1, 2] rfl ?_
    refine V_aload_n (pc := 111) (i := 0) dX2_copyFrom_111 rfl rfl ?_
    obtain ⟨g65, e⟩ := gd_some e
    obtain ⟨q66, g67, e⟩ := ob_some e
    refine V_getR (pc := 112) (ci := 2) (k := 8) (b := q66) dX2_copyFrom_112 fl_X2_39 rfl (of_decide_eq_true g65) g67 ?_
    refine V_iload_n (pc := 115) (i := 2) dX2_copyFrom_115 rfl rfl ?_
    obtain ⟨g68, e⟩ := gd_some e
    obtain ⟨g69, e⟩ := gd_some e
    obtain ⟨q70, g71, e⟩ := ob_some e
    refine V_aald (pc := 116) (b := q70) dX2_copyFrom_116 (of_decide_eq_true g68) (ix_in g69) g71 ?_
    refine V_aload_n (pc := 117) (i := 1) dX2_copyFrom_117 rfl rfl ?_
    obtain ⟨g72, e⟩ := gd_some e
    obtain ⟨q73, g74, e⟩ := ob_some e
    refine V_getR (pc := 118) (ci := 2) (k := 8) (b := q73) dX2_copyFrom_118 fl_X2_39 rfl (of_decide_eq_true g72) g74 ?_
    refine V_iload_n (pc := 121) (i := 2) dX2_copyFrom_121 rfl rfl ?_
    obtain ⟨g75, e⟩ := gd_some e
    obtain ⟨g76, e⟩ := gd_some e
    obtain ⟨q77, g78, e⟩ := ob_some e
    refine V_aald (pc := 122) (b := q77) dX2_copyFrom_122 (of_decide_eq_true g75) (ix_in g76) g78 ?_
    obtain ⟨r80, h81, g79, e⟩ := ob2_some e
    obtain ⟨g82, e⟩ := gd_some e
    refine V_callV (pc := 123) (bc := 0) (bs := 0) (mc := 0) (ms := 0) (st := []) (As := [.ref q77]) (a := q70) (h' := h81) (r := none) dX2_copyFrom_123 ml_X2_91 (ci := 9) rfl (of_decide_eq_true g82) rfl rfl (Nat.le_of_ble_eq_true rfl) (d' := 1) (by decide) (c_X10_copyFrom (l := x.2.1) q70 q77 h g79) ?_
    refine V_iinc (pc := 126) (i := 2) (u := v2 + (1 : Int32)) (lv' := [(2, .int (v2 + (1 : Int32))), (0, .ref v0), (1, .ref v1)]) dX2_copyFrom_126 rfl rfl (by decide) rfl ?_
    refine V_goto (pc := 129) (tgt := 106) dX2_copyFrom_129 (by decide) ?_
    cases e
    exact V_pick [1, 2, 0] rfl (kI (v2 + (1 : Int32), h81) rfl)
set_option maxRecDepth 100000 in
def F_X2_copyFrom_b0 (v0 : Nat) (v1 : Nat) (h : Hp) : Option (Unit × Hp) :=
  gd (decide (kd h v1 = 2)) <| gd (decide (kd h v0 = 2)) <| ob (zR (setI h v0 0 (zI h v1 0)) v1 1) fun q3 => ob (zR (setI h v0 0 (zI h v1 0)) v0 1) fun q5 => gd (decide (kd (setI h v0 0 (zI h v1 0)) q3 = 13)) <| gd (decide (kd (setI h v0 0 (zI h v1 0)) q5 = 13)) <| gd (cpk (0 : Int32) (0 : Int32) (8 : Int32) (zl (setI h v0 0 (zI h v1 0)) q3) (zl (setI h v0 0 (zI h v1 0)) q5)) <| ob (zR (cpA (setI h v0 0 (zI h v1 0)) q3 (0 : Int32) q5 (0 : Int32) (8 : Int32)) v1 2) fun q10 => ob (zR (cpA (setI h v0 0 (zI h v1 0)) q3 (0 : Int32) q5 (0 : Int32) (8 : Int32)) v0 2) fun q12 => gd (decide (kd (cpA (setI h v0 0 (zI h v1 0)) q3 (0 : Int32) q5 (0 : Int32) (8 : Int32)) q10 = 13)) <| gd (decide (kd (cpA (setI h v0 0 (zI h v1 0)) q3 (0 : Int32) q5 (0 : Int32) (8 : Int32)) q12 = 13)) <| gd (cpk (0 : Int32) (0 : Int32) (8 : Int32) (zl (cpA (setI h v0 0 (zI h v1 0)) q3 (0 : Int32) q5 (0 : Int32) (8 : Int32)) q10) (zl (cpA (setI h v0 0 (zI h v1 0)) q3 (0 : Int32) q5 (0 : Int32) (8 : Int32)) q12)) <| ob (some (cpA (cpA (setI h v0 0 (zI h v1 0)) q3 (0 : Int32) q5 (0 : Int32) (8 : Int32)) q10 (0 : Int32) q12 (0 : Int32) (8 : Int32))) fun h17 => ob (zR h17 v1 3) fun q25 => ob (zR h17 v0 3) fun q27 => gd (decide (kd h17 q25 = 13)) <| gd (decide (kd h17 q27 = 13)) <| gd (cpk (0 : Int32) (0 : Int32) (8 : Int32) (zl h17 q25) (zl h17 q27)) <| ob (zR (cpA h17 q25 (0 : Int32) q27 (0 : Int32) (8 : Int32)) v1 4) fun q32 => ob (zR (cpA h17 q25 (0 : Int32) q27 (0 : Int32) (8 : Int32)) v0 4) fun q34 => gd (decide (kd (cpA h17 q25 (0 : Int32) q27 (0 : Int32) (8 : Int32)) q32 = 13)) <| gd (decide (kd (cpA h17 q25 (0 : Int32) q27 (0 : Int32) (8 : Int32)) q34 = 13)) <| gd (cpk (0 : Int32) (0 : Int32) (8 : Int32) (zl (cpA h17 q25 (0 : Int32) q27 (0 : Int32) (8 : Int32)) q32) (zl (cpA h17 q25 (0 : Int32) q27 (0 : Int32) (8 : Int32)) q34)) <| ob (some (setI (cpA (cpA h17 q25 (0 : Int32) q27 (0 : Int32) (8 : Int32)) q32 (0 : Int32) q34 (0 : Int32) (8 : Int32)) v0 5 (zI (cpA (cpA h17 q25 (0 : Int32) q27 (0 : Int32) (8 : Int32)) q32 (0 : Int32) q34 (0 : Int32) (8 : Int32)) v1 5))) fun h39 => ob (zR h39 v1 6) fun q51 => ob (zR h39 v0 6) fun q53 => gd (decide (kd h39 q51 = 13)) <| gd (decide (kd h39 q53 = 13)) <| gd (cpk (0 : Int32) (0 : Int32) (5 : Int32) (zl h39 q51) (zl h39 q53)) <| ob (zR (cpA h39 q51 (0 : Int32) q53 (0 : Int32) (5 : Int32)) v1 7) fun q58 => ob (zR (cpA h39 q51 (0 : Int32) q53 (0 : Int32) (5 : Int32)) v0 7) fun q60 => gd (decide (kd (cpA h39 q51 (0 : Int32) q53 (0 : Int32) (5 : Int32)) q58 = 13)) <| gd (decide (kd (cpA h39 q51 (0 : Int32) q53 (0 : Int32) (5 : Int32)) q60 = 13)) <| gd (cpk (0 : Int32) (0 : Int32) (5 : Int32) (zl (cpA h39 q51 (0 : Int32) q53 (0 : Int32) (5 : Int32)) q58) (zl (cpA h39 q51 (0 : Int32) q53 (0 : Int32) (5 : Int32)) q60)) <| ob (iter (fun z : Int32 × Hp => F_X2_copyFrom_l106 v0 v1 z.1 z.2) FU ((0 : Int32), cpA (cpA h39 q51 (0 : Int32) q53 (0 : Int32) (5 : Int32)) q58 (0 : Int32) q60 (0 : Int32) (5 : Int32))) (fun h84 => gd (decide (kd h84 v0 = 2)) <| ob (zR h84 v0 9) fun q86 => gd (decide (kd h84 v1 = 2)) <| ob (zR h84 v1 9) fun q89 => ob2 (F_X8_copyFrom q86 q89 h84) fun _ h93 => gd (decide (kd h84 q86 = 7)) <| gd (decide (kd h93 v1 = 2)) <| gd (decide (kd h93 v0 = 2)) <| ob (some (setI (setI (setI h93 v0 10 (zI h93 v1 10)) v0 11 (zI (setI h93 v0 10 (zI h93 v1 10)) v1 11)) v0 12 (zI (setI (setI h93 v0 10 (zI h93 v1 10)) v0 11 (zI (setI h93 v0 10 (zI h93 v1 10)) v1 11)) v1 12))) fun h97 => ob (some (setI (setI (setI h97 v0 13 (zI h97 v1 13)) v0 14 (zI (setI h97 v0 13 (zI h97 v1 13)) v1 14)) v0 15 (zI (setI (setI h97 v0 13 (zI h97 v1 13)) v0 14 (zI (setI h97 v0 13 (zI h97 v1 13)) v1 14)) v1 15))) fun h101 => ob (zR h101 v0 16) fun q105 => ob (zR h101 v1 16) fun q107 => ob2 (F_X0_copyFrom q105 q107 h101) fun _ h111 => gd (decide (kd h101 q105 = 0)) <| gd (decide (kd h111 v1 = 2)) <| gd (decide (kd h111 v0 = 2)) <| ob (zR (setI h111 v0 17 (zI h111 v1 17)) v1 18) fun q115 => ob (zR (setI h111 v0 17 (zI h111 v1 17)) v0 18) fun q117 => gd (decide (kd (setI h111 v0 17 (zI h111 v1 17)) q115 = 13)) <| gd (decide (kd (setI h111 v0 17 (zI h111 v1 17)) q117 = 13)) <| gd (cpk (0 : Int32) (0 : Int32) (8 : Int32) (zl (setI h111 v0 17 (zI h111 v1 17)) q115) (zl (setI h111 v0 17 (zI h111 v1 17)) q117)) <| ob (zR (cpA (setI h111 v0 17 (zI h111 v1 17)) q115 (0 : Int32) q117 (0 : Int32) (8 : Int32)) v1 19) fun q122 => ob (zR (cpA (setI h111 v0 17 (zI h111 v1 17)) q115 (0 : Int32) q117 (0 : Int32) (8 : Int32)) v0 19) fun q124 => gd (decide (kd (cpA (setI h111 v0 17 (zI h111 v1 17)) q115 (0 : Int32) q117 (0 : Int32) (8 : Int32)) q122 = 13)) <| gd (decide (kd (cpA (setI h111 v0 17 (zI h111 v1 17)) q115 (0 : Int32) q117 (0 : Int32) (8 : Int32)) q124 = 13)) <| gd (cpk (0 : Int32) (0 : Int32) (8 : Int32) (zl (cpA (setI h111 v0 17 (zI h111 v1 17)) q115 (0 : Int32) q117 (0 : Int32) (8 : Int32)) q122) (zl (cpA (setI h111 v0 17 (zI h111 v1 17)) q115 (0 : Int32) q117 (0 : Int32) (8 : Int32)) q124)) <| ob (some (cpA (cpA (setI h111 v0 17 (zI h111 v1 17)) q115 (0 : Int32) q117 (0 : Int32) (8 : Int32)) q122 (0 : Int32) q124 (0 : Int32) (8 : Int32))) fun h129 => some ((), h129))
set_option maxHeartbeats 4000000 in
set_option maxRecDepth 100000 in
theorem r_X2_copyFrom_b0 (v0 : Nat) (v1 : Nat) (h : Hp) {x : Cx} {r : Unit} {hz : Hp} (e : F_X2_copyFrom_b0 v0 v1 h = some (r, hz)) (hF : Fin9 M_X2_copyFrom x none none hz) : V M_X2_copyFrom x 2 0 [(0, .ref v0), (1, .ref v1)] [] h 0 0 := by
  unfold F_X2_copyFrom_b0 at e
  refine V_aload_n (pc := 0) (i := 0) dX2_copyFrom_0 rfl rfl ?_
  refine V_aload_n (pc := 1) (i := 1) dX2_copyFrom_1 rfl rfl ?_
  obtain ⟨g1, e⟩ := gd_some e
  refine V_getI (pc := 2) (ci := 2) (k := 0) dX2_copyFrom_2 fl_X2_9 rfl (of_decide_eq_true g1) ?_
  obtain ⟨g2, e⟩ := gd_some e
  refine V_putI (pc := 5) (ci := 2) (k := 0) dX2_copyFrom_5 fp_X2_9 rfl (of_decide_eq_true g2) ?_
  refine V_aload_n (pc := 8) (i := 1) dX2_copyFrom_8 rfl rfl ?_
  obtain ⟨q3, g4, e⟩ := ob_some e
  refine V_getR (pc := 9) (ci := 2) (k := 1) (b := q3) dX2_copyFrom_9 fl_X2_15 rfl (kd_sI (of_decide_eq_true g1)) g4 ?_
  refine V_iconst (pc := 12) (v := (0 : Int32)) dX2_copyFrom_12 (by decide) ?_
  refine V_aload_n (pc := 13) (i := 0) dX2_copyFrom_13 rfl rfl ?_
  obtain ⟨q5, g6, e⟩ := ob_some e
  refine V_getR (pc := 14) (ci := 2) (k := 1) (b := q5) dX2_copyFrom_14 fl_X2_15 rfl (kd_sI (of_decide_eq_true g2)) g6 ?_
  refine V_iconst (pc := 17) (v := (0 : Int32)) dX2_copyFrom_17 (by decide) ?_
  refine V_bipush (pc := 18) (v := (8 : Int32)) dX2_copyFrom_18 (by decide) ?_
  obtain ⟨g7, e⟩ := gd_some e
  obtain ⟨g8, e⟩ := gd_some e
  obtain ⟨g9, e⟩ := gd_some e
  refine V_copy (pc := 20) dX2_copyFrom_20 wm_X2_85 (of_decide_eq_true g7) (of_decide_eq_true g8) g9 (by decide) (Nat.le_of_ble_eq_true rfl) ?_
  refine V_aload_n (pc := 23) (i := 1) dX2_copyFrom_23 rfl rfl ?_
  obtain ⟨q10, g11, e⟩ := ob_some e
  refine V_getR (pc := 24) (ci := 2) (k := 2) (b := q10) dX2_copyFrom_24 fl_X2_19 rfl (kd_sC (kd_sI (of_decide_eq_true g1))) g11 ?_
  refine V_iconst (pc := 27) (v := (0 : Int32)) dX2_copyFrom_27 (by decide) ?_
  refine V_aload_n (pc := 28) (i := 0) dX2_copyFrom_28 rfl rfl ?_
  obtain ⟨q12, g13, e⟩ := ob_some e
  refine V_getR (pc := 29) (ci := 2) (k := 2) (b := q12) dX2_copyFrom_29 fl_X2_19 rfl (kd_sC (kd_sI (of_decide_eq_true g2))) g13 ?_
  refine V_iconst (pc := 32) (v := (0 : Int32)) dX2_copyFrom_32 (by decide) ?_
  refine V_bipush (pc := 33) (v := (8 : Int32)) dX2_copyFrom_33 (by decide) ?_
  obtain ⟨g14, e⟩ := gd_some e
  obtain ⟨g15, e⟩ := gd_some e
  obtain ⟨g16, e⟩ := gd_some e
  refine V_copy (pc := 35) dX2_copyFrom_35 wm_X2_85 (of_decide_eq_true g14) (of_decide_eq_true g15) g16 (by decide) (Nat.le_of_ble_eq_true rfl) ?_
  obtain ⟨h17, g18, e⟩ := ob_some e
  refine V_hp (Option.some.inj g18) ?_
  have k19 : kd h17 v1 = 2 := kd_eq (h := (cpA (cpA (setI h v0 0 (zI h v1 0)) q3 (0 : Int32) q5 (0 : Int32) (8 : Int32)) q10 (0 : Int32) q12 (0 : Int32) (8 : Int32))) (Option.some.inj g18) (kd_sC (kd_sC (kd_sI (of_decide_eq_true g1))))
  have k20 : kd h17 v0 = 2 := kd_eq (h := (cpA (cpA (setI h v0 0 (zI h v1 0)) q3 (0 : Int32) q5 (0 : Int32) (8 : Int32)) q10 (0 : Int32) q12 (0 : Int32) (8 : Int32))) (Option.some.inj g18) (kd_sC (kd_sC (kd_sI (of_decide_eq_true g2))))
  have k21 : kd h17 q3 = 13 := kd_eq (h := (cpA (cpA (setI h v0 0 (zI h v1 0)) q3 (0 : Int32) q5 (0 : Int32) (8 : Int32)) q10 (0 : Int32) q12 (0 : Int32) (8 : Int32))) (Option.some.inj g18) (kd_sC (kd_sC (of_decide_eq_true g7)))
  have k22 : kd h17 q5 = 13 := kd_eq (h := (cpA (cpA (setI h v0 0 (zI h v1 0)) q3 (0 : Int32) q5 (0 : Int32) (8 : Int32)) q10 (0 : Int32) q12 (0 : Int32) (8 : Int32))) (Option.some.inj g18) (kd_sC (kd_sC (of_decide_eq_true g8)))
  have k23 : kd h17 q10 = 13 := kd_eq (h := (cpA (cpA (setI h v0 0 (zI h v1 0)) q3 (0 : Int32) q5 (0 : Int32) (8 : Int32)) q10 (0 : Int32) q12 (0 : Int32) (8 : Int32))) (Option.some.inj g18) (kd_sC (of_decide_eq_true g14))
  have k24 : kd h17 q12 = 13 := kd_eq (h := (cpA (cpA (setI h v0 0 (zI h v1 0)) q3 (0 : Int32) q5 (0 : Int32) (8 : Int32)) q10 (0 : Int32) q12 (0 : Int32) (8 : Int32))) (Option.some.inj g18) (kd_sC (of_decide_eq_true g15))
  refine V_aload_n (pc := 38) (i := 1) dX2_copyFrom_38 rfl rfl ?_
  obtain ⟨q25, g26, e⟩ := ob_some e
  refine V_getR (pc := 39) (ci := 2) (k := 3) (b := q25) dX2_copyFrom_39 fl_X2_22 rfl k19 g26 ?_
  refine V_iconst (pc := 42) (v := (0 : Int32)) dX2_copyFrom_42 (by decide) ?_
  refine V_aload_n (pc := 43) (i := 0) dX2_copyFrom_43 rfl rfl ?_
  obtain ⟨q27, g28, e⟩ := ob_some e
  refine V_getR (pc := 44) (ci := 2) (k := 3) (b := q27) dX2_copyFrom_44 fl_X2_22 rfl k20 g28 ?_
  refine V_iconst (pc := 47) (v := (0 : Int32)) dX2_copyFrom_47 (by decide) ?_
  refine V_bipush (pc := 48) (v := (8 : Int32)) dX2_copyFrom_48 (by decide) ?_
  obtain ⟨g29, e⟩ := gd_some e
  obtain ⟨g30, e⟩ := gd_some e
  obtain ⟨g31, e⟩ := gd_some e
  refine V_copy (pc := 50) dX2_copyFrom_50 wm_X2_85 (of_decide_eq_true g29) (of_decide_eq_true g30) g31 (by decide) (Nat.le_of_ble_eq_true rfl) ?_
  refine V_aload_n (pc := 53) (i := 1) dX2_copyFrom_53 rfl rfl ?_
  obtain ⟨q32, g33, e⟩ := ob_some e
  refine V_getR (pc := 54) (ci := 2) (k := 4) (b := q32) dX2_copyFrom_54 fl_X2_25 rfl (kd_sC k19) g33 ?_
  refine V_iconst (pc := 57) (v := (0 : Int32)) dX2_copyFrom_57 (by decide) ?_
  refine V_aload_n (pc := 58) (i := 0) dX2_copyFrom_58 rfl rfl ?_
  obtain ⟨q34, g35, e⟩ := ob_some e
  refine V_getR (pc := 59) (ci := 2) (k := 4) (b := q34) dX2_copyFrom_59 fl_X2_25 rfl (kd_sC k20) g35 ?_
  refine V_iconst (pc := 62) (v := (0 : Int32)) dX2_copyFrom_62 (by decide) ?_
  refine V_bipush (pc := 63) (v := (8 : Int32)) dX2_copyFrom_63 (by decide) ?_
  obtain ⟨g36, e⟩ := gd_some e
  obtain ⟨g37, e⟩ := gd_some e
  obtain ⟨g38, e⟩ := gd_some e
  refine V_copy (pc := 65) dX2_copyFrom_65 wm_X2_85 (of_decide_eq_true g36) (of_decide_eq_true g37) g38 (by decide) (Nat.le_of_ble_eq_true rfl) ?_
  refine V_aload_n (pc := 68) (i := 0) dX2_copyFrom_68 rfl rfl ?_
  refine V_aload_n (pc := 69) (i := 1) dX2_copyFrom_69 rfl rfl ?_
  refine V_getI (pc := 70) (ci := 2) (k := 5) dX2_copyFrom_70 fl_X2_28 rfl (kd_sC (kd_sC k19)) ?_
  refine V_putI (pc := 73) (ci := 2) (k := 5) dX2_copyFrom_73 fp_X2_28 rfl (kd_sC (kd_sC k20)) ?_
  obtain ⟨h39, g40, e⟩ := ob_some e
  refine V_hp (Option.some.inj g40) ?_
  have k41 : kd h39 v1 = 2 := kd_eq (h := (setI (cpA (cpA h17 q25 (0 : Int32) q27 (0 : Int32) (8 : Int32)) q32 (0 : Int32) q34 (0 : Int32) (8 : Int32)) v0 5 (zI (cpA (cpA h17 q25 (0 : Int32) q27 (0 : Int32) (8 : Int32)) q32 (0 : Int32) q34 (0 : Int32) (8 : Int32)) v1 5))) (Option.some.inj g40) (kd_sI (kd_sC (kd_sC k19)))
  have k42 : kd h39 v0 = 2 := kd_eq (h := (setI (cpA (cpA h17 q25 (0 : Int32) q27 (0 : Int32) (8 : Int32)) q32 (0 : Int32) q34 (0 : Int32) (8 : Int32)) v0 5 (zI (cpA (cpA h17 q25 (0 : Int32) q27 (0 : Int32) (8 : Int32)) q32 (0 : Int32) q34 (0 : Int32) (8 : Int32)) v1 5))) (Option.some.inj g40) (kd_sI (kd_sC (kd_sC k20)))
  have k43 : kd h39 q3 = 13 := kd_eq (h := (setI (cpA (cpA h17 q25 (0 : Int32) q27 (0 : Int32) (8 : Int32)) q32 (0 : Int32) q34 (0 : Int32) (8 : Int32)) v0 5 (zI (cpA (cpA h17 q25 (0 : Int32) q27 (0 : Int32) (8 : Int32)) q32 (0 : Int32) q34 (0 : Int32) (8 : Int32)) v1 5))) (Option.some.inj g40) (kd_sI (kd_sC (kd_sC k21)))
  have k44 : kd h39 q5 = 13 := kd_eq (h := (setI (cpA (cpA h17 q25 (0 : Int32) q27 (0 : Int32) (8 : Int32)) q32 (0 : Int32) q34 (0 : Int32) (8 : Int32)) v0 5 (zI (cpA (cpA h17 q25 (0 : Int32) q27 (0 : Int32) (8 : Int32)) q32 (0 : Int32) q34 (0 : Int32) (8 : Int32)) v1 5))) (Option.some.inj g40) (kd_sI (kd_sC (kd_sC k22)))
  have k45 : kd h39 q10 = 13 := kd_eq (h := (setI (cpA (cpA h17 q25 (0 : Int32) q27 (0 : Int32) (8 : Int32)) q32 (0 : Int32) q34 (0 : Int32) (8 : Int32)) v0 5 (zI (cpA (cpA h17 q25 (0 : Int32) q27 (0 : Int32) (8 : Int32)) q32 (0 : Int32) q34 (0 : Int32) (8 : Int32)) v1 5))) (Option.some.inj g40) (kd_sI (kd_sC (kd_sC k23)))
  have k46 : kd h39 q12 = 13 := kd_eq (h := (setI (cpA (cpA h17 q25 (0 : Int32) q27 (0 : Int32) (8 : Int32)) q32 (0 : Int32) q34 (0 : Int32) (8 : Int32)) v0 5 (zI (cpA (cpA h17 q25 (0 : Int32) q27 (0 : Int32) (8 : Int32)) q32 (0 : Int32) q34 (0 : Int32) (8 : Int32)) v1 5))) (Option.some.inj g40) (kd_sI (kd_sC (kd_sC k24)))
  have k47 : kd h39 q25 = 13 := kd_eq (h := (setI (cpA (cpA h17 q25 (0 : Int32) q27 (0 : Int32) (8 : Int32)) q32 (0 : Int32) q34 (0 : Int32) (8 : Int32)) v0 5 (zI (cpA (cpA h17 q25 (0 : Int32) q27 (0 : Int32) (8 : Int32)) q32 (0 : Int32) q34 (0 : Int32) (8 : Int32)) v1 5))) (Option.some.inj g40) (kd_sI (kd_sC (kd_sC (of_decide_eq_true g29))))
  have k48 : kd h39 q27 = 13 := kd_eq (h := (setI (cpA (cpA h17 q25 (0 : Int32) q27 (0 : Int32) (8 : Int32)) q32 (0 : Int32) q34 (0 : Int32) (8 : Int32)) v0 5 (zI (cpA (cpA h17 q25 (0 : Int32) q27 (0 : Int32) (8 : Int32)) q32 (0 : Int32) q34 (0 : Int32) (8 : Int32)) v1 5))) (Option.some.inj g40) (kd_sI (kd_sC (kd_sC (of_decide_eq_true g30))))
  have k49 : kd h39 q32 = 13 := kd_eq (h := (setI (cpA (cpA h17 q25 (0 : Int32) q27 (0 : Int32) (8 : Int32)) q32 (0 : Int32) q34 (0 : Int32) (8 : Int32)) v0 5 (zI (cpA (cpA h17 q25 (0 : Int32) q27 (0 : Int32) (8 : Int32)) q32 (0 : Int32) q34 (0 : Int32) (8 : Int32)) v1 5))) (Option.some.inj g40) (kd_sI (kd_sC (of_decide_eq_true g36)))
  have k50 : kd h39 q34 = 13 := kd_eq (h := (setI (cpA (cpA h17 q25 (0 : Int32) q27 (0 : Int32) (8 : Int32)) q32 (0 : Int32) q34 (0 : Int32) (8 : Int32)) v0 5 (zI (cpA (cpA h17 q25 (0 : Int32) q27 (0 : Int32) (8 : Int32)) q32 (0 : Int32) q34 (0 : Int32) (8 : Int32)) v1 5))) (Option.some.inj g40) (kd_sI (kd_sC (of_decide_eq_true g37)))
  refine V_aload_n (pc := 76) (i := 1) dX2_copyFrom_76 rfl rfl ?_
  obtain ⟨q51, g52, e⟩ := ob_some e
  refine V_getR (pc := 77) (ci := 2) (k := 6) (b := q51) dX2_copyFrom_77 fl_X2_31 rfl k41 g52 ?_
  refine V_iconst (pc := 80) (v := (0 : Int32)) dX2_copyFrom_80 (by decide) ?_
  refine V_aload_n (pc := 81) (i := 0) dX2_copyFrom_81 rfl rfl ?_
  obtain ⟨q53, g54, e⟩ := ob_some e
  refine V_getR (pc := 82) (ci := 2) (k := 6) (b := q53) dX2_copyFrom_82 fl_X2_31 rfl k42 g54 ?_
  refine V_iconst (pc := 85) (v := (0 : Int32)) dX2_copyFrom_85 (by decide) ?_
  refine V_iconst (pc := 86) (v := (5 : Int32)) dX2_copyFrom_86 (by decide) ?_
  obtain ⟨g55, e⟩ := gd_some e
  obtain ⟨g56, e⟩ := gd_some e
  obtain ⟨g57, e⟩ := gd_some e
  refine V_copy (pc := 87) dX2_copyFrom_87 wm_X2_85 (of_decide_eq_true g55) (of_decide_eq_true g56) g57 (by decide) (Nat.le_of_ble_eq_true rfl) ?_
  refine V_aload_n (pc := 90) (i := 1) dX2_copyFrom_90 rfl rfl ?_
  obtain ⟨q58, g59, e⟩ := ob_some e
  refine V_getR (pc := 91) (ci := 2) (k := 7) (b := q58) dX2_copyFrom_91 fl_X2_34 rfl (kd_sC k41) g59 ?_
  refine V_iconst (pc := 94) (v := (0 : Int32)) dX2_copyFrom_94 (by decide) ?_
  refine V_aload_n (pc := 95) (i := 0) dX2_copyFrom_95 rfl rfl ?_
  obtain ⟨q60, g61, e⟩ := ob_some e
  refine V_getR (pc := 96) (ci := 2) (k := 7) (b := q60) dX2_copyFrom_96 fl_X2_34 rfl (kd_sC k42) g61 ?_
  refine V_iconst (pc := 99) (v := (0 : Int32)) dX2_copyFrom_99 (by decide) ?_
  refine V_iconst (pc := 100) (v := (5 : Int32)) dX2_copyFrom_100 (by decide) ?_
  obtain ⟨g62, e⟩ := gd_some e
  obtain ⟨g63, e⟩ := gd_some e
  obtain ⟨g64, e⟩ := gd_some e
  refine V_copy (pc := 101) dX2_copyFrom_101 wm_X2_85 (of_decide_eq_true g62) (of_decide_eq_true g63) g64 (by decide) (Nat.le_of_ble_eq_true rfl) ?_
  refine V_iconst (pc := 104) (v := (0 : Int32)) dX2_copyFrom_104 (by decide) ?_
  refine V_istore_n (pc := 105) (i := 2) (lv' := [(2, .int (0 : Int32)), (0, .ref v0), (1, .ref v1)]) dX2_copyFrom_105 rfl (by decide) rfl ?_
  refine V_pick [1, 2, 0] rfl ?_
  obtain ⟨y137, g138, e⟩ := ob_some e
  refine iter_V (P := fun z : Int32 × Hp => V M_X2_copyFrom x 2 106 [(0, .ref v0), (1, .ref v1), (2, .int z.1)] [] z.2 0 0) (E := fun z : Hp => V M_X2_copyFrom x 2 132 [(0, .ref v0), (1, .ref v1)] [] z 0 0) (fun z o e9 k1 k2 => r_X2_copyFrom_l106 v0 v1 z.1 z.2 e9 (fun z hz9 => k1 z hz9) (fun z hz9 => k2 _ hz9)) _ _ _ g138 ?_
  clear g138
  obtain ⟨h84, rfl⟩ : ∃ q, q = y137 := ⟨_, rfl⟩
  replace e : (gd (decide (kd h84 v0 = 2)) <| ob (zR h84 v0 9) fun q86 => gd (decide (kd h84 v1 = 2)) <| ob (zR h84 v1 9) fun q89 => ob2 (F_X8_copyFrom q86 q89 h84) fun _ h93 => gd (decide (kd h84 q86 = 7)) <| gd (decide (kd h93 v1 = 2)) <| gd (decide (kd h93 v0 = 2)) <| ob (some (setI (setI (setI h93 v0 10 (zI h93 v1 10)) v0 11 (zI (setI h93 v0 10 (zI h93 v1 10)) v1 11)) v0 12 (zI (setI (setI h93 v0 10 (zI h93 v1 10)) v0 11 (zI (setI h93 v0 10 (zI h93 v1 10)) v1 11)) v1 12))) fun h97 => ob (some (setI (setI (setI h97 v0 13 (zI h97 v1 13)) v0 14 (zI (setI h97 v0 13 (zI h97 v1 13)) v1 14)) v0 15 (zI (setI (setI h97 v0 13 (zI h97 v1 13)) v0 14 (zI (setI h97 v0 13 (zI h97 v1 13)) v1 14)) v1 15))) fun h101 => ob (zR h101 v0 16) fun q105 => ob (zR h101 v1 16) fun q107 => ob2 (F_X0_copyFrom q105 q107 h101) fun _ h111 => gd (decide (kd h101 q105 = 0)) <| gd (decide (kd h111 v1 = 2)) <| gd (decide (kd h111 v0 = 2)) <| ob (zR (setI h111 v0 17 (zI h111 v1 17)) v1 18) fun q115 => ob (zR (setI h111 v0 17 (zI h111 v1 17)) v0 18) fun q117 => gd (decide (kd (setI h111 v0 17 (zI h111 v1 17)) q115 = 13)) <| gd (decide (kd (setI h111 v0 17 (zI h111 v1 17)) q117 = 13)) <| gd (cpk (0 : Int32) (0 : Int32) (8 : Int32) (zl (setI h111 v0 17 (zI h111 v1 17)) q115) (zl (setI h111 v0 17 (zI h111 v1 17)) q117)) <| ob (zR (cpA (setI h111 v0 17 (zI h111 v1 17)) q115 (0 : Int32) q117 (0 : Int32) (8 : Int32)) v1 19) fun q122 => ob (zR (cpA (setI h111 v0 17 (zI h111 v1 17)) q115 (0 : Int32) q117 (0 : Int32) (8 : Int32)) v0 19) fun q124 => gd (decide (kd (cpA (setI h111 v0 17 (zI h111 v1 17)) q115 (0 : Int32) q117 (0 : Int32) (8 : Int32)) q122 = 13)) <| gd (decide (kd (cpA (setI h111 v0 17 (zI h111 v1 17)) q115 (0 : Int32) q117 (0 : Int32) (8 : Int32)) q124 = 13)) <| gd (cpk (0 : Int32) (0 : Int32) (8 : Int32) (zl (cpA (setI h111 v0 17 (zI h111 v1 17)) q115 (0 : Int32) q117 (0 : Int32) (8 : Int32)) q122) (zl (cpA (setI h111 v0 17 (zI h111 v1 17)) q115 (0 : Int32) q117 (0 : Int32) (8 : Int32)) q124)) <| ob (some (cpA (cpA (setI h111 v0 17 (zI h111 v1 17)) q115 (0 : Int32) q117 (0 : Int32) (8 : Int32)) q122 (0 : Int32) q124 (0 : Int32) (8 : Int32))) fun h129 => some ((), h129)) = some (r, hz) := e
  show V M_X2_copyFrom x 2 132 [(0, .ref v0), (1, .ref v1)] [] h84 0 0
  refine V_aload_n (pc := 132) (i := 0) dX2_copyFrom_132 rfl rfl ?_
  obtain ⟨g85, e⟩ := gd_some e
  obtain ⟨q86, g87, e⟩ := ob_some e
  refine V_getR (pc := 133) (ci := 2) (k := 9) (b := q86) dX2_copyFrom_133 fl_X2_46 rfl (of_decide_eq_true g85) g87 ?_
  refine V_aload_n (pc := 136) (i := 1) dX2_copyFrom_136 rfl rfl ?_
  obtain ⟨g88, e⟩ := gd_some e
  obtain ⟨q89, g90, e⟩ := ob_some e
  refine V_getR (pc := 137) (ci := 2) (k := 9) (b := q89) dX2_copyFrom_137 fl_X2_46 rfl (of_decide_eq_true g88) g90 ?_
  obtain ⟨r92, h93, g91, e⟩ := ob2_some e
  obtain ⟨g94, e⟩ := gd_some e
  refine V_callV (pc := 140) (bc := 0) (bs := 0) (mc := 0) (ms := 0) (st := []) (As := [.ref q89]) (a := q86) (h' := h93) (r := none) dX2_copyFrom_140 ml_X2_95 (ci := 7) rfl (of_decide_eq_true g94) rfl rfl (Nat.le_of_ble_eq_true rfl) (d' := 1) (by decide) (c_X8_copyFrom (l := x.2.1) q86 q89 h84 g91) ?_
  refine V_aload_n (pc := 143) (i := 0) dX2_copyFrom_143 rfl rfl ?_
  refine V_aload_n (pc := 144) (i := 1) dX2_copyFrom_144 rfl rfl ?_
  obtain ⟨g95, e⟩ := gd_some e
  refine V_getI (pc := 145) (ci := 2) (k := 10) dX2_copyFrom_145 fl_X2_50 rfl (of_decide_eq_true g95) ?_
  obtain ⟨g96, e⟩ := gd_some e
  refine V_putI (pc := 148) (ci := 2) (k := 10) dX2_copyFrom_148 fp_X2_50 rfl (of_decide_eq_true g96) ?_
  refine V_aload_n (pc := 151) (i := 0) dX2_copyFrom_151 rfl rfl ?_
  refine V_aload_n (pc := 152) (i := 1) dX2_copyFrom_152 rfl rfl ?_
  refine V_getI (pc := 153) (ci := 2) (k := 11) dX2_copyFrom_153 fl_X2_53 rfl (kd_sI (of_decide_eq_true g95)) ?_
  refine V_putI (pc := 156) (ci := 2) (k := 11) dX2_copyFrom_156 fp_X2_53 rfl (kd_sI (of_decide_eq_true g96)) ?_
  refine V_aload_n (pc := 159) (i := 0) dX2_copyFrom_159 rfl rfl ?_
  refine V_aload_n (pc := 160) (i := 1) dX2_copyFrom_160 rfl rfl ?_
  refine V_getI (pc := 161) (ci := 2) (k := 12) dX2_copyFrom_161 fl_X2_56 rfl (kd_sI (kd_sI (of_decide_eq_true g95))) ?_
  refine V_putI (pc := 164) (ci := 2) (k := 12) dX2_copyFrom_164 fp_X2_56 rfl (kd_sI (kd_sI (of_decide_eq_true g96))) ?_
  obtain ⟨h97, g98, e⟩ := ob_some e
  refine V_hp (Option.some.inj g98) ?_
  have k99 : kd h97 v1 = 2 := kd_eq (h := (setI (setI (setI h93 v0 10 (zI h93 v1 10)) v0 11 (zI (setI h93 v0 10 (zI h93 v1 10)) v1 11)) v0 12 (zI (setI (setI h93 v0 10 (zI h93 v1 10)) v0 11 (zI (setI h93 v0 10 (zI h93 v1 10)) v1 11)) v1 12))) (Option.some.inj g98) (kd_sI (kd_sI (kd_sI (of_decide_eq_true g95))))
  have k100 : kd h97 v0 = 2 := kd_eq (h := (setI (setI (setI h93 v0 10 (zI h93 v1 10)) v0 11 (zI (setI h93 v0 10 (zI h93 v1 10)) v1 11)) v0 12 (zI (setI (setI h93 v0 10 (zI h93 v1 10)) v0 11 (zI (setI h93 v0 10 (zI h93 v1 10)) v1 11)) v1 12))) (Option.some.inj g98) (kd_sI (kd_sI (kd_sI (of_decide_eq_true g96))))
  refine V_aload_n (pc := 167) (i := 0) dX2_copyFrom_167 rfl rfl ?_
  refine V_aload_n (pc := 168) (i := 1) dX2_copyFrom_168 rfl rfl ?_
  refine V_getI (pc := 169) (ci := 2) (k := 13) dX2_copyFrom_169 fl_X2_59 rfl k99 ?_
  refine V_putI (pc := 172) (ci := 2) (k := 13) dX2_copyFrom_172 fp_X2_59 rfl k100 ?_
  refine V_aload_n (pc := 175) (i := 0) dX2_copyFrom_175 rfl rfl ?_
  refine V_aload_n (pc := 176) (i := 1) dX2_copyFrom_176 rfl rfl ?_
  refine V_getI (pc := 177) (ci := 2) (k := 14) dX2_copyFrom_177 fl_X2_62 rfl (kd_sI k99) ?_
  refine V_putI (pc := 180) (ci := 2) (k := 14) dX2_copyFrom_180 fp_X2_62 rfl (kd_sI k100) ?_
  refine V_aload_n (pc := 183) (i := 0) dX2_copyFrom_183 rfl rfl ?_
  refine V_aload_n (pc := 184) (i := 1) dX2_copyFrom_184 rfl rfl ?_
  refine V_getI (pc := 185) (ci := 2) (k := 15) dX2_copyFrom_185 fl_X2_65 rfl (kd_sI (kd_sI k99)) ?_
  refine V_putI (pc := 188) (ci := 2) (k := 15) dX2_copyFrom_188 fp_X2_65 rfl (kd_sI (kd_sI k100)) ?_
  obtain ⟨h101, g102, e⟩ := ob_some e
  refine V_hp (Option.some.inj g102) ?_
  have k103 : kd h101 v1 = 2 := kd_eq (h := (setI (setI (setI h97 v0 13 (zI h97 v1 13)) v0 14 (zI (setI h97 v0 13 (zI h97 v1 13)) v1 14)) v0 15 (zI (setI (setI h97 v0 13 (zI h97 v1 13)) v0 14 (zI (setI h97 v0 13 (zI h97 v1 13)) v1 14)) v1 15))) (Option.some.inj g102) (kd_sI (kd_sI (kd_sI k99)))
  have k104 : kd h101 v0 = 2 := kd_eq (h := (setI (setI (setI h97 v0 13 (zI h97 v1 13)) v0 14 (zI (setI h97 v0 13 (zI h97 v1 13)) v1 14)) v0 15 (zI (setI (setI h97 v0 13 (zI h97 v1 13)) v0 14 (zI (setI h97 v0 13 (zI h97 v1 13)) v1 14)) v1 15))) (Option.some.inj g102) (kd_sI (kd_sI (kd_sI k100)))
  refine V_aload_n (pc := 191) (i := 0) dX2_copyFrom_191 rfl rfl ?_
  obtain ⟨q105, g106, e⟩ := ob_some e
  refine V_getR (pc := 192) (ci := 2) (k := 16) (b := q105) dX2_copyFrom_192 fl_X2_71 rfl k104 g106 ?_
  refine V_aload_n (pc := 195) (i := 1) dX2_copyFrom_195 rfl rfl ?_
  obtain ⟨q107, g108, e⟩ := ob_some e
  refine V_getR (pc := 196) (ci := 2) (k := 16) (b := q107) dX2_copyFrom_196 fl_X2_71 rfl k103 g108 ?_
  obtain ⟨r110, h111, g109, e⟩ := ob2_some e
  obtain ⟨g112, e⟩ := gd_some e
  refine V_callV (pc := 199) (bc := 0) (bs := 0) (mc := 0) (ms := 0) (st := []) (As := [.ref q107]) (a := q105) (h' := h111) (r := none) dX2_copyFrom_199 ml_X2_98 (ci := 0) rfl (of_decide_eq_true g112) rfl rfl (Nat.le_of_ble_eq_true rfl) (d' := 1) (by decide) (c_X0_copyFrom (l := x.2.1) q105 q107 h101 g109) ?_
  refine V_aload_n (pc := 202) (i := 0) dX2_copyFrom_202 rfl rfl ?_
  refine V_aload_n (pc := 203) (i := 1) dX2_copyFrom_203 rfl rfl ?_
  obtain ⟨g113, e⟩ := gd_some e
  refine V_getI (pc := 204) (ci := 2) (k := 17) dX2_copyFrom_204 fl_X2_75 rfl (of_decide_eq_true g113) ?_
  obtain ⟨g114, e⟩ := gd_some e
  refine V_putI (pc := 207) (ci := 2) (k := 17) dX2_copyFrom_207 fp_X2_75 rfl (of_decide_eq_true g114) ?_
  refine V_aload_n (pc := 210) (i := 1) dX2_copyFrom_210 rfl rfl ?_
  obtain ⟨q115, g116, e⟩ := ob_some e
  refine V_getR (pc := 211) (ci := 2) (k := 18) (b := q115) dX2_copyFrom_211 fl_X2_78 rfl (kd_sI (of_decide_eq_true g113)) g116 ?_
  refine V_iconst (pc := 214) (v := (0 : Int32)) dX2_copyFrom_214 (by decide) ?_
  refine V_aload_n (pc := 215) (i := 0) dX2_copyFrom_215 rfl rfl ?_
  obtain ⟨q117, g118, e⟩ := ob_some e
  refine V_getR (pc := 216) (ci := 2) (k := 18) (b := q117) dX2_copyFrom_216 fl_X2_78 rfl (kd_sI (of_decide_eq_true g114)) g118 ?_
  refine V_iconst (pc := 219) (v := (0 : Int32)) dX2_copyFrom_219 (by decide) ?_
  refine V_bipush (pc := 220) (v := (8 : Int32)) dX2_copyFrom_220 (by decide) ?_
  obtain ⟨g119, e⟩ := gd_some e
  obtain ⟨g120, e⟩ := gd_some e
  obtain ⟨g121, e⟩ := gd_some e
  refine V_copy (pc := 222) dX2_copyFrom_222 wm_X2_85 (of_decide_eq_true g119) (of_decide_eq_true g120) g121 (by decide) (Nat.le_of_ble_eq_true rfl) ?_
  refine V_aload_n (pc := 225) (i := 1) dX2_copyFrom_225 rfl rfl ?_
  obtain ⟨q122, g123, e⟩ := ob_some e
  refine V_getR (pc := 226) (ci := 2) (k := 19) (b := q122) dX2_copyFrom_226 fl_X2_81 rfl (kd_sC (kd_sI (of_decide_eq_true g113))) g123 ?_
  refine V_iconst (pc := 229) (v := (0 : Int32)) dX2_copyFrom_229 (by decide) ?_
  refine V_aload_n (pc := 230) (i := 0) dX2_copyFrom_230 rfl rfl ?_
  obtain ⟨q124, g125, e⟩ := ob_some e
  refine V_getR (pc := 231) (ci := 2) (k := 19) (b := q124) dX2_copyFrom_231 fl_X2_81 rfl (kd_sC (kd_sI (of_decide_eq_true g114))) g125 ?_
  refine V_iconst (pc := 234) (v := (0 : Int32)) dX2_copyFrom_234 (by decide) ?_
  refine V_bipush (pc := 235) (v := (8 : Int32)) dX2_copyFrom_235 (by decide) ?_
  obtain ⟨g126, e⟩ := gd_some e
  obtain ⟨g127, e⟩ := gd_some e
  obtain ⟨g128, e⟩ := gd_some e
  refine V_copy (pc := 237) dX2_copyFrom_237 wm_X2_85 (of_decide_eq_true g126) (of_decide_eq_true g127) g128 (by decide) (Nat.le_of_ble_eq_true rfl) ?_
  obtain ⟨h129, g130, e⟩ := ob_some e
  refine V_hp (Option.some.inj g130) ?_
  have k131 : kd h129 v1 = 2 := kd_eq (h := (cpA (cpA (setI h111 v0 17 (zI h111 v1 17)) q115 (0 : Int32) q117 (0 : Int32) (8 : Int32)) q122 (0 : Int32) q124 (0 : Int32) (8 : Int32))) (Option.some.inj g130) (kd_sC (kd_sC (kd_sI (of_decide_eq_true g113))))
  have k132 : kd h129 v0 = 2 := kd_eq (h := (cpA (cpA (setI h111 v0 17 (zI h111 v1 17)) q115 (0 : Int32) q117 (0 : Int32) (8 : Int32)) q122 (0 : Int32) q124 (0 : Int32) (8 : Int32))) (Option.some.inj g130) (kd_sC (kd_sC (kd_sI (of_decide_eq_true g114))))
  have k133 : kd h129 q115 = 13 := kd_eq (h := (cpA (cpA (setI h111 v0 17 (zI h111 v1 17)) q115 (0 : Int32) q117 (0 : Int32) (8 : Int32)) q122 (0 : Int32) q124 (0 : Int32) (8 : Int32))) (Option.some.inj g130) (kd_sC (kd_sC (of_decide_eq_true g119)))
  have k134 : kd h129 q117 = 13 := kd_eq (h := (cpA (cpA (setI h111 v0 17 (zI h111 v1 17)) q115 (0 : Int32) q117 (0 : Int32) (8 : Int32)) q122 (0 : Int32) q124 (0 : Int32) (8 : Int32))) (Option.some.inj g130) (kd_sC (kd_sC (of_decide_eq_true g120)))
  have k135 : kd h129 q122 = 13 := kd_eq (h := (cpA (cpA (setI h111 v0 17 (zI h111 v1 17)) q115 (0 : Int32) q117 (0 : Int32) (8 : Int32)) q122 (0 : Int32) q124 (0 : Int32) (8 : Int32))) (Option.some.inj g130) (kd_sC (of_decide_eq_true g126))
  have k136 : kd h129 q124 = 13 := kd_eq (h := (cpA (cpA (setI h111 v0 17 (zI h111 v1 17)) q115 (0 : Int32) q117 (0 : Int32) (8 : Int32)) q122 (0 : Int32) q124 (0 : Int32) (8 : Int32))) (Option.some.inj g130) (kd_sC (of_decide_eq_true g127))
  cases e
  exact V_vret (pc := 240) dX2_copyFrom_240 hF
def F_X2_copyFrom (v0 : Nat) (v1 : Nat) (h : Hp) : Option (Unit × Hp) := F_X2_copyFrom_b0 v0 v1 h
theorem c_X2_copyFrom {l : Launch} (v0 : Nat) (v1 : Nat) (h : Hp) {r : Unit} {hz : Hp} (e : F_X2_copyFrom v0 v1 h = some (r, hz)) : Ct l yX2_copyFrom M_X2_copyFrom none 2 [.ref v0, .ref v1] h 0 0 none hz :=
  Ct_of rfl rfl (fun q => by cases q) (Nat.le_of_ble_eq_true rfl) (fun x _ hF => V_pick [0, 1] rfl (r_X2_copyFrom_b0 v0 v1 h e hF))
